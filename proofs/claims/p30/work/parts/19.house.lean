def wo_r_within : List Cond := [.code yX9_within cX9_within 3 (some .boolean)]
def wr_r_within : List Cond := []
def w_r_within : List Cond := wo_r_within ++ wr_r_within
theorem wg_r_within : GW w_r_within := GW_app (GW_of (by decide +kernel)) (GW_nil)
set_option maxHeartbeats 8000000 in
set_option maxRecDepth 100000 in
theorem r_within (l : Launch) (E : gE) (v lo hi : Int32) : CtI l E yX9_within w_r_within ({ frames := 0, cells := 0, slots := 0, locals := 0 }) [] [.int v, .int lo, .int hi] (fun r w => (0 ≤ r.toInt ∧ r.toInt ≤ 1) ∧ (r.toInt ≠ 0 → lo.toInt ≤ v.toInt ∧ v.toInt ≤ hi.toInt) ∧ w = []) := by
  refine CtI.of (cc := cX9_within) (maxL := 3) (rt := (some .boolean)) (by decide) rfl (Nat.le_of_ble_eq_true rfl) ?_
  intro p e s m below meth c A B ls hl
  obtain ⟨hx, hb, hml, hr, hlk, hin, hts, hown, hK, hN, hZ, hA, hP, hD, hS⟩ := B
  replace hown : s.vm.findClass RX9 = some m.cls := hown
  have hto : ∀ w ∈ wo_r_within, w.before _ s = true := fun w h => hts w (List.mem_append_left _ h)
  replace hl : lv_has ls 3 [(0, .int v), (1, .int lo), (2, .int hi)] := hl
  obtain ⟨H, hHe⟩ : ∃ H, H = s.heap := ⟨_, rfl⟩
  obtain ⟨locs, hle⟩ : ∃ l : List Loc, l = [] := ⟨_, rfl⟩
  replace hS : va_S A s.heap H locs := by rw [hHe, hle]; exact hS
  replace hP : va_P E.1 vwCl [] H := by rw [hHe]; exact hP
  refine W_hl hHe hle ?_
  clear hHe hle
  refine lv_iload_n hx hb dX9_within_0 rfl (lv_at hl 0 rfl) ?_
  refine lv_iload_n hx hb dX9_within_1 rfl (lv_at hl 1 rfl) ?_
  refine lv_icmp_lt (tgt := 14) hx hb dX9_within_2 (by decide) (fun c_1 => ?_) (fun c_1 => ?_)
  · have e_1 : v.toInt < lo.toInt := i3_lt c_1
    refine lv_iconst (v := 0) hx hb dX9_within_14 (by decide) ?_
    exact ret_i hx hb hr hlk (hP.sub (ws' := []) [] rfl) (hD.sub (ws' := []) [] (by decide) rfl) hS rfl dX9_within_15 (Nat.le_of_ble_eq_true rfl) (Nat.le_of_ble_eq_true rfl) ⟨(by decide), (by have e9 : (0 : Int32).toInt = 0 := rfl; omega), rfl⟩
  · have e_1 : lo.toInt ≤ v.toInt := i3_nlt c_1
    refine lv_iload_n hx hb dX9_within_5 rfl (lv_at hl 0 rfl) ?_
    refine lv_iload_n hx hb dX9_within_6 rfl (lv_at hl 2 rfl) ?_
    refine lv_icmp_gt (tgt := 14) hx hb dX9_within_7 (by decide) (fun c_2 => ?_) (fun c_2 => ?_)
    · have e_2 : hi.toInt < v.toInt := i3_lt c_2
      refine lv_iconst (v := 0) hx hb dX9_within_14 (by decide) ?_
      exact ret_i hx hb hr hlk (hP.sub (ws' := []) [] rfl) (hD.sub (ws' := []) [] (by decide) rfl) hS rfl dX9_within_15 (Nat.le_of_ble_eq_true rfl) (Nat.le_of_ble_eq_true rfl) ⟨(by decide), (by have e9 : (0 : Int32).toInt = 0 := rfl; omega), rfl⟩
    · have e_2 : v.toInt ≤ hi.toInt := i3_nlt c_2
      refine lv_iconst (v := 1) hx hb dX9_within_10 (by decide) ?_
      refine lv_goto (tgt := 15) hx hb dX9_within_11 (by decide) ?_
      exact ret_i hx hb hr hlk (hP.sub (ws' := []) [] rfl) (hD.sub (ws' := []) [] (by decide) rfl) hS rfl dX9_within_15 (Nat.le_of_ble_eq_true rfl) (Nat.le_of_ble_eq_true rfl) ⟨(by decide), (by have e9 : (1 : Int32).toInt = 1 := rfl; omega), rfl⟩
def wo_r_thas : List Cond := [.code yX5_has cX5_has 1 (some .boolean)]
def wr_r_thas : List Cond := []
def w_r_thas : List Cond := wo_r_thas ++ wr_r_thas
theorem wg_r_thas : GW w_r_thas := GW_app (GW_of (by decide +kernel)) (GW_nil)
set_option maxHeartbeats 8000000 in
set_option maxRecDepth 100000 in
theorem r_thas (l : Launch) (E : gE) (t : Int32) : CtI l E yX5_has w_r_thas ({ frames := 0, cells := 0, slots := 0, locals := 0 }) [] [.int t] (fun r w => (0 ≤ r.toInt ∧ r.toInt ≤ 1) ∧ (r.toInt ≠ 0 → 0 ≤ t.toInt ∧ t.toInt ≤ 7) ∧ w = []) := by
  refine CtI.of (cc := cX5_has) (maxL := 1) (rt := (some .boolean)) (by decide) rfl (Nat.le_of_ble_eq_true rfl) ?_
  intro p e s m below meth c A B ls hl
  obtain ⟨hx, hb, hml, hr, hlk, hin, hts, hown, hK, hN, hZ, hA, hP, hD, hS⟩ := B
  replace hown : s.vm.findClass RX5 = some m.cls := hown
  have hto : ∀ w ∈ wo_r_thas, w.before _ s = true := fun w h => hts w (List.mem_append_left _ h)
  replace hl : lv_has ls 1 [(0, .int t)] := hl
  obtain ⟨H, hHe⟩ : ∃ H, H = s.heap := ⟨_, rfl⟩
  obtain ⟨locs, hle⟩ : ∃ l : List Loc, l = [] := ⟨_, rfl⟩
  replace hS : va_S A s.heap H locs := by rw [hHe, hle]; exact hS
  replace hP : va_P E.1 vwCl [] H := by rw [hHe]; exact hP
  refine W_hl hHe hle ?_
  clear hHe hle
  refine lv_iload_n hx hb dX5_has_0 rfl (lv_at hl 0 rfl) ?_
  refine lv_if_lt (tgt := 14) hx hb dX5_has_1 (by decide) (fun c_1 => ?_) (fun c_1 => ?_)
  · have e_1 : t.toInt < 0 := i3_lt c_1
    refine lv_iconst (v := 0) hx hb dX5_has_14 (by decide) ?_
    exact ret_i hx hb hr hlk (hP.sub (ws' := []) [] rfl) (hD.sub (ws' := []) [] (by decide) rfl) hS rfl dX5_has_15 (Nat.le_of_ble_eq_true rfl) (Nat.le_of_ble_eq_true rfl) ⟨(by decide), (by have e9 : (0 : Int32).toInt = 0 := rfl; omega), rfl⟩
  · have e_1 : 0 ≤ t.toInt := i3_nlt c_1
    refine lv_iload_n hx hb dX5_has_4 rfl (lv_at hl 0 rfl) ?_
    refine lv_bipush (v := 8) hx hb dX5_has_5 (by decide) ?_
    refine lv_icmp_ge (tgt := 14) hx hb dX5_has_7 (by decide) (fun c_2 => ?_) (fun c_2 => ?_)
    · have e_2 : 8 ≤ t.toInt := i3_le c_2
      refine lv_iconst (v := 0) hx hb dX5_has_14 (by decide) ?_
      exact ret_i hx hb hr hlk (hP.sub (ws' := []) [] rfl) (hD.sub (ws' := []) [] (by decide) rfl) hS rfl dX5_has_15 (Nat.le_of_ble_eq_true rfl) (Nat.le_of_ble_eq_true rfl) ⟨(by decide), (by have e9 : (0 : Int32).toInt = 0 := rfl; omega), rfl⟩
    · have e_2 : t.toInt < 8 := i3_nle c_2
      refine lv_iconst (v := 1) hx hb dX5_has_10 (by decide) ?_
      refine lv_goto (tgt := 15) hx hb dX5_has_11 (by decide) ?_
      exact ret_i hx hb hr hlk (hP.sub (ws' := []) [] rfl) (hD.sub (ws' := []) [] (by decide) rfl) hS rfl dX5_has_15 (Nat.le_of_ble_eq_true rfl) (Nat.le_of_ble_eq_true rfl) ⟨(by decide), (by have e9 : (1 : Int32).toInt = 1 := rfl; omega), rfl⟩
def wo_r_hasRow : List Cond := [.code yX5_hasRow cX5_hasRow 3 (some .boolean), .methodLink RX5 27 yX5_has, .static yX5_has, .initialized RX5]
def wr_r_hasRow : List Cond := (w_r_thas ++ ([]))
def w_r_hasRow : List Cond := wo_r_hasRow ++ wr_r_hasRow
theorem wg_r_hasRow : GW w_r_hasRow := GW_app (GW_of (by decide +kernel)) (GW_app (wg_r_thas) (GW_nil))
theorem g_r_hasRow_r_thas_27 : GoodIn w_r_hasRow (va_wsS RX5 27 yX5_has w_r_thas) := goodIn_app (gi_left (goodIn_of _ (by decide +kernel))) (fun w h => ⟨List.mem_append_right _ (List.mem_append_left _ h), wg_r_thas w h⟩)
set_option maxHeartbeats 8000000 in
set_option maxRecDepth 100000 in
theorem r_hasRow (l : Launch) (E : gE) (t pt rw : Int32) : CtI l E yX5_hasRow w_r_hasRow ({ frames := 1, cells := 0, slots := 0, locals := 20 }) [] [.int t, .int pt, .int rw] (fun r w => (0 ≤ r.toInt ∧ r.toInt ≤ 1) ∧ (r.toInt ≠ 0 → 0 ≤ t.toInt ∧ t.toInt ≤ 7 ∧ 0 ≤ pt.toInt ∧ pt.toInt ≤ 1 ∧ 0 ≤ rw.toInt ∧ rw.toInt ≤ 3) ∧ w = []) := by
  refine CtI.of (cc := cX5_hasRow) (maxL := 3) (rt := (some .boolean)) (by decide) rfl (Nat.le_of_ble_eq_true rfl) ?_
  intro p e s m below meth c A B ls hl
  obtain ⟨hx, hb, hml, hr, hlk, hin, hts, hown, hK, hN, hZ, hA, hP, hD, hS⟩ := B
  replace hown : s.vm.findClass RX5 = some m.cls := hown
  have hto : ∀ w ∈ wo_r_hasRow, w.before _ s = true := fun w h => hts w (List.mem_append_left _ h)
  replace hl : lv_has ls 3 [(0, .int t), (1, .int pt), (2, .int rw)] := hl
  obtain ⟨H, hHe⟩ : ∃ H, H = s.heap := ⟨_, rfl⟩
  obtain ⟨locs, hle⟩ : ∃ l : List Loc, l = [] := ⟨_, rfl⟩
  replace hS : va_S A s.heap H locs := by rw [hHe, hle]; exact hS
  replace hP : va_P E.1 vwCl [] H := by rw [hHe]; exact hP
  refine W_hl hHe hle ?_
  clear hHe hle
  refine lv_iload_n hx hb dX5_hasRow_0 rfl (lv_at hl 0 rfl) ?_
  refine call_i (va_runS (As := [.int t]) (rest := []) ⟨hx, hb, hml, hown, hts⟩ (r_thas l E t H.size) (va_cwS 1 hts g_r_hasRow_r_thas_27 rfl rfl rfl (by decide +kernel) ⟨Nat.le_of_ble_eq_true rfl, Nat.le_of_ble_eq_true rfl⟩) (pre_S hK hN hZ hS (va_free hD hS hA [] rfl) (hP.sub (ws' := []) [] rfl) (hD.sub (ws' := []) [] (by decide) rfl)) rfl rfl hl.1 rfl (lv_room (Nat.le_of_ble_eq_true rfl)) dX5_hasRow_1 ⟨Nat.le_of_ble_eq_true rfl, Nat.le_of_ble_eq_true rfl⟩) hP hD hS hA [] [] (wr := []) rfl rfl (by decide) (by decide) (fun r_1 w H locs hw hP hD hS => ?_)
  obtain ⟨b_r_1, l_r_1, rfl⟩ := hw
  replace l_r_1 : (r_1.toInt ≠ 0 → 0 ≤ t.toInt ∧ t.toInt ≤ 7) := l_r_1
  replace hP : va_P E.1 vwCl [] H := hP
  replace hD : va_D A [] := hD
  refine lv_if_eq (tgt := 29) hx hb dX5_hasRow_4 (by decide) (fun c_2 => ?_) (fun c_2 => ?_)
  · have e_2 : r_1.toInt = 0 := i3_eq c_2
    refine lv_iconst (v := 0) hx hb dX5_hasRow_29 (by decide) ?_
    exact ret_i hx hb hr hlk (hP.sub (ws' := []) [] rfl) (hD.sub (ws' := []) [] (by decide) rfl) hS rfl dX5_hasRow_30 (Nat.le_of_ble_eq_true rfl) (Nat.le_of_ble_eq_true rfl) ⟨(by decide), (by have e9 : (0 : Int32).toInt = 0 := rfl; omega), rfl⟩
  · have e_2 : r_1.toInt ≠ 0 := i3_ne c_2
    have f_2 := l_r_1 e_2
    refine lv_iload_n hx hb dX5_hasRow_7 rfl (lv_at hl 1 rfl) ?_
    refine lv_if_lt (tgt := 29) hx hb dX5_hasRow_8 (by decide) (fun c_3 => ?_) (fun c_3 => ?_)
    · have e_3 : pt.toInt < 0 := i3_lt c_3
      refine lv_iconst (v := 0) hx hb dX5_hasRow_29 (by decide) ?_
      exact ret_i hx hb hr hlk (hP.sub (ws' := []) [] rfl) (hD.sub (ws' := []) [] (by decide) rfl) hS rfl dX5_hasRow_30 (Nat.le_of_ble_eq_true rfl) (Nat.le_of_ble_eq_true rfl) ⟨(by decide), (by have e9 : (0 : Int32).toInt = 0 := rfl; omega), rfl⟩
    · have e_3 : 0 ≤ pt.toInt := i3_nlt c_3
      refine lv_iload_n hx hb dX5_hasRow_11 rfl (lv_at hl 1 rfl) ?_
      refine lv_iconst (v := 2) hx hb dX5_hasRow_12 (by decide) ?_
      refine lv_icmp_ge (tgt := 29) hx hb dX5_hasRow_13 (by decide) (fun c_4 => ?_) (fun c_4 => ?_)
      · have e_4 : 2 ≤ pt.toInt := i3_le c_4
        refine lv_iconst (v := 0) hx hb dX5_hasRow_29 (by decide) ?_
        exact ret_i hx hb hr hlk (hP.sub (ws' := []) [] rfl) (hD.sub (ws' := []) [] (by decide) rfl) hS rfl dX5_hasRow_30 (Nat.le_of_ble_eq_true rfl) (Nat.le_of_ble_eq_true rfl) ⟨(by decide), (by have e9 : (0 : Int32).toInt = 0 := rfl; omega), rfl⟩
      · have e_4 : pt.toInt < 2 := i3_nle c_4
        refine lv_iload_n hx hb dX5_hasRow_16 rfl (lv_at hl 2 rfl) ?_
        refine lv_if_lt (tgt := 29) hx hb dX5_hasRow_17 (by decide) (fun c_5 => ?_) (fun c_5 => ?_)
        · have e_5 : rw.toInt < 0 := i3_lt c_5
          refine lv_iconst (v := 0) hx hb dX5_hasRow_29 (by decide) ?_
          exact ret_i hx hb hr hlk (hP.sub (ws' := []) [] rfl) (hD.sub (ws' := []) [] (by decide) rfl) hS rfl dX5_hasRow_30 (Nat.le_of_ble_eq_true rfl) (Nat.le_of_ble_eq_true rfl) ⟨(by decide), (by have e9 : (0 : Int32).toInt = 0 := rfl; omega), rfl⟩
        · have e_5 : 0 ≤ rw.toInt := i3_nlt c_5
          refine lv_iload_n hx hb dX5_hasRow_20 rfl (lv_at hl 2 rfl) ?_
          refine lv_iconst (v := 4) hx hb dX5_hasRow_21 (by decide) ?_
          refine lv_icmp_ge (tgt := 29) hx hb dX5_hasRow_22 (by decide) (fun c_6 => ?_) (fun c_6 => ?_)
          · have e_6 : 4 ≤ rw.toInt := i3_le c_6
            refine lv_iconst (v := 0) hx hb dX5_hasRow_29 (by decide) ?_
            exact ret_i hx hb hr hlk (hP.sub (ws' := []) [] rfl) (hD.sub (ws' := []) [] (by decide) rfl) hS rfl dX5_hasRow_30 (Nat.le_of_ble_eq_true rfl) (Nat.le_of_ble_eq_true rfl) ⟨(by decide), (by have e9 : (0 : Int32).toInt = 0 := rfl; omega), rfl⟩
          · have e_6 : rw.toInt < 4 := i3_nle c_6
            refine lv_iconst (v := 1) hx hb dX5_hasRow_25 (by decide) ?_
            refine lv_goto (tgt := 30) hx hb dX5_hasRow_26 (by decide) ?_
            exact ret_i hx hb hr hlk (hP.sub (ws' := []) [] rfl) (hD.sub (ws' := []) [] (by decide) rfl) hS rfl dX5_hasRow_30 (Nat.le_of_ble_eq_true rfl) (Nat.le_of_ble_eq_true rfl) ⟨(by decide), (by have e9 : (1 : Int32).toInt = 1 := rfl; omega), rfl⟩
def wo_r_has : List Cond := [.code yX1_has cX1_has 2 (some .boolean), .fieldLink RX1 52 "TimingHouse$Net" "cells" "I"]
def wr_r_has : List Cond := (wsX10 ++ ([]))
def w_r_has : List Cond := wo_r_has ++ wr_r_has
theorem wg_r_has : GW w_r_has := GW_app (GW_of (by decide +kernel)) (GW_app (GW_of (by decide +kernel)) (GW_nil))
theorem i_r_has_X1 : ∀ w ∈ wsX10, w ∈ w_r_has := fun _ h => List.mem_append_right _ (List.mem_append_left _ h)
set_option maxHeartbeats 8000000 in
set_option maxRecDepth 100000 in
theorem r_has (l : Launch) (E : gE) (o_n a_n_kinds a_n_inputs a_n_tables a_n_sizes a_n_extras a_n_sources a_n_takers a_n_firstTaker a_n_order a_n_tally a_n_behind : Nat) (f_n_cells f_n_ordered p1 : Int32) (r_f_n_cells : RG f_n_cells 0 50) (r_f_n_ordered : RG f_n_ordered 0 50) : CtI l E yX1_has w_r_has ({ frames := 0, cells := 0, slots := 0, locals := 0 }) [(o_n, .inr (1, [.int f_n_cells, .ref a_n_kinds, .ref a_n_inputs, .ref a_n_tables, .ref a_n_sizes, .ref a_n_extras, .ref a_n_sources, .ref a_n_takers, .ref a_n_firstTaker, .ref a_n_order, .int f_n_ordered, .ref a_n_tally, .ref a_n_behind]))] [.ref o_n, .int p1] (fun r w => (0 ≤ r.toInt ∧ r.toInt ≤ 1) ∧ (r.toInt ≠ 0 → 0 ≤ p1.toInt ∧ p1.toInt < f_n_cells.toInt) ∧ w = [(o_n, .inr (1, [.int f_n_cells, .ref a_n_kinds, .ref a_n_inputs, .ref a_n_tables, .ref a_n_sizes, .ref a_n_extras, .ref a_n_sources, .ref a_n_takers, .ref a_n_firstTaker, .ref a_n_order, .int f_n_ordered, .ref a_n_tally, .ref a_n_behind]))]) := by
  refine CtI.of (cc := cX1_has) (maxL := 2) (rt := (some .boolean)) (by decide) rfl (Nat.le_of_ble_eq_true rfl) ?_
  intro p e s m below meth c A B ls hl
  obtain ⟨hx, hb, hml, hr, hlk, hin, hts, hown, hK, hN, hZ, hA, hP, hD, hS⟩ := B
  replace hown : s.vm.findClass RX1 = some m.cls := hown
  have hto : ∀ w ∈ wo_r_has, w.before _ s = true := fun w h => hts w (List.mem_append_left _ h)
  replace hl : lv_has ls 2 [(0, .ref o_n), (1, .int p1)] := hl
  obtain ⟨H, hHe⟩ : ∃ H, H = s.heap := ⟨_, rfl⟩
  obtain ⟨locs, hle⟩ : ∃ l : List Loc, l = [] := ⟨_, rfl⟩
  replace hS : va_S A s.heap H locs := by rw [hHe, hle]; exact hS
  replace hP : va_P E.1 vwCl [(o_n, .inr (1, [.int f_n_cells, .ref a_n_kinds, .ref a_n_inputs, .ref a_n_tables, .ref a_n_sizes, .ref a_n_extras, .ref a_n_sources, .ref a_n_takers, .ref a_n_firstTaker, .ref a_n_order, .int f_n_ordered, .ref a_n_tally, .ref a_n_behind]))] H := by rw [hHe]; exact hP
  refine W_hl hHe hle ?_
  clear hHe hle
  refine lv_iload_n hx hb dX1_has_0 rfl (lv_at hl 1 rfl) ?_
  refine lv_if_lt (tgt := 16) hx hb dX1_has_1 (by decide) (fun c_1 => ?_) (fun c_1 => ?_)
  · have e_1 : p1.toInt < 0 := i3_lt c_1
    refine lv_iconst (v := 0) hx hb dX1_has_16 (by decide) ?_
    exact ret_i hx hb hr hlk (hP.sub (ws' := [(o_n, .inr (1, [.int f_n_cells, .ref a_n_kinds, .ref a_n_inputs, .ref a_n_tables, .ref a_n_sizes, .ref a_n_extras, .ref a_n_sources, .ref a_n_takers, .ref a_n_firstTaker, .ref a_n_order, .int f_n_ordered, .ref a_n_tally, .ref a_n_behind]))]) [0] rfl) (hD.sub (ws' := [(o_n, .inr (1, [.int f_n_cells, .ref a_n_kinds, .ref a_n_inputs, .ref a_n_tables, .ref a_n_sizes, .ref a_n_extras, .ref a_n_sources, .ref a_n_takers, .ref a_n_firstTaker, .ref a_n_order, .int f_n_ordered, .ref a_n_tally, .ref a_n_behind]))]) [0] (by decide) rfl) hS rfl dX1_has_17 (Nat.le_of_ble_eq_true rfl) (Nat.le_of_ble_eq_true rfl) ⟨(by decide), (by have e9 : (0 : Int32).toInt = 0 := rfl; omega), rfl⟩
  · have e_1 : 0 ≤ p1.toInt := i3_nlt c_1
    refine lv_iload_n hx hb dX1_has_4 rfl (lv_at hl 1 rfl) ?_
    refine lv_aload_n hx hb dX1_has_5 rfl (lv_at hl 0 rfl) ?_
    refine va_get (D := E.1) (ci := 1) (v := .int f_n_cells) (own := RX1) (C := RX1) (T := TX1) (N := 13) hx hb hts i_r_has_X1 hown hK hP 0 rfl rfl 0 (by decide) (hto (.fieldLink RX1 52 "TimingHouse$Net" "cells" "I") (by decide +kernel)) (fun _ h9 => h9) rfl dX1_has_6 ?_
    have b_f_n_cells := r_f_n_cells.out
    refine lv_icmp_ge (tgt := 16) hx hb dX1_has_9 (by decide) (fun c_2 => ?_) (fun c_2 => ?_)
    · have e_2 : f_n_cells.toInt ≤ p1.toInt := i3_le c_2
      refine lv_iconst (v := 0) hx hb dX1_has_16 (by decide) ?_
      exact ret_i hx hb hr hlk (hP.sub (ws' := [(o_n, .inr (1, [.int f_n_cells, .ref a_n_kinds, .ref a_n_inputs, .ref a_n_tables, .ref a_n_sizes, .ref a_n_extras, .ref a_n_sources, .ref a_n_takers, .ref a_n_firstTaker, .ref a_n_order, .int f_n_ordered, .ref a_n_tally, .ref a_n_behind]))]) [0] rfl) (hD.sub (ws' := [(o_n, .inr (1, [.int f_n_cells, .ref a_n_kinds, .ref a_n_inputs, .ref a_n_tables, .ref a_n_sizes, .ref a_n_extras, .ref a_n_sources, .ref a_n_takers, .ref a_n_firstTaker, .ref a_n_order, .int f_n_ordered, .ref a_n_tally, .ref a_n_behind]))]) [0] (by decide) rfl) hS rfl dX1_has_17 (Nat.le_of_ble_eq_true rfl) (Nat.le_of_ble_eq_true rfl) ⟨(by decide), (by have e9 : (0 : Int32).toInt = 0 := rfl; omega), rfl⟩
    · have e_2 : p1.toInt < f_n_cells.toInt := i3_nle c_2
      refine lv_iconst (v := 1) hx hb dX1_has_12 (by decide) ?_
      refine lv_goto (tgt := 17) hx hb dX1_has_13 (by decide) ?_
      exact ret_i hx hb hr hlk (hP.sub (ws' := [(o_n, .inr (1, [.int f_n_cells, .ref a_n_kinds, .ref a_n_inputs, .ref a_n_tables, .ref a_n_sizes, .ref a_n_extras, .ref a_n_sources, .ref a_n_takers, .ref a_n_firstTaker, .ref a_n_order, .int f_n_ordered, .ref a_n_tally, .ref a_n_behind]))]) [0] rfl) (hD.sub (ws' := [(o_n, .inr (1, [.int f_n_cells, .ref a_n_kinds, .ref a_n_inputs, .ref a_n_tables, .ref a_n_sizes, .ref a_n_extras, .ref a_n_sources, .ref a_n_takers, .ref a_n_firstTaker, .ref a_n_order, .int f_n_ordered, .ref a_n_tally, .ref a_n_behind]))]) [0] (by decide) rfl) hS rfl dX1_has_17 (Nat.le_of_ble_eq_true rfl) (Nat.le_of_ble_eq_true rfl) ⟨(by decide), (by have e9 : (1 : Int32).toInt = 1 := rfl; omega), rfl⟩
theorem dX1_hasInput_0 : decode cX1_hasInput 0 = .ok (.aload_n 0, 1) := by decide +kernel
theorem dX1_hasInput_1 : decode cX1_hasInput 1 = .ok (.iload_n 1, 1) := by decide +kernel
theorem dX1_hasInput_2 : decode cX1_hasInput 2 = .ok (.invokevirtual 56, 3) := by decide +kernel
theorem dX1_hasInput_5 : decode cX1_hasInput 5 = .ok (.ifCond .eq 21, 3) := by decide +kernel
theorem dX1_hasInput_26 : decode cX1_hasInput 26 = .ok (.iconst 0, 1) := by decide +kernel
theorem dX1_hasInput_27 : decode cX1_hasInput 27 = .ok (.ireturn, 1) := by decide +kernel
theorem dX1_hasInput_8 : decode cX1_hasInput 8 = .ok (.iload_n 2, 1) := by decide +kernel
theorem dX1_hasInput_9 : decode cX1_hasInput 9 = .ok (.ifCond .lt 17, 3) := by decide +kernel
theorem dX1_hasInput_12 : decode cX1_hasInput 12 = .ok (.iload_n 2, 1) := by decide +kernel
theorem dX1_hasInput_13 : decode cX1_hasInput 13 = .ok (.aload_n 0, 1) := by decide +kernel
theorem dX1_hasInput_14 : decode cX1_hasInput 14 = .ok (.getfield 15, 3) := by decide +kernel
theorem dX1_hasInput_17 : decode cX1_hasInput 17 = .ok (.iload_n 1, 1) := by decide +kernel
theorem dX1_hasInput_18 : decode cX1_hasInput 18 = .ok (.iaload, 1) := by decide +kernel
theorem dX1_hasInput_19 : decode cX1_hasInput 19 = .ok (.if_icmp .ge 7, 3) := by decide +kernel
theorem dX1_hasInput_22 : decode cX1_hasInput 22 = .ok (.iconst 1, 1) := by decide +kernel
theorem dX1_hasInput_23 : decode cX1_hasInput 23 = .ok (.goto 4, 3) := by decide +kernel
def wo_r_hasInput : List Cond := [.code yX1_hasInput cX1_hasInput 3 (some .boolean), .methodLink RX1 56 yX1_has, .instanceMethod yX1_has, .selects RX1 yX1_has yX1_has, .initialized RX1, .fieldLink RX1 15 "TimingHouse$Net" "inputs" "[I"]
def wr_r_hasInput : List Cond := (wsX10 ++ (w_r_has ++ ([])))
def w_r_hasInput : List Cond := wo_r_hasInput ++ wr_r_hasInput
theorem wg_r_hasInput : GW w_r_hasInput := GW_app (GW_of (by decide +kernel)) (GW_app (GW_of (by decide +kernel)) (GW_app (wg_r_has) (GW_nil)))
theorem i_r_hasInput_X1 : ∀ w ∈ wsX10, w ∈ w_r_hasInput := fun _ h => List.mem_append_right _ (List.mem_append_left _ h)
theorem g_r_hasInput_r_has_56 : GoodIn w_r_hasInput (wsV RX1 56 RX1 yX1_has w_r_has) := goodIn_app (gi_left (goodIn_of _ (by decide +kernel))) (fun w h => ⟨List.mem_append_right _ (List.mem_append_right _ (List.mem_append_left _ h)), wg_r_has w h⟩)
set_option maxHeartbeats 8000000 in
set_option maxRecDepth 100000 in
theorem r_hasInput (l : Launch) (E : gE) (o_n a_n_kinds a_n_inputs a_n_tables a_n_sizes a_n_extras a_n_sources a_n_takers a_n_firstTaker a_n_order a_n_tally a_n_behind : Nat) (f_n_cells f_n_ordered p1 p2 : Int32) (g_n_inputs : Nat → Int32) (r_f_n_cells : RG f_n_cells 0 50) (r_f_n_ordered : RG f_n_ordered 0 50) (i_g_n_inputs : AR g_n_inputs 50 0 4) : CtI l E yX1_hasInput w_r_hasInput ({ frames := 1, cells := 0, slots := 0, locals := 21 }) [(o_n, .inr (1, [.int f_n_cells, .ref a_n_kinds, .ref a_n_inputs, .ref a_n_tables, .ref a_n_sizes, .ref a_n_extras, .ref a_n_sources, .ref a_n_takers, .ref a_n_firstTaker, .ref a_n_order, .int f_n_ordered, .ref a_n_tally, .ref a_n_behind])), (a_n_inputs, aI E 50 g_n_inputs)] [.ref o_n, .int p1, .int p2] (fun r w => (0 ≤ r.toInt ∧ r.toInt ≤ 1) ∧ (r.toInt ≠ 0 → 0 ≤ p1.toInt ∧ p1.toInt < f_n_cells.toInt ∧ 0 ≤ p2.toInt ∧ p2.toInt ≤ 3) ∧ w = [(o_n, .inr (1, [.int f_n_cells, .ref a_n_kinds, .ref a_n_inputs, .ref a_n_tables, .ref a_n_sizes, .ref a_n_extras, .ref a_n_sources, .ref a_n_takers, .ref a_n_firstTaker, .ref a_n_order, .int f_n_ordered, .ref a_n_tally, .ref a_n_behind])), (a_n_inputs, aI E 50 g_n_inputs)]) := by
  refine CtI.of (cc := cX1_hasInput) (maxL := 3) (rt := (some .boolean)) (by decide) rfl (Nat.le_of_ble_eq_true rfl) ?_
  intro p e s m below meth c A B ls hl
  obtain ⟨hx, hb, hml, hr, hlk, hin, hts, hown, hK, hN, hZ, hA, hP, hD, hS⟩ := B
  replace hown : s.vm.findClass RX1 = some m.cls := hown
  have hto : ∀ w ∈ wo_r_hasInput, w.before _ s = true := fun w h => hts w (List.mem_append_left _ h)
  replace hl : lv_has ls 3 [(0, .ref o_n), (1, .int p1), (2, .int p2)] := hl
  obtain ⟨H, hHe⟩ : ∃ H, H = s.heap := ⟨_, rfl⟩
  obtain ⟨locs, hle⟩ : ∃ l : List Loc, l = [] := ⟨_, rfl⟩
  replace hS : va_S A s.heap H locs := by rw [hHe, hle]; exact hS
  replace hP : va_P E.1 vwCl [(o_n, .inr (1, [.int f_n_cells, .ref a_n_kinds, .ref a_n_inputs, .ref a_n_tables, .ref a_n_sizes, .ref a_n_extras, .ref a_n_sources, .ref a_n_takers, .ref a_n_firstTaker, .ref a_n_order, .int f_n_ordered, .ref a_n_tally, .ref a_n_behind])), (a_n_inputs, aI E 50 g_n_inputs)] H := by rw [hHe]; exact hP
  refine W_hl hHe hle ?_
  clear hHe hle
  refine lv_aload_n hx hb dX1_hasInput_0 rfl (lv_at hl 0 rfl) ?_
  refine lv_iload_n hx hb dX1_hasInput_1 rfl (lv_at hl 1 rfl) ?_
  refine call_i (va_runV (As := [.int p1]) (rest := []) ⟨hx, hb, hml, hown, hts⟩ (r_has l E o_n a_n_kinds a_n_inputs a_n_tables a_n_sizes a_n_extras a_n_sources a_n_takers a_n_firstTaker a_n_order a_n_tally a_n_behind f_n_cells f_n_ordered p1 r_f_n_cells r_f_n_ordered H.size) (cwV 1 hts g_r_hasInput_r_has_56 rfl rfl rfl (by decide +kernel) ⟨Nat.le_of_ble_eq_true rfl, Nat.le_of_ble_eq_true rfl⟩) (pre_V hK hN hZ hS (va_free hD hS hA [0] rfl) (hP.sub (ws' := [(o_n, .inr (1, [.int f_n_cells, .ref a_n_kinds, .ref a_n_inputs, .ref a_n_tables, .ref a_n_sizes, .ref a_n_extras, .ref a_n_sources, .ref a_n_takers, .ref a_n_firstTaker, .ref a_n_order, .int f_n_ordered, .ref a_n_tally, .ref a_n_behind]))]) [0] rfl) (hD.sub (ws' := [(o_n, .inr (1, [.int f_n_cells, .ref a_n_kinds, .ref a_n_inputs, .ref a_n_tables, .ref a_n_sizes, .ref a_n_extras, .ref a_n_sources, .ref a_n_takers, .ref a_n_firstTaker, .ref a_n_order, .int f_n_ordered, .ref a_n_tally, .ref a_n_behind]))]) [0] (by decide) rfl) (ci := 1) (q0 := 0) rfl rfl) rfl rfl hl.1 rfl (lv_room (Nat.le_of_ble_eq_true rfl)) dX1_hasInput_2 ⟨Nat.le_of_ble_eq_true rfl, Nat.le_of_ble_eq_true rfl⟩) hP hD hS hA [0] [1] (wr := [(a_n_inputs, aI E 50 g_n_inputs)]) rfl rfl (by decide) (by decide) (fun r_1 w H locs hw hP hD hS => ?_)
  obtain ⟨b_r_1, l_r_1, rfl⟩ := hw
  replace l_r_1 : (r_1.toInt ≠ 0 → 0 ≤ p1.toInt ∧ p1.toInt < f_n_cells.toInt) := l_r_1
  replace hP : va_P E.1 vwCl [(a_n_inputs, aI E 50 g_n_inputs), (o_n, .inr (1, [.int f_n_cells, .ref a_n_kinds, .ref a_n_inputs, .ref a_n_tables, .ref a_n_sizes, .ref a_n_extras, .ref a_n_sources, .ref a_n_takers, .ref a_n_firstTaker, .ref a_n_order, .int f_n_ordered, .ref a_n_tally, .ref a_n_behind]))] H := hP
  replace hD : va_D A [(a_n_inputs, aI E 50 g_n_inputs), (o_n, .inr (1, [.int f_n_cells, .ref a_n_kinds, .ref a_n_inputs, .ref a_n_tables, .ref a_n_sizes, .ref a_n_extras, .ref a_n_sources, .ref a_n_takers, .ref a_n_firstTaker, .ref a_n_order, .int f_n_ordered, .ref a_n_tally, .ref a_n_behind]))] := hD
  refine lv_if_eq (tgt := 26) hx hb dX1_hasInput_5 (by decide) (fun c_2 => ?_) (fun c_2 => ?_)
  · have e_2 : r_1.toInt = 0 := i3_eq c_2
    refine lv_iconst (v := 0) hx hb dX1_hasInput_26 (by decide) ?_
    exact ret_i hx hb hr hlk (hP.sub (ws' := [(o_n, .inr (1, [.int f_n_cells, .ref a_n_kinds, .ref a_n_inputs, .ref a_n_tables, .ref a_n_sizes, .ref a_n_extras, .ref a_n_sources, .ref a_n_takers, .ref a_n_firstTaker, .ref a_n_order, .int f_n_ordered, .ref a_n_tally, .ref a_n_behind])), (a_n_inputs, aI E 50 g_n_inputs)]) [1, 0] rfl) (hD.sub (ws' := [(o_n, .inr (1, [.int f_n_cells, .ref a_n_kinds, .ref a_n_inputs, .ref a_n_tables, .ref a_n_sizes, .ref a_n_extras, .ref a_n_sources, .ref a_n_takers, .ref a_n_firstTaker, .ref a_n_order, .int f_n_ordered, .ref a_n_tally, .ref a_n_behind])), (a_n_inputs, aI E 50 g_n_inputs)]) [1, 0] (by decide) rfl) hS rfl dX1_hasInput_27 (Nat.le_of_ble_eq_true rfl) (Nat.le_of_ble_eq_true rfl) ⟨(by decide), (by have e9 : (0 : Int32).toInt = 0 := rfl; omega), rfl⟩
  · have e_2 : r_1.toInt ≠ 0 := i3_ne c_2
    have f_2 := l_r_1 e_2
    have b_f_n_cells := r_f_n_cells.out
    refine lv_iload_n hx hb dX1_hasInput_8 rfl (lv_at hl 2 rfl) ?_
    refine lv_if_lt (tgt := 26) hx hb dX1_hasInput_9 (by decide) (fun c_3 => ?_) (fun c_3 => ?_)
    · have e_3 : p2.toInt < 0 := i3_lt c_3
      refine lv_iconst (v := 0) hx hb dX1_hasInput_26 (by decide) ?_
      exact ret_i hx hb hr hlk (hP.sub (ws' := [(o_n, .inr (1, [.int f_n_cells, .ref a_n_kinds, .ref a_n_inputs, .ref a_n_tables, .ref a_n_sizes, .ref a_n_extras, .ref a_n_sources, .ref a_n_takers, .ref a_n_firstTaker, .ref a_n_order, .int f_n_ordered, .ref a_n_tally, .ref a_n_behind])), (a_n_inputs, aI E 50 g_n_inputs)]) [1, 0] rfl) (hD.sub (ws' := [(o_n, .inr (1, [.int f_n_cells, .ref a_n_kinds, .ref a_n_inputs, .ref a_n_tables, .ref a_n_sizes, .ref a_n_extras, .ref a_n_sources, .ref a_n_takers, .ref a_n_firstTaker, .ref a_n_order, .int f_n_ordered, .ref a_n_tally, .ref a_n_behind])), (a_n_inputs, aI E 50 g_n_inputs)]) [1, 0] (by decide) rfl) hS rfl dX1_hasInput_27 (Nat.le_of_ble_eq_true rfl) (Nat.le_of_ble_eq_true rfl) ⟨(by decide), (by have e9 : (0 : Int32).toInt = 0 := rfl; omega), rfl⟩
    · have e_3 : 0 ≤ p2.toInt := i3_nlt c_3
      refine lv_iload_n hx hb dX1_hasInput_12 rfl (lv_at hl 2 rfl) ?_
      refine lv_aload_n hx hb dX1_hasInput_13 rfl (lv_at hl 0 rfl) ?_
      refine va_get (D := E.1) (ci := 1) (v := .ref a_n_inputs) (own := RX1) (C := RX1) (T := TX1) (N := 13) hx hb hts i_r_hasInput_X1 hown hK hP 1 rfl rfl 2 (by decide) (hto (.fieldLink RX1 15 "TimingHouse$Net" "inputs" "[I") (by decide +kernel)) (fun _ h9 => h9) rfl dX1_hasInput_14 ?_
      refine lv_iload_n hx hb dX1_hasInput_17 rfl (lv_at hl 1 rfl) ?_
      refine ld_i hx hb hK hP 0 rfl (by omega) dX1_hasInput_18 (fun x_4 ex_4 => ?_)
      have b_x_4 := AR.rd i_g_n_inputs ex_4 (by omega)
      refine lv_icmp_ge (tgt := 26) hx hb dX1_hasInput_19 (by decide) (fun c_5 => ?_) (fun c_5 => ?_)
      · have e_5 : x_4.toInt ≤ p2.toInt := i3_le c_5
        refine lv_iconst (v := 0) hx hb dX1_hasInput_26 (by decide) ?_
        exact ret_i hx hb hr hlk (hP.sub (ws' := [(o_n, .inr (1, [.int f_n_cells, .ref a_n_kinds, .ref a_n_inputs, .ref a_n_tables, .ref a_n_sizes, .ref a_n_extras, .ref a_n_sources, .ref a_n_takers, .ref a_n_firstTaker, .ref a_n_order, .int f_n_ordered, .ref a_n_tally, .ref a_n_behind])), (a_n_inputs, aI E 50 g_n_inputs)]) [1, 0] rfl) (hD.sub (ws' := [(o_n, .inr (1, [.int f_n_cells, .ref a_n_kinds, .ref a_n_inputs, .ref a_n_tables, .ref a_n_sizes, .ref a_n_extras, .ref a_n_sources, .ref a_n_takers, .ref a_n_firstTaker, .ref a_n_order, .int f_n_ordered, .ref a_n_tally, .ref a_n_behind])), (a_n_inputs, aI E 50 g_n_inputs)]) [1, 0] (by decide) rfl) hS rfl dX1_hasInput_27 (Nat.le_of_ble_eq_true rfl) (Nat.le_of_ble_eq_true rfl) ⟨(by decide), (by have e9 : (0 : Int32).toInt = 0 := rfl; omega), rfl⟩
      · have e_5 : p2.toInt < x_4.toInt := i3_nle c_5
        refine lv_iconst (v := 1) hx hb dX1_hasInput_22 (by decide) ?_
        refine lv_goto (tgt := 27) hx hb dX1_hasInput_23 (by decide) ?_
        exact ret_i hx hb hr hlk (hP.sub (ws' := [(o_n, .inr (1, [.int f_n_cells, .ref a_n_kinds, .ref a_n_inputs, .ref a_n_tables, .ref a_n_sizes, .ref a_n_extras, .ref a_n_sources, .ref a_n_takers, .ref a_n_firstTaker, .ref a_n_order, .int f_n_ordered, .ref a_n_tally, .ref a_n_behind])), (a_n_inputs, aI E 50 g_n_inputs)]) [1, 0] rfl) (hD.sub (ws' := [(o_n, .inr (1, [.int f_n_cells, .ref a_n_kinds, .ref a_n_inputs, .ref a_n_tables, .ref a_n_sizes, .ref a_n_extras, .ref a_n_sources, .ref a_n_takers, .ref a_n_firstTaker, .ref a_n_order, .int f_n_ordered, .ref a_n_tally, .ref a_n_behind])), (a_n_inputs, aI E 50 g_n_inputs)]) [1, 0] (by decide) rfl) hS rfl dX1_hasInput_27 (Nat.le_of_ble_eq_true rfl) (Nat.le_of_ble_eq_true rfl) ⟨(by decide), (by have e9 : (1 : Int32).toInt = 1 := rfl; omega), rfl⟩
def wo_r_hasOrRoot : List Cond := [.code yX0_hasOrRoot cX0_hasOrRoot 2 (some .boolean), .fieldLink RX0 25 "TimingHouse$Clock" "nodes" "I"]
def wr_r_hasOrRoot : List Cond := (wsX00 ++ ([]))
def w_r_hasOrRoot : List Cond := wo_r_hasOrRoot ++ wr_r_hasOrRoot
theorem wg_r_hasOrRoot : GW w_r_hasOrRoot := GW_app (GW_of (by decide +kernel)) (GW_app (GW_of (by decide +kernel)) (GW_nil))
theorem i_r_hasOrRoot_X0 : ∀ w ∈ wsX00, w ∈ w_r_hasOrRoot := fun _ h => List.mem_append_right _ (List.mem_append_left _ h)
set_option maxHeartbeats 8000000 in
set_option maxRecDepth 100000 in
theorem r_hasOrRoot (l : Launch) (E : gE) (o_k a_k_parents a_k_earlySums a_k_lateSums : Nat) (f_k_length f_k_nodes p1 : Int32) (r_f_k_length : RG f_k_length 1 1000000) (r_f_k_nodes : RG f_k_nodes 0 20) : CtI l E yX0_hasOrRoot w_r_hasOrRoot ({ frames := 0, cells := 0, slots := 0, locals := 0 }) [(o_k, .inr (0, [.int f_k_length, .int f_k_nodes, .ref a_k_parents, .ref a_k_earlySums, .ref a_k_lateSums]))] [.ref o_k, .int p1] (fun r w => (0 ≤ r.toInt ∧ r.toInt ≤ 1) ∧ (r.toInt ≠ 0 → (-1) ≤ p1.toInt ∧ p1.toInt < f_k_nodes.toInt) ∧ w = [(o_k, .inr (0, [.int f_k_length, .int f_k_nodes, .ref a_k_parents, .ref a_k_earlySums, .ref a_k_lateSums]))]) := by
  refine CtI.of (cc := cX0_hasOrRoot) (maxL := 2) (rt := (some .boolean)) (by decide) rfl (Nat.le_of_ble_eq_true rfl) ?_
  intro p e s m below meth c A B ls hl
  obtain ⟨hx, hb, hml, hr, hlk, hin, hts, hown, hK, hN, hZ, hA, hP, hD, hS⟩ := B
  replace hown : s.vm.findClass RX0 = some m.cls := hown
  have hto : ∀ w ∈ wo_r_hasOrRoot, w.before _ s = true := fun w h => hts w (List.mem_append_left _ h)
  replace hl : lv_has ls 2 [(0, .ref o_k), (1, .int p1)] := hl
  obtain ⟨H, hHe⟩ : ∃ H, H = s.heap := ⟨_, rfl⟩
  obtain ⟨locs, hle⟩ : ∃ l : List Loc, l = [] := ⟨_, rfl⟩
  replace hS : va_S A s.heap H locs := by rw [hHe, hle]; exact hS
  replace hP : va_P E.1 vwCl [(o_k, .inr (0, [.int f_k_length, .int f_k_nodes, .ref a_k_parents, .ref a_k_earlySums, .ref a_k_lateSums]))] H := by rw [hHe]; exact hP
  refine W_hl hHe hle ?_
  clear hHe hle
  refine lv_iload_n hx hb dX0_hasOrRoot_0 rfl (lv_at hl 1 rfl) ?_
  refine lv_iconst (v := (-1)) hx hb dX0_hasOrRoot_1 (by decide) ?_
  refine lv_icmp_lt (tgt := 17) hx hb dX0_hasOrRoot_2 (by decide) (fun c_1 => ?_) (fun c_1 => ?_)
  · have e_1 : p1.toInt < (-1) := i3_lt c_1
    refine lv_iconst (v := 0) hx hb dX0_hasOrRoot_17 (by decide) ?_
    exact ret_i hx hb hr hlk (hP.sub (ws' := [(o_k, .inr (0, [.int f_k_length, .int f_k_nodes, .ref a_k_parents, .ref a_k_earlySums, .ref a_k_lateSums]))]) [0] rfl) (hD.sub (ws' := [(o_k, .inr (0, [.int f_k_length, .int f_k_nodes, .ref a_k_parents, .ref a_k_earlySums, .ref a_k_lateSums]))]) [0] (by decide) rfl) hS rfl dX0_hasOrRoot_18 (Nat.le_of_ble_eq_true rfl) (Nat.le_of_ble_eq_true rfl) ⟨(by decide), (by have e9 : (0 : Int32).toInt = 0 := rfl; omega), rfl⟩
  · have e_1 : (-1) ≤ p1.toInt := i3_nlt c_1
    refine lv_iload_n hx hb dX0_hasOrRoot_5 rfl (lv_at hl 1 rfl) ?_
    refine lv_aload_n hx hb dX0_hasOrRoot_6 rfl (lv_at hl 0 rfl) ?_
    refine va_get (D := E.1) (ci := 0) (v := .int f_k_nodes) (own := RX0) (C := RX0) (T := TX0) (N := 5) hx hb hts i_r_hasOrRoot_X0 hown hK hP 0 rfl rfl 1 (by decide) (hto (.fieldLink RX0 25 "TimingHouse$Clock" "nodes" "I") (by decide +kernel)) (fun _ h9 => h9) rfl dX0_hasOrRoot_7 ?_
    have b_f_k_nodes := r_f_k_nodes.out
    refine lv_icmp_ge (tgt := 17) hx hb dX0_hasOrRoot_10 (by decide) (fun c_2 => ?_) (fun c_2 => ?_)
    · have e_2 : f_k_nodes.toInt ≤ p1.toInt := i3_le c_2
      refine lv_iconst (v := 0) hx hb dX0_hasOrRoot_17 (by decide) ?_
      exact ret_i hx hb hr hlk (hP.sub (ws' := [(o_k, .inr (0, [.int f_k_length, .int f_k_nodes, .ref a_k_parents, .ref a_k_earlySums, .ref a_k_lateSums]))]) [0] rfl) (hD.sub (ws' := [(o_k, .inr (0, [.int f_k_length, .int f_k_nodes, .ref a_k_parents, .ref a_k_earlySums, .ref a_k_lateSums]))]) [0] (by decide) rfl) hS rfl dX0_hasOrRoot_18 (Nat.le_of_ble_eq_true rfl) (Nat.le_of_ble_eq_true rfl) ⟨(by decide), (by have e9 : (0 : Int32).toInt = 0 := rfl; omega), rfl⟩
    · have e_2 : p1.toInt < f_k_nodes.toInt := i3_nle c_2
      refine lv_iconst (v := 1) hx hb dX0_hasOrRoot_13 (by decide) ?_
      refine lv_goto (tgt := 18) hx hb dX0_hasOrRoot_14 (by decide) ?_
      exact ret_i hx hb hr hlk (hP.sub (ws' := [(o_k, .inr (0, [.int f_k_length, .int f_k_nodes, .ref a_k_parents, .ref a_k_earlySums, .ref a_k_lateSums]))]) [0] rfl) (hD.sub (ws' := [(o_k, .inr (0, [.int f_k_length, .int f_k_nodes, .ref a_k_parents, .ref a_k_earlySums, .ref a_k_lateSums]))]) [0] (by decide) rfl) hS rfl dX0_hasOrRoot_18 (Nat.le_of_ble_eq_true rfl) (Nat.le_of_ble_eq_true rfl) ⟨(by decide), (by have e9 : (1 : Int32).toInt = 1 := rfl; omega), rfl⟩
theorem dX9_forget_0 : decode cX9_forget 0 = .ok (.aload_n 0, 1) := by decide +kernel
theorem dX9_forget_1 : decode cX9_forget 1 = .ok (.iconst 0, 1) := by decide +kernel
theorem dX9_forget_2 : decode cX9_forget 2 = .ok (.putfield 290, 3) := by decide +kernel
theorem dX9_forget_5 : decode cX9_forget 5 = .ok (.aload_n 0, 1) := by decide +kernel
theorem dX9_forget_6 : decode cX9_forget 6 = .ok (.iconst 0, 1) := by decide +kernel
theorem dX9_forget_7 : decode cX9_forget 7 = .ok (.putfield 294, 3) := by decide +kernel
theorem dX9_forget_10 : decode cX9_forget 10 = .ok (.return_, 1) := by decide +kernel
def wo_r_forget : List Cond := [.code yX9_forget cX9_forget 1 none, .fieldLink RX9 290 "TimingHouse" "timed" "Z", .fieldLink RX9 294 "TimingHouse" "raced" "Z"]
def wr_r_forget : List Cond := (wsX90 ++ ([]))
def w_r_forget : List Cond := wo_r_forget ++ wr_r_forget
theorem wg_r_forget : GW w_r_forget := GW_app (GW_of (by decide +kernel)) (GW_app (GW_of (by decide +kernel)) (GW_nil))
theorem i_r_forget_X9 : ∀ w ∈ wsX90, w ∈ w_r_forget := fun _ h => List.mem_append_right _ (List.mem_append_left _ h)
set_option maxHeartbeats 8000000 in
set_option maxRecDepth 100000 in
theorem r_forget (l : Launch) (E : gE) (o_h o_n o_z o_k o_u o_t o_i o_c o_v o_sh o_tr : Nat) (f_h_timed f_h_raced : Int32) (r_f_h_timed : RG f_h_timed 0 1) (r_f_h_raced : RG f_h_raced 0 1) : CtV l E yX9_forget w_r_forget ({ frames := 0, cells := 0, slots := 0, locals := 0 }) [(o_h, .inr (9, [.ref o_n, .ref o_z, .ref o_k, .ref o_u, .ref o_t, .ref o_i, .ref o_c, .ref o_v, .ref o_sh, .ref o_tr, .int f_h_timed, .int f_h_raced]))] [.ref o_h] (fun w => ∃ nf_h_timed : Int32, ∃ nf_h_raced : Int32, RG nf_h_timed 0 1 ∧ RG nf_h_raced 0 1 ∧ w = [(o_h, .inr (9, [.ref o_n, .ref o_z, .ref o_k, .ref o_u, .ref o_t, .ref o_i, .ref o_c, .ref o_v, .ref o_sh, .ref o_tr, .int nf_h_timed, .int nf_h_raced]))]) := by
  refine CtV.of (cc := cX9_forget) (maxL := 1) (rt := none) (by decide) rfl (Nat.le_of_ble_eq_true rfl) ?_
  intro p e s m below meth c A B ls hl
  obtain ⟨hx, hb, hml, hr, hlk, hin, hts, hown, hK, hN, hZ, hA, hP, hD, hS⟩ := B
  replace hown : s.vm.findClass RX9 = some m.cls := hown
  have hto : ∀ w ∈ wo_r_forget, w.before _ s = true := fun w h => hts w (List.mem_append_left _ h)
  replace hl : lv_has ls 1 [(0, .ref o_h)] := hl
  obtain ⟨H, hHe⟩ : ∃ H, H = s.heap := ⟨_, rfl⟩
  obtain ⟨locs, hle⟩ : ∃ l : List Loc, l = [] := ⟨_, rfl⟩
  replace hS : va_S A s.heap H locs := by rw [hHe, hle]; exact hS
  replace hP : va_P E.1 vwCl [(o_h, .inr (9, [.ref o_n, .ref o_z, .ref o_k, .ref o_u, .ref o_t, .ref o_i, .ref o_c, .ref o_v, .ref o_sh, .ref o_tr, .int f_h_timed, .int f_h_raced]))] H := by rw [hHe]; exact hP
  refine W_hl hHe hle ?_
  clear hHe hle
  refine lv_aload_n hx hb dX9_forget_0 rfl (lv_at hl 0 rfl) ?_
  refine lv_iconst (v := 0) hx hb dX9_forget_1 (by decide) ?_
  refine va_put (D := E.1) (ci := 9) (v := .int 0) (ty := .boolean) (own := RX9) (C := RX9) (T := TX9) (N := 12) hx hb hts i_r_forget_X9 tyX9 tyX9_ok nmX9 hown hK hP hD hS 0 rfl rfl 10 (by decide) (hto (.fieldLink RX9 290 "TimingHouse" "timed" "Z") (by decide +kernel)) (fun _ h9 => h9) rfl (by decide +kernel) rfl rfl (Nat.le_of_ble_eq_true rfl) dX9_forget_2 (fun H locs hP hD hS => ?_)
  replace hP : va_P E.1 vwCl [(o_h, .inr (9, [.ref o_n, .ref o_z, .ref o_k, .ref o_u, .ref o_t, .ref o_i, .ref o_c, .ref o_v, .ref o_sh, .ref o_tr, .int 0, .int f_h_raced]))] H := hP
  replace hD : va_D A [(o_h, .inr (9, [.ref o_n, .ref o_z, .ref o_k, .ref o_u, .ref o_t, .ref o_i, .ref o_c, .ref o_v, .ref o_sh, .ref o_tr, .int 0, .int f_h_raced]))] := hD
  refine lv_aload_n hx hb dX9_forget_5 rfl (lv_at hl 0 rfl) ?_
  refine lv_iconst (v := 0) hx hb dX9_forget_6 (by decide) ?_
  refine va_put (D := E.1) (ci := 9) (v := .int 0) (ty := .boolean) (own := RX9) (C := RX9) (T := TX9) (N := 12) hx hb hts i_r_forget_X9 tyX9 tyX9_ok nmX9 hown hK hP hD hS 0 rfl rfl 11 (by decide) (hto (.fieldLink RX9 294 "TimingHouse" "raced" "Z") (by decide +kernel)) (fun _ h9 => h9) rfl (by decide +kernel) rfl rfl (Nat.le_of_ble_eq_true rfl) dX9_forget_7 (fun H locs hP hD hS => ?_)
  replace hP : va_P E.1 vwCl [(o_h, .inr (9, [.ref o_n, .ref o_z, .ref o_k, .ref o_u, .ref o_t, .ref o_i, .ref o_c, .ref o_v, .ref o_sh, .ref o_tr, .int 0, .int 0]))] H := hP
  replace hD : va_D A [(o_h, .inr (9, [.ref o_n, .ref o_z, .ref o_k, .ref o_u, .ref o_t, .ref o_i, .ref o_c, .ref o_v, .ref o_sh, .ref o_tr, .int 0, .int 0]))] := hD
  exact ret_v hx hb hr hlk (hP.sub (ws' := [(o_h, .inr (9, [.ref o_n, .ref o_z, .ref o_k, .ref o_u, .ref o_t, .ref o_i, .ref o_c, .ref o_v, .ref o_sh, .ref o_tr, .int 0, .int 0]))]) [0] rfl) (hD.sub (ws' := [(o_h, .inr (9, [.ref o_n, .ref o_z, .ref o_k, .ref o_u, .ref o_t, .ref o_i, .ref o_c, .ref o_v, .ref o_sh, .ref o_tr, .int 0, .int 0]))]) [0] (by decide) rfl) hS dX9_forget_10 (Nat.le_of_ble_eq_true rfl) (Nat.le_of_ble_eq_true rfl) ⟨0, 0, RG.mk (by decide), RG.mk (by decide), rfl⟩
theorem dX9_hasOrAny_0 : decode cX9_hasOrAny 0 = .ok (.iload_n 1, 1) := by decide +kernel
theorem dX9_hasOrAny_1 : decode cX9_hasOrAny 1 = .ok (.iconst (-1), 1) := by decide +kernel
theorem dX9_hasOrAny_2 : decode cX9_hasOrAny 2 = .ok (.if_icmp .eq 14, 3) := by decide +kernel
theorem dX9_hasOrAny_16 : decode cX9_hasOrAny 16 = .ok (.iconst 1, 1) := by decide +kernel
theorem dX9_hasOrAny_17 : decode cX9_hasOrAny 17 = .ok (.goto 4, 3) := by decide +kernel
theorem dX9_hasOrAny_21 : decode cX9_hasOrAny 21 = .ok (.ireturn, 1) := by decide +kernel
theorem dX9_hasOrAny_5 : decode cX9_hasOrAny 5 = .ok (.aload_n 0, 1) := by decide +kernel
theorem dX9_hasOrAny_6 : decode cX9_hasOrAny 6 = .ok (.getfield 12, 3) := by decide +kernel
theorem dX9_hasOrAny_9 : decode cX9_hasOrAny 9 = .ok (.iload_n 1, 1) := by decide +kernel
theorem dX9_hasOrAny_10 : decode cX9_hasOrAny 10 = .ok (.invokevirtual 103, 3) := by decide +kernel
theorem dX9_hasOrAny_13 : decode cX9_hasOrAny 13 = .ok (.ifCond .eq 7, 3) := by decide +kernel
theorem dX9_hasOrAny_20 : decode cX9_hasOrAny 20 = .ok (.iconst 0, 1) := by decide +kernel
def wo_r_hasOrAny : List Cond := [.code yX9_hasOrAny cX9_hasOrAny 2 (some .boolean), .fieldLink RX9 12 "TimingHouse" "net" "LTimingHouse$Net;", .methodLink RX9 103 yX1_has, .instanceMethod yX1_has, .selects RX1 yX1_has yX1_has, .initialized RX1]
def wr_r_hasOrAny : List Cond := (wsX90 ++ (w_r_has ++ ([])))
def w_r_hasOrAny : List Cond := wo_r_hasOrAny ++ wr_r_hasOrAny
theorem wg_r_hasOrAny : GW w_r_hasOrAny := GW_app (GW_of (by decide +kernel)) (GW_app (GW_of (by decide +kernel)) (GW_app (wg_r_has) (GW_nil)))
theorem i_r_hasOrAny_X9 : ∀ w ∈ wsX90, w ∈ w_r_hasOrAny := fun _ h => List.mem_append_right _ (List.mem_append_left _ h)
theorem g_r_hasOrAny_r_has_103 : GoodIn w_r_hasOrAny (wsV RX9 103 RX1 yX1_has w_r_has) := goodIn_app (gi_left (goodIn_of _ (by decide +kernel))) (fun w h => ⟨List.mem_append_right _ (List.mem_append_right _ (List.mem_append_left _ h)), wg_r_has w h⟩)
set_option maxHeartbeats 8000000 in
set_option maxRecDepth 100000 in
theorem r_hasOrAny (l : Launch) (E : gE) (o_h o_n o_z o_k o_u o_t o_i o_c o_v o_sh o_tr a_n_kinds a_n_inputs a_n_tables a_n_sizes a_n_extras a_n_sources a_n_takers a_n_firstTaker a_n_order a_n_tally a_n_behind : Nat) (f_h_timed f_h_raced f_n_cells f_n_ordered p1 : Int32) (r_f_h_timed : RG f_h_timed 0 1) (r_f_h_raced : RG f_h_raced 0 1) (r_f_n_cells : RG f_n_cells 0 50) (r_f_n_ordered : RG f_n_ordered 0 50) : CtI l E yX9_hasOrAny w_r_hasOrAny ({ frames := 1, cells := 0, slots := 0, locals := 21 }) [(o_h, .inr (9, [.ref o_n, .ref o_z, .ref o_k, .ref o_u, .ref o_t, .ref o_i, .ref o_c, .ref o_v, .ref o_sh, .ref o_tr, .int f_h_timed, .int f_h_raced])), (o_n, .inr (1, [.int f_n_cells, .ref a_n_kinds, .ref a_n_inputs, .ref a_n_tables, .ref a_n_sizes, .ref a_n_extras, .ref a_n_sources, .ref a_n_takers, .ref a_n_firstTaker, .ref a_n_order, .int f_n_ordered, .ref a_n_tally, .ref a_n_behind]))] [.ref o_h, .int p1] (fun r w => (0 ≤ r.toInt ∧ r.toInt ≤ 1) ∧ (r.toInt ≠ 0 → (-1) ≤ p1.toInt ∧ p1.toInt ≤ 49) ∧ w = [(o_h, .inr (9, [.ref o_n, .ref o_z, .ref o_k, .ref o_u, .ref o_t, .ref o_i, .ref o_c, .ref o_v, .ref o_sh, .ref o_tr, .int f_h_timed, .int f_h_raced])), (o_n, .inr (1, [.int f_n_cells, .ref a_n_kinds, .ref a_n_inputs, .ref a_n_tables, .ref a_n_sizes, .ref a_n_extras, .ref a_n_sources, .ref a_n_takers, .ref a_n_firstTaker, .ref a_n_order, .int f_n_ordered, .ref a_n_tally, .ref a_n_behind]))]) := by
  refine CtI.of (cc := cX9_hasOrAny) (maxL := 2) (rt := (some .boolean)) (by decide) rfl (Nat.le_of_ble_eq_true rfl) ?_
  intro p e s m below meth c A B ls hl
  obtain ⟨hx, hb, hml, hr, hlk, hin, hts, hown, hK, hN, hZ, hA, hP, hD, hS⟩ := B
  replace hown : s.vm.findClass RX9 = some m.cls := hown
  have hto : ∀ w ∈ wo_r_hasOrAny, w.before _ s = true := fun w h => hts w (List.mem_append_left _ h)
  replace hl : lv_has ls 2 [(0, .ref o_h), (1, .int p1)] := hl
  obtain ⟨H, hHe⟩ : ∃ H, H = s.heap := ⟨_, rfl⟩
  obtain ⟨locs, hle⟩ : ∃ l : List Loc, l = [] := ⟨_, rfl⟩
  replace hS : va_S A s.heap H locs := by rw [hHe, hle]; exact hS
  replace hP : va_P E.1 vwCl [(o_h, .inr (9, [.ref o_n, .ref o_z, .ref o_k, .ref o_u, .ref o_t, .ref o_i, .ref o_c, .ref o_v, .ref o_sh, .ref o_tr, .int f_h_timed, .int f_h_raced])), (o_n, .inr (1, [.int f_n_cells, .ref a_n_kinds, .ref a_n_inputs, .ref a_n_tables, .ref a_n_sizes, .ref a_n_extras, .ref a_n_sources, .ref a_n_takers, .ref a_n_firstTaker, .ref a_n_order, .int f_n_ordered, .ref a_n_tally, .ref a_n_behind]))] H := by rw [hHe]; exact hP
  refine W_hl hHe hle ?_
  clear hHe hle
  refine lv_iload_n hx hb dX9_hasOrAny_0 rfl (lv_at hl 1 rfl) ?_
  refine lv_iconst (v := (-1)) hx hb dX9_hasOrAny_1 (by decide) ?_
  refine lv_icmp_eq (tgt := 16) hx hb dX9_hasOrAny_2 (by decide) (fun c_1 => ?_) (fun c_1 => ?_)
  · have e_1 : p1.toInt = (-1) := i3_eq c_1
    refine lv_iconst (v := 1) hx hb dX9_hasOrAny_16 (by decide) ?_
    refine lv_goto (tgt := 21) hx hb dX9_hasOrAny_17 (by decide) ?_
    exact ret_i hx hb hr hlk (hP.sub (ws' := [(o_h, .inr (9, [.ref o_n, .ref o_z, .ref o_k, .ref o_u, .ref o_t, .ref o_i, .ref o_c, .ref o_v, .ref o_sh, .ref o_tr, .int f_h_timed, .int f_h_raced])), (o_n, .inr (1, [.int f_n_cells, .ref a_n_kinds, .ref a_n_inputs, .ref a_n_tables, .ref a_n_sizes, .ref a_n_extras, .ref a_n_sources, .ref a_n_takers, .ref a_n_firstTaker, .ref a_n_order, .int f_n_ordered, .ref a_n_tally, .ref a_n_behind]))]) [0, 1] rfl) (hD.sub (ws' := [(o_h, .inr (9, [.ref o_n, .ref o_z, .ref o_k, .ref o_u, .ref o_t, .ref o_i, .ref o_c, .ref o_v, .ref o_sh, .ref o_tr, .int f_h_timed, .int f_h_raced])), (o_n, .inr (1, [.int f_n_cells, .ref a_n_kinds, .ref a_n_inputs, .ref a_n_tables, .ref a_n_sizes, .ref a_n_extras, .ref a_n_sources, .ref a_n_takers, .ref a_n_firstTaker, .ref a_n_order, .int f_n_ordered, .ref a_n_tally, .ref a_n_behind]))]) [0, 1] (by decide) rfl) hS rfl dX9_hasOrAny_21 (Nat.le_of_ble_eq_true rfl) (Nat.le_of_ble_eq_true rfl) ⟨(by decide), (by have e9 : (1 : Int32).toInt = 1 := rfl; omega), rfl⟩
  · have e_1 : p1.toInt ≠ (-1) := i3_ne c_1
    refine lv_aload_n hx hb dX9_hasOrAny_5 rfl (lv_at hl 0 rfl) ?_
    refine va_get (D := E.1) (ci := 9) (v := .ref o_n) (own := RX9) (C := RX9) (T := TX9) (N := 12) hx hb hts i_r_hasOrAny_X9 hown hK hP 0 rfl rfl 0 (by decide) (hto (.fieldLink RX9 12 "TimingHouse" "net" "LTimingHouse$Net;") (by decide +kernel)) (fun _ h9 => h9) rfl dX9_hasOrAny_6 ?_
    refine lv_iload_n hx hb dX9_hasOrAny_9 rfl (lv_at hl 1 rfl) ?_
    refine call_i (va_runV (As := [.int p1]) (rest := []) ⟨hx, hb, hml, hown, hts⟩ (r_has l E o_n a_n_kinds a_n_inputs a_n_tables a_n_sizes a_n_extras a_n_sources a_n_takers a_n_firstTaker a_n_order a_n_tally a_n_behind f_n_cells f_n_ordered p1 r_f_n_cells r_f_n_ordered H.size) (cwV 1 hts g_r_hasOrAny_r_has_103 rfl rfl rfl (by decide +kernel) ⟨Nat.le_of_ble_eq_true rfl, Nat.le_of_ble_eq_true rfl⟩) (pre_V hK hN hZ hS (va_free hD hS hA [1] rfl) (hP.sub (ws' := [(o_n, .inr (1, [.int f_n_cells, .ref a_n_kinds, .ref a_n_inputs, .ref a_n_tables, .ref a_n_sizes, .ref a_n_extras, .ref a_n_sources, .ref a_n_takers, .ref a_n_firstTaker, .ref a_n_order, .int f_n_ordered, .ref a_n_tally, .ref a_n_behind]))]) [1] rfl) (hD.sub (ws' := [(o_n, .inr (1, [.int f_n_cells, .ref a_n_kinds, .ref a_n_inputs, .ref a_n_tables, .ref a_n_sizes, .ref a_n_extras, .ref a_n_sources, .ref a_n_takers, .ref a_n_firstTaker, .ref a_n_order, .int f_n_ordered, .ref a_n_tally, .ref a_n_behind]))]) [1] (by decide) rfl) (ci := 1) (q0 := 0) rfl rfl) rfl rfl hl.1 rfl (lv_room (Nat.le_of_ble_eq_true rfl)) dX9_hasOrAny_10 ⟨Nat.le_of_ble_eq_true rfl, Nat.le_of_ble_eq_true rfl⟩) hP hD hS hA [1] [0] (wr := [(o_h, .inr (9, [.ref o_n, .ref o_z, .ref o_k, .ref o_u, .ref o_t, .ref o_i, .ref o_c, .ref o_v, .ref o_sh, .ref o_tr, .int f_h_timed, .int f_h_raced]))]) rfl rfl (by decide) (by decide) (fun r_2 w H locs hw hP hD hS => ?_)
    obtain ⟨b_r_2, l_r_2, rfl⟩ := hw
    replace l_r_2 : (r_2.toInt ≠ 0 → 0 ≤ p1.toInt ∧ p1.toInt < f_n_cells.toInt) := l_r_2
    replace hP : va_P E.1 vwCl [(o_h, .inr (9, [.ref o_n, .ref o_z, .ref o_k, .ref o_u, .ref o_t, .ref o_i, .ref o_c, .ref o_v, .ref o_sh, .ref o_tr, .int f_h_timed, .int f_h_raced])), (o_n, .inr (1, [.int f_n_cells, .ref a_n_kinds, .ref a_n_inputs, .ref a_n_tables, .ref a_n_sizes, .ref a_n_extras, .ref a_n_sources, .ref a_n_takers, .ref a_n_firstTaker, .ref a_n_order, .int f_n_ordered, .ref a_n_tally, .ref a_n_behind]))] H := hP
    replace hD : va_D A [(o_h, .inr (9, [.ref o_n, .ref o_z, .ref o_k, .ref o_u, .ref o_t, .ref o_i, .ref o_c, .ref o_v, .ref o_sh, .ref o_tr, .int f_h_timed, .int f_h_raced])), (o_n, .inr (1, [.int f_n_cells, .ref a_n_kinds, .ref a_n_inputs, .ref a_n_tables, .ref a_n_sizes, .ref a_n_extras, .ref a_n_sources, .ref a_n_takers, .ref a_n_firstTaker, .ref a_n_order, .int f_n_ordered, .ref a_n_tally, .ref a_n_behind]))] := hD
    refine lv_if_eq (tgt := 20) hx hb dX9_hasOrAny_13 (by decide) (fun c_3 => ?_) (fun c_3 => ?_)
    · have e_3 : r_2.toInt = 0 := i3_eq c_3
      refine lv_iconst (v := 0) hx hb dX9_hasOrAny_20 (by decide) ?_
      exact ret_i hx hb hr hlk (hP.sub (ws' := [(o_h, .inr (9, [.ref o_n, .ref o_z, .ref o_k, .ref o_u, .ref o_t, .ref o_i, .ref o_c, .ref o_v, .ref o_sh, .ref o_tr, .int f_h_timed, .int f_h_raced])), (o_n, .inr (1, [.int f_n_cells, .ref a_n_kinds, .ref a_n_inputs, .ref a_n_tables, .ref a_n_sizes, .ref a_n_extras, .ref a_n_sources, .ref a_n_takers, .ref a_n_firstTaker, .ref a_n_order, .int f_n_ordered, .ref a_n_tally, .ref a_n_behind]))]) [0, 1] rfl) (hD.sub (ws' := [(o_h, .inr (9, [.ref o_n, .ref o_z, .ref o_k, .ref o_u, .ref o_t, .ref o_i, .ref o_c, .ref o_v, .ref o_sh, .ref o_tr, .int f_h_timed, .int f_h_raced])), (o_n, .inr (1, [.int f_n_cells, .ref a_n_kinds, .ref a_n_inputs, .ref a_n_tables, .ref a_n_sizes, .ref a_n_extras, .ref a_n_sources, .ref a_n_takers, .ref a_n_firstTaker, .ref a_n_order, .int f_n_ordered, .ref a_n_tally, .ref a_n_behind]))]) [0, 1] (by decide) rfl) hS rfl dX9_hasOrAny_21 (Nat.le_of_ble_eq_true rfl) (Nat.le_of_ble_eq_true rfl) ⟨(by decide), (by have e9 : (0 : Int32).toInt = 0 := rfl; omega), rfl⟩
    · have e_3 : r_2.toInt ≠ 0 := i3_ne c_3
      have f_3 := l_r_2 e_3
      have b_f_n_cells := r_f_n_cells.out
      refine lv_iconst (v := 1) hx hb dX9_hasOrAny_16 (by decide) ?_
      refine lv_goto (tgt := 21) hx hb dX9_hasOrAny_17 (by decide) ?_
      exact ret_i hx hb hr hlk (hP.sub (ws' := [(o_h, .inr (9, [.ref o_n, .ref o_z, .ref o_k, .ref o_u, .ref o_t, .ref o_i, .ref o_c, .ref o_v, .ref o_sh, .ref o_tr, .int f_h_timed, .int f_h_raced])), (o_n, .inr (1, [.int f_n_cells, .ref a_n_kinds, .ref a_n_inputs, .ref a_n_tables, .ref a_n_sizes, .ref a_n_extras, .ref a_n_sources, .ref a_n_takers, .ref a_n_firstTaker, .ref a_n_order, .int f_n_ordered, .ref a_n_tally, .ref a_n_behind]))]) [0, 1] rfl) (hD.sub (ws' := [(o_h, .inr (9, [.ref o_n, .ref o_z, .ref o_k, .ref o_u, .ref o_t, .ref o_i, .ref o_c, .ref o_v, .ref o_sh, .ref o_tr, .int f_h_timed, .int f_h_raced])), (o_n, .inr (1, [.int f_n_cells, .ref a_n_kinds, .ref a_n_inputs, .ref a_n_tables, .ref a_n_sizes, .ref a_n_extras, .ref a_n_sources, .ref a_n_takers, .ref a_n_firstTaker, .ref a_n_order, .int f_n_ordered, .ref a_n_tally, .ref a_n_behind]))]) [0, 1] (by decide) rfl) hS rfl dX9_hasOrAny_21 (Nat.le_of_ble_eq_true rfl) (Nat.le_of_ble_eq_true rfl) ⟨(by decide), (by have e9 : (1 : Int32).toInt = 1 := rfl; omega), rfl⟩
theorem dX3_dropLatest_0 : decode cX3_dropLatest 0 = .ok (.aload_n 0, 1) := by decide +kernel
theorem dX3_dropLatest_1 : decode cX3_dropLatest 1 = .ok (.dup, 1) := by decide +kernel
theorem dX3_dropLatest_2 : decode cX3_dropLatest 2 = .ok (.getfield 27, 3) := by decide +kernel
theorem dX3_dropLatest_5 : decode cX3_dropLatest 5 = .ok (.iconst 1, 1) := by decide +kernel
theorem dX3_dropLatest_6 : decode cX3_dropLatest 6 = .ok (.isub, 1) := by decide +kernel
theorem dX3_dropLatest_7 : decode cX3_dropLatest 7 = .ok (.putfield 27, 3) := by decide +kernel
theorem dX3_dropLatest_10 : decode cX3_dropLatest 10 = .ok (.aload_n 0, 1) := by decide +kernel
theorem dX3_dropLatest_11 : decode cX3_dropLatest 11 = .ok (.invokevirtual 31, 3) := by decide +kernel
theorem dX3_dropLatest_14 : decode cX3_dropLatest 14 = .ok (.aload_n 0, 1) := by decide +kernel
theorem dX3_dropLatest_15 : decode cX3_dropLatest 15 = .ok (.getfield 27, 3) := by decide +kernel
theorem dX3_dropLatest_18 : decode cX3_dropLatest 18 = .ok (.ireturn, 1) := by decide +kernel
def wo_r_dropLatest : List Cond := [.code yX3_dropLatest cX3_dropLatest 1 (some .int), .fieldLink RX3 27 "TimingHouse$Rules" "told" "I", .methodLink RX3 31 yX3_spreadBits, .instanceMethod yX3_spreadBits, .selects RX3 yX3_spreadBits yX3_spreadBits, .initialized RX3]
def wr_r_dropLatest : List Cond := (wsX30 ++ (w_q_spreadBits ++ ([])))
def w_r_dropLatest : List Cond := wo_r_dropLatest ++ wr_r_dropLatest
theorem wg_r_dropLatest : GW w_r_dropLatest := GW_app (GW_of (by decide +kernel)) (GW_app (GW_of (by decide +kernel)) (GW_app (wg_q_spreadBits) (GW_nil)))
theorem i_r_dropLatest_X3 : ∀ w ∈ wsX30, w ∈ w_r_dropLatest := fun _ h => List.mem_append_right _ (List.mem_append_left _ h)
theorem g_r_dropLatest_q_spreadBits_31 : GoodIn w_r_dropLatest (wsV RX3 31 RX3 yX3_spreadBits w_q_spreadBits) := goodIn_app (gi_left (goodIn_of _ (by decide +kernel))) (fun w h => ⟨List.mem_append_right _ (List.mem_append_right _ (List.mem_append_left _ h)), wg_q_spreadBits w h⟩)
set_option maxHeartbeats 8000000 in
set_option maxRecDepth 100000 in
theorem r_dropLatest (l : Launch) (E : gE) (o_u a_u_periods a_u_froms a_u_throughs a_u_tos a_u_bits : Nat) (f_u_told : Int32) (g_u_bits : Nat → Int32) (g_u_throughs : Nat → Int32) (r_f_u_told : RG f_u_told 1 4) (i_g_u_bits : AR g_u_bits 50 0 15) (i_g_u_throughs : AR g_u_throughs 4 (-1) 49) : CtI l E yX3_dropLatest w_r_dropLatest ({ frames := 1, cells := 0, slots := 0, locals := 22 }) [(o_u, .inr (3, [.int f_u_told, .ref a_u_periods, .ref a_u_froms, .ref a_u_throughs, .ref a_u_tos, .ref a_u_bits])), (a_u_bits, aI E 50 g_u_bits), (a_u_throughs, aI E 4 g_u_throughs)] [.ref o_u] (fun r w => (0 ≤ r.toInt ∧ r.toInt ≤ 3) ∧ ∃ nf_u_told : Int32, ∃ ng_u_bits : Nat → Int32, RG nf_u_told 0 4 ∧ AR ng_u_bits 50 0 15 ∧ w = [(o_u, .inr (3, [.int nf_u_told, .ref a_u_periods, .ref a_u_froms, .ref a_u_throughs, .ref a_u_tos, .ref a_u_bits])), (a_u_bits, aI E 50 ng_u_bits), (a_u_throughs, aI E 4 g_u_throughs)]) := by
  refine CtI.of (cc := cX3_dropLatest) (maxL := 1) (rt := (some .int)) (by decide) rfl (Nat.le_of_ble_eq_true rfl) ?_
  intro p e s m below meth c A B ls hl
  obtain ⟨hx, hb, hml, hr, hlk, hin, hts, hown, hK, hN, hZ, hA, hP, hD, hS⟩ := B
  replace hown : s.vm.findClass RX3 = some m.cls := hown
  have hto : ∀ w ∈ wo_r_dropLatest, w.before _ s = true := fun w h => hts w (List.mem_append_left _ h)
  replace hl : lv_has ls 1 [(0, .ref o_u)] := hl
  obtain ⟨H, hHe⟩ : ∃ H, H = s.heap := ⟨_, rfl⟩
  obtain ⟨locs, hle⟩ : ∃ l : List Loc, l = [] := ⟨_, rfl⟩
  replace hS : va_S A s.heap H locs := by rw [hHe, hle]; exact hS
  replace hP : va_P E.1 vwCl [(o_u, .inr (3, [.int f_u_told, .ref a_u_periods, .ref a_u_froms, .ref a_u_throughs, .ref a_u_tos, .ref a_u_bits])), (a_u_bits, aI E 50 g_u_bits), (a_u_throughs, aI E 4 g_u_throughs)] H := by rw [hHe]; exact hP
  refine W_hl hHe hle ?_
  clear hHe hle
  refine lv_aload_n hx hb dX3_dropLatest_0 rfl (lv_at hl 0 rfl) ?_
  refine lv_dup hx hb dX3_dropLatest_1 rfl ?_
  refine va_get (D := E.1) (ci := 3) (v := .int f_u_told) (own := RX3) (C := RX3) (T := TX3) (N := 6) hx hb hts i_r_dropLatest_X3 hown hK hP 0 rfl rfl 0 (by decide) (hto (.fieldLink RX3 27 "TimingHouse$Rules" "told" "I") (by decide +kernel)) (fun _ h9 => h9) rfl dX3_dropLatest_2 ?_
  refine lv_iconst (v := 1) hx hb dX3_dropLatest_5 (by decide) ?_
  have b_f_u_told := r_f_u_told.out
  refine lv_isub hx hb dX3_dropLatest_6 ?_
  refine lv_topi (fun x_1 ex_1 => ?_)
  have tx_1 : x_1.toInt = f_u_told.toInt - 1 := i3_subc rfl rfl ex_1 (by omega)
  refine va_put (D := E.1) (ci := 3) (v := .int x_1) (ty := .int) (own := RX3) (C := RX3) (T := TX3) (N := 6) hx hb hts i_r_dropLatest_X3 tyX3 tyX3_ok nmX3 hown hK hP hD hS 0 rfl rfl 0 (by decide) (hto (.fieldLink RX3 27 "TimingHouse$Rules" "told" "I") (by decide +kernel)) (fun _ h9 => h9) rfl (by decide +kernel) rfl rfl (Nat.le_of_ble_eq_true rfl) dX3_dropLatest_7 (fun H locs hP hD hS => ?_)
  replace hP : va_P E.1 vwCl [(o_u, .inr (3, [.int x_1, .ref a_u_periods, .ref a_u_froms, .ref a_u_throughs, .ref a_u_tos, .ref a_u_bits])), (a_u_bits, aI E 50 g_u_bits), (a_u_throughs, aI E 4 g_u_throughs)] H := hP
  replace hD : va_D A [(o_u, .inr (3, [.int x_1, .ref a_u_periods, .ref a_u_froms, .ref a_u_throughs, .ref a_u_tos, .ref a_u_bits])), (a_u_bits, aI E 50 g_u_bits), (a_u_throughs, aI E 4 g_u_throughs)] := hD
  refine lv_aload_n hx hb dX3_dropLatest_10 rfl (lv_at hl 0 rfl) ?_
  refine call_v (va_runV (As := []) (rest := []) ⟨hx, hb, hml, hown, hts⟩ (q_spreadBits l E o_u a_u_periods a_u_froms a_u_throughs a_u_tos a_u_bits x_1 g_u_bits g_u_throughs (RG.mk (by omega)) i_g_u_bits i_g_u_throughs H.size) (cwV 0 hts g_r_dropLatest_q_spreadBits_31 rfl rfl rfl (by decide +kernel) ⟨Nat.le_of_ble_eq_true rfl, Nat.le_of_ble_eq_true rfl⟩) (pre_V hK hN hZ hS (va_free hD hS hA [0, 1, 2] rfl) (hP.sub (ws' := [(o_u, .inr (3, [.int x_1, .ref a_u_periods, .ref a_u_froms, .ref a_u_throughs, .ref a_u_tos, .ref a_u_bits])), (a_u_bits, aI E 50 g_u_bits), (a_u_throughs, aI E 4 g_u_throughs)]) [0, 1, 2] rfl) (hD.sub (ws' := [(o_u, .inr (3, [.int x_1, .ref a_u_periods, .ref a_u_froms, .ref a_u_throughs, .ref a_u_tos, .ref a_u_bits])), (a_u_bits, aI E 50 g_u_bits), (a_u_throughs, aI E 4 g_u_throughs)]) [0, 1, 2] (by decide) rfl) (ci := 3) (q0 := 0) rfl rfl) rfl rfl hl.1 rfl (lv_room (Nat.le_of_ble_eq_true rfl)) dX3_dropLatest_11 ⟨Nat.le_of_ble_eq_true rfl, Nat.le_of_ble_eq_true rfl⟩) hP hD hS hA [0, 1, 2] [] (wr := []) rfl rfl (by decide) (by decide) (fun w H locs hw hP hD hS => ?_)
  obtain ⟨z_3, i_z_3, rfl⟩ := hw
  replace hP : va_P E.1 vwCl [(o_u, .inr (3, [.int x_1, .ref a_u_periods, .ref a_u_froms, .ref a_u_throughs, .ref a_u_tos, .ref a_u_bits])), (a_u_bits, aI E 50 z_3), (a_u_throughs, aI E 4 g_u_throughs)] H := hP
  replace hD : va_D A [(o_u, .inr (3, [.int x_1, .ref a_u_periods, .ref a_u_froms, .ref a_u_throughs, .ref a_u_tos, .ref a_u_bits])), (a_u_bits, aI E 50 z_3), (a_u_throughs, aI E 4 g_u_throughs)] := hD
  refine lv_aload_n hx hb dX3_dropLatest_14 rfl (lv_at hl 0 rfl) ?_
  refine va_get (D := E.1) (ci := 3) (v := .int x_1) (own := RX3) (C := RX3) (T := TX3) (N := 6) hx hb hts i_r_dropLatest_X3 hown hK hP 0 rfl rfl 0 (by decide) (hto (.fieldLink RX3 27 "TimingHouse$Rules" "told" "I") (by decide +kernel)) (fun _ h9 => h9) rfl dX3_dropLatest_15 ?_
  exact ret_i hx hb hr hlk (hP.sub (ws' := [(o_u, .inr (3, [.int x_1, .ref a_u_periods, .ref a_u_froms, .ref a_u_throughs, .ref a_u_tos, .ref a_u_bits])), (a_u_bits, aI E 50 z_3), (a_u_throughs, aI E 4 g_u_throughs)]) [0, 1, 2] rfl) (hD.sub (ws' := [(o_u, .inr (3, [.int x_1, .ref a_u_periods, .ref a_u_froms, .ref a_u_throughs, .ref a_u_tos, .ref a_u_bits])), (a_u_bits, aI E 50 z_3), (a_u_throughs, aI E 4 g_u_throughs)]) [0, 1, 2] (by decide) rfl) hS rfl dX3_dropLatest_18 (Nat.le_of_ble_eq_true rfl) (Nat.le_of_ble_eq_true rfl) ⟨(by omega), x_1, z_3, RG.mk (by omega), i_z_3, rfl⟩
theorem dX3_addRule_0 : decode cX3_addRule 0 = .ok (.aload_n 0, 1) := by decide +kernel
theorem dX3_addRule_1 : decode cX3_addRule 1 = .ok (.getfield 27, 3) := by decide +kernel
theorem dX3_addRule_4 : decode cX3_addRule 4 = .ok (.istore 5, 2) := by decide +kernel
theorem dX3_addRule_6 : decode cX3_addRule 6 = .ok (.aload_n 0, 1) := by decide +kernel
theorem dX3_addRule_7 : decode cX3_addRule 7 = .ok (.dup, 1) := by decide +kernel
theorem dX3_addRule_8 : decode cX3_addRule 8 = .ok (.getfield 27, 3) := by decide +kernel
theorem dX3_addRule_11 : decode cX3_addRule 11 = .ok (.iconst 1, 1) := by decide +kernel
theorem dX3_addRule_12 : decode cX3_addRule 12 = .ok (.iadd, 1) := by decide +kernel
theorem dX3_addRule_13 : decode cX3_addRule 13 = .ok (.putfield 27, 3) := by decide +kernel
theorem dX3_addRule_16 : decode cX3_addRule 16 = .ok (.aload_n 0, 1) := by decide +kernel
theorem dX3_addRule_17 : decode cX3_addRule 17 = .ok (.getfield 9, 3) := by decide +kernel
theorem dX3_addRule_20 : decode cX3_addRule 20 = .ok (.iload 5, 2) := by decide +kernel
theorem dX3_addRule_22 : decode cX3_addRule 22 = .ok (.iload_n 1, 1) := by decide +kernel
theorem dX3_addRule_23 : decode cX3_addRule 23 = .ok (.iastore, 1) := by decide +kernel
theorem dX3_addRule_24 : decode cX3_addRule 24 = .ok (.aload_n 0, 1) := by decide +kernel
theorem dX3_addRule_25 : decode cX3_addRule 25 = .ok (.getfield 15, 3) := by decide +kernel
theorem dX3_addRule_28 : decode cX3_addRule 28 = .ok (.iload 5, 2) := by decide +kernel
theorem dX3_addRule_30 : decode cX3_addRule 30 = .ok (.iload_n 2, 1) := by decide +kernel
theorem dX3_addRule_31 : decode cX3_addRule 31 = .ok (.iastore, 1) := by decide +kernel
theorem dX3_addRule_32 : decode cX3_addRule 32 = .ok (.aload_n 0, 1) := by decide +kernel
theorem dX3_addRule_33 : decode cX3_addRule 33 = .ok (.getfield 18, 3) := by decide +kernel
theorem dX3_addRule_36 : decode cX3_addRule 36 = .ok (.iload 5, 2) := by decide +kernel
theorem dX3_addRule_38 : decode cX3_addRule 38 = .ok (.iload_n 3, 1) := by decide +kernel
theorem dX3_addRule_39 : decode cX3_addRule 39 = .ok (.iastore, 1) := by decide +kernel
theorem dX3_addRule_40 : decode cX3_addRule 40 = .ok (.aload_n 0, 1) := by decide +kernel
theorem dX3_addRule_41 : decode cX3_addRule 41 = .ok (.getfield 21, 3) := by decide +kernel
theorem dX3_addRule_44 : decode cX3_addRule 44 = .ok (.iload 5, 2) := by decide +kernel
theorem dX3_addRule_46 : decode cX3_addRule 46 = .ok (.iload 4, 2) := by decide +kernel
theorem dX3_addRule_48 : decode cX3_addRule 48 = .ok (.iastore, 1) := by decide +kernel
theorem dX3_addRule_49 : decode cX3_addRule 49 = .ok (.aload_n 0, 1) := by decide +kernel
theorem dX3_addRule_50 : decode cX3_addRule 50 = .ok (.invokevirtual 31, 3) := by decide +kernel
theorem dX3_addRule_53 : decode cX3_addRule 53 = .ok (.iload 5, 2) := by decide +kernel
theorem dX3_addRule_55 : decode cX3_addRule 55 = .ok (.ireturn, 1) := by decide +kernel
def wo_r_addRule : List Cond := [.code yX3_addRule cX3_addRule 6 (some .int), .fieldLink RX3 27 "TimingHouse$Rules" "told" "I", .fieldLink RX3 9 "TimingHouse$Rules" "periods" "[I", .fieldLink RX3 15 "TimingHouse$Rules" "froms" "[I", .fieldLink RX3 18 "TimingHouse$Rules" "throughs" "[I", .fieldLink RX3 21 "TimingHouse$Rules" "tos" "[I", .methodLink RX3 31 yX3_spreadBits, .instanceMethod yX3_spreadBits, .selects RX3 yX3_spreadBits yX3_spreadBits, .initialized RX3]
def wr_r_addRule : List Cond := (wsX30 ++ (w_q_spreadBits ++ ([])))
def w_r_addRule : List Cond := wo_r_addRule ++ wr_r_addRule
theorem wg_r_addRule : GW w_r_addRule := GW_app (GW_of (by decide +kernel)) (GW_app (GW_of (by decide +kernel)) (GW_app (wg_q_spreadBits) (GW_nil)))
theorem i_r_addRule_X3 : ∀ w ∈ wsX30, w ∈ w_r_addRule := fun _ h => List.mem_append_right _ (List.mem_append_left _ h)
theorem g_r_addRule_q_spreadBits_31 : GoodIn w_r_addRule (wsV RX3 31 RX3 yX3_spreadBits w_q_spreadBits) := goodIn_app (gi_left (goodIn_of _ (by decide +kernel))) (fun w h => ⟨List.mem_append_right _ (List.mem_append_right _ (List.mem_append_left _ h)), wg_q_spreadBits w h⟩)
set_option maxHeartbeats 8000000 in
set_option maxRecDepth 100000 in
theorem r_addRule (l : Launch) (E : gE) (o_u a_u_periods a_u_froms a_u_throughs a_u_tos a_u_bits : Nat) (f_u_told p1 p2 p3 p4 : Int32) (g_u_periods : Nat → Int32) (g_u_froms : Nat → Int32) (g_u_throughs : Nat → Int32) (g_u_tos : Nat → Int32) (g_u_bits : Nat → Int32) (r_f_u_told : RG f_u_told 0 3) (i_g_u_periods : AR g_u_periods 4 0 4) (i_g_u_froms : AR g_u_froms 4 (-1) 49) (i_g_u_throughs : AR g_u_throughs 4 (-1) 49) (i_g_u_tos : AR g_u_tos 4 (-1) 49) (i_g_u_bits : AR g_u_bits 50 0 15) (r_p1 : RG p1 0 4) (r_p2 : RG p2 (-1) 49) (r_p3 : RG p3 (-1) 49) (r_p4 : RG p4 (-1) 49) : CtI l E yX3_addRule w_r_addRule ({ frames := 1, cells := 0, slots := 0, locals := 22 }) [(o_u, .inr (3, [.int f_u_told, .ref a_u_periods, .ref a_u_froms, .ref a_u_throughs, .ref a_u_tos, .ref a_u_bits])), (a_u_periods, aI E 4 g_u_periods), (a_u_froms, aI E 4 g_u_froms), (a_u_throughs, aI E 4 g_u_throughs), (a_u_tos, aI E 4 g_u_tos), (a_u_bits, aI E 50 g_u_bits)] [.ref o_u, .int p1, .int p2, .int p3, .int p4] (fun r w => (0 ≤ r.toInt ∧ r.toInt ≤ 3) ∧ ∃ nf_u_told : Int32, ∃ ng_u_periods : Nat → Int32, ∃ ng_u_froms : Nat → Int32, ∃ ng_u_throughs : Nat → Int32, ∃ ng_u_tos : Nat → Int32, ∃ ng_u_bits : Nat → Int32, RG nf_u_told 0 4 ∧ AR ng_u_periods 4 0 4 ∧ AR ng_u_froms 4 (-1) 49 ∧ AR ng_u_throughs 4 (-1) 49 ∧ AR ng_u_tos 4 (-1) 49 ∧ AR ng_u_bits 50 0 15 ∧ w = [(o_u, .inr (3, [.int nf_u_told, .ref a_u_periods, .ref a_u_froms, .ref a_u_throughs, .ref a_u_tos, .ref a_u_bits])), (a_u_periods, aI E 4 ng_u_periods), (a_u_froms, aI E 4 ng_u_froms), (a_u_throughs, aI E 4 ng_u_throughs), (a_u_tos, aI E 4 ng_u_tos), (a_u_bits, aI E 50 ng_u_bits)]) := by
  refine CtI.of (cc := cX3_addRule) (maxL := 6) (rt := (some .int)) (by decide) rfl (Nat.le_of_ble_eq_true rfl) ?_
  intro p e s m below meth c A B ls hl
  obtain ⟨hx, hb, hml, hr, hlk, hin, hts, hown, hK, hN, hZ, hA, hP, hD, hS⟩ := B
  replace hown : s.vm.findClass RX3 = some m.cls := hown
  have hto : ∀ w ∈ wo_r_addRule, w.before _ s = true := fun w h => hts w (List.mem_append_left _ h)
  replace hl : lv_has ls 6 [(0, .ref o_u), (1, .int p1), (2, .int p2), (3, .int p3), (4, .int p4)] := hl
  obtain ⟨H, hHe⟩ : ∃ H, H = s.heap := ⟨_, rfl⟩
  obtain ⟨locs, hle⟩ : ∃ l : List Loc, l = [] := ⟨_, rfl⟩
  replace hS : va_S A s.heap H locs := by rw [hHe, hle]; exact hS
  replace hP : va_P E.1 vwCl [(o_u, .inr (3, [.int f_u_told, .ref a_u_periods, .ref a_u_froms, .ref a_u_throughs, .ref a_u_tos, .ref a_u_bits])), (a_u_periods, aI E 4 g_u_periods), (a_u_froms, aI E 4 g_u_froms), (a_u_throughs, aI E 4 g_u_throughs), (a_u_tos, aI E 4 g_u_tos), (a_u_bits, aI E 50 g_u_bits)] H := by rw [hHe]; exact hP
  refine W_hl hHe hle ?_
  clear hHe hle
  refine lv_aload_n hx hb dX3_addRule_0 rfl (lv_at hl 0 rfl) ?_
  refine va_get (D := E.1) (ci := 3) (v := .int f_u_told) (own := RX3) (C := RX3) (T := TX3) (N := 6) hx hb hts i_r_addRule_X3 hown hK hP 0 rfl rfl 0 (by decide) (hto (.fieldLink RX3 27 "TimingHouse$Rules" "told" "I") (by decide +kernel)) (fun _ h9 => h9) rfl dX3_addRule_1 ?_
  refine lv_istore (lv' := [(5, .int f_u_told), (0, .ref o_u), (1, .int p1), (2, .int p2), (3, .int p3), (4, .int p4)]) hx hb dX3_addRule_4 hl (by decide) rfl (fun ls hl => ?_)
  refine lv_aload_n hx hb dX3_addRule_6 rfl (lv_at hl 1 rfl) ?_
  refine lv_dup hx hb dX3_addRule_7 rfl ?_
  refine va_get (D := E.1) (ci := 3) (v := .int f_u_told) (own := RX3) (C := RX3) (T := TX3) (N := 6) hx hb hts i_r_addRule_X3 hown hK hP 0 rfl rfl 0 (by decide) (hto (.fieldLink RX3 27 "TimingHouse$Rules" "told" "I") (by decide +kernel)) (fun _ h9 => h9) rfl dX3_addRule_8 ?_
  refine lv_iconst (v := 1) hx hb dX3_addRule_11 (by decide) ?_
  have b_f_u_told := r_f_u_told.out
  refine lv_iadd hx hb dX3_addRule_12 ?_
  refine lv_topi (fun x_1 ex_1 => ?_)
  have tx_1 : x_1.toInt = f_u_told.toInt + 1 := i3_addc rfl rfl ex_1 (by omega)
  refine va_put (D := E.1) (ci := 3) (v := .int x_1) (ty := .int) (own := RX3) (C := RX3) (T := TX3) (N := 6) hx hb hts i_r_addRule_X3 tyX3 tyX3_ok nmX3 hown hK hP hD hS 0 rfl rfl 0 (by decide) (hto (.fieldLink RX3 27 "TimingHouse$Rules" "told" "I") (by decide +kernel)) (fun _ h9 => h9) rfl (by decide +kernel) rfl rfl (Nat.le_of_ble_eq_true rfl) dX3_addRule_13 (fun H locs hP hD hS => ?_)
  replace hP : va_P E.1 vwCl [(o_u, .inr (3, [.int x_1, .ref a_u_periods, .ref a_u_froms, .ref a_u_throughs, .ref a_u_tos, .ref a_u_bits])), (a_u_periods, aI E 4 g_u_periods), (a_u_froms, aI E 4 g_u_froms), (a_u_throughs, aI E 4 g_u_throughs), (a_u_tos, aI E 4 g_u_tos), (a_u_bits, aI E 50 g_u_bits)] H := hP
  replace hD : va_D A [(o_u, .inr (3, [.int x_1, .ref a_u_periods, .ref a_u_froms, .ref a_u_throughs, .ref a_u_tos, .ref a_u_bits])), (a_u_periods, aI E 4 g_u_periods), (a_u_froms, aI E 4 g_u_froms), (a_u_throughs, aI E 4 g_u_throughs), (a_u_tos, aI E 4 g_u_tos), (a_u_bits, aI E 50 g_u_bits)] := hD
  refine lv_aload_n hx hb dX3_addRule_16 rfl (lv_at hl 1 rfl) ?_
  refine va_get (D := E.1) (ci := 3) (v := .ref a_u_periods) (own := RX3) (C := RX3) (T := TX3) (N := 6) hx hb hts i_r_addRule_X3 hown hK hP 0 rfl rfl 1 (by decide) (hto (.fieldLink RX3 9 "TimingHouse$Rules" "periods" "[I") (by decide +kernel)) (fun _ h9 => h9) rfl dX3_addRule_17 ?_
  refine lv_iload hx hb dX3_addRule_20 (lv_at hl 0 rfl) ?_
  refine lv_iload_n hx hb dX3_addRule_22 rfl (lv_at hl 2 rfl) ?_
  have b_p1 := r_p1.out
  refine st_i hx hb hK hP hD hS 1 rfl (by omega) dX3_addRule_23 (fun g_2 H locs eg_2 hP hD hS => ?_)
  have i_g_2 : AR g_2 4 0 4 := by rw [eg_2]; exact AR.up i_g_u_periods (by omega)
  clear eg_2
  replace hP : va_P E.1 vwCl [(o_u, .inr (3, [.int x_1, .ref a_u_periods, .ref a_u_froms, .ref a_u_throughs, .ref a_u_tos, .ref a_u_bits])), (a_u_periods, aI E 4 g_2), (a_u_froms, aI E 4 g_u_froms), (a_u_throughs, aI E 4 g_u_throughs), (a_u_tos, aI E 4 g_u_tos), (a_u_bits, aI E 50 g_u_bits)] H := hP
  replace hD : va_D A [(o_u, .inr (3, [.int x_1, .ref a_u_periods, .ref a_u_froms, .ref a_u_throughs, .ref a_u_tos, .ref a_u_bits])), (a_u_periods, aI E 4 g_2), (a_u_froms, aI E 4 g_u_froms), (a_u_throughs, aI E 4 g_u_throughs), (a_u_tos, aI E 4 g_u_tos), (a_u_bits, aI E 50 g_u_bits)] := hD
  refine lv_aload_n hx hb dX3_addRule_24 rfl (lv_at hl 1 rfl) ?_
  refine va_get (D := E.1) (ci := 3) (v := .ref a_u_froms) (own := RX3) (C := RX3) (T := TX3) (N := 6) hx hb hts i_r_addRule_X3 hown hK hP 0 rfl rfl 2 (by decide) (hto (.fieldLink RX3 15 "TimingHouse$Rules" "froms" "[I") (by decide +kernel)) (fun _ h9 => h9) rfl dX3_addRule_25 ?_
  refine lv_iload hx hb dX3_addRule_28 (lv_at hl 0 rfl) ?_
  refine lv_iload_n hx hb dX3_addRule_30 rfl (lv_at hl 3 rfl) ?_
  have b_p2 := r_p2.out
  refine st_i hx hb hK hP hD hS 2 rfl (by omega) dX3_addRule_31 (fun g_3 H locs eg_3 hP hD hS => ?_)
  have i_g_3 : AR g_3 4 (-1) 49 := by rw [eg_3]; exact AR.up i_g_u_froms (by omega)
  clear eg_3
  replace hP : va_P E.1 vwCl [(o_u, .inr (3, [.int x_1, .ref a_u_periods, .ref a_u_froms, .ref a_u_throughs, .ref a_u_tos, .ref a_u_bits])), (a_u_periods, aI E 4 g_2), (a_u_froms, aI E 4 g_3), (a_u_throughs, aI E 4 g_u_throughs), (a_u_tos, aI E 4 g_u_tos), (a_u_bits, aI E 50 g_u_bits)] H := hP
  replace hD : va_D A [(o_u, .inr (3, [.int x_1, .ref a_u_periods, .ref a_u_froms, .ref a_u_throughs, .ref a_u_tos, .ref a_u_bits])), (a_u_periods, aI E 4 g_2), (a_u_froms, aI E 4 g_3), (a_u_throughs, aI E 4 g_u_throughs), (a_u_tos, aI E 4 g_u_tos), (a_u_bits, aI E 50 g_u_bits)] := hD
  refine lv_aload_n hx hb dX3_addRule_32 rfl (lv_at hl 1 rfl) ?_
  refine va_get (D := E.1) (ci := 3) (v := .ref a_u_throughs) (own := RX3) (C := RX3) (T := TX3) (N := 6) hx hb hts i_r_addRule_X3 hown hK hP 0 rfl rfl 3 (by decide) (hto (.fieldLink RX3 18 "TimingHouse$Rules" "throughs" "[I") (by decide +kernel)) (fun _ h9 => h9) rfl dX3_addRule_33 ?_
  refine lv_iload hx hb dX3_addRule_36 (lv_at hl 0 rfl) ?_
  refine lv_iload_n hx hb dX3_addRule_38 rfl (lv_at hl 4 rfl) ?_
  have b_p3 := r_p3.out
  refine st_i hx hb hK hP hD hS 3 rfl (by omega) dX3_addRule_39 (fun g_4 H locs eg_4 hP hD hS => ?_)
  have i_g_4 : AR g_4 4 (-1) 49 := by rw [eg_4]; exact AR.up i_g_u_throughs (by omega)
  clear eg_4
  replace hP : va_P E.1 vwCl [(o_u, .inr (3, [.int x_1, .ref a_u_periods, .ref a_u_froms, .ref a_u_throughs, .ref a_u_tos, .ref a_u_bits])), (a_u_periods, aI E 4 g_2), (a_u_froms, aI E 4 g_3), (a_u_throughs, aI E 4 g_4), (a_u_tos, aI E 4 g_u_tos), (a_u_bits, aI E 50 g_u_bits)] H := hP
  replace hD : va_D A [(o_u, .inr (3, [.int x_1, .ref a_u_periods, .ref a_u_froms, .ref a_u_throughs, .ref a_u_tos, .ref a_u_bits])), (a_u_periods, aI E 4 g_2), (a_u_froms, aI E 4 g_3), (a_u_throughs, aI E 4 g_4), (a_u_tos, aI E 4 g_u_tos), (a_u_bits, aI E 50 g_u_bits)] := hD
  refine lv_aload_n hx hb dX3_addRule_40 rfl (lv_at hl 1 rfl) ?_
  refine va_get (D := E.1) (ci := 3) (v := .ref a_u_tos) (own := RX3) (C := RX3) (T := TX3) (N := 6) hx hb hts i_r_addRule_X3 hown hK hP 0 rfl rfl 4 (by decide) (hto (.fieldLink RX3 21 "TimingHouse$Rules" "tos" "[I") (by decide +kernel)) (fun _ h9 => h9) rfl dX3_addRule_41 ?_
  refine lv_iload hx hb dX3_addRule_44 (lv_at hl 0 rfl) ?_
  refine lv_iload hx hb dX3_addRule_46 (lv_at hl 5 rfl) ?_
  have b_p4 := r_p4.out
  refine st_i hx hb hK hP hD hS 4 rfl (by omega) dX3_addRule_48 (fun g_5 H locs eg_5 hP hD hS => ?_)
  have i_g_5 : AR g_5 4 (-1) 49 := by rw [eg_5]; exact AR.up i_g_u_tos (by omega)
  clear eg_5
  replace hP : va_P E.1 vwCl [(o_u, .inr (3, [.int x_1, .ref a_u_periods, .ref a_u_froms, .ref a_u_throughs, .ref a_u_tos, .ref a_u_bits])), (a_u_periods, aI E 4 g_2), (a_u_froms, aI E 4 g_3), (a_u_throughs, aI E 4 g_4), (a_u_tos, aI E 4 g_5), (a_u_bits, aI E 50 g_u_bits)] H := hP
  replace hD : va_D A [(o_u, .inr (3, [.int x_1, .ref a_u_periods, .ref a_u_froms, .ref a_u_throughs, .ref a_u_tos, .ref a_u_bits])), (a_u_periods, aI E 4 g_2), (a_u_froms, aI E 4 g_3), (a_u_throughs, aI E 4 g_4), (a_u_tos, aI E 4 g_5), (a_u_bits, aI E 50 g_u_bits)] := hD
  refine lv_aload_n hx hb dX3_addRule_49 rfl (lv_at hl 1 rfl) ?_
  refine call_v (va_runV (As := []) (rest := []) ⟨hx, hb, hml, hown, hts⟩ (q_spreadBits l E o_u a_u_periods a_u_froms a_u_throughs a_u_tos a_u_bits x_1 g_u_bits g_4 (RG.mk (by omega)) i_g_u_bits i_g_4 H.size) (cwV 0 hts g_r_addRule_q_spreadBits_31 rfl rfl rfl (by decide +kernel) ⟨Nat.le_of_ble_eq_true rfl, Nat.le_of_ble_eq_true rfl⟩) (pre_V hK hN hZ hS (va_free hD hS hA [0, 5, 3] rfl) (hP.sub (ws' := [(o_u, .inr (3, [.int x_1, .ref a_u_periods, .ref a_u_froms, .ref a_u_throughs, .ref a_u_tos, .ref a_u_bits])), (a_u_bits, aI E 50 g_u_bits), (a_u_throughs, aI E 4 g_4)]) [0, 5, 3] rfl) (hD.sub (ws' := [(o_u, .inr (3, [.int x_1, .ref a_u_periods, .ref a_u_froms, .ref a_u_throughs, .ref a_u_tos, .ref a_u_bits])), (a_u_bits, aI E 50 g_u_bits), (a_u_throughs, aI E 4 g_4)]) [0, 5, 3] (by decide) rfl) (ci := 3) (q0 := 0) rfl rfl) rfl rfl hl.1 rfl (lv_room (Nat.le_of_ble_eq_true rfl)) dX3_addRule_50 ⟨Nat.le_of_ble_eq_true rfl, Nat.le_of_ble_eq_true rfl⟩) hP hD hS hA [0, 5, 3] [1, 2, 4] (wr := [(a_u_periods, aI E 4 g_2), (a_u_froms, aI E 4 g_3), (a_u_tos, aI E 4 g_5)]) rfl rfl (by decide) (by decide) (fun w H locs hw hP hD hS => ?_)
  obtain ⟨z_7, i_z_7, rfl⟩ := hw
  replace hP : va_P E.1 vwCl [(a_u_periods, aI E 4 g_2), (a_u_froms, aI E 4 g_3), (a_u_tos, aI E 4 g_5), (o_u, .inr (3, [.int x_1, .ref a_u_periods, .ref a_u_froms, .ref a_u_throughs, .ref a_u_tos, .ref a_u_bits])), (a_u_bits, aI E 50 z_7), (a_u_throughs, aI E 4 g_4)] H := hP
  replace hD : va_D A [(a_u_periods, aI E 4 g_2), (a_u_froms, aI E 4 g_3), (a_u_tos, aI E 4 g_5), (o_u, .inr (3, [.int x_1, .ref a_u_periods, .ref a_u_froms, .ref a_u_throughs, .ref a_u_tos, .ref a_u_bits])), (a_u_bits, aI E 50 z_7), (a_u_throughs, aI E 4 g_4)] := hD
  refine lv_iload hx hb dX3_addRule_53 (lv_at hl 0 rfl) ?_
  exact ret_i hx hb hr hlk (hP.sub (ws' := [(o_u, .inr (3, [.int x_1, .ref a_u_periods, .ref a_u_froms, .ref a_u_throughs, .ref a_u_tos, .ref a_u_bits])), (a_u_periods, aI E 4 g_2), (a_u_froms, aI E 4 g_3), (a_u_throughs, aI E 4 g_4), (a_u_tos, aI E 4 g_5), (a_u_bits, aI E 50 z_7)]) [3, 0, 1, 5, 2, 4] rfl) (hD.sub (ws' := [(o_u, .inr (3, [.int x_1, .ref a_u_periods, .ref a_u_froms, .ref a_u_throughs, .ref a_u_tos, .ref a_u_bits])), (a_u_periods, aI E 4 g_2), (a_u_froms, aI E 4 g_3), (a_u_throughs, aI E 4 g_4), (a_u_tos, aI E 4 g_5), (a_u_bits, aI E 50 z_7)]) [3, 0, 1, 5, 2, 4] (by decide) rfl) hS rfl dX3_addRule_55 (Nat.le_of_ble_eq_true rfl) (Nat.le_of_ble_eq_true rfl) ⟨(by omega), x_1, g_2, g_3, g_4, g_5, z_7, RG.mk (by omega), i_g_2, i_g_3, i_g_4, i_g_5, i_z_7, rfl⟩
theorem dX0_addNode_0 : decode cX0_addNode 0 = .ok (.aload_n 0, 1) := by decide +kernel
theorem dX0_addNode_1 : decode cX0_addNode 1 = .ok (.getfield 25, 3) := by decide +kernel
theorem dX0_addNode_4 : decode cX0_addNode 4 = .ok (.istore 4, 2) := by decide +kernel
theorem dX0_addNode_6 : decode cX0_addNode 6 = .ok (.aload_n 0, 1) := by decide +kernel
theorem dX0_addNode_7 : decode cX0_addNode 7 = .ok (.dup, 1) := by decide +kernel
theorem dX0_addNode_8 : decode cX0_addNode 8 = .ok (.getfield 25, 3) := by decide +kernel
theorem dX0_addNode_11 : decode cX0_addNode 11 = .ok (.iconst 1, 1) := by decide +kernel
theorem dX0_addNode_12 : decode cX0_addNode 12 = .ok (.iadd, 1) := by decide +kernel
theorem dX0_addNode_13 : decode cX0_addNode 13 = .ok (.putfield 25, 3) := by decide +kernel
theorem dX0_addNode_16 : decode cX0_addNode 16 = .ok (.aload_n 0, 1) := by decide +kernel
theorem dX0_addNode_17 : decode cX0_addNode 17 = .ok (.getfield 15, 3) := by decide +kernel
theorem dX0_addNode_20 : decode cX0_addNode 20 = .ok (.iload 4, 2) := by decide +kernel
theorem dX0_addNode_22 : decode cX0_addNode 22 = .ok (.iload_n 1, 1) := by decide +kernel
theorem dX0_addNode_23 : decode cX0_addNode 23 = .ok (.iastore, 1) := by decide +kernel
theorem dX0_addNode_24 : decode cX0_addNode 24 = .ok (.aload_n 0, 1) := by decide +kernel
theorem dX0_addNode_25 : decode cX0_addNode 25 = .ok (.getfield 19, 3) := by decide +kernel
theorem dX0_addNode_28 : decode cX0_addNode 28 = .ok (.iload 4, 2) := by decide +kernel
theorem dX0_addNode_30 : decode cX0_addNode 30 = .ok (.aload_n 0, 1) := by decide +kernel
theorem dX0_addNode_31 : decode cX0_addNode 31 = .ok (.iload_n 1, 1) := by decide +kernel
theorem dX0_addNode_32 : decode cX0_addNode 32 = .ok (.invokevirtual 28, 3) := by decide +kernel
theorem dX0_addNode_35 : decode cX0_addNode 35 = .ok (.iload_n 2, 1) := by decide +kernel
theorem dX0_addNode_36 : decode cX0_addNode 36 = .ok (.iadd, 1) := by decide +kernel
theorem dX0_addNode_37 : decode cX0_addNode 37 = .ok (.iastore, 1) := by decide +kernel
theorem dX0_addNode_38 : decode cX0_addNode 38 = .ok (.aload_n 0, 1) := by decide +kernel
theorem dX0_addNode_39 : decode cX0_addNode 39 = .ok (.getfield 22, 3) := by decide +kernel
theorem dX0_addNode_42 : decode cX0_addNode 42 = .ok (.iload 4, 2) := by decide +kernel
theorem dX0_addNode_44 : decode cX0_addNode 44 = .ok (.aload_n 0, 1) := by decide +kernel
theorem dX0_addNode_45 : decode cX0_addNode 45 = .ok (.iload_n 1, 1) := by decide +kernel
theorem dX0_addNode_46 : decode cX0_addNode 46 = .ok (.invokevirtual 32, 3) := by decide +kernel
theorem dX0_addNode_49 : decode cX0_addNode 49 = .ok (.iload_n 3, 1) := by decide +kernel
theorem dX0_addNode_50 : decode cX0_addNode 50 = .ok (.iadd, 1) := by decide +kernel
theorem dX0_addNode_51 : decode cX0_addNode 51 = .ok (.iastore, 1) := by decide +kernel
theorem dX0_addNode_52 : decode cX0_addNode 52 = .ok (.iload 4, 2) := by decide +kernel
theorem dX0_addNode_54 : decode cX0_addNode 54 = .ok (.ireturn, 1) := by decide +kernel
def wo_r_addNode : List Cond := [.code yX0_addNode cX0_addNode 5 (some .int), .fieldLink RX0 25 "TimingHouse$Clock" "nodes" "I", .fieldLink RX0 15 "TimingHouse$Clock" "parents" "[I", .fieldLink RX0 19 "TimingHouse$Clock" "earlySums" "[I", .methodLink RX0 28 yX0_earlyOf, .instanceMethod yX0_earlyOf, .selects RX0 yX0_earlyOf yX0_earlyOf, .initialized RX0, .fieldLink RX0 22 "TimingHouse$Clock" "lateSums" "[I", .methodLink RX0 32 yX0_lateOf, .instanceMethod yX0_lateOf, .selects RX0 yX0_lateOf yX0_lateOf]
def wr_r_addNode : List Cond := (wsX00 ++ (w_q_earlyOf ++ (w_q_lateOf ++ ([]))))
def w_r_addNode : List Cond := wo_r_addNode ++ wr_r_addNode
theorem wg_r_addNode : GW w_r_addNode := GW_app (GW_of (by decide +kernel)) (GW_app (GW_of (by decide +kernel)) (GW_app (wg_q_earlyOf) (GW_app (wg_q_lateOf) (GW_nil))))
theorem i_r_addNode_X0 : ∀ w ∈ wsX00, w ∈ w_r_addNode := fun _ h => List.mem_append_right _ (List.mem_append_left _ h)
theorem g_r_addNode_q_earlyOf_28 : GoodIn w_r_addNode (wsV RX0 28 RX0 yX0_earlyOf w_q_earlyOf) := goodIn_app (gi_left (goodIn_of _ (by decide +kernel))) (fun w h => ⟨List.mem_append_right _ (List.mem_append_right _ (List.mem_append_left _ h)), wg_q_earlyOf w h⟩)
theorem g_r_addNode_q_lateOf_32 : GoodIn w_r_addNode (wsV RX0 32 RX0 yX0_lateOf w_q_lateOf) := goodIn_app (gi_left (goodIn_of _ (by decide +kernel))) (fun w h => ⟨List.mem_append_right _ (List.mem_append_right _ (List.mem_append_right _ (List.mem_append_left _ h))), wg_q_lateOf w h⟩)
set_option maxHeartbeats 8000000 in
set_option maxRecDepth 100000 in
theorem r_addNode (l : Launch) (E : gE) (o_k a_k_parents a_k_earlySums a_k_lateSums : Nat) (f_k_length f_k_nodes p1 p2 p3 : Int32) (g_k_parents : Nat → Int32) (g_k_earlySums : Nat → Int32) (g_k_lateSums : Nat → Int32) (r_f_k_length : RG f_k_length 1 1000000) (r_f_k_nodes : RG f_k_nodes 0 19) (i_g_k_parents : AR g_k_parents 20 (-1) 19) (r_p1 : RG p1 (-1) 19) : CtI l E yX0_addNode w_r_addNode ({ frames := 1, cells := 0, slots := 0, locals := 21 }) [(o_k, .inr (0, [.int f_k_length, .int f_k_nodes, .ref a_k_parents, .ref a_k_earlySums, .ref a_k_lateSums])), (a_k_parents, aI E 20 g_k_parents), (a_k_earlySums, aI E 20 g_k_earlySums), (a_k_lateSums, aI E 20 g_k_lateSums)] [.ref o_k, .int p1, .int p2, .int p3] (fun r w => (0 ≤ r.toInt ∧ r.toInt ≤ 19) ∧ ∃ nf_k_nodes : Int32, ∃ ng_k_parents : Nat → Int32, ∃ ng_k_earlySums : Nat → Int32, ∃ ng_k_lateSums : Nat → Int32, RG nf_k_nodes 0 20 ∧ AR ng_k_parents 20 (-1) 19 ∧ w = [(o_k, .inr (0, [.int f_k_length, .int nf_k_nodes, .ref a_k_parents, .ref a_k_earlySums, .ref a_k_lateSums])), (a_k_parents, aI E 20 ng_k_parents), (a_k_earlySums, aI E 20 ng_k_earlySums), (a_k_lateSums, aI E 20 ng_k_lateSums)]) := by
  refine CtI.of (cc := cX0_addNode) (maxL := 5) (rt := (some .int)) (by decide) rfl (Nat.le_of_ble_eq_true rfl) ?_
  intro p e s m below meth c A B ls hl
  obtain ⟨hx, hb, hml, hr, hlk, hin, hts, hown, hK, hN, hZ, hA, hP, hD, hS⟩ := B
  replace hown : s.vm.findClass RX0 = some m.cls := hown
  have hto : ∀ w ∈ wo_r_addNode, w.before _ s = true := fun w h => hts w (List.mem_append_left _ h)
  replace hl : lv_has ls 5 [(0, .ref o_k), (1, .int p1), (2, .int p2), (3, .int p3)] := hl
  obtain ⟨H, hHe⟩ : ∃ H, H = s.heap := ⟨_, rfl⟩
  obtain ⟨locs, hle⟩ : ∃ l : List Loc, l = [] := ⟨_, rfl⟩
  replace hS : va_S A s.heap H locs := by rw [hHe, hle]; exact hS
  replace hP : va_P E.1 vwCl [(o_k, .inr (0, [.int f_k_length, .int f_k_nodes, .ref a_k_parents, .ref a_k_earlySums, .ref a_k_lateSums])), (a_k_parents, aI E 20 g_k_parents), (a_k_earlySums, aI E 20 g_k_earlySums), (a_k_lateSums, aI E 20 g_k_lateSums)] H := by rw [hHe]; exact hP
  refine W_hl hHe hle ?_
  clear hHe hle
  refine lv_aload_n hx hb dX0_addNode_0 rfl (lv_at hl 0 rfl) ?_
  refine va_get (D := E.1) (ci := 0) (v := .int f_k_nodes) (own := RX0) (C := RX0) (T := TX0) (N := 5) hx hb hts i_r_addNode_X0 hown hK hP 0 rfl rfl 1 (by decide) (hto (.fieldLink RX0 25 "TimingHouse$Clock" "nodes" "I") (by decide +kernel)) (fun _ h9 => h9) rfl dX0_addNode_1 ?_
  refine lv_istore (lv' := [(4, .int f_k_nodes), (0, .ref o_k), (1, .int p1), (2, .int p2), (3, .int p3)]) hx hb dX0_addNode_4 hl (by decide) rfl (fun ls hl => ?_)
  refine lv_aload_n hx hb dX0_addNode_6 rfl (lv_at hl 1 rfl) ?_
  refine lv_dup hx hb dX0_addNode_7 rfl ?_
  refine va_get (D := E.1) (ci := 0) (v := .int f_k_nodes) (own := RX0) (C := RX0) (T := TX0) (N := 5) hx hb hts i_r_addNode_X0 hown hK hP 0 rfl rfl 1 (by decide) (hto (.fieldLink RX0 25 "TimingHouse$Clock" "nodes" "I") (by decide +kernel)) (fun _ h9 => h9) rfl dX0_addNode_8 ?_
  refine lv_iconst (v := 1) hx hb dX0_addNode_11 (by decide) ?_
  have b_f_k_nodes := r_f_k_nodes.out
  refine lv_iadd hx hb dX0_addNode_12 ?_
  refine lv_topi (fun x_1 ex_1 => ?_)
  have tx_1 : x_1.toInt = f_k_nodes.toInt + 1 := i3_addc rfl rfl ex_1 (by omega)
  refine va_put (D := E.1) (ci := 0) (v := .int x_1) (ty := .int) (own := RX0) (C := RX0) (T := TX0) (N := 5) hx hb hts i_r_addNode_X0 tyX0 tyX0_ok nmX0 hown hK hP hD hS 0 rfl rfl 1 (by decide) (hto (.fieldLink RX0 25 "TimingHouse$Clock" "nodes" "I") (by decide +kernel)) (fun _ h9 => h9) rfl (by decide +kernel) rfl rfl (Nat.le_of_ble_eq_true rfl) dX0_addNode_13 (fun H locs hP hD hS => ?_)
  replace hP : va_P E.1 vwCl [(o_k, .inr (0, [.int f_k_length, .int x_1, .ref a_k_parents, .ref a_k_earlySums, .ref a_k_lateSums])), (a_k_parents, aI E 20 g_k_parents), (a_k_earlySums, aI E 20 g_k_earlySums), (a_k_lateSums, aI E 20 g_k_lateSums)] H := hP
  replace hD : va_D A [(o_k, .inr (0, [.int f_k_length, .int x_1, .ref a_k_parents, .ref a_k_earlySums, .ref a_k_lateSums])), (a_k_parents, aI E 20 g_k_parents), (a_k_earlySums, aI E 20 g_k_earlySums), (a_k_lateSums, aI E 20 g_k_lateSums)] := hD
  refine lv_aload_n hx hb dX0_addNode_16 rfl (lv_at hl 1 rfl) ?_
  refine va_get (D := E.1) (ci := 0) (v := .ref a_k_parents) (own := RX0) (C := RX0) (T := TX0) (N := 5) hx hb hts i_r_addNode_X0 hown hK hP 0 rfl rfl 2 (by decide) (hto (.fieldLink RX0 15 "TimingHouse$Clock" "parents" "[I") (by decide +kernel)) (fun _ h9 => h9) rfl dX0_addNode_17 ?_
  refine lv_iload hx hb dX0_addNode_20 (lv_at hl 0 rfl) ?_
  refine lv_iload_n hx hb dX0_addNode_22 rfl (lv_at hl 2 rfl) ?_
  have b_p1 := r_p1.out
  refine st_i hx hb hK hP hD hS 1 rfl (by omega) dX0_addNode_23 (fun g_2 H locs eg_2 hP hD hS => ?_)
  have i_g_2 : AR g_2 20 (-1) 19 := by rw [eg_2]; exact AR.up i_g_k_parents (by omega)
  clear eg_2
  replace hP : va_P E.1 vwCl [(o_k, .inr (0, [.int f_k_length, .int x_1, .ref a_k_parents, .ref a_k_earlySums, .ref a_k_lateSums])), (a_k_parents, aI E 20 g_2), (a_k_earlySums, aI E 20 g_k_earlySums), (a_k_lateSums, aI E 20 g_k_lateSums)] H := hP
  replace hD : va_D A [(o_k, .inr (0, [.int f_k_length, .int x_1, .ref a_k_parents, .ref a_k_earlySums, .ref a_k_lateSums])), (a_k_parents, aI E 20 g_2), (a_k_earlySums, aI E 20 g_k_earlySums), (a_k_lateSums, aI E 20 g_k_lateSums)] := hD
  refine lv_aload_n hx hb dX0_addNode_24 rfl (lv_at hl 1 rfl) ?_
  refine va_get (D := E.1) (ci := 0) (v := .ref a_k_earlySums) (own := RX0) (C := RX0) (T := TX0) (N := 5) hx hb hts i_r_addNode_X0 hown hK hP 0 rfl rfl 3 (by decide) (hto (.fieldLink RX0 19 "TimingHouse$Clock" "earlySums" "[I") (by decide +kernel)) (fun _ h9 => h9) rfl dX0_addNode_25 ?_
  refine lv_iload hx hb dX0_addNode_28 (lv_at hl 0 rfl) ?_
  refine lv_aload_n hx hb dX0_addNode_30 rfl (lv_at hl 1 rfl) ?_
  refine lv_iload_n hx hb dX0_addNode_31 rfl (lv_at hl 2 rfl) ?_
  refine call_i (va_runV (As := [.int p1]) (rest := [.int f_k_nodes, .ref a_k_earlySums]) ⟨hx, hb, hml, hown, hts⟩ (q_earlyOf l E o_k a_k_parents a_k_earlySums a_k_lateSums f_k_length x_1 p1 g_k_earlySums r_f_k_length (RG.mk (by omega)) r_p1 H.size) (cwV 1 hts g_r_addNode_q_earlyOf_28 rfl rfl rfl (by decide +kernel) ⟨Nat.le_of_ble_eq_true rfl, Nat.le_of_ble_eq_true rfl⟩) (pre_V hK hN hZ hS (va_free hD hS hA [0, 2] rfl) (hP.sub (ws' := [(o_k, .inr (0, [.int f_k_length, .int x_1, .ref a_k_parents, .ref a_k_earlySums, .ref a_k_lateSums])), (a_k_earlySums, aI E 20 g_k_earlySums)]) [0, 2] rfl) (hD.sub (ws' := [(o_k, .inr (0, [.int f_k_length, .int x_1, .ref a_k_parents, .ref a_k_earlySums, .ref a_k_lateSums])), (a_k_earlySums, aI E 20 g_k_earlySums)]) [0, 2] (by decide) rfl) (ci := 0) (q0 := 0) rfl rfl) rfl rfl hl.1 rfl (lv_room (Nat.le_of_ble_eq_true rfl)) dX0_addNode_32 ⟨Nat.le_of_ble_eq_true rfl, Nat.le_of_ble_eq_true rfl⟩) hP hD hS hA [0, 2] [1, 3] (wr := [(a_k_parents, aI E 20 g_2), (a_k_lateSums, aI E 20 g_k_lateSums)]) rfl rfl (by decide) (by decide) (fun r_3 w H locs hw hP hD hS => ?_)
  obtain ⟨b_r_3, rfl⟩ := hw
  replace hP : va_P E.1 vwCl [(a_k_parents, aI E 20 g_2), (a_k_lateSums, aI E 20 g_k_lateSums), (o_k, .inr (0, [.int f_k_length, .int x_1, .ref a_k_parents, .ref a_k_earlySums, .ref a_k_lateSums])), (a_k_earlySums, aI E 20 g_k_earlySums)] H := hP
  replace hD : va_D A [(a_k_parents, aI E 20 g_2), (a_k_lateSums, aI E 20 g_k_lateSums), (o_k, .inr (0, [.int f_k_length, .int x_1, .ref a_k_parents, .ref a_k_earlySums, .ref a_k_lateSums])), (a_k_earlySums, aI E 20 g_k_earlySums)] := hD
  refine lv_iload_n hx hb dX0_addNode_35 rfl (lv_at hl 3 rfl) ?_
  refine lv_iadd hx hb dX0_addNode_36 ?_
  refine lv_topi (fun x_4 ex_4 => ?_)
  have bd_5 := i3_bd r_3
  have bd_6 := i3_bd p2
  refine st_i hx hb hK hP hD hS 3 rfl (by omega) dX0_addNode_37 (fun g_7 H locs eg_7 hP hD hS => ?_)
  clear eg_7
  replace hP : va_P E.1 vwCl [(a_k_parents, aI E 20 g_2), (a_k_lateSums, aI E 20 g_k_lateSums), (o_k, .inr (0, [.int f_k_length, .int x_1, .ref a_k_parents, .ref a_k_earlySums, .ref a_k_lateSums])), (a_k_earlySums, aI E 20 g_7)] H := hP
  replace hD : va_D A [(a_k_parents, aI E 20 g_2), (a_k_lateSums, aI E 20 g_k_lateSums), (o_k, .inr (0, [.int f_k_length, .int x_1, .ref a_k_parents, .ref a_k_earlySums, .ref a_k_lateSums])), (a_k_earlySums, aI E 20 g_7)] := hD
  refine lv_aload_n hx hb dX0_addNode_38 rfl (lv_at hl 1 rfl) ?_
  refine va_get (D := E.1) (ci := 0) (v := .ref a_k_lateSums) (own := RX0) (C := RX0) (T := TX0) (N := 5) hx hb hts i_r_addNode_X0 hown hK hP 2 rfl rfl 4 (by decide) (hto (.fieldLink RX0 22 "TimingHouse$Clock" "lateSums" "[I") (by decide +kernel)) (fun _ h9 => h9) rfl dX0_addNode_39 ?_
  refine lv_iload hx hb dX0_addNode_42 (lv_at hl 0 rfl) ?_
  refine lv_aload_n hx hb dX0_addNode_44 rfl (lv_at hl 1 rfl) ?_
  refine lv_iload_n hx hb dX0_addNode_45 rfl (lv_at hl 2 rfl) ?_
  refine call_i (va_runV (As := [.int p1]) (rest := [.int f_k_nodes, .ref a_k_lateSums]) ⟨hx, hb, hml, hown, hts⟩ (q_lateOf l E o_k a_k_parents a_k_earlySums a_k_lateSums f_k_length x_1 p1 g_k_lateSums r_f_k_length (RG.mk (by omega)) r_p1 H.size) (cwV 1 hts g_r_addNode_q_lateOf_32 rfl rfl rfl (by decide +kernel) ⟨Nat.le_of_ble_eq_true rfl, Nat.le_of_ble_eq_true rfl⟩) (pre_V hK hN hZ hS (va_free hD hS hA [2, 1] rfl) (hP.sub (ws' := [(o_k, .inr (0, [.int f_k_length, .int x_1, .ref a_k_parents, .ref a_k_earlySums, .ref a_k_lateSums])), (a_k_lateSums, aI E 20 g_k_lateSums)]) [2, 1] rfl) (hD.sub (ws' := [(o_k, .inr (0, [.int f_k_length, .int x_1, .ref a_k_parents, .ref a_k_earlySums, .ref a_k_lateSums])), (a_k_lateSums, aI E 20 g_k_lateSums)]) [2, 1] (by decide) rfl) (ci := 0) (q0 := 0) rfl rfl) rfl rfl hl.1 rfl (lv_room (Nat.le_of_ble_eq_true rfl)) dX0_addNode_46 ⟨Nat.le_of_ble_eq_true rfl, Nat.le_of_ble_eq_true rfl⟩) hP hD hS hA [2, 1] [0, 3] (wr := [(a_k_parents, aI E 20 g_2), (a_k_earlySums, aI E 20 g_7)]) rfl rfl (by decide) (by decide) (fun r_8 w H locs hw hP hD hS => ?_)
  obtain ⟨b_r_8, rfl⟩ := hw
  replace hP : va_P E.1 vwCl [(a_k_parents, aI E 20 g_2), (a_k_earlySums, aI E 20 g_7), (o_k, .inr (0, [.int f_k_length, .int x_1, .ref a_k_parents, .ref a_k_earlySums, .ref a_k_lateSums])), (a_k_lateSums, aI E 20 g_k_lateSums)] H := hP
  replace hD : va_D A [(a_k_parents, aI E 20 g_2), (a_k_earlySums, aI E 20 g_7), (o_k, .inr (0, [.int f_k_length, .int x_1, .ref a_k_parents, .ref a_k_earlySums, .ref a_k_lateSums])), (a_k_lateSums, aI E 20 g_k_lateSums)] := hD
  refine lv_iload_n hx hb dX0_addNode_49 rfl (lv_at hl 4 rfl) ?_
  refine lv_iadd hx hb dX0_addNode_50 ?_
  refine lv_topi (fun x_9 ex_9 => ?_)
  have bd_10 := i3_bd r_8
  have bd_11 := i3_bd p3
  refine st_i hx hb hK hP hD hS 3 rfl (by omega) dX0_addNode_51 (fun g_12 H locs eg_12 hP hD hS => ?_)
  clear eg_12
  replace hP : va_P E.1 vwCl [(a_k_parents, aI E 20 g_2), (a_k_earlySums, aI E 20 g_7), (o_k, .inr (0, [.int f_k_length, .int x_1, .ref a_k_parents, .ref a_k_earlySums, .ref a_k_lateSums])), (a_k_lateSums, aI E 20 g_12)] H := hP
  replace hD : va_D A [(a_k_parents, aI E 20 g_2), (a_k_earlySums, aI E 20 g_7), (o_k, .inr (0, [.int f_k_length, .int x_1, .ref a_k_parents, .ref a_k_earlySums, .ref a_k_lateSums])), (a_k_lateSums, aI E 20 g_12)] := hD
  refine lv_iload hx hb dX0_addNode_52 (lv_at hl 0 rfl) ?_
  exact ret_i hx hb hr hlk (hP.sub (ws' := [(o_k, .inr (0, [.int f_k_length, .int x_1, .ref a_k_parents, .ref a_k_earlySums, .ref a_k_lateSums])), (a_k_parents, aI E 20 g_2), (a_k_earlySums, aI E 20 g_7), (a_k_lateSums, aI E 20 g_12)]) [2, 0, 1, 3] rfl) (hD.sub (ws' := [(o_k, .inr (0, [.int f_k_length, .int x_1, .ref a_k_parents, .ref a_k_earlySums, .ref a_k_lateSums])), (a_k_parents, aI E 20 g_2), (a_k_earlySums, aI E 20 g_7), (a_k_lateSums, aI E 20 g_12)]) [2, 0, 1, 3] (by decide) rfl) hS rfl dX0_addNode_54 (Nat.le_of_ble_eq_true rfl) (Nat.le_of_ble_eq_true rfl) ⟨(by omega), x_1, g_2, g_7, g_12, RG.mk (by omega), i_g_2, rfl⟩
