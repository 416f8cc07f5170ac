theorem dX5_hasRow_0 : decode cX5_hasRow 0 = .ok (.iload_n 0, 1) := by decide +kernel
theorem dX5_hasRow_1 : decode cX5_hasRow 1 = .ok (.invokestatic 27, 3) := by decide +kernel
theorem dX5_hasRow_4 : decode cX5_hasRow 4 = .ok (.ifCond .eq 25, 3) := by decide +kernel
theorem dX5_hasRow_29 : decode cX5_hasRow 29 = .ok (.iconst 0, 1) := by decide +kernel
theorem dX5_hasRow_30 : decode cX5_hasRow 30 = .ok (.ireturn, 1) := by decide +kernel
theorem dX5_hasRow_7 : decode cX5_hasRow 7 = .ok (.iload_n 1, 1) := by decide +kernel
theorem dX5_hasRow_8 : decode cX5_hasRow 8 = .ok (.ifCond .lt 21, 3) := by decide +kernel
theorem dX5_hasRow_11 : decode cX5_hasRow 11 = .ok (.iload_n 1, 1) := by decide +kernel
theorem dX5_hasRow_12 : decode cX5_hasRow 12 = .ok (.iconst 2, 1) := by decide +kernel
theorem dX5_hasRow_13 : decode cX5_hasRow 13 = .ok (.if_icmp .ge 16, 3) := by decide +kernel
theorem dX5_hasRow_16 : decode cX5_hasRow 16 = .ok (.iload_n 2, 1) := by decide +kernel
theorem dX5_hasRow_17 : decode cX5_hasRow 17 = .ok (.ifCond .lt 12, 3) := by decide +kernel
theorem dX5_hasRow_20 : decode cX5_hasRow 20 = .ok (.iload_n 2, 1) := by decide +kernel
theorem dX5_hasRow_21 : decode cX5_hasRow 21 = .ok (.iconst 4, 1) := by decide +kernel
theorem dX5_hasRow_22 : decode cX5_hasRow 22 = .ok (.if_icmp .ge 7, 3) := by decide +kernel
theorem dX5_hasRow_25 : decode cX5_hasRow 25 = .ok (.iconst 1, 1) := by decide +kernel
theorem dX5_hasRow_26 : decode cX5_hasRow 26 = .ok (.goto 4, 3) := by decide +kernel
def wo_q_hasRow : List Cond := [.code yX5_hasRow cX5_hasRow 3 (some .boolean), .methodLink RX5 27 yX5_has, .static yX5_has, .initialized RX5]
def wr_q_hasRow : List Cond := (w_q_thas ++ ([]))
def w_q_hasRow : List Cond := wo_q_hasRow ++ wr_q_hasRow
theorem wg_q_hasRow : GW w_q_hasRow := GW_app (GW_of (by decide +kernel)) (GW_app (wg_q_thas) (GW_nil))
theorem g_q_hasRow_q_thas_27 : GoodIn w_q_hasRow (va_wsS RX5 27 yX5_has w_q_thas) := goodIn_app (gi_left (goodIn_of _ (by decide +kernel))) (fun w h => ⟨List.mem_append_right _ (List.mem_append_left _ h), wg_q_thas w h⟩)
set_option maxHeartbeats 8000000 in
set_option maxRecDepth 100000 in
theorem q_hasRow (l : Launch) (E : gE) (t pt rw : Int32) : CtI l E yX5_hasRow w_q_hasRow ({ frames := 1, cells := 0, slots := 0, locals := 20 }) [] [.int t, .int pt, .int rw] (fun r w => (0 ≤ r.toInt ∧ r.toInt ≤ 1) ∧ w = []) := by
  refine CtI.of (cc := cX5_hasRow) (maxL := 3) (rt := (some .boolean)) (by decide) rfl (Nat.le_of_ble_eq_true rfl) ?_
  intro p e s m below meth c A B ls hl
  obtain ⟨hx, hb, hml, hr, hlk, hin, hts, hown, hK, hN, hZ, hA, hP, hD, hS⟩ := B
  replace hown : s.vm.findClass RX5 = some m.cls := hown
  have hto : ∀ w ∈ wo_q_hasRow, w.before _ s = true := fun w h => hts w (List.mem_append_left _ h)
  replace hl : lv_has ls 3 [(0, .int t), (1, .int pt), (2, .int rw)] := hl
  obtain ⟨H, hHe⟩ : ∃ H, H = s.heap := ⟨_, rfl⟩
  obtain ⟨locs, hle⟩ : ∃ l : List Loc, l = [] := ⟨_, rfl⟩
  replace hS : va_S A s.heap H locs := by rw [hHe, hle]; exact hS
  replace hP : va_P E.1 vwCl [] H := by rw [hHe]; exact hP
  refine W_hl hHe hle ?_
  clear hHe hle
  refine lv_iload_n hx hb dX5_hasRow_0 rfl (lv_at hl 0 rfl) ?_
  refine call_i (va_runS (As := [.int t]) (rest := []) ⟨hx, hb, hml, hown, hts⟩ (q_thas l E t H.size) (va_cwS 1 hts g_q_hasRow_q_thas_27 rfl rfl rfl (by decide +kernel) ⟨Nat.le_of_ble_eq_true rfl, Nat.le_of_ble_eq_true rfl⟩) (pre_S hK hN hZ hS (va_free hD hS hA [] rfl) (hP.sub (ws' := []) [] rfl) (hD.sub (ws' := []) [] (by decide) rfl)) rfl rfl hl.1 rfl (lv_room (Nat.le_of_ble_eq_true rfl)) dX5_hasRow_1 ⟨Nat.le_of_ble_eq_true rfl, Nat.le_of_ble_eq_true rfl⟩) hP hD hS hA [] [] (wr := []) rfl rfl (by decide) (by decide) (fun r_1 w H locs hw hP hD hS => ?_)
  obtain ⟨b_r_1, rfl⟩ := hw
  replace hP : va_P E.1 vwCl [] H := hP
  replace hD : va_D A [] := hD
  refine lv_if_eq (tgt := 29) hx hb dX5_hasRow_4 (by decide) (fun c_2 => ?_) (fun c_2 => ?_)
  · have e_2 : r_1.toInt = 0 := i3_eq c_2
    refine lv_iconst (v := 0) hx hb dX5_hasRow_29 (by decide) ?_
    exact ret_i hx hb hr hlk (hP.sub (ws' := []) [] rfl) (hD.sub (ws' := []) [] (by decide) rfl) hS rfl dX5_hasRow_30 (Nat.le_of_ble_eq_true rfl) (Nat.le_of_ble_eq_true rfl) ⟨(by decide), rfl⟩
  · have e_2 : r_1.toInt ≠ 0 := i3_ne c_2
    refine lv_iload_n hx hb dX5_hasRow_7 rfl (lv_at hl 1 rfl) ?_
    refine lv_if_lt (tgt := 29) hx hb dX5_hasRow_8 (by decide) (fun c_3 => ?_) (fun c_3 => ?_)
    · have e_3 : pt.toInt < 0 := i3_lt c_3
      refine lv_iconst (v := 0) hx hb dX5_hasRow_29 (by decide) ?_
      exact ret_i hx hb hr hlk (hP.sub (ws' := []) [] rfl) (hD.sub (ws' := []) [] (by decide) rfl) hS rfl dX5_hasRow_30 (Nat.le_of_ble_eq_true rfl) (Nat.le_of_ble_eq_true rfl) ⟨(by decide), rfl⟩
    · have e_3 : 0 ≤ pt.toInt := i3_nlt c_3
      refine lv_iload_n hx hb dX5_hasRow_11 rfl (lv_at hl 1 rfl) ?_
      refine lv_iconst (v := 2) hx hb dX5_hasRow_12 (by decide) ?_
      refine lv_icmp_ge (tgt := 29) hx hb dX5_hasRow_13 (by decide) (fun c_4 => ?_) (fun c_4 => ?_)
      · have e_4 : 2 ≤ pt.toInt := i3_le c_4
        refine lv_iconst (v := 0) hx hb dX5_hasRow_29 (by decide) ?_
        exact ret_i hx hb hr hlk (hP.sub (ws' := []) [] rfl) (hD.sub (ws' := []) [] (by decide) rfl) hS rfl dX5_hasRow_30 (Nat.le_of_ble_eq_true rfl) (Nat.le_of_ble_eq_true rfl) ⟨(by decide), rfl⟩
      · have e_4 : pt.toInt < 2 := i3_nle c_4
        refine lv_iload_n hx hb dX5_hasRow_16 rfl (lv_at hl 2 rfl) ?_
        refine lv_if_lt (tgt := 29) hx hb dX5_hasRow_17 (by decide) (fun c_5 => ?_) (fun c_5 => ?_)
        · have e_5 : rw.toInt < 0 := i3_lt c_5
          refine lv_iconst (v := 0) hx hb dX5_hasRow_29 (by decide) ?_
          exact ret_i hx hb hr hlk (hP.sub (ws' := []) [] rfl) (hD.sub (ws' := []) [] (by decide) rfl) hS rfl dX5_hasRow_30 (Nat.le_of_ble_eq_true rfl) (Nat.le_of_ble_eq_true rfl) ⟨(by decide), rfl⟩
        · have e_5 : 0 ≤ rw.toInt := i3_nlt c_5
          refine lv_iload_n hx hb dX5_hasRow_20 rfl (lv_at hl 2 rfl) ?_
          refine lv_iconst (v := 4) hx hb dX5_hasRow_21 (by decide) ?_
          refine lv_icmp_ge (tgt := 29) hx hb dX5_hasRow_22 (by decide) (fun c_6 => ?_) (fun c_6 => ?_)
          · have e_6 : 4 ≤ rw.toInt := i3_le c_6
            refine lv_iconst (v := 0) hx hb dX5_hasRow_29 (by decide) ?_
            exact ret_i hx hb hr hlk (hP.sub (ws' := []) [] rfl) (hD.sub (ws' := []) [] (by decide) rfl) hS rfl dX5_hasRow_30 (Nat.le_of_ble_eq_true rfl) (Nat.le_of_ble_eq_true rfl) ⟨(by decide), rfl⟩
          · have e_6 : rw.toInt < 4 := i3_nle c_6
            refine lv_iconst (v := 1) hx hb dX5_hasRow_25 (by decide) ?_
            refine lv_goto (tgt := 30) hx hb dX5_hasRow_26 (by decide) ?_
            exact ret_i hx hb hr hlk (hP.sub (ws' := []) [] rfl) (hD.sub (ws' := []) [] (by decide) rfl) hS rfl dX5_hasRow_30 (Nat.le_of_ble_eq_true rfl) (Nat.le_of_ble_eq_true rfl) ⟨(by decide), rfl⟩
theorem dX5_rowPlace_0 : decode cX5_rowPlace 0 = .ok (.iload_n 0, 1) := by decide +kernel
theorem dX5_rowPlace_1 : decode cX5_rowPlace 1 = .ok (.iconst 2, 1) := by decide +kernel
theorem dX5_rowPlace_2 : decode cX5_rowPlace 2 = .ok (.imul, 1) := by decide +kernel
theorem dX5_rowPlace_3 : decode cX5_rowPlace 3 = .ok (.iload_n 1, 1) := by decide +kernel
theorem dX5_rowPlace_4 : decode cX5_rowPlace 4 = .ok (.iadd, 1) := by decide +kernel
theorem dX5_rowPlace_5 : decode cX5_rowPlace 5 = .ok (.iconst 4, 1) := by decide +kernel
theorem dX5_rowPlace_6 : decode cX5_rowPlace 6 = .ok (.imul, 1) := by decide +kernel
theorem dX5_rowPlace_7 : decode cX5_rowPlace 7 = .ok (.iload_n 2, 1) := by decide +kernel
theorem dX5_rowPlace_8 : decode cX5_rowPlace 8 = .ok (.iadd, 1) := by decide +kernel
theorem dX5_rowPlace_9 : decode cX5_rowPlace 9 = .ok (.ireturn, 1) := by decide +kernel
def wo_q_rowPlace : List Cond := [.code yX5_rowPlace cX5_rowPlace 3 (some .int)]
def wr_q_rowPlace : List Cond := []
def w_q_rowPlace : List Cond := wo_q_rowPlace ++ wr_q_rowPlace
theorem wg_q_rowPlace : GW w_q_rowPlace := GW_app (GW_of (by decide +kernel)) (GW_nil)
set_option maxHeartbeats 8000000 in
set_option maxRecDepth 100000 in
theorem q_rowPlace (l : Launch) (E : gE) (t pt rw : Int32) (r_t : RG t 0 7) (r_pt : RG pt 0 1) (r_rw : RG rw 0 3) : CtI l E yX5_rowPlace w_q_rowPlace ({ frames := 0, cells := 0, slots := 0, locals := 0 }) [] [.int t, .int pt, .int rw] (fun r w => (0 ≤ r.toInt ∧ r.toInt ≤ 63) ∧ r.toInt = (t.toInt * 2 + pt.toInt) * 4 + rw.toInt ∧ w = []) := by
  refine CtI.of (cc := cX5_rowPlace) (maxL := 3) (rt := (some .int)) (by decide) rfl (Nat.le_of_ble_eq_true rfl) ?_
  intro p e s m below meth c A B ls hl
  obtain ⟨hx, hb, hml, hr, hlk, hin, hts, hown, hK, hN, hZ, hA, hP, hD, hS⟩ := B
  replace hown : s.vm.findClass RX5 = some m.cls := hown
  have hto : ∀ w ∈ wo_q_rowPlace, w.before _ s = true := fun w h => hts w (List.mem_append_left _ h)
  replace hl : lv_has ls 3 [(0, .int t), (1, .int pt), (2, .int rw)] := hl
  obtain ⟨H, hHe⟩ : ∃ H, H = s.heap := ⟨_, rfl⟩
  obtain ⟨locs, hle⟩ : ∃ l : List Loc, l = [] := ⟨_, rfl⟩
  replace hS : va_S A s.heap H locs := by rw [hHe, hle]; exact hS
  replace hP : va_P E.1 vwCl [] H := by rw [hHe]; exact hP
  refine W_hl hHe hle ?_
  clear hHe hle
  refine lv_iload_n hx hb dX5_rowPlace_0 rfl (lv_at hl 0 rfl) ?_
  refine lv_iconst (v := 2) hx hb dX5_rowPlace_1 (by decide) ?_
  have b_t := r_t.out
  refine lv_imul hx hb dX5_rowPlace_2 ?_
  refine lv_topi (fun x_1 ex_1 => ?_)
  have tx_1 : x_1.toInt = t.toInt * 2 := i3_mulc rfl rfl ex_1 (by omega)
  refine lv_iload_n hx hb dX5_rowPlace_3 rfl (lv_at hl 1 rfl) ?_
  have b_pt := r_pt.out
  refine lv_iadd hx hb dX5_rowPlace_4 ?_
  refine lv_topi (fun x_2 ex_2 => ?_)
  have tx_2 : x_2.toInt = x_1.toInt + pt.toInt := i3_addc rfl rfl ex_2 (by omega)
  refine lv_iconst (v := 4) hx hb dX5_rowPlace_5 (by decide) ?_
  refine lv_imul hx hb dX5_rowPlace_6 ?_
  refine lv_topi (fun x_3 ex_3 => ?_)
  have tx_3 : x_3.toInt = x_2.toInt * 4 := i3_mulc rfl rfl ex_3 (by omega)
  refine lv_iload_n hx hb dX5_rowPlace_7 rfl (lv_at hl 2 rfl) ?_
  have b_rw := r_rw.out
  refine lv_iadd hx hb dX5_rowPlace_8 ?_
  refine lv_topi (fun x_4 ex_4 => ?_)
  have tx_4 : x_4.toInt = x_3.toInt + rw.toInt := i3_addc rfl rfl ex_4 (by omega)
  exact ret_i hx hb hr hlk (hP.sub (ws' := []) [] rfl) (hD.sub (ws' := []) [] (by decide) rfl) hS rfl dX5_rowPlace_9 (Nat.le_of_ble_eq_true rfl) (Nat.le_of_ble_eq_true rfl) ⟨(by omega), (by omega), rfl⟩
theorem dX5_whyAbsent_0 : decode cX5_whyAbsent 0 = .ok (.aload_n 0, 1) := by decide +kernel
theorem dX5_whyAbsent_1 : decode cX5_whyAbsent 1 = .ok (.getfield 15, 3) := by decide +kernel
theorem dX5_whyAbsent_4 : decode cX5_whyAbsent 4 = .ok (.iload_n 1, 1) := by decide +kernel
theorem dX5_whyAbsent_5 : decode cX5_whyAbsent 5 = .ok (.iaload, 1) := by decide +kernel
theorem dX5_whyAbsent_6 : decode cX5_whyAbsent 6 = .ok (.ifCond .ne 6, 3) := by decide +kernel
theorem dX5_whyAbsent_12 : decode cX5_whyAbsent 12 = .ok (.iload_n 2, 1) := by decide +kernel
theorem dX5_whyAbsent_13 : decode cX5_whyAbsent 13 = .ok (.aload_n 0, 1) := by decide +kernel
theorem dX5_whyAbsent_14 : decode cX5_whyAbsent 14 = .ok (.getfield 15, 3) := by decide +kernel
theorem dX5_whyAbsent_17 : decode cX5_whyAbsent 17 = .ok (.iload_n 1, 1) := by decide +kernel
theorem dX5_whyAbsent_18 : decode cX5_whyAbsent 18 = .ok (.iaload, 1) := by decide +kernel
theorem dX5_whyAbsent_19 : decode cX5_whyAbsent 19 = .ok (.if_icmp .ge 7, 3) := by decide +kernel
theorem dX5_whyAbsent_26 : decode cX5_whyAbsent 26 = .ok (.bipush (-12), 2) := by decide +kernel
theorem dX5_whyAbsent_28 : decode cX5_whyAbsent 28 = .ok (.ireturn, 1) := by decide +kernel
theorem dX5_whyAbsent_22 : decode cX5_whyAbsent 22 = .ok (.iconst 0, 1) := by decide +kernel
theorem dX5_whyAbsent_23 : decode cX5_whyAbsent 23 = .ok (.goto 5, 3) := by decide +kernel
theorem dX5_whyAbsent_9 : decode cX5_whyAbsent 9 = .ok (.bipush (-11), 2) := by decide +kernel
theorem dX5_whyAbsent_11 : decode cX5_whyAbsent 11 = .ok (.ireturn, 1) := by decide +kernel
def wo_q_whyAbsent : List Cond := [.code yX5_whyAbsent cX5_whyAbsent 3 (some .int), .fieldLink RX5 15 "TimingHouse$Tables" "lefts" "[I"]
def wr_q_whyAbsent : List Cond := (wsX50 ++ ([]))
def w_q_whyAbsent : List Cond := wo_q_whyAbsent ++ wr_q_whyAbsent
theorem wg_q_whyAbsent : GW w_q_whyAbsent := GW_app (GW_of (by decide +kernel)) (GW_app (GW_of (by decide +kernel)) (GW_nil))
theorem i_q_whyAbsent_X5 : ∀ w ∈ wsX50, w ∈ w_q_whyAbsent := fun _ h => List.mem_append_right _ (List.mem_append_left _ h)
set_option maxHeartbeats 8000000 in
set_option maxRecDepth 100000 in
theorem q_whyAbsent (l : Launch) (E : gE) (o_t a_t_numbers a_t_lefts a_t_falls : Nat) (f_t_lateCorner f_t_earlyCorner p1 p2 : Int32) (g_t_lefts : Nat → Int32) (r_f_t_lateCorner : RG f_t_lateCorner 0 500) (r_f_t_earlyCorner : RG f_t_earlyCorner 0 500) (i_g_t_lefts : AR g_t_lefts 64 0 3) (r_p1 : RG p1 0 63) : CtI l E yX5_whyAbsent w_q_whyAbsent ({ frames := 0, cells := 0, slots := 0, locals := 0 }) [(o_t, .inr (5, [.ref a_t_numbers, .ref a_t_lefts, .ref a_t_falls, .int f_t_lateCorner, .int f_t_earlyCorner])), (a_t_lefts, aI E 64 g_t_lefts)] [.ref o_t, .int p1, .int p2] (fun r w => ((-12) ≤ r.toInt ∧ r.toInt ≤ 0) ∧ w = [(o_t, .inr (5, [.ref a_t_numbers, .ref a_t_lefts, .ref a_t_falls, .int f_t_lateCorner, .int f_t_earlyCorner])), (a_t_lefts, aI E 64 g_t_lefts)]) := by
  refine CtI.of (cc := cX5_whyAbsent) (maxL := 3) (rt := (some .int)) (by decide) rfl (Nat.le_of_ble_eq_true rfl) ?_
  intro p e s m below meth c A B ls hl
  obtain ⟨hx, hb, hml, hr, hlk, hin, hts, hown, hK, hN, hZ, hA, hP, hD, hS⟩ := B
  replace hown : s.vm.findClass RX5 = some m.cls := hown
  have hto : ∀ w ∈ wo_q_whyAbsent, w.before _ s = true := fun w h => hts w (List.mem_append_left _ h)
  replace hl : lv_has ls 3 [(0, .ref o_t), (1, .int p1), (2, .int p2)] := hl
  obtain ⟨H, hHe⟩ : ∃ H, H = s.heap := ⟨_, rfl⟩
  obtain ⟨locs, hle⟩ : ∃ l : List Loc, l = [] := ⟨_, rfl⟩
  replace hS : va_S A s.heap H locs := by rw [hHe, hle]; exact hS
  replace hP : va_P E.1 vwCl [(o_t, .inr (5, [.ref a_t_numbers, .ref a_t_lefts, .ref a_t_falls, .int f_t_lateCorner, .int f_t_earlyCorner])), (a_t_lefts, aI E 64 g_t_lefts)] H := by rw [hHe]; exact hP
  refine W_hl hHe hle ?_
  clear hHe hle
  refine lv_aload_n hx hb dX5_whyAbsent_0 rfl (lv_at hl 0 rfl) ?_
  refine va_get (D := E.1) (ci := 5) (v := .ref a_t_lefts) (own := RX5) (C := RX5) (T := TX5) (N := 5) hx hb hts i_q_whyAbsent_X5 hown hK hP 0 rfl rfl 1 (by decide) (hto (.fieldLink RX5 15 "TimingHouse$Tables" "lefts" "[I") (by decide +kernel)) (fun _ h9 => h9) rfl dX5_whyAbsent_1 ?_
  refine lv_iload_n hx hb dX5_whyAbsent_4 rfl (lv_at hl 1 rfl) ?_
  have b_p1 := r_p1.out
  refine ld_i hx hb hK hP 1 rfl (by omega) dX5_whyAbsent_5 (fun x_1 ex_1 => ?_)
  have b_x_1 := AR.rd i_g_t_lefts ex_1 (by omega)
  refine lv_if_ne (tgt := 12) hx hb dX5_whyAbsent_6 (by decide) (fun c_2 => ?_) (fun c_2 => ?_)
  · have e_2 : x_1.toInt ≠ 0 := i3_ne c_2
    refine lv_iload_n hx hb dX5_whyAbsent_12 rfl (lv_at hl 2 rfl) ?_
    refine lv_aload_n hx hb dX5_whyAbsent_13 rfl (lv_at hl 0 rfl) ?_
    refine va_get (D := E.1) (ci := 5) (v := .ref a_t_lefts) (own := RX5) (C := RX5) (T := TX5) (N := 5) hx hb hts i_q_whyAbsent_X5 hown hK hP 0 rfl rfl 1 (by decide) (hto (.fieldLink RX5 15 "TimingHouse$Tables" "lefts" "[I") (by decide +kernel)) (fun _ h9 => h9) rfl dX5_whyAbsent_14 ?_
    refine lv_iload_n hx hb dX5_whyAbsent_17 rfl (lv_at hl 1 rfl) ?_
    refine ld_i hx hb hK hP 1 rfl (by omega) dX5_whyAbsent_18 (fun x_3 ex_3 => ?_)
    have hq_x_3 : x_1 = x_3 := ex_1.trans ex_3.symm
    subst hq_x_3
    refine lv_icmp_ge (tgt := 26) hx hb dX5_whyAbsent_19 (by decide) (fun c_4 => ?_) (fun c_4 => ?_)
    · have e_4 : x_1.toInt ≤ p2.toInt := i3_le c_4
      refine lv_bipush (v := (-12)) hx hb dX5_whyAbsent_26 (by decide) ?_
      exact ret_i hx hb hr hlk (hP.sub (ws' := [(o_t, .inr (5, [.ref a_t_numbers, .ref a_t_lefts, .ref a_t_falls, .int f_t_lateCorner, .int f_t_earlyCorner])), (a_t_lefts, aI E 64 g_t_lefts)]) [0, 1] rfl) (hD.sub (ws' := [(o_t, .inr (5, [.ref a_t_numbers, .ref a_t_lefts, .ref a_t_falls, .int f_t_lateCorner, .int f_t_earlyCorner])), (a_t_lefts, aI E 64 g_t_lefts)]) [0, 1] (by decide) rfl) hS rfl dX5_whyAbsent_28 (Nat.le_of_ble_eq_true rfl) (Nat.le_of_ble_eq_true rfl) ⟨(by decide), rfl⟩
    · have e_4 : p2.toInt < x_1.toInt := i3_nle c_4
      refine lv_iconst (v := 0) hx hb dX5_whyAbsent_22 (by decide) ?_
      refine lv_goto (tgt := 28) hx hb dX5_whyAbsent_23 (by decide) ?_
      exact ret_i hx hb hr hlk (hP.sub (ws' := [(o_t, .inr (5, [.ref a_t_numbers, .ref a_t_lefts, .ref a_t_falls, .int f_t_lateCorner, .int f_t_earlyCorner])), (a_t_lefts, aI E 64 g_t_lefts)]) [0, 1] rfl) (hD.sub (ws' := [(o_t, .inr (5, [.ref a_t_numbers, .ref a_t_lefts, .ref a_t_falls, .int f_t_lateCorner, .int f_t_earlyCorner])), (a_t_lefts, aI E 64 g_t_lefts)]) [0, 1] (by decide) rfl) hS rfl dX5_whyAbsent_28 (Nat.le_of_ble_eq_true rfl) (Nat.le_of_ble_eq_true rfl) ⟨(by decide), rfl⟩
  · have e_2 : x_1.toInt = 0 := i3_eq c_2
    refine lv_bipush (v := (-11)) hx hb dX5_whyAbsent_9 (by decide) ?_
    exact ret_i hx hb hr hlk (hP.sub (ws' := [(o_t, .inr (5, [.ref a_t_numbers, .ref a_t_lefts, .ref a_t_falls, .int f_t_lateCorner, .int f_t_earlyCorner])), (a_t_lefts, aI E 64 g_t_lefts)]) [0, 1] rfl) (hD.sub (ws' := [(o_t, .inr (5, [.ref a_t_numbers, .ref a_t_lefts, .ref a_t_falls, .int f_t_lateCorner, .int f_t_earlyCorner])), (a_t_lefts, aI E 64 g_t_lefts)]) [0, 1] (by decide) rfl) hS rfl dX5_whyAbsent_11 (Nat.le_of_ble_eq_true rfl) (Nat.le_of_ble_eq_true rfl) ⟨(by decide), rfl⟩
theorem dX5_cutRow_0 : decode cX5_cutRow 0 = .ok (.aload_n 0, 1) := by decide +kernel
theorem dX5_cutRow_1 : decode cX5_cutRow 1 = .ok (.getfield 15, 3) := by decide +kernel
theorem dX5_cutRow_4 : decode cX5_cutRow 4 = .ok (.iload_n 1, 1) := by decide +kernel
theorem dX5_cutRow_5 : decode cX5_cutRow 5 = .ok (.iaload, 1) := by decide +kernel
theorem dX5_cutRow_6 : decode cX5_cutRow 6 = .ok (.istore_n 3, 1) := by decide +kernel
theorem dX5_cutRow_7 : decode cX5_cutRow 7 = .ok (.iload_n 3, 1) := by decide +kernel
theorem dX5_cutRow_8 : decode cX5_cutRow 8 = .ok (.istore 4, 2) := by decide +kernel
theorem dX5_cutRow_10 : decode cX5_cutRow 10 = .ok (.iload 4, 2) := by decide +kernel
theorem dX5_cutRow_12 : decode cX5_cutRow 12 = .ok (.iload_n 2, 1) := by decide +kernel
theorem dX5_cutRow_13 : decode cX5_cutRow 13 = .ok (.if_icmp .ge 22, 3) := by decide +kernel
theorem dX5_cutRow_35 : decode cX5_cutRow 35 = .ok (.aload_n 0, 1) := by decide +kernel
theorem dX5_cutRow_36 : decode cX5_cutRow 36 = .ok (.getfield 15, 3) := by decide +kernel
theorem dX5_cutRow_39 : decode cX5_cutRow 39 = .ok (.iload_n 1, 1) := by decide +kernel
theorem dX5_cutRow_40 : decode cX5_cutRow 40 = .ok (.iload_n 2, 1) := by decide +kernel
theorem dX5_cutRow_41 : decode cX5_cutRow 41 = .ok (.iastore, 1) := by decide +kernel
theorem dX5_cutRow_42 : decode cX5_cutRow 42 = .ok (.iload_n 3, 1) := by decide +kernel
theorem dX5_cutRow_43 : decode cX5_cutRow 43 = .ok (.ireturn, 1) := by decide +kernel
theorem dX5_cutRow_16 : decode cX5_cutRow 16 = .ok (.aload_n 0, 1) := by decide +kernel
theorem dX5_cutRow_17 : decode cX5_cutRow 17 = .ok (.getfield 9, 3) := by decide +kernel
theorem dX5_cutRow_20 : decode cX5_cutRow 20 = .ok (.iload_n 1, 1) := by decide +kernel
theorem dX5_cutRow_21 : decode cX5_cutRow 21 = .ok (.iconst 3, 1) := by decide +kernel
theorem dX5_cutRow_22 : decode cX5_cutRow 22 = .ok (.imul, 1) := by decide +kernel
theorem dX5_cutRow_23 : decode cX5_cutRow 23 = .ok (.iload 4, 2) := by decide +kernel
theorem dX5_cutRow_25 : decode cX5_cutRow 25 = .ok (.iadd, 1) := by decide +kernel
theorem dX5_cutRow_26 : decode cX5_cutRow 26 = .ok (.bipush 10, 2) := by decide +kernel
theorem dX5_cutRow_28 : decode cX5_cutRow 28 = .ok (.iastore, 1) := by decide +kernel
theorem dX5_cutRow_29 : decode cX5_cutRow 29 = .ok (.iinc 4 1, 3) := by decide +kernel
theorem dX5_cutRow_32 : decode cX5_cutRow 32 = .ok (.goto (-22), 3) := by decide +kernel
def wo_q_cutRow : List Cond := [.code yX5_cutRow cX5_cutRow 5 (some .int), .fieldLink RX5 15 "TimingHouse$Tables" "lefts" "[I", .fieldLink RX5 9 "TimingHouse$Tables" "numbers" "[I"]
def wr_q_cutRow : List Cond := (wsX50 ++ ([]))
def w_q_cutRow : List Cond := wo_q_cutRow ++ wr_q_cutRow
theorem wg_q_cutRow : GW w_q_cutRow := GW_app (GW_of (by decide +kernel)) (GW_app (GW_of (by decide +kernel)) (GW_nil))
theorem i_q_cutRow_X5 : ∀ w ∈ wsX50, w ∈ w_q_cutRow := fun _ h => List.mem_append_right _ (List.mem_append_left _ h)
set_option maxHeartbeats 8000000 in
set_option maxRecDepth 100000 in
theorem q_cutRow (l : Launch) (E : gE) (o_t a_t_numbers a_t_lefts a_t_falls : Nat) (f_t_lateCorner f_t_earlyCorner p1 p2 : Int32) (g_t_lefts : Nat → Int32) (g_t_numbers : Nat → Int32) (r_f_t_lateCorner : RG f_t_lateCorner 0 500) (r_f_t_earlyCorner : RG f_t_earlyCorner 0 500) (i_g_t_lefts : AR g_t_lefts 64 0 3) (i_g_t_numbers : AR g_t_numbers 192 0 3000) (r_p1 : RG p1 0 63) (r_p2 : RG p2 0 3) : CtI l E yX5_cutRow w_q_cutRow ({ frames := 0, cells := 0, slots := 0, locals := 0 }) [(o_t, .inr (5, [.ref a_t_numbers, .ref a_t_lefts, .ref a_t_falls, .int f_t_lateCorner, .int f_t_earlyCorner])), (a_t_lefts, aI E 64 g_t_lefts), (a_t_numbers, aI E 192 g_t_numbers)] [.ref o_t, .int p1, .int p2] (fun r w => (0 ≤ r.toInt ∧ r.toInt ≤ 3) ∧ ∃ ng_t_lefts : Nat → Int32, ∃ ng_t_numbers : Nat → Int32, AR ng_t_lefts 64 0 3 ∧ AR ng_t_numbers 192 0 3000 ∧ w = [(o_t, .inr (5, [.ref a_t_numbers, .ref a_t_lefts, .ref a_t_falls, .int f_t_lateCorner, .int f_t_earlyCorner])), (a_t_lefts, aI E 64 ng_t_lefts), (a_t_numbers, aI E 192 ng_t_numbers)]) := by
  refine CtI.of (cc := cX5_cutRow) (maxL := 5) (rt := (some .int)) (by decide) rfl (Nat.le_of_ble_eq_true rfl) ?_
  intro p e s m below meth c A B ls hl
  obtain ⟨hx, hb, hml, hr, hlk, hin, hts, hown, hK, hN, hZ, hA, hP, hD, hS⟩ := B
  replace hown : s.vm.findClass RX5 = some m.cls := hown
  have hto : ∀ w ∈ wo_q_cutRow, w.before _ s = true := fun w h => hts w (List.mem_append_left _ h)
  replace hl : lv_has ls 5 [(0, .ref o_t), (1, .int p1), (2, .int p2)] := hl
  obtain ⟨H, hHe⟩ : ∃ H, H = s.heap := ⟨_, rfl⟩
  obtain ⟨locs, hle⟩ : ∃ l : List Loc, l = [] := ⟨_, rfl⟩
  replace hS : va_S A s.heap H locs := by rw [hHe, hle]; exact hS
  replace hP : va_P E.1 vwCl [(o_t, .inr (5, [.ref a_t_numbers, .ref a_t_lefts, .ref a_t_falls, .int f_t_lateCorner, .int f_t_earlyCorner])), (a_t_lefts, aI E 64 g_t_lefts), (a_t_numbers, aI E 192 g_t_numbers)] H := by rw [hHe]; exact hP
  refine W_hl hHe hle ?_
  clear hHe hle
  refine lv_aload_n hx hb dX5_cutRow_0 rfl (lv_at hl 0 rfl) ?_
  refine va_get (D := E.1) (ci := 5) (v := .ref a_t_lefts) (own := RX5) (C := RX5) (T := TX5) (N := 5) hx hb hts i_q_cutRow_X5 hown hK hP 0 rfl rfl 1 (by decide) (hto (.fieldLink RX5 15 "TimingHouse$Tables" "lefts" "[I") (by decide +kernel)) (fun _ h9 => h9) rfl dX5_cutRow_1 ?_
  refine lv_iload_n hx hb dX5_cutRow_4 rfl (lv_at hl 1 rfl) ?_
  have b_p1 := r_p1.out
  refine ld_i hx hb hK hP 1 rfl (by omega) dX5_cutRow_5 (fun x_1 ex_1 => ?_)
  have b_x_1 := AR.rd i_g_t_lefts ex_1 (by omega)
  refine lv_istore_n (lv' := [(3, .int x_1), (0, .ref o_t), (1, .int p1), (2, .int p2)]) hx hb dX5_cutRow_6 rfl hl (by decide) rfl (fun ls hl => ?_)
  refine lv_iload_n hx hb dX5_cutRow_7 rfl (lv_at hl 0 rfl) ?_
  refine lv_istore (lv' := [(4, .int x_1), (3, .int x_1), (0, .ref o_t), (1, .int p1), (2, .int p2)]) hx hb dX5_cutRow_8 hl (by decide) rfl (fun ls hl => ?_)
  obtain ⟨y_2, hy_2⟩ : ∃ y : Int32, y = x_1 := ⟨_, rfl⟩
  have b_y_2 : 0 ≤ y_2.toInt ∧ y_2.toInt ≤ 3 := by rw [hy_2]; omega
  replace hl : lv_has ls 5 [(4, .int y_2), (3, .int x_1), (0, .ref o_t), (1, .int p1), (2, .int p2)] := by rw [hy_2]; exact hl
  obtain ⟨y_3, hy_3⟩ : ∃ g : Nat → Int32, g = g_t_lefts := ⟨_, rfl⟩
  have i_y_3 : AR y_3 64 0 3 := by rw [hy_3]; exact i_g_t_lefts
  obtain ⟨y_4, hy_4⟩ : ∃ g : Nat → Int32, g = g_t_numbers := ⟨_, rfl⟩
  have i_y_4 : AR y_4 192 0 3000 := by rw [hy_4]; exact i_g_t_numbers
  replace hP : va_P E.1 vwCl [(o_t, .inr (5, [.ref a_t_numbers, .ref a_t_lefts, .ref a_t_falls, .int f_t_lateCorner, .int f_t_earlyCorner])), (a_t_lefts, aI E 64 y_3), (a_t_numbers, aI E 192 y_4)] H := by rw [hy_3, hy_4]; exact hP
  replace hD : va_D A [(o_t, .inr (5, [.ref a_t_numbers, .ref a_t_lefts, .ref a_t_falls, .int f_t_lateCorner, .int f_t_earlyCorner])), (a_t_lefts, aI E 64 y_3), (a_t_numbers, aI E 192 y_4)] := by rw [hy_3, hy_4]; exact hD
  clear hy_2 hy_3 hy_4
  obtain ⟨d_5, hd_5⟩ : ∃ d : Nat, 3 - y_2.toInt < (d : Int) := ⟨(3 - y_2.toInt + 1).toNat, by omega⟩
  induction d_5 generalizing y_2 y_3 y_4 H locs ls with
  | zero => exfalso; omega
  | succ d_5 ih_d_5 =>
    refine lv_iload hx hb dX5_cutRow_10 (lv_at hl 0 rfl) ?_
    refine lv_iload_n hx hb dX5_cutRow_12 rfl (lv_at hl 4 rfl) ?_
    have b_p2 := r_p2.out
    refine lv_icmp_ge (tgt := 35) hx hb dX5_cutRow_13 (by decide) (fun c_6 => ?_) (fun c_6 => ?_)
    · have e_6 : p2.toInt ≤ y_2.toInt := i3_le c_6
      refine lv_aload_n hx hb dX5_cutRow_35 rfl (lv_at hl 2 rfl) ?_
      refine va_get (D := E.1) (ci := 5) (v := .ref a_t_lefts) (own := RX5) (C := RX5) (T := TX5) (N := 5) hx hb hts i_q_cutRow_X5 hown hK hP 0 rfl rfl 1 (by decide) (hto (.fieldLink RX5 15 "TimingHouse$Tables" "lefts" "[I") (by decide +kernel)) (fun _ h9 => h9) rfl dX5_cutRow_36 ?_
      refine lv_iload_n hx hb dX5_cutRow_39 rfl (lv_at hl 3 rfl) ?_
      refine lv_iload_n hx hb dX5_cutRow_40 rfl (lv_at hl 4 rfl) ?_
      refine st_i hx hb hK hP hD hS 1 rfl (by omega) dX5_cutRow_41 (fun g_7 H locs eg_7 hP hD hS => ?_)
      have i_g_7 : AR g_7 64 0 3 := by rw [eg_7]; exact AR.up i_y_3 (by omega)
      clear eg_7
      replace hP : va_P E.1 vwCl [(o_t, .inr (5, [.ref a_t_numbers, .ref a_t_lefts, .ref a_t_falls, .int f_t_lateCorner, .int f_t_earlyCorner])), (a_t_lefts, aI E 64 g_7), (a_t_numbers, aI E 192 y_4)] H := hP
      replace hD : va_D A [(o_t, .inr (5, [.ref a_t_numbers, .ref a_t_lefts, .ref a_t_falls, .int f_t_lateCorner, .int f_t_earlyCorner])), (a_t_lefts, aI E 64 g_7), (a_t_numbers, aI E 192 y_4)] := hD
      refine lv_iload_n hx hb dX5_cutRow_42 rfl (lv_at hl 1 rfl) ?_
      exact ret_i hx hb hr hlk (hP.sub (ws' := [(o_t, .inr (5, [.ref a_t_numbers, .ref a_t_lefts, .ref a_t_falls, .int f_t_lateCorner, .int f_t_earlyCorner])), (a_t_lefts, aI E 64 g_7), (a_t_numbers, aI E 192 y_4)]) [0, 1, 2] rfl) (hD.sub (ws' := [(o_t, .inr (5, [.ref a_t_numbers, .ref a_t_lefts, .ref a_t_falls, .int f_t_lateCorner, .int f_t_earlyCorner])), (a_t_lefts, aI E 64 g_7), (a_t_numbers, aI E 192 y_4)]) [0, 1, 2] (by decide) rfl) hS rfl dX5_cutRow_43 (Nat.le_of_ble_eq_true rfl) (Nat.le_of_ble_eq_true rfl) ⟨(by omega), g_7, y_4, i_g_7, i_y_4, rfl⟩
    · have e_6 : y_2.toInt < p2.toInt := i3_nle c_6
      refine lv_aload_n hx hb dX5_cutRow_16 rfl (lv_at hl 2 rfl) ?_
      refine va_get (D := E.1) (ci := 5) (v := .ref a_t_numbers) (own := RX5) (C := RX5) (T := TX5) (N := 5) hx hb hts i_q_cutRow_X5 hown hK hP 0 rfl rfl 0 (by decide) (hto (.fieldLink RX5 9 "TimingHouse$Tables" "numbers" "[I") (by decide +kernel)) (fun _ h9 => h9) rfl dX5_cutRow_17 ?_
      refine lv_iload_n hx hb dX5_cutRow_20 rfl (lv_at hl 3 rfl) ?_
      refine lv_iconst (v := 3) hx hb dX5_cutRow_21 (by decide) ?_
      refine lv_imul hx hb dX5_cutRow_22 ?_
      refine lv_topi (fun x_8 ex_8 => ?_)
      have tx_8 : x_8.toInt = p1.toInt * 3 := i3_mulc rfl rfl ex_8 (by omega)
      refine lv_iload hx hb dX5_cutRow_23 (lv_at hl 0 rfl) ?_
      refine lv_iadd hx hb dX5_cutRow_25 ?_
      refine lv_topi (fun x_9 ex_9 => ?_)
      have tx_9 : x_9.toInt = x_8.toInt + y_2.toInt := i3_addc rfl rfl ex_9 (by omega)
      refine lv_bipush (v := 10) hx hb dX5_cutRow_26 (by decide) ?_
      refine st_i hx hb hK hP hD hS 2 rfl (by omega) dX5_cutRow_28 (fun g_10 H locs eg_10 hP hD hS => ?_)
      have i_g_10 : AR g_10 192 0 3000 := by rw [eg_10]; exact AR.up i_y_4 (by decide)
      clear eg_10
      replace hP : va_P E.1 vwCl [(o_t, .inr (5, [.ref a_t_numbers, .ref a_t_lefts, .ref a_t_falls, .int f_t_lateCorner, .int f_t_earlyCorner])), (a_t_lefts, aI E 64 y_3), (a_t_numbers, aI E 192 g_10)] H := hP
      replace hD : va_D A [(o_t, .inr (5, [.ref a_t_numbers, .ref a_t_lefts, .ref a_t_falls, .int f_t_lateCorner, .int f_t_earlyCorner])), (a_t_lefts, aI E 64 y_3), (a_t_numbers, aI E 192 g_10)] := hD
      obtain ⟨x_11, ex_11⟩ : ∃ y : Int32, y = y_2 + 1 := ⟨_, rfl⟩
      have tx_11 : x_11.toInt = y_2.toInt + 1 := i3_addc rfl rfl ex_11 (by omega)
      refine lv_iinc (v := x_11) (lv' := [(4, .int x_11), (3, .int x_1), (0, .ref o_t), (1, .int p1), (2, .int p2)]) hx hb dX5_cutRow_29 hl (k := 0) rfl (by rw [ex_11]; rfl) (by decide) rfl (fun ls hl => ?_)
      refine lv_goto (tgt := 10) hx hb dX5_cutRow_32 (by decide) ?_
      apply ih_d_5 (y_2 := x_11) (y_3 := y_3) (y_4 := g_10) (H := H) (locs := locs) (ls := ls) <;> first | assumption | omega | decide
theorem dX5_weighRow_0 : decode cX5_weighRow 0 = .ok (.iload_n 1, 1) := by decide +kernel
theorem dX5_weighRow_1 : decode cX5_weighRow 1 = .ok (.iconst 3, 1) := by decide +kernel
theorem dX5_weighRow_2 : decode cX5_weighRow 2 = .ok (.imul, 1) := by decide +kernel
theorem dX5_weighRow_3 : decode cX5_weighRow 3 = .ok (.iload_n 2, 1) := by decide +kernel
theorem dX5_weighRow_4 : decode cX5_weighRow 4 = .ok (.iadd, 1) := by decide +kernel
theorem dX5_weighRow_5 : decode cX5_weighRow 5 = .ok (.istore 5, 2) := by decide +kernel
theorem dX5_weighRow_7 : decode cX5_weighRow 7 = .ok (.aload_n 0, 1) := by decide +kernel
theorem dX5_weighRow_8 : decode cX5_weighRow 8 = .ok (.getfield 9, 3) := by decide +kernel
theorem dX5_weighRow_11 : decode cX5_weighRow 11 = .ok (.iload 5, 2) := by decide +kernel
theorem dX5_weighRow_13 : decode cX5_weighRow 13 = .ok (.iaload, 1) := by decide +kernel
theorem dX5_weighRow_14 : decode cX5_weighRow 14 = .ok (.iload 4, 2) := by decide +kernel
theorem dX5_weighRow_16 : decode cX5_weighRow 16 = .ok (.iload_n 3, 1) := by decide +kernel
theorem dX5_weighRow_17 : decode cX5_weighRow 17 = .ok (.isub, 1) := by decide +kernel
theorem dX5_weighRow_18 : decode cX5_weighRow 18 = .ok (.imul, 1) := by decide +kernel
theorem dX5_weighRow_19 : decode cX5_weighRow 19 = .ok (.istore 6, 2) := by decide +kernel
theorem dX5_weighRow_21 : decode cX5_weighRow 21 = .ok (.iload_n 3, 1) := by decide +kernel
theorem dX5_weighRow_22 : decode cX5_weighRow 22 = .ok (.ifCond .le 20, 3) := by decide +kernel
theorem dX5_weighRow_42 : decode cX5_weighRow 42 = .ok (.iload 6, 2) := by decide +kernel
theorem dX5_weighRow_44 : decode cX5_weighRow 44 = .ok (.ireturn, 1) := by decide +kernel
theorem dX5_weighRow_25 : decode cX5_weighRow 25 = .ok (.iload 6, 2) := by decide +kernel
theorem dX5_weighRow_27 : decode cX5_weighRow 27 = .ok (.aload_n 0, 1) := by decide +kernel
theorem dX5_weighRow_28 : decode cX5_weighRow 28 = .ok (.getfield 9, 3) := by decide +kernel
theorem dX5_weighRow_31 : decode cX5_weighRow 31 = .ok (.iload 5, 2) := by decide +kernel
theorem dX5_weighRow_33 : decode cX5_weighRow 33 = .ok (.iconst 1, 1) := by decide +kernel
theorem dX5_weighRow_34 : decode cX5_weighRow 34 = .ok (.iadd, 1) := by decide +kernel
theorem dX5_weighRow_35 : decode cX5_weighRow 35 = .ok (.iaload, 1) := by decide +kernel
theorem dX5_weighRow_36 : decode cX5_weighRow 36 = .ok (.iload_n 3, 1) := by decide +kernel
theorem dX5_weighRow_37 : decode cX5_weighRow 37 = .ok (.imul, 1) := by decide +kernel
theorem dX5_weighRow_38 : decode cX5_weighRow 38 = .ok (.iadd, 1) := by decide +kernel
theorem dX5_weighRow_39 : decode cX5_weighRow 39 = .ok (.goto 5, 3) := by decide +kernel
def wo_q_weighRow1 : List Cond := [.code yX5_weighRow cX5_weighRow 7 (some .int), .fieldLink RX5 9 "TimingHouse$Tables" "numbers" "[I"]
def wr_q_weighRow1 : List Cond := (wsX50 ++ ([]))
def w_q_weighRow1 : List Cond := wo_q_weighRow1 ++ wr_q_weighRow1
theorem wg_q_weighRow1 : GW w_q_weighRow1 := GW_app (GW_of (by decide +kernel)) (GW_app (GW_of (by decide +kernel)) (GW_nil))
theorem i_q_weighRow1_X5 : ∀ w ∈ wsX50, w ∈ w_q_weighRow1 := fun _ h => List.mem_append_right _ (List.mem_append_left _ h)
set_option maxHeartbeats 8000000 in
set_option maxRecDepth 100000 in
theorem q_weighRow1 (l : Launch) (E : gE) (o_t a_t_numbers a_t_lefts a_t_falls : Nat) (f_t_lateCorner f_t_earlyCorner p1 p2 p3 p4 : Int32) (g_t_numbers : Nat → Int32) (r_f_t_lateCorner : RG f_t_lateCorner 0 500) (r_f_t_earlyCorner : RG f_t_earlyCorner 0 500) (i_g_t_numbers : AR g_t_numbers 192 0 3000) (r_p1 : RG p1 0 63) (r_p2 : RG p2 0 1) : CtI l E yX5_weighRow w_q_weighRow1 ({ frames := 0, cells := 0, slots := 0, locals := 0 }) [(o_t, .inr (5, [.ref a_t_numbers, .ref a_t_lefts, .ref a_t_falls, .int f_t_lateCorner, .int f_t_earlyCorner])), (a_t_numbers, aI E 192 g_t_numbers)] [.ref o_t, .int p1, .int p2, .int p3, .int p4] (fun _ w => True ∧ w = [(o_t, .inr (5, [.ref a_t_numbers, .ref a_t_lefts, .ref a_t_falls, .int f_t_lateCorner, .int f_t_earlyCorner])), (a_t_numbers, aI E 192 g_t_numbers)]) := by
  refine CtI.of (cc := cX5_weighRow) (maxL := 7) (rt := (some .int)) (by decide) rfl (Nat.le_of_ble_eq_true rfl) ?_
  intro p e s m below meth c A B ls hl
  obtain ⟨hx, hb, hml, hr, hlk, hin, hts, hown, hK, hN, hZ, hA, hP, hD, hS⟩ := B
  replace hown : s.vm.findClass RX5 = some m.cls := hown
  have hto : ∀ w ∈ wo_q_weighRow1, w.before _ s = true := fun w h => hts w (List.mem_append_left _ h)
  replace hl : lv_has ls 7 [(0, .ref o_t), (1, .int p1), (2, .int p2), (3, .int p3), (4, .int p4)] := hl
  obtain ⟨H, hHe⟩ : ∃ H, H = s.heap := ⟨_, rfl⟩
  obtain ⟨locs, hle⟩ : ∃ l : List Loc, l = [] := ⟨_, rfl⟩
  replace hS : va_S A s.heap H locs := by rw [hHe, hle]; exact hS
  replace hP : va_P E.1 vwCl [(o_t, .inr (5, [.ref a_t_numbers, .ref a_t_lefts, .ref a_t_falls, .int f_t_lateCorner, .int f_t_earlyCorner])), (a_t_numbers, aI E 192 g_t_numbers)] H := by rw [hHe]; exact hP
  refine W_hl hHe hle ?_
  clear hHe hle
  refine lv_iload_n hx hb dX5_weighRow_0 rfl (lv_at hl 1 rfl) ?_
  refine lv_iconst (v := 3) hx hb dX5_weighRow_1 (by decide) ?_
  have b_p1 := r_p1.out
  refine lv_imul hx hb dX5_weighRow_2 ?_
  refine lv_topi (fun x_1 ex_1 => ?_)
  have tx_1 : x_1.toInt = p1.toInt * 3 := i3_mulc rfl rfl ex_1 (by omega)
  refine lv_iload_n hx hb dX5_weighRow_3 rfl (lv_at hl 2 rfl) ?_
  have b_p2 := r_p2.out
  refine lv_iadd hx hb dX5_weighRow_4 ?_
  refine lv_topi (fun x_2 ex_2 => ?_)
  have tx_2 : x_2.toInt = x_1.toInt + p2.toInt := i3_addc rfl rfl ex_2 (by omega)
  refine lv_istore (lv' := [(5, .int x_2), (0, .ref o_t), (1, .int p1), (2, .int p2), (3, .int p3), (4, .int p4)]) hx hb dX5_weighRow_5 hl (by decide) rfl (fun ls hl => ?_)
  refine lv_aload_n hx hb dX5_weighRow_7 rfl (lv_at hl 1 rfl) ?_
  refine va_get (D := E.1) (ci := 5) (v := .ref a_t_numbers) (own := RX5) (C := RX5) (T := TX5) (N := 5) hx hb hts i_q_weighRow1_X5 hown hK hP 0 rfl rfl 0 (by decide) (hto (.fieldLink RX5 9 "TimingHouse$Tables" "numbers" "[I") (by decide +kernel)) (fun _ h9 => h9) rfl dX5_weighRow_8 ?_
  refine lv_iload hx hb dX5_weighRow_11 (lv_at hl 0 rfl) ?_
  refine ld_i hx hb hK hP 1 rfl (by omega) dX5_weighRow_13 (fun x_3 ex_3 => ?_)
  have b_x_3 := AR.rd i_g_t_numbers ex_3 (by omega)
  refine lv_iload hx hb dX5_weighRow_14 (lv_at hl 5 rfl) ?_
  refine lv_iload_n hx hb dX5_weighRow_16 rfl (lv_at hl 4 rfl) ?_
  refine lv_isub hx hb dX5_weighRow_17 ?_
  refine lv_topi (fun x_4 ex_4 => ?_)
  have bd_5 := i3_bd p4
  have bd_6 := i3_bd p3
  refine lv_imul hx hb dX5_weighRow_18 ?_
  refine lv_topi (fun x_7 ex_7 => ?_)
  have bd_8 := i3_bd x_4
  refine lv_istore (lv' := [(6, .int x_7), (5, .int x_2), (0, .ref o_t), (1, .int p1), (2, .int p2), (3, .int p3), (4, .int p4)]) hx hb dX5_weighRow_19 hl (by decide) rfl (fun ls hl => ?_)
  refine lv_iload_n hx hb dX5_weighRow_21 rfl (lv_at hl 5 rfl) ?_
  refine lv_if_le (tgt := 42) hx hb dX5_weighRow_22 (by decide) (fun c_9 => ?_) (fun c_9 => ?_)
  · have e_9 : p3.toInt ≤ 0 := i3_le c_9
    refine lv_iload hx hb dX5_weighRow_42 (lv_at hl 0 rfl) ?_
    exact ret_i hx hb hr hlk (hP.sub (ws' := [(o_t, .inr (5, [.ref a_t_numbers, .ref a_t_lefts, .ref a_t_falls, .int f_t_lateCorner, .int f_t_earlyCorner])), (a_t_numbers, aI E 192 g_t_numbers)]) [0, 1] rfl) (hD.sub (ws' := [(o_t, .inr (5, [.ref a_t_numbers, .ref a_t_lefts, .ref a_t_falls, .int f_t_lateCorner, .int f_t_earlyCorner])), (a_t_numbers, aI E 192 g_t_numbers)]) [0, 1] (by decide) rfl) hS rfl dX5_weighRow_44 (Nat.le_of_ble_eq_true rfl) (Nat.le_of_ble_eq_true rfl) ⟨trivial, rfl⟩
  · have e_9 : 0 < p3.toInt := i3_nle c_9
    refine lv_iload hx hb dX5_weighRow_25 (lv_at hl 0 rfl) ?_
    refine lv_aload_n hx hb dX5_weighRow_27 rfl (lv_at hl 2 rfl) ?_
    refine va_get (D := E.1) (ci := 5) (v := .ref a_t_numbers) (own := RX5) (C := RX5) (T := TX5) (N := 5) hx hb hts i_q_weighRow1_X5 hown hK hP 0 rfl rfl 0 (by decide) (hto (.fieldLink RX5 9 "TimingHouse$Tables" "numbers" "[I") (by decide +kernel)) (fun _ h9 => h9) rfl dX5_weighRow_28 ?_
    refine lv_iload hx hb dX5_weighRow_31 (lv_at hl 1 rfl) ?_
    refine lv_iconst (v := 1) hx hb dX5_weighRow_33 (by decide) ?_
    refine lv_iadd hx hb dX5_weighRow_34 ?_
    refine lv_topi (fun x_10 ex_10 => ?_)
    have tx_10 : x_10.toInt = x_2.toInt + 1 := i3_addc rfl rfl ex_10 (by omega)
    refine ld_i hx hb hK hP 1 rfl (by omega) dX5_weighRow_35 (fun x_11 ex_11 => ?_)
    have b_x_11 := AR.rd i_g_t_numbers ex_11 (by omega)
    refine lv_iload_n hx hb dX5_weighRow_36 rfl (lv_at hl 5 rfl) ?_
    refine lv_imul hx hb dX5_weighRow_37 ?_
    refine lv_topi (fun x_12 ex_12 => ?_)
    refine lv_iadd hx hb dX5_weighRow_38 ?_
    refine lv_topi (fun x_13 ex_13 => ?_)
    have bd_14 := i3_bd x_7
    have bd_15 := i3_bd x_12
    refine lv_goto (tgt := 44) hx hb dX5_weighRow_39 (by decide) ?_
    exact ret_i hx hb hr hlk (hP.sub (ws' := [(o_t, .inr (5, [.ref a_t_numbers, .ref a_t_lefts, .ref a_t_falls, .int f_t_lateCorner, .int f_t_earlyCorner])), (a_t_numbers, aI E 192 g_t_numbers)]) [0, 1] rfl) (hD.sub (ws' := [(o_t, .inr (5, [.ref a_t_numbers, .ref a_t_lefts, .ref a_t_falls, .int f_t_lateCorner, .int f_t_earlyCorner])), (a_t_numbers, aI E 192 g_t_numbers)]) [0, 1] (by decide) rfl) hS rfl dX5_weighRow_44 (Nat.le_of_ble_eq_true rfl) (Nat.le_of_ble_eq_true rfl) ⟨trivial, rfl⟩
def wo_q_weighRow2 : List Cond := [.code yX5_weighRow cX5_weighRow 7 (some .int), .fieldLink RX5 9 "TimingHouse$Tables" "numbers" "[I"]
def wr_q_weighRow2 : List Cond := (wsX50 ++ ([]))
def w_q_weighRow2 : List Cond := wo_q_weighRow2 ++ wr_q_weighRow2
theorem wg_q_weighRow2 : GW w_q_weighRow2 := GW_app (GW_of (by decide +kernel)) (GW_app (GW_of (by decide +kernel)) (GW_nil))
theorem i_q_weighRow2_X5 : ∀ w ∈ wsX50, w ∈ w_q_weighRow2 := fun _ h => List.mem_append_right _ (List.mem_append_left _ h)
set_option maxHeartbeats 8000000 in
set_option maxRecDepth 100000 in
theorem q_weighRow2 (l : Launch) (E : gE) (o_t a_t_numbers a_t_lefts a_t_falls : Nat) (f_t_lateCorner f_t_earlyCorner p1 p2 p3 p4 : Int32) (g_t_numbers : Nat → Int32) (r_f_t_lateCorner : RG f_t_lateCorner 0 500) (r_f_t_earlyCorner : RG f_t_earlyCorner 0 500) (i_g_t_numbers : AR g_t_numbers 192 0 3000) (r_p1 : RG p1 0 63) (r_p2 : RG p2 0 2) (r_p3 : RG p3 (-2147483648) 0) : CtI l E yX5_weighRow w_q_weighRow2 ({ frames := 0, cells := 0, slots := 0, locals := 0 }) [(o_t, .inr (5, [.ref a_t_numbers, .ref a_t_lefts, .ref a_t_falls, .int f_t_lateCorner, .int f_t_earlyCorner])), (a_t_numbers, aI E 192 g_t_numbers)] [.ref o_t, .int p1, .int p2, .int p3, .int p4] (fun _ w => True ∧ w = [(o_t, .inr (5, [.ref a_t_numbers, .ref a_t_lefts, .ref a_t_falls, .int f_t_lateCorner, .int f_t_earlyCorner])), (a_t_numbers, aI E 192 g_t_numbers)]) := by
  refine CtI.of (cc := cX5_weighRow) (maxL := 7) (rt := (some .int)) (by decide) rfl (Nat.le_of_ble_eq_true rfl) ?_
  intro p e s m below meth c A B ls hl
  obtain ⟨hx, hb, hml, hr, hlk, hin, hts, hown, hK, hN, hZ, hA, hP, hD, hS⟩ := B
  replace hown : s.vm.findClass RX5 = some m.cls := hown
  have hto : ∀ w ∈ wo_q_weighRow2, w.before _ s = true := fun w h => hts w (List.mem_append_left _ h)
  replace hl : lv_has ls 7 [(0, .ref o_t), (1, .int p1), (2, .int p2), (3, .int p3), (4, .int p4)] := hl
  obtain ⟨H, hHe⟩ : ∃ H, H = s.heap := ⟨_, rfl⟩
  obtain ⟨locs, hle⟩ : ∃ l : List Loc, l = [] := ⟨_, rfl⟩
  replace hS : va_S A s.heap H locs := by rw [hHe, hle]; exact hS
  replace hP : va_P E.1 vwCl [(o_t, .inr (5, [.ref a_t_numbers, .ref a_t_lefts, .ref a_t_falls, .int f_t_lateCorner, .int f_t_earlyCorner])), (a_t_numbers, aI E 192 g_t_numbers)] H := by rw [hHe]; exact hP
  refine W_hl hHe hle ?_
  clear hHe hle
  refine lv_iload_n hx hb dX5_weighRow_0 rfl (lv_at hl 1 rfl) ?_
  refine lv_iconst (v := 3) hx hb dX5_weighRow_1 (by decide) ?_
  have b_p1 := r_p1.out
  refine lv_imul hx hb dX5_weighRow_2 ?_
  refine lv_topi (fun x_1 ex_1 => ?_)
  have tx_1 : x_1.toInt = p1.toInt * 3 := i3_mulc rfl rfl ex_1 (by omega)
  refine lv_iload_n hx hb dX5_weighRow_3 rfl (lv_at hl 2 rfl) ?_
  have b_p2 := r_p2.out
  refine lv_iadd hx hb dX5_weighRow_4 ?_
  refine lv_topi (fun x_2 ex_2 => ?_)
  have tx_2 : x_2.toInt = x_1.toInt + p2.toInt := i3_addc rfl rfl ex_2 (by omega)
  refine lv_istore (lv' := [(5, .int x_2), (0, .ref o_t), (1, .int p1), (2, .int p2), (3, .int p3), (4, .int p4)]) hx hb dX5_weighRow_5 hl (by decide) rfl (fun ls hl => ?_)
  refine lv_aload_n hx hb dX5_weighRow_7 rfl (lv_at hl 1 rfl) ?_
  refine va_get (D := E.1) (ci := 5) (v := .ref a_t_numbers) (own := RX5) (C := RX5) (T := TX5) (N := 5) hx hb hts i_q_weighRow2_X5 hown hK hP 0 rfl rfl 0 (by decide) (hto (.fieldLink RX5 9 "TimingHouse$Tables" "numbers" "[I") (by decide +kernel)) (fun _ h9 => h9) rfl dX5_weighRow_8 ?_
  refine lv_iload hx hb dX5_weighRow_11 (lv_at hl 0 rfl) ?_
  refine ld_i hx hb hK hP 1 rfl (by omega) dX5_weighRow_13 (fun x_3 ex_3 => ?_)
  have b_x_3 := AR.rd i_g_t_numbers ex_3 (by omega)
  refine lv_iload hx hb dX5_weighRow_14 (lv_at hl 5 rfl) ?_
  refine lv_iload_n hx hb dX5_weighRow_16 rfl (lv_at hl 4 rfl) ?_
  have b_p3 := r_p3.out
  refine lv_isub hx hb dX5_weighRow_17 ?_
  refine lv_topi (fun x_4 ex_4 => ?_)
  have bd_5 := i3_bd p4
  refine lv_imul hx hb dX5_weighRow_18 ?_
  refine lv_topi (fun x_6 ex_6 => ?_)
  have bd_7 := i3_bd x_4
  refine lv_istore (lv' := [(6, .int x_6), (5, .int x_2), (0, .ref o_t), (1, .int p1), (2, .int p2), (3, .int p3), (4, .int p4)]) hx hb dX5_weighRow_19 hl (by decide) rfl (fun ls hl => ?_)
  refine lv_iload_n hx hb dX5_weighRow_21 rfl (lv_at hl 5 rfl) ?_
  refine lv_if_le (tgt := 42) hx hb dX5_weighRow_22 (by decide) (fun c_8 => ?_) (fun c_8 => ?_)
  · have e_8 : p3.toInt ≤ 0 := i3_le c_8
    refine lv_iload hx hb dX5_weighRow_42 (lv_at hl 0 rfl) ?_
    exact ret_i hx hb hr hlk (hP.sub (ws' := [(o_t, .inr (5, [.ref a_t_numbers, .ref a_t_lefts, .ref a_t_falls, .int f_t_lateCorner, .int f_t_earlyCorner])), (a_t_numbers, aI E 192 g_t_numbers)]) [0, 1] rfl) (hD.sub (ws' := [(o_t, .inr (5, [.ref a_t_numbers, .ref a_t_lefts, .ref a_t_falls, .int f_t_lateCorner, .int f_t_earlyCorner])), (a_t_numbers, aI E 192 g_t_numbers)]) [0, 1] (by decide) rfl) hS rfl dX5_weighRow_44 (Nat.le_of_ble_eq_true rfl) (Nat.le_of_ble_eq_true rfl) ⟨trivial, rfl⟩
  · have e_8 : 0 < p3.toInt := i3_nle c_8
    exfalso; omega
theorem dX5_lastNotAbove_0 : decode cX5_lastNotAbove 0 = .ok (.aload_n 0, 1) := by decide +kernel
theorem dX5_lastNotAbove_1 : decode cX5_lastNotAbove 1 = .ok (.arraylength, 1) := by decide +kernel
theorem dX5_lastNotAbove_2 : decode cX5_lastNotAbove 2 = .ok (.iconst 1, 1) := by decide +kernel
theorem dX5_lastNotAbove_3 : decode cX5_lastNotAbove 3 = .ok (.isub, 1) := by decide +kernel
theorem dX5_lastNotAbove_4 : decode cX5_lastNotAbove 4 = .ok (.istore_n 2, 1) := by decide +kernel
theorem dX5_lastNotAbove_5 : decode cX5_lastNotAbove 5 = .ok (.iload_n 2, 1) := by decide +kernel
theorem dX5_lastNotAbove_6 : decode cX5_lastNotAbove 6 = .ok (.ifCond .le 18, 3) := by decide +kernel
theorem dX5_lastNotAbove_9 : decode cX5_lastNotAbove 9 = .ok (.aload_n 0, 1) := by decide +kernel
theorem dX5_lastNotAbove_10 : decode cX5_lastNotAbove 10 = .ok (.iload_n 2, 1) := by decide +kernel
theorem dX5_lastNotAbove_11 : decode cX5_lastNotAbove 11 = .ok (.iaload, 1) := by decide +kernel
theorem dX5_lastNotAbove_12 : decode cX5_lastNotAbove 12 = .ok (.iload_n 1, 1) := by decide +kernel
theorem dX5_lastNotAbove_13 : decode cX5_lastNotAbove 13 = .ok (.if_icmp .gt 5, 3) := by decide +kernel
theorem dX5_lastNotAbove_18 : decode cX5_lastNotAbove 18 = .ok (.iinc 2 (-1), 3) := by decide +kernel
theorem dX5_lastNotAbove_21 : decode cX5_lastNotAbove 21 = .ok (.goto (-16), 3) := by decide +kernel
theorem dX5_lastNotAbove_24 : decode cX5_lastNotAbove 24 = .ok (.iconst 0, 1) := by decide +kernel
theorem dX5_lastNotAbove_25 : decode cX5_lastNotAbove 25 = .ok (.ireturn, 1) := by decide +kernel
theorem dX5_lastNotAbove_16 : decode cX5_lastNotAbove 16 = .ok (.iload_n 2, 1) := by decide +kernel
theorem dX5_lastNotAbove_17 : decode cX5_lastNotAbove 17 = .ok (.ireturn, 1) := by decide +kernel
def wo_q_lastLoad : List Cond := [.code yX5_lastNotAbove cX5_lastNotAbove 3 (some .int)]
def wr_q_lastLoad : List Cond := []
def w_q_lastLoad : List Cond := wo_q_lastLoad ++ wr_q_lastLoad
theorem wg_q_lastLoad : GW w_q_lastLoad := GW_app (GW_of (by decide +kernel)) (GW_nil)
set_option maxHeartbeats 8000000 in
set_option maxRecDepth 100000 in
theorem q_lastLoad (l : Launch) (E : gE) (v : Int32) : CtI l E yX5_lastNotAbove w_q_lastLoad ({ frames := 0, cells := 0, slots := 0, locals := 0 }) [] [.ref E.2.2.2.2.1, .int v] (fun r w => (0 ≤ r.toInt ∧ r.toInt ≤ 3) ∧ ((r.toInt = 1 → 8 ≤ v.toInt) ∧ (r.toInt = 2 → 24 ≤ v.toInt) ∧ (r.toInt = 3 → 64 ≤ v.toInt)) ∧ w = []) := by
  refine CtI.of (cc := cX5_lastNotAbove) (maxL := 3) (rt := (some .int)) (by decide) rfl (Nat.le_of_ble_eq_true rfl) ?_
  intro p e s m below meth c A B ls hl
  obtain ⟨hx, hb, hml, hr, hlk, hin, hts, hown, hK, hN, hZ, hA, hP, hD, hS⟩ := B
  replace hown : s.vm.findClass RX5 = some m.cls := hown
  have hto : ∀ w ∈ wo_q_lastLoad, w.before _ s = true := fun w h => hts w (List.mem_append_left _ h)
  replace hl : lv_has ls 3 [(0, .ref E.2.2.2.2.1), (1, .int v)] := hl
  obtain ⟨H, hHe⟩ : ∃ H, H = s.heap := ⟨_, rfl⟩
  obtain ⟨locs, hle⟩ : ∃ l : List Loc, l = [] := ⟨_, rfl⟩
  replace hS : va_S A s.heap H locs := by rw [hHe, hle]; exact hS
  replace hP : va_P E.1 vwCl [] H := by rw [hHe]; exact hP
  refine W_hl hHe hle ?_
  clear hHe hle
  refine lv_aload_n hx hb dX5_lastNotAbove_0 rfl (lv_at hl 0 rfl) ?_
  refine va_tlen (v := 4) hx hb hZ.1.2 hS rfl dX5_lastNotAbove_1 ?_
  refine lv_iconst (v := 1) hx hb dX5_lastNotAbove_2 (by decide) ?_
  refine lv_isub hx hb dX5_lastNotAbove_3 ?_
  refine lv_cst (y := 3) (by decide) ?_
  refine lv_istore_n (lv' := [(2, .int 3), (0, .ref E.2.2.2.2.1), (1, .int v)]) hx hb dX5_lastNotAbove_4 rfl hl (by decide) rfl (fun ls hl => ?_)
  refine lv_iload_n hx hb dX5_lastNotAbove_5 rfl (lv_at hl 0 rfl) ?_
  refine lv_if_le (tgt := 24) hx hb dX5_lastNotAbove_6 (by decide) (fun c_1 => ?_) (fun c_1 => ?_)
  · exact absurd c_1 (by decide)
  · refine lv_aload_n hx hb dX5_lastNotAbove_9 rfl (lv_at hl 1 rfl) ?_
    refine lv_iload_n hx hb dX5_lastNotAbove_10 rfl (lv_at hl 0 rfl) ?_
    refine va_ti (v := .int 64) hx hb hZ.1.2 hS (i3_in (by decide)) rfl dX5_lastNotAbove_11 ?_
    refine lv_iload_n hx hb dX5_lastNotAbove_12 rfl (lv_at hl 2 rfl) ?_
    refine lv_icmp_gt (tgt := 18) hx hb dX5_lastNotAbove_13 (by decide) (fun c_2 => ?_) (fun c_2 => ?_)
    · have e_2 : v.toInt < 64 := i3_lt c_2
      refine lv_iinc (v := 2) (lv' := [(2, .int 2), (0, .ref E.2.2.2.2.1), (1, .int v)]) hx hb dX5_lastNotAbove_18 hl (k := 0) rfl (by decide) (by decide) rfl (fun ls hl => ?_)
      refine lv_goto (tgt := 5) hx hb dX5_lastNotAbove_21 (by decide) ?_
      refine lv_iload_n hx hb dX5_lastNotAbove_5 rfl (lv_at hl 0 rfl) ?_
      refine lv_if_le (tgt := 24) hx hb dX5_lastNotAbove_6 (by decide) (fun c_3 => ?_) (fun c_3 => ?_)
      · exact absurd c_3 (by decide)
      · refine lv_aload_n hx hb dX5_lastNotAbove_9 rfl (lv_at hl 1 rfl) ?_
        refine lv_iload_n hx hb dX5_lastNotAbove_10 rfl (lv_at hl 0 rfl) ?_
        refine va_ti (v := .int 24) hx hb hZ.1.2 hS (i3_in (by decide)) rfl dX5_lastNotAbove_11 ?_
        refine lv_iload_n hx hb dX5_lastNotAbove_12 rfl (lv_at hl 2 rfl) ?_
        refine lv_icmp_gt (tgt := 18) hx hb dX5_lastNotAbove_13 (by decide) (fun c_4 => ?_) (fun c_4 => ?_)
        · have e_4 : v.toInt < 24 := i3_lt c_4
          refine lv_iinc (v := 1) (lv' := [(2, .int 1), (0, .ref E.2.2.2.2.1), (1, .int v)]) hx hb dX5_lastNotAbove_18 hl (k := 0) rfl (by decide) (by decide) rfl (fun ls hl => ?_)
          refine lv_goto (tgt := 5) hx hb dX5_lastNotAbove_21 (by decide) ?_
          refine lv_iload_n hx hb dX5_lastNotAbove_5 rfl (lv_at hl 0 rfl) ?_
          refine lv_if_le (tgt := 24) hx hb dX5_lastNotAbove_6 (by decide) (fun c_5 => ?_) (fun c_5 => ?_)
          · exact absurd c_5 (by decide)
          · refine lv_aload_n hx hb dX5_lastNotAbove_9 rfl (lv_at hl 1 rfl) ?_
            refine lv_iload_n hx hb dX5_lastNotAbove_10 rfl (lv_at hl 0 rfl) ?_
            refine va_ti (v := .int 8) hx hb hZ.1.2 hS (i3_in (by decide)) rfl dX5_lastNotAbove_11 ?_
            refine lv_iload_n hx hb dX5_lastNotAbove_12 rfl (lv_at hl 2 rfl) ?_
            refine lv_icmp_gt (tgt := 18) hx hb dX5_lastNotAbove_13 (by decide) (fun c_6 => ?_) (fun c_6 => ?_)
            · have e_6 : v.toInt < 8 := i3_lt c_6
              refine lv_iinc (v := 0) (lv' := [(2, .int 0), (0, .ref E.2.2.2.2.1), (1, .int v)]) hx hb dX5_lastNotAbove_18 hl (k := 0) rfl (by decide) (by decide) rfl (fun ls hl => ?_)
              refine lv_goto (tgt := 5) hx hb dX5_lastNotAbove_21 (by decide) ?_
              refine lv_iload_n hx hb dX5_lastNotAbove_5 rfl (lv_at hl 0 rfl) ?_
              refine lv_if_le (tgt := 24) hx hb dX5_lastNotAbove_6 (by decide) (fun c_7 => ?_) (fun c_7 => ?_)
              · refine lv_iconst (v := 0) hx hb dX5_lastNotAbove_24 (by decide) ?_
                exact ret_i hx hb hr hlk (hP.sub (ws' := []) [] rfl) (hD.sub (ws' := []) [] (by decide) rfl) hS rfl dX5_lastNotAbove_25 (Nat.le_of_ble_eq_true rfl) (Nat.le_of_ble_eq_true rfl) ⟨(by decide), (by have e9 : (0 : Int32).toInt = 0 := rfl; omega), rfl⟩
              · exact absurd c_7 (by decide)
            · have e_6 : 8 ≤ v.toInt := i3_nlt c_6
              refine lv_iload_n hx hb dX5_lastNotAbove_16 rfl (lv_at hl 0 rfl) ?_
              exact ret_i hx hb hr hlk (hP.sub (ws' := []) [] rfl) (hD.sub (ws' := []) [] (by decide) rfl) hS rfl dX5_lastNotAbove_17 (Nat.le_of_ble_eq_true rfl) (Nat.le_of_ble_eq_true rfl) ⟨(by decide), (by have e9 : (1 : Int32).toInt = 1 := rfl; omega), rfl⟩
        · have e_4 : 24 ≤ v.toInt := i3_nlt c_4
          refine lv_iload_n hx hb dX5_lastNotAbove_16 rfl (lv_at hl 0 rfl) ?_
          exact ret_i hx hb hr hlk (hP.sub (ws' := []) [] rfl) (hD.sub (ws' := []) [] (by decide) rfl) hS rfl dX5_lastNotAbove_17 (Nat.le_of_ble_eq_true rfl) (Nat.le_of_ble_eq_true rfl) ⟨(by decide), (by have e9 : (2 : Int32).toInt = 2 := rfl; omega), rfl⟩
    · have e_2 : 64 ≤ v.toInt := i3_nlt c_2
      refine lv_iload_n hx hb dX5_lastNotAbove_16 rfl (lv_at hl 0 rfl) ?_
      exact ret_i hx hb hr hlk (hP.sub (ws' := []) [] rfl) (hD.sub (ws' := []) [] (by decide) rfl) hS rfl dX5_lastNotAbove_17 (Nat.le_of_ble_eq_true rfl) (Nat.le_of_ble_eq_true rfl) ⟨(by decide), (by have e9 : (3 : Int32).toInt = 3 := rfl; omega), rfl⟩
def wo_q_lastSlope : List Cond := [.code yX5_lastNotAbove cX5_lastNotAbove 3 (some .int)]
def wr_q_lastSlope : List Cond := []
def w_q_lastSlope : List Cond := wo_q_lastSlope ++ wr_q_lastSlope
theorem wg_q_lastSlope : GW w_q_lastSlope := GW_app (GW_of (by decide +kernel)) (GW_nil)
set_option maxHeartbeats 8000000 in
set_option maxRecDepth 100000 in
theorem q_lastSlope (l : Launch) (E : gE) (v : Int32) : CtI l E yX5_lastNotAbove w_q_lastSlope ({ frames := 0, cells := 0, slots := 0, locals := 0 }) [] [.ref E.2.2.2.2.2.1, .int v] (fun r w => (0 ≤ r.toInt ∧ r.toInt ≤ 2) ∧ ((r.toInt = 1 → 16 ≤ v.toInt) ∧ (r.toInt = 2 → 64 ≤ v.toInt)) ∧ w = []) := by
  refine CtI.of (cc := cX5_lastNotAbove) (maxL := 3) (rt := (some .int)) (by decide) rfl (Nat.le_of_ble_eq_true rfl) ?_
  intro p e s m below meth c A B ls hl
  obtain ⟨hx, hb, hml, hr, hlk, hin, hts, hown, hK, hN, hZ, hA, hP, hD, hS⟩ := B
  replace hown : s.vm.findClass RX5 = some m.cls := hown
  have hto : ∀ w ∈ wo_q_lastSlope, w.before _ s = true := fun w h => hts w (List.mem_append_left _ h)
  replace hl : lv_has ls 3 [(0, .ref E.2.2.2.2.2.1), (1, .int v)] := hl
  obtain ⟨H, hHe⟩ : ∃ H, H = s.heap := ⟨_, rfl⟩
  obtain ⟨locs, hle⟩ : ∃ l : List Loc, l = [] := ⟨_, rfl⟩
  replace hS : va_S A s.heap H locs := by rw [hHe, hle]; exact hS
  replace hP : va_P E.1 vwCl [] H := by rw [hHe]; exact hP
  refine W_hl hHe hle ?_
  clear hHe hle
  refine lv_aload_n hx hb dX5_lastNotAbove_0 rfl (lv_at hl 0 rfl) ?_
  refine va_tlen (v := 3) hx hb hZ.2.1.2 hS rfl dX5_lastNotAbove_1 ?_
  refine lv_iconst (v := 1) hx hb dX5_lastNotAbove_2 (by decide) ?_
  refine lv_isub hx hb dX5_lastNotAbove_3 ?_
  refine lv_cst (y := 2) (by decide) ?_
  refine lv_istore_n (lv' := [(2, .int 2), (0, .ref E.2.2.2.2.2.1), (1, .int v)]) hx hb dX5_lastNotAbove_4 rfl hl (by decide) rfl (fun ls hl => ?_)
  refine lv_iload_n hx hb dX5_lastNotAbove_5 rfl (lv_at hl 0 rfl) ?_
  refine lv_if_le (tgt := 24) hx hb dX5_lastNotAbove_6 (by decide) (fun c_1 => ?_) (fun c_1 => ?_)
  · exact absurd c_1 (by decide)
  · refine lv_aload_n hx hb dX5_lastNotAbove_9 rfl (lv_at hl 1 rfl) ?_
    refine lv_iload_n hx hb dX5_lastNotAbove_10 rfl (lv_at hl 0 rfl) ?_
    refine va_ti (v := .int 64) hx hb hZ.2.1.2 hS (i3_in (by decide)) rfl dX5_lastNotAbove_11 ?_
    refine lv_iload_n hx hb dX5_lastNotAbove_12 rfl (lv_at hl 2 rfl) ?_
    refine lv_icmp_gt (tgt := 18) hx hb dX5_lastNotAbove_13 (by decide) (fun c_2 => ?_) (fun c_2 => ?_)
    · have e_2 : v.toInt < 64 := i3_lt c_2
      refine lv_iinc (v := 1) (lv' := [(2, .int 1), (0, .ref E.2.2.2.2.2.1), (1, .int v)]) hx hb dX5_lastNotAbove_18 hl (k := 0) rfl (by decide) (by decide) rfl (fun ls hl => ?_)
      refine lv_goto (tgt := 5) hx hb dX5_lastNotAbove_21 (by decide) ?_
      refine lv_iload_n hx hb dX5_lastNotAbove_5 rfl (lv_at hl 0 rfl) ?_
      refine lv_if_le (tgt := 24) hx hb dX5_lastNotAbove_6 (by decide) (fun c_3 => ?_) (fun c_3 => ?_)
      · exact absurd c_3 (by decide)
      · refine lv_aload_n hx hb dX5_lastNotAbove_9 rfl (lv_at hl 1 rfl) ?_
        refine lv_iload_n hx hb dX5_lastNotAbove_10 rfl (lv_at hl 0 rfl) ?_
        refine va_ti (v := .int 16) hx hb hZ.2.1.2 hS (i3_in (by decide)) rfl dX5_lastNotAbove_11 ?_
        refine lv_iload_n hx hb dX5_lastNotAbove_12 rfl (lv_at hl 2 rfl) ?_
        refine lv_icmp_gt (tgt := 18) hx hb dX5_lastNotAbove_13 (by decide) (fun c_4 => ?_) (fun c_4 => ?_)
        · have e_4 : v.toInt < 16 := i3_lt c_4
          refine lv_iinc (v := 0) (lv' := [(2, .int 0), (0, .ref E.2.2.2.2.2.1), (1, .int v)]) hx hb dX5_lastNotAbove_18 hl (k := 0) rfl (by decide) (by decide) rfl (fun ls hl => ?_)
          refine lv_goto (tgt := 5) hx hb dX5_lastNotAbove_21 (by decide) ?_
          refine lv_iload_n hx hb dX5_lastNotAbove_5 rfl (lv_at hl 0 rfl) ?_
          refine lv_if_le (tgt := 24) hx hb dX5_lastNotAbove_6 (by decide) (fun c_5 => ?_) (fun c_5 => ?_)
          · refine lv_iconst (v := 0) hx hb dX5_lastNotAbove_24 (by decide) ?_
            exact ret_i hx hb hr hlk (hP.sub (ws' := []) [] rfl) (hD.sub (ws' := []) [] (by decide) rfl) hS rfl dX5_lastNotAbove_25 (Nat.le_of_ble_eq_true rfl) (Nat.le_of_ble_eq_true rfl) ⟨(by decide), (by have e9 : (0 : Int32).toInt = 0 := rfl; omega), rfl⟩
          · exact absurd c_5 (by decide)
        · have e_4 : 16 ≤ v.toInt := i3_nlt c_4
          refine lv_iload_n hx hb dX5_lastNotAbove_16 rfl (lv_at hl 0 rfl) ?_
          exact ret_i hx hb hr hlk (hP.sub (ws' := []) [] rfl) (hD.sub (ws' := []) [] (by decide) rfl) hS rfl dX5_lastNotAbove_17 (Nat.le_of_ble_eq_true rfl) (Nat.le_of_ble_eq_true rfl) ⟨(by decide), (by have e9 : (1 : Int32).toInt = 1 := rfl; omega), rfl⟩
    · have e_2 : 64 ≤ v.toInt := i3_nlt c_2
      refine lv_iload_n hx hb dX5_lastNotAbove_16 rfl (lv_at hl 0 rfl) ?_
      exact ret_i hx hb hr hlk (hP.sub (ws' := []) [] rfl) (hD.sub (ws' := []) [] (by decide) rfl) hS rfl dX5_lastNotAbove_17 (Nat.le_of_ble_eq_true rfl) (Nat.le_of_ble_eq_true rfl) ⟨(by decide), (by have e9 : (2 : Int32).toInt = 2 := rfl; omega), rfl⟩
