theorem dX3_spreadBits_0 : decode cX3_spreadBits 0 = .ok (.iconst 0, 1) := by decide +kernel
theorem dX3_spreadBits_1 : decode cX3_spreadBits 1 = .ok (.istore_n 1, 1) := by decide +kernel
theorem dX3_spreadBits_2 : decode cX3_spreadBits 2 = .ok (.iload_n 1, 1) := by decide +kernel
theorem dX3_spreadBits_3 : decode cX3_spreadBits 3 = .ok (.bipush 50, 2) := by decide +kernel
theorem dX3_spreadBits_5 : decode cX3_spreadBits 5 = .ok (.if_icmp .ge 64, 3) := by decide +kernel
theorem dX3_spreadBits_69 : decode cX3_spreadBits 69 = .ok (.return_, 1) := by decide +kernel
theorem dX3_spreadBits_8 : decode cX3_spreadBits 8 = .ok (.aload_n 0, 1) := by decide +kernel
theorem dX3_spreadBits_9 : decode cX3_spreadBits 9 = .ok (.getfield 24, 3) := by decide +kernel
theorem dX3_spreadBits_12 : decode cX3_spreadBits 12 = .ok (.iload_n 1, 1) := by decide +kernel
theorem dX3_spreadBits_13 : decode cX3_spreadBits 13 = .ok (.iconst 0, 1) := by decide +kernel
theorem dX3_spreadBits_14 : decode cX3_spreadBits 14 = .ok (.iastore, 1) := by decide +kernel
theorem dX3_spreadBits_15 : decode cX3_spreadBits 15 = .ok (.iconst 0, 1) := by decide +kernel
theorem dX3_spreadBits_16 : decode cX3_spreadBits 16 = .ok (.istore_n 2, 1) := by decide +kernel
theorem dX3_spreadBits_17 : decode cX3_spreadBits 17 = .ok (.iload_n 2, 1) := by decide +kernel
theorem dX3_spreadBits_18 : decode cX3_spreadBits 18 = .ok (.aload_n 0, 1) := by decide +kernel
theorem dX3_spreadBits_19 : decode cX3_spreadBits 19 = .ok (.getfield 27, 3) := by decide +kernel
theorem dX3_spreadBits_22 : decode cX3_spreadBits 22 = .ok (.if_icmp .ge 41, 3) := by decide +kernel
theorem dX3_spreadBits_63 : decode cX3_spreadBits 63 = .ok (.iinc 1 1, 3) := by decide +kernel
theorem dX3_spreadBits_66 : decode cX3_spreadBits 66 = .ok (.goto (-64), 3) := by decide +kernel
theorem dX3_spreadBits_25 : decode cX3_spreadBits 25 = .ok (.aload_n 0, 1) := by decide +kernel
theorem dX3_spreadBits_26 : decode cX3_spreadBits 26 = .ok (.getfield 18, 3) := by decide +kernel
theorem dX3_spreadBits_29 : decode cX3_spreadBits 29 = .ok (.iload_n 2, 1) := by decide +kernel
theorem dX3_spreadBits_30 : decode cX3_spreadBits 30 = .ok (.iaload, 1) := by decide +kernel
theorem dX3_spreadBits_31 : decode cX3_spreadBits 31 = .ok (.iconst (-1), 1) := by decide +kernel
theorem dX3_spreadBits_32 : decode cX3_spreadBits 32 = .ok (.if_icmp .eq 13, 3) := by decide +kernel
theorem dX3_spreadBits_45 : decode cX3_spreadBits 45 = .ok (.aload_n 0, 1) := by decide +kernel
theorem dX3_spreadBits_46 : decode cX3_spreadBits 46 = .ok (.getfield 24, 3) := by decide +kernel
theorem dX3_spreadBits_49 : decode cX3_spreadBits 49 = .ok (.iload_n 1, 1) := by decide +kernel
theorem dX3_spreadBits_50 : decode cX3_spreadBits 50 = .ok (.dup2, 1) := by decide +kernel
theorem dX3_spreadBits_51 : decode cX3_spreadBits 51 = .ok (.iaload, 1) := by decide +kernel
theorem dX3_spreadBits_52 : decode cX3_spreadBits 52 = .ok (.iconst 1, 1) := by decide +kernel
theorem dX3_spreadBits_53 : decode cX3_spreadBits 53 = .ok (.iload_n 2, 1) := by decide +kernel
theorem dX3_spreadBits_54 : decode cX3_spreadBits 54 = .ok (.ishl, 1) := by decide +kernel
theorem dX3_spreadBits_55 : decode cX3_spreadBits 55 = .ok (.ior, 1) := by decide +kernel
theorem dX3_spreadBits_56 : decode cX3_spreadBits 56 = .ok (.iastore, 1) := by decide +kernel
theorem dX3_spreadBits_57 : decode cX3_spreadBits 57 = .ok (.iinc 2 1, 3) := by decide +kernel
theorem dX3_spreadBits_60 : decode cX3_spreadBits 60 = .ok (.goto (-43), 3) := by decide +kernel
theorem dX3_spreadBits_35 : decode cX3_spreadBits 35 = .ok (.aload_n 0, 1) := by decide +kernel
theorem dX3_spreadBits_36 : decode cX3_spreadBits 36 = .ok (.getfield 18, 3) := by decide +kernel
theorem dX3_spreadBits_39 : decode cX3_spreadBits 39 = .ok (.iload_n 2, 1) := by decide +kernel
theorem dX3_spreadBits_40 : decode cX3_spreadBits 40 = .ok (.iaload, 1) := by decide +kernel
theorem dX3_spreadBits_41 : decode cX3_spreadBits 41 = .ok (.iload_n 1, 1) := by decide +kernel
theorem dX3_spreadBits_42 : decode cX3_spreadBits 42 = .ok (.if_icmp .ne 15, 3) := by decide +kernel
def wo_q_spreadBits : List Cond := [.code yX3_spreadBits cX3_spreadBits 3 none, .fieldLink RX3 24 "TimingHouse$Rules" "bits" "[I", .fieldLink RX3 27 "TimingHouse$Rules" "told" "I", .fieldLink RX3 18 "TimingHouse$Rules" "throughs" "[I"]
def wr_q_spreadBits : List Cond := (wsX30 ++ ([]))
def w_q_spreadBits : List Cond := wo_q_spreadBits ++ wr_q_spreadBits
theorem wg_q_spreadBits : GW w_q_spreadBits := GW_app (GW_of (by decide +kernel)) (GW_app (GW_of (by decide +kernel)) (GW_nil))
theorem i_q_spreadBits_X3 : ∀ w ∈ wsX30, w ∈ w_q_spreadBits := fun _ h => List.mem_append_right _ (List.mem_append_left _ h)
set_option maxHeartbeats 8000000 in
set_option maxRecDepth 100000 in
theorem q_spreadBits (l : Launch) (E : gE) (o_u a_u_periods a_u_froms a_u_throughs a_u_tos a_u_bits : Nat) (f_u_told : Int32) (g_u_bits : Nat → Int32) (g_u_throughs : Nat → Int32) (r_f_u_told : RG f_u_told 0 4) (i_g_u_bits : AR g_u_bits 50 0 15) (i_g_u_throughs : AR g_u_throughs 4 (-1) 49) : CtV l E yX3_spreadBits w_q_spreadBits ({ frames := 0, cells := 0, slots := 0, locals := 0 }) [(o_u, .inr (3, [.int f_u_told, .ref a_u_periods, .ref a_u_froms, .ref a_u_throughs, .ref a_u_tos, .ref a_u_bits])), (a_u_bits, aI E 50 g_u_bits), (a_u_throughs, aI E 4 g_u_throughs)] [.ref o_u] (fun w => ∃ ng_u_bits : Nat → Int32, AR ng_u_bits 50 0 15 ∧ w = [(o_u, .inr (3, [.int f_u_told, .ref a_u_periods, .ref a_u_froms, .ref a_u_throughs, .ref a_u_tos, .ref a_u_bits])), (a_u_bits, aI E 50 ng_u_bits), (a_u_throughs, aI E 4 g_u_throughs)]) := by
  refine CtV.of (cc := cX3_spreadBits) (maxL := 3) (rt := none) (by decide) rfl (Nat.le_of_ble_eq_true rfl) ?_
  intro p e s m below meth c A B ls hl
  obtain ⟨hx, hb, hml, hr, hlk, hin, hts, hown, hK, hN, hZ, hA, hP, hD, hS⟩ := B
  replace hown : s.vm.findClass RX3 = some m.cls := hown
  have hto : ∀ w ∈ wo_q_spreadBits, w.before _ s = true := fun w h => hts w (List.mem_append_left _ h)
  replace hl : lv_has ls 3 [(0, .ref o_u)] := hl
  obtain ⟨H, hHe⟩ : ∃ H, H = s.heap := ⟨_, rfl⟩
  obtain ⟨locs, hle⟩ : ∃ l : List Loc, l = [] := ⟨_, rfl⟩
  replace hS : va_S A s.heap H locs := by rw [hHe, hle]; exact hS
  replace hP : va_P E.1 vwCl [(o_u, .inr (3, [.int f_u_told, .ref a_u_periods, .ref a_u_froms, .ref a_u_throughs, .ref a_u_tos, .ref a_u_bits])), (a_u_bits, aI E 50 g_u_bits), (a_u_throughs, aI E 4 g_u_throughs)] H := by rw [hHe]; exact hP
  refine W_hl hHe hle ?_
  clear hHe hle
  refine lv_iconst (v := 0) hx hb dX3_spreadBits_0 (by decide) ?_
  refine lv_istore_n (lv' := [(1, .int 0), (0, .ref o_u)]) hx hb dX3_spreadBits_1 rfl hl (by decide) rfl (fun ls hl => ?_)
  obtain ⟨y_1, hy_1⟩ : ∃ y : Int32, y = 0 := ⟨_, rfl⟩
  have b_y_1 : 0 ≤ y_1.toInt ∧ y_1.toInt ≤ 50 := by rw [hy_1]; decide
  replace hl : lv_has ls 3 [(1, .int y_1), (0, .ref o_u)] := by rw [hy_1]; exact hl
  obtain ⟨y_2, hy_2⟩ : ∃ g : Nat → Int32, g = g_u_bits := ⟨_, rfl⟩
  have i_y_2 : AR y_2 50 0 15 := by rw [hy_2]; exact i_g_u_bits
  replace hP : va_P E.1 vwCl [(o_u, .inr (3, [.int f_u_told, .ref a_u_periods, .ref a_u_froms, .ref a_u_throughs, .ref a_u_tos, .ref a_u_bits])), (a_u_bits, aI E 50 y_2), (a_u_throughs, aI E 4 g_u_throughs)] H := by rw [hy_2]; exact hP
  replace hD : va_D A [(o_u, .inr (3, [.int f_u_told, .ref a_u_periods, .ref a_u_froms, .ref a_u_throughs, .ref a_u_tos, .ref a_u_bits])), (a_u_bits, aI E 50 y_2), (a_u_throughs, aI E 4 g_u_throughs)] := by rw [hy_2]; exact hD
  clear hy_1 hy_2
  obtain ⟨d_3, hd_3⟩ : ∃ d : Nat, 50 - y_1.toInt < (d : Int) := ⟨(50 - y_1.toInt + 1).toNat, by omega⟩
  induction d_3 generalizing y_1 y_2 H locs ls with
  | zero => exfalso; omega
  | succ d_3 ih_d_3 =>
    refine lv_iload_n hx hb dX3_spreadBits_2 rfl (lv_at hl 0 rfl) ?_
    refine lv_bipush (v := 50) hx hb dX3_spreadBits_3 (by decide) ?_
    refine lv_icmp_ge (tgt := 69) hx hb dX3_spreadBits_5 (by decide) (fun c_4 => ?_) (fun c_4 => ?_)
    · have e_4 : 50 ≤ y_1.toInt := i3_le c_4
      exact ret_v hx hb hr hlk (hP.sub (ws' := [(o_u, .inr (3, [.int f_u_told, .ref a_u_periods, .ref a_u_froms, .ref a_u_throughs, .ref a_u_tos, .ref a_u_bits])), (a_u_bits, aI E 50 y_2), (a_u_throughs, aI E 4 g_u_throughs)]) [0, 1, 2] rfl) (hD.sub (ws' := [(o_u, .inr (3, [.int f_u_told, .ref a_u_periods, .ref a_u_froms, .ref a_u_throughs, .ref a_u_tos, .ref a_u_bits])), (a_u_bits, aI E 50 y_2), (a_u_throughs, aI E 4 g_u_throughs)]) [0, 1, 2] (by decide) rfl) hS dX3_spreadBits_69 (Nat.le_of_ble_eq_true rfl) (Nat.le_of_ble_eq_true rfl) ⟨y_2, i_y_2, rfl⟩
    · have e_4 : y_1.toInt < 50 := i3_nle c_4
      refine lv_aload_n hx hb dX3_spreadBits_8 rfl (lv_at hl 1 rfl) ?_
      refine va_get (D := E.1) (ci := 3) (v := .ref a_u_bits) (own := RX3) (C := RX3) (T := TX3) (N := 6) hx hb hts i_q_spreadBits_X3 hown hK hP 0 rfl rfl 5 (by decide) (hto (.fieldLink RX3 24 "TimingHouse$Rules" "bits" "[I") (by decide +kernel)) (fun _ h9 => h9) rfl dX3_spreadBits_9 ?_
      refine lv_iload_n hx hb dX3_spreadBits_12 rfl (lv_at hl 0 rfl) ?_
      refine lv_iconst (v := 0) hx hb dX3_spreadBits_13 (by decide) ?_
      refine st_i hx hb hK hP hD hS 1 rfl (by omega) dX3_spreadBits_14 (fun g_5 H locs eg_5 hP hD hS => ?_)
      have i_g_5 : AR g_5 50 0 15 := by rw [eg_5]; exact AR.up i_y_2 (by decide)
      clear eg_5
      replace hP : va_P E.1 vwCl [(o_u, .inr (3, [.int f_u_told, .ref a_u_periods, .ref a_u_froms, .ref a_u_throughs, .ref a_u_tos, .ref a_u_bits])), (a_u_bits, aI E 50 g_5), (a_u_throughs, aI E 4 g_u_throughs)] H := hP
      replace hD : va_D A [(o_u, .inr (3, [.int f_u_told, .ref a_u_periods, .ref a_u_froms, .ref a_u_throughs, .ref a_u_tos, .ref a_u_bits])), (a_u_bits, aI E 50 g_5), (a_u_throughs, aI E 4 g_u_throughs)] := hD
      refine lv_iconst (v := 0) hx hb dX3_spreadBits_15 (by decide) ?_
      refine lv_istore_n (lv' := [(2, .int 0), (1, .int y_1), (0, .ref o_u)]) hx hb dX3_spreadBits_16 rfl hl (by decide) rfl (fun ls hl => ?_)
      obtain ⟨y_6, hy_6⟩ : ∃ y : Int32, y = 0 := ⟨_, rfl⟩
      have b_y_6 : 0 ≤ y_6.toInt ∧ y_6.toInt ≤ 4 := by rw [hy_6]; decide
      replace hl : lv_has ls 3 [(2, .int y_6), (1, .int y_1), (0, .ref o_u)] := by rw [hy_6]; exact hl
      obtain ⟨y_7, hy_7⟩ : ∃ g : Nat → Int32, g = g_5 := ⟨_, rfl⟩
      have i_y_7 : AR y_7 50 0 15 := by rw [hy_7]; exact i_g_5
      replace hP : va_P E.1 vwCl [(o_u, .inr (3, [.int f_u_told, .ref a_u_periods, .ref a_u_froms, .ref a_u_throughs, .ref a_u_tos, .ref a_u_bits])), (a_u_bits, aI E 50 y_7), (a_u_throughs, aI E 4 g_u_throughs)] H := by rw [hy_7]; exact hP
      replace hD : va_D A [(o_u, .inr (3, [.int f_u_told, .ref a_u_periods, .ref a_u_froms, .ref a_u_throughs, .ref a_u_tos, .ref a_u_bits])), (a_u_bits, aI E 50 y_7), (a_u_throughs, aI E 4 g_u_throughs)] := by rw [hy_7]; exact hD
      clear hy_6 hy_7
      obtain ⟨d_8, hd_8⟩ : ∃ d : Nat, 4 - y_6.toInt < (d : Int) := ⟨(4 - y_6.toInt + 1).toNat, by omega⟩
      induction d_8 generalizing y_6 y_7 H locs ls with
      | zero => exfalso; omega
      | succ d_8 ih_d_8 =>
        refine lv_iload_n hx hb dX3_spreadBits_17 rfl (lv_at hl 0 rfl) ?_
        refine lv_aload_n hx hb dX3_spreadBits_18 rfl (lv_at hl 2 rfl) ?_
        refine va_get (D := E.1) (ci := 3) (v := .int f_u_told) (own := RX3) (C := RX3) (T := TX3) (N := 6) hx hb hts i_q_spreadBits_X3 hown hK hP 0 rfl rfl 0 (by decide) (hto (.fieldLink RX3 27 "TimingHouse$Rules" "told" "I") (by decide +kernel)) (fun _ h9 => h9) rfl dX3_spreadBits_19 ?_
        have b_f_u_told := r_f_u_told.out
        refine lv_icmp_ge (tgt := 63) hx hb dX3_spreadBits_22 (by decide) (fun c_9 => ?_) (fun c_9 => ?_)
        · have e_9 : f_u_told.toInt ≤ y_6.toInt := i3_le c_9
          obtain ⟨x_10, ex_10⟩ : ∃ y : Int32, y = y_1 + 1 := ⟨_, rfl⟩
          have tx_10 : x_10.toInt = y_1.toInt + 1 := i3_addc rfl rfl ex_10 (by omega)
          refine lv_iinc (v := x_10) (lv' := [(1, .int x_10), (2, .int y_6), (0, .ref o_u)]) hx hb dX3_spreadBits_63 hl (k := 1) rfl (by rw [ex_10]; rfl) (by decide) rfl (fun ls hl => ?_)
          refine lv_goto (tgt := 2) hx hb dX3_spreadBits_66 (by decide) ?_
          replace hl : lv_has ls 3 [(1, .int x_10), (0, .ref o_u)] := lv_sub hl [0, 2] rfl
          apply ih_d_3 (y_1 := x_10) (y_2 := y_7) (H := H) (locs := locs) (ls := ls) <;> first | assumption | omega | decide
        · have e_9 : y_6.toInt < f_u_told.toInt := i3_nle c_9
          refine lv_aload_n hx hb dX3_spreadBits_25 rfl (lv_at hl 2 rfl) ?_
          refine va_get (D := E.1) (ci := 3) (v := .ref a_u_throughs) (own := RX3) (C := RX3) (T := TX3) (N := 6) hx hb hts i_q_spreadBits_X3 hown hK hP 0 rfl rfl 3 (by decide) (hto (.fieldLink RX3 18 "TimingHouse$Rules" "throughs" "[I") (by decide +kernel)) (fun _ h9 => h9) rfl dX3_spreadBits_26 ?_
          refine lv_iload_n hx hb dX3_spreadBits_29 rfl (lv_at hl 0 rfl) ?_
          refine ld_i hx hb hK hP 2 rfl (by omega) dX3_spreadBits_30 (fun x_11 ex_11 => ?_)
          have b_x_11 := AR.rd i_g_u_throughs ex_11 (by omega)
          refine lv_iconst (v := (-1)) hx hb dX3_spreadBits_31 (by decide) ?_
          refine lv_icmp_eq (tgt := 45) hx hb dX3_spreadBits_32 (by decide) (fun c_12 => ?_) (fun c_12 => ?_)
          · have e_12 : x_11.toInt = (-1) := i3_eq c_12
            refine lv_aload_n hx hb dX3_spreadBits_45 rfl (lv_at hl 2 rfl) ?_
            refine va_get (D := E.1) (ci := 3) (v := .ref a_u_bits) (own := RX3) (C := RX3) (T := TX3) (N := 6) hx hb hts i_q_spreadBits_X3 hown hK hP 0 rfl rfl 5 (by decide) (hto (.fieldLink RX3 24 "TimingHouse$Rules" "bits" "[I") (by decide +kernel)) (fun _ h9 => h9) rfl dX3_spreadBits_46 ?_
            refine lv_iload_n hx hb dX3_spreadBits_49 rfl (lv_at hl 1 rfl) ?_
            refine lv_dup2_11 hx hb dX3_spreadBits_50 rfl rfl ?_
            refine ld_i hx hb hK hP 1 rfl (by omega) dX3_spreadBits_51 (fun x_13 ex_13 => ?_)
            have b_x_13 := AR.rd i_y_7 ex_13 (by omega)
            refine lv_iconst (v := 1) hx hb dX3_spreadBits_52 (by decide) ?_
            refine lv_iload_n hx hb dX3_spreadBits_53 rfl (lv_at hl 0 rfl) ?_
            refine lv_ishl hx hb dX3_spreadBits_54 ?_
            refine lv_topi (fun x_14 ex_14 => ?_)
            have b_x_14 := i3_shl3 ex_14 (by omega)
            refine lv_ior hx hb dX3_spreadBits_55 ?_
            refine lv_topi (fun x_15 ex_15 => ?_)
            have b_x_15 := i3_or15 ex_15 (by omega) (by omega)
            refine st_i hx hb hK hP hD hS 1 rfl (by omega) dX3_spreadBits_56 (fun g_16 H locs eg_16 hP hD hS => ?_)
            have i_g_16 : AR g_16 50 0 15 := by rw [eg_16]; exact AR.up i_y_7 (by omega)
            clear eg_16
            replace hP : va_P E.1 vwCl [(o_u, .inr (3, [.int f_u_told, .ref a_u_periods, .ref a_u_froms, .ref a_u_throughs, .ref a_u_tos, .ref a_u_bits])), (a_u_bits, aI E 50 g_16), (a_u_throughs, aI E 4 g_u_throughs)] H := hP
            replace hD : va_D A [(o_u, .inr (3, [.int f_u_told, .ref a_u_periods, .ref a_u_froms, .ref a_u_throughs, .ref a_u_tos, .ref a_u_bits])), (a_u_bits, aI E 50 g_16), (a_u_throughs, aI E 4 g_u_throughs)] := hD
            obtain ⟨x_17, ex_17⟩ : ∃ y : Int32, y = y_6 + 1 := ⟨_, rfl⟩
            have tx_17 : x_17.toInt = y_6.toInt + 1 := i3_addc rfl rfl ex_17 (by omega)
            refine lv_iinc (v := x_17) (lv' := [(2, .int x_17), (1, .int y_1), (0, .ref o_u)]) hx hb dX3_spreadBits_57 hl (k := 0) rfl (by rw [ex_17]; rfl) (by decide) rfl (fun ls hl => ?_)
            refine lv_goto (tgt := 17) hx hb dX3_spreadBits_60 (by decide) ?_
            apply ih_d_8 (y_6 := x_17) (y_7 := g_16) (H := H) (locs := locs) (ls := ls) <;> first | assumption | omega | decide
          · have e_12 : x_11.toInt ≠ (-1) := i3_ne c_12
            refine lv_aload_n hx hb dX3_spreadBits_35 rfl (lv_at hl 2 rfl) ?_
            refine va_get (D := E.1) (ci := 3) (v := .ref a_u_throughs) (own := RX3) (C := RX3) (T := TX3) (N := 6) hx hb hts i_q_spreadBits_X3 hown hK hP 0 rfl rfl 3 (by decide) (hto (.fieldLink RX3 18 "TimingHouse$Rules" "throughs" "[I") (by decide +kernel)) (fun _ h9 => h9) rfl dX3_spreadBits_36 ?_
            refine lv_iload_n hx hb dX3_spreadBits_39 rfl (lv_at hl 0 rfl) ?_
            refine ld_i hx hb hK hP 2 rfl (by omega) dX3_spreadBits_40 (fun x_18 ex_18 => ?_)
            have hq_x_18 : x_11 = x_18 := ex_11.trans ex_18.symm
            subst hq_x_18
            refine lv_iload_n hx hb dX3_spreadBits_41 rfl (lv_at hl 1 rfl) ?_
            refine lv_icmp_ne (tgt := 57) hx hb dX3_spreadBits_42 (by decide) (fun c_19 => ?_) (fun c_19 => ?_)
            · have e_19 : x_11.toInt ≠ y_1.toInt := i3_ne c_19
              obtain ⟨x_20, ex_20⟩ : ∃ y : Int32, y = y_6 + 1 := ⟨_, rfl⟩
              have tx_20 : x_20.toInt = y_6.toInt + 1 := i3_addc rfl rfl ex_20 (by omega)
              refine lv_iinc (v := x_20) (lv' := [(2, .int x_20), (1, .int y_1), (0, .ref o_u)]) hx hb dX3_spreadBits_57 hl (k := 0) rfl (by rw [ex_20]; rfl) (by decide) rfl (fun ls hl => ?_)
              refine lv_goto (tgt := 17) hx hb dX3_spreadBits_60 (by decide) ?_
              apply ih_d_8 (y_6 := x_20) (y_7 := y_7) (H := H) (locs := locs) (ls := ls) <;> first | assumption | omega | decide
            · have e_19 : x_11.toInt = y_1.toInt := i3_eq c_19
              refine lv_aload_n hx hb dX3_spreadBits_45 rfl (lv_at hl 2 rfl) ?_
              refine va_get (D := E.1) (ci := 3) (v := .ref a_u_bits) (own := RX3) (C := RX3) (T := TX3) (N := 6) hx hb hts i_q_spreadBits_X3 hown hK hP 0 rfl rfl 5 (by decide) (hto (.fieldLink RX3 24 "TimingHouse$Rules" "bits" "[I") (by decide +kernel)) (fun _ h9 => h9) rfl dX3_spreadBits_46 ?_
              refine lv_iload_n hx hb dX3_spreadBits_49 rfl (lv_at hl 1 rfl) ?_
              refine lv_dup2_11 hx hb dX3_spreadBits_50 rfl rfl ?_
              refine ld_i hx hb hK hP 1 rfl (by omega) dX3_spreadBits_51 (fun x_21 ex_21 => ?_)
              have b_x_21 := AR.rd i_y_7 ex_21 (by omega)
              refine lv_iconst (v := 1) hx hb dX3_spreadBits_52 (by decide) ?_
              refine lv_iload_n hx hb dX3_spreadBits_53 rfl (lv_at hl 0 rfl) ?_
              refine lv_ishl hx hb dX3_spreadBits_54 ?_
              refine lv_topi (fun x_22 ex_22 => ?_)
              have b_x_22 := i3_shl3 ex_22 (by omega)
              refine lv_ior hx hb dX3_spreadBits_55 ?_
              refine lv_topi (fun x_23 ex_23 => ?_)
              have b_x_23 := i3_or15 ex_23 (by omega) (by omega)
              refine st_i hx hb hK hP hD hS 1 rfl (by omega) dX3_spreadBits_56 (fun g_24 H locs eg_24 hP hD hS => ?_)
              have i_g_24 : AR g_24 50 0 15 := by rw [eg_24]; exact AR.up i_y_7 (by omega)
              clear eg_24
              replace hP : va_P E.1 vwCl [(o_u, .inr (3, [.int f_u_told, .ref a_u_periods, .ref a_u_froms, .ref a_u_throughs, .ref a_u_tos, .ref a_u_bits])), (a_u_bits, aI E 50 g_24), (a_u_throughs, aI E 4 g_u_throughs)] H := hP
              replace hD : va_D A [(o_u, .inr (3, [.int f_u_told, .ref a_u_periods, .ref a_u_froms, .ref a_u_throughs, .ref a_u_tos, .ref a_u_bits])), (a_u_bits, aI E 50 g_24), (a_u_throughs, aI E 4 g_u_throughs)] := hD
              obtain ⟨x_25, ex_25⟩ : ∃ y : Int32, y = y_6 + 1 := ⟨_, rfl⟩
              have tx_25 : x_25.toInt = y_6.toInt + 1 := i3_addc rfl rfl ex_25 (by omega)
              refine lv_iinc (v := x_25) (lv' := [(2, .int x_25), (1, .int y_1), (0, .ref o_u)]) hx hb dX3_spreadBits_57 hl (k := 0) rfl (by rw [ex_25]; rfl) (by decide) rfl (fun ls hl => ?_)
              refine lv_goto (tgt := 17) hx hb dX3_spreadBits_60 (by decide) ?_
              apply ih_d_8 (y_6 := x_25) (y_7 := g_24) (H := H) (locs := locs) (ls := ls) <;> first | assumption | omega | decide
