theorem dX2_passArc_0 : decode cX2_passArc 0 = .ok (.iload_n 1, 1) := by decide +kernel
theorem dX2_passArc_1 : decode cX2_passArc 1 = .ok (.iconst 4, 1) := by decide +kernel
theorem dX2_passArc_2 : decode cX2_passArc 2 = .ok (.idiv, 1) := by decide +kernel
theorem dX2_passArc_3 : decode cX2_passArc 3 = .ok (.istore_n 3, 1) := by decide +kernel
theorem dX2_passArc_4 : decode cX2_passArc 4 = .ok (.aload_n 0, 1) := by decide +kernel
theorem dX2_passArc_5 : decode cX2_passArc 5 = .ok (.getfield 37, 3) := by decide +kernel
theorem dX2_passArc_8 : decode cX2_passArc 8 = .ok (.getfield 90, 3) := by decide +kernel
theorem dX2_passArc_11 : decode cX2_passArc 11 = .ok (.iload_n 1, 1) := by decide +kernel
theorem dX2_passArc_12 : decode cX2_passArc 12 = .ok (.iaload, 1) := by decide +kernel
theorem dX2_passArc_13 : decode cX2_passArc 13 = .ok (.iconst 2, 1) := by decide +kernel
theorem dX2_passArc_14 : decode cX2_passArc 14 = .ok (.imul, 1) := by decide +kernel
theorem dX2_passArc_15 : decode cX2_passArc 15 = .ok (.aload_n 0, 1) := by decide +kernel
theorem dX2_passArc_16 : decode cX2_passArc 16 = .ok (.getfield 37, 3) := by decide +kernel
theorem dX2_passArc_19 : decode cX2_passArc 19 = .ok (.getfield 104, 3) := by decide +kernel
theorem dX2_passArc_22 : decode cX2_passArc 22 = .ok (.iload_n 3, 1) := by decide +kernel
theorem dX2_passArc_23 : decode cX2_passArc 23 = .ok (.iaload, 1) := by decide +kernel
theorem dX2_passArc_24 : decode cX2_passArc 24 = .ok (.iconst 2, 1) := by decide +kernel
theorem dX2_passArc_25 : decode cX2_passArc 25 = .ok (.if_icmp .ne 9, 3) := by decide +kernel
theorem dX2_passArc_34 : decode cX2_passArc 34 = .ok (.iload_n 2, 1) := by decide +kernel
theorem dX2_passArc_35 : decode cX2_passArc 35 = .ok (.iadd, 1) := by decide +kernel
theorem dX2_passArc_36 : decode cX2_passArc 36 = .ok (.aload_n 0, 1) := by decide +kernel
theorem dX2_passArc_37 : decode cX2_passArc 37 = .ok (.getfield 9, 3) := by decide +kernel
theorem dX2_passArc_40 : decode cX2_passArc 40 = .ok (.imul, 1) := by decide +kernel
theorem dX2_passArc_41 : decode cX2_passArc 41 = .ok (.istore 4, 2) := by decide +kernel
theorem dX2_passArc_43 : decode cX2_passArc 43 = .ok (.iload_n 3, 1) := by decide +kernel
theorem dX2_passArc_44 : decode cX2_passArc 44 = .ok (.iconst 2, 1) := by decide +kernel
theorem dX2_passArc_45 : decode cX2_passArc 45 = .ok (.imul, 1) := by decide +kernel
theorem dX2_passArc_46 : decode cX2_passArc 46 = .ok (.iload_n 2, 1) := by decide +kernel
theorem dX2_passArc_47 : decode cX2_passArc 47 = .ok (.iadd, 1) := by decide +kernel
theorem dX2_passArc_48 : decode cX2_passArc 48 = .ok (.aload_n 0, 1) := by decide +kernel
theorem dX2_passArc_49 : decode cX2_passArc 49 = .ok (.getfield 9, 3) := by decide +kernel
theorem dX2_passArc_52 : decode cX2_passArc 52 = .ok (.imul, 1) := by decide +kernel
theorem dX2_passArc_53 : decode cX2_passArc 53 = .ok (.istore 5, 2) := by decide +kernel
theorem dX2_passArc_55 : decode cX2_passArc 55 = .ok (.aload_n 0, 1) := by decide +kernel
theorem dX2_passArc_56 : decode cX2_passArc 56 = .ok (.getfield 53, 3) := by decide +kernel
theorem dX2_passArc_59 : decode cX2_passArc 59 = .ok (.getfield 157, 3) := by decide +kernel
theorem dX2_passArc_62 : decode cX2_passArc 62 = .ok (.iload_n 1, 1) := by decide +kernel
theorem dX2_passArc_63 : decode cX2_passArc 63 = .ok (.iconst 2, 1) := by decide +kernel
theorem dX2_passArc_64 : decode cX2_passArc 64 = .ok (.imul, 1) := by decide +kernel
theorem dX2_passArc_65 : decode cX2_passArc 65 = .ok (.iload_n 2, 1) := by decide +kernel
theorem dX2_passArc_66 : decode cX2_passArc 66 = .ok (.iadd, 1) := by decide +kernel
theorem dX2_passArc_67 : decode cX2_passArc 67 = .ok (.iaload, 1) := by decide +kernel
theorem dX2_passArc_68 : decode cX2_passArc 68 = .ok (.istore 6, 2) := by decide +kernel
theorem dX2_passArc_70 : decode cX2_passArc 70 = .ok (.aload_n 0, 1) := by decide +kernel
theorem dX2_passArc_71 : decode cX2_passArc 71 = .ok (.getfield 53, 3) := by decide +kernel
theorem dX2_passArc_74 : decode cX2_passArc 74 = .ok (.getfield 160, 3) := by decide +kernel
theorem dX2_passArc_77 : decode cX2_passArc 77 = .ok (.iload_n 1, 1) := by decide +kernel
theorem dX2_passArc_78 : decode cX2_passArc 78 = .ok (.iconst 2, 1) := by decide +kernel
theorem dX2_passArc_79 : decode cX2_passArc 79 = .ok (.imul, 1) := by decide +kernel
theorem dX2_passArc_80 : decode cX2_passArc 80 = .ok (.iload_n 2, 1) := by decide +kernel
theorem dX2_passArc_81 : decode cX2_passArc 81 = .ok (.iadd, 1) := by decide +kernel
theorem dX2_passArc_82 : decode cX2_passArc 82 = .ok (.iaload, 1) := by decide +kernel
theorem dX2_passArc_83 : decode cX2_passArc 83 = .ok (.istore 7, 2) := by decide +kernel
theorem dX2_passArc_85 : decode cX2_passArc 85 = .ok (.iconst 0, 1) := by decide +kernel
theorem dX2_passArc_86 : decode cX2_passArc 86 = .ok (.istore 8, 2) := by decide +kernel
theorem dX2_passArc_88 : decode cX2_passArc 88 = .ok (.iload 8, 2) := by decide +kernel
theorem dX2_passArc_90 : decode cX2_passArc 90 = .ok (.aload_n 0, 1) := by decide +kernel
theorem dX2_passArc_91 : decode cX2_passArc 91 = .ok (.getfield 9, 3) := by decide +kernel
theorem dX2_passArc_94 : decode cX2_passArc 94 = .ok (.if_icmp .ge 72, 3) := by decide +kernel
theorem dX2_passArc_166 : decode cX2_passArc 166 = .ok (.return_, 1) := by decide +kernel
theorem dX2_passArc_97 : decode cX2_passArc 97 = .ok (.iload 4, 2) := by decide +kernel
theorem dX2_passArc_99 : decode cX2_passArc 99 = .ok (.iload 8, 2) := by decide +kernel
theorem dX2_passArc_101 : decode cX2_passArc 101 = .ok (.iadd, 1) := by decide +kernel
theorem dX2_passArc_102 : decode cX2_passArc 102 = .ok (.istore 9, 2) := by decide +kernel
theorem dX2_passArc_104 : decode cX2_passArc 104 = .ok (.aload_n 0, 1) := by decide +kernel
theorem dX2_passArc_105 : decode cX2_passArc 105 = .ok (.getfield 15, 3) := by decide +kernel
theorem dX2_passArc_108 : decode cX2_passArc 108 = .ok (.iload 9, 2) := by decide +kernel
theorem dX2_passArc_110 : decode cX2_passArc 110 = .ok (.iaload, 1) := by decide +kernel
theorem dX2_passArc_111 : decode cX2_passArc 111 = .ok (.ifCond .le 49, 3) := by decide +kernel
theorem dX2_passArc_160 : decode cX2_passArc 160 = .ok (.iinc 8 1, 3) := by decide +kernel
theorem dX2_passArc_163 : decode cX2_passArc 163 = .ok (.goto (-75), 3) := by decide +kernel
theorem dX2_passArc_114 : decode cX2_passArc 114 = .ok (.aload_n 0, 1) := by decide +kernel
theorem dX2_passArc_115 : decode cX2_passArc 115 = .ok (.iload 5, 2) := by decide +kernel
theorem dX2_passArc_117 : decode cX2_passArc 117 = .ok (.iload 8, 2) := by decide +kernel
theorem dX2_passArc_119 : decode cX2_passArc 119 = .ok (.aload_n 0, 1) := by decide +kernel
theorem dX2_passArc_120 : decode cX2_passArc 120 = .ok (.getfield 49, 3) := by decide +kernel
theorem dX2_passArc_123 : decode cX2_passArc 123 = .ok (.getfield 132, 3) := by decide +kernel
theorem dX2_passArc_126 : decode cX2_passArc 126 = .ok (.iload_n 3, 1) := by decide +kernel
theorem dX2_passArc_127 : decode cX2_passArc 127 = .ok (.iaload, 1) := by decide +kernel
theorem dX2_passArc_128 : decode cX2_passArc 128 = .ok (.ior, 1) := by decide +kernel
theorem dX2_passArc_129 : decode cX2_passArc 129 = .ok (.iadd, 1) := by decide +kernel
theorem dX2_passArc_130 : decode cX2_passArc 130 = .ok (.aload_n 0, 1) := by decide +kernel
theorem dX2_passArc_131 : decode cX2_passArc 131 = .ok (.getfield 15, 3) := by decide +kernel
theorem dX2_passArc_134 : decode cX2_passArc 134 = .ok (.iload 9, 2) := by decide +kernel
theorem dX2_passArc_136 : decode cX2_passArc 136 = .ok (.iaload, 1) := by decide +kernel
theorem dX2_passArc_137 : decode cX2_passArc 137 = .ok (.aload_n 0, 1) := by decide +kernel
theorem dX2_passArc_138 : decode cX2_passArc 138 = .ok (.getfield 19, 3) := by decide +kernel
theorem dX2_passArc_141 : decode cX2_passArc 141 = .ok (.iload 9, 2) := by decide +kernel
theorem dX2_passArc_143 : decode cX2_passArc 143 = .ok (.iaload, 1) := by decide +kernel
theorem dX2_passArc_144 : decode cX2_passArc 144 = .ok (.iload 6, 2) := by decide +kernel
theorem dX2_passArc_146 : decode cX2_passArc 146 = .ok (.iadd, 1) := by decide +kernel
theorem dX2_passArc_147 : decode cX2_passArc 147 = .ok (.aload_n 0, 1) := by decide +kernel
theorem dX2_passArc_148 : decode cX2_passArc 148 = .ok (.getfield 22, 3) := by decide +kernel
theorem dX2_passArc_151 : decode cX2_passArc 151 = .ok (.iload 9, 2) := by decide +kernel
theorem dX2_passArc_153 : decode cX2_passArc 153 = .ok (.iaload, 1) := by decide +kernel
theorem dX2_passArc_154 : decode cX2_passArc 154 = .ok (.iload 7, 2) := by decide +kernel
theorem dX2_passArc_156 : decode cX2_passArc 156 = .ok (.iadd, 1) := by decide +kernel
theorem dX2_passArc_157 : decode cX2_passArc 157 = .ok (.invokevirtual 141, 3) := by decide +kernel
theorem dX2_passArc_28 : decode cX2_passArc 28 = .ok (.iconst 1, 1) := by decide +kernel
theorem dX2_passArc_29 : decode cX2_passArc 29 = .ok (.iload_n 2, 1) := by decide +kernel
theorem dX2_passArc_30 : decode cX2_passArc 30 = .ok (.isub, 1) := by decide +kernel
theorem dX2_passArc_31 : decode cX2_passArc 31 = .ok (.goto 4, 3) := by decide +kernel
def wo_q_passArc : List Cond := [.code yX2_passArc cX2_passArc 10 none, .fieldLink RX2 37 "TimingHouse$Race" "net" "LTimingHouse$Net;", .fieldLink RX2 9 "TimingHouse$Race" "masks" "I", .fieldLink RX2 53 "TimingHouse$Race" "timing" "LTimingHouse$Timing;", .fieldLink RX2 15 "TimingHouse$Race" "ways" "[I", .fieldLink RX2 49 "TimingHouse$Race" "rules" "LTimingHouse$Rules;", .fieldLink RX2 19 "TimingHouse$Race" "lates" "[I", .fieldLink RX2 22 "TimingHouse$Race" "earlies" "[I", .methodLink RX2 141 yX2_merge, .instanceMethod yX2_merge, .selects RX2 yX2_merge yX2_merge, .initialized RX2]
def wr_q_passArc : List Cond := (wsX10 ++ (wsX20 ++ (wsX30 ++ (wsX60 ++ (w_q_merge ++ ([]))))))
def w_q_passArc : List Cond := wo_q_passArc ++ wr_q_passArc
theorem wg_q_passArc : GW w_q_passArc := GW_app (GW_of (by decide +kernel)) (GW_app (GW_of (by decide +kernel)) (GW_app (GW_of (by decide +kernel)) (GW_app (GW_of (by decide +kernel)) (GW_app (GW_of (by decide +kernel)) (GW_app (wg_q_merge) (GW_nil))))))
theorem i_q_passArc_X1 : ∀ w ∈ wsX10, w ∈ w_q_passArc := fun _ h => List.mem_append_right _ (List.mem_append_left _ h)
theorem i_q_passArc_X2 : ∀ w ∈ wsX20, w ∈ w_q_passArc := fun _ h => List.mem_append_right _ (List.mem_append_right _ (List.mem_append_left _ h))
theorem i_q_passArc_X3 : ∀ w ∈ wsX30, w ∈ w_q_passArc := fun _ h => List.mem_append_right _ (List.mem_append_right _ (List.mem_append_right _ (List.mem_append_left _ h)))
theorem i_q_passArc_X6 : ∀ w ∈ wsX60, w ∈ w_q_passArc := fun _ h => List.mem_append_right _ (List.mem_append_right _ (List.mem_append_right _ (List.mem_append_right _ (List.mem_append_left _ h))))
theorem g_q_passArc_q_merge_141 : GoodIn w_q_passArc (wsV RX2 141 RX2 yX2_merge w_q_merge) := goodIn_app (gi_left (goodIn_of _ (by decide +kernel))) (fun w h => ⟨List.mem_append_right _ (List.mem_append_right _ (List.mem_append_right _ (List.mem_append_right _ (List.mem_append_right _ (List.mem_append_left _ h))))), wg_q_merge w h⟩)
set_option maxHeartbeats 8000000 in
set_option maxRecDepth 100000 in
theorem q_passArc (l : Launch) (E : gE) (o_c o_n o_z o_k o_u o_i a_c_ways a_c_lates a_c_earlies a_c_counts a_c_slacks a_c_holdSlacks a_n_kinds a_n_inputs a_n_tables a_n_sizes a_n_extras a_n_sources a_n_takers a_n_firstTaker a_n_order a_n_tally a_n_behind o_t a_i_reached a_i_open a_i_lateDelays a_i_earlyDelays a_i_lateSlopes a_i_earlySlopes a_i_lateArrivals a_i_earlyArrivals a_u_periods a_u_froms a_u_throughs a_u_tos a_u_bits : Nat) (f_c_masks f_c_needed f_n_cells f_n_ordered f_u_told p1 p2 : Int32) (g_n_sources : Nat → Int32) (g_n_kinds : Nat → Int32) (g_i_lateDelays : Nat → Int32) (g_i_earlyDelays : Nat → Int32) (g_c_ways : Nat → Int32) (g_u_bits : Nat → Int32) (g_c_lates : Nat → Int32) (g_c_earlies : Nat → Int32) (r_f_c_masks : RG f_c_masks 1 16) (r_f_n_cells : RG f_n_cells 0 50) (r_f_n_ordered : RG f_n_ordered 0 50) (i_g_n_sources : AR g_n_sources 200 (-5) 49) (i_g_n_kinds : AR g_n_kinds 50 0 5) (r_f_u_told : RG f_u_told 0 4) (i_g_u_bits : AR g_u_bits 50 0 15) (r_p1 : RG p1 0 199) (r_p2 : RG p2 0 1) (hs : 0 ≤ (g_n_sources p1.toNatClampNeg).toInt) : CtV l E yX2_passArc w_q_passArc ({ frames := 2, cells := 0, slots := 0, locals := 45 }) [(o_c, .inr (2, [.ref o_n, .ref o_z, .ref o_k, .ref o_u, .ref o_i, .int f_c_masks, .ref a_c_ways, .ref a_c_lates, .ref a_c_earlies, .ref a_c_counts, .ref a_c_slacks, .ref a_c_holdSlacks, .int f_c_needed])), (o_n, .inr (1, [.int f_n_cells, .ref a_n_kinds, .ref a_n_inputs, .ref a_n_tables, .ref a_n_sizes, .ref a_n_extras, .ref a_n_sources, .ref a_n_takers, .ref a_n_firstTaker, .ref a_n_order, .int f_n_ordered, .ref a_n_tally, .ref a_n_behind])), (a_n_sources, aI E 200 g_n_sources), (a_n_kinds, aI E 50 g_n_kinds), (o_i, .inr (6, [.ref o_n, .ref o_z, .ref o_k, .ref o_t, .ref a_i_reached, .ref a_i_open, .ref a_i_lateDelays, .ref a_i_earlyDelays, .ref a_i_lateSlopes, .ref a_i_earlySlopes, .ref a_i_lateArrivals, .ref a_i_earlyArrivals])), (a_i_lateDelays, aI E 400 g_i_lateDelays), (a_i_earlyDelays, aI E 400 g_i_earlyDelays), (a_c_ways, aI E 1600 g_c_ways), (o_u, .inr (3, [.int f_u_told, .ref a_u_periods, .ref a_u_froms, .ref a_u_throughs, .ref a_u_tos, .ref a_u_bits])), (a_u_bits, aI E 50 g_u_bits), (a_c_lates, aI E 1600 g_c_lates), (a_c_earlies, aI E 1600 g_c_earlies)] [.ref o_c, .int p1, .int p2] (fun w => ∃ ng_c_ways : Nat → Int32, ∃ ng_c_lates : Nat → Int32, ∃ ng_c_earlies : Nat → Int32, w = [(o_c, .inr (2, [.ref o_n, .ref o_z, .ref o_k, .ref o_u, .ref o_i, .int f_c_masks, .ref a_c_ways, .ref a_c_lates, .ref a_c_earlies, .ref a_c_counts, .ref a_c_slacks, .ref a_c_holdSlacks, .int f_c_needed])), (o_n, .inr (1, [.int f_n_cells, .ref a_n_kinds, .ref a_n_inputs, .ref a_n_tables, .ref a_n_sizes, .ref a_n_extras, .ref a_n_sources, .ref a_n_takers, .ref a_n_firstTaker, .ref a_n_order, .int f_n_ordered, .ref a_n_tally, .ref a_n_behind])), (a_n_sources, aI E 200 g_n_sources), (a_n_kinds, aI E 50 g_n_kinds), (o_i, .inr (6, [.ref o_n, .ref o_z, .ref o_k, .ref o_t, .ref a_i_reached, .ref a_i_open, .ref a_i_lateDelays, .ref a_i_earlyDelays, .ref a_i_lateSlopes, .ref a_i_earlySlopes, .ref a_i_lateArrivals, .ref a_i_earlyArrivals])), (a_i_lateDelays, aI E 400 g_i_lateDelays), (a_i_earlyDelays, aI E 400 g_i_earlyDelays), (a_c_ways, aI E 1600 ng_c_ways), (o_u, .inr (3, [.int f_u_told, .ref a_u_periods, .ref a_u_froms, .ref a_u_throughs, .ref a_u_tos, .ref a_u_bits])), (a_u_bits, aI E 50 g_u_bits), (a_c_lates, aI E 1600 ng_c_lates), (a_c_earlies, aI E 1600 ng_c_earlies)]) := by
  refine CtV.of (cc := cX2_passArc) (maxL := 10) (rt := none) (by decide) rfl (Nat.le_of_ble_eq_true rfl) ?_
  intro p e s m below meth c A B ls hl
  obtain ⟨hx, hb, hml, hr, hlk, hin, hts, hown, hK, hN, hZ, hA, hP, hD, hS⟩ := B
  replace hown : s.vm.findClass RX2 = some m.cls := hown
  have hto : ∀ w ∈ wo_q_passArc, w.before _ s = true := fun w h => hts w (List.mem_append_left _ h)
  replace hl : lv_has ls 10 [(0, .ref o_c), (1, .int p1), (2, .int p2)] := hl
  obtain ⟨H, hHe⟩ : ∃ H, H = s.heap := ⟨_, rfl⟩
  obtain ⟨locs, hle⟩ : ∃ l : List Loc, l = [] := ⟨_, rfl⟩
  replace hS : va_S A s.heap H locs := by rw [hHe, hle]; exact hS
  replace hP : va_P E.1 vwCl [(o_c, .inr (2, [.ref o_n, .ref o_z, .ref o_k, .ref o_u, .ref o_i, .int f_c_masks, .ref a_c_ways, .ref a_c_lates, .ref a_c_earlies, .ref a_c_counts, .ref a_c_slacks, .ref a_c_holdSlacks, .int f_c_needed])), (o_n, .inr (1, [.int f_n_cells, .ref a_n_kinds, .ref a_n_inputs, .ref a_n_tables, .ref a_n_sizes, .ref a_n_extras, .ref a_n_sources, .ref a_n_takers, .ref a_n_firstTaker, .ref a_n_order, .int f_n_ordered, .ref a_n_tally, .ref a_n_behind])), (a_n_sources, aI E 200 g_n_sources), (a_n_kinds, aI E 50 g_n_kinds), (o_i, .inr (6, [.ref o_n, .ref o_z, .ref o_k, .ref o_t, .ref a_i_reached, .ref a_i_open, .ref a_i_lateDelays, .ref a_i_earlyDelays, .ref a_i_lateSlopes, .ref a_i_earlySlopes, .ref a_i_lateArrivals, .ref a_i_earlyArrivals])), (a_i_lateDelays, aI E 400 g_i_lateDelays), (a_i_earlyDelays, aI E 400 g_i_earlyDelays), (a_c_ways, aI E 1600 g_c_ways), (o_u, .inr (3, [.int f_u_told, .ref a_u_periods, .ref a_u_froms, .ref a_u_throughs, .ref a_u_tos, .ref a_u_bits])), (a_u_bits, aI E 50 g_u_bits), (a_c_lates, aI E 1600 g_c_lates), (a_c_earlies, aI E 1600 g_c_earlies)] H := by rw [hHe]; exact hP
  refine W_hl hHe hle ?_
  clear hHe hle
  refine lv_iload_n hx hb dX2_passArc_0 rfl (lv_at hl 1 rfl) ?_
  refine lv_iconst (v := 4) hx hb dX2_passArc_1 (by decide) ?_
  have b_p1 := r_p1.out
  refine lv_idiv hx hb dX2_passArc_2 (by decide) ?_
  refine lv_topi (fun x_1 ex_1 => ?_)
  have tx_1 : x_1.toInt = p1.toInt / 4 := i3_divc rfl rfl ex_1 (by omega) (by decide)
  refine lv_istore_n (lv' := [(3, .int x_1), (0, .ref o_c), (1, .int p1), (2, .int p2)]) hx hb dX2_passArc_3 rfl hl (by decide) rfl (fun ls hl => ?_)
  refine lv_aload_n hx hb dX2_passArc_4 rfl (lv_at hl 1 rfl) ?_
  refine va_get (D := E.1) (ci := 2) (v := .ref o_n) (own := RX2) (C := RX2) (T := TX2) (N := 13) hx hb hts i_q_passArc_X2 hown hK hP 0 rfl rfl 0 (by decide) (hto (.fieldLink RX2 37 "TimingHouse$Race" "net" "LTimingHouse$Net;") (by decide +kernel)) (fun _ h9 => h9) rfl dX2_passArc_5 ?_
  refine va_getN (D := E.1) (ci := 1) (v := .ref a_n_sources) (own := RX2) (ref := "TimingHouse$Net") (host := "TimingHouse") (C := RX1) (T := TX1) (N := 13) hx hb hts i_q_passArc_X1 hown hK hP 1 rfl rfl 6 (by decide) (nw_F hN 15 rfl) (fun _ h9 => h9) rfl dX2_passArc_8 ?_
  refine lv_iload_n hx hb dX2_passArc_11 rfl (lv_at hl 2 rfl) ?_
  refine ld_i hx hb hK hP 2 rfl (by omega) dX2_passArc_12 (fun x_2 ex_2 => ?_)
  have q_x_2 : x_2.toInt = (g_n_sources p1.toNatClampNeg).toInt := i3_eq ex_2
  have b_x_2 := AR.rd i_g_n_sources ex_2 (by omega)
  have b2_x_2 : 0 ≤ x_2.toInt := by omega
  refine lv_iconst (v := 2) hx hb dX2_passArc_13 (by decide) ?_
  refine lv_imul hx hb dX2_passArc_14 ?_
  refine lv_topi (fun x_3 ex_3 => ?_)
  have tx_3 : x_3.toInt = x_2.toInt * 2 := i3_mulc rfl rfl ex_3 (by omega)
  refine lv_aload_n hx hb dX2_passArc_15 rfl (lv_at hl 1 rfl) ?_
  refine va_get (D := E.1) (ci := 2) (v := .ref o_n) (own := RX2) (C := RX2) (T := TX2) (N := 13) hx hb hts i_q_passArc_X2 hown hK hP 0 rfl rfl 0 (by decide) (hto (.fieldLink RX2 37 "TimingHouse$Race" "net" "LTimingHouse$Net;") (by decide +kernel)) (fun _ h9 => h9) rfl dX2_passArc_16 ?_
  refine va_getN (D := E.1) (ci := 1) (v := .ref a_n_kinds) (own := RX2) (ref := "TimingHouse$Net") (host := "TimingHouse") (C := RX1) (T := TX1) (N := 13) hx hb hts i_q_passArc_X1 hown hK hP 1 rfl rfl 1 (by decide) (nw_F hN 6 rfl) (fun _ h9 => h9) rfl dX2_passArc_19 ?_
  refine lv_iload_n hx hb dX2_passArc_22 rfl (lv_at hl 0 rfl) ?_
  refine ld_i hx hb hK hP 3 rfl (by omega) dX2_passArc_23 (fun x_4 ex_4 => ?_)
  have b_x_4 := AR.rd i_g_n_kinds ex_4 (by omega)
  refine lv_iconst (v := 2) hx hb dX2_passArc_24 (by decide) ?_
  refine lv_icmp_ne (tgt := 34) hx hb dX2_passArc_25 (by decide) (fun c_5 => ?_) (fun c_5 => ?_)
  · have e_5 : x_4.toInt ≠ 2 := i3_ne c_5
    refine lv_iload_n hx hb dX2_passArc_34 rfl (lv_at hl 3 rfl) ?_
    have b_p2 := r_p2.out
    refine lv_iadd hx hb dX2_passArc_35 ?_
    refine lv_topi (fun x_6 ex_6 => ?_)
    have tx_6 : x_6.toInt = x_3.toInt + p2.toInt := i3_addc rfl rfl ex_6 (by omega)
    refine lv_aload_n hx hb dX2_passArc_36 rfl (lv_at hl 1 rfl) ?_
    refine va_get (D := E.1) (ci := 2) (v := .int f_c_masks) (own := RX2) (C := RX2) (T := TX2) (N := 13) hx hb hts i_q_passArc_X2 hown hK hP 0 rfl rfl 5 (by decide) (hto (.fieldLink RX2 9 "TimingHouse$Race" "masks" "I") (by decide +kernel)) (fun _ h9 => h9) rfl dX2_passArc_37 ?_
    have b_f_c_masks := r_f_c_masks.out
    refine lv_imul hx hb dX2_passArc_40 ?_
    refine lv_topi (fun x_7 ex_7 => ?_)
    have b_x_7 : 0 ≤ x_7.toInt ∧ x_7.toInt ≤ 1584 := i3_mulb (A := 99) (B := 16) ex_7 (by omega) (by omega) (by decide)
    refine lv_istore (lv' := [(4, .int x_7), (3, .int x_1), (0, .ref o_c), (1, .int p1), (2, .int p2)]) hx hb dX2_passArc_41 hl (by decide) rfl (fun ls hl => ?_)
    refine lv_iload_n hx hb dX2_passArc_43 rfl (lv_at hl 1 rfl) ?_
    refine lv_iconst (v := 2) hx hb dX2_passArc_44 (by decide) ?_
    refine lv_imul hx hb dX2_passArc_45 ?_
    refine lv_topi (fun x_8 ex_8 => ?_)
    have tx_8 : x_8.toInt = x_1.toInt * 2 := i3_mulc rfl rfl ex_8 (by omega)
    refine lv_iload_n hx hb dX2_passArc_46 rfl (lv_at hl 4 rfl) ?_
    refine lv_iadd hx hb dX2_passArc_47 ?_
    refine lv_topi (fun x_9 ex_9 => ?_)
    have tx_9 : x_9.toInt = x_8.toInt + p2.toInt := i3_addc rfl rfl ex_9 (by omega)
    refine lv_aload_n hx hb dX2_passArc_48 rfl (lv_at hl 2 rfl) ?_
    refine va_get (D := E.1) (ci := 2) (v := .int f_c_masks) (own := RX2) (C := RX2) (T := TX2) (N := 13) hx hb hts i_q_passArc_X2 hown hK hP 0 rfl rfl 5 (by decide) (hto (.fieldLink RX2 9 "TimingHouse$Race" "masks" "I") (by decide +kernel)) (fun _ h9 => h9) rfl dX2_passArc_49 ?_
    refine lv_imul hx hb dX2_passArc_52 ?_
    refine lv_topi (fun x_10 ex_10 => ?_)
    have b_x_10 : 0 ≤ x_10.toInt ∧ x_10.toInt ≤ 1584 := i3_mulb (A := 99) (B := 16) ex_10 (by omega) (by omega) (by decide)
    refine lv_istore (lv' := [(5, .int x_10), (4, .int x_7), (3, .int x_1), (0, .ref o_c), (1, .int p1), (2, .int p2)]) hx hb dX2_passArc_53 hl (by decide) rfl (fun ls hl => ?_)
    refine lv_aload_n hx hb dX2_passArc_55 rfl (lv_at hl 3 rfl) ?_
    refine va_get (D := E.1) (ci := 2) (v := .ref o_i) (own := RX2) (C := RX2) (T := TX2) (N := 13) hx hb hts i_q_passArc_X2 hown hK hP 0 rfl rfl 4 (by decide) (hto (.fieldLink RX2 53 "TimingHouse$Race" "timing" "LTimingHouse$Timing;") (by decide +kernel)) (fun _ h9 => h9) rfl dX2_passArc_56 ?_
    refine va_getN (D := E.1) (ci := 6) (v := .ref a_i_lateDelays) (own := RX2) (ref := "TimingHouse$Timing") (host := "TimingHouse") (C := RX6) (T := TX6) (N := 12) hx hb hts i_q_passArc_X6 hown hK hP 4 rfl rfl 6 (by decide) (nw_F hN 57 rfl) (fun _ h9 => h9) rfl dX2_passArc_59 ?_
    refine lv_iload_n hx hb dX2_passArc_62 rfl (lv_at hl 4 rfl) ?_
    refine lv_iconst (v := 2) hx hb dX2_passArc_63 (by decide) ?_
    refine lv_imul hx hb dX2_passArc_64 ?_
    refine lv_topi (fun x_11 ex_11 => ?_)
    have tx_11 : x_11.toInt = p1.toInt * 2 := i3_mulc rfl rfl ex_11 (by omega)
    refine lv_iload_n hx hb dX2_passArc_65 rfl (lv_at hl 5 rfl) ?_
    refine lv_iadd hx hb dX2_passArc_66 ?_
    refine lv_topi (fun x_12 ex_12 => ?_)
    have tx_12 : x_12.toInt = x_11.toInt + p2.toInt := i3_addc rfl rfl ex_12 (by omega)
    refine ld_i hx hb hK hP 5 rfl (by omega) dX2_passArc_67 (fun x_13 ex_13 => ?_)
    refine lv_istore (lv' := [(6, .int x_13), (5, .int x_10), (4, .int x_7), (3, .int x_1), (0, .ref o_c), (1, .int p1), (2, .int p2)]) hx hb dX2_passArc_68 hl (by decide) rfl (fun ls hl => ?_)
    refine lv_aload_n hx hb dX2_passArc_70 rfl (lv_at hl 4 rfl) ?_
    refine va_get (D := E.1) (ci := 2) (v := .ref o_i) (own := RX2) (C := RX2) (T := TX2) (N := 13) hx hb hts i_q_passArc_X2 hown hK hP 0 rfl rfl 4 (by decide) (hto (.fieldLink RX2 53 "TimingHouse$Race" "timing" "LTimingHouse$Timing;") (by decide +kernel)) (fun _ h9 => h9) rfl dX2_passArc_71 ?_
    refine va_getN (D := E.1) (ci := 6) (v := .ref a_i_earlyDelays) (own := RX2) (ref := "TimingHouse$Timing") (host := "TimingHouse") (C := RX6) (T := TX6) (N := 12) hx hb hts i_q_passArc_X6 hown hK hP 4 rfl rfl 7 (by decide) (nw_F hN 59 rfl) (fun _ h9 => h9) rfl dX2_passArc_74 ?_
    refine lv_iload_n hx hb dX2_passArc_77 rfl (lv_at hl 5 rfl) ?_
    refine lv_iconst (v := 2) hx hb dX2_passArc_78 (by decide) ?_
    refine lv_imul hx hb dX2_passArc_79 ?_
    refine lv_topi (fun x_14 ex_14 => ?_)
    have hq_x_14 : x_11 = x_14 := ex_11.trans ex_14.symm
    subst hq_x_14
    refine lv_iload_n hx hb dX2_passArc_80 rfl (lv_at hl 6 rfl) ?_
    refine lv_iadd hx hb dX2_passArc_81 ?_
    refine lv_topi (fun x_15 ex_15 => ?_)
    have hq_x_15 : x_12 = x_15 := ex_12.trans ex_15.symm
    subst hq_x_15
    refine ld_i hx hb hK hP 6 rfl (by omega) dX2_passArc_82 (fun x_16 ex_16 => ?_)
    refine lv_istore (lv' := [(7, .int x_16), (6, .int x_13), (5, .int x_10), (4, .int x_7), (3, .int x_1), (0, .ref o_c), (1, .int p1), (2, .int p2)]) hx hb dX2_passArc_83 hl (by decide) rfl (fun ls hl => ?_)
    refine lv_iconst (v := 0) hx hb dX2_passArc_85 (by decide) ?_
    refine lv_istore (lv' := [(8, .int 0), (7, .int x_16), (6, .int x_13), (5, .int x_10), (4, .int x_7), (3, .int x_1), (0, .ref o_c), (1, .int p1), (2, .int p2)]) hx hb dX2_passArc_86 hl (by decide) rfl (fun ls hl => ?_)
    obtain ⟨y_17, hy_17⟩ : ∃ y : Int32, y = 0 := ⟨_, rfl⟩
    have b_y_17 : 0 ≤ y_17.toInt ∧ y_17.toInt ≤ 16 := by rw [hy_17]; decide
    replace hl : lv_has ls 10 [(8, .int y_17), (7, .int x_16), (6, .int x_13), (5, .int x_10), (4, .int x_7), (3, .int x_1), (0, .ref o_c), (1, .int p1), (2, .int p2)] := by rw [hy_17]; exact hl
    obtain ⟨y_18, hy_18⟩ : ∃ g : Nat → Int32, g = g_c_ways := ⟨_, rfl⟩
    obtain ⟨y_19, hy_19⟩ : ∃ g : Nat → Int32, g = g_c_lates := ⟨_, rfl⟩
    obtain ⟨y_20, hy_20⟩ : ∃ g : Nat → Int32, g = g_c_earlies := ⟨_, rfl⟩
    replace hP : va_P E.1 vwCl [(o_c, .inr (2, [.ref o_n, .ref o_z, .ref o_k, .ref o_u, .ref o_i, .int f_c_masks, .ref a_c_ways, .ref a_c_lates, .ref a_c_earlies, .ref a_c_counts, .ref a_c_slacks, .ref a_c_holdSlacks, .int f_c_needed])), (o_n, .inr (1, [.int f_n_cells, .ref a_n_kinds, .ref a_n_inputs, .ref a_n_tables, .ref a_n_sizes, .ref a_n_extras, .ref a_n_sources, .ref a_n_takers, .ref a_n_firstTaker, .ref a_n_order, .int f_n_ordered, .ref a_n_tally, .ref a_n_behind])), (a_n_sources, aI E 200 g_n_sources), (a_n_kinds, aI E 50 g_n_kinds), (o_i, .inr (6, [.ref o_n, .ref o_z, .ref o_k, .ref o_t, .ref a_i_reached, .ref a_i_open, .ref a_i_lateDelays, .ref a_i_earlyDelays, .ref a_i_lateSlopes, .ref a_i_earlySlopes, .ref a_i_lateArrivals, .ref a_i_earlyArrivals])), (a_i_lateDelays, aI E 400 g_i_lateDelays), (a_i_earlyDelays, aI E 400 g_i_earlyDelays), (a_c_ways, aI E 1600 y_18), (o_u, .inr (3, [.int f_u_told, .ref a_u_periods, .ref a_u_froms, .ref a_u_throughs, .ref a_u_tos, .ref a_u_bits])), (a_u_bits, aI E 50 g_u_bits), (a_c_lates, aI E 1600 y_19), (a_c_earlies, aI E 1600 y_20)] H := by rw [hy_18, hy_19, hy_20]; exact hP
    replace hD : va_D A [(o_c, .inr (2, [.ref o_n, .ref o_z, .ref o_k, .ref o_u, .ref o_i, .int f_c_masks, .ref a_c_ways, .ref a_c_lates, .ref a_c_earlies, .ref a_c_counts, .ref a_c_slacks, .ref a_c_holdSlacks, .int f_c_needed])), (o_n, .inr (1, [.int f_n_cells, .ref a_n_kinds, .ref a_n_inputs, .ref a_n_tables, .ref a_n_sizes, .ref a_n_extras, .ref a_n_sources, .ref a_n_takers, .ref a_n_firstTaker, .ref a_n_order, .int f_n_ordered, .ref a_n_tally, .ref a_n_behind])), (a_n_sources, aI E 200 g_n_sources), (a_n_kinds, aI E 50 g_n_kinds), (o_i, .inr (6, [.ref o_n, .ref o_z, .ref o_k, .ref o_t, .ref a_i_reached, .ref a_i_open, .ref a_i_lateDelays, .ref a_i_earlyDelays, .ref a_i_lateSlopes, .ref a_i_earlySlopes, .ref a_i_lateArrivals, .ref a_i_earlyArrivals])), (a_i_lateDelays, aI E 400 g_i_lateDelays), (a_i_earlyDelays, aI E 400 g_i_earlyDelays), (a_c_ways, aI E 1600 y_18), (o_u, .inr (3, [.int f_u_told, .ref a_u_periods, .ref a_u_froms, .ref a_u_throughs, .ref a_u_tos, .ref a_u_bits])), (a_u_bits, aI E 50 g_u_bits), (a_c_lates, aI E 1600 y_19), (a_c_earlies, aI E 1600 y_20)] := by rw [hy_18, hy_19, hy_20]; exact hD
    clear hy_17 hy_18 hy_19 hy_20
    obtain ⟨d_21, hd_21⟩ : ∃ d : Nat, 16 - y_17.toInt < (d : Int) := ⟨(16 - y_17.toInt + 1).toNat, by omega⟩
    induction d_21 generalizing y_17 y_18 y_19 y_20 H locs ls with
    | zero => exfalso; omega
    | succ d_21 ih_d_21 =>
      refine lv_iload hx hb dX2_passArc_88 (lv_at hl 0 rfl) ?_
      refine lv_aload_n hx hb dX2_passArc_90 rfl (lv_at hl 6 rfl) ?_
      refine va_get (D := E.1) (ci := 2) (v := .int f_c_masks) (own := RX2) (C := RX2) (T := TX2) (N := 13) hx hb hts i_q_passArc_X2 hown hK hP 0 rfl rfl 5 (by decide) (hto (.fieldLink RX2 9 "TimingHouse$Race" "masks" "I") (by decide +kernel)) (fun _ h9 => h9) rfl dX2_passArc_91 ?_
      refine lv_icmp_ge (tgt := 166) hx hb dX2_passArc_94 (by decide) (fun c_22 => ?_) (fun c_22 => ?_)
      · have e_22 : f_c_masks.toInt ≤ y_17.toInt := i3_le c_22
        exact ret_v hx hb hr hlk (hP.sub (ws' := [(o_c, .inr (2, [.ref o_n, .ref o_z, .ref o_k, .ref o_u, .ref o_i, .int f_c_masks, .ref a_c_ways, .ref a_c_lates, .ref a_c_earlies, .ref a_c_counts, .ref a_c_slacks, .ref a_c_holdSlacks, .int f_c_needed])), (o_n, .inr (1, [.int f_n_cells, .ref a_n_kinds, .ref a_n_inputs, .ref a_n_tables, .ref a_n_sizes, .ref a_n_extras, .ref a_n_sources, .ref a_n_takers, .ref a_n_firstTaker, .ref a_n_order, .int f_n_ordered, .ref a_n_tally, .ref a_n_behind])), (a_n_sources, aI E 200 g_n_sources), (a_n_kinds, aI E 50 g_n_kinds), (o_i, .inr (6, [.ref o_n, .ref o_z, .ref o_k, .ref o_t, .ref a_i_reached, .ref a_i_open, .ref a_i_lateDelays, .ref a_i_earlyDelays, .ref a_i_lateSlopes, .ref a_i_earlySlopes, .ref a_i_lateArrivals, .ref a_i_earlyArrivals])), (a_i_lateDelays, aI E 400 g_i_lateDelays), (a_i_earlyDelays, aI E 400 g_i_earlyDelays), (a_c_ways, aI E 1600 y_18), (o_u, .inr (3, [.int f_u_told, .ref a_u_periods, .ref a_u_froms, .ref a_u_throughs, .ref a_u_tos, .ref a_u_bits])), (a_u_bits, aI E 50 g_u_bits), (a_c_lates, aI E 1600 y_19), (a_c_earlies, aI E 1600 y_20)]) [0, 1, 2, 3, 4, 5, 6, 7, 8, 9, 10, 11] rfl) (hD.sub (ws' := [(o_c, .inr (2, [.ref o_n, .ref o_z, .ref o_k, .ref o_u, .ref o_i, .int f_c_masks, .ref a_c_ways, .ref a_c_lates, .ref a_c_earlies, .ref a_c_counts, .ref a_c_slacks, .ref a_c_holdSlacks, .int f_c_needed])), (o_n, .inr (1, [.int f_n_cells, .ref a_n_kinds, .ref a_n_inputs, .ref a_n_tables, .ref a_n_sizes, .ref a_n_extras, .ref a_n_sources, .ref a_n_takers, .ref a_n_firstTaker, .ref a_n_order, .int f_n_ordered, .ref a_n_tally, .ref a_n_behind])), (a_n_sources, aI E 200 g_n_sources), (a_n_kinds, aI E 50 g_n_kinds), (o_i, .inr (6, [.ref o_n, .ref o_z, .ref o_k, .ref o_t, .ref a_i_reached, .ref a_i_open, .ref a_i_lateDelays, .ref a_i_earlyDelays, .ref a_i_lateSlopes, .ref a_i_earlySlopes, .ref a_i_lateArrivals, .ref a_i_earlyArrivals])), (a_i_lateDelays, aI E 400 g_i_lateDelays), (a_i_earlyDelays, aI E 400 g_i_earlyDelays), (a_c_ways, aI E 1600 y_18), (o_u, .inr (3, [.int f_u_told, .ref a_u_periods, .ref a_u_froms, .ref a_u_throughs, .ref a_u_tos, .ref a_u_bits])), (a_u_bits, aI E 50 g_u_bits), (a_c_lates, aI E 1600 y_19), (a_c_earlies, aI E 1600 y_20)]) [0, 1, 2, 3, 4, 5, 6, 7, 8, 9, 10, 11] (by decide) rfl) hS dX2_passArc_166 (Nat.le_of_ble_eq_true rfl) (Nat.le_of_ble_eq_true rfl) ⟨y_18, y_19, y_20, rfl⟩
      · have e_22 : y_17.toInt < f_c_masks.toInt := i3_nle c_22
        refine lv_iload hx hb dX2_passArc_97 (lv_at hl 4 rfl) ?_
        refine lv_iload hx hb dX2_passArc_99 (lv_at hl 0 rfl) ?_
        refine lv_iadd hx hb dX2_passArc_101 ?_
        refine lv_topi (fun x_23 ex_23 => ?_)
        have tx_23 : x_23.toInt = x_7.toInt + y_17.toInt := i3_addc rfl rfl ex_23 (by omega)
        refine lv_istore (lv' := [(9, .int x_23), (8, .int y_17), (7, .int x_16), (6, .int x_13), (5, .int x_10), (4, .int x_7), (3, .int x_1), (0, .ref o_c), (1, .int p1), (2, .int p2)]) hx hb dX2_passArc_102 hl (by decide) rfl (fun ls hl => ?_)
        refine lv_aload_n hx hb dX2_passArc_104 rfl (lv_at hl 7 rfl) ?_
        refine va_get (D := E.1) (ci := 2) (v := .ref a_c_ways) (own := RX2) (C := RX2) (T := TX2) (N := 13) hx hb hts i_q_passArc_X2 hown hK hP 0 rfl rfl 6 (by decide) (hto (.fieldLink RX2 15 "TimingHouse$Race" "ways" "[I") (by decide +kernel)) (fun _ h9 => h9) rfl dX2_passArc_105 ?_
        refine lv_iload hx hb dX2_passArc_108 (lv_at hl 0 rfl) ?_
        refine ld_i hx hb hK hP 7 rfl (by omega) dX2_passArc_110 (fun x_24 ex_24 => ?_)
        refine lv_if_le (tgt := 160) hx hb dX2_passArc_111 (by decide) (fun c_25 => ?_) (fun c_25 => ?_)
        · have e_25 : x_24.toInt ≤ 0 := i3_le c_25
          obtain ⟨x_26, ex_26⟩ : ∃ y : Int32, y = y_17 + 1 := ⟨_, rfl⟩
          have tx_26 : x_26.toInt = y_17.toInt + 1 := i3_addc rfl rfl ex_26 (by omega)
          refine lv_iinc (v := x_26) (lv' := [(8, .int x_26), (9, .int x_23), (7, .int x_16), (6, .int x_13), (5, .int x_10), (4, .int x_7), (3, .int x_1), (0, .ref o_c), (1, .int p1), (2, .int p2)]) hx hb dX2_passArc_160 hl (k := 1) rfl (by rw [ex_26]; rfl) (by decide) rfl (fun ls hl => ?_)
          refine lv_goto (tgt := 88) hx hb dX2_passArc_163 (by decide) ?_
          replace hl : lv_has ls 10 [(8, .int x_26), (7, .int x_16), (6, .int x_13), (5, .int x_10), (4, .int x_7), (3, .int x_1), (0, .ref o_c), (1, .int p1), (2, .int p2)] := lv_sub hl [0, 2, 3, 4, 5, 6, 7, 8, 9] rfl
          apply ih_d_21 (y_17 := x_26) (y_18 := y_18) (y_19 := y_19) (y_20 := y_20) (H := H) (locs := locs) (ls := ls) <;> first | assumption | omega | decide
        · have e_25 : 0 < x_24.toInt := i3_nle c_25
          refine lv_aload_n hx hb dX2_passArc_114 rfl (lv_at hl 7 rfl) ?_
          refine lv_iload hx hb dX2_passArc_115 (lv_at hl 4 rfl) ?_
          refine lv_iload hx hb dX2_passArc_117 (lv_at hl 1 rfl) ?_
          refine lv_aload_n hx hb dX2_passArc_119 rfl (lv_at hl 7 rfl) ?_
          refine va_get (D := E.1) (ci := 2) (v := .ref o_u) (own := RX2) (C := RX2) (T := TX2) (N := 13) hx hb hts i_q_passArc_X2 hown hK hP 0 rfl rfl 3 (by decide) (hto (.fieldLink RX2 49 "TimingHouse$Race" "rules" "LTimingHouse$Rules;") (by decide +kernel)) (fun _ h9 => h9) rfl dX2_passArc_120 ?_
          refine va_getN (D := E.1) (ci := 3) (v := .ref a_u_bits) (own := RX2) (ref := "TimingHouse$Rules") (host := "TimingHouse") (C := RX3) (T := TX3) (N := 6) hx hb hts i_q_passArc_X3 hown hK hP 8 rfl rfl 5 (by decide) (nw_F hN 45 rfl) (fun _ h9 => h9) rfl dX2_passArc_123 ?_
          refine lv_iload_n hx hb dX2_passArc_126 rfl (lv_at hl 6 rfl) ?_
          refine ld_i hx hb hK hP 9 rfl (by omega) dX2_passArc_127 (fun x_27 ex_27 => ?_)
          have b_x_27 := AR.rd i_g_u_bits ex_27 (by omega)
          refine lv_ior hx hb dX2_passArc_128 ?_
          refine lv_topi (fun x_28 ex_28 => ?_)
          have b_x_28 := i3_or15 ex_28 (by omega) (by omega)
          refine lv_iadd hx hb dX2_passArc_129 ?_
          refine lv_topi (fun x_29 ex_29 => ?_)
          have tx_29 : x_29.toInt = x_10.toInt + x_28.toInt := i3_addc rfl rfl ex_29 (by omega)
          refine lv_aload_n hx hb dX2_passArc_130 rfl (lv_at hl 7 rfl) ?_
          refine va_get (D := E.1) (ci := 2) (v := .ref a_c_ways) (own := RX2) (C := RX2) (T := TX2) (N := 13) hx hb hts i_q_passArc_X2 hown hK hP 0 rfl rfl 6 (by decide) (hto (.fieldLink RX2 15 "TimingHouse$Race" "ways" "[I") (by decide +kernel)) (fun _ h9 => h9) rfl dX2_passArc_131 ?_
          refine lv_iload hx hb dX2_passArc_134 (lv_at hl 0 rfl) ?_
          refine ld_i hx hb hK hP 7 rfl (by omega) dX2_passArc_136 (fun x_30 ex_30 => ?_)
          have hq_x_30 : x_24 = x_30 := ex_24.trans ex_30.symm
          subst hq_x_30
          refine lv_aload_n hx hb dX2_passArc_137 rfl (lv_at hl 7 rfl) ?_
          refine va_get (D := E.1) (ci := 2) (v := .ref a_c_lates) (own := RX2) (C := RX2) (T := TX2) (N := 13) hx hb hts i_q_passArc_X2 hown hK hP 0 rfl rfl 7 (by decide) (hto (.fieldLink RX2 19 "TimingHouse$Race" "lates" "[I") (by decide +kernel)) (fun _ h9 => h9) rfl dX2_passArc_138 ?_
          refine lv_iload hx hb dX2_passArc_141 (lv_at hl 0 rfl) ?_
          refine ld_i hx hb hK hP 10 rfl (by omega) dX2_passArc_143 (fun x_31 ex_31 => ?_)
          refine lv_iload hx hb dX2_passArc_144 (lv_at hl 3 rfl) ?_
          refine lv_iadd hx hb dX2_passArc_146 ?_
          refine lv_topi (fun x_32 ex_32 => ?_)
          have bd_33 := i3_bd x_31
          have bd_34 := i3_bd x_13
          refine lv_aload_n hx hb dX2_passArc_147 rfl (lv_at hl 7 rfl) ?_
          refine va_get (D := E.1) (ci := 2) (v := .ref a_c_earlies) (own := RX2) (C := RX2) (T := TX2) (N := 13) hx hb hts i_q_passArc_X2 hown hK hP 0 rfl rfl 8 (by decide) (hto (.fieldLink RX2 22 "TimingHouse$Race" "earlies" "[I") (by decide +kernel)) (fun _ h9 => h9) rfl dX2_passArc_148 ?_
          refine lv_iload hx hb dX2_passArc_151 (lv_at hl 0 rfl) ?_
          refine ld_i hx hb hK hP 11 rfl (by omega) dX2_passArc_153 (fun x_35 ex_35 => ?_)
          refine lv_iload hx hb dX2_passArc_154 (lv_at hl 2 rfl) ?_
          refine lv_iadd hx hb dX2_passArc_156 ?_
          refine lv_topi (fun x_36 ex_36 => ?_)
          have bd_37 := i3_bd x_35
          have bd_38 := i3_bd x_16
          refine call_v (va_runV (As := [.int x_29, .int x_24, .int x_32, .int x_36]) (rest := []) ⟨hx, hb, hml, hown, hts⟩ (q_merge l E o_c o_n o_z o_k o_u o_i a_c_ways a_c_lates a_c_earlies a_c_counts a_c_slacks a_c_holdSlacks f_c_masks f_c_needed x_29 x_24 x_32 x_36 y_18 y_19 y_20 r_f_c_masks (RG.mk (by omega)) H.size) (cwV 4 hts g_q_passArc_q_merge_141 rfl rfl rfl (by decide +kernel) ⟨Nat.le_of_ble_eq_true rfl, Nat.le_of_ble_eq_true rfl⟩) (pre_V hK hN hZ hS (va_free hD hS hA [0, 7, 10, 11] rfl) (hP.sub (ws' := [(o_c, .inr (2, [.ref o_n, .ref o_z, .ref o_k, .ref o_u, .ref o_i, .int f_c_masks, .ref a_c_ways, .ref a_c_lates, .ref a_c_earlies, .ref a_c_counts, .ref a_c_slacks, .ref a_c_holdSlacks, .int f_c_needed])), (a_c_ways, aI E 1600 y_18), (a_c_lates, aI E 1600 y_19), (a_c_earlies, aI E 1600 y_20)]) [0, 7, 10, 11] rfl) (hD.sub (ws' := [(o_c, .inr (2, [.ref o_n, .ref o_z, .ref o_k, .ref o_u, .ref o_i, .int f_c_masks, .ref a_c_ways, .ref a_c_lates, .ref a_c_earlies, .ref a_c_counts, .ref a_c_slacks, .ref a_c_holdSlacks, .int f_c_needed])), (a_c_ways, aI E 1600 y_18), (a_c_lates, aI E 1600 y_19), (a_c_earlies, aI E 1600 y_20)]) [0, 7, 10, 11] (by decide) rfl) (ci := 2) (q0 := 0) rfl rfl) rfl rfl hl.1 rfl (lv_room (Nat.le_of_ble_eq_true rfl)) dX2_passArc_157 ⟨Nat.le_of_ble_eq_true rfl, Nat.le_of_ble_eq_true rfl⟩) hP hD hS hA [0, 7, 10, 11] [1, 2, 3, 4, 5, 6, 8, 9] (wr := [(o_n, .inr (1, [.int f_n_cells, .ref a_n_kinds, .ref a_n_inputs, .ref a_n_tables, .ref a_n_sizes, .ref a_n_extras, .ref a_n_sources, .ref a_n_takers, .ref a_n_firstTaker, .ref a_n_order, .int f_n_ordered, .ref a_n_tally, .ref a_n_behind])), (a_n_sources, aI E 200 g_n_sources), (a_n_kinds, aI E 50 g_n_kinds), (o_i, .inr (6, [.ref o_n, .ref o_z, .ref o_k, .ref o_t, .ref a_i_reached, .ref a_i_open, .ref a_i_lateDelays, .ref a_i_earlyDelays, .ref a_i_lateSlopes, .ref a_i_earlySlopes, .ref a_i_lateArrivals, .ref a_i_earlyArrivals])), (a_i_lateDelays, aI E 400 g_i_lateDelays), (a_i_earlyDelays, aI E 400 g_i_earlyDelays), (o_u, .inr (3, [.int f_u_told, .ref a_u_periods, .ref a_u_froms, .ref a_u_throughs, .ref a_u_tos, .ref a_u_bits])), (a_u_bits, aI E 50 g_u_bits)]) rfl rfl (by decide) (by decide) (fun w H locs hw hP hD hS => ?_)
          obtain ⟨z_40, z_41, z_42, rfl⟩ := hw
          replace hP : va_P E.1 vwCl [(o_n, .inr (1, [.int f_n_cells, .ref a_n_kinds, .ref a_n_inputs, .ref a_n_tables, .ref a_n_sizes, .ref a_n_extras, .ref a_n_sources, .ref a_n_takers, .ref a_n_firstTaker, .ref a_n_order, .int f_n_ordered, .ref a_n_tally, .ref a_n_behind])), (a_n_sources, aI E 200 g_n_sources), (a_n_kinds, aI E 50 g_n_kinds), (o_i, .inr (6, [.ref o_n, .ref o_z, .ref o_k, .ref o_t, .ref a_i_reached, .ref a_i_open, .ref a_i_lateDelays, .ref a_i_earlyDelays, .ref a_i_lateSlopes, .ref a_i_earlySlopes, .ref a_i_lateArrivals, .ref a_i_earlyArrivals])), (a_i_lateDelays, aI E 400 g_i_lateDelays), (a_i_earlyDelays, aI E 400 g_i_earlyDelays), (o_u, .inr (3, [.int f_u_told, .ref a_u_periods, .ref a_u_froms, .ref a_u_throughs, .ref a_u_tos, .ref a_u_bits])), (a_u_bits, aI E 50 g_u_bits), (o_c, .inr (2, [.ref o_n, .ref o_z, .ref o_k, .ref o_u, .ref o_i, .int f_c_masks, .ref a_c_ways, .ref a_c_lates, .ref a_c_earlies, .ref a_c_counts, .ref a_c_slacks, .ref a_c_holdSlacks, .int f_c_needed])), (a_c_ways, aI E 1600 z_40), (a_c_lates, aI E 1600 z_41), (a_c_earlies, aI E 1600 z_42)] H := hP
          replace hD : va_D A [(o_n, .inr (1, [.int f_n_cells, .ref a_n_kinds, .ref a_n_inputs, .ref a_n_tables, .ref a_n_sizes, .ref a_n_extras, .ref a_n_sources, .ref a_n_takers, .ref a_n_firstTaker, .ref a_n_order, .int f_n_ordered, .ref a_n_tally, .ref a_n_behind])), (a_n_sources, aI E 200 g_n_sources), (a_n_kinds, aI E 50 g_n_kinds), (o_i, .inr (6, [.ref o_n, .ref o_z, .ref o_k, .ref o_t, .ref a_i_reached, .ref a_i_open, .ref a_i_lateDelays, .ref a_i_earlyDelays, .ref a_i_lateSlopes, .ref a_i_earlySlopes, .ref a_i_lateArrivals, .ref a_i_earlyArrivals])), (a_i_lateDelays, aI E 400 g_i_lateDelays), (a_i_earlyDelays, aI E 400 g_i_earlyDelays), (o_u, .inr (3, [.int f_u_told, .ref a_u_periods, .ref a_u_froms, .ref a_u_throughs, .ref a_u_tos, .ref a_u_bits])), (a_u_bits, aI E 50 g_u_bits), (o_c, .inr (2, [.ref o_n, .ref o_z, .ref o_k, .ref o_u, .ref o_i, .int f_c_masks, .ref a_c_ways, .ref a_c_lates, .ref a_c_earlies, .ref a_c_counts, .ref a_c_slacks, .ref a_c_holdSlacks, .int f_c_needed])), (a_c_ways, aI E 1600 z_40), (a_c_lates, aI E 1600 z_41), (a_c_earlies, aI E 1600 z_42)] := hD
          obtain ⟨x_43, ex_43⟩ : ∃ y : Int32, y = y_17 + 1 := ⟨_, rfl⟩
          have tx_43 : x_43.toInt = y_17.toInt + 1 := i3_addc rfl rfl ex_43 (by omega)
          refine lv_iinc (v := x_43) (lv' := [(8, .int x_43), (9, .int x_23), (7, .int x_16), (6, .int x_13), (5, .int x_10), (4, .int x_7), (3, .int x_1), (0, .ref o_c), (1, .int p1), (2, .int p2)]) hx hb dX2_passArc_160 hl (k := 1) rfl (by rw [ex_43]; rfl) (by decide) rfl (fun ls hl => ?_)
          refine lv_goto (tgt := 88) hx hb dX2_passArc_163 (by decide) ?_
          replace hP : va_P E.1 vwCl [(o_c, .inr (2, [.ref o_n, .ref o_z, .ref o_k, .ref o_u, .ref o_i, .int f_c_masks, .ref a_c_ways, .ref a_c_lates, .ref a_c_earlies, .ref a_c_counts, .ref a_c_slacks, .ref a_c_holdSlacks, .int f_c_needed])), (o_n, .inr (1, [.int f_n_cells, .ref a_n_kinds, .ref a_n_inputs, .ref a_n_tables, .ref a_n_sizes, .ref a_n_extras, .ref a_n_sources, .ref a_n_takers, .ref a_n_firstTaker, .ref a_n_order, .int f_n_ordered, .ref a_n_tally, .ref a_n_behind])), (a_n_sources, aI E 200 g_n_sources), (a_n_kinds, aI E 50 g_n_kinds), (o_i, .inr (6, [.ref o_n, .ref o_z, .ref o_k, .ref o_t, .ref a_i_reached, .ref a_i_open, .ref a_i_lateDelays, .ref a_i_earlyDelays, .ref a_i_lateSlopes, .ref a_i_earlySlopes, .ref a_i_lateArrivals, .ref a_i_earlyArrivals])), (a_i_lateDelays, aI E 400 g_i_lateDelays), (a_i_earlyDelays, aI E 400 g_i_earlyDelays), (a_c_ways, aI E 1600 z_40), (o_u, .inr (3, [.int f_u_told, .ref a_u_periods, .ref a_u_froms, .ref a_u_throughs, .ref a_u_tos, .ref a_u_bits])), (a_u_bits, aI E 50 g_u_bits), (a_c_lates, aI E 1600 z_41), (a_c_earlies, aI E 1600 z_42)] H := hP.sub [8, 0, 1, 2, 3, 4, 5, 9, 6, 7, 10, 11] rfl
          replace hD : va_D A [(o_c, .inr (2, [.ref o_n, .ref o_z, .ref o_k, .ref o_u, .ref o_i, .int f_c_masks, .ref a_c_ways, .ref a_c_lates, .ref a_c_earlies, .ref a_c_counts, .ref a_c_slacks, .ref a_c_holdSlacks, .int f_c_needed])), (o_n, .inr (1, [.int f_n_cells, .ref a_n_kinds, .ref a_n_inputs, .ref a_n_tables, .ref a_n_sizes, .ref a_n_extras, .ref a_n_sources, .ref a_n_takers, .ref a_n_firstTaker, .ref a_n_order, .int f_n_ordered, .ref a_n_tally, .ref a_n_behind])), (a_n_sources, aI E 200 g_n_sources), (a_n_kinds, aI E 50 g_n_kinds), (o_i, .inr (6, [.ref o_n, .ref o_z, .ref o_k, .ref o_t, .ref a_i_reached, .ref a_i_open, .ref a_i_lateDelays, .ref a_i_earlyDelays, .ref a_i_lateSlopes, .ref a_i_earlySlopes, .ref a_i_lateArrivals, .ref a_i_earlyArrivals])), (a_i_lateDelays, aI E 400 g_i_lateDelays), (a_i_earlyDelays, aI E 400 g_i_earlyDelays), (a_c_ways, aI E 1600 z_40), (o_u, .inr (3, [.int f_u_told, .ref a_u_periods, .ref a_u_froms, .ref a_u_throughs, .ref a_u_tos, .ref a_u_bits])), (a_u_bits, aI E 50 g_u_bits), (a_c_lates, aI E 1600 z_41), (a_c_earlies, aI E 1600 z_42)] := hD.sub [8, 0, 1, 2, 3, 4, 5, 9, 6, 7, 10, 11] (by decide) rfl
          replace hl : lv_has ls 10 [(8, .int x_43), (7, .int x_16), (6, .int x_13), (5, .int x_10), (4, .int x_7), (3, .int x_1), (0, .ref o_c), (1, .int p1), (2, .int p2)] := lv_sub hl [0, 2, 3, 4, 5, 6, 7, 8, 9] rfl
          apply ih_d_21 (y_17 := x_43) (y_18 := z_40) (y_19 := z_41) (y_20 := z_42) (H := H) (locs := locs) (ls := ls) <;> first | assumption | omega | decide
  · have e_5 : x_4.toInt = 2 := i3_eq c_5
    refine lv_iconst (v := 1) hx hb dX2_passArc_28 (by decide) ?_
    refine lv_iload_n hx hb dX2_passArc_29 rfl (lv_at hl 3 rfl) ?_
    have b_p2 := r_p2.out
    refine lv_isub hx hb dX2_passArc_30 ?_
    refine lv_topi (fun x_44 ex_44 => ?_)
    have tx_44 : x_44.toInt = 1 - p2.toInt := i3_subc rfl rfl ex_44 (by omega)
    refine lv_goto (tgt := 35) hx hb dX2_passArc_31 (by decide) ?_
    refine lv_iadd hx hb dX2_passArc_35 ?_
    refine lv_topi (fun x_45 ex_45 => ?_)
    have tx_45 : x_45.toInt = x_3.toInt + x_44.toInt := i3_addc rfl rfl ex_45 (by omega)
    refine lv_aload_n hx hb dX2_passArc_36 rfl (lv_at hl 1 rfl) ?_
    refine va_get (D := E.1) (ci := 2) (v := .int f_c_masks) (own := RX2) (C := RX2) (T := TX2) (N := 13) hx hb hts i_q_passArc_X2 hown hK hP 0 rfl rfl 5 (by decide) (hto (.fieldLink RX2 9 "TimingHouse$Race" "masks" "I") (by decide +kernel)) (fun _ h9 => h9) rfl dX2_passArc_37 ?_
    have b_f_c_masks := r_f_c_masks.out
    refine lv_imul hx hb dX2_passArc_40 ?_
    refine lv_topi (fun x_46 ex_46 => ?_)
    have b_x_46 : 0 ≤ x_46.toInt ∧ x_46.toInt ≤ 1584 := i3_mulb (A := 99) (B := 16) ex_46 (by omega) (by omega) (by decide)
    refine lv_istore (lv' := [(4, .int x_46), (3, .int x_1), (0, .ref o_c), (1, .int p1), (2, .int p2)]) hx hb dX2_passArc_41 hl (by decide) rfl (fun ls hl => ?_)
    refine lv_iload_n hx hb dX2_passArc_43 rfl (lv_at hl 1 rfl) ?_
    refine lv_iconst (v := 2) hx hb dX2_passArc_44 (by decide) ?_
    refine lv_imul hx hb dX2_passArc_45 ?_
    refine lv_topi (fun x_47 ex_47 => ?_)
    have tx_47 : x_47.toInt = x_1.toInt * 2 := i3_mulc rfl rfl ex_47 (by omega)
    refine lv_iload_n hx hb dX2_passArc_46 rfl (lv_at hl 4 rfl) ?_
    refine lv_iadd hx hb dX2_passArc_47 ?_
    refine lv_topi (fun x_48 ex_48 => ?_)
    have tx_48 : x_48.toInt = x_47.toInt + p2.toInt := i3_addc rfl rfl ex_48 (by omega)
    refine lv_aload_n hx hb dX2_passArc_48 rfl (lv_at hl 2 rfl) ?_
    refine va_get (D := E.1) (ci := 2) (v := .int f_c_masks) (own := RX2) (C := RX2) (T := TX2) (N := 13) hx hb hts i_q_passArc_X2 hown hK hP 0 rfl rfl 5 (by decide) (hto (.fieldLink RX2 9 "TimingHouse$Race" "masks" "I") (by decide +kernel)) (fun _ h9 => h9) rfl dX2_passArc_49 ?_
    refine lv_imul hx hb dX2_passArc_52 ?_
    refine lv_topi (fun x_49 ex_49 => ?_)
    have b_x_49 : 0 ≤ x_49.toInt ∧ x_49.toInt ≤ 1584 := i3_mulb (A := 99) (B := 16) ex_49 (by omega) (by omega) (by decide)
    refine lv_istore (lv' := [(5, .int x_49), (4, .int x_46), (3, .int x_1), (0, .ref o_c), (1, .int p1), (2, .int p2)]) hx hb dX2_passArc_53 hl (by decide) rfl (fun ls hl => ?_)
    refine lv_aload_n hx hb dX2_passArc_55 rfl (lv_at hl 3 rfl) ?_
    refine va_get (D := E.1) (ci := 2) (v := .ref o_i) (own := RX2) (C := RX2) (T := TX2) (N := 13) hx hb hts i_q_passArc_X2 hown hK hP 0 rfl rfl 4 (by decide) (hto (.fieldLink RX2 53 "TimingHouse$Race" "timing" "LTimingHouse$Timing;") (by decide +kernel)) (fun _ h9 => h9) rfl dX2_passArc_56 ?_
    refine va_getN (D := E.1) (ci := 6) (v := .ref a_i_lateDelays) (own := RX2) (ref := "TimingHouse$Timing") (host := "TimingHouse") (C := RX6) (T := TX6) (N := 12) hx hb hts i_q_passArc_X6 hown hK hP 4 rfl rfl 6 (by decide) (nw_F hN 57 rfl) (fun _ h9 => h9) rfl dX2_passArc_59 ?_
    refine lv_iload_n hx hb dX2_passArc_62 rfl (lv_at hl 4 rfl) ?_
    refine lv_iconst (v := 2) hx hb dX2_passArc_63 (by decide) ?_
    refine lv_imul hx hb dX2_passArc_64 ?_
    refine lv_topi (fun x_50 ex_50 => ?_)
    have tx_50 : x_50.toInt = p1.toInt * 2 := i3_mulc rfl rfl ex_50 (by omega)
    refine lv_iload_n hx hb dX2_passArc_65 rfl (lv_at hl 5 rfl) ?_
    refine lv_iadd hx hb dX2_passArc_66 ?_
    refine lv_topi (fun x_51 ex_51 => ?_)
    have tx_51 : x_51.toInt = x_50.toInt + p2.toInt := i3_addc rfl rfl ex_51 (by omega)
    refine ld_i hx hb hK hP 5 rfl (by omega) dX2_passArc_67 (fun x_52 ex_52 => ?_)
    refine lv_istore (lv' := [(6, .int x_52), (5, .int x_49), (4, .int x_46), (3, .int x_1), (0, .ref o_c), (1, .int p1), (2, .int p2)]) hx hb dX2_passArc_68 hl (by decide) rfl (fun ls hl => ?_)
    refine lv_aload_n hx hb dX2_passArc_70 rfl (lv_at hl 4 rfl) ?_
    refine va_get (D := E.1) (ci := 2) (v := .ref o_i) (own := RX2) (C := RX2) (T := TX2) (N := 13) hx hb hts i_q_passArc_X2 hown hK hP 0 rfl rfl 4 (by decide) (hto (.fieldLink RX2 53 "TimingHouse$Race" "timing" "LTimingHouse$Timing;") (by decide +kernel)) (fun _ h9 => h9) rfl dX2_passArc_71 ?_
    refine va_getN (D := E.1) (ci := 6) (v := .ref a_i_earlyDelays) (own := RX2) (ref := "TimingHouse$Timing") (host := "TimingHouse") (C := RX6) (T := TX6) (N := 12) hx hb hts i_q_passArc_X6 hown hK hP 4 rfl rfl 7 (by decide) (nw_F hN 59 rfl) (fun _ h9 => h9) rfl dX2_passArc_74 ?_
    refine lv_iload_n hx hb dX2_passArc_77 rfl (lv_at hl 5 rfl) ?_
    refine lv_iconst (v := 2) hx hb dX2_passArc_78 (by decide) ?_
    refine lv_imul hx hb dX2_passArc_79 ?_
    refine lv_topi (fun x_53 ex_53 => ?_)
    have hq_x_53 : x_50 = x_53 := ex_50.trans ex_53.symm
    subst hq_x_53
    refine lv_iload_n hx hb dX2_passArc_80 rfl (lv_at hl 6 rfl) ?_
    refine lv_iadd hx hb dX2_passArc_81 ?_
    refine lv_topi (fun x_54 ex_54 => ?_)
    have hq_x_54 : x_51 = x_54 := ex_51.trans ex_54.symm
    subst hq_x_54
    refine ld_i hx hb hK hP 6 rfl (by omega) dX2_passArc_82 (fun x_55 ex_55 => ?_)
    refine lv_istore (lv' := [(7, .int x_55), (6, .int x_52), (5, .int x_49), (4, .int x_46), (3, .int x_1), (0, .ref o_c), (1, .int p1), (2, .int p2)]) hx hb dX2_passArc_83 hl (by decide) rfl (fun ls hl => ?_)
    refine lv_iconst (v := 0) hx hb dX2_passArc_85 (by decide) ?_
    refine lv_istore (lv' := [(8, .int 0), (7, .int x_55), (6, .int x_52), (5, .int x_49), (4, .int x_46), (3, .int x_1), (0, .ref o_c), (1, .int p1), (2, .int p2)]) hx hb dX2_passArc_86 hl (by decide) rfl (fun ls hl => ?_)
    obtain ⟨y_56, hy_56⟩ : ∃ y : Int32, y = 0 := ⟨_, rfl⟩
    have b_y_56 : 0 ≤ y_56.toInt ∧ y_56.toInt ≤ 16 := by rw [hy_56]; decide
    replace hl : lv_has ls 10 [(8, .int y_56), (7, .int x_55), (6, .int x_52), (5, .int x_49), (4, .int x_46), (3, .int x_1), (0, .ref o_c), (1, .int p1), (2, .int p2)] := by rw [hy_56]; exact hl
    obtain ⟨y_57, hy_57⟩ : ∃ g : Nat → Int32, g = g_c_ways := ⟨_, rfl⟩
    obtain ⟨y_58, hy_58⟩ : ∃ g : Nat → Int32, g = g_c_lates := ⟨_, rfl⟩
    obtain ⟨y_59, hy_59⟩ : ∃ g : Nat → Int32, g = g_c_earlies := ⟨_, rfl⟩
    replace hP : va_P E.1 vwCl [(o_c, .inr (2, [.ref o_n, .ref o_z, .ref o_k, .ref o_u, .ref o_i, .int f_c_masks, .ref a_c_ways, .ref a_c_lates, .ref a_c_earlies, .ref a_c_counts, .ref a_c_slacks, .ref a_c_holdSlacks, .int f_c_needed])), (o_n, .inr (1, [.int f_n_cells, .ref a_n_kinds, .ref a_n_inputs, .ref a_n_tables, .ref a_n_sizes, .ref a_n_extras, .ref a_n_sources, .ref a_n_takers, .ref a_n_firstTaker, .ref a_n_order, .int f_n_ordered, .ref a_n_tally, .ref a_n_behind])), (a_n_sources, aI E 200 g_n_sources), (a_n_kinds, aI E 50 g_n_kinds), (o_i, .inr (6, [.ref o_n, .ref o_z, .ref o_k, .ref o_t, .ref a_i_reached, .ref a_i_open, .ref a_i_lateDelays, .ref a_i_earlyDelays, .ref a_i_lateSlopes, .ref a_i_earlySlopes, .ref a_i_lateArrivals, .ref a_i_earlyArrivals])), (a_i_lateDelays, aI E 400 g_i_lateDelays), (a_i_earlyDelays, aI E 400 g_i_earlyDelays), (a_c_ways, aI E 1600 y_57), (o_u, .inr (3, [.int f_u_told, .ref a_u_periods, .ref a_u_froms, .ref a_u_throughs, .ref a_u_tos, .ref a_u_bits])), (a_u_bits, aI E 50 g_u_bits), (a_c_lates, aI E 1600 y_58), (a_c_earlies, aI E 1600 y_59)] H := by rw [hy_57, hy_58, hy_59]; exact hP
    replace hD : va_D A [(o_c, .inr (2, [.ref o_n, .ref o_z, .ref o_k, .ref o_u, .ref o_i, .int f_c_masks, .ref a_c_ways, .ref a_c_lates, .ref a_c_earlies, .ref a_c_counts, .ref a_c_slacks, .ref a_c_holdSlacks, .int f_c_needed])), (o_n, .inr (1, [.int f_n_cells, .ref a_n_kinds, .ref a_n_inputs, .ref a_n_tables, .ref a_n_sizes, .ref a_n_extras, .ref a_n_sources, .ref a_n_takers, .ref a_n_firstTaker, .ref a_n_order, .int f_n_ordered, .ref a_n_tally, .ref a_n_behind])), (a_n_sources, aI E 200 g_n_sources), (a_n_kinds, aI E 50 g_n_kinds), (o_i, .inr (6, [.ref o_n, .ref o_z, .ref o_k, .ref o_t, .ref a_i_reached, .ref a_i_open, .ref a_i_lateDelays, .ref a_i_earlyDelays, .ref a_i_lateSlopes, .ref a_i_earlySlopes, .ref a_i_lateArrivals, .ref a_i_earlyArrivals])), (a_i_lateDelays, aI E 400 g_i_lateDelays), (a_i_earlyDelays, aI E 400 g_i_earlyDelays), (a_c_ways, aI E 1600 y_57), (o_u, .inr (3, [.int f_u_told, .ref a_u_periods, .ref a_u_froms, .ref a_u_throughs, .ref a_u_tos, .ref a_u_bits])), (a_u_bits, aI E 50 g_u_bits), (a_c_lates, aI E 1600 y_58), (a_c_earlies, aI E 1600 y_59)] := by rw [hy_57, hy_58, hy_59]; exact hD
    clear hy_56 hy_57 hy_58 hy_59
    obtain ⟨d_60, hd_60⟩ : ∃ d : Nat, 16 - y_56.toInt < (d : Int) := ⟨(16 - y_56.toInt + 1).toNat, by omega⟩
    induction d_60 generalizing y_56 y_57 y_58 y_59 H locs ls with
    | zero => exfalso; omega
    | succ d_60 ih_d_60 =>
      refine lv_iload hx hb dX2_passArc_88 (lv_at hl 0 rfl) ?_
      refine lv_aload_n hx hb dX2_passArc_90 rfl (lv_at hl 6 rfl) ?_
      refine va_get (D := E.1) (ci := 2) (v := .int f_c_masks) (own := RX2) (C := RX2) (T := TX2) (N := 13) hx hb hts i_q_passArc_X2 hown hK hP 0 rfl rfl 5 (by decide) (hto (.fieldLink RX2 9 "TimingHouse$Race" "masks" "I") (by decide +kernel)) (fun _ h9 => h9) rfl dX2_passArc_91 ?_
      refine lv_icmp_ge (tgt := 166) hx hb dX2_passArc_94 (by decide) (fun c_61 => ?_) (fun c_61 => ?_)
      · have e_61 : f_c_masks.toInt ≤ y_56.toInt := i3_le c_61
        exact ret_v hx hb hr hlk (hP.sub (ws' := [(o_c, .inr (2, [.ref o_n, .ref o_z, .ref o_k, .ref o_u, .ref o_i, .int f_c_masks, .ref a_c_ways, .ref a_c_lates, .ref a_c_earlies, .ref a_c_counts, .ref a_c_slacks, .ref a_c_holdSlacks, .int f_c_needed])), (o_n, .inr (1, [.int f_n_cells, .ref a_n_kinds, .ref a_n_inputs, .ref a_n_tables, .ref a_n_sizes, .ref a_n_extras, .ref a_n_sources, .ref a_n_takers, .ref a_n_firstTaker, .ref a_n_order, .int f_n_ordered, .ref a_n_tally, .ref a_n_behind])), (a_n_sources, aI E 200 g_n_sources), (a_n_kinds, aI E 50 g_n_kinds), (o_i, .inr (6, [.ref o_n, .ref o_z, .ref o_k, .ref o_t, .ref a_i_reached, .ref a_i_open, .ref a_i_lateDelays, .ref a_i_earlyDelays, .ref a_i_lateSlopes, .ref a_i_earlySlopes, .ref a_i_lateArrivals, .ref a_i_earlyArrivals])), (a_i_lateDelays, aI E 400 g_i_lateDelays), (a_i_earlyDelays, aI E 400 g_i_earlyDelays), (a_c_ways, aI E 1600 y_57), (o_u, .inr (3, [.int f_u_told, .ref a_u_periods, .ref a_u_froms, .ref a_u_throughs, .ref a_u_tos, .ref a_u_bits])), (a_u_bits, aI E 50 g_u_bits), (a_c_lates, aI E 1600 y_58), (a_c_earlies, aI E 1600 y_59)]) [0, 1, 2, 3, 4, 5, 6, 7, 8, 9, 10, 11] rfl) (hD.sub (ws' := [(o_c, .inr (2, [.ref o_n, .ref o_z, .ref o_k, .ref o_u, .ref o_i, .int f_c_masks, .ref a_c_ways, .ref a_c_lates, .ref a_c_earlies, .ref a_c_counts, .ref a_c_slacks, .ref a_c_holdSlacks, .int f_c_needed])), (o_n, .inr (1, [.int f_n_cells, .ref a_n_kinds, .ref a_n_inputs, .ref a_n_tables, .ref a_n_sizes, .ref a_n_extras, .ref a_n_sources, .ref a_n_takers, .ref a_n_firstTaker, .ref a_n_order, .int f_n_ordered, .ref a_n_tally, .ref a_n_behind])), (a_n_sources, aI E 200 g_n_sources), (a_n_kinds, aI E 50 g_n_kinds), (o_i, .inr (6, [.ref o_n, .ref o_z, .ref o_k, .ref o_t, .ref a_i_reached, .ref a_i_open, .ref a_i_lateDelays, .ref a_i_earlyDelays, .ref a_i_lateSlopes, .ref a_i_earlySlopes, .ref a_i_lateArrivals, .ref a_i_earlyArrivals])), (a_i_lateDelays, aI E 400 g_i_lateDelays), (a_i_earlyDelays, aI E 400 g_i_earlyDelays), (a_c_ways, aI E 1600 y_57), (o_u, .inr (3, [.int f_u_told, .ref a_u_periods, .ref a_u_froms, .ref a_u_throughs, .ref a_u_tos, .ref a_u_bits])), (a_u_bits, aI E 50 g_u_bits), (a_c_lates, aI E 1600 y_58), (a_c_earlies, aI E 1600 y_59)]) [0, 1, 2, 3, 4, 5, 6, 7, 8, 9, 10, 11] (by decide) rfl) hS dX2_passArc_166 (Nat.le_of_ble_eq_true rfl) (Nat.le_of_ble_eq_true rfl) ⟨y_57, y_58, y_59, rfl⟩
      · have e_61 : y_56.toInt < f_c_masks.toInt := i3_nle c_61
        refine lv_iload hx hb dX2_passArc_97 (lv_at hl 4 rfl) ?_
        refine lv_iload hx hb dX2_passArc_99 (lv_at hl 0 rfl) ?_
        refine lv_iadd hx hb dX2_passArc_101 ?_
        refine lv_topi (fun x_62 ex_62 => ?_)
        have tx_62 : x_62.toInt = x_46.toInt + y_56.toInt := i3_addc rfl rfl ex_62 (by omega)
        refine lv_istore (lv' := [(9, .int x_62), (8, .int y_56), (7, .int x_55), (6, .int x_52), (5, .int x_49), (4, .int x_46), (3, .int x_1), (0, .ref o_c), (1, .int p1), (2, .int p2)]) hx hb dX2_passArc_102 hl (by decide) rfl (fun ls hl => ?_)
        refine lv_aload_n hx hb dX2_passArc_104 rfl (lv_at hl 7 rfl) ?_
        refine va_get (D := E.1) (ci := 2) (v := .ref a_c_ways) (own := RX2) (C := RX2) (T := TX2) (N := 13) hx hb hts i_q_passArc_X2 hown hK hP 0 rfl rfl 6 (by decide) (hto (.fieldLink RX2 15 "TimingHouse$Race" "ways" "[I") (by decide +kernel)) (fun _ h9 => h9) rfl dX2_passArc_105 ?_
        refine lv_iload hx hb dX2_passArc_108 (lv_at hl 0 rfl) ?_
        refine ld_i hx hb hK hP 7 rfl (by omega) dX2_passArc_110 (fun x_63 ex_63 => ?_)
        refine lv_if_le (tgt := 160) hx hb dX2_passArc_111 (by decide) (fun c_64 => ?_) (fun c_64 => ?_)
        · have e_64 : x_63.toInt ≤ 0 := i3_le c_64
          obtain ⟨x_65, ex_65⟩ : ∃ y : Int32, y = y_56 + 1 := ⟨_, rfl⟩
          have tx_65 : x_65.toInt = y_56.toInt + 1 := i3_addc rfl rfl ex_65 (by omega)
          refine lv_iinc (v := x_65) (lv' := [(8, .int x_65), (9, .int x_62), (7, .int x_55), (6, .int x_52), (5, .int x_49), (4, .int x_46), (3, .int x_1), (0, .ref o_c), (1, .int p1), (2, .int p2)]) hx hb dX2_passArc_160 hl (k := 1) rfl (by rw [ex_65]; rfl) (by decide) rfl (fun ls hl => ?_)
          refine lv_goto (tgt := 88) hx hb dX2_passArc_163 (by decide) ?_
          replace hl : lv_has ls 10 [(8, .int x_65), (7, .int x_55), (6, .int x_52), (5, .int x_49), (4, .int x_46), (3, .int x_1), (0, .ref o_c), (1, .int p1), (2, .int p2)] := lv_sub hl [0, 2, 3, 4, 5, 6, 7, 8, 9] rfl
          apply ih_d_60 (y_56 := x_65) (y_57 := y_57) (y_58 := y_58) (y_59 := y_59) (H := H) (locs := locs) (ls := ls) <;> first | assumption | omega | decide
        · have e_64 : 0 < x_63.toInt := i3_nle c_64
          refine lv_aload_n hx hb dX2_passArc_114 rfl (lv_at hl 7 rfl) ?_
          refine lv_iload hx hb dX2_passArc_115 (lv_at hl 4 rfl) ?_
          refine lv_iload hx hb dX2_passArc_117 (lv_at hl 1 rfl) ?_
          refine lv_aload_n hx hb dX2_passArc_119 rfl (lv_at hl 7 rfl) ?_
          refine va_get (D := E.1) (ci := 2) (v := .ref o_u) (own := RX2) (C := RX2) (T := TX2) (N := 13) hx hb hts i_q_passArc_X2 hown hK hP 0 rfl rfl 3 (by decide) (hto (.fieldLink RX2 49 "TimingHouse$Race" "rules" "LTimingHouse$Rules;") (by decide +kernel)) (fun _ h9 => h9) rfl dX2_passArc_120 ?_
          refine va_getN (D := E.1) (ci := 3) (v := .ref a_u_bits) (own := RX2) (ref := "TimingHouse$Rules") (host := "TimingHouse") (C := RX3) (T := TX3) (N := 6) hx hb hts i_q_passArc_X3 hown hK hP 8 rfl rfl 5 (by decide) (nw_F hN 45 rfl) (fun _ h9 => h9) rfl dX2_passArc_123 ?_
          refine lv_iload_n hx hb dX2_passArc_126 rfl (lv_at hl 6 rfl) ?_
          refine ld_i hx hb hK hP 9 rfl (by omega) dX2_passArc_127 (fun x_66 ex_66 => ?_)
          have b_x_66 := AR.rd i_g_u_bits ex_66 (by omega)
          refine lv_ior hx hb dX2_passArc_128 ?_
          refine lv_topi (fun x_67 ex_67 => ?_)
          have b_x_67 := i3_or15 ex_67 (by omega) (by omega)
          refine lv_iadd hx hb dX2_passArc_129 ?_
          refine lv_topi (fun x_68 ex_68 => ?_)
          have tx_68 : x_68.toInt = x_49.toInt + x_67.toInt := i3_addc rfl rfl ex_68 (by omega)
          refine lv_aload_n hx hb dX2_passArc_130 rfl (lv_at hl 7 rfl) ?_
          refine va_get (D := E.1) (ci := 2) (v := .ref a_c_ways) (own := RX2) (C := RX2) (T := TX2) (N := 13) hx hb hts i_q_passArc_X2 hown hK hP 0 rfl rfl 6 (by decide) (hto (.fieldLink RX2 15 "TimingHouse$Race" "ways" "[I") (by decide +kernel)) (fun _ h9 => h9) rfl dX2_passArc_131 ?_
          refine lv_iload hx hb dX2_passArc_134 (lv_at hl 0 rfl) ?_
          refine ld_i hx hb hK hP 7 rfl (by omega) dX2_passArc_136 (fun x_69 ex_69 => ?_)
          have hq_x_69 : x_63 = x_69 := ex_63.trans ex_69.symm
          subst hq_x_69
          refine lv_aload_n hx hb dX2_passArc_137 rfl (lv_at hl 7 rfl) ?_
          refine va_get (D := E.1) (ci := 2) (v := .ref a_c_lates) (own := RX2) (C := RX2) (T := TX2) (N := 13) hx hb hts i_q_passArc_X2 hown hK hP 0 rfl rfl 7 (by decide) (hto (.fieldLink RX2 19 "TimingHouse$Race" "lates" "[I") (by decide +kernel)) (fun _ h9 => h9) rfl dX2_passArc_138 ?_
          refine lv_iload hx hb dX2_passArc_141 (lv_at hl 0 rfl) ?_
          refine ld_i hx hb hK hP 10 rfl (by omega) dX2_passArc_143 (fun x_70 ex_70 => ?_)
          refine lv_iload hx hb dX2_passArc_144 (lv_at hl 3 rfl) ?_
          refine lv_iadd hx hb dX2_passArc_146 ?_
          refine lv_topi (fun x_71 ex_71 => ?_)
          have bd_72 := i3_bd x_70
          have bd_73 := i3_bd x_52
          refine lv_aload_n hx hb dX2_passArc_147 rfl (lv_at hl 7 rfl) ?_
          refine va_get (D := E.1) (ci := 2) (v := .ref a_c_earlies) (own := RX2) (C := RX2) (T := TX2) (N := 13) hx hb hts i_q_passArc_X2 hown hK hP 0 rfl rfl 8 (by decide) (hto (.fieldLink RX2 22 "TimingHouse$Race" "earlies" "[I") (by decide +kernel)) (fun _ h9 => h9) rfl dX2_passArc_148 ?_
          refine lv_iload hx hb dX2_passArc_151 (lv_at hl 0 rfl) ?_
          refine ld_i hx hb hK hP 11 rfl (by omega) dX2_passArc_153 (fun x_74 ex_74 => ?_)
          refine lv_iload hx hb dX2_passArc_154 (lv_at hl 2 rfl) ?_
          refine lv_iadd hx hb dX2_passArc_156 ?_
          refine lv_topi (fun x_75 ex_75 => ?_)
          have bd_76 := i3_bd x_74
          have bd_77 := i3_bd x_55
          refine call_v (va_runV (As := [.int x_68, .int x_63, .int x_71, .int x_75]) (rest := []) ⟨hx, hb, hml, hown, hts⟩ (q_merge l E o_c o_n o_z o_k o_u o_i a_c_ways a_c_lates a_c_earlies a_c_counts a_c_slacks a_c_holdSlacks f_c_masks f_c_needed x_68 x_63 x_71 x_75 y_57 y_58 y_59 r_f_c_masks (RG.mk (by omega)) H.size) (cwV 4 hts g_q_passArc_q_merge_141 rfl rfl rfl (by decide +kernel) ⟨Nat.le_of_ble_eq_true rfl, Nat.le_of_ble_eq_true rfl⟩) (pre_V hK hN hZ hS (va_free hD hS hA [0, 7, 10, 11] rfl) (hP.sub (ws' := [(o_c, .inr (2, [.ref o_n, .ref o_z, .ref o_k, .ref o_u, .ref o_i, .int f_c_masks, .ref a_c_ways, .ref a_c_lates, .ref a_c_earlies, .ref a_c_counts, .ref a_c_slacks, .ref a_c_holdSlacks, .int f_c_needed])), (a_c_ways, aI E 1600 y_57), (a_c_lates, aI E 1600 y_58), (a_c_earlies, aI E 1600 y_59)]) [0, 7, 10, 11] rfl) (hD.sub (ws' := [(o_c, .inr (2, [.ref o_n, .ref o_z, .ref o_k, .ref o_u, .ref o_i, .int f_c_masks, .ref a_c_ways, .ref a_c_lates, .ref a_c_earlies, .ref a_c_counts, .ref a_c_slacks, .ref a_c_holdSlacks, .int f_c_needed])), (a_c_ways, aI E 1600 y_57), (a_c_lates, aI E 1600 y_58), (a_c_earlies, aI E 1600 y_59)]) [0, 7, 10, 11] (by decide) rfl) (ci := 2) (q0 := 0) rfl rfl) rfl rfl hl.1 rfl (lv_room (Nat.le_of_ble_eq_true rfl)) dX2_passArc_157 ⟨Nat.le_of_ble_eq_true rfl, Nat.le_of_ble_eq_true rfl⟩) hP hD hS hA [0, 7, 10, 11] [1, 2, 3, 4, 5, 6, 8, 9] (wr := [(o_n, .inr (1, [.int f_n_cells, .ref a_n_kinds, .ref a_n_inputs, .ref a_n_tables, .ref a_n_sizes, .ref a_n_extras, .ref a_n_sources, .ref a_n_takers, .ref a_n_firstTaker, .ref a_n_order, .int f_n_ordered, .ref a_n_tally, .ref a_n_behind])), (a_n_sources, aI E 200 g_n_sources), (a_n_kinds, aI E 50 g_n_kinds), (o_i, .inr (6, [.ref o_n, .ref o_z, .ref o_k, .ref o_t, .ref a_i_reached, .ref a_i_open, .ref a_i_lateDelays, .ref a_i_earlyDelays, .ref a_i_lateSlopes, .ref a_i_earlySlopes, .ref a_i_lateArrivals, .ref a_i_earlyArrivals])), (a_i_lateDelays, aI E 400 g_i_lateDelays), (a_i_earlyDelays, aI E 400 g_i_earlyDelays), (o_u, .inr (3, [.int f_u_told, .ref a_u_periods, .ref a_u_froms, .ref a_u_throughs, .ref a_u_tos, .ref a_u_bits])), (a_u_bits, aI E 50 g_u_bits)]) rfl rfl (by decide) (by decide) (fun w H locs hw hP hD hS => ?_)
          obtain ⟨z_79, z_80, z_81, rfl⟩ := hw
          replace hP : va_P E.1 vwCl [(o_n, .inr (1, [.int f_n_cells, .ref a_n_kinds, .ref a_n_inputs, .ref a_n_tables, .ref a_n_sizes, .ref a_n_extras, .ref a_n_sources, .ref a_n_takers, .ref a_n_firstTaker, .ref a_n_order, .int f_n_ordered, .ref a_n_tally, .ref a_n_behind])), (a_n_sources, aI E 200 g_n_sources), (a_n_kinds, aI E 50 g_n_kinds), (o_i, .inr (6, [.ref o_n, .ref o_z, .ref o_k, .ref o_t, .ref a_i_reached, .ref a_i_open, .ref a_i_lateDelays, .ref a_i_earlyDelays, .ref a_i_lateSlopes, .ref a_i_earlySlopes, .ref a_i_lateArrivals, .ref a_i_earlyArrivals])), (a_i_lateDelays, aI E 400 g_i_lateDelays), (a_i_earlyDelays, aI E 400 g_i_earlyDelays), (o_u, .inr (3, [.int f_u_told, .ref a_u_periods, .ref a_u_froms, .ref a_u_throughs, .ref a_u_tos, .ref a_u_bits])), (a_u_bits, aI E 50 g_u_bits), (o_c, .inr (2, [.ref o_n, .ref o_z, .ref o_k, .ref o_u, .ref o_i, .int f_c_masks, .ref a_c_ways, .ref a_c_lates, .ref a_c_earlies, .ref a_c_counts, .ref a_c_slacks, .ref a_c_holdSlacks, .int f_c_needed])), (a_c_ways, aI E 1600 z_79), (a_c_lates, aI E 1600 z_80), (a_c_earlies, aI E 1600 z_81)] H := hP
          replace hD : va_D A [(o_n, .inr (1, [.int f_n_cells, .ref a_n_kinds, .ref a_n_inputs, .ref a_n_tables, .ref a_n_sizes, .ref a_n_extras, .ref a_n_sources, .ref a_n_takers, .ref a_n_firstTaker, .ref a_n_order, .int f_n_ordered, .ref a_n_tally, .ref a_n_behind])), (a_n_sources, aI E 200 g_n_sources), (a_n_kinds, aI E 50 g_n_kinds), (o_i, .inr (6, [.ref o_n, .ref o_z, .ref o_k, .ref o_t, .ref a_i_reached, .ref a_i_open, .ref a_i_lateDelays, .ref a_i_earlyDelays, .ref a_i_lateSlopes, .ref a_i_earlySlopes, .ref a_i_lateArrivals, .ref a_i_earlyArrivals])), (a_i_lateDelays, aI E 400 g_i_lateDelays), (a_i_earlyDelays, aI E 400 g_i_earlyDelays), (o_u, .inr (3, [.int f_u_told, .ref a_u_periods, .ref a_u_froms, .ref a_u_throughs, .ref a_u_tos, .ref a_u_bits])), (a_u_bits, aI E 50 g_u_bits), (o_c, .inr (2, [.ref o_n, .ref o_z, .ref o_k, .ref o_u, .ref o_i, .int f_c_masks, .ref a_c_ways, .ref a_c_lates, .ref a_c_earlies, .ref a_c_counts, .ref a_c_slacks, .ref a_c_holdSlacks, .int f_c_needed])), (a_c_ways, aI E 1600 z_79), (a_c_lates, aI E 1600 z_80), (a_c_earlies, aI E 1600 z_81)] := hD
          obtain ⟨x_82, ex_82⟩ : ∃ y : Int32, y = y_56 + 1 := ⟨_, rfl⟩
          have tx_82 : x_82.toInt = y_56.toInt + 1 := i3_addc rfl rfl ex_82 (by omega)
          refine lv_iinc (v := x_82) (lv' := [(8, .int x_82), (9, .int x_62), (7, .int x_55), (6, .int x_52), (5, .int x_49), (4, .int x_46), (3, .int x_1), (0, .ref o_c), (1, .int p1), (2, .int p2)]) hx hb dX2_passArc_160 hl (k := 1) rfl (by rw [ex_82]; rfl) (by decide) rfl (fun ls hl => ?_)
          refine lv_goto (tgt := 88) hx hb dX2_passArc_163 (by decide) ?_
          replace hP : va_P E.1 vwCl [(o_c, .inr (2, [.ref o_n, .ref o_z, .ref o_k, .ref o_u, .ref o_i, .int f_c_masks, .ref a_c_ways, .ref a_c_lates, .ref a_c_earlies, .ref a_c_counts, .ref a_c_slacks, .ref a_c_holdSlacks, .int f_c_needed])), (o_n, .inr (1, [.int f_n_cells, .ref a_n_kinds, .ref a_n_inputs, .ref a_n_tables, .ref a_n_sizes, .ref a_n_extras, .ref a_n_sources, .ref a_n_takers, .ref a_n_firstTaker, .ref a_n_order, .int f_n_ordered, .ref a_n_tally, .ref a_n_behind])), (a_n_sources, aI E 200 g_n_sources), (a_n_kinds, aI E 50 g_n_kinds), (o_i, .inr (6, [.ref o_n, .ref o_z, .ref o_k, .ref o_t, .ref a_i_reached, .ref a_i_open, .ref a_i_lateDelays, .ref a_i_earlyDelays, .ref a_i_lateSlopes, .ref a_i_earlySlopes, .ref a_i_lateArrivals, .ref a_i_earlyArrivals])), (a_i_lateDelays, aI E 400 g_i_lateDelays), (a_i_earlyDelays, aI E 400 g_i_earlyDelays), (a_c_ways, aI E 1600 z_79), (o_u, .inr (3, [.int f_u_told, .ref a_u_periods, .ref a_u_froms, .ref a_u_throughs, .ref a_u_tos, .ref a_u_bits])), (a_u_bits, aI E 50 g_u_bits), (a_c_lates, aI E 1600 z_80), (a_c_earlies, aI E 1600 z_81)] H := hP.sub [8, 0, 1, 2, 3, 4, 5, 9, 6, 7, 10, 11] rfl
          replace hD : va_D A [(o_c, .inr (2, [.ref o_n, .ref o_z, .ref o_k, .ref o_u, .ref o_i, .int f_c_masks, .ref a_c_ways, .ref a_c_lates, .ref a_c_earlies, .ref a_c_counts, .ref a_c_slacks, .ref a_c_holdSlacks, .int f_c_needed])), (o_n, .inr (1, [.int f_n_cells, .ref a_n_kinds, .ref a_n_inputs, .ref a_n_tables, .ref a_n_sizes, .ref a_n_extras, .ref a_n_sources, .ref a_n_takers, .ref a_n_firstTaker, .ref a_n_order, .int f_n_ordered, .ref a_n_tally, .ref a_n_behind])), (a_n_sources, aI E 200 g_n_sources), (a_n_kinds, aI E 50 g_n_kinds), (o_i, .inr (6, [.ref o_n, .ref o_z, .ref o_k, .ref o_t, .ref a_i_reached, .ref a_i_open, .ref a_i_lateDelays, .ref a_i_earlyDelays, .ref a_i_lateSlopes, .ref a_i_earlySlopes, .ref a_i_lateArrivals, .ref a_i_earlyArrivals])), (a_i_lateDelays, aI E 400 g_i_lateDelays), (a_i_earlyDelays, aI E 400 g_i_earlyDelays), (a_c_ways, aI E 1600 z_79), (o_u, .inr (3, [.int f_u_told, .ref a_u_periods, .ref a_u_froms, .ref a_u_throughs, .ref a_u_tos, .ref a_u_bits])), (a_u_bits, aI E 50 g_u_bits), (a_c_lates, aI E 1600 z_80), (a_c_earlies, aI E 1600 z_81)] := hD.sub [8, 0, 1, 2, 3, 4, 5, 9, 6, 7, 10, 11] (by decide) rfl
          replace hl : lv_has ls 10 [(8, .int x_82), (7, .int x_55), (6, .int x_52), (5, .int x_49), (4, .int x_46), (3, .int x_1), (0, .ref o_c), (1, .int p1), (2, .int p2)] := lv_sub hl [0, 2, 3, 4, 5, 6, 7, 8, 9] rfl
          apply ih_d_60 (y_56 := x_82) (y_57 := z_79) (y_58 := z_80) (y_59 := z_81) (H := H) (locs := locs) (ls := ls) <;> first | assumption | omega | decide
theorem dX2_finish_0 : decode cX2_finish 0 = .ok (.aload_n 0, 1) := by decide +kernel
theorem dX2_finish_1 : decode cX2_finish 1 = .ok (.getfield 37, 3) := by decide +kernel
theorem dX2_finish_4 : decode cX2_finish 4 = .ok (.getfield 90, 3) := by decide +kernel
theorem dX2_finish_7 : decode cX2_finish 7 = .ok (.iload_n 2, 1) := by decide +kernel
theorem dX2_finish_8 : decode cX2_finish 8 = .ok (.iconst 4, 1) := by decide +kernel
theorem dX2_finish_9 : decode cX2_finish 9 = .ok (.imul, 1) := by decide +kernel
theorem dX2_finish_10 : decode cX2_finish 10 = .ok (.iaload, 1) := by decide +kernel
theorem dX2_finish_11 : decode cX2_finish 11 = .ok (.iconst 2, 1) := by decide +kernel
theorem dX2_finish_12 : decode cX2_finish 12 = .ok (.imul, 1) := by decide +kernel
theorem dX2_finish_13 : decode cX2_finish 13 = .ok (.aload_n 0, 1) := by decide +kernel
theorem dX2_finish_14 : decode cX2_finish 14 = .ok (.getfield 9, 3) := by decide +kernel
theorem dX2_finish_17 : decode cX2_finish 17 = .ok (.imul, 1) := by decide +kernel
theorem dX2_finish_18 : decode cX2_finish 18 = .ok (.istore_n 3, 1) := by decide +kernel
theorem dX2_finish_19 : decode cX2_finish 19 = .ok (.aload_n 0, 1) := by decide +kernel
theorem dX2_finish_20 : decode cX2_finish 20 = .ok (.iload_n 1, 1) := by decide +kernel
theorem dX2_finish_21 : decode cX2_finish 21 = .ok (.iload_n 2, 1) := by decide +kernel
theorem dX2_finish_22 : decode cX2_finish 22 = .ok (.invokevirtual 171, 3) := by decide +kernel
theorem dX2_finish_25 : decode cX2_finish 25 = .ok (.istore 4, 2) := by decide +kernel
theorem dX2_finish_27 : decode cX2_finish 27 = .ok (.aload_n 0, 1) := by decide +kernel
theorem dX2_finish_28 : decode cX2_finish 28 = .ok (.iload_n 1, 1) := by decide +kernel
theorem dX2_finish_29 : decode cX2_finish 29 = .ok (.iload_n 2, 1) := by decide +kernel
theorem dX2_finish_30 : decode cX2_finish 30 = .ok (.invokevirtual 174, 3) := by decide +kernel
theorem dX2_finish_33 : decode cX2_finish 33 = .ok (.istore 5, 2) := by decide +kernel
theorem dX2_finish_35 : decode cX2_finish 35 = .ok (.iconst 0, 1) := by decide +kernel
theorem dX2_finish_36 : decode cX2_finish 36 = .ok (.istore 6, 2) := by decide +kernel
theorem dX2_finish_38 : decode cX2_finish 38 = .ok (.iload 6, 2) := by decide +kernel
theorem dX2_finish_40 : decode cX2_finish 40 = .ok (.iconst 2, 1) := by decide +kernel
theorem dX2_finish_41 : decode cX2_finish 41 = .ok (.aload_n 0, 1) := by decide +kernel
theorem dX2_finish_42 : decode cX2_finish 42 = .ok (.getfield 9, 3) := by decide +kernel
theorem dX2_finish_45 : decode cX2_finish 45 = .ok (.imul, 1) := by decide +kernel
theorem dX2_finish_46 : decode cX2_finish 46 = .ok (.if_icmp .ge 179, 3) := by decide +kernel
theorem dX2_finish_225 : decode cX2_finish 225 = .ok (.return_, 1) := by decide +kernel
theorem dX2_finish_49 : decode cX2_finish 49 = .ok (.iload_n 3, 1) := by decide +kernel
theorem dX2_finish_50 : decode cX2_finish 50 = .ok (.iload 6, 2) := by decide +kernel
theorem dX2_finish_52 : decode cX2_finish 52 = .ok (.iadd, 1) := by decide +kernel
theorem dX2_finish_53 : decode cX2_finish 53 = .ok (.istore 7, 2) := by decide +kernel
theorem dX2_finish_55 : decode cX2_finish 55 = .ok (.aload_n 0, 1) := by decide +kernel
theorem dX2_finish_56 : decode cX2_finish 56 = .ok (.getfield 49, 3) := by decide +kernel
theorem dX2_finish_59 : decode cX2_finish 59 = .ok (.iload_n 1, 1) := by decide +kernel
theorem dX2_finish_60 : decode cX2_finish 60 = .ok (.iload_n 2, 1) := by decide +kernel
theorem dX2_finish_61 : decode cX2_finish 61 = .ok (.iload 6, 2) := by decide +kernel
theorem dX2_finish_63 : decode cX2_finish 63 = .ok (.aload_n 0, 1) := by decide +kernel
theorem dX2_finish_64 : decode cX2_finish 64 = .ok (.getfield 9, 3) := by decide +kernel
theorem dX2_finish_67 : decode cX2_finish 67 = .ok (.irem, 1) := by decide +kernel
theorem dX2_finish_68 : decode cX2_finish 68 = .ok (.aload_n 0, 1) := by decide +kernel
theorem dX2_finish_69 : decode cX2_finish 69 = .ok (.getfield 49, 3) := by decide +kernel
theorem dX2_finish_72 : decode cX2_finish 72 = .ok (.getfield 132, 3) := by decide +kernel
theorem dX2_finish_75 : decode cX2_finish 75 = .ok (.iload_n 2, 1) := by decide +kernel
theorem dX2_finish_76 : decode cX2_finish 76 = .ok (.iaload, 1) := by decide +kernel
theorem dX2_finish_77 : decode cX2_finish 77 = .ok (.ior, 1) := by decide +kernel
theorem dX2_finish_78 : decode cX2_finish 78 = .ok (.invokevirtual 177, 3) := by decide +kernel
theorem dX2_finish_81 : decode cX2_finish 81 = .ok (.istore 8, 2) := by decide +kernel
theorem dX2_finish_83 : decode cX2_finish 83 = .ok (.aload_n 0, 1) := by decide +kernel
theorem dX2_finish_84 : decode cX2_finish 84 = .ok (.getfield 15, 3) := by decide +kernel
theorem dX2_finish_87 : decode cX2_finish 87 = .ok (.iload 7, 2) := by decide +kernel
theorem dX2_finish_89 : decode cX2_finish 89 = .ok (.iaload, 1) := by decide +kernel
theorem dX2_finish_90 : decode cX2_finish 90 = .ok (.ifCond .le 129, 3) := by decide +kernel
theorem dX2_finish_219 : decode cX2_finish 219 = .ok (.iinc 6 1, 3) := by decide +kernel
theorem dX2_finish_222 : decode cX2_finish 222 = .ok (.goto (-184), 3) := by decide +kernel
theorem dX2_finish_93 : decode cX2_finish 93 = .ok (.iload 8, 2) := by decide +kernel
theorem dX2_finish_95 : decode cX2_finish 95 = .ok (.ifCond .le 124, 3) := by decide +kernel
theorem dX2_finish_98 : decode cX2_finish 98 = .ok (.iload 4, 2) := by decide +kernel
theorem dX2_finish_100 : decode cX2_finish 100 = .ok (.aload_n 0, 1) := by decide +kernel
theorem dX2_finish_101 : decode cX2_finish 101 = .ok (.getfield 19, 3) := by decide +kernel
theorem dX2_finish_104 : decode cX2_finish 104 = .ok (.iload 7, 2) := by decide +kernel
theorem dX2_finish_106 : decode cX2_finish 106 = .ok (.iaload, 1) := by decide +kernel
theorem dX2_finish_107 : decode cX2_finish 107 = .ok (.isub, 1) := by decide +kernel
theorem dX2_finish_108 : decode cX2_finish 108 = .ok (.istore 9, 2) := by decide +kernel
theorem dX2_finish_110 : decode cX2_finish 110 = .ok (.aload_n 0, 1) := by decide +kernel
theorem dX2_finish_111 : decode cX2_finish 111 = .ok (.getfield 25, 3) := by decide +kernel
theorem dX2_finish_114 : decode cX2_finish 114 = .ok (.iload_n 2, 1) := by decide +kernel
theorem dX2_finish_115 : decode cX2_finish 115 = .ok (.sipush 1000, 3) := by decide +kernel
theorem dX2_finish_118 : decode cX2_finish 118 = .ok (.aload_n 0, 1) := by decide +kernel
theorem dX2_finish_119 : decode cX2_finish 119 = .ok (.getfield 25, 3) := by decide +kernel
theorem dX2_finish_122 : decode cX2_finish 122 = .ok (.iload_n 2, 1) := by decide +kernel
theorem dX2_finish_123 : decode cX2_finish 123 = .ok (.iaload, 1) := by decide +kernel
theorem dX2_finish_124 : decode cX2_finish 124 = .ok (.aload_n 0, 1) := by decide +kernel
theorem dX2_finish_125 : decode cX2_finish 125 = .ok (.getfield 15, 3) := by decide +kernel
theorem dX2_finish_128 : decode cX2_finish 128 = .ok (.iload 7, 2) := by decide +kernel
theorem dX2_finish_130 : decode cX2_finish 130 = .ok (.iaload, 1) := by decide +kernel
theorem dX2_finish_131 : decode cX2_finish 131 = .ok (.iadd, 1) := by decide +kernel
theorem dX2_finish_132 : decode cX2_finish 132 = .ok (.invokestatic 168, 3) := by decide +kernel
theorem dX2_finish_135 : decode cX2_finish 135 = .ok (.iastore, 1) := by decide +kernel
theorem dX2_finish_136 : decode cX2_finish 136 = .ok (.aload_n 0, 1) := by decide +kernel
theorem dX2_finish_137 : decode cX2_finish 137 = .ok (.getfield 28, 3) := by decide +kernel
theorem dX2_finish_140 : decode cX2_finish 140 = .ok (.iload_n 2, 1) := by decide +kernel
theorem dX2_finish_141 : decode cX2_finish 141 = .ok (.aload_n 0, 1) := by decide +kernel
theorem dX2_finish_142 : decode cX2_finish 142 = .ok (.getfield 28, 3) := by decide +kernel
theorem dX2_finish_145 : decode cX2_finish 145 = .ok (.iload_n 2, 1) := by decide +kernel
theorem dX2_finish_146 : decode cX2_finish 146 = .ok (.iaload, 1) := by decide +kernel
theorem dX2_finish_147 : decode cX2_finish 147 = .ok (.iload 8, 2) := by decide +kernel
theorem dX2_finish_149 : decode cX2_finish 149 = .ok (.aload_n 0, 1) := by decide +kernel
theorem dX2_finish_150 : decode cX2_finish 150 = .ok (.getfield 45, 3) := by decide +kernel
theorem dX2_finish_153 : decode cX2_finish 153 = .ok (.getfield 181, 3) := by decide +kernel
theorem dX2_finish_156 : decode cX2_finish 156 = .ok (.imul, 1) := by decide +kernel
theorem dX2_finish_157 : decode cX2_finish 157 = .ok (.iload 9, 2) := by decide +kernel
theorem dX2_finish_159 : decode cX2_finish 159 = .ok (.iadd, 1) := by decide +kernel
theorem dX2_finish_160 : decode cX2_finish 160 = .ok (.invokestatic 168, 3) := by decide +kernel
theorem dX2_finish_163 : decode cX2_finish 163 = .ok (.iastore, 1) := by decide +kernel
theorem dX2_finish_164 : decode cX2_finish 164 = .ok (.aload_n 0, 1) := by decide +kernel
theorem dX2_finish_165 : decode cX2_finish 165 = .ok (.getfield 31, 3) := by decide +kernel
theorem dX2_finish_168 : decode cX2_finish 168 = .ok (.iload_n 2, 1) := by decide +kernel
theorem dX2_finish_169 : decode cX2_finish 169 = .ok (.aload_n 0, 1) := by decide +kernel
theorem dX2_finish_170 : decode cX2_finish 170 = .ok (.getfield 31, 3) := by decide +kernel
theorem dX2_finish_173 : decode cX2_finish 173 = .ok (.iload_n 2, 1) := by decide +kernel
theorem dX2_finish_174 : decode cX2_finish 174 = .ok (.iaload, 1) := by decide +kernel
theorem dX2_finish_175 : decode cX2_finish 175 = .ok (.aload_n 0, 1) := by decide +kernel
theorem dX2_finish_176 : decode cX2_finish 176 = .ok (.getfield 22, 3) := by decide +kernel
theorem dX2_finish_179 : decode cX2_finish 179 = .ok (.iload 7, 2) := by decide +kernel
theorem dX2_finish_181 : decode cX2_finish 181 = .ok (.iaload, 1) := by decide +kernel
theorem dX2_finish_182 : decode cX2_finish 182 = .ok (.iload 5, 2) := by decide +kernel
theorem dX2_finish_184 : decode cX2_finish 184 = .ok (.iadd, 1) := by decide +kernel
theorem dX2_finish_185 : decode cX2_finish 185 = .ok (.invokestatic 168, 3) := by decide +kernel
theorem dX2_finish_188 : decode cX2_finish 188 = .ok (.iastore, 1) := by decide +kernel
theorem dX2_finish_189 : decode cX2_finish 189 = .ok (.aload_n 0, 1) := by decide +kernel
theorem dX2_finish_190 : decode cX2_finish 190 = .ok (.aload_n 0, 1) := by decide +kernel
theorem dX2_finish_191 : decode cX2_finish 191 = .ok (.getfield 34, 3) := by decide +kernel
theorem dX2_finish_194 : decode cX2_finish 194 = .ok (.iload 9, 2) := by decide +kernel
theorem dX2_finish_196 : decode cX2_finish 196 = .ok (.ifCond .ge 16, 3) := by decide +kernel
theorem dX2_finish_212 : decode cX2_finish 212 = .ok (.iconst 1, 1) := by decide +kernel
theorem dX2_finish_213 : decode cX2_finish 213 = .ok (.invokestatic 163, 3) := by decide +kernel
theorem dX2_finish_216 : decode cX2_finish 216 = .ok (.putfield 34, 3) := by decide +kernel
theorem dX2_finish_199 : decode cX2_finish 199 = .ok (.iload 8, 2) := by decide +kernel
theorem dX2_finish_201 : decode cX2_finish 201 = .ok (.iconst 1, 1) := by decide +kernel
theorem dX2_finish_202 : decode cX2_finish 202 = .ok (.isub, 1) := by decide +kernel
theorem dX2_finish_203 : decode cX2_finish 203 = .ok (.iload 9, 2) := by decide +kernel
theorem dX2_finish_205 : decode cX2_finish 205 = .ok (.isub, 1) := by decide +kernel
theorem dX2_finish_206 : decode cX2_finish 206 = .ok (.iload 8, 2) := by decide +kernel
theorem dX2_finish_208 : decode cX2_finish 208 = .ok (.idiv, 1) := by decide +kernel
theorem dX2_finish_209 : decode cX2_finish 209 = .ok (.goto 4, 3) := by decide +kernel
def wo_q_finish : List Cond := [.code yX2_finish cX2_finish 10 none, .fieldLink RX2 37 "TimingHouse$Race" "net" "LTimingHouse$Net;", .fieldLink RX2 9 "TimingHouse$Race" "masks" "I", .methodLink RX2 171 yX2_slackRoom, .instanceMethod yX2_slackRoom, .selects RX2 yX2_slackRoom yX2_slackRoom, .initialized RX2, .methodLink RX2 174 yX2_holdRoom, .instanceMethod yX2_holdRoom, .selects RX2 yX2_holdRoom yX2_holdRoom, .fieldLink RX2 49 "TimingHouse$Race" "rules" "LTimingHouse$Rules;", .methodLink RX2 177 yX3_periodsOf, .instanceMethod yX3_periodsOf, .selects RX3 yX3_periodsOf yX3_periodsOf, .initialized RX3, .fieldLink RX2 15 "TimingHouse$Race" "ways" "[I", .fieldLink RX2 19 "TimingHouse$Race" "lates" "[I", .fieldLink RX2 25 "TimingHouse$Race" "counts" "[I", .methodLink RX2 168 Lib.Math.min.name, .static Lib.Math.min.name, .initialized "java/lang/Math", .code Lib.Math.min.name Lib.Math.min.code 2 (some .int), .fieldLink RX2 28 "TimingHouse$Race" "slacks" "[I", .fieldLink RX2 45 "TimingHouse$Race" "clock" "LTimingHouse$Clock;", .fieldLink RX2 31 "TimingHouse$Race" "holdSlacks" "[I", .fieldLink RX2 22 "TimingHouse$Race" "earlies" "[I", .fieldLink RX2 34 "TimingHouse$Race" "needed" "I", .methodLink RX2 163 Lib.Math.max.name, .static Lib.Math.max.name, .code Lib.Math.max.name Lib.Math.max.code 2 (some .int)]
def wr_q_finish : List Cond := (wsX00 ++ (wsX10 ++ (wsX20 ++ (wsX30 ++ (w_q_slackRoom ++ (w_q_holdRoom ++ (w_q_periodsOf ++ ([]))))))))
def w_q_finish : List Cond := wo_q_finish ++ wr_q_finish
theorem wg_q_finish : GW w_q_finish := GW_app (GW_of (by decide +kernel)) (GW_app (GW_of (by decide +kernel)) (GW_app (GW_of (by decide +kernel)) (GW_app (GW_of (by decide +kernel)) (GW_app (GW_of (by decide +kernel)) (GW_app (wg_q_slackRoom) (GW_app (wg_q_holdRoom) (GW_app (wg_q_periodsOf) (GW_nil))))))))
theorem i_q_finish_X0 : ∀ w ∈ wsX00, w ∈ w_q_finish := fun _ h => List.mem_append_right _ (List.mem_append_left _ h)
theorem i_q_finish_X1 : ∀ w ∈ wsX10, w ∈ w_q_finish := fun _ h => List.mem_append_right _ (List.mem_append_right _ (List.mem_append_left _ h))
theorem i_q_finish_X2 : ∀ w ∈ wsX20, w ∈ w_q_finish := fun _ h => List.mem_append_right _ (List.mem_append_right _ (List.mem_append_right _ (List.mem_append_left _ h)))
theorem i_q_finish_X3 : ∀ w ∈ wsX30, w ∈ w_q_finish := fun _ h => List.mem_append_right _ (List.mem_append_right _ (List.mem_append_right _ (List.mem_append_right _ (List.mem_append_left _ h))))
theorem g_q_finish_q_slackRoom_171 : GoodIn w_q_finish (wsV RX2 171 RX2 yX2_slackRoom w_q_slackRoom) := goodIn_app (gi_left (goodIn_of _ (by decide +kernel))) (fun w h => ⟨List.mem_append_right _ (List.mem_append_right _ (List.mem_append_right _ (List.mem_append_right _ (List.mem_append_right _ (List.mem_append_left _ h))))), wg_q_slackRoom w h⟩)
theorem g_q_finish_q_holdRoom_174 : GoodIn w_q_finish (wsV RX2 174 RX2 yX2_holdRoom w_q_holdRoom) := goodIn_app (gi_left (goodIn_of _ (by decide +kernel))) (fun w h => ⟨List.mem_append_right _ (List.mem_append_right _ (List.mem_append_right _ (List.mem_append_right _ (List.mem_append_right _ (List.mem_append_right _ (List.mem_append_left _ h)))))), wg_q_holdRoom w h⟩)
theorem g_q_finish_q_periodsOf_177 : GoodIn w_q_finish (wsV RX2 177 RX3 yX3_periodsOf w_q_periodsOf) := goodIn_app (gi_left (goodIn_of _ (by decide +kernel))) (fun w h => ⟨List.mem_append_right _ (List.mem_append_right _ (List.mem_append_right _ (List.mem_append_right _ (List.mem_append_right _ (List.mem_append_right _ (List.mem_append_right _ (List.mem_append_left _ h))))))), wg_q_periodsOf w h⟩)
set_option maxHeartbeats 8000000 in
set_option maxRecDepth 100000 in
theorem q_finish (l : Launch) (E : gE) (o_c o_n o_z o_k o_u o_i a_c_ways a_c_lates a_c_earlies a_c_counts a_c_slacks a_c_holdSlacks a_n_kinds a_n_inputs a_n_tables a_n_sizes a_n_extras a_n_sources a_n_takers a_n_firstTaker a_n_order a_n_tally a_n_behind a_z_earlies a_z_lates a_z_slopes a_z_nodes a_z_setups a_z_holds a_k_parents a_k_earlySums a_k_lateSums a_u_periods a_u_froms a_u_throughs a_u_tos a_u_bits : Nat) (f_c_masks f_c_needed f_n_cells f_n_ordered f_k_length f_k_nodes f_u_told p1 p2 : Int32) (g_n_sources : Nat → Int32) (g_z_nodes : Nat → Int32) (g_k_earlySums : Nat → Int32) (g_z_setups : Nat → Int32) (g_n_kinds : Nat → Int32) (g_k_lateSums : Nat → Int32) (g_k_parents : Nat → Int32) (g_z_holds : Nat → Int32) (g_u_bits : Nat → Int32) (g_u_froms : Nat → Int32) (g_u_tos : Nat → Int32) (g_u_periods : Nat → Int32) (g_c_ways : Nat → Int32) (g_c_lates : Nat → Int32) (g_c_counts : Nat → Int32) (g_c_slacks : Nat → Int32) (g_c_holdSlacks : Nat → Int32) (g_c_earlies : Nat → Int32) (r_f_c_masks : RG f_c_masks 1 16) (r_f_n_cells : RG f_n_cells 0 50) (r_f_n_ordered : RG f_n_ordered 0 50) (i_g_n_sources : AR g_n_sources 200 (-5) 49) (i_g_z_nodes : AR g_z_nodes 50 (-1) 19) (r_f_k_length : RG f_k_length 1 1000000) (r_f_k_nodes : RG f_k_nodes 0 20) (i_g_z_setups : AR g_z_setups 50 (-10000) 10000) (i_g_n_kinds : AR g_n_kinds 50 0 5) (i_g_k_parents : AR g_k_parents 20 (-1) 19) (i_g_z_holds : AR g_z_holds 50 (-10000) 10000) (r_f_u_told : RG f_u_told 0 4) (i_g_u_bits : AR g_u_bits 50 0 15) (i_g_u_froms : AR g_u_froms 4 (-1) 49) (i_g_u_tos : AR g_u_tos 4 (-1) 49) (i_g_u_periods : AR g_u_periods 4 0 4) (r_p1 : RG p1 0 49) (r_p2 : RG p2 0 49) (hs : 0 ≤ (g_n_sources (p2 * 4).toNatClampNeg).toInt) : CtV l E yX2_finish w_q_finish ({ frames := 3, cells := 0, slots := 0, locals := 69 }) [(o_c, .inr (2, [.ref o_n, .ref o_z, .ref o_k, .ref o_u, .ref o_i, .int f_c_masks, .ref a_c_ways, .ref a_c_lates, .ref a_c_earlies, .ref a_c_counts, .ref a_c_slacks, .ref a_c_holdSlacks, .int f_c_needed])), (o_n, .inr (1, [.int f_n_cells, .ref a_n_kinds, .ref a_n_inputs, .ref a_n_tables, .ref a_n_sizes, .ref a_n_extras, .ref a_n_sources, .ref a_n_takers, .ref a_n_firstTaker, .ref a_n_order, .int f_n_ordered, .ref a_n_tally, .ref a_n_behind])), (a_n_sources, aI E 200 g_n_sources), (o_z, .inr (4, [.ref a_z_earlies, .ref a_z_lates, .ref a_z_slopes, .ref a_z_nodes, .ref a_z_setups, .ref a_z_holds])), (a_z_nodes, aI E 50 g_z_nodes), (o_k, .inr (0, [.int f_k_length, .int f_k_nodes, .ref a_k_parents, .ref a_k_earlySums, .ref a_k_lateSums])), (a_k_earlySums, aI E 20 g_k_earlySums), (a_z_setups, aI E 50 g_z_setups), (a_n_kinds, aI E 50 g_n_kinds), (a_k_lateSums, aI E 20 g_k_lateSums), (a_k_parents, aI E 20 g_k_parents), (a_z_holds, aI E 50 g_z_holds), (o_u, .inr (3, [.int f_u_told, .ref a_u_periods, .ref a_u_froms, .ref a_u_throughs, .ref a_u_tos, .ref a_u_bits])), (a_u_bits, aI E 50 g_u_bits), (a_u_froms, aI E 4 g_u_froms), (a_u_tos, aI E 4 g_u_tos), (a_u_periods, aI E 4 g_u_periods), (a_c_ways, aI E 1600 g_c_ways), (a_c_lates, aI E 1600 g_c_lates), (a_c_counts, aI E 50 g_c_counts), (a_c_slacks, aI E 50 g_c_slacks), (a_c_holdSlacks, aI E 50 g_c_holdSlacks), (a_c_earlies, aI E 1600 g_c_earlies)] [.ref o_c, .int p1, .int p2] (fun w => ∃ nf_c_needed : Int32, ∃ ng_c_counts : Nat → Int32, ∃ ng_c_slacks : Nat → Int32, ∃ ng_c_holdSlacks : Nat → Int32, w = [(o_c, .inr (2, [.ref o_n, .ref o_z, .ref o_k, .ref o_u, .ref o_i, .int f_c_masks, .ref a_c_ways, .ref a_c_lates, .ref a_c_earlies, .ref a_c_counts, .ref a_c_slacks, .ref a_c_holdSlacks, .int nf_c_needed])), (o_n, .inr (1, [.int f_n_cells, .ref a_n_kinds, .ref a_n_inputs, .ref a_n_tables, .ref a_n_sizes, .ref a_n_extras, .ref a_n_sources, .ref a_n_takers, .ref a_n_firstTaker, .ref a_n_order, .int f_n_ordered, .ref a_n_tally, .ref a_n_behind])), (a_n_sources, aI E 200 g_n_sources), (o_z, .inr (4, [.ref a_z_earlies, .ref a_z_lates, .ref a_z_slopes, .ref a_z_nodes, .ref a_z_setups, .ref a_z_holds])), (a_z_nodes, aI E 50 g_z_nodes), (o_k, .inr (0, [.int f_k_length, .int f_k_nodes, .ref a_k_parents, .ref a_k_earlySums, .ref a_k_lateSums])), (a_k_earlySums, aI E 20 g_k_earlySums), (a_z_setups, aI E 50 g_z_setups), (a_n_kinds, aI E 50 g_n_kinds), (a_k_lateSums, aI E 20 g_k_lateSums), (a_k_parents, aI E 20 g_k_parents), (a_z_holds, aI E 50 g_z_holds), (o_u, .inr (3, [.int f_u_told, .ref a_u_periods, .ref a_u_froms, .ref a_u_throughs, .ref a_u_tos, .ref a_u_bits])), (a_u_bits, aI E 50 g_u_bits), (a_u_froms, aI E 4 g_u_froms), (a_u_tos, aI E 4 g_u_tos), (a_u_periods, aI E 4 g_u_periods), (a_c_ways, aI E 1600 g_c_ways), (a_c_lates, aI E 1600 g_c_lates), (a_c_counts, aI E 50 ng_c_counts), (a_c_slacks, aI E 50 ng_c_slacks), (a_c_holdSlacks, aI E 50 ng_c_holdSlacks), (a_c_earlies, aI E 1600 g_c_earlies)]) := by
  refine CtV.of (cc := cX2_finish) (maxL := 10) (rt := none) (by decide) rfl (Nat.le_of_ble_eq_true rfl) ?_
  intro p e s m below meth c A B ls hl
  obtain ⟨hx, hb, hml, hr, hlk, hin, hts, hown, hK, hN, hZ, hA, hP, hD, hS⟩ := B
  replace hown : s.vm.findClass RX2 = some m.cls := hown
  have hto : ∀ w ∈ wo_q_finish, w.before _ s = true := fun w h => hts w (List.mem_append_left _ h)
  replace hl : lv_has ls 10 [(0, .ref o_c), (1, .int p1), (2, .int p2)] := hl
  obtain ⟨H, hHe⟩ : ∃ H, H = s.heap := ⟨_, rfl⟩
  obtain ⟨locs, hle⟩ : ∃ l : List Loc, l = [] := ⟨_, rfl⟩
  replace hS : va_S A s.heap H locs := by rw [hHe, hle]; exact hS
  replace hP : va_P E.1 vwCl [(o_c, .inr (2, [.ref o_n, .ref o_z, .ref o_k, .ref o_u, .ref o_i, .int f_c_masks, .ref a_c_ways, .ref a_c_lates, .ref a_c_earlies, .ref a_c_counts, .ref a_c_slacks, .ref a_c_holdSlacks, .int f_c_needed])), (o_n, .inr (1, [.int f_n_cells, .ref a_n_kinds, .ref a_n_inputs, .ref a_n_tables, .ref a_n_sizes, .ref a_n_extras, .ref a_n_sources, .ref a_n_takers, .ref a_n_firstTaker, .ref a_n_order, .int f_n_ordered, .ref a_n_tally, .ref a_n_behind])), (a_n_sources, aI E 200 g_n_sources), (o_z, .inr (4, [.ref a_z_earlies, .ref a_z_lates, .ref a_z_slopes, .ref a_z_nodes, .ref a_z_setups, .ref a_z_holds])), (a_z_nodes, aI E 50 g_z_nodes), (o_k, .inr (0, [.int f_k_length, .int f_k_nodes, .ref a_k_parents, .ref a_k_earlySums, .ref a_k_lateSums])), (a_k_earlySums, aI E 20 g_k_earlySums), (a_z_setups, aI E 50 g_z_setups), (a_n_kinds, aI E 50 g_n_kinds), (a_k_lateSums, aI E 20 g_k_lateSums), (a_k_parents, aI E 20 g_k_parents), (a_z_holds, aI E 50 g_z_holds), (o_u, .inr (3, [.int f_u_told, .ref a_u_periods, .ref a_u_froms, .ref a_u_throughs, .ref a_u_tos, .ref a_u_bits])), (a_u_bits, aI E 50 g_u_bits), (a_u_froms, aI E 4 g_u_froms), (a_u_tos, aI E 4 g_u_tos), (a_u_periods, aI E 4 g_u_periods), (a_c_ways, aI E 1600 g_c_ways), (a_c_lates, aI E 1600 g_c_lates), (a_c_counts, aI E 50 g_c_counts), (a_c_slacks, aI E 50 g_c_slacks), (a_c_holdSlacks, aI E 50 g_c_holdSlacks), (a_c_earlies, aI E 1600 g_c_earlies)] H := by rw [hHe]; exact hP
  refine W_hl hHe hle ?_
  clear hHe hle
  refine lv_aload_n hx hb dX2_finish_0 rfl (lv_at hl 0 rfl) ?_
  refine va_get (D := E.1) (ci := 2) (v := .ref o_n) (own := RX2) (C := RX2) (T := TX2) (N := 13) hx hb hts i_q_finish_X2 hown hK hP 0 rfl rfl 0 (by decide) (hto (.fieldLink RX2 37 "TimingHouse$Race" "net" "LTimingHouse$Net;") (by decide +kernel)) (fun _ h9 => h9) rfl dX2_finish_1 ?_
  refine va_getN (D := E.1) (ci := 1) (v := .ref a_n_sources) (own := RX2) (ref := "TimingHouse$Net") (host := "TimingHouse") (C := RX1) (T := TX1) (N := 13) hx hb hts i_q_finish_X1 hown hK hP 1 rfl rfl 6 (by decide) (nw_F hN 15 rfl) (fun _ h9 => h9) rfl dX2_finish_4 ?_
  refine lv_iload_n hx hb dX2_finish_7 rfl (lv_at hl 2 rfl) ?_
  refine lv_iconst (v := 4) hx hb dX2_finish_8 (by decide) ?_
  have b_p2 := r_p2.out
  refine lv_imul hx hb dX2_finish_9 ?_
  refine lv_topi (fun x_1 ex_1 => ?_)
  have tx_1 : x_1.toInt = p2.toInt * 4 := i3_mulc rfl rfl ex_1 (by omega)
  refine ld_i hx hb hK hP 2 rfl (by omega) dX2_finish_10 (fun x_2 ex_2 => ?_)
  have q_x_2 : x_2.toInt = (g_n_sources x_1.toNatClampNeg).toInt := i3_eq ex_2
  have b_x_2 := AR.rd i_g_n_sources ex_2 (by omega)
  have q2_x_2 : x_2.toInt = (g_n_sources (p2 * 4).toNatClampNeg).toInt := by rw [← ex_1]; exact q_x_2
  have b2_x_2 : 0 ≤ x_2.toInt := by omega
  refine lv_iconst (v := 2) hx hb dX2_finish_11 (by decide) ?_
  refine lv_imul hx hb dX2_finish_12 ?_
  refine lv_topi (fun x_3 ex_3 => ?_)
  have tx_3 : x_3.toInt = x_2.toInt * 2 := i3_mulc rfl rfl ex_3 (by omega)
  refine lv_aload_n hx hb dX2_finish_13 rfl (lv_at hl 0 rfl) ?_
  refine va_get (D := E.1) (ci := 2) (v := .int f_c_masks) (own := RX2) (C := RX2) (T := TX2) (N := 13) hx hb hts i_q_finish_X2 hown hK hP 0 rfl rfl 5 (by decide) (hto (.fieldLink RX2 9 "TimingHouse$Race" "masks" "I") (by decide +kernel)) (fun _ h9 => h9) rfl dX2_finish_14 ?_
  have b_f_c_masks := r_f_c_masks.out
  refine lv_imul hx hb dX2_finish_17 ?_
  refine lv_topi (fun x_4 ex_4 => ?_)
  have b_x_4 : 0 ≤ x_4.toInt ∧ x_4.toInt ≤ 1568 := i3_mulb (A := 98) (B := 16) ex_4 (by omega) (by omega) (by decide)
  refine lv_istore_n (lv' := [(3, .int x_4), (0, .ref o_c), (1, .int p1), (2, .int p2)]) hx hb dX2_finish_18 rfl hl (by decide) rfl (fun ls hl => ?_)
  refine lv_aload_n hx hb dX2_finish_19 rfl (lv_at hl 1 rfl) ?_
  refine lv_iload_n hx hb dX2_finish_20 rfl (lv_at hl 2 rfl) ?_
  refine lv_iload_n hx hb dX2_finish_21 rfl (lv_at hl 3 rfl) ?_
  have b_p1 := r_p1.out
  refine call_i (va_runV (As := [.int p1, .int p2]) (rest := []) ⟨hx, hb, hml, hown, hts⟩ (q_slackRoom l E o_c o_n o_z o_k o_u o_i a_c_ways a_c_lates a_c_earlies a_c_counts a_c_slacks a_c_holdSlacks a_z_earlies a_z_lates a_z_slopes a_z_nodes a_z_setups a_z_holds a_k_parents a_k_earlySums a_k_lateSums a_n_kinds a_n_inputs a_n_tables a_n_sizes a_n_extras a_n_sources a_n_takers a_n_firstTaker a_n_order a_n_tally a_n_behind f_c_masks f_c_needed f_k_length f_k_nodes f_n_cells f_n_ordered p1 p2 g_z_nodes g_k_earlySums g_z_setups g_n_kinds g_k_lateSums g_k_parents r_f_c_masks i_g_z_nodes r_f_k_length r_f_k_nodes i_g_z_setups r_f_n_cells r_f_n_ordered i_g_n_kinds i_g_k_parents r_p1 r_p2 H.size) (cwV 2 hts g_q_finish_q_slackRoom_171 rfl rfl rfl (by decide +kernel) ⟨Nat.le_of_ble_eq_true rfl, Nat.le_of_ble_eq_true rfl⟩) (pre_V hK hN hZ hS (va_free hD hS hA [0, 3, 4, 5, 6, 7, 1, 8, 9, 10] rfl) (hP.sub (ws' := [(o_c, .inr (2, [.ref o_n, .ref o_z, .ref o_k, .ref o_u, .ref o_i, .int f_c_masks, .ref a_c_ways, .ref a_c_lates, .ref a_c_earlies, .ref a_c_counts, .ref a_c_slacks, .ref a_c_holdSlacks, .int f_c_needed])), (o_z, .inr (4, [.ref a_z_earlies, .ref a_z_lates, .ref a_z_slopes, .ref a_z_nodes, .ref a_z_setups, .ref a_z_holds])), (a_z_nodes, aI E 50 g_z_nodes), (o_k, .inr (0, [.int f_k_length, .int f_k_nodes, .ref a_k_parents, .ref a_k_earlySums, .ref a_k_lateSums])), (a_k_earlySums, aI E 20 g_k_earlySums), (a_z_setups, aI E 50 g_z_setups), (o_n, .inr (1, [.int f_n_cells, .ref a_n_kinds, .ref a_n_inputs, .ref a_n_tables, .ref a_n_sizes, .ref a_n_extras, .ref a_n_sources, .ref a_n_takers, .ref a_n_firstTaker, .ref a_n_order, .int f_n_ordered, .ref a_n_tally, .ref a_n_behind])), (a_n_kinds, aI E 50 g_n_kinds), (a_k_lateSums, aI E 20 g_k_lateSums), (a_k_parents, aI E 20 g_k_parents)]) [0, 3, 4, 5, 6, 7, 1, 8, 9, 10] rfl) (hD.sub (ws' := [(o_c, .inr (2, [.ref o_n, .ref o_z, .ref o_k, .ref o_u, .ref o_i, .int f_c_masks, .ref a_c_ways, .ref a_c_lates, .ref a_c_earlies, .ref a_c_counts, .ref a_c_slacks, .ref a_c_holdSlacks, .int f_c_needed])), (o_z, .inr (4, [.ref a_z_earlies, .ref a_z_lates, .ref a_z_slopes, .ref a_z_nodes, .ref a_z_setups, .ref a_z_holds])), (a_z_nodes, aI E 50 g_z_nodes), (o_k, .inr (0, [.int f_k_length, .int f_k_nodes, .ref a_k_parents, .ref a_k_earlySums, .ref a_k_lateSums])), (a_k_earlySums, aI E 20 g_k_earlySums), (a_z_setups, aI E 50 g_z_setups), (o_n, .inr (1, [.int f_n_cells, .ref a_n_kinds, .ref a_n_inputs, .ref a_n_tables, .ref a_n_sizes, .ref a_n_extras, .ref a_n_sources, .ref a_n_takers, .ref a_n_firstTaker, .ref a_n_order, .int f_n_ordered, .ref a_n_tally, .ref a_n_behind])), (a_n_kinds, aI E 50 g_n_kinds), (a_k_lateSums, aI E 20 g_k_lateSums), (a_k_parents, aI E 20 g_k_parents)]) [0, 3, 4, 5, 6, 7, 1, 8, 9, 10] (by decide) rfl) (ci := 2) (q0 := 0) rfl rfl) rfl rfl hl.1 rfl (lv_room (Nat.le_of_ble_eq_true rfl)) dX2_finish_22 ⟨Nat.le_of_ble_eq_true rfl, Nat.le_of_ble_eq_true rfl⟩) hP hD hS hA [0, 3, 4, 5, 6, 7, 1, 8, 9, 10] [2, 11, 12, 13, 14, 15, 16, 17, 18, 19, 20, 21, 22] (wr := [(a_n_sources, aI E 200 g_n_sources), (a_z_holds, aI E 50 g_z_holds), (o_u, .inr (3, [.int f_u_told, .ref a_u_periods, .ref a_u_froms, .ref a_u_throughs, .ref a_u_tos, .ref a_u_bits])), (a_u_bits, aI E 50 g_u_bits), (a_u_froms, aI E 4 g_u_froms), (a_u_tos, aI E 4 g_u_tos), (a_u_periods, aI E 4 g_u_periods), (a_c_ways, aI E 1600 g_c_ways), (a_c_lates, aI E 1600 g_c_lates), (a_c_counts, aI E 50 g_c_counts), (a_c_slacks, aI E 50 g_c_slacks), (a_c_holdSlacks, aI E 50 g_c_holdSlacks), (a_c_earlies, aI E 1600 g_c_earlies)]) rfl rfl (by decide) (by decide) (fun r_5 w H locs hw hP hD hS => ?_)
  obtain ⟨b_r_5, rfl⟩ := hw
  replace hP : va_P E.1 vwCl [(a_n_sources, aI E 200 g_n_sources), (a_z_holds, aI E 50 g_z_holds), (o_u, .inr (3, [.int f_u_told, .ref a_u_periods, .ref a_u_froms, .ref a_u_throughs, .ref a_u_tos, .ref a_u_bits])), (a_u_bits, aI E 50 g_u_bits), (a_u_froms, aI E 4 g_u_froms), (a_u_tos, aI E 4 g_u_tos), (a_u_periods, aI E 4 g_u_periods), (a_c_ways, aI E 1600 g_c_ways), (a_c_lates, aI E 1600 g_c_lates), (a_c_counts, aI E 50 g_c_counts), (a_c_slacks, aI E 50 g_c_slacks), (a_c_holdSlacks, aI E 50 g_c_holdSlacks), (a_c_earlies, aI E 1600 g_c_earlies), (o_c, .inr (2, [.ref o_n, .ref o_z, .ref o_k, .ref o_u, .ref o_i, .int f_c_masks, .ref a_c_ways, .ref a_c_lates, .ref a_c_earlies, .ref a_c_counts, .ref a_c_slacks, .ref a_c_holdSlacks, .int f_c_needed])), (o_z, .inr (4, [.ref a_z_earlies, .ref a_z_lates, .ref a_z_slopes, .ref a_z_nodes, .ref a_z_setups, .ref a_z_holds])), (a_z_nodes, aI E 50 g_z_nodes), (o_k, .inr (0, [.int f_k_length, .int f_k_nodes, .ref a_k_parents, .ref a_k_earlySums, .ref a_k_lateSums])), (a_k_earlySums, aI E 20 g_k_earlySums), (a_z_setups, aI E 50 g_z_setups), (o_n, .inr (1, [.int f_n_cells, .ref a_n_kinds, .ref a_n_inputs, .ref a_n_tables, .ref a_n_sizes, .ref a_n_extras, .ref a_n_sources, .ref a_n_takers, .ref a_n_firstTaker, .ref a_n_order, .int f_n_ordered, .ref a_n_tally, .ref a_n_behind])), (a_n_kinds, aI E 50 g_n_kinds), (a_k_lateSums, aI E 20 g_k_lateSums), (a_k_parents, aI E 20 g_k_parents)] H := hP
  replace hD : va_D A [(a_n_sources, aI E 200 g_n_sources), (a_z_holds, aI E 50 g_z_holds), (o_u, .inr (3, [.int f_u_told, .ref a_u_periods, .ref a_u_froms, .ref a_u_throughs, .ref a_u_tos, .ref a_u_bits])), (a_u_bits, aI E 50 g_u_bits), (a_u_froms, aI E 4 g_u_froms), (a_u_tos, aI E 4 g_u_tos), (a_u_periods, aI E 4 g_u_periods), (a_c_ways, aI E 1600 g_c_ways), (a_c_lates, aI E 1600 g_c_lates), (a_c_counts, aI E 50 g_c_counts), (a_c_slacks, aI E 50 g_c_slacks), (a_c_holdSlacks, aI E 50 g_c_holdSlacks), (a_c_earlies, aI E 1600 g_c_earlies), (o_c, .inr (2, [.ref o_n, .ref o_z, .ref o_k, .ref o_u, .ref o_i, .int f_c_masks, .ref a_c_ways, .ref a_c_lates, .ref a_c_earlies, .ref a_c_counts, .ref a_c_slacks, .ref a_c_holdSlacks, .int f_c_needed])), (o_z, .inr (4, [.ref a_z_earlies, .ref a_z_lates, .ref a_z_slopes, .ref a_z_nodes, .ref a_z_setups, .ref a_z_holds])), (a_z_nodes, aI E 50 g_z_nodes), (o_k, .inr (0, [.int f_k_length, .int f_k_nodes, .ref a_k_parents, .ref a_k_earlySums, .ref a_k_lateSums])), (a_k_earlySums, aI E 20 g_k_earlySums), (a_z_setups, aI E 50 g_z_setups), (o_n, .inr (1, [.int f_n_cells, .ref a_n_kinds, .ref a_n_inputs, .ref a_n_tables, .ref a_n_sizes, .ref a_n_extras, .ref a_n_sources, .ref a_n_takers, .ref a_n_firstTaker, .ref a_n_order, .int f_n_ordered, .ref a_n_tally, .ref a_n_behind])), (a_n_kinds, aI E 50 g_n_kinds), (a_k_lateSums, aI E 20 g_k_lateSums), (a_k_parents, aI E 20 g_k_parents)] := hD
  refine lv_istore (lv' := [(4, .int r_5), (3, .int x_4), (0, .ref o_c), (1, .int p1), (2, .int p2)]) hx hb dX2_finish_25 hl (by decide) rfl (fun ls hl => ?_)
  refine lv_aload_n hx hb dX2_finish_27 rfl (lv_at hl 2 rfl) ?_
  refine lv_iload_n hx hb dX2_finish_28 rfl (lv_at hl 3 rfl) ?_
  refine lv_iload_n hx hb dX2_finish_29 rfl (lv_at hl 4 rfl) ?_
  refine call_i (va_runV (As := [.int p1, .int p2]) (rest := []) ⟨hx, hb, hml, hown, hts⟩ (q_holdRoom l E o_c o_n o_z o_k o_u o_i a_c_ways a_c_lates a_c_earlies a_c_counts a_c_slacks a_c_holdSlacks a_n_kinds a_n_inputs a_n_tables a_n_sizes a_n_extras a_n_sources a_n_takers a_n_firstTaker a_n_order a_n_tally a_n_behind a_z_earlies a_z_lates a_z_slopes a_z_nodes a_z_setups a_z_holds a_k_parents a_k_earlySums a_k_lateSums f_c_masks f_c_needed f_n_cells f_n_ordered f_k_length f_k_nodes p1 p2 g_n_kinds g_z_nodes g_k_lateSums g_k_earlySums g_k_parents g_z_holds r_f_c_masks r_f_n_cells r_f_n_ordered i_g_n_kinds i_g_z_nodes r_f_k_length r_f_k_nodes i_g_k_parents i_g_z_holds r_p1 r_p2 H.size) (cwV 2 hts g_q_finish_q_holdRoom_174 rfl rfl rfl (by decide +kernel) ⟨Nat.le_of_ble_eq_true rfl, Nat.le_of_ble_eq_true rfl⟩) (pre_V hK hN hZ hS (va_free hD hS hA [13, 19, 20, 14, 15, 16, 21, 17, 22, 1] rfl) (hP.sub (ws' := [(o_c, .inr (2, [.ref o_n, .ref o_z, .ref o_k, .ref o_u, .ref o_i, .int f_c_masks, .ref a_c_ways, .ref a_c_lates, .ref a_c_earlies, .ref a_c_counts, .ref a_c_slacks, .ref a_c_holdSlacks, .int f_c_needed])), (o_n, .inr (1, [.int f_n_cells, .ref a_n_kinds, .ref a_n_inputs, .ref a_n_tables, .ref a_n_sizes, .ref a_n_extras, .ref a_n_sources, .ref a_n_takers, .ref a_n_firstTaker, .ref a_n_order, .int f_n_ordered, .ref a_n_tally, .ref a_n_behind])), (a_n_kinds, aI E 50 g_n_kinds), (o_z, .inr (4, [.ref a_z_earlies, .ref a_z_lates, .ref a_z_slopes, .ref a_z_nodes, .ref a_z_setups, .ref a_z_holds])), (a_z_nodes, aI E 50 g_z_nodes), (o_k, .inr (0, [.int f_k_length, .int f_k_nodes, .ref a_k_parents, .ref a_k_earlySums, .ref a_k_lateSums])), (a_k_lateSums, aI E 20 g_k_lateSums), (a_k_earlySums, aI E 20 g_k_earlySums), (a_k_parents, aI E 20 g_k_parents), (a_z_holds, aI E 50 g_z_holds)]) [13, 19, 20, 14, 15, 16, 21, 17, 22, 1] rfl) (hD.sub (ws' := [(o_c, .inr (2, [.ref o_n, .ref o_z, .ref o_k, .ref o_u, .ref o_i, .int f_c_masks, .ref a_c_ways, .ref a_c_lates, .ref a_c_earlies, .ref a_c_counts, .ref a_c_slacks, .ref a_c_holdSlacks, .int f_c_needed])), (o_n, .inr (1, [.int f_n_cells, .ref a_n_kinds, .ref a_n_inputs, .ref a_n_tables, .ref a_n_sizes, .ref a_n_extras, .ref a_n_sources, .ref a_n_takers, .ref a_n_firstTaker, .ref a_n_order, .int f_n_ordered, .ref a_n_tally, .ref a_n_behind])), (a_n_kinds, aI E 50 g_n_kinds), (o_z, .inr (4, [.ref a_z_earlies, .ref a_z_lates, .ref a_z_slopes, .ref a_z_nodes, .ref a_z_setups, .ref a_z_holds])), (a_z_nodes, aI E 50 g_z_nodes), (o_k, .inr (0, [.int f_k_length, .int f_k_nodes, .ref a_k_parents, .ref a_k_earlySums, .ref a_k_lateSums])), (a_k_lateSums, aI E 20 g_k_lateSums), (a_k_earlySums, aI E 20 g_k_earlySums), (a_k_parents, aI E 20 g_k_parents), (a_z_holds, aI E 50 g_z_holds)]) [13, 19, 20, 14, 15, 16, 21, 17, 22, 1] (by decide) rfl) (ci := 2) (q0 := 0) rfl rfl) rfl rfl hl.1 rfl (lv_room (Nat.le_of_ble_eq_true rfl)) dX2_finish_30 ⟨Nat.le_of_ble_eq_true rfl, Nat.le_of_ble_eq_true rfl⟩) hP hD hS hA [13, 19, 20, 14, 15, 16, 21, 17, 22, 1] [0, 2, 3, 4, 5, 6, 7, 8, 9, 10, 11, 12, 18] (wr := [(a_n_sources, aI E 200 g_n_sources), (o_u, .inr (3, [.int f_u_told, .ref a_u_periods, .ref a_u_froms, .ref a_u_throughs, .ref a_u_tos, .ref a_u_bits])), (a_u_bits, aI E 50 g_u_bits), (a_u_froms, aI E 4 g_u_froms), (a_u_tos, aI E 4 g_u_tos), (a_u_periods, aI E 4 g_u_periods), (a_c_ways, aI E 1600 g_c_ways), (a_c_lates, aI E 1600 g_c_lates), (a_c_counts, aI E 50 g_c_counts), (a_c_slacks, aI E 50 g_c_slacks), (a_c_holdSlacks, aI E 50 g_c_holdSlacks), (a_c_earlies, aI E 1600 g_c_earlies), (a_z_setups, aI E 50 g_z_setups)]) rfl rfl (by decide) (by decide) (fun r_6 w H locs hw hP hD hS => ?_)
  obtain ⟨b_r_6, rfl⟩ := hw
  replace hP : va_P E.1 vwCl [(a_n_sources, aI E 200 g_n_sources), (o_u, .inr (3, [.int f_u_told, .ref a_u_periods, .ref a_u_froms, .ref a_u_throughs, .ref a_u_tos, .ref a_u_bits])), (a_u_bits, aI E 50 g_u_bits), (a_u_froms, aI E 4 g_u_froms), (a_u_tos, aI E 4 g_u_tos), (a_u_periods, aI E 4 g_u_periods), (a_c_ways, aI E 1600 g_c_ways), (a_c_lates, aI E 1600 g_c_lates), (a_c_counts, aI E 50 g_c_counts), (a_c_slacks, aI E 50 g_c_slacks), (a_c_holdSlacks, aI E 50 g_c_holdSlacks), (a_c_earlies, aI E 1600 g_c_earlies), (a_z_setups, aI E 50 g_z_setups), (o_c, .inr (2, [.ref o_n, .ref o_z, .ref o_k, .ref o_u, .ref o_i, .int f_c_masks, .ref a_c_ways, .ref a_c_lates, .ref a_c_earlies, .ref a_c_counts, .ref a_c_slacks, .ref a_c_holdSlacks, .int f_c_needed])), (o_n, .inr (1, [.int f_n_cells, .ref a_n_kinds, .ref a_n_inputs, .ref a_n_tables, .ref a_n_sizes, .ref a_n_extras, .ref a_n_sources, .ref a_n_takers, .ref a_n_firstTaker, .ref a_n_order, .int f_n_ordered, .ref a_n_tally, .ref a_n_behind])), (a_n_kinds, aI E 50 g_n_kinds), (o_z, .inr (4, [.ref a_z_earlies, .ref a_z_lates, .ref a_z_slopes, .ref a_z_nodes, .ref a_z_setups, .ref a_z_holds])), (a_z_nodes, aI E 50 g_z_nodes), (o_k, .inr (0, [.int f_k_length, .int f_k_nodes, .ref a_k_parents, .ref a_k_earlySums, .ref a_k_lateSums])), (a_k_lateSums, aI E 20 g_k_lateSums), (a_k_earlySums, aI E 20 g_k_earlySums), (a_k_parents, aI E 20 g_k_parents), (a_z_holds, aI E 50 g_z_holds)] H := hP
  replace hD : va_D A [(a_n_sources, aI E 200 g_n_sources), (o_u, .inr (3, [.int f_u_told, .ref a_u_periods, .ref a_u_froms, .ref a_u_throughs, .ref a_u_tos, .ref a_u_bits])), (a_u_bits, aI E 50 g_u_bits), (a_u_froms, aI E 4 g_u_froms), (a_u_tos, aI E 4 g_u_tos), (a_u_periods, aI E 4 g_u_periods), (a_c_ways, aI E 1600 g_c_ways), (a_c_lates, aI E 1600 g_c_lates), (a_c_counts, aI E 50 g_c_counts), (a_c_slacks, aI E 50 g_c_slacks), (a_c_holdSlacks, aI E 50 g_c_holdSlacks), (a_c_earlies, aI E 1600 g_c_earlies), (a_z_setups, aI E 50 g_z_setups), (o_c, .inr (2, [.ref o_n, .ref o_z, .ref o_k, .ref o_u, .ref o_i, .int f_c_masks, .ref a_c_ways, .ref a_c_lates, .ref a_c_earlies, .ref a_c_counts, .ref a_c_slacks, .ref a_c_holdSlacks, .int f_c_needed])), (o_n, .inr (1, [.int f_n_cells, .ref a_n_kinds, .ref a_n_inputs, .ref a_n_tables, .ref a_n_sizes, .ref a_n_extras, .ref a_n_sources, .ref a_n_takers, .ref a_n_firstTaker, .ref a_n_order, .int f_n_ordered, .ref a_n_tally, .ref a_n_behind])), (a_n_kinds, aI E 50 g_n_kinds), (o_z, .inr (4, [.ref a_z_earlies, .ref a_z_lates, .ref a_z_slopes, .ref a_z_nodes, .ref a_z_setups, .ref a_z_holds])), (a_z_nodes, aI E 50 g_z_nodes), (o_k, .inr (0, [.int f_k_length, .int f_k_nodes, .ref a_k_parents, .ref a_k_earlySums, .ref a_k_lateSums])), (a_k_lateSums, aI E 20 g_k_lateSums), (a_k_earlySums, aI E 20 g_k_earlySums), (a_k_parents, aI E 20 g_k_parents), (a_z_holds, aI E 50 g_z_holds)] := hD
  refine lv_istore (lv' := [(5, .int r_6), (4, .int r_5), (3, .int x_4), (0, .ref o_c), (1, .int p1), (2, .int p2)]) hx hb dX2_finish_33 hl (by decide) rfl (fun ls hl => ?_)
  refine lv_iconst (v := 0) hx hb dX2_finish_35 (by decide) ?_
  refine lv_istore (lv' := [(6, .int 0), (5, .int r_6), (4, .int r_5), (3, .int x_4), (0, .ref o_c), (1, .int p1), (2, .int p2)]) hx hb dX2_finish_36 hl (by decide) rfl (fun ls hl => ?_)
  obtain ⟨y_7, hy_7⟩ : ∃ y : Int32, y = 0 := ⟨_, rfl⟩
  have b_y_7 : 0 ≤ y_7.toInt ∧ y_7.toInt ≤ 32 := by rw [hy_7]; decide
  replace hl : lv_has ls 10 [(6, .int y_7), (5, .int r_6), (4, .int r_5), (3, .int x_4), (0, .ref o_c), (1, .int p1), (2, .int p2)] := by rw [hy_7]; exact hl
  obtain ⟨y_8, hy_8⟩ : ∃ g : Nat → Int32, g = g_c_counts := ⟨_, rfl⟩
  obtain ⟨y_9, hy_9⟩ : ∃ g : Nat → Int32, g = g_c_slacks := ⟨_, rfl⟩
  obtain ⟨y_10, hy_10⟩ : ∃ g : Nat → Int32, g = g_c_holdSlacks := ⟨_, rfl⟩
  obtain ⟨y_11, hy_11⟩ : ∃ y : Int32, y = f_c_needed := ⟨_, rfl⟩
  replace hP : va_P E.1 vwCl [(a_n_sources, aI E 200 g_n_sources), (o_u, .inr (3, [.int f_u_told, .ref a_u_periods, .ref a_u_froms, .ref a_u_throughs, .ref a_u_tos, .ref a_u_bits])), (a_u_bits, aI E 50 g_u_bits), (a_u_froms, aI E 4 g_u_froms), (a_u_tos, aI E 4 g_u_tos), (a_u_periods, aI E 4 g_u_periods), (a_c_ways, aI E 1600 g_c_ways), (a_c_lates, aI E 1600 g_c_lates), (a_c_counts, aI E 50 y_8), (a_c_slacks, aI E 50 y_9), (a_c_holdSlacks, aI E 50 y_10), (a_c_earlies, aI E 1600 g_c_earlies), (a_z_setups, aI E 50 g_z_setups), (o_c, .inr (2, [.ref o_n, .ref o_z, .ref o_k, .ref o_u, .ref o_i, .int f_c_masks, .ref a_c_ways, .ref a_c_lates, .ref a_c_earlies, .ref a_c_counts, .ref a_c_slacks, .ref a_c_holdSlacks, .int y_11])), (o_n, .inr (1, [.int f_n_cells, .ref a_n_kinds, .ref a_n_inputs, .ref a_n_tables, .ref a_n_sizes, .ref a_n_extras, .ref a_n_sources, .ref a_n_takers, .ref a_n_firstTaker, .ref a_n_order, .int f_n_ordered, .ref a_n_tally, .ref a_n_behind])), (a_n_kinds, aI E 50 g_n_kinds), (o_z, .inr (4, [.ref a_z_earlies, .ref a_z_lates, .ref a_z_slopes, .ref a_z_nodes, .ref a_z_setups, .ref a_z_holds])), (a_z_nodes, aI E 50 g_z_nodes), (o_k, .inr (0, [.int f_k_length, .int f_k_nodes, .ref a_k_parents, .ref a_k_earlySums, .ref a_k_lateSums])), (a_k_lateSums, aI E 20 g_k_lateSums), (a_k_earlySums, aI E 20 g_k_earlySums), (a_k_parents, aI E 20 g_k_parents), (a_z_holds, aI E 50 g_z_holds)] H := by rw [hy_8, hy_9, hy_10, hy_11]; exact hP
  replace hD : va_D A [(a_n_sources, aI E 200 g_n_sources), (o_u, .inr (3, [.int f_u_told, .ref a_u_periods, .ref a_u_froms, .ref a_u_throughs, .ref a_u_tos, .ref a_u_bits])), (a_u_bits, aI E 50 g_u_bits), (a_u_froms, aI E 4 g_u_froms), (a_u_tos, aI E 4 g_u_tos), (a_u_periods, aI E 4 g_u_periods), (a_c_ways, aI E 1600 g_c_ways), (a_c_lates, aI E 1600 g_c_lates), (a_c_counts, aI E 50 y_8), (a_c_slacks, aI E 50 y_9), (a_c_holdSlacks, aI E 50 y_10), (a_c_earlies, aI E 1600 g_c_earlies), (a_z_setups, aI E 50 g_z_setups), (o_c, .inr (2, [.ref o_n, .ref o_z, .ref o_k, .ref o_u, .ref o_i, .int f_c_masks, .ref a_c_ways, .ref a_c_lates, .ref a_c_earlies, .ref a_c_counts, .ref a_c_slacks, .ref a_c_holdSlacks, .int y_11])), (o_n, .inr (1, [.int f_n_cells, .ref a_n_kinds, .ref a_n_inputs, .ref a_n_tables, .ref a_n_sizes, .ref a_n_extras, .ref a_n_sources, .ref a_n_takers, .ref a_n_firstTaker, .ref a_n_order, .int f_n_ordered, .ref a_n_tally, .ref a_n_behind])), (a_n_kinds, aI E 50 g_n_kinds), (o_z, .inr (4, [.ref a_z_earlies, .ref a_z_lates, .ref a_z_slopes, .ref a_z_nodes, .ref a_z_setups, .ref a_z_holds])), (a_z_nodes, aI E 50 g_z_nodes), (o_k, .inr (0, [.int f_k_length, .int f_k_nodes, .ref a_k_parents, .ref a_k_earlySums, .ref a_k_lateSums])), (a_k_lateSums, aI E 20 g_k_lateSums), (a_k_earlySums, aI E 20 g_k_earlySums), (a_k_parents, aI E 20 g_k_parents), (a_z_holds, aI E 50 g_z_holds)] := by rw [hy_8, hy_9, hy_10, hy_11]; exact hD
  clear hy_7 hy_8 hy_9 hy_10 hy_11
  obtain ⟨d_12, hd_12⟩ : ∃ d : Nat, 32 - y_7.toInt < (d : Int) := ⟨(32 - y_7.toInt + 1).toNat, by omega⟩
  induction d_12 generalizing y_7 y_8 y_9 y_10 y_11 H locs ls with
  | zero => exfalso; omega
  | succ d_12 ih_d_12 =>
    refine lv_iload hx hb dX2_finish_38 (lv_at hl 0 rfl) ?_
    refine lv_iconst (v := 2) hx hb dX2_finish_40 (by decide) ?_
    refine lv_aload_n hx hb dX2_finish_41 rfl (lv_at hl 4 rfl) ?_
    refine va_get (D := E.1) (ci := 2) (v := .int f_c_masks) (own := RX2) (C := RX2) (T := TX2) (N := 13) hx hb hts i_q_finish_X2 hown hK hP 13 rfl rfl 5 (by decide) (hto (.fieldLink RX2 9 "TimingHouse$Race" "masks" "I") (by decide +kernel)) (fun _ h9 => h9) rfl dX2_finish_42 ?_
    refine lv_imul hx hb dX2_finish_45 ?_
    refine lv_topi (fun x_13 ex_13 => ?_)
    have tx_13 : x_13.toInt = 2 * f_c_masks.toInt := i3_mulc rfl rfl ex_13 (by omega)
    refine lv_icmp_ge (tgt := 225) hx hb dX2_finish_46 (by decide) (fun c_14 => ?_) (fun c_14 => ?_)
    · have e_14 : x_13.toInt ≤ y_7.toInt := i3_le c_14
      exact ret_v hx hb hr hlk (hP.sub (ws' := [(o_c, .inr (2, [.ref o_n, .ref o_z, .ref o_k, .ref o_u, .ref o_i, .int f_c_masks, .ref a_c_ways, .ref a_c_lates, .ref a_c_earlies, .ref a_c_counts, .ref a_c_slacks, .ref a_c_holdSlacks, .int y_11])), (o_n, .inr (1, [.int f_n_cells, .ref a_n_kinds, .ref a_n_inputs, .ref a_n_tables, .ref a_n_sizes, .ref a_n_extras, .ref a_n_sources, .ref a_n_takers, .ref a_n_firstTaker, .ref a_n_order, .int f_n_ordered, .ref a_n_tally, .ref a_n_behind])), (a_n_sources, aI E 200 g_n_sources), (o_z, .inr (4, [.ref a_z_earlies, .ref a_z_lates, .ref a_z_slopes, .ref a_z_nodes, .ref a_z_setups, .ref a_z_holds])), (a_z_nodes, aI E 50 g_z_nodes), (o_k, .inr (0, [.int f_k_length, .int f_k_nodes, .ref a_k_parents, .ref a_k_earlySums, .ref a_k_lateSums])), (a_k_earlySums, aI E 20 g_k_earlySums), (a_z_setups, aI E 50 g_z_setups), (a_n_kinds, aI E 50 g_n_kinds), (a_k_lateSums, aI E 20 g_k_lateSums), (a_k_parents, aI E 20 g_k_parents), (a_z_holds, aI E 50 g_z_holds), (o_u, .inr (3, [.int f_u_told, .ref a_u_periods, .ref a_u_froms, .ref a_u_throughs, .ref a_u_tos, .ref a_u_bits])), (a_u_bits, aI E 50 g_u_bits), (a_u_froms, aI E 4 g_u_froms), (a_u_tos, aI E 4 g_u_tos), (a_u_periods, aI E 4 g_u_periods), (a_c_ways, aI E 1600 g_c_ways), (a_c_lates, aI E 1600 g_c_lates), (a_c_counts, aI E 50 y_8), (a_c_slacks, aI E 50 y_9), (a_c_holdSlacks, aI E 50 y_10), (a_c_earlies, aI E 1600 g_c_earlies)]) [13, 14, 0, 16, 17, 18, 20, 12, 15, 19, 21, 22, 1, 2, 3, 4, 5, 6, 7, 8, 9, 10, 11] rfl) (hD.sub (ws' := [(o_c, .inr (2, [.ref o_n, .ref o_z, .ref o_k, .ref o_u, .ref o_i, .int f_c_masks, .ref a_c_ways, .ref a_c_lates, .ref a_c_earlies, .ref a_c_counts, .ref a_c_slacks, .ref a_c_holdSlacks, .int y_11])), (o_n, .inr (1, [.int f_n_cells, .ref a_n_kinds, .ref a_n_inputs, .ref a_n_tables, .ref a_n_sizes, .ref a_n_extras, .ref a_n_sources, .ref a_n_takers, .ref a_n_firstTaker, .ref a_n_order, .int f_n_ordered, .ref a_n_tally, .ref a_n_behind])), (a_n_sources, aI E 200 g_n_sources), (o_z, .inr (4, [.ref a_z_earlies, .ref a_z_lates, .ref a_z_slopes, .ref a_z_nodes, .ref a_z_setups, .ref a_z_holds])), (a_z_nodes, aI E 50 g_z_nodes), (o_k, .inr (0, [.int f_k_length, .int f_k_nodes, .ref a_k_parents, .ref a_k_earlySums, .ref a_k_lateSums])), (a_k_earlySums, aI E 20 g_k_earlySums), (a_z_setups, aI E 50 g_z_setups), (a_n_kinds, aI E 50 g_n_kinds), (a_k_lateSums, aI E 20 g_k_lateSums), (a_k_parents, aI E 20 g_k_parents), (a_z_holds, aI E 50 g_z_holds), (o_u, .inr (3, [.int f_u_told, .ref a_u_periods, .ref a_u_froms, .ref a_u_throughs, .ref a_u_tos, .ref a_u_bits])), (a_u_bits, aI E 50 g_u_bits), (a_u_froms, aI E 4 g_u_froms), (a_u_tos, aI E 4 g_u_tos), (a_u_periods, aI E 4 g_u_periods), (a_c_ways, aI E 1600 g_c_ways), (a_c_lates, aI E 1600 g_c_lates), (a_c_counts, aI E 50 y_8), (a_c_slacks, aI E 50 y_9), (a_c_holdSlacks, aI E 50 y_10), (a_c_earlies, aI E 1600 g_c_earlies)]) [13, 14, 0, 16, 17, 18, 20, 12, 15, 19, 21, 22, 1, 2, 3, 4, 5, 6, 7, 8, 9, 10, 11] (by decide) rfl) hS dX2_finish_225 (Nat.le_of_ble_eq_true rfl) (Nat.le_of_ble_eq_true rfl) ⟨y_11, y_8, y_9, y_10, rfl⟩
    · have e_14 : y_7.toInt < x_13.toInt := i3_nle c_14
      refine lv_iload_n hx hb dX2_finish_49 rfl (lv_at hl 3 rfl) ?_
      refine lv_iload hx hb dX2_finish_50 (lv_at hl 0 rfl) ?_
      refine lv_iadd hx hb dX2_finish_52 ?_
      refine lv_topi (fun x_15 ex_15 => ?_)
      have tx_15 : x_15.toInt = x_4.toInt + y_7.toInt := i3_addc rfl rfl ex_15 (by omega)
      refine lv_istore (lv' := [(7, .int x_15), (6, .int y_7), (5, .int r_6), (4, .int r_5), (3, .int x_4), (0, .ref o_c), (1, .int p1), (2, .int p2)]) hx hb dX2_finish_53 hl (by decide) rfl (fun ls hl => ?_)
      refine lv_aload_n hx hb dX2_finish_55 rfl (lv_at hl 5 rfl) ?_
      refine va_get (D := E.1) (ci := 2) (v := .ref o_u) (own := RX2) (C := RX2) (T := TX2) (N := 13) hx hb hts i_q_finish_X2 hown hK hP 13 rfl rfl 3 (by decide) (hto (.fieldLink RX2 49 "TimingHouse$Race" "rules" "LTimingHouse$Rules;") (by decide +kernel)) (fun _ h9 => h9) rfl dX2_finish_56 ?_
      refine lv_iload_n hx hb dX2_finish_59 rfl (lv_at hl 6 rfl) ?_
      refine lv_iload_n hx hb dX2_finish_60 rfl (lv_at hl 7 rfl) ?_
      refine lv_iload hx hb dX2_finish_61 (lv_at hl 1 rfl) ?_
      refine lv_aload_n hx hb dX2_finish_63 rfl (lv_at hl 5 rfl) ?_
      refine va_get (D := E.1) (ci := 2) (v := .int f_c_masks) (own := RX2) (C := RX2) (T := TX2) (N := 13) hx hb hts i_q_finish_X2 hown hK hP 13 rfl rfl 5 (by decide) (hto (.fieldLink RX2 9 "TimingHouse$Race" "masks" "I") (by decide +kernel)) (fun _ h9 => h9) rfl dX2_finish_64 ?_
      refine lv_irem hx hb dX2_finish_67 (i3_nz (by omega)) ?_
      refine lv_topi (fun x_16 ex_16 => ?_)
      have b_x_16 := i3_remb ex_16 (by omega) (by omega)
      refine lv_aload_n hx hb dX2_finish_68 rfl (lv_at hl 5 rfl) ?_
      refine va_get (D := E.1) (ci := 2) (v := .ref o_u) (own := RX2) (C := RX2) (T := TX2) (N := 13) hx hb hts i_q_finish_X2 hown hK hP 13 rfl rfl 3 (by decide) (hto (.fieldLink RX2 49 "TimingHouse$Race" "rules" "LTimingHouse$Rules;") (by decide +kernel)) (fun _ h9 => h9) rfl dX2_finish_69 ?_
      refine va_getN (D := E.1) (ci := 3) (v := .ref a_u_bits) (own := RX2) (ref := "TimingHouse$Rules") (host := "TimingHouse") (C := RX3) (T := TX3) (N := 6) hx hb hts i_q_finish_X3 hown hK hP 1 rfl rfl 5 (by decide) (nw_F hN 45 rfl) (fun _ h9 => h9) rfl dX2_finish_72 ?_
      refine lv_iload_n hx hb dX2_finish_75 rfl (lv_at hl 7 rfl) ?_
      refine ld_i hx hb hK hP 2 rfl (by omega) dX2_finish_76 (fun x_17 ex_17 => ?_)
      have b_x_17 := AR.rd i_g_u_bits ex_17 (by omega)
      refine lv_ior hx hb dX2_finish_77 ?_
      refine lv_topi (fun x_18 ex_18 => ?_)
      have b_x_18 := i3_or15 ex_18 (by omega) (by omega)
      refine call_i (va_runV (As := [.int p1, .int p2, .int x_18]) (rest := []) ⟨hx, hb, hml, hown, hts⟩ (q_periodsOf l E o_u a_u_periods a_u_froms a_u_throughs a_u_tos a_u_bits f_u_told p1 p2 x_18 g_u_froms g_u_tos g_u_periods r_f_u_told i_g_u_froms i_g_u_tos i_g_u_periods H.size) (cwV 3 hts g_q_finish_q_periodsOf_177 rfl rfl rfl (by decide +kernel) ⟨Nat.le_of_ble_eq_true rfl, Nat.le_of_ble_eq_true rfl⟩) (pre_V hK hN hZ hS (va_free hD hS hA [1, 3, 4, 5] rfl) (hP.sub (ws' := [(o_u, .inr (3, [.int f_u_told, .ref a_u_periods, .ref a_u_froms, .ref a_u_throughs, .ref a_u_tos, .ref a_u_bits])), (a_u_froms, aI E 4 g_u_froms), (a_u_tos, aI E 4 g_u_tos), (a_u_periods, aI E 4 g_u_periods)]) [1, 3, 4, 5] rfl) (hD.sub (ws' := [(o_u, .inr (3, [.int f_u_told, .ref a_u_periods, .ref a_u_froms, .ref a_u_throughs, .ref a_u_tos, .ref a_u_bits])), (a_u_froms, aI E 4 g_u_froms), (a_u_tos, aI E 4 g_u_tos), (a_u_periods, aI E 4 g_u_periods)]) [1, 3, 4, 5] (by decide) rfl) (ci := 3) (q0 := 0) rfl rfl) rfl rfl hl.1 rfl (lv_room (Nat.le_of_ble_eq_true rfl)) dX2_finish_78 ⟨Nat.le_of_ble_eq_true rfl, Nat.le_of_ble_eq_true rfl⟩) hP hD hS hA [1, 3, 4, 5] [0, 2, 6, 7, 8, 9, 10, 11, 12, 13, 14, 15, 16, 17, 18, 19, 20, 21, 22] (wr := [(a_n_sources, aI E 200 g_n_sources), (a_u_bits, aI E 50 g_u_bits), (a_c_ways, aI E 1600 g_c_ways), (a_c_lates, aI E 1600 g_c_lates), (a_c_counts, aI E 50 y_8), (a_c_slacks, aI E 50 y_9), (a_c_holdSlacks, aI E 50 y_10), (a_c_earlies, aI E 1600 g_c_earlies), (a_z_setups, aI E 50 g_z_setups), (o_c, .inr (2, [.ref o_n, .ref o_z, .ref o_k, .ref o_u, .ref o_i, .int f_c_masks, .ref a_c_ways, .ref a_c_lates, .ref a_c_earlies, .ref a_c_counts, .ref a_c_slacks, .ref a_c_holdSlacks, .int y_11])), (o_n, .inr (1, [.int f_n_cells, .ref a_n_kinds, .ref a_n_inputs, .ref a_n_tables, .ref a_n_sizes, .ref a_n_extras, .ref a_n_sources, .ref a_n_takers, .ref a_n_firstTaker, .ref a_n_order, .int f_n_ordered, .ref a_n_tally, .ref a_n_behind])), (a_n_kinds, aI E 50 g_n_kinds), (o_z, .inr (4, [.ref a_z_earlies, .ref a_z_lates, .ref a_z_slopes, .ref a_z_nodes, .ref a_z_setups, .ref a_z_holds])), (a_z_nodes, aI E 50 g_z_nodes), (o_k, .inr (0, [.int f_k_length, .int f_k_nodes, .ref a_k_parents, .ref a_k_earlySums, .ref a_k_lateSums])), (a_k_lateSums, aI E 20 g_k_lateSums), (a_k_earlySums, aI E 20 g_k_earlySums), (a_k_parents, aI E 20 g_k_parents), (a_z_holds, aI E 50 g_z_holds)]) rfl rfl (by decide) (by decide) (fun r_19 w H locs hw hP hD hS => ?_)
      obtain ⟨b_r_19, rfl⟩ := hw
      replace hP : va_P E.1 vwCl [(a_n_sources, aI E 200 g_n_sources), (a_u_bits, aI E 50 g_u_bits), (a_c_ways, aI E 1600 g_c_ways), (a_c_lates, aI E 1600 g_c_lates), (a_c_counts, aI E 50 y_8), (a_c_slacks, aI E 50 y_9), (a_c_holdSlacks, aI E 50 y_10), (a_c_earlies, aI E 1600 g_c_earlies), (a_z_setups, aI E 50 g_z_setups), (o_c, .inr (2, [.ref o_n, .ref o_z, .ref o_k, .ref o_u, .ref o_i, .int f_c_masks, .ref a_c_ways, .ref a_c_lates, .ref a_c_earlies, .ref a_c_counts, .ref a_c_slacks, .ref a_c_holdSlacks, .int y_11])), (o_n, .inr (1, [.int f_n_cells, .ref a_n_kinds, .ref a_n_inputs, .ref a_n_tables, .ref a_n_sizes, .ref a_n_extras, .ref a_n_sources, .ref a_n_takers, .ref a_n_firstTaker, .ref a_n_order, .int f_n_ordered, .ref a_n_tally, .ref a_n_behind])), (a_n_kinds, aI E 50 g_n_kinds), (o_z, .inr (4, [.ref a_z_earlies, .ref a_z_lates, .ref a_z_slopes, .ref a_z_nodes, .ref a_z_setups, .ref a_z_holds])), (a_z_nodes, aI E 50 g_z_nodes), (o_k, .inr (0, [.int f_k_length, .int f_k_nodes, .ref a_k_parents, .ref a_k_earlySums, .ref a_k_lateSums])), (a_k_lateSums, aI E 20 g_k_lateSums), (a_k_earlySums, aI E 20 g_k_earlySums), (a_k_parents, aI E 20 g_k_parents), (a_z_holds, aI E 50 g_z_holds), (o_u, .inr (3, [.int f_u_told, .ref a_u_periods, .ref a_u_froms, .ref a_u_throughs, .ref a_u_tos, .ref a_u_bits])), (a_u_froms, aI E 4 g_u_froms), (a_u_tos, aI E 4 g_u_tos), (a_u_periods, aI E 4 g_u_periods)] H := hP
      replace hD : va_D A [(a_n_sources, aI E 200 g_n_sources), (a_u_bits, aI E 50 g_u_bits), (a_c_ways, aI E 1600 g_c_ways), (a_c_lates, aI E 1600 g_c_lates), (a_c_counts, aI E 50 y_8), (a_c_slacks, aI E 50 y_9), (a_c_holdSlacks, aI E 50 y_10), (a_c_earlies, aI E 1600 g_c_earlies), (a_z_setups, aI E 50 g_z_setups), (o_c, .inr (2, [.ref o_n, .ref o_z, .ref o_k, .ref o_u, .ref o_i, .int f_c_masks, .ref a_c_ways, .ref a_c_lates, .ref a_c_earlies, .ref a_c_counts, .ref a_c_slacks, .ref a_c_holdSlacks, .int y_11])), (o_n, .inr (1, [.int f_n_cells, .ref a_n_kinds, .ref a_n_inputs, .ref a_n_tables, .ref a_n_sizes, .ref a_n_extras, .ref a_n_sources, .ref a_n_takers, .ref a_n_firstTaker, .ref a_n_order, .int f_n_ordered, .ref a_n_tally, .ref a_n_behind])), (a_n_kinds, aI E 50 g_n_kinds), (o_z, .inr (4, [.ref a_z_earlies, .ref a_z_lates, .ref a_z_slopes, .ref a_z_nodes, .ref a_z_setups, .ref a_z_holds])), (a_z_nodes, aI E 50 g_z_nodes), (o_k, .inr (0, [.int f_k_length, .int f_k_nodes, .ref a_k_parents, .ref a_k_earlySums, .ref a_k_lateSums])), (a_k_lateSums, aI E 20 g_k_lateSums), (a_k_earlySums, aI E 20 g_k_earlySums), (a_k_parents, aI E 20 g_k_parents), (a_z_holds, aI E 50 g_z_holds), (o_u, .inr (3, [.int f_u_told, .ref a_u_periods, .ref a_u_froms, .ref a_u_throughs, .ref a_u_tos, .ref a_u_bits])), (a_u_froms, aI E 4 g_u_froms), (a_u_tos, aI E 4 g_u_tos), (a_u_periods, aI E 4 g_u_periods)] := hD
      refine lv_istore (lv' := [(8, .int r_19), (7, .int x_15), (6, .int y_7), (5, .int r_6), (4, .int r_5), (3, .int x_4), (0, .ref o_c), (1, .int p1), (2, .int p2)]) hx hb dX2_finish_81 hl (by decide) rfl (fun ls hl => ?_)
      refine lv_aload_n hx hb dX2_finish_83 rfl (lv_at hl 6 rfl) ?_
      refine va_get (D := E.1) (ci := 2) (v := .ref a_c_ways) (own := RX2) (C := RX2) (T := TX2) (N := 13) hx hb hts i_q_finish_X2 hown hK hP 9 rfl rfl 6 (by decide) (hto (.fieldLink RX2 15 "TimingHouse$Race" "ways" "[I") (by decide +kernel)) (fun _ h9 => h9) rfl dX2_finish_84 ?_
      refine lv_iload hx hb dX2_finish_87 (lv_at hl 1 rfl) ?_
      refine ld_i hx hb hK hP 2 rfl (by omega) dX2_finish_89 (fun x_20 ex_20 => ?_)
      refine lv_if_le (tgt := 219) hx hb dX2_finish_90 (by decide) (fun c_21 => ?_) (fun c_21 => ?_)
      · have e_21 : x_20.toInt ≤ 0 := i3_le c_21
        obtain ⟨x_22, ex_22⟩ : ∃ y : Int32, y = y_7 + 1 := ⟨_, rfl⟩
        have tx_22 : x_22.toInt = y_7.toInt + 1 := i3_addc rfl rfl ex_22 (by omega)
        refine lv_iinc (v := x_22) (lv' := [(6, .int x_22), (8, .int r_19), (7, .int x_15), (5, .int r_6), (4, .int r_5), (3, .int x_4), (0, .ref o_c), (1, .int p1), (2, .int p2)]) hx hb dX2_finish_219 hl (k := 2) rfl (by rw [ex_22]; rfl) (by decide) rfl (fun ls hl => ?_)
        refine lv_goto (tgt := 38) hx hb dX2_finish_222 (by decide) ?_
        replace hP : va_P E.1 vwCl [(a_n_sources, aI E 200 g_n_sources), (o_u, .inr (3, [.int f_u_told, .ref a_u_periods, .ref a_u_froms, .ref a_u_throughs, .ref a_u_tos, .ref a_u_bits])), (a_u_bits, aI E 50 g_u_bits), (a_u_froms, aI E 4 g_u_froms), (a_u_tos, aI E 4 g_u_tos), (a_u_periods, aI E 4 g_u_periods), (a_c_ways, aI E 1600 g_c_ways), (a_c_lates, aI E 1600 g_c_lates), (a_c_counts, aI E 50 y_8), (a_c_slacks, aI E 50 y_9), (a_c_holdSlacks, aI E 50 y_10), (a_c_earlies, aI E 1600 g_c_earlies), (a_z_setups, aI E 50 g_z_setups), (o_c, .inr (2, [.ref o_n, .ref o_z, .ref o_k, .ref o_u, .ref o_i, .int f_c_masks, .ref a_c_ways, .ref a_c_lates, .ref a_c_earlies, .ref a_c_counts, .ref a_c_slacks, .ref a_c_holdSlacks, .int y_11])), (o_n, .inr (1, [.int f_n_cells, .ref a_n_kinds, .ref a_n_inputs, .ref a_n_tables, .ref a_n_sizes, .ref a_n_extras, .ref a_n_sources, .ref a_n_takers, .ref a_n_firstTaker, .ref a_n_order, .int f_n_ordered, .ref a_n_tally, .ref a_n_behind])), (a_n_kinds, aI E 50 g_n_kinds), (o_z, .inr (4, [.ref a_z_earlies, .ref a_z_lates, .ref a_z_slopes, .ref a_z_nodes, .ref a_z_setups, .ref a_z_holds])), (a_z_nodes, aI E 50 g_z_nodes), (o_k, .inr (0, [.int f_k_length, .int f_k_nodes, .ref a_k_parents, .ref a_k_earlySums, .ref a_k_lateSums])), (a_k_lateSums, aI E 20 g_k_lateSums), (a_k_earlySums, aI E 20 g_k_earlySums), (a_k_parents, aI E 20 g_k_parents), (a_z_holds, aI E 50 g_z_holds)] H := hP.sub [0, 19, 1, 20, 21, 22, 2, 3, 4, 5, 6, 7, 8, 9, 10, 11, 12, 13, 14, 15, 16, 17, 18] rfl
        replace hD : va_D A [(a_n_sources, aI E 200 g_n_sources), (o_u, .inr (3, [.int f_u_told, .ref a_u_periods, .ref a_u_froms, .ref a_u_throughs, .ref a_u_tos, .ref a_u_bits])), (a_u_bits, aI E 50 g_u_bits), (a_u_froms, aI E 4 g_u_froms), (a_u_tos, aI E 4 g_u_tos), (a_u_periods, aI E 4 g_u_periods), (a_c_ways, aI E 1600 g_c_ways), (a_c_lates, aI E 1600 g_c_lates), (a_c_counts, aI E 50 y_8), (a_c_slacks, aI E 50 y_9), (a_c_holdSlacks, aI E 50 y_10), (a_c_earlies, aI E 1600 g_c_earlies), (a_z_setups, aI E 50 g_z_setups), (o_c, .inr (2, [.ref o_n, .ref o_z, .ref o_k, .ref o_u, .ref o_i, .int f_c_masks, .ref a_c_ways, .ref a_c_lates, .ref a_c_earlies, .ref a_c_counts, .ref a_c_slacks, .ref a_c_holdSlacks, .int y_11])), (o_n, .inr (1, [.int f_n_cells, .ref a_n_kinds, .ref a_n_inputs, .ref a_n_tables, .ref a_n_sizes, .ref a_n_extras, .ref a_n_sources, .ref a_n_takers, .ref a_n_firstTaker, .ref a_n_order, .int f_n_ordered, .ref a_n_tally, .ref a_n_behind])), (a_n_kinds, aI E 50 g_n_kinds), (o_z, .inr (4, [.ref a_z_earlies, .ref a_z_lates, .ref a_z_slopes, .ref a_z_nodes, .ref a_z_setups, .ref a_z_holds])), (a_z_nodes, aI E 50 g_z_nodes), (o_k, .inr (0, [.int f_k_length, .int f_k_nodes, .ref a_k_parents, .ref a_k_earlySums, .ref a_k_lateSums])), (a_k_lateSums, aI E 20 g_k_lateSums), (a_k_earlySums, aI E 20 g_k_earlySums), (a_k_parents, aI E 20 g_k_parents), (a_z_holds, aI E 50 g_z_holds)] := hD.sub [0, 19, 1, 20, 21, 22, 2, 3, 4, 5, 6, 7, 8, 9, 10, 11, 12, 13, 14, 15, 16, 17, 18] (by decide) rfl
        replace hl : lv_has ls 10 [(6, .int x_22), (5, .int r_6), (4, .int r_5), (3, .int x_4), (0, .ref o_c), (1, .int p1), (2, .int p2)] := lv_sub hl [0, 3, 4, 5, 6, 7, 8] rfl
        apply ih_d_12 (y_7 := x_22) (y_8 := y_8) (y_9 := y_9) (y_10 := y_10) (y_11 := y_11) (H := H) (locs := locs) (ls := ls) <;> first | assumption | omega | decide
      · have e_21 : 0 < x_20.toInt := i3_nle c_21
        refine lv_iload hx hb dX2_finish_93 (lv_at hl 0 rfl) ?_
        refine lv_if_le (tgt := 219) hx hb dX2_finish_95 (by decide) (fun c_23 => ?_) (fun c_23 => ?_)
        · have e_23 : r_19.toInt ≤ 0 := i3_le c_23
          obtain ⟨x_24, ex_24⟩ : ∃ y : Int32, y = y_7 + 1 := ⟨_, rfl⟩
          have tx_24 : x_24.toInt = y_7.toInt + 1 := i3_addc rfl rfl ex_24 (by omega)
          refine lv_iinc (v := x_24) (lv' := [(6, .int x_24), (8, .int r_19), (7, .int x_15), (5, .int r_6), (4, .int r_5), (3, .int x_4), (0, .ref o_c), (1, .int p1), (2, .int p2)]) hx hb dX2_finish_219 hl (k := 2) rfl (by rw [ex_24]; rfl) (by decide) rfl (fun ls hl => ?_)
          refine lv_goto (tgt := 38) hx hb dX2_finish_222 (by decide) ?_
          replace hP : va_P E.1 vwCl [(a_n_sources, aI E 200 g_n_sources), (o_u, .inr (3, [.int f_u_told, .ref a_u_periods, .ref a_u_froms, .ref a_u_throughs, .ref a_u_tos, .ref a_u_bits])), (a_u_bits, aI E 50 g_u_bits), (a_u_froms, aI E 4 g_u_froms), (a_u_tos, aI E 4 g_u_tos), (a_u_periods, aI E 4 g_u_periods), (a_c_ways, aI E 1600 g_c_ways), (a_c_lates, aI E 1600 g_c_lates), (a_c_counts, aI E 50 y_8), (a_c_slacks, aI E 50 y_9), (a_c_holdSlacks, aI E 50 y_10), (a_c_earlies, aI E 1600 g_c_earlies), (a_z_setups, aI E 50 g_z_setups), (o_c, .inr (2, [.ref o_n, .ref o_z, .ref o_k, .ref o_u, .ref o_i, .int f_c_masks, .ref a_c_ways, .ref a_c_lates, .ref a_c_earlies, .ref a_c_counts, .ref a_c_slacks, .ref a_c_holdSlacks, .int y_11])), (o_n, .inr (1, [.int f_n_cells, .ref a_n_kinds, .ref a_n_inputs, .ref a_n_tables, .ref a_n_sizes, .ref a_n_extras, .ref a_n_sources, .ref a_n_takers, .ref a_n_firstTaker, .ref a_n_order, .int f_n_ordered, .ref a_n_tally, .ref a_n_behind])), (a_n_kinds, aI E 50 g_n_kinds), (o_z, .inr (4, [.ref a_z_earlies, .ref a_z_lates, .ref a_z_slopes, .ref a_z_nodes, .ref a_z_setups, .ref a_z_holds])), (a_z_nodes, aI E 50 g_z_nodes), (o_k, .inr (0, [.int f_k_length, .int f_k_nodes, .ref a_k_parents, .ref a_k_earlySums, .ref a_k_lateSums])), (a_k_lateSums, aI E 20 g_k_lateSums), (a_k_earlySums, aI E 20 g_k_earlySums), (a_k_parents, aI E 20 g_k_parents), (a_z_holds, aI E 50 g_z_holds)] H := hP.sub [0, 19, 1, 20, 21, 22, 2, 3, 4, 5, 6, 7, 8, 9, 10, 11, 12, 13, 14, 15, 16, 17, 18] rfl
          replace hD : va_D A [(a_n_sources, aI E 200 g_n_sources), (o_u, .inr (3, [.int f_u_told, .ref a_u_periods, .ref a_u_froms, .ref a_u_throughs, .ref a_u_tos, .ref a_u_bits])), (a_u_bits, aI E 50 g_u_bits), (a_u_froms, aI E 4 g_u_froms), (a_u_tos, aI E 4 g_u_tos), (a_u_periods, aI E 4 g_u_periods), (a_c_ways, aI E 1600 g_c_ways), (a_c_lates, aI E 1600 g_c_lates), (a_c_counts, aI E 50 y_8), (a_c_slacks, aI E 50 y_9), (a_c_holdSlacks, aI E 50 y_10), (a_c_earlies, aI E 1600 g_c_earlies), (a_z_setups, aI E 50 g_z_setups), (o_c, .inr (2, [.ref o_n, .ref o_z, .ref o_k, .ref o_u, .ref o_i, .int f_c_masks, .ref a_c_ways, .ref a_c_lates, .ref a_c_earlies, .ref a_c_counts, .ref a_c_slacks, .ref a_c_holdSlacks, .int y_11])), (o_n, .inr (1, [.int f_n_cells, .ref a_n_kinds, .ref a_n_inputs, .ref a_n_tables, .ref a_n_sizes, .ref a_n_extras, .ref a_n_sources, .ref a_n_takers, .ref a_n_firstTaker, .ref a_n_order, .int f_n_ordered, .ref a_n_tally, .ref a_n_behind])), (a_n_kinds, aI E 50 g_n_kinds), (o_z, .inr (4, [.ref a_z_earlies, .ref a_z_lates, .ref a_z_slopes, .ref a_z_nodes, .ref a_z_setups, .ref a_z_holds])), (a_z_nodes, aI E 50 g_z_nodes), (o_k, .inr (0, [.int f_k_length, .int f_k_nodes, .ref a_k_parents, .ref a_k_earlySums, .ref a_k_lateSums])), (a_k_lateSums, aI E 20 g_k_lateSums), (a_k_earlySums, aI E 20 g_k_earlySums), (a_k_parents, aI E 20 g_k_parents), (a_z_holds, aI E 50 g_z_holds)] := hD.sub [0, 19, 1, 20, 21, 22, 2, 3, 4, 5, 6, 7, 8, 9, 10, 11, 12, 13, 14, 15, 16, 17, 18] (by decide) rfl
          replace hl : lv_has ls 10 [(6, .int x_24), (5, .int r_6), (4, .int r_5), (3, .int x_4), (0, .ref o_c), (1, .int p1), (2, .int p2)] := lv_sub hl [0, 3, 4, 5, 6, 7, 8] rfl
          apply ih_d_12 (y_7 := x_24) (y_8 := y_8) (y_9 := y_9) (y_10 := y_10) (y_11 := y_11) (H := H) (locs := locs) (ls := ls) <;> first | assumption | omega | decide
        · have e_23 : 0 < r_19.toInt := i3_nle c_23
          refine lv_iload hx hb dX2_finish_98 (lv_at hl 4 rfl) ?_
          refine lv_aload_n hx hb dX2_finish_100 rfl (lv_at hl 6 rfl) ?_
          refine va_get (D := E.1) (ci := 2) (v := .ref a_c_lates) (own := RX2) (C := RX2) (T := TX2) (N := 13) hx hb hts i_q_finish_X2 hown hK hP 9 rfl rfl 7 (by decide) (hto (.fieldLink RX2 19 "TimingHouse$Race" "lates" "[I") (by decide +kernel)) (fun _ h9 => h9) rfl dX2_finish_101 ?_
          refine lv_iload hx hb dX2_finish_104 (lv_at hl 1 rfl) ?_
          refine ld_i hx hb hK hP 3 rfl (by omega) dX2_finish_106 (fun x_25 ex_25 => ?_)
          refine lv_isub hx hb dX2_finish_107 ?_
          refine lv_topi (fun x_26 ex_26 => ?_)
          have bd_27 := i3_bd r_5
          have bd_28 := i3_bd x_25
          refine lv_istore (lv' := [(9, .int x_26), (8, .int r_19), (7, .int x_15), (6, .int y_7), (5, .int r_6), (4, .int r_5), (3, .int x_4), (0, .ref o_c), (1, .int p1), (2, .int p2)]) hx hb dX2_finish_108 hl (by decide) rfl (fun ls hl => ?_)
          refine lv_aload_n hx hb dX2_finish_110 rfl (lv_at hl 7 rfl) ?_
          refine va_get (D := E.1) (ci := 2) (v := .ref a_c_counts) (own := RX2) (C := RX2) (T := TX2) (N := 13) hx hb hts i_q_finish_X2 hown hK hP 9 rfl rfl 9 (by decide) (hto (.fieldLink RX2 25 "TimingHouse$Race" "counts" "[I") (by decide +kernel)) (fun _ h9 => h9) rfl dX2_finish_111 ?_
          refine lv_iload_n hx hb dX2_finish_114 rfl (lv_at hl 9 rfl) ?_
          refine lv_sipush (v := 1000) hx hb dX2_finish_115 (by decide) ?_
          refine lv_aload_n hx hb dX2_finish_118 rfl (lv_at hl 7 rfl) ?_
          refine va_get (D := E.1) (ci := 2) (v := .ref a_c_counts) (own := RX2) (C := RX2) (T := TX2) (N := 13) hx hb hts i_q_finish_X2 hown hK hP 9 rfl rfl 9 (by decide) (hto (.fieldLink RX2 25 "TimingHouse$Race" "counts" "[I") (by decide +kernel)) (fun _ h9 => h9) rfl dX2_finish_119 ?_
          refine lv_iload_n hx hb dX2_finish_122 rfl (lv_at hl 9 rfl) ?_
          refine ld_i hx hb hK hP 4 rfl (by omega) dX2_finish_123 (fun x_29 ex_29 => ?_)
          refine lv_aload_n hx hb dX2_finish_124 rfl (lv_at hl 7 rfl) ?_
          refine va_get (D := E.1) (ci := 2) (v := .ref a_c_ways) (own := RX2) (C := RX2) (T := TX2) (N := 13) hx hb hts i_q_finish_X2 hown hK hP 9 rfl rfl 6 (by decide) (hto (.fieldLink RX2 15 "TimingHouse$Race" "ways" "[I") (by decide +kernel)) (fun _ h9 => h9) rfl dX2_finish_125 ?_
          refine lv_iload hx hb dX2_finish_128 (lv_at hl 2 rfl) ?_
          refine ld_i hx hb hK hP 2 rfl (by omega) dX2_finish_130 (fun x_30 ex_30 => ?_)
          have hq_x_30 : x_20 = x_30 := ex_20.trans ex_30.symm
          subst hq_x_30
          refine lv_iadd hx hb dX2_finish_131 ?_
          refine lv_topi (fun x_31 ex_31 => ?_)
          have bd_32 := i3_bd x_29
          refine va_mmin hx hb (hml.trans hl.1.symm) hown (hto (.methodLink RX2 168 Lib.Math.min.name) (by decide +kernel)) (hto (.static Lib.Math.min.name) (by decide +kernel)) (hto (.initialized "java/lang/Math") (by decide +kernel)) (hto (.code Lib.Math.min.name Lib.Math.min.code 2 (some .int)) (by decide +kernel)) (Nat.le_of_ble_eq_true rfl) (Nat.le_of_ble_eq_true rfl) (Nat.zero_le _) (Nat.zero_le _) dX2_finish_132 ?_
          refine lv_topi (fun x_33 ex_33 => ?_)
          have m_x_33 : (x_33.toInt ≤ 1000 ∧ x_33.toInt ≤ x_31.toInt) ∧ (x_33.toInt = 1000 ∨ x_33.toInt = x_31.toInt) := i3_min ex_33
          have bd_34 := i3_bd x_31
          refine st_i hx hb hK hP hD hS 4 rfl (by omega) dX2_finish_135 (fun g_35 H locs eg_35 hP hD hS => ?_)
          clear eg_35
          replace hP : va_P E.1 vwCl [(a_n_sources, aI E 200 g_n_sources), (a_u_bits, aI E 50 g_u_bits), (a_c_ways, aI E 1600 g_c_ways), (a_c_lates, aI E 1600 g_c_lates), (a_c_counts, aI E 50 g_35), (a_c_slacks, aI E 50 y_9), (a_c_holdSlacks, aI E 50 y_10), (a_c_earlies, aI E 1600 g_c_earlies), (a_z_setups, aI E 50 g_z_setups), (o_c, .inr (2, [.ref o_n, .ref o_z, .ref o_k, .ref o_u, .ref o_i, .int f_c_masks, .ref a_c_ways, .ref a_c_lates, .ref a_c_earlies, .ref a_c_counts, .ref a_c_slacks, .ref a_c_holdSlacks, .int y_11])), (o_n, .inr (1, [.int f_n_cells, .ref a_n_kinds, .ref a_n_inputs, .ref a_n_tables, .ref a_n_sizes, .ref a_n_extras, .ref a_n_sources, .ref a_n_takers, .ref a_n_firstTaker, .ref a_n_order, .int f_n_ordered, .ref a_n_tally, .ref a_n_behind])), (a_n_kinds, aI E 50 g_n_kinds), (o_z, .inr (4, [.ref a_z_earlies, .ref a_z_lates, .ref a_z_slopes, .ref a_z_nodes, .ref a_z_setups, .ref a_z_holds])), (a_z_nodes, aI E 50 g_z_nodes), (o_k, .inr (0, [.int f_k_length, .int f_k_nodes, .ref a_k_parents, .ref a_k_earlySums, .ref a_k_lateSums])), (a_k_lateSums, aI E 20 g_k_lateSums), (a_k_earlySums, aI E 20 g_k_earlySums), (a_k_parents, aI E 20 g_k_parents), (a_z_holds, aI E 50 g_z_holds), (o_u, .inr (3, [.int f_u_told, .ref a_u_periods, .ref a_u_froms, .ref a_u_throughs, .ref a_u_tos, .ref a_u_bits])), (a_u_froms, aI E 4 g_u_froms), (a_u_tos, aI E 4 g_u_tos), (a_u_periods, aI E 4 g_u_periods)] H := hP
          replace hD : va_D A [(a_n_sources, aI E 200 g_n_sources), (a_u_bits, aI E 50 g_u_bits), (a_c_ways, aI E 1600 g_c_ways), (a_c_lates, aI E 1600 g_c_lates), (a_c_counts, aI E 50 g_35), (a_c_slacks, aI E 50 y_9), (a_c_holdSlacks, aI E 50 y_10), (a_c_earlies, aI E 1600 g_c_earlies), (a_z_setups, aI E 50 g_z_setups), (o_c, .inr (2, [.ref o_n, .ref o_z, .ref o_k, .ref o_u, .ref o_i, .int f_c_masks, .ref a_c_ways, .ref a_c_lates, .ref a_c_earlies, .ref a_c_counts, .ref a_c_slacks, .ref a_c_holdSlacks, .int y_11])), (o_n, .inr (1, [.int f_n_cells, .ref a_n_kinds, .ref a_n_inputs, .ref a_n_tables, .ref a_n_sizes, .ref a_n_extras, .ref a_n_sources, .ref a_n_takers, .ref a_n_firstTaker, .ref a_n_order, .int f_n_ordered, .ref a_n_tally, .ref a_n_behind])), (a_n_kinds, aI E 50 g_n_kinds), (o_z, .inr (4, [.ref a_z_earlies, .ref a_z_lates, .ref a_z_slopes, .ref a_z_nodes, .ref a_z_setups, .ref a_z_holds])), (a_z_nodes, aI E 50 g_z_nodes), (o_k, .inr (0, [.int f_k_length, .int f_k_nodes, .ref a_k_parents, .ref a_k_earlySums, .ref a_k_lateSums])), (a_k_lateSums, aI E 20 g_k_lateSums), (a_k_earlySums, aI E 20 g_k_earlySums), (a_k_parents, aI E 20 g_k_parents), (a_z_holds, aI E 50 g_z_holds), (o_u, .inr (3, [.int f_u_told, .ref a_u_periods, .ref a_u_froms, .ref a_u_throughs, .ref a_u_tos, .ref a_u_bits])), (a_u_froms, aI E 4 g_u_froms), (a_u_tos, aI E 4 g_u_tos), (a_u_periods, aI E 4 g_u_periods)] := hD
          refine lv_aload_n hx hb dX2_finish_136 rfl (lv_at hl 7 rfl) ?_
          refine va_get (D := E.1) (ci := 2) (v := .ref a_c_slacks) (own := RX2) (C := RX2) (T := TX2) (N := 13) hx hb hts i_q_finish_X2 hown hK hP 9 rfl rfl 10 (by decide) (hto (.fieldLink RX2 28 "TimingHouse$Race" "slacks" "[I") (by decide +kernel)) (fun _ h9 => h9) rfl dX2_finish_137 ?_
          refine lv_iload_n hx hb dX2_finish_140 rfl (lv_at hl 9 rfl) ?_
          refine lv_aload_n hx hb dX2_finish_141 rfl (lv_at hl 7 rfl) ?_
          refine va_get (D := E.1) (ci := 2) (v := .ref a_c_slacks) (own := RX2) (C := RX2) (T := TX2) (N := 13) hx hb hts i_q_finish_X2 hown hK hP 9 rfl rfl 10 (by decide) (hto (.fieldLink RX2 28 "TimingHouse$Race" "slacks" "[I") (by decide +kernel)) (fun _ h9 => h9) rfl dX2_finish_142 ?_
          refine lv_iload_n hx hb dX2_finish_145 rfl (lv_at hl 9 rfl) ?_
          refine ld_i hx hb hK hP 5 rfl (by omega) dX2_finish_146 (fun x_36 ex_36 => ?_)
          refine lv_iload hx hb dX2_finish_147 (lv_at hl 1 rfl) ?_
          refine lv_aload_n hx hb dX2_finish_149 rfl (lv_at hl 7 rfl) ?_
          refine va_get (D := E.1) (ci := 2) (v := .ref o_k) (own := RX2) (C := RX2) (T := TX2) (N := 13) hx hb hts i_q_finish_X2 hown hK hP 9 rfl rfl 2 (by decide) (hto (.fieldLink RX2 45 "TimingHouse$Race" "clock" "LTimingHouse$Clock;") (by decide +kernel)) (fun _ h9 => h9) rfl dX2_finish_150 ?_
          refine va_getN (D := E.1) (ci := 0) (v := .int f_k_length) (own := RX2) (ref := "TimingHouse$Clock") (host := "TimingHouse") (C := RX0) (T := TX0) (N := 5) hx hb hts i_q_finish_X0 hown hK hP 14 rfl rfl 0 (by decide) (nw_F hN 41 rfl) (fun _ h9 => h9) rfl dX2_finish_153 ?_
          have b_f_k_length := r_f_k_length.out
          refine lv_imul hx hb dX2_finish_156 ?_
          refine lv_topi (fun x_37 ex_37 => ?_)
          have b_x_37 : 0 ≤ x_37.toInt ∧ x_37.toInt ≤ 4000000 := i3_mulb (A := 4) (B := 1000000) ex_37 (by omega) (by omega) (by decide)
          refine lv_iload hx hb dX2_finish_157 (lv_at hl 0 rfl) ?_
          refine lv_iadd hx hb dX2_finish_159 ?_
          refine lv_topi (fun x_38 ex_38 => ?_)
          have bd_39 := i3_bd x_26
          refine va_mmin hx hb (hml.trans hl.1.symm) hown (hto (.methodLink RX2 168 Lib.Math.min.name) (by decide +kernel)) (hto (.static Lib.Math.min.name) (by decide +kernel)) (hto (.initialized "java/lang/Math") (by decide +kernel)) (hto (.code Lib.Math.min.name Lib.Math.min.code 2 (some .int)) (by decide +kernel)) (Nat.le_of_ble_eq_true rfl) (Nat.le_of_ble_eq_true rfl) (Nat.zero_le _) (Nat.zero_le _) dX2_finish_160 ?_
          refine lv_topi (fun x_40 ex_40 => ?_)
          have m_x_40 : (x_40.toInt ≤ x_36.toInt ∧ x_40.toInt ≤ x_38.toInt) ∧ (x_40.toInt = x_36.toInt ∨ x_40.toInt = x_38.toInt) := i3_min ex_40
          refine st_i hx hb hK hP hD hS 5 rfl (by omega) dX2_finish_163 (fun g_41 H locs eg_41 hP hD hS => ?_)
          clear eg_41
          replace hP : va_P E.1 vwCl [(a_n_sources, aI E 200 g_n_sources), (a_u_bits, aI E 50 g_u_bits), (a_c_ways, aI E 1600 g_c_ways), (a_c_lates, aI E 1600 g_c_lates), (a_c_counts, aI E 50 g_35), (a_c_slacks, aI E 50 g_41), (a_c_holdSlacks, aI E 50 y_10), (a_c_earlies, aI E 1600 g_c_earlies), (a_z_setups, aI E 50 g_z_setups), (o_c, .inr (2, [.ref o_n, .ref o_z, .ref o_k, .ref o_u, .ref o_i, .int f_c_masks, .ref a_c_ways, .ref a_c_lates, .ref a_c_earlies, .ref a_c_counts, .ref a_c_slacks, .ref a_c_holdSlacks, .int y_11])), (o_n, .inr (1, [.int f_n_cells, .ref a_n_kinds, .ref a_n_inputs, .ref a_n_tables, .ref a_n_sizes, .ref a_n_extras, .ref a_n_sources, .ref a_n_takers, .ref a_n_firstTaker, .ref a_n_order, .int f_n_ordered, .ref a_n_tally, .ref a_n_behind])), (a_n_kinds, aI E 50 g_n_kinds), (o_z, .inr (4, [.ref a_z_earlies, .ref a_z_lates, .ref a_z_slopes, .ref a_z_nodes, .ref a_z_setups, .ref a_z_holds])), (a_z_nodes, aI E 50 g_z_nodes), (o_k, .inr (0, [.int f_k_length, .int f_k_nodes, .ref a_k_parents, .ref a_k_earlySums, .ref a_k_lateSums])), (a_k_lateSums, aI E 20 g_k_lateSums), (a_k_earlySums, aI E 20 g_k_earlySums), (a_k_parents, aI E 20 g_k_parents), (a_z_holds, aI E 50 g_z_holds), (o_u, .inr (3, [.int f_u_told, .ref a_u_periods, .ref a_u_froms, .ref a_u_throughs, .ref a_u_tos, .ref a_u_bits])), (a_u_froms, aI E 4 g_u_froms), (a_u_tos, aI E 4 g_u_tos), (a_u_periods, aI E 4 g_u_periods)] H := hP
          replace hD : va_D A [(a_n_sources, aI E 200 g_n_sources), (a_u_bits, aI E 50 g_u_bits), (a_c_ways, aI E 1600 g_c_ways), (a_c_lates, aI E 1600 g_c_lates), (a_c_counts, aI E 50 g_35), (a_c_slacks, aI E 50 g_41), (a_c_holdSlacks, aI E 50 y_10), (a_c_earlies, aI E 1600 g_c_earlies), (a_z_setups, aI E 50 g_z_setups), (o_c, .inr (2, [.ref o_n, .ref o_z, .ref o_k, .ref o_u, .ref o_i, .int f_c_masks, .ref a_c_ways, .ref a_c_lates, .ref a_c_earlies, .ref a_c_counts, .ref a_c_slacks, .ref a_c_holdSlacks, .int y_11])), (o_n, .inr (1, [.int f_n_cells, .ref a_n_kinds, .ref a_n_inputs, .ref a_n_tables, .ref a_n_sizes, .ref a_n_extras, .ref a_n_sources, .ref a_n_takers, .ref a_n_firstTaker, .ref a_n_order, .int f_n_ordered, .ref a_n_tally, .ref a_n_behind])), (a_n_kinds, aI E 50 g_n_kinds), (o_z, .inr (4, [.ref a_z_earlies, .ref a_z_lates, .ref a_z_slopes, .ref a_z_nodes, .ref a_z_setups, .ref a_z_holds])), (a_z_nodes, aI E 50 g_z_nodes), (o_k, .inr (0, [.int f_k_length, .int f_k_nodes, .ref a_k_parents, .ref a_k_earlySums, .ref a_k_lateSums])), (a_k_lateSums, aI E 20 g_k_lateSums), (a_k_earlySums, aI E 20 g_k_earlySums), (a_k_parents, aI E 20 g_k_parents), (a_z_holds, aI E 50 g_z_holds), (o_u, .inr (3, [.int f_u_told, .ref a_u_periods, .ref a_u_froms, .ref a_u_throughs, .ref a_u_tos, .ref a_u_bits])), (a_u_froms, aI E 4 g_u_froms), (a_u_tos, aI E 4 g_u_tos), (a_u_periods, aI E 4 g_u_periods)] := hD
          refine lv_aload_n hx hb dX2_finish_164 rfl (lv_at hl 7 rfl) ?_
          refine va_get (D := E.1) (ci := 2) (v := .ref a_c_holdSlacks) (own := RX2) (C := RX2) (T := TX2) (N := 13) hx hb hts i_q_finish_X2 hown hK hP 9 rfl rfl 11 (by decide) (hto (.fieldLink RX2 31 "TimingHouse$Race" "holdSlacks" "[I") (by decide +kernel)) (fun _ h9 => h9) rfl dX2_finish_165 ?_
          refine lv_iload_n hx hb dX2_finish_168 rfl (lv_at hl 9 rfl) ?_
          refine lv_aload_n hx hb dX2_finish_169 rfl (lv_at hl 7 rfl) ?_
          refine va_get (D := E.1) (ci := 2) (v := .ref a_c_holdSlacks) (own := RX2) (C := RX2) (T := TX2) (N := 13) hx hb hts i_q_finish_X2 hown hK hP 9 rfl rfl 11 (by decide) (hto (.fieldLink RX2 31 "TimingHouse$Race" "holdSlacks" "[I") (by decide +kernel)) (fun _ h9 => h9) rfl dX2_finish_170 ?_
          refine lv_iload_n hx hb dX2_finish_173 rfl (lv_at hl 9 rfl) ?_
          refine ld_i hx hb hK hP 6 rfl (by omega) dX2_finish_174 (fun x_42 ex_42 => ?_)
          refine lv_aload_n hx hb dX2_finish_175 rfl (lv_at hl 7 rfl) ?_
          refine va_get (D := E.1) (ci := 2) (v := .ref a_c_earlies) (own := RX2) (C := RX2) (T := TX2) (N := 13) hx hb hts i_q_finish_X2 hown hK hP 9 rfl rfl 8 (by decide) (hto (.fieldLink RX2 22 "TimingHouse$Race" "earlies" "[I") (by decide +kernel)) (fun _ h9 => h9) rfl dX2_finish_176 ?_
          refine lv_iload hx hb dX2_finish_179 (lv_at hl 2 rfl) ?_
          refine ld_i hx hb hK hP 7 rfl (by omega) dX2_finish_181 (fun x_43 ex_43 => ?_)
          refine lv_iload hx hb dX2_finish_182 (lv_at hl 4 rfl) ?_
          refine lv_iadd hx hb dX2_finish_184 ?_
          refine lv_topi (fun x_44 ex_44 => ?_)
          have bd_45 := i3_bd x_43
          have bd_46 := i3_bd r_6
          refine va_mmin hx hb (hml.trans hl.1.symm) hown (hto (.methodLink RX2 168 Lib.Math.min.name) (by decide +kernel)) (hto (.static Lib.Math.min.name) (by decide +kernel)) (hto (.initialized "java/lang/Math") (by decide +kernel)) (hto (.code Lib.Math.min.name Lib.Math.min.code 2 (some .int)) (by decide +kernel)) (Nat.le_of_ble_eq_true rfl) (Nat.le_of_ble_eq_true rfl) (Nat.zero_le _) (Nat.zero_le _) dX2_finish_185 ?_
          refine lv_topi (fun x_47 ex_47 => ?_)
          have m_x_47 : (x_47.toInt ≤ x_42.toInt ∧ x_47.toInt ≤ x_44.toInt) ∧ (x_47.toInt = x_42.toInt ∨ x_47.toInt = x_44.toInt) := i3_min ex_47
          refine st_i hx hb hK hP hD hS 6 rfl (by omega) dX2_finish_188 (fun g_48 H locs eg_48 hP hD hS => ?_)
          clear eg_48
          replace hP : va_P E.1 vwCl [(a_n_sources, aI E 200 g_n_sources), (a_u_bits, aI E 50 g_u_bits), (a_c_ways, aI E 1600 g_c_ways), (a_c_lates, aI E 1600 g_c_lates), (a_c_counts, aI E 50 g_35), (a_c_slacks, aI E 50 g_41), (a_c_holdSlacks, aI E 50 g_48), (a_c_earlies, aI E 1600 g_c_earlies), (a_z_setups, aI E 50 g_z_setups), (o_c, .inr (2, [.ref o_n, .ref o_z, .ref o_k, .ref o_u, .ref o_i, .int f_c_masks, .ref a_c_ways, .ref a_c_lates, .ref a_c_earlies, .ref a_c_counts, .ref a_c_slacks, .ref a_c_holdSlacks, .int y_11])), (o_n, .inr (1, [.int f_n_cells, .ref a_n_kinds, .ref a_n_inputs, .ref a_n_tables, .ref a_n_sizes, .ref a_n_extras, .ref a_n_sources, .ref a_n_takers, .ref a_n_firstTaker, .ref a_n_order, .int f_n_ordered, .ref a_n_tally, .ref a_n_behind])), (a_n_kinds, aI E 50 g_n_kinds), (o_z, .inr (4, [.ref a_z_earlies, .ref a_z_lates, .ref a_z_slopes, .ref a_z_nodes, .ref a_z_setups, .ref a_z_holds])), (a_z_nodes, aI E 50 g_z_nodes), (o_k, .inr (0, [.int f_k_length, .int f_k_nodes, .ref a_k_parents, .ref a_k_earlySums, .ref a_k_lateSums])), (a_k_lateSums, aI E 20 g_k_lateSums), (a_k_earlySums, aI E 20 g_k_earlySums), (a_k_parents, aI E 20 g_k_parents), (a_z_holds, aI E 50 g_z_holds), (o_u, .inr (3, [.int f_u_told, .ref a_u_periods, .ref a_u_froms, .ref a_u_throughs, .ref a_u_tos, .ref a_u_bits])), (a_u_froms, aI E 4 g_u_froms), (a_u_tos, aI E 4 g_u_tos), (a_u_periods, aI E 4 g_u_periods)] H := hP
          replace hD : va_D A [(a_n_sources, aI E 200 g_n_sources), (a_u_bits, aI E 50 g_u_bits), (a_c_ways, aI E 1600 g_c_ways), (a_c_lates, aI E 1600 g_c_lates), (a_c_counts, aI E 50 g_35), (a_c_slacks, aI E 50 g_41), (a_c_holdSlacks, aI E 50 g_48), (a_c_earlies, aI E 1600 g_c_earlies), (a_z_setups, aI E 50 g_z_setups), (o_c, .inr (2, [.ref o_n, .ref o_z, .ref o_k, .ref o_u, .ref o_i, .int f_c_masks, .ref a_c_ways, .ref a_c_lates, .ref a_c_earlies, .ref a_c_counts, .ref a_c_slacks, .ref a_c_holdSlacks, .int y_11])), (o_n, .inr (1, [.int f_n_cells, .ref a_n_kinds, .ref a_n_inputs, .ref a_n_tables, .ref a_n_sizes, .ref a_n_extras, .ref a_n_sources, .ref a_n_takers, .ref a_n_firstTaker, .ref a_n_order, .int f_n_ordered, .ref a_n_tally, .ref a_n_behind])), (a_n_kinds, aI E 50 g_n_kinds), (o_z, .inr (4, [.ref a_z_earlies, .ref a_z_lates, .ref a_z_slopes, .ref a_z_nodes, .ref a_z_setups, .ref a_z_holds])), (a_z_nodes, aI E 50 g_z_nodes), (o_k, .inr (0, [.int f_k_length, .int f_k_nodes, .ref a_k_parents, .ref a_k_earlySums, .ref a_k_lateSums])), (a_k_lateSums, aI E 20 g_k_lateSums), (a_k_earlySums, aI E 20 g_k_earlySums), (a_k_parents, aI E 20 g_k_parents), (a_z_holds, aI E 50 g_z_holds), (o_u, .inr (3, [.int f_u_told, .ref a_u_periods, .ref a_u_froms, .ref a_u_throughs, .ref a_u_tos, .ref a_u_bits])), (a_u_froms, aI E 4 g_u_froms), (a_u_tos, aI E 4 g_u_tos), (a_u_periods, aI E 4 g_u_periods)] := hD
          refine lv_aload_n hx hb dX2_finish_189 rfl (lv_at hl 7 rfl) ?_
          refine lv_aload_n hx hb dX2_finish_190 rfl (lv_at hl 7 rfl) ?_
          refine va_get (D := E.1) (ci := 2) (v := .int y_11) (own := RX2) (C := RX2) (T := TX2) (N := 13) hx hb hts i_q_finish_X2 hown hK hP 9 rfl rfl 12 (by decide) (hto (.fieldLink RX2 34 "TimingHouse$Race" "needed" "I") (by decide +kernel)) (fun _ h9 => h9) rfl dX2_finish_191 ?_
          refine lv_iload hx hb dX2_finish_194 (lv_at hl 0 rfl) ?_
          refine lv_if_ge (tgt := 212) hx hb dX2_finish_196 (by decide) (fun c_49 => ?_) (fun c_49 => ?_)
          · have e_49 : 0 ≤ x_26.toInt := i3_le c_49
            refine lv_iconst (v := 1) hx hb dX2_finish_212 (by decide) ?_
            refine va_mmax hx hb (hml.trans hl.1.symm) hown (hto (.methodLink RX2 163 Lib.Math.max.name) (by decide +kernel)) (hto (.static Lib.Math.max.name) (by decide +kernel)) (hto (.initialized "java/lang/Math") (by decide +kernel)) (hto (.code Lib.Math.max.name Lib.Math.max.code 2 (some .int)) (by decide +kernel)) (Nat.le_of_ble_eq_true rfl) (Nat.le_of_ble_eq_true rfl) (Nat.zero_le _) (Nat.zero_le _) dX2_finish_213 ?_
            refine lv_topi (fun x_50 ex_50 => ?_)
            have m_x_50 : (x_50.toInt ≥ y_11.toInt ∧ x_50.toInt ≥ 1) ∧ (x_50.toInt = y_11.toInt ∨ x_50.toInt = 1) := i3_max ex_50
            have bd_51 := i3_bd y_11
            refine va_put (D := E.1) (ci := 2) (v := .int x_50) (ty := .int) (own := RX2) (C := RX2) (T := TX2) (N := 13) hx hb hts i_q_finish_X2 tyX2 tyX2_ok nmX2 hown hK hP hD hS 9 rfl rfl 12 (by decide) (hto (.fieldLink RX2 34 "TimingHouse$Race" "needed" "I") (by decide +kernel)) (fun _ h9 => h9) rfl (by decide +kernel) rfl rfl (Nat.le_of_ble_eq_true rfl) dX2_finish_216 (fun H locs hP hD hS => ?_)
            replace hP : va_P E.1 vwCl [(a_n_sources, aI E 200 g_n_sources), (a_u_bits, aI E 50 g_u_bits), (a_c_ways, aI E 1600 g_c_ways), (a_c_lates, aI E 1600 g_c_lates), (a_c_counts, aI E 50 g_35), (a_c_slacks, aI E 50 g_41), (a_c_holdSlacks, aI E 50 g_48), (a_c_earlies, aI E 1600 g_c_earlies), (a_z_setups, aI E 50 g_z_setups), (o_c, .inr (2, [.ref o_n, .ref o_z, .ref o_k, .ref o_u, .ref o_i, .int f_c_masks, .ref a_c_ways, .ref a_c_lates, .ref a_c_earlies, .ref a_c_counts, .ref a_c_slacks, .ref a_c_holdSlacks, .int x_50])), (o_n, .inr (1, [.int f_n_cells, .ref a_n_kinds, .ref a_n_inputs, .ref a_n_tables, .ref a_n_sizes, .ref a_n_extras, .ref a_n_sources, .ref a_n_takers, .ref a_n_firstTaker, .ref a_n_order, .int f_n_ordered, .ref a_n_tally, .ref a_n_behind])), (a_n_kinds, aI E 50 g_n_kinds), (o_z, .inr (4, [.ref a_z_earlies, .ref a_z_lates, .ref a_z_slopes, .ref a_z_nodes, .ref a_z_setups, .ref a_z_holds])), (a_z_nodes, aI E 50 g_z_nodes), (o_k, .inr (0, [.int f_k_length, .int f_k_nodes, .ref a_k_parents, .ref a_k_earlySums, .ref a_k_lateSums])), (a_k_lateSums, aI E 20 g_k_lateSums), (a_k_earlySums, aI E 20 g_k_earlySums), (a_k_parents, aI E 20 g_k_parents), (a_z_holds, aI E 50 g_z_holds), (o_u, .inr (3, [.int f_u_told, .ref a_u_periods, .ref a_u_froms, .ref a_u_throughs, .ref a_u_tos, .ref a_u_bits])), (a_u_froms, aI E 4 g_u_froms), (a_u_tos, aI E 4 g_u_tos), (a_u_periods, aI E 4 g_u_periods)] H := hP
            replace hD : va_D A [(a_n_sources, aI E 200 g_n_sources), (a_u_bits, aI E 50 g_u_bits), (a_c_ways, aI E 1600 g_c_ways), (a_c_lates, aI E 1600 g_c_lates), (a_c_counts, aI E 50 g_35), (a_c_slacks, aI E 50 g_41), (a_c_holdSlacks, aI E 50 g_48), (a_c_earlies, aI E 1600 g_c_earlies), (a_z_setups, aI E 50 g_z_setups), (o_c, .inr (2, [.ref o_n, .ref o_z, .ref o_k, .ref o_u, .ref o_i, .int f_c_masks, .ref a_c_ways, .ref a_c_lates, .ref a_c_earlies, .ref a_c_counts, .ref a_c_slacks, .ref a_c_holdSlacks, .int x_50])), (o_n, .inr (1, [.int f_n_cells, .ref a_n_kinds, .ref a_n_inputs, .ref a_n_tables, .ref a_n_sizes, .ref a_n_extras, .ref a_n_sources, .ref a_n_takers, .ref a_n_firstTaker, .ref a_n_order, .int f_n_ordered, .ref a_n_tally, .ref a_n_behind])), (a_n_kinds, aI E 50 g_n_kinds), (o_z, .inr (4, [.ref a_z_earlies, .ref a_z_lates, .ref a_z_slopes, .ref a_z_nodes, .ref a_z_setups, .ref a_z_holds])), (a_z_nodes, aI E 50 g_z_nodes), (o_k, .inr (0, [.int f_k_length, .int f_k_nodes, .ref a_k_parents, .ref a_k_earlySums, .ref a_k_lateSums])), (a_k_lateSums, aI E 20 g_k_lateSums), (a_k_earlySums, aI E 20 g_k_earlySums), (a_k_parents, aI E 20 g_k_parents), (a_z_holds, aI E 50 g_z_holds), (o_u, .inr (3, [.int f_u_told, .ref a_u_periods, .ref a_u_froms, .ref a_u_throughs, .ref a_u_tos, .ref a_u_bits])), (a_u_froms, aI E 4 g_u_froms), (a_u_tos, aI E 4 g_u_tos), (a_u_periods, aI E 4 g_u_periods)] := hD
            obtain ⟨x_52, ex_52⟩ : ∃ y : Int32, y = y_7 + 1 := ⟨_, rfl⟩
            have tx_52 : x_52.toInt = y_7.toInt + 1 := i3_addc rfl rfl ex_52 (by omega)
            refine lv_iinc (v := x_52) (lv' := [(6, .int x_52), (9, .int x_26), (8, .int r_19), (7, .int x_15), (5, .int r_6), (4, .int r_5), (3, .int x_4), (0, .ref o_c), (1, .int p1), (2, .int p2)]) hx hb dX2_finish_219 hl (k := 3) rfl (by rw [ex_52]; rfl) (by decide) rfl (fun ls hl => ?_)
            refine lv_goto (tgt := 38) hx hb dX2_finish_222 (by decide) ?_
            replace hP : va_P E.1 vwCl [(a_n_sources, aI E 200 g_n_sources), (o_u, .inr (3, [.int f_u_told, .ref a_u_periods, .ref a_u_froms, .ref a_u_throughs, .ref a_u_tos, .ref a_u_bits])), (a_u_bits, aI E 50 g_u_bits), (a_u_froms, aI E 4 g_u_froms), (a_u_tos, aI E 4 g_u_tos), (a_u_periods, aI E 4 g_u_periods), (a_c_ways, aI E 1600 g_c_ways), (a_c_lates, aI E 1600 g_c_lates), (a_c_counts, aI E 50 g_35), (a_c_slacks, aI E 50 g_41), (a_c_holdSlacks, aI E 50 g_48), (a_c_earlies, aI E 1600 g_c_earlies), (a_z_setups, aI E 50 g_z_setups), (o_c, .inr (2, [.ref o_n, .ref o_z, .ref o_k, .ref o_u, .ref o_i, .int f_c_masks, .ref a_c_ways, .ref a_c_lates, .ref a_c_earlies, .ref a_c_counts, .ref a_c_slacks, .ref a_c_holdSlacks, .int x_50])), (o_n, .inr (1, [.int f_n_cells, .ref a_n_kinds, .ref a_n_inputs, .ref a_n_tables, .ref a_n_sizes, .ref a_n_extras, .ref a_n_sources, .ref a_n_takers, .ref a_n_firstTaker, .ref a_n_order, .int f_n_ordered, .ref a_n_tally, .ref a_n_behind])), (a_n_kinds, aI E 50 g_n_kinds), (o_z, .inr (4, [.ref a_z_earlies, .ref a_z_lates, .ref a_z_slopes, .ref a_z_nodes, .ref a_z_setups, .ref a_z_holds])), (a_z_nodes, aI E 50 g_z_nodes), (o_k, .inr (0, [.int f_k_length, .int f_k_nodes, .ref a_k_parents, .ref a_k_earlySums, .ref a_k_lateSums])), (a_k_lateSums, aI E 20 g_k_lateSums), (a_k_earlySums, aI E 20 g_k_earlySums), (a_k_parents, aI E 20 g_k_parents), (a_z_holds, aI E 50 g_z_holds)] H := hP.sub [0, 19, 1, 20, 21, 22, 2, 3, 4, 5, 6, 7, 8, 9, 10, 11, 12, 13, 14, 15, 16, 17, 18] rfl
            replace hD : va_D A [(a_n_sources, aI E 200 g_n_sources), (o_u, .inr (3, [.int f_u_told, .ref a_u_periods, .ref a_u_froms, .ref a_u_throughs, .ref a_u_tos, .ref a_u_bits])), (a_u_bits, aI E 50 g_u_bits), (a_u_froms, aI E 4 g_u_froms), (a_u_tos, aI E 4 g_u_tos), (a_u_periods, aI E 4 g_u_periods), (a_c_ways, aI E 1600 g_c_ways), (a_c_lates, aI E 1600 g_c_lates), (a_c_counts, aI E 50 g_35), (a_c_slacks, aI E 50 g_41), (a_c_holdSlacks, aI E 50 g_48), (a_c_earlies, aI E 1600 g_c_earlies), (a_z_setups, aI E 50 g_z_setups), (o_c, .inr (2, [.ref o_n, .ref o_z, .ref o_k, .ref o_u, .ref o_i, .int f_c_masks, .ref a_c_ways, .ref a_c_lates, .ref a_c_earlies, .ref a_c_counts, .ref a_c_slacks, .ref a_c_holdSlacks, .int x_50])), (o_n, .inr (1, [.int f_n_cells, .ref a_n_kinds, .ref a_n_inputs, .ref a_n_tables, .ref a_n_sizes, .ref a_n_extras, .ref a_n_sources, .ref a_n_takers, .ref a_n_firstTaker, .ref a_n_order, .int f_n_ordered, .ref a_n_tally, .ref a_n_behind])), (a_n_kinds, aI E 50 g_n_kinds), (o_z, .inr (4, [.ref a_z_earlies, .ref a_z_lates, .ref a_z_slopes, .ref a_z_nodes, .ref a_z_setups, .ref a_z_holds])), (a_z_nodes, aI E 50 g_z_nodes), (o_k, .inr (0, [.int f_k_length, .int f_k_nodes, .ref a_k_parents, .ref a_k_earlySums, .ref a_k_lateSums])), (a_k_lateSums, aI E 20 g_k_lateSums), (a_k_earlySums, aI E 20 g_k_earlySums), (a_k_parents, aI E 20 g_k_parents), (a_z_holds, aI E 50 g_z_holds)] := hD.sub [0, 19, 1, 20, 21, 22, 2, 3, 4, 5, 6, 7, 8, 9, 10, 11, 12, 13, 14, 15, 16, 17, 18] (by decide) rfl
            replace hl : lv_has ls 10 [(6, .int x_52), (5, .int r_6), (4, .int r_5), (3, .int x_4), (0, .ref o_c), (1, .int p1), (2, .int p2)] := lv_sub hl [0, 4, 5, 6, 7, 8, 9] rfl
            apply ih_d_12 (y_7 := x_52) (y_8 := g_35) (y_9 := g_41) (y_10 := g_48) (y_11 := x_50) (H := H) (locs := locs) (ls := ls) <;> first | assumption | omega | decide
          · have e_49 : x_26.toInt < 0 := i3_nle c_49
            refine lv_iload hx hb dX2_finish_199 (lv_at hl 1 rfl) ?_
            refine lv_iconst (v := 1) hx hb dX2_finish_201 (by decide) ?_
            refine lv_isub hx hb dX2_finish_202 ?_
            refine lv_topi (fun x_53 ex_53 => ?_)
            have tx_53 : x_53.toInt = r_19.toInt - 1 := i3_subc rfl rfl ex_53 (by omega)
            refine lv_iload hx hb dX2_finish_203 (lv_at hl 0 rfl) ?_
            refine lv_isub hx hb dX2_finish_205 ?_
            refine lv_topi (fun x_54 ex_54 => ?_)
            refine lv_iload hx hb dX2_finish_206 (lv_at hl 1 rfl) ?_
            refine lv_idiv hx hb dX2_finish_208 (i3_nz (by omega)) ?_
            refine lv_topi (fun x_55 ex_55 => ?_)
            have bd_56 := i3_bd x_54
            refine lv_goto (tgt := 213) hx hb dX2_finish_209 (by decide) ?_
            refine va_mmax hx hb (hml.trans hl.1.symm) hown (hto (.methodLink RX2 163 Lib.Math.max.name) (by decide +kernel)) (hto (.static Lib.Math.max.name) (by decide +kernel)) (hto (.initialized "java/lang/Math") (by decide +kernel)) (hto (.code Lib.Math.max.name Lib.Math.max.code 2 (some .int)) (by decide +kernel)) (Nat.le_of_ble_eq_true rfl) (Nat.le_of_ble_eq_true rfl) (Nat.zero_le _) (Nat.zero_le _) dX2_finish_213 ?_
            refine lv_topi (fun x_57 ex_57 => ?_)
            have m_x_57 : (x_57.toInt ≥ y_11.toInt ∧ x_57.toInt ≥ x_55.toInt) ∧ (x_57.toInt = y_11.toInt ∨ x_57.toInt = x_55.toInt) := i3_max ex_57
            refine va_put (D := E.1) (ci := 2) (v := .int x_57) (ty := .int) (own := RX2) (C := RX2) (T := TX2) (N := 13) hx hb hts i_q_finish_X2 tyX2 tyX2_ok nmX2 hown hK hP hD hS 9 rfl rfl 12 (by decide) (hto (.fieldLink RX2 34 "TimingHouse$Race" "needed" "I") (by decide +kernel)) (fun _ h9 => h9) rfl (by decide +kernel) rfl rfl (Nat.le_of_ble_eq_true rfl) dX2_finish_216 (fun H locs hP hD hS => ?_)
            replace hP : va_P E.1 vwCl [(a_n_sources, aI E 200 g_n_sources), (a_u_bits, aI E 50 g_u_bits), (a_c_ways, aI E 1600 g_c_ways), (a_c_lates, aI E 1600 g_c_lates), (a_c_counts, aI E 50 g_35), (a_c_slacks, aI E 50 g_41), (a_c_holdSlacks, aI E 50 g_48), (a_c_earlies, aI E 1600 g_c_earlies), (a_z_setups, aI E 50 g_z_setups), (o_c, .inr (2, [.ref o_n, .ref o_z, .ref o_k, .ref o_u, .ref o_i, .int f_c_masks, .ref a_c_ways, .ref a_c_lates, .ref a_c_earlies, .ref a_c_counts, .ref a_c_slacks, .ref a_c_holdSlacks, .int x_57])), (o_n, .inr (1, [.int f_n_cells, .ref a_n_kinds, .ref a_n_inputs, .ref a_n_tables, .ref a_n_sizes, .ref a_n_extras, .ref a_n_sources, .ref a_n_takers, .ref a_n_firstTaker, .ref a_n_order, .int f_n_ordered, .ref a_n_tally, .ref a_n_behind])), (a_n_kinds, aI E 50 g_n_kinds), (o_z, .inr (4, [.ref a_z_earlies, .ref a_z_lates, .ref a_z_slopes, .ref a_z_nodes, .ref a_z_setups, .ref a_z_holds])), (a_z_nodes, aI E 50 g_z_nodes), (o_k, .inr (0, [.int f_k_length, .int f_k_nodes, .ref a_k_parents, .ref a_k_earlySums, .ref a_k_lateSums])), (a_k_lateSums, aI E 20 g_k_lateSums), (a_k_earlySums, aI E 20 g_k_earlySums), (a_k_parents, aI E 20 g_k_parents), (a_z_holds, aI E 50 g_z_holds), (o_u, .inr (3, [.int f_u_told, .ref a_u_periods, .ref a_u_froms, .ref a_u_throughs, .ref a_u_tos, .ref a_u_bits])), (a_u_froms, aI E 4 g_u_froms), (a_u_tos, aI E 4 g_u_tos), (a_u_periods, aI E 4 g_u_periods)] H := hP
            replace hD : va_D A [(a_n_sources, aI E 200 g_n_sources), (a_u_bits, aI E 50 g_u_bits), (a_c_ways, aI E 1600 g_c_ways), (a_c_lates, aI E 1600 g_c_lates), (a_c_counts, aI E 50 g_35), (a_c_slacks, aI E 50 g_41), (a_c_holdSlacks, aI E 50 g_48), (a_c_earlies, aI E 1600 g_c_earlies), (a_z_setups, aI E 50 g_z_setups), (o_c, .inr (2, [.ref o_n, .ref o_z, .ref o_k, .ref o_u, .ref o_i, .int f_c_masks, .ref a_c_ways, .ref a_c_lates, .ref a_c_earlies, .ref a_c_counts, .ref a_c_slacks, .ref a_c_holdSlacks, .int x_57])), (o_n, .inr (1, [.int f_n_cells, .ref a_n_kinds, .ref a_n_inputs, .ref a_n_tables, .ref a_n_sizes, .ref a_n_extras, .ref a_n_sources, .ref a_n_takers, .ref a_n_firstTaker, .ref a_n_order, .int f_n_ordered, .ref a_n_tally, .ref a_n_behind])), (a_n_kinds, aI E 50 g_n_kinds), (o_z, .inr (4, [.ref a_z_earlies, .ref a_z_lates, .ref a_z_slopes, .ref a_z_nodes, .ref a_z_setups, .ref a_z_holds])), (a_z_nodes, aI E 50 g_z_nodes), (o_k, .inr (0, [.int f_k_length, .int f_k_nodes, .ref a_k_parents, .ref a_k_earlySums, .ref a_k_lateSums])), (a_k_lateSums, aI E 20 g_k_lateSums), (a_k_earlySums, aI E 20 g_k_earlySums), (a_k_parents, aI E 20 g_k_parents), (a_z_holds, aI E 50 g_z_holds), (o_u, .inr (3, [.int f_u_told, .ref a_u_periods, .ref a_u_froms, .ref a_u_throughs, .ref a_u_tos, .ref a_u_bits])), (a_u_froms, aI E 4 g_u_froms), (a_u_tos, aI E 4 g_u_tos), (a_u_periods, aI E 4 g_u_periods)] := hD
            obtain ⟨x_58, ex_58⟩ : ∃ y : Int32, y = y_7 + 1 := ⟨_, rfl⟩
            have tx_58 : x_58.toInt = y_7.toInt + 1 := i3_addc rfl rfl ex_58 (by omega)
            refine lv_iinc (v := x_58) (lv' := [(6, .int x_58), (9, .int x_26), (8, .int r_19), (7, .int x_15), (5, .int r_6), (4, .int r_5), (3, .int x_4), (0, .ref o_c), (1, .int p1), (2, .int p2)]) hx hb dX2_finish_219 hl (k := 3) rfl (by rw [ex_58]; rfl) (by decide) rfl (fun ls hl => ?_)
            refine lv_goto (tgt := 38) hx hb dX2_finish_222 (by decide) ?_
            replace hP : va_P E.1 vwCl [(a_n_sources, aI E 200 g_n_sources), (o_u, .inr (3, [.int f_u_told, .ref a_u_periods, .ref a_u_froms, .ref a_u_throughs, .ref a_u_tos, .ref a_u_bits])), (a_u_bits, aI E 50 g_u_bits), (a_u_froms, aI E 4 g_u_froms), (a_u_tos, aI E 4 g_u_tos), (a_u_periods, aI E 4 g_u_periods), (a_c_ways, aI E 1600 g_c_ways), (a_c_lates, aI E 1600 g_c_lates), (a_c_counts, aI E 50 g_35), (a_c_slacks, aI E 50 g_41), (a_c_holdSlacks, aI E 50 g_48), (a_c_earlies, aI E 1600 g_c_earlies), (a_z_setups, aI E 50 g_z_setups), (o_c, .inr (2, [.ref o_n, .ref o_z, .ref o_k, .ref o_u, .ref o_i, .int f_c_masks, .ref a_c_ways, .ref a_c_lates, .ref a_c_earlies, .ref a_c_counts, .ref a_c_slacks, .ref a_c_holdSlacks, .int x_57])), (o_n, .inr (1, [.int f_n_cells, .ref a_n_kinds, .ref a_n_inputs, .ref a_n_tables, .ref a_n_sizes, .ref a_n_extras, .ref a_n_sources, .ref a_n_takers, .ref a_n_firstTaker, .ref a_n_order, .int f_n_ordered, .ref a_n_tally, .ref a_n_behind])), (a_n_kinds, aI E 50 g_n_kinds), (o_z, .inr (4, [.ref a_z_earlies, .ref a_z_lates, .ref a_z_slopes, .ref a_z_nodes, .ref a_z_setups, .ref a_z_holds])), (a_z_nodes, aI E 50 g_z_nodes), (o_k, .inr (0, [.int f_k_length, .int f_k_nodes, .ref a_k_parents, .ref a_k_earlySums, .ref a_k_lateSums])), (a_k_lateSums, aI E 20 g_k_lateSums), (a_k_earlySums, aI E 20 g_k_earlySums), (a_k_parents, aI E 20 g_k_parents), (a_z_holds, aI E 50 g_z_holds)] H := hP.sub [0, 19, 1, 20, 21, 22, 2, 3, 4, 5, 6, 7, 8, 9, 10, 11, 12, 13, 14, 15, 16, 17, 18] rfl
            replace hD : va_D A [(a_n_sources, aI E 200 g_n_sources), (o_u, .inr (3, [.int f_u_told, .ref a_u_periods, .ref a_u_froms, .ref a_u_throughs, .ref a_u_tos, .ref a_u_bits])), (a_u_bits, aI E 50 g_u_bits), (a_u_froms, aI E 4 g_u_froms), (a_u_tos, aI E 4 g_u_tos), (a_u_periods, aI E 4 g_u_periods), (a_c_ways, aI E 1600 g_c_ways), (a_c_lates, aI E 1600 g_c_lates), (a_c_counts, aI E 50 g_35), (a_c_slacks, aI E 50 g_41), (a_c_holdSlacks, aI E 50 g_48), (a_c_earlies, aI E 1600 g_c_earlies), (a_z_setups, aI E 50 g_z_setups), (o_c, .inr (2, [.ref o_n, .ref o_z, .ref o_k, .ref o_u, .ref o_i, .int f_c_masks, .ref a_c_ways, .ref a_c_lates, .ref a_c_earlies, .ref a_c_counts, .ref a_c_slacks, .ref a_c_holdSlacks, .int x_57])), (o_n, .inr (1, [.int f_n_cells, .ref a_n_kinds, .ref a_n_inputs, .ref a_n_tables, .ref a_n_sizes, .ref a_n_extras, .ref a_n_sources, .ref a_n_takers, .ref a_n_firstTaker, .ref a_n_order, .int f_n_ordered, .ref a_n_tally, .ref a_n_behind])), (a_n_kinds, aI E 50 g_n_kinds), (o_z, .inr (4, [.ref a_z_earlies, .ref a_z_lates, .ref a_z_slopes, .ref a_z_nodes, .ref a_z_setups, .ref a_z_holds])), (a_z_nodes, aI E 50 g_z_nodes), (o_k, .inr (0, [.int f_k_length, .int f_k_nodes, .ref a_k_parents, .ref a_k_earlySums, .ref a_k_lateSums])), (a_k_lateSums, aI E 20 g_k_lateSums), (a_k_earlySums, aI E 20 g_k_earlySums), (a_k_parents, aI E 20 g_k_parents), (a_z_holds, aI E 50 g_z_holds)] := hD.sub [0, 19, 1, 20, 21, 22, 2, 3, 4, 5, 6, 7, 8, 9, 10, 11, 12, 13, 14, 15, 16, 17, 18] (by decide) rfl
            replace hl : lv_has ls 10 [(6, .int x_58), (5, .int r_6), (4, .int r_5), (3, .int x_4), (0, .ref o_c), (1, .int p1), (2, .int p2)] := lv_sub hl [0, 4, 5, 6, 7, 8, 9] rfl
            apply ih_d_12 (y_7 := x_58) (y_8 := g_35) (y_9 := g_41) (y_10 := g_48) (y_11 := x_57) (H := H) (locs := locs) (ls := ls) <;> first | assumption | omega | decide
