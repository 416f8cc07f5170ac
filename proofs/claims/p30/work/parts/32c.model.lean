theorem dX10_passes_0 : decode cX10_passes 0 = .ok (.aload_n 0, 1) := by decide +kernel
theorem dX10_passes_1 : decode cX10_passes 1 = .ok (.getfield 18, 3) := by decide +kernel
theorem dX10_passes_4 : decode cX10_passes 4 = .ok (.iload_n 2, 1) := by decide +kernel
theorem dX10_passes_5 : decode cX10_passes 5 = .ok (.iaload, 1) := by decide +kernel
theorem dX10_passes_6 : decode cX10_passes 6 = .ok (.iconst 2, 1) := by decide +kernel
theorem dX10_passes_7 : decode cX10_passes 7 = .ok (.if_icmp .ne 10, 3) := by decide +kernel
theorem dX10_passes_17 : decode cX10_passes 17 = .ok (.iload 4, 2) := by decide +kernel
theorem dX10_passes_19 : decode cX10_passes 19 = .ok (.istore 5, 2) := by decide +kernel
theorem dX10_passes_21 : decode cX10_passes 21 = .ok (.aload_n 0, 1) := by decide +kernel
theorem dX10_passes_22 : decode cX10_passes 22 = .ok (.iload_n 2, 1) := by decide +kernel
theorem dX10_passes_23 : decode cX10_passes 23 = .ok (.invokevirtual 295, 3) := by decide +kernel
theorem dX10_passes_26 : decode cX10_passes 26 = .ok (.istore 6, 2) := by decide +kernel
theorem dX10_passes_28 : decode cX10_passes 28 = .ok (.iconst 0, 1) := by decide +kernel
theorem dX10_passes_29 : decode cX10_passes 29 = .ok (.istore 7, 2) := by decide +kernel
theorem dX10_passes_31 : decode cX10_passes 31 = .ok (.iload 7, 2) := by decide +kernel
theorem dX10_passes_33 : decode cX10_passes 33 = .ok (.bipush 16, 2) := by decide +kernel
theorem dX10_passes_35 : decode cX10_passes 35 = .ok (.if_icmp .ge 201, 3) := by decide +kernel
theorem dX10_passes_236 : decode cX10_passes 236 = .ok (.return_, 1) := by decide +kernel
theorem dX10_passes_38 : decode cX10_passes 38 = .ok (.bipush 16, 2) := by decide +kernel
theorem dX10_passes_40 : decode cX10_passes 40 = .ok (.iconst 2, 1) := by decide +kernel
theorem dX10_passes_41 : decode cX10_passes 41 = .ok (.iload_n 1, 1) := by decide +kernel
theorem dX10_passes_42 : decode cX10_passes 42 = .ok (.imul, 1) := by decide +kernel
theorem dX10_passes_43 : decode cX10_passes 43 = .ok (.iload 4, 2) := by decide +kernel
theorem dX10_passes_45 : decode cX10_passes 45 = .ok (.iadd, 1) := by decide +kernel
theorem dX10_passes_46 : decode cX10_passes 46 = .ok (.imul, 1) := by decide +kernel
theorem dX10_passes_47 : decode cX10_passes 47 = .ok (.iload 7, 2) := by decide +kernel
theorem dX10_passes_49 : decode cX10_passes 49 = .ok (.iadd, 1) := by decide +kernel
theorem dX10_passes_50 : decode cX10_passes 50 = .ok (.istore 8, 2) := by decide +kernel
theorem dX10_passes_52 : decode cX10_passes 52 = .ok (.aload_n 0, 1) := by decide +kernel
theorem dX10_passes_53 : decode cX10_passes 53 = .ok (.getfield 141, 3) := by decide +kernel
theorem dX10_passes_56 : decode cX10_passes 56 = .ok (.iload 8, 2) := by decide +kernel
theorem dX10_passes_58 : decode cX10_passes 58 = .ok (.iaload, 1) := by decide +kernel
theorem dX10_passes_59 : decode cX10_passes 59 = .ok (.ifCond .ne 6, 3) := by decide +kernel
theorem dX10_passes_65 : decode cX10_passes 65 = .ok (.bipush 16, 2) := by decide +kernel
theorem dX10_passes_67 : decode cX10_passes 67 = .ok (.iconst 2, 1) := by decide +kernel
theorem dX10_passes_68 : decode cX10_passes 68 = .ok (.iload_n 2, 1) := by decide +kernel
theorem dX10_passes_69 : decode cX10_passes 69 = .ok (.imul, 1) := by decide +kernel
theorem dX10_passes_70 : decode cX10_passes 70 = .ok (.iload 5, 2) := by decide +kernel
theorem dX10_passes_72 : decode cX10_passes 72 = .ok (.iadd, 1) := by decide +kernel
theorem dX10_passes_73 : decode cX10_passes 73 = .ok (.imul, 1) := by decide +kernel
theorem dX10_passes_74 : decode cX10_passes 74 = .ok (.iload 7, 2) := by decide +kernel
theorem dX10_passes_76 : decode cX10_passes 76 = .ok (.iload 6, 2) := by decide +kernel
theorem dX10_passes_78 : decode cX10_passes 78 = .ok (.ior, 1) := by decide +kernel
theorem dX10_passes_79 : decode cX10_passes 79 = .ok (.iadd, 1) := by decide +kernel
theorem dX10_passes_80 : decode cX10_passes 80 = .ok (.istore 9, 2) := by decide +kernel
theorem dX10_passes_82 : decode cX10_passes 82 = .ok (.aload_n 0, 1) := by decide +kernel
theorem dX10_passes_83 : decode cX10_passes 83 = .ok (.getfield 144, 3) := by decide +kernel
theorem dX10_passes_86 : decode cX10_passes 86 = .ok (.iload 8, 2) := by decide +kernel
theorem dX10_passes_88 : decode cX10_passes 88 = .ok (.iaload, 1) := by decide +kernel
theorem dX10_passes_89 : decode cX10_passes 89 = .ok (.aload_n 0, 1) := by decide +kernel
theorem dX10_passes_90 : decode cX10_passes 90 = .ok (.getfield 123, 3) := by decide +kernel
theorem dX10_passes_93 : decode cX10_passes 93 = .ok (.bipush 8, 2) := by decide +kernel
theorem dX10_passes_95 : decode cX10_passes 95 = .ok (.iload_n 2, 1) := by decide +kernel
theorem dX10_passes_96 : decode cX10_passes 96 = .ok (.imul, 1) := by decide +kernel
theorem dX10_passes_97 : decode cX10_passes 97 = .ok (.iconst 2, 1) := by decide +kernel
theorem dX10_passes_98 : decode cX10_passes 98 = .ok (.iload_n 3, 1) := by decide +kernel
theorem dX10_passes_99 : decode cX10_passes 99 = .ok (.imul, 1) := by decide +kernel
theorem dX10_passes_100 : decode cX10_passes 100 = .ok (.iadd, 1) := by decide +kernel
theorem dX10_passes_101 : decode cX10_passes 101 = .ok (.iload 5, 2) := by decide +kernel
theorem dX10_passes_103 : decode cX10_passes 103 = .ok (.iadd, 1) := by decide +kernel
theorem dX10_passes_104 : decode cX10_passes 104 = .ok (.iaload, 1) := by decide +kernel
theorem dX10_passes_105 : decode cX10_passes 105 = .ok (.iadd, 1) := by decide +kernel
theorem dX10_passes_106 : decode cX10_passes 106 = .ok (.istore 10, 2) := by decide +kernel
theorem dX10_passes_108 : decode cX10_passes 108 = .ok (.aload_n 0, 1) := by decide +kernel
theorem dX10_passes_109 : decode cX10_passes 109 = .ok (.getfield 147, 3) := by decide +kernel
theorem dX10_passes_112 : decode cX10_passes 112 = .ok (.iload 8, 2) := by decide +kernel
theorem dX10_passes_114 : decode cX10_passes 114 = .ok (.iaload, 1) := by decide +kernel
theorem dX10_passes_115 : decode cX10_passes 115 = .ok (.aload_n 0, 1) := by decide +kernel
theorem dX10_passes_116 : decode cX10_passes 116 = .ok (.getfield 126, 3) := by decide +kernel
theorem dX10_passes_119 : decode cX10_passes 119 = .ok (.bipush 8, 2) := by decide +kernel
theorem dX10_passes_121 : decode cX10_passes 121 = .ok (.iload_n 2, 1) := by decide +kernel
theorem dX10_passes_122 : decode cX10_passes 122 = .ok (.imul, 1) := by decide +kernel
theorem dX10_passes_123 : decode cX10_passes 123 = .ok (.iconst 2, 1) := by decide +kernel
theorem dX10_passes_124 : decode cX10_passes 124 = .ok (.iload_n 3, 1) := by decide +kernel
theorem dX10_passes_125 : decode cX10_passes 125 = .ok (.imul, 1) := by decide +kernel
theorem dX10_passes_126 : decode cX10_passes 126 = .ok (.iadd, 1) := by decide +kernel
theorem dX10_passes_127 : decode cX10_passes 127 = .ok (.iload 5, 2) := by decide +kernel
theorem dX10_passes_129 : decode cX10_passes 129 = .ok (.iadd, 1) := by decide +kernel
theorem dX10_passes_130 : decode cX10_passes 130 = .ok (.iaload, 1) := by decide +kernel
theorem dX10_passes_131 : decode cX10_passes 131 = .ok (.iadd, 1) := by decide +kernel
theorem dX10_passes_132 : decode cX10_passes 132 = .ok (.istore 11, 2) := by decide +kernel
theorem dX10_passes_134 : decode cX10_passes 134 = .ok (.aload_n 0, 1) := by decide +kernel
theorem dX10_passes_135 : decode cX10_passes 135 = .ok (.getfield 144, 3) := by decide +kernel
theorem dX10_passes_138 : decode cX10_passes 138 = .ok (.iload 9, 2) := by decide +kernel
theorem dX10_passes_140 : decode cX10_passes 140 = .ok (.aload_n 0, 1) := by decide +kernel
theorem dX10_passes_141 : decode cX10_passes 141 = .ok (.getfield 141, 3) := by decide +kernel
theorem dX10_passes_144 : decode cX10_passes 144 = .ok (.iload 9, 2) := by decide +kernel
theorem dX10_passes_146 : decode cX10_passes 146 = .ok (.iaload, 1) := by decide +kernel
theorem dX10_passes_147 : decode cX10_passes 147 = .ok (.ifCond .ne 8, 3) := by decide +kernel
theorem dX10_passes_155 : decode cX10_passes 155 = .ok (.aload_n 0, 1) := by decide +kernel
theorem dX10_passes_156 : decode cX10_passes 156 = .ok (.getfield 144, 3) := by decide +kernel
theorem dX10_passes_159 : decode cX10_passes 159 = .ok (.iload 9, 2) := by decide +kernel
theorem dX10_passes_161 : decode cX10_passes 161 = .ok (.iaload, 1) := by decide +kernel
theorem dX10_passes_162 : decode cX10_passes 162 = .ok (.iload 10, 2) := by decide +kernel
theorem dX10_passes_164 : decode cX10_passes 164 = .ok (.invokestatic 260, 3) := by decide +kernel
theorem dX10_passes_167 : decode cX10_passes 167 = .ok (.iastore, 1) := by decide +kernel
theorem dX10_passes_168 : decode cX10_passes 168 = .ok (.aload_n 0, 1) := by decide +kernel
theorem dX10_passes_169 : decode cX10_passes 169 = .ok (.getfield 147, 3) := by decide +kernel
theorem dX10_passes_172 : decode cX10_passes 172 = .ok (.iload 9, 2) := by decide +kernel
theorem dX10_passes_174 : decode cX10_passes 174 = .ok (.aload_n 0, 1) := by decide +kernel
theorem dX10_passes_175 : decode cX10_passes 175 = .ok (.getfield 141, 3) := by decide +kernel
theorem dX10_passes_178 : decode cX10_passes 178 = .ok (.iload 9, 2) := by decide +kernel
theorem dX10_passes_180 : decode cX10_passes 180 = .ok (.iaload, 1) := by decide +kernel
theorem dX10_passes_181 : decode cX10_passes 181 = .ok (.ifCond .ne 8, 3) := by decide +kernel
theorem dX10_passes_189 : decode cX10_passes 189 = .ok (.aload_n 0, 1) := by decide +kernel
theorem dX10_passes_190 : decode cX10_passes 190 = .ok (.getfield 147, 3) := by decide +kernel
theorem dX10_passes_193 : decode cX10_passes 193 = .ok (.iload 9, 2) := by decide +kernel
theorem dX10_passes_195 : decode cX10_passes 195 = .ok (.iaload, 1) := by decide +kernel
theorem dX10_passes_196 : decode cX10_passes 196 = .ok (.iload 11, 2) := by decide +kernel
theorem dX10_passes_198 : decode cX10_passes 198 = .ok (.invokestatic 266, 3) := by decide +kernel
theorem dX10_passes_201 : decode cX10_passes 201 = .ok (.iastore, 1) := by decide +kernel
theorem dX10_passes_202 : decode cX10_passes 202 = .ok (.aload_n 0, 1) := by decide +kernel
theorem dX10_passes_203 : decode cX10_passes 203 = .ok (.getfield 141, 3) := by decide +kernel
theorem dX10_passes_206 : decode cX10_passes 206 = .ok (.iload 9, 2) := by decide +kernel
theorem dX10_passes_208 : decode cX10_passes 208 = .ok (.sipush 1000, 3) := by decide +kernel
theorem dX10_passes_211 : decode cX10_passes 211 = .ok (.aload_n 0, 1) := by decide +kernel
theorem dX10_passes_212 : decode cX10_passes 212 = .ok (.getfield 141, 3) := by decide +kernel
theorem dX10_passes_215 : decode cX10_passes 215 = .ok (.iload 9, 2) := by decide +kernel
theorem dX10_passes_217 : decode cX10_passes 217 = .ok (.iaload, 1) := by decide +kernel
theorem dX10_passes_218 : decode cX10_passes 218 = .ok (.aload_n 0, 1) := by decide +kernel
theorem dX10_passes_219 : decode cX10_passes 219 = .ok (.getfield 141, 3) := by decide +kernel
theorem dX10_passes_222 : decode cX10_passes 222 = .ok (.iload 8, 2) := by decide +kernel
theorem dX10_passes_224 : decode cX10_passes 224 = .ok (.iaload, 1) := by decide +kernel
theorem dX10_passes_225 : decode cX10_passes 225 = .ok (.iadd, 1) := by decide +kernel
theorem dX10_passes_226 : decode cX10_passes 226 = .ok (.invokestatic 266, 3) := by decide +kernel
theorem dX10_passes_229 : decode cX10_passes 229 = .ok (.iastore, 1) := by decide +kernel
theorem dX10_passes_230 : decode cX10_passes 230 = .ok (.iinc 7 1, 3) := by decide +kernel
theorem dX10_passes_233 : decode cX10_passes 233 = .ok (.goto (-202), 3) := by decide +kernel
theorem dX10_passes_150 : decode cX10_passes 150 = .ok (.iload 10, 2) := by decide +kernel
theorem dX10_passes_152 : decode cX10_passes 152 = .ok (.goto 15, 3) := by decide +kernel
theorem dX10_passes_184 : decode cX10_passes 184 = .ok (.iload 11, 2) := by decide +kernel
theorem dX10_passes_186 : decode cX10_passes 186 = .ok (.goto 15, 3) := by decide +kernel
theorem dX10_passes_62 : decode cX10_passes 62 = .ok (.goto 168, 3) := by decide +kernel
theorem dX10_passes_10 : decode cX10_passes 10 = .ok (.iconst 1, 1) := by decide +kernel
theorem dX10_passes_11 : decode cX10_passes 11 = .ok (.iload 4, 2) := by decide +kernel
theorem dX10_passes_13 : decode cX10_passes 13 = .ok (.isub, 1) := by decide +kernel
theorem dX10_passes_14 : decode cX10_passes 14 = .ok (.goto 5, 3) := by decide +kernel
def wo_m_passes : List Cond := [.code yX10_passes cX10_passes 12 none, .fieldLink RX10 18 "TimingHouseModel" "kind" "[I", .methodLink RX10 295 yX10_metBy, .instanceMethod yX10_metBy, .selects RX10 yX10_metBy yX10_metBy, .initialized RX10, .fieldLink RX10 141 "TimingHouseModel" "howMany" "[I", .fieldLink RX10 144 "TimingHouseModel" "most" "[I", .fieldLink RX10 123 "TimingHouseModel" "lateDelay" "[I", .fieldLink RX10 147 "TimingHouseModel" "fewest" "[I", .fieldLink RX10 126 "TimingHouseModel" "earlyDelay" "[I", .methodLink RX10 260 Lib.Math.max.name, .static Lib.Math.max.name, .initialized "java/lang/Math", .code Lib.Math.max.name Lib.Math.max.code 2 (some .int), .methodLink RX10 266 Lib.Math.min.name, .static Lib.Math.min.name, .code Lib.Math.min.name Lib.Math.min.code 2 (some .int)]
def wr_m_passes : List Cond := (wsX100 ++ (w_m_metBy ++ ([])))
def w_m_passes : List Cond := wo_m_passes ++ wr_m_passes
theorem wg_m_passes : GW w_m_passes := GW_app (GW_of (by decide +kernel)) (GW_app (GW_of (by decide +kernel)) (GW_app (wg_m_metBy) (GW_nil)))
theorem i_m_passes_X10 : ∀ w ∈ wsX100, w ∈ w_m_passes := fun _ h => List.mem_append_right _ (List.mem_append_left _ h)
theorem g_m_passes_m_metBy_295 : GoodIn w_m_passes (wsV RX10 295 RX10 yX10_metBy w_m_metBy) := goodIn_app (gi_left (goodIn_of _ (by decide +kernel))) (fun w h => ⟨List.mem_append_right _ (List.mem_append_right _ (List.mem_append_left _ h)), wg_m_metBy w h⟩)
set_option maxHeartbeats 8000000 in
set_option maxRecDepth 100000 in
theorem m_passes (l : Launch) (E : gE) (o_m a_m_kind a_m_inputs a_m_tableOf a_m_size a_m_extra a_m_taken a_m_portEarly a_m_portLate a_m_portSlope a_m_nodeOf a_m_setup a_m_hold a_m_seen a_m_numbers a_m_rowSize a_m_fall a_m_parent a_m_nodeEarly a_m_nodeLate a_m_periods a_m_from a_m_through a_m_toward a_m_order a_m_done a_m_reached a_m_open a_m_lateDelay a_m_earlyDelay a_m_lateSlope a_m_earlySlope a_m_greatest a_m_least a_m_howMany a_m_most a_m_fewest a_m_pathsTo a_m_slackOf a_m_holdOf a_m_listSlack a_m_listStart a_m_listEdge a_m_listSize a_m_listCell a_m_listInput a_m_rank a_m_good a_m_goCell a_m_goInput a_m_goEdge a_m_goMask a_m_shownCell a_m_shownInput a_m_shownEdge a_m_shownLate : Nat) (f_m_code f_m_cells f_m_late f_m_early f_m_period f_m_nodes f_m_exceptions f_m_fails f_m_ordered f_m_listed f_m_target f_m_shown f_m_shownSlack f_m_shownHold p1 p2 p3 p4 : Int32) (g_m_kind : Nat → Int32) (g_m_through : Nat → Int32) (g_m_howMany : Nat → Int32) (g_m_most : Nat → Int32) (g_m_lateDelay : Nat → Int32) (g_m_fewest : Nat → Int32) (g_m_earlyDelay : Nat → Int32) (r_f_m_cells : RG f_m_cells 0 50) (r_f_m_late : RG f_m_late 0 500) (r_f_m_early : RG f_m_early 0 500) (r_f_m_period : RG f_m_period 1 1000000) (r_f_m_nodes : RG f_m_nodes 0 20) (r_f_m_exceptions : RG f_m_exceptions 0 4) (r_f_m_ordered : RG f_m_ordered 0 50) (r_f_m_listed : RG f_m_listed 0 1000) (r_f_m_target : RG f_m_target 0 49) (r_f_m_shown : RG f_m_shown 0 52) (i_g_m_kind : AR g_m_kind 50 0 5) (i_g_m_through : AR g_m_through 4 (-1) 49) (r_p1 : RG p1 0 49) (r_p2 : RG p2 0 49) (r_p3 : RG p3 0 3) (r_p4 : RG p4 0 1) : CtV l E yX10_passes w_m_passes ({ frames := 1, cells := 0, slots := 0, locals := 23 }) [(o_m, .inr (10, [.int f_m_code, .int f_m_cells, .ref a_m_kind, .ref a_m_inputs, .ref a_m_tableOf, .ref a_m_size, .ref a_m_extra, .ref a_m_taken, .ref a_m_portEarly, .ref a_m_portLate, .ref a_m_portSlope, .ref a_m_nodeOf, .ref a_m_setup, .ref a_m_hold, .ref a_m_seen, .ref a_m_numbers, .ref a_m_rowSize, .ref a_m_fall, .int f_m_late, .int f_m_early, .int f_m_period, .int f_m_nodes, .ref a_m_parent, .ref a_m_nodeEarly, .ref a_m_nodeLate, .int f_m_exceptions, .ref a_m_periods, .ref a_m_from, .ref a_m_through, .ref a_m_toward, .int f_m_fails, .ref a_m_order, .int f_m_ordered, .ref a_m_done, .ref a_m_reached, .ref a_m_open, .ref a_m_lateDelay, .ref a_m_earlyDelay, .ref a_m_lateSlope, .ref a_m_earlySlope, .ref a_m_greatest, .ref a_m_least, .ref a_m_howMany, .ref a_m_most, .ref a_m_fewest, .ref a_m_pathsTo, .ref a_m_slackOf, .ref a_m_holdOf, .int f_m_listed, .ref a_m_listSlack, .ref a_m_listStart, .ref a_m_listEdge, .ref a_m_listSize, .ref a_m_listCell, .ref a_m_listInput, .ref a_m_rank, .ref a_m_good, .ref a_m_goCell, .ref a_m_goInput, .ref a_m_goEdge, .ref a_m_goMask, .int f_m_target, .int f_m_shown, .ref a_m_shownCell, .ref a_m_shownInput, .ref a_m_shownEdge, .ref a_m_shownLate, .int f_m_shownSlack, .int f_m_shownHold])), (a_m_kind, aI E 50 g_m_kind), (a_m_through, aI E 4 g_m_through), (a_m_howMany, aI E 1600 g_m_howMany), (a_m_most, aI E 1600 g_m_most), (a_m_lateDelay, aI E 400 g_m_lateDelay), (a_m_fewest, aI E 1600 g_m_fewest), (a_m_earlyDelay, aI E 400 g_m_earlyDelay)] [.ref o_m, .int p1, .int p2, .int p3, .int p4] (fun w => ∃ ng_m_howMany : Nat → Int32, ∃ ng_m_most : Nat → Int32, ∃ ng_m_fewest : Nat → Int32, w = [(o_m, .inr (10, [.int f_m_code, .int f_m_cells, .ref a_m_kind, .ref a_m_inputs, .ref a_m_tableOf, .ref a_m_size, .ref a_m_extra, .ref a_m_taken, .ref a_m_portEarly, .ref a_m_portLate, .ref a_m_portSlope, .ref a_m_nodeOf, .ref a_m_setup, .ref a_m_hold, .ref a_m_seen, .ref a_m_numbers, .ref a_m_rowSize, .ref a_m_fall, .int f_m_late, .int f_m_early, .int f_m_period, .int f_m_nodes, .ref a_m_parent, .ref a_m_nodeEarly, .ref a_m_nodeLate, .int f_m_exceptions, .ref a_m_periods, .ref a_m_from, .ref a_m_through, .ref a_m_toward, .int f_m_fails, .ref a_m_order, .int f_m_ordered, .ref a_m_done, .ref a_m_reached, .ref a_m_open, .ref a_m_lateDelay, .ref a_m_earlyDelay, .ref a_m_lateSlope, .ref a_m_earlySlope, .ref a_m_greatest, .ref a_m_least, .ref a_m_howMany, .ref a_m_most, .ref a_m_fewest, .ref a_m_pathsTo, .ref a_m_slackOf, .ref a_m_holdOf, .int f_m_listed, .ref a_m_listSlack, .ref a_m_listStart, .ref a_m_listEdge, .ref a_m_listSize, .ref a_m_listCell, .ref a_m_listInput, .ref a_m_rank, .ref a_m_good, .ref a_m_goCell, .ref a_m_goInput, .ref a_m_goEdge, .ref a_m_goMask, .int f_m_target, .int f_m_shown, .ref a_m_shownCell, .ref a_m_shownInput, .ref a_m_shownEdge, .ref a_m_shownLate, .int f_m_shownSlack, .int f_m_shownHold])), (a_m_kind, aI E 50 g_m_kind), (a_m_through, aI E 4 g_m_through), (a_m_howMany, aI E 1600 ng_m_howMany), (a_m_most, aI E 1600 ng_m_most), (a_m_lateDelay, aI E 400 g_m_lateDelay), (a_m_fewest, aI E 1600 ng_m_fewest), (a_m_earlyDelay, aI E 400 g_m_earlyDelay)]) := by
  refine CtV.of (cc := cX10_passes) (maxL := 12) (rt := none) (by decide) rfl (Nat.le_of_ble_eq_true rfl) ?_
  intro p e s m below meth c A B ls hl
  obtain ⟨hx, hb, hml, hr, hlk, hin, hts, hown, hK, hN, hZ, hA, hP, hD, hS⟩ := B
  replace hown : s.vm.findClass RX10 = some m.cls := hown
  have hto : ∀ w ∈ wo_m_passes, w.before _ s = true := fun w h => hts w (List.mem_append_left _ h)
  replace hl : lv_has ls 12 [(0, .ref o_m), (1, .int p1), (2, .int p2), (3, .int p3), (4, .int p4)] := hl
  obtain ⟨H, hHe⟩ : ∃ H, H = s.heap := ⟨_, rfl⟩
  obtain ⟨locs, hle⟩ : ∃ l : List Loc, l = [] := ⟨_, rfl⟩
  replace hS : va_S A s.heap H locs := by rw [hHe, hle]; exact hS
  replace hP : va_P E.1 vwCl [(o_m, .inr (10, [.int f_m_code, .int f_m_cells, .ref a_m_kind, .ref a_m_inputs, .ref a_m_tableOf, .ref a_m_size, .ref a_m_extra, .ref a_m_taken, .ref a_m_portEarly, .ref a_m_portLate, .ref a_m_portSlope, .ref a_m_nodeOf, .ref a_m_setup, .ref a_m_hold, .ref a_m_seen, .ref a_m_numbers, .ref a_m_rowSize, .ref a_m_fall, .int f_m_late, .int f_m_early, .int f_m_period, .int f_m_nodes, .ref a_m_parent, .ref a_m_nodeEarly, .ref a_m_nodeLate, .int f_m_exceptions, .ref a_m_periods, .ref a_m_from, .ref a_m_through, .ref a_m_toward, .int f_m_fails, .ref a_m_order, .int f_m_ordered, .ref a_m_done, .ref a_m_reached, .ref a_m_open, .ref a_m_lateDelay, .ref a_m_earlyDelay, .ref a_m_lateSlope, .ref a_m_earlySlope, .ref a_m_greatest, .ref a_m_least, .ref a_m_howMany, .ref a_m_most, .ref a_m_fewest, .ref a_m_pathsTo, .ref a_m_slackOf, .ref a_m_holdOf, .int f_m_listed, .ref a_m_listSlack, .ref a_m_listStart, .ref a_m_listEdge, .ref a_m_listSize, .ref a_m_listCell, .ref a_m_listInput, .ref a_m_rank, .ref a_m_good, .ref a_m_goCell, .ref a_m_goInput, .ref a_m_goEdge, .ref a_m_goMask, .int f_m_target, .int f_m_shown, .ref a_m_shownCell, .ref a_m_shownInput, .ref a_m_shownEdge, .ref a_m_shownLate, .int f_m_shownSlack, .int f_m_shownHold])), (a_m_kind, aI E 50 g_m_kind), (a_m_through, aI E 4 g_m_through), (a_m_howMany, aI E 1600 g_m_howMany), (a_m_most, aI E 1600 g_m_most), (a_m_lateDelay, aI E 400 g_m_lateDelay), (a_m_fewest, aI E 1600 g_m_fewest), (a_m_earlyDelay, aI E 400 g_m_earlyDelay)] H := by rw [hHe]; exact hP
  refine W_hl hHe hle ?_
  clear hHe hle
  refine lv_aload_n hx hb dX10_passes_0 rfl (lv_at hl 0 rfl) ?_
  refine va_get (D := E.1) (ci := 10) (v := .ref a_m_kind) (own := RX10) (C := RX10) (T := TX10) (N := 69) hx hb hts i_m_passes_X10 hown hK hP 0 rfl rfl 2 (by decide) (hto (.fieldLink RX10 18 "TimingHouseModel" "kind" "[I") (by decide +kernel)) (fun _ h9 => h9) rfl dX10_passes_1 ?_
  refine lv_iload_n hx hb dX10_passes_4 rfl (lv_at hl 2 rfl) ?_
  have b_p2 := r_p2.out
  refine ld_i hx hb hK hP 1 rfl (by omega) dX10_passes_5 (fun x_1 ex_1 => ?_)
  have b_x_1 := AR.rd i_g_m_kind ex_1 (by omega)
  refine lv_iconst (v := 2) hx hb dX10_passes_6 (by decide) ?_
  refine lv_icmp_ne (tgt := 17) hx hb dX10_passes_7 (by decide) (fun c_2 => ?_) (fun c_2 => ?_)
  · have e_2 : x_1.toInt ≠ 2 := i3_ne c_2
    refine lv_iload hx hb dX10_passes_17 (lv_at hl 4 rfl) ?_
    refine lv_istore (lv' := [(5, .int p4), (0, .ref o_m), (1, .int p1), (2, .int p2), (3, .int p3), (4, .int p4)]) hx hb dX10_passes_19 hl (by decide) rfl (fun ls hl => ?_)
    refine lv_aload_n hx hb dX10_passes_21 rfl (lv_at hl 1 rfl) ?_
    refine lv_iload_n hx hb dX10_passes_22 rfl (lv_at hl 3 rfl) ?_
    refine call_i (va_runV (As := [.int p2]) (rest := []) ⟨hx, hb, hml, hown, hts⟩ (m_metBy l E o_m a_m_kind a_m_inputs a_m_tableOf a_m_size a_m_extra a_m_taken a_m_portEarly a_m_portLate a_m_portSlope a_m_nodeOf a_m_setup a_m_hold a_m_seen a_m_numbers a_m_rowSize a_m_fall a_m_parent a_m_nodeEarly a_m_nodeLate a_m_periods a_m_from a_m_through a_m_toward a_m_order a_m_done a_m_reached a_m_open a_m_lateDelay a_m_earlyDelay a_m_lateSlope a_m_earlySlope a_m_greatest a_m_least a_m_howMany a_m_most a_m_fewest a_m_pathsTo a_m_slackOf a_m_holdOf a_m_listSlack a_m_listStart a_m_listEdge a_m_listSize a_m_listCell a_m_listInput a_m_rank a_m_good a_m_goCell a_m_goInput a_m_goEdge a_m_goMask a_m_shownCell a_m_shownInput a_m_shownEdge a_m_shownLate f_m_code f_m_cells f_m_late f_m_early f_m_period f_m_nodes f_m_exceptions f_m_fails f_m_ordered f_m_listed f_m_target f_m_shown f_m_shownSlack f_m_shownHold p2 g_m_through r_f_m_cells r_f_m_late r_f_m_early r_f_m_period r_f_m_nodes r_f_m_exceptions r_f_m_ordered r_f_m_listed r_f_m_target r_f_m_shown i_g_m_through r_p2 H.size) (cwV 1 hts g_m_passes_m_metBy_295 rfl rfl rfl (by decide +kernel) ⟨Nat.le_of_ble_eq_true rfl, Nat.le_of_ble_eq_true rfl⟩) (pre_V hK hN hZ hS (va_free hD hS hA [0, 2] rfl) (hP.sub (ws' := [(o_m, .inr (10, [.int f_m_code, .int f_m_cells, .ref a_m_kind, .ref a_m_inputs, .ref a_m_tableOf, .ref a_m_size, .ref a_m_extra, .ref a_m_taken, .ref a_m_portEarly, .ref a_m_portLate, .ref a_m_portSlope, .ref a_m_nodeOf, .ref a_m_setup, .ref a_m_hold, .ref a_m_seen, .ref a_m_numbers, .ref a_m_rowSize, .ref a_m_fall, .int f_m_late, .int f_m_early, .int f_m_period, .int f_m_nodes, .ref a_m_parent, .ref a_m_nodeEarly, .ref a_m_nodeLate, .int f_m_exceptions, .ref a_m_periods, .ref a_m_from, .ref a_m_through, .ref a_m_toward, .int f_m_fails, .ref a_m_order, .int f_m_ordered, .ref a_m_done, .ref a_m_reached, .ref a_m_open, .ref a_m_lateDelay, .ref a_m_earlyDelay, .ref a_m_lateSlope, .ref a_m_earlySlope, .ref a_m_greatest, .ref a_m_least, .ref a_m_howMany, .ref a_m_most, .ref a_m_fewest, .ref a_m_pathsTo, .ref a_m_slackOf, .ref a_m_holdOf, .int f_m_listed, .ref a_m_listSlack, .ref a_m_listStart, .ref a_m_listEdge, .ref a_m_listSize, .ref a_m_listCell, .ref a_m_listInput, .ref a_m_rank, .ref a_m_good, .ref a_m_goCell, .ref a_m_goInput, .ref a_m_goEdge, .ref a_m_goMask, .int f_m_target, .int f_m_shown, .ref a_m_shownCell, .ref a_m_shownInput, .ref a_m_shownEdge, .ref a_m_shownLate, .int f_m_shownSlack, .int f_m_shownHold])), (a_m_through, aI E 4 g_m_through)]) [0, 2] rfl) (hD.sub (ws' := [(o_m, .inr (10, [.int f_m_code, .int f_m_cells, .ref a_m_kind, .ref a_m_inputs, .ref a_m_tableOf, .ref a_m_size, .ref a_m_extra, .ref a_m_taken, .ref a_m_portEarly, .ref a_m_portLate, .ref a_m_portSlope, .ref a_m_nodeOf, .ref a_m_setup, .ref a_m_hold, .ref a_m_seen, .ref a_m_numbers, .ref a_m_rowSize, .ref a_m_fall, .int f_m_late, .int f_m_early, .int f_m_period, .int f_m_nodes, .ref a_m_parent, .ref a_m_nodeEarly, .ref a_m_nodeLate, .int f_m_exceptions, .ref a_m_periods, .ref a_m_from, .ref a_m_through, .ref a_m_toward, .int f_m_fails, .ref a_m_order, .int f_m_ordered, .ref a_m_done, .ref a_m_reached, .ref a_m_open, .ref a_m_lateDelay, .ref a_m_earlyDelay, .ref a_m_lateSlope, .ref a_m_earlySlope, .ref a_m_greatest, .ref a_m_least, .ref a_m_howMany, .ref a_m_most, .ref a_m_fewest, .ref a_m_pathsTo, .ref a_m_slackOf, .ref a_m_holdOf, .int f_m_listed, .ref a_m_listSlack, .ref a_m_listStart, .ref a_m_listEdge, .ref a_m_listSize, .ref a_m_listCell, .ref a_m_listInput, .ref a_m_rank, .ref a_m_good, .ref a_m_goCell, .ref a_m_goInput, .ref a_m_goEdge, .ref a_m_goMask, .int f_m_target, .int f_m_shown, .ref a_m_shownCell, .ref a_m_shownInput, .ref a_m_shownEdge, .ref a_m_shownLate, .int f_m_shownSlack, .int f_m_shownHold])), (a_m_through, aI E 4 g_m_through)]) [0, 2] (by decide) rfl) (ci := 10) (q0 := 0) rfl rfl) rfl rfl hl.1 rfl (lv_room (Nat.le_of_ble_eq_true rfl)) dX10_passes_23 ⟨Nat.le_of_ble_eq_true rfl, Nat.le_of_ble_eq_true rfl⟩) hP hD hS hA [0, 2] [1, 3, 4, 5, 6, 7] (wr := [(a_m_kind, aI E 50 g_m_kind), (a_m_howMany, aI E 1600 g_m_howMany), (a_m_most, aI E 1600 g_m_most), (a_m_lateDelay, aI E 400 g_m_lateDelay), (a_m_fewest, aI E 1600 g_m_fewest), (a_m_earlyDelay, aI E 400 g_m_earlyDelay)]) rfl rfl (by decide) (by decide) (fun r_3 w H locs hw hP hD hS => ?_)
    obtain ⟨b_r_3, rfl⟩ := hw
    replace hP : va_P E.1 vwCl [(a_m_kind, aI E 50 g_m_kind), (a_m_howMany, aI E 1600 g_m_howMany), (a_m_most, aI E 1600 g_m_most), (a_m_lateDelay, aI E 400 g_m_lateDelay), (a_m_fewest, aI E 1600 g_m_fewest), (a_m_earlyDelay, aI E 400 g_m_earlyDelay), (o_m, .inr (10, [.int f_m_code, .int f_m_cells, .ref a_m_kind, .ref a_m_inputs, .ref a_m_tableOf, .ref a_m_size, .ref a_m_extra, .ref a_m_taken, .ref a_m_portEarly, .ref a_m_portLate, .ref a_m_portSlope, .ref a_m_nodeOf, .ref a_m_setup, .ref a_m_hold, .ref a_m_seen, .ref a_m_numbers, .ref a_m_rowSize, .ref a_m_fall, .int f_m_late, .int f_m_early, .int f_m_period, .int f_m_nodes, .ref a_m_parent, .ref a_m_nodeEarly, .ref a_m_nodeLate, .int f_m_exceptions, .ref a_m_periods, .ref a_m_from, .ref a_m_through, .ref a_m_toward, .int f_m_fails, .ref a_m_order, .int f_m_ordered, .ref a_m_done, .ref a_m_reached, .ref a_m_open, .ref a_m_lateDelay, .ref a_m_earlyDelay, .ref a_m_lateSlope, .ref a_m_earlySlope, .ref a_m_greatest, .ref a_m_least, .ref a_m_howMany, .ref a_m_most, .ref a_m_fewest, .ref a_m_pathsTo, .ref a_m_slackOf, .ref a_m_holdOf, .int f_m_listed, .ref a_m_listSlack, .ref a_m_listStart, .ref a_m_listEdge, .ref a_m_listSize, .ref a_m_listCell, .ref a_m_listInput, .ref a_m_rank, .ref a_m_good, .ref a_m_goCell, .ref a_m_goInput, .ref a_m_goEdge, .ref a_m_goMask, .int f_m_target, .int f_m_shown, .ref a_m_shownCell, .ref a_m_shownInput, .ref a_m_shownEdge, .ref a_m_shownLate, .int f_m_shownSlack, .int f_m_shownHold])), (a_m_through, aI E 4 g_m_through)] H := hP
    replace hD : va_D A [(a_m_kind, aI E 50 g_m_kind), (a_m_howMany, aI E 1600 g_m_howMany), (a_m_most, aI E 1600 g_m_most), (a_m_lateDelay, aI E 400 g_m_lateDelay), (a_m_fewest, aI E 1600 g_m_fewest), (a_m_earlyDelay, aI E 400 g_m_earlyDelay), (o_m, .inr (10, [.int f_m_code, .int f_m_cells, .ref a_m_kind, .ref a_m_inputs, .ref a_m_tableOf, .ref a_m_size, .ref a_m_extra, .ref a_m_taken, .ref a_m_portEarly, .ref a_m_portLate, .ref a_m_portSlope, .ref a_m_nodeOf, .ref a_m_setup, .ref a_m_hold, .ref a_m_seen, .ref a_m_numbers, .ref a_m_rowSize, .ref a_m_fall, .int f_m_late, .int f_m_early, .int f_m_period, .int f_m_nodes, .ref a_m_parent, .ref a_m_nodeEarly, .ref a_m_nodeLate, .int f_m_exceptions, .ref a_m_periods, .ref a_m_from, .ref a_m_through, .ref a_m_toward, .int f_m_fails, .ref a_m_order, .int f_m_ordered, .ref a_m_done, .ref a_m_reached, .ref a_m_open, .ref a_m_lateDelay, .ref a_m_earlyDelay, .ref a_m_lateSlope, .ref a_m_earlySlope, .ref a_m_greatest, .ref a_m_least, .ref a_m_howMany, .ref a_m_most, .ref a_m_fewest, .ref a_m_pathsTo, .ref a_m_slackOf, .ref a_m_holdOf, .int f_m_listed, .ref a_m_listSlack, .ref a_m_listStart, .ref a_m_listEdge, .ref a_m_listSize, .ref a_m_listCell, .ref a_m_listInput, .ref a_m_rank, .ref a_m_good, .ref a_m_goCell, .ref a_m_goInput, .ref a_m_goEdge, .ref a_m_goMask, .int f_m_target, .int f_m_shown, .ref a_m_shownCell, .ref a_m_shownInput, .ref a_m_shownEdge, .ref a_m_shownLate, .int f_m_shownSlack, .int f_m_shownHold])), (a_m_through, aI E 4 g_m_through)] := hD
    refine lv_istore (lv' := [(6, .int r_3), (5, .int p4), (0, .ref o_m), (1, .int p1), (2, .int p2), (3, .int p3), (4, .int p4)]) hx hb dX10_passes_26 hl (by decide) rfl (fun ls hl => ?_)
    refine lv_iconst (v := 0) hx hb dX10_passes_28 (by decide) ?_
    refine lv_istore (lv' := [(7, .int 0), (6, .int r_3), (5, .int p4), (0, .ref o_m), (1, .int p1), (2, .int p2), (3, .int p3), (4, .int p4)]) hx hb dX10_passes_29 hl (by decide) rfl (fun ls hl => ?_)
    obtain ⟨y_4, hy_4⟩ : ∃ y : Int32, y = 0 := ⟨_, rfl⟩
    have b_y_4 : 0 ≤ y_4.toInt ∧ y_4.toInt ≤ 16 := by rw [hy_4]; decide
    replace hl : lv_has ls 12 [(7, .int y_4), (6, .int r_3), (5, .int p4), (0, .ref o_m), (1, .int p1), (2, .int p2), (3, .int p3), (4, .int p4)] := by rw [hy_4]; exact hl
    obtain ⟨y_5, hy_5⟩ : ∃ g : Nat → Int32, g = g_m_howMany := ⟨_, rfl⟩
    obtain ⟨y_6, hy_6⟩ : ∃ g : Nat → Int32, g = g_m_most := ⟨_, rfl⟩
    obtain ⟨y_7, hy_7⟩ : ∃ g : Nat → Int32, g = g_m_fewest := ⟨_, rfl⟩
    replace hP : va_P E.1 vwCl [(a_m_kind, aI E 50 g_m_kind), (a_m_howMany, aI E 1600 y_5), (a_m_most, aI E 1600 y_6), (a_m_lateDelay, aI E 400 g_m_lateDelay), (a_m_fewest, aI E 1600 y_7), (a_m_earlyDelay, aI E 400 g_m_earlyDelay), (o_m, .inr (10, [.int f_m_code, .int f_m_cells, .ref a_m_kind, .ref a_m_inputs, .ref a_m_tableOf, .ref a_m_size, .ref a_m_extra, .ref a_m_taken, .ref a_m_portEarly, .ref a_m_portLate, .ref a_m_portSlope, .ref a_m_nodeOf, .ref a_m_setup, .ref a_m_hold, .ref a_m_seen, .ref a_m_numbers, .ref a_m_rowSize, .ref a_m_fall, .int f_m_late, .int f_m_early, .int f_m_period, .int f_m_nodes, .ref a_m_parent, .ref a_m_nodeEarly, .ref a_m_nodeLate, .int f_m_exceptions, .ref a_m_periods, .ref a_m_from, .ref a_m_through, .ref a_m_toward, .int f_m_fails, .ref a_m_order, .int f_m_ordered, .ref a_m_done, .ref a_m_reached, .ref a_m_open, .ref a_m_lateDelay, .ref a_m_earlyDelay, .ref a_m_lateSlope, .ref a_m_earlySlope, .ref a_m_greatest, .ref a_m_least, .ref a_m_howMany, .ref a_m_most, .ref a_m_fewest, .ref a_m_pathsTo, .ref a_m_slackOf, .ref a_m_holdOf, .int f_m_listed, .ref a_m_listSlack, .ref a_m_listStart, .ref a_m_listEdge, .ref a_m_listSize, .ref a_m_listCell, .ref a_m_listInput, .ref a_m_rank, .ref a_m_good, .ref a_m_goCell, .ref a_m_goInput, .ref a_m_goEdge, .ref a_m_goMask, .int f_m_target, .int f_m_shown, .ref a_m_shownCell, .ref a_m_shownInput, .ref a_m_shownEdge, .ref a_m_shownLate, .int f_m_shownSlack, .int f_m_shownHold])), (a_m_through, aI E 4 g_m_through)] H := by rw [hy_5, hy_6, hy_7]; exact hP
    replace hD : va_D A [(a_m_kind, aI E 50 g_m_kind), (a_m_howMany, aI E 1600 y_5), (a_m_most, aI E 1600 y_6), (a_m_lateDelay, aI E 400 g_m_lateDelay), (a_m_fewest, aI E 1600 y_7), (a_m_earlyDelay, aI E 400 g_m_earlyDelay), (o_m, .inr (10, [.int f_m_code, .int f_m_cells, .ref a_m_kind, .ref a_m_inputs, .ref a_m_tableOf, .ref a_m_size, .ref a_m_extra, .ref a_m_taken, .ref a_m_portEarly, .ref a_m_portLate, .ref a_m_portSlope, .ref a_m_nodeOf, .ref a_m_setup, .ref a_m_hold, .ref a_m_seen, .ref a_m_numbers, .ref a_m_rowSize, .ref a_m_fall, .int f_m_late, .int f_m_early, .int f_m_period, .int f_m_nodes, .ref a_m_parent, .ref a_m_nodeEarly, .ref a_m_nodeLate, .int f_m_exceptions, .ref a_m_periods, .ref a_m_from, .ref a_m_through, .ref a_m_toward, .int f_m_fails, .ref a_m_order, .int f_m_ordered, .ref a_m_done, .ref a_m_reached, .ref a_m_open, .ref a_m_lateDelay, .ref a_m_earlyDelay, .ref a_m_lateSlope, .ref a_m_earlySlope, .ref a_m_greatest, .ref a_m_least, .ref a_m_howMany, .ref a_m_most, .ref a_m_fewest, .ref a_m_pathsTo, .ref a_m_slackOf, .ref a_m_holdOf, .int f_m_listed, .ref a_m_listSlack, .ref a_m_listStart, .ref a_m_listEdge, .ref a_m_listSize, .ref a_m_listCell, .ref a_m_listInput, .ref a_m_rank, .ref a_m_good, .ref a_m_goCell, .ref a_m_goInput, .ref a_m_goEdge, .ref a_m_goMask, .int f_m_target, .int f_m_shown, .ref a_m_shownCell, .ref a_m_shownInput, .ref a_m_shownEdge, .ref a_m_shownLate, .int f_m_shownSlack, .int f_m_shownHold])), (a_m_through, aI E 4 g_m_through)] := by rw [hy_5, hy_6, hy_7]; exact hD
    clear hy_4 hy_5 hy_6 hy_7
    obtain ⟨d_8, hd_8⟩ : ∃ d : Nat, 16 - y_4.toInt < (d : Int) := ⟨(16 - y_4.toInt + 1).toNat, by omega⟩
    induction d_8 generalizing y_4 y_5 y_6 y_7 H locs ls with
    | zero => exfalso; omega
    | succ d_8 ih_d_8 =>
      refine lv_iload hx hb dX10_passes_31 (lv_at hl 0 rfl) ?_
      refine lv_bipush (v := 16) hx hb dX10_passes_33 (by decide) ?_
      refine lv_icmp_ge (tgt := 236) hx hb dX10_passes_35 (by decide) (fun c_9 => ?_) (fun c_9 => ?_)
      · have e_9 : 16 ≤ y_4.toInt := i3_le c_9
        exact ret_v hx hb hr hlk (hP.sub (ws' := [(o_m, .inr (10, [.int f_m_code, .int f_m_cells, .ref a_m_kind, .ref a_m_inputs, .ref a_m_tableOf, .ref a_m_size, .ref a_m_extra, .ref a_m_taken, .ref a_m_portEarly, .ref a_m_portLate, .ref a_m_portSlope, .ref a_m_nodeOf, .ref a_m_setup, .ref a_m_hold, .ref a_m_seen, .ref a_m_numbers, .ref a_m_rowSize, .ref a_m_fall, .int f_m_late, .int f_m_early, .int f_m_period, .int f_m_nodes, .ref a_m_parent, .ref a_m_nodeEarly, .ref a_m_nodeLate, .int f_m_exceptions, .ref a_m_periods, .ref a_m_from, .ref a_m_through, .ref a_m_toward, .int f_m_fails, .ref a_m_order, .int f_m_ordered, .ref a_m_done, .ref a_m_reached, .ref a_m_open, .ref a_m_lateDelay, .ref a_m_earlyDelay, .ref a_m_lateSlope, .ref a_m_earlySlope, .ref a_m_greatest, .ref a_m_least, .ref a_m_howMany, .ref a_m_most, .ref a_m_fewest, .ref a_m_pathsTo, .ref a_m_slackOf, .ref a_m_holdOf, .int f_m_listed, .ref a_m_listSlack, .ref a_m_listStart, .ref a_m_listEdge, .ref a_m_listSize, .ref a_m_listCell, .ref a_m_listInput, .ref a_m_rank, .ref a_m_good, .ref a_m_goCell, .ref a_m_goInput, .ref a_m_goEdge, .ref a_m_goMask, .int f_m_target, .int f_m_shown, .ref a_m_shownCell, .ref a_m_shownInput, .ref a_m_shownEdge, .ref a_m_shownLate, .int f_m_shownSlack, .int f_m_shownHold])), (a_m_kind, aI E 50 g_m_kind), (a_m_through, aI E 4 g_m_through), (a_m_howMany, aI E 1600 y_5), (a_m_most, aI E 1600 y_6), (a_m_lateDelay, aI E 400 g_m_lateDelay), (a_m_fewest, aI E 1600 y_7), (a_m_earlyDelay, aI E 400 g_m_earlyDelay)]) [6, 0, 7, 1, 2, 3, 4, 5] rfl) (hD.sub (ws' := [(o_m, .inr (10, [.int f_m_code, .int f_m_cells, .ref a_m_kind, .ref a_m_inputs, .ref a_m_tableOf, .ref a_m_size, .ref a_m_extra, .ref a_m_taken, .ref a_m_portEarly, .ref a_m_portLate, .ref a_m_portSlope, .ref a_m_nodeOf, .ref a_m_setup, .ref a_m_hold, .ref a_m_seen, .ref a_m_numbers, .ref a_m_rowSize, .ref a_m_fall, .int f_m_late, .int f_m_early, .int f_m_period, .int f_m_nodes, .ref a_m_parent, .ref a_m_nodeEarly, .ref a_m_nodeLate, .int f_m_exceptions, .ref a_m_periods, .ref a_m_from, .ref a_m_through, .ref a_m_toward, .int f_m_fails, .ref a_m_order, .int f_m_ordered, .ref a_m_done, .ref a_m_reached, .ref a_m_open, .ref a_m_lateDelay, .ref a_m_earlyDelay, .ref a_m_lateSlope, .ref a_m_earlySlope, .ref a_m_greatest, .ref a_m_least, .ref a_m_howMany, .ref a_m_most, .ref a_m_fewest, .ref a_m_pathsTo, .ref a_m_slackOf, .ref a_m_holdOf, .int f_m_listed, .ref a_m_listSlack, .ref a_m_listStart, .ref a_m_listEdge, .ref a_m_listSize, .ref a_m_listCell, .ref a_m_listInput, .ref a_m_rank, .ref a_m_good, .ref a_m_goCell, .ref a_m_goInput, .ref a_m_goEdge, .ref a_m_goMask, .int f_m_target, .int f_m_shown, .ref a_m_shownCell, .ref a_m_shownInput, .ref a_m_shownEdge, .ref a_m_shownLate, .int f_m_shownSlack, .int f_m_shownHold])), (a_m_kind, aI E 50 g_m_kind), (a_m_through, aI E 4 g_m_through), (a_m_howMany, aI E 1600 y_5), (a_m_most, aI E 1600 y_6), (a_m_lateDelay, aI E 400 g_m_lateDelay), (a_m_fewest, aI E 1600 y_7), (a_m_earlyDelay, aI E 400 g_m_earlyDelay)]) [6, 0, 7, 1, 2, 3, 4, 5] (by decide) rfl) hS dX10_passes_236 (Nat.le_of_ble_eq_true rfl) (Nat.le_of_ble_eq_true rfl) ⟨y_5, y_6, y_7, rfl⟩
      · have e_9 : y_4.toInt < 16 := i3_nle c_9
        refine lv_bipush (v := 16) hx hb dX10_passes_38 (by decide) ?_
        refine lv_iconst (v := 2) hx hb dX10_passes_40 (by decide) ?_
        refine lv_iload_n hx hb dX10_passes_41 rfl (lv_at hl 4 rfl) ?_
        have b_p1 := r_p1.out
        refine lv_imul hx hb dX10_passes_42 ?_
        refine lv_topi (fun x_10 ex_10 => ?_)
        have tx_10 : x_10.toInt = 2 * p1.toInt := i3_mulc rfl rfl ex_10 (by omega)
        refine lv_iload hx hb dX10_passes_43 (lv_at hl 7 rfl) ?_
        have b_p4 := r_p4.out
        refine lv_iadd hx hb dX10_passes_45 ?_
        refine lv_topi (fun x_11 ex_11 => ?_)
        have tx_11 : x_11.toInt = x_10.toInt + p4.toInt := i3_addc rfl rfl ex_11 (by omega)
        refine lv_imul hx hb dX10_passes_46 ?_
        refine lv_topi (fun x_12 ex_12 => ?_)
        have tx_12 : x_12.toInt = 16 * x_11.toInt := i3_mulc rfl rfl ex_12 (by omega)
        refine lv_iload hx hb dX10_passes_47 (lv_at hl 0 rfl) ?_
        refine lv_iadd hx hb dX10_passes_49 ?_
        refine lv_topi (fun x_13 ex_13 => ?_)
        have tx_13 : x_13.toInt = x_12.toInt + y_4.toInt := i3_addc rfl rfl ex_13 (by omega)
        refine lv_istore (lv' := [(8, .int x_13), (7, .int y_4), (6, .int r_3), (5, .int p4), (0, .ref o_m), (1, .int p1), (2, .int p2), (3, .int p3), (4, .int p4)]) hx hb dX10_passes_50 hl (by decide) rfl (fun ls hl => ?_)
        refine lv_aload_n hx hb dX10_passes_52 rfl (lv_at hl 4 rfl) ?_
        refine va_get (D := E.1) (ci := 10) (v := .ref a_m_howMany) (own := RX10) (C := RX10) (T := TX10) (N := 69) hx hb hts i_m_passes_X10 hown hK hP 6 rfl rfl 42 (by decide) (hto (.fieldLink RX10 141 "TimingHouseModel" "howMany" "[I") (by decide +kernel)) (fun _ h9 => h9) rfl dX10_passes_53 ?_
        refine lv_iload hx hb dX10_passes_56 (lv_at hl 0 rfl) ?_
        refine ld_i hx hb hK hP 1 rfl (by omega) dX10_passes_58 (fun x_14 ex_14 => ?_)
        refine lv_if_ne (tgt := 65) hx hb dX10_passes_59 (by decide) (fun c_15 => ?_) (fun c_15 => ?_)
        · have e_15 : x_14.toInt ≠ 0 := i3_ne c_15
          refine lv_bipush (v := 16) hx hb dX10_passes_65 (by decide) ?_
          refine lv_iconst (v := 2) hx hb dX10_passes_67 (by decide) ?_
          refine lv_iload_n hx hb dX10_passes_68 rfl (lv_at hl 6 rfl) ?_
          refine lv_imul hx hb dX10_passes_69 ?_
          refine lv_topi (fun x_16 ex_16 => ?_)
          have tx_16 : x_16.toInt = 2 * p2.toInt := i3_mulc rfl rfl ex_16 (by omega)
          refine lv_iload hx hb dX10_passes_70 (lv_at hl 3 rfl) ?_
          refine lv_iadd hx hb dX10_passes_72 ?_
          refine lv_topi (fun x_17 ex_17 => ?_)
          have tx_17 : x_17.toInt = x_16.toInt + p4.toInt := i3_addc rfl rfl ex_17 (by omega)
          refine lv_imul hx hb dX10_passes_73 ?_
          refine lv_topi (fun x_18 ex_18 => ?_)
          have tx_18 : x_18.toInt = 16 * x_17.toInt := i3_mulc rfl rfl ex_18 (by omega)
          refine lv_iload hx hb dX10_passes_74 (lv_at hl 1 rfl) ?_
          refine lv_iload hx hb dX10_passes_76 (lv_at hl 2 rfl) ?_
          refine lv_ior hx hb dX10_passes_78 ?_
          refine lv_topi (fun x_19 ex_19 => ?_)
          have b_x_19 := i3_or15 ex_19 (by omega) (by omega)
          refine lv_iadd hx hb dX10_passes_79 ?_
          refine lv_topi (fun x_20 ex_20 => ?_)
          have tx_20 : x_20.toInt = x_18.toInt + x_19.toInt := i3_addc rfl rfl ex_20 (by omega)
          refine lv_istore (lv' := [(9, .int x_20), (8, .int x_13), (7, .int y_4), (6, .int r_3), (5, .int p4), (0, .ref o_m), (1, .int p1), (2, .int p2), (3, .int p3), (4, .int p4)]) hx hb dX10_passes_80 hl (by decide) rfl (fun ls hl => ?_)
          refine lv_aload_n hx hb dX10_passes_82 rfl (lv_at hl 5 rfl) ?_
          refine va_get (D := E.1) (ci := 10) (v := .ref a_m_most) (own := RX10) (C := RX10) (T := TX10) (N := 69) hx hb hts i_m_passes_X10 hown hK hP 6 rfl rfl 43 (by decide) (hto (.fieldLink RX10 144 "TimingHouseModel" "most" "[I") (by decide +kernel)) (fun _ h9 => h9) rfl dX10_passes_83 ?_
          refine lv_iload hx hb dX10_passes_86 (lv_at hl 1 rfl) ?_
          refine ld_i hx hb hK hP 2 rfl (by omega) dX10_passes_88 (fun x_21 ex_21 => ?_)
          refine lv_aload_n hx hb dX10_passes_89 rfl (lv_at hl 5 rfl) ?_
          refine va_get (D := E.1) (ci := 10) (v := .ref a_m_lateDelay) (own := RX10) (C := RX10) (T := TX10) (N := 69) hx hb hts i_m_passes_X10 hown hK hP 6 rfl rfl 36 (by decide) (hto (.fieldLink RX10 123 "TimingHouseModel" "lateDelay" "[I") (by decide +kernel)) (fun _ h9 => h9) rfl dX10_passes_90 ?_
          refine lv_bipush (v := 8) hx hb dX10_passes_93 (by decide) ?_
          refine lv_iload_n hx hb dX10_passes_95 rfl (lv_at hl 7 rfl) ?_
          refine lv_imul hx hb dX10_passes_96 ?_
          refine lv_topi (fun x_22 ex_22 => ?_)
          have tx_22 : x_22.toInt = 8 * p2.toInt := i3_mulc rfl rfl ex_22 (by omega)
          refine lv_iconst (v := 2) hx hb dX10_passes_97 (by decide) ?_
          refine lv_iload_n hx hb dX10_passes_98 rfl (lv_at hl 8 rfl) ?_
          have b_p3 := r_p3.out
          refine lv_imul hx hb dX10_passes_99 ?_
          refine lv_topi (fun x_23 ex_23 => ?_)
          have tx_23 : x_23.toInt = 2 * p3.toInt := i3_mulc rfl rfl ex_23 (by omega)
          refine lv_iadd hx hb dX10_passes_100 ?_
          refine lv_topi (fun x_24 ex_24 => ?_)
          have tx_24 : x_24.toInt = x_22.toInt + x_23.toInt := i3_addc rfl rfl ex_24 (by omega)
          refine lv_iload hx hb dX10_passes_101 (lv_at hl 4 rfl) ?_
          refine lv_iadd hx hb dX10_passes_103 ?_
          refine lv_topi (fun x_25 ex_25 => ?_)
          have tx_25 : x_25.toInt = x_24.toInt + p4.toInt := i3_addc rfl rfl ex_25 (by omega)
          refine ld_i hx hb hK hP 3 rfl (by omega) dX10_passes_104 (fun x_26 ex_26 => ?_)
          refine lv_iadd hx hb dX10_passes_105 ?_
          refine lv_topi (fun x_27 ex_27 => ?_)
          have bd_28 := i3_bd x_21
          have bd_29 := i3_bd x_26
          refine lv_istore (lv' := [(10, .int x_27), (9, .int x_20), (8, .int x_13), (7, .int y_4), (6, .int r_3), (5, .int p4), (0, .ref o_m), (1, .int p1), (2, .int p2), (3, .int p3), (4, .int p4)]) hx hb dX10_passes_106 hl (by decide) rfl (fun ls hl => ?_)
          refine lv_aload_n hx hb dX10_passes_108 rfl (lv_at hl 6 rfl) ?_
          refine va_get (D := E.1) (ci := 10) (v := .ref a_m_fewest) (own := RX10) (C := RX10) (T := TX10) (N := 69) hx hb hts i_m_passes_X10 hown hK hP 6 rfl rfl 44 (by decide) (hto (.fieldLink RX10 147 "TimingHouseModel" "fewest" "[I") (by decide +kernel)) (fun _ h9 => h9) rfl dX10_passes_109 ?_
          refine lv_iload hx hb dX10_passes_112 (lv_at hl 2 rfl) ?_
          refine ld_i hx hb hK hP 4 rfl (by omega) dX10_passes_114 (fun x_30 ex_30 => ?_)
          refine lv_aload_n hx hb dX10_passes_115 rfl (lv_at hl 6 rfl) ?_
          refine va_get (D := E.1) (ci := 10) (v := .ref a_m_earlyDelay) (own := RX10) (C := RX10) (T := TX10) (N := 69) hx hb hts i_m_passes_X10 hown hK hP 6 rfl rfl 37 (by decide) (hto (.fieldLink RX10 126 "TimingHouseModel" "earlyDelay" "[I") (by decide +kernel)) (fun _ h9 => h9) rfl dX10_passes_116 ?_
          refine lv_bipush (v := 8) hx hb dX10_passes_119 (by decide) ?_
          refine lv_iload_n hx hb dX10_passes_121 rfl (lv_at hl 8 rfl) ?_
          refine lv_imul hx hb dX10_passes_122 ?_
          refine lv_topi (fun x_31 ex_31 => ?_)
          have hq_x_31 : x_22 = x_31 := ex_22.trans ex_31.symm
          subst hq_x_31
          refine lv_iconst (v := 2) hx hb dX10_passes_123 (by decide) ?_
          refine lv_iload_n hx hb dX10_passes_124 rfl (lv_at hl 9 rfl) ?_
          refine lv_imul hx hb dX10_passes_125 ?_
          refine lv_topi (fun x_32 ex_32 => ?_)
          have hq_x_32 : x_23 = x_32 := ex_23.trans ex_32.symm
          subst hq_x_32
          refine lv_iadd hx hb dX10_passes_126 ?_
          refine lv_topi (fun x_33 ex_33 => ?_)
          have hq_x_33 : x_24 = x_33 := ex_24.trans ex_33.symm
          subst hq_x_33
          refine lv_iload hx hb dX10_passes_127 (lv_at hl 5 rfl) ?_
          refine lv_iadd hx hb dX10_passes_129 ?_
          refine lv_topi (fun x_34 ex_34 => ?_)
          have hq_x_34 : x_25 = x_34 := ex_25.trans ex_34.symm
          subst hq_x_34
          refine ld_i hx hb hK hP 5 rfl (by omega) dX10_passes_130 (fun x_35 ex_35 => ?_)
          refine lv_iadd hx hb dX10_passes_131 ?_
          refine lv_topi (fun x_36 ex_36 => ?_)
          have bd_37 := i3_bd x_30
          have bd_38 := i3_bd x_35
          refine lv_istore (lv' := [(11, .int x_36), (10, .int x_27), (9, .int x_20), (8, .int x_13), (7, .int y_4), (6, .int r_3), (5, .int p4), (0, .ref o_m), (1, .int p1), (2, .int p2), (3, .int p3), (4, .int p4)]) hx hb dX10_passes_132 hl (by decide) rfl (fun ls hl => ?_)
          refine lv_aload_n hx hb dX10_passes_134 rfl (lv_at hl 7 rfl) ?_
          refine va_get (D := E.1) (ci := 10) (v := .ref a_m_most) (own := RX10) (C := RX10) (T := TX10) (N := 69) hx hb hts i_m_passes_X10 hown hK hP 6 rfl rfl 43 (by decide) (hto (.fieldLink RX10 144 "TimingHouseModel" "most" "[I") (by decide +kernel)) (fun _ h9 => h9) rfl dX10_passes_135 ?_
          refine lv_iload hx hb dX10_passes_138 (lv_at hl 2 rfl) ?_
          refine lv_aload_n hx hb dX10_passes_140 rfl (lv_at hl 7 rfl) ?_
          refine va_get (D := E.1) (ci := 10) (v := .ref a_m_howMany) (own := RX10) (C := RX10) (T := TX10) (N := 69) hx hb hts i_m_passes_X10 hown hK hP 6 rfl rfl 42 (by decide) (hto (.fieldLink RX10 141 "TimingHouseModel" "howMany" "[I") (by decide +kernel)) (fun _ h9 => h9) rfl dX10_passes_141 ?_
          refine lv_iload hx hb dX10_passes_144 (lv_at hl 2 rfl) ?_
          refine ld_i hx hb hK hP 1 rfl (by omega) dX10_passes_146 (fun x_39 ex_39 => ?_)
          refine lv_if_ne (tgt := 155) hx hb dX10_passes_147 (by decide) (fun c_40 => ?_) (fun c_40 => ?_)
          · have e_40 : x_39.toInt ≠ 0 := i3_ne c_40
            refine lv_aload_n hx hb dX10_passes_155 rfl (lv_at hl 7 rfl) ?_
            refine va_get (D := E.1) (ci := 10) (v := .ref a_m_most) (own := RX10) (C := RX10) (T := TX10) (N := 69) hx hb hts i_m_passes_X10 hown hK hP 6 rfl rfl 43 (by decide) (hto (.fieldLink RX10 144 "TimingHouseModel" "most" "[I") (by decide +kernel)) (fun _ h9 => h9) rfl dX10_passes_156 ?_
            refine lv_iload hx hb dX10_passes_159 (lv_at hl 2 rfl) ?_
            refine ld_i hx hb hK hP 2 rfl (by omega) dX10_passes_161 (fun x_41 ex_41 => ?_)
            refine lv_iload hx hb dX10_passes_162 (lv_at hl 1 rfl) ?_
            refine va_mmax hx hb (hml.trans hl.1.symm) hown (hto (.methodLink RX10 260 Lib.Math.max.name) (by decide +kernel)) (hto (.static Lib.Math.max.name) (by decide +kernel)) (hto (.initialized "java/lang/Math") (by decide +kernel)) (hto (.code Lib.Math.max.name Lib.Math.max.code 2 (some .int)) (by decide +kernel)) (Nat.le_of_ble_eq_true rfl) (Nat.le_of_ble_eq_true rfl) (Nat.zero_le _) (Nat.zero_le _) dX10_passes_164 ?_
            refine lv_topi (fun x_42 ex_42 => ?_)
            have m_x_42 : (x_42.toInt ≥ x_41.toInt ∧ x_42.toInt ≥ x_27.toInt) ∧ (x_42.toInt = x_41.toInt ∨ x_42.toInt = x_27.toInt) := i3_max ex_42
            refine st_i hx hb hK hP hD hS 2 rfl (by omega) dX10_passes_167 (fun g_43 H locs eg_43 hP hD hS => ?_)
            clear eg_43
            replace hP : va_P E.1 vwCl [(a_m_kind, aI E 50 g_m_kind), (a_m_howMany, aI E 1600 y_5), (a_m_most, aI E 1600 g_43), (a_m_lateDelay, aI E 400 g_m_lateDelay), (a_m_fewest, aI E 1600 y_7), (a_m_earlyDelay, aI E 400 g_m_earlyDelay), (o_m, .inr (10, [.int f_m_code, .int f_m_cells, .ref a_m_kind, .ref a_m_inputs, .ref a_m_tableOf, .ref a_m_size, .ref a_m_extra, .ref a_m_taken, .ref a_m_portEarly, .ref a_m_portLate, .ref a_m_portSlope, .ref a_m_nodeOf, .ref a_m_setup, .ref a_m_hold, .ref a_m_seen, .ref a_m_numbers, .ref a_m_rowSize, .ref a_m_fall, .int f_m_late, .int f_m_early, .int f_m_period, .int f_m_nodes, .ref a_m_parent, .ref a_m_nodeEarly, .ref a_m_nodeLate, .int f_m_exceptions, .ref a_m_periods, .ref a_m_from, .ref a_m_through, .ref a_m_toward, .int f_m_fails, .ref a_m_order, .int f_m_ordered, .ref a_m_done, .ref a_m_reached, .ref a_m_open, .ref a_m_lateDelay, .ref a_m_earlyDelay, .ref a_m_lateSlope, .ref a_m_earlySlope, .ref a_m_greatest, .ref a_m_least, .ref a_m_howMany, .ref a_m_most, .ref a_m_fewest, .ref a_m_pathsTo, .ref a_m_slackOf, .ref a_m_holdOf, .int f_m_listed, .ref a_m_listSlack, .ref a_m_listStart, .ref a_m_listEdge, .ref a_m_listSize, .ref a_m_listCell, .ref a_m_listInput, .ref a_m_rank, .ref a_m_good, .ref a_m_goCell, .ref a_m_goInput, .ref a_m_goEdge, .ref a_m_goMask, .int f_m_target, .int f_m_shown, .ref a_m_shownCell, .ref a_m_shownInput, .ref a_m_shownEdge, .ref a_m_shownLate, .int f_m_shownSlack, .int f_m_shownHold])), (a_m_through, aI E 4 g_m_through)] H := hP
            replace hD : va_D A [(a_m_kind, aI E 50 g_m_kind), (a_m_howMany, aI E 1600 y_5), (a_m_most, aI E 1600 g_43), (a_m_lateDelay, aI E 400 g_m_lateDelay), (a_m_fewest, aI E 1600 y_7), (a_m_earlyDelay, aI E 400 g_m_earlyDelay), (o_m, .inr (10, [.int f_m_code, .int f_m_cells, .ref a_m_kind, .ref a_m_inputs, .ref a_m_tableOf, .ref a_m_size, .ref a_m_extra, .ref a_m_taken, .ref a_m_portEarly, .ref a_m_portLate, .ref a_m_portSlope, .ref a_m_nodeOf, .ref a_m_setup, .ref a_m_hold, .ref a_m_seen, .ref a_m_numbers, .ref a_m_rowSize, .ref a_m_fall, .int f_m_late, .int f_m_early, .int f_m_period, .int f_m_nodes, .ref a_m_parent, .ref a_m_nodeEarly, .ref a_m_nodeLate, .int f_m_exceptions, .ref a_m_periods, .ref a_m_from, .ref a_m_through, .ref a_m_toward, .int f_m_fails, .ref a_m_order, .int f_m_ordered, .ref a_m_done, .ref a_m_reached, .ref a_m_open, .ref a_m_lateDelay, .ref a_m_earlyDelay, .ref a_m_lateSlope, .ref a_m_earlySlope, .ref a_m_greatest, .ref a_m_least, .ref a_m_howMany, .ref a_m_most, .ref a_m_fewest, .ref a_m_pathsTo, .ref a_m_slackOf, .ref a_m_holdOf, .int f_m_listed, .ref a_m_listSlack, .ref a_m_listStart, .ref a_m_listEdge, .ref a_m_listSize, .ref a_m_listCell, .ref a_m_listInput, .ref a_m_rank, .ref a_m_good, .ref a_m_goCell, .ref a_m_goInput, .ref a_m_goEdge, .ref a_m_goMask, .int f_m_target, .int f_m_shown, .ref a_m_shownCell, .ref a_m_shownInput, .ref a_m_shownEdge, .ref a_m_shownLate, .int f_m_shownSlack, .int f_m_shownHold])), (a_m_through, aI E 4 g_m_through)] := hD
            refine lv_aload_n hx hb dX10_passes_168 rfl (lv_at hl 7 rfl) ?_
            refine va_get (D := E.1) (ci := 10) (v := .ref a_m_fewest) (own := RX10) (C := RX10) (T := TX10) (N := 69) hx hb hts i_m_passes_X10 hown hK hP 6 rfl rfl 44 (by decide) (hto (.fieldLink RX10 147 "TimingHouseModel" "fewest" "[I") (by decide +kernel)) (fun _ h9 => h9) rfl dX10_passes_169 ?_
            refine lv_iload hx hb dX10_passes_172 (lv_at hl 2 rfl) ?_
            refine lv_aload_n hx hb dX10_passes_174 rfl (lv_at hl 7 rfl) ?_
            refine va_get (D := E.1) (ci := 10) (v := .ref a_m_howMany) (own := RX10) (C := RX10) (T := TX10) (N := 69) hx hb hts i_m_passes_X10 hown hK hP 6 rfl rfl 42 (by decide) (hto (.fieldLink RX10 141 "TimingHouseModel" "howMany" "[I") (by decide +kernel)) (fun _ h9 => h9) rfl dX10_passes_175 ?_
            refine lv_iload hx hb dX10_passes_178 (lv_at hl 2 rfl) ?_
            refine ld_i hx hb hK hP 1 rfl (by omega) dX10_passes_180 (fun x_44 ex_44 => ?_)
            have hq_x_44 : x_39 = x_44 := ex_39.trans ex_44.symm
            subst hq_x_44
            refine lv_if_ne (tgt := 189) hx hb dX10_passes_181 (by decide) (fun c_45 => ?_) (fun c_45 => ?_)
            · have e_45 : x_39.toInt ≠ 0 := i3_ne c_45
              refine lv_aload_n hx hb dX10_passes_189 rfl (lv_at hl 7 rfl) ?_
              refine va_get (D := E.1) (ci := 10) (v := .ref a_m_fewest) (own := RX10) (C := RX10) (T := TX10) (N := 69) hx hb hts i_m_passes_X10 hown hK hP 6 rfl rfl 44 (by decide) (hto (.fieldLink RX10 147 "TimingHouseModel" "fewest" "[I") (by decide +kernel)) (fun _ h9 => h9) rfl dX10_passes_190 ?_
              refine lv_iload hx hb dX10_passes_193 (lv_at hl 2 rfl) ?_
              refine ld_i hx hb hK hP 4 rfl (by omega) dX10_passes_195 (fun x_46 ex_46 => ?_)
              refine lv_iload hx hb dX10_passes_196 (lv_at hl 0 rfl) ?_
              refine va_mmin hx hb (hml.trans hl.1.symm) hown (hto (.methodLink RX10 266 Lib.Math.min.name) (by decide +kernel)) (hto (.static Lib.Math.min.name) (by decide +kernel)) (hto (.initialized "java/lang/Math") (by decide +kernel)) (hto (.code Lib.Math.min.name Lib.Math.min.code 2 (some .int)) (by decide +kernel)) (Nat.le_of_ble_eq_true rfl) (Nat.le_of_ble_eq_true rfl) (Nat.zero_le _) (Nat.zero_le _) dX10_passes_198 ?_
              refine lv_topi (fun x_47 ex_47 => ?_)
              have m_x_47 : (x_47.toInt ≤ x_46.toInt ∧ x_47.toInt ≤ x_36.toInt) ∧ (x_47.toInt = x_46.toInt ∨ x_47.toInt = x_36.toInt) := i3_min ex_47
              refine st_i hx hb hK hP hD hS 4 rfl (by omega) dX10_passes_201 (fun g_48 H locs eg_48 hP hD hS => ?_)
              clear eg_48
              replace hP : va_P E.1 vwCl [(a_m_kind, aI E 50 g_m_kind), (a_m_howMany, aI E 1600 y_5), (a_m_most, aI E 1600 g_43), (a_m_lateDelay, aI E 400 g_m_lateDelay), (a_m_fewest, aI E 1600 g_48), (a_m_earlyDelay, aI E 400 g_m_earlyDelay), (o_m, .inr (10, [.int f_m_code, .int f_m_cells, .ref a_m_kind, .ref a_m_inputs, .ref a_m_tableOf, .ref a_m_size, .ref a_m_extra, .ref a_m_taken, .ref a_m_portEarly, .ref a_m_portLate, .ref a_m_portSlope, .ref a_m_nodeOf, .ref a_m_setup, .ref a_m_hold, .ref a_m_seen, .ref a_m_numbers, .ref a_m_rowSize, .ref a_m_fall, .int f_m_late, .int f_m_early, .int f_m_period, .int f_m_nodes, .ref a_m_parent, .ref a_m_nodeEarly, .ref a_m_nodeLate, .int f_m_exceptions, .ref a_m_periods, .ref a_m_from, .ref a_m_through, .ref a_m_toward, .int f_m_fails, .ref a_m_order, .int f_m_ordered, .ref a_m_done, .ref a_m_reached, .ref a_m_open, .ref a_m_lateDelay, .ref a_m_earlyDelay, .ref a_m_lateSlope, .ref a_m_earlySlope, .ref a_m_greatest, .ref a_m_least, .ref a_m_howMany, .ref a_m_most, .ref a_m_fewest, .ref a_m_pathsTo, .ref a_m_slackOf, .ref a_m_holdOf, .int f_m_listed, .ref a_m_listSlack, .ref a_m_listStart, .ref a_m_listEdge, .ref a_m_listSize, .ref a_m_listCell, .ref a_m_listInput, .ref a_m_rank, .ref a_m_good, .ref a_m_goCell, .ref a_m_goInput, .ref a_m_goEdge, .ref a_m_goMask, .int f_m_target, .int f_m_shown, .ref a_m_shownCell, .ref a_m_shownInput, .ref a_m_shownEdge, .ref a_m_shownLate, .int f_m_shownSlack, .int f_m_shownHold])), (a_m_through, aI E 4 g_m_through)] H := hP
              replace hD : va_D A [(a_m_kind, aI E 50 g_m_kind), (a_m_howMany, aI E 1600 y_5), (a_m_most, aI E 1600 g_43), (a_m_lateDelay, aI E 400 g_m_lateDelay), (a_m_fewest, aI E 1600 g_48), (a_m_earlyDelay, aI E 400 g_m_earlyDelay), (o_m, .inr (10, [.int f_m_code, .int f_m_cells, .ref a_m_kind, .ref a_m_inputs, .ref a_m_tableOf, .ref a_m_size, .ref a_m_extra, .ref a_m_taken, .ref a_m_portEarly, .ref a_m_portLate, .ref a_m_portSlope, .ref a_m_nodeOf, .ref a_m_setup, .ref a_m_hold, .ref a_m_seen, .ref a_m_numbers, .ref a_m_rowSize, .ref a_m_fall, .int f_m_late, .int f_m_early, .int f_m_period, .int f_m_nodes, .ref a_m_parent, .ref a_m_nodeEarly, .ref a_m_nodeLate, .int f_m_exceptions, .ref a_m_periods, .ref a_m_from, .ref a_m_through, .ref a_m_toward, .int f_m_fails, .ref a_m_order, .int f_m_ordered, .ref a_m_done, .ref a_m_reached, .ref a_m_open, .ref a_m_lateDelay, .ref a_m_earlyDelay, .ref a_m_lateSlope, .ref a_m_earlySlope, .ref a_m_greatest, .ref a_m_least, .ref a_m_howMany, .ref a_m_most, .ref a_m_fewest, .ref a_m_pathsTo, .ref a_m_slackOf, .ref a_m_holdOf, .int f_m_listed, .ref a_m_listSlack, .ref a_m_listStart, .ref a_m_listEdge, .ref a_m_listSize, .ref a_m_listCell, .ref a_m_listInput, .ref a_m_rank, .ref a_m_good, .ref a_m_goCell, .ref a_m_goInput, .ref a_m_goEdge, .ref a_m_goMask, .int f_m_target, .int f_m_shown, .ref a_m_shownCell, .ref a_m_shownInput, .ref a_m_shownEdge, .ref a_m_shownLate, .int f_m_shownSlack, .int f_m_shownHold])), (a_m_through, aI E 4 g_m_through)] := hD
              refine lv_aload_n hx hb dX10_passes_202 rfl (lv_at hl 7 rfl) ?_
              refine va_get (D := E.1) (ci := 10) (v := .ref a_m_howMany) (own := RX10) (C := RX10) (T := TX10) (N := 69) hx hb hts i_m_passes_X10 hown hK hP 6 rfl rfl 42 (by decide) (hto (.fieldLink RX10 141 "TimingHouseModel" "howMany" "[I") (by decide +kernel)) (fun _ h9 => h9) rfl dX10_passes_203 ?_
              refine lv_iload hx hb dX10_passes_206 (lv_at hl 2 rfl) ?_
              refine lv_sipush (v := 1000) hx hb dX10_passes_208 (by decide) ?_
              refine lv_aload_n hx hb dX10_passes_211 rfl (lv_at hl 7 rfl) ?_
              refine va_get (D := E.1) (ci := 10) (v := .ref a_m_howMany) (own := RX10) (C := RX10) (T := TX10) (N := 69) hx hb hts i_m_passes_X10 hown hK hP 6 rfl rfl 42 (by decide) (hto (.fieldLink RX10 141 "TimingHouseModel" "howMany" "[I") (by decide +kernel)) (fun _ h9 => h9) rfl dX10_passes_212 ?_
              refine lv_iload hx hb dX10_passes_215 (lv_at hl 2 rfl) ?_
              refine ld_i hx hb hK hP 1 rfl (by omega) dX10_passes_217 (fun x_49 ex_49 => ?_)
              have hq_x_49 : x_39 = x_49 := ex_39.trans ex_49.symm
              subst hq_x_49
              refine lv_aload_n hx hb dX10_passes_218 rfl (lv_at hl 7 rfl) ?_
              refine va_get (D := E.1) (ci := 10) (v := .ref a_m_howMany) (own := RX10) (C := RX10) (T := TX10) (N := 69) hx hb hts i_m_passes_X10 hown hK hP 6 rfl rfl 42 (by decide) (hto (.fieldLink RX10 141 "TimingHouseModel" "howMany" "[I") (by decide +kernel)) (fun _ h9 => h9) rfl dX10_passes_219 ?_
              refine lv_iload hx hb dX10_passes_222 (lv_at hl 3 rfl) ?_
              refine ld_i hx hb hK hP 1 rfl (by omega) dX10_passes_224 (fun x_50 ex_50 => ?_)
              have hq_x_50 : x_14 = x_50 := ex_14.trans ex_50.symm
              subst hq_x_50
              refine lv_iadd hx hb dX10_passes_225 ?_
              refine lv_topi (fun x_51 ex_51 => ?_)
              have bd_52 := i3_bd x_39
              have bd_53 := i3_bd x_14
              refine va_mmin hx hb (hml.trans hl.1.symm) hown (hto (.methodLink RX10 266 Lib.Math.min.name) (by decide +kernel)) (hto (.static Lib.Math.min.name) (by decide +kernel)) (hto (.initialized "java/lang/Math") (by decide +kernel)) (hto (.code Lib.Math.min.name Lib.Math.min.code 2 (some .int)) (by decide +kernel)) (Nat.le_of_ble_eq_true rfl) (Nat.le_of_ble_eq_true rfl) (Nat.zero_le _) (Nat.zero_le _) dX10_passes_226 ?_
              refine lv_topi (fun x_54 ex_54 => ?_)
              have m_x_54 : (x_54.toInt ≤ 1000 ∧ x_54.toInt ≤ x_51.toInt) ∧ (x_54.toInt = 1000 ∨ x_54.toInt = x_51.toInt) := i3_min ex_54
              have bd_55 := i3_bd x_51
              refine st_i hx hb hK hP hD hS 1 rfl (by omega) dX10_passes_229 (fun g_56 H locs eg_56 hP hD hS => ?_)
              clear eg_56
              replace hP : va_P E.1 vwCl [(a_m_kind, aI E 50 g_m_kind), (a_m_howMany, aI E 1600 g_56), (a_m_most, aI E 1600 g_43), (a_m_lateDelay, aI E 400 g_m_lateDelay), (a_m_fewest, aI E 1600 g_48), (a_m_earlyDelay, aI E 400 g_m_earlyDelay), (o_m, .inr (10, [.int f_m_code, .int f_m_cells, .ref a_m_kind, .ref a_m_inputs, .ref a_m_tableOf, .ref a_m_size, .ref a_m_extra, .ref a_m_taken, .ref a_m_portEarly, .ref a_m_portLate, .ref a_m_portSlope, .ref a_m_nodeOf, .ref a_m_setup, .ref a_m_hold, .ref a_m_seen, .ref a_m_numbers, .ref a_m_rowSize, .ref a_m_fall, .int f_m_late, .int f_m_early, .int f_m_period, .int f_m_nodes, .ref a_m_parent, .ref a_m_nodeEarly, .ref a_m_nodeLate, .int f_m_exceptions, .ref a_m_periods, .ref a_m_from, .ref a_m_through, .ref a_m_toward, .int f_m_fails, .ref a_m_order, .int f_m_ordered, .ref a_m_done, .ref a_m_reached, .ref a_m_open, .ref a_m_lateDelay, .ref a_m_earlyDelay, .ref a_m_lateSlope, .ref a_m_earlySlope, .ref a_m_greatest, .ref a_m_least, .ref a_m_howMany, .ref a_m_most, .ref a_m_fewest, .ref a_m_pathsTo, .ref a_m_slackOf, .ref a_m_holdOf, .int f_m_listed, .ref a_m_listSlack, .ref a_m_listStart, .ref a_m_listEdge, .ref a_m_listSize, .ref a_m_listCell, .ref a_m_listInput, .ref a_m_rank, .ref a_m_good, .ref a_m_goCell, .ref a_m_goInput, .ref a_m_goEdge, .ref a_m_goMask, .int f_m_target, .int f_m_shown, .ref a_m_shownCell, .ref a_m_shownInput, .ref a_m_shownEdge, .ref a_m_shownLate, .int f_m_shownSlack, .int f_m_shownHold])), (a_m_through, aI E 4 g_m_through)] H := hP
              replace hD : va_D A [(a_m_kind, aI E 50 g_m_kind), (a_m_howMany, aI E 1600 g_56), (a_m_most, aI E 1600 g_43), (a_m_lateDelay, aI E 400 g_m_lateDelay), (a_m_fewest, aI E 1600 g_48), (a_m_earlyDelay, aI E 400 g_m_earlyDelay), (o_m, .inr (10, [.int f_m_code, .int f_m_cells, .ref a_m_kind, .ref a_m_inputs, .ref a_m_tableOf, .ref a_m_size, .ref a_m_extra, .ref a_m_taken, .ref a_m_portEarly, .ref a_m_portLate, .ref a_m_portSlope, .ref a_m_nodeOf, .ref a_m_setup, .ref a_m_hold, .ref a_m_seen, .ref a_m_numbers, .ref a_m_rowSize, .ref a_m_fall, .int f_m_late, .int f_m_early, .int f_m_period, .int f_m_nodes, .ref a_m_parent, .ref a_m_nodeEarly, .ref a_m_nodeLate, .int f_m_exceptions, .ref a_m_periods, .ref a_m_from, .ref a_m_through, .ref a_m_toward, .int f_m_fails, .ref a_m_order, .int f_m_ordered, .ref a_m_done, .ref a_m_reached, .ref a_m_open, .ref a_m_lateDelay, .ref a_m_earlyDelay, .ref a_m_lateSlope, .ref a_m_earlySlope, .ref a_m_greatest, .ref a_m_least, .ref a_m_howMany, .ref a_m_most, .ref a_m_fewest, .ref a_m_pathsTo, .ref a_m_slackOf, .ref a_m_holdOf, .int f_m_listed, .ref a_m_listSlack, .ref a_m_listStart, .ref a_m_listEdge, .ref a_m_listSize, .ref a_m_listCell, .ref a_m_listInput, .ref a_m_rank, .ref a_m_good, .ref a_m_goCell, .ref a_m_goInput, .ref a_m_goEdge, .ref a_m_goMask, .int f_m_target, .int f_m_shown, .ref a_m_shownCell, .ref a_m_shownInput, .ref a_m_shownEdge, .ref a_m_shownLate, .int f_m_shownSlack, .int f_m_shownHold])), (a_m_through, aI E 4 g_m_through)] := hD
              obtain ⟨x_57, ex_57⟩ : ∃ y : Int32, y = y_4 + 1 := ⟨_, rfl⟩
              have tx_57 : x_57.toInt = y_4.toInt + 1 := i3_addc rfl rfl ex_57 (by omega)
              refine lv_iinc (v := x_57) (lv' := [(7, .int x_57), (11, .int x_36), (10, .int x_27), (9, .int x_20), (8, .int x_13), (6, .int r_3), (5, .int p4), (0, .ref o_m), (1, .int p1), (2, .int p2), (3, .int p3), (4, .int p4)]) hx hb dX10_passes_230 hl (k := 4) rfl (by rw [ex_57]; rfl) (by decide) rfl (fun ls hl => ?_)
              refine lv_goto (tgt := 31) hx hb dX10_passes_233 (by decide) ?_
              replace hl : lv_has ls 12 [(7, .int x_57), (6, .int r_3), (5, .int p4), (0, .ref o_m), (1, .int p1), (2, .int p2), (3, .int p3), (4, .int p4)] := lv_sub hl [0, 5, 6, 7, 8, 9, 10, 11] rfl
              apply ih_d_8 (y_4 := x_57) (y_5 := g_56) (y_6 := g_43) (y_7 := g_48) (H := H) (locs := locs) (ls := ls) <;> first | assumption | omega | decide
            · have e_45 : x_39.toInt = 0 := i3_eq c_45
              exfalso; omega
          · have e_40 : x_39.toInt = 0 := i3_eq c_40
            refine lv_iload hx hb dX10_passes_150 (lv_at hl 1 rfl) ?_
            refine lv_goto (tgt := 167) hx hb dX10_passes_152 (by decide) ?_
            refine st_i hx hb hK hP hD hS 2 rfl (by omega) dX10_passes_167 (fun g_58 H locs eg_58 hP hD hS => ?_)
            clear eg_58
            replace hP : va_P E.1 vwCl [(a_m_kind, aI E 50 g_m_kind), (a_m_howMany, aI E 1600 y_5), (a_m_most, aI E 1600 g_58), (a_m_lateDelay, aI E 400 g_m_lateDelay), (a_m_fewest, aI E 1600 y_7), (a_m_earlyDelay, aI E 400 g_m_earlyDelay), (o_m, .inr (10, [.int f_m_code, .int f_m_cells, .ref a_m_kind, .ref a_m_inputs, .ref a_m_tableOf, .ref a_m_size, .ref a_m_extra, .ref a_m_taken, .ref a_m_portEarly, .ref a_m_portLate, .ref a_m_portSlope, .ref a_m_nodeOf, .ref a_m_setup, .ref a_m_hold, .ref a_m_seen, .ref a_m_numbers, .ref a_m_rowSize, .ref a_m_fall, .int f_m_late, .int f_m_early, .int f_m_period, .int f_m_nodes, .ref a_m_parent, .ref a_m_nodeEarly, .ref a_m_nodeLate, .int f_m_exceptions, .ref a_m_periods, .ref a_m_from, .ref a_m_through, .ref a_m_toward, .int f_m_fails, .ref a_m_order, .int f_m_ordered, .ref a_m_done, .ref a_m_reached, .ref a_m_open, .ref a_m_lateDelay, .ref a_m_earlyDelay, .ref a_m_lateSlope, .ref a_m_earlySlope, .ref a_m_greatest, .ref a_m_least, .ref a_m_howMany, .ref a_m_most, .ref a_m_fewest, .ref a_m_pathsTo, .ref a_m_slackOf, .ref a_m_holdOf, .int f_m_listed, .ref a_m_listSlack, .ref a_m_listStart, .ref a_m_listEdge, .ref a_m_listSize, .ref a_m_listCell, .ref a_m_listInput, .ref a_m_rank, .ref a_m_good, .ref a_m_goCell, .ref a_m_goInput, .ref a_m_goEdge, .ref a_m_goMask, .int f_m_target, .int f_m_shown, .ref a_m_shownCell, .ref a_m_shownInput, .ref a_m_shownEdge, .ref a_m_shownLate, .int f_m_shownSlack, .int f_m_shownHold])), (a_m_through, aI E 4 g_m_through)] H := hP
            replace hD : va_D A [(a_m_kind, aI E 50 g_m_kind), (a_m_howMany, aI E 1600 y_5), (a_m_most, aI E 1600 g_58), (a_m_lateDelay, aI E 400 g_m_lateDelay), (a_m_fewest, aI E 1600 y_7), (a_m_earlyDelay, aI E 400 g_m_earlyDelay), (o_m, .inr (10, [.int f_m_code, .int f_m_cells, .ref a_m_kind, .ref a_m_inputs, .ref a_m_tableOf, .ref a_m_size, .ref a_m_extra, .ref a_m_taken, .ref a_m_portEarly, .ref a_m_portLate, .ref a_m_portSlope, .ref a_m_nodeOf, .ref a_m_setup, .ref a_m_hold, .ref a_m_seen, .ref a_m_numbers, .ref a_m_rowSize, .ref a_m_fall, .int f_m_late, .int f_m_early, .int f_m_period, .int f_m_nodes, .ref a_m_parent, .ref a_m_nodeEarly, .ref a_m_nodeLate, .int f_m_exceptions, .ref a_m_periods, .ref a_m_from, .ref a_m_through, .ref a_m_toward, .int f_m_fails, .ref a_m_order, .int f_m_ordered, .ref a_m_done, .ref a_m_reached, .ref a_m_open, .ref a_m_lateDelay, .ref a_m_earlyDelay, .ref a_m_lateSlope, .ref a_m_earlySlope, .ref a_m_greatest, .ref a_m_least, .ref a_m_howMany, .ref a_m_most, .ref a_m_fewest, .ref a_m_pathsTo, .ref a_m_slackOf, .ref a_m_holdOf, .int f_m_listed, .ref a_m_listSlack, .ref a_m_listStart, .ref a_m_listEdge, .ref a_m_listSize, .ref a_m_listCell, .ref a_m_listInput, .ref a_m_rank, .ref a_m_good, .ref a_m_goCell, .ref a_m_goInput, .ref a_m_goEdge, .ref a_m_goMask, .int f_m_target, .int f_m_shown, .ref a_m_shownCell, .ref a_m_shownInput, .ref a_m_shownEdge, .ref a_m_shownLate, .int f_m_shownSlack, .int f_m_shownHold])), (a_m_through, aI E 4 g_m_through)] := hD
            refine lv_aload_n hx hb dX10_passes_168 rfl (lv_at hl 7 rfl) ?_
            refine va_get (D := E.1) (ci := 10) (v := .ref a_m_fewest) (own := RX10) (C := RX10) (T := TX10) (N := 69) hx hb hts i_m_passes_X10 hown hK hP 6 rfl rfl 44 (by decide) (hto (.fieldLink RX10 147 "TimingHouseModel" "fewest" "[I") (by decide +kernel)) (fun _ h9 => h9) rfl dX10_passes_169 ?_
            refine lv_iload hx hb dX10_passes_172 (lv_at hl 2 rfl) ?_
            refine lv_aload_n hx hb dX10_passes_174 rfl (lv_at hl 7 rfl) ?_
            refine va_get (D := E.1) (ci := 10) (v := .ref a_m_howMany) (own := RX10) (C := RX10) (T := TX10) (N := 69) hx hb hts i_m_passes_X10 hown hK hP 6 rfl rfl 42 (by decide) (hto (.fieldLink RX10 141 "TimingHouseModel" "howMany" "[I") (by decide +kernel)) (fun _ h9 => h9) rfl dX10_passes_175 ?_
            refine lv_iload hx hb dX10_passes_178 (lv_at hl 2 rfl) ?_
            refine ld_i hx hb hK hP 1 rfl (by omega) dX10_passes_180 (fun x_59 ex_59 => ?_)
            have hq_x_59 : x_39 = x_59 := ex_39.trans ex_59.symm
            subst hq_x_59
            refine lv_if_ne (tgt := 189) hx hb dX10_passes_181 (by decide) (fun c_60 => ?_) (fun c_60 => ?_)
            · have e_60 : x_39.toInt ≠ 0 := i3_ne c_60
              exfalso; omega
            · have e_60 : x_39.toInt = 0 := i3_eq c_60
              refine lv_iload hx hb dX10_passes_184 (lv_at hl 0 rfl) ?_
              refine lv_goto (tgt := 201) hx hb dX10_passes_186 (by decide) ?_
              refine st_i hx hb hK hP hD hS 4 rfl (by omega) dX10_passes_201 (fun g_61 H locs eg_61 hP hD hS => ?_)
              clear eg_61
              replace hP : va_P E.1 vwCl [(a_m_kind, aI E 50 g_m_kind), (a_m_howMany, aI E 1600 y_5), (a_m_most, aI E 1600 g_58), (a_m_lateDelay, aI E 400 g_m_lateDelay), (a_m_fewest, aI E 1600 g_61), (a_m_earlyDelay, aI E 400 g_m_earlyDelay), (o_m, .inr (10, [.int f_m_code, .int f_m_cells, .ref a_m_kind, .ref a_m_inputs, .ref a_m_tableOf, .ref a_m_size, .ref a_m_extra, .ref a_m_taken, .ref a_m_portEarly, .ref a_m_portLate, .ref a_m_portSlope, .ref a_m_nodeOf, .ref a_m_setup, .ref a_m_hold, .ref a_m_seen, .ref a_m_numbers, .ref a_m_rowSize, .ref a_m_fall, .int f_m_late, .int f_m_early, .int f_m_period, .int f_m_nodes, .ref a_m_parent, .ref a_m_nodeEarly, .ref a_m_nodeLate, .int f_m_exceptions, .ref a_m_periods, .ref a_m_from, .ref a_m_through, .ref a_m_toward, .int f_m_fails, .ref a_m_order, .int f_m_ordered, .ref a_m_done, .ref a_m_reached, .ref a_m_open, .ref a_m_lateDelay, .ref a_m_earlyDelay, .ref a_m_lateSlope, .ref a_m_earlySlope, .ref a_m_greatest, .ref a_m_least, .ref a_m_howMany, .ref a_m_most, .ref a_m_fewest, .ref a_m_pathsTo, .ref a_m_slackOf, .ref a_m_holdOf, .int f_m_listed, .ref a_m_listSlack, .ref a_m_listStart, .ref a_m_listEdge, .ref a_m_listSize, .ref a_m_listCell, .ref a_m_listInput, .ref a_m_rank, .ref a_m_good, .ref a_m_goCell, .ref a_m_goInput, .ref a_m_goEdge, .ref a_m_goMask, .int f_m_target, .int f_m_shown, .ref a_m_shownCell, .ref a_m_shownInput, .ref a_m_shownEdge, .ref a_m_shownLate, .int f_m_shownSlack, .int f_m_shownHold])), (a_m_through, aI E 4 g_m_through)] H := hP
              replace hD : va_D A [(a_m_kind, aI E 50 g_m_kind), (a_m_howMany, aI E 1600 y_5), (a_m_most, aI E 1600 g_58), (a_m_lateDelay, aI E 400 g_m_lateDelay), (a_m_fewest, aI E 1600 g_61), (a_m_earlyDelay, aI E 400 g_m_earlyDelay), (o_m, .inr (10, [.int f_m_code, .int f_m_cells, .ref a_m_kind, .ref a_m_inputs, .ref a_m_tableOf, .ref a_m_size, .ref a_m_extra, .ref a_m_taken, .ref a_m_portEarly, .ref a_m_portLate, .ref a_m_portSlope, .ref a_m_nodeOf, .ref a_m_setup, .ref a_m_hold, .ref a_m_seen, .ref a_m_numbers, .ref a_m_rowSize, .ref a_m_fall, .int f_m_late, .int f_m_early, .int f_m_period, .int f_m_nodes, .ref a_m_parent, .ref a_m_nodeEarly, .ref a_m_nodeLate, .int f_m_exceptions, .ref a_m_periods, .ref a_m_from, .ref a_m_through, .ref a_m_toward, .int f_m_fails, .ref a_m_order, .int f_m_ordered, .ref a_m_done, .ref a_m_reached, .ref a_m_open, .ref a_m_lateDelay, .ref a_m_earlyDelay, .ref a_m_lateSlope, .ref a_m_earlySlope, .ref a_m_greatest, .ref a_m_least, .ref a_m_howMany, .ref a_m_most, .ref a_m_fewest, .ref a_m_pathsTo, .ref a_m_slackOf, .ref a_m_holdOf, .int f_m_listed, .ref a_m_listSlack, .ref a_m_listStart, .ref a_m_listEdge, .ref a_m_listSize, .ref a_m_listCell, .ref a_m_listInput, .ref a_m_rank, .ref a_m_good, .ref a_m_goCell, .ref a_m_goInput, .ref a_m_goEdge, .ref a_m_goMask, .int f_m_target, .int f_m_shown, .ref a_m_shownCell, .ref a_m_shownInput, .ref a_m_shownEdge, .ref a_m_shownLate, .int f_m_shownSlack, .int f_m_shownHold])), (a_m_through, aI E 4 g_m_through)] := hD
              refine lv_aload_n hx hb dX10_passes_202 rfl (lv_at hl 7 rfl) ?_
              refine va_get (D := E.1) (ci := 10) (v := .ref a_m_howMany) (own := RX10) (C := RX10) (T := TX10) (N := 69) hx hb hts i_m_passes_X10 hown hK hP 6 rfl rfl 42 (by decide) (hto (.fieldLink RX10 141 "TimingHouseModel" "howMany" "[I") (by decide +kernel)) (fun _ h9 => h9) rfl dX10_passes_203 ?_
              refine lv_iload hx hb dX10_passes_206 (lv_at hl 2 rfl) ?_
              refine lv_sipush (v := 1000) hx hb dX10_passes_208 (by decide) ?_
              refine lv_aload_n hx hb dX10_passes_211 rfl (lv_at hl 7 rfl) ?_
              refine va_get (D := E.1) (ci := 10) (v := .ref a_m_howMany) (own := RX10) (C := RX10) (T := TX10) (N := 69) hx hb hts i_m_passes_X10 hown hK hP 6 rfl rfl 42 (by decide) (hto (.fieldLink RX10 141 "TimingHouseModel" "howMany" "[I") (by decide +kernel)) (fun _ h9 => h9) rfl dX10_passes_212 ?_
              refine lv_iload hx hb dX10_passes_215 (lv_at hl 2 rfl) ?_
              refine ld_i hx hb hK hP 1 rfl (by omega) dX10_passes_217 (fun x_62 ex_62 => ?_)
              have hq_x_62 : x_39 = x_62 := ex_39.trans ex_62.symm
              subst hq_x_62
              refine lv_aload_n hx hb dX10_passes_218 rfl (lv_at hl 7 rfl) ?_
              refine va_get (D := E.1) (ci := 10) (v := .ref a_m_howMany) (own := RX10) (C := RX10) (T := TX10) (N := 69) hx hb hts i_m_passes_X10 hown hK hP 6 rfl rfl 42 (by decide) (hto (.fieldLink RX10 141 "TimingHouseModel" "howMany" "[I") (by decide +kernel)) (fun _ h9 => h9) rfl dX10_passes_219 ?_
              refine lv_iload hx hb dX10_passes_222 (lv_at hl 3 rfl) ?_
              refine ld_i hx hb hK hP 1 rfl (by omega) dX10_passes_224 (fun x_63 ex_63 => ?_)
              have hq_x_63 : x_14 = x_63 := ex_14.trans ex_63.symm
              subst hq_x_63
              refine lv_iadd hx hb dX10_passes_225 ?_
              refine lv_topi (fun x_64 ex_64 => ?_)
              have bd_65 := i3_bd x_14
              have tx_64 : x_64.toInt = x_39.toInt + x_14.toInt := i3_addc rfl rfl ex_64 (by omega)
              refine va_mmin hx hb (hml.trans hl.1.symm) hown (hto (.methodLink RX10 266 Lib.Math.min.name) (by decide +kernel)) (hto (.static Lib.Math.min.name) (by decide +kernel)) (hto (.initialized "java/lang/Math") (by decide +kernel)) (hto (.code Lib.Math.min.name Lib.Math.min.code 2 (some .int)) (by decide +kernel)) (Nat.le_of_ble_eq_true rfl) (Nat.le_of_ble_eq_true rfl) (Nat.zero_le _) (Nat.zero_le _) dX10_passes_226 ?_
              refine lv_topi (fun x_66 ex_66 => ?_)
              have m_x_66 : (x_66.toInt ≤ 1000 ∧ x_66.toInt ≤ x_64.toInt) ∧ (x_66.toInt = 1000 ∨ x_66.toInt = x_64.toInt) := i3_min ex_66
              refine st_i hx hb hK hP hD hS 1 rfl (by omega) dX10_passes_229 (fun g_67 H locs eg_67 hP hD hS => ?_)
              clear eg_67
              replace hP : va_P E.1 vwCl [(a_m_kind, aI E 50 g_m_kind), (a_m_howMany, aI E 1600 g_67), (a_m_most, aI E 1600 g_58), (a_m_lateDelay, aI E 400 g_m_lateDelay), (a_m_fewest, aI E 1600 g_61), (a_m_earlyDelay, aI E 400 g_m_earlyDelay), (o_m, .inr (10, [.int f_m_code, .int f_m_cells, .ref a_m_kind, .ref a_m_inputs, .ref a_m_tableOf, .ref a_m_size, .ref a_m_extra, .ref a_m_taken, .ref a_m_portEarly, .ref a_m_portLate, .ref a_m_portSlope, .ref a_m_nodeOf, .ref a_m_setup, .ref a_m_hold, .ref a_m_seen, .ref a_m_numbers, .ref a_m_rowSize, .ref a_m_fall, .int f_m_late, .int f_m_early, .int f_m_period, .int f_m_nodes, .ref a_m_parent, .ref a_m_nodeEarly, .ref a_m_nodeLate, .int f_m_exceptions, .ref a_m_periods, .ref a_m_from, .ref a_m_through, .ref a_m_toward, .int f_m_fails, .ref a_m_order, .int f_m_ordered, .ref a_m_done, .ref a_m_reached, .ref a_m_open, .ref a_m_lateDelay, .ref a_m_earlyDelay, .ref a_m_lateSlope, .ref a_m_earlySlope, .ref a_m_greatest, .ref a_m_least, .ref a_m_howMany, .ref a_m_most, .ref a_m_fewest, .ref a_m_pathsTo, .ref a_m_slackOf, .ref a_m_holdOf, .int f_m_listed, .ref a_m_listSlack, .ref a_m_listStart, .ref a_m_listEdge, .ref a_m_listSize, .ref a_m_listCell, .ref a_m_listInput, .ref a_m_rank, .ref a_m_good, .ref a_m_goCell, .ref a_m_goInput, .ref a_m_goEdge, .ref a_m_goMask, .int f_m_target, .int f_m_shown, .ref a_m_shownCell, .ref a_m_shownInput, .ref a_m_shownEdge, .ref a_m_shownLate, .int f_m_shownSlack, .int f_m_shownHold])), (a_m_through, aI E 4 g_m_through)] H := hP
              replace hD : va_D A [(a_m_kind, aI E 50 g_m_kind), (a_m_howMany, aI E 1600 g_67), (a_m_most, aI E 1600 g_58), (a_m_lateDelay, aI E 400 g_m_lateDelay), (a_m_fewest, aI E 1600 g_61), (a_m_earlyDelay, aI E 400 g_m_earlyDelay), (o_m, .inr (10, [.int f_m_code, .int f_m_cells, .ref a_m_kind, .ref a_m_inputs, .ref a_m_tableOf, .ref a_m_size, .ref a_m_extra, .ref a_m_taken, .ref a_m_portEarly, .ref a_m_portLate, .ref a_m_portSlope, .ref a_m_nodeOf, .ref a_m_setup, .ref a_m_hold, .ref a_m_seen, .ref a_m_numbers, .ref a_m_rowSize, .ref a_m_fall, .int f_m_late, .int f_m_early, .int f_m_period, .int f_m_nodes, .ref a_m_parent, .ref a_m_nodeEarly, .ref a_m_nodeLate, .int f_m_exceptions, .ref a_m_periods, .ref a_m_from, .ref a_m_through, .ref a_m_toward, .int f_m_fails, .ref a_m_order, .int f_m_ordered, .ref a_m_done, .ref a_m_reached, .ref a_m_open, .ref a_m_lateDelay, .ref a_m_earlyDelay, .ref a_m_lateSlope, .ref a_m_earlySlope, .ref a_m_greatest, .ref a_m_least, .ref a_m_howMany, .ref a_m_most, .ref a_m_fewest, .ref a_m_pathsTo, .ref a_m_slackOf, .ref a_m_holdOf, .int f_m_listed, .ref a_m_listSlack, .ref a_m_listStart, .ref a_m_listEdge, .ref a_m_listSize, .ref a_m_listCell, .ref a_m_listInput, .ref a_m_rank, .ref a_m_good, .ref a_m_goCell, .ref a_m_goInput, .ref a_m_goEdge, .ref a_m_goMask, .int f_m_target, .int f_m_shown, .ref a_m_shownCell, .ref a_m_shownInput, .ref a_m_shownEdge, .ref a_m_shownLate, .int f_m_shownSlack, .int f_m_shownHold])), (a_m_through, aI E 4 g_m_through)] := hD
              obtain ⟨x_68, ex_68⟩ : ∃ y : Int32, y = y_4 + 1 := ⟨_, rfl⟩
              have tx_68 : x_68.toInt = y_4.toInt + 1 := i3_addc rfl rfl ex_68 (by omega)
              refine lv_iinc (v := x_68) (lv' := [(7, .int x_68), (11, .int x_36), (10, .int x_27), (9, .int x_20), (8, .int x_13), (6, .int r_3), (5, .int p4), (0, .ref o_m), (1, .int p1), (2, .int p2), (3, .int p3), (4, .int p4)]) hx hb dX10_passes_230 hl (k := 4) rfl (by rw [ex_68]; rfl) (by decide) rfl (fun ls hl => ?_)
              refine lv_goto (tgt := 31) hx hb dX10_passes_233 (by decide) ?_
              replace hl : lv_has ls 12 [(7, .int x_68), (6, .int r_3), (5, .int p4), (0, .ref o_m), (1, .int p1), (2, .int p2), (3, .int p3), (4, .int p4)] := lv_sub hl [0, 5, 6, 7, 8, 9, 10, 11] rfl
              apply ih_d_8 (y_4 := x_68) (y_5 := g_67) (y_6 := g_58) (y_7 := g_61) (H := H) (locs := locs) (ls := ls) <;> first | assumption | omega | decide
        · have e_15 : x_14.toInt = 0 := i3_eq c_15
          refine lv_goto (tgt := 230) hx hb dX10_passes_62 (by decide) ?_
          obtain ⟨x_69, ex_69⟩ : ∃ y : Int32, y = y_4 + 1 := ⟨_, rfl⟩
          have tx_69 : x_69.toInt = y_4.toInt + 1 := i3_addc rfl rfl ex_69 (by omega)
          refine lv_iinc (v := x_69) (lv' := [(7, .int x_69), (8, .int x_13), (6, .int r_3), (5, .int p4), (0, .ref o_m), (1, .int p1), (2, .int p2), (3, .int p3), (4, .int p4)]) hx hb dX10_passes_230 hl (k := 1) rfl (by rw [ex_69]; rfl) (by decide) rfl (fun ls hl => ?_)
          refine lv_goto (tgt := 31) hx hb dX10_passes_233 (by decide) ?_
          replace hl : lv_has ls 12 [(7, .int x_69), (6, .int r_3), (5, .int p4), (0, .ref o_m), (1, .int p1), (2, .int p2), (3, .int p3), (4, .int p4)] := lv_sub hl [0, 2, 3, 4, 5, 6, 7, 8] rfl
          apply ih_d_8 (y_4 := x_69) (y_5 := y_5) (y_6 := y_6) (y_7 := y_7) (H := H) (locs := locs) (ls := ls) <;> first | assumption | omega | decide
  · have e_2 : x_1.toInt = 2 := i3_eq c_2
    refine lv_iconst (v := 1) hx hb dX10_passes_10 (by decide) ?_
    refine lv_iload hx hb dX10_passes_11 (lv_at hl 4 rfl) ?_
    have b_p4 := r_p4.out
    refine lv_isub hx hb dX10_passes_13 ?_
    refine lv_topi (fun x_70 ex_70 => ?_)
    have tx_70 : x_70.toInt = 1 - p4.toInt := i3_subc rfl rfl ex_70 (by omega)
    refine lv_goto (tgt := 19) hx hb dX10_passes_14 (by decide) ?_
    refine lv_istore (lv' := [(5, .int x_70), (0, .ref o_m), (1, .int p1), (2, .int p2), (3, .int p3), (4, .int p4)]) hx hb dX10_passes_19 hl (by decide) rfl (fun ls hl => ?_)
    refine lv_aload_n hx hb dX10_passes_21 rfl (lv_at hl 1 rfl) ?_
    refine lv_iload_n hx hb dX10_passes_22 rfl (lv_at hl 3 rfl) ?_
    refine call_i (va_runV (As := [.int p2]) (rest := []) ⟨hx, hb, hml, hown, hts⟩ (m_metBy l E o_m a_m_kind a_m_inputs a_m_tableOf a_m_size a_m_extra a_m_taken a_m_portEarly a_m_portLate a_m_portSlope a_m_nodeOf a_m_setup a_m_hold a_m_seen a_m_numbers a_m_rowSize a_m_fall a_m_parent a_m_nodeEarly a_m_nodeLate a_m_periods a_m_from a_m_through a_m_toward a_m_order a_m_done a_m_reached a_m_open a_m_lateDelay a_m_earlyDelay a_m_lateSlope a_m_earlySlope a_m_greatest a_m_least a_m_howMany a_m_most a_m_fewest a_m_pathsTo a_m_slackOf a_m_holdOf a_m_listSlack a_m_listStart a_m_listEdge a_m_listSize a_m_listCell a_m_listInput a_m_rank a_m_good a_m_goCell a_m_goInput a_m_goEdge a_m_goMask a_m_shownCell a_m_shownInput a_m_shownEdge a_m_shownLate f_m_code f_m_cells f_m_late f_m_early f_m_period f_m_nodes f_m_exceptions f_m_fails f_m_ordered f_m_listed f_m_target f_m_shown f_m_shownSlack f_m_shownHold p2 g_m_through r_f_m_cells r_f_m_late r_f_m_early r_f_m_period r_f_m_nodes r_f_m_exceptions r_f_m_ordered r_f_m_listed r_f_m_target r_f_m_shown i_g_m_through r_p2 H.size) (cwV 1 hts g_m_passes_m_metBy_295 rfl rfl rfl (by decide +kernel) ⟨Nat.le_of_ble_eq_true rfl, Nat.le_of_ble_eq_true rfl⟩) (pre_V hK hN hZ hS (va_free hD hS hA [0, 2] rfl) (hP.sub (ws' := [(o_m, .inr (10, [.int f_m_code, .int f_m_cells, .ref a_m_kind, .ref a_m_inputs, .ref a_m_tableOf, .ref a_m_size, .ref a_m_extra, .ref a_m_taken, .ref a_m_portEarly, .ref a_m_portLate, .ref a_m_portSlope, .ref a_m_nodeOf, .ref a_m_setup, .ref a_m_hold, .ref a_m_seen, .ref a_m_numbers, .ref a_m_rowSize, .ref a_m_fall, .int f_m_late, .int f_m_early, .int f_m_period, .int f_m_nodes, .ref a_m_parent, .ref a_m_nodeEarly, .ref a_m_nodeLate, .int f_m_exceptions, .ref a_m_periods, .ref a_m_from, .ref a_m_through, .ref a_m_toward, .int f_m_fails, .ref a_m_order, .int f_m_ordered, .ref a_m_done, .ref a_m_reached, .ref a_m_open, .ref a_m_lateDelay, .ref a_m_earlyDelay, .ref a_m_lateSlope, .ref a_m_earlySlope, .ref a_m_greatest, .ref a_m_least, .ref a_m_howMany, .ref a_m_most, .ref a_m_fewest, .ref a_m_pathsTo, .ref a_m_slackOf, .ref a_m_holdOf, .int f_m_listed, .ref a_m_listSlack, .ref a_m_listStart, .ref a_m_listEdge, .ref a_m_listSize, .ref a_m_listCell, .ref a_m_listInput, .ref a_m_rank, .ref a_m_good, .ref a_m_goCell, .ref a_m_goInput, .ref a_m_goEdge, .ref a_m_goMask, .int f_m_target, .int f_m_shown, .ref a_m_shownCell, .ref a_m_shownInput, .ref a_m_shownEdge, .ref a_m_shownLate, .int f_m_shownSlack, .int f_m_shownHold])), (a_m_through, aI E 4 g_m_through)]) [0, 2] rfl) (hD.sub (ws' := [(o_m, .inr (10, [.int f_m_code, .int f_m_cells, .ref a_m_kind, .ref a_m_inputs, .ref a_m_tableOf, .ref a_m_size, .ref a_m_extra, .ref a_m_taken, .ref a_m_portEarly, .ref a_m_portLate, .ref a_m_portSlope, .ref a_m_nodeOf, .ref a_m_setup, .ref a_m_hold, .ref a_m_seen, .ref a_m_numbers, .ref a_m_rowSize, .ref a_m_fall, .int f_m_late, .int f_m_early, .int f_m_period, .int f_m_nodes, .ref a_m_parent, .ref a_m_nodeEarly, .ref a_m_nodeLate, .int f_m_exceptions, .ref a_m_periods, .ref a_m_from, .ref a_m_through, .ref a_m_toward, .int f_m_fails, .ref a_m_order, .int f_m_ordered, .ref a_m_done, .ref a_m_reached, .ref a_m_open, .ref a_m_lateDelay, .ref a_m_earlyDelay, .ref a_m_lateSlope, .ref a_m_earlySlope, .ref a_m_greatest, .ref a_m_least, .ref a_m_howMany, .ref a_m_most, .ref a_m_fewest, .ref a_m_pathsTo, .ref a_m_slackOf, .ref a_m_holdOf, .int f_m_listed, .ref a_m_listSlack, .ref a_m_listStart, .ref a_m_listEdge, .ref a_m_listSize, .ref a_m_listCell, .ref a_m_listInput, .ref a_m_rank, .ref a_m_good, .ref a_m_goCell, .ref a_m_goInput, .ref a_m_goEdge, .ref a_m_goMask, .int f_m_target, .int f_m_shown, .ref a_m_shownCell, .ref a_m_shownInput, .ref a_m_shownEdge, .ref a_m_shownLate, .int f_m_shownSlack, .int f_m_shownHold])), (a_m_through, aI E 4 g_m_through)]) [0, 2] (by decide) rfl) (ci := 10) (q0 := 0) rfl rfl) rfl rfl hl.1 rfl (lv_room (Nat.le_of_ble_eq_true rfl)) dX10_passes_23 ⟨Nat.le_of_ble_eq_true rfl, Nat.le_of_ble_eq_true rfl⟩) hP hD hS hA [0, 2] [1, 3, 4, 5, 6, 7] (wr := [(a_m_kind, aI E 50 g_m_kind), (a_m_howMany, aI E 1600 g_m_howMany), (a_m_most, aI E 1600 g_m_most), (a_m_lateDelay, aI E 400 g_m_lateDelay), (a_m_fewest, aI E 1600 g_m_fewest), (a_m_earlyDelay, aI E 400 g_m_earlyDelay)]) rfl rfl (by decide) (by decide) (fun r_71 w H locs hw hP hD hS => ?_)
    obtain ⟨b_r_71, rfl⟩ := hw
    replace hP : va_P E.1 vwCl [(a_m_kind, aI E 50 g_m_kind), (a_m_howMany, aI E 1600 g_m_howMany), (a_m_most, aI E 1600 g_m_most), (a_m_lateDelay, aI E 400 g_m_lateDelay), (a_m_fewest, aI E 1600 g_m_fewest), (a_m_earlyDelay, aI E 400 g_m_earlyDelay), (o_m, .inr (10, [.int f_m_code, .int f_m_cells, .ref a_m_kind, .ref a_m_inputs, .ref a_m_tableOf, .ref a_m_size, .ref a_m_extra, .ref a_m_taken, .ref a_m_portEarly, .ref a_m_portLate, .ref a_m_portSlope, .ref a_m_nodeOf, .ref a_m_setup, .ref a_m_hold, .ref a_m_seen, .ref a_m_numbers, .ref a_m_rowSize, .ref a_m_fall, .int f_m_late, .int f_m_early, .int f_m_period, .int f_m_nodes, .ref a_m_parent, .ref a_m_nodeEarly, .ref a_m_nodeLate, .int f_m_exceptions, .ref a_m_periods, .ref a_m_from, .ref a_m_through, .ref a_m_toward, .int f_m_fails, .ref a_m_order, .int f_m_ordered, .ref a_m_done, .ref a_m_reached, .ref a_m_open, .ref a_m_lateDelay, .ref a_m_earlyDelay, .ref a_m_lateSlope, .ref a_m_earlySlope, .ref a_m_greatest, .ref a_m_least, .ref a_m_howMany, .ref a_m_most, .ref a_m_fewest, .ref a_m_pathsTo, .ref a_m_slackOf, .ref a_m_holdOf, .int f_m_listed, .ref a_m_listSlack, .ref a_m_listStart, .ref a_m_listEdge, .ref a_m_listSize, .ref a_m_listCell, .ref a_m_listInput, .ref a_m_rank, .ref a_m_good, .ref a_m_goCell, .ref a_m_goInput, .ref a_m_goEdge, .ref a_m_goMask, .int f_m_target, .int f_m_shown, .ref a_m_shownCell, .ref a_m_shownInput, .ref a_m_shownEdge, .ref a_m_shownLate, .int f_m_shownSlack, .int f_m_shownHold])), (a_m_through, aI E 4 g_m_through)] H := hP
    replace hD : va_D A [(a_m_kind, aI E 50 g_m_kind), (a_m_howMany, aI E 1600 g_m_howMany), (a_m_most, aI E 1600 g_m_most), (a_m_lateDelay, aI E 400 g_m_lateDelay), (a_m_fewest, aI E 1600 g_m_fewest), (a_m_earlyDelay, aI E 400 g_m_earlyDelay), (o_m, .inr (10, [.int f_m_code, .int f_m_cells, .ref a_m_kind, .ref a_m_inputs, .ref a_m_tableOf, .ref a_m_size, .ref a_m_extra, .ref a_m_taken, .ref a_m_portEarly, .ref a_m_portLate, .ref a_m_portSlope, .ref a_m_nodeOf, .ref a_m_setup, .ref a_m_hold, .ref a_m_seen, .ref a_m_numbers, .ref a_m_rowSize, .ref a_m_fall, .int f_m_late, .int f_m_early, .int f_m_period, .int f_m_nodes, .ref a_m_parent, .ref a_m_nodeEarly, .ref a_m_nodeLate, .int f_m_exceptions, .ref a_m_periods, .ref a_m_from, .ref a_m_through, .ref a_m_toward, .int f_m_fails, .ref a_m_order, .int f_m_ordered, .ref a_m_done, .ref a_m_reached, .ref a_m_open, .ref a_m_lateDelay, .ref a_m_earlyDelay, .ref a_m_lateSlope, .ref a_m_earlySlope, .ref a_m_greatest, .ref a_m_least, .ref a_m_howMany, .ref a_m_most, .ref a_m_fewest, .ref a_m_pathsTo, .ref a_m_slackOf, .ref a_m_holdOf, .int f_m_listed, .ref a_m_listSlack, .ref a_m_listStart, .ref a_m_listEdge, .ref a_m_listSize, .ref a_m_listCell, .ref a_m_listInput, .ref a_m_rank, .ref a_m_good, .ref a_m_goCell, .ref a_m_goInput, .ref a_m_goEdge, .ref a_m_goMask, .int f_m_target, .int f_m_shown, .ref a_m_shownCell, .ref a_m_shownInput, .ref a_m_shownEdge, .ref a_m_shownLate, .int f_m_shownSlack, .int f_m_shownHold])), (a_m_through, aI E 4 g_m_through)] := hD
    refine lv_istore (lv' := [(6, .int r_71), (5, .int x_70), (0, .ref o_m), (1, .int p1), (2, .int p2), (3, .int p3), (4, .int p4)]) hx hb dX10_passes_26 hl (by decide) rfl (fun ls hl => ?_)
    refine lv_iconst (v := 0) hx hb dX10_passes_28 (by decide) ?_
    refine lv_istore (lv' := [(7, .int 0), (6, .int r_71), (5, .int x_70), (0, .ref o_m), (1, .int p1), (2, .int p2), (3, .int p3), (4, .int p4)]) hx hb dX10_passes_29 hl (by decide) rfl (fun ls hl => ?_)
    obtain ⟨y_72, hy_72⟩ : ∃ y : Int32, y = 0 := ⟨_, rfl⟩
    have b_y_72 : 0 ≤ y_72.toInt ∧ y_72.toInt ≤ 16 := by rw [hy_72]; decide
    replace hl : lv_has ls 12 [(7, .int y_72), (6, .int r_71), (5, .int x_70), (0, .ref o_m), (1, .int p1), (2, .int p2), (3, .int p3), (4, .int p4)] := by rw [hy_72]; exact hl
    obtain ⟨y_73, hy_73⟩ : ∃ g : Nat → Int32, g = g_m_howMany := ⟨_, rfl⟩
    obtain ⟨y_74, hy_74⟩ : ∃ g : Nat → Int32, g = g_m_most := ⟨_, rfl⟩
    obtain ⟨y_75, hy_75⟩ : ∃ g : Nat → Int32, g = g_m_fewest := ⟨_, rfl⟩
    replace hP : va_P E.1 vwCl [(a_m_kind, aI E 50 g_m_kind), (a_m_howMany, aI E 1600 y_73), (a_m_most, aI E 1600 y_74), (a_m_lateDelay, aI E 400 g_m_lateDelay), (a_m_fewest, aI E 1600 y_75), (a_m_earlyDelay, aI E 400 g_m_earlyDelay), (o_m, .inr (10, [.int f_m_code, .int f_m_cells, .ref a_m_kind, .ref a_m_inputs, .ref a_m_tableOf, .ref a_m_size, .ref a_m_extra, .ref a_m_taken, .ref a_m_portEarly, .ref a_m_portLate, .ref a_m_portSlope, .ref a_m_nodeOf, .ref a_m_setup, .ref a_m_hold, .ref a_m_seen, .ref a_m_numbers, .ref a_m_rowSize, .ref a_m_fall, .int f_m_late, .int f_m_early, .int f_m_period, .int f_m_nodes, .ref a_m_parent, .ref a_m_nodeEarly, .ref a_m_nodeLate, .int f_m_exceptions, .ref a_m_periods, .ref a_m_from, .ref a_m_through, .ref a_m_toward, .int f_m_fails, .ref a_m_order, .int f_m_ordered, .ref a_m_done, .ref a_m_reached, .ref a_m_open, .ref a_m_lateDelay, .ref a_m_earlyDelay, .ref a_m_lateSlope, .ref a_m_earlySlope, .ref a_m_greatest, .ref a_m_least, .ref a_m_howMany, .ref a_m_most, .ref a_m_fewest, .ref a_m_pathsTo, .ref a_m_slackOf, .ref a_m_holdOf, .int f_m_listed, .ref a_m_listSlack, .ref a_m_listStart, .ref a_m_listEdge, .ref a_m_listSize, .ref a_m_listCell, .ref a_m_listInput, .ref a_m_rank, .ref a_m_good, .ref a_m_goCell, .ref a_m_goInput, .ref a_m_goEdge, .ref a_m_goMask, .int f_m_target, .int f_m_shown, .ref a_m_shownCell, .ref a_m_shownInput, .ref a_m_shownEdge, .ref a_m_shownLate, .int f_m_shownSlack, .int f_m_shownHold])), (a_m_through, aI E 4 g_m_through)] H := by rw [hy_73, hy_74, hy_75]; exact hP
    replace hD : va_D A [(a_m_kind, aI E 50 g_m_kind), (a_m_howMany, aI E 1600 y_73), (a_m_most, aI E 1600 y_74), (a_m_lateDelay, aI E 400 g_m_lateDelay), (a_m_fewest, aI E 1600 y_75), (a_m_earlyDelay, aI E 400 g_m_earlyDelay), (o_m, .inr (10, [.int f_m_code, .int f_m_cells, .ref a_m_kind, .ref a_m_inputs, .ref a_m_tableOf, .ref a_m_size, .ref a_m_extra, .ref a_m_taken, .ref a_m_portEarly, .ref a_m_portLate, .ref a_m_portSlope, .ref a_m_nodeOf, .ref a_m_setup, .ref a_m_hold, .ref a_m_seen, .ref a_m_numbers, .ref a_m_rowSize, .ref a_m_fall, .int f_m_late, .int f_m_early, .int f_m_period, .int f_m_nodes, .ref a_m_parent, .ref a_m_nodeEarly, .ref a_m_nodeLate, .int f_m_exceptions, .ref a_m_periods, .ref a_m_from, .ref a_m_through, .ref a_m_toward, .int f_m_fails, .ref a_m_order, .int f_m_ordered, .ref a_m_done, .ref a_m_reached, .ref a_m_open, .ref a_m_lateDelay, .ref a_m_earlyDelay, .ref a_m_lateSlope, .ref a_m_earlySlope, .ref a_m_greatest, .ref a_m_least, .ref a_m_howMany, .ref a_m_most, .ref a_m_fewest, .ref a_m_pathsTo, .ref a_m_slackOf, .ref a_m_holdOf, .int f_m_listed, .ref a_m_listSlack, .ref a_m_listStart, .ref a_m_listEdge, .ref a_m_listSize, .ref a_m_listCell, .ref a_m_listInput, .ref a_m_rank, .ref a_m_good, .ref a_m_goCell, .ref a_m_goInput, .ref a_m_goEdge, .ref a_m_goMask, .int f_m_target, .int f_m_shown, .ref a_m_shownCell, .ref a_m_shownInput, .ref a_m_shownEdge, .ref a_m_shownLate, .int f_m_shownSlack, .int f_m_shownHold])), (a_m_through, aI E 4 g_m_through)] := by rw [hy_73, hy_74, hy_75]; exact hD
    clear hy_72 hy_73 hy_74 hy_75
    obtain ⟨d_76, hd_76⟩ : ∃ d : Nat, 16 - y_72.toInt < (d : Int) := ⟨(16 - y_72.toInt + 1).toNat, by omega⟩
    induction d_76 generalizing y_72 y_73 y_74 y_75 H locs ls with
    | zero => exfalso; omega
    | succ d_76 ih_d_76 =>
      refine lv_iload hx hb dX10_passes_31 (lv_at hl 0 rfl) ?_
      refine lv_bipush (v := 16) hx hb dX10_passes_33 (by decide) ?_
      refine lv_icmp_ge (tgt := 236) hx hb dX10_passes_35 (by decide) (fun c_77 => ?_) (fun c_77 => ?_)
      · have e_77 : 16 ≤ y_72.toInt := i3_le c_77
        exact ret_v hx hb hr hlk (hP.sub (ws' := [(o_m, .inr (10, [.int f_m_code, .int f_m_cells, .ref a_m_kind, .ref a_m_inputs, .ref a_m_tableOf, .ref a_m_size, .ref a_m_extra, .ref a_m_taken, .ref a_m_portEarly, .ref a_m_portLate, .ref a_m_portSlope, .ref a_m_nodeOf, .ref a_m_setup, .ref a_m_hold, .ref a_m_seen, .ref a_m_numbers, .ref a_m_rowSize, .ref a_m_fall, .int f_m_late, .int f_m_early, .int f_m_period, .int f_m_nodes, .ref a_m_parent, .ref a_m_nodeEarly, .ref a_m_nodeLate, .int f_m_exceptions, .ref a_m_periods, .ref a_m_from, .ref a_m_through, .ref a_m_toward, .int f_m_fails, .ref a_m_order, .int f_m_ordered, .ref a_m_done, .ref a_m_reached, .ref a_m_open, .ref a_m_lateDelay, .ref a_m_earlyDelay, .ref a_m_lateSlope, .ref a_m_earlySlope, .ref a_m_greatest, .ref a_m_least, .ref a_m_howMany, .ref a_m_most, .ref a_m_fewest, .ref a_m_pathsTo, .ref a_m_slackOf, .ref a_m_holdOf, .int f_m_listed, .ref a_m_listSlack, .ref a_m_listStart, .ref a_m_listEdge, .ref a_m_listSize, .ref a_m_listCell, .ref a_m_listInput, .ref a_m_rank, .ref a_m_good, .ref a_m_goCell, .ref a_m_goInput, .ref a_m_goEdge, .ref a_m_goMask, .int f_m_target, .int f_m_shown, .ref a_m_shownCell, .ref a_m_shownInput, .ref a_m_shownEdge, .ref a_m_shownLate, .int f_m_shownSlack, .int f_m_shownHold])), (a_m_kind, aI E 50 g_m_kind), (a_m_through, aI E 4 g_m_through), (a_m_howMany, aI E 1600 y_73), (a_m_most, aI E 1600 y_74), (a_m_lateDelay, aI E 400 g_m_lateDelay), (a_m_fewest, aI E 1600 y_75), (a_m_earlyDelay, aI E 400 g_m_earlyDelay)]) [6, 0, 7, 1, 2, 3, 4, 5] rfl) (hD.sub (ws' := [(o_m, .inr (10, [.int f_m_code, .int f_m_cells, .ref a_m_kind, .ref a_m_inputs, .ref a_m_tableOf, .ref a_m_size, .ref a_m_extra, .ref a_m_taken, .ref a_m_portEarly, .ref a_m_portLate, .ref a_m_portSlope, .ref a_m_nodeOf, .ref a_m_setup, .ref a_m_hold, .ref a_m_seen, .ref a_m_numbers, .ref a_m_rowSize, .ref a_m_fall, .int f_m_late, .int f_m_early, .int f_m_period, .int f_m_nodes, .ref a_m_parent, .ref a_m_nodeEarly, .ref a_m_nodeLate, .int f_m_exceptions, .ref a_m_periods, .ref a_m_from, .ref a_m_through, .ref a_m_toward, .int f_m_fails, .ref a_m_order, .int f_m_ordered, .ref a_m_done, .ref a_m_reached, .ref a_m_open, .ref a_m_lateDelay, .ref a_m_earlyDelay, .ref a_m_lateSlope, .ref a_m_earlySlope, .ref a_m_greatest, .ref a_m_least, .ref a_m_howMany, .ref a_m_most, .ref a_m_fewest, .ref a_m_pathsTo, .ref a_m_slackOf, .ref a_m_holdOf, .int f_m_listed, .ref a_m_listSlack, .ref a_m_listStart, .ref a_m_listEdge, .ref a_m_listSize, .ref a_m_listCell, .ref a_m_listInput, .ref a_m_rank, .ref a_m_good, .ref a_m_goCell, .ref a_m_goInput, .ref a_m_goEdge, .ref a_m_goMask, .int f_m_target, .int f_m_shown, .ref a_m_shownCell, .ref a_m_shownInput, .ref a_m_shownEdge, .ref a_m_shownLate, .int f_m_shownSlack, .int f_m_shownHold])), (a_m_kind, aI E 50 g_m_kind), (a_m_through, aI E 4 g_m_through), (a_m_howMany, aI E 1600 y_73), (a_m_most, aI E 1600 y_74), (a_m_lateDelay, aI E 400 g_m_lateDelay), (a_m_fewest, aI E 1600 y_75), (a_m_earlyDelay, aI E 400 g_m_earlyDelay)]) [6, 0, 7, 1, 2, 3, 4, 5] (by decide) rfl) hS dX10_passes_236 (Nat.le_of_ble_eq_true rfl) (Nat.le_of_ble_eq_true rfl) ⟨y_73, y_74, y_75, rfl⟩
      · have e_77 : y_72.toInt < 16 := i3_nle c_77
        refine lv_bipush (v := 16) hx hb dX10_passes_38 (by decide) ?_
        refine lv_iconst (v := 2) hx hb dX10_passes_40 (by decide) ?_
        refine lv_iload_n hx hb dX10_passes_41 rfl (lv_at hl 4 rfl) ?_
        have b_p1 := r_p1.out
        refine lv_imul hx hb dX10_passes_42 ?_
        refine lv_topi (fun x_78 ex_78 => ?_)
        have tx_78 : x_78.toInt = 2 * p1.toInt := i3_mulc rfl rfl ex_78 (by omega)
        refine lv_iload hx hb dX10_passes_43 (lv_at hl 7 rfl) ?_
        refine lv_iadd hx hb dX10_passes_45 ?_
        refine lv_topi (fun x_79 ex_79 => ?_)
        have tx_79 : x_79.toInt = x_78.toInt + p4.toInt := i3_addc rfl rfl ex_79 (by omega)
        refine lv_imul hx hb dX10_passes_46 ?_
        refine lv_topi (fun x_80 ex_80 => ?_)
        have tx_80 : x_80.toInt = 16 * x_79.toInt := i3_mulc rfl rfl ex_80 (by omega)
        refine lv_iload hx hb dX10_passes_47 (lv_at hl 0 rfl) ?_
        refine lv_iadd hx hb dX10_passes_49 ?_
        refine lv_topi (fun x_81 ex_81 => ?_)
        have tx_81 : x_81.toInt = x_80.toInt + y_72.toInt := i3_addc rfl rfl ex_81 (by omega)
        refine lv_istore (lv' := [(8, .int x_81), (7, .int y_72), (6, .int r_71), (5, .int x_70), (0, .ref o_m), (1, .int p1), (2, .int p2), (3, .int p3), (4, .int p4)]) hx hb dX10_passes_50 hl (by decide) rfl (fun ls hl => ?_)
        refine lv_aload_n hx hb dX10_passes_52 rfl (lv_at hl 4 rfl) ?_
        refine va_get (D := E.1) (ci := 10) (v := .ref a_m_howMany) (own := RX10) (C := RX10) (T := TX10) (N := 69) hx hb hts i_m_passes_X10 hown hK hP 6 rfl rfl 42 (by decide) (hto (.fieldLink RX10 141 "TimingHouseModel" "howMany" "[I") (by decide +kernel)) (fun _ h9 => h9) rfl dX10_passes_53 ?_
        refine lv_iload hx hb dX10_passes_56 (lv_at hl 0 rfl) ?_
        refine ld_i hx hb hK hP 1 rfl (by omega) dX10_passes_58 (fun x_82 ex_82 => ?_)
        refine lv_if_ne (tgt := 65) hx hb dX10_passes_59 (by decide) (fun c_83 => ?_) (fun c_83 => ?_)
        · have e_83 : x_82.toInt ≠ 0 := i3_ne c_83
          refine lv_bipush (v := 16) hx hb dX10_passes_65 (by decide) ?_
          refine lv_iconst (v := 2) hx hb dX10_passes_67 (by decide) ?_
          refine lv_iload_n hx hb dX10_passes_68 rfl (lv_at hl 6 rfl) ?_
          refine lv_imul hx hb dX10_passes_69 ?_
          refine lv_topi (fun x_84 ex_84 => ?_)
          have tx_84 : x_84.toInt = 2 * p2.toInt := i3_mulc rfl rfl ex_84 (by omega)
          refine lv_iload hx hb dX10_passes_70 (lv_at hl 3 rfl) ?_
          refine lv_iadd hx hb dX10_passes_72 ?_
          refine lv_topi (fun x_85 ex_85 => ?_)
          have tx_85 : x_85.toInt = x_84.toInt + x_70.toInt := i3_addc rfl rfl ex_85 (by omega)
          refine lv_imul hx hb dX10_passes_73 ?_
          refine lv_topi (fun x_86 ex_86 => ?_)
          have tx_86 : x_86.toInt = 16 * x_85.toInt := i3_mulc rfl rfl ex_86 (by omega)
          refine lv_iload hx hb dX10_passes_74 (lv_at hl 1 rfl) ?_
          refine lv_iload hx hb dX10_passes_76 (lv_at hl 2 rfl) ?_
          refine lv_ior hx hb dX10_passes_78 ?_
          refine lv_topi (fun x_87 ex_87 => ?_)
          have b_x_87 := i3_or15 ex_87 (by omega) (by omega)
          refine lv_iadd hx hb dX10_passes_79 ?_
          refine lv_topi (fun x_88 ex_88 => ?_)
          have tx_88 : x_88.toInt = x_86.toInt + x_87.toInt := i3_addc rfl rfl ex_88 (by omega)
          refine lv_istore (lv' := [(9, .int x_88), (8, .int x_81), (7, .int y_72), (6, .int r_71), (5, .int x_70), (0, .ref o_m), (1, .int p1), (2, .int p2), (3, .int p3), (4, .int p4)]) hx hb dX10_passes_80 hl (by decide) rfl (fun ls hl => ?_)
          refine lv_aload_n hx hb dX10_passes_82 rfl (lv_at hl 5 rfl) ?_
          refine va_get (D := E.1) (ci := 10) (v := .ref a_m_most) (own := RX10) (C := RX10) (T := TX10) (N := 69) hx hb hts i_m_passes_X10 hown hK hP 6 rfl rfl 43 (by decide) (hto (.fieldLink RX10 144 "TimingHouseModel" "most" "[I") (by decide +kernel)) (fun _ h9 => h9) rfl dX10_passes_83 ?_
          refine lv_iload hx hb dX10_passes_86 (lv_at hl 1 rfl) ?_
          refine ld_i hx hb hK hP 2 rfl (by omega) dX10_passes_88 (fun x_89 ex_89 => ?_)
          refine lv_aload_n hx hb dX10_passes_89 rfl (lv_at hl 5 rfl) ?_
          refine va_get (D := E.1) (ci := 10) (v := .ref a_m_lateDelay) (own := RX10) (C := RX10) (T := TX10) (N := 69) hx hb hts i_m_passes_X10 hown hK hP 6 rfl rfl 36 (by decide) (hto (.fieldLink RX10 123 "TimingHouseModel" "lateDelay" "[I") (by decide +kernel)) (fun _ h9 => h9) rfl dX10_passes_90 ?_
          refine lv_bipush (v := 8) hx hb dX10_passes_93 (by decide) ?_
          refine lv_iload_n hx hb dX10_passes_95 rfl (lv_at hl 7 rfl) ?_
          refine lv_imul hx hb dX10_passes_96 ?_
          refine lv_topi (fun x_90 ex_90 => ?_)
          have tx_90 : x_90.toInt = 8 * p2.toInt := i3_mulc rfl rfl ex_90 (by omega)
          refine lv_iconst (v := 2) hx hb dX10_passes_97 (by decide) ?_
          refine lv_iload_n hx hb dX10_passes_98 rfl (lv_at hl 8 rfl) ?_
          have b_p3 := r_p3.out
          refine lv_imul hx hb dX10_passes_99 ?_
          refine lv_topi (fun x_91 ex_91 => ?_)
          have tx_91 : x_91.toInt = 2 * p3.toInt := i3_mulc rfl rfl ex_91 (by omega)
          refine lv_iadd hx hb dX10_passes_100 ?_
          refine lv_topi (fun x_92 ex_92 => ?_)
          have tx_92 : x_92.toInt = x_90.toInt + x_91.toInt := i3_addc rfl rfl ex_92 (by omega)
          refine lv_iload hx hb dX10_passes_101 (lv_at hl 4 rfl) ?_
          refine lv_iadd hx hb dX10_passes_103 ?_
          refine lv_topi (fun x_93 ex_93 => ?_)
          have tx_93 : x_93.toInt = x_92.toInt + x_70.toInt := i3_addc rfl rfl ex_93 (by omega)
          refine ld_i hx hb hK hP 3 rfl (by omega) dX10_passes_104 (fun x_94 ex_94 => ?_)
          refine lv_iadd hx hb dX10_passes_105 ?_
          refine lv_topi (fun x_95 ex_95 => ?_)
          have bd_96 := i3_bd x_89
          have bd_97 := i3_bd x_94
          refine lv_istore (lv' := [(10, .int x_95), (9, .int x_88), (8, .int x_81), (7, .int y_72), (6, .int r_71), (5, .int x_70), (0, .ref o_m), (1, .int p1), (2, .int p2), (3, .int p3), (4, .int p4)]) hx hb dX10_passes_106 hl (by decide) rfl (fun ls hl => ?_)
          refine lv_aload_n hx hb dX10_passes_108 rfl (lv_at hl 6 rfl) ?_
          refine va_get (D := E.1) (ci := 10) (v := .ref a_m_fewest) (own := RX10) (C := RX10) (T := TX10) (N := 69) hx hb hts i_m_passes_X10 hown hK hP 6 rfl rfl 44 (by decide) (hto (.fieldLink RX10 147 "TimingHouseModel" "fewest" "[I") (by decide +kernel)) (fun _ h9 => h9) rfl dX10_passes_109 ?_
          refine lv_iload hx hb dX10_passes_112 (lv_at hl 2 rfl) ?_
          refine ld_i hx hb hK hP 4 rfl (by omega) dX10_passes_114 (fun x_98 ex_98 => ?_)
          refine lv_aload_n hx hb dX10_passes_115 rfl (lv_at hl 6 rfl) ?_
          refine va_get (D := E.1) (ci := 10) (v := .ref a_m_earlyDelay) (own := RX10) (C := RX10) (T := TX10) (N := 69) hx hb hts i_m_passes_X10 hown hK hP 6 rfl rfl 37 (by decide) (hto (.fieldLink RX10 126 "TimingHouseModel" "earlyDelay" "[I") (by decide +kernel)) (fun _ h9 => h9) rfl dX10_passes_116 ?_
          refine lv_bipush (v := 8) hx hb dX10_passes_119 (by decide) ?_
          refine lv_iload_n hx hb dX10_passes_121 rfl (lv_at hl 8 rfl) ?_
          refine lv_imul hx hb dX10_passes_122 ?_
          refine lv_topi (fun x_99 ex_99 => ?_)
          have hq_x_99 : x_90 = x_99 := ex_90.trans ex_99.symm
          subst hq_x_99
          refine lv_iconst (v := 2) hx hb dX10_passes_123 (by decide) ?_
          refine lv_iload_n hx hb dX10_passes_124 rfl (lv_at hl 9 rfl) ?_
          refine lv_imul hx hb dX10_passes_125 ?_
          refine lv_topi (fun x_100 ex_100 => ?_)
          have hq_x_100 : x_91 = x_100 := ex_91.trans ex_100.symm
          subst hq_x_100
          refine lv_iadd hx hb dX10_passes_126 ?_
          refine lv_topi (fun x_101 ex_101 => ?_)
          have hq_x_101 : x_92 = x_101 := ex_92.trans ex_101.symm
          subst hq_x_101
          refine lv_iload hx hb dX10_passes_127 (lv_at hl 5 rfl) ?_
          refine lv_iadd hx hb dX10_passes_129 ?_
          refine lv_topi (fun x_102 ex_102 => ?_)
          have hq_x_102 : x_93 = x_102 := ex_93.trans ex_102.symm
          subst hq_x_102
          refine ld_i hx hb hK hP 5 rfl (by omega) dX10_passes_130 (fun x_103 ex_103 => ?_)
          refine lv_iadd hx hb dX10_passes_131 ?_
          refine lv_topi (fun x_104 ex_104 => ?_)
          have bd_105 := i3_bd x_98
          have bd_106 := i3_bd x_103
          refine lv_istore (lv' := [(11, .int x_104), (10, .int x_95), (9, .int x_88), (8, .int x_81), (7, .int y_72), (6, .int r_71), (5, .int x_70), (0, .ref o_m), (1, .int p1), (2, .int p2), (3, .int p3), (4, .int p4)]) hx hb dX10_passes_132 hl (by decide) rfl (fun ls hl => ?_)
          refine lv_aload_n hx hb dX10_passes_134 rfl (lv_at hl 7 rfl) ?_
          refine va_get (D := E.1) (ci := 10) (v := .ref a_m_most) (own := RX10) (C := RX10) (T := TX10) (N := 69) hx hb hts i_m_passes_X10 hown hK hP 6 rfl rfl 43 (by decide) (hto (.fieldLink RX10 144 "TimingHouseModel" "most" "[I") (by decide +kernel)) (fun _ h9 => h9) rfl dX10_passes_135 ?_
          refine lv_iload hx hb dX10_passes_138 (lv_at hl 2 rfl) ?_
          refine lv_aload_n hx hb dX10_passes_140 rfl (lv_at hl 7 rfl) ?_
          refine va_get (D := E.1) (ci := 10) (v := .ref a_m_howMany) (own := RX10) (C := RX10) (T := TX10) (N := 69) hx hb hts i_m_passes_X10 hown hK hP 6 rfl rfl 42 (by decide) (hto (.fieldLink RX10 141 "TimingHouseModel" "howMany" "[I") (by decide +kernel)) (fun _ h9 => h9) rfl dX10_passes_141 ?_
          refine lv_iload hx hb dX10_passes_144 (lv_at hl 2 rfl) ?_
          refine ld_i hx hb hK hP 1 rfl (by omega) dX10_passes_146 (fun x_107 ex_107 => ?_)
          refine lv_if_ne (tgt := 155) hx hb dX10_passes_147 (by decide) (fun c_108 => ?_) (fun c_108 => ?_)
          · have e_108 : x_107.toInt ≠ 0 := i3_ne c_108
            refine lv_aload_n hx hb dX10_passes_155 rfl (lv_at hl 7 rfl) ?_
            refine va_get (D := E.1) (ci := 10) (v := .ref a_m_most) (own := RX10) (C := RX10) (T := TX10) (N := 69) hx hb hts i_m_passes_X10 hown hK hP 6 rfl rfl 43 (by decide) (hto (.fieldLink RX10 144 "TimingHouseModel" "most" "[I") (by decide +kernel)) (fun _ h9 => h9) rfl dX10_passes_156 ?_
            refine lv_iload hx hb dX10_passes_159 (lv_at hl 2 rfl) ?_
            refine ld_i hx hb hK hP 2 rfl (by omega) dX10_passes_161 (fun x_109 ex_109 => ?_)
            refine lv_iload hx hb dX10_passes_162 (lv_at hl 1 rfl) ?_
            refine va_mmax hx hb (hml.trans hl.1.symm) hown (hto (.methodLink RX10 260 Lib.Math.max.name) (by decide +kernel)) (hto (.static Lib.Math.max.name) (by decide +kernel)) (hto (.initialized "java/lang/Math") (by decide +kernel)) (hto (.code Lib.Math.max.name Lib.Math.max.code 2 (some .int)) (by decide +kernel)) (Nat.le_of_ble_eq_true rfl) (Nat.le_of_ble_eq_true rfl) (Nat.zero_le _) (Nat.zero_le _) dX10_passes_164 ?_
            refine lv_topi (fun x_110 ex_110 => ?_)
            have m_x_110 : (x_110.toInt ≥ x_109.toInt ∧ x_110.toInt ≥ x_95.toInt) ∧ (x_110.toInt = x_109.toInt ∨ x_110.toInt = x_95.toInt) := i3_max ex_110
            refine st_i hx hb hK hP hD hS 2 rfl (by omega) dX10_passes_167 (fun g_111 H locs eg_111 hP hD hS => ?_)
            clear eg_111
            replace hP : va_P E.1 vwCl [(a_m_kind, aI E 50 g_m_kind), (a_m_howMany, aI E 1600 y_73), (a_m_most, aI E 1600 g_111), (a_m_lateDelay, aI E 400 g_m_lateDelay), (a_m_fewest, aI E 1600 y_75), (a_m_earlyDelay, aI E 400 g_m_earlyDelay), (o_m, .inr (10, [.int f_m_code, .int f_m_cells, .ref a_m_kind, .ref a_m_inputs, .ref a_m_tableOf, .ref a_m_size, .ref a_m_extra, .ref a_m_taken, .ref a_m_portEarly, .ref a_m_portLate, .ref a_m_portSlope, .ref a_m_nodeOf, .ref a_m_setup, .ref a_m_hold, .ref a_m_seen, .ref a_m_numbers, .ref a_m_rowSize, .ref a_m_fall, .int f_m_late, .int f_m_early, .int f_m_period, .int f_m_nodes, .ref a_m_parent, .ref a_m_nodeEarly, .ref a_m_nodeLate, .int f_m_exceptions, .ref a_m_periods, .ref a_m_from, .ref a_m_through, .ref a_m_toward, .int f_m_fails, .ref a_m_order, .int f_m_ordered, .ref a_m_done, .ref a_m_reached, .ref a_m_open, .ref a_m_lateDelay, .ref a_m_earlyDelay, .ref a_m_lateSlope, .ref a_m_earlySlope, .ref a_m_greatest, .ref a_m_least, .ref a_m_howMany, .ref a_m_most, .ref a_m_fewest, .ref a_m_pathsTo, .ref a_m_slackOf, .ref a_m_holdOf, .int f_m_listed, .ref a_m_listSlack, .ref a_m_listStart, .ref a_m_listEdge, .ref a_m_listSize, .ref a_m_listCell, .ref a_m_listInput, .ref a_m_rank, .ref a_m_good, .ref a_m_goCell, .ref a_m_goInput, .ref a_m_goEdge, .ref a_m_goMask, .int f_m_target, .int f_m_shown, .ref a_m_shownCell, .ref a_m_shownInput, .ref a_m_shownEdge, .ref a_m_shownLate, .int f_m_shownSlack, .int f_m_shownHold])), (a_m_through, aI E 4 g_m_through)] H := hP
            replace hD : va_D A [(a_m_kind, aI E 50 g_m_kind), (a_m_howMany, aI E 1600 y_73), (a_m_most, aI E 1600 g_111), (a_m_lateDelay, aI E 400 g_m_lateDelay), (a_m_fewest, aI E 1600 y_75), (a_m_earlyDelay, aI E 400 g_m_earlyDelay), (o_m, .inr (10, [.int f_m_code, .int f_m_cells, .ref a_m_kind, .ref a_m_inputs, .ref a_m_tableOf, .ref a_m_size, .ref a_m_extra, .ref a_m_taken, .ref a_m_portEarly, .ref a_m_portLate, .ref a_m_portSlope, .ref a_m_nodeOf, .ref a_m_setup, .ref a_m_hold, .ref a_m_seen, .ref a_m_numbers, .ref a_m_rowSize, .ref a_m_fall, .int f_m_late, .int f_m_early, .int f_m_period, .int f_m_nodes, .ref a_m_parent, .ref a_m_nodeEarly, .ref a_m_nodeLate, .int f_m_exceptions, .ref a_m_periods, .ref a_m_from, .ref a_m_through, .ref a_m_toward, .int f_m_fails, .ref a_m_order, .int f_m_ordered, .ref a_m_done, .ref a_m_reached, .ref a_m_open, .ref a_m_lateDelay, .ref a_m_earlyDelay, .ref a_m_lateSlope, .ref a_m_earlySlope, .ref a_m_greatest, .ref a_m_least, .ref a_m_howMany, .ref a_m_most, .ref a_m_fewest, .ref a_m_pathsTo, .ref a_m_slackOf, .ref a_m_holdOf, .int f_m_listed, .ref a_m_listSlack, .ref a_m_listStart, .ref a_m_listEdge, .ref a_m_listSize, .ref a_m_listCell, .ref a_m_listInput, .ref a_m_rank, .ref a_m_good, .ref a_m_goCell, .ref a_m_goInput, .ref a_m_goEdge, .ref a_m_goMask, .int f_m_target, .int f_m_shown, .ref a_m_shownCell, .ref a_m_shownInput, .ref a_m_shownEdge, .ref a_m_shownLate, .int f_m_shownSlack, .int f_m_shownHold])), (a_m_through, aI E 4 g_m_through)] := hD
            refine lv_aload_n hx hb dX10_passes_168 rfl (lv_at hl 7 rfl) ?_
            refine va_get (D := E.1) (ci := 10) (v := .ref a_m_fewest) (own := RX10) (C := RX10) (T := TX10) (N := 69) hx hb hts i_m_passes_X10 hown hK hP 6 rfl rfl 44 (by decide) (hto (.fieldLink RX10 147 "TimingHouseModel" "fewest" "[I") (by decide +kernel)) (fun _ h9 => h9) rfl dX10_passes_169 ?_
            refine lv_iload hx hb dX10_passes_172 (lv_at hl 2 rfl) ?_
            refine lv_aload_n hx hb dX10_passes_174 rfl (lv_at hl 7 rfl) ?_
            refine va_get (D := E.1) (ci := 10) (v := .ref a_m_howMany) (own := RX10) (C := RX10) (T := TX10) (N := 69) hx hb hts i_m_passes_X10 hown hK hP 6 rfl rfl 42 (by decide) (hto (.fieldLink RX10 141 "TimingHouseModel" "howMany" "[I") (by decide +kernel)) (fun _ h9 => h9) rfl dX10_passes_175 ?_
            refine lv_iload hx hb dX10_passes_178 (lv_at hl 2 rfl) ?_
            refine ld_i hx hb hK hP 1 rfl (by omega) dX10_passes_180 (fun x_112 ex_112 => ?_)
            have hq_x_112 : x_107 = x_112 := ex_107.trans ex_112.symm
            subst hq_x_112
            refine lv_if_ne (tgt := 189) hx hb dX10_passes_181 (by decide) (fun c_113 => ?_) (fun c_113 => ?_)
            · have e_113 : x_107.toInt ≠ 0 := i3_ne c_113
              refine lv_aload_n hx hb dX10_passes_189 rfl (lv_at hl 7 rfl) ?_
              refine va_get (D := E.1) (ci := 10) (v := .ref a_m_fewest) (own := RX10) (C := RX10) (T := TX10) (N := 69) hx hb hts i_m_passes_X10 hown hK hP 6 rfl rfl 44 (by decide) (hto (.fieldLink RX10 147 "TimingHouseModel" "fewest" "[I") (by decide +kernel)) (fun _ h9 => h9) rfl dX10_passes_190 ?_
              refine lv_iload hx hb dX10_passes_193 (lv_at hl 2 rfl) ?_
              refine ld_i hx hb hK hP 4 rfl (by omega) dX10_passes_195 (fun x_114 ex_114 => ?_)
              refine lv_iload hx hb dX10_passes_196 (lv_at hl 0 rfl) ?_
              refine va_mmin hx hb (hml.trans hl.1.symm) hown (hto (.methodLink RX10 266 Lib.Math.min.name) (by decide +kernel)) (hto (.static Lib.Math.min.name) (by decide +kernel)) (hto (.initialized "java/lang/Math") (by decide +kernel)) (hto (.code Lib.Math.min.name Lib.Math.min.code 2 (some .int)) (by decide +kernel)) (Nat.le_of_ble_eq_true rfl) (Nat.le_of_ble_eq_true rfl) (Nat.zero_le _) (Nat.zero_le _) dX10_passes_198 ?_
              refine lv_topi (fun x_115 ex_115 => ?_)
              have m_x_115 : (x_115.toInt ≤ x_114.toInt ∧ x_115.toInt ≤ x_104.toInt) ∧ (x_115.toInt = x_114.toInt ∨ x_115.toInt = x_104.toInt) := i3_min ex_115
              refine st_i hx hb hK hP hD hS 4 rfl (by omega) dX10_passes_201 (fun g_116 H locs eg_116 hP hD hS => ?_)
              clear eg_116
              replace hP : va_P E.1 vwCl [(a_m_kind, aI E 50 g_m_kind), (a_m_howMany, aI E 1600 y_73), (a_m_most, aI E 1600 g_111), (a_m_lateDelay, aI E 400 g_m_lateDelay), (a_m_fewest, aI E 1600 g_116), (a_m_earlyDelay, aI E 400 g_m_earlyDelay), (o_m, .inr (10, [.int f_m_code, .int f_m_cells, .ref a_m_kind, .ref a_m_inputs, .ref a_m_tableOf, .ref a_m_size, .ref a_m_extra, .ref a_m_taken, .ref a_m_portEarly, .ref a_m_portLate, .ref a_m_portSlope, .ref a_m_nodeOf, .ref a_m_setup, .ref a_m_hold, .ref a_m_seen, .ref a_m_numbers, .ref a_m_rowSize, .ref a_m_fall, .int f_m_late, .int f_m_early, .int f_m_period, .int f_m_nodes, .ref a_m_parent, .ref a_m_nodeEarly, .ref a_m_nodeLate, .int f_m_exceptions, .ref a_m_periods, .ref a_m_from, .ref a_m_through, .ref a_m_toward, .int f_m_fails, .ref a_m_order, .int f_m_ordered, .ref a_m_done, .ref a_m_reached, .ref a_m_open, .ref a_m_lateDelay, .ref a_m_earlyDelay, .ref a_m_lateSlope, .ref a_m_earlySlope, .ref a_m_greatest, .ref a_m_least, .ref a_m_howMany, .ref a_m_most, .ref a_m_fewest, .ref a_m_pathsTo, .ref a_m_slackOf, .ref a_m_holdOf, .int f_m_listed, .ref a_m_listSlack, .ref a_m_listStart, .ref a_m_listEdge, .ref a_m_listSize, .ref a_m_listCell, .ref a_m_listInput, .ref a_m_rank, .ref a_m_good, .ref a_m_goCell, .ref a_m_goInput, .ref a_m_goEdge, .ref a_m_goMask, .int f_m_target, .int f_m_shown, .ref a_m_shownCell, .ref a_m_shownInput, .ref a_m_shownEdge, .ref a_m_shownLate, .int f_m_shownSlack, .int f_m_shownHold])), (a_m_through, aI E 4 g_m_through)] H := hP
              replace hD : va_D A [(a_m_kind, aI E 50 g_m_kind), (a_m_howMany, aI E 1600 y_73), (a_m_most, aI E 1600 g_111), (a_m_lateDelay, aI E 400 g_m_lateDelay), (a_m_fewest, aI E 1600 g_116), (a_m_earlyDelay, aI E 400 g_m_earlyDelay), (o_m, .inr (10, [.int f_m_code, .int f_m_cells, .ref a_m_kind, .ref a_m_inputs, .ref a_m_tableOf, .ref a_m_size, .ref a_m_extra, .ref a_m_taken, .ref a_m_portEarly, .ref a_m_portLate, .ref a_m_portSlope, .ref a_m_nodeOf, .ref a_m_setup, .ref a_m_hold, .ref a_m_seen, .ref a_m_numbers, .ref a_m_rowSize, .ref a_m_fall, .int f_m_late, .int f_m_early, .int f_m_period, .int f_m_nodes, .ref a_m_parent, .ref a_m_nodeEarly, .ref a_m_nodeLate, .int f_m_exceptions, .ref a_m_periods, .ref a_m_from, .ref a_m_through, .ref a_m_toward, .int f_m_fails, .ref a_m_order, .int f_m_ordered, .ref a_m_done, .ref a_m_reached, .ref a_m_open, .ref a_m_lateDelay, .ref a_m_earlyDelay, .ref a_m_lateSlope, .ref a_m_earlySlope, .ref a_m_greatest, .ref a_m_least, .ref a_m_howMany, .ref a_m_most, .ref a_m_fewest, .ref a_m_pathsTo, .ref a_m_slackOf, .ref a_m_holdOf, .int f_m_listed, .ref a_m_listSlack, .ref a_m_listStart, .ref a_m_listEdge, .ref a_m_listSize, .ref a_m_listCell, .ref a_m_listInput, .ref a_m_rank, .ref a_m_good, .ref a_m_goCell, .ref a_m_goInput, .ref a_m_goEdge, .ref a_m_goMask, .int f_m_target, .int f_m_shown, .ref a_m_shownCell, .ref a_m_shownInput, .ref a_m_shownEdge, .ref a_m_shownLate, .int f_m_shownSlack, .int f_m_shownHold])), (a_m_through, aI E 4 g_m_through)] := hD
              refine lv_aload_n hx hb dX10_passes_202 rfl (lv_at hl 7 rfl) ?_
              refine va_get (D := E.1) (ci := 10) (v := .ref a_m_howMany) (own := RX10) (C := RX10) (T := TX10) (N := 69) hx hb hts i_m_passes_X10 hown hK hP 6 rfl rfl 42 (by decide) (hto (.fieldLink RX10 141 "TimingHouseModel" "howMany" "[I") (by decide +kernel)) (fun _ h9 => h9) rfl dX10_passes_203 ?_
              refine lv_iload hx hb dX10_passes_206 (lv_at hl 2 rfl) ?_
              refine lv_sipush (v := 1000) hx hb dX10_passes_208 (by decide) ?_
              refine lv_aload_n hx hb dX10_passes_211 rfl (lv_at hl 7 rfl) ?_
              refine va_get (D := E.1) (ci := 10) (v := .ref a_m_howMany) (own := RX10) (C := RX10) (T := TX10) (N := 69) hx hb hts i_m_passes_X10 hown hK hP 6 rfl rfl 42 (by decide) (hto (.fieldLink RX10 141 "TimingHouseModel" "howMany" "[I") (by decide +kernel)) (fun _ h9 => h9) rfl dX10_passes_212 ?_
              refine lv_iload hx hb dX10_passes_215 (lv_at hl 2 rfl) ?_
              refine ld_i hx hb hK hP 1 rfl (by omega) dX10_passes_217 (fun x_117 ex_117 => ?_)
              have hq_x_117 : x_107 = x_117 := ex_107.trans ex_117.symm
              subst hq_x_117
              refine lv_aload_n hx hb dX10_passes_218 rfl (lv_at hl 7 rfl) ?_
              refine va_get (D := E.1) (ci := 10) (v := .ref a_m_howMany) (own := RX10) (C := RX10) (T := TX10) (N := 69) hx hb hts i_m_passes_X10 hown hK hP 6 rfl rfl 42 (by decide) (hto (.fieldLink RX10 141 "TimingHouseModel" "howMany" "[I") (by decide +kernel)) (fun _ h9 => h9) rfl dX10_passes_219 ?_
              refine lv_iload hx hb dX10_passes_222 (lv_at hl 3 rfl) ?_
              refine ld_i hx hb hK hP 1 rfl (by omega) dX10_passes_224 (fun x_118 ex_118 => ?_)
              have hq_x_118 : x_82 = x_118 := ex_82.trans ex_118.symm
              subst hq_x_118
              refine lv_iadd hx hb dX10_passes_225 ?_
              refine lv_topi (fun x_119 ex_119 => ?_)
              have bd_120 := i3_bd x_107
              have bd_121 := i3_bd x_82
              refine va_mmin hx hb (hml.trans hl.1.symm) hown (hto (.methodLink RX10 266 Lib.Math.min.name) (by decide +kernel)) (hto (.static Lib.Math.min.name) (by decide +kernel)) (hto (.initialized "java/lang/Math") (by decide +kernel)) (hto (.code Lib.Math.min.name Lib.Math.min.code 2 (some .int)) (by decide +kernel)) (Nat.le_of_ble_eq_true rfl) (Nat.le_of_ble_eq_true rfl) (Nat.zero_le _) (Nat.zero_le _) dX10_passes_226 ?_
              refine lv_topi (fun x_122 ex_122 => ?_)
              have m_x_122 : (x_122.toInt ≤ 1000 ∧ x_122.toInt ≤ x_119.toInt) ∧ (x_122.toInt = 1000 ∨ x_122.toInt = x_119.toInt) := i3_min ex_122
              have bd_123 := i3_bd x_119
              refine st_i hx hb hK hP hD hS 1 rfl (by omega) dX10_passes_229 (fun g_124 H locs eg_124 hP hD hS => ?_)
              clear eg_124
              replace hP : va_P E.1 vwCl [(a_m_kind, aI E 50 g_m_kind), (a_m_howMany, aI E 1600 g_124), (a_m_most, aI E 1600 g_111), (a_m_lateDelay, aI E 400 g_m_lateDelay), (a_m_fewest, aI E 1600 g_116), (a_m_earlyDelay, aI E 400 g_m_earlyDelay), (o_m, .inr (10, [.int f_m_code, .int f_m_cells, .ref a_m_kind, .ref a_m_inputs, .ref a_m_tableOf, .ref a_m_size, .ref a_m_extra, .ref a_m_taken, .ref a_m_portEarly, .ref a_m_portLate, .ref a_m_portSlope, .ref a_m_nodeOf, .ref a_m_setup, .ref a_m_hold, .ref a_m_seen, .ref a_m_numbers, .ref a_m_rowSize, .ref a_m_fall, .int f_m_late, .int f_m_early, .int f_m_period, .int f_m_nodes, .ref a_m_parent, .ref a_m_nodeEarly, .ref a_m_nodeLate, .int f_m_exceptions, .ref a_m_periods, .ref a_m_from, .ref a_m_through, .ref a_m_toward, .int f_m_fails, .ref a_m_order, .int f_m_ordered, .ref a_m_done, .ref a_m_reached, .ref a_m_open, .ref a_m_lateDelay, .ref a_m_earlyDelay, .ref a_m_lateSlope, .ref a_m_earlySlope, .ref a_m_greatest, .ref a_m_least, .ref a_m_howMany, .ref a_m_most, .ref a_m_fewest, .ref a_m_pathsTo, .ref a_m_slackOf, .ref a_m_holdOf, .int f_m_listed, .ref a_m_listSlack, .ref a_m_listStart, .ref a_m_listEdge, .ref a_m_listSize, .ref a_m_listCell, .ref a_m_listInput, .ref a_m_rank, .ref a_m_good, .ref a_m_goCell, .ref a_m_goInput, .ref a_m_goEdge, .ref a_m_goMask, .int f_m_target, .int f_m_shown, .ref a_m_shownCell, .ref a_m_shownInput, .ref a_m_shownEdge, .ref a_m_shownLate, .int f_m_shownSlack, .int f_m_shownHold])), (a_m_through, aI E 4 g_m_through)] H := hP
              replace hD : va_D A [(a_m_kind, aI E 50 g_m_kind), (a_m_howMany, aI E 1600 g_124), (a_m_most, aI E 1600 g_111), (a_m_lateDelay, aI E 400 g_m_lateDelay), (a_m_fewest, aI E 1600 g_116), (a_m_earlyDelay, aI E 400 g_m_earlyDelay), (o_m, .inr (10, [.int f_m_code, .int f_m_cells, .ref a_m_kind, .ref a_m_inputs, .ref a_m_tableOf, .ref a_m_size, .ref a_m_extra, .ref a_m_taken, .ref a_m_portEarly, .ref a_m_portLate, .ref a_m_portSlope, .ref a_m_nodeOf, .ref a_m_setup, .ref a_m_hold, .ref a_m_seen, .ref a_m_numbers, .ref a_m_rowSize, .ref a_m_fall, .int f_m_late, .int f_m_early, .int f_m_period, .int f_m_nodes, .ref a_m_parent, .ref a_m_nodeEarly, .ref a_m_nodeLate, .int f_m_exceptions, .ref a_m_periods, .ref a_m_from, .ref a_m_through, .ref a_m_toward, .int f_m_fails, .ref a_m_order, .int f_m_ordered, .ref a_m_done, .ref a_m_reached, .ref a_m_open, .ref a_m_lateDelay, .ref a_m_earlyDelay, .ref a_m_lateSlope, .ref a_m_earlySlope, .ref a_m_greatest, .ref a_m_least, .ref a_m_howMany, .ref a_m_most, .ref a_m_fewest, .ref a_m_pathsTo, .ref a_m_slackOf, .ref a_m_holdOf, .int f_m_listed, .ref a_m_listSlack, .ref a_m_listStart, .ref a_m_listEdge, .ref a_m_listSize, .ref a_m_listCell, .ref a_m_listInput, .ref a_m_rank, .ref a_m_good, .ref a_m_goCell, .ref a_m_goInput, .ref a_m_goEdge, .ref a_m_goMask, .int f_m_target, .int f_m_shown, .ref a_m_shownCell, .ref a_m_shownInput, .ref a_m_shownEdge, .ref a_m_shownLate, .int f_m_shownSlack, .int f_m_shownHold])), (a_m_through, aI E 4 g_m_through)] := hD
              obtain ⟨x_125, ex_125⟩ : ∃ y : Int32, y = y_72 + 1 := ⟨_, rfl⟩
              have tx_125 : x_125.toInt = y_72.toInt + 1 := i3_addc rfl rfl ex_125 (by omega)
              refine lv_iinc (v := x_125) (lv' := [(7, .int x_125), (11, .int x_104), (10, .int x_95), (9, .int x_88), (8, .int x_81), (6, .int r_71), (5, .int x_70), (0, .ref o_m), (1, .int p1), (2, .int p2), (3, .int p3), (4, .int p4)]) hx hb dX10_passes_230 hl (k := 4) rfl (by rw [ex_125]; rfl) (by decide) rfl (fun ls hl => ?_)
              refine lv_goto (tgt := 31) hx hb dX10_passes_233 (by decide) ?_
              replace hl : lv_has ls 12 [(7, .int x_125), (6, .int r_71), (5, .int x_70), (0, .ref o_m), (1, .int p1), (2, .int p2), (3, .int p3), (4, .int p4)] := lv_sub hl [0, 5, 6, 7, 8, 9, 10, 11] rfl
              apply ih_d_76 (y_72 := x_125) (y_73 := g_124) (y_74 := g_111) (y_75 := g_116) (H := H) (locs := locs) (ls := ls) <;> first | assumption | omega | decide
            · have e_113 : x_107.toInt = 0 := i3_eq c_113
              exfalso; omega
          · have e_108 : x_107.toInt = 0 := i3_eq c_108
            refine lv_iload hx hb dX10_passes_150 (lv_at hl 1 rfl) ?_
            refine lv_goto (tgt := 167) hx hb dX10_passes_152 (by decide) ?_
            refine st_i hx hb hK hP hD hS 2 rfl (by omega) dX10_passes_167 (fun g_126 H locs eg_126 hP hD hS => ?_)
            clear eg_126
            replace hP : va_P E.1 vwCl [(a_m_kind, aI E 50 g_m_kind), (a_m_howMany, aI E 1600 y_73), (a_m_most, aI E 1600 g_126), (a_m_lateDelay, aI E 400 g_m_lateDelay), (a_m_fewest, aI E 1600 y_75), (a_m_earlyDelay, aI E 400 g_m_earlyDelay), (o_m, .inr (10, [.int f_m_code, .int f_m_cells, .ref a_m_kind, .ref a_m_inputs, .ref a_m_tableOf, .ref a_m_size, .ref a_m_extra, .ref a_m_taken, .ref a_m_portEarly, .ref a_m_portLate, .ref a_m_portSlope, .ref a_m_nodeOf, .ref a_m_setup, .ref a_m_hold, .ref a_m_seen, .ref a_m_numbers, .ref a_m_rowSize, .ref a_m_fall, .int f_m_late, .int f_m_early, .int f_m_period, .int f_m_nodes, .ref a_m_parent, .ref a_m_nodeEarly, .ref a_m_nodeLate, .int f_m_exceptions, .ref a_m_periods, .ref a_m_from, .ref a_m_through, .ref a_m_toward, .int f_m_fails, .ref a_m_order, .int f_m_ordered, .ref a_m_done, .ref a_m_reached, .ref a_m_open, .ref a_m_lateDelay, .ref a_m_earlyDelay, .ref a_m_lateSlope, .ref a_m_earlySlope, .ref a_m_greatest, .ref a_m_least, .ref a_m_howMany, .ref a_m_most, .ref a_m_fewest, .ref a_m_pathsTo, .ref a_m_slackOf, .ref a_m_holdOf, .int f_m_listed, .ref a_m_listSlack, .ref a_m_listStart, .ref a_m_listEdge, .ref a_m_listSize, .ref a_m_listCell, .ref a_m_listInput, .ref a_m_rank, .ref a_m_good, .ref a_m_goCell, .ref a_m_goInput, .ref a_m_goEdge, .ref a_m_goMask, .int f_m_target, .int f_m_shown, .ref a_m_shownCell, .ref a_m_shownInput, .ref a_m_shownEdge, .ref a_m_shownLate, .int f_m_shownSlack, .int f_m_shownHold])), (a_m_through, aI E 4 g_m_through)] H := hP
            replace hD : va_D A [(a_m_kind, aI E 50 g_m_kind), (a_m_howMany, aI E 1600 y_73), (a_m_most, aI E 1600 g_126), (a_m_lateDelay, aI E 400 g_m_lateDelay), (a_m_fewest, aI E 1600 y_75), (a_m_earlyDelay, aI E 400 g_m_earlyDelay), (o_m, .inr (10, [.int f_m_code, .int f_m_cells, .ref a_m_kind, .ref a_m_inputs, .ref a_m_tableOf, .ref a_m_size, .ref a_m_extra, .ref a_m_taken, .ref a_m_portEarly, .ref a_m_portLate, .ref a_m_portSlope, .ref a_m_nodeOf, .ref a_m_setup, .ref a_m_hold, .ref a_m_seen, .ref a_m_numbers, .ref a_m_rowSize, .ref a_m_fall, .int f_m_late, .int f_m_early, .int f_m_period, .int f_m_nodes, .ref a_m_parent, .ref a_m_nodeEarly, .ref a_m_nodeLate, .int f_m_exceptions, .ref a_m_periods, .ref a_m_from, .ref a_m_through, .ref a_m_toward, .int f_m_fails, .ref a_m_order, .int f_m_ordered, .ref a_m_done, .ref a_m_reached, .ref a_m_open, .ref a_m_lateDelay, .ref a_m_earlyDelay, .ref a_m_lateSlope, .ref a_m_earlySlope, .ref a_m_greatest, .ref a_m_least, .ref a_m_howMany, .ref a_m_most, .ref a_m_fewest, .ref a_m_pathsTo, .ref a_m_slackOf, .ref a_m_holdOf, .int f_m_listed, .ref a_m_listSlack, .ref a_m_listStart, .ref a_m_listEdge, .ref a_m_listSize, .ref a_m_listCell, .ref a_m_listInput, .ref a_m_rank, .ref a_m_good, .ref a_m_goCell, .ref a_m_goInput, .ref a_m_goEdge, .ref a_m_goMask, .int f_m_target, .int f_m_shown, .ref a_m_shownCell, .ref a_m_shownInput, .ref a_m_shownEdge, .ref a_m_shownLate, .int f_m_shownSlack, .int f_m_shownHold])), (a_m_through, aI E 4 g_m_through)] := hD
            refine lv_aload_n hx hb dX10_passes_168 rfl (lv_at hl 7 rfl) ?_
            refine va_get (D := E.1) (ci := 10) (v := .ref a_m_fewest) (own := RX10) (C := RX10) (T := TX10) (N := 69) hx hb hts i_m_passes_X10 hown hK hP 6 rfl rfl 44 (by decide) (hto (.fieldLink RX10 147 "TimingHouseModel" "fewest" "[I") (by decide +kernel)) (fun _ h9 => h9) rfl dX10_passes_169 ?_
            refine lv_iload hx hb dX10_passes_172 (lv_at hl 2 rfl) ?_
            refine lv_aload_n hx hb dX10_passes_174 rfl (lv_at hl 7 rfl) ?_
            refine va_get (D := E.1) (ci := 10) (v := .ref a_m_howMany) (own := RX10) (C := RX10) (T := TX10) (N := 69) hx hb hts i_m_passes_X10 hown hK hP 6 rfl rfl 42 (by decide) (hto (.fieldLink RX10 141 "TimingHouseModel" "howMany" "[I") (by decide +kernel)) (fun _ h9 => h9) rfl dX10_passes_175 ?_
            refine lv_iload hx hb dX10_passes_178 (lv_at hl 2 rfl) ?_
            refine ld_i hx hb hK hP 1 rfl (by omega) dX10_passes_180 (fun x_127 ex_127 => ?_)
            have hq_x_127 : x_107 = x_127 := ex_107.trans ex_127.symm
            subst hq_x_127
            refine lv_if_ne (tgt := 189) hx hb dX10_passes_181 (by decide) (fun c_128 => ?_) (fun c_128 => ?_)
            · have e_128 : x_107.toInt ≠ 0 := i3_ne c_128
              exfalso; omega
            · have e_128 : x_107.toInt = 0 := i3_eq c_128
              refine lv_iload hx hb dX10_passes_184 (lv_at hl 0 rfl) ?_
              refine lv_goto (tgt := 201) hx hb dX10_passes_186 (by decide) ?_
              refine st_i hx hb hK hP hD hS 4 rfl (by omega) dX10_passes_201 (fun g_129 H locs eg_129 hP hD hS => ?_)
              clear eg_129
              replace hP : va_P E.1 vwCl [(a_m_kind, aI E 50 g_m_kind), (a_m_howMany, aI E 1600 y_73), (a_m_most, aI E 1600 g_126), (a_m_lateDelay, aI E 400 g_m_lateDelay), (a_m_fewest, aI E 1600 g_129), (a_m_earlyDelay, aI E 400 g_m_earlyDelay), (o_m, .inr (10, [.int f_m_code, .int f_m_cells, .ref a_m_kind, .ref a_m_inputs, .ref a_m_tableOf, .ref a_m_size, .ref a_m_extra, .ref a_m_taken, .ref a_m_portEarly, .ref a_m_portLate, .ref a_m_portSlope, .ref a_m_nodeOf, .ref a_m_setup, .ref a_m_hold, .ref a_m_seen, .ref a_m_numbers, .ref a_m_rowSize, .ref a_m_fall, .int f_m_late, .int f_m_early, .int f_m_period, .int f_m_nodes, .ref a_m_parent, .ref a_m_nodeEarly, .ref a_m_nodeLate, .int f_m_exceptions, .ref a_m_periods, .ref a_m_from, .ref a_m_through, .ref a_m_toward, .int f_m_fails, .ref a_m_order, .int f_m_ordered, .ref a_m_done, .ref a_m_reached, .ref a_m_open, .ref a_m_lateDelay, .ref a_m_earlyDelay, .ref a_m_lateSlope, .ref a_m_earlySlope, .ref a_m_greatest, .ref a_m_least, .ref a_m_howMany, .ref a_m_most, .ref a_m_fewest, .ref a_m_pathsTo, .ref a_m_slackOf, .ref a_m_holdOf, .int f_m_listed, .ref a_m_listSlack, .ref a_m_listStart, .ref a_m_listEdge, .ref a_m_listSize, .ref a_m_listCell, .ref a_m_listInput, .ref a_m_rank, .ref a_m_good, .ref a_m_goCell, .ref a_m_goInput, .ref a_m_goEdge, .ref a_m_goMask, .int f_m_target, .int f_m_shown, .ref a_m_shownCell, .ref a_m_shownInput, .ref a_m_shownEdge, .ref a_m_shownLate, .int f_m_shownSlack, .int f_m_shownHold])), (a_m_through, aI E 4 g_m_through)] H := hP
              replace hD : va_D A [(a_m_kind, aI E 50 g_m_kind), (a_m_howMany, aI E 1600 y_73), (a_m_most, aI E 1600 g_126), (a_m_lateDelay, aI E 400 g_m_lateDelay), (a_m_fewest, aI E 1600 g_129), (a_m_earlyDelay, aI E 400 g_m_earlyDelay), (o_m, .inr (10, [.int f_m_code, .int f_m_cells, .ref a_m_kind, .ref a_m_inputs, .ref a_m_tableOf, .ref a_m_size, .ref a_m_extra, .ref a_m_taken, .ref a_m_portEarly, .ref a_m_portLate, .ref a_m_portSlope, .ref a_m_nodeOf, .ref a_m_setup, .ref a_m_hold, .ref a_m_seen, .ref a_m_numbers, .ref a_m_rowSize, .ref a_m_fall, .int f_m_late, .int f_m_early, .int f_m_period, .int f_m_nodes, .ref a_m_parent, .ref a_m_nodeEarly, .ref a_m_nodeLate, .int f_m_exceptions, .ref a_m_periods, .ref a_m_from, .ref a_m_through, .ref a_m_toward, .int f_m_fails, .ref a_m_order, .int f_m_ordered, .ref a_m_done, .ref a_m_reached, .ref a_m_open, .ref a_m_lateDelay, .ref a_m_earlyDelay, .ref a_m_lateSlope, .ref a_m_earlySlope, .ref a_m_greatest, .ref a_m_least, .ref a_m_howMany, .ref a_m_most, .ref a_m_fewest, .ref a_m_pathsTo, .ref a_m_slackOf, .ref a_m_holdOf, .int f_m_listed, .ref a_m_listSlack, .ref a_m_listStart, .ref a_m_listEdge, .ref a_m_listSize, .ref a_m_listCell, .ref a_m_listInput, .ref a_m_rank, .ref a_m_good, .ref a_m_goCell, .ref a_m_goInput, .ref a_m_goEdge, .ref a_m_goMask, .int f_m_target, .int f_m_shown, .ref a_m_shownCell, .ref a_m_shownInput, .ref a_m_shownEdge, .ref a_m_shownLate, .int f_m_shownSlack, .int f_m_shownHold])), (a_m_through, aI E 4 g_m_through)] := hD
              refine lv_aload_n hx hb dX10_passes_202 rfl (lv_at hl 7 rfl) ?_
              refine va_get (D := E.1) (ci := 10) (v := .ref a_m_howMany) (own := RX10) (C := RX10) (T := TX10) (N := 69) hx hb hts i_m_passes_X10 hown hK hP 6 rfl rfl 42 (by decide) (hto (.fieldLink RX10 141 "TimingHouseModel" "howMany" "[I") (by decide +kernel)) (fun _ h9 => h9) rfl dX10_passes_203 ?_
              refine lv_iload hx hb dX10_passes_206 (lv_at hl 2 rfl) ?_
              refine lv_sipush (v := 1000) hx hb dX10_passes_208 (by decide) ?_
              refine lv_aload_n hx hb dX10_passes_211 rfl (lv_at hl 7 rfl) ?_
              refine va_get (D := E.1) (ci := 10) (v := .ref a_m_howMany) (own := RX10) (C := RX10) (T := TX10) (N := 69) hx hb hts i_m_passes_X10 hown hK hP 6 rfl rfl 42 (by decide) (hto (.fieldLink RX10 141 "TimingHouseModel" "howMany" "[I") (by decide +kernel)) (fun _ h9 => h9) rfl dX10_passes_212 ?_
              refine lv_iload hx hb dX10_passes_215 (lv_at hl 2 rfl) ?_
              refine ld_i hx hb hK hP 1 rfl (by omega) dX10_passes_217 (fun x_130 ex_130 => ?_)
              have hq_x_130 : x_107 = x_130 := ex_107.trans ex_130.symm
              subst hq_x_130
              refine lv_aload_n hx hb dX10_passes_218 rfl (lv_at hl 7 rfl) ?_
              refine va_get (D := E.1) (ci := 10) (v := .ref a_m_howMany) (own := RX10) (C := RX10) (T := TX10) (N := 69) hx hb hts i_m_passes_X10 hown hK hP 6 rfl rfl 42 (by decide) (hto (.fieldLink RX10 141 "TimingHouseModel" "howMany" "[I") (by decide +kernel)) (fun _ h9 => h9) rfl dX10_passes_219 ?_
              refine lv_iload hx hb dX10_passes_222 (lv_at hl 3 rfl) ?_
              refine ld_i hx hb hK hP 1 rfl (by omega) dX10_passes_224 (fun x_131 ex_131 => ?_)
              have hq_x_131 : x_82 = x_131 := ex_82.trans ex_131.symm
              subst hq_x_131
              refine lv_iadd hx hb dX10_passes_225 ?_
              refine lv_topi (fun x_132 ex_132 => ?_)
              have bd_133 := i3_bd x_82
              have tx_132 : x_132.toInt = x_107.toInt + x_82.toInt := i3_addc rfl rfl ex_132 (by omega)
              refine va_mmin hx hb (hml.trans hl.1.symm) hown (hto (.methodLink RX10 266 Lib.Math.min.name) (by decide +kernel)) (hto (.static Lib.Math.min.name) (by decide +kernel)) (hto (.initialized "java/lang/Math") (by decide +kernel)) (hto (.code Lib.Math.min.name Lib.Math.min.code 2 (some .int)) (by decide +kernel)) (Nat.le_of_ble_eq_true rfl) (Nat.le_of_ble_eq_true rfl) (Nat.zero_le _) (Nat.zero_le _) dX10_passes_226 ?_
              refine lv_topi (fun x_134 ex_134 => ?_)
              have m_x_134 : (x_134.toInt ≤ 1000 ∧ x_134.toInt ≤ x_132.toInt) ∧ (x_134.toInt = 1000 ∨ x_134.toInt = x_132.toInt) := i3_min ex_134
              refine st_i hx hb hK hP hD hS 1 rfl (by omega) dX10_passes_229 (fun g_135 H locs eg_135 hP hD hS => ?_)
              clear eg_135
              replace hP : va_P E.1 vwCl [(a_m_kind, aI E 50 g_m_kind), (a_m_howMany, aI E 1600 g_135), (a_m_most, aI E 1600 g_126), (a_m_lateDelay, aI E 400 g_m_lateDelay), (a_m_fewest, aI E 1600 g_129), (a_m_earlyDelay, aI E 400 g_m_earlyDelay), (o_m, .inr (10, [.int f_m_code, .int f_m_cells, .ref a_m_kind, .ref a_m_inputs, .ref a_m_tableOf, .ref a_m_size, .ref a_m_extra, .ref a_m_taken, .ref a_m_portEarly, .ref a_m_portLate, .ref a_m_portSlope, .ref a_m_nodeOf, .ref a_m_setup, .ref a_m_hold, .ref a_m_seen, .ref a_m_numbers, .ref a_m_rowSize, .ref a_m_fall, .int f_m_late, .int f_m_early, .int f_m_period, .int f_m_nodes, .ref a_m_parent, .ref a_m_nodeEarly, .ref a_m_nodeLate, .int f_m_exceptions, .ref a_m_periods, .ref a_m_from, .ref a_m_through, .ref a_m_toward, .int f_m_fails, .ref a_m_order, .int f_m_ordered, .ref a_m_done, .ref a_m_reached, .ref a_m_open, .ref a_m_lateDelay, .ref a_m_earlyDelay, .ref a_m_lateSlope, .ref a_m_earlySlope, .ref a_m_greatest, .ref a_m_least, .ref a_m_howMany, .ref a_m_most, .ref a_m_fewest, .ref a_m_pathsTo, .ref a_m_slackOf, .ref a_m_holdOf, .int f_m_listed, .ref a_m_listSlack, .ref a_m_listStart, .ref a_m_listEdge, .ref a_m_listSize, .ref a_m_listCell, .ref a_m_listInput, .ref a_m_rank, .ref a_m_good, .ref a_m_goCell, .ref a_m_goInput, .ref a_m_goEdge, .ref a_m_goMask, .int f_m_target, .int f_m_shown, .ref a_m_shownCell, .ref a_m_shownInput, .ref a_m_shownEdge, .ref a_m_shownLate, .int f_m_shownSlack, .int f_m_shownHold])), (a_m_through, aI E 4 g_m_through)] H := hP
              replace hD : va_D A [(a_m_kind, aI E 50 g_m_kind), (a_m_howMany, aI E 1600 g_135), (a_m_most, aI E 1600 g_126), (a_m_lateDelay, aI E 400 g_m_lateDelay), (a_m_fewest, aI E 1600 g_129), (a_m_earlyDelay, aI E 400 g_m_earlyDelay), (o_m, .inr (10, [.int f_m_code, .int f_m_cells, .ref a_m_kind, .ref a_m_inputs, .ref a_m_tableOf, .ref a_m_size, .ref a_m_extra, .ref a_m_taken, .ref a_m_portEarly, .ref a_m_portLate, .ref a_m_portSlope, .ref a_m_nodeOf, .ref a_m_setup, .ref a_m_hold, .ref a_m_seen, .ref a_m_numbers, .ref a_m_rowSize, .ref a_m_fall, .int f_m_late, .int f_m_early, .int f_m_period, .int f_m_nodes, .ref a_m_parent, .ref a_m_nodeEarly, .ref a_m_nodeLate, .int f_m_exceptions, .ref a_m_periods, .ref a_m_from, .ref a_m_through, .ref a_m_toward, .int f_m_fails, .ref a_m_order, .int f_m_ordered, .ref a_m_done, .ref a_m_reached, .ref a_m_open, .ref a_m_lateDelay, .ref a_m_earlyDelay, .ref a_m_lateSlope, .ref a_m_earlySlope, .ref a_m_greatest, .ref a_m_least, .ref a_m_howMany, .ref a_m_most, .ref a_m_fewest, .ref a_m_pathsTo, .ref a_m_slackOf, .ref a_m_holdOf, .int f_m_listed, .ref a_m_listSlack, .ref a_m_listStart, .ref a_m_listEdge, .ref a_m_listSize, .ref a_m_listCell, .ref a_m_listInput, .ref a_m_rank, .ref a_m_good, .ref a_m_goCell, .ref a_m_goInput, .ref a_m_goEdge, .ref a_m_goMask, .int f_m_target, .int f_m_shown, .ref a_m_shownCell, .ref a_m_shownInput, .ref a_m_shownEdge, .ref a_m_shownLate, .int f_m_shownSlack, .int f_m_shownHold])), (a_m_through, aI E 4 g_m_through)] := hD
              obtain ⟨x_136, ex_136⟩ : ∃ y : Int32, y = y_72 + 1 := ⟨_, rfl⟩
              have tx_136 : x_136.toInt = y_72.toInt + 1 := i3_addc rfl rfl ex_136 (by omega)
              refine lv_iinc (v := x_136) (lv' := [(7, .int x_136), (11, .int x_104), (10, .int x_95), (9, .int x_88), (8, .int x_81), (6, .int r_71), (5, .int x_70), (0, .ref o_m), (1, .int p1), (2, .int p2), (3, .int p3), (4, .int p4)]) hx hb dX10_passes_230 hl (k := 4) rfl (by rw [ex_136]; rfl) (by decide) rfl (fun ls hl => ?_)
              refine lv_goto (tgt := 31) hx hb dX10_passes_233 (by decide) ?_
              replace hl : lv_has ls 12 [(7, .int x_136), (6, .int r_71), (5, .int x_70), (0, .ref o_m), (1, .int p1), (2, .int p2), (3, .int p3), (4, .int p4)] := lv_sub hl [0, 5, 6, 7, 8, 9, 10, 11] rfl
              apply ih_d_76 (y_72 := x_136) (y_73 := g_135) (y_74 := g_126) (y_75 := g_129) (H := H) (locs := locs) (ls := ls) <;> first | assumption | omega | decide
        · have e_83 : x_82.toInt = 0 := i3_eq c_83
          refine lv_goto (tgt := 230) hx hb dX10_passes_62 (by decide) ?_
          obtain ⟨x_137, ex_137⟩ : ∃ y : Int32, y = y_72 + 1 := ⟨_, rfl⟩
          have tx_137 : x_137.toInt = y_72.toInt + 1 := i3_addc rfl rfl ex_137 (by omega)
          refine lv_iinc (v := x_137) (lv' := [(7, .int x_137), (8, .int x_81), (6, .int r_71), (5, .int x_70), (0, .ref o_m), (1, .int p1), (2, .int p2), (3, .int p3), (4, .int p4)]) hx hb dX10_passes_230 hl (k := 1) rfl (by rw [ex_137]; rfl) (by decide) rfl (fun ls hl => ?_)
          refine lv_goto (tgt := 31) hx hb dX10_passes_233 (by decide) ?_
          replace hl : lv_has ls 12 [(7, .int x_137), (6, .int r_71), (5, .int x_70), (0, .ref o_m), (1, .int p1), (2, .int p2), (3, .int p3), (4, .int p4)] := lv_sub hl [0, 2, 3, 4, 5, 6, 7, 8] rfl
          apply ih_d_76 (y_72 := x_137) (y_73 := y_73) (y_74 := y_74) (y_75 := y_75) (H := H) (locs := locs) (ls := ls) <;> first | assumption | omega | decide
