theorem dX10_arrive_0 : decode cX10_arrive 0 = .ok (.aload_n 0, 1) := by decide +kernel
theorem dX10_arrive_1 : decode cX10_arrive 1 = .ok (.iload_n 1, 1) := by decide +kernel
theorem dX10_arrive_2 : decode cX10_arrive 2 = .ok (.invokevirtual 55, 3) := by decide +kernel
theorem dX10_arrive_5 : decode cX10_arrive 5 = .ok (.ifCond .ne 36, 3) := by decide +kernel
theorem dX10_arrive_41 : decode cX10_arrive 41 = .ok (.iconst 0, 1) := by decide +kernel
theorem dX10_arrive_42 : decode cX10_arrive 42 = .ok (.istore_n 3, 1) := by decide +kernel
theorem dX10_arrive_43 : decode cX10_arrive 43 = .ok (.iconst 0, 1) := by decide +kernel
theorem dX10_arrive_44 : decode cX10_arrive 44 = .ok (.istore 4, 2) := by decide +kernel
theorem dX10_arrive_46 : decode cX10_arrive 46 = .ok (.iload 4, 2) := by decide +kernel
theorem dX10_arrive_48 : decode cX10_arrive 48 = .ok (.aload_n 0, 1) := by decide +kernel
theorem dX10_arrive_49 : decode cX10_arrive 49 = .ok (.getfield 14, 3) := by decide +kernel
theorem dX10_arrive_52 : decode cX10_arrive 52 = .ok (.iload_n 1, 1) := by decide +kernel
theorem dX10_arrive_53 : decode cX10_arrive 53 = .ok (.iaload, 1) := by decide +kernel
theorem dX10_arrive_54 : decode cX10_arrive 54 = .ok (.if_icmp .ge 191, 3) := by decide +kernel
theorem dX10_arrive_245 : decode cX10_arrive 245 = .ok (.return_, 1) := by decide +kernel
theorem dX10_arrive_57 : decode cX10_arrive 57 = .ok (.aload_n 0, 1) := by decide +kernel
theorem dX10_arrive_58 : decode cX10_arrive 58 = .ok (.getfield 30, 3) := by decide +kernel
theorem dX10_arrive_61 : decode cX10_arrive 61 = .ok (.iconst 4, 1) := by decide +kernel
theorem dX10_arrive_62 : decode cX10_arrive 62 = .ok (.iload_n 1, 1) := by decide +kernel
theorem dX10_arrive_63 : decode cX10_arrive 63 = .ok (.imul, 1) := by decide +kernel
theorem dX10_arrive_64 : decode cX10_arrive 64 = .ok (.iload 4, 2) := by decide +kernel
theorem dX10_arrive_66 : decode cX10_arrive 66 = .ok (.iadd, 1) := by decide +kernel
theorem dX10_arrive_67 : decode cX10_arrive 67 = .ok (.iaload, 1) := by decide +kernel
theorem dX10_arrive_68 : decode cX10_arrive 68 = .ok (.istore 5, 2) := by decide +kernel
theorem dX10_arrive_70 : decode cX10_arrive 70 = .ok (.iload 5, 2) := by decide +kernel
theorem dX10_arrive_72 : decode cX10_arrive 72 = .ok (.ifCond .lt 167, 3) := by decide +kernel
theorem dX10_arrive_239 : decode cX10_arrive 239 = .ok (.iinc 4 1, 3) := by decide +kernel
theorem dX10_arrive_242 : decode cX10_arrive 242 = .ok (.goto (-196), 3) := by decide +kernel
theorem dX10_arrive_75 : decode cX10_arrive 75 = .ok (.aload_n 0, 1) := by decide +kernel
theorem dX10_arrive_76 : decode cX10_arrive 76 = .ok (.getfield 117, 3) := by decide +kernel
theorem dX10_arrive_79 : decode cX10_arrive 79 = .ok (.iload 5, 2) := by decide +kernel
theorem dX10_arrive_81 : decode cX10_arrive 81 = .ok (.baload, 1) := by decide +kernel
theorem dX10_arrive_82 : decode cX10_arrive 82 = .ok (.ifCond .ne 6, 3) := by decide +kernel
theorem dX10_arrive_88 : decode cX10_arrive 88 = .ok (.aload_n 0, 1) := by decide +kernel
theorem dX10_arrive_89 : decode cX10_arrive 89 = .ok (.getfield 18, 3) := by decide +kernel
theorem dX10_arrive_92 : decode cX10_arrive 92 = .ok (.iload_n 1, 1) := by decide +kernel
theorem dX10_arrive_93 : decode cX10_arrive 93 = .ok (.iaload, 1) := by decide +kernel
theorem dX10_arrive_94 : decode cX10_arrive 94 = .ok (.iconst 2, 1) := by decide +kernel
theorem dX10_arrive_95 : decode cX10_arrive 95 = .ok (.if_icmp .ne 9, 3) := by decide +kernel
theorem dX10_arrive_104 : decode cX10_arrive 104 = .ok (.iload_n 2, 1) := by decide +kernel
theorem dX10_arrive_105 : decode cX10_arrive 105 = .ok (.istore 6, 2) := by decide +kernel
theorem dX10_arrive_107 : decode cX10_arrive 107 = .ok (.aload_n 0, 1) := by decide +kernel
theorem dX10_arrive_108 : decode cX10_arrive 108 = .ok (.getfield 135, 3) := by decide +kernel
theorem dX10_arrive_111 : decode cX10_arrive 111 = .ok (.iconst 2, 1) := by decide +kernel
theorem dX10_arrive_112 : decode cX10_arrive 112 = .ok (.iload 5, 2) := by decide +kernel
theorem dX10_arrive_114 : decode cX10_arrive 114 = .ok (.imul, 1) := by decide +kernel
theorem dX10_arrive_115 : decode cX10_arrive 115 = .ok (.iload 6, 2) := by decide +kernel
theorem dX10_arrive_117 : decode cX10_arrive 117 = .ok (.iadd, 1) := by decide +kernel
theorem dX10_arrive_118 : decode cX10_arrive 118 = .ok (.iaload, 1) := by decide +kernel
theorem dX10_arrive_119 : decode cX10_arrive 119 = .ok (.aload_n 0, 1) := by decide +kernel
theorem dX10_arrive_120 : decode cX10_arrive 120 = .ok (.getfield 123, 3) := by decide +kernel
theorem dX10_arrive_123 : decode cX10_arrive 123 = .ok (.bipush 8, 2) := by decide +kernel
theorem dX10_arrive_125 : decode cX10_arrive 125 = .ok (.iload_n 1, 1) := by decide +kernel
theorem dX10_arrive_126 : decode cX10_arrive 126 = .ok (.imul, 1) := by decide +kernel
theorem dX10_arrive_127 : decode cX10_arrive 127 = .ok (.iconst 2, 1) := by decide +kernel
theorem dX10_arrive_128 : decode cX10_arrive 128 = .ok (.iload 4, 2) := by decide +kernel
theorem dX10_arrive_130 : decode cX10_arrive 130 = .ok (.imul, 1) := by decide +kernel
theorem dX10_arrive_131 : decode cX10_arrive 131 = .ok (.iadd, 1) := by decide +kernel
theorem dX10_arrive_132 : decode cX10_arrive 132 = .ok (.iload_n 2, 1) := by decide +kernel
theorem dX10_arrive_133 : decode cX10_arrive 133 = .ok (.iadd, 1) := by decide +kernel
theorem dX10_arrive_134 : decode cX10_arrive 134 = .ok (.iaload, 1) := by decide +kernel
theorem dX10_arrive_135 : decode cX10_arrive 135 = .ok (.iadd, 1) := by decide +kernel
theorem dX10_arrive_136 : decode cX10_arrive 136 = .ok (.istore 7, 2) := by decide +kernel
theorem dX10_arrive_138 : decode cX10_arrive 138 = .ok (.aload_n 0, 1) := by decide +kernel
theorem dX10_arrive_139 : decode cX10_arrive 139 = .ok (.getfield 138, 3) := by decide +kernel
theorem dX10_arrive_142 : decode cX10_arrive 142 = .ok (.iconst 2, 1) := by decide +kernel
theorem dX10_arrive_143 : decode cX10_arrive 143 = .ok (.iload 5, 2) := by decide +kernel
theorem dX10_arrive_145 : decode cX10_arrive 145 = .ok (.imul, 1) := by decide +kernel
theorem dX10_arrive_146 : decode cX10_arrive 146 = .ok (.iload 6, 2) := by decide +kernel
theorem dX10_arrive_148 : decode cX10_arrive 148 = .ok (.iadd, 1) := by decide +kernel
theorem dX10_arrive_149 : decode cX10_arrive 149 = .ok (.iaload, 1) := by decide +kernel
theorem dX10_arrive_150 : decode cX10_arrive 150 = .ok (.aload_n 0, 1) := by decide +kernel
theorem dX10_arrive_151 : decode cX10_arrive 151 = .ok (.getfield 126, 3) := by decide +kernel
theorem dX10_arrive_154 : decode cX10_arrive 154 = .ok (.bipush 8, 2) := by decide +kernel
theorem dX10_arrive_156 : decode cX10_arrive 156 = .ok (.iload_n 1, 1) := by decide +kernel
theorem dX10_arrive_157 : decode cX10_arrive 157 = .ok (.imul, 1) := by decide +kernel
theorem dX10_arrive_158 : decode cX10_arrive 158 = .ok (.iconst 2, 1) := by decide +kernel
theorem dX10_arrive_159 : decode cX10_arrive 159 = .ok (.iload 4, 2) := by decide +kernel
theorem dX10_arrive_161 : decode cX10_arrive 161 = .ok (.imul, 1) := by decide +kernel
theorem dX10_arrive_162 : decode cX10_arrive 162 = .ok (.iadd, 1) := by decide +kernel
theorem dX10_arrive_163 : decode cX10_arrive 163 = .ok (.iload_n 2, 1) := by decide +kernel
theorem dX10_arrive_164 : decode cX10_arrive 164 = .ok (.iadd, 1) := by decide +kernel
theorem dX10_arrive_165 : decode cX10_arrive 165 = .ok (.iaload, 1) := by decide +kernel
theorem dX10_arrive_166 : decode cX10_arrive 166 = .ok (.iadd, 1) := by decide +kernel
theorem dX10_arrive_167 : decode cX10_arrive 167 = .ok (.istore 8, 2) := by decide +kernel
theorem dX10_arrive_169 : decode cX10_arrive 169 = .ok (.aload_n 0, 1) := by decide +kernel
theorem dX10_arrive_170 : decode cX10_arrive 170 = .ok (.getfield 135, 3) := by decide +kernel
theorem dX10_arrive_173 : decode cX10_arrive 173 = .ok (.iconst 2, 1) := by decide +kernel
theorem dX10_arrive_174 : decode cX10_arrive 174 = .ok (.iload_n 1, 1) := by decide +kernel
theorem dX10_arrive_175 : decode cX10_arrive 175 = .ok (.imul, 1) := by decide +kernel
theorem dX10_arrive_176 : decode cX10_arrive 176 = .ok (.iload_n 2, 1) := by decide +kernel
theorem dX10_arrive_177 : decode cX10_arrive 177 = .ok (.iadd, 1) := by decide +kernel
theorem dX10_arrive_178 : decode cX10_arrive 178 = .ok (.iload_n 3, 1) := by decide +kernel
theorem dX10_arrive_179 : decode cX10_arrive 179 = .ok (.ifCond .eq 21, 3) := by decide +kernel
theorem dX10_arrive_200 : decode cX10_arrive 200 = .ok (.iload 7, 2) := by decide +kernel
theorem dX10_arrive_202 : decode cX10_arrive 202 = .ok (.iastore, 1) := by decide +kernel
theorem dX10_arrive_203 : decode cX10_arrive 203 = .ok (.aload_n 0, 1) := by decide +kernel
theorem dX10_arrive_204 : decode cX10_arrive 204 = .ok (.getfield 138, 3) := by decide +kernel
theorem dX10_arrive_207 : decode cX10_arrive 207 = .ok (.iconst 2, 1) := by decide +kernel
theorem dX10_arrive_208 : decode cX10_arrive 208 = .ok (.iload_n 1, 1) := by decide +kernel
theorem dX10_arrive_209 : decode cX10_arrive 209 = .ok (.imul, 1) := by decide +kernel
theorem dX10_arrive_210 : decode cX10_arrive 210 = .ok (.iload_n 2, 1) := by decide +kernel
theorem dX10_arrive_211 : decode cX10_arrive 211 = .ok (.iadd, 1) := by decide +kernel
theorem dX10_arrive_212 : decode cX10_arrive 212 = .ok (.iload_n 3, 1) := by decide +kernel
theorem dX10_arrive_213 : decode cX10_arrive 213 = .ok (.ifCond .eq 21, 3) := by decide +kernel
theorem dX10_arrive_234 : decode cX10_arrive 234 = .ok (.iload 8, 2) := by decide +kernel
theorem dX10_arrive_236 : decode cX10_arrive 236 = .ok (.iastore, 1) := by decide +kernel
theorem dX10_arrive_237 : decode cX10_arrive 237 = .ok (.iconst 1, 1) := by decide +kernel
theorem dX10_arrive_238 : decode cX10_arrive 238 = .ok (.istore_n 3, 1) := by decide +kernel
theorem dX10_arrive_182 : decode cX10_arrive 182 = .ok (.aload_n 0, 1) := by decide +kernel
theorem dX10_arrive_183 : decode cX10_arrive 183 = .ok (.getfield 135, 3) := by decide +kernel
theorem dX10_arrive_186 : decode cX10_arrive 186 = .ok (.iconst 2, 1) := by decide +kernel
theorem dX10_arrive_187 : decode cX10_arrive 187 = .ok (.iload_n 1, 1) := by decide +kernel
theorem dX10_arrive_188 : decode cX10_arrive 188 = .ok (.imul, 1) := by decide +kernel
theorem dX10_arrive_189 : decode cX10_arrive 189 = .ok (.iload_n 2, 1) := by decide +kernel
theorem dX10_arrive_190 : decode cX10_arrive 190 = .ok (.iadd, 1) := by decide +kernel
theorem dX10_arrive_191 : decode cX10_arrive 191 = .ok (.iaload, 1) := by decide +kernel
theorem dX10_arrive_192 : decode cX10_arrive 192 = .ok (.iload 7, 2) := by decide +kernel
theorem dX10_arrive_194 : decode cX10_arrive 194 = .ok (.invokestatic 260, 3) := by decide +kernel
theorem dX10_arrive_197 : decode cX10_arrive 197 = .ok (.goto 5, 3) := by decide +kernel
theorem dX10_arrive_216 : decode cX10_arrive 216 = .ok (.aload_n 0, 1) := by decide +kernel
theorem dX10_arrive_217 : decode cX10_arrive 217 = .ok (.getfield 138, 3) := by decide +kernel
theorem dX10_arrive_220 : decode cX10_arrive 220 = .ok (.iconst 2, 1) := by decide +kernel
theorem dX10_arrive_221 : decode cX10_arrive 221 = .ok (.iload_n 1, 1) := by decide +kernel
theorem dX10_arrive_222 : decode cX10_arrive 222 = .ok (.imul, 1) := by decide +kernel
theorem dX10_arrive_223 : decode cX10_arrive 223 = .ok (.iload_n 2, 1) := by decide +kernel
theorem dX10_arrive_224 : decode cX10_arrive 224 = .ok (.iadd, 1) := by decide +kernel
theorem dX10_arrive_225 : decode cX10_arrive 225 = .ok (.iaload, 1) := by decide +kernel
theorem dX10_arrive_226 : decode cX10_arrive 226 = .ok (.iload 8, 2) := by decide +kernel
theorem dX10_arrive_228 : decode cX10_arrive 228 = .ok (.invokestatic 266, 3) := by decide +kernel
theorem dX10_arrive_231 : decode cX10_arrive 231 = .ok (.goto 5, 3) := by decide +kernel
theorem dX10_arrive_98 : decode cX10_arrive 98 = .ok (.iconst 1, 1) := by decide +kernel
theorem dX10_arrive_99 : decode cX10_arrive 99 = .ok (.iload_n 2, 1) := by decide +kernel
theorem dX10_arrive_100 : decode cX10_arrive 100 = .ok (.isub, 1) := by decide +kernel
theorem dX10_arrive_101 : decode cX10_arrive 101 = .ok (.goto 4, 3) := by decide +kernel
theorem dX10_arrive_85 : decode cX10_arrive 85 = .ok (.goto 154, 3) := by decide +kernel
theorem dX10_arrive_8 : decode cX10_arrive 8 = .ok (.aload_n 0, 1) := by decide +kernel
theorem dX10_arrive_9 : decode cX10_arrive 9 = .ok (.getfield 135, 3) := by decide +kernel
theorem dX10_arrive_12 : decode cX10_arrive 12 = .ok (.iconst 2, 1) := by decide +kernel
theorem dX10_arrive_13 : decode cX10_arrive 13 = .ok (.iload_n 1, 1) := by decide +kernel
theorem dX10_arrive_14 : decode cX10_arrive 14 = .ok (.imul, 1) := by decide +kernel
theorem dX10_arrive_15 : decode cX10_arrive 15 = .ok (.iload_n 2, 1) := by decide +kernel
theorem dX10_arrive_16 : decode cX10_arrive 16 = .ok (.iadd, 1) := by decide +kernel
theorem dX10_arrive_17 : decode cX10_arrive 17 = .ok (.aload_n 0, 1) := by decide +kernel
theorem dX10_arrive_18 : decode cX10_arrive 18 = .ok (.iload_n 1, 1) := by decide +kernel
theorem dX10_arrive_19 : decode cX10_arrive 19 = .ok (.iload_n 2, 1) := by decide +kernel
theorem dX10_arrive_20 : decode cX10_arrive 20 = .ok (.invokevirtual 289, 3) := by decide +kernel
theorem dX10_arrive_23 : decode cX10_arrive 23 = .ok (.iastore, 1) := by decide +kernel
theorem dX10_arrive_24 : decode cX10_arrive 24 = .ok (.aload_n 0, 1) := by decide +kernel
theorem dX10_arrive_25 : decode cX10_arrive 25 = .ok (.getfield 138, 3) := by decide +kernel
theorem dX10_arrive_28 : decode cX10_arrive 28 = .ok (.iconst 2, 1) := by decide +kernel
theorem dX10_arrive_29 : decode cX10_arrive 29 = .ok (.iload_n 1, 1) := by decide +kernel
theorem dX10_arrive_30 : decode cX10_arrive 30 = .ok (.imul, 1) := by decide +kernel
theorem dX10_arrive_31 : decode cX10_arrive 31 = .ok (.iload_n 2, 1) := by decide +kernel
theorem dX10_arrive_32 : decode cX10_arrive 32 = .ok (.iadd, 1) := by decide +kernel
theorem dX10_arrive_33 : decode cX10_arrive 33 = .ok (.aload_n 0, 1) := by decide +kernel
theorem dX10_arrive_34 : decode cX10_arrive 34 = .ok (.iload_n 1, 1) := by decide +kernel
theorem dX10_arrive_35 : decode cX10_arrive 35 = .ok (.iload_n 2, 1) := by decide +kernel
theorem dX10_arrive_36 : decode cX10_arrive 36 = .ok (.invokevirtual 292, 3) := by decide +kernel
theorem dX10_arrive_39 : decode cX10_arrive 39 = .ok (.iastore, 1) := by decide +kernel
theorem dX10_arrive_40 : decode cX10_arrive 40 = .ok (.return_, 1) := by decide +kernel
def wo_m_arrive : List Cond := [.code yX10_arrive cX10_arrive 9 none, .methodLink RX10 55 yX10_isGate, .instanceMethod yX10_isGate, .selects RX10 yX10_isGate yX10_isGate, .initialized RX10, .fieldLink RX10 14 "TimingHouseModel" "inputs" "[I", .fieldLink RX10 30 "TimingHouseModel" "taken" "[I", .fieldLink RX10 117 "TimingHouseModel" "reached" "[Z", .fieldLink RX10 18 "TimingHouseModel" "kind" "[I", .fieldLink RX10 135 "TimingHouseModel" "greatest" "[I", .fieldLink RX10 123 "TimingHouseModel" "lateDelay" "[I", .fieldLink RX10 138 "TimingHouseModel" "least" "[I", .fieldLink RX10 126 "TimingHouseModel" "earlyDelay" "[I", .methodLink RX10 260 Lib.Math.max.name, .static Lib.Math.max.name, .initialized "java/lang/Math", .code Lib.Math.max.name Lib.Math.max.code 2 (some .int), .methodLink RX10 266 Lib.Math.min.name, .static Lib.Math.min.name, .code Lib.Math.min.name Lib.Math.min.code 2 (some .int), .methodLink RX10 289 yX10_startLate, .instanceMethod yX10_startLate, .selects RX10 yX10_startLate yX10_startLate, .methodLink RX10 292 yX10_startEarly, .instanceMethod yX10_startEarly, .selects RX10 yX10_startEarly yX10_startEarly]
def wr_m_arrive : List Cond := (wsX100 ++ (w_m_isGate ++ (w_m_startLate ++ (w_m_startEarly ++ ([])))))
def w_m_arrive : List Cond := wo_m_arrive ++ wr_m_arrive
theorem wg_m_arrive : GW w_m_arrive := GW_app (GW_of (by decide +kernel)) (GW_app (GW_of (by decide +kernel)) (GW_app (wg_m_isGate) (GW_app (wg_m_startLate) (GW_app (wg_m_startEarly) (GW_nil)))))
theorem i_m_arrive_X10 : ∀ w ∈ wsX100, w ∈ w_m_arrive := fun _ h => List.mem_append_right _ (List.mem_append_left _ h)
theorem g_m_arrive_m_isGate_55 : GoodIn w_m_arrive (wsV RX10 55 RX10 yX10_isGate w_m_isGate) := goodIn_app (gi_left (goodIn_of _ (by decide +kernel))) (fun w h => ⟨List.mem_append_right _ (List.mem_append_right _ (List.mem_append_left _ h)), wg_m_isGate w h⟩)
theorem g_m_arrive_m_startLate_289 : GoodIn w_m_arrive (wsV RX10 289 RX10 yX10_startLate w_m_startLate) := goodIn_app (gi_left (goodIn_of _ (by decide +kernel))) (fun w h => ⟨List.mem_append_right _ (List.mem_append_right _ (List.mem_append_right _ (List.mem_append_left _ h))), wg_m_startLate w h⟩)
theorem g_m_arrive_m_startEarly_292 : GoodIn w_m_arrive (wsV RX10 292 RX10 yX10_startEarly w_m_startEarly) := goodIn_app (gi_left (goodIn_of _ (by decide +kernel))) (fun w h => ⟨List.mem_append_right _ (List.mem_append_right _ (List.mem_append_right _ (List.mem_append_right _ (List.mem_append_left _ h)))), wg_m_startEarly w h⟩)
set_option maxHeartbeats 8000000 in
set_option maxRecDepth 100000 in
theorem m_arrive (l : Launch) (E : gE) (o_m a_m_kind a_m_inputs a_m_tableOf a_m_size a_m_extra a_m_taken a_m_portEarly a_m_portLate a_m_portSlope a_m_nodeOf a_m_setup a_m_hold a_m_seen a_m_numbers a_m_rowSize a_m_fall a_m_parent a_m_nodeEarly a_m_nodeLate a_m_periods a_m_from a_m_through a_m_toward a_m_order a_m_done a_m_reached a_m_open a_m_lateDelay a_m_earlyDelay a_m_lateSlope a_m_earlySlope a_m_greatest a_m_least a_m_howMany a_m_most a_m_fewest a_m_pathsTo a_m_slackOf a_m_holdOf a_m_listSlack a_m_listStart a_m_listEdge a_m_listSize a_m_listCell a_m_listInput a_m_rank a_m_good a_m_goCell a_m_goInput a_m_goEdge a_m_goMask a_m_shownCell a_m_shownInput a_m_shownEdge a_m_shownLate : Nat) (f_m_code f_m_cells f_m_late f_m_early f_m_period f_m_nodes f_m_exceptions f_m_fails f_m_ordered f_m_listed f_m_target f_m_shown f_m_shownSlack f_m_shownHold p1 p2 : Int32) (g_m_kind : Nat → Int32) (g_m_inputs : Nat → Int32) (g_m_taken : Nat → Int32) (g_m_reached : Nat → Int32) (g_m_greatest : Nat → Int32) (g_m_lateDelay : Nat → Int32) (g_m_least : Nat → Int32) (g_m_earlyDelay : Nat → Int32) (g_m_nodeOf : Nat → Int32) (g_m_nodeLate : Nat → Int32) (g_m_parent : Nat → Int32) (g_m_portLate : Nat → Int32) (g_m_nodeEarly : Nat → Int32) (g_m_portEarly : Nat → Int32) (r_f_m_cells : RG f_m_cells 0 50) (r_f_m_late : RG f_m_late 0 500) (r_f_m_early : RG f_m_early 0 500) (r_f_m_period : RG f_m_period 1 1000000) (r_f_m_nodes : RG f_m_nodes 0 20) (r_f_m_exceptions : RG f_m_exceptions 0 4) (r_f_m_ordered : RG f_m_ordered 0 50) (r_f_m_listed : RG f_m_listed 0 1000) (r_f_m_target : RG f_m_target 0 49) (r_f_m_shown : RG f_m_shown 0 52) (i_g_m_kind : AR g_m_kind 50 0 5) (i_g_m_inputs : AR g_m_inputs 50 0 4) (i_g_m_taken : AR g_m_taken 200 (-1) 49) (i_g_m_reached : AR g_m_reached 50 0 1) (i_g_m_nodeOf : AR g_m_nodeOf 50 (-1) 19) (i_g_m_parent : AD g_m_parent 20 (-1) 19) (i_g_m_portLate : AR g_m_portLate 50 0 100000) (i_g_m_portEarly : AR g_m_portEarly 50 0 100000) (r_p1 : RG p1 0 49) (r_p2 : RG p2 0 1) : CtV l E yX10_arrive w_m_arrive ({ frames := 2, cells := 0, slots := 0, locals := 45 }) [(o_m, .inr (10, [.int f_m_code, .int f_m_cells, .ref a_m_kind, .ref a_m_inputs, .ref a_m_tableOf, .ref a_m_size, .ref a_m_extra, .ref a_m_taken, .ref a_m_portEarly, .ref a_m_portLate, .ref a_m_portSlope, .ref a_m_nodeOf, .ref a_m_setup, .ref a_m_hold, .ref a_m_seen, .ref a_m_numbers, .ref a_m_rowSize, .ref a_m_fall, .int f_m_late, .int f_m_early, .int f_m_period, .int f_m_nodes, .ref a_m_parent, .ref a_m_nodeEarly, .ref a_m_nodeLate, .int f_m_exceptions, .ref a_m_periods, .ref a_m_from, .ref a_m_through, .ref a_m_toward, .int f_m_fails, .ref a_m_order, .int f_m_ordered, .ref a_m_done, .ref a_m_reached, .ref a_m_open, .ref a_m_lateDelay, .ref a_m_earlyDelay, .ref a_m_lateSlope, .ref a_m_earlySlope, .ref a_m_greatest, .ref a_m_least, .ref a_m_howMany, .ref a_m_most, .ref a_m_fewest, .ref a_m_pathsTo, .ref a_m_slackOf, .ref a_m_holdOf, .int f_m_listed, .ref a_m_listSlack, .ref a_m_listStart, .ref a_m_listEdge, .ref a_m_listSize, .ref a_m_listCell, .ref a_m_listInput, .ref a_m_rank, .ref a_m_good, .ref a_m_goCell, .ref a_m_goInput, .ref a_m_goEdge, .ref a_m_goMask, .int f_m_target, .int f_m_shown, .ref a_m_shownCell, .ref a_m_shownInput, .ref a_m_shownEdge, .ref a_m_shownLate, .int f_m_shownSlack, .int f_m_shownHold])), (a_m_kind, aI E 50 g_m_kind), (a_m_inputs, aI E 50 g_m_inputs), (a_m_taken, aI E 200 g_m_taken), (a_m_reached, aZ E 50 g_m_reached), (a_m_greatest, aI E 100 g_m_greatest), (a_m_lateDelay, aI E 400 g_m_lateDelay), (a_m_least, aI E 100 g_m_least), (a_m_earlyDelay, aI E 400 g_m_earlyDelay), (a_m_nodeOf, aI E 50 g_m_nodeOf), (a_m_nodeLate, aI E 20 g_m_nodeLate), (a_m_parent, aI E 20 g_m_parent), (a_m_portLate, aI E 50 g_m_portLate), (a_m_nodeEarly, aI E 20 g_m_nodeEarly), (a_m_portEarly, aI E 50 g_m_portEarly)] [.ref o_m, .int p1, .int p2] (fun w => ∃ ng_m_greatest : Nat → Int32, ∃ ng_m_least : Nat → Int32, w = [(o_m, .inr (10, [.int f_m_code, .int f_m_cells, .ref a_m_kind, .ref a_m_inputs, .ref a_m_tableOf, .ref a_m_size, .ref a_m_extra, .ref a_m_taken, .ref a_m_portEarly, .ref a_m_portLate, .ref a_m_portSlope, .ref a_m_nodeOf, .ref a_m_setup, .ref a_m_hold, .ref a_m_seen, .ref a_m_numbers, .ref a_m_rowSize, .ref a_m_fall, .int f_m_late, .int f_m_early, .int f_m_period, .int f_m_nodes, .ref a_m_parent, .ref a_m_nodeEarly, .ref a_m_nodeLate, .int f_m_exceptions, .ref a_m_periods, .ref a_m_from, .ref a_m_through, .ref a_m_toward, .int f_m_fails, .ref a_m_order, .int f_m_ordered, .ref a_m_done, .ref a_m_reached, .ref a_m_open, .ref a_m_lateDelay, .ref a_m_earlyDelay, .ref a_m_lateSlope, .ref a_m_earlySlope, .ref a_m_greatest, .ref a_m_least, .ref a_m_howMany, .ref a_m_most, .ref a_m_fewest, .ref a_m_pathsTo, .ref a_m_slackOf, .ref a_m_holdOf, .int f_m_listed, .ref a_m_listSlack, .ref a_m_listStart, .ref a_m_listEdge, .ref a_m_listSize, .ref a_m_listCell, .ref a_m_listInput, .ref a_m_rank, .ref a_m_good, .ref a_m_goCell, .ref a_m_goInput, .ref a_m_goEdge, .ref a_m_goMask, .int f_m_target, .int f_m_shown, .ref a_m_shownCell, .ref a_m_shownInput, .ref a_m_shownEdge, .ref a_m_shownLate, .int f_m_shownSlack, .int f_m_shownHold])), (a_m_kind, aI E 50 g_m_kind), (a_m_inputs, aI E 50 g_m_inputs), (a_m_taken, aI E 200 g_m_taken), (a_m_reached, aZ E 50 g_m_reached), (a_m_greatest, aI E 100 ng_m_greatest), (a_m_lateDelay, aI E 400 g_m_lateDelay), (a_m_least, aI E 100 ng_m_least), (a_m_earlyDelay, aI E 400 g_m_earlyDelay), (a_m_nodeOf, aI E 50 g_m_nodeOf), (a_m_nodeLate, aI E 20 g_m_nodeLate), (a_m_parent, aI E 20 g_m_parent), (a_m_portLate, aI E 50 g_m_portLate), (a_m_nodeEarly, aI E 20 g_m_nodeEarly), (a_m_portEarly, aI E 50 g_m_portEarly)]) := by
  refine CtV.of (cc := cX10_arrive) (maxL := 9) (rt := none) (by decide) rfl (Nat.le_of_ble_eq_true rfl) ?_
  intro p e s m below meth c A B ls hl
  obtain ⟨hx, hb, hml, hr, hlk, hin, hts, hown, hK, hN, hZ, hA, hP, hD, hS⟩ := B
  replace hown : s.vm.findClass RX10 = some m.cls := hown
  have hto : ∀ w ∈ wo_m_arrive, w.before _ s = true := fun w h => hts w (List.mem_append_left _ h)
  replace hl : lv_has ls 9 [(0, .ref o_m), (1, .int p1), (2, .int p2)] := hl
  obtain ⟨H, hHe⟩ : ∃ H, H = s.heap := ⟨_, rfl⟩
  obtain ⟨locs, hle⟩ : ∃ l : List Loc, l = [] := ⟨_, rfl⟩
  replace hS : va_S A s.heap H locs := by rw [hHe, hle]; exact hS
  replace hP : va_P E.1 vwCl [(o_m, .inr (10, [.int f_m_code, .int f_m_cells, .ref a_m_kind, .ref a_m_inputs, .ref a_m_tableOf, .ref a_m_size, .ref a_m_extra, .ref a_m_taken, .ref a_m_portEarly, .ref a_m_portLate, .ref a_m_portSlope, .ref a_m_nodeOf, .ref a_m_setup, .ref a_m_hold, .ref a_m_seen, .ref a_m_numbers, .ref a_m_rowSize, .ref a_m_fall, .int f_m_late, .int f_m_early, .int f_m_period, .int f_m_nodes, .ref a_m_parent, .ref a_m_nodeEarly, .ref a_m_nodeLate, .int f_m_exceptions, .ref a_m_periods, .ref a_m_from, .ref a_m_through, .ref a_m_toward, .int f_m_fails, .ref a_m_order, .int f_m_ordered, .ref a_m_done, .ref a_m_reached, .ref a_m_open, .ref a_m_lateDelay, .ref a_m_earlyDelay, .ref a_m_lateSlope, .ref a_m_earlySlope, .ref a_m_greatest, .ref a_m_least, .ref a_m_howMany, .ref a_m_most, .ref a_m_fewest, .ref a_m_pathsTo, .ref a_m_slackOf, .ref a_m_holdOf, .int f_m_listed, .ref a_m_listSlack, .ref a_m_listStart, .ref a_m_listEdge, .ref a_m_listSize, .ref a_m_listCell, .ref a_m_listInput, .ref a_m_rank, .ref a_m_good, .ref a_m_goCell, .ref a_m_goInput, .ref a_m_goEdge, .ref a_m_goMask, .int f_m_target, .int f_m_shown, .ref a_m_shownCell, .ref a_m_shownInput, .ref a_m_shownEdge, .ref a_m_shownLate, .int f_m_shownSlack, .int f_m_shownHold])), (a_m_kind, aI E 50 g_m_kind), (a_m_inputs, aI E 50 g_m_inputs), (a_m_taken, aI E 200 g_m_taken), (a_m_reached, aZ E 50 g_m_reached), (a_m_greatest, aI E 100 g_m_greatest), (a_m_lateDelay, aI E 400 g_m_lateDelay), (a_m_least, aI E 100 g_m_least), (a_m_earlyDelay, aI E 400 g_m_earlyDelay), (a_m_nodeOf, aI E 50 g_m_nodeOf), (a_m_nodeLate, aI E 20 g_m_nodeLate), (a_m_parent, aI E 20 g_m_parent), (a_m_portLate, aI E 50 g_m_portLate), (a_m_nodeEarly, aI E 20 g_m_nodeEarly), (a_m_portEarly, aI E 50 g_m_portEarly)] H := by rw [hHe]; exact hP
  refine W_hl hHe hle ?_
  clear hHe hle
  refine lv_aload_n hx hb dX10_arrive_0 rfl (lv_at hl 0 rfl) ?_
  refine lv_iload_n hx hb dX10_arrive_1 rfl (lv_at hl 1 rfl) ?_
  have b_p1 := r_p1.out
  refine call_i (va_runV (As := [.int p1]) (rest := []) ⟨hx, hb, hml, hown, hts⟩ (m_isGate l E o_m a_m_kind a_m_inputs a_m_tableOf a_m_size a_m_extra a_m_taken a_m_portEarly a_m_portLate a_m_portSlope a_m_nodeOf a_m_setup a_m_hold a_m_seen a_m_numbers a_m_rowSize a_m_fall a_m_parent a_m_nodeEarly a_m_nodeLate a_m_periods a_m_from a_m_through a_m_toward a_m_order a_m_done a_m_reached a_m_open a_m_lateDelay a_m_earlyDelay a_m_lateSlope a_m_earlySlope a_m_greatest a_m_least a_m_howMany a_m_most a_m_fewest a_m_pathsTo a_m_slackOf a_m_holdOf a_m_listSlack a_m_listStart a_m_listEdge a_m_listSize a_m_listCell a_m_listInput a_m_rank a_m_good a_m_goCell a_m_goInput a_m_goEdge a_m_goMask a_m_shownCell a_m_shownInput a_m_shownEdge a_m_shownLate f_m_code f_m_cells f_m_late f_m_early f_m_period f_m_nodes f_m_exceptions f_m_fails f_m_ordered f_m_listed f_m_target f_m_shown f_m_shownSlack f_m_shownHold p1 g_m_kind r_f_m_cells r_f_m_late r_f_m_early r_f_m_period r_f_m_nodes r_f_m_exceptions r_f_m_ordered r_f_m_listed r_f_m_target r_f_m_shown i_g_m_kind r_p1 H.size) (cwV 1 hts g_m_arrive_m_isGate_55 rfl rfl rfl (by decide +kernel) ⟨Nat.le_of_ble_eq_true rfl, Nat.le_of_ble_eq_true rfl⟩) (pre_V hK hN hZ hS (va_free hD hS hA [0, 1] rfl) (hP.sub (ws' := [(o_m, .inr (10, [.int f_m_code, .int f_m_cells, .ref a_m_kind, .ref a_m_inputs, .ref a_m_tableOf, .ref a_m_size, .ref a_m_extra, .ref a_m_taken, .ref a_m_portEarly, .ref a_m_portLate, .ref a_m_portSlope, .ref a_m_nodeOf, .ref a_m_setup, .ref a_m_hold, .ref a_m_seen, .ref a_m_numbers, .ref a_m_rowSize, .ref a_m_fall, .int f_m_late, .int f_m_early, .int f_m_period, .int f_m_nodes, .ref a_m_parent, .ref a_m_nodeEarly, .ref a_m_nodeLate, .int f_m_exceptions, .ref a_m_periods, .ref a_m_from, .ref a_m_through, .ref a_m_toward, .int f_m_fails, .ref a_m_order, .int f_m_ordered, .ref a_m_done, .ref a_m_reached, .ref a_m_open, .ref a_m_lateDelay, .ref a_m_earlyDelay, .ref a_m_lateSlope, .ref a_m_earlySlope, .ref a_m_greatest, .ref a_m_least, .ref a_m_howMany, .ref a_m_most, .ref a_m_fewest, .ref a_m_pathsTo, .ref a_m_slackOf, .ref a_m_holdOf, .int f_m_listed, .ref a_m_listSlack, .ref a_m_listStart, .ref a_m_listEdge, .ref a_m_listSize, .ref a_m_listCell, .ref a_m_listInput, .ref a_m_rank, .ref a_m_good, .ref a_m_goCell, .ref a_m_goInput, .ref a_m_goEdge, .ref a_m_goMask, .int f_m_target, .int f_m_shown, .ref a_m_shownCell, .ref a_m_shownInput, .ref a_m_shownEdge, .ref a_m_shownLate, .int f_m_shownSlack, .int f_m_shownHold])), (a_m_kind, aI E 50 g_m_kind)]) [0, 1] rfl) (hD.sub (ws' := [(o_m, .inr (10, [.int f_m_code, .int f_m_cells, .ref a_m_kind, .ref a_m_inputs, .ref a_m_tableOf, .ref a_m_size, .ref a_m_extra, .ref a_m_taken, .ref a_m_portEarly, .ref a_m_portLate, .ref a_m_portSlope, .ref a_m_nodeOf, .ref a_m_setup, .ref a_m_hold, .ref a_m_seen, .ref a_m_numbers, .ref a_m_rowSize, .ref a_m_fall, .int f_m_late, .int f_m_early, .int f_m_period, .int f_m_nodes, .ref a_m_parent, .ref a_m_nodeEarly, .ref a_m_nodeLate, .int f_m_exceptions, .ref a_m_periods, .ref a_m_from, .ref a_m_through, .ref a_m_toward, .int f_m_fails, .ref a_m_order, .int f_m_ordered, .ref a_m_done, .ref a_m_reached, .ref a_m_open, .ref a_m_lateDelay, .ref a_m_earlyDelay, .ref a_m_lateSlope, .ref a_m_earlySlope, .ref a_m_greatest, .ref a_m_least, .ref a_m_howMany, .ref a_m_most, .ref a_m_fewest, .ref a_m_pathsTo, .ref a_m_slackOf, .ref a_m_holdOf, .int f_m_listed, .ref a_m_listSlack, .ref a_m_listStart, .ref a_m_listEdge, .ref a_m_listSize, .ref a_m_listCell, .ref a_m_listInput, .ref a_m_rank, .ref a_m_good, .ref a_m_goCell, .ref a_m_goInput, .ref a_m_goEdge, .ref a_m_goMask, .int f_m_target, .int f_m_shown, .ref a_m_shownCell, .ref a_m_shownInput, .ref a_m_shownEdge, .ref a_m_shownLate, .int f_m_shownSlack, .int f_m_shownHold])), (a_m_kind, aI E 50 g_m_kind)]) [0, 1] (by decide) rfl) (ci := 10) (q0 := 0) rfl rfl) rfl rfl hl.1 rfl (lv_room (Nat.le_of_ble_eq_true rfl)) dX10_arrive_2 ⟨Nat.le_of_ble_eq_true rfl, Nat.le_of_ble_eq_true rfl⟩) hP hD hS hA [0, 1] [2, 3, 4, 5, 6, 7, 8, 9, 10, 11, 12, 13, 14] (wr := [(a_m_inputs, aI E 50 g_m_inputs), (a_m_taken, aI E 200 g_m_taken), (a_m_reached, aZ E 50 g_m_reached), (a_m_greatest, aI E 100 g_m_greatest), (a_m_lateDelay, aI E 400 g_m_lateDelay), (a_m_least, aI E 100 g_m_least), (a_m_earlyDelay, aI E 400 g_m_earlyDelay), (a_m_nodeOf, aI E 50 g_m_nodeOf), (a_m_nodeLate, aI E 20 g_m_nodeLate), (a_m_parent, aI E 20 g_m_parent), (a_m_portLate, aI E 50 g_m_portLate), (a_m_nodeEarly, aI E 20 g_m_nodeEarly), (a_m_portEarly, aI E 50 g_m_portEarly)]) rfl rfl (by decide) (by decide) (fun r_1 w H locs hw hP hD hS => ?_)
  obtain ⟨b_r_1, rfl⟩ := hw
  replace hP : va_P E.1 vwCl [(a_m_inputs, aI E 50 g_m_inputs), (a_m_taken, aI E 200 g_m_taken), (a_m_reached, aZ E 50 g_m_reached), (a_m_greatest, aI E 100 g_m_greatest), (a_m_lateDelay, aI E 400 g_m_lateDelay), (a_m_least, aI E 100 g_m_least), (a_m_earlyDelay, aI E 400 g_m_earlyDelay), (a_m_nodeOf, aI E 50 g_m_nodeOf), (a_m_nodeLate, aI E 20 g_m_nodeLate), (a_m_parent, aI E 20 g_m_parent), (a_m_portLate, aI E 50 g_m_portLate), (a_m_nodeEarly, aI E 20 g_m_nodeEarly), (a_m_portEarly, aI E 50 g_m_portEarly), (o_m, .inr (10, [.int f_m_code, .int f_m_cells, .ref a_m_kind, .ref a_m_inputs, .ref a_m_tableOf, .ref a_m_size, .ref a_m_extra, .ref a_m_taken, .ref a_m_portEarly, .ref a_m_portLate, .ref a_m_portSlope, .ref a_m_nodeOf, .ref a_m_setup, .ref a_m_hold, .ref a_m_seen, .ref a_m_numbers, .ref a_m_rowSize, .ref a_m_fall, .int f_m_late, .int f_m_early, .int f_m_period, .int f_m_nodes, .ref a_m_parent, .ref a_m_nodeEarly, .ref a_m_nodeLate, .int f_m_exceptions, .ref a_m_periods, .ref a_m_from, .ref a_m_through, .ref a_m_toward, .int f_m_fails, .ref a_m_order, .int f_m_ordered, .ref a_m_done, .ref a_m_reached, .ref a_m_open, .ref a_m_lateDelay, .ref a_m_earlyDelay, .ref a_m_lateSlope, .ref a_m_earlySlope, .ref a_m_greatest, .ref a_m_least, .ref a_m_howMany, .ref a_m_most, .ref a_m_fewest, .ref a_m_pathsTo, .ref a_m_slackOf, .ref a_m_holdOf, .int f_m_listed, .ref a_m_listSlack, .ref a_m_listStart, .ref a_m_listEdge, .ref a_m_listSize, .ref a_m_listCell, .ref a_m_listInput, .ref a_m_rank, .ref a_m_good, .ref a_m_goCell, .ref a_m_goInput, .ref a_m_goEdge, .ref a_m_goMask, .int f_m_target, .int f_m_shown, .ref a_m_shownCell, .ref a_m_shownInput, .ref a_m_shownEdge, .ref a_m_shownLate, .int f_m_shownSlack, .int f_m_shownHold])), (a_m_kind, aI E 50 g_m_kind)] H := hP
  replace hD : va_D A [(a_m_inputs, aI E 50 g_m_inputs), (a_m_taken, aI E 200 g_m_taken), (a_m_reached, aZ E 50 g_m_reached), (a_m_greatest, aI E 100 g_m_greatest), (a_m_lateDelay, aI E 400 g_m_lateDelay), (a_m_least, aI E 100 g_m_least), (a_m_earlyDelay, aI E 400 g_m_earlyDelay), (a_m_nodeOf, aI E 50 g_m_nodeOf), (a_m_nodeLate, aI E 20 g_m_nodeLate), (a_m_parent, aI E 20 g_m_parent), (a_m_portLate, aI E 50 g_m_portLate), (a_m_nodeEarly, aI E 20 g_m_nodeEarly), (a_m_portEarly, aI E 50 g_m_portEarly), (o_m, .inr (10, [.int f_m_code, .int f_m_cells, .ref a_m_kind, .ref a_m_inputs, .ref a_m_tableOf, .ref a_m_size, .ref a_m_extra, .ref a_m_taken, .ref a_m_portEarly, .ref a_m_portLate, .ref a_m_portSlope, .ref a_m_nodeOf, .ref a_m_setup, .ref a_m_hold, .ref a_m_seen, .ref a_m_numbers, .ref a_m_rowSize, .ref a_m_fall, .int f_m_late, .int f_m_early, .int f_m_period, .int f_m_nodes, .ref a_m_parent, .ref a_m_nodeEarly, .ref a_m_nodeLate, .int f_m_exceptions, .ref a_m_periods, .ref a_m_from, .ref a_m_through, .ref a_m_toward, .int f_m_fails, .ref a_m_order, .int f_m_ordered, .ref a_m_done, .ref a_m_reached, .ref a_m_open, .ref a_m_lateDelay, .ref a_m_earlyDelay, .ref a_m_lateSlope, .ref a_m_earlySlope, .ref a_m_greatest, .ref a_m_least, .ref a_m_howMany, .ref a_m_most, .ref a_m_fewest, .ref a_m_pathsTo, .ref a_m_slackOf, .ref a_m_holdOf, .int f_m_listed, .ref a_m_listSlack, .ref a_m_listStart, .ref a_m_listEdge, .ref a_m_listSize, .ref a_m_listCell, .ref a_m_listInput, .ref a_m_rank, .ref a_m_good, .ref a_m_goCell, .ref a_m_goInput, .ref a_m_goEdge, .ref a_m_goMask, .int f_m_target, .int f_m_shown, .ref a_m_shownCell, .ref a_m_shownInput, .ref a_m_shownEdge, .ref a_m_shownLate, .int f_m_shownSlack, .int f_m_shownHold])), (a_m_kind, aI E 50 g_m_kind)] := hD
  refine lv_if_ne (tgt := 41) hx hb dX10_arrive_5 (by decide) (fun c_2 => ?_) (fun c_2 => ?_)
  · have e_2 : r_1.toInt ≠ 0 := i3_ne c_2
    refine lv_iconst (v := 0) hx hb dX10_arrive_41 (by decide) ?_
    refine lv_istore_n (lv' := [(3, .int 0), (0, .ref o_m), (1, .int p1), (2, .int p2)]) hx hb dX10_arrive_42 rfl hl (by decide) rfl (fun ls hl => ?_)
    refine lv_iconst (v := 0) hx hb dX10_arrive_43 (by decide) ?_
    refine lv_istore (lv' := [(4, .int 0), (3, .int 0), (0, .ref o_m), (1, .int p1), (2, .int p2)]) hx hb dX10_arrive_44 hl (by decide) rfl (fun ls hl => ?_)
    obtain ⟨y_3, hy_3⟩ : ∃ y : Int32, y = 0 := ⟨_, rfl⟩
    have b_y_3 : 0 ≤ y_3.toInt ∧ y_3.toInt ≤ 4 := by rw [hy_3]; decide
    obtain ⟨y_4, hy_4⟩ : ∃ y : Int32, y = 0 := ⟨_, rfl⟩
    have b_y_4 : 0 ≤ y_4.toInt ∧ y_4.toInt ≤ 1 := by rw [hy_4]; decide
    replace hl : lv_has ls 9 [(4, .int y_3), (3, .int y_4), (0, .ref o_m), (1, .int p1), (2, .int p2)] := by rw [hy_3, hy_4]; exact hl
    obtain ⟨y_5, hy_5⟩ : ∃ g : Nat → Int32, g = g_m_greatest := ⟨_, rfl⟩
    obtain ⟨y_6, hy_6⟩ : ∃ g : Nat → Int32, g = g_m_least := ⟨_, rfl⟩
    replace hP : va_P E.1 vwCl [(a_m_inputs, aI E 50 g_m_inputs), (a_m_taken, aI E 200 g_m_taken), (a_m_reached, aZ E 50 g_m_reached), (a_m_greatest, aI E 100 y_5), (a_m_lateDelay, aI E 400 g_m_lateDelay), (a_m_least, aI E 100 y_6), (a_m_earlyDelay, aI E 400 g_m_earlyDelay), (a_m_nodeOf, aI E 50 g_m_nodeOf), (a_m_nodeLate, aI E 20 g_m_nodeLate), (a_m_parent, aI E 20 g_m_parent), (a_m_portLate, aI E 50 g_m_portLate), (a_m_nodeEarly, aI E 20 g_m_nodeEarly), (a_m_portEarly, aI E 50 g_m_portEarly), (o_m, .inr (10, [.int f_m_code, .int f_m_cells, .ref a_m_kind, .ref a_m_inputs, .ref a_m_tableOf, .ref a_m_size, .ref a_m_extra, .ref a_m_taken, .ref a_m_portEarly, .ref a_m_portLate, .ref a_m_portSlope, .ref a_m_nodeOf, .ref a_m_setup, .ref a_m_hold, .ref a_m_seen, .ref a_m_numbers, .ref a_m_rowSize, .ref a_m_fall, .int f_m_late, .int f_m_early, .int f_m_period, .int f_m_nodes, .ref a_m_parent, .ref a_m_nodeEarly, .ref a_m_nodeLate, .int f_m_exceptions, .ref a_m_periods, .ref a_m_from, .ref a_m_through, .ref a_m_toward, .int f_m_fails, .ref a_m_order, .int f_m_ordered, .ref a_m_done, .ref a_m_reached, .ref a_m_open, .ref a_m_lateDelay, .ref a_m_earlyDelay, .ref a_m_lateSlope, .ref a_m_earlySlope, .ref a_m_greatest, .ref a_m_least, .ref a_m_howMany, .ref a_m_most, .ref a_m_fewest, .ref a_m_pathsTo, .ref a_m_slackOf, .ref a_m_holdOf, .int f_m_listed, .ref a_m_listSlack, .ref a_m_listStart, .ref a_m_listEdge, .ref a_m_listSize, .ref a_m_listCell, .ref a_m_listInput, .ref a_m_rank, .ref a_m_good, .ref a_m_goCell, .ref a_m_goInput, .ref a_m_goEdge, .ref a_m_goMask, .int f_m_target, .int f_m_shown, .ref a_m_shownCell, .ref a_m_shownInput, .ref a_m_shownEdge, .ref a_m_shownLate, .int f_m_shownSlack, .int f_m_shownHold])), (a_m_kind, aI E 50 g_m_kind)] H := by rw [hy_5, hy_6]; exact hP
    replace hD : va_D A [(a_m_inputs, aI E 50 g_m_inputs), (a_m_taken, aI E 200 g_m_taken), (a_m_reached, aZ E 50 g_m_reached), (a_m_greatest, aI E 100 y_5), (a_m_lateDelay, aI E 400 g_m_lateDelay), (a_m_least, aI E 100 y_6), (a_m_earlyDelay, aI E 400 g_m_earlyDelay), (a_m_nodeOf, aI E 50 g_m_nodeOf), (a_m_nodeLate, aI E 20 g_m_nodeLate), (a_m_parent, aI E 20 g_m_parent), (a_m_portLate, aI E 50 g_m_portLate), (a_m_nodeEarly, aI E 20 g_m_nodeEarly), (a_m_portEarly, aI E 50 g_m_portEarly), (o_m, .inr (10, [.int f_m_code, .int f_m_cells, .ref a_m_kind, .ref a_m_inputs, .ref a_m_tableOf, .ref a_m_size, .ref a_m_extra, .ref a_m_taken, .ref a_m_portEarly, .ref a_m_portLate, .ref a_m_portSlope, .ref a_m_nodeOf, .ref a_m_setup, .ref a_m_hold, .ref a_m_seen, .ref a_m_numbers, .ref a_m_rowSize, .ref a_m_fall, .int f_m_late, .int f_m_early, .int f_m_period, .int f_m_nodes, .ref a_m_parent, .ref a_m_nodeEarly, .ref a_m_nodeLate, .int f_m_exceptions, .ref a_m_periods, .ref a_m_from, .ref a_m_through, .ref a_m_toward, .int f_m_fails, .ref a_m_order, .int f_m_ordered, .ref a_m_done, .ref a_m_reached, .ref a_m_open, .ref a_m_lateDelay, .ref a_m_earlyDelay, .ref a_m_lateSlope, .ref a_m_earlySlope, .ref a_m_greatest, .ref a_m_least, .ref a_m_howMany, .ref a_m_most, .ref a_m_fewest, .ref a_m_pathsTo, .ref a_m_slackOf, .ref a_m_holdOf, .int f_m_listed, .ref a_m_listSlack, .ref a_m_listStart, .ref a_m_listEdge, .ref a_m_listSize, .ref a_m_listCell, .ref a_m_listInput, .ref a_m_rank, .ref a_m_good, .ref a_m_goCell, .ref a_m_goInput, .ref a_m_goEdge, .ref a_m_goMask, .int f_m_target, .int f_m_shown, .ref a_m_shownCell, .ref a_m_shownInput, .ref a_m_shownEdge, .ref a_m_shownLate, .int f_m_shownSlack, .int f_m_shownHold])), (a_m_kind, aI E 50 g_m_kind)] := by rw [hy_5, hy_6]; exact hD
    clear hy_3 hy_4 hy_5 hy_6
    obtain ⟨d_7, hd_7⟩ : ∃ d : Nat, 4 - y_3.toInt < (d : Int) := ⟨(4 - y_3.toInt + 1).toNat, by omega⟩
    induction d_7 generalizing y_3 y_4 y_5 y_6 H locs ls with
    | zero => exfalso; omega
    | succ d_7 ih_d_7 =>
      refine lv_iload hx hb dX10_arrive_46 (lv_at hl 0 rfl) ?_
      refine lv_aload_n hx hb dX10_arrive_48 rfl (lv_at hl 2 rfl) ?_
      refine va_get (D := E.1) (ci := 10) (v := .ref a_m_inputs) (own := RX10) (C := RX10) (T := TX10) (N := 69) hx hb hts i_m_arrive_X10 hown hK hP 13 rfl rfl 3 (by decide) (hto (.fieldLink RX10 14 "TimingHouseModel" "inputs" "[I") (by decide +kernel)) (fun _ h9 => h9) rfl dX10_arrive_49 ?_
      refine lv_iload_n hx hb dX10_arrive_52 rfl (lv_at hl 3 rfl) ?_
      refine ld_i hx hb hK hP 0 rfl (by omega) dX10_arrive_53 (fun x_8 ex_8 => ?_)
      have b_x_8 := AR.rd i_g_m_inputs ex_8 (by omega)
      refine lv_icmp_ge (tgt := 245) hx hb dX10_arrive_54 (by decide) (fun c_9 => ?_) (fun c_9 => ?_)
      · have e_9 : x_8.toInt ≤ y_3.toInt := i3_le c_9
        exact ret_v hx hb hr hlk (hP.sub (ws' := [(o_m, .inr (10, [.int f_m_code, .int f_m_cells, .ref a_m_kind, .ref a_m_inputs, .ref a_m_tableOf, .ref a_m_size, .ref a_m_extra, .ref a_m_taken, .ref a_m_portEarly, .ref a_m_portLate, .ref a_m_portSlope, .ref a_m_nodeOf, .ref a_m_setup, .ref a_m_hold, .ref a_m_seen, .ref a_m_numbers, .ref a_m_rowSize, .ref a_m_fall, .int f_m_late, .int f_m_early, .int f_m_period, .int f_m_nodes, .ref a_m_parent, .ref a_m_nodeEarly, .ref a_m_nodeLate, .int f_m_exceptions, .ref a_m_periods, .ref a_m_from, .ref a_m_through, .ref a_m_toward, .int f_m_fails, .ref a_m_order, .int f_m_ordered, .ref a_m_done, .ref a_m_reached, .ref a_m_open, .ref a_m_lateDelay, .ref a_m_earlyDelay, .ref a_m_lateSlope, .ref a_m_earlySlope, .ref a_m_greatest, .ref a_m_least, .ref a_m_howMany, .ref a_m_most, .ref a_m_fewest, .ref a_m_pathsTo, .ref a_m_slackOf, .ref a_m_holdOf, .int f_m_listed, .ref a_m_listSlack, .ref a_m_listStart, .ref a_m_listEdge, .ref a_m_listSize, .ref a_m_listCell, .ref a_m_listInput, .ref a_m_rank, .ref a_m_good, .ref a_m_goCell, .ref a_m_goInput, .ref a_m_goEdge, .ref a_m_goMask, .int f_m_target, .int f_m_shown, .ref a_m_shownCell, .ref a_m_shownInput, .ref a_m_shownEdge, .ref a_m_shownLate, .int f_m_shownSlack, .int f_m_shownHold])), (a_m_kind, aI E 50 g_m_kind), (a_m_inputs, aI E 50 g_m_inputs), (a_m_taken, aI E 200 g_m_taken), (a_m_reached, aZ E 50 g_m_reached), (a_m_greatest, aI E 100 y_5), (a_m_lateDelay, aI E 400 g_m_lateDelay), (a_m_least, aI E 100 y_6), (a_m_earlyDelay, aI E 400 g_m_earlyDelay), (a_m_nodeOf, aI E 50 g_m_nodeOf), (a_m_nodeLate, aI E 20 g_m_nodeLate), (a_m_parent, aI E 20 g_m_parent), (a_m_portLate, aI E 50 g_m_portLate), (a_m_nodeEarly, aI E 20 g_m_nodeEarly), (a_m_portEarly, aI E 50 g_m_portEarly)]) [13, 14, 0, 1, 2, 3, 4, 5, 6, 7, 8, 9, 10, 11, 12] rfl) (hD.sub (ws' := [(o_m, .inr (10, [.int f_m_code, .int f_m_cells, .ref a_m_kind, .ref a_m_inputs, .ref a_m_tableOf, .ref a_m_size, .ref a_m_extra, .ref a_m_taken, .ref a_m_portEarly, .ref a_m_portLate, .ref a_m_portSlope, .ref a_m_nodeOf, .ref a_m_setup, .ref a_m_hold, .ref a_m_seen, .ref a_m_numbers, .ref a_m_rowSize, .ref a_m_fall, .int f_m_late, .int f_m_early, .int f_m_period, .int f_m_nodes, .ref a_m_parent, .ref a_m_nodeEarly, .ref a_m_nodeLate, .int f_m_exceptions, .ref a_m_periods, .ref a_m_from, .ref a_m_through, .ref a_m_toward, .int f_m_fails, .ref a_m_order, .int f_m_ordered, .ref a_m_done, .ref a_m_reached, .ref a_m_open, .ref a_m_lateDelay, .ref a_m_earlyDelay, .ref a_m_lateSlope, .ref a_m_earlySlope, .ref a_m_greatest, .ref a_m_least, .ref a_m_howMany, .ref a_m_most, .ref a_m_fewest, .ref a_m_pathsTo, .ref a_m_slackOf, .ref a_m_holdOf, .int f_m_listed, .ref a_m_listSlack, .ref a_m_listStart, .ref a_m_listEdge, .ref a_m_listSize, .ref a_m_listCell, .ref a_m_listInput, .ref a_m_rank, .ref a_m_good, .ref a_m_goCell, .ref a_m_goInput, .ref a_m_goEdge, .ref a_m_goMask, .int f_m_target, .int f_m_shown, .ref a_m_shownCell, .ref a_m_shownInput, .ref a_m_shownEdge, .ref a_m_shownLate, .int f_m_shownSlack, .int f_m_shownHold])), (a_m_kind, aI E 50 g_m_kind), (a_m_inputs, aI E 50 g_m_inputs), (a_m_taken, aI E 200 g_m_taken), (a_m_reached, aZ E 50 g_m_reached), (a_m_greatest, aI E 100 y_5), (a_m_lateDelay, aI E 400 g_m_lateDelay), (a_m_least, aI E 100 y_6), (a_m_earlyDelay, aI E 400 g_m_earlyDelay), (a_m_nodeOf, aI E 50 g_m_nodeOf), (a_m_nodeLate, aI E 20 g_m_nodeLate), (a_m_parent, aI E 20 g_m_parent), (a_m_portLate, aI E 50 g_m_portLate), (a_m_nodeEarly, aI E 20 g_m_nodeEarly), (a_m_portEarly, aI E 50 g_m_portEarly)]) [13, 14, 0, 1, 2, 3, 4, 5, 6, 7, 8, 9, 10, 11, 12] (by decide) rfl) hS dX10_arrive_245 (Nat.le_of_ble_eq_true rfl) (Nat.le_of_ble_eq_true rfl) ⟨y_5, y_6, rfl⟩
      · have e_9 : y_3.toInt < x_8.toInt := i3_nle c_9
        refine lv_aload_n hx hb dX10_arrive_57 rfl (lv_at hl 2 rfl) ?_
        refine va_get (D := E.1) (ci := 10) (v := .ref a_m_taken) (own := RX10) (C := RX10) (T := TX10) (N := 69) hx hb hts i_m_arrive_X10 hown hK hP 13 rfl rfl 7 (by decide) (hto (.fieldLink RX10 30 "TimingHouseModel" "taken" "[I") (by decide +kernel)) (fun _ h9 => h9) rfl dX10_arrive_58 ?_
        refine lv_iconst (v := 4) hx hb dX10_arrive_61 (by decide) ?_
        refine lv_iload_n hx hb dX10_arrive_62 rfl (lv_at hl 3 rfl) ?_
        refine lv_imul hx hb dX10_arrive_63 ?_
        refine lv_topi (fun x_10 ex_10 => ?_)
        have tx_10 : x_10.toInt = 4 * p1.toInt := i3_mulc rfl rfl ex_10 (by omega)
        refine lv_iload hx hb dX10_arrive_64 (lv_at hl 0 rfl) ?_
        refine lv_iadd hx hb dX10_arrive_66 ?_
        refine lv_topi (fun x_11 ex_11 => ?_)
        have tx_11 : x_11.toInt = x_10.toInt + y_3.toInt := i3_addc rfl rfl ex_11 (by omega)
        refine ld_i hx hb hK hP 1 rfl (by omega) dX10_arrive_67 (fun x_12 ex_12 => ?_)
        have q_x_12 : x_12.toInt = (g_m_taken x_11.toNatClampNeg).toInt := i3_eq ex_12
        have b_x_12 := AR.rd i_g_m_taken ex_12 (by omega)
        refine lv_istore (lv' := [(5, .int x_12), (4, .int y_3), (3, .int y_4), (0, .ref o_m), (1, .int p1), (2, .int p2)]) hx hb dX10_arrive_68 hl (by decide) rfl (fun ls hl => ?_)
        refine lv_iload hx hb dX10_arrive_70 (lv_at hl 0 rfl) ?_
        refine lv_if_lt (tgt := 239) hx hb dX10_arrive_72 (by decide) (fun c_13 => ?_) (fun c_13 => ?_)
        · have e_13 : x_12.toInt < 0 := i3_lt c_13
          obtain ⟨x_14, ex_14⟩ : ∃ y : Int32, y = y_3 + 1 := ⟨_, rfl⟩
          have tx_14 : x_14.toInt = y_3.toInt + 1 := i3_addc rfl rfl ex_14 (by omega)
          refine lv_iinc (v := x_14) (lv' := [(4, .int x_14), (5, .int x_12), (3, .int y_4), (0, .ref o_m), (1, .int p1), (2, .int p2)]) hx hb dX10_arrive_239 hl (k := 1) rfl (by rw [ex_14]; rfl) (by decide) rfl (fun ls hl => ?_)
          refine lv_goto (tgt := 46) hx hb dX10_arrive_242 (by decide) ?_
          replace hl : lv_has ls 9 [(4, .int x_14), (3, .int y_4), (0, .ref o_m), (1, .int p1), (2, .int p2)] := lv_sub hl [0, 2, 3, 4, 5] rfl
          apply ih_d_7 (y_3 := x_14) (y_4 := y_4) (y_5 := y_5) (y_6 := y_6) (H := H) (locs := locs) (ls := ls) <;> first | assumption | omega | decide
        · have e_13 : 0 ≤ x_12.toInt := i3_nlt c_13
          refine lv_aload_n hx hb dX10_arrive_75 rfl (lv_at hl 3 rfl) ?_
          refine va_get (D := E.1) (ci := 10) (v := .ref a_m_reached) (own := RX10) (C := RX10) (T := TX10) (N := 69) hx hb hts i_m_arrive_X10 hown hK hP 13 rfl rfl 34 (by decide) (hto (.fieldLink RX10 117 "TimingHouseModel" "reached" "[Z") (by decide +kernel)) (fun _ h9 => h9) rfl dX10_arrive_76 ?_
          refine lv_iload hx hb dX10_arrive_79 (lv_at hl 0 rfl) ?_
          refine ld_z hx hb hK hP 2 rfl (by omega) dX10_arrive_81 (fun x_15 ex_15 => ?_)
          have b_x_15 := AR.rd i_g_m_reached ex_15 (by omega)
          refine lv_if_ne (tgt := 88) hx hb dX10_arrive_82 (by decide) (fun c_16 => ?_) (fun c_16 => ?_)
          · have e_16 : x_15.toInt ≠ 0 := i3_ne c_16
            refine lv_aload_n hx hb dX10_arrive_88 rfl (lv_at hl 3 rfl) ?_
            refine va_get (D := E.1) (ci := 10) (v := .ref a_m_kind) (own := RX10) (C := RX10) (T := TX10) (N := 69) hx hb hts i_m_arrive_X10 hown hK hP 13 rfl rfl 2 (by decide) (hto (.fieldLink RX10 18 "TimingHouseModel" "kind" "[I") (by decide +kernel)) (fun _ h9 => h9) rfl dX10_arrive_89 ?_
            refine lv_iload_n hx hb dX10_arrive_92 rfl (lv_at hl 4 rfl) ?_
            refine ld_i hx hb hK hP 14 rfl (by omega) dX10_arrive_93 (fun x_17 ex_17 => ?_)
            have b_x_17 := AR.rd i_g_m_kind ex_17 (by omega)
            refine lv_iconst (v := 2) hx hb dX10_arrive_94 (by decide) ?_
            refine lv_icmp_ne (tgt := 104) hx hb dX10_arrive_95 (by decide) (fun c_18 => ?_) (fun c_18 => ?_)
            · have e_18 : x_17.toInt ≠ 2 := i3_ne c_18
              refine lv_iload_n hx hb dX10_arrive_104 rfl (lv_at hl 5 rfl) ?_
              refine lv_istore (lv' := [(6, .int p2), (5, .int x_12), (4, .int y_3), (3, .int y_4), (0, .ref o_m), (1, .int p1), (2, .int p2)]) hx hb dX10_arrive_105 hl (by decide) rfl (fun ls hl => ?_)
              refine lv_aload_n hx hb dX10_arrive_107 rfl (lv_at hl 4 rfl) ?_
              refine va_get (D := E.1) (ci := 10) (v := .ref a_m_greatest) (own := RX10) (C := RX10) (T := TX10) (N := 69) hx hb hts i_m_arrive_X10 hown hK hP 13 rfl rfl 40 (by decide) (hto (.fieldLink RX10 135 "TimingHouseModel" "greatest" "[I") (by decide +kernel)) (fun _ h9 => h9) rfl dX10_arrive_108 ?_
              refine lv_iconst (v := 2) hx hb dX10_arrive_111 (by decide) ?_
              refine lv_iload hx hb dX10_arrive_112 (lv_at hl 1 rfl) ?_
              refine lv_imul hx hb dX10_arrive_114 ?_
              refine lv_topi (fun x_19 ex_19 => ?_)
              have tx_19 : x_19.toInt = 2 * x_12.toInt := i3_mulc rfl rfl ex_19 (by omega)
              refine lv_iload hx hb dX10_arrive_115 (lv_at hl 0 rfl) ?_
              have b_p2 := r_p2.out
              refine lv_iadd hx hb dX10_arrive_117 ?_
              refine lv_topi (fun x_20 ex_20 => ?_)
              have tx_20 : x_20.toInt = x_19.toInt + p2.toInt := i3_addc rfl rfl ex_20 (by omega)
              refine ld_i hx hb hK hP 3 rfl (by omega) dX10_arrive_118 (fun x_21 ex_21 => ?_)
              refine lv_aload_n hx hb dX10_arrive_119 rfl (lv_at hl 4 rfl) ?_
              refine va_get (D := E.1) (ci := 10) (v := .ref a_m_lateDelay) (own := RX10) (C := RX10) (T := TX10) (N := 69) hx hb hts i_m_arrive_X10 hown hK hP 13 rfl rfl 36 (by decide) (hto (.fieldLink RX10 123 "TimingHouseModel" "lateDelay" "[I") (by decide +kernel)) (fun _ h9 => h9) rfl dX10_arrive_120 ?_
              refine lv_bipush (v := 8) hx hb dX10_arrive_123 (by decide) ?_
              refine lv_iload_n hx hb dX10_arrive_125 rfl (lv_at hl 5 rfl) ?_
              refine lv_imul hx hb dX10_arrive_126 ?_
              refine lv_topi (fun x_22 ex_22 => ?_)
              have tx_22 : x_22.toInt = 8 * p1.toInt := i3_mulc rfl rfl ex_22 (by omega)
              refine lv_iconst (v := 2) hx hb dX10_arrive_127 (by decide) ?_
              refine lv_iload hx hb dX10_arrive_128 (lv_at hl 2 rfl) ?_
              refine lv_imul hx hb dX10_arrive_130 ?_
              refine lv_topi (fun x_23 ex_23 => ?_)
              have tx_23 : x_23.toInt = 2 * y_3.toInt := i3_mulc rfl rfl ex_23 (by omega)
              refine lv_iadd hx hb dX10_arrive_131 ?_
              refine lv_topi (fun x_24 ex_24 => ?_)
              have tx_24 : x_24.toInt = x_22.toInt + x_23.toInt := i3_addc rfl rfl ex_24 (by omega)
              refine lv_iload_n hx hb dX10_arrive_132 rfl (lv_at hl 6 rfl) ?_
              refine lv_iadd hx hb dX10_arrive_133 ?_
              refine lv_topi (fun x_25 ex_25 => ?_)
              have tx_25 : x_25.toInt = x_24.toInt + p2.toInt := i3_addc rfl rfl ex_25 (by omega)
              refine ld_i hx hb hK hP 4 rfl (by omega) dX10_arrive_134 (fun x_26 ex_26 => ?_)
              refine lv_iadd hx hb dX10_arrive_135 ?_
              refine lv_topi (fun x_27 ex_27 => ?_)
              have bd_28 := i3_bd x_21
              have bd_29 := i3_bd x_26
              refine lv_istore (lv' := [(7, .int x_27), (6, .int p2), (5, .int x_12), (4, .int y_3), (3, .int y_4), (0, .ref o_m), (1, .int p1), (2, .int p2)]) hx hb dX10_arrive_136 hl (by decide) rfl (fun ls hl => ?_)
              refine lv_aload_n hx hb dX10_arrive_138 rfl (lv_at hl 5 rfl) ?_
              refine va_get (D := E.1) (ci := 10) (v := .ref a_m_least) (own := RX10) (C := RX10) (T := TX10) (N := 69) hx hb hts i_m_arrive_X10 hown hK hP 13 rfl rfl 41 (by decide) (hto (.fieldLink RX10 138 "TimingHouseModel" "least" "[I") (by decide +kernel)) (fun _ h9 => h9) rfl dX10_arrive_139 ?_
              refine lv_iconst (v := 2) hx hb dX10_arrive_142 (by decide) ?_
              refine lv_iload hx hb dX10_arrive_143 (lv_at hl 2 rfl) ?_
              refine lv_imul hx hb dX10_arrive_145 ?_
              refine lv_topi (fun x_30 ex_30 => ?_)
              have hq_x_30 : x_19 = x_30 := ex_19.trans ex_30.symm
              subst hq_x_30
              refine lv_iload hx hb dX10_arrive_146 (lv_at hl 1 rfl) ?_
              refine lv_iadd hx hb dX10_arrive_148 ?_
              refine lv_topi (fun x_31 ex_31 => ?_)
              have hq_x_31 : x_20 = x_31 := ex_20.trans ex_31.symm
              subst hq_x_31
              refine ld_i hx hb hK hP 5 rfl (by omega) dX10_arrive_149 (fun x_32 ex_32 => ?_)
              refine lv_aload_n hx hb dX10_arrive_150 rfl (lv_at hl 5 rfl) ?_
              refine va_get (D := E.1) (ci := 10) (v := .ref a_m_earlyDelay) (own := RX10) (C := RX10) (T := TX10) (N := 69) hx hb hts i_m_arrive_X10 hown hK hP 13 rfl rfl 37 (by decide) (hto (.fieldLink RX10 126 "TimingHouseModel" "earlyDelay" "[I") (by decide +kernel)) (fun _ h9 => h9) rfl dX10_arrive_151 ?_
              refine lv_bipush (v := 8) hx hb dX10_arrive_154 (by decide) ?_
              refine lv_iload_n hx hb dX10_arrive_156 rfl (lv_at hl 6 rfl) ?_
              refine lv_imul hx hb dX10_arrive_157 ?_
              refine lv_topi (fun x_33 ex_33 => ?_)
              have hq_x_33 : x_22 = x_33 := ex_22.trans ex_33.symm
              subst hq_x_33
              refine lv_iconst (v := 2) hx hb dX10_arrive_158 (by decide) ?_
              refine lv_iload hx hb dX10_arrive_159 (lv_at hl 3 rfl) ?_
              refine lv_imul hx hb dX10_arrive_161 ?_
              refine lv_topi (fun x_34 ex_34 => ?_)
              have hq_x_34 : x_23 = x_34 := ex_23.trans ex_34.symm
              subst hq_x_34
              refine lv_iadd hx hb dX10_arrive_162 ?_
              refine lv_topi (fun x_35 ex_35 => ?_)
              have hq_x_35 : x_24 = x_35 := ex_24.trans ex_35.symm
              subst hq_x_35
              refine lv_iload_n hx hb dX10_arrive_163 rfl (lv_at hl 7 rfl) ?_
              refine lv_iadd hx hb dX10_arrive_164 ?_
              refine lv_topi (fun x_36 ex_36 => ?_)
              have hq_x_36 : x_25 = x_36 := ex_25.trans ex_36.symm
              subst hq_x_36
              refine ld_i hx hb hK hP 6 rfl (by omega) dX10_arrive_165 (fun x_37 ex_37 => ?_)
              refine lv_iadd hx hb dX10_arrive_166 ?_
              refine lv_topi (fun x_38 ex_38 => ?_)
              have bd_39 := i3_bd x_32
              have bd_40 := i3_bd x_37
              refine lv_istore (lv' := [(8, .int x_38), (7, .int x_27), (6, .int p2), (5, .int x_12), (4, .int y_3), (3, .int y_4), (0, .ref o_m), (1, .int p1), (2, .int p2)]) hx hb dX10_arrive_167 hl (by decide) rfl (fun ls hl => ?_)
              refine lv_aload_n hx hb dX10_arrive_169 rfl (lv_at hl 6 rfl) ?_
              refine va_get (D := E.1) (ci := 10) (v := .ref a_m_greatest) (own := RX10) (C := RX10) (T := TX10) (N := 69) hx hb hts i_m_arrive_X10 hown hK hP 13 rfl rfl 40 (by decide) (hto (.fieldLink RX10 135 "TimingHouseModel" "greatest" "[I") (by decide +kernel)) (fun _ h9 => h9) rfl dX10_arrive_170 ?_
              refine lv_iconst (v := 2) hx hb dX10_arrive_173 (by decide) ?_
              refine lv_iload_n hx hb dX10_arrive_174 rfl (lv_at hl 7 rfl) ?_
              refine lv_imul hx hb dX10_arrive_175 ?_
              refine lv_topi (fun x_41 ex_41 => ?_)
              have tx_41 : x_41.toInt = 2 * p1.toInt := i3_mulc rfl rfl ex_41 (by omega)
              refine lv_iload_n hx hb dX10_arrive_176 rfl (lv_at hl 8 rfl) ?_
              refine lv_iadd hx hb dX10_arrive_177 ?_
              refine lv_topi (fun x_42 ex_42 => ?_)
              have tx_42 : x_42.toInt = x_41.toInt + p2.toInt := i3_addc rfl rfl ex_42 (by omega)
              refine lv_iload_n hx hb dX10_arrive_178 rfl (lv_at hl 5 rfl) ?_
              refine lv_if_eq (tgt := 200) hx hb dX10_arrive_179 (by decide) (fun c_43 => ?_) (fun c_43 => ?_)
              · have e_43 : y_4.toInt = 0 := i3_eq c_43
                refine lv_iload hx hb dX10_arrive_200 (lv_at hl 1 rfl) ?_
                refine st_i hx hb hK hP hD hS 3 rfl (by omega) dX10_arrive_202 (fun g_44 H locs eg_44 hP hD hS => ?_)
                clear eg_44
                replace hP : va_P E.1 vwCl [(a_m_inputs, aI E 50 g_m_inputs), (a_m_taken, aI E 200 g_m_taken), (a_m_reached, aZ E 50 g_m_reached), (a_m_greatest, aI E 100 g_44), (a_m_lateDelay, aI E 400 g_m_lateDelay), (a_m_least, aI E 100 y_6), (a_m_earlyDelay, aI E 400 g_m_earlyDelay), (a_m_nodeOf, aI E 50 g_m_nodeOf), (a_m_nodeLate, aI E 20 g_m_nodeLate), (a_m_parent, aI E 20 g_m_parent), (a_m_portLate, aI E 50 g_m_portLate), (a_m_nodeEarly, aI E 20 g_m_nodeEarly), (a_m_portEarly, aI E 50 g_m_portEarly), (o_m, .inr (10, [.int f_m_code, .int f_m_cells, .ref a_m_kind, .ref a_m_inputs, .ref a_m_tableOf, .ref a_m_size, .ref a_m_extra, .ref a_m_taken, .ref a_m_portEarly, .ref a_m_portLate, .ref a_m_portSlope, .ref a_m_nodeOf, .ref a_m_setup, .ref a_m_hold, .ref a_m_seen, .ref a_m_numbers, .ref a_m_rowSize, .ref a_m_fall, .int f_m_late, .int f_m_early, .int f_m_period, .int f_m_nodes, .ref a_m_parent, .ref a_m_nodeEarly, .ref a_m_nodeLate, .int f_m_exceptions, .ref a_m_periods, .ref a_m_from, .ref a_m_through, .ref a_m_toward, .int f_m_fails, .ref a_m_order, .int f_m_ordered, .ref a_m_done, .ref a_m_reached, .ref a_m_open, .ref a_m_lateDelay, .ref a_m_earlyDelay, .ref a_m_lateSlope, .ref a_m_earlySlope, .ref a_m_greatest, .ref a_m_least, .ref a_m_howMany, .ref a_m_most, .ref a_m_fewest, .ref a_m_pathsTo, .ref a_m_slackOf, .ref a_m_holdOf, .int f_m_listed, .ref a_m_listSlack, .ref a_m_listStart, .ref a_m_listEdge, .ref a_m_listSize, .ref a_m_listCell, .ref a_m_listInput, .ref a_m_rank, .ref a_m_good, .ref a_m_goCell, .ref a_m_goInput, .ref a_m_goEdge, .ref a_m_goMask, .int f_m_target, .int f_m_shown, .ref a_m_shownCell, .ref a_m_shownInput, .ref a_m_shownEdge, .ref a_m_shownLate, .int f_m_shownSlack, .int f_m_shownHold])), (a_m_kind, aI E 50 g_m_kind)] H := hP
                replace hD : va_D A [(a_m_inputs, aI E 50 g_m_inputs), (a_m_taken, aI E 200 g_m_taken), (a_m_reached, aZ E 50 g_m_reached), (a_m_greatest, aI E 100 g_44), (a_m_lateDelay, aI E 400 g_m_lateDelay), (a_m_least, aI E 100 y_6), (a_m_earlyDelay, aI E 400 g_m_earlyDelay), (a_m_nodeOf, aI E 50 g_m_nodeOf), (a_m_nodeLate, aI E 20 g_m_nodeLate), (a_m_parent, aI E 20 g_m_parent), (a_m_portLate, aI E 50 g_m_portLate), (a_m_nodeEarly, aI E 20 g_m_nodeEarly), (a_m_portEarly, aI E 50 g_m_portEarly), (o_m, .inr (10, [.int f_m_code, .int f_m_cells, .ref a_m_kind, .ref a_m_inputs, .ref a_m_tableOf, .ref a_m_size, .ref a_m_extra, .ref a_m_taken, .ref a_m_portEarly, .ref a_m_portLate, .ref a_m_portSlope, .ref a_m_nodeOf, .ref a_m_setup, .ref a_m_hold, .ref a_m_seen, .ref a_m_numbers, .ref a_m_rowSize, .ref a_m_fall, .int f_m_late, .int f_m_early, .int f_m_period, .int f_m_nodes, .ref a_m_parent, .ref a_m_nodeEarly, .ref a_m_nodeLate, .int f_m_exceptions, .ref a_m_periods, .ref a_m_from, .ref a_m_through, .ref a_m_toward, .int f_m_fails, .ref a_m_order, .int f_m_ordered, .ref a_m_done, .ref a_m_reached, .ref a_m_open, .ref a_m_lateDelay, .ref a_m_earlyDelay, .ref a_m_lateSlope, .ref a_m_earlySlope, .ref a_m_greatest, .ref a_m_least, .ref a_m_howMany, .ref a_m_most, .ref a_m_fewest, .ref a_m_pathsTo, .ref a_m_slackOf, .ref a_m_holdOf, .int f_m_listed, .ref a_m_listSlack, .ref a_m_listStart, .ref a_m_listEdge, .ref a_m_listSize, .ref a_m_listCell, .ref a_m_listInput, .ref a_m_rank, .ref a_m_good, .ref a_m_goCell, .ref a_m_goInput, .ref a_m_goEdge, .ref a_m_goMask, .int f_m_target, .int f_m_shown, .ref a_m_shownCell, .ref a_m_shownInput, .ref a_m_shownEdge, .ref a_m_shownLate, .int f_m_shownSlack, .int f_m_shownHold])), (a_m_kind, aI E 50 g_m_kind)] := hD
                refine lv_aload_n hx hb dX10_arrive_203 rfl (lv_at hl 6 rfl) ?_
                refine va_get (D := E.1) (ci := 10) (v := .ref a_m_least) (own := RX10) (C := RX10) (T := TX10) (N := 69) hx hb hts i_m_arrive_X10 hown hK hP 13 rfl rfl 41 (by decide) (hto (.fieldLink RX10 138 "TimingHouseModel" "least" "[I") (by decide +kernel)) (fun _ h9 => h9) rfl dX10_arrive_204 ?_
                refine lv_iconst (v := 2) hx hb dX10_arrive_207 (by decide) ?_
                refine lv_iload_n hx hb dX10_arrive_208 rfl (lv_at hl 7 rfl) ?_
                refine lv_imul hx hb dX10_arrive_209 ?_
                refine lv_topi (fun x_45 ex_45 => ?_)
                have hq_x_45 : x_41 = x_45 := ex_41.trans ex_45.symm
                subst hq_x_45
                refine lv_iload_n hx hb dX10_arrive_210 rfl (lv_at hl 8 rfl) ?_
                refine lv_iadd hx hb dX10_arrive_211 ?_
                refine lv_topi (fun x_46 ex_46 => ?_)
                have hq_x_46 : x_42 = x_46 := ex_42.trans ex_46.symm
                subst hq_x_46
                refine lv_iload_n hx hb dX10_arrive_212 rfl (lv_at hl 5 rfl) ?_
                refine lv_if_eq (tgt := 234) hx hb dX10_arrive_213 (by decide) (fun c_47 => ?_) (fun c_47 => ?_)
                · have e_47 : y_4.toInt = 0 := i3_eq c_47
                  refine lv_iload hx hb dX10_arrive_234 (lv_at hl 0 rfl) ?_
                  refine st_i hx hb hK hP hD hS 5 rfl (by omega) dX10_arrive_236 (fun g_48 H locs eg_48 hP hD hS => ?_)
                  clear eg_48
                  replace hP : va_P E.1 vwCl [(a_m_inputs, aI E 50 g_m_inputs), (a_m_taken, aI E 200 g_m_taken), (a_m_reached, aZ E 50 g_m_reached), (a_m_greatest, aI E 100 g_44), (a_m_lateDelay, aI E 400 g_m_lateDelay), (a_m_least, aI E 100 g_48), (a_m_earlyDelay, aI E 400 g_m_earlyDelay), (a_m_nodeOf, aI E 50 g_m_nodeOf), (a_m_nodeLate, aI E 20 g_m_nodeLate), (a_m_parent, aI E 20 g_m_parent), (a_m_portLate, aI E 50 g_m_portLate), (a_m_nodeEarly, aI E 20 g_m_nodeEarly), (a_m_portEarly, aI E 50 g_m_portEarly), (o_m, .inr (10, [.int f_m_code, .int f_m_cells, .ref a_m_kind, .ref a_m_inputs, .ref a_m_tableOf, .ref a_m_size, .ref a_m_extra, .ref a_m_taken, .ref a_m_portEarly, .ref a_m_portLate, .ref a_m_portSlope, .ref a_m_nodeOf, .ref a_m_setup, .ref a_m_hold, .ref a_m_seen, .ref a_m_numbers, .ref a_m_rowSize, .ref a_m_fall, .int f_m_late, .int f_m_early, .int f_m_period, .int f_m_nodes, .ref a_m_parent, .ref a_m_nodeEarly, .ref a_m_nodeLate, .int f_m_exceptions, .ref a_m_periods, .ref a_m_from, .ref a_m_through, .ref a_m_toward, .int f_m_fails, .ref a_m_order, .int f_m_ordered, .ref a_m_done, .ref a_m_reached, .ref a_m_open, .ref a_m_lateDelay, .ref a_m_earlyDelay, .ref a_m_lateSlope, .ref a_m_earlySlope, .ref a_m_greatest, .ref a_m_least, .ref a_m_howMany, .ref a_m_most, .ref a_m_fewest, .ref a_m_pathsTo, .ref a_m_slackOf, .ref a_m_holdOf, .int f_m_listed, .ref a_m_listSlack, .ref a_m_listStart, .ref a_m_listEdge, .ref a_m_listSize, .ref a_m_listCell, .ref a_m_listInput, .ref a_m_rank, .ref a_m_good, .ref a_m_goCell, .ref a_m_goInput, .ref a_m_goEdge, .ref a_m_goMask, .int f_m_target, .int f_m_shown, .ref a_m_shownCell, .ref a_m_shownInput, .ref a_m_shownEdge, .ref a_m_shownLate, .int f_m_shownSlack, .int f_m_shownHold])), (a_m_kind, aI E 50 g_m_kind)] H := hP
                  replace hD : va_D A [(a_m_inputs, aI E 50 g_m_inputs), (a_m_taken, aI E 200 g_m_taken), (a_m_reached, aZ E 50 g_m_reached), (a_m_greatest, aI E 100 g_44), (a_m_lateDelay, aI E 400 g_m_lateDelay), (a_m_least, aI E 100 g_48), (a_m_earlyDelay, aI E 400 g_m_earlyDelay), (a_m_nodeOf, aI E 50 g_m_nodeOf), (a_m_nodeLate, aI E 20 g_m_nodeLate), (a_m_parent, aI E 20 g_m_parent), (a_m_portLate, aI E 50 g_m_portLate), (a_m_nodeEarly, aI E 20 g_m_nodeEarly), (a_m_portEarly, aI E 50 g_m_portEarly), (o_m, .inr (10, [.int f_m_code, .int f_m_cells, .ref a_m_kind, .ref a_m_inputs, .ref a_m_tableOf, .ref a_m_size, .ref a_m_extra, .ref a_m_taken, .ref a_m_portEarly, .ref a_m_portLate, .ref a_m_portSlope, .ref a_m_nodeOf, .ref a_m_setup, .ref a_m_hold, .ref a_m_seen, .ref a_m_numbers, .ref a_m_rowSize, .ref a_m_fall, .int f_m_late, .int f_m_early, .int f_m_period, .int f_m_nodes, .ref a_m_parent, .ref a_m_nodeEarly, .ref a_m_nodeLate, .int f_m_exceptions, .ref a_m_periods, .ref a_m_from, .ref a_m_through, .ref a_m_toward, .int f_m_fails, .ref a_m_order, .int f_m_ordered, .ref a_m_done, .ref a_m_reached, .ref a_m_open, .ref a_m_lateDelay, .ref a_m_earlyDelay, .ref a_m_lateSlope, .ref a_m_earlySlope, .ref a_m_greatest, .ref a_m_least, .ref a_m_howMany, .ref a_m_most, .ref a_m_fewest, .ref a_m_pathsTo, .ref a_m_slackOf, .ref a_m_holdOf, .int f_m_listed, .ref a_m_listSlack, .ref a_m_listStart, .ref a_m_listEdge, .ref a_m_listSize, .ref a_m_listCell, .ref a_m_listInput, .ref a_m_rank, .ref a_m_good, .ref a_m_goCell, .ref a_m_goInput, .ref a_m_goEdge, .ref a_m_goMask, .int f_m_target, .int f_m_shown, .ref a_m_shownCell, .ref a_m_shownInput, .ref a_m_shownEdge, .ref a_m_shownLate, .int f_m_shownSlack, .int f_m_shownHold])), (a_m_kind, aI E 50 g_m_kind)] := hD
                  refine lv_iconst (v := 1) hx hb dX10_arrive_237 (by decide) ?_
                  refine lv_istore_n (lv' := [(3, .int 1), (8, .int x_38), (7, .int x_27), (6, .int p2), (5, .int x_12), (4, .int y_3), (0, .ref o_m), (1, .int p1), (2, .int p2)]) hx hb dX10_arrive_238 rfl hl (by decide) rfl (fun ls hl => ?_)
                  obtain ⟨x_49, ex_49⟩ : ∃ y : Int32, y = y_3 + 1 := ⟨_, rfl⟩
                  have tx_49 : x_49.toInt = y_3.toInt + 1 := i3_addc rfl rfl ex_49 (by omega)
                  refine lv_iinc (v := x_49) (lv' := [(4, .int x_49), (3, .int 1), (8, .int x_38), (7, .int x_27), (6, .int p2), (5, .int x_12), (0, .ref o_m), (1, .int p1), (2, .int p2)]) hx hb dX10_arrive_239 hl (k := 5) rfl (by rw [ex_49]; rfl) (by decide) rfl (fun ls hl => ?_)
                  refine lv_goto (tgt := 46) hx hb dX10_arrive_242 (by decide) ?_
                  replace hl : lv_has ls 9 [(4, .int x_49), (3, .int 1), (0, .ref o_m), (1, .int p1), (2, .int p2)] := lv_sub hl [0, 1, 6, 7, 8] rfl
                  apply ih_d_7 (y_3 := x_49) (y_4 := 1) (y_5 := g_44) (y_6 := g_48) (H := H) (locs := locs) (ls := ls) <;> first | assumption | omega | decide
                · have e_47 : y_4.toInt ≠ 0 := i3_ne c_47
                  exfalso; omega
              · have e_43 : y_4.toInt ≠ 0 := i3_ne c_43
                refine lv_aload_n hx hb dX10_arrive_182 rfl (lv_at hl 6 rfl) ?_
                refine va_get (D := E.1) (ci := 10) (v := .ref a_m_greatest) (own := RX10) (C := RX10) (T := TX10) (N := 69) hx hb hts i_m_arrive_X10 hown hK hP 13 rfl rfl 40 (by decide) (hto (.fieldLink RX10 135 "TimingHouseModel" "greatest" "[I") (by decide +kernel)) (fun _ h9 => h9) rfl dX10_arrive_183 ?_
                refine lv_iconst (v := 2) hx hb dX10_arrive_186 (by decide) ?_
                refine lv_iload_n hx hb dX10_arrive_187 rfl (lv_at hl 7 rfl) ?_
                refine lv_imul hx hb dX10_arrive_188 ?_
                refine lv_topi (fun x_50 ex_50 => ?_)
                have hq_x_50 : x_41 = x_50 := ex_41.trans ex_50.symm
                subst hq_x_50
                refine lv_iload_n hx hb dX10_arrive_189 rfl (lv_at hl 8 rfl) ?_
                refine lv_iadd hx hb dX10_arrive_190 ?_
                refine lv_topi (fun x_51 ex_51 => ?_)
                have hq_x_51 : x_42 = x_51 := ex_42.trans ex_51.symm
                subst hq_x_51
                refine ld_i hx hb hK hP 3 rfl (by omega) dX10_arrive_191 (fun x_52 ex_52 => ?_)
                refine lv_iload hx hb dX10_arrive_192 (lv_at hl 1 rfl) ?_
                refine va_mmax hx hb (hml.trans hl.1.symm) hown (hto (.methodLink RX10 260 Lib.Math.max.name) (by decide +kernel)) (hto (.static Lib.Math.max.name) (by decide +kernel)) (hto (.initialized "java/lang/Math") (by decide +kernel)) (hto (.code Lib.Math.max.name Lib.Math.max.code 2 (some .int)) (by decide +kernel)) (Nat.le_of_ble_eq_true rfl) (Nat.le_of_ble_eq_true rfl) (Nat.zero_le _) (Nat.zero_le _) dX10_arrive_194 ?_
                refine lv_topi (fun x_53 ex_53 => ?_)
                have m_x_53 : (x_53.toInt ≥ x_52.toInt ∧ x_53.toInt ≥ x_27.toInt) ∧ (x_53.toInt = x_52.toInt ∨ x_53.toInt = x_27.toInt) := i3_max ex_53
                refine lv_goto (tgt := 202) hx hb dX10_arrive_197 (by decide) ?_
                refine st_i hx hb hK hP hD hS 3 rfl (by omega) dX10_arrive_202 (fun g_54 H locs eg_54 hP hD hS => ?_)
                clear eg_54
                replace hP : va_P E.1 vwCl [(a_m_inputs, aI E 50 g_m_inputs), (a_m_taken, aI E 200 g_m_taken), (a_m_reached, aZ E 50 g_m_reached), (a_m_greatest, aI E 100 g_54), (a_m_lateDelay, aI E 400 g_m_lateDelay), (a_m_least, aI E 100 y_6), (a_m_earlyDelay, aI E 400 g_m_earlyDelay), (a_m_nodeOf, aI E 50 g_m_nodeOf), (a_m_nodeLate, aI E 20 g_m_nodeLate), (a_m_parent, aI E 20 g_m_parent), (a_m_portLate, aI E 50 g_m_portLate), (a_m_nodeEarly, aI E 20 g_m_nodeEarly), (a_m_portEarly, aI E 50 g_m_portEarly), (o_m, .inr (10, [.int f_m_code, .int f_m_cells, .ref a_m_kind, .ref a_m_inputs, .ref a_m_tableOf, .ref a_m_size, .ref a_m_extra, .ref a_m_taken, .ref a_m_portEarly, .ref a_m_portLate, .ref a_m_portSlope, .ref a_m_nodeOf, .ref a_m_setup, .ref a_m_hold, .ref a_m_seen, .ref a_m_numbers, .ref a_m_rowSize, .ref a_m_fall, .int f_m_late, .int f_m_early, .int f_m_period, .int f_m_nodes, .ref a_m_parent, .ref a_m_nodeEarly, .ref a_m_nodeLate, .int f_m_exceptions, .ref a_m_periods, .ref a_m_from, .ref a_m_through, .ref a_m_toward, .int f_m_fails, .ref a_m_order, .int f_m_ordered, .ref a_m_done, .ref a_m_reached, .ref a_m_open, .ref a_m_lateDelay, .ref a_m_earlyDelay, .ref a_m_lateSlope, .ref a_m_earlySlope, .ref a_m_greatest, .ref a_m_least, .ref a_m_howMany, .ref a_m_most, .ref a_m_fewest, .ref a_m_pathsTo, .ref a_m_slackOf, .ref a_m_holdOf, .int f_m_listed, .ref a_m_listSlack, .ref a_m_listStart, .ref a_m_listEdge, .ref a_m_listSize, .ref a_m_listCell, .ref a_m_listInput, .ref a_m_rank, .ref a_m_good, .ref a_m_goCell, .ref a_m_goInput, .ref a_m_goEdge, .ref a_m_goMask, .int f_m_target, .int f_m_shown, .ref a_m_shownCell, .ref a_m_shownInput, .ref a_m_shownEdge, .ref a_m_shownLate, .int f_m_shownSlack, .int f_m_shownHold])), (a_m_kind, aI E 50 g_m_kind)] H := hP
                replace hD : va_D A [(a_m_inputs, aI E 50 g_m_inputs), (a_m_taken, aI E 200 g_m_taken), (a_m_reached, aZ E 50 g_m_reached), (a_m_greatest, aI E 100 g_54), (a_m_lateDelay, aI E 400 g_m_lateDelay), (a_m_least, aI E 100 y_6), (a_m_earlyDelay, aI E 400 g_m_earlyDelay), (a_m_nodeOf, aI E 50 g_m_nodeOf), (a_m_nodeLate, aI E 20 g_m_nodeLate), (a_m_parent, aI E 20 g_m_parent), (a_m_portLate, aI E 50 g_m_portLate), (a_m_nodeEarly, aI E 20 g_m_nodeEarly), (a_m_portEarly, aI E 50 g_m_portEarly), (o_m, .inr (10, [.int f_m_code, .int f_m_cells, .ref a_m_kind, .ref a_m_inputs, .ref a_m_tableOf, .ref a_m_size, .ref a_m_extra, .ref a_m_taken, .ref a_m_portEarly, .ref a_m_portLate, .ref a_m_portSlope, .ref a_m_nodeOf, .ref a_m_setup, .ref a_m_hold, .ref a_m_seen, .ref a_m_numbers, .ref a_m_rowSize, .ref a_m_fall, .int f_m_late, .int f_m_early, .int f_m_period, .int f_m_nodes, .ref a_m_parent, .ref a_m_nodeEarly, .ref a_m_nodeLate, .int f_m_exceptions, .ref a_m_periods, .ref a_m_from, .ref a_m_through, .ref a_m_toward, .int f_m_fails, .ref a_m_order, .int f_m_ordered, .ref a_m_done, .ref a_m_reached, .ref a_m_open, .ref a_m_lateDelay, .ref a_m_earlyDelay, .ref a_m_lateSlope, .ref a_m_earlySlope, .ref a_m_greatest, .ref a_m_least, .ref a_m_howMany, .ref a_m_most, .ref a_m_fewest, .ref a_m_pathsTo, .ref a_m_slackOf, .ref a_m_holdOf, .int f_m_listed, .ref a_m_listSlack, .ref a_m_listStart, .ref a_m_listEdge, .ref a_m_listSize, .ref a_m_listCell, .ref a_m_listInput, .ref a_m_rank, .ref a_m_good, .ref a_m_goCell, .ref a_m_goInput, .ref a_m_goEdge, .ref a_m_goMask, .int f_m_target, .int f_m_shown, .ref a_m_shownCell, .ref a_m_shownInput, .ref a_m_shownEdge, .ref a_m_shownLate, .int f_m_shownSlack, .int f_m_shownHold])), (a_m_kind, aI E 50 g_m_kind)] := hD
                refine lv_aload_n hx hb dX10_arrive_203 rfl (lv_at hl 6 rfl) ?_
                refine va_get (D := E.1) (ci := 10) (v := .ref a_m_least) (own := RX10) (C := RX10) (T := TX10) (N := 69) hx hb hts i_m_arrive_X10 hown hK hP 13 rfl rfl 41 (by decide) (hto (.fieldLink RX10 138 "TimingHouseModel" "least" "[I") (by decide +kernel)) (fun _ h9 => h9) rfl dX10_arrive_204 ?_
                refine lv_iconst (v := 2) hx hb dX10_arrive_207 (by decide) ?_
                refine lv_iload_n hx hb dX10_arrive_208 rfl (lv_at hl 7 rfl) ?_
                refine lv_imul hx hb dX10_arrive_209 ?_
                refine lv_topi (fun x_55 ex_55 => ?_)
                have hq_x_55 : x_41 = x_55 := ex_41.trans ex_55.symm
                subst hq_x_55
                refine lv_iload_n hx hb dX10_arrive_210 rfl (lv_at hl 8 rfl) ?_
                refine lv_iadd hx hb dX10_arrive_211 ?_
                refine lv_topi (fun x_56 ex_56 => ?_)
                have hq_x_56 : x_42 = x_56 := ex_42.trans ex_56.symm
                subst hq_x_56
                refine lv_iload_n hx hb dX10_arrive_212 rfl (lv_at hl 5 rfl) ?_
                refine lv_if_eq (tgt := 234) hx hb dX10_arrive_213 (by decide) (fun c_57 => ?_) (fun c_57 => ?_)
                · have e_57 : y_4.toInt = 0 := i3_eq c_57
                  exfalso; omega
                · have e_57 : y_4.toInt ≠ 0 := i3_ne c_57
                  refine lv_aload_n hx hb dX10_arrive_216 rfl (lv_at hl 6 rfl) ?_
                  refine va_get (D := E.1) (ci := 10) (v := .ref a_m_least) (own := RX10) (C := RX10) (T := TX10) (N := 69) hx hb hts i_m_arrive_X10 hown hK hP 13 rfl rfl 41 (by decide) (hto (.fieldLink RX10 138 "TimingHouseModel" "least" "[I") (by decide +kernel)) (fun _ h9 => h9) rfl dX10_arrive_217 ?_
                  refine lv_iconst (v := 2) hx hb dX10_arrive_220 (by decide) ?_
                  refine lv_iload_n hx hb dX10_arrive_221 rfl (lv_at hl 7 rfl) ?_
                  refine lv_imul hx hb dX10_arrive_222 ?_
                  refine lv_topi (fun x_58 ex_58 => ?_)
                  have hq_x_58 : x_41 = x_58 := ex_41.trans ex_58.symm
                  subst hq_x_58
                  refine lv_iload_n hx hb dX10_arrive_223 rfl (lv_at hl 8 rfl) ?_
                  refine lv_iadd hx hb dX10_arrive_224 ?_
                  refine lv_topi (fun x_59 ex_59 => ?_)
                  have hq_x_59 : x_42 = x_59 := ex_42.trans ex_59.symm
                  subst hq_x_59
                  refine ld_i hx hb hK hP 5 rfl (by omega) dX10_arrive_225 (fun x_60 ex_60 => ?_)
                  refine lv_iload hx hb dX10_arrive_226 (lv_at hl 0 rfl) ?_
                  refine va_mmin hx hb (hml.trans hl.1.symm) hown (hto (.methodLink RX10 266 Lib.Math.min.name) (by decide +kernel)) (hto (.static Lib.Math.min.name) (by decide +kernel)) (hto (.initialized "java/lang/Math") (by decide +kernel)) (hto (.code Lib.Math.min.name Lib.Math.min.code 2 (some .int)) (by decide +kernel)) (Nat.le_of_ble_eq_true rfl) (Nat.le_of_ble_eq_true rfl) (Nat.zero_le _) (Nat.zero_le _) dX10_arrive_228 ?_
                  refine lv_topi (fun x_61 ex_61 => ?_)
                  have m_x_61 : (x_61.toInt ≤ x_60.toInt ∧ x_61.toInt ≤ x_38.toInt) ∧ (x_61.toInt = x_60.toInt ∨ x_61.toInt = x_38.toInt) := i3_min ex_61
                  refine lv_goto (tgt := 236) hx hb dX10_arrive_231 (by decide) ?_
                  refine st_i hx hb hK hP hD hS 5 rfl (by omega) dX10_arrive_236 (fun g_62 H locs eg_62 hP hD hS => ?_)
                  clear eg_62
                  replace hP : va_P E.1 vwCl [(a_m_inputs, aI E 50 g_m_inputs), (a_m_taken, aI E 200 g_m_taken), (a_m_reached, aZ E 50 g_m_reached), (a_m_greatest, aI E 100 g_54), (a_m_lateDelay, aI E 400 g_m_lateDelay), (a_m_least, aI E 100 g_62), (a_m_earlyDelay, aI E 400 g_m_earlyDelay), (a_m_nodeOf, aI E 50 g_m_nodeOf), (a_m_nodeLate, aI E 20 g_m_nodeLate), (a_m_parent, aI E 20 g_m_parent), (a_m_portLate, aI E 50 g_m_portLate), (a_m_nodeEarly, aI E 20 g_m_nodeEarly), (a_m_portEarly, aI E 50 g_m_portEarly), (o_m, .inr (10, [.int f_m_code, .int f_m_cells, .ref a_m_kind, .ref a_m_inputs, .ref a_m_tableOf, .ref a_m_size, .ref a_m_extra, .ref a_m_taken, .ref a_m_portEarly, .ref a_m_portLate, .ref a_m_portSlope, .ref a_m_nodeOf, .ref a_m_setup, .ref a_m_hold, .ref a_m_seen, .ref a_m_numbers, .ref a_m_rowSize, .ref a_m_fall, .int f_m_late, .int f_m_early, .int f_m_period, .int f_m_nodes, .ref a_m_parent, .ref a_m_nodeEarly, .ref a_m_nodeLate, .int f_m_exceptions, .ref a_m_periods, .ref a_m_from, .ref a_m_through, .ref a_m_toward, .int f_m_fails, .ref a_m_order, .int f_m_ordered, .ref a_m_done, .ref a_m_reached, .ref a_m_open, .ref a_m_lateDelay, .ref a_m_earlyDelay, .ref a_m_lateSlope, .ref a_m_earlySlope, .ref a_m_greatest, .ref a_m_least, .ref a_m_howMany, .ref a_m_most, .ref a_m_fewest, .ref a_m_pathsTo, .ref a_m_slackOf, .ref a_m_holdOf, .int f_m_listed, .ref a_m_listSlack, .ref a_m_listStart, .ref a_m_listEdge, .ref a_m_listSize, .ref a_m_listCell, .ref a_m_listInput, .ref a_m_rank, .ref a_m_good, .ref a_m_goCell, .ref a_m_goInput, .ref a_m_goEdge, .ref a_m_goMask, .int f_m_target, .int f_m_shown, .ref a_m_shownCell, .ref a_m_shownInput, .ref a_m_shownEdge, .ref a_m_shownLate, .int f_m_shownSlack, .int f_m_shownHold])), (a_m_kind, aI E 50 g_m_kind)] H := hP
                  replace hD : va_D A [(a_m_inputs, aI E 50 g_m_inputs), (a_m_taken, aI E 200 g_m_taken), (a_m_reached, aZ E 50 g_m_reached), (a_m_greatest, aI E 100 g_54), (a_m_lateDelay, aI E 400 g_m_lateDelay), (a_m_least, aI E 100 g_62), (a_m_earlyDelay, aI E 400 g_m_earlyDelay), (a_m_nodeOf, aI E 50 g_m_nodeOf), (a_m_nodeLate, aI E 20 g_m_nodeLate), (a_m_parent, aI E 20 g_m_parent), (a_m_portLate, aI E 50 g_m_portLate), (a_m_nodeEarly, aI E 20 g_m_nodeEarly), (a_m_portEarly, aI E 50 g_m_portEarly), (o_m, .inr (10, [.int f_m_code, .int f_m_cells, .ref a_m_kind, .ref a_m_inputs, .ref a_m_tableOf, .ref a_m_size, .ref a_m_extra, .ref a_m_taken, .ref a_m_portEarly, .ref a_m_portLate, .ref a_m_portSlope, .ref a_m_nodeOf, .ref a_m_setup, .ref a_m_hold, .ref a_m_seen, .ref a_m_numbers, .ref a_m_rowSize, .ref a_m_fall, .int f_m_late, .int f_m_early, .int f_m_period, .int f_m_nodes, .ref a_m_parent, .ref a_m_nodeEarly, .ref a_m_nodeLate, .int f_m_exceptions, .ref a_m_periods, .ref a_m_from, .ref a_m_through, .ref a_m_toward, .int f_m_fails, .ref a_m_order, .int f_m_ordered, .ref a_m_done, .ref a_m_reached, .ref a_m_open, .ref a_m_lateDelay, .ref a_m_earlyDelay, .ref a_m_lateSlope, .ref a_m_earlySlope, .ref a_m_greatest, .ref a_m_least, .ref a_m_howMany, .ref a_m_most, .ref a_m_fewest, .ref a_m_pathsTo, .ref a_m_slackOf, .ref a_m_holdOf, .int f_m_listed, .ref a_m_listSlack, .ref a_m_listStart, .ref a_m_listEdge, .ref a_m_listSize, .ref a_m_listCell, .ref a_m_listInput, .ref a_m_rank, .ref a_m_good, .ref a_m_goCell, .ref a_m_goInput, .ref a_m_goEdge, .ref a_m_goMask, .int f_m_target, .int f_m_shown, .ref a_m_shownCell, .ref a_m_shownInput, .ref a_m_shownEdge, .ref a_m_shownLate, .int f_m_shownSlack, .int f_m_shownHold])), (a_m_kind, aI E 50 g_m_kind)] := hD
                  refine lv_iconst (v := 1) hx hb dX10_arrive_237 (by decide) ?_
                  refine lv_istore_n (lv' := [(3, .int 1), (8, .int x_38), (7, .int x_27), (6, .int p2), (5, .int x_12), (4, .int y_3), (0, .ref o_m), (1, .int p1), (2, .int p2)]) hx hb dX10_arrive_238 rfl hl (by decide) rfl (fun ls hl => ?_)
                  obtain ⟨x_63, ex_63⟩ : ∃ y : Int32, y = y_3 + 1 := ⟨_, rfl⟩
                  have tx_63 : x_63.toInt = y_3.toInt + 1 := i3_addc rfl rfl ex_63 (by omega)
                  refine lv_iinc (v := x_63) (lv' := [(4, .int x_63), (3, .int 1), (8, .int x_38), (7, .int x_27), (6, .int p2), (5, .int x_12), (0, .ref o_m), (1, .int p1), (2, .int p2)]) hx hb dX10_arrive_239 hl (k := 5) rfl (by rw [ex_63]; rfl) (by decide) rfl (fun ls hl => ?_)
                  refine lv_goto (tgt := 46) hx hb dX10_arrive_242 (by decide) ?_
                  replace hl : lv_has ls 9 [(4, .int x_63), (3, .int 1), (0, .ref o_m), (1, .int p1), (2, .int p2)] := lv_sub hl [0, 1, 6, 7, 8] rfl
                  apply ih_d_7 (y_3 := x_63) (y_4 := 1) (y_5 := g_54) (y_6 := g_62) (H := H) (locs := locs) (ls := ls) <;> first | assumption | omega | decide
            · have e_18 : x_17.toInt = 2 := i3_eq c_18
              refine lv_iconst (v := 1) hx hb dX10_arrive_98 (by decide) ?_
              refine lv_iload_n hx hb dX10_arrive_99 rfl (lv_at hl 5 rfl) ?_
              have b_p2 := r_p2.out
              refine lv_isub hx hb dX10_arrive_100 ?_
              refine lv_topi (fun x_64 ex_64 => ?_)
              have tx_64 : x_64.toInt = 1 - p2.toInt := i3_subc rfl rfl ex_64 (by omega)
              refine lv_goto (tgt := 105) hx hb dX10_arrive_101 (by decide) ?_
              refine lv_istore (lv' := [(6, .int x_64), (5, .int x_12), (4, .int y_3), (3, .int y_4), (0, .ref o_m), (1, .int p1), (2, .int p2)]) hx hb dX10_arrive_105 hl (by decide) rfl (fun ls hl => ?_)
              refine lv_aload_n hx hb dX10_arrive_107 rfl (lv_at hl 4 rfl) ?_
              refine va_get (D := E.1) (ci := 10) (v := .ref a_m_greatest) (own := RX10) (C := RX10) (T := TX10) (N := 69) hx hb hts i_m_arrive_X10 hown hK hP 13 rfl rfl 40 (by decide) (hto (.fieldLink RX10 135 "TimingHouseModel" "greatest" "[I") (by decide +kernel)) (fun _ h9 => h9) rfl dX10_arrive_108 ?_
              refine lv_iconst (v := 2) hx hb dX10_arrive_111 (by decide) ?_
              refine lv_iload hx hb dX10_arrive_112 (lv_at hl 1 rfl) ?_
              refine lv_imul hx hb dX10_arrive_114 ?_
              refine lv_topi (fun x_65 ex_65 => ?_)
              have tx_65 : x_65.toInt = 2 * x_12.toInt := i3_mulc rfl rfl ex_65 (by omega)
              refine lv_iload hx hb dX10_arrive_115 (lv_at hl 0 rfl) ?_
              refine lv_iadd hx hb dX10_arrive_117 ?_
              refine lv_topi (fun x_66 ex_66 => ?_)
              have tx_66 : x_66.toInt = x_65.toInt + x_64.toInt := i3_addc rfl rfl ex_66 (by omega)
              refine ld_i hx hb hK hP 3 rfl (by omega) dX10_arrive_118 (fun x_67 ex_67 => ?_)
              refine lv_aload_n hx hb dX10_arrive_119 rfl (lv_at hl 4 rfl) ?_
              refine va_get (D := E.1) (ci := 10) (v := .ref a_m_lateDelay) (own := RX10) (C := RX10) (T := TX10) (N := 69) hx hb hts i_m_arrive_X10 hown hK hP 13 rfl rfl 36 (by decide) (hto (.fieldLink RX10 123 "TimingHouseModel" "lateDelay" "[I") (by decide +kernel)) (fun _ h9 => h9) rfl dX10_arrive_120 ?_
              refine lv_bipush (v := 8) hx hb dX10_arrive_123 (by decide) ?_
              refine lv_iload_n hx hb dX10_arrive_125 rfl (lv_at hl 5 rfl) ?_
              refine lv_imul hx hb dX10_arrive_126 ?_
              refine lv_topi (fun x_68 ex_68 => ?_)
              have tx_68 : x_68.toInt = 8 * p1.toInt := i3_mulc rfl rfl ex_68 (by omega)
              refine lv_iconst (v := 2) hx hb dX10_arrive_127 (by decide) ?_
              refine lv_iload hx hb dX10_arrive_128 (lv_at hl 2 rfl) ?_
              refine lv_imul hx hb dX10_arrive_130 ?_
              refine lv_topi (fun x_69 ex_69 => ?_)
              have tx_69 : x_69.toInt = 2 * y_3.toInt := i3_mulc rfl rfl ex_69 (by omega)
              refine lv_iadd hx hb dX10_arrive_131 ?_
              refine lv_topi (fun x_70 ex_70 => ?_)
              have tx_70 : x_70.toInt = x_68.toInt + x_69.toInt := i3_addc rfl rfl ex_70 (by omega)
              refine lv_iload_n hx hb dX10_arrive_132 rfl (lv_at hl 6 rfl) ?_
              refine lv_iadd hx hb dX10_arrive_133 ?_
              refine lv_topi (fun x_71 ex_71 => ?_)
              have tx_71 : x_71.toInt = x_70.toInt + p2.toInt := i3_addc rfl rfl ex_71 (by omega)
              refine ld_i hx hb hK hP 4 rfl (by omega) dX10_arrive_134 (fun x_72 ex_72 => ?_)
              refine lv_iadd hx hb dX10_arrive_135 ?_
              refine lv_topi (fun x_73 ex_73 => ?_)
              have bd_74 := i3_bd x_67
              have bd_75 := i3_bd x_72
              refine lv_istore (lv' := [(7, .int x_73), (6, .int x_64), (5, .int x_12), (4, .int y_3), (3, .int y_4), (0, .ref o_m), (1, .int p1), (2, .int p2)]) hx hb dX10_arrive_136 hl (by decide) rfl (fun ls hl => ?_)
              refine lv_aload_n hx hb dX10_arrive_138 rfl (lv_at hl 5 rfl) ?_
              refine va_get (D := E.1) (ci := 10) (v := .ref a_m_least) (own := RX10) (C := RX10) (T := TX10) (N := 69) hx hb hts i_m_arrive_X10 hown hK hP 13 rfl rfl 41 (by decide) (hto (.fieldLink RX10 138 "TimingHouseModel" "least" "[I") (by decide +kernel)) (fun _ h9 => h9) rfl dX10_arrive_139 ?_
              refine lv_iconst (v := 2) hx hb dX10_arrive_142 (by decide) ?_
              refine lv_iload hx hb dX10_arrive_143 (lv_at hl 2 rfl) ?_
              refine lv_imul hx hb dX10_arrive_145 ?_
              refine lv_topi (fun x_76 ex_76 => ?_)
              have hq_x_76 : x_65 = x_76 := ex_65.trans ex_76.symm
              subst hq_x_76
              refine lv_iload hx hb dX10_arrive_146 (lv_at hl 1 rfl) ?_
              refine lv_iadd hx hb dX10_arrive_148 ?_
              refine lv_topi (fun x_77 ex_77 => ?_)
              have hq_x_77 : x_66 = x_77 := ex_66.trans ex_77.symm
              subst hq_x_77
              refine ld_i hx hb hK hP 5 rfl (by omega) dX10_arrive_149 (fun x_78 ex_78 => ?_)
              refine lv_aload_n hx hb dX10_arrive_150 rfl (lv_at hl 5 rfl) ?_
              refine va_get (D := E.1) (ci := 10) (v := .ref a_m_earlyDelay) (own := RX10) (C := RX10) (T := TX10) (N := 69) hx hb hts i_m_arrive_X10 hown hK hP 13 rfl rfl 37 (by decide) (hto (.fieldLink RX10 126 "TimingHouseModel" "earlyDelay" "[I") (by decide +kernel)) (fun _ h9 => h9) rfl dX10_arrive_151 ?_
              refine lv_bipush (v := 8) hx hb dX10_arrive_154 (by decide) ?_
              refine lv_iload_n hx hb dX10_arrive_156 rfl (lv_at hl 6 rfl) ?_
              refine lv_imul hx hb dX10_arrive_157 ?_
              refine lv_topi (fun x_79 ex_79 => ?_)
              have hq_x_79 : x_68 = x_79 := ex_68.trans ex_79.symm
              subst hq_x_79
              refine lv_iconst (v := 2) hx hb dX10_arrive_158 (by decide) ?_
              refine lv_iload hx hb dX10_arrive_159 (lv_at hl 3 rfl) ?_
              refine lv_imul hx hb dX10_arrive_161 ?_
              refine lv_topi (fun x_80 ex_80 => ?_)
              have hq_x_80 : x_69 = x_80 := ex_69.trans ex_80.symm
              subst hq_x_80
              refine lv_iadd hx hb dX10_arrive_162 ?_
              refine lv_topi (fun x_81 ex_81 => ?_)
              have hq_x_81 : x_70 = x_81 := ex_70.trans ex_81.symm
              subst hq_x_81
              refine lv_iload_n hx hb dX10_arrive_163 rfl (lv_at hl 7 rfl) ?_
              refine lv_iadd hx hb dX10_arrive_164 ?_
              refine lv_topi (fun x_82 ex_82 => ?_)
              have hq_x_82 : x_71 = x_82 := ex_71.trans ex_82.symm
              subst hq_x_82
              refine ld_i hx hb hK hP 6 rfl (by omega) dX10_arrive_165 (fun x_83 ex_83 => ?_)
              refine lv_iadd hx hb dX10_arrive_166 ?_
              refine lv_topi (fun x_84 ex_84 => ?_)
              have bd_85 := i3_bd x_78
              have bd_86 := i3_bd x_83
              refine lv_istore (lv' := [(8, .int x_84), (7, .int x_73), (6, .int x_64), (5, .int x_12), (4, .int y_3), (3, .int y_4), (0, .ref o_m), (1, .int p1), (2, .int p2)]) hx hb dX10_arrive_167 hl (by decide) rfl (fun ls hl => ?_)
              refine lv_aload_n hx hb dX10_arrive_169 rfl (lv_at hl 6 rfl) ?_
              refine va_get (D := E.1) (ci := 10) (v := .ref a_m_greatest) (own := RX10) (C := RX10) (T := TX10) (N := 69) hx hb hts i_m_arrive_X10 hown hK hP 13 rfl rfl 40 (by decide) (hto (.fieldLink RX10 135 "TimingHouseModel" "greatest" "[I") (by decide +kernel)) (fun _ h9 => h9) rfl dX10_arrive_170 ?_
              refine lv_iconst (v := 2) hx hb dX10_arrive_173 (by decide) ?_
              refine lv_iload_n hx hb dX10_arrive_174 rfl (lv_at hl 7 rfl) ?_
              refine lv_imul hx hb dX10_arrive_175 ?_
              refine lv_topi (fun x_87 ex_87 => ?_)
              have tx_87 : x_87.toInt = 2 * p1.toInt := i3_mulc rfl rfl ex_87 (by omega)
              refine lv_iload_n hx hb dX10_arrive_176 rfl (lv_at hl 8 rfl) ?_
              refine lv_iadd hx hb dX10_arrive_177 ?_
              refine lv_topi (fun x_88 ex_88 => ?_)
              have tx_88 : x_88.toInt = x_87.toInt + p2.toInt := i3_addc rfl rfl ex_88 (by omega)
              refine lv_iload_n hx hb dX10_arrive_178 rfl (lv_at hl 5 rfl) ?_
              refine lv_if_eq (tgt := 200) hx hb dX10_arrive_179 (by decide) (fun c_89 => ?_) (fun c_89 => ?_)
              · have e_89 : y_4.toInt = 0 := i3_eq c_89
                refine lv_iload hx hb dX10_arrive_200 (lv_at hl 1 rfl) ?_
                refine st_i hx hb hK hP hD hS 3 rfl (by omega) dX10_arrive_202 (fun g_90 H locs eg_90 hP hD hS => ?_)
                clear eg_90
                replace hP : va_P E.1 vwCl [(a_m_inputs, aI E 50 g_m_inputs), (a_m_taken, aI E 200 g_m_taken), (a_m_reached, aZ E 50 g_m_reached), (a_m_greatest, aI E 100 g_90), (a_m_lateDelay, aI E 400 g_m_lateDelay), (a_m_least, aI E 100 y_6), (a_m_earlyDelay, aI E 400 g_m_earlyDelay), (a_m_nodeOf, aI E 50 g_m_nodeOf), (a_m_nodeLate, aI E 20 g_m_nodeLate), (a_m_parent, aI E 20 g_m_parent), (a_m_portLate, aI E 50 g_m_portLate), (a_m_nodeEarly, aI E 20 g_m_nodeEarly), (a_m_portEarly, aI E 50 g_m_portEarly), (o_m, .inr (10, [.int f_m_code, .int f_m_cells, .ref a_m_kind, .ref a_m_inputs, .ref a_m_tableOf, .ref a_m_size, .ref a_m_extra, .ref a_m_taken, .ref a_m_portEarly, .ref a_m_portLate, .ref a_m_portSlope, .ref a_m_nodeOf, .ref a_m_setup, .ref a_m_hold, .ref a_m_seen, .ref a_m_numbers, .ref a_m_rowSize, .ref a_m_fall, .int f_m_late, .int f_m_early, .int f_m_period, .int f_m_nodes, .ref a_m_parent, .ref a_m_nodeEarly, .ref a_m_nodeLate, .int f_m_exceptions, .ref a_m_periods, .ref a_m_from, .ref a_m_through, .ref a_m_toward, .int f_m_fails, .ref a_m_order, .int f_m_ordered, .ref a_m_done, .ref a_m_reached, .ref a_m_open, .ref a_m_lateDelay, .ref a_m_earlyDelay, .ref a_m_lateSlope, .ref a_m_earlySlope, .ref a_m_greatest, .ref a_m_least, .ref a_m_howMany, .ref a_m_most, .ref a_m_fewest, .ref a_m_pathsTo, .ref a_m_slackOf, .ref a_m_holdOf, .int f_m_listed, .ref a_m_listSlack, .ref a_m_listStart, .ref a_m_listEdge, .ref a_m_listSize, .ref a_m_listCell, .ref a_m_listInput, .ref a_m_rank, .ref a_m_good, .ref a_m_goCell, .ref a_m_goInput, .ref a_m_goEdge, .ref a_m_goMask, .int f_m_target, .int f_m_shown, .ref a_m_shownCell, .ref a_m_shownInput, .ref a_m_shownEdge, .ref a_m_shownLate, .int f_m_shownSlack, .int f_m_shownHold])), (a_m_kind, aI E 50 g_m_kind)] H := hP
                replace hD : va_D A [(a_m_inputs, aI E 50 g_m_inputs), (a_m_taken, aI E 200 g_m_taken), (a_m_reached, aZ E 50 g_m_reached), (a_m_greatest, aI E 100 g_90), (a_m_lateDelay, aI E 400 g_m_lateDelay), (a_m_least, aI E 100 y_6), (a_m_earlyDelay, aI E 400 g_m_earlyDelay), (a_m_nodeOf, aI E 50 g_m_nodeOf), (a_m_nodeLate, aI E 20 g_m_nodeLate), (a_m_parent, aI E 20 g_m_parent), (a_m_portLate, aI E 50 g_m_portLate), (a_m_nodeEarly, aI E 20 g_m_nodeEarly), (a_m_portEarly, aI E 50 g_m_portEarly), (o_m, .inr (10, [.int f_m_code, .int f_m_cells, .ref a_m_kind, .ref a_m_inputs, .ref a_m_tableOf, .ref a_m_size, .ref a_m_extra, .ref a_m_taken, .ref a_m_portEarly, .ref a_m_portLate, .ref a_m_portSlope, .ref a_m_nodeOf, .ref a_m_setup, .ref a_m_hold, .ref a_m_seen, .ref a_m_numbers, .ref a_m_rowSize, .ref a_m_fall, .int f_m_late, .int f_m_early, .int f_m_period, .int f_m_nodes, .ref a_m_parent, .ref a_m_nodeEarly, .ref a_m_nodeLate, .int f_m_exceptions, .ref a_m_periods, .ref a_m_from, .ref a_m_through, .ref a_m_toward, .int f_m_fails, .ref a_m_order, .int f_m_ordered, .ref a_m_done, .ref a_m_reached, .ref a_m_open, .ref a_m_lateDelay, .ref a_m_earlyDelay, .ref a_m_lateSlope, .ref a_m_earlySlope, .ref a_m_greatest, .ref a_m_least, .ref a_m_howMany, .ref a_m_most, .ref a_m_fewest, .ref a_m_pathsTo, .ref a_m_slackOf, .ref a_m_holdOf, .int f_m_listed, .ref a_m_listSlack, .ref a_m_listStart, .ref a_m_listEdge, .ref a_m_listSize, .ref a_m_listCell, .ref a_m_listInput, .ref a_m_rank, .ref a_m_good, .ref a_m_goCell, .ref a_m_goInput, .ref a_m_goEdge, .ref a_m_goMask, .int f_m_target, .int f_m_shown, .ref a_m_shownCell, .ref a_m_shownInput, .ref a_m_shownEdge, .ref a_m_shownLate, .int f_m_shownSlack, .int f_m_shownHold])), (a_m_kind, aI E 50 g_m_kind)] := hD
                refine lv_aload_n hx hb dX10_arrive_203 rfl (lv_at hl 6 rfl) ?_
                refine va_get (D := E.1) (ci := 10) (v := .ref a_m_least) (own := RX10) (C := RX10) (T := TX10) (N := 69) hx hb hts i_m_arrive_X10 hown hK hP 13 rfl rfl 41 (by decide) (hto (.fieldLink RX10 138 "TimingHouseModel" "least" "[I") (by decide +kernel)) (fun _ h9 => h9) rfl dX10_arrive_204 ?_
                refine lv_iconst (v := 2) hx hb dX10_arrive_207 (by decide) ?_
                refine lv_iload_n hx hb dX10_arrive_208 rfl (lv_at hl 7 rfl) ?_
                refine lv_imul hx hb dX10_arrive_209 ?_
                refine lv_topi (fun x_91 ex_91 => ?_)
                have hq_x_91 : x_87 = x_91 := ex_87.trans ex_91.symm
                subst hq_x_91
                refine lv_iload_n hx hb dX10_arrive_210 rfl (lv_at hl 8 rfl) ?_
                refine lv_iadd hx hb dX10_arrive_211 ?_
                refine lv_topi (fun x_92 ex_92 => ?_)
                have hq_x_92 : x_88 = x_92 := ex_88.trans ex_92.symm
                subst hq_x_92
                refine lv_iload_n hx hb dX10_arrive_212 rfl (lv_at hl 5 rfl) ?_
                refine lv_if_eq (tgt := 234) hx hb dX10_arrive_213 (by decide) (fun c_93 => ?_) (fun c_93 => ?_)
                · have e_93 : y_4.toInt = 0 := i3_eq c_93
                  refine lv_iload hx hb dX10_arrive_234 (lv_at hl 0 rfl) ?_
                  refine st_i hx hb hK hP hD hS 5 rfl (by omega) dX10_arrive_236 (fun g_94 H locs eg_94 hP hD hS => ?_)
                  clear eg_94
                  replace hP : va_P E.1 vwCl [(a_m_inputs, aI E 50 g_m_inputs), (a_m_taken, aI E 200 g_m_taken), (a_m_reached, aZ E 50 g_m_reached), (a_m_greatest, aI E 100 g_90), (a_m_lateDelay, aI E 400 g_m_lateDelay), (a_m_least, aI E 100 g_94), (a_m_earlyDelay, aI E 400 g_m_earlyDelay), (a_m_nodeOf, aI E 50 g_m_nodeOf), (a_m_nodeLate, aI E 20 g_m_nodeLate), (a_m_parent, aI E 20 g_m_parent), (a_m_portLate, aI E 50 g_m_portLate), (a_m_nodeEarly, aI E 20 g_m_nodeEarly), (a_m_portEarly, aI E 50 g_m_portEarly), (o_m, .inr (10, [.int f_m_code, .int f_m_cells, .ref a_m_kind, .ref a_m_inputs, .ref a_m_tableOf, .ref a_m_size, .ref a_m_extra, .ref a_m_taken, .ref a_m_portEarly, .ref a_m_portLate, .ref a_m_portSlope, .ref a_m_nodeOf, .ref a_m_setup, .ref a_m_hold, .ref a_m_seen, .ref a_m_numbers, .ref a_m_rowSize, .ref a_m_fall, .int f_m_late, .int f_m_early, .int f_m_period, .int f_m_nodes, .ref a_m_parent, .ref a_m_nodeEarly, .ref a_m_nodeLate, .int f_m_exceptions, .ref a_m_periods, .ref a_m_from, .ref a_m_through, .ref a_m_toward, .int f_m_fails, .ref a_m_order, .int f_m_ordered, .ref a_m_done, .ref a_m_reached, .ref a_m_open, .ref a_m_lateDelay, .ref a_m_earlyDelay, .ref a_m_lateSlope, .ref a_m_earlySlope, .ref a_m_greatest, .ref a_m_least, .ref a_m_howMany, .ref a_m_most, .ref a_m_fewest, .ref a_m_pathsTo, .ref a_m_slackOf, .ref a_m_holdOf, .int f_m_listed, .ref a_m_listSlack, .ref a_m_listStart, .ref a_m_listEdge, .ref a_m_listSize, .ref a_m_listCell, .ref a_m_listInput, .ref a_m_rank, .ref a_m_good, .ref a_m_goCell, .ref a_m_goInput, .ref a_m_goEdge, .ref a_m_goMask, .int f_m_target, .int f_m_shown, .ref a_m_shownCell, .ref a_m_shownInput, .ref a_m_shownEdge, .ref a_m_shownLate, .int f_m_shownSlack, .int f_m_shownHold])), (a_m_kind, aI E 50 g_m_kind)] H := hP
                  replace hD : va_D A [(a_m_inputs, aI E 50 g_m_inputs), (a_m_taken, aI E 200 g_m_taken), (a_m_reached, aZ E 50 g_m_reached), (a_m_greatest, aI E 100 g_90), (a_m_lateDelay, aI E 400 g_m_lateDelay), (a_m_least, aI E 100 g_94), (a_m_earlyDelay, aI E 400 g_m_earlyDelay), (a_m_nodeOf, aI E 50 g_m_nodeOf), (a_m_nodeLate, aI E 20 g_m_nodeLate), (a_m_parent, aI E 20 g_m_parent), (a_m_portLate, aI E 50 g_m_portLate), (a_m_nodeEarly, aI E 20 g_m_nodeEarly), (a_m_portEarly, aI E 50 g_m_portEarly), (o_m, .inr (10, [.int f_m_code, .int f_m_cells, .ref a_m_kind, .ref a_m_inputs, .ref a_m_tableOf, .ref a_m_size, .ref a_m_extra, .ref a_m_taken, .ref a_m_portEarly, .ref a_m_portLate, .ref a_m_portSlope, .ref a_m_nodeOf, .ref a_m_setup, .ref a_m_hold, .ref a_m_seen, .ref a_m_numbers, .ref a_m_rowSize, .ref a_m_fall, .int f_m_late, .int f_m_early, .int f_m_period, .int f_m_nodes, .ref a_m_parent, .ref a_m_nodeEarly, .ref a_m_nodeLate, .int f_m_exceptions, .ref a_m_periods, .ref a_m_from, .ref a_m_through, .ref a_m_toward, .int f_m_fails, .ref a_m_order, .int f_m_ordered, .ref a_m_done, .ref a_m_reached, .ref a_m_open, .ref a_m_lateDelay, .ref a_m_earlyDelay, .ref a_m_lateSlope, .ref a_m_earlySlope, .ref a_m_greatest, .ref a_m_least, .ref a_m_howMany, .ref a_m_most, .ref a_m_fewest, .ref a_m_pathsTo, .ref a_m_slackOf, .ref a_m_holdOf, .int f_m_listed, .ref a_m_listSlack, .ref a_m_listStart, .ref a_m_listEdge, .ref a_m_listSize, .ref a_m_listCell, .ref a_m_listInput, .ref a_m_rank, .ref a_m_good, .ref a_m_goCell, .ref a_m_goInput, .ref a_m_goEdge, .ref a_m_goMask, .int f_m_target, .int f_m_shown, .ref a_m_shownCell, .ref a_m_shownInput, .ref a_m_shownEdge, .ref a_m_shownLate, .int f_m_shownSlack, .int f_m_shownHold])), (a_m_kind, aI E 50 g_m_kind)] := hD
                  refine lv_iconst (v := 1) hx hb dX10_arrive_237 (by decide) ?_
                  refine lv_istore_n (lv' := [(3, .int 1), (8, .int x_84), (7, .int x_73), (6, .int x_64), (5, .int x_12), (4, .int y_3), (0, .ref o_m), (1, .int p1), (2, .int p2)]) hx hb dX10_arrive_238 rfl hl (by decide) rfl (fun ls hl => ?_)
                  obtain ⟨x_95, ex_95⟩ : ∃ y : Int32, y = y_3 + 1 := ⟨_, rfl⟩
                  have tx_95 : x_95.toInt = y_3.toInt + 1 := i3_addc rfl rfl ex_95 (by omega)
                  refine lv_iinc (v := x_95) (lv' := [(4, .int x_95), (3, .int 1), (8, .int x_84), (7, .int x_73), (6, .int x_64), (5, .int x_12), (0, .ref o_m), (1, .int p1), (2, .int p2)]) hx hb dX10_arrive_239 hl (k := 5) rfl (by rw [ex_95]; rfl) (by decide) rfl (fun ls hl => ?_)
                  refine lv_goto (tgt := 46) hx hb dX10_arrive_242 (by decide) ?_
                  replace hl : lv_has ls 9 [(4, .int x_95), (3, .int 1), (0, .ref o_m), (1, .int p1), (2, .int p2)] := lv_sub hl [0, 1, 6, 7, 8] rfl
                  apply ih_d_7 (y_3 := x_95) (y_4 := 1) (y_5 := g_90) (y_6 := g_94) (H := H) (locs := locs) (ls := ls) <;> first | assumption | omega | decide
                · have e_93 : y_4.toInt ≠ 0 := i3_ne c_93
                  exfalso; omega
              · have e_89 : y_4.toInt ≠ 0 := i3_ne c_89
                refine lv_aload_n hx hb dX10_arrive_182 rfl (lv_at hl 6 rfl) ?_
                refine va_get (D := E.1) (ci := 10) (v := .ref a_m_greatest) (own := RX10) (C := RX10) (T := TX10) (N := 69) hx hb hts i_m_arrive_X10 hown hK hP 13 rfl rfl 40 (by decide) (hto (.fieldLink RX10 135 "TimingHouseModel" "greatest" "[I") (by decide +kernel)) (fun _ h9 => h9) rfl dX10_arrive_183 ?_
                refine lv_iconst (v := 2) hx hb dX10_arrive_186 (by decide) ?_
                refine lv_iload_n hx hb dX10_arrive_187 rfl (lv_at hl 7 rfl) ?_
                refine lv_imul hx hb dX10_arrive_188 ?_
                refine lv_topi (fun x_96 ex_96 => ?_)
                have hq_x_96 : x_87 = x_96 := ex_87.trans ex_96.symm
                subst hq_x_96
                refine lv_iload_n hx hb dX10_arrive_189 rfl (lv_at hl 8 rfl) ?_
                refine lv_iadd hx hb dX10_arrive_190 ?_
                refine lv_topi (fun x_97 ex_97 => ?_)
                have hq_x_97 : x_88 = x_97 := ex_88.trans ex_97.symm
                subst hq_x_97
                refine ld_i hx hb hK hP 3 rfl (by omega) dX10_arrive_191 (fun x_98 ex_98 => ?_)
                refine lv_iload hx hb dX10_arrive_192 (lv_at hl 1 rfl) ?_
                refine va_mmax hx hb (hml.trans hl.1.symm) hown (hto (.methodLink RX10 260 Lib.Math.max.name) (by decide +kernel)) (hto (.static Lib.Math.max.name) (by decide +kernel)) (hto (.initialized "java/lang/Math") (by decide +kernel)) (hto (.code Lib.Math.max.name Lib.Math.max.code 2 (some .int)) (by decide +kernel)) (Nat.le_of_ble_eq_true rfl) (Nat.le_of_ble_eq_true rfl) (Nat.zero_le _) (Nat.zero_le _) dX10_arrive_194 ?_
                refine lv_topi (fun x_99 ex_99 => ?_)
                have m_x_99 : (x_99.toInt ≥ x_98.toInt ∧ x_99.toInt ≥ x_73.toInt) ∧ (x_99.toInt = x_98.toInt ∨ x_99.toInt = x_73.toInt) := i3_max ex_99
                refine lv_goto (tgt := 202) hx hb dX10_arrive_197 (by decide) ?_
                refine st_i hx hb hK hP hD hS 3 rfl (by omega) dX10_arrive_202 (fun g_100 H locs eg_100 hP hD hS => ?_)
                clear eg_100
                replace hP : va_P E.1 vwCl [(a_m_inputs, aI E 50 g_m_inputs), (a_m_taken, aI E 200 g_m_taken), (a_m_reached, aZ E 50 g_m_reached), (a_m_greatest, aI E 100 g_100), (a_m_lateDelay, aI E 400 g_m_lateDelay), (a_m_least, aI E 100 y_6), (a_m_earlyDelay, aI E 400 g_m_earlyDelay), (a_m_nodeOf, aI E 50 g_m_nodeOf), (a_m_nodeLate, aI E 20 g_m_nodeLate), (a_m_parent, aI E 20 g_m_parent), (a_m_portLate, aI E 50 g_m_portLate), (a_m_nodeEarly, aI E 20 g_m_nodeEarly), (a_m_portEarly, aI E 50 g_m_portEarly), (o_m, .inr (10, [.int f_m_code, .int f_m_cells, .ref a_m_kind, .ref a_m_inputs, .ref a_m_tableOf, .ref a_m_size, .ref a_m_extra, .ref a_m_taken, .ref a_m_portEarly, .ref a_m_portLate, .ref a_m_portSlope, .ref a_m_nodeOf, .ref a_m_setup, .ref a_m_hold, .ref a_m_seen, .ref a_m_numbers, .ref a_m_rowSize, .ref a_m_fall, .int f_m_late, .int f_m_early, .int f_m_period, .int f_m_nodes, .ref a_m_parent, .ref a_m_nodeEarly, .ref a_m_nodeLate, .int f_m_exceptions, .ref a_m_periods, .ref a_m_from, .ref a_m_through, .ref a_m_toward, .int f_m_fails, .ref a_m_order, .int f_m_ordered, .ref a_m_done, .ref a_m_reached, .ref a_m_open, .ref a_m_lateDelay, .ref a_m_earlyDelay, .ref a_m_lateSlope, .ref a_m_earlySlope, .ref a_m_greatest, .ref a_m_least, .ref a_m_howMany, .ref a_m_most, .ref a_m_fewest, .ref a_m_pathsTo, .ref a_m_slackOf, .ref a_m_holdOf, .int f_m_listed, .ref a_m_listSlack, .ref a_m_listStart, .ref a_m_listEdge, .ref a_m_listSize, .ref a_m_listCell, .ref a_m_listInput, .ref a_m_rank, .ref a_m_good, .ref a_m_goCell, .ref a_m_goInput, .ref a_m_goEdge, .ref a_m_goMask, .int f_m_target, .int f_m_shown, .ref a_m_shownCell, .ref a_m_shownInput, .ref a_m_shownEdge, .ref a_m_shownLate, .int f_m_shownSlack, .int f_m_shownHold])), (a_m_kind, aI E 50 g_m_kind)] H := hP
                replace hD : va_D A [(a_m_inputs, aI E 50 g_m_inputs), (a_m_taken, aI E 200 g_m_taken), (a_m_reached, aZ E 50 g_m_reached), (a_m_greatest, aI E 100 g_100), (a_m_lateDelay, aI E 400 g_m_lateDelay), (a_m_least, aI E 100 y_6), (a_m_earlyDelay, aI E 400 g_m_earlyDelay), (a_m_nodeOf, aI E 50 g_m_nodeOf), (a_m_nodeLate, aI E 20 g_m_nodeLate), (a_m_parent, aI E 20 g_m_parent), (a_m_portLate, aI E 50 g_m_portLate), (a_m_nodeEarly, aI E 20 g_m_nodeEarly), (a_m_portEarly, aI E 50 g_m_portEarly), (o_m, .inr (10, [.int f_m_code, .int f_m_cells, .ref a_m_kind, .ref a_m_inputs, .ref a_m_tableOf, .ref a_m_size, .ref a_m_extra, .ref a_m_taken, .ref a_m_portEarly, .ref a_m_portLate, .ref a_m_portSlope, .ref a_m_nodeOf, .ref a_m_setup, .ref a_m_hold, .ref a_m_seen, .ref a_m_numbers, .ref a_m_rowSize, .ref a_m_fall, .int f_m_late, .int f_m_early, .int f_m_period, .int f_m_nodes, .ref a_m_parent, .ref a_m_nodeEarly, .ref a_m_nodeLate, .int f_m_exceptions, .ref a_m_periods, .ref a_m_from, .ref a_m_through, .ref a_m_toward, .int f_m_fails, .ref a_m_order, .int f_m_ordered, .ref a_m_done, .ref a_m_reached, .ref a_m_open, .ref a_m_lateDelay, .ref a_m_earlyDelay, .ref a_m_lateSlope, .ref a_m_earlySlope, .ref a_m_greatest, .ref a_m_least, .ref a_m_howMany, .ref a_m_most, .ref a_m_fewest, .ref a_m_pathsTo, .ref a_m_slackOf, .ref a_m_holdOf, .int f_m_listed, .ref a_m_listSlack, .ref a_m_listStart, .ref a_m_listEdge, .ref a_m_listSize, .ref a_m_listCell, .ref a_m_listInput, .ref a_m_rank, .ref a_m_good, .ref a_m_goCell, .ref a_m_goInput, .ref a_m_goEdge, .ref a_m_goMask, .int f_m_target, .int f_m_shown, .ref a_m_shownCell, .ref a_m_shownInput, .ref a_m_shownEdge, .ref a_m_shownLate, .int f_m_shownSlack, .int f_m_shownHold])), (a_m_kind, aI E 50 g_m_kind)] := hD
                refine lv_aload_n hx hb dX10_arrive_203 rfl (lv_at hl 6 rfl) ?_
                refine va_get (D := E.1) (ci := 10) (v := .ref a_m_least) (own := RX10) (C := RX10) (T := TX10) (N := 69) hx hb hts i_m_arrive_X10 hown hK hP 13 rfl rfl 41 (by decide) (hto (.fieldLink RX10 138 "TimingHouseModel" "least" "[I") (by decide +kernel)) (fun _ h9 => h9) rfl dX10_arrive_204 ?_
                refine lv_iconst (v := 2) hx hb dX10_arrive_207 (by decide) ?_
                refine lv_iload_n hx hb dX10_arrive_208 rfl (lv_at hl 7 rfl) ?_
                refine lv_imul hx hb dX10_arrive_209 ?_
                refine lv_topi (fun x_101 ex_101 => ?_)
                have hq_x_101 : x_87 = x_101 := ex_87.trans ex_101.symm
                subst hq_x_101
                refine lv_iload_n hx hb dX10_arrive_210 rfl (lv_at hl 8 rfl) ?_
                refine lv_iadd hx hb dX10_arrive_211 ?_
                refine lv_topi (fun x_102 ex_102 => ?_)
                have hq_x_102 : x_88 = x_102 := ex_88.trans ex_102.symm
                subst hq_x_102
                refine lv_iload_n hx hb dX10_arrive_212 rfl (lv_at hl 5 rfl) ?_
                refine lv_if_eq (tgt := 234) hx hb dX10_arrive_213 (by decide) (fun c_103 => ?_) (fun c_103 => ?_)
                · have e_103 : y_4.toInt = 0 := i3_eq c_103
                  exfalso; omega
                · have e_103 : y_4.toInt ≠ 0 := i3_ne c_103
                  refine lv_aload_n hx hb dX10_arrive_216 rfl (lv_at hl 6 rfl) ?_
                  refine va_get (D := E.1) (ci := 10) (v := .ref a_m_least) (own := RX10) (C := RX10) (T := TX10) (N := 69) hx hb hts i_m_arrive_X10 hown hK hP 13 rfl rfl 41 (by decide) (hto (.fieldLink RX10 138 "TimingHouseModel" "least" "[I") (by decide +kernel)) (fun _ h9 => h9) rfl dX10_arrive_217 ?_
                  refine lv_iconst (v := 2) hx hb dX10_arrive_220 (by decide) ?_
                  refine lv_iload_n hx hb dX10_arrive_221 rfl (lv_at hl 7 rfl) ?_
                  refine lv_imul hx hb dX10_arrive_222 ?_
                  refine lv_topi (fun x_104 ex_104 => ?_)
                  have hq_x_104 : x_87 = x_104 := ex_87.trans ex_104.symm
                  subst hq_x_104
                  refine lv_iload_n hx hb dX10_arrive_223 rfl (lv_at hl 8 rfl) ?_
                  refine lv_iadd hx hb dX10_arrive_224 ?_
                  refine lv_topi (fun x_105 ex_105 => ?_)
                  have hq_x_105 : x_88 = x_105 := ex_88.trans ex_105.symm
                  subst hq_x_105
                  refine ld_i hx hb hK hP 5 rfl (by omega) dX10_arrive_225 (fun x_106 ex_106 => ?_)
                  refine lv_iload hx hb dX10_arrive_226 (lv_at hl 0 rfl) ?_
                  refine va_mmin hx hb (hml.trans hl.1.symm) hown (hto (.methodLink RX10 266 Lib.Math.min.name) (by decide +kernel)) (hto (.static Lib.Math.min.name) (by decide +kernel)) (hto (.initialized "java/lang/Math") (by decide +kernel)) (hto (.code Lib.Math.min.name Lib.Math.min.code 2 (some .int)) (by decide +kernel)) (Nat.le_of_ble_eq_true rfl) (Nat.le_of_ble_eq_true rfl) (Nat.zero_le _) (Nat.zero_le _) dX10_arrive_228 ?_
                  refine lv_topi (fun x_107 ex_107 => ?_)
                  have m_x_107 : (x_107.toInt ≤ x_106.toInt ∧ x_107.toInt ≤ x_84.toInt) ∧ (x_107.toInt = x_106.toInt ∨ x_107.toInt = x_84.toInt) := i3_min ex_107
                  refine lv_goto (tgt := 236) hx hb dX10_arrive_231 (by decide) ?_
                  refine st_i hx hb hK hP hD hS 5 rfl (by omega) dX10_arrive_236 (fun g_108 H locs eg_108 hP hD hS => ?_)
                  clear eg_108
                  replace hP : va_P E.1 vwCl [(a_m_inputs, aI E 50 g_m_inputs), (a_m_taken, aI E 200 g_m_taken), (a_m_reached, aZ E 50 g_m_reached), (a_m_greatest, aI E 100 g_100), (a_m_lateDelay, aI E 400 g_m_lateDelay), (a_m_least, aI E 100 g_108), (a_m_earlyDelay, aI E 400 g_m_earlyDelay), (a_m_nodeOf, aI E 50 g_m_nodeOf), (a_m_nodeLate, aI E 20 g_m_nodeLate), (a_m_parent, aI E 20 g_m_parent), (a_m_portLate, aI E 50 g_m_portLate), (a_m_nodeEarly, aI E 20 g_m_nodeEarly), (a_m_portEarly, aI E 50 g_m_portEarly), (o_m, .inr (10, [.int f_m_code, .int f_m_cells, .ref a_m_kind, .ref a_m_inputs, .ref a_m_tableOf, .ref a_m_size, .ref a_m_extra, .ref a_m_taken, .ref a_m_portEarly, .ref a_m_portLate, .ref a_m_portSlope, .ref a_m_nodeOf, .ref a_m_setup, .ref a_m_hold, .ref a_m_seen, .ref a_m_numbers, .ref a_m_rowSize, .ref a_m_fall, .int f_m_late, .int f_m_early, .int f_m_period, .int f_m_nodes, .ref a_m_parent, .ref a_m_nodeEarly, .ref a_m_nodeLate, .int f_m_exceptions, .ref a_m_periods, .ref a_m_from, .ref a_m_through, .ref a_m_toward, .int f_m_fails, .ref a_m_order, .int f_m_ordered, .ref a_m_done, .ref a_m_reached, .ref a_m_open, .ref a_m_lateDelay, .ref a_m_earlyDelay, .ref a_m_lateSlope, .ref a_m_earlySlope, .ref a_m_greatest, .ref a_m_least, .ref a_m_howMany, .ref a_m_most, .ref a_m_fewest, .ref a_m_pathsTo, .ref a_m_slackOf, .ref a_m_holdOf, .int f_m_listed, .ref a_m_listSlack, .ref a_m_listStart, .ref a_m_listEdge, .ref a_m_listSize, .ref a_m_listCell, .ref a_m_listInput, .ref a_m_rank, .ref a_m_good, .ref a_m_goCell, .ref a_m_goInput, .ref a_m_goEdge, .ref a_m_goMask, .int f_m_target, .int f_m_shown, .ref a_m_shownCell, .ref a_m_shownInput, .ref a_m_shownEdge, .ref a_m_shownLate, .int f_m_shownSlack, .int f_m_shownHold])), (a_m_kind, aI E 50 g_m_kind)] H := hP
                  replace hD : va_D A [(a_m_inputs, aI E 50 g_m_inputs), (a_m_taken, aI E 200 g_m_taken), (a_m_reached, aZ E 50 g_m_reached), (a_m_greatest, aI E 100 g_100), (a_m_lateDelay, aI E 400 g_m_lateDelay), (a_m_least, aI E 100 g_108), (a_m_earlyDelay, aI E 400 g_m_earlyDelay), (a_m_nodeOf, aI E 50 g_m_nodeOf), (a_m_nodeLate, aI E 20 g_m_nodeLate), (a_m_parent, aI E 20 g_m_parent), (a_m_portLate, aI E 50 g_m_portLate), (a_m_nodeEarly, aI E 20 g_m_nodeEarly), (a_m_portEarly, aI E 50 g_m_portEarly), (o_m, .inr (10, [.int f_m_code, .int f_m_cells, .ref a_m_kind, .ref a_m_inputs, .ref a_m_tableOf, .ref a_m_size, .ref a_m_extra, .ref a_m_taken, .ref a_m_portEarly, .ref a_m_portLate, .ref a_m_portSlope, .ref a_m_nodeOf, .ref a_m_setup, .ref a_m_hold, .ref a_m_seen, .ref a_m_numbers, .ref a_m_rowSize, .ref a_m_fall, .int f_m_late, .int f_m_early, .int f_m_period, .int f_m_nodes, .ref a_m_parent, .ref a_m_nodeEarly, .ref a_m_nodeLate, .int f_m_exceptions, .ref a_m_periods, .ref a_m_from, .ref a_m_through, .ref a_m_toward, .int f_m_fails, .ref a_m_order, .int f_m_ordered, .ref a_m_done, .ref a_m_reached, .ref a_m_open, .ref a_m_lateDelay, .ref a_m_earlyDelay, .ref a_m_lateSlope, .ref a_m_earlySlope, .ref a_m_greatest, .ref a_m_least, .ref a_m_howMany, .ref a_m_most, .ref a_m_fewest, .ref a_m_pathsTo, .ref a_m_slackOf, .ref a_m_holdOf, .int f_m_listed, .ref a_m_listSlack, .ref a_m_listStart, .ref a_m_listEdge, .ref a_m_listSize, .ref a_m_listCell, .ref a_m_listInput, .ref a_m_rank, .ref a_m_good, .ref a_m_goCell, .ref a_m_goInput, .ref a_m_goEdge, .ref a_m_goMask, .int f_m_target, .int f_m_shown, .ref a_m_shownCell, .ref a_m_shownInput, .ref a_m_shownEdge, .ref a_m_shownLate, .int f_m_shownSlack, .int f_m_shownHold])), (a_m_kind, aI E 50 g_m_kind)] := hD
                  refine lv_iconst (v := 1) hx hb dX10_arrive_237 (by decide) ?_
                  refine lv_istore_n (lv' := [(3, .int 1), (8, .int x_84), (7, .int x_73), (6, .int x_64), (5, .int x_12), (4, .int y_3), (0, .ref o_m), (1, .int p1), (2, .int p2)]) hx hb dX10_arrive_238 rfl hl (by decide) rfl (fun ls hl => ?_)
                  obtain ⟨x_109, ex_109⟩ : ∃ y : Int32, y = y_3 + 1 := ⟨_, rfl⟩
                  have tx_109 : x_109.toInt = y_3.toInt + 1 := i3_addc rfl rfl ex_109 (by omega)
                  refine lv_iinc (v := x_109) (lv' := [(4, .int x_109), (3, .int 1), (8, .int x_84), (7, .int x_73), (6, .int x_64), (5, .int x_12), (0, .ref o_m), (1, .int p1), (2, .int p2)]) hx hb dX10_arrive_239 hl (k := 5) rfl (by rw [ex_109]; rfl) (by decide) rfl (fun ls hl => ?_)
                  refine lv_goto (tgt := 46) hx hb dX10_arrive_242 (by decide) ?_
                  replace hl : lv_has ls 9 [(4, .int x_109), (3, .int 1), (0, .ref o_m), (1, .int p1), (2, .int p2)] := lv_sub hl [0, 1, 6, 7, 8] rfl
                  apply ih_d_7 (y_3 := x_109) (y_4 := 1) (y_5 := g_100) (y_6 := g_108) (H := H) (locs := locs) (ls := ls) <;> first | assumption | omega | decide
          · have e_16 : x_15.toInt = 0 := i3_eq c_16
            refine lv_goto (tgt := 239) hx hb dX10_arrive_85 (by decide) ?_
            obtain ⟨x_110, ex_110⟩ : ∃ y : Int32, y = y_3 + 1 := ⟨_, rfl⟩
            have tx_110 : x_110.toInt = y_3.toInt + 1 := i3_addc rfl rfl ex_110 (by omega)
            refine lv_iinc (v := x_110) (lv' := [(4, .int x_110), (5, .int x_12), (3, .int y_4), (0, .ref o_m), (1, .int p1), (2, .int p2)]) hx hb dX10_arrive_239 hl (k := 1) rfl (by rw [ex_110]; rfl) (by decide) rfl (fun ls hl => ?_)
            refine lv_goto (tgt := 46) hx hb dX10_arrive_242 (by decide) ?_
            replace hl : lv_has ls 9 [(4, .int x_110), (3, .int y_4), (0, .ref o_m), (1, .int p1), (2, .int p2)] := lv_sub hl [0, 2, 3, 4, 5] rfl
            apply ih_d_7 (y_3 := x_110) (y_4 := y_4) (y_5 := y_5) (y_6 := y_6) (H := H) (locs := locs) (ls := ls) <;> first | assumption | omega | decide
  · have e_2 : r_1.toInt = 0 := i3_eq c_2
    refine lv_aload_n hx hb dX10_arrive_8 rfl (lv_at hl 0 rfl) ?_
    refine va_get (D := E.1) (ci := 10) (v := .ref a_m_greatest) (own := RX10) (C := RX10) (T := TX10) (N := 69) hx hb hts i_m_arrive_X10 hown hK hP 13 rfl rfl 40 (by decide) (hto (.fieldLink RX10 135 "TimingHouseModel" "greatest" "[I") (by decide +kernel)) (fun _ h9 => h9) rfl dX10_arrive_9 ?_
    refine lv_iconst (v := 2) hx hb dX10_arrive_12 (by decide) ?_
    refine lv_iload_n hx hb dX10_arrive_13 rfl (lv_at hl 1 rfl) ?_
    refine lv_imul hx hb dX10_arrive_14 ?_
    refine lv_topi (fun x_111 ex_111 => ?_)
    have tx_111 : x_111.toInt = 2 * p1.toInt := i3_mulc rfl rfl ex_111 (by omega)
    refine lv_iload_n hx hb dX10_arrive_15 rfl (lv_at hl 2 rfl) ?_
    have b_p2 := r_p2.out
    refine lv_iadd hx hb dX10_arrive_16 ?_
    refine lv_topi (fun x_112 ex_112 => ?_)
    have tx_112 : x_112.toInt = x_111.toInt + p2.toInt := i3_addc rfl rfl ex_112 (by omega)
    refine lv_aload_n hx hb dX10_arrive_17 rfl (lv_at hl 0 rfl) ?_
    refine lv_iload_n hx hb dX10_arrive_18 rfl (lv_at hl 1 rfl) ?_
    refine lv_iload_n hx hb dX10_arrive_19 rfl (lv_at hl 2 rfl) ?_
    refine call_i (va_runV (As := [.int p1, .int p2]) (rest := [.int x_112, .ref a_m_greatest]) ⟨hx, hb, hml, hown, hts⟩ (m_startLate l E o_m a_m_kind a_m_inputs a_m_tableOf a_m_size a_m_extra a_m_taken a_m_portEarly a_m_portLate a_m_portSlope a_m_nodeOf a_m_setup a_m_hold a_m_seen a_m_numbers a_m_rowSize a_m_fall a_m_parent a_m_nodeEarly a_m_nodeLate a_m_periods a_m_from a_m_through a_m_toward a_m_order a_m_done a_m_reached a_m_open a_m_lateDelay a_m_earlyDelay a_m_lateSlope a_m_earlySlope a_m_greatest a_m_least a_m_howMany a_m_most a_m_fewest a_m_pathsTo a_m_slackOf a_m_holdOf a_m_listSlack a_m_listStart a_m_listEdge a_m_listSize a_m_listCell a_m_listInput a_m_rank a_m_good a_m_goCell a_m_goInput a_m_goEdge a_m_goMask a_m_shownCell a_m_shownInput a_m_shownEdge a_m_shownLate f_m_code f_m_cells f_m_late f_m_early f_m_period f_m_nodes f_m_exceptions f_m_fails f_m_ordered f_m_listed f_m_target f_m_shown f_m_shownSlack f_m_shownHold p1 p2 g_m_kind g_m_nodeOf g_m_nodeLate g_m_parent g_m_lateDelay g_m_portLate r_f_m_cells r_f_m_late r_f_m_early r_f_m_period r_f_m_nodes r_f_m_exceptions r_f_m_ordered r_f_m_listed r_f_m_target r_f_m_shown i_g_m_kind i_g_m_nodeOf i_g_m_parent i_g_m_portLate r_p1 r_p2 H.size) (cwV 2 hts g_m_arrive_m_startLate_289 rfl rfl rfl (by decide +kernel) ⟨Nat.le_of_ble_eq_true rfl, Nat.le_of_ble_eq_true rfl⟩) (pre_V hK hN hZ hS (va_free hD hS hA [13, 14, 7, 8, 9, 4, 10] rfl) (hP.sub (ws' := [(o_m, .inr (10, [.int f_m_code, .int f_m_cells, .ref a_m_kind, .ref a_m_inputs, .ref a_m_tableOf, .ref a_m_size, .ref a_m_extra, .ref a_m_taken, .ref a_m_portEarly, .ref a_m_portLate, .ref a_m_portSlope, .ref a_m_nodeOf, .ref a_m_setup, .ref a_m_hold, .ref a_m_seen, .ref a_m_numbers, .ref a_m_rowSize, .ref a_m_fall, .int f_m_late, .int f_m_early, .int f_m_period, .int f_m_nodes, .ref a_m_parent, .ref a_m_nodeEarly, .ref a_m_nodeLate, .int f_m_exceptions, .ref a_m_periods, .ref a_m_from, .ref a_m_through, .ref a_m_toward, .int f_m_fails, .ref a_m_order, .int f_m_ordered, .ref a_m_done, .ref a_m_reached, .ref a_m_open, .ref a_m_lateDelay, .ref a_m_earlyDelay, .ref a_m_lateSlope, .ref a_m_earlySlope, .ref a_m_greatest, .ref a_m_least, .ref a_m_howMany, .ref a_m_most, .ref a_m_fewest, .ref a_m_pathsTo, .ref a_m_slackOf, .ref a_m_holdOf, .int f_m_listed, .ref a_m_listSlack, .ref a_m_listStart, .ref a_m_listEdge, .ref a_m_listSize, .ref a_m_listCell, .ref a_m_listInput, .ref a_m_rank, .ref a_m_good, .ref a_m_goCell, .ref a_m_goInput, .ref a_m_goEdge, .ref a_m_goMask, .int f_m_target, .int f_m_shown, .ref a_m_shownCell, .ref a_m_shownInput, .ref a_m_shownEdge, .ref a_m_shownLate, .int f_m_shownSlack, .int f_m_shownHold])), (a_m_kind, aI E 50 g_m_kind), (a_m_nodeOf, aI E 50 g_m_nodeOf), (a_m_nodeLate, aI E 20 g_m_nodeLate), (a_m_parent, aI E 20 g_m_parent), (a_m_lateDelay, aI E 400 g_m_lateDelay), (a_m_portLate, aI E 50 g_m_portLate)]) [13, 14, 7, 8, 9, 4, 10] rfl) (hD.sub (ws' := [(o_m, .inr (10, [.int f_m_code, .int f_m_cells, .ref a_m_kind, .ref a_m_inputs, .ref a_m_tableOf, .ref a_m_size, .ref a_m_extra, .ref a_m_taken, .ref a_m_portEarly, .ref a_m_portLate, .ref a_m_portSlope, .ref a_m_nodeOf, .ref a_m_setup, .ref a_m_hold, .ref a_m_seen, .ref a_m_numbers, .ref a_m_rowSize, .ref a_m_fall, .int f_m_late, .int f_m_early, .int f_m_period, .int f_m_nodes, .ref a_m_parent, .ref a_m_nodeEarly, .ref a_m_nodeLate, .int f_m_exceptions, .ref a_m_periods, .ref a_m_from, .ref a_m_through, .ref a_m_toward, .int f_m_fails, .ref a_m_order, .int f_m_ordered, .ref a_m_done, .ref a_m_reached, .ref a_m_open, .ref a_m_lateDelay, .ref a_m_earlyDelay, .ref a_m_lateSlope, .ref a_m_earlySlope, .ref a_m_greatest, .ref a_m_least, .ref a_m_howMany, .ref a_m_most, .ref a_m_fewest, .ref a_m_pathsTo, .ref a_m_slackOf, .ref a_m_holdOf, .int f_m_listed, .ref a_m_listSlack, .ref a_m_listStart, .ref a_m_listEdge, .ref a_m_listSize, .ref a_m_listCell, .ref a_m_listInput, .ref a_m_rank, .ref a_m_good, .ref a_m_goCell, .ref a_m_goInput, .ref a_m_goEdge, .ref a_m_goMask, .int f_m_target, .int f_m_shown, .ref a_m_shownCell, .ref a_m_shownInput, .ref a_m_shownEdge, .ref a_m_shownLate, .int f_m_shownSlack, .int f_m_shownHold])), (a_m_kind, aI E 50 g_m_kind), (a_m_nodeOf, aI E 50 g_m_nodeOf), (a_m_nodeLate, aI E 20 g_m_nodeLate), (a_m_parent, aI E 20 g_m_parent), (a_m_lateDelay, aI E 400 g_m_lateDelay), (a_m_portLate, aI E 50 g_m_portLate)]) [13, 14, 7, 8, 9, 4, 10] (by decide) rfl) (ci := 10) (q0 := 0) rfl rfl) rfl rfl hl.1 rfl (lv_room (Nat.le_of_ble_eq_true rfl)) dX10_arrive_20 ⟨Nat.le_of_ble_eq_true rfl, Nat.le_of_ble_eq_true rfl⟩) hP hD hS hA [13, 14, 7, 8, 9, 4, 10] [0, 1, 2, 3, 5, 6, 11, 12] (wr := [(a_m_inputs, aI E 50 g_m_inputs), (a_m_taken, aI E 200 g_m_taken), (a_m_reached, aZ E 50 g_m_reached), (a_m_greatest, aI E 100 g_m_greatest), (a_m_least, aI E 100 g_m_least), (a_m_earlyDelay, aI E 400 g_m_earlyDelay), (a_m_nodeEarly, aI E 20 g_m_nodeEarly), (a_m_portEarly, aI E 50 g_m_portEarly)]) rfl rfl (by decide) (by decide) (fun r_113 w H locs hw hP hD hS => ?_)
    obtain ⟨b_r_113, rfl⟩ := hw
    replace hP : va_P E.1 vwCl [(a_m_inputs, aI E 50 g_m_inputs), (a_m_taken, aI E 200 g_m_taken), (a_m_reached, aZ E 50 g_m_reached), (a_m_greatest, aI E 100 g_m_greatest), (a_m_least, aI E 100 g_m_least), (a_m_earlyDelay, aI E 400 g_m_earlyDelay), (a_m_nodeEarly, aI E 20 g_m_nodeEarly), (a_m_portEarly, aI E 50 g_m_portEarly), (o_m, .inr (10, [.int f_m_code, .int f_m_cells, .ref a_m_kind, .ref a_m_inputs, .ref a_m_tableOf, .ref a_m_size, .ref a_m_extra, .ref a_m_taken, .ref a_m_portEarly, .ref a_m_portLate, .ref a_m_portSlope, .ref a_m_nodeOf, .ref a_m_setup, .ref a_m_hold, .ref a_m_seen, .ref a_m_numbers, .ref a_m_rowSize, .ref a_m_fall, .int f_m_late, .int f_m_early, .int f_m_period, .int f_m_nodes, .ref a_m_parent, .ref a_m_nodeEarly, .ref a_m_nodeLate, .int f_m_exceptions, .ref a_m_periods, .ref a_m_from, .ref a_m_through, .ref a_m_toward, .int f_m_fails, .ref a_m_order, .int f_m_ordered, .ref a_m_done, .ref a_m_reached, .ref a_m_open, .ref a_m_lateDelay, .ref a_m_earlyDelay, .ref a_m_lateSlope, .ref a_m_earlySlope, .ref a_m_greatest, .ref a_m_least, .ref a_m_howMany, .ref a_m_most, .ref a_m_fewest, .ref a_m_pathsTo, .ref a_m_slackOf, .ref a_m_holdOf, .int f_m_listed, .ref a_m_listSlack, .ref a_m_listStart, .ref a_m_listEdge, .ref a_m_listSize, .ref a_m_listCell, .ref a_m_listInput, .ref a_m_rank, .ref a_m_good, .ref a_m_goCell, .ref a_m_goInput, .ref a_m_goEdge, .ref a_m_goMask, .int f_m_target, .int f_m_shown, .ref a_m_shownCell, .ref a_m_shownInput, .ref a_m_shownEdge, .ref a_m_shownLate, .int f_m_shownSlack, .int f_m_shownHold])), (a_m_kind, aI E 50 g_m_kind), (a_m_nodeOf, aI E 50 g_m_nodeOf), (a_m_nodeLate, aI E 20 g_m_nodeLate), (a_m_parent, aI E 20 g_m_parent), (a_m_lateDelay, aI E 400 g_m_lateDelay), (a_m_portLate, aI E 50 g_m_portLate)] H := hP
    replace hD : va_D A [(a_m_inputs, aI E 50 g_m_inputs), (a_m_taken, aI E 200 g_m_taken), (a_m_reached, aZ E 50 g_m_reached), (a_m_greatest, aI E 100 g_m_greatest), (a_m_least, aI E 100 g_m_least), (a_m_earlyDelay, aI E 400 g_m_earlyDelay), (a_m_nodeEarly, aI E 20 g_m_nodeEarly), (a_m_portEarly, aI E 50 g_m_portEarly), (o_m, .inr (10, [.int f_m_code, .int f_m_cells, .ref a_m_kind, .ref a_m_inputs, .ref a_m_tableOf, .ref a_m_size, .ref a_m_extra, .ref a_m_taken, .ref a_m_portEarly, .ref a_m_portLate, .ref a_m_portSlope, .ref a_m_nodeOf, .ref a_m_setup, .ref a_m_hold, .ref a_m_seen, .ref a_m_numbers, .ref a_m_rowSize, .ref a_m_fall, .int f_m_late, .int f_m_early, .int f_m_period, .int f_m_nodes, .ref a_m_parent, .ref a_m_nodeEarly, .ref a_m_nodeLate, .int f_m_exceptions, .ref a_m_periods, .ref a_m_from, .ref a_m_through, .ref a_m_toward, .int f_m_fails, .ref a_m_order, .int f_m_ordered, .ref a_m_done, .ref a_m_reached, .ref a_m_open, .ref a_m_lateDelay, .ref a_m_earlyDelay, .ref a_m_lateSlope, .ref a_m_earlySlope, .ref a_m_greatest, .ref a_m_least, .ref a_m_howMany, .ref a_m_most, .ref a_m_fewest, .ref a_m_pathsTo, .ref a_m_slackOf, .ref a_m_holdOf, .int f_m_listed, .ref a_m_listSlack, .ref a_m_listStart, .ref a_m_listEdge, .ref a_m_listSize, .ref a_m_listCell, .ref a_m_listInput, .ref a_m_rank, .ref a_m_good, .ref a_m_goCell, .ref a_m_goInput, .ref a_m_goEdge, .ref a_m_goMask, .int f_m_target, .int f_m_shown, .ref a_m_shownCell, .ref a_m_shownInput, .ref a_m_shownEdge, .ref a_m_shownLate, .int f_m_shownSlack, .int f_m_shownHold])), (a_m_kind, aI E 50 g_m_kind), (a_m_nodeOf, aI E 50 g_m_nodeOf), (a_m_nodeLate, aI E 20 g_m_nodeLate), (a_m_parent, aI E 20 g_m_parent), (a_m_lateDelay, aI E 400 g_m_lateDelay), (a_m_portLate, aI E 50 g_m_portLate)] := hD
    refine st_i hx hb hK hP hD hS 3 rfl (by omega) dX10_arrive_23 (fun g_114 H locs eg_114 hP hD hS => ?_)
    clear eg_114
    replace hP : va_P E.1 vwCl [(a_m_inputs, aI E 50 g_m_inputs), (a_m_taken, aI E 200 g_m_taken), (a_m_reached, aZ E 50 g_m_reached), (a_m_greatest, aI E 100 g_114), (a_m_least, aI E 100 g_m_least), (a_m_earlyDelay, aI E 400 g_m_earlyDelay), (a_m_nodeEarly, aI E 20 g_m_nodeEarly), (a_m_portEarly, aI E 50 g_m_portEarly), (o_m, .inr (10, [.int f_m_code, .int f_m_cells, .ref a_m_kind, .ref a_m_inputs, .ref a_m_tableOf, .ref a_m_size, .ref a_m_extra, .ref a_m_taken, .ref a_m_portEarly, .ref a_m_portLate, .ref a_m_portSlope, .ref a_m_nodeOf, .ref a_m_setup, .ref a_m_hold, .ref a_m_seen, .ref a_m_numbers, .ref a_m_rowSize, .ref a_m_fall, .int f_m_late, .int f_m_early, .int f_m_period, .int f_m_nodes, .ref a_m_parent, .ref a_m_nodeEarly, .ref a_m_nodeLate, .int f_m_exceptions, .ref a_m_periods, .ref a_m_from, .ref a_m_through, .ref a_m_toward, .int f_m_fails, .ref a_m_order, .int f_m_ordered, .ref a_m_done, .ref a_m_reached, .ref a_m_open, .ref a_m_lateDelay, .ref a_m_earlyDelay, .ref a_m_lateSlope, .ref a_m_earlySlope, .ref a_m_greatest, .ref a_m_least, .ref a_m_howMany, .ref a_m_most, .ref a_m_fewest, .ref a_m_pathsTo, .ref a_m_slackOf, .ref a_m_holdOf, .int f_m_listed, .ref a_m_listSlack, .ref a_m_listStart, .ref a_m_listEdge, .ref a_m_listSize, .ref a_m_listCell, .ref a_m_listInput, .ref a_m_rank, .ref a_m_good, .ref a_m_goCell, .ref a_m_goInput, .ref a_m_goEdge, .ref a_m_goMask, .int f_m_target, .int f_m_shown, .ref a_m_shownCell, .ref a_m_shownInput, .ref a_m_shownEdge, .ref a_m_shownLate, .int f_m_shownSlack, .int f_m_shownHold])), (a_m_kind, aI E 50 g_m_kind), (a_m_nodeOf, aI E 50 g_m_nodeOf), (a_m_nodeLate, aI E 20 g_m_nodeLate), (a_m_parent, aI E 20 g_m_parent), (a_m_lateDelay, aI E 400 g_m_lateDelay), (a_m_portLate, aI E 50 g_m_portLate)] H := hP
    replace hD : va_D A [(a_m_inputs, aI E 50 g_m_inputs), (a_m_taken, aI E 200 g_m_taken), (a_m_reached, aZ E 50 g_m_reached), (a_m_greatest, aI E 100 g_114), (a_m_least, aI E 100 g_m_least), (a_m_earlyDelay, aI E 400 g_m_earlyDelay), (a_m_nodeEarly, aI E 20 g_m_nodeEarly), (a_m_portEarly, aI E 50 g_m_portEarly), (o_m, .inr (10, [.int f_m_code, .int f_m_cells, .ref a_m_kind, .ref a_m_inputs, .ref a_m_tableOf, .ref a_m_size, .ref a_m_extra, .ref a_m_taken, .ref a_m_portEarly, .ref a_m_portLate, .ref a_m_portSlope, .ref a_m_nodeOf, .ref a_m_setup, .ref a_m_hold, .ref a_m_seen, .ref a_m_numbers, .ref a_m_rowSize, .ref a_m_fall, .int f_m_late, .int f_m_early, .int f_m_period, .int f_m_nodes, .ref a_m_parent, .ref a_m_nodeEarly, .ref a_m_nodeLate, .int f_m_exceptions, .ref a_m_periods, .ref a_m_from, .ref a_m_through, .ref a_m_toward, .int f_m_fails, .ref a_m_order, .int f_m_ordered, .ref a_m_done, .ref a_m_reached, .ref a_m_open, .ref a_m_lateDelay, .ref a_m_earlyDelay, .ref a_m_lateSlope, .ref a_m_earlySlope, .ref a_m_greatest, .ref a_m_least, .ref a_m_howMany, .ref a_m_most, .ref a_m_fewest, .ref a_m_pathsTo, .ref a_m_slackOf, .ref a_m_holdOf, .int f_m_listed, .ref a_m_listSlack, .ref a_m_listStart, .ref a_m_listEdge, .ref a_m_listSize, .ref a_m_listCell, .ref a_m_listInput, .ref a_m_rank, .ref a_m_good, .ref a_m_goCell, .ref a_m_goInput, .ref a_m_goEdge, .ref a_m_goMask, .int f_m_target, .int f_m_shown, .ref a_m_shownCell, .ref a_m_shownInput, .ref a_m_shownEdge, .ref a_m_shownLate, .int f_m_shownSlack, .int f_m_shownHold])), (a_m_kind, aI E 50 g_m_kind), (a_m_nodeOf, aI E 50 g_m_nodeOf), (a_m_nodeLate, aI E 20 g_m_nodeLate), (a_m_parent, aI E 20 g_m_parent), (a_m_lateDelay, aI E 400 g_m_lateDelay), (a_m_portLate, aI E 50 g_m_portLate)] := hD
    refine lv_aload_n hx hb dX10_arrive_24 rfl (lv_at hl 0 rfl) ?_
    refine va_get (D := E.1) (ci := 10) (v := .ref a_m_least) (own := RX10) (C := RX10) (T := TX10) (N := 69) hx hb hts i_m_arrive_X10 hown hK hP 8 rfl rfl 41 (by decide) (hto (.fieldLink RX10 138 "TimingHouseModel" "least" "[I") (by decide +kernel)) (fun _ h9 => h9) rfl dX10_arrive_25 ?_
    refine lv_iconst (v := 2) hx hb dX10_arrive_28 (by decide) ?_
    refine lv_iload_n hx hb dX10_arrive_29 rfl (lv_at hl 1 rfl) ?_
    refine lv_imul hx hb dX10_arrive_30 ?_
    refine lv_topi (fun x_115 ex_115 => ?_)
    have hq_x_115 : x_111 = x_115 := ex_111.trans ex_115.symm
    subst hq_x_115
    refine lv_iload_n hx hb dX10_arrive_31 rfl (lv_at hl 2 rfl) ?_
    refine lv_iadd hx hb dX10_arrive_32 ?_
    refine lv_topi (fun x_116 ex_116 => ?_)
    have hq_x_116 : x_112 = x_116 := ex_112.trans ex_116.symm
    subst hq_x_116
    refine lv_aload_n hx hb dX10_arrive_33 rfl (lv_at hl 0 rfl) ?_
    refine lv_iload_n hx hb dX10_arrive_34 rfl (lv_at hl 1 rfl) ?_
    refine lv_iload_n hx hb dX10_arrive_35 rfl (lv_at hl 2 rfl) ?_
    refine call_i (va_runV (As := [.int p1, .int p2]) (rest := [.int x_112, .ref a_m_least]) ⟨hx, hb, hml, hown, hts⟩ (m_startEarly l E o_m a_m_kind a_m_inputs a_m_tableOf a_m_size a_m_extra a_m_taken a_m_portEarly a_m_portLate a_m_portSlope a_m_nodeOf a_m_setup a_m_hold a_m_seen a_m_numbers a_m_rowSize a_m_fall a_m_parent a_m_nodeEarly a_m_nodeLate a_m_periods a_m_from a_m_through a_m_toward a_m_order a_m_done a_m_reached a_m_open a_m_lateDelay a_m_earlyDelay a_m_lateSlope a_m_earlySlope a_m_greatest a_m_least a_m_howMany a_m_most a_m_fewest a_m_pathsTo a_m_slackOf a_m_holdOf a_m_listSlack a_m_listStart a_m_listEdge a_m_listSize a_m_listCell a_m_listInput a_m_rank a_m_good a_m_goCell a_m_goInput a_m_goEdge a_m_goMask a_m_shownCell a_m_shownInput a_m_shownEdge a_m_shownLate f_m_code f_m_cells f_m_late f_m_early f_m_period f_m_nodes f_m_exceptions f_m_fails f_m_ordered f_m_listed f_m_target f_m_shown f_m_shownSlack f_m_shownHold p1 p2 g_m_kind g_m_nodeOf g_m_nodeEarly g_m_parent g_m_earlyDelay g_m_portEarly r_f_m_cells r_f_m_late r_f_m_early r_f_m_period r_f_m_nodes r_f_m_exceptions r_f_m_ordered r_f_m_listed r_f_m_target r_f_m_shown i_g_m_kind i_g_m_nodeOf i_g_m_parent i_g_m_portEarly r_p1 r_p2 H.size) (cwV 2 hts g_m_arrive_m_startEarly_292 rfl rfl rfl (by decide +kernel) ⟨Nat.le_of_ble_eq_true rfl, Nat.le_of_ble_eq_true rfl⟩) (pre_V hK hN hZ hS (va_free hD hS hA [8, 9, 10, 6, 12, 5, 7] rfl) (hP.sub (ws' := [(o_m, .inr (10, [.int f_m_code, .int f_m_cells, .ref a_m_kind, .ref a_m_inputs, .ref a_m_tableOf, .ref a_m_size, .ref a_m_extra, .ref a_m_taken, .ref a_m_portEarly, .ref a_m_portLate, .ref a_m_portSlope, .ref a_m_nodeOf, .ref a_m_setup, .ref a_m_hold, .ref a_m_seen, .ref a_m_numbers, .ref a_m_rowSize, .ref a_m_fall, .int f_m_late, .int f_m_early, .int f_m_period, .int f_m_nodes, .ref a_m_parent, .ref a_m_nodeEarly, .ref a_m_nodeLate, .int f_m_exceptions, .ref a_m_periods, .ref a_m_from, .ref a_m_through, .ref a_m_toward, .int f_m_fails, .ref a_m_order, .int f_m_ordered, .ref a_m_done, .ref a_m_reached, .ref a_m_open, .ref a_m_lateDelay, .ref a_m_earlyDelay, .ref a_m_lateSlope, .ref a_m_earlySlope, .ref a_m_greatest, .ref a_m_least, .ref a_m_howMany, .ref a_m_most, .ref a_m_fewest, .ref a_m_pathsTo, .ref a_m_slackOf, .ref a_m_holdOf, .int f_m_listed, .ref a_m_listSlack, .ref a_m_listStart, .ref a_m_listEdge, .ref a_m_listSize, .ref a_m_listCell, .ref a_m_listInput, .ref a_m_rank, .ref a_m_good, .ref a_m_goCell, .ref a_m_goInput, .ref a_m_goEdge, .ref a_m_goMask, .int f_m_target, .int f_m_shown, .ref a_m_shownCell, .ref a_m_shownInput, .ref a_m_shownEdge, .ref a_m_shownLate, .int f_m_shownSlack, .int f_m_shownHold])), (a_m_kind, aI E 50 g_m_kind), (a_m_nodeOf, aI E 50 g_m_nodeOf), (a_m_nodeEarly, aI E 20 g_m_nodeEarly), (a_m_parent, aI E 20 g_m_parent), (a_m_earlyDelay, aI E 400 g_m_earlyDelay), (a_m_portEarly, aI E 50 g_m_portEarly)]) [8, 9, 10, 6, 12, 5, 7] rfl) (hD.sub (ws' := [(o_m, .inr (10, [.int f_m_code, .int f_m_cells, .ref a_m_kind, .ref a_m_inputs, .ref a_m_tableOf, .ref a_m_size, .ref a_m_extra, .ref a_m_taken, .ref a_m_portEarly, .ref a_m_portLate, .ref a_m_portSlope, .ref a_m_nodeOf, .ref a_m_setup, .ref a_m_hold, .ref a_m_seen, .ref a_m_numbers, .ref a_m_rowSize, .ref a_m_fall, .int f_m_late, .int f_m_early, .int f_m_period, .int f_m_nodes, .ref a_m_parent, .ref a_m_nodeEarly, .ref a_m_nodeLate, .int f_m_exceptions, .ref a_m_periods, .ref a_m_from, .ref a_m_through, .ref a_m_toward, .int f_m_fails, .ref a_m_order, .int f_m_ordered, .ref a_m_done, .ref a_m_reached, .ref a_m_open, .ref a_m_lateDelay, .ref a_m_earlyDelay, .ref a_m_lateSlope, .ref a_m_earlySlope, .ref a_m_greatest, .ref a_m_least, .ref a_m_howMany, .ref a_m_most, .ref a_m_fewest, .ref a_m_pathsTo, .ref a_m_slackOf, .ref a_m_holdOf, .int f_m_listed, .ref a_m_listSlack, .ref a_m_listStart, .ref a_m_listEdge, .ref a_m_listSize, .ref a_m_listCell, .ref a_m_listInput, .ref a_m_rank, .ref a_m_good, .ref a_m_goCell, .ref a_m_goInput, .ref a_m_goEdge, .ref a_m_goMask, .int f_m_target, .int f_m_shown, .ref a_m_shownCell, .ref a_m_shownInput, .ref a_m_shownEdge, .ref a_m_shownLate, .int f_m_shownSlack, .int f_m_shownHold])), (a_m_kind, aI E 50 g_m_kind), (a_m_nodeOf, aI E 50 g_m_nodeOf), (a_m_nodeEarly, aI E 20 g_m_nodeEarly), (a_m_parent, aI E 20 g_m_parent), (a_m_earlyDelay, aI E 400 g_m_earlyDelay), (a_m_portEarly, aI E 50 g_m_portEarly)]) [8, 9, 10, 6, 12, 5, 7] (by decide) rfl) (ci := 10) (q0 := 0) rfl rfl) rfl rfl hl.1 rfl (lv_room (Nat.le_of_ble_eq_true rfl)) dX10_arrive_36 ⟨Nat.le_of_ble_eq_true rfl, Nat.le_of_ble_eq_true rfl⟩) hP hD hS hA [8, 9, 10, 6, 12, 5, 7] [0, 1, 2, 3, 4, 11, 13, 14] (wr := [(a_m_inputs, aI E 50 g_m_inputs), (a_m_taken, aI E 200 g_m_taken), (a_m_reached, aZ E 50 g_m_reached), (a_m_greatest, aI E 100 g_114), (a_m_least, aI E 100 g_m_least), (a_m_nodeLate, aI E 20 g_m_nodeLate), (a_m_lateDelay, aI E 400 g_m_lateDelay), (a_m_portLate, aI E 50 g_m_portLate)]) rfl rfl (by decide) (by decide) (fun r_117 w H locs hw hP hD hS => ?_)
    obtain ⟨b_r_117, rfl⟩ := hw
    replace hP : va_P E.1 vwCl [(a_m_inputs, aI E 50 g_m_inputs), (a_m_taken, aI E 200 g_m_taken), (a_m_reached, aZ E 50 g_m_reached), (a_m_greatest, aI E 100 g_114), (a_m_least, aI E 100 g_m_least), (a_m_nodeLate, aI E 20 g_m_nodeLate), (a_m_lateDelay, aI E 400 g_m_lateDelay), (a_m_portLate, aI E 50 g_m_portLate), (o_m, .inr (10, [.int f_m_code, .int f_m_cells, .ref a_m_kind, .ref a_m_inputs, .ref a_m_tableOf, .ref a_m_size, .ref a_m_extra, .ref a_m_taken, .ref a_m_portEarly, .ref a_m_portLate, .ref a_m_portSlope, .ref a_m_nodeOf, .ref a_m_setup, .ref a_m_hold, .ref a_m_seen, .ref a_m_numbers, .ref a_m_rowSize, .ref a_m_fall, .int f_m_late, .int f_m_early, .int f_m_period, .int f_m_nodes, .ref a_m_parent, .ref a_m_nodeEarly, .ref a_m_nodeLate, .int f_m_exceptions, .ref a_m_periods, .ref a_m_from, .ref a_m_through, .ref a_m_toward, .int f_m_fails, .ref a_m_order, .int f_m_ordered, .ref a_m_done, .ref a_m_reached, .ref a_m_open, .ref a_m_lateDelay, .ref a_m_earlyDelay, .ref a_m_lateSlope, .ref a_m_earlySlope, .ref a_m_greatest, .ref a_m_least, .ref a_m_howMany, .ref a_m_most, .ref a_m_fewest, .ref a_m_pathsTo, .ref a_m_slackOf, .ref a_m_holdOf, .int f_m_listed, .ref a_m_listSlack, .ref a_m_listStart, .ref a_m_listEdge, .ref a_m_listSize, .ref a_m_listCell, .ref a_m_listInput, .ref a_m_rank, .ref a_m_good, .ref a_m_goCell, .ref a_m_goInput, .ref a_m_goEdge, .ref a_m_goMask, .int f_m_target, .int f_m_shown, .ref a_m_shownCell, .ref a_m_shownInput, .ref a_m_shownEdge, .ref a_m_shownLate, .int f_m_shownSlack, .int f_m_shownHold])), (a_m_kind, aI E 50 g_m_kind), (a_m_nodeOf, aI E 50 g_m_nodeOf), (a_m_nodeEarly, aI E 20 g_m_nodeEarly), (a_m_parent, aI E 20 g_m_parent), (a_m_earlyDelay, aI E 400 g_m_earlyDelay), (a_m_portEarly, aI E 50 g_m_portEarly)] H := hP
    replace hD : va_D A [(a_m_inputs, aI E 50 g_m_inputs), (a_m_taken, aI E 200 g_m_taken), (a_m_reached, aZ E 50 g_m_reached), (a_m_greatest, aI E 100 g_114), (a_m_least, aI E 100 g_m_least), (a_m_nodeLate, aI E 20 g_m_nodeLate), (a_m_lateDelay, aI E 400 g_m_lateDelay), (a_m_portLate, aI E 50 g_m_portLate), (o_m, .inr (10, [.int f_m_code, .int f_m_cells, .ref a_m_kind, .ref a_m_inputs, .ref a_m_tableOf, .ref a_m_size, .ref a_m_extra, .ref a_m_taken, .ref a_m_portEarly, .ref a_m_portLate, .ref a_m_portSlope, .ref a_m_nodeOf, .ref a_m_setup, .ref a_m_hold, .ref a_m_seen, .ref a_m_numbers, .ref a_m_rowSize, .ref a_m_fall, .int f_m_late, .int f_m_early, .int f_m_period, .int f_m_nodes, .ref a_m_parent, .ref a_m_nodeEarly, .ref a_m_nodeLate, .int f_m_exceptions, .ref a_m_periods, .ref a_m_from, .ref a_m_through, .ref a_m_toward, .int f_m_fails, .ref a_m_order, .int f_m_ordered, .ref a_m_done, .ref a_m_reached, .ref a_m_open, .ref a_m_lateDelay, .ref a_m_earlyDelay, .ref a_m_lateSlope, .ref a_m_earlySlope, .ref a_m_greatest, .ref a_m_least, .ref a_m_howMany, .ref a_m_most, .ref a_m_fewest, .ref a_m_pathsTo, .ref a_m_slackOf, .ref a_m_holdOf, .int f_m_listed, .ref a_m_listSlack, .ref a_m_listStart, .ref a_m_listEdge, .ref a_m_listSize, .ref a_m_listCell, .ref a_m_listInput, .ref a_m_rank, .ref a_m_good, .ref a_m_goCell, .ref a_m_goInput, .ref a_m_goEdge, .ref a_m_goMask, .int f_m_target, .int f_m_shown, .ref a_m_shownCell, .ref a_m_shownInput, .ref a_m_shownEdge, .ref a_m_shownLate, .int f_m_shownSlack, .int f_m_shownHold])), (a_m_kind, aI E 50 g_m_kind), (a_m_nodeOf, aI E 50 g_m_nodeOf), (a_m_nodeEarly, aI E 20 g_m_nodeEarly), (a_m_parent, aI E 20 g_m_parent), (a_m_earlyDelay, aI E 400 g_m_earlyDelay), (a_m_portEarly, aI E 50 g_m_portEarly)] := hD
    refine st_i hx hb hK hP hD hS 4 rfl (by omega) dX10_arrive_39 (fun g_118 H locs eg_118 hP hD hS => ?_)
    clear eg_118
    replace hP : va_P E.1 vwCl [(a_m_inputs, aI E 50 g_m_inputs), (a_m_taken, aI E 200 g_m_taken), (a_m_reached, aZ E 50 g_m_reached), (a_m_greatest, aI E 100 g_114), (a_m_least, aI E 100 g_118), (a_m_nodeLate, aI E 20 g_m_nodeLate), (a_m_lateDelay, aI E 400 g_m_lateDelay), (a_m_portLate, aI E 50 g_m_portLate), (o_m, .inr (10, [.int f_m_code, .int f_m_cells, .ref a_m_kind, .ref a_m_inputs, .ref a_m_tableOf, .ref a_m_size, .ref a_m_extra, .ref a_m_taken, .ref a_m_portEarly, .ref a_m_portLate, .ref a_m_portSlope, .ref a_m_nodeOf, .ref a_m_setup, .ref a_m_hold, .ref a_m_seen, .ref a_m_numbers, .ref a_m_rowSize, .ref a_m_fall, .int f_m_late, .int f_m_early, .int f_m_period, .int f_m_nodes, .ref a_m_parent, .ref a_m_nodeEarly, .ref a_m_nodeLate, .int f_m_exceptions, .ref a_m_periods, .ref a_m_from, .ref a_m_through, .ref a_m_toward, .int f_m_fails, .ref a_m_order, .int f_m_ordered, .ref a_m_done, .ref a_m_reached, .ref a_m_open, .ref a_m_lateDelay, .ref a_m_earlyDelay, .ref a_m_lateSlope, .ref a_m_earlySlope, .ref a_m_greatest, .ref a_m_least, .ref a_m_howMany, .ref a_m_most, .ref a_m_fewest, .ref a_m_pathsTo, .ref a_m_slackOf, .ref a_m_holdOf, .int f_m_listed, .ref a_m_listSlack, .ref a_m_listStart, .ref a_m_listEdge, .ref a_m_listSize, .ref a_m_listCell, .ref a_m_listInput, .ref a_m_rank, .ref a_m_good, .ref a_m_goCell, .ref a_m_goInput, .ref a_m_goEdge, .ref a_m_goMask, .int f_m_target, .int f_m_shown, .ref a_m_shownCell, .ref a_m_shownInput, .ref a_m_shownEdge, .ref a_m_shownLate, .int f_m_shownSlack, .int f_m_shownHold])), (a_m_kind, aI E 50 g_m_kind), (a_m_nodeOf, aI E 50 g_m_nodeOf), (a_m_nodeEarly, aI E 20 g_m_nodeEarly), (a_m_parent, aI E 20 g_m_parent), (a_m_earlyDelay, aI E 400 g_m_earlyDelay), (a_m_portEarly, aI E 50 g_m_portEarly)] H := hP
    replace hD : va_D A [(a_m_inputs, aI E 50 g_m_inputs), (a_m_taken, aI E 200 g_m_taken), (a_m_reached, aZ E 50 g_m_reached), (a_m_greatest, aI E 100 g_114), (a_m_least, aI E 100 g_118), (a_m_nodeLate, aI E 20 g_m_nodeLate), (a_m_lateDelay, aI E 400 g_m_lateDelay), (a_m_portLate, aI E 50 g_m_portLate), (o_m, .inr (10, [.int f_m_code, .int f_m_cells, .ref a_m_kind, .ref a_m_inputs, .ref a_m_tableOf, .ref a_m_size, .ref a_m_extra, .ref a_m_taken, .ref a_m_portEarly, .ref a_m_portLate, .ref a_m_portSlope, .ref a_m_nodeOf, .ref a_m_setup, .ref a_m_hold, .ref a_m_seen, .ref a_m_numbers, .ref a_m_rowSize, .ref a_m_fall, .int f_m_late, .int f_m_early, .int f_m_period, .int f_m_nodes, .ref a_m_parent, .ref a_m_nodeEarly, .ref a_m_nodeLate, .int f_m_exceptions, .ref a_m_periods, .ref a_m_from, .ref a_m_through, .ref a_m_toward, .int f_m_fails, .ref a_m_order, .int f_m_ordered, .ref a_m_done, .ref a_m_reached, .ref a_m_open, .ref a_m_lateDelay, .ref a_m_earlyDelay, .ref a_m_lateSlope, .ref a_m_earlySlope, .ref a_m_greatest, .ref a_m_least, .ref a_m_howMany, .ref a_m_most, .ref a_m_fewest, .ref a_m_pathsTo, .ref a_m_slackOf, .ref a_m_holdOf, .int f_m_listed, .ref a_m_listSlack, .ref a_m_listStart, .ref a_m_listEdge, .ref a_m_listSize, .ref a_m_listCell, .ref a_m_listInput, .ref a_m_rank, .ref a_m_good, .ref a_m_goCell, .ref a_m_goInput, .ref a_m_goEdge, .ref a_m_goMask, .int f_m_target, .int f_m_shown, .ref a_m_shownCell, .ref a_m_shownInput, .ref a_m_shownEdge, .ref a_m_shownLate, .int f_m_shownSlack, .int f_m_shownHold])), (a_m_kind, aI E 50 g_m_kind), (a_m_nodeOf, aI E 50 g_m_nodeOf), (a_m_nodeEarly, aI E 20 g_m_nodeEarly), (a_m_parent, aI E 20 g_m_parent), (a_m_earlyDelay, aI E 400 g_m_earlyDelay), (a_m_portEarly, aI E 50 g_m_portEarly)] := hD
    exact ret_v hx hb hr hlk (hP.sub (ws' := [(o_m, .inr (10, [.int f_m_code, .int f_m_cells, .ref a_m_kind, .ref a_m_inputs, .ref a_m_tableOf, .ref a_m_size, .ref a_m_extra, .ref a_m_taken, .ref a_m_portEarly, .ref a_m_portLate, .ref a_m_portSlope, .ref a_m_nodeOf, .ref a_m_setup, .ref a_m_hold, .ref a_m_seen, .ref a_m_numbers, .ref a_m_rowSize, .ref a_m_fall, .int f_m_late, .int f_m_early, .int f_m_period, .int f_m_nodes, .ref a_m_parent, .ref a_m_nodeEarly, .ref a_m_nodeLate, .int f_m_exceptions, .ref a_m_periods, .ref a_m_from, .ref a_m_through, .ref a_m_toward, .int f_m_fails, .ref a_m_order, .int f_m_ordered, .ref a_m_done, .ref a_m_reached, .ref a_m_open, .ref a_m_lateDelay, .ref a_m_earlyDelay, .ref a_m_lateSlope, .ref a_m_earlySlope, .ref a_m_greatest, .ref a_m_least, .ref a_m_howMany, .ref a_m_most, .ref a_m_fewest, .ref a_m_pathsTo, .ref a_m_slackOf, .ref a_m_holdOf, .int f_m_listed, .ref a_m_listSlack, .ref a_m_listStart, .ref a_m_listEdge, .ref a_m_listSize, .ref a_m_listCell, .ref a_m_listInput, .ref a_m_rank, .ref a_m_good, .ref a_m_goCell, .ref a_m_goInput, .ref a_m_goEdge, .ref a_m_goMask, .int f_m_target, .int f_m_shown, .ref a_m_shownCell, .ref a_m_shownInput, .ref a_m_shownEdge, .ref a_m_shownLate, .int f_m_shownSlack, .int f_m_shownHold])), (a_m_kind, aI E 50 g_m_kind), (a_m_inputs, aI E 50 g_m_inputs), (a_m_taken, aI E 200 g_m_taken), (a_m_reached, aZ E 50 g_m_reached), (a_m_greatest, aI E 100 g_114), (a_m_lateDelay, aI E 400 g_m_lateDelay), (a_m_least, aI E 100 g_118), (a_m_earlyDelay, aI E 400 g_m_earlyDelay), (a_m_nodeOf, aI E 50 g_m_nodeOf), (a_m_nodeLate, aI E 20 g_m_nodeLate), (a_m_parent, aI E 20 g_m_parent), (a_m_portLate, aI E 50 g_m_portLate), (a_m_nodeEarly, aI E 20 g_m_nodeEarly), (a_m_portEarly, aI E 50 g_m_portEarly)]) [8, 9, 0, 1, 2, 3, 6, 4, 13, 10, 5, 12, 7, 11, 14] rfl) (hD.sub (ws' := [(o_m, .inr (10, [.int f_m_code, .int f_m_cells, .ref a_m_kind, .ref a_m_inputs, .ref a_m_tableOf, .ref a_m_size, .ref a_m_extra, .ref a_m_taken, .ref a_m_portEarly, .ref a_m_portLate, .ref a_m_portSlope, .ref a_m_nodeOf, .ref a_m_setup, .ref a_m_hold, .ref a_m_seen, .ref a_m_numbers, .ref a_m_rowSize, .ref a_m_fall, .int f_m_late, .int f_m_early, .int f_m_period, .int f_m_nodes, .ref a_m_parent, .ref a_m_nodeEarly, .ref a_m_nodeLate, .int f_m_exceptions, .ref a_m_periods, .ref a_m_from, .ref a_m_through, .ref a_m_toward, .int f_m_fails, .ref a_m_order, .int f_m_ordered, .ref a_m_done, .ref a_m_reached, .ref a_m_open, .ref a_m_lateDelay, .ref a_m_earlyDelay, .ref a_m_lateSlope, .ref a_m_earlySlope, .ref a_m_greatest, .ref a_m_least, .ref a_m_howMany, .ref a_m_most, .ref a_m_fewest, .ref a_m_pathsTo, .ref a_m_slackOf, .ref a_m_holdOf, .int f_m_listed, .ref a_m_listSlack, .ref a_m_listStart, .ref a_m_listEdge, .ref a_m_listSize, .ref a_m_listCell, .ref a_m_listInput, .ref a_m_rank, .ref a_m_good, .ref a_m_goCell, .ref a_m_goInput, .ref a_m_goEdge, .ref a_m_goMask, .int f_m_target, .int f_m_shown, .ref a_m_shownCell, .ref a_m_shownInput, .ref a_m_shownEdge, .ref a_m_shownLate, .int f_m_shownSlack, .int f_m_shownHold])), (a_m_kind, aI E 50 g_m_kind), (a_m_inputs, aI E 50 g_m_inputs), (a_m_taken, aI E 200 g_m_taken), (a_m_reached, aZ E 50 g_m_reached), (a_m_greatest, aI E 100 g_114), (a_m_lateDelay, aI E 400 g_m_lateDelay), (a_m_least, aI E 100 g_118), (a_m_earlyDelay, aI E 400 g_m_earlyDelay), (a_m_nodeOf, aI E 50 g_m_nodeOf), (a_m_nodeLate, aI E 20 g_m_nodeLate), (a_m_parent, aI E 20 g_m_parent), (a_m_portLate, aI E 50 g_m_portLate), (a_m_nodeEarly, aI E 20 g_m_nodeEarly), (a_m_portEarly, aI E 50 g_m_portEarly)]) [8, 9, 0, 1, 2, 3, 6, 4, 13, 10, 5, 12, 7, 11, 14] (by decide) rfl) hS dX10_arrive_40 (Nat.le_of_ble_eq_true rfl) (Nat.le_of_ble_eq_true rfl) ⟨g_114, g_118, rfl⟩
