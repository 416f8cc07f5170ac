theorem dX6_timeArc_0 : decode cX6_timeArc 0 = .ok (.iload_n 1, 1) := by decide +kernel
theorem dX6_timeArc_1 : decode cX6_timeArc 1 = .ok (.iconst 4, 1) := by decide +kernel
theorem dX6_timeArc_2 : decode cX6_timeArc 2 = .ok (.idiv, 1) := by decide +kernel
theorem dX6_timeArc_3 : decode cX6_timeArc 3 = .ok (.istore 6, 2) := by decide +kernel
theorem dX6_timeArc_5 : decode cX6_timeArc 5 = .ok (.aload_n 0, 1) := by decide +kernel
theorem dX6_timeArc_6 : decode cX6_timeArc 6 = .ok (.getfield 37, 3) := by decide +kernel
theorem dX6_timeArc_9 : decode cX6_timeArc 9 = .ok (.getfield 135, 3) := by decide +kernel
theorem dX6_timeArc_12 : decode cX6_timeArc 12 = .ok (.iload 6, 2) := by decide +kernel
theorem dX6_timeArc_14 : decode cX6_timeArc 14 = .ok (.iaload, 1) := by decide +kernel
theorem dX6_timeArc_15 : decode cX6_timeArc 15 = .ok (.istore 7, 2) := by decide +kernel
theorem dX6_timeArc_17 : decode cX6_timeArc 17 = .ok (.iconst 1, 1) := by decide +kernel
theorem dX6_timeArc_18 : decode cX6_timeArc 18 = .ok (.aload_n 0, 1) := by decide +kernel
theorem dX6_timeArc_19 : decode cX6_timeArc 19 = .ok (.getfield 37, 3) := by decide +kernel
theorem dX6_timeArc_22 : decode cX6_timeArc 22 = .ok (.getfield 137, 3) := by decide +kernel
theorem dX6_timeArc_25 : decode cX6_timeArc 25 = .ok (.iload 6, 2) := by decide +kernel
theorem dX6_timeArc_27 : decode cX6_timeArc 27 = .ok (.iaload, 1) := by decide +kernel
theorem dX6_timeArc_28 : decode cX6_timeArc 28 = .ok (.iadd, 1) := by decide +kernel
theorem dX6_timeArc_29 : decode cX6_timeArc 29 = .ok (.istore 8, 2) := by decide +kernel
theorem dX6_timeArc_31 : decode cX6_timeArc 31 = .ok (.iload_n 3, 1) := by decide +kernel
theorem dX6_timeArc_32 : decode cX6_timeArc 32 = .ok (.iload 8, 2) := by decide +kernel
theorem dX6_timeArc_34 : decode cX6_timeArc 34 = .ok (.iadd, 1) := by decide +kernel
theorem dX6_timeArc_35 : decode cX6_timeArc 35 = .ok (.iconst 1, 1) := by decide +kernel
theorem dX6_timeArc_36 : decode cX6_timeArc 36 = .ok (.isub, 1) := by decide +kernel
theorem dX6_timeArc_37 : decode cX6_timeArc 37 = .ok (.iload 8, 2) := by decide +kernel
theorem dX6_timeArc_39 : decode cX6_timeArc 39 = .ok (.idiv, 1) := by decide +kernel
theorem dX6_timeArc_40 : decode cX6_timeArc 40 = .ok (.istore 9, 2) := by decide +kernel
theorem dX6_timeArc_42 : decode cX6_timeArc 42 = .ok (.iload_n 3, 1) := by decide +kernel
theorem dX6_timeArc_43 : decode cX6_timeArc 43 = .ok (.iload 8, 2) := by decide +kernel
theorem dX6_timeArc_45 : decode cX6_timeArc 45 = .ok (.idiv, 1) := by decide +kernel
theorem dX6_timeArc_46 : decode cX6_timeArc 46 = .ok (.istore 10, 2) := by decide +kernel
theorem dX6_timeArc_48 : decode cX6_timeArc 48 = .ok (.aload_n 0, 1) := by decide +kernel
theorem dX6_timeArc_49 : decode cX6_timeArc 49 = .ok (.getfield 49, 3) := by decide +kernel
theorem dX6_timeArc_52 : decode cX6_timeArc 52 = .ok (.iload 7, 2) := by decide +kernel
theorem dX6_timeArc_54 : decode cX6_timeArc 54 = .ok (.iconst 0, 1) := by decide +kernel
theorem dX6_timeArc_55 : decode cX6_timeArc 55 = .ok (.iload 9, 2) := by decide +kernel
theorem dX6_timeArc_57 : decode cX6_timeArc 57 = .ok (.iload 4, 2) := by decide +kernel
theorem dX6_timeArc_59 : decode cX6_timeArc 59 = .ok (.iconst 1, 1) := by decide +kernel
theorem dX6_timeArc_60 : decode cX6_timeArc 60 = .ok (.invokevirtual 140, 3) := by decide +kernel
theorem dX6_timeArc_63 : decode cX6_timeArc 63 = .ok (.istore 11, 2) := by decide +kernel
theorem dX6_timeArc_65 : decode cX6_timeArc 65 = .ok (.iload 11, 2) := by decide +kernel
theorem dX6_timeArc_67 : decode cX6_timeArc 67 = .ok (.ifCond .ge 6, 3) := by decide +kernel
theorem dX6_timeArc_73 : decode cX6_timeArc 73 = .ok (.aload_n 0, 1) := by decide +kernel
theorem dX6_timeArc_74 : decode cX6_timeArc 74 = .ok (.getfield 49, 3) := by decide +kernel
theorem dX6_timeArc_77 : decode cX6_timeArc 77 = .ok (.iload 7, 2) := by decide +kernel
theorem dX6_timeArc_79 : decode cX6_timeArc 79 = .ok (.iconst 1, 1) := by decide +kernel
theorem dX6_timeArc_80 : decode cX6_timeArc 80 = .ok (.iload 9, 2) := by decide +kernel
theorem dX6_timeArc_82 : decode cX6_timeArc 82 = .ok (.iload 4, 2) := by decide +kernel
theorem dX6_timeArc_84 : decode cX6_timeArc 84 = .ok (.iconst 1, 1) := by decide +kernel
theorem dX6_timeArc_85 : decode cX6_timeArc 85 = .ok (.invokevirtual 140, 3) := by decide +kernel
theorem dX6_timeArc_88 : decode cX6_timeArc 88 = .ok (.istore 12, 2) := by decide +kernel
theorem dX6_timeArc_90 : decode cX6_timeArc 90 = .ok (.iload 12, 2) := by decide +kernel
theorem dX6_timeArc_92 : decode cX6_timeArc 92 = .ok (.ifCond .ge 6, 3) := by decide +kernel
theorem dX6_timeArc_98 : decode cX6_timeArc 98 = .ok (.aload_n 0, 1) := by decide +kernel
theorem dX6_timeArc_99 : decode cX6_timeArc 99 = .ok (.getfield 49, 3) := by decide +kernel
theorem dX6_timeArc_102 : decode cX6_timeArc 102 = .ok (.iload 7, 2) := by decide +kernel
theorem dX6_timeArc_104 : decode cX6_timeArc 104 = .ok (.iconst 0, 1) := by decide +kernel
theorem dX6_timeArc_105 : decode cX6_timeArc 105 = .ok (.iload 10, 2) := by decide +kernel
theorem dX6_timeArc_107 : decode cX6_timeArc 107 = .ok (.iload 5, 2) := by decide +kernel
theorem dX6_timeArc_109 : decode cX6_timeArc 109 = .ok (.iconst 0, 1) := by decide +kernel
theorem dX6_timeArc_110 : decode cX6_timeArc 110 = .ok (.invokevirtual 140, 3) := by decide +kernel
theorem dX6_timeArc_113 : decode cX6_timeArc 113 = .ok (.istore 13, 2) := by decide +kernel
theorem dX6_timeArc_115 : decode cX6_timeArc 115 = .ok (.iload 13, 2) := by decide +kernel
theorem dX6_timeArc_117 : decode cX6_timeArc 117 = .ok (.ifCond .ge 6, 3) := by decide +kernel
theorem dX6_timeArc_123 : decode cX6_timeArc 123 = .ok (.aload_n 0, 1) := by decide +kernel
theorem dX6_timeArc_124 : decode cX6_timeArc 124 = .ok (.getfield 49, 3) := by decide +kernel
theorem dX6_timeArc_127 : decode cX6_timeArc 127 = .ok (.iload 7, 2) := by decide +kernel
theorem dX6_timeArc_129 : decode cX6_timeArc 129 = .ok (.iconst 1, 1) := by decide +kernel
theorem dX6_timeArc_130 : decode cX6_timeArc 130 = .ok (.iload 10, 2) := by decide +kernel
theorem dX6_timeArc_132 : decode cX6_timeArc 132 = .ok (.iload 5, 2) := by decide +kernel
theorem dX6_timeArc_134 : decode cX6_timeArc 134 = .ok (.iconst 0, 1) := by decide +kernel
theorem dX6_timeArc_135 : decode cX6_timeArc 135 = .ok (.invokevirtual 140, 3) := by decide +kernel
theorem dX6_timeArc_138 : decode cX6_timeArc 138 = .ok (.istore 14, 2) := by decide +kernel
theorem dX6_timeArc_140 : decode cX6_timeArc 140 = .ok (.iload 14, 2) := by decide +kernel
theorem dX6_timeArc_142 : decode cX6_timeArc 142 = .ok (.ifCond .ge 6, 3) := by decide +kernel
theorem dX6_timeArc_148 : decode cX6_timeArc 148 = .ok (.iload_n 2, 1) := by decide +kernel
theorem dX6_timeArc_149 : decode cX6_timeArc 149 = .ok (.iconst 1, 1) := by decide +kernel
theorem dX6_timeArc_150 : decode cX6_timeArc 150 = .ok (.if_icmp .ne 16, 3) := by decide +kernel
theorem dX6_timeArc_166 : decode cX6_timeArc 166 = .ok (.iconst 0, 1) := by decide +kernel
theorem dX6_timeArc_167 : decode cX6_timeArc 167 = .ok (.istore 15, 2) := by decide +kernel
theorem dX6_timeArc_169 : decode cX6_timeArc 169 = .ok (.aload_n 0, 1) := by decide +kernel
theorem dX6_timeArc_170 : decode cX6_timeArc 170 = .ok (.getfield 19, 3) := by decide +kernel
theorem dX6_timeArc_173 : decode cX6_timeArc 173 = .ok (.iload_n 1, 1) := by decide +kernel
theorem dX6_timeArc_174 : decode cX6_timeArc 174 = .ok (.iconst 2, 1) := by decide +kernel
theorem dX6_timeArc_175 : decode cX6_timeArc 175 = .ok (.imul, 1) := by decide +kernel
theorem dX6_timeArc_176 : decode cX6_timeArc 176 = .ok (.iload_n 2, 1) := by decide +kernel
theorem dX6_timeArc_177 : decode cX6_timeArc 177 = .ok (.iadd, 1) := by decide +kernel
theorem dX6_timeArc_178 : decode cX6_timeArc 178 = .ok (.iload 11, 2) := by decide +kernel
theorem dX6_timeArc_180 : decode cX6_timeArc 180 = .ok (.sipush 1000, 3) := by decide +kernel
theorem dX6_timeArc_183 : decode cX6_timeArc 183 = .ok (.aload_n 0, 1) := by decide +kernel
theorem dX6_timeArc_184 : decode cX6_timeArc 184 = .ok (.getfield 49, 3) := by decide +kernel
theorem dX6_timeArc_187 : decode cX6_timeArc 187 = .ok (.getfield 149, 3) := by decide +kernel
theorem dX6_timeArc_190 : decode cX6_timeArc 190 = .ok (.iadd, 1) := by decide +kernel
theorem dX6_timeArc_191 : decode cX6_timeArc 191 = .ok (.imul, 1) := by decide +kernel
theorem dX6_timeArc_192 : decode cX6_timeArc 192 = .ok (.sipush 999, 3) := by decide +kernel
theorem dX6_timeArc_195 : decode cX6_timeArc 195 = .ok (.iadd, 1) := by decide +kernel
theorem dX6_timeArc_196 : decode cX6_timeArc 196 = .ok (.sipush 1000, 3) := by decide +kernel
theorem dX6_timeArc_199 : decode cX6_timeArc 199 = .ok (.idiv, 1) := by decide +kernel
theorem dX6_timeArc_200 : decode cX6_timeArc 200 = .ok (.iload 15, 2) := by decide +kernel
theorem dX6_timeArc_202 : decode cX6_timeArc 202 = .ok (.iadd, 1) := by decide +kernel
theorem dX6_timeArc_203 : decode cX6_timeArc 203 = .ok (.iastore, 1) := by decide +kernel
theorem dX6_timeArc_204 : decode cX6_timeArc 204 = .ok (.aload_n 0, 1) := by decide +kernel
theorem dX6_timeArc_205 : decode cX6_timeArc 205 = .ok (.getfield 22, 3) := by decide +kernel
theorem dX6_timeArc_208 : decode cX6_timeArc 208 = .ok (.iload_n 1, 1) := by decide +kernel
theorem dX6_timeArc_209 : decode cX6_timeArc 209 = .ok (.iconst 2, 1) := by decide +kernel
theorem dX6_timeArc_210 : decode cX6_timeArc 210 = .ok (.imul, 1) := by decide +kernel
theorem dX6_timeArc_211 : decode cX6_timeArc 211 = .ok (.iload_n 2, 1) := by decide +kernel
theorem dX6_timeArc_212 : decode cX6_timeArc 212 = .ok (.iadd, 1) := by decide +kernel
theorem dX6_timeArc_213 : decode cX6_timeArc 213 = .ok (.iload 13, 2) := by decide +kernel
theorem dX6_timeArc_215 : decode cX6_timeArc 215 = .ok (.sipush 1000, 3) := by decide +kernel
theorem dX6_timeArc_218 : decode cX6_timeArc 218 = .ok (.aload_n 0, 1) := by decide +kernel
theorem dX6_timeArc_219 : decode cX6_timeArc 219 = .ok (.getfield 49, 3) := by decide +kernel
theorem dX6_timeArc_222 : decode cX6_timeArc 222 = .ok (.getfield 152, 3) := by decide +kernel
theorem dX6_timeArc_225 : decode cX6_timeArc 225 = .ok (.isub, 1) := by decide +kernel
theorem dX6_timeArc_226 : decode cX6_timeArc 226 = .ok (.imul, 1) := by decide +kernel
theorem dX6_timeArc_227 : decode cX6_timeArc 227 = .ok (.sipush 1000, 3) := by decide +kernel
theorem dX6_timeArc_230 : decode cX6_timeArc 230 = .ok (.idiv, 1) := by decide +kernel
theorem dX6_timeArc_231 : decode cX6_timeArc 231 = .ok (.iload 15, 2) := by decide +kernel
theorem dX6_timeArc_233 : decode cX6_timeArc 233 = .ok (.iadd, 1) := by decide +kernel
theorem dX6_timeArc_234 : decode cX6_timeArc 234 = .ok (.iastore, 1) := by decide +kernel
theorem dX6_timeArc_235 : decode cX6_timeArc 235 = .ok (.iload 6, 2) := by decide +kernel
theorem dX6_timeArc_237 : decode cX6_timeArc 237 = .ok (.iconst 2, 1) := by decide +kernel
theorem dX6_timeArc_238 : decode cX6_timeArc 238 = .ok (.imul, 1) := by decide +kernel
theorem dX6_timeArc_239 : decode cX6_timeArc 239 = .ok (.iload_n 2, 1) := by decide +kernel
theorem dX6_timeArc_240 : decode cX6_timeArc 240 = .ok (.iadd, 1) := by decide +kernel
theorem dX6_timeArc_241 : decode cX6_timeArc 241 = .ok (.istore 16, 2) := by decide +kernel
theorem dX6_timeArc_243 : decode cX6_timeArc 243 = .ok (.aload_n 0, 1) := by decide +kernel
theorem dX6_timeArc_244 : decode cX6_timeArc 244 = .ok (.getfield 25, 3) := by decide +kernel
theorem dX6_timeArc_247 : decode cX6_timeArc 247 = .ok (.iload 16, 2) := by decide +kernel
theorem dX6_timeArc_249 : decode cX6_timeArc 249 = .ok (.aload_n 0, 1) := by decide +kernel
theorem dX6_timeArc_250 : decode cX6_timeArc 250 = .ok (.getfield 25, 3) := by decide +kernel
theorem dX6_timeArc_253 : decode cX6_timeArc 253 = .ok (.iload 16, 2) := by decide +kernel
theorem dX6_timeArc_255 : decode cX6_timeArc 255 = .ok (.iaload, 1) := by decide +kernel
theorem dX6_timeArc_256 : decode cX6_timeArc 256 = .ok (.iload 12, 2) := by decide +kernel
theorem dX6_timeArc_258 : decode cX6_timeArc 258 = .ok (.invokestatic 155, 3) := by decide +kernel
theorem dX6_timeArc_261 : decode cX6_timeArc 261 = .ok (.iastore, 1) := by decide +kernel
theorem dX6_timeArc_262 : decode cX6_timeArc 262 = .ok (.aload_n 0, 1) := by decide +kernel
theorem dX6_timeArc_263 : decode cX6_timeArc 263 = .ok (.getfield 28, 3) := by decide +kernel
theorem dX6_timeArc_266 : decode cX6_timeArc 266 = .ok (.iload 16, 2) := by decide +kernel
theorem dX6_timeArc_268 : decode cX6_timeArc 268 = .ok (.aload_n 0, 1) := by decide +kernel
theorem dX6_timeArc_269 : decode cX6_timeArc 269 = .ok (.getfield 28, 3) := by decide +kernel
theorem dX6_timeArc_272 : decode cX6_timeArc 272 = .ok (.iload 16, 2) := by decide +kernel
theorem dX6_timeArc_274 : decode cX6_timeArc 274 = .ok (.iaload, 1) := by decide +kernel
theorem dX6_timeArc_275 : decode cX6_timeArc 275 = .ok (.iload 14, 2) := by decide +kernel
theorem dX6_timeArc_277 : decode cX6_timeArc 277 = .ok (.invokestatic 161, 3) := by decide +kernel
theorem dX6_timeArc_280 : decode cX6_timeArc 280 = .ok (.iastore, 1) := by decide +kernel
theorem dX6_timeArc_281 : decode cX6_timeArc 281 = .ok (.iconst 0, 1) := by decide +kernel
theorem dX6_timeArc_282 : decode cX6_timeArc 282 = .ok (.ireturn, 1) := by decide +kernel
theorem dX6_timeArc_153 : decode cX6_timeArc 153 = .ok (.aload_n 0, 1) := by decide +kernel
theorem dX6_timeArc_154 : decode cX6_timeArc 154 = .ok (.getfield 49, 3) := by decide +kernel
theorem dX6_timeArc_157 : decode cX6_timeArc 157 = .ok (.getfield 146, 3) := by decide +kernel
theorem dX6_timeArc_160 : decode cX6_timeArc 160 = .ok (.iload 7, 2) := by decide +kernel
theorem dX6_timeArc_162 : decode cX6_timeArc 162 = .ok (.iaload, 1) := by decide +kernel
theorem dX6_timeArc_163 : decode cX6_timeArc 163 = .ok (.goto 4, 3) := by decide +kernel
theorem dX6_timeArc_145 : decode cX6_timeArc 145 = .ok (.iload 14, 2) := by decide +kernel
theorem dX6_timeArc_147 : decode cX6_timeArc 147 = .ok (.ireturn, 1) := by decide +kernel
theorem dX6_timeArc_120 : decode cX6_timeArc 120 = .ok (.iload 13, 2) := by decide +kernel
theorem dX6_timeArc_122 : decode cX6_timeArc 122 = .ok (.ireturn, 1) := by decide +kernel
theorem dX6_timeArc_95 : decode cX6_timeArc 95 = .ok (.iload 12, 2) := by decide +kernel
theorem dX6_timeArc_97 : decode cX6_timeArc 97 = .ok (.ireturn, 1) := by decide +kernel
theorem dX6_timeArc_70 : decode cX6_timeArc 70 = .ok (.iload 11, 2) := by decide +kernel
theorem dX6_timeArc_72 : decode cX6_timeArc 72 = .ok (.ireturn, 1) := by decide +kernel
def wo_q_timeArc : List Cond := [.code yX6_timeArc cX6_timeArc 17 (some .int), .fieldLink RX6 37 "TimingHouse$Timing" "net" "LTimingHouse$Net;", .fieldLink RX6 49 "TimingHouse$Timing" "tables" "LTimingHouse$Tables;", .methodLink RX6 140 yX5_lookUp, .instanceMethod yX5_lookUp, .selects RX5 yX5_lookUp yX5_lookUp, .initialized RX5, .fieldLink RX6 19 "TimingHouse$Timing" "lateDelays" "[I", .fieldLink RX6 22 "TimingHouse$Timing" "earlyDelays" "[I", .fieldLink RX6 25 "TimingHouse$Timing" "lateSlopes" "[I", .methodLink RX6 155 Lib.Math.max.name, .static Lib.Math.max.name, .initialized "java/lang/Math", .code Lib.Math.max.name Lib.Math.max.code 2 (some .int), .fieldLink RX6 28 "TimingHouse$Timing" "earlySlopes" "[I", .methodLink RX6 161 Lib.Math.min.name, .static Lib.Math.min.name, .code Lib.Math.min.name Lib.Math.min.code 2 (some .int)]
def wr_q_timeArc : List Cond := (wsX10 ++ (wsX50 ++ (wsX60 ++ (w_q_lookUp ++ ([])))))
def w_q_timeArc : List Cond := wo_q_timeArc ++ wr_q_timeArc
theorem wg_q_timeArc : GW w_q_timeArc := GW_app (GW_of (by decide +kernel)) (GW_app (GW_of (by decide +kernel)) (GW_app (GW_of (by decide +kernel)) (GW_app (GW_of (by decide +kernel)) (GW_app (wg_q_lookUp) (GW_nil)))))
theorem i_q_timeArc_X1 : ∀ w ∈ wsX10, w ∈ w_q_timeArc := fun _ h => List.mem_append_right _ (List.mem_append_left _ h)
theorem i_q_timeArc_X5 : ∀ w ∈ wsX50, w ∈ w_q_timeArc := fun _ h => List.mem_append_right _ (List.mem_append_right _ (List.mem_append_left _ h))
theorem i_q_timeArc_X6 : ∀ w ∈ wsX60, w ∈ w_q_timeArc := fun _ h => List.mem_append_right _ (List.mem_append_right _ (List.mem_append_right _ (List.mem_append_left _ h)))
theorem g_q_timeArc_q_lookUp_140 : GoodIn w_q_timeArc (wsV RX6 140 RX5 yX5_lookUp w_q_lookUp) := goodIn_app (gi_left (goodIn_of _ (by decide +kernel))) (fun w h => ⟨List.mem_append_right _ (List.mem_append_right _ (List.mem_append_right _ (List.mem_append_right _ (List.mem_append_left _ h)))), wg_q_lookUp w h⟩)
set_option maxHeartbeats 8000000 in
set_option maxRecDepth 100000 in
theorem q_timeArc (l : Launch) (E : gE) (o_i o_n o_z o_k o_t a_i_reached a_i_open a_i_lateDelays a_i_earlyDelays a_i_lateSlopes a_i_earlySlopes a_i_lateArrivals a_i_earlyArrivals a_n_kinds a_n_inputs a_n_tables a_n_sizes a_n_extras a_n_sources a_n_takers a_n_firstTaker a_n_order a_n_tally a_n_behind a_t_numbers a_t_lefts a_t_falls : Nat) (f_n_cells f_n_ordered f_t_lateCorner f_t_earlyCorner p1 p2 p3 p4 p5 : Int32) (g_n_tables : Nat → Int32) (g_n_sizes : Nat → Int32) (g_t_lefts : Nat → Int32) (g_t_numbers : Nat → Int32) (g_i_lateDelays : Nat → Int32) (g_i_earlyDelays : Nat → Int32) (g_i_lateSlopes : Nat → Int32) (g_i_earlySlopes : Nat → Int32) (g_t_falls : Nat → Int32) (r_f_n_cells : RG f_n_cells 0 50) (r_f_n_ordered : RG f_n_ordered 0 50) (i_g_n_tables : AR g_n_tables 50 0 7) (i_g_n_sizes : AR g_n_sizes 50 0 2) (r_f_t_lateCorner : RG f_t_lateCorner 0 500) (r_f_t_earlyCorner : RG f_t_earlyCorner 0 500) (i_g_t_lefts : AR g_t_lefts 64 0 3) (i_g_t_numbers : AR g_t_numbers 192 0 3000) (i_g_t_falls : AR g_t_falls 8 0 1000) (r_p1 : RG p1 0 199) (r_p2 : RG p2 0 1) : CtI l E yX6_timeArc w_q_timeArc ({ frames := 2, cells := 0, slots := 0, locals := 64 }) [(o_i, .inr (6, [.ref o_n, .ref o_z, .ref o_k, .ref o_t, .ref a_i_reached, .ref a_i_open, .ref a_i_lateDelays, .ref a_i_earlyDelays, .ref a_i_lateSlopes, .ref a_i_earlySlopes, .ref a_i_lateArrivals, .ref a_i_earlyArrivals])), (o_n, .inr (1, [.int f_n_cells, .ref a_n_kinds, .ref a_n_inputs, .ref a_n_tables, .ref a_n_sizes, .ref a_n_extras, .ref a_n_sources, .ref a_n_takers, .ref a_n_firstTaker, .ref a_n_order, .int f_n_ordered, .ref a_n_tally, .ref a_n_behind])), (a_n_tables, aI E 50 g_n_tables), (a_n_sizes, aI E 50 g_n_sizes), (o_t, .inr (5, [.ref a_t_numbers, .ref a_t_lefts, .ref a_t_falls, .int f_t_lateCorner, .int f_t_earlyCorner])), (a_t_lefts, aI E 64 g_t_lefts), (a_t_numbers, aI E 192 g_t_numbers), (a_i_lateDelays, aI E 400 g_i_lateDelays), (a_i_earlyDelays, aI E 400 g_i_earlyDelays), (a_i_lateSlopes, aI E 100 g_i_lateSlopes), (a_i_earlySlopes, aI E 100 g_i_earlySlopes), (a_t_falls, aI E 8 g_t_falls)] [.ref o_i, .int p1, .int p2, .int p3, .int p4, .int p5] (fun _ w => True ∧ ∃ ng_i_lateDelays : Nat → Int32, ∃ ng_i_earlyDelays : Nat → Int32, ∃ ng_i_lateSlopes : Nat → Int32, ∃ ng_i_earlySlopes : Nat → Int32, w = [(o_i, .inr (6, [.ref o_n, .ref o_z, .ref o_k, .ref o_t, .ref a_i_reached, .ref a_i_open, .ref a_i_lateDelays, .ref a_i_earlyDelays, .ref a_i_lateSlopes, .ref a_i_earlySlopes, .ref a_i_lateArrivals, .ref a_i_earlyArrivals])), (o_n, .inr (1, [.int f_n_cells, .ref a_n_kinds, .ref a_n_inputs, .ref a_n_tables, .ref a_n_sizes, .ref a_n_extras, .ref a_n_sources, .ref a_n_takers, .ref a_n_firstTaker, .ref a_n_order, .int f_n_ordered, .ref a_n_tally, .ref a_n_behind])), (a_n_tables, aI E 50 g_n_tables), (a_n_sizes, aI E 50 g_n_sizes), (o_t, .inr (5, [.ref a_t_numbers, .ref a_t_lefts, .ref a_t_falls, .int f_t_lateCorner, .int f_t_earlyCorner])), (a_t_lefts, aI E 64 g_t_lefts), (a_t_numbers, aI E 192 g_t_numbers), (a_i_lateDelays, aI E 400 ng_i_lateDelays), (a_i_earlyDelays, aI E 400 ng_i_earlyDelays), (a_i_lateSlopes, aI E 100 ng_i_lateSlopes), (a_i_earlySlopes, aI E 100 ng_i_earlySlopes), (a_t_falls, aI E 8 g_t_falls)]) := by
  refine CtI.of (cc := cX6_timeArc) (maxL := 17) (rt := (some .int)) (by decide) rfl (Nat.le_of_ble_eq_true rfl) ?_
  intro p e s m below meth c A B ls hl
  obtain ⟨hx, hb, hml, hr, hlk, hin, hts, hown, hK, hN, hZ, hA, hP, hD, hS⟩ := B
  replace hown : s.vm.findClass RX6 = some m.cls := hown
  have hto : ∀ w ∈ wo_q_timeArc, w.before _ s = true := fun w h => hts w (List.mem_append_left _ h)
  replace hl : lv_has ls 17 [(0, .ref o_i), (1, .int p1), (2, .int p2), (3, .int p3), (4, .int p4), (5, .int p5)] := hl
  obtain ⟨H, hHe⟩ : ∃ H, H = s.heap := ⟨_, rfl⟩
  obtain ⟨locs, hle⟩ : ∃ l : List Loc, l = [] := ⟨_, rfl⟩
  replace hS : va_S A s.heap H locs := by rw [hHe, hle]; exact hS
  replace hP : va_P E.1 vwCl [(o_i, .inr (6, [.ref o_n, .ref o_z, .ref o_k, .ref o_t, .ref a_i_reached, .ref a_i_open, .ref a_i_lateDelays, .ref a_i_earlyDelays, .ref a_i_lateSlopes, .ref a_i_earlySlopes, .ref a_i_lateArrivals, .ref a_i_earlyArrivals])), (o_n, .inr (1, [.int f_n_cells, .ref a_n_kinds, .ref a_n_inputs, .ref a_n_tables, .ref a_n_sizes, .ref a_n_extras, .ref a_n_sources, .ref a_n_takers, .ref a_n_firstTaker, .ref a_n_order, .int f_n_ordered, .ref a_n_tally, .ref a_n_behind])), (a_n_tables, aI E 50 g_n_tables), (a_n_sizes, aI E 50 g_n_sizes), (o_t, .inr (5, [.ref a_t_numbers, .ref a_t_lefts, .ref a_t_falls, .int f_t_lateCorner, .int f_t_earlyCorner])), (a_t_lefts, aI E 64 g_t_lefts), (a_t_numbers, aI E 192 g_t_numbers), (a_i_lateDelays, aI E 400 g_i_lateDelays), (a_i_earlyDelays, aI E 400 g_i_earlyDelays), (a_i_lateSlopes, aI E 100 g_i_lateSlopes), (a_i_earlySlopes, aI E 100 g_i_earlySlopes), (a_t_falls, aI E 8 g_t_falls)] H := by rw [hHe]; exact hP
  refine W_hl hHe hle ?_
  clear hHe hle
  refine lv_iload_n hx hb dX6_timeArc_0 rfl (lv_at hl 1 rfl) ?_
  refine lv_iconst (v := 4) hx hb dX6_timeArc_1 (by decide) ?_
  have b_p1 := r_p1.out
  refine lv_idiv hx hb dX6_timeArc_2 (by decide) ?_
  refine lv_topi (fun x_1 ex_1 => ?_)
  have tx_1 : x_1.toInt = p1.toInt / 4 := i3_divc rfl rfl ex_1 (by omega) (by decide)
  refine lv_istore (lv' := [(6, .int x_1), (0, .ref o_i), (1, .int p1), (2, .int p2), (3, .int p3), (4, .int p4), (5, .int p5)]) hx hb dX6_timeArc_3 hl (by decide) rfl (fun ls hl => ?_)
  refine lv_aload_n hx hb dX6_timeArc_5 rfl (lv_at hl 1 rfl) ?_
  refine va_get (D := E.1) (ci := 6) (v := .ref o_n) (own := RX6) (C := RX6) (T := TX6) (N := 12) hx hb hts i_q_timeArc_X6 hown hK hP 0 rfl rfl 0 (by decide) (hto (.fieldLink RX6 37 "TimingHouse$Timing" "net" "LTimingHouse$Net;") (by decide +kernel)) (fun _ h9 => h9) rfl dX6_timeArc_6 ?_
  refine va_getN (D := E.1) (ci := 1) (v := .ref a_n_tables) (own := RX6) (ref := "TimingHouse$Net") (host := "TimingHouse") (C := RX1) (T := TX1) (N := 13) hx hb hts i_q_timeArc_X1 hown hK hP 1 rfl rfl 3 (by decide) (nw_F hN 11 rfl) (fun _ h9 => h9) rfl dX6_timeArc_9 ?_
  refine lv_iload hx hb dX6_timeArc_12 (lv_at hl 0 rfl) ?_
  refine ld_i hx hb hK hP 2 rfl (by omega) dX6_timeArc_14 (fun x_2 ex_2 => ?_)
  have b_x_2 := AR.rd i_g_n_tables ex_2 (by omega)
  refine lv_istore (lv' := [(7, .int x_2), (6, .int x_1), (0, .ref o_i), (1, .int p1), (2, .int p2), (3, .int p3), (4, .int p4), (5, .int p5)]) hx hb dX6_timeArc_15 hl (by decide) rfl (fun ls hl => ?_)
  refine lv_iconst (v := 1) hx hb dX6_timeArc_17 (by decide) ?_
  refine lv_aload_n hx hb dX6_timeArc_18 rfl (lv_at hl 2 rfl) ?_
  refine va_get (D := E.1) (ci := 6) (v := .ref o_n) (own := RX6) (C := RX6) (T := TX6) (N := 12) hx hb hts i_q_timeArc_X6 hown hK hP 0 rfl rfl 0 (by decide) (hto (.fieldLink RX6 37 "TimingHouse$Timing" "net" "LTimingHouse$Net;") (by decide +kernel)) (fun _ h9 => h9) rfl dX6_timeArc_19 ?_
  refine va_getN (D := E.1) (ci := 1) (v := .ref a_n_sizes) (own := RX6) (ref := "TimingHouse$Net") (host := "TimingHouse") (C := RX1) (T := TX1) (N := 13) hx hb hts i_q_timeArc_X1 hown hK hP 1 rfl rfl 4 (by decide) (nw_F hN 13 rfl) (fun _ h9 => h9) rfl dX6_timeArc_22 ?_
  refine lv_iload hx hb dX6_timeArc_25 (lv_at hl 1 rfl) ?_
  refine ld_i hx hb hK hP 3 rfl (by omega) dX6_timeArc_27 (fun x_3 ex_3 => ?_)
  have b_x_3 := AR.rd i_g_n_sizes ex_3 (by omega)
  refine lv_iadd hx hb dX6_timeArc_28 ?_
  refine lv_topi (fun x_4 ex_4 => ?_)
  have tx_4 : x_4.toInt = 1 + x_3.toInt := i3_addc rfl rfl ex_4 (by omega)
  refine lv_istore (lv' := [(8, .int x_4), (7, .int x_2), (6, .int x_1), (0, .ref o_i), (1, .int p1), (2, .int p2), (3, .int p3), (4, .int p4), (5, .int p5)]) hx hb dX6_timeArc_29 hl (by decide) rfl (fun ls hl => ?_)
  refine lv_iload_n hx hb dX6_timeArc_31 rfl (lv_at hl 6 rfl) ?_
  refine lv_iload hx hb dX6_timeArc_32 (lv_at hl 0 rfl) ?_
  refine lv_iadd hx hb dX6_timeArc_34 ?_
  refine lv_topi (fun x_5 ex_5 => ?_)
  have bd_6 := i3_bd p3
  refine lv_iconst (v := 1) hx hb dX6_timeArc_35 (by decide) ?_
  refine lv_isub hx hb dX6_timeArc_36 ?_
  refine lv_topi (fun x_7 ex_7 => ?_)
  have bd_8 := i3_bd x_5
  refine lv_iload hx hb dX6_timeArc_37 (lv_at hl 0 rfl) ?_
  refine lv_idiv hx hb dX6_timeArc_39 (i3_nz (by omega)) ?_
  refine lv_topi (fun x_9 ex_9 => ?_)
  have bd_10 := i3_bd x_7
  refine lv_istore (lv' := [(9, .int x_9), (8, .int x_4), (7, .int x_2), (6, .int x_1), (0, .ref o_i), (1, .int p1), (2, .int p2), (3, .int p3), (4, .int p4), (5, .int p5)]) hx hb dX6_timeArc_40 hl (by decide) rfl (fun ls hl => ?_)
  refine lv_iload_n hx hb dX6_timeArc_42 rfl (lv_at hl 7 rfl) ?_
  refine lv_iload hx hb dX6_timeArc_43 (lv_at hl 1 rfl) ?_
  refine lv_idiv hx hb dX6_timeArc_45 (i3_nz (by omega)) ?_
  refine lv_topi (fun x_11 ex_11 => ?_)
  have bd_12 := i3_bd p3
  refine lv_istore (lv' := [(10, .int x_11), (9, .int x_9), (8, .int x_4), (7, .int x_2), (6, .int x_1), (0, .ref o_i), (1, .int p1), (2, .int p2), (3, .int p3), (4, .int p4), (5, .int p5)]) hx hb dX6_timeArc_46 hl (by decide) rfl (fun ls hl => ?_)
  refine lv_aload_n hx hb dX6_timeArc_48 rfl (lv_at hl 5 rfl) ?_
  refine va_get (D := E.1) (ci := 6) (v := .ref o_t) (own := RX6) (C := RX6) (T := TX6) (N := 12) hx hb hts i_q_timeArc_X6 hown hK hP 0 rfl rfl 3 (by decide) (hto (.fieldLink RX6 49 "TimingHouse$Timing" "tables" "LTimingHouse$Tables;") (by decide +kernel)) (fun _ h9 => h9) rfl dX6_timeArc_49 ?_
  refine lv_iload hx hb dX6_timeArc_52 (lv_at hl 3 rfl) ?_
  refine lv_iconst (v := 0) hx hb dX6_timeArc_54 (by decide) ?_
  refine lv_iload hx hb dX6_timeArc_55 (lv_at hl 1 rfl) ?_
  refine lv_iload hx hb dX6_timeArc_57 (lv_at hl 9 rfl) ?_
  refine lv_iconst (v := 1) hx hb dX6_timeArc_59 (by decide) ?_
  refine call_i (va_runV (As := [.int x_2, .int 0, .int x_9, .int p4, .int 1]) (rest := []) ⟨hx, hb, hml, hown, hts⟩ (q_lookUp l E o_t a_t_numbers a_t_lefts a_t_falls f_t_lateCorner f_t_earlyCorner x_2 0 x_9 p4 1 g_t_lefts g_t_numbers r_f_t_lateCorner r_f_t_earlyCorner i_g_t_lefts i_g_t_numbers (RG.mk (by omega)) (RG.mk (by decide)) (RG.mk (by decide)) H.size) (cwV 5 hts g_q_timeArc_q_lookUp_140 rfl rfl rfl (by decide +kernel) ⟨Nat.le_of_ble_eq_true rfl, Nat.le_of_ble_eq_true rfl⟩) (pre_V hK hN hZ hS (va_free hD hS hA [4, 5, 6] rfl) (hP.sub (ws' := [(o_t, .inr (5, [.ref a_t_numbers, .ref a_t_lefts, .ref a_t_falls, .int f_t_lateCorner, .int f_t_earlyCorner])), (a_t_lefts, aI E 64 g_t_lefts), (a_t_numbers, aI E 192 g_t_numbers)]) [4, 5, 6] rfl) (hD.sub (ws' := [(o_t, .inr (5, [.ref a_t_numbers, .ref a_t_lefts, .ref a_t_falls, .int f_t_lateCorner, .int f_t_earlyCorner])), (a_t_lefts, aI E 64 g_t_lefts), (a_t_numbers, aI E 192 g_t_numbers)]) [4, 5, 6] (by decide) rfl) (ci := 5) (q0 := 0) rfl rfl) rfl rfl hl.1 rfl (lv_room (Nat.le_of_ble_eq_true rfl)) dX6_timeArc_60 ⟨Nat.le_of_ble_eq_true rfl, Nat.le_of_ble_eq_true rfl⟩) hP hD hS hA [4, 5, 6] [0, 1, 2, 3, 7, 8, 9, 10, 11] (wr := [(o_i, .inr (6, [.ref o_n, .ref o_z, .ref o_k, .ref o_t, .ref a_i_reached, .ref a_i_open, .ref a_i_lateDelays, .ref a_i_earlyDelays, .ref a_i_lateSlopes, .ref a_i_earlySlopes, .ref a_i_lateArrivals, .ref a_i_earlyArrivals])), (o_n, .inr (1, [.int f_n_cells, .ref a_n_kinds, .ref a_n_inputs, .ref a_n_tables, .ref a_n_sizes, .ref a_n_extras, .ref a_n_sources, .ref a_n_takers, .ref a_n_firstTaker, .ref a_n_order, .int f_n_ordered, .ref a_n_tally, .ref a_n_behind])), (a_n_tables, aI E 50 g_n_tables), (a_n_sizes, aI E 50 g_n_sizes), (a_i_lateDelays, aI E 400 g_i_lateDelays), (a_i_earlyDelays, aI E 400 g_i_earlyDelays), (a_i_lateSlopes, aI E 100 g_i_lateSlopes), (a_i_earlySlopes, aI E 100 g_i_earlySlopes), (a_t_falls, aI E 8 g_t_falls)]) rfl rfl (by decide) (by decide) (fun r_13 w H locs hw hP hD hS => ?_)
  obtain ⟨b_r_13, rfl⟩ := hw
  replace hP : va_P E.1 vwCl [(o_i, .inr (6, [.ref o_n, .ref o_z, .ref o_k, .ref o_t, .ref a_i_reached, .ref a_i_open, .ref a_i_lateDelays, .ref a_i_earlyDelays, .ref a_i_lateSlopes, .ref a_i_earlySlopes, .ref a_i_lateArrivals, .ref a_i_earlyArrivals])), (o_n, .inr (1, [.int f_n_cells, .ref a_n_kinds, .ref a_n_inputs, .ref a_n_tables, .ref a_n_sizes, .ref a_n_extras, .ref a_n_sources, .ref a_n_takers, .ref a_n_firstTaker, .ref a_n_order, .int f_n_ordered, .ref a_n_tally, .ref a_n_behind])), (a_n_tables, aI E 50 g_n_tables), (a_n_sizes, aI E 50 g_n_sizes), (a_i_lateDelays, aI E 400 g_i_lateDelays), (a_i_earlyDelays, aI E 400 g_i_earlyDelays), (a_i_lateSlopes, aI E 100 g_i_lateSlopes), (a_i_earlySlopes, aI E 100 g_i_earlySlopes), (a_t_falls, aI E 8 g_t_falls), (o_t, .inr (5, [.ref a_t_numbers, .ref a_t_lefts, .ref a_t_falls, .int f_t_lateCorner, .int f_t_earlyCorner])), (a_t_lefts, aI E 64 g_t_lefts), (a_t_numbers, aI E 192 g_t_numbers)] H := hP
  replace hD : va_D A [(o_i, .inr (6, [.ref o_n, .ref o_z, .ref o_k, .ref o_t, .ref a_i_reached, .ref a_i_open, .ref a_i_lateDelays, .ref a_i_earlyDelays, .ref a_i_lateSlopes, .ref a_i_earlySlopes, .ref a_i_lateArrivals, .ref a_i_earlyArrivals])), (o_n, .inr (1, [.int f_n_cells, .ref a_n_kinds, .ref a_n_inputs, .ref a_n_tables, .ref a_n_sizes, .ref a_n_extras, .ref a_n_sources, .ref a_n_takers, .ref a_n_firstTaker, .ref a_n_order, .int f_n_ordered, .ref a_n_tally, .ref a_n_behind])), (a_n_tables, aI E 50 g_n_tables), (a_n_sizes, aI E 50 g_n_sizes), (a_i_lateDelays, aI E 400 g_i_lateDelays), (a_i_earlyDelays, aI E 400 g_i_earlyDelays), (a_i_lateSlopes, aI E 100 g_i_lateSlopes), (a_i_earlySlopes, aI E 100 g_i_earlySlopes), (a_t_falls, aI E 8 g_t_falls), (o_t, .inr (5, [.ref a_t_numbers, .ref a_t_lefts, .ref a_t_falls, .int f_t_lateCorner, .int f_t_earlyCorner])), (a_t_lefts, aI E 64 g_t_lefts), (a_t_numbers, aI E 192 g_t_numbers)] := hD
  refine lv_istore (lv' := [(11, .int r_13), (10, .int x_11), (9, .int x_9), (8, .int x_4), (7, .int x_2), (6, .int x_1), (0, .ref o_i), (1, .int p1), (2, .int p2), (3, .int p3), (4, .int p4), (5, .int p5)]) hx hb dX6_timeArc_63 hl (by decide) rfl (fun ls hl => ?_)
  refine lv_iload hx hb dX6_timeArc_65 (lv_at hl 0 rfl) ?_
  refine lv_if_ge (tgt := 73) hx hb dX6_timeArc_67 (by decide) (fun c_14 => ?_) (fun c_14 => ?_)
  · have e_14 : 0 ≤ r_13.toInt := i3_le c_14
    refine lv_aload_n hx hb dX6_timeArc_73 rfl (lv_at hl 6 rfl) ?_
    refine va_get (D := E.1) (ci := 6) (v := .ref o_t) (own := RX6) (C := RX6) (T := TX6) (N := 12) hx hb hts i_q_timeArc_X6 hown hK hP 0 rfl rfl 3 (by decide) (hto (.fieldLink RX6 49 "TimingHouse$Timing" "tables" "LTimingHouse$Tables;") (by decide +kernel)) (fun _ h9 => h9) rfl dX6_timeArc_74 ?_
    refine lv_iload hx hb dX6_timeArc_77 (lv_at hl 4 rfl) ?_
    refine lv_iconst (v := 1) hx hb dX6_timeArc_79 (by decide) ?_
    refine lv_iload hx hb dX6_timeArc_80 (lv_at hl 2 rfl) ?_
    refine lv_iload hx hb dX6_timeArc_82 (lv_at hl 10 rfl) ?_
    refine lv_iconst (v := 1) hx hb dX6_timeArc_84 (by decide) ?_
    refine call_i (va_runV (As := [.int x_2, .int 1, .int x_9, .int p4, .int 1]) (rest := []) ⟨hx, hb, hml, hown, hts⟩ (q_lookUp l E o_t a_t_numbers a_t_lefts a_t_falls f_t_lateCorner f_t_earlyCorner x_2 1 x_9 p4 1 g_t_lefts g_t_numbers r_f_t_lateCorner r_f_t_earlyCorner i_g_t_lefts i_g_t_numbers (RG.mk (by omega)) (RG.mk (by decide)) (RG.mk (by decide)) H.size) (cwV 5 hts g_q_timeArc_q_lookUp_140 rfl rfl rfl (by decide +kernel) ⟨Nat.le_of_ble_eq_true rfl, Nat.le_of_ble_eq_true rfl⟩) (pre_V hK hN hZ hS (va_free hD hS hA [9, 10, 11] rfl) (hP.sub (ws' := [(o_t, .inr (5, [.ref a_t_numbers, .ref a_t_lefts, .ref a_t_falls, .int f_t_lateCorner, .int f_t_earlyCorner])), (a_t_lefts, aI E 64 g_t_lefts), (a_t_numbers, aI E 192 g_t_numbers)]) [9, 10, 11] rfl) (hD.sub (ws' := [(o_t, .inr (5, [.ref a_t_numbers, .ref a_t_lefts, .ref a_t_falls, .int f_t_lateCorner, .int f_t_earlyCorner])), (a_t_lefts, aI E 64 g_t_lefts), (a_t_numbers, aI E 192 g_t_numbers)]) [9, 10, 11] (by decide) rfl) (ci := 5) (q0 := 0) rfl rfl) rfl rfl hl.1 rfl (lv_room (Nat.le_of_ble_eq_true rfl)) dX6_timeArc_85 ⟨Nat.le_of_ble_eq_true rfl, Nat.le_of_ble_eq_true rfl⟩) hP hD hS hA [9, 10, 11] [0, 1, 2, 3, 4, 5, 6, 7, 8] (wr := [(o_i, .inr (6, [.ref o_n, .ref o_z, .ref o_k, .ref o_t, .ref a_i_reached, .ref a_i_open, .ref a_i_lateDelays, .ref a_i_earlyDelays, .ref a_i_lateSlopes, .ref a_i_earlySlopes, .ref a_i_lateArrivals, .ref a_i_earlyArrivals])), (o_n, .inr (1, [.int f_n_cells, .ref a_n_kinds, .ref a_n_inputs, .ref a_n_tables, .ref a_n_sizes, .ref a_n_extras, .ref a_n_sources, .ref a_n_takers, .ref a_n_firstTaker, .ref a_n_order, .int f_n_ordered, .ref a_n_tally, .ref a_n_behind])), (a_n_tables, aI E 50 g_n_tables), (a_n_sizes, aI E 50 g_n_sizes), (a_i_lateDelays, aI E 400 g_i_lateDelays), (a_i_earlyDelays, aI E 400 g_i_earlyDelays), (a_i_lateSlopes, aI E 100 g_i_lateSlopes), (a_i_earlySlopes, aI E 100 g_i_earlySlopes), (a_t_falls, aI E 8 g_t_falls)]) rfl rfl (by decide) (by decide) (fun r_15 w H locs hw hP hD hS => ?_)
    obtain ⟨b_r_15, rfl⟩ := hw
    replace hP : va_P E.1 vwCl [(o_i, .inr (6, [.ref o_n, .ref o_z, .ref o_k, .ref o_t, .ref a_i_reached, .ref a_i_open, .ref a_i_lateDelays, .ref a_i_earlyDelays, .ref a_i_lateSlopes, .ref a_i_earlySlopes, .ref a_i_lateArrivals, .ref a_i_earlyArrivals])), (o_n, .inr (1, [.int f_n_cells, .ref a_n_kinds, .ref a_n_inputs, .ref a_n_tables, .ref a_n_sizes, .ref a_n_extras, .ref a_n_sources, .ref a_n_takers, .ref a_n_firstTaker, .ref a_n_order, .int f_n_ordered, .ref a_n_tally, .ref a_n_behind])), (a_n_tables, aI E 50 g_n_tables), (a_n_sizes, aI E 50 g_n_sizes), (a_i_lateDelays, aI E 400 g_i_lateDelays), (a_i_earlyDelays, aI E 400 g_i_earlyDelays), (a_i_lateSlopes, aI E 100 g_i_lateSlopes), (a_i_earlySlopes, aI E 100 g_i_earlySlopes), (a_t_falls, aI E 8 g_t_falls), (o_t, .inr (5, [.ref a_t_numbers, .ref a_t_lefts, .ref a_t_falls, .int f_t_lateCorner, .int f_t_earlyCorner])), (a_t_lefts, aI E 64 g_t_lefts), (a_t_numbers, aI E 192 g_t_numbers)] H := hP
    replace hD : va_D A [(o_i, .inr (6, [.ref o_n, .ref o_z, .ref o_k, .ref o_t, .ref a_i_reached, .ref a_i_open, .ref a_i_lateDelays, .ref a_i_earlyDelays, .ref a_i_lateSlopes, .ref a_i_earlySlopes, .ref a_i_lateArrivals, .ref a_i_earlyArrivals])), (o_n, .inr (1, [.int f_n_cells, .ref a_n_kinds, .ref a_n_inputs, .ref a_n_tables, .ref a_n_sizes, .ref a_n_extras, .ref a_n_sources, .ref a_n_takers, .ref a_n_firstTaker, .ref a_n_order, .int f_n_ordered, .ref a_n_tally, .ref a_n_behind])), (a_n_tables, aI E 50 g_n_tables), (a_n_sizes, aI E 50 g_n_sizes), (a_i_lateDelays, aI E 400 g_i_lateDelays), (a_i_earlyDelays, aI E 400 g_i_earlyDelays), (a_i_lateSlopes, aI E 100 g_i_lateSlopes), (a_i_earlySlopes, aI E 100 g_i_earlySlopes), (a_t_falls, aI E 8 g_t_falls), (o_t, .inr (5, [.ref a_t_numbers, .ref a_t_lefts, .ref a_t_falls, .int f_t_lateCorner, .int f_t_earlyCorner])), (a_t_lefts, aI E 64 g_t_lefts), (a_t_numbers, aI E 192 g_t_numbers)] := hD
    refine lv_istore (lv' := [(12, .int r_15), (11, .int r_13), (10, .int x_11), (9, .int x_9), (8, .int x_4), (7, .int x_2), (6, .int x_1), (0, .ref o_i), (1, .int p1), (2, .int p2), (3, .int p3), (4, .int p4), (5, .int p5)]) hx hb dX6_timeArc_88 hl (by decide) rfl (fun ls hl => ?_)
    refine lv_iload hx hb dX6_timeArc_90 (lv_at hl 0 rfl) ?_
    refine lv_if_ge (tgt := 98) hx hb dX6_timeArc_92 (by decide) (fun c_16 => ?_) (fun c_16 => ?_)
    · have e_16 : 0 ≤ r_15.toInt := i3_le c_16
      refine lv_aload_n hx hb dX6_timeArc_98 rfl (lv_at hl 7 rfl) ?_
      refine va_get (D := E.1) (ci := 6) (v := .ref o_t) (own := RX6) (C := RX6) (T := TX6) (N := 12) hx hb hts i_q_timeArc_X6 hown hK hP 0 rfl rfl 3 (by decide) (hto (.fieldLink RX6 49 "TimingHouse$Timing" "tables" "LTimingHouse$Tables;") (by decide +kernel)) (fun _ h9 => h9) rfl dX6_timeArc_99 ?_
      refine lv_iload hx hb dX6_timeArc_102 (lv_at hl 5 rfl) ?_
      refine lv_iconst (v := 0) hx hb dX6_timeArc_104 (by decide) ?_
      refine lv_iload hx hb dX6_timeArc_105 (lv_at hl 2 rfl) ?_
      refine lv_iload hx hb dX6_timeArc_107 (lv_at hl 12 rfl) ?_
      refine lv_iconst (v := 0) hx hb dX6_timeArc_109 (by decide) ?_
      refine call_i (va_runV (As := [.int x_2, .int 0, .int x_11, .int p5, .int 0]) (rest := []) ⟨hx, hb, hml, hown, hts⟩ (q_lookUp l E o_t a_t_numbers a_t_lefts a_t_falls f_t_lateCorner f_t_earlyCorner x_2 0 x_11 p5 0 g_t_lefts g_t_numbers r_f_t_lateCorner r_f_t_earlyCorner i_g_t_lefts i_g_t_numbers (RG.mk (by omega)) (RG.mk (by decide)) (RG.mk (by decide)) H.size) (cwV 5 hts g_q_timeArc_q_lookUp_140 rfl rfl rfl (by decide +kernel) ⟨Nat.le_of_ble_eq_true rfl, Nat.le_of_ble_eq_true rfl⟩) (pre_V hK hN hZ hS (va_free hD hS hA [9, 10, 11] rfl) (hP.sub (ws' := [(o_t, .inr (5, [.ref a_t_numbers, .ref a_t_lefts, .ref a_t_falls, .int f_t_lateCorner, .int f_t_earlyCorner])), (a_t_lefts, aI E 64 g_t_lefts), (a_t_numbers, aI E 192 g_t_numbers)]) [9, 10, 11] rfl) (hD.sub (ws' := [(o_t, .inr (5, [.ref a_t_numbers, .ref a_t_lefts, .ref a_t_falls, .int f_t_lateCorner, .int f_t_earlyCorner])), (a_t_lefts, aI E 64 g_t_lefts), (a_t_numbers, aI E 192 g_t_numbers)]) [9, 10, 11] (by decide) rfl) (ci := 5) (q0 := 0) rfl rfl) rfl rfl hl.1 rfl (lv_room (Nat.le_of_ble_eq_true rfl)) dX6_timeArc_110 ⟨Nat.le_of_ble_eq_true rfl, Nat.le_of_ble_eq_true rfl⟩) hP hD hS hA [9, 10, 11] [0, 1, 2, 3, 4, 5, 6, 7, 8] (wr := [(o_i, .inr (6, [.ref o_n, .ref o_z, .ref o_k, .ref o_t, .ref a_i_reached, .ref a_i_open, .ref a_i_lateDelays, .ref a_i_earlyDelays, .ref a_i_lateSlopes, .ref a_i_earlySlopes, .ref a_i_lateArrivals, .ref a_i_earlyArrivals])), (o_n, .inr (1, [.int f_n_cells, .ref a_n_kinds, .ref a_n_inputs, .ref a_n_tables, .ref a_n_sizes, .ref a_n_extras, .ref a_n_sources, .ref a_n_takers, .ref a_n_firstTaker, .ref a_n_order, .int f_n_ordered, .ref a_n_tally, .ref a_n_behind])), (a_n_tables, aI E 50 g_n_tables), (a_n_sizes, aI E 50 g_n_sizes), (a_i_lateDelays, aI E 400 g_i_lateDelays), (a_i_earlyDelays, aI E 400 g_i_earlyDelays), (a_i_lateSlopes, aI E 100 g_i_lateSlopes), (a_i_earlySlopes, aI E 100 g_i_earlySlopes), (a_t_falls, aI E 8 g_t_falls)]) rfl rfl (by decide) (by decide) (fun r_17 w H locs hw hP hD hS => ?_)
      obtain ⟨b_r_17, rfl⟩ := hw
      replace hP : va_P E.1 vwCl [(o_i, .inr (6, [.ref o_n, .ref o_z, .ref o_k, .ref o_t, .ref a_i_reached, .ref a_i_open, .ref a_i_lateDelays, .ref a_i_earlyDelays, .ref a_i_lateSlopes, .ref a_i_earlySlopes, .ref a_i_lateArrivals, .ref a_i_earlyArrivals])), (o_n, .inr (1, [.int f_n_cells, .ref a_n_kinds, .ref a_n_inputs, .ref a_n_tables, .ref a_n_sizes, .ref a_n_extras, .ref a_n_sources, .ref a_n_takers, .ref a_n_firstTaker, .ref a_n_order, .int f_n_ordered, .ref a_n_tally, .ref a_n_behind])), (a_n_tables, aI E 50 g_n_tables), (a_n_sizes, aI E 50 g_n_sizes), (a_i_lateDelays, aI E 400 g_i_lateDelays), (a_i_earlyDelays, aI E 400 g_i_earlyDelays), (a_i_lateSlopes, aI E 100 g_i_lateSlopes), (a_i_earlySlopes, aI E 100 g_i_earlySlopes), (a_t_falls, aI E 8 g_t_falls), (o_t, .inr (5, [.ref a_t_numbers, .ref a_t_lefts, .ref a_t_falls, .int f_t_lateCorner, .int f_t_earlyCorner])), (a_t_lefts, aI E 64 g_t_lefts), (a_t_numbers, aI E 192 g_t_numbers)] H := hP
      replace hD : va_D A [(o_i, .inr (6, [.ref o_n, .ref o_z, .ref o_k, .ref o_t, .ref a_i_reached, .ref a_i_open, .ref a_i_lateDelays, .ref a_i_earlyDelays, .ref a_i_lateSlopes, .ref a_i_earlySlopes, .ref a_i_lateArrivals, .ref a_i_earlyArrivals])), (o_n, .inr (1, [.int f_n_cells, .ref a_n_kinds, .ref a_n_inputs, .ref a_n_tables, .ref a_n_sizes, .ref a_n_extras, .ref a_n_sources, .ref a_n_takers, .ref a_n_firstTaker, .ref a_n_order, .int f_n_ordered, .ref a_n_tally, .ref a_n_behind])), (a_n_tables, aI E 50 g_n_tables), (a_n_sizes, aI E 50 g_n_sizes), (a_i_lateDelays, aI E 400 g_i_lateDelays), (a_i_earlyDelays, aI E 400 g_i_earlyDelays), (a_i_lateSlopes, aI E 100 g_i_lateSlopes), (a_i_earlySlopes, aI E 100 g_i_earlySlopes), (a_t_falls, aI E 8 g_t_falls), (o_t, .inr (5, [.ref a_t_numbers, .ref a_t_lefts, .ref a_t_falls, .int f_t_lateCorner, .int f_t_earlyCorner])), (a_t_lefts, aI E 64 g_t_lefts), (a_t_numbers, aI E 192 g_t_numbers)] := hD
      refine lv_istore (lv' := [(13, .int r_17), (12, .int r_15), (11, .int r_13), (10, .int x_11), (9, .int x_9), (8, .int x_4), (7, .int x_2), (6, .int x_1), (0, .ref o_i), (1, .int p1), (2, .int p2), (3, .int p3), (4, .int p4), (5, .int p5)]) hx hb dX6_timeArc_113 hl (by decide) rfl (fun ls hl => ?_)
      refine lv_iload hx hb dX6_timeArc_115 (lv_at hl 0 rfl) ?_
      refine lv_if_ge (tgt := 123) hx hb dX6_timeArc_117 (by decide) (fun c_18 => ?_) (fun c_18 => ?_)
      · have e_18 : 0 ≤ r_17.toInt := i3_le c_18
        refine lv_aload_n hx hb dX6_timeArc_123 rfl (lv_at hl 8 rfl) ?_
        refine va_get (D := E.1) (ci := 6) (v := .ref o_t) (own := RX6) (C := RX6) (T := TX6) (N := 12) hx hb hts i_q_timeArc_X6 hown hK hP 0 rfl rfl 3 (by decide) (hto (.fieldLink RX6 49 "TimingHouse$Timing" "tables" "LTimingHouse$Tables;") (by decide +kernel)) (fun _ h9 => h9) rfl dX6_timeArc_124 ?_
        refine lv_iload hx hb dX6_timeArc_127 (lv_at hl 6 rfl) ?_
        refine lv_iconst (v := 1) hx hb dX6_timeArc_129 (by decide) ?_
        refine lv_iload hx hb dX6_timeArc_130 (lv_at hl 3 rfl) ?_
        refine lv_iload hx hb dX6_timeArc_132 (lv_at hl 13 rfl) ?_
        refine lv_iconst (v := 0) hx hb dX6_timeArc_134 (by decide) ?_
        refine call_i (va_runV (As := [.int x_2, .int 1, .int x_11, .int p5, .int 0]) (rest := []) ⟨hx, hb, hml, hown, hts⟩ (q_lookUp l E o_t a_t_numbers a_t_lefts a_t_falls f_t_lateCorner f_t_earlyCorner x_2 1 x_11 p5 0 g_t_lefts g_t_numbers r_f_t_lateCorner r_f_t_earlyCorner i_g_t_lefts i_g_t_numbers (RG.mk (by omega)) (RG.mk (by decide)) (RG.mk (by decide)) H.size) (cwV 5 hts g_q_timeArc_q_lookUp_140 rfl rfl rfl (by decide +kernel) ⟨Nat.le_of_ble_eq_true rfl, Nat.le_of_ble_eq_true rfl⟩) (pre_V hK hN hZ hS (va_free hD hS hA [9, 10, 11] rfl) (hP.sub (ws' := [(o_t, .inr (5, [.ref a_t_numbers, .ref a_t_lefts, .ref a_t_falls, .int f_t_lateCorner, .int f_t_earlyCorner])), (a_t_lefts, aI E 64 g_t_lefts), (a_t_numbers, aI E 192 g_t_numbers)]) [9, 10, 11] rfl) (hD.sub (ws' := [(o_t, .inr (5, [.ref a_t_numbers, .ref a_t_lefts, .ref a_t_falls, .int f_t_lateCorner, .int f_t_earlyCorner])), (a_t_lefts, aI E 64 g_t_lefts), (a_t_numbers, aI E 192 g_t_numbers)]) [9, 10, 11] (by decide) rfl) (ci := 5) (q0 := 0) rfl rfl) rfl rfl hl.1 rfl (lv_room (Nat.le_of_ble_eq_true rfl)) dX6_timeArc_135 ⟨Nat.le_of_ble_eq_true rfl, Nat.le_of_ble_eq_true rfl⟩) hP hD hS hA [9, 10, 11] [0, 1, 2, 3, 4, 5, 6, 7, 8] (wr := [(o_i, .inr (6, [.ref o_n, .ref o_z, .ref o_k, .ref o_t, .ref a_i_reached, .ref a_i_open, .ref a_i_lateDelays, .ref a_i_earlyDelays, .ref a_i_lateSlopes, .ref a_i_earlySlopes, .ref a_i_lateArrivals, .ref a_i_earlyArrivals])), (o_n, .inr (1, [.int f_n_cells, .ref a_n_kinds, .ref a_n_inputs, .ref a_n_tables, .ref a_n_sizes, .ref a_n_extras, .ref a_n_sources, .ref a_n_takers, .ref a_n_firstTaker, .ref a_n_order, .int f_n_ordered, .ref a_n_tally, .ref a_n_behind])), (a_n_tables, aI E 50 g_n_tables), (a_n_sizes, aI E 50 g_n_sizes), (a_i_lateDelays, aI E 400 g_i_lateDelays), (a_i_earlyDelays, aI E 400 g_i_earlyDelays), (a_i_lateSlopes, aI E 100 g_i_lateSlopes), (a_i_earlySlopes, aI E 100 g_i_earlySlopes), (a_t_falls, aI E 8 g_t_falls)]) rfl rfl (by decide) (by decide) (fun r_19 w H locs hw hP hD hS => ?_)
        obtain ⟨b_r_19, rfl⟩ := hw
        replace hP : va_P E.1 vwCl [(o_i, .inr (6, [.ref o_n, .ref o_z, .ref o_k, .ref o_t, .ref a_i_reached, .ref a_i_open, .ref a_i_lateDelays, .ref a_i_earlyDelays, .ref a_i_lateSlopes, .ref a_i_earlySlopes, .ref a_i_lateArrivals, .ref a_i_earlyArrivals])), (o_n, .inr (1, [.int f_n_cells, .ref a_n_kinds, .ref a_n_inputs, .ref a_n_tables, .ref a_n_sizes, .ref a_n_extras, .ref a_n_sources, .ref a_n_takers, .ref a_n_firstTaker, .ref a_n_order, .int f_n_ordered, .ref a_n_tally, .ref a_n_behind])), (a_n_tables, aI E 50 g_n_tables), (a_n_sizes, aI E 50 g_n_sizes), (a_i_lateDelays, aI E 400 g_i_lateDelays), (a_i_earlyDelays, aI E 400 g_i_earlyDelays), (a_i_lateSlopes, aI E 100 g_i_lateSlopes), (a_i_earlySlopes, aI E 100 g_i_earlySlopes), (a_t_falls, aI E 8 g_t_falls), (o_t, .inr (5, [.ref a_t_numbers, .ref a_t_lefts, .ref a_t_falls, .int f_t_lateCorner, .int f_t_earlyCorner])), (a_t_lefts, aI E 64 g_t_lefts), (a_t_numbers, aI E 192 g_t_numbers)] H := hP
        replace hD : va_D A [(o_i, .inr (6, [.ref o_n, .ref o_z, .ref o_k, .ref o_t, .ref a_i_reached, .ref a_i_open, .ref a_i_lateDelays, .ref a_i_earlyDelays, .ref a_i_lateSlopes, .ref a_i_earlySlopes, .ref a_i_lateArrivals, .ref a_i_earlyArrivals])), (o_n, .inr (1, [.int f_n_cells, .ref a_n_kinds, .ref a_n_inputs, .ref a_n_tables, .ref a_n_sizes, .ref a_n_extras, .ref a_n_sources, .ref a_n_takers, .ref a_n_firstTaker, .ref a_n_order, .int f_n_ordered, .ref a_n_tally, .ref a_n_behind])), (a_n_tables, aI E 50 g_n_tables), (a_n_sizes, aI E 50 g_n_sizes), (a_i_lateDelays, aI E 400 g_i_lateDelays), (a_i_earlyDelays, aI E 400 g_i_earlyDelays), (a_i_lateSlopes, aI E 100 g_i_lateSlopes), (a_i_earlySlopes, aI E 100 g_i_earlySlopes), (a_t_falls, aI E 8 g_t_falls), (o_t, .inr (5, [.ref a_t_numbers, .ref a_t_lefts, .ref a_t_falls, .int f_t_lateCorner, .int f_t_earlyCorner])), (a_t_lefts, aI E 64 g_t_lefts), (a_t_numbers, aI E 192 g_t_numbers)] := hD
        refine lv_istore (lv' := [(14, .int r_19), (13, .int r_17), (12, .int r_15), (11, .int r_13), (10, .int x_11), (9, .int x_9), (8, .int x_4), (7, .int x_2), (6, .int x_1), (0, .ref o_i), (1, .int p1), (2, .int p2), (3, .int p3), (4, .int p4), (5, .int p5)]) hx hb dX6_timeArc_138 hl (by decide) rfl (fun ls hl => ?_)
        refine lv_iload hx hb dX6_timeArc_140 (lv_at hl 0 rfl) ?_
        refine lv_if_ge (tgt := 148) hx hb dX6_timeArc_142 (by decide) (fun c_20 => ?_) (fun c_20 => ?_)
        · have e_20 : 0 ≤ r_19.toInt := i3_le c_20
          refine lv_iload_n hx hb dX6_timeArc_148 rfl (lv_at hl 11 rfl) ?_
          refine lv_iconst (v := 1) hx hb dX6_timeArc_149 (by decide) ?_
          have b_p2 := r_p2.out
          refine lv_icmp_ne (tgt := 166) hx hb dX6_timeArc_150 (by decide) (fun c_21 => ?_) (fun c_21 => ?_)
          · have e_21 : p2.toInt ≠ 1 := i3_ne c_21
            refine lv_iconst (v := 0) hx hb dX6_timeArc_166 (by decide) ?_
            refine lv_istore (lv' := [(15, .int 0), (14, .int r_19), (13, .int r_17), (12, .int r_15), (11, .int r_13), (10, .int x_11), (9, .int x_9), (8, .int x_4), (7, .int x_2), (6, .int x_1), (0, .ref o_i), (1, .int p1), (2, .int p2), (3, .int p3), (4, .int p4), (5, .int p5)]) hx hb dX6_timeArc_167 hl (by decide) rfl (fun ls hl => ?_)
            refine lv_aload_n hx hb dX6_timeArc_169 rfl (lv_at hl 10 rfl) ?_
            refine va_get (D := E.1) (ci := 6) (v := .ref a_i_lateDelays) (own := RX6) (C := RX6) (T := TX6) (N := 12) hx hb hts i_q_timeArc_X6 hown hK hP 0 rfl rfl 6 (by decide) (hto (.fieldLink RX6 19 "TimingHouse$Timing" "lateDelays" "[I") (by decide +kernel)) (fun _ h9 => h9) rfl dX6_timeArc_170 ?_
            refine lv_iload_n hx hb dX6_timeArc_173 rfl (lv_at hl 11 rfl) ?_
            refine lv_iconst (v := 2) hx hb dX6_timeArc_174 (by decide) ?_
            refine lv_imul hx hb dX6_timeArc_175 ?_
            refine lv_topi (fun x_22 ex_22 => ?_)
            have tx_22 : x_22.toInt = p1.toInt * 2 := i3_mulc rfl rfl ex_22 (by omega)
            refine lv_iload_n hx hb dX6_timeArc_176 rfl (lv_at hl 12 rfl) ?_
            refine lv_iadd hx hb dX6_timeArc_177 ?_
            refine lv_topi (fun x_23 ex_23 => ?_)
            have tx_23 : x_23.toInt = x_22.toInt + p2.toInt := i3_addc rfl rfl ex_23 (by omega)
            refine lv_iload hx hb dX6_timeArc_178 (lv_at hl 4 rfl) ?_
            refine lv_sipush (v := 1000) hx hb dX6_timeArc_180 (by decide) ?_
            refine lv_aload_n hx hb dX6_timeArc_183 rfl (lv_at hl 10 rfl) ?_
            refine va_get (D := E.1) (ci := 6) (v := .ref o_t) (own := RX6) (C := RX6) (T := TX6) (N := 12) hx hb hts i_q_timeArc_X6 hown hK hP 0 rfl rfl 3 (by decide) (hto (.fieldLink RX6 49 "TimingHouse$Timing" "tables" "LTimingHouse$Tables;") (by decide +kernel)) (fun _ h9 => h9) rfl dX6_timeArc_184 ?_
            refine va_getN (D := E.1) (ci := 5) (v := .int f_t_lateCorner) (own := RX6) (ref := "TimingHouse$Tables") (host := "TimingHouse") (C := RX5) (T := TX5) (N := 5) hx hb hts i_q_timeArc_X5 hown hK hP 9 rfl rfl 3 (by decide) (nw_F hN 50 rfl) (fun _ h9 => h9) rfl dX6_timeArc_187 ?_
            have b_f_t_lateCorner := r_f_t_lateCorner.out
            refine lv_iadd hx hb dX6_timeArc_190 ?_
            refine lv_topi (fun x_24 ex_24 => ?_)
            have tx_24 : x_24.toInt = 1000 + f_t_lateCorner.toInt := i3_addc rfl rfl ex_24 (by omega)
            refine lv_imul hx hb dX6_timeArc_191 ?_
            refine lv_topi (fun x_25 ex_25 => ?_)
            refine lv_sipush (v := 999) hx hb dX6_timeArc_192 (by decide) ?_
            refine lv_iadd hx hb dX6_timeArc_195 ?_
            refine lv_topi (fun x_26 ex_26 => ?_)
            have bd_27 := i3_bd x_25
            refine lv_sipush (v := 1000) hx hb dX6_timeArc_196 (by decide) ?_
            refine lv_idiv hx hb dX6_timeArc_199 (by decide) ?_
            refine lv_topi (fun x_28 ex_28 => ?_)
            have bd_29 := i3_bd x_26
            refine lv_iload hx hb dX6_timeArc_200 (lv_at hl 0 rfl) ?_
            refine lv_iadd hx hb dX6_timeArc_202 ?_
            refine lv_topi (fun x_30 ex_30 => ?_)
            have bd_31 := i3_bd x_28
            have tx_30 : x_30.toInt = x_28.toInt + 0 := i3_addc rfl rfl ex_30 (by omega)
            refine st_i hx hb hK hP hD hS 4 rfl (by omega) dX6_timeArc_203 (fun g_32 H locs eg_32 hP hD hS => ?_)
            clear eg_32
            replace hP : va_P E.1 vwCl [(o_i, .inr (6, [.ref o_n, .ref o_z, .ref o_k, .ref o_t, .ref a_i_reached, .ref a_i_open, .ref a_i_lateDelays, .ref a_i_earlyDelays, .ref a_i_lateSlopes, .ref a_i_earlySlopes, .ref a_i_lateArrivals, .ref a_i_earlyArrivals])), (o_n, .inr (1, [.int f_n_cells, .ref a_n_kinds, .ref a_n_inputs, .ref a_n_tables, .ref a_n_sizes, .ref a_n_extras, .ref a_n_sources, .ref a_n_takers, .ref a_n_firstTaker, .ref a_n_order, .int f_n_ordered, .ref a_n_tally, .ref a_n_behind])), (a_n_tables, aI E 50 g_n_tables), (a_n_sizes, aI E 50 g_n_sizes), (a_i_lateDelays, aI E 400 g_32), (a_i_earlyDelays, aI E 400 g_i_earlyDelays), (a_i_lateSlopes, aI E 100 g_i_lateSlopes), (a_i_earlySlopes, aI E 100 g_i_earlySlopes), (a_t_falls, aI E 8 g_t_falls), (o_t, .inr (5, [.ref a_t_numbers, .ref a_t_lefts, .ref a_t_falls, .int f_t_lateCorner, .int f_t_earlyCorner])), (a_t_lefts, aI E 64 g_t_lefts), (a_t_numbers, aI E 192 g_t_numbers)] H := hP
            replace hD : va_D A [(o_i, .inr (6, [.ref o_n, .ref o_z, .ref o_k, .ref o_t, .ref a_i_reached, .ref a_i_open, .ref a_i_lateDelays, .ref a_i_earlyDelays, .ref a_i_lateSlopes, .ref a_i_earlySlopes, .ref a_i_lateArrivals, .ref a_i_earlyArrivals])), (o_n, .inr (1, [.int f_n_cells, .ref a_n_kinds, .ref a_n_inputs, .ref a_n_tables, .ref a_n_sizes, .ref a_n_extras, .ref a_n_sources, .ref a_n_takers, .ref a_n_firstTaker, .ref a_n_order, .int f_n_ordered, .ref a_n_tally, .ref a_n_behind])), (a_n_tables, aI E 50 g_n_tables), (a_n_sizes, aI E 50 g_n_sizes), (a_i_lateDelays, aI E 400 g_32), (a_i_earlyDelays, aI E 400 g_i_earlyDelays), (a_i_lateSlopes, aI E 100 g_i_lateSlopes), (a_i_earlySlopes, aI E 100 g_i_earlySlopes), (a_t_falls, aI E 8 g_t_falls), (o_t, .inr (5, [.ref a_t_numbers, .ref a_t_lefts, .ref a_t_falls, .int f_t_lateCorner, .int f_t_earlyCorner])), (a_t_lefts, aI E 64 g_t_lefts), (a_t_numbers, aI E 192 g_t_numbers)] := hD
            refine lv_aload_n hx hb dX6_timeArc_204 rfl (lv_at hl 10 rfl) ?_
            refine va_get (D := E.1) (ci := 6) (v := .ref a_i_earlyDelays) (own := RX6) (C := RX6) (T := TX6) (N := 12) hx hb hts i_q_timeArc_X6 hown hK hP 0 rfl rfl 7 (by decide) (hto (.fieldLink RX6 22 "TimingHouse$Timing" "earlyDelays" "[I") (by decide +kernel)) (fun _ h9 => h9) rfl dX6_timeArc_205 ?_
            refine lv_iload_n hx hb dX6_timeArc_208 rfl (lv_at hl 11 rfl) ?_
            refine lv_iconst (v := 2) hx hb dX6_timeArc_209 (by decide) ?_
            refine lv_imul hx hb dX6_timeArc_210 ?_
            refine lv_topi (fun x_33 ex_33 => ?_)
            have hq_x_33 : x_22 = x_33 := ex_22.trans ex_33.symm
            subst hq_x_33
            refine lv_iload_n hx hb dX6_timeArc_211 rfl (lv_at hl 12 rfl) ?_
            refine lv_iadd hx hb dX6_timeArc_212 ?_
            refine lv_topi (fun x_34 ex_34 => ?_)
            have hq_x_34 : x_23 = x_34 := ex_23.trans ex_34.symm
            subst hq_x_34
            refine lv_iload hx hb dX6_timeArc_213 (lv_at hl 2 rfl) ?_
            refine lv_sipush (v := 1000) hx hb dX6_timeArc_215 (by decide) ?_
            refine lv_aload_n hx hb dX6_timeArc_218 rfl (lv_at hl 10 rfl) ?_
            refine va_get (D := E.1) (ci := 6) (v := .ref o_t) (own := RX6) (C := RX6) (T := TX6) (N := 12) hx hb hts i_q_timeArc_X6 hown hK hP 0 rfl rfl 3 (by decide) (hto (.fieldLink RX6 49 "TimingHouse$Timing" "tables" "LTimingHouse$Tables;") (by decide +kernel)) (fun _ h9 => h9) rfl dX6_timeArc_219 ?_
            refine va_getN (D := E.1) (ci := 5) (v := .int f_t_earlyCorner) (own := RX6) (ref := "TimingHouse$Tables") (host := "TimingHouse") (C := RX5) (T := TX5) (N := 5) hx hb hts i_q_timeArc_X5 hown hK hP 9 rfl rfl 4 (by decide) (nw_F hN 52 rfl) (fun _ h9 => h9) rfl dX6_timeArc_222 ?_
            have b_f_t_earlyCorner := r_f_t_earlyCorner.out
            refine lv_isub hx hb dX6_timeArc_225 ?_
            refine lv_topi (fun x_35 ex_35 => ?_)
            have tx_35 : x_35.toInt = 1000 - f_t_earlyCorner.toInt := i3_subc rfl rfl ex_35 (by omega)
            refine lv_imul hx hb dX6_timeArc_226 ?_
            refine lv_topi (fun x_36 ex_36 => ?_)
            refine lv_sipush (v := 1000) hx hb dX6_timeArc_227 (by decide) ?_
            refine lv_idiv hx hb dX6_timeArc_230 (by decide) ?_
            refine lv_topi (fun x_37 ex_37 => ?_)
            have bd_38 := i3_bd x_36
            refine lv_iload hx hb dX6_timeArc_231 (lv_at hl 0 rfl) ?_
            refine lv_iadd hx hb dX6_timeArc_233 ?_
            refine lv_topi (fun x_39 ex_39 => ?_)
            have bd_40 := i3_bd x_37
            have tx_39 : x_39.toInt = x_37.toInt + 0 := i3_addc rfl rfl ex_39 (by omega)
            refine st_i hx hb hK hP hD hS 5 rfl (by omega) dX6_timeArc_234 (fun g_41 H locs eg_41 hP hD hS => ?_)
            clear eg_41
            replace hP : va_P E.1 vwCl [(o_i, .inr (6, [.ref o_n, .ref o_z, .ref o_k, .ref o_t, .ref a_i_reached, .ref a_i_open, .ref a_i_lateDelays, .ref a_i_earlyDelays, .ref a_i_lateSlopes, .ref a_i_earlySlopes, .ref a_i_lateArrivals, .ref a_i_earlyArrivals])), (o_n, .inr (1, [.int f_n_cells, .ref a_n_kinds, .ref a_n_inputs, .ref a_n_tables, .ref a_n_sizes, .ref a_n_extras, .ref a_n_sources, .ref a_n_takers, .ref a_n_firstTaker, .ref a_n_order, .int f_n_ordered, .ref a_n_tally, .ref a_n_behind])), (a_n_tables, aI E 50 g_n_tables), (a_n_sizes, aI E 50 g_n_sizes), (a_i_lateDelays, aI E 400 g_32), (a_i_earlyDelays, aI E 400 g_41), (a_i_lateSlopes, aI E 100 g_i_lateSlopes), (a_i_earlySlopes, aI E 100 g_i_earlySlopes), (a_t_falls, aI E 8 g_t_falls), (o_t, .inr (5, [.ref a_t_numbers, .ref a_t_lefts, .ref a_t_falls, .int f_t_lateCorner, .int f_t_earlyCorner])), (a_t_lefts, aI E 64 g_t_lefts), (a_t_numbers, aI E 192 g_t_numbers)] H := hP
            replace hD : va_D A [(o_i, .inr (6, [.ref o_n, .ref o_z, .ref o_k, .ref o_t, .ref a_i_reached, .ref a_i_open, .ref a_i_lateDelays, .ref a_i_earlyDelays, .ref a_i_lateSlopes, .ref a_i_earlySlopes, .ref a_i_lateArrivals, .ref a_i_earlyArrivals])), (o_n, .inr (1, [.int f_n_cells, .ref a_n_kinds, .ref a_n_inputs, .ref a_n_tables, .ref a_n_sizes, .ref a_n_extras, .ref a_n_sources, .ref a_n_takers, .ref a_n_firstTaker, .ref a_n_order, .int f_n_ordered, .ref a_n_tally, .ref a_n_behind])), (a_n_tables, aI E 50 g_n_tables), (a_n_sizes, aI E 50 g_n_sizes), (a_i_lateDelays, aI E 400 g_32), (a_i_earlyDelays, aI E 400 g_41), (a_i_lateSlopes, aI E 100 g_i_lateSlopes), (a_i_earlySlopes, aI E 100 g_i_earlySlopes), (a_t_falls, aI E 8 g_t_falls), (o_t, .inr (5, [.ref a_t_numbers, .ref a_t_lefts, .ref a_t_falls, .int f_t_lateCorner, .int f_t_earlyCorner])), (a_t_lefts, aI E 64 g_t_lefts), (a_t_numbers, aI E 192 g_t_numbers)] := hD
            refine lv_iload hx hb dX6_timeArc_235 (lv_at hl 9 rfl) ?_
            refine lv_iconst (v := 2) hx hb dX6_timeArc_237 (by decide) ?_
            refine lv_imul hx hb dX6_timeArc_238 ?_
            refine lv_topi (fun x_42 ex_42 => ?_)
            have tx_42 : x_42.toInt = x_1.toInt * 2 := i3_mulc rfl rfl ex_42 (by omega)
            refine lv_iload_n hx hb dX6_timeArc_239 rfl (lv_at hl 12 rfl) ?_
            refine lv_iadd hx hb dX6_timeArc_240 ?_
            refine lv_topi (fun x_43 ex_43 => ?_)
            have tx_43 : x_43.toInt = x_42.toInt + p2.toInt := i3_addc rfl rfl ex_43 (by omega)
            refine lv_istore (lv' := [(16, .int x_43), (15, .int 0), (14, .int r_19), (13, .int r_17), (12, .int r_15), (11, .int r_13), (10, .int x_11), (9, .int x_9), (8, .int x_4), (7, .int x_2), (6, .int x_1), (0, .ref o_i), (1, .int p1), (2, .int p2), (3, .int p3), (4, .int p4), (5, .int p5)]) hx hb dX6_timeArc_241 hl (by decide) rfl (fun ls hl => ?_)
            refine lv_aload_n hx hb dX6_timeArc_243 rfl (lv_at hl 11 rfl) ?_
            refine va_get (D := E.1) (ci := 6) (v := .ref a_i_lateSlopes) (own := RX6) (C := RX6) (T := TX6) (N := 12) hx hb hts i_q_timeArc_X6 hown hK hP 0 rfl rfl 8 (by decide) (hto (.fieldLink RX6 25 "TimingHouse$Timing" "lateSlopes" "[I") (by decide +kernel)) (fun _ h9 => h9) rfl dX6_timeArc_244 ?_
            refine lv_iload hx hb dX6_timeArc_247 (lv_at hl 0 rfl) ?_
            refine lv_aload_n hx hb dX6_timeArc_249 rfl (lv_at hl 11 rfl) ?_
            refine va_get (D := E.1) (ci := 6) (v := .ref a_i_lateSlopes) (own := RX6) (C := RX6) (T := TX6) (N := 12) hx hb hts i_q_timeArc_X6 hown hK hP 0 rfl rfl 8 (by decide) (hto (.fieldLink RX6 25 "TimingHouse$Timing" "lateSlopes" "[I") (by decide +kernel)) (fun _ h9 => h9) rfl dX6_timeArc_250 ?_
            refine lv_iload hx hb dX6_timeArc_253 (lv_at hl 0 rfl) ?_
            refine ld_i hx hb hK hP 6 rfl (by omega) dX6_timeArc_255 (fun x_44 ex_44 => ?_)
            refine lv_iload hx hb dX6_timeArc_256 (lv_at hl 4 rfl) ?_
            refine va_mmax hx hb (hml.trans hl.1.symm) hown (hto (.methodLink RX6 155 Lib.Math.max.name) (by decide +kernel)) (hto (.static Lib.Math.max.name) (by decide +kernel)) (hto (.initialized "java/lang/Math") (by decide +kernel)) (hto (.code Lib.Math.max.name Lib.Math.max.code 2 (some .int)) (by decide +kernel)) (Nat.le_of_ble_eq_true rfl) (Nat.le_of_ble_eq_true rfl) (Nat.zero_le _) (Nat.zero_le _) dX6_timeArc_258 ?_
            refine lv_topi (fun x_45 ex_45 => ?_)
            have m_x_45 : (x_45.toInt ≥ x_44.toInt ∧ x_45.toInt ≥ r_15.toInt) ∧ (x_45.toInt = x_44.toInt ∨ x_45.toInt = r_15.toInt) := i3_max ex_45
            have bd_46 := i3_bd x_44
            refine st_i hx hb hK hP hD hS 6 rfl (by omega) dX6_timeArc_261 (fun g_47 H locs eg_47 hP hD hS => ?_)
            clear eg_47
            replace hP : va_P E.1 vwCl [(o_i, .inr (6, [.ref o_n, .ref o_z, .ref o_k, .ref o_t, .ref a_i_reached, .ref a_i_open, .ref a_i_lateDelays, .ref a_i_earlyDelays, .ref a_i_lateSlopes, .ref a_i_earlySlopes, .ref a_i_lateArrivals, .ref a_i_earlyArrivals])), (o_n, .inr (1, [.int f_n_cells, .ref a_n_kinds, .ref a_n_inputs, .ref a_n_tables, .ref a_n_sizes, .ref a_n_extras, .ref a_n_sources, .ref a_n_takers, .ref a_n_firstTaker, .ref a_n_order, .int f_n_ordered, .ref a_n_tally, .ref a_n_behind])), (a_n_tables, aI E 50 g_n_tables), (a_n_sizes, aI E 50 g_n_sizes), (a_i_lateDelays, aI E 400 g_32), (a_i_earlyDelays, aI E 400 g_41), (a_i_lateSlopes, aI E 100 g_47), (a_i_earlySlopes, aI E 100 g_i_earlySlopes), (a_t_falls, aI E 8 g_t_falls), (o_t, .inr (5, [.ref a_t_numbers, .ref a_t_lefts, .ref a_t_falls, .int f_t_lateCorner, .int f_t_earlyCorner])), (a_t_lefts, aI E 64 g_t_lefts), (a_t_numbers, aI E 192 g_t_numbers)] H := hP
            replace hD : va_D A [(o_i, .inr (6, [.ref o_n, .ref o_z, .ref o_k, .ref o_t, .ref a_i_reached, .ref a_i_open, .ref a_i_lateDelays, .ref a_i_earlyDelays, .ref a_i_lateSlopes, .ref a_i_earlySlopes, .ref a_i_lateArrivals, .ref a_i_earlyArrivals])), (o_n, .inr (1, [.int f_n_cells, .ref a_n_kinds, .ref a_n_inputs, .ref a_n_tables, .ref a_n_sizes, .ref a_n_extras, .ref a_n_sources, .ref a_n_takers, .ref a_n_firstTaker, .ref a_n_order, .int f_n_ordered, .ref a_n_tally, .ref a_n_behind])), (a_n_tables, aI E 50 g_n_tables), (a_n_sizes, aI E 50 g_n_sizes), (a_i_lateDelays, aI E 400 g_32), (a_i_earlyDelays, aI E 400 g_41), (a_i_lateSlopes, aI E 100 g_47), (a_i_earlySlopes, aI E 100 g_i_earlySlopes), (a_t_falls, aI E 8 g_t_falls), (o_t, .inr (5, [.ref a_t_numbers, .ref a_t_lefts, .ref a_t_falls, .int f_t_lateCorner, .int f_t_earlyCorner])), (a_t_lefts, aI E 64 g_t_lefts), (a_t_numbers, aI E 192 g_t_numbers)] := hD
            refine lv_aload_n hx hb dX6_timeArc_262 rfl (lv_at hl 11 rfl) ?_
            refine va_get (D := E.1) (ci := 6) (v := .ref a_i_earlySlopes) (own := RX6) (C := RX6) (T := TX6) (N := 12) hx hb hts i_q_timeArc_X6 hown hK hP 0 rfl rfl 9 (by decide) (hto (.fieldLink RX6 28 "TimingHouse$Timing" "earlySlopes" "[I") (by decide +kernel)) (fun _ h9 => h9) rfl dX6_timeArc_263 ?_
            refine lv_iload hx hb dX6_timeArc_266 (lv_at hl 0 rfl) ?_
            refine lv_aload_n hx hb dX6_timeArc_268 rfl (lv_at hl 11 rfl) ?_
            refine va_get (D := E.1) (ci := 6) (v := .ref a_i_earlySlopes) (own := RX6) (C := RX6) (T := TX6) (N := 12) hx hb hts i_q_timeArc_X6 hown hK hP 0 rfl rfl 9 (by decide) (hto (.fieldLink RX6 28 "TimingHouse$Timing" "earlySlopes" "[I") (by decide +kernel)) (fun _ h9 => h9) rfl dX6_timeArc_269 ?_
            refine lv_iload hx hb dX6_timeArc_272 (lv_at hl 0 rfl) ?_
            refine ld_i hx hb hK hP 7 rfl (by omega) dX6_timeArc_274 (fun x_48 ex_48 => ?_)
            refine lv_iload hx hb dX6_timeArc_275 (lv_at hl 2 rfl) ?_
            refine va_mmin hx hb (hml.trans hl.1.symm) hown (hto (.methodLink RX6 161 Lib.Math.min.name) (by decide +kernel)) (hto (.static Lib.Math.min.name) (by decide +kernel)) (hto (.initialized "java/lang/Math") (by decide +kernel)) (hto (.code Lib.Math.min.name Lib.Math.min.code 2 (some .int)) (by decide +kernel)) (Nat.le_of_ble_eq_true rfl) (Nat.le_of_ble_eq_true rfl) (Nat.zero_le _) (Nat.zero_le _) dX6_timeArc_277 ?_
            refine lv_topi (fun x_49 ex_49 => ?_)
            have m_x_49 : (x_49.toInt ≤ x_48.toInt ∧ x_49.toInt ≤ r_19.toInt) ∧ (x_49.toInt = x_48.toInt ∨ x_49.toInt = r_19.toInt) := i3_min ex_49
            have bd_50 := i3_bd x_48
            refine st_i hx hb hK hP hD hS 7 rfl (by omega) dX6_timeArc_280 (fun g_51 H locs eg_51 hP hD hS => ?_)
            clear eg_51
            replace hP : va_P E.1 vwCl [(o_i, .inr (6, [.ref o_n, .ref o_z, .ref o_k, .ref o_t, .ref a_i_reached, .ref a_i_open, .ref a_i_lateDelays, .ref a_i_earlyDelays, .ref a_i_lateSlopes, .ref a_i_earlySlopes, .ref a_i_lateArrivals, .ref a_i_earlyArrivals])), (o_n, .inr (1, [.int f_n_cells, .ref a_n_kinds, .ref a_n_inputs, .ref a_n_tables, .ref a_n_sizes, .ref a_n_extras, .ref a_n_sources, .ref a_n_takers, .ref a_n_firstTaker, .ref a_n_order, .int f_n_ordered, .ref a_n_tally, .ref a_n_behind])), (a_n_tables, aI E 50 g_n_tables), (a_n_sizes, aI E 50 g_n_sizes), (a_i_lateDelays, aI E 400 g_32), (a_i_earlyDelays, aI E 400 g_41), (a_i_lateSlopes, aI E 100 g_47), (a_i_earlySlopes, aI E 100 g_51), (a_t_falls, aI E 8 g_t_falls), (o_t, .inr (5, [.ref a_t_numbers, .ref a_t_lefts, .ref a_t_falls, .int f_t_lateCorner, .int f_t_earlyCorner])), (a_t_lefts, aI E 64 g_t_lefts), (a_t_numbers, aI E 192 g_t_numbers)] H := hP
            replace hD : va_D A [(o_i, .inr (6, [.ref o_n, .ref o_z, .ref o_k, .ref o_t, .ref a_i_reached, .ref a_i_open, .ref a_i_lateDelays, .ref a_i_earlyDelays, .ref a_i_lateSlopes, .ref a_i_earlySlopes, .ref a_i_lateArrivals, .ref a_i_earlyArrivals])), (o_n, .inr (1, [.int f_n_cells, .ref a_n_kinds, .ref a_n_inputs, .ref a_n_tables, .ref a_n_sizes, .ref a_n_extras, .ref a_n_sources, .ref a_n_takers, .ref a_n_firstTaker, .ref a_n_order, .int f_n_ordered, .ref a_n_tally, .ref a_n_behind])), (a_n_tables, aI E 50 g_n_tables), (a_n_sizes, aI E 50 g_n_sizes), (a_i_lateDelays, aI E 400 g_32), (a_i_earlyDelays, aI E 400 g_41), (a_i_lateSlopes, aI E 100 g_47), (a_i_earlySlopes, aI E 100 g_51), (a_t_falls, aI E 8 g_t_falls), (o_t, .inr (5, [.ref a_t_numbers, .ref a_t_lefts, .ref a_t_falls, .int f_t_lateCorner, .int f_t_earlyCorner])), (a_t_lefts, aI E 64 g_t_lefts), (a_t_numbers, aI E 192 g_t_numbers)] := hD
            refine lv_iconst (v := 0) hx hb dX6_timeArc_281 (by decide) ?_
            exact ret_i hx hb hr hlk (hP.sub (ws' := [(o_i, .inr (6, [.ref o_n, .ref o_z, .ref o_k, .ref o_t, .ref a_i_reached, .ref a_i_open, .ref a_i_lateDelays, .ref a_i_earlyDelays, .ref a_i_lateSlopes, .ref a_i_earlySlopes, .ref a_i_lateArrivals, .ref a_i_earlyArrivals])), (o_n, .inr (1, [.int f_n_cells, .ref a_n_kinds, .ref a_n_inputs, .ref a_n_tables, .ref a_n_sizes, .ref a_n_extras, .ref a_n_sources, .ref a_n_takers, .ref a_n_firstTaker, .ref a_n_order, .int f_n_ordered, .ref a_n_tally, .ref a_n_behind])), (a_n_tables, aI E 50 g_n_tables), (a_n_sizes, aI E 50 g_n_sizes), (o_t, .inr (5, [.ref a_t_numbers, .ref a_t_lefts, .ref a_t_falls, .int f_t_lateCorner, .int f_t_earlyCorner])), (a_t_lefts, aI E 64 g_t_lefts), (a_t_numbers, aI E 192 g_t_numbers), (a_i_lateDelays, aI E 400 g_32), (a_i_earlyDelays, aI E 400 g_41), (a_i_lateSlopes, aI E 100 g_47), (a_i_earlySlopes, aI E 100 g_51), (a_t_falls, aI E 8 g_t_falls)]) [0, 1, 2, 3, 9, 10, 11, 4, 5, 6, 7, 8] rfl) (hD.sub (ws' := [(o_i, .inr (6, [.ref o_n, .ref o_z, .ref o_k, .ref o_t, .ref a_i_reached, .ref a_i_open, .ref a_i_lateDelays, .ref a_i_earlyDelays, .ref a_i_lateSlopes, .ref a_i_earlySlopes, .ref a_i_lateArrivals, .ref a_i_earlyArrivals])), (o_n, .inr (1, [.int f_n_cells, .ref a_n_kinds, .ref a_n_inputs, .ref a_n_tables, .ref a_n_sizes, .ref a_n_extras, .ref a_n_sources, .ref a_n_takers, .ref a_n_firstTaker, .ref a_n_order, .int f_n_ordered, .ref a_n_tally, .ref a_n_behind])), (a_n_tables, aI E 50 g_n_tables), (a_n_sizes, aI E 50 g_n_sizes), (o_t, .inr (5, [.ref a_t_numbers, .ref a_t_lefts, .ref a_t_falls, .int f_t_lateCorner, .int f_t_earlyCorner])), (a_t_lefts, aI E 64 g_t_lefts), (a_t_numbers, aI E 192 g_t_numbers), (a_i_lateDelays, aI E 400 g_32), (a_i_earlyDelays, aI E 400 g_41), (a_i_lateSlopes, aI E 100 g_47), (a_i_earlySlopes, aI E 100 g_51), (a_t_falls, aI E 8 g_t_falls)]) [0, 1, 2, 3, 9, 10, 11, 4, 5, 6, 7, 8] (by decide) rfl) hS rfl dX6_timeArc_282 (Nat.le_of_ble_eq_true rfl) (Nat.le_of_ble_eq_true rfl) ⟨trivial, g_32, g_41, g_47, g_51, rfl⟩
          · have e_21 : p2.toInt = 1 := i3_eq c_21
            refine lv_aload_n hx hb dX6_timeArc_153 rfl (lv_at hl 9 rfl) ?_
            refine va_get (D := E.1) (ci := 6) (v := .ref o_t) (own := RX6) (C := RX6) (T := TX6) (N := 12) hx hb hts i_q_timeArc_X6 hown hK hP 0 rfl rfl 3 (by decide) (hto (.fieldLink RX6 49 "TimingHouse$Timing" "tables" "LTimingHouse$Tables;") (by decide +kernel)) (fun _ h9 => h9) rfl dX6_timeArc_154 ?_
            refine va_getN (D := E.1) (ci := 5) (v := .ref a_t_falls) (own := RX6) (ref := "TimingHouse$Tables") (host := "TimingHouse") (C := RX5) (T := TX5) (N := 5) hx hb hts i_q_timeArc_X5 hown hK hP 9 rfl rfl 2 (by decide) (nw_F hN 48 rfl) (fun _ h9 => h9) rfl dX6_timeArc_157 ?_
            refine lv_iload hx hb dX6_timeArc_160 (lv_at hl 7 rfl) ?_
            refine ld_i hx hb hK hP 8 rfl (by omega) dX6_timeArc_162 (fun x_52 ex_52 => ?_)
            have b_x_52 := AR.rd i_g_t_falls ex_52 (by omega)
            refine lv_goto (tgt := 167) hx hb dX6_timeArc_163 (by decide) ?_
            refine lv_istore (lv' := [(15, .int x_52), (14, .int r_19), (13, .int r_17), (12, .int r_15), (11, .int r_13), (10, .int x_11), (9, .int x_9), (8, .int x_4), (7, .int x_2), (6, .int x_1), (0, .ref o_i), (1, .int p1), (2, .int p2), (3, .int p3), (4, .int p4), (5, .int p5)]) hx hb dX6_timeArc_167 hl (by decide) rfl (fun ls hl => ?_)
            refine lv_aload_n hx hb dX6_timeArc_169 rfl (lv_at hl 10 rfl) ?_
            refine va_get (D := E.1) (ci := 6) (v := .ref a_i_lateDelays) (own := RX6) (C := RX6) (T := TX6) (N := 12) hx hb hts i_q_timeArc_X6 hown hK hP 0 rfl rfl 6 (by decide) (hto (.fieldLink RX6 19 "TimingHouse$Timing" "lateDelays" "[I") (by decide +kernel)) (fun _ h9 => h9) rfl dX6_timeArc_170 ?_
            refine lv_iload_n hx hb dX6_timeArc_173 rfl (lv_at hl 11 rfl) ?_
            refine lv_iconst (v := 2) hx hb dX6_timeArc_174 (by decide) ?_
            refine lv_imul hx hb dX6_timeArc_175 ?_
            refine lv_topi (fun x_53 ex_53 => ?_)
            have tx_53 : x_53.toInt = p1.toInt * 2 := i3_mulc rfl rfl ex_53 (by omega)
            refine lv_iload_n hx hb dX6_timeArc_176 rfl (lv_at hl 12 rfl) ?_
            refine lv_iadd hx hb dX6_timeArc_177 ?_
            refine lv_topi (fun x_54 ex_54 => ?_)
            have tx_54 : x_54.toInt = x_53.toInt + p2.toInt := i3_addc rfl rfl ex_54 (by omega)
            refine lv_iload hx hb dX6_timeArc_178 (lv_at hl 4 rfl) ?_
            refine lv_sipush (v := 1000) hx hb dX6_timeArc_180 (by decide) ?_
            refine lv_aload_n hx hb dX6_timeArc_183 rfl (lv_at hl 10 rfl) ?_
            refine va_get (D := E.1) (ci := 6) (v := .ref o_t) (own := RX6) (C := RX6) (T := TX6) (N := 12) hx hb hts i_q_timeArc_X6 hown hK hP 0 rfl rfl 3 (by decide) (hto (.fieldLink RX6 49 "TimingHouse$Timing" "tables" "LTimingHouse$Tables;") (by decide +kernel)) (fun _ h9 => h9) rfl dX6_timeArc_184 ?_
            refine va_getN (D := E.1) (ci := 5) (v := .int f_t_lateCorner) (own := RX6) (ref := "TimingHouse$Tables") (host := "TimingHouse") (C := RX5) (T := TX5) (N := 5) hx hb hts i_q_timeArc_X5 hown hK hP 9 rfl rfl 3 (by decide) (nw_F hN 50 rfl) (fun _ h9 => h9) rfl dX6_timeArc_187 ?_
            have b_f_t_lateCorner := r_f_t_lateCorner.out
            refine lv_iadd hx hb dX6_timeArc_190 ?_
            refine lv_topi (fun x_55 ex_55 => ?_)
            have tx_55 : x_55.toInt = 1000 + f_t_lateCorner.toInt := i3_addc rfl rfl ex_55 (by omega)
            refine lv_imul hx hb dX6_timeArc_191 ?_
            refine lv_topi (fun x_56 ex_56 => ?_)
            refine lv_sipush (v := 999) hx hb dX6_timeArc_192 (by decide) ?_
            refine lv_iadd hx hb dX6_timeArc_195 ?_
            refine lv_topi (fun x_57 ex_57 => ?_)
            have bd_58 := i3_bd x_56
            refine lv_sipush (v := 1000) hx hb dX6_timeArc_196 (by decide) ?_
            refine lv_idiv hx hb dX6_timeArc_199 (by decide) ?_
            refine lv_topi (fun x_59 ex_59 => ?_)
            have bd_60 := i3_bd x_57
            refine lv_iload hx hb dX6_timeArc_200 (lv_at hl 0 rfl) ?_
            refine lv_iadd hx hb dX6_timeArc_202 ?_
            refine lv_topi (fun x_61 ex_61 => ?_)
            have bd_62 := i3_bd x_59
            refine st_i hx hb hK hP hD hS 4 rfl (by omega) dX6_timeArc_203 (fun g_63 H locs eg_63 hP hD hS => ?_)
            clear eg_63
            replace hP : va_P E.1 vwCl [(o_i, .inr (6, [.ref o_n, .ref o_z, .ref o_k, .ref o_t, .ref a_i_reached, .ref a_i_open, .ref a_i_lateDelays, .ref a_i_earlyDelays, .ref a_i_lateSlopes, .ref a_i_earlySlopes, .ref a_i_lateArrivals, .ref a_i_earlyArrivals])), (o_n, .inr (1, [.int f_n_cells, .ref a_n_kinds, .ref a_n_inputs, .ref a_n_tables, .ref a_n_sizes, .ref a_n_extras, .ref a_n_sources, .ref a_n_takers, .ref a_n_firstTaker, .ref a_n_order, .int f_n_ordered, .ref a_n_tally, .ref a_n_behind])), (a_n_tables, aI E 50 g_n_tables), (a_n_sizes, aI E 50 g_n_sizes), (a_i_lateDelays, aI E 400 g_63), (a_i_earlyDelays, aI E 400 g_i_earlyDelays), (a_i_lateSlopes, aI E 100 g_i_lateSlopes), (a_i_earlySlopes, aI E 100 g_i_earlySlopes), (a_t_falls, aI E 8 g_t_falls), (o_t, .inr (5, [.ref a_t_numbers, .ref a_t_lefts, .ref a_t_falls, .int f_t_lateCorner, .int f_t_earlyCorner])), (a_t_lefts, aI E 64 g_t_lefts), (a_t_numbers, aI E 192 g_t_numbers)] H := hP
            replace hD : va_D A [(o_i, .inr (6, [.ref o_n, .ref o_z, .ref o_k, .ref o_t, .ref a_i_reached, .ref a_i_open, .ref a_i_lateDelays, .ref a_i_earlyDelays, .ref a_i_lateSlopes, .ref a_i_earlySlopes, .ref a_i_lateArrivals, .ref a_i_earlyArrivals])), (o_n, .inr (1, [.int f_n_cells, .ref a_n_kinds, .ref a_n_inputs, .ref a_n_tables, .ref a_n_sizes, .ref a_n_extras, .ref a_n_sources, .ref a_n_takers, .ref a_n_firstTaker, .ref a_n_order, .int f_n_ordered, .ref a_n_tally, .ref a_n_behind])), (a_n_tables, aI E 50 g_n_tables), (a_n_sizes, aI E 50 g_n_sizes), (a_i_lateDelays, aI E 400 g_63), (a_i_earlyDelays, aI E 400 g_i_earlyDelays), (a_i_lateSlopes, aI E 100 g_i_lateSlopes), (a_i_earlySlopes, aI E 100 g_i_earlySlopes), (a_t_falls, aI E 8 g_t_falls), (o_t, .inr (5, [.ref a_t_numbers, .ref a_t_lefts, .ref a_t_falls, .int f_t_lateCorner, .int f_t_earlyCorner])), (a_t_lefts, aI E 64 g_t_lefts), (a_t_numbers, aI E 192 g_t_numbers)] := hD
            refine lv_aload_n hx hb dX6_timeArc_204 rfl (lv_at hl 10 rfl) ?_
            refine va_get (D := E.1) (ci := 6) (v := .ref a_i_earlyDelays) (own := RX6) (C := RX6) (T := TX6) (N := 12) hx hb hts i_q_timeArc_X6 hown hK hP 0 rfl rfl 7 (by decide) (hto (.fieldLink RX6 22 "TimingHouse$Timing" "earlyDelays" "[I") (by decide +kernel)) (fun _ h9 => h9) rfl dX6_timeArc_205 ?_
            refine lv_iload_n hx hb dX6_timeArc_208 rfl (lv_at hl 11 rfl) ?_
            refine lv_iconst (v := 2) hx hb dX6_timeArc_209 (by decide) ?_
            refine lv_imul hx hb dX6_timeArc_210 ?_
            refine lv_topi (fun x_64 ex_64 => ?_)
            have hq_x_64 : x_53 = x_64 := ex_53.trans ex_64.symm
            subst hq_x_64
            refine lv_iload_n hx hb dX6_timeArc_211 rfl (lv_at hl 12 rfl) ?_
            refine lv_iadd hx hb dX6_timeArc_212 ?_
            refine lv_topi (fun x_65 ex_65 => ?_)
            have hq_x_65 : x_54 = x_65 := ex_54.trans ex_65.symm
            subst hq_x_65
            refine lv_iload hx hb dX6_timeArc_213 (lv_at hl 2 rfl) ?_
            refine lv_sipush (v := 1000) hx hb dX6_timeArc_215 (by decide) ?_
            refine lv_aload_n hx hb dX6_timeArc_218 rfl (lv_at hl 10 rfl) ?_
            refine va_get (D := E.1) (ci := 6) (v := .ref o_t) (own := RX6) (C := RX6) (T := TX6) (N := 12) hx hb hts i_q_timeArc_X6 hown hK hP 0 rfl rfl 3 (by decide) (hto (.fieldLink RX6 49 "TimingHouse$Timing" "tables" "LTimingHouse$Tables;") (by decide +kernel)) (fun _ h9 => h9) rfl dX6_timeArc_219 ?_
            refine va_getN (D := E.1) (ci := 5) (v := .int f_t_earlyCorner) (own := RX6) (ref := "TimingHouse$Tables") (host := "TimingHouse") (C := RX5) (T := TX5) (N := 5) hx hb hts i_q_timeArc_X5 hown hK hP 9 rfl rfl 4 (by decide) (nw_F hN 52 rfl) (fun _ h9 => h9) rfl dX6_timeArc_222 ?_
            have b_f_t_earlyCorner := r_f_t_earlyCorner.out
            refine lv_isub hx hb dX6_timeArc_225 ?_
            refine lv_topi (fun x_66 ex_66 => ?_)
            have tx_66 : x_66.toInt = 1000 - f_t_earlyCorner.toInt := i3_subc rfl rfl ex_66 (by omega)
            refine lv_imul hx hb dX6_timeArc_226 ?_
            refine lv_topi (fun x_67 ex_67 => ?_)
            refine lv_sipush (v := 1000) hx hb dX6_timeArc_227 (by decide) ?_
            refine lv_idiv hx hb dX6_timeArc_230 (by decide) ?_
            refine lv_topi (fun x_68 ex_68 => ?_)
            have bd_69 := i3_bd x_67
            refine lv_iload hx hb dX6_timeArc_231 (lv_at hl 0 rfl) ?_
            refine lv_iadd hx hb dX6_timeArc_233 ?_
            refine lv_topi (fun x_70 ex_70 => ?_)
            have bd_71 := i3_bd x_68
            refine st_i hx hb hK hP hD hS 5 rfl (by omega) dX6_timeArc_234 (fun g_72 H locs eg_72 hP hD hS => ?_)
            clear eg_72
            replace hP : va_P E.1 vwCl [(o_i, .inr (6, [.ref o_n, .ref o_z, .ref o_k, .ref o_t, .ref a_i_reached, .ref a_i_open, .ref a_i_lateDelays, .ref a_i_earlyDelays, .ref a_i_lateSlopes, .ref a_i_earlySlopes, .ref a_i_lateArrivals, .ref a_i_earlyArrivals])), (o_n, .inr (1, [.int f_n_cells, .ref a_n_kinds, .ref a_n_inputs, .ref a_n_tables, .ref a_n_sizes, .ref a_n_extras, .ref a_n_sources, .ref a_n_takers, .ref a_n_firstTaker, .ref a_n_order, .int f_n_ordered, .ref a_n_tally, .ref a_n_behind])), (a_n_tables, aI E 50 g_n_tables), (a_n_sizes, aI E 50 g_n_sizes), (a_i_lateDelays, aI E 400 g_63), (a_i_earlyDelays, aI E 400 g_72), (a_i_lateSlopes, aI E 100 g_i_lateSlopes), (a_i_earlySlopes, aI E 100 g_i_earlySlopes), (a_t_falls, aI E 8 g_t_falls), (o_t, .inr (5, [.ref a_t_numbers, .ref a_t_lefts, .ref a_t_falls, .int f_t_lateCorner, .int f_t_earlyCorner])), (a_t_lefts, aI E 64 g_t_lefts), (a_t_numbers, aI E 192 g_t_numbers)] H := hP
            replace hD : va_D A [(o_i, .inr (6, [.ref o_n, .ref o_z, .ref o_k, .ref o_t, .ref a_i_reached, .ref a_i_open, .ref a_i_lateDelays, .ref a_i_earlyDelays, .ref a_i_lateSlopes, .ref a_i_earlySlopes, .ref a_i_lateArrivals, .ref a_i_earlyArrivals])), (o_n, .inr (1, [.int f_n_cells, .ref a_n_kinds, .ref a_n_inputs, .ref a_n_tables, .ref a_n_sizes, .ref a_n_extras, .ref a_n_sources, .ref a_n_takers, .ref a_n_firstTaker, .ref a_n_order, .int f_n_ordered, .ref a_n_tally, .ref a_n_behind])), (a_n_tables, aI E 50 g_n_tables), (a_n_sizes, aI E 50 g_n_sizes), (a_i_lateDelays, aI E 400 g_63), (a_i_earlyDelays, aI E 400 g_72), (a_i_lateSlopes, aI E 100 g_i_lateSlopes), (a_i_earlySlopes, aI E 100 g_i_earlySlopes), (a_t_falls, aI E 8 g_t_falls), (o_t, .inr (5, [.ref a_t_numbers, .ref a_t_lefts, .ref a_t_falls, .int f_t_lateCorner, .int f_t_earlyCorner])), (a_t_lefts, aI E 64 g_t_lefts), (a_t_numbers, aI E 192 g_t_numbers)] := hD
            refine lv_iload hx hb dX6_timeArc_235 (lv_at hl 9 rfl) ?_
            refine lv_iconst (v := 2) hx hb dX6_timeArc_237 (by decide) ?_
            refine lv_imul hx hb dX6_timeArc_238 ?_
            refine lv_topi (fun x_73 ex_73 => ?_)
            have tx_73 : x_73.toInt = x_1.toInt * 2 := i3_mulc rfl rfl ex_73 (by omega)
            refine lv_iload_n hx hb dX6_timeArc_239 rfl (lv_at hl 12 rfl) ?_
            refine lv_iadd hx hb dX6_timeArc_240 ?_
            refine lv_topi (fun x_74 ex_74 => ?_)
            have tx_74 : x_74.toInt = x_73.toInt + p2.toInt := i3_addc rfl rfl ex_74 (by omega)
            refine lv_istore (lv' := [(16, .int x_74), (15, .int x_52), (14, .int r_19), (13, .int r_17), (12, .int r_15), (11, .int r_13), (10, .int x_11), (9, .int x_9), (8, .int x_4), (7, .int x_2), (6, .int x_1), (0, .ref o_i), (1, .int p1), (2, .int p2), (3, .int p3), (4, .int p4), (5, .int p5)]) hx hb dX6_timeArc_241 hl (by decide) rfl (fun ls hl => ?_)
            refine lv_aload_n hx hb dX6_timeArc_243 rfl (lv_at hl 11 rfl) ?_
            refine va_get (D := E.1) (ci := 6) (v := .ref a_i_lateSlopes) (own := RX6) (C := RX6) (T := TX6) (N := 12) hx hb hts i_q_timeArc_X6 hown hK hP 0 rfl rfl 8 (by decide) (hto (.fieldLink RX6 25 "TimingHouse$Timing" "lateSlopes" "[I") (by decide +kernel)) (fun _ h9 => h9) rfl dX6_timeArc_244 ?_
            refine lv_iload hx hb dX6_timeArc_247 (lv_at hl 0 rfl) ?_
            refine lv_aload_n hx hb dX6_timeArc_249 rfl (lv_at hl 11 rfl) ?_
            refine va_get (D := E.1) (ci := 6) (v := .ref a_i_lateSlopes) (own := RX6) (C := RX6) (T := TX6) (N := 12) hx hb hts i_q_timeArc_X6 hown hK hP 0 rfl rfl 8 (by decide) (hto (.fieldLink RX6 25 "TimingHouse$Timing" "lateSlopes" "[I") (by decide +kernel)) (fun _ h9 => h9) rfl dX6_timeArc_250 ?_
            refine lv_iload hx hb dX6_timeArc_253 (lv_at hl 0 rfl) ?_
            refine ld_i hx hb hK hP 6 rfl (by omega) dX6_timeArc_255 (fun x_75 ex_75 => ?_)
            refine lv_iload hx hb dX6_timeArc_256 (lv_at hl 4 rfl) ?_
            refine va_mmax hx hb (hml.trans hl.1.symm) hown (hto (.methodLink RX6 155 Lib.Math.max.name) (by decide +kernel)) (hto (.static Lib.Math.max.name) (by decide +kernel)) (hto (.initialized "java/lang/Math") (by decide +kernel)) (hto (.code Lib.Math.max.name Lib.Math.max.code 2 (some .int)) (by decide +kernel)) (Nat.le_of_ble_eq_true rfl) (Nat.le_of_ble_eq_true rfl) (Nat.zero_le _) (Nat.zero_le _) dX6_timeArc_258 ?_
            refine lv_topi (fun x_76 ex_76 => ?_)
            have m_x_76 : (x_76.toInt ≥ x_75.toInt ∧ x_76.toInt ≥ r_15.toInt) ∧ (x_76.toInt = x_75.toInt ∨ x_76.toInt = r_15.toInt) := i3_max ex_76
            have bd_77 := i3_bd x_75
            refine st_i hx hb hK hP hD hS 6 rfl (by omega) dX6_timeArc_261 (fun g_78 H locs eg_78 hP hD hS => ?_)
            clear eg_78
            replace hP : va_P E.1 vwCl [(o_i, .inr (6, [.ref o_n, .ref o_z, .ref o_k, .ref o_t, .ref a_i_reached, .ref a_i_open, .ref a_i_lateDelays, .ref a_i_earlyDelays, .ref a_i_lateSlopes, .ref a_i_earlySlopes, .ref a_i_lateArrivals, .ref a_i_earlyArrivals])), (o_n, .inr (1, [.int f_n_cells, .ref a_n_kinds, .ref a_n_inputs, .ref a_n_tables, .ref a_n_sizes, .ref a_n_extras, .ref a_n_sources, .ref a_n_takers, .ref a_n_firstTaker, .ref a_n_order, .int f_n_ordered, .ref a_n_tally, .ref a_n_behind])), (a_n_tables, aI E 50 g_n_tables), (a_n_sizes, aI E 50 g_n_sizes), (a_i_lateDelays, aI E 400 g_63), (a_i_earlyDelays, aI E 400 g_72), (a_i_lateSlopes, aI E 100 g_78), (a_i_earlySlopes, aI E 100 g_i_earlySlopes), (a_t_falls, aI E 8 g_t_falls), (o_t, .inr (5, [.ref a_t_numbers, .ref a_t_lefts, .ref a_t_falls, .int f_t_lateCorner, .int f_t_earlyCorner])), (a_t_lefts, aI E 64 g_t_lefts), (a_t_numbers, aI E 192 g_t_numbers)] H := hP
            replace hD : va_D A [(o_i, .inr (6, [.ref o_n, .ref o_z, .ref o_k, .ref o_t, .ref a_i_reached, .ref a_i_open, .ref a_i_lateDelays, .ref a_i_earlyDelays, .ref a_i_lateSlopes, .ref a_i_earlySlopes, .ref a_i_lateArrivals, .ref a_i_earlyArrivals])), (o_n, .inr (1, [.int f_n_cells, .ref a_n_kinds, .ref a_n_inputs, .ref a_n_tables, .ref a_n_sizes, .ref a_n_extras, .ref a_n_sources, .ref a_n_takers, .ref a_n_firstTaker, .ref a_n_order, .int f_n_ordered, .ref a_n_tally, .ref a_n_behind])), (a_n_tables, aI E 50 g_n_tables), (a_n_sizes, aI E 50 g_n_sizes), (a_i_lateDelays, aI E 400 g_63), (a_i_earlyDelays, aI E 400 g_72), (a_i_lateSlopes, aI E 100 g_78), (a_i_earlySlopes, aI E 100 g_i_earlySlopes), (a_t_falls, aI E 8 g_t_falls), (o_t, .inr (5, [.ref a_t_numbers, .ref a_t_lefts, .ref a_t_falls, .int f_t_lateCorner, .int f_t_earlyCorner])), (a_t_lefts, aI E 64 g_t_lefts), (a_t_numbers, aI E 192 g_t_numbers)] := hD
            refine lv_aload_n hx hb dX6_timeArc_262 rfl (lv_at hl 11 rfl) ?_
            refine va_get (D := E.1) (ci := 6) (v := .ref a_i_earlySlopes) (own := RX6) (C := RX6) (T := TX6) (N := 12) hx hb hts i_q_timeArc_X6 hown hK hP 0 rfl rfl 9 (by decide) (hto (.fieldLink RX6 28 "TimingHouse$Timing" "earlySlopes" "[I") (by decide +kernel)) (fun _ h9 => h9) rfl dX6_timeArc_263 ?_
            refine lv_iload hx hb dX6_timeArc_266 (lv_at hl 0 rfl) ?_
            refine lv_aload_n hx hb dX6_timeArc_268 rfl (lv_at hl 11 rfl) ?_
            refine va_get (D := E.1) (ci := 6) (v := .ref a_i_earlySlopes) (own := RX6) (C := RX6) (T := TX6) (N := 12) hx hb hts i_q_timeArc_X6 hown hK hP 0 rfl rfl 9 (by decide) (hto (.fieldLink RX6 28 "TimingHouse$Timing" "earlySlopes" "[I") (by decide +kernel)) (fun _ h9 => h9) rfl dX6_timeArc_269 ?_
            refine lv_iload hx hb dX6_timeArc_272 (lv_at hl 0 rfl) ?_
            refine ld_i hx hb hK hP 7 rfl (by omega) dX6_timeArc_274 (fun x_79 ex_79 => ?_)
            refine lv_iload hx hb dX6_timeArc_275 (lv_at hl 2 rfl) ?_
            refine va_mmin hx hb (hml.trans hl.1.symm) hown (hto (.methodLink RX6 161 Lib.Math.min.name) (by decide +kernel)) (hto (.static Lib.Math.min.name) (by decide +kernel)) (hto (.initialized "java/lang/Math") (by decide +kernel)) (hto (.code Lib.Math.min.name Lib.Math.min.code 2 (some .int)) (by decide +kernel)) (Nat.le_of_ble_eq_true rfl) (Nat.le_of_ble_eq_true rfl) (Nat.zero_le _) (Nat.zero_le _) dX6_timeArc_277 ?_
            refine lv_topi (fun x_80 ex_80 => ?_)
            have m_x_80 : (x_80.toInt ≤ x_79.toInt ∧ x_80.toInt ≤ r_19.toInt) ∧ (x_80.toInt = x_79.toInt ∨ x_80.toInt = r_19.toInt) := i3_min ex_80
            have bd_81 := i3_bd x_79
            refine st_i hx hb hK hP hD hS 7 rfl (by omega) dX6_timeArc_280 (fun g_82 H locs eg_82 hP hD hS => ?_)
            clear eg_82
            replace hP : va_P E.1 vwCl [(o_i, .inr (6, [.ref o_n, .ref o_z, .ref o_k, .ref o_t, .ref a_i_reached, .ref a_i_open, .ref a_i_lateDelays, .ref a_i_earlyDelays, .ref a_i_lateSlopes, .ref a_i_earlySlopes, .ref a_i_lateArrivals, .ref a_i_earlyArrivals])), (o_n, .inr (1, [.int f_n_cells, .ref a_n_kinds, .ref a_n_inputs, .ref a_n_tables, .ref a_n_sizes, .ref a_n_extras, .ref a_n_sources, .ref a_n_takers, .ref a_n_firstTaker, .ref a_n_order, .int f_n_ordered, .ref a_n_tally, .ref a_n_behind])), (a_n_tables, aI E 50 g_n_tables), (a_n_sizes, aI E 50 g_n_sizes), (a_i_lateDelays, aI E 400 g_63), (a_i_earlyDelays, aI E 400 g_72), (a_i_lateSlopes, aI E 100 g_78), (a_i_earlySlopes, aI E 100 g_82), (a_t_falls, aI E 8 g_t_falls), (o_t, .inr (5, [.ref a_t_numbers, .ref a_t_lefts, .ref a_t_falls, .int f_t_lateCorner, .int f_t_earlyCorner])), (a_t_lefts, aI E 64 g_t_lefts), (a_t_numbers, aI E 192 g_t_numbers)] H := hP
            replace hD : va_D A [(o_i, .inr (6, [.ref o_n, .ref o_z, .ref o_k, .ref o_t, .ref a_i_reached, .ref a_i_open, .ref a_i_lateDelays, .ref a_i_earlyDelays, .ref a_i_lateSlopes, .ref a_i_earlySlopes, .ref a_i_lateArrivals, .ref a_i_earlyArrivals])), (o_n, .inr (1, [.int f_n_cells, .ref a_n_kinds, .ref a_n_inputs, .ref a_n_tables, .ref a_n_sizes, .ref a_n_extras, .ref a_n_sources, .ref a_n_takers, .ref a_n_firstTaker, .ref a_n_order, .int f_n_ordered, .ref a_n_tally, .ref a_n_behind])), (a_n_tables, aI E 50 g_n_tables), (a_n_sizes, aI E 50 g_n_sizes), (a_i_lateDelays, aI E 400 g_63), (a_i_earlyDelays, aI E 400 g_72), (a_i_lateSlopes, aI E 100 g_78), (a_i_earlySlopes, aI E 100 g_82), (a_t_falls, aI E 8 g_t_falls), (o_t, .inr (5, [.ref a_t_numbers, .ref a_t_lefts, .ref a_t_falls, .int f_t_lateCorner, .int f_t_earlyCorner])), (a_t_lefts, aI E 64 g_t_lefts), (a_t_numbers, aI E 192 g_t_numbers)] := hD
            refine lv_iconst (v := 0) hx hb dX6_timeArc_281 (by decide) ?_
            exact ret_i hx hb hr hlk (hP.sub (ws' := [(o_i, .inr (6, [.ref o_n, .ref o_z, .ref o_k, .ref o_t, .ref a_i_reached, .ref a_i_open, .ref a_i_lateDelays, .ref a_i_earlyDelays, .ref a_i_lateSlopes, .ref a_i_earlySlopes, .ref a_i_lateArrivals, .ref a_i_earlyArrivals])), (o_n, .inr (1, [.int f_n_cells, .ref a_n_kinds, .ref a_n_inputs, .ref a_n_tables, .ref a_n_sizes, .ref a_n_extras, .ref a_n_sources, .ref a_n_takers, .ref a_n_firstTaker, .ref a_n_order, .int f_n_ordered, .ref a_n_tally, .ref a_n_behind])), (a_n_tables, aI E 50 g_n_tables), (a_n_sizes, aI E 50 g_n_sizes), (o_t, .inr (5, [.ref a_t_numbers, .ref a_t_lefts, .ref a_t_falls, .int f_t_lateCorner, .int f_t_earlyCorner])), (a_t_lefts, aI E 64 g_t_lefts), (a_t_numbers, aI E 192 g_t_numbers), (a_i_lateDelays, aI E 400 g_63), (a_i_earlyDelays, aI E 400 g_72), (a_i_lateSlopes, aI E 100 g_78), (a_i_earlySlopes, aI E 100 g_82), (a_t_falls, aI E 8 g_t_falls)]) [0, 1, 2, 3, 9, 10, 11, 4, 5, 6, 7, 8] rfl) (hD.sub (ws' := [(o_i, .inr (6, [.ref o_n, .ref o_z, .ref o_k, .ref o_t, .ref a_i_reached, .ref a_i_open, .ref a_i_lateDelays, .ref a_i_earlyDelays, .ref a_i_lateSlopes, .ref a_i_earlySlopes, .ref a_i_lateArrivals, .ref a_i_earlyArrivals])), (o_n, .inr (1, [.int f_n_cells, .ref a_n_kinds, .ref a_n_inputs, .ref a_n_tables, .ref a_n_sizes, .ref a_n_extras, .ref a_n_sources, .ref a_n_takers, .ref a_n_firstTaker, .ref a_n_order, .int f_n_ordered, .ref a_n_tally, .ref a_n_behind])), (a_n_tables, aI E 50 g_n_tables), (a_n_sizes, aI E 50 g_n_sizes), (o_t, .inr (5, [.ref a_t_numbers, .ref a_t_lefts, .ref a_t_falls, .int f_t_lateCorner, .int f_t_earlyCorner])), (a_t_lefts, aI E 64 g_t_lefts), (a_t_numbers, aI E 192 g_t_numbers), (a_i_lateDelays, aI E 400 g_63), (a_i_earlyDelays, aI E 400 g_72), (a_i_lateSlopes, aI E 100 g_78), (a_i_earlySlopes, aI E 100 g_82), (a_t_falls, aI E 8 g_t_falls)]) [0, 1, 2, 3, 9, 10, 11, 4, 5, 6, 7, 8] (by decide) rfl) hS rfl dX6_timeArc_282 (Nat.le_of_ble_eq_true rfl) (Nat.le_of_ble_eq_true rfl) ⟨trivial, g_63, g_72, g_78, g_82, rfl⟩
        · have e_20 : r_19.toInt < 0 := i3_nle c_20
          refine lv_iload hx hb dX6_timeArc_145 (lv_at hl 0 rfl) ?_
          exact ret_i hx hb hr hlk (hP.sub (ws' := [(o_i, .inr (6, [.ref o_n, .ref o_z, .ref o_k, .ref o_t, .ref a_i_reached, .ref a_i_open, .ref a_i_lateDelays, .ref a_i_earlyDelays, .ref a_i_lateSlopes, .ref a_i_earlySlopes, .ref a_i_lateArrivals, .ref a_i_earlyArrivals])), (o_n, .inr (1, [.int f_n_cells, .ref a_n_kinds, .ref a_n_inputs, .ref a_n_tables, .ref a_n_sizes, .ref a_n_extras, .ref a_n_sources, .ref a_n_takers, .ref a_n_firstTaker, .ref a_n_order, .int f_n_ordered, .ref a_n_tally, .ref a_n_behind])), (a_n_tables, aI E 50 g_n_tables), (a_n_sizes, aI E 50 g_n_sizes), (o_t, .inr (5, [.ref a_t_numbers, .ref a_t_lefts, .ref a_t_falls, .int f_t_lateCorner, .int f_t_earlyCorner])), (a_t_lefts, aI E 64 g_t_lefts), (a_t_numbers, aI E 192 g_t_numbers), (a_i_lateDelays, aI E 400 g_i_lateDelays), (a_i_earlyDelays, aI E 400 g_i_earlyDelays), (a_i_lateSlopes, aI E 100 g_i_lateSlopes), (a_i_earlySlopes, aI E 100 g_i_earlySlopes), (a_t_falls, aI E 8 g_t_falls)]) [0, 1, 2, 3, 9, 10, 11, 4, 5, 6, 7, 8] rfl) (hD.sub (ws' := [(o_i, .inr (6, [.ref o_n, .ref o_z, .ref o_k, .ref o_t, .ref a_i_reached, .ref a_i_open, .ref a_i_lateDelays, .ref a_i_earlyDelays, .ref a_i_lateSlopes, .ref a_i_earlySlopes, .ref a_i_lateArrivals, .ref a_i_earlyArrivals])), (o_n, .inr (1, [.int f_n_cells, .ref a_n_kinds, .ref a_n_inputs, .ref a_n_tables, .ref a_n_sizes, .ref a_n_extras, .ref a_n_sources, .ref a_n_takers, .ref a_n_firstTaker, .ref a_n_order, .int f_n_ordered, .ref a_n_tally, .ref a_n_behind])), (a_n_tables, aI E 50 g_n_tables), (a_n_sizes, aI E 50 g_n_sizes), (o_t, .inr (5, [.ref a_t_numbers, .ref a_t_lefts, .ref a_t_falls, .int f_t_lateCorner, .int f_t_earlyCorner])), (a_t_lefts, aI E 64 g_t_lefts), (a_t_numbers, aI E 192 g_t_numbers), (a_i_lateDelays, aI E 400 g_i_lateDelays), (a_i_earlyDelays, aI E 400 g_i_earlyDelays), (a_i_lateSlopes, aI E 100 g_i_lateSlopes), (a_i_earlySlopes, aI E 100 g_i_earlySlopes), (a_t_falls, aI E 8 g_t_falls)]) [0, 1, 2, 3, 9, 10, 11, 4, 5, 6, 7, 8] (by decide) rfl) hS rfl dX6_timeArc_147 (Nat.le_of_ble_eq_true rfl) (Nat.le_of_ble_eq_true rfl) ⟨trivial, g_i_lateDelays, g_i_earlyDelays, g_i_lateSlopes, g_i_earlySlopes, rfl⟩
      · have e_18 : r_17.toInt < 0 := i3_nle c_18
        refine lv_iload hx hb dX6_timeArc_120 (lv_at hl 0 rfl) ?_
        exact ret_i hx hb hr hlk (hP.sub (ws' := [(o_i, .inr (6, [.ref o_n, .ref o_z, .ref o_k, .ref o_t, .ref a_i_reached, .ref a_i_open, .ref a_i_lateDelays, .ref a_i_earlyDelays, .ref a_i_lateSlopes, .ref a_i_earlySlopes, .ref a_i_lateArrivals, .ref a_i_earlyArrivals])), (o_n, .inr (1, [.int f_n_cells, .ref a_n_kinds, .ref a_n_inputs, .ref a_n_tables, .ref a_n_sizes, .ref a_n_extras, .ref a_n_sources, .ref a_n_takers, .ref a_n_firstTaker, .ref a_n_order, .int f_n_ordered, .ref a_n_tally, .ref a_n_behind])), (a_n_tables, aI E 50 g_n_tables), (a_n_sizes, aI E 50 g_n_sizes), (o_t, .inr (5, [.ref a_t_numbers, .ref a_t_lefts, .ref a_t_falls, .int f_t_lateCorner, .int f_t_earlyCorner])), (a_t_lefts, aI E 64 g_t_lefts), (a_t_numbers, aI E 192 g_t_numbers), (a_i_lateDelays, aI E 400 g_i_lateDelays), (a_i_earlyDelays, aI E 400 g_i_earlyDelays), (a_i_lateSlopes, aI E 100 g_i_lateSlopes), (a_i_earlySlopes, aI E 100 g_i_earlySlopes), (a_t_falls, aI E 8 g_t_falls)]) [0, 1, 2, 3, 9, 10, 11, 4, 5, 6, 7, 8] rfl) (hD.sub (ws' := [(o_i, .inr (6, [.ref o_n, .ref o_z, .ref o_k, .ref o_t, .ref a_i_reached, .ref a_i_open, .ref a_i_lateDelays, .ref a_i_earlyDelays, .ref a_i_lateSlopes, .ref a_i_earlySlopes, .ref a_i_lateArrivals, .ref a_i_earlyArrivals])), (o_n, .inr (1, [.int f_n_cells, .ref a_n_kinds, .ref a_n_inputs, .ref a_n_tables, .ref a_n_sizes, .ref a_n_extras, .ref a_n_sources, .ref a_n_takers, .ref a_n_firstTaker, .ref a_n_order, .int f_n_ordered, .ref a_n_tally, .ref a_n_behind])), (a_n_tables, aI E 50 g_n_tables), (a_n_sizes, aI E 50 g_n_sizes), (o_t, .inr (5, [.ref a_t_numbers, .ref a_t_lefts, .ref a_t_falls, .int f_t_lateCorner, .int f_t_earlyCorner])), (a_t_lefts, aI E 64 g_t_lefts), (a_t_numbers, aI E 192 g_t_numbers), (a_i_lateDelays, aI E 400 g_i_lateDelays), (a_i_earlyDelays, aI E 400 g_i_earlyDelays), (a_i_lateSlopes, aI E 100 g_i_lateSlopes), (a_i_earlySlopes, aI E 100 g_i_earlySlopes), (a_t_falls, aI E 8 g_t_falls)]) [0, 1, 2, 3, 9, 10, 11, 4, 5, 6, 7, 8] (by decide) rfl) hS rfl dX6_timeArc_122 (Nat.le_of_ble_eq_true rfl) (Nat.le_of_ble_eq_true rfl) ⟨trivial, g_i_lateDelays, g_i_earlyDelays, g_i_lateSlopes, g_i_earlySlopes, rfl⟩
    · have e_16 : r_15.toInt < 0 := i3_nle c_16
      refine lv_iload hx hb dX6_timeArc_95 (lv_at hl 0 rfl) ?_
      exact ret_i hx hb hr hlk (hP.sub (ws' := [(o_i, .inr (6, [.ref o_n, .ref o_z, .ref o_k, .ref o_t, .ref a_i_reached, .ref a_i_open, .ref a_i_lateDelays, .ref a_i_earlyDelays, .ref a_i_lateSlopes, .ref a_i_earlySlopes, .ref a_i_lateArrivals, .ref a_i_earlyArrivals])), (o_n, .inr (1, [.int f_n_cells, .ref a_n_kinds, .ref a_n_inputs, .ref a_n_tables, .ref a_n_sizes, .ref a_n_extras, .ref a_n_sources, .ref a_n_takers, .ref a_n_firstTaker, .ref a_n_order, .int f_n_ordered, .ref a_n_tally, .ref a_n_behind])), (a_n_tables, aI E 50 g_n_tables), (a_n_sizes, aI E 50 g_n_sizes), (o_t, .inr (5, [.ref a_t_numbers, .ref a_t_lefts, .ref a_t_falls, .int f_t_lateCorner, .int f_t_earlyCorner])), (a_t_lefts, aI E 64 g_t_lefts), (a_t_numbers, aI E 192 g_t_numbers), (a_i_lateDelays, aI E 400 g_i_lateDelays), (a_i_earlyDelays, aI E 400 g_i_earlyDelays), (a_i_lateSlopes, aI E 100 g_i_lateSlopes), (a_i_earlySlopes, aI E 100 g_i_earlySlopes), (a_t_falls, aI E 8 g_t_falls)]) [0, 1, 2, 3, 9, 10, 11, 4, 5, 6, 7, 8] rfl) (hD.sub (ws' := [(o_i, .inr (6, [.ref o_n, .ref o_z, .ref o_k, .ref o_t, .ref a_i_reached, .ref a_i_open, .ref a_i_lateDelays, .ref a_i_earlyDelays, .ref a_i_lateSlopes, .ref a_i_earlySlopes, .ref a_i_lateArrivals, .ref a_i_earlyArrivals])), (o_n, .inr (1, [.int f_n_cells, .ref a_n_kinds, .ref a_n_inputs, .ref a_n_tables, .ref a_n_sizes, .ref a_n_extras, .ref a_n_sources, .ref a_n_takers, .ref a_n_firstTaker, .ref a_n_order, .int f_n_ordered, .ref a_n_tally, .ref a_n_behind])), (a_n_tables, aI E 50 g_n_tables), (a_n_sizes, aI E 50 g_n_sizes), (o_t, .inr (5, [.ref a_t_numbers, .ref a_t_lefts, .ref a_t_falls, .int f_t_lateCorner, .int f_t_earlyCorner])), (a_t_lefts, aI E 64 g_t_lefts), (a_t_numbers, aI E 192 g_t_numbers), (a_i_lateDelays, aI E 400 g_i_lateDelays), (a_i_earlyDelays, aI E 400 g_i_earlyDelays), (a_i_lateSlopes, aI E 100 g_i_lateSlopes), (a_i_earlySlopes, aI E 100 g_i_earlySlopes), (a_t_falls, aI E 8 g_t_falls)]) [0, 1, 2, 3, 9, 10, 11, 4, 5, 6, 7, 8] (by decide) rfl) hS rfl dX6_timeArc_97 (Nat.le_of_ble_eq_true rfl) (Nat.le_of_ble_eq_true rfl) ⟨trivial, g_i_lateDelays, g_i_earlyDelays, g_i_lateSlopes, g_i_earlySlopes, rfl⟩
  · have e_14 : r_13.toInt < 0 := i3_nle c_14
    refine lv_iload hx hb dX6_timeArc_70 (lv_at hl 0 rfl) ?_
    exact ret_i hx hb hr hlk (hP.sub (ws' := [(o_i, .inr (6, [.ref o_n, .ref o_z, .ref o_k, .ref o_t, .ref a_i_reached, .ref a_i_open, .ref a_i_lateDelays, .ref a_i_earlyDelays, .ref a_i_lateSlopes, .ref a_i_earlySlopes, .ref a_i_lateArrivals, .ref a_i_earlyArrivals])), (o_n, .inr (1, [.int f_n_cells, .ref a_n_kinds, .ref a_n_inputs, .ref a_n_tables, .ref a_n_sizes, .ref a_n_extras, .ref a_n_sources, .ref a_n_takers, .ref a_n_firstTaker, .ref a_n_order, .int f_n_ordered, .ref a_n_tally, .ref a_n_behind])), (a_n_tables, aI E 50 g_n_tables), (a_n_sizes, aI E 50 g_n_sizes), (o_t, .inr (5, [.ref a_t_numbers, .ref a_t_lefts, .ref a_t_falls, .int f_t_lateCorner, .int f_t_earlyCorner])), (a_t_lefts, aI E 64 g_t_lefts), (a_t_numbers, aI E 192 g_t_numbers), (a_i_lateDelays, aI E 400 g_i_lateDelays), (a_i_earlyDelays, aI E 400 g_i_earlyDelays), (a_i_lateSlopes, aI E 100 g_i_lateSlopes), (a_i_earlySlopes, aI E 100 g_i_earlySlopes), (a_t_falls, aI E 8 g_t_falls)]) [0, 1, 2, 3, 9, 10, 11, 4, 5, 6, 7, 8] rfl) (hD.sub (ws' := [(o_i, .inr (6, [.ref o_n, .ref o_z, .ref o_k, .ref o_t, .ref a_i_reached, .ref a_i_open, .ref a_i_lateDelays, .ref a_i_earlyDelays, .ref a_i_lateSlopes, .ref a_i_earlySlopes, .ref a_i_lateArrivals, .ref a_i_earlyArrivals])), (o_n, .inr (1, [.int f_n_cells, .ref a_n_kinds, .ref a_n_inputs, .ref a_n_tables, .ref a_n_sizes, .ref a_n_extras, .ref a_n_sources, .ref a_n_takers, .ref a_n_firstTaker, .ref a_n_order, .int f_n_ordered, .ref a_n_tally, .ref a_n_behind])), (a_n_tables, aI E 50 g_n_tables), (a_n_sizes, aI E 50 g_n_sizes), (o_t, .inr (5, [.ref a_t_numbers, .ref a_t_lefts, .ref a_t_falls, .int f_t_lateCorner, .int f_t_earlyCorner])), (a_t_lefts, aI E 64 g_t_lefts), (a_t_numbers, aI E 192 g_t_numbers), (a_i_lateDelays, aI E 400 g_i_lateDelays), (a_i_earlyDelays, aI E 400 g_i_earlyDelays), (a_i_lateSlopes, aI E 100 g_i_lateSlopes), (a_i_earlySlopes, aI E 100 g_i_earlySlopes), (a_t_falls, aI E 8 g_t_falls)]) [0, 1, 2, 3, 9, 10, 11, 4, 5, 6, 7, 8] (by decide) rfl) hS rfl dX6_timeArc_72 (Nat.le_of_ble_eq_true rfl) (Nat.le_of_ble_eq_true rfl) ⟨trivial, g_i_lateDelays, g_i_earlyDelays, g_i_lateSlopes, g_i_earlySlopes, rfl⟩
