theorem dX5_lookUp_0 : decode cX5_lookUp 0 = .ok (.iload_n 3, 1) := by decide +kernel
theorem dX5_lookUp_1 : decode cX5_lookUp 1 = .ok (.getstatic 31, 3) := by decide +kernel
theorem dX5_lookUp_4 : decode cX5_lookUp 4 = .ok (.iconst 3, 1) := by decide +kernel
theorem dX5_lookUp_5 : decode cX5_lookUp 5 = .ok (.iaload, 1) := by decide +kernel
theorem dX5_lookUp_6 : decode cX5_lookUp 6 = .ok (.invokestatic 34, 3) := by decide +kernel
theorem dX5_lookUp_9 : decode cX5_lookUp 9 = .ok (.istore 6, 2) := by decide +kernel
theorem dX5_lookUp_11 : decode cX5_lookUp 11 = .ok (.iload 4, 2) := by decide +kernel
theorem dX5_lookUp_13 : decode cX5_lookUp 13 = .ok (.getstatic 40, 3) := by decide +kernel
theorem dX5_lookUp_16 : decode cX5_lookUp 16 = .ok (.iconst 2, 1) := by decide +kernel
theorem dX5_lookUp_17 : decode cX5_lookUp 17 = .ok (.iaload, 1) := by decide +kernel
theorem dX5_lookUp_18 : decode cX5_lookUp 18 = .ok (.invokestatic 34, 3) := by decide +kernel
theorem dX5_lookUp_21 : decode cX5_lookUp 21 = .ok (.istore 7, 2) := by decide +kernel
theorem dX5_lookUp_23 : decode cX5_lookUp 23 = .ok (.getstatic 31, 3) := by decide +kernel
theorem dX5_lookUp_26 : decode cX5_lookUp 26 = .ok (.iload 6, 2) := by decide +kernel
theorem dX5_lookUp_28 : decode cX5_lookUp 28 = .ok (.invokestatic 43, 3) := by decide +kernel
theorem dX5_lookUp_31 : decode cX5_lookUp 31 = .ok (.istore 8, 2) := by decide +kernel
theorem dX5_lookUp_33 : decode cX5_lookUp 33 = .ok (.getstatic 40, 3) := by decide +kernel
theorem dX5_lookUp_36 : decode cX5_lookUp 36 = .ok (.iload 7, 2) := by decide +kernel
theorem dX5_lookUp_38 : decode cX5_lookUp 38 = .ok (.invokestatic 43, 3) := by decide +kernel
theorem dX5_lookUp_41 : decode cX5_lookUp 41 = .ok (.istore 9, 2) := by decide +kernel
theorem dX5_lookUp_43 : decode cX5_lookUp 43 = .ok (.iload 6, 2) := by decide +kernel
theorem dX5_lookUp_45 : decode cX5_lookUp 45 = .ok (.getstatic 31, 3) := by decide +kernel
theorem dX5_lookUp_48 : decode cX5_lookUp 48 = .ok (.iload 8, 2) := by decide +kernel
theorem dX5_lookUp_50 : decode cX5_lookUp 50 = .ok (.iaload, 1) := by decide +kernel
theorem dX5_lookUp_51 : decode cX5_lookUp 51 = .ok (.isub, 1) := by decide +kernel
theorem dX5_lookUp_52 : decode cX5_lookUp 52 = .ok (.istore 10, 2) := by decide +kernel
theorem dX5_lookUp_54 : decode cX5_lookUp 54 = .ok (.iload 7, 2) := by decide +kernel
theorem dX5_lookUp_56 : decode cX5_lookUp 56 = .ok (.getstatic 40, 3) := by decide +kernel
theorem dX5_lookUp_59 : decode cX5_lookUp 59 = .ok (.iload 9, 2) := by decide +kernel
theorem dX5_lookUp_61 : decode cX5_lookUp 61 = .ok (.iaload, 1) := by decide +kernel
theorem dX5_lookUp_62 : decode cX5_lookUp 62 = .ok (.isub, 1) := by decide +kernel
theorem dX5_lookUp_63 : decode cX5_lookUp 63 = .ok (.istore 11, 2) := by decide +kernel
theorem dX5_lookUp_65 : decode cX5_lookUp 65 = .ok (.iload_n 1, 1) := by decide +kernel
theorem dX5_lookUp_66 : decode cX5_lookUp 66 = .ok (.iload_n 2, 1) := by decide +kernel
theorem dX5_lookUp_67 : decode cX5_lookUp 67 = .ok (.iload 8, 2) := by decide +kernel
theorem dX5_lookUp_69 : decode cX5_lookUp 69 = .ok (.invokestatic 47, 3) := by decide +kernel
theorem dX5_lookUp_72 : decode cX5_lookUp 72 = .ok (.istore 12, 2) := by decide +kernel
theorem dX5_lookUp_74 : decode cX5_lookUp 74 = .ok (.iload 11, 2) := by decide +kernel
theorem dX5_lookUp_76 : decode cX5_lookUp 76 = .ok (.ifCond .le 10, 3) := by decide +kernel
theorem dX5_lookUp_86 : decode cX5_lookUp 86 = .ok (.iload 9, 2) := by decide +kernel
theorem dX5_lookUp_88 : decode cX5_lookUp 88 = .ok (.istore 13, 2) := by decide +kernel
theorem dX5_lookUp_90 : decode cX5_lookUp 90 = .ok (.aload_n 0, 1) := by decide +kernel
theorem dX5_lookUp_91 : decode cX5_lookUp 91 = .ok (.iload 12, 2) := by decide +kernel
theorem dX5_lookUp_93 : decode cX5_lookUp 93 = .ok (.iload 13, 2) := by decide +kernel
theorem dX5_lookUp_95 : decode cX5_lookUp 95 = .ok (.invokevirtual 51, 3) := by decide +kernel
theorem dX5_lookUp_98 : decode cX5_lookUp 98 = .ok (.istore 14, 2) := by decide +kernel
theorem dX5_lookUp_100 : decode cX5_lookUp 100 = .ok (.iload 14, 2) := by decide +kernel
theorem dX5_lookUp_102 : decode cX5_lookUp 102 = .ok (.ifCond .ne 20, 3) := by decide +kernel
theorem dX5_lookUp_122 : decode cX5_lookUp 122 = .ok (.iload 14, 2) := by decide +kernel
theorem dX5_lookUp_124 : decode cX5_lookUp 124 = .ok (.ifCond .eq 6, 3) := by decide +kernel
theorem dX5_lookUp_127 : decode cX5_lookUp 127 = .ok (.iload 14, 2) := by decide +kernel
theorem dX5_lookUp_129 : decode cX5_lookUp 129 = .ok (.ireturn, 1) := by decide +kernel
theorem dX5_lookUp_105 : decode cX5_lookUp 105 = .ok (.iload 10, 2) := by decide +kernel
theorem dX5_lookUp_107 : decode cX5_lookUp 107 = .ok (.ifCond .le 15, 3) := by decide +kernel
theorem dX5_lookUp_130 : decode cX5_lookUp 130 = .ok (.iload 10, 2) := by decide +kernel
theorem dX5_lookUp_132 : decode cX5_lookUp 132 = .ok (.ifCond .le 21, 3) := by decide +kernel
theorem dX5_lookUp_153 : decode cX5_lookUp 153 = .ok (.iconst 1, 1) := by decide +kernel
theorem dX5_lookUp_154 : decode cX5_lookUp 154 = .ok (.istore 15, 2) := by decide +kernel
theorem dX5_lookUp_156 : decode cX5_lookUp 156 = .ok (.iload 11, 2) := by decide +kernel
theorem dX5_lookUp_158 : decode cX5_lookUp 158 = .ok (.ifCond .le 21, 3) := by decide +kernel
theorem dX5_lookUp_179 : decode cX5_lookUp 179 = .ok (.iconst 1, 1) := by decide +kernel
theorem dX5_lookUp_180 : decode cX5_lookUp 180 = .ok (.istore 16, 2) := by decide +kernel
theorem dX5_lookUp_182 : decode cX5_lookUp 182 = .ok (.iload 15, 2) := by decide +kernel
theorem dX5_lookUp_184 : decode cX5_lookUp 184 = .ok (.iload 10, 2) := by decide +kernel
theorem dX5_lookUp_186 : decode cX5_lookUp 186 = .ok (.isub, 1) := by decide +kernel
theorem dX5_lookUp_187 : decode cX5_lookUp 187 = .ok (.aload_n 0, 1) := by decide +kernel
theorem dX5_lookUp_188 : decode cX5_lookUp 188 = .ok (.iload 12, 2) := by decide +kernel
theorem dX5_lookUp_190 : decode cX5_lookUp 190 = .ok (.iload 9, 2) := by decide +kernel
theorem dX5_lookUp_192 : decode cX5_lookUp 192 = .ok (.iload 11, 2) := by decide +kernel
theorem dX5_lookUp_194 : decode cX5_lookUp 194 = .ok (.iload 16, 2) := by decide +kernel
theorem dX5_lookUp_196 : decode cX5_lookUp 196 = .ok (.invokevirtual 54, 3) := by decide +kernel
theorem dX5_lookUp_199 : decode cX5_lookUp 199 = .ok (.imul, 1) := by decide +kernel
theorem dX5_lookUp_200 : decode cX5_lookUp 200 = .ok (.istore 17, 2) := by decide +kernel
theorem dX5_lookUp_202 : decode cX5_lookUp 202 = .ok (.iload 10, 2) := by decide +kernel
theorem dX5_lookUp_204 : decode cX5_lookUp 204 = .ok (.ifCond .le 25, 3) := by decide +kernel
theorem dX5_lookUp_229 : decode cX5_lookUp 229 = .ok (.iload 15, 2) := by decide +kernel
theorem dX5_lookUp_231 : decode cX5_lookUp 231 = .ok (.iload 16, 2) := by decide +kernel
theorem dX5_lookUp_233 : decode cX5_lookUp 233 = .ok (.imul, 1) := by decide +kernel
theorem dX5_lookUp_234 : decode cX5_lookUp 234 = .ok (.istore 18, 2) := by decide +kernel
theorem dX5_lookUp_236 : decode cX5_lookUp 236 = .ok (.iload 5, 2) := by decide +kernel
theorem dX5_lookUp_238 : decode cX5_lookUp 238 = .ok (.ifCond .eq 16, 3) := by decide +kernel
theorem dX5_lookUp_254 : decode cX5_lookUp 254 = .ok (.iload 17, 2) := by decide +kernel
theorem dX5_lookUp_256 : decode cX5_lookUp 256 = .ok (.iload 18, 2) := by decide +kernel
theorem dX5_lookUp_258 : decode cX5_lookUp 258 = .ok (.idiv, 1) := by decide +kernel
theorem dX5_lookUp_259 : decode cX5_lookUp 259 = .ok (.ireturn, 1) := by decide +kernel
theorem dX5_lookUp_241 : decode cX5_lookUp 241 = .ok (.iload 17, 2) := by decide +kernel
theorem dX5_lookUp_243 : decode cX5_lookUp 243 = .ok (.iload 18, 2) := by decide +kernel
theorem dX5_lookUp_245 : decode cX5_lookUp 245 = .ok (.iadd, 1) := by decide +kernel
theorem dX5_lookUp_246 : decode cX5_lookUp 246 = .ok (.iconst 1, 1) := by decide +kernel
theorem dX5_lookUp_247 : decode cX5_lookUp 247 = .ok (.isub, 1) := by decide +kernel
theorem dX5_lookUp_248 : decode cX5_lookUp 248 = .ok (.iload 18, 2) := by decide +kernel
theorem dX5_lookUp_250 : decode cX5_lookUp 250 = .ok (.idiv, 1) := by decide +kernel
theorem dX5_lookUp_251 : decode cX5_lookUp 251 = .ok (.goto 8, 3) := by decide +kernel
theorem dX5_lookUp_110 : decode cX5_lookUp 110 = .ok (.aload_n 0, 1) := by decide +kernel
theorem dX5_lookUp_111 : decode cX5_lookUp 111 = .ok (.iload 12, 2) := by decide +kernel
theorem dX5_lookUp_113 : decode cX5_lookUp 113 = .ok (.iconst 1, 1) := by decide +kernel
theorem dX5_lookUp_114 : decode cX5_lookUp 114 = .ok (.iadd, 1) := by decide +kernel
theorem dX5_lookUp_115 : decode cX5_lookUp 115 = .ok (.iload 13, 2) := by decide +kernel
theorem dX5_lookUp_117 : decode cX5_lookUp 117 = .ok (.invokevirtual 51, 3) := by decide +kernel
theorem dX5_lookUp_120 : decode cX5_lookUp 120 = .ok (.istore 14, 2) := by decide +kernel
theorem dX5_lookUp_135 : decode cX5_lookUp 135 = .ok (.getstatic 31, 3) := by decide +kernel
theorem dX5_lookUp_138 : decode cX5_lookUp 138 = .ok (.iload 8, 2) := by decide +kernel
theorem dX5_lookUp_140 : decode cX5_lookUp 140 = .ok (.iconst 1, 1) := by decide +kernel
theorem dX5_lookUp_141 : decode cX5_lookUp 141 = .ok (.iadd, 1) := by decide +kernel
theorem dX5_lookUp_142 : decode cX5_lookUp 142 = .ok (.iaload, 1) := by decide +kernel
theorem dX5_lookUp_143 : decode cX5_lookUp 143 = .ok (.getstatic 31, 3) := by decide +kernel
theorem dX5_lookUp_146 : decode cX5_lookUp 146 = .ok (.iload 8, 2) := by decide +kernel
theorem dX5_lookUp_148 : decode cX5_lookUp 148 = .ok (.iaload, 1) := by decide +kernel
theorem dX5_lookUp_149 : decode cX5_lookUp 149 = .ok (.isub, 1) := by decide +kernel
theorem dX5_lookUp_150 : decode cX5_lookUp 150 = .ok (.goto 4, 3) := by decide +kernel
theorem dX5_lookUp_207 : decode cX5_lookUp 207 = .ok (.iload 17, 2) := by decide +kernel
theorem dX5_lookUp_209 : decode cX5_lookUp 209 = .ok (.iload 10, 2) := by decide +kernel
theorem dX5_lookUp_211 : decode cX5_lookUp 211 = .ok (.aload_n 0, 1) := by decide +kernel
theorem dX5_lookUp_212 : decode cX5_lookUp 212 = .ok (.iload 12, 2) := by decide +kernel
theorem dX5_lookUp_214 : decode cX5_lookUp 214 = .ok (.iconst 1, 1) := by decide +kernel
theorem dX5_lookUp_215 : decode cX5_lookUp 215 = .ok (.iadd, 1) := by decide +kernel
theorem dX5_lookUp_216 : decode cX5_lookUp 216 = .ok (.iload 9, 2) := by decide +kernel
theorem dX5_lookUp_218 : decode cX5_lookUp 218 = .ok (.iload 11, 2) := by decide +kernel
theorem dX5_lookUp_220 : decode cX5_lookUp 220 = .ok (.iload 16, 2) := by decide +kernel
theorem dX5_lookUp_222 : decode cX5_lookUp 222 = .ok (.invokevirtual 54, 3) := by decide +kernel
theorem dX5_lookUp_225 : decode cX5_lookUp 225 = .ok (.imul, 1) := by decide +kernel
theorem dX5_lookUp_226 : decode cX5_lookUp 226 = .ok (.iadd, 1) := by decide +kernel
theorem dX5_lookUp_227 : decode cX5_lookUp 227 = .ok (.istore 17, 2) := by decide +kernel
theorem dX5_lookUp_79 : decode cX5_lookUp 79 = .ok (.iload 9, 2) := by decide +kernel
theorem dX5_lookUp_81 : decode cX5_lookUp 81 = .ok (.iconst 1, 1) := by decide +kernel
theorem dX5_lookUp_82 : decode cX5_lookUp 82 = .ok (.iadd, 1) := by decide +kernel
theorem dX5_lookUp_83 : decode cX5_lookUp 83 = .ok (.goto 5, 3) := by decide +kernel
theorem dX5_lookUp_161 : decode cX5_lookUp 161 = .ok (.getstatic 40, 3) := by decide +kernel
theorem dX5_lookUp_164 : decode cX5_lookUp 164 = .ok (.iload 9, 2) := by decide +kernel
theorem dX5_lookUp_166 : decode cX5_lookUp 166 = .ok (.iconst 1, 1) := by decide +kernel
theorem dX5_lookUp_167 : decode cX5_lookUp 167 = .ok (.iadd, 1) := by decide +kernel
theorem dX5_lookUp_168 : decode cX5_lookUp 168 = .ok (.iaload, 1) := by decide +kernel
theorem dX5_lookUp_169 : decode cX5_lookUp 169 = .ok (.getstatic 40, 3) := by decide +kernel
theorem dX5_lookUp_172 : decode cX5_lookUp 172 = .ok (.iload 9, 2) := by decide +kernel
theorem dX5_lookUp_174 : decode cX5_lookUp 174 = .ok (.iaload, 1) := by decide +kernel
theorem dX5_lookUp_175 : decode cX5_lookUp 175 = .ok (.isub, 1) := by decide +kernel
theorem dX5_lookUp_176 : decode cX5_lookUp 176 = .ok (.goto 4, 3) := by decide +kernel
def wo_q_lookUp : List Cond := [.code yX5_lookUp cX5_lookUp 19 (some .int), .fieldLink RX5 31 "TimingHouse$Tables" "LOAD_MARKS" "[I", .methodLink RX5 34 Lib.Math.min.name, .static Lib.Math.min.name, .initialized "java/lang/Math", .code Lib.Math.min.name Lib.Math.min.code 2 (some .int), .fieldLink RX5 40 "TimingHouse$Tables" "SLOPE_MARKS" "[I", .methodLink RX5 43 yX5_lastNotAbove, .static yX5_lastNotAbove, .initialized RX5, .methodLink RX5 47 yX5_rowPlace, .static yX5_rowPlace, .methodLink RX5 51 yX5_whyAbsent, .instanceMethod yX5_whyAbsent, .selects RX5 yX5_whyAbsent yX5_whyAbsent, .methodLink RX5 54 yX5_weighRow, .instanceMethod yX5_weighRow, .selects RX5 yX5_weighRow yX5_weighRow]
def wr_q_lookUp : List Cond := (w_q_lastLoad ++ (w_q_lastSlope ++ (w_q_rowPlace ++ (w_q_whyAbsent ++ (w_q_weighRow1 ++ (w_q_weighRow2 ++ ([])))))))
def w_q_lookUp : List Cond := wo_q_lookUp ++ wr_q_lookUp
theorem wg_q_lookUp : GW w_q_lookUp := GW_app (GW_of (by decide +kernel)) (GW_app (wg_q_lastLoad) (GW_app (wg_q_lastSlope) (GW_app (wg_q_rowPlace) (GW_app (wg_q_whyAbsent) (GW_app (wg_q_weighRow1) (GW_app (wg_q_weighRow2) (GW_nil)))))))
theorem g_q_lookUp_q_lastLoad_43 : GoodIn w_q_lookUp (va_wsS RX5 43 yX5_lastNotAbove w_q_lastLoad) := goodIn_app (gi_left (goodIn_of _ (by decide +kernel))) (fun w h => ⟨List.mem_append_right _ (List.mem_append_left _ h), wg_q_lastLoad w h⟩)
theorem g_q_lookUp_q_lastSlope_43 : GoodIn w_q_lookUp (va_wsS RX5 43 yX5_lastNotAbove w_q_lastSlope) := goodIn_app (gi_left (goodIn_of _ (by decide +kernel))) (fun w h => ⟨List.mem_append_right _ (List.mem_append_right _ (List.mem_append_left _ h)), wg_q_lastSlope w h⟩)
theorem g_q_lookUp_q_rowPlace_47 : GoodIn w_q_lookUp (va_wsS RX5 47 yX5_rowPlace w_q_rowPlace) := goodIn_app (gi_left (goodIn_of _ (by decide +kernel))) (fun w h => ⟨List.mem_append_right _ (List.mem_append_right _ (List.mem_append_right _ (List.mem_append_left _ h))), wg_q_rowPlace w h⟩)
theorem g_q_lookUp_q_whyAbsent_51 : GoodIn w_q_lookUp (wsV RX5 51 RX5 yX5_whyAbsent w_q_whyAbsent) := goodIn_app (gi_left (goodIn_of _ (by decide +kernel))) (fun w h => ⟨List.mem_append_right _ (List.mem_append_right _ (List.mem_append_right _ (List.mem_append_right _ (List.mem_append_left _ h)))), wg_q_whyAbsent w h⟩)
theorem g_q_lookUp_q_weighRow1_54 : GoodIn w_q_lookUp (wsV RX5 54 RX5 yX5_weighRow w_q_weighRow1) := goodIn_app (gi_left (goodIn_of _ (by decide +kernel))) (fun w h => ⟨List.mem_append_right _ (List.mem_append_right _ (List.mem_append_right _ (List.mem_append_right _ (List.mem_append_right _ (List.mem_append_left _ h))))), wg_q_weighRow1 w h⟩)
theorem g_q_lookUp_q_weighRow2_54 : GoodIn w_q_lookUp (wsV RX5 54 RX5 yX5_weighRow w_q_weighRow2) := goodIn_app (gi_left (goodIn_of _ (by decide +kernel))) (fun w h => ⟨List.mem_append_right _ (List.mem_append_right _ (List.mem_append_right _ (List.mem_append_right _ (List.mem_append_right _ (List.mem_append_right _ (List.mem_append_left _ h)))))), wg_q_weighRow2 w h⟩)
set_option maxHeartbeats 8000000 in
set_option maxRecDepth 100000 in
theorem q_lookUp (l : Launch) (E : gE) (o_t a_t_numbers a_t_lefts a_t_falls : Nat) (f_t_lateCorner f_t_earlyCorner p1 p2 p3 p4 p5 : Int32) (g_t_lefts : Nat → Int32) (g_t_numbers : Nat → Int32) (r_f_t_lateCorner : RG f_t_lateCorner 0 500) (r_f_t_earlyCorner : RG f_t_earlyCorner 0 500) (i_g_t_lefts : AR g_t_lefts 64 0 3) (i_g_t_numbers : AR g_t_numbers 192 0 3000) (r_p1 : RG p1 0 7) (r_p2 : RG p2 0 1) (r_p5 : RG p5 0 1) : CtI l E yX5_lookUp w_q_lookUp ({ frames := 1, cells := 0, slots := 0, locals := 26 }) [(o_t, .inr (5, [.ref a_t_numbers, .ref a_t_lefts, .ref a_t_falls, .int f_t_lateCorner, .int f_t_earlyCorner])), (a_t_lefts, aI E 64 g_t_lefts), (a_t_numbers, aI E 192 g_t_numbers)] [.ref o_t, .int p1, .int p2, .int p3, .int p4, .int p5] (fun _ w => True ∧ w = [(o_t, .inr (5, [.ref a_t_numbers, .ref a_t_lefts, .ref a_t_falls, .int f_t_lateCorner, .int f_t_earlyCorner])), (a_t_lefts, aI E 64 g_t_lefts), (a_t_numbers, aI E 192 g_t_numbers)]) := by
  refine CtI.of (cc := cX5_lookUp) (maxL := 19) (rt := (some .int)) (by decide) rfl (Nat.le_of_ble_eq_true rfl) ?_
  intro p e s m below meth c A B ls hl
  obtain ⟨hx, hb, hml, hr, hlk, hin, hts, hown, hK, hN, hZ, hA, hP, hD, hS⟩ := B
  replace hown : s.vm.findClass RX5 = some m.cls := hown
  have hto : ∀ w ∈ wo_q_lookUp, w.before _ s = true := fun w h => hts w (List.mem_append_left _ h)
  replace hl : lv_has ls 19 [(0, .ref o_t), (1, .int p1), (2, .int p2), (3, .int p3), (4, .int p4), (5, .int p5)] := hl
  obtain ⟨H, hHe⟩ : ∃ H, H = s.heap := ⟨_, rfl⟩
  obtain ⟨locs, hle⟩ : ∃ l : List Loc, l = [] := ⟨_, rfl⟩
  replace hS : va_S A s.heap H locs := by rw [hHe, hle]; exact hS
  replace hP : va_P E.1 vwCl [(o_t, .inr (5, [.ref a_t_numbers, .ref a_t_lefts, .ref a_t_falls, .int f_t_lateCorner, .int f_t_earlyCorner])), (a_t_lefts, aI E 64 g_t_lefts), (a_t_numbers, aI E 192 g_t_numbers)] H := by rw [hHe]; exact hP
  refine W_hl hHe hle ?_
  clear hHe hle
  refine lv_iload_n hx hb dX5_lookUp_0 rfl (lv_at hl 3 rfl) ?_
  refine va_gets (C := "TimingHouse$Tables") (n := "LOAD_MARKS") (d := "[I") (own := RX5) (ref := "TimingHouse$Tables") hx hb hZ.1.1 hS hown (hto (.fieldLink RX5 31 "TimingHouse$Tables" "LOAD_MARKS" "[I") (by decide +kernel)) (fun _ h9 => h9) dX5_lookUp_1 ?_
  refine lv_iconst (v := 3) hx hb dX5_lookUp_4 (by decide) ?_
  refine va_ti (v := .int 64) hx hb hZ.1.2 hS (i3_in (by decide)) rfl dX5_lookUp_5 ?_
  refine va_mmin hx hb (hml.trans hl.1.symm) hown (hto (.methodLink RX5 34 Lib.Math.min.name) (by decide +kernel)) (hto (.static Lib.Math.min.name) (by decide +kernel)) (hto (.initialized "java/lang/Math") (by decide +kernel)) (hto (.code Lib.Math.min.name Lib.Math.min.code 2 (some .int)) (by decide +kernel)) (Nat.le_of_ble_eq_true rfl) (Nat.le_of_ble_eq_true rfl) (Nat.zero_le _) (Nat.zero_le _) dX5_lookUp_6 ?_
  refine lv_topi (fun x_1 ex_1 => ?_)
  have m_x_1 : (x_1.toInt ≤ p3.toInt ∧ x_1.toInt ≤ 64) ∧ (x_1.toInt = p3.toInt ∨ x_1.toInt = 64) := i3_min ex_1
  have bd_2 := i3_bd p3
  refine lv_istore (lv' := [(6, .int x_1), (0, .ref o_t), (1, .int p1), (2, .int p2), (3, .int p3), (4, .int p4), (5, .int p5)]) hx hb dX5_lookUp_9 hl (by decide) rfl (fun ls hl => ?_)
  refine lv_iload hx hb dX5_lookUp_11 (lv_at hl 5 rfl) ?_
  refine va_gets (C := "TimingHouse$Tables") (n := "SLOPE_MARKS") (d := "[I") (own := RX5) (ref := "TimingHouse$Tables") hx hb hZ.2.1.1 hS hown (hto (.fieldLink RX5 40 "TimingHouse$Tables" "SLOPE_MARKS" "[I") (by decide +kernel)) (fun _ h9 => h9) dX5_lookUp_13 ?_
  refine lv_iconst (v := 2) hx hb dX5_lookUp_16 (by decide) ?_
  refine va_ti (v := .int 64) hx hb hZ.2.1.2 hS (i3_in (by decide)) rfl dX5_lookUp_17 ?_
  refine va_mmin hx hb (hml.trans hl.1.symm) hown (hto (.methodLink RX5 34 Lib.Math.min.name) (by decide +kernel)) (hto (.static Lib.Math.min.name) (by decide +kernel)) (hto (.initialized "java/lang/Math") (by decide +kernel)) (hto (.code Lib.Math.min.name Lib.Math.min.code 2 (some .int)) (by decide +kernel)) (Nat.le_of_ble_eq_true rfl) (Nat.le_of_ble_eq_true rfl) (Nat.zero_le _) (Nat.zero_le _) dX5_lookUp_18 ?_
  refine lv_topi (fun x_3 ex_3 => ?_)
  have m_x_3 : (x_3.toInt ≤ p4.toInt ∧ x_3.toInt ≤ 64) ∧ (x_3.toInt = p4.toInt ∨ x_3.toInt = 64) := i3_min ex_3
  have bd_4 := i3_bd p4
  refine lv_istore (lv' := [(7, .int x_3), (6, .int x_1), (0, .ref o_t), (1, .int p1), (2, .int p2), (3, .int p3), (4, .int p4), (5, .int p5)]) hx hb dX5_lookUp_21 hl (by decide) rfl (fun ls hl => ?_)
  refine va_gets (C := "TimingHouse$Tables") (n := "LOAD_MARKS") (d := "[I") (own := RX5) (ref := "TimingHouse$Tables") hx hb hZ.1.1 hS hown (hto (.fieldLink RX5 31 "TimingHouse$Tables" "LOAD_MARKS" "[I") (by decide +kernel)) (fun _ h9 => h9) dX5_lookUp_23 ?_
  refine lv_iload hx hb dX5_lookUp_26 (lv_at hl 1 rfl) ?_
  refine call_i (va_runS (As := [.ref E.2.2.2.2.1, .int x_1]) (rest := []) ⟨hx, hb, hml, hown, hts⟩ (q_lastLoad l E x_1 H.size) (va_cwS 2 hts g_q_lookUp_q_lastLoad_43 rfl rfl rfl (by decide +kernel) ⟨Nat.le_of_ble_eq_true rfl, Nat.le_of_ble_eq_true rfl⟩) (pre_S hK hN hZ hS (va_free hD hS hA [] rfl) (hP.sub (ws' := []) [] rfl) (hD.sub (ws' := []) [] (by decide) rfl)) rfl rfl hl.1 rfl (lv_room (Nat.le_of_ble_eq_true rfl)) dX5_lookUp_28 ⟨Nat.le_of_ble_eq_true rfl, Nat.le_of_ble_eq_true rfl⟩) hP hD hS hA [] [0, 1, 2] (wr := [(o_t, .inr (5, [.ref a_t_numbers, .ref a_t_lefts, .ref a_t_falls, .int f_t_lateCorner, .int f_t_earlyCorner])), (a_t_lefts, aI E 64 g_t_lefts), (a_t_numbers, aI E 192 g_t_numbers)]) rfl rfl (by decide) (by decide) (fun r_5 w H locs hw hP hD hS => ?_)
  obtain ⟨b_r_5, l_r_5, rfl⟩ := hw
  replace l_r_5 : ((r_5.toInt = 1 → 8 ≤ x_1.toInt) ∧ (r_5.toInt = 2 → 24 ≤ x_1.toInt) ∧ (r_5.toInt = 3 → 64 ≤ x_1.toInt)) := l_r_5
  replace hP : va_P E.1 vwCl [(o_t, .inr (5, [.ref a_t_numbers, .ref a_t_lefts, .ref a_t_falls, .int f_t_lateCorner, .int f_t_earlyCorner])), (a_t_lefts, aI E 64 g_t_lefts), (a_t_numbers, aI E 192 g_t_numbers)] H := hP
  replace hD : va_D A [(o_t, .inr (5, [.ref a_t_numbers, .ref a_t_lefts, .ref a_t_falls, .int f_t_lateCorner, .int f_t_earlyCorner])), (a_t_lefts, aI E 64 g_t_lefts), (a_t_numbers, aI E 192 g_t_numbers)] := hD
  refine lv_istore (lv' := [(8, .int r_5), (7, .int x_3), (6, .int x_1), (0, .ref o_t), (1, .int p1), (2, .int p2), (3, .int p3), (4, .int p4), (5, .int p5)]) hx hb dX5_lookUp_31 hl (by decide) rfl (fun ls hl => ?_)
  refine va_gets (C := "TimingHouse$Tables") (n := "SLOPE_MARKS") (d := "[I") (own := RX5) (ref := "TimingHouse$Tables") hx hb hZ.2.1.1 hS hown (hto (.fieldLink RX5 40 "TimingHouse$Tables" "SLOPE_MARKS" "[I") (by decide +kernel)) (fun _ h9 => h9) dX5_lookUp_33 ?_
  refine lv_iload hx hb dX5_lookUp_36 (lv_at hl 1 rfl) ?_
  refine call_i (va_runS (As := [.ref E.2.2.2.2.2.1, .int x_3]) (rest := []) ⟨hx, hb, hml, hown, hts⟩ (q_lastSlope l E x_3 H.size) (va_cwS 2 hts g_q_lookUp_q_lastSlope_43 rfl rfl rfl (by decide +kernel) ⟨Nat.le_of_ble_eq_true rfl, Nat.le_of_ble_eq_true rfl⟩) (pre_S hK hN hZ hS (va_free hD hS hA [] rfl) (hP.sub (ws' := []) [] rfl) (hD.sub (ws' := []) [] (by decide) rfl)) rfl rfl hl.1 rfl (lv_room (Nat.le_of_ble_eq_true rfl)) dX5_lookUp_38 ⟨Nat.le_of_ble_eq_true rfl, Nat.le_of_ble_eq_true rfl⟩) hP hD hS hA [] [0, 1, 2] (wr := [(o_t, .inr (5, [.ref a_t_numbers, .ref a_t_lefts, .ref a_t_falls, .int f_t_lateCorner, .int f_t_earlyCorner])), (a_t_lefts, aI E 64 g_t_lefts), (a_t_numbers, aI E 192 g_t_numbers)]) rfl rfl (by decide) (by decide) (fun r_6 w H locs hw hP hD hS => ?_)
  obtain ⟨b_r_6, l_r_6, rfl⟩ := hw
  replace l_r_6 : ((r_6.toInt = 1 → 16 ≤ x_3.toInt) ∧ (r_6.toInt = 2 → 64 ≤ x_3.toInt)) := l_r_6
  replace hP : va_P E.1 vwCl [(o_t, .inr (5, [.ref a_t_numbers, .ref a_t_lefts, .ref a_t_falls, .int f_t_lateCorner, .int f_t_earlyCorner])), (a_t_lefts, aI E 64 g_t_lefts), (a_t_numbers, aI E 192 g_t_numbers)] H := hP
  replace hD : va_D A [(o_t, .inr (5, [.ref a_t_numbers, .ref a_t_lefts, .ref a_t_falls, .int f_t_lateCorner, .int f_t_earlyCorner])), (a_t_lefts, aI E 64 g_t_lefts), (a_t_numbers, aI E 192 g_t_numbers)] := hD
  refine lv_istore (lv' := [(9, .int r_6), (8, .int r_5), (7, .int x_3), (6, .int x_1), (0, .ref o_t), (1, .int p1), (2, .int p2), (3, .int p3), (4, .int p4), (5, .int p5)]) hx hb dX5_lookUp_41 hl (by decide) rfl (fun ls hl => ?_)
  rcases (show r_5.toInt = 0 ∨ r_5.toInt = 1 ∨ r_5.toInt = 2 ∨ r_5.toInt = 3 by omega) with h_7 | h_7 | h_7 | h_7
  · have hs_h_7 := i3_cs (c := 0) h_7 (by decide)
    subst hs_h_7
    have hk_h_7 : (0 : Int32).toInt = 0 := rfl
    rcases (show r_6.toInt = 0 ∨ r_6.toInt = 1 ∨ r_6.toInt = 2 by omega) with h_8 | h_8 | h_8
    · have hs_h_8 := i3_cs (c := 0) h_8 (by decide)
      subst hs_h_8
      have hk_h_8 : (0 : Int32).toInt = 0 := rfl
      refine lv_iload hx hb dX5_lookUp_43 (lv_at hl 3 rfl) ?_
      refine va_gets (C := "TimingHouse$Tables") (n := "LOAD_MARKS") (d := "[I") (own := RX5) (ref := "TimingHouse$Tables") hx hb hZ.1.1 hS hown (hto (.fieldLink RX5 31 "TimingHouse$Tables" "LOAD_MARKS" "[I") (by decide +kernel)) (fun _ h9 => h9) dX5_lookUp_45 ?_
      refine lv_iload hx hb dX5_lookUp_48 (lv_at hl 1 rfl) ?_
      refine va_ti (v := .int 0) hx hb hZ.1.2 hS (i3_in (by decide)) rfl dX5_lookUp_50 ?_
      refine lv_isub hx hb dX5_lookUp_51 ?_
      refine lv_topi (fun x_9 ex_9 => ?_)
      have tx_9 : x_9.toInt = x_1.toInt - 0 := i3_subc rfl rfl ex_9 (by omega)
      refine lv_istore (lv' := [(10, .int x_9), (9, .int 0), (8, .int 0), (7, .int x_3), (6, .int x_1), (0, .ref o_t), (1, .int p1), (2, .int p2), (3, .int p3), (4, .int p4), (5, .int p5)]) hx hb dX5_lookUp_52 hl (by decide) rfl (fun ls hl => ?_)
      refine lv_iload hx hb dX5_lookUp_54 (lv_at hl 3 rfl) ?_
      refine va_gets (C := "TimingHouse$Tables") (n := "SLOPE_MARKS") (d := "[I") (own := RX5) (ref := "TimingHouse$Tables") hx hb hZ.2.1.1 hS hown (hto (.fieldLink RX5 40 "TimingHouse$Tables" "SLOPE_MARKS" "[I") (by decide +kernel)) (fun _ h9 => h9) dX5_lookUp_56 ?_
      refine lv_iload hx hb dX5_lookUp_59 (lv_at hl 1 rfl) ?_
      refine va_ti (v := .int 0) hx hb hZ.2.1.2 hS (i3_in (by decide)) rfl dX5_lookUp_61 ?_
      refine lv_isub hx hb dX5_lookUp_62 ?_
      refine lv_topi (fun x_10 ex_10 => ?_)
      have tx_10 : x_10.toInt = x_3.toInt - 0 := i3_subc rfl rfl ex_10 (by omega)
      refine lv_istore (lv' := [(11, .int x_10), (10, .int x_9), (9, .int 0), (8, .int 0), (7, .int x_3), (6, .int x_1), (0, .ref o_t), (1, .int p1), (2, .int p2), (3, .int p3), (4, .int p4), (5, .int p5)]) hx hb dX5_lookUp_63 hl (by decide) rfl (fun ls hl => ?_)
      refine lv_iload_n hx hb dX5_lookUp_65 rfl (lv_at hl 7 rfl) ?_
      refine lv_iload_n hx hb dX5_lookUp_66 rfl (lv_at hl 8 rfl) ?_
      refine lv_iload hx hb dX5_lookUp_67 (lv_at hl 3 rfl) ?_
      have b_p1 := r_p1.out
      have b_p2 := r_p2.out
      refine call_i (va_runS (As := [.int p1, .int p2, .int 0]) (rest := []) ⟨hx, hb, hml, hown, hts⟩ (q_rowPlace l E p1 p2 0 r_p1 r_p2 (RG.mk (by decide)) H.size) (va_cwS 3 hts g_q_lookUp_q_rowPlace_47 rfl rfl rfl (by decide +kernel) ⟨Nat.le_of_ble_eq_true rfl, Nat.le_of_ble_eq_true rfl⟩) (pre_S hK hN hZ hS (va_free hD hS hA [] rfl) (hP.sub (ws' := []) [] rfl) (hD.sub (ws' := []) [] (by decide) rfl)) rfl rfl hl.1 rfl (lv_room (Nat.le_of_ble_eq_true rfl)) dX5_lookUp_69 ⟨Nat.le_of_ble_eq_true rfl, Nat.le_of_ble_eq_true rfl⟩) hP hD hS hA [] [0, 1, 2] (wr := [(o_t, .inr (5, [.ref a_t_numbers, .ref a_t_lefts, .ref a_t_falls, .int f_t_lateCorner, .int f_t_earlyCorner])), (a_t_lefts, aI E 64 g_t_lefts), (a_t_numbers, aI E 192 g_t_numbers)]) rfl rfl (by decide) (by decide) (fun r_11 w H locs hw hP hD hS => ?_)
      obtain ⟨b_r_11, l_r_11, rfl⟩ := hw
      replace l_r_11 : r_11.toInt = (p1.toInt * 2 + p2.toInt) * 4 + 0 := l_r_11
      replace hP : va_P E.1 vwCl [(o_t, .inr (5, [.ref a_t_numbers, .ref a_t_lefts, .ref a_t_falls, .int f_t_lateCorner, .int f_t_earlyCorner])), (a_t_lefts, aI E 64 g_t_lefts), (a_t_numbers, aI E 192 g_t_numbers)] H := hP
      replace hD : va_D A [(o_t, .inr (5, [.ref a_t_numbers, .ref a_t_lefts, .ref a_t_falls, .int f_t_lateCorner, .int f_t_earlyCorner])), (a_t_lefts, aI E 64 g_t_lefts), (a_t_numbers, aI E 192 g_t_numbers)] := hD
      refine lv_istore (lv' := [(12, .int r_11), (11, .int x_10), (10, .int x_9), (9, .int 0), (8, .int 0), (7, .int x_3), (6, .int x_1), (0, .ref o_t), (1, .int p1), (2, .int p2), (3, .int p3), (4, .int p4), (5, .int p5)]) hx hb dX5_lookUp_72 hl (by decide) rfl (fun ls hl => ?_)
      refine lv_iload hx hb dX5_lookUp_74 (lv_at hl 1 rfl) ?_
      refine lv_if_le (tgt := 86) hx hb dX5_lookUp_76 (by decide) (fun c_12 => ?_) (fun c_12 => ?_)
      · have e_12 : x_10.toInt ≤ 0 := i3_le c_12
        refine lv_iload hx hb dX5_lookUp_86 (lv_at hl 3 rfl) ?_
        refine lv_istore (lv' := [(13, .int 0), (12, .int r_11), (11, .int x_10), (10, .int x_9), (9, .int 0), (8, .int 0), (7, .int x_3), (6, .int x_1), (0, .ref o_t), (1, .int p1), (2, .int p2), (3, .int p3), (4, .int p4), (5, .int p5)]) hx hb dX5_lookUp_88 hl (by decide) rfl (fun ls hl => ?_)
        refine lv_aload_n hx hb dX5_lookUp_90 rfl (lv_at hl 8 rfl) ?_
        refine lv_iload hx hb dX5_lookUp_91 (lv_at hl 1 rfl) ?_
        refine lv_iload hx hb dX5_lookUp_93 (lv_at hl 0 rfl) ?_
        refine call_i (va_runV (As := [.int r_11, .int 0]) (rest := []) ⟨hx, hb, hml, hown, hts⟩ (q_whyAbsent l E o_t a_t_numbers a_t_lefts a_t_falls f_t_lateCorner f_t_earlyCorner r_11 0 g_t_lefts r_f_t_lateCorner r_f_t_earlyCorner i_g_t_lefts (RG.mk (by omega)) H.size) (cwV 2 hts g_q_lookUp_q_whyAbsent_51 rfl rfl rfl (by decide +kernel) ⟨Nat.le_of_ble_eq_true rfl, Nat.le_of_ble_eq_true rfl⟩) (pre_V hK hN hZ hS (va_free hD hS hA [0, 1] rfl) (hP.sub (ws' := [(o_t, .inr (5, [.ref a_t_numbers, .ref a_t_lefts, .ref a_t_falls, .int f_t_lateCorner, .int f_t_earlyCorner])), (a_t_lefts, aI E 64 g_t_lefts)]) [0, 1] rfl) (hD.sub (ws' := [(o_t, .inr (5, [.ref a_t_numbers, .ref a_t_lefts, .ref a_t_falls, .int f_t_lateCorner, .int f_t_earlyCorner])), (a_t_lefts, aI E 64 g_t_lefts)]) [0, 1] (by decide) rfl) (ci := 5) (q0 := 0) rfl rfl) rfl rfl hl.1 rfl (lv_room (Nat.le_of_ble_eq_true rfl)) dX5_lookUp_95 ⟨Nat.le_of_ble_eq_true rfl, Nat.le_of_ble_eq_true rfl⟩) hP hD hS hA [0, 1] [2] (wr := [(a_t_numbers, aI E 192 g_t_numbers)]) rfl rfl (by decide) (by decide) (fun r_13 w H locs hw hP hD hS => ?_)
        obtain ⟨b_r_13, rfl⟩ := hw
        replace hP : va_P E.1 vwCl [(a_t_numbers, aI E 192 g_t_numbers), (o_t, .inr (5, [.ref a_t_numbers, .ref a_t_lefts, .ref a_t_falls, .int f_t_lateCorner, .int f_t_earlyCorner])), (a_t_lefts, aI E 64 g_t_lefts)] H := hP
        replace hD : va_D A [(a_t_numbers, aI E 192 g_t_numbers), (o_t, .inr (5, [.ref a_t_numbers, .ref a_t_lefts, .ref a_t_falls, .int f_t_lateCorner, .int f_t_earlyCorner])), (a_t_lefts, aI E 64 g_t_lefts)] := hD
        refine lv_istore (lv' := [(14, .int r_13), (13, .int 0), (12, .int r_11), (11, .int x_10), (10, .int x_9), (9, .int 0), (8, .int 0), (7, .int x_3), (6, .int x_1), (0, .ref o_t), (1, .int p1), (2, .int p2), (3, .int p3), (4, .int p4), (5, .int p5)]) hx hb dX5_lookUp_98 hl (by decide) rfl (fun ls hl => ?_)
        refine lv_iload hx hb dX5_lookUp_100 (lv_at hl 0 rfl) ?_
        refine lv_if_ne (tgt := 122) hx hb dX5_lookUp_102 (by decide) (fun c_14 => ?_) (fun c_14 => ?_)
        · have e_14 : r_13.toInt ≠ 0 := i3_ne c_14
          refine lv_iload hx hb dX5_lookUp_122 (lv_at hl 0 rfl) ?_
          refine lv_if_eq (tgt := 130) hx hb dX5_lookUp_124 (by decide) (fun c_15 => ?_) (fun c_15 => ?_)
          · have e_15 : r_13.toInt = 0 := i3_eq c_15
            exfalso; omega
          · have e_15 : r_13.toInt ≠ 0 := i3_ne c_15
            refine lv_iload hx hb dX5_lookUp_127 (lv_at hl 0 rfl) ?_
            exact ret_i hx hb hr hlk (hP.sub (ws' := [(o_t, .inr (5, [.ref a_t_numbers, .ref a_t_lefts, .ref a_t_falls, .int f_t_lateCorner, .int f_t_earlyCorner])), (a_t_lefts, aI E 64 g_t_lefts), (a_t_numbers, aI E 192 g_t_numbers)]) [1, 2, 0] rfl) (hD.sub (ws' := [(o_t, .inr (5, [.ref a_t_numbers, .ref a_t_lefts, .ref a_t_falls, .int f_t_lateCorner, .int f_t_earlyCorner])), (a_t_lefts, aI E 64 g_t_lefts), (a_t_numbers, aI E 192 g_t_numbers)]) [1, 2, 0] (by decide) rfl) hS rfl dX5_lookUp_129 (Nat.le_of_ble_eq_true rfl) (Nat.le_of_ble_eq_true rfl) ⟨trivial, rfl⟩
        · have e_14 : r_13.toInt = 0 := i3_eq c_14
          refine lv_iload hx hb dX5_lookUp_105 (lv_at hl 4 rfl) ?_
          refine lv_if_le (tgt := 122) hx hb dX5_lookUp_107 (by decide) (fun c_16 => ?_) (fun c_16 => ?_)
          · have e_16 : x_9.toInt ≤ 0 := i3_le c_16
            refine lv_iload hx hb dX5_lookUp_122 (lv_at hl 0 rfl) ?_
            refine lv_if_eq (tgt := 130) hx hb dX5_lookUp_124 (by decide) (fun c_17 => ?_) (fun c_17 => ?_)
            · have e_17 : r_13.toInt = 0 := i3_eq c_17
              refine lv_iload hx hb dX5_lookUp_130 (lv_at hl 4 rfl) ?_
              refine lv_if_le (tgt := 153) hx hb dX5_lookUp_132 (by decide) (fun c_18 => ?_) (fun c_18 => ?_)
              · have e_18 : x_9.toInt ≤ 0 := i3_le c_18
                refine lv_iconst (v := 1) hx hb dX5_lookUp_153 (by decide) ?_
                refine lv_istore (lv' := [(15, .int 1), (14, .int r_13), (13, .int 0), (12, .int r_11), (11, .int x_10), (10, .int x_9), (9, .int 0), (8, .int 0), (7, .int x_3), (6, .int x_1), (0, .ref o_t), (1, .int p1), (2, .int p2), (3, .int p3), (4, .int p4), (5, .int p5)]) hx hb dX5_lookUp_154 hl (by decide) rfl (fun ls hl => ?_)
                refine lv_iload hx hb dX5_lookUp_156 (lv_at hl 4 rfl) ?_
                refine lv_if_le (tgt := 179) hx hb dX5_lookUp_158 (by decide) (fun c_19 => ?_) (fun c_19 => ?_)
                · have e_19 : x_10.toInt ≤ 0 := i3_le c_19
                  refine lv_iconst (v := 1) hx hb dX5_lookUp_179 (by decide) ?_
                  refine lv_istore (lv' := [(16, .int 1), (15, .int 1), (14, .int r_13), (13, .int 0), (12, .int r_11), (11, .int x_10), (10, .int x_9), (9, .int 0), (8, .int 0), (7, .int x_3), (6, .int x_1), (0, .ref o_t), (1, .int p1), (2, .int p2), (3, .int p3), (4, .int p4), (5, .int p5)]) hx hb dX5_lookUp_180 hl (by decide) rfl (fun ls hl => ?_)
                  refine lv_iload hx hb dX5_lookUp_182 (lv_at hl 1 rfl) ?_
                  refine lv_iload hx hb dX5_lookUp_184 (lv_at hl 6 rfl) ?_
                  refine lv_isub hx hb dX5_lookUp_186 ?_
                  refine lv_topi (fun x_20 ex_20 => ?_)
                  refine lv_aload_n hx hb dX5_lookUp_187 rfl (lv_at hl 11 rfl) ?_
                  refine lv_iload hx hb dX5_lookUp_188 (lv_at hl 4 rfl) ?_
                  refine lv_iload hx hb dX5_lookUp_190 (lv_at hl 7 rfl) ?_
                  refine lv_iload hx hb dX5_lookUp_192 (lv_at hl 5 rfl) ?_
                  refine lv_iload hx hb dX5_lookUp_194 (lv_at hl 0 rfl) ?_
                  refine call_i (va_runV (As := [.int r_11, .int 0, .int x_10, .int 1]) (rest := [.int x_20]) ⟨hx, hb, hml, hown, hts⟩ (q_weighRow1 l E o_t a_t_numbers a_t_lefts a_t_falls f_t_lateCorner f_t_earlyCorner r_11 0 x_10 1 g_t_numbers r_f_t_lateCorner r_f_t_earlyCorner i_g_t_numbers (RG.mk (by omega)) (RG.mk (by decide)) H.size) (cwV 4 hts g_q_lookUp_q_weighRow1_54 rfl rfl rfl (by decide +kernel) ⟨Nat.le_of_ble_eq_true rfl, Nat.le_of_ble_eq_true rfl⟩) (pre_V hK hN hZ hS (va_free hD hS hA [1, 0] rfl) (hP.sub (ws' := [(o_t, .inr (5, [.ref a_t_numbers, .ref a_t_lefts, .ref a_t_falls, .int f_t_lateCorner, .int f_t_earlyCorner])), (a_t_numbers, aI E 192 g_t_numbers)]) [1, 0] rfl) (hD.sub (ws' := [(o_t, .inr (5, [.ref a_t_numbers, .ref a_t_lefts, .ref a_t_falls, .int f_t_lateCorner, .int f_t_earlyCorner])), (a_t_numbers, aI E 192 g_t_numbers)]) [1, 0] (by decide) rfl) (ci := 5) (q0 := 0) rfl rfl) rfl rfl hl.1 rfl (lv_room (Nat.le_of_ble_eq_true rfl)) dX5_lookUp_196 ⟨Nat.le_of_ble_eq_true rfl, Nat.le_of_ble_eq_true rfl⟩) hP hD hS hA [1, 0] [2] (wr := [(a_t_lefts, aI E 64 g_t_lefts)]) rfl rfl (by decide) (by decide) (fun r_21 w H locs hw hP hD hS => ?_)
                  obtain ⟨b_r_21, rfl⟩ := hw
                  replace hP : va_P E.1 vwCl [(a_t_lefts, aI E 64 g_t_lefts), (o_t, .inr (5, [.ref a_t_numbers, .ref a_t_lefts, .ref a_t_falls, .int f_t_lateCorner, .int f_t_earlyCorner])), (a_t_numbers, aI E 192 g_t_numbers)] H := hP
                  replace hD : va_D A [(a_t_lefts, aI E 64 g_t_lefts), (o_t, .inr (5, [.ref a_t_numbers, .ref a_t_lefts, .ref a_t_falls, .int f_t_lateCorner, .int f_t_earlyCorner])), (a_t_numbers, aI E 192 g_t_numbers)] := hD
                  refine lv_imul hx hb dX5_lookUp_199 ?_
                  refine lv_topi (fun x_22 ex_22 => ?_)
                  have bd_23 := i3_bd x_20
                  have bd_24 := i3_bd r_21
                  refine lv_istore (lv' := [(17, .int x_22), (16, .int 1), (15, .int 1), (14, .int r_13), (13, .int 0), (12, .int r_11), (11, .int x_10), (10, .int x_9), (9, .int 0), (8, .int 0), (7, .int x_3), (6, .int x_1), (0, .ref o_t), (1, .int p1), (2, .int p2), (3, .int p3), (4, .int p4), (5, .int p5)]) hx hb dX5_lookUp_200 hl (by decide) rfl (fun ls hl => ?_)
                  refine lv_iload hx hb dX5_lookUp_202 (lv_at hl 7 rfl) ?_
                  refine lv_if_le (tgt := 229) hx hb dX5_lookUp_204 (by decide) (fun c_25 => ?_) (fun c_25 => ?_)
                  · have e_25 : x_9.toInt ≤ 0 := i3_le c_25
                    refine lv_iload hx hb dX5_lookUp_229 (lv_at hl 2 rfl) ?_
                    refine lv_iload hx hb dX5_lookUp_231 (lv_at hl 1 rfl) ?_
                    refine lv_imul hx hb dX5_lookUp_233 ?_
                    refine lv_cst (y := 1) (by decide) ?_
                    refine lv_istore (lv' := [(18, .int 1), (17, .int x_22), (16, .int 1), (15, .int 1), (14, .int r_13), (13, .int 0), (12, .int r_11), (11, .int x_10), (10, .int x_9), (9, .int 0), (8, .int 0), (7, .int x_3), (6, .int x_1), (0, .ref o_t), (1, .int p1), (2, .int p2), (3, .int p3), (4, .int p4), (5, .int p5)]) hx hb dX5_lookUp_234 hl (by decide) rfl (fun ls hl => ?_)
                    refine lv_iload hx hb dX5_lookUp_236 (lv_at hl 18 rfl) ?_
                    have b_p5 := r_p5.out
                    refine lv_if_eq (tgt := 254) hx hb dX5_lookUp_238 (by decide) (fun c_26 => ?_) (fun c_26 => ?_)
                    · have e_26 : p5.toInt = 0 := i3_eq c_26
                      refine lv_iload hx hb dX5_lookUp_254 (lv_at hl 1 rfl) ?_
                      refine lv_iload hx hb dX5_lookUp_256 (lv_at hl 0 rfl) ?_
                      refine lv_idiv hx hb dX5_lookUp_258 (by decide) ?_
                      refine lv_topi (fun x_27 ex_27 => ?_)
                      have bd_28 := i3_bd x_22
                      exact ret_i hx hb hr hlk (hP.sub (ws' := [(o_t, .inr (5, [.ref a_t_numbers, .ref a_t_lefts, .ref a_t_falls, .int f_t_lateCorner, .int f_t_earlyCorner])), (a_t_lefts, aI E 64 g_t_lefts), (a_t_numbers, aI E 192 g_t_numbers)]) [1, 0, 2] rfl) (hD.sub (ws' := [(o_t, .inr (5, [.ref a_t_numbers, .ref a_t_lefts, .ref a_t_falls, .int f_t_lateCorner, .int f_t_earlyCorner])), (a_t_lefts, aI E 64 g_t_lefts), (a_t_numbers, aI E 192 g_t_numbers)]) [1, 0, 2] (by decide) rfl) hS rfl dX5_lookUp_259 (Nat.le_of_ble_eq_true rfl) (Nat.le_of_ble_eq_true rfl) ⟨trivial, rfl⟩
                    · have e_26 : p5.toInt ≠ 0 := i3_ne c_26
                      refine lv_iload hx hb dX5_lookUp_241 (lv_at hl 1 rfl) ?_
                      refine lv_iload hx hb dX5_lookUp_243 (lv_at hl 0 rfl) ?_
                      refine lv_iadd hx hb dX5_lookUp_245 ?_
                      refine lv_topi (fun x_29 ex_29 => ?_)
                      have bd_30 := i3_bd x_22
                      refine lv_iconst (v := 1) hx hb dX5_lookUp_246 (by decide) ?_
                      refine lv_isub hx hb dX5_lookUp_247 ?_
                      refine lv_topi (fun x_31 ex_31 => ?_)
                      have bd_32 := i3_bd x_29
                      refine lv_iload hx hb dX5_lookUp_248 (lv_at hl 0 rfl) ?_
                      refine lv_idiv hx hb dX5_lookUp_250 (by decide) ?_
                      refine lv_topi (fun x_33 ex_33 => ?_)
                      have bd_34 := i3_bd x_31
                      refine lv_goto (tgt := 259) hx hb dX5_lookUp_251 (by decide) ?_
                      exact ret_i hx hb hr hlk (hP.sub (ws' := [(o_t, .inr (5, [.ref a_t_numbers, .ref a_t_lefts, .ref a_t_falls, .int f_t_lateCorner, .int f_t_earlyCorner])), (a_t_lefts, aI E 64 g_t_lefts), (a_t_numbers, aI E 192 g_t_numbers)]) [1, 0, 2] rfl) (hD.sub (ws' := [(o_t, .inr (5, [.ref a_t_numbers, .ref a_t_lefts, .ref a_t_falls, .int f_t_lateCorner, .int f_t_earlyCorner])), (a_t_lefts, aI E 64 g_t_lefts), (a_t_numbers, aI E 192 g_t_numbers)]) [1, 0, 2] (by decide) rfl) hS rfl dX5_lookUp_259 (Nat.le_of_ble_eq_true rfl) (Nat.le_of_ble_eq_true rfl) ⟨trivial, rfl⟩
                  · have e_25 : 0 < x_9.toInt := i3_nle c_25
                    exfalso; omega
                · have e_19 : 0 < x_10.toInt := i3_nle c_19
                  exfalso; omega
              · have e_18 : 0 < x_9.toInt := i3_nle c_18
                exfalso; omega
            · have e_17 : r_13.toInt ≠ 0 := i3_ne c_17
              exfalso; omega
          · have e_16 : 0 < x_9.toInt := i3_nle c_16
            refine lv_aload_n hx hb dX5_lookUp_110 rfl (lv_at hl 9 rfl) ?_
            refine lv_iload hx hb dX5_lookUp_111 (lv_at hl 2 rfl) ?_
            refine lv_iconst (v := 1) hx hb dX5_lookUp_113 (by decide) ?_
            refine lv_iadd hx hb dX5_lookUp_114 ?_
            refine lv_topi (fun x_35 ex_35 => ?_)
            have tx_35 : x_35.toInt = r_11.toInt + 1 := i3_addc rfl rfl ex_35 (by omega)
            refine lv_iload hx hb dX5_lookUp_115 (lv_at hl 1 rfl) ?_
            refine call_i (va_runV (As := [.int x_35, .int 0]) (rest := []) ⟨hx, hb, hml, hown, hts⟩ (q_whyAbsent l E o_t a_t_numbers a_t_lefts a_t_falls f_t_lateCorner f_t_earlyCorner x_35 0 g_t_lefts r_f_t_lateCorner r_f_t_earlyCorner i_g_t_lefts (RG.mk (by omega)) H.size) (cwV 2 hts g_q_lookUp_q_whyAbsent_51 rfl rfl rfl (by decide +kernel) ⟨Nat.le_of_ble_eq_true rfl, Nat.le_of_ble_eq_true rfl⟩) (pre_V hK hN hZ hS (va_free hD hS hA [1, 2] rfl) (hP.sub (ws' := [(o_t, .inr (5, [.ref a_t_numbers, .ref a_t_lefts, .ref a_t_falls, .int f_t_lateCorner, .int f_t_earlyCorner])), (a_t_lefts, aI E 64 g_t_lefts)]) [1, 2] rfl) (hD.sub (ws' := [(o_t, .inr (5, [.ref a_t_numbers, .ref a_t_lefts, .ref a_t_falls, .int f_t_lateCorner, .int f_t_earlyCorner])), (a_t_lefts, aI E 64 g_t_lefts)]) [1, 2] (by decide) rfl) (ci := 5) (q0 := 0) rfl rfl) rfl rfl hl.1 rfl (lv_room (Nat.le_of_ble_eq_true rfl)) dX5_lookUp_117 ⟨Nat.le_of_ble_eq_true rfl, Nat.le_of_ble_eq_true rfl⟩) hP hD hS hA [1, 2] [0] (wr := [(a_t_numbers, aI E 192 g_t_numbers)]) rfl rfl (by decide) (by decide) (fun r_36 w H locs hw hP hD hS => ?_)
            obtain ⟨b_r_36, rfl⟩ := hw
            replace hP : va_P E.1 vwCl [(a_t_numbers, aI E 192 g_t_numbers), (o_t, .inr (5, [.ref a_t_numbers, .ref a_t_lefts, .ref a_t_falls, .int f_t_lateCorner, .int f_t_earlyCorner])), (a_t_lefts, aI E 64 g_t_lefts)] H := hP
            replace hD : va_D A [(a_t_numbers, aI E 192 g_t_numbers), (o_t, .inr (5, [.ref a_t_numbers, .ref a_t_lefts, .ref a_t_falls, .int f_t_lateCorner, .int f_t_earlyCorner])), (a_t_lefts, aI E 64 g_t_lefts)] := hD
            refine lv_istore (lv' := [(14, .int r_36), (13, .int 0), (12, .int r_11), (11, .int x_10), (10, .int x_9), (9, .int 0), (8, .int 0), (7, .int x_3), (6, .int x_1), (0, .ref o_t), (1, .int p1), (2, .int p2), (3, .int p3), (4, .int p4), (5, .int p5)]) hx hb dX5_lookUp_120 hl (by decide) rfl (fun ls hl => ?_)
            refine lv_iload hx hb dX5_lookUp_122 (lv_at hl 0 rfl) ?_
            refine lv_if_eq (tgt := 130) hx hb dX5_lookUp_124 (by decide) (fun c_37 => ?_) (fun c_37 => ?_)
            · have e_37 : r_36.toInt = 0 := i3_eq c_37
              refine lv_iload hx hb dX5_lookUp_130 (lv_at hl 4 rfl) ?_
              refine lv_if_le (tgt := 153) hx hb dX5_lookUp_132 (by decide) (fun c_38 => ?_) (fun c_38 => ?_)
              · have e_38 : x_9.toInt ≤ 0 := i3_le c_38
                exfalso; omega
              · have e_38 : 0 < x_9.toInt := i3_nle c_38
                refine va_gets (C := "TimingHouse$Tables") (n := "LOAD_MARKS") (d := "[I") (own := RX5) (ref := "TimingHouse$Tables") hx hb hZ.1.1 hS hown (hto (.fieldLink RX5 31 "TimingHouse$Tables" "LOAD_MARKS" "[I") (by decide +kernel)) (fun _ h9 => h9) dX5_lookUp_135 ?_
                refine lv_iload hx hb dX5_lookUp_138 (lv_at hl 6 rfl) ?_
                refine lv_iconst (v := 1) hx hb dX5_lookUp_140 (by decide) ?_
                refine lv_iadd hx hb dX5_lookUp_141 ?_
                refine lv_cst (y := 1) (by decide) ?_
                refine va_ti (v := .int 8) hx hb hZ.1.2 hS (i3_in (by decide)) rfl dX5_lookUp_142 ?_
                refine va_gets (C := "TimingHouse$Tables") (n := "LOAD_MARKS") (d := "[I") (own := RX5) (ref := "TimingHouse$Tables") hx hb hZ.1.1 hS hown (hto (.fieldLink RX5 31 "TimingHouse$Tables" "LOAD_MARKS" "[I") (by decide +kernel)) (fun _ h9 => h9) dX5_lookUp_143 ?_
                refine lv_iload hx hb dX5_lookUp_146 (lv_at hl 6 rfl) ?_
                refine va_ti (v := .int 0) hx hb hZ.1.2 hS (i3_in (by decide)) rfl dX5_lookUp_148 ?_
                refine lv_isub hx hb dX5_lookUp_149 ?_
                refine lv_cst (y := 8) (by decide) ?_
                refine lv_goto (tgt := 154) hx hb dX5_lookUp_150 (by decide) ?_
                refine lv_istore (lv' := [(15, .int 8), (14, .int r_36), (13, .int 0), (12, .int r_11), (11, .int x_10), (10, .int x_9), (9, .int 0), (8, .int 0), (7, .int x_3), (6, .int x_1), (0, .ref o_t), (1, .int p1), (2, .int p2), (3, .int p3), (4, .int p4), (5, .int p5)]) hx hb dX5_lookUp_154 hl (by decide) rfl (fun ls hl => ?_)
                refine lv_iload hx hb dX5_lookUp_156 (lv_at hl 4 rfl) ?_
                refine lv_if_le (tgt := 179) hx hb dX5_lookUp_158 (by decide) (fun c_39 => ?_) (fun c_39 => ?_)
                · have e_39 : x_10.toInt ≤ 0 := i3_le c_39
                  refine lv_iconst (v := 1) hx hb dX5_lookUp_179 (by decide) ?_
                  refine lv_istore (lv' := [(16, .int 1), (15, .int 8), (14, .int r_36), (13, .int 0), (12, .int r_11), (11, .int x_10), (10, .int x_9), (9, .int 0), (8, .int 0), (7, .int x_3), (6, .int x_1), (0, .ref o_t), (1, .int p1), (2, .int p2), (3, .int p3), (4, .int p4), (5, .int p5)]) hx hb dX5_lookUp_180 hl (by decide) rfl (fun ls hl => ?_)
                  refine lv_iload hx hb dX5_lookUp_182 (lv_at hl 1 rfl) ?_
                  refine lv_iload hx hb dX5_lookUp_184 (lv_at hl 6 rfl) ?_
                  refine lv_isub hx hb dX5_lookUp_186 ?_
                  refine lv_topi (fun x_40 ex_40 => ?_)
                  have tx_40 : x_40.toInt = 8 - x_9.toInt := i3_subc rfl rfl ex_40 (by omega)
                  refine lv_aload_n hx hb dX5_lookUp_187 rfl (lv_at hl 11 rfl) ?_
                  refine lv_iload hx hb dX5_lookUp_188 (lv_at hl 4 rfl) ?_
                  refine lv_iload hx hb dX5_lookUp_190 (lv_at hl 7 rfl) ?_
                  refine lv_iload hx hb dX5_lookUp_192 (lv_at hl 5 rfl) ?_
                  refine lv_iload hx hb dX5_lookUp_194 (lv_at hl 0 rfl) ?_
                  refine call_i (va_runV (As := [.int r_11, .int 0, .int x_10, .int 1]) (rest := [.int x_40]) ⟨hx, hb, hml, hown, hts⟩ (q_weighRow1 l E o_t a_t_numbers a_t_lefts a_t_falls f_t_lateCorner f_t_earlyCorner r_11 0 x_10 1 g_t_numbers r_f_t_lateCorner r_f_t_earlyCorner i_g_t_numbers (RG.mk (by omega)) (RG.mk (by decide)) H.size) (cwV 4 hts g_q_lookUp_q_weighRow1_54 rfl rfl rfl (by decide +kernel) ⟨Nat.le_of_ble_eq_true rfl, Nat.le_of_ble_eq_true rfl⟩) (pre_V hK hN hZ hS (va_free hD hS hA [1, 0] rfl) (hP.sub (ws' := [(o_t, .inr (5, [.ref a_t_numbers, .ref a_t_lefts, .ref a_t_falls, .int f_t_lateCorner, .int f_t_earlyCorner])), (a_t_numbers, aI E 192 g_t_numbers)]) [1, 0] rfl) (hD.sub (ws' := [(o_t, .inr (5, [.ref a_t_numbers, .ref a_t_lefts, .ref a_t_falls, .int f_t_lateCorner, .int f_t_earlyCorner])), (a_t_numbers, aI E 192 g_t_numbers)]) [1, 0] (by decide) rfl) (ci := 5) (q0 := 0) rfl rfl) rfl rfl hl.1 rfl (lv_room (Nat.le_of_ble_eq_true rfl)) dX5_lookUp_196 ⟨Nat.le_of_ble_eq_true rfl, Nat.le_of_ble_eq_true rfl⟩) hP hD hS hA [1, 0] [2] (wr := [(a_t_lefts, aI E 64 g_t_lefts)]) rfl rfl (by decide) (by decide) (fun r_41 w H locs hw hP hD hS => ?_)
                  obtain ⟨b_r_41, rfl⟩ := hw
                  replace hP : va_P E.1 vwCl [(a_t_lefts, aI E 64 g_t_lefts), (o_t, .inr (5, [.ref a_t_numbers, .ref a_t_lefts, .ref a_t_falls, .int f_t_lateCorner, .int f_t_earlyCorner])), (a_t_numbers, aI E 192 g_t_numbers)] H := hP
                  replace hD : va_D A [(a_t_lefts, aI E 64 g_t_lefts), (o_t, .inr (5, [.ref a_t_numbers, .ref a_t_lefts, .ref a_t_falls, .int f_t_lateCorner, .int f_t_earlyCorner])), (a_t_numbers, aI E 192 g_t_numbers)] := hD
                  refine lv_imul hx hb dX5_lookUp_199 ?_
                  refine lv_topi (fun x_42 ex_42 => ?_)
                  have bd_43 := i3_bd r_41
                  refine lv_istore (lv' := [(17, .int x_42), (16, .int 1), (15, .int 8), (14, .int r_36), (13, .int 0), (12, .int r_11), (11, .int x_10), (10, .int x_9), (9, .int 0), (8, .int 0), (7, .int x_3), (6, .int x_1), (0, .ref o_t), (1, .int p1), (2, .int p2), (3, .int p3), (4, .int p4), (5, .int p5)]) hx hb dX5_lookUp_200 hl (by decide) rfl (fun ls hl => ?_)
                  refine lv_iload hx hb dX5_lookUp_202 (lv_at hl 7 rfl) ?_
                  refine lv_if_le (tgt := 229) hx hb dX5_lookUp_204 (by decide) (fun c_44 => ?_) (fun c_44 => ?_)
                  · have e_44 : x_9.toInt ≤ 0 := i3_le c_44
                    exfalso; omega
                  · have e_44 : 0 < x_9.toInt := i3_nle c_44
                    refine lv_iload hx hb dX5_lookUp_207 (lv_at hl 0 rfl) ?_
                    refine lv_iload hx hb dX5_lookUp_209 (lv_at hl 7 rfl) ?_
                    refine lv_aload_n hx hb dX5_lookUp_211 rfl (lv_at hl 12 rfl) ?_
                    refine lv_iload hx hb dX5_lookUp_212 (lv_at hl 5 rfl) ?_
                    refine lv_iconst (v := 1) hx hb dX5_lookUp_214 (by decide) ?_
                    refine lv_iadd hx hb dX5_lookUp_215 ?_
                    refine lv_topi (fun x_45 ex_45 => ?_)
                    have hq_x_45 : x_35 = x_45 := ex_35.trans ex_45.symm
                    subst hq_x_45
                    refine lv_iload hx hb dX5_lookUp_216 (lv_at hl 8 rfl) ?_
                    refine lv_iload hx hb dX5_lookUp_218 (lv_at hl 6 rfl) ?_
                    refine lv_iload hx hb dX5_lookUp_220 (lv_at hl 1 rfl) ?_
                    refine call_i (va_runV (As := [.int x_35, .int 0, .int x_10, .int 1]) (rest := [.int x_9, .int x_42]) ⟨hx, hb, hml, hown, hts⟩ (q_weighRow1 l E o_t a_t_numbers a_t_lefts a_t_falls f_t_lateCorner f_t_earlyCorner x_35 0 x_10 1 g_t_numbers r_f_t_lateCorner r_f_t_earlyCorner i_g_t_numbers (RG.mk (by omega)) (RG.mk (by decide)) H.size) (cwV 4 hts g_q_lookUp_q_weighRow1_54 rfl rfl rfl (by decide +kernel) ⟨Nat.le_of_ble_eq_true rfl, Nat.le_of_ble_eq_true rfl⟩) (pre_V hK hN hZ hS (va_free hD hS hA [1, 2] rfl) (hP.sub (ws' := [(o_t, .inr (5, [.ref a_t_numbers, .ref a_t_lefts, .ref a_t_falls, .int f_t_lateCorner, .int f_t_earlyCorner])), (a_t_numbers, aI E 192 g_t_numbers)]) [1, 2] rfl) (hD.sub (ws' := [(o_t, .inr (5, [.ref a_t_numbers, .ref a_t_lefts, .ref a_t_falls, .int f_t_lateCorner, .int f_t_earlyCorner])), (a_t_numbers, aI E 192 g_t_numbers)]) [1, 2] (by decide) rfl) (ci := 5) (q0 := 0) rfl rfl) rfl rfl hl.1 rfl (lv_room (Nat.le_of_ble_eq_true rfl)) dX5_lookUp_222 ⟨Nat.le_of_ble_eq_true rfl, Nat.le_of_ble_eq_true rfl⟩) hP hD hS hA [1, 2] [0] (wr := [(a_t_lefts, aI E 64 g_t_lefts)]) rfl rfl (by decide) (by decide) (fun r_46 w H locs hw hP hD hS => ?_)
                    obtain ⟨b_r_46, rfl⟩ := hw
                    replace hP : va_P E.1 vwCl [(a_t_lefts, aI E 64 g_t_lefts), (o_t, .inr (5, [.ref a_t_numbers, .ref a_t_lefts, .ref a_t_falls, .int f_t_lateCorner, .int f_t_earlyCorner])), (a_t_numbers, aI E 192 g_t_numbers)] H := hP
                    replace hD : va_D A [(a_t_lefts, aI E 64 g_t_lefts), (o_t, .inr (5, [.ref a_t_numbers, .ref a_t_lefts, .ref a_t_falls, .int f_t_lateCorner, .int f_t_earlyCorner])), (a_t_numbers, aI E 192 g_t_numbers)] := hD
                    refine lv_imul hx hb dX5_lookUp_225 ?_
                    refine lv_topi (fun x_47 ex_47 => ?_)
                    have bd_48 := i3_bd r_46
                    refine lv_iadd hx hb dX5_lookUp_226 ?_
                    refine lv_topi (fun x_49 ex_49 => ?_)
                    have bd_50 := i3_bd x_42
                    have bd_51 := i3_bd x_47
                    refine lv_istore (lv' := [(17, .int x_49), (16, .int 1), (15, .int 8), (14, .int r_36), (13, .int 0), (12, .int r_11), (11, .int x_10), (10, .int x_9), (9, .int 0), (8, .int 0), (7, .int x_3), (6, .int x_1), (0, .ref o_t), (1, .int p1), (2, .int p2), (3, .int p3), (4, .int p4), (5, .int p5)]) hx hb dX5_lookUp_227 hl (by decide) rfl (fun ls hl => ?_)
                    refine lv_iload hx hb dX5_lookUp_229 (lv_at hl 2 rfl) ?_
                    refine lv_iload hx hb dX5_lookUp_231 (lv_at hl 1 rfl) ?_
                    refine lv_imul hx hb dX5_lookUp_233 ?_
                    refine lv_cst (y := 8) (by decide) ?_
                    refine lv_istore (lv' := [(18, .int 8), (17, .int x_49), (16, .int 1), (15, .int 8), (14, .int r_36), (13, .int 0), (12, .int r_11), (11, .int x_10), (10, .int x_9), (9, .int 0), (8, .int 0), (7, .int x_3), (6, .int x_1), (0, .ref o_t), (1, .int p1), (2, .int p2), (3, .int p3), (4, .int p4), (5, .int p5)]) hx hb dX5_lookUp_234 hl (by decide) rfl (fun ls hl => ?_)
                    refine lv_iload hx hb dX5_lookUp_236 (lv_at hl 18 rfl) ?_
                    have b_p5 := r_p5.out
                    refine lv_if_eq (tgt := 254) hx hb dX5_lookUp_238 (by decide) (fun c_52 => ?_) (fun c_52 => ?_)
                    · have e_52 : p5.toInt = 0 := i3_eq c_52
                      refine lv_iload hx hb dX5_lookUp_254 (lv_at hl 1 rfl) ?_
                      refine lv_iload hx hb dX5_lookUp_256 (lv_at hl 0 rfl) ?_
                      refine lv_idiv hx hb dX5_lookUp_258 (by decide) ?_
                      refine lv_topi (fun x_53 ex_53 => ?_)
                      have bd_54 := i3_bd x_49
                      exact ret_i hx hb hr hlk (hP.sub (ws' := [(o_t, .inr (5, [.ref a_t_numbers, .ref a_t_lefts, .ref a_t_falls, .int f_t_lateCorner, .int f_t_earlyCorner])), (a_t_lefts, aI E 64 g_t_lefts), (a_t_numbers, aI E 192 g_t_numbers)]) [1, 0, 2] rfl) (hD.sub (ws' := [(o_t, .inr (5, [.ref a_t_numbers, .ref a_t_lefts, .ref a_t_falls, .int f_t_lateCorner, .int f_t_earlyCorner])), (a_t_lefts, aI E 64 g_t_lefts), (a_t_numbers, aI E 192 g_t_numbers)]) [1, 0, 2] (by decide) rfl) hS rfl dX5_lookUp_259 (Nat.le_of_ble_eq_true rfl) (Nat.le_of_ble_eq_true rfl) ⟨trivial, rfl⟩
                    · have e_52 : p5.toInt ≠ 0 := i3_ne c_52
                      refine lv_iload hx hb dX5_lookUp_241 (lv_at hl 1 rfl) ?_
                      refine lv_iload hx hb dX5_lookUp_243 (lv_at hl 0 rfl) ?_
                      refine lv_iadd hx hb dX5_lookUp_245 ?_
                      refine lv_topi (fun x_55 ex_55 => ?_)
                      have bd_56 := i3_bd x_49
                      refine lv_iconst (v := 1) hx hb dX5_lookUp_246 (by decide) ?_
                      refine lv_isub hx hb dX5_lookUp_247 ?_
                      refine lv_topi (fun x_57 ex_57 => ?_)
                      have bd_58 := i3_bd x_55
                      refine lv_iload hx hb dX5_lookUp_248 (lv_at hl 0 rfl) ?_
                      refine lv_idiv hx hb dX5_lookUp_250 (by decide) ?_
                      refine lv_topi (fun x_59 ex_59 => ?_)
                      have bd_60 := i3_bd x_57
                      refine lv_goto (tgt := 259) hx hb dX5_lookUp_251 (by decide) ?_
                      exact ret_i hx hb hr hlk (hP.sub (ws' := [(o_t, .inr (5, [.ref a_t_numbers, .ref a_t_lefts, .ref a_t_falls, .int f_t_lateCorner, .int f_t_earlyCorner])), (a_t_lefts, aI E 64 g_t_lefts), (a_t_numbers, aI E 192 g_t_numbers)]) [1, 0, 2] rfl) (hD.sub (ws' := [(o_t, .inr (5, [.ref a_t_numbers, .ref a_t_lefts, .ref a_t_falls, .int f_t_lateCorner, .int f_t_earlyCorner])), (a_t_lefts, aI E 64 g_t_lefts), (a_t_numbers, aI E 192 g_t_numbers)]) [1, 0, 2] (by decide) rfl) hS rfl dX5_lookUp_259 (Nat.le_of_ble_eq_true rfl) (Nat.le_of_ble_eq_true rfl) ⟨trivial, rfl⟩
                · have e_39 : 0 < x_10.toInt := i3_nle c_39
                  exfalso; omega
            · have e_37 : r_36.toInt ≠ 0 := i3_ne c_37
              refine lv_iload hx hb dX5_lookUp_127 (lv_at hl 0 rfl) ?_
              exact ret_i hx hb hr hlk (hP.sub (ws' := [(o_t, .inr (5, [.ref a_t_numbers, .ref a_t_lefts, .ref a_t_falls, .int f_t_lateCorner, .int f_t_earlyCorner])), (a_t_lefts, aI E 64 g_t_lefts), (a_t_numbers, aI E 192 g_t_numbers)]) [1, 2, 0] rfl) (hD.sub (ws' := [(o_t, .inr (5, [.ref a_t_numbers, .ref a_t_lefts, .ref a_t_falls, .int f_t_lateCorner, .int f_t_earlyCorner])), (a_t_lefts, aI E 64 g_t_lefts), (a_t_numbers, aI E 192 g_t_numbers)]) [1, 2, 0] (by decide) rfl) hS rfl dX5_lookUp_129 (Nat.le_of_ble_eq_true rfl) (Nat.le_of_ble_eq_true rfl) ⟨trivial, rfl⟩
      · have e_12 : 0 < x_10.toInt := i3_nle c_12
        refine lv_iload hx hb dX5_lookUp_79 (lv_at hl 3 rfl) ?_
        refine lv_iconst (v := 1) hx hb dX5_lookUp_81 (by decide) ?_
        refine lv_iadd hx hb dX5_lookUp_82 ?_
        refine lv_cst (y := 1) (by decide) ?_
        refine lv_goto (tgt := 88) hx hb dX5_lookUp_83 (by decide) ?_
        refine lv_istore (lv' := [(13, .int 1), (12, .int r_11), (11, .int x_10), (10, .int x_9), (9, .int 0), (8, .int 0), (7, .int x_3), (6, .int x_1), (0, .ref o_t), (1, .int p1), (2, .int p2), (3, .int p3), (4, .int p4), (5, .int p5)]) hx hb dX5_lookUp_88 hl (by decide) rfl (fun ls hl => ?_)
        refine lv_aload_n hx hb dX5_lookUp_90 rfl (lv_at hl 8 rfl) ?_
        refine lv_iload hx hb dX5_lookUp_91 (lv_at hl 1 rfl) ?_
        refine lv_iload hx hb dX5_lookUp_93 (lv_at hl 0 rfl) ?_
        refine call_i (va_runV (As := [.int r_11, .int 1]) (rest := []) ⟨hx, hb, hml, hown, hts⟩ (q_whyAbsent l E o_t a_t_numbers a_t_lefts a_t_falls f_t_lateCorner f_t_earlyCorner r_11 1 g_t_lefts r_f_t_lateCorner r_f_t_earlyCorner i_g_t_lefts (RG.mk (by omega)) H.size) (cwV 2 hts g_q_lookUp_q_whyAbsent_51 rfl rfl rfl (by decide +kernel) ⟨Nat.le_of_ble_eq_true rfl, Nat.le_of_ble_eq_true rfl⟩) (pre_V hK hN hZ hS (va_free hD hS hA [0, 1] rfl) (hP.sub (ws' := [(o_t, .inr (5, [.ref a_t_numbers, .ref a_t_lefts, .ref a_t_falls, .int f_t_lateCorner, .int f_t_earlyCorner])), (a_t_lefts, aI E 64 g_t_lefts)]) [0, 1] rfl) (hD.sub (ws' := [(o_t, .inr (5, [.ref a_t_numbers, .ref a_t_lefts, .ref a_t_falls, .int f_t_lateCorner, .int f_t_earlyCorner])), (a_t_lefts, aI E 64 g_t_lefts)]) [0, 1] (by decide) rfl) (ci := 5) (q0 := 0) rfl rfl) rfl rfl hl.1 rfl (lv_room (Nat.le_of_ble_eq_true rfl)) dX5_lookUp_95 ⟨Nat.le_of_ble_eq_true rfl, Nat.le_of_ble_eq_true rfl⟩) hP hD hS hA [0, 1] [2] (wr := [(a_t_numbers, aI E 192 g_t_numbers)]) rfl rfl (by decide) (by decide) (fun r_61 w H locs hw hP hD hS => ?_)
        obtain ⟨b_r_61, rfl⟩ := hw
        replace hP : va_P E.1 vwCl [(a_t_numbers, aI E 192 g_t_numbers), (o_t, .inr (5, [.ref a_t_numbers, .ref a_t_lefts, .ref a_t_falls, .int f_t_lateCorner, .int f_t_earlyCorner])), (a_t_lefts, aI E 64 g_t_lefts)] H := hP
        replace hD : va_D A [(a_t_numbers, aI E 192 g_t_numbers), (o_t, .inr (5, [.ref a_t_numbers, .ref a_t_lefts, .ref a_t_falls, .int f_t_lateCorner, .int f_t_earlyCorner])), (a_t_lefts, aI E 64 g_t_lefts)] := hD
        refine lv_istore (lv' := [(14, .int r_61), (13, .int 1), (12, .int r_11), (11, .int x_10), (10, .int x_9), (9, .int 0), (8, .int 0), (7, .int x_3), (6, .int x_1), (0, .ref o_t), (1, .int p1), (2, .int p2), (3, .int p3), (4, .int p4), (5, .int p5)]) hx hb dX5_lookUp_98 hl (by decide) rfl (fun ls hl => ?_)
        refine lv_iload hx hb dX5_lookUp_100 (lv_at hl 0 rfl) ?_
        refine lv_if_ne (tgt := 122) hx hb dX5_lookUp_102 (by decide) (fun c_62 => ?_) (fun c_62 => ?_)
        · have e_62 : r_61.toInt ≠ 0 := i3_ne c_62
          refine lv_iload hx hb dX5_lookUp_122 (lv_at hl 0 rfl) ?_
          refine lv_if_eq (tgt := 130) hx hb dX5_lookUp_124 (by decide) (fun c_63 => ?_) (fun c_63 => ?_)
          · have e_63 : r_61.toInt = 0 := i3_eq c_63
            exfalso; omega
          · have e_63 : r_61.toInt ≠ 0 := i3_ne c_63
            refine lv_iload hx hb dX5_lookUp_127 (lv_at hl 0 rfl) ?_
            exact ret_i hx hb hr hlk (hP.sub (ws' := [(o_t, .inr (5, [.ref a_t_numbers, .ref a_t_lefts, .ref a_t_falls, .int f_t_lateCorner, .int f_t_earlyCorner])), (a_t_lefts, aI E 64 g_t_lefts), (a_t_numbers, aI E 192 g_t_numbers)]) [1, 2, 0] rfl) (hD.sub (ws' := [(o_t, .inr (5, [.ref a_t_numbers, .ref a_t_lefts, .ref a_t_falls, .int f_t_lateCorner, .int f_t_earlyCorner])), (a_t_lefts, aI E 64 g_t_lefts), (a_t_numbers, aI E 192 g_t_numbers)]) [1, 2, 0] (by decide) rfl) hS rfl dX5_lookUp_129 (Nat.le_of_ble_eq_true rfl) (Nat.le_of_ble_eq_true rfl) ⟨trivial, rfl⟩
        · have e_62 : r_61.toInt = 0 := i3_eq c_62
          refine lv_iload hx hb dX5_lookUp_105 (lv_at hl 4 rfl) ?_
          refine lv_if_le (tgt := 122) hx hb dX5_lookUp_107 (by decide) (fun c_64 => ?_) (fun c_64 => ?_)
          · have e_64 : x_9.toInt ≤ 0 := i3_le c_64
            refine lv_iload hx hb dX5_lookUp_122 (lv_at hl 0 rfl) ?_
            refine lv_if_eq (tgt := 130) hx hb dX5_lookUp_124 (by decide) (fun c_65 => ?_) (fun c_65 => ?_)
            · have e_65 : r_61.toInt = 0 := i3_eq c_65
              refine lv_iload hx hb dX5_lookUp_130 (lv_at hl 4 rfl) ?_
              refine lv_if_le (tgt := 153) hx hb dX5_lookUp_132 (by decide) (fun c_66 => ?_) (fun c_66 => ?_)
              · have e_66 : x_9.toInt ≤ 0 := i3_le c_66
                refine lv_iconst (v := 1) hx hb dX5_lookUp_153 (by decide) ?_
                refine lv_istore (lv' := [(15, .int 1), (14, .int r_61), (13, .int 1), (12, .int r_11), (11, .int x_10), (10, .int x_9), (9, .int 0), (8, .int 0), (7, .int x_3), (6, .int x_1), (0, .ref o_t), (1, .int p1), (2, .int p2), (3, .int p3), (4, .int p4), (5, .int p5)]) hx hb dX5_lookUp_154 hl (by decide) rfl (fun ls hl => ?_)
                refine lv_iload hx hb dX5_lookUp_156 (lv_at hl 4 rfl) ?_
                refine lv_if_le (tgt := 179) hx hb dX5_lookUp_158 (by decide) (fun c_67 => ?_) (fun c_67 => ?_)
                · have e_67 : x_10.toInt ≤ 0 := i3_le c_67
                  exfalso; omega
                · have e_67 : 0 < x_10.toInt := i3_nle c_67
                  refine va_gets (C := "TimingHouse$Tables") (n := "SLOPE_MARKS") (d := "[I") (own := RX5) (ref := "TimingHouse$Tables") hx hb hZ.2.1.1 hS hown (hto (.fieldLink RX5 40 "TimingHouse$Tables" "SLOPE_MARKS" "[I") (by decide +kernel)) (fun _ h9 => h9) dX5_lookUp_161 ?_
                  refine lv_iload hx hb dX5_lookUp_164 (lv_at hl 6 rfl) ?_
                  refine lv_iconst (v := 1) hx hb dX5_lookUp_166 (by decide) ?_
                  refine lv_iadd hx hb dX5_lookUp_167 ?_
                  refine lv_cst (y := 1) (by decide) ?_
                  refine va_ti (v := .int 16) hx hb hZ.2.1.2 hS (i3_in (by decide)) rfl dX5_lookUp_168 ?_
                  refine va_gets (C := "TimingHouse$Tables") (n := "SLOPE_MARKS") (d := "[I") (own := RX5) (ref := "TimingHouse$Tables") hx hb hZ.2.1.1 hS hown (hto (.fieldLink RX5 40 "TimingHouse$Tables" "SLOPE_MARKS" "[I") (by decide +kernel)) (fun _ h9 => h9) dX5_lookUp_169 ?_
                  refine lv_iload hx hb dX5_lookUp_172 (lv_at hl 6 rfl) ?_
                  refine va_ti (v := .int 0) hx hb hZ.2.1.2 hS (i3_in (by decide)) rfl dX5_lookUp_174 ?_
                  refine lv_isub hx hb dX5_lookUp_175 ?_
                  refine lv_cst (y := 16) (by decide) ?_
                  refine lv_goto (tgt := 180) hx hb dX5_lookUp_176 (by decide) ?_
                  refine lv_istore (lv' := [(16, .int 16), (15, .int 1), (14, .int r_61), (13, .int 1), (12, .int r_11), (11, .int x_10), (10, .int x_9), (9, .int 0), (8, .int 0), (7, .int x_3), (6, .int x_1), (0, .ref o_t), (1, .int p1), (2, .int p2), (3, .int p3), (4, .int p4), (5, .int p5)]) hx hb dX5_lookUp_180 hl (by decide) rfl (fun ls hl => ?_)
                  refine lv_iload hx hb dX5_lookUp_182 (lv_at hl 1 rfl) ?_
                  refine lv_iload hx hb dX5_lookUp_184 (lv_at hl 6 rfl) ?_
                  refine lv_isub hx hb dX5_lookUp_186 ?_
                  refine lv_topi (fun x_68 ex_68 => ?_)
                  refine lv_aload_n hx hb dX5_lookUp_187 rfl (lv_at hl 11 rfl) ?_
                  refine lv_iload hx hb dX5_lookUp_188 (lv_at hl 4 rfl) ?_
                  refine lv_iload hx hb dX5_lookUp_190 (lv_at hl 7 rfl) ?_
                  refine lv_iload hx hb dX5_lookUp_192 (lv_at hl 5 rfl) ?_
                  refine lv_iload hx hb dX5_lookUp_194 (lv_at hl 0 rfl) ?_
                  refine call_i (va_runV (As := [.int r_11, .int 0, .int x_10, .int 16]) (rest := [.int x_68]) ⟨hx, hb, hml, hown, hts⟩ (q_weighRow1 l E o_t a_t_numbers a_t_lefts a_t_falls f_t_lateCorner f_t_earlyCorner r_11 0 x_10 16 g_t_numbers r_f_t_lateCorner r_f_t_earlyCorner i_g_t_numbers (RG.mk (by omega)) (RG.mk (by decide)) H.size) (cwV 4 hts g_q_lookUp_q_weighRow1_54 rfl rfl rfl (by decide +kernel) ⟨Nat.le_of_ble_eq_true rfl, Nat.le_of_ble_eq_true rfl⟩) (pre_V hK hN hZ hS (va_free hD hS hA [1, 0] rfl) (hP.sub (ws' := [(o_t, .inr (5, [.ref a_t_numbers, .ref a_t_lefts, .ref a_t_falls, .int f_t_lateCorner, .int f_t_earlyCorner])), (a_t_numbers, aI E 192 g_t_numbers)]) [1, 0] rfl) (hD.sub (ws' := [(o_t, .inr (5, [.ref a_t_numbers, .ref a_t_lefts, .ref a_t_falls, .int f_t_lateCorner, .int f_t_earlyCorner])), (a_t_numbers, aI E 192 g_t_numbers)]) [1, 0] (by decide) rfl) (ci := 5) (q0 := 0) rfl rfl) rfl rfl hl.1 rfl (lv_room (Nat.le_of_ble_eq_true rfl)) dX5_lookUp_196 ⟨Nat.le_of_ble_eq_true rfl, Nat.le_of_ble_eq_true rfl⟩) hP hD hS hA [1, 0] [2] (wr := [(a_t_lefts, aI E 64 g_t_lefts)]) rfl rfl (by decide) (by decide) (fun r_69 w H locs hw hP hD hS => ?_)
                  obtain ⟨b_r_69, rfl⟩ := hw
                  replace hP : va_P E.1 vwCl [(a_t_lefts, aI E 64 g_t_lefts), (o_t, .inr (5, [.ref a_t_numbers, .ref a_t_lefts, .ref a_t_falls, .int f_t_lateCorner, .int f_t_earlyCorner])), (a_t_numbers, aI E 192 g_t_numbers)] H := hP
                  replace hD : va_D A [(a_t_lefts, aI E 64 g_t_lefts), (o_t, .inr (5, [.ref a_t_numbers, .ref a_t_lefts, .ref a_t_falls, .int f_t_lateCorner, .int f_t_earlyCorner])), (a_t_numbers, aI E 192 g_t_numbers)] := hD
                  refine lv_imul hx hb dX5_lookUp_199 ?_
                  refine lv_topi (fun x_70 ex_70 => ?_)
                  have bd_71 := i3_bd x_68
                  have bd_72 := i3_bd r_69
                  refine lv_istore (lv' := [(17, .int x_70), (16, .int 16), (15, .int 1), (14, .int r_61), (13, .int 1), (12, .int r_11), (11, .int x_10), (10, .int x_9), (9, .int 0), (8, .int 0), (7, .int x_3), (6, .int x_1), (0, .ref o_t), (1, .int p1), (2, .int p2), (3, .int p3), (4, .int p4), (5, .int p5)]) hx hb dX5_lookUp_200 hl (by decide) rfl (fun ls hl => ?_)
                  refine lv_iload hx hb dX5_lookUp_202 (lv_at hl 7 rfl) ?_
                  refine lv_if_le (tgt := 229) hx hb dX5_lookUp_204 (by decide) (fun c_73 => ?_) (fun c_73 => ?_)
                  · have e_73 : x_9.toInt ≤ 0 := i3_le c_73
                    refine lv_iload hx hb dX5_lookUp_229 (lv_at hl 2 rfl) ?_
                    refine lv_iload hx hb dX5_lookUp_231 (lv_at hl 1 rfl) ?_
                    refine lv_imul hx hb dX5_lookUp_233 ?_
                    refine lv_cst (y := 16) (by decide) ?_
                    refine lv_istore (lv' := [(18, .int 16), (17, .int x_70), (16, .int 16), (15, .int 1), (14, .int r_61), (13, .int 1), (12, .int r_11), (11, .int x_10), (10, .int x_9), (9, .int 0), (8, .int 0), (7, .int x_3), (6, .int x_1), (0, .ref o_t), (1, .int p1), (2, .int p2), (3, .int p3), (4, .int p4), (5, .int p5)]) hx hb dX5_lookUp_234 hl (by decide) rfl (fun ls hl => ?_)
                    refine lv_iload hx hb dX5_lookUp_236 (lv_at hl 18 rfl) ?_
                    have b_p5 := r_p5.out
                    refine lv_if_eq (tgt := 254) hx hb dX5_lookUp_238 (by decide) (fun c_74 => ?_) (fun c_74 => ?_)
                    · have e_74 : p5.toInt = 0 := i3_eq c_74
                      refine lv_iload hx hb dX5_lookUp_254 (lv_at hl 1 rfl) ?_
                      refine lv_iload hx hb dX5_lookUp_256 (lv_at hl 0 rfl) ?_
                      refine lv_idiv hx hb dX5_lookUp_258 (by decide) ?_
                      refine lv_topi (fun x_75 ex_75 => ?_)
                      have bd_76 := i3_bd x_70
                      exact ret_i hx hb hr hlk (hP.sub (ws' := [(o_t, .inr (5, [.ref a_t_numbers, .ref a_t_lefts, .ref a_t_falls, .int f_t_lateCorner, .int f_t_earlyCorner])), (a_t_lefts, aI E 64 g_t_lefts), (a_t_numbers, aI E 192 g_t_numbers)]) [1, 0, 2] rfl) (hD.sub (ws' := [(o_t, .inr (5, [.ref a_t_numbers, .ref a_t_lefts, .ref a_t_falls, .int f_t_lateCorner, .int f_t_earlyCorner])), (a_t_lefts, aI E 64 g_t_lefts), (a_t_numbers, aI E 192 g_t_numbers)]) [1, 0, 2] (by decide) rfl) hS rfl dX5_lookUp_259 (Nat.le_of_ble_eq_true rfl) (Nat.le_of_ble_eq_true rfl) ⟨trivial, rfl⟩
                    · have e_74 : p5.toInt ≠ 0 := i3_ne c_74
                      refine lv_iload hx hb dX5_lookUp_241 (lv_at hl 1 rfl) ?_
                      refine lv_iload hx hb dX5_lookUp_243 (lv_at hl 0 rfl) ?_
                      refine lv_iadd hx hb dX5_lookUp_245 ?_
                      refine lv_topi (fun x_77 ex_77 => ?_)
                      have bd_78 := i3_bd x_70
                      refine lv_iconst (v := 1) hx hb dX5_lookUp_246 (by decide) ?_
                      refine lv_isub hx hb dX5_lookUp_247 ?_
                      refine lv_topi (fun x_79 ex_79 => ?_)
                      have bd_80 := i3_bd x_77
                      refine lv_iload hx hb dX5_lookUp_248 (lv_at hl 0 rfl) ?_
                      refine lv_idiv hx hb dX5_lookUp_250 (by decide) ?_
                      refine lv_topi (fun x_81 ex_81 => ?_)
                      have bd_82 := i3_bd x_79
                      refine lv_goto (tgt := 259) hx hb dX5_lookUp_251 (by decide) ?_
                      exact ret_i hx hb hr hlk (hP.sub (ws' := [(o_t, .inr (5, [.ref a_t_numbers, .ref a_t_lefts, .ref a_t_falls, .int f_t_lateCorner, .int f_t_earlyCorner])), (a_t_lefts, aI E 64 g_t_lefts), (a_t_numbers, aI E 192 g_t_numbers)]) [1, 0, 2] rfl) (hD.sub (ws' := [(o_t, .inr (5, [.ref a_t_numbers, .ref a_t_lefts, .ref a_t_falls, .int f_t_lateCorner, .int f_t_earlyCorner])), (a_t_lefts, aI E 64 g_t_lefts), (a_t_numbers, aI E 192 g_t_numbers)]) [1, 0, 2] (by decide) rfl) hS rfl dX5_lookUp_259 (Nat.le_of_ble_eq_true rfl) (Nat.le_of_ble_eq_true rfl) ⟨trivial, rfl⟩
                  · have e_73 : 0 < x_9.toInt := i3_nle c_73
                    exfalso; omega
              · have e_66 : 0 < x_9.toInt := i3_nle c_66
                exfalso; omega
            · have e_65 : r_61.toInt ≠ 0 := i3_ne c_65
              exfalso; omega
          · have e_64 : 0 < x_9.toInt := i3_nle c_64
            refine lv_aload_n hx hb dX5_lookUp_110 rfl (lv_at hl 9 rfl) ?_
            refine lv_iload hx hb dX5_lookUp_111 (lv_at hl 2 rfl) ?_
            refine lv_iconst (v := 1) hx hb dX5_lookUp_113 (by decide) ?_
            refine lv_iadd hx hb dX5_lookUp_114 ?_
            refine lv_topi (fun x_83 ex_83 => ?_)
            have tx_83 : x_83.toInt = r_11.toInt + 1 := i3_addc rfl rfl ex_83 (by omega)
            refine lv_iload hx hb dX5_lookUp_115 (lv_at hl 1 rfl) ?_
            refine call_i (va_runV (As := [.int x_83, .int 1]) (rest := []) ⟨hx, hb, hml, hown, hts⟩ (q_whyAbsent l E o_t a_t_numbers a_t_lefts a_t_falls f_t_lateCorner f_t_earlyCorner x_83 1 g_t_lefts r_f_t_lateCorner r_f_t_earlyCorner i_g_t_lefts (RG.mk (by omega)) H.size) (cwV 2 hts g_q_lookUp_q_whyAbsent_51 rfl rfl rfl (by decide +kernel) ⟨Nat.le_of_ble_eq_true rfl, Nat.le_of_ble_eq_true rfl⟩) (pre_V hK hN hZ hS (va_free hD hS hA [1, 2] rfl) (hP.sub (ws' := [(o_t, .inr (5, [.ref a_t_numbers, .ref a_t_lefts, .ref a_t_falls, .int f_t_lateCorner, .int f_t_earlyCorner])), (a_t_lefts, aI E 64 g_t_lefts)]) [1, 2] rfl) (hD.sub (ws' := [(o_t, .inr (5, [.ref a_t_numbers, .ref a_t_lefts, .ref a_t_falls, .int f_t_lateCorner, .int f_t_earlyCorner])), (a_t_lefts, aI E 64 g_t_lefts)]) [1, 2] (by decide) rfl) (ci := 5) (q0 := 0) rfl rfl) rfl rfl hl.1 rfl (lv_room (Nat.le_of_ble_eq_true rfl)) dX5_lookUp_117 ⟨Nat.le_of_ble_eq_true rfl, Nat.le_of_ble_eq_true rfl⟩) hP hD hS hA [1, 2] [0] (wr := [(a_t_numbers, aI E 192 g_t_numbers)]) rfl rfl (by decide) (by decide) (fun r_84 w H locs hw hP hD hS => ?_)
            obtain ⟨b_r_84, rfl⟩ := hw
            replace hP : va_P E.1 vwCl [(a_t_numbers, aI E 192 g_t_numbers), (o_t, .inr (5, [.ref a_t_numbers, .ref a_t_lefts, .ref a_t_falls, .int f_t_lateCorner, .int f_t_earlyCorner])), (a_t_lefts, aI E 64 g_t_lefts)] H := hP
            replace hD : va_D A [(a_t_numbers, aI E 192 g_t_numbers), (o_t, .inr (5, [.ref a_t_numbers, .ref a_t_lefts, .ref a_t_falls, .int f_t_lateCorner, .int f_t_earlyCorner])), (a_t_lefts, aI E 64 g_t_lefts)] := hD
            refine lv_istore (lv' := [(14, .int r_84), (13, .int 1), (12, .int r_11), (11, .int x_10), (10, .int x_9), (9, .int 0), (8, .int 0), (7, .int x_3), (6, .int x_1), (0, .ref o_t), (1, .int p1), (2, .int p2), (3, .int p3), (4, .int p4), (5, .int p5)]) hx hb dX5_lookUp_120 hl (by decide) rfl (fun ls hl => ?_)
            refine lv_iload hx hb dX5_lookUp_122 (lv_at hl 0 rfl) ?_
            refine lv_if_eq (tgt := 130) hx hb dX5_lookUp_124 (by decide) (fun c_85 => ?_) (fun c_85 => ?_)
            · have e_85 : r_84.toInt = 0 := i3_eq c_85
              refine lv_iload hx hb dX5_lookUp_130 (lv_at hl 4 rfl) ?_
              refine lv_if_le (tgt := 153) hx hb dX5_lookUp_132 (by decide) (fun c_86 => ?_) (fun c_86 => ?_)
              · have e_86 : x_9.toInt ≤ 0 := i3_le c_86
                exfalso; omega
              · have e_86 : 0 < x_9.toInt := i3_nle c_86
                refine va_gets (C := "TimingHouse$Tables") (n := "LOAD_MARKS") (d := "[I") (own := RX5) (ref := "TimingHouse$Tables") hx hb hZ.1.1 hS hown (hto (.fieldLink RX5 31 "TimingHouse$Tables" "LOAD_MARKS" "[I") (by decide +kernel)) (fun _ h9 => h9) dX5_lookUp_135 ?_
                refine lv_iload hx hb dX5_lookUp_138 (lv_at hl 6 rfl) ?_
                refine lv_iconst (v := 1) hx hb dX5_lookUp_140 (by decide) ?_
                refine lv_iadd hx hb dX5_lookUp_141 ?_
                refine lv_cst (y := 1) (by decide) ?_
                refine va_ti (v := .int 8) hx hb hZ.1.2 hS (i3_in (by decide)) rfl dX5_lookUp_142 ?_
                refine va_gets (C := "TimingHouse$Tables") (n := "LOAD_MARKS") (d := "[I") (own := RX5) (ref := "TimingHouse$Tables") hx hb hZ.1.1 hS hown (hto (.fieldLink RX5 31 "TimingHouse$Tables" "LOAD_MARKS" "[I") (by decide +kernel)) (fun _ h9 => h9) dX5_lookUp_143 ?_
                refine lv_iload hx hb dX5_lookUp_146 (lv_at hl 6 rfl) ?_
                refine va_ti (v := .int 0) hx hb hZ.1.2 hS (i3_in (by decide)) rfl dX5_lookUp_148 ?_
                refine lv_isub hx hb dX5_lookUp_149 ?_
                refine lv_cst (y := 8) (by decide) ?_
                refine lv_goto (tgt := 154) hx hb dX5_lookUp_150 (by decide) ?_
                refine lv_istore (lv' := [(15, .int 8), (14, .int r_84), (13, .int 1), (12, .int r_11), (11, .int x_10), (10, .int x_9), (9, .int 0), (8, .int 0), (7, .int x_3), (6, .int x_1), (0, .ref o_t), (1, .int p1), (2, .int p2), (3, .int p3), (4, .int p4), (5, .int p5)]) hx hb dX5_lookUp_154 hl (by decide) rfl (fun ls hl => ?_)
                refine lv_iload hx hb dX5_lookUp_156 (lv_at hl 4 rfl) ?_
                refine lv_if_le (tgt := 179) hx hb dX5_lookUp_158 (by decide) (fun c_87 => ?_) (fun c_87 => ?_)
                · have e_87 : x_10.toInt ≤ 0 := i3_le c_87
                  exfalso; omega
                · have e_87 : 0 < x_10.toInt := i3_nle c_87
                  refine va_gets (C := "TimingHouse$Tables") (n := "SLOPE_MARKS") (d := "[I") (own := RX5) (ref := "TimingHouse$Tables") hx hb hZ.2.1.1 hS hown (hto (.fieldLink RX5 40 "TimingHouse$Tables" "SLOPE_MARKS" "[I") (by decide +kernel)) (fun _ h9 => h9) dX5_lookUp_161 ?_
                  refine lv_iload hx hb dX5_lookUp_164 (lv_at hl 6 rfl) ?_
                  refine lv_iconst (v := 1) hx hb dX5_lookUp_166 (by decide) ?_
                  refine lv_iadd hx hb dX5_lookUp_167 ?_
                  refine lv_cst (y := 1) (by decide) ?_
                  refine va_ti (v := .int 16) hx hb hZ.2.1.2 hS (i3_in (by decide)) rfl dX5_lookUp_168 ?_
                  refine va_gets (C := "TimingHouse$Tables") (n := "SLOPE_MARKS") (d := "[I") (own := RX5) (ref := "TimingHouse$Tables") hx hb hZ.2.1.1 hS hown (hto (.fieldLink RX5 40 "TimingHouse$Tables" "SLOPE_MARKS" "[I") (by decide +kernel)) (fun _ h9 => h9) dX5_lookUp_169 ?_
                  refine lv_iload hx hb dX5_lookUp_172 (lv_at hl 6 rfl) ?_
                  refine va_ti (v := .int 0) hx hb hZ.2.1.2 hS (i3_in (by decide)) rfl dX5_lookUp_174 ?_
                  refine lv_isub hx hb dX5_lookUp_175 ?_
                  refine lv_cst (y := 16) (by decide) ?_
                  refine lv_goto (tgt := 180) hx hb dX5_lookUp_176 (by decide) ?_
                  refine lv_istore (lv' := [(16, .int 16), (15, .int 8), (14, .int r_84), (13, .int 1), (12, .int r_11), (11, .int x_10), (10, .int x_9), (9, .int 0), (8, .int 0), (7, .int x_3), (6, .int x_1), (0, .ref o_t), (1, .int p1), (2, .int p2), (3, .int p3), (4, .int p4), (5, .int p5)]) hx hb dX5_lookUp_180 hl (by decide) rfl (fun ls hl => ?_)
                  refine lv_iload hx hb dX5_lookUp_182 (lv_at hl 1 rfl) ?_
                  refine lv_iload hx hb dX5_lookUp_184 (lv_at hl 6 rfl) ?_
                  refine lv_isub hx hb dX5_lookUp_186 ?_
                  refine lv_topi (fun x_88 ex_88 => ?_)
                  have tx_88 : x_88.toInt = 8 - x_9.toInt := i3_subc rfl rfl ex_88 (by omega)
                  refine lv_aload_n hx hb dX5_lookUp_187 rfl (lv_at hl 11 rfl) ?_
                  refine lv_iload hx hb dX5_lookUp_188 (lv_at hl 4 rfl) ?_
                  refine lv_iload hx hb dX5_lookUp_190 (lv_at hl 7 rfl) ?_
                  refine lv_iload hx hb dX5_lookUp_192 (lv_at hl 5 rfl) ?_
                  refine lv_iload hx hb dX5_lookUp_194 (lv_at hl 0 rfl) ?_
                  refine call_i (va_runV (As := [.int r_11, .int 0, .int x_10, .int 16]) (rest := [.int x_88]) ⟨hx, hb, hml, hown, hts⟩ (q_weighRow1 l E o_t a_t_numbers a_t_lefts a_t_falls f_t_lateCorner f_t_earlyCorner r_11 0 x_10 16 g_t_numbers r_f_t_lateCorner r_f_t_earlyCorner i_g_t_numbers (RG.mk (by omega)) (RG.mk (by decide)) H.size) (cwV 4 hts g_q_lookUp_q_weighRow1_54 rfl rfl rfl (by decide +kernel) ⟨Nat.le_of_ble_eq_true rfl, Nat.le_of_ble_eq_true rfl⟩) (pre_V hK hN hZ hS (va_free hD hS hA [1, 0] rfl) (hP.sub (ws' := [(o_t, .inr (5, [.ref a_t_numbers, .ref a_t_lefts, .ref a_t_falls, .int f_t_lateCorner, .int f_t_earlyCorner])), (a_t_numbers, aI E 192 g_t_numbers)]) [1, 0] rfl) (hD.sub (ws' := [(o_t, .inr (5, [.ref a_t_numbers, .ref a_t_lefts, .ref a_t_falls, .int f_t_lateCorner, .int f_t_earlyCorner])), (a_t_numbers, aI E 192 g_t_numbers)]) [1, 0] (by decide) rfl) (ci := 5) (q0 := 0) rfl rfl) rfl rfl hl.1 rfl (lv_room (Nat.le_of_ble_eq_true rfl)) dX5_lookUp_196 ⟨Nat.le_of_ble_eq_true rfl, Nat.le_of_ble_eq_true rfl⟩) hP hD hS hA [1, 0] [2] (wr := [(a_t_lefts, aI E 64 g_t_lefts)]) rfl rfl (by decide) (by decide) (fun r_89 w H locs hw hP hD hS => ?_)
                  obtain ⟨b_r_89, rfl⟩ := hw
                  replace hP : va_P E.1 vwCl [(a_t_lefts, aI E 64 g_t_lefts), (o_t, .inr (5, [.ref a_t_numbers, .ref a_t_lefts, .ref a_t_falls, .int f_t_lateCorner, .int f_t_earlyCorner])), (a_t_numbers, aI E 192 g_t_numbers)] H := hP
                  replace hD : va_D A [(a_t_lefts, aI E 64 g_t_lefts), (o_t, .inr (5, [.ref a_t_numbers, .ref a_t_lefts, .ref a_t_falls, .int f_t_lateCorner, .int f_t_earlyCorner])), (a_t_numbers, aI E 192 g_t_numbers)] := hD
                  refine lv_imul hx hb dX5_lookUp_199 ?_
                  refine lv_topi (fun x_90 ex_90 => ?_)
                  have bd_91 := i3_bd r_89
                  refine lv_istore (lv' := [(17, .int x_90), (16, .int 16), (15, .int 8), (14, .int r_84), (13, .int 1), (12, .int r_11), (11, .int x_10), (10, .int x_9), (9, .int 0), (8, .int 0), (7, .int x_3), (6, .int x_1), (0, .ref o_t), (1, .int p1), (2, .int p2), (3, .int p3), (4, .int p4), (5, .int p5)]) hx hb dX5_lookUp_200 hl (by decide) rfl (fun ls hl => ?_)
                  refine lv_iload hx hb dX5_lookUp_202 (lv_at hl 7 rfl) ?_
                  refine lv_if_le (tgt := 229) hx hb dX5_lookUp_204 (by decide) (fun c_92 => ?_) (fun c_92 => ?_)
                  · have e_92 : x_9.toInt ≤ 0 := i3_le c_92
                    exfalso; omega
                  · have e_92 : 0 < x_9.toInt := i3_nle c_92
                    refine lv_iload hx hb dX5_lookUp_207 (lv_at hl 0 rfl) ?_
                    refine lv_iload hx hb dX5_lookUp_209 (lv_at hl 7 rfl) ?_
                    refine lv_aload_n hx hb dX5_lookUp_211 rfl (lv_at hl 12 rfl) ?_
                    refine lv_iload hx hb dX5_lookUp_212 (lv_at hl 5 rfl) ?_
                    refine lv_iconst (v := 1) hx hb dX5_lookUp_214 (by decide) ?_
                    refine lv_iadd hx hb dX5_lookUp_215 ?_
                    refine lv_topi (fun x_93 ex_93 => ?_)
                    have hq_x_93 : x_83 = x_93 := ex_83.trans ex_93.symm
                    subst hq_x_93
                    refine lv_iload hx hb dX5_lookUp_216 (lv_at hl 8 rfl) ?_
                    refine lv_iload hx hb dX5_lookUp_218 (lv_at hl 6 rfl) ?_
                    refine lv_iload hx hb dX5_lookUp_220 (lv_at hl 1 rfl) ?_
                    refine call_i (va_runV (As := [.int x_83, .int 0, .int x_10, .int 16]) (rest := [.int x_9, .int x_90]) ⟨hx, hb, hml, hown, hts⟩ (q_weighRow1 l E o_t a_t_numbers a_t_lefts a_t_falls f_t_lateCorner f_t_earlyCorner x_83 0 x_10 16 g_t_numbers r_f_t_lateCorner r_f_t_earlyCorner i_g_t_numbers (RG.mk (by omega)) (RG.mk (by decide)) H.size) (cwV 4 hts g_q_lookUp_q_weighRow1_54 rfl rfl rfl (by decide +kernel) ⟨Nat.le_of_ble_eq_true rfl, Nat.le_of_ble_eq_true rfl⟩) (pre_V hK hN hZ hS (va_free hD hS hA [1, 2] rfl) (hP.sub (ws' := [(o_t, .inr (5, [.ref a_t_numbers, .ref a_t_lefts, .ref a_t_falls, .int f_t_lateCorner, .int f_t_earlyCorner])), (a_t_numbers, aI E 192 g_t_numbers)]) [1, 2] rfl) (hD.sub (ws' := [(o_t, .inr (5, [.ref a_t_numbers, .ref a_t_lefts, .ref a_t_falls, .int f_t_lateCorner, .int f_t_earlyCorner])), (a_t_numbers, aI E 192 g_t_numbers)]) [1, 2] (by decide) rfl) (ci := 5) (q0 := 0) rfl rfl) rfl rfl hl.1 rfl (lv_room (Nat.le_of_ble_eq_true rfl)) dX5_lookUp_222 ⟨Nat.le_of_ble_eq_true rfl, Nat.le_of_ble_eq_true rfl⟩) hP hD hS hA [1, 2] [0] (wr := [(a_t_lefts, aI E 64 g_t_lefts)]) rfl rfl (by decide) (by decide) (fun r_94 w H locs hw hP hD hS => ?_)
                    obtain ⟨b_r_94, rfl⟩ := hw
                    replace hP : va_P E.1 vwCl [(a_t_lefts, aI E 64 g_t_lefts), (o_t, .inr (5, [.ref a_t_numbers, .ref a_t_lefts, .ref a_t_falls, .int f_t_lateCorner, .int f_t_earlyCorner])), (a_t_numbers, aI E 192 g_t_numbers)] H := hP
                    replace hD : va_D A [(a_t_lefts, aI E 64 g_t_lefts), (o_t, .inr (5, [.ref a_t_numbers, .ref a_t_lefts, .ref a_t_falls, .int f_t_lateCorner, .int f_t_earlyCorner])), (a_t_numbers, aI E 192 g_t_numbers)] := hD
                    refine lv_imul hx hb dX5_lookUp_225 ?_
                    refine lv_topi (fun x_95 ex_95 => ?_)
                    have bd_96 := i3_bd r_94
                    refine lv_iadd hx hb dX5_lookUp_226 ?_
                    refine lv_topi (fun x_97 ex_97 => ?_)
                    have bd_98 := i3_bd x_90
                    have bd_99 := i3_bd x_95
                    refine lv_istore (lv' := [(17, .int x_97), (16, .int 16), (15, .int 8), (14, .int r_84), (13, .int 1), (12, .int r_11), (11, .int x_10), (10, .int x_9), (9, .int 0), (8, .int 0), (7, .int x_3), (6, .int x_1), (0, .ref o_t), (1, .int p1), (2, .int p2), (3, .int p3), (4, .int p4), (5, .int p5)]) hx hb dX5_lookUp_227 hl (by decide) rfl (fun ls hl => ?_)
                    refine lv_iload hx hb dX5_lookUp_229 (lv_at hl 2 rfl) ?_
                    refine lv_iload hx hb dX5_lookUp_231 (lv_at hl 1 rfl) ?_
                    refine lv_imul hx hb dX5_lookUp_233 ?_
                    refine lv_cst (y := 128) (by decide) ?_
                    refine lv_istore (lv' := [(18, .int 128), (17, .int x_97), (16, .int 16), (15, .int 8), (14, .int r_84), (13, .int 1), (12, .int r_11), (11, .int x_10), (10, .int x_9), (9, .int 0), (8, .int 0), (7, .int x_3), (6, .int x_1), (0, .ref o_t), (1, .int p1), (2, .int p2), (3, .int p3), (4, .int p4), (5, .int p5)]) hx hb dX5_lookUp_234 hl (by decide) rfl (fun ls hl => ?_)
                    refine lv_iload hx hb dX5_lookUp_236 (lv_at hl 18 rfl) ?_
                    have b_p5 := r_p5.out
                    refine lv_if_eq (tgt := 254) hx hb dX5_lookUp_238 (by decide) (fun c_100 => ?_) (fun c_100 => ?_)
                    · have e_100 : p5.toInt = 0 := i3_eq c_100
                      refine lv_iload hx hb dX5_lookUp_254 (lv_at hl 1 rfl) ?_
                      refine lv_iload hx hb dX5_lookUp_256 (lv_at hl 0 rfl) ?_
                      refine lv_idiv hx hb dX5_lookUp_258 (by decide) ?_
                      refine lv_topi (fun x_101 ex_101 => ?_)
                      have bd_102 := i3_bd x_97
                      exact ret_i hx hb hr hlk (hP.sub (ws' := [(o_t, .inr (5, [.ref a_t_numbers, .ref a_t_lefts, .ref a_t_falls, .int f_t_lateCorner, .int f_t_earlyCorner])), (a_t_lefts, aI E 64 g_t_lefts), (a_t_numbers, aI E 192 g_t_numbers)]) [1, 0, 2] rfl) (hD.sub (ws' := [(o_t, .inr (5, [.ref a_t_numbers, .ref a_t_lefts, .ref a_t_falls, .int f_t_lateCorner, .int f_t_earlyCorner])), (a_t_lefts, aI E 64 g_t_lefts), (a_t_numbers, aI E 192 g_t_numbers)]) [1, 0, 2] (by decide) rfl) hS rfl dX5_lookUp_259 (Nat.le_of_ble_eq_true rfl) (Nat.le_of_ble_eq_true rfl) ⟨trivial, rfl⟩
                    · have e_100 : p5.toInt ≠ 0 := i3_ne c_100
                      refine lv_iload hx hb dX5_lookUp_241 (lv_at hl 1 rfl) ?_
                      refine lv_iload hx hb dX5_lookUp_243 (lv_at hl 0 rfl) ?_
                      refine lv_iadd hx hb dX5_lookUp_245 ?_
                      refine lv_topi (fun x_103 ex_103 => ?_)
                      have bd_104 := i3_bd x_97
                      refine lv_iconst (v := 1) hx hb dX5_lookUp_246 (by decide) ?_
                      refine lv_isub hx hb dX5_lookUp_247 ?_
                      refine lv_topi (fun x_105 ex_105 => ?_)
                      have bd_106 := i3_bd x_103
                      refine lv_iload hx hb dX5_lookUp_248 (lv_at hl 0 rfl) ?_
                      refine lv_idiv hx hb dX5_lookUp_250 (by decide) ?_
                      refine lv_topi (fun x_107 ex_107 => ?_)
                      have bd_108 := i3_bd x_105
                      refine lv_goto (tgt := 259) hx hb dX5_lookUp_251 (by decide) ?_
                      exact ret_i hx hb hr hlk (hP.sub (ws' := [(o_t, .inr (5, [.ref a_t_numbers, .ref a_t_lefts, .ref a_t_falls, .int f_t_lateCorner, .int f_t_earlyCorner])), (a_t_lefts, aI E 64 g_t_lefts), (a_t_numbers, aI E 192 g_t_numbers)]) [1, 0, 2] rfl) (hD.sub (ws' := [(o_t, .inr (5, [.ref a_t_numbers, .ref a_t_lefts, .ref a_t_falls, .int f_t_lateCorner, .int f_t_earlyCorner])), (a_t_lefts, aI E 64 g_t_lefts), (a_t_numbers, aI E 192 g_t_numbers)]) [1, 0, 2] (by decide) rfl) hS rfl dX5_lookUp_259 (Nat.le_of_ble_eq_true rfl) (Nat.le_of_ble_eq_true rfl) ⟨trivial, rfl⟩
            · have e_85 : r_84.toInt ≠ 0 := i3_ne c_85
              refine lv_iload hx hb dX5_lookUp_127 (lv_at hl 0 rfl) ?_
              exact ret_i hx hb hr hlk (hP.sub (ws' := [(o_t, .inr (5, [.ref a_t_numbers, .ref a_t_lefts, .ref a_t_falls, .int f_t_lateCorner, .int f_t_earlyCorner])), (a_t_lefts, aI E 64 g_t_lefts), (a_t_numbers, aI E 192 g_t_numbers)]) [1, 2, 0] rfl) (hD.sub (ws' := [(o_t, .inr (5, [.ref a_t_numbers, .ref a_t_lefts, .ref a_t_falls, .int f_t_lateCorner, .int f_t_earlyCorner])), (a_t_lefts, aI E 64 g_t_lefts), (a_t_numbers, aI E 192 g_t_numbers)]) [1, 2, 0] (by decide) rfl) hS rfl dX5_lookUp_129 (Nat.le_of_ble_eq_true rfl) (Nat.le_of_ble_eq_true rfl) ⟨trivial, rfl⟩
    · have hs_h_8 := i3_cs (c := 1) h_8 (by decide)
      subst hs_h_8
      have hk_h_8 : (1 : Int32).toInt = 1 := rfl
      refine lv_iload hx hb dX5_lookUp_43 (lv_at hl 3 rfl) ?_
      refine va_gets (C := "TimingHouse$Tables") (n := "LOAD_MARKS") (d := "[I") (own := RX5) (ref := "TimingHouse$Tables") hx hb hZ.1.1 hS hown (hto (.fieldLink RX5 31 "TimingHouse$Tables" "LOAD_MARKS" "[I") (by decide +kernel)) (fun _ h9 => h9) dX5_lookUp_45 ?_
      refine lv_iload hx hb dX5_lookUp_48 (lv_at hl 1 rfl) ?_
      refine va_ti (v := .int 0) hx hb hZ.1.2 hS (i3_in (by decide)) rfl dX5_lookUp_50 ?_
      refine lv_isub hx hb dX5_lookUp_51 ?_
      refine lv_topi (fun x_109 ex_109 => ?_)
      have tx_109 : x_109.toInt = x_1.toInt - 0 := i3_subc rfl rfl ex_109 (by omega)
      refine lv_istore (lv' := [(10, .int x_109), (9, .int 1), (8, .int 0), (7, .int x_3), (6, .int x_1), (0, .ref o_t), (1, .int p1), (2, .int p2), (3, .int p3), (4, .int p4), (5, .int p5)]) hx hb dX5_lookUp_52 hl (by decide) rfl (fun ls hl => ?_)
      refine lv_iload hx hb dX5_lookUp_54 (lv_at hl 3 rfl) ?_
      refine va_gets (C := "TimingHouse$Tables") (n := "SLOPE_MARKS") (d := "[I") (own := RX5) (ref := "TimingHouse$Tables") hx hb hZ.2.1.1 hS hown (hto (.fieldLink RX5 40 "TimingHouse$Tables" "SLOPE_MARKS" "[I") (by decide +kernel)) (fun _ h9 => h9) dX5_lookUp_56 ?_
      refine lv_iload hx hb dX5_lookUp_59 (lv_at hl 1 rfl) ?_
      refine va_ti (v := .int 16) hx hb hZ.2.1.2 hS (i3_in (by decide)) rfl dX5_lookUp_61 ?_
      refine lv_isub hx hb dX5_lookUp_62 ?_
      refine lv_topi (fun x_110 ex_110 => ?_)
      have tx_110 : x_110.toInt = x_3.toInt - 16 := i3_subc rfl rfl ex_110 (by omega)
      refine lv_istore (lv' := [(11, .int x_110), (10, .int x_109), (9, .int 1), (8, .int 0), (7, .int x_3), (6, .int x_1), (0, .ref o_t), (1, .int p1), (2, .int p2), (3, .int p3), (4, .int p4), (5, .int p5)]) hx hb dX5_lookUp_63 hl (by decide) rfl (fun ls hl => ?_)
      refine lv_iload_n hx hb dX5_lookUp_65 rfl (lv_at hl 7 rfl) ?_
      refine lv_iload_n hx hb dX5_lookUp_66 rfl (lv_at hl 8 rfl) ?_
      refine lv_iload hx hb dX5_lookUp_67 (lv_at hl 3 rfl) ?_
      have b_p1 := r_p1.out
      have b_p2 := r_p2.out
      refine call_i (va_runS (As := [.int p1, .int p2, .int 0]) (rest := []) ⟨hx, hb, hml, hown, hts⟩ (q_rowPlace l E p1 p2 0 r_p1 r_p2 (RG.mk (by decide)) H.size) (va_cwS 3 hts g_q_lookUp_q_rowPlace_47 rfl rfl rfl (by decide +kernel) ⟨Nat.le_of_ble_eq_true rfl, Nat.le_of_ble_eq_true rfl⟩) (pre_S hK hN hZ hS (va_free hD hS hA [] rfl) (hP.sub (ws' := []) [] rfl) (hD.sub (ws' := []) [] (by decide) rfl)) rfl rfl hl.1 rfl (lv_room (Nat.le_of_ble_eq_true rfl)) dX5_lookUp_69 ⟨Nat.le_of_ble_eq_true rfl, Nat.le_of_ble_eq_true rfl⟩) hP hD hS hA [] [0, 1, 2] (wr := [(o_t, .inr (5, [.ref a_t_numbers, .ref a_t_lefts, .ref a_t_falls, .int f_t_lateCorner, .int f_t_earlyCorner])), (a_t_lefts, aI E 64 g_t_lefts), (a_t_numbers, aI E 192 g_t_numbers)]) rfl rfl (by decide) (by decide) (fun r_111 w H locs hw hP hD hS => ?_)
      obtain ⟨b_r_111, l_r_111, rfl⟩ := hw
      replace l_r_111 : r_111.toInt = (p1.toInt * 2 + p2.toInt) * 4 + 0 := l_r_111
      replace hP : va_P E.1 vwCl [(o_t, .inr (5, [.ref a_t_numbers, .ref a_t_lefts, .ref a_t_falls, .int f_t_lateCorner, .int f_t_earlyCorner])), (a_t_lefts, aI E 64 g_t_lefts), (a_t_numbers, aI E 192 g_t_numbers)] H := hP
      replace hD : va_D A [(o_t, .inr (5, [.ref a_t_numbers, .ref a_t_lefts, .ref a_t_falls, .int f_t_lateCorner, .int f_t_earlyCorner])), (a_t_lefts, aI E 64 g_t_lefts), (a_t_numbers, aI E 192 g_t_numbers)] := hD
      refine lv_istore (lv' := [(12, .int r_111), (11, .int x_110), (10, .int x_109), (9, .int 1), (8, .int 0), (7, .int x_3), (6, .int x_1), (0, .ref o_t), (1, .int p1), (2, .int p2), (3, .int p3), (4, .int p4), (5, .int p5)]) hx hb dX5_lookUp_72 hl (by decide) rfl (fun ls hl => ?_)
      refine lv_iload hx hb dX5_lookUp_74 (lv_at hl 1 rfl) ?_
      refine lv_if_le (tgt := 86) hx hb dX5_lookUp_76 (by decide) (fun c_112 => ?_) (fun c_112 => ?_)
      · have e_112 : x_110.toInt ≤ 0 := i3_le c_112
        refine lv_iload hx hb dX5_lookUp_86 (lv_at hl 3 rfl) ?_
        refine lv_istore (lv' := [(13, .int 1), (12, .int r_111), (11, .int x_110), (10, .int x_109), (9, .int 1), (8, .int 0), (7, .int x_3), (6, .int x_1), (0, .ref o_t), (1, .int p1), (2, .int p2), (3, .int p3), (4, .int p4), (5, .int p5)]) hx hb dX5_lookUp_88 hl (by decide) rfl (fun ls hl => ?_)
        refine lv_aload_n hx hb dX5_lookUp_90 rfl (lv_at hl 8 rfl) ?_
        refine lv_iload hx hb dX5_lookUp_91 (lv_at hl 1 rfl) ?_
        refine lv_iload hx hb dX5_lookUp_93 (lv_at hl 0 rfl) ?_
        refine call_i (va_runV (As := [.int r_111, .int 1]) (rest := []) ⟨hx, hb, hml, hown, hts⟩ (q_whyAbsent l E o_t a_t_numbers a_t_lefts a_t_falls f_t_lateCorner f_t_earlyCorner r_111 1 g_t_lefts r_f_t_lateCorner r_f_t_earlyCorner i_g_t_lefts (RG.mk (by omega)) H.size) (cwV 2 hts g_q_lookUp_q_whyAbsent_51 rfl rfl rfl (by decide +kernel) ⟨Nat.le_of_ble_eq_true rfl, Nat.le_of_ble_eq_true rfl⟩) (pre_V hK hN hZ hS (va_free hD hS hA [0, 1] rfl) (hP.sub (ws' := [(o_t, .inr (5, [.ref a_t_numbers, .ref a_t_lefts, .ref a_t_falls, .int f_t_lateCorner, .int f_t_earlyCorner])), (a_t_lefts, aI E 64 g_t_lefts)]) [0, 1] rfl) (hD.sub (ws' := [(o_t, .inr (5, [.ref a_t_numbers, .ref a_t_lefts, .ref a_t_falls, .int f_t_lateCorner, .int f_t_earlyCorner])), (a_t_lefts, aI E 64 g_t_lefts)]) [0, 1] (by decide) rfl) (ci := 5) (q0 := 0) rfl rfl) rfl rfl hl.1 rfl (lv_room (Nat.le_of_ble_eq_true rfl)) dX5_lookUp_95 ⟨Nat.le_of_ble_eq_true rfl, Nat.le_of_ble_eq_true rfl⟩) hP hD hS hA [0, 1] [2] (wr := [(a_t_numbers, aI E 192 g_t_numbers)]) rfl rfl (by decide) (by decide) (fun r_113 w H locs hw hP hD hS => ?_)
        obtain ⟨b_r_113, rfl⟩ := hw
        replace hP : va_P E.1 vwCl [(a_t_numbers, aI E 192 g_t_numbers), (o_t, .inr (5, [.ref a_t_numbers, .ref a_t_lefts, .ref a_t_falls, .int f_t_lateCorner, .int f_t_earlyCorner])), (a_t_lefts, aI E 64 g_t_lefts)] H := hP
        replace hD : va_D A [(a_t_numbers, aI E 192 g_t_numbers), (o_t, .inr (5, [.ref a_t_numbers, .ref a_t_lefts, .ref a_t_falls, .int f_t_lateCorner, .int f_t_earlyCorner])), (a_t_lefts, aI E 64 g_t_lefts)] := hD
        refine lv_istore (lv' := [(14, .int r_113), (13, .int 1), (12, .int r_111), (11, .int x_110), (10, .int x_109), (9, .int 1), (8, .int 0), (7, .int x_3), (6, .int x_1), (0, .ref o_t), (1, .int p1), (2, .int p2), (3, .int p3), (4, .int p4), (5, .int p5)]) hx hb dX5_lookUp_98 hl (by decide) rfl (fun ls hl => ?_)
        refine lv_iload hx hb dX5_lookUp_100 (lv_at hl 0 rfl) ?_
        refine lv_if_ne (tgt := 122) hx hb dX5_lookUp_102 (by decide) (fun c_114 => ?_) (fun c_114 => ?_)
        · have e_114 : r_113.toInt ≠ 0 := i3_ne c_114
          refine lv_iload hx hb dX5_lookUp_122 (lv_at hl 0 rfl) ?_
          refine lv_if_eq (tgt := 130) hx hb dX5_lookUp_124 (by decide) (fun c_115 => ?_) (fun c_115 => ?_)
          · have e_115 : r_113.toInt = 0 := i3_eq c_115
            exfalso; omega
          · have e_115 : r_113.toInt ≠ 0 := i3_ne c_115
            refine lv_iload hx hb dX5_lookUp_127 (lv_at hl 0 rfl) ?_
            exact ret_i hx hb hr hlk (hP.sub (ws' := [(o_t, .inr (5, [.ref a_t_numbers, .ref a_t_lefts, .ref a_t_falls, .int f_t_lateCorner, .int f_t_earlyCorner])), (a_t_lefts, aI E 64 g_t_lefts), (a_t_numbers, aI E 192 g_t_numbers)]) [1, 2, 0] rfl) (hD.sub (ws' := [(o_t, .inr (5, [.ref a_t_numbers, .ref a_t_lefts, .ref a_t_falls, .int f_t_lateCorner, .int f_t_earlyCorner])), (a_t_lefts, aI E 64 g_t_lefts), (a_t_numbers, aI E 192 g_t_numbers)]) [1, 2, 0] (by decide) rfl) hS rfl dX5_lookUp_129 (Nat.le_of_ble_eq_true rfl) (Nat.le_of_ble_eq_true rfl) ⟨trivial, rfl⟩
        · have e_114 : r_113.toInt = 0 := i3_eq c_114
          refine lv_iload hx hb dX5_lookUp_105 (lv_at hl 4 rfl) ?_
          refine lv_if_le (tgt := 122) hx hb dX5_lookUp_107 (by decide) (fun c_116 => ?_) (fun c_116 => ?_)
          · have e_116 : x_109.toInt ≤ 0 := i3_le c_116
            refine lv_iload hx hb dX5_lookUp_122 (lv_at hl 0 rfl) ?_
            refine lv_if_eq (tgt := 130) hx hb dX5_lookUp_124 (by decide) (fun c_117 => ?_) (fun c_117 => ?_)
            · have e_117 : r_113.toInt = 0 := i3_eq c_117
              refine lv_iload hx hb dX5_lookUp_130 (lv_at hl 4 rfl) ?_
              refine lv_if_le (tgt := 153) hx hb dX5_lookUp_132 (by decide) (fun c_118 => ?_) (fun c_118 => ?_)
              · have e_118 : x_109.toInt ≤ 0 := i3_le c_118
                refine lv_iconst (v := 1) hx hb dX5_lookUp_153 (by decide) ?_
                refine lv_istore (lv' := [(15, .int 1), (14, .int r_113), (13, .int 1), (12, .int r_111), (11, .int x_110), (10, .int x_109), (9, .int 1), (8, .int 0), (7, .int x_3), (6, .int x_1), (0, .ref o_t), (1, .int p1), (2, .int p2), (3, .int p3), (4, .int p4), (5, .int p5)]) hx hb dX5_lookUp_154 hl (by decide) rfl (fun ls hl => ?_)
                refine lv_iload hx hb dX5_lookUp_156 (lv_at hl 4 rfl) ?_
                refine lv_if_le (tgt := 179) hx hb dX5_lookUp_158 (by decide) (fun c_119 => ?_) (fun c_119 => ?_)
                · have e_119 : x_110.toInt ≤ 0 := i3_le c_119
                  refine lv_iconst (v := 1) hx hb dX5_lookUp_179 (by decide) ?_
                  refine lv_istore (lv' := [(16, .int 1), (15, .int 1), (14, .int r_113), (13, .int 1), (12, .int r_111), (11, .int x_110), (10, .int x_109), (9, .int 1), (8, .int 0), (7, .int x_3), (6, .int x_1), (0, .ref o_t), (1, .int p1), (2, .int p2), (3, .int p3), (4, .int p4), (5, .int p5)]) hx hb dX5_lookUp_180 hl (by decide) rfl (fun ls hl => ?_)
                  refine lv_iload hx hb dX5_lookUp_182 (lv_at hl 1 rfl) ?_
                  refine lv_iload hx hb dX5_lookUp_184 (lv_at hl 6 rfl) ?_
                  refine lv_isub hx hb dX5_lookUp_186 ?_
                  refine lv_topi (fun x_120 ex_120 => ?_)
                  refine lv_aload_n hx hb dX5_lookUp_187 rfl (lv_at hl 11 rfl) ?_
                  refine lv_iload hx hb dX5_lookUp_188 (lv_at hl 4 rfl) ?_
                  refine lv_iload hx hb dX5_lookUp_190 (lv_at hl 7 rfl) ?_
                  refine lv_iload hx hb dX5_lookUp_192 (lv_at hl 5 rfl) ?_
                  refine lv_iload hx hb dX5_lookUp_194 (lv_at hl 0 rfl) ?_
                  refine call_i (va_runV (As := [.int r_111, .int 1, .int x_110, .int 1]) (rest := [.int x_120]) ⟨hx, hb, hml, hown, hts⟩ (q_weighRow1 l E o_t a_t_numbers a_t_lefts a_t_falls f_t_lateCorner f_t_earlyCorner r_111 1 x_110 1 g_t_numbers r_f_t_lateCorner r_f_t_earlyCorner i_g_t_numbers (RG.mk (by omega)) (RG.mk (by decide)) H.size) (cwV 4 hts g_q_lookUp_q_weighRow1_54 rfl rfl rfl (by decide +kernel) ⟨Nat.le_of_ble_eq_true rfl, Nat.le_of_ble_eq_true rfl⟩) (pre_V hK hN hZ hS (va_free hD hS hA [1, 0] rfl) (hP.sub (ws' := [(o_t, .inr (5, [.ref a_t_numbers, .ref a_t_lefts, .ref a_t_falls, .int f_t_lateCorner, .int f_t_earlyCorner])), (a_t_numbers, aI E 192 g_t_numbers)]) [1, 0] rfl) (hD.sub (ws' := [(o_t, .inr (5, [.ref a_t_numbers, .ref a_t_lefts, .ref a_t_falls, .int f_t_lateCorner, .int f_t_earlyCorner])), (a_t_numbers, aI E 192 g_t_numbers)]) [1, 0] (by decide) rfl) (ci := 5) (q0 := 0) rfl rfl) rfl rfl hl.1 rfl (lv_room (Nat.le_of_ble_eq_true rfl)) dX5_lookUp_196 ⟨Nat.le_of_ble_eq_true rfl, Nat.le_of_ble_eq_true rfl⟩) hP hD hS hA [1, 0] [2] (wr := [(a_t_lefts, aI E 64 g_t_lefts)]) rfl rfl (by decide) (by decide) (fun r_121 w H locs hw hP hD hS => ?_)
                  obtain ⟨b_r_121, rfl⟩ := hw
                  replace hP : va_P E.1 vwCl [(a_t_lefts, aI E 64 g_t_lefts), (o_t, .inr (5, [.ref a_t_numbers, .ref a_t_lefts, .ref a_t_falls, .int f_t_lateCorner, .int f_t_earlyCorner])), (a_t_numbers, aI E 192 g_t_numbers)] H := hP
                  replace hD : va_D A [(a_t_lefts, aI E 64 g_t_lefts), (o_t, .inr (5, [.ref a_t_numbers, .ref a_t_lefts, .ref a_t_falls, .int f_t_lateCorner, .int f_t_earlyCorner])), (a_t_numbers, aI E 192 g_t_numbers)] := hD
                  refine lv_imul hx hb dX5_lookUp_199 ?_
                  refine lv_topi (fun x_122 ex_122 => ?_)
                  have bd_123 := i3_bd x_120
                  have bd_124 := i3_bd r_121
                  refine lv_istore (lv' := [(17, .int x_122), (16, .int 1), (15, .int 1), (14, .int r_113), (13, .int 1), (12, .int r_111), (11, .int x_110), (10, .int x_109), (9, .int 1), (8, .int 0), (7, .int x_3), (6, .int x_1), (0, .ref o_t), (1, .int p1), (2, .int p2), (3, .int p3), (4, .int p4), (5, .int p5)]) hx hb dX5_lookUp_200 hl (by decide) rfl (fun ls hl => ?_)
                  refine lv_iload hx hb dX5_lookUp_202 (lv_at hl 7 rfl) ?_
                  refine lv_if_le (tgt := 229) hx hb dX5_lookUp_204 (by decide) (fun c_125 => ?_) (fun c_125 => ?_)
                  · have e_125 : x_109.toInt ≤ 0 := i3_le c_125
                    refine lv_iload hx hb dX5_lookUp_229 (lv_at hl 2 rfl) ?_
                    refine lv_iload hx hb dX5_lookUp_231 (lv_at hl 1 rfl) ?_
                    refine lv_imul hx hb dX5_lookUp_233 ?_
                    refine lv_cst (y := 1) (by decide) ?_
                    refine lv_istore (lv' := [(18, .int 1), (17, .int x_122), (16, .int 1), (15, .int 1), (14, .int r_113), (13, .int 1), (12, .int r_111), (11, .int x_110), (10, .int x_109), (9, .int 1), (8, .int 0), (7, .int x_3), (6, .int x_1), (0, .ref o_t), (1, .int p1), (2, .int p2), (3, .int p3), (4, .int p4), (5, .int p5)]) hx hb dX5_lookUp_234 hl (by decide) rfl (fun ls hl => ?_)
                    refine lv_iload hx hb dX5_lookUp_236 (lv_at hl 18 rfl) ?_
                    have b_p5 := r_p5.out
                    refine lv_if_eq (tgt := 254) hx hb dX5_lookUp_238 (by decide) (fun c_126 => ?_) (fun c_126 => ?_)
                    · have e_126 : p5.toInt = 0 := i3_eq c_126
                      refine lv_iload hx hb dX5_lookUp_254 (lv_at hl 1 rfl) ?_
                      refine lv_iload hx hb dX5_lookUp_256 (lv_at hl 0 rfl) ?_
                      refine lv_idiv hx hb dX5_lookUp_258 (by decide) ?_
                      refine lv_topi (fun x_127 ex_127 => ?_)
                      have bd_128 := i3_bd x_122
                      exact ret_i hx hb hr hlk (hP.sub (ws' := [(o_t, .inr (5, [.ref a_t_numbers, .ref a_t_lefts, .ref a_t_falls, .int f_t_lateCorner, .int f_t_earlyCorner])), (a_t_lefts, aI E 64 g_t_lefts), (a_t_numbers, aI E 192 g_t_numbers)]) [1, 0, 2] rfl) (hD.sub (ws' := [(o_t, .inr (5, [.ref a_t_numbers, .ref a_t_lefts, .ref a_t_falls, .int f_t_lateCorner, .int f_t_earlyCorner])), (a_t_lefts, aI E 64 g_t_lefts), (a_t_numbers, aI E 192 g_t_numbers)]) [1, 0, 2] (by decide) rfl) hS rfl dX5_lookUp_259 (Nat.le_of_ble_eq_true rfl) (Nat.le_of_ble_eq_true rfl) ⟨trivial, rfl⟩
                    · have e_126 : p5.toInt ≠ 0 := i3_ne c_126
                      refine lv_iload hx hb dX5_lookUp_241 (lv_at hl 1 rfl) ?_
                      refine lv_iload hx hb dX5_lookUp_243 (lv_at hl 0 rfl) ?_
                      refine lv_iadd hx hb dX5_lookUp_245 ?_
                      refine lv_topi (fun x_129 ex_129 => ?_)
                      have bd_130 := i3_bd x_122
                      refine lv_iconst (v := 1) hx hb dX5_lookUp_246 (by decide) ?_
                      refine lv_isub hx hb dX5_lookUp_247 ?_
                      refine lv_topi (fun x_131 ex_131 => ?_)
                      have bd_132 := i3_bd x_129
                      refine lv_iload hx hb dX5_lookUp_248 (lv_at hl 0 rfl) ?_
                      refine lv_idiv hx hb dX5_lookUp_250 (by decide) ?_
                      refine lv_topi (fun x_133 ex_133 => ?_)
                      have bd_134 := i3_bd x_131
                      refine lv_goto (tgt := 259) hx hb dX5_lookUp_251 (by decide) ?_
                      exact ret_i hx hb hr hlk (hP.sub (ws' := [(o_t, .inr (5, [.ref a_t_numbers, .ref a_t_lefts, .ref a_t_falls, .int f_t_lateCorner, .int f_t_earlyCorner])), (a_t_lefts, aI E 64 g_t_lefts), (a_t_numbers, aI E 192 g_t_numbers)]) [1, 0, 2] rfl) (hD.sub (ws' := [(o_t, .inr (5, [.ref a_t_numbers, .ref a_t_lefts, .ref a_t_falls, .int f_t_lateCorner, .int f_t_earlyCorner])), (a_t_lefts, aI E 64 g_t_lefts), (a_t_numbers, aI E 192 g_t_numbers)]) [1, 0, 2] (by decide) rfl) hS rfl dX5_lookUp_259 (Nat.le_of_ble_eq_true rfl) (Nat.le_of_ble_eq_true rfl) ⟨trivial, rfl⟩
                  · have e_125 : 0 < x_109.toInt := i3_nle c_125
                    exfalso; omega
                · have e_119 : 0 < x_110.toInt := i3_nle c_119
                  exfalso; omega
              · have e_118 : 0 < x_109.toInt := i3_nle c_118
                exfalso; omega
            · have e_117 : r_113.toInt ≠ 0 := i3_ne c_117
              exfalso; omega
          · have e_116 : 0 < x_109.toInt := i3_nle c_116
            refine lv_aload_n hx hb dX5_lookUp_110 rfl (lv_at hl 9 rfl) ?_
            refine lv_iload hx hb dX5_lookUp_111 (lv_at hl 2 rfl) ?_
            refine lv_iconst (v := 1) hx hb dX5_lookUp_113 (by decide) ?_
            refine lv_iadd hx hb dX5_lookUp_114 ?_
            refine lv_topi (fun x_135 ex_135 => ?_)
            have tx_135 : x_135.toInt = r_111.toInt + 1 := i3_addc rfl rfl ex_135 (by omega)
            refine lv_iload hx hb dX5_lookUp_115 (lv_at hl 1 rfl) ?_
            refine call_i (va_runV (As := [.int x_135, .int 1]) (rest := []) ⟨hx, hb, hml, hown, hts⟩ (q_whyAbsent l E o_t a_t_numbers a_t_lefts a_t_falls f_t_lateCorner f_t_earlyCorner x_135 1 g_t_lefts r_f_t_lateCorner r_f_t_earlyCorner i_g_t_lefts (RG.mk (by omega)) H.size) (cwV 2 hts g_q_lookUp_q_whyAbsent_51 rfl rfl rfl (by decide +kernel) ⟨Nat.le_of_ble_eq_true rfl, Nat.le_of_ble_eq_true rfl⟩) (pre_V hK hN hZ hS (va_free hD hS hA [1, 2] rfl) (hP.sub (ws' := [(o_t, .inr (5, [.ref a_t_numbers, .ref a_t_lefts, .ref a_t_falls, .int f_t_lateCorner, .int f_t_earlyCorner])), (a_t_lefts, aI E 64 g_t_lefts)]) [1, 2] rfl) (hD.sub (ws' := [(o_t, .inr (5, [.ref a_t_numbers, .ref a_t_lefts, .ref a_t_falls, .int f_t_lateCorner, .int f_t_earlyCorner])), (a_t_lefts, aI E 64 g_t_lefts)]) [1, 2] (by decide) rfl) (ci := 5) (q0 := 0) rfl rfl) rfl rfl hl.1 rfl (lv_room (Nat.le_of_ble_eq_true rfl)) dX5_lookUp_117 ⟨Nat.le_of_ble_eq_true rfl, Nat.le_of_ble_eq_true rfl⟩) hP hD hS hA [1, 2] [0] (wr := [(a_t_numbers, aI E 192 g_t_numbers)]) rfl rfl (by decide) (by decide) (fun r_136 w H locs hw hP hD hS => ?_)
            obtain ⟨b_r_136, rfl⟩ := hw
            replace hP : va_P E.1 vwCl [(a_t_numbers, aI E 192 g_t_numbers), (o_t, .inr (5, [.ref a_t_numbers, .ref a_t_lefts, .ref a_t_falls, .int f_t_lateCorner, .int f_t_earlyCorner])), (a_t_lefts, aI E 64 g_t_lefts)] H := hP
            replace hD : va_D A [(a_t_numbers, aI E 192 g_t_numbers), (o_t, .inr (5, [.ref a_t_numbers, .ref a_t_lefts, .ref a_t_falls, .int f_t_lateCorner, .int f_t_earlyCorner])), (a_t_lefts, aI E 64 g_t_lefts)] := hD
            refine lv_istore (lv' := [(14, .int r_136), (13, .int 1), (12, .int r_111), (11, .int x_110), (10, .int x_109), (9, .int 1), (8, .int 0), (7, .int x_3), (6, .int x_1), (0, .ref o_t), (1, .int p1), (2, .int p2), (3, .int p3), (4, .int p4), (5, .int p5)]) hx hb dX5_lookUp_120 hl (by decide) rfl (fun ls hl => ?_)
            refine lv_iload hx hb dX5_lookUp_122 (lv_at hl 0 rfl) ?_
            refine lv_if_eq (tgt := 130) hx hb dX5_lookUp_124 (by decide) (fun c_137 => ?_) (fun c_137 => ?_)
            · have e_137 : r_136.toInt = 0 := i3_eq c_137
              refine lv_iload hx hb dX5_lookUp_130 (lv_at hl 4 rfl) ?_
              refine lv_if_le (tgt := 153) hx hb dX5_lookUp_132 (by decide) (fun c_138 => ?_) (fun c_138 => ?_)
              · have e_138 : x_109.toInt ≤ 0 := i3_le c_138
                exfalso; omega
              · have e_138 : 0 < x_109.toInt := i3_nle c_138
                refine va_gets (C := "TimingHouse$Tables") (n := "LOAD_MARKS") (d := "[I") (own := RX5) (ref := "TimingHouse$Tables") hx hb hZ.1.1 hS hown (hto (.fieldLink RX5 31 "TimingHouse$Tables" "LOAD_MARKS" "[I") (by decide +kernel)) (fun _ h9 => h9) dX5_lookUp_135 ?_
                refine lv_iload hx hb dX5_lookUp_138 (lv_at hl 6 rfl) ?_
                refine lv_iconst (v := 1) hx hb dX5_lookUp_140 (by decide) ?_
                refine lv_iadd hx hb dX5_lookUp_141 ?_
                refine lv_cst (y := 1) (by decide) ?_
                refine va_ti (v := .int 8) hx hb hZ.1.2 hS (i3_in (by decide)) rfl dX5_lookUp_142 ?_
                refine va_gets (C := "TimingHouse$Tables") (n := "LOAD_MARKS") (d := "[I") (own := RX5) (ref := "TimingHouse$Tables") hx hb hZ.1.1 hS hown (hto (.fieldLink RX5 31 "TimingHouse$Tables" "LOAD_MARKS" "[I") (by decide +kernel)) (fun _ h9 => h9) dX5_lookUp_143 ?_
                refine lv_iload hx hb dX5_lookUp_146 (lv_at hl 6 rfl) ?_
                refine va_ti (v := .int 0) hx hb hZ.1.2 hS (i3_in (by decide)) rfl dX5_lookUp_148 ?_
                refine lv_isub hx hb dX5_lookUp_149 ?_
                refine lv_cst (y := 8) (by decide) ?_
                refine lv_goto (tgt := 154) hx hb dX5_lookUp_150 (by decide) ?_
                refine lv_istore (lv' := [(15, .int 8), (14, .int r_136), (13, .int 1), (12, .int r_111), (11, .int x_110), (10, .int x_109), (9, .int 1), (8, .int 0), (7, .int x_3), (6, .int x_1), (0, .ref o_t), (1, .int p1), (2, .int p2), (3, .int p3), (4, .int p4), (5, .int p5)]) hx hb dX5_lookUp_154 hl (by decide) rfl (fun ls hl => ?_)
                refine lv_iload hx hb dX5_lookUp_156 (lv_at hl 4 rfl) ?_
                refine lv_if_le (tgt := 179) hx hb dX5_lookUp_158 (by decide) (fun c_139 => ?_) (fun c_139 => ?_)
                · have e_139 : x_110.toInt ≤ 0 := i3_le c_139
                  refine lv_iconst (v := 1) hx hb dX5_lookUp_179 (by decide) ?_
                  refine lv_istore (lv' := [(16, .int 1), (15, .int 8), (14, .int r_136), (13, .int 1), (12, .int r_111), (11, .int x_110), (10, .int x_109), (9, .int 1), (8, .int 0), (7, .int x_3), (6, .int x_1), (0, .ref o_t), (1, .int p1), (2, .int p2), (3, .int p3), (4, .int p4), (5, .int p5)]) hx hb dX5_lookUp_180 hl (by decide) rfl (fun ls hl => ?_)
                  refine lv_iload hx hb dX5_lookUp_182 (lv_at hl 1 rfl) ?_
                  refine lv_iload hx hb dX5_lookUp_184 (lv_at hl 6 rfl) ?_
                  refine lv_isub hx hb dX5_lookUp_186 ?_
                  refine lv_topi (fun x_140 ex_140 => ?_)
                  have tx_140 : x_140.toInt = 8 - x_109.toInt := i3_subc rfl rfl ex_140 (by omega)
                  refine lv_aload_n hx hb dX5_lookUp_187 rfl (lv_at hl 11 rfl) ?_
                  refine lv_iload hx hb dX5_lookUp_188 (lv_at hl 4 rfl) ?_
                  refine lv_iload hx hb dX5_lookUp_190 (lv_at hl 7 rfl) ?_
                  refine lv_iload hx hb dX5_lookUp_192 (lv_at hl 5 rfl) ?_
                  refine lv_iload hx hb dX5_lookUp_194 (lv_at hl 0 rfl) ?_
                  refine call_i (va_runV (As := [.int r_111, .int 1, .int x_110, .int 1]) (rest := [.int x_140]) ⟨hx, hb, hml, hown, hts⟩ (q_weighRow1 l E o_t a_t_numbers a_t_lefts a_t_falls f_t_lateCorner f_t_earlyCorner r_111 1 x_110 1 g_t_numbers r_f_t_lateCorner r_f_t_earlyCorner i_g_t_numbers (RG.mk (by omega)) (RG.mk (by decide)) H.size) (cwV 4 hts g_q_lookUp_q_weighRow1_54 rfl rfl rfl (by decide +kernel) ⟨Nat.le_of_ble_eq_true rfl, Nat.le_of_ble_eq_true rfl⟩) (pre_V hK hN hZ hS (va_free hD hS hA [1, 0] rfl) (hP.sub (ws' := [(o_t, .inr (5, [.ref a_t_numbers, .ref a_t_lefts, .ref a_t_falls, .int f_t_lateCorner, .int f_t_earlyCorner])), (a_t_numbers, aI E 192 g_t_numbers)]) [1, 0] rfl) (hD.sub (ws' := [(o_t, .inr (5, [.ref a_t_numbers, .ref a_t_lefts, .ref a_t_falls, .int f_t_lateCorner, .int f_t_earlyCorner])), (a_t_numbers, aI E 192 g_t_numbers)]) [1, 0] (by decide) rfl) (ci := 5) (q0 := 0) rfl rfl) rfl rfl hl.1 rfl (lv_room (Nat.le_of_ble_eq_true rfl)) dX5_lookUp_196 ⟨Nat.le_of_ble_eq_true rfl, Nat.le_of_ble_eq_true rfl⟩) hP hD hS hA [1, 0] [2] (wr := [(a_t_lefts, aI E 64 g_t_lefts)]) rfl rfl (by decide) (by decide) (fun r_141 w H locs hw hP hD hS => ?_)
                  obtain ⟨b_r_141, rfl⟩ := hw
                  replace hP : va_P E.1 vwCl [(a_t_lefts, aI E 64 g_t_lefts), (o_t, .inr (5, [.ref a_t_numbers, .ref a_t_lefts, .ref a_t_falls, .int f_t_lateCorner, .int f_t_earlyCorner])), (a_t_numbers, aI E 192 g_t_numbers)] H := hP
                  replace hD : va_D A [(a_t_lefts, aI E 64 g_t_lefts), (o_t, .inr (5, [.ref a_t_numbers, .ref a_t_lefts, .ref a_t_falls, .int f_t_lateCorner, .int f_t_earlyCorner])), (a_t_numbers, aI E 192 g_t_numbers)] := hD
                  refine lv_imul hx hb dX5_lookUp_199 ?_
                  refine lv_topi (fun x_142 ex_142 => ?_)
                  have bd_143 := i3_bd r_141
                  refine lv_istore (lv' := [(17, .int x_142), (16, .int 1), (15, .int 8), (14, .int r_136), (13, .int 1), (12, .int r_111), (11, .int x_110), (10, .int x_109), (9, .int 1), (8, .int 0), (7, .int x_3), (6, .int x_1), (0, .ref o_t), (1, .int p1), (2, .int p2), (3, .int p3), (4, .int p4), (5, .int p5)]) hx hb dX5_lookUp_200 hl (by decide) rfl (fun ls hl => ?_)
                  refine lv_iload hx hb dX5_lookUp_202 (lv_at hl 7 rfl) ?_
                  refine lv_if_le (tgt := 229) hx hb dX5_lookUp_204 (by decide) (fun c_144 => ?_) (fun c_144 => ?_)
                  · have e_144 : x_109.toInt ≤ 0 := i3_le c_144
                    exfalso; omega
                  · have e_144 : 0 < x_109.toInt := i3_nle c_144
                    refine lv_iload hx hb dX5_lookUp_207 (lv_at hl 0 rfl) ?_
                    refine lv_iload hx hb dX5_lookUp_209 (lv_at hl 7 rfl) ?_
                    refine lv_aload_n hx hb dX5_lookUp_211 rfl (lv_at hl 12 rfl) ?_
                    refine lv_iload hx hb dX5_lookUp_212 (lv_at hl 5 rfl) ?_
                    refine lv_iconst (v := 1) hx hb dX5_lookUp_214 (by decide) ?_
                    refine lv_iadd hx hb dX5_lookUp_215 ?_
                    refine lv_topi (fun x_145 ex_145 => ?_)
                    have hq_x_145 : x_135 = x_145 := ex_135.trans ex_145.symm
                    subst hq_x_145
                    refine lv_iload hx hb dX5_lookUp_216 (lv_at hl 8 rfl) ?_
                    refine lv_iload hx hb dX5_lookUp_218 (lv_at hl 6 rfl) ?_
                    refine lv_iload hx hb dX5_lookUp_220 (lv_at hl 1 rfl) ?_
                    refine call_i (va_runV (As := [.int x_135, .int 1, .int x_110, .int 1]) (rest := [.int x_109, .int x_142]) ⟨hx, hb, hml, hown, hts⟩ (q_weighRow1 l E o_t a_t_numbers a_t_lefts a_t_falls f_t_lateCorner f_t_earlyCorner x_135 1 x_110 1 g_t_numbers r_f_t_lateCorner r_f_t_earlyCorner i_g_t_numbers (RG.mk (by omega)) (RG.mk (by decide)) H.size) (cwV 4 hts g_q_lookUp_q_weighRow1_54 rfl rfl rfl (by decide +kernel) ⟨Nat.le_of_ble_eq_true rfl, Nat.le_of_ble_eq_true rfl⟩) (pre_V hK hN hZ hS (va_free hD hS hA [1, 2] rfl) (hP.sub (ws' := [(o_t, .inr (5, [.ref a_t_numbers, .ref a_t_lefts, .ref a_t_falls, .int f_t_lateCorner, .int f_t_earlyCorner])), (a_t_numbers, aI E 192 g_t_numbers)]) [1, 2] rfl) (hD.sub (ws' := [(o_t, .inr (5, [.ref a_t_numbers, .ref a_t_lefts, .ref a_t_falls, .int f_t_lateCorner, .int f_t_earlyCorner])), (a_t_numbers, aI E 192 g_t_numbers)]) [1, 2] (by decide) rfl) (ci := 5) (q0 := 0) rfl rfl) rfl rfl hl.1 rfl (lv_room (Nat.le_of_ble_eq_true rfl)) dX5_lookUp_222 ⟨Nat.le_of_ble_eq_true rfl, Nat.le_of_ble_eq_true rfl⟩) hP hD hS hA [1, 2] [0] (wr := [(a_t_lefts, aI E 64 g_t_lefts)]) rfl rfl (by decide) (by decide) (fun r_146 w H locs hw hP hD hS => ?_)
                    obtain ⟨b_r_146, rfl⟩ := hw
                    replace hP : va_P E.1 vwCl [(a_t_lefts, aI E 64 g_t_lefts), (o_t, .inr (5, [.ref a_t_numbers, .ref a_t_lefts, .ref a_t_falls, .int f_t_lateCorner, .int f_t_earlyCorner])), (a_t_numbers, aI E 192 g_t_numbers)] H := hP
                    replace hD : va_D A [(a_t_lefts, aI E 64 g_t_lefts), (o_t, .inr (5, [.ref a_t_numbers, .ref a_t_lefts, .ref a_t_falls, .int f_t_lateCorner, .int f_t_earlyCorner])), (a_t_numbers, aI E 192 g_t_numbers)] := hD
                    refine lv_imul hx hb dX5_lookUp_225 ?_
                    refine lv_topi (fun x_147 ex_147 => ?_)
                    have bd_148 := i3_bd r_146
                    refine lv_iadd hx hb dX5_lookUp_226 ?_
                    refine lv_topi (fun x_149 ex_149 => ?_)
                    have bd_150 := i3_bd x_142
                    have bd_151 := i3_bd x_147
                    refine lv_istore (lv' := [(17, .int x_149), (16, .int 1), (15, .int 8), (14, .int r_136), (13, .int 1), (12, .int r_111), (11, .int x_110), (10, .int x_109), (9, .int 1), (8, .int 0), (7, .int x_3), (6, .int x_1), (0, .ref o_t), (1, .int p1), (2, .int p2), (3, .int p3), (4, .int p4), (5, .int p5)]) hx hb dX5_lookUp_227 hl (by decide) rfl (fun ls hl => ?_)
                    refine lv_iload hx hb dX5_lookUp_229 (lv_at hl 2 rfl) ?_
                    refine lv_iload hx hb dX5_lookUp_231 (lv_at hl 1 rfl) ?_
                    refine lv_imul hx hb dX5_lookUp_233 ?_
                    refine lv_cst (y := 8) (by decide) ?_
                    refine lv_istore (lv' := [(18, .int 8), (17, .int x_149), (16, .int 1), (15, .int 8), (14, .int r_136), (13, .int 1), (12, .int r_111), (11, .int x_110), (10, .int x_109), (9, .int 1), (8, .int 0), (7, .int x_3), (6, .int x_1), (0, .ref o_t), (1, .int p1), (2, .int p2), (3, .int p3), (4, .int p4), (5, .int p5)]) hx hb dX5_lookUp_234 hl (by decide) rfl (fun ls hl => ?_)
                    refine lv_iload hx hb dX5_lookUp_236 (lv_at hl 18 rfl) ?_
                    have b_p5 := r_p5.out
                    refine lv_if_eq (tgt := 254) hx hb dX5_lookUp_238 (by decide) (fun c_152 => ?_) (fun c_152 => ?_)
                    · have e_152 : p5.toInt = 0 := i3_eq c_152
                      refine lv_iload hx hb dX5_lookUp_254 (lv_at hl 1 rfl) ?_
                      refine lv_iload hx hb dX5_lookUp_256 (lv_at hl 0 rfl) ?_
                      refine lv_idiv hx hb dX5_lookUp_258 (by decide) ?_
                      refine lv_topi (fun x_153 ex_153 => ?_)
                      have bd_154 := i3_bd x_149
                      exact ret_i hx hb hr hlk (hP.sub (ws' := [(o_t, .inr (5, [.ref a_t_numbers, .ref a_t_lefts, .ref a_t_falls, .int f_t_lateCorner, .int f_t_earlyCorner])), (a_t_lefts, aI E 64 g_t_lefts), (a_t_numbers, aI E 192 g_t_numbers)]) [1, 0, 2] rfl) (hD.sub (ws' := [(o_t, .inr (5, [.ref a_t_numbers, .ref a_t_lefts, .ref a_t_falls, .int f_t_lateCorner, .int f_t_earlyCorner])), (a_t_lefts, aI E 64 g_t_lefts), (a_t_numbers, aI E 192 g_t_numbers)]) [1, 0, 2] (by decide) rfl) hS rfl dX5_lookUp_259 (Nat.le_of_ble_eq_true rfl) (Nat.le_of_ble_eq_true rfl) ⟨trivial, rfl⟩
                    · have e_152 : p5.toInt ≠ 0 := i3_ne c_152
                      refine lv_iload hx hb dX5_lookUp_241 (lv_at hl 1 rfl) ?_
                      refine lv_iload hx hb dX5_lookUp_243 (lv_at hl 0 rfl) ?_
                      refine lv_iadd hx hb dX5_lookUp_245 ?_
                      refine lv_topi (fun x_155 ex_155 => ?_)
                      have bd_156 := i3_bd x_149
                      refine lv_iconst (v := 1) hx hb dX5_lookUp_246 (by decide) ?_
                      refine lv_isub hx hb dX5_lookUp_247 ?_
                      refine lv_topi (fun x_157 ex_157 => ?_)
                      have bd_158 := i3_bd x_155
                      refine lv_iload hx hb dX5_lookUp_248 (lv_at hl 0 rfl) ?_
                      refine lv_idiv hx hb dX5_lookUp_250 (by decide) ?_
                      refine lv_topi (fun x_159 ex_159 => ?_)
                      have bd_160 := i3_bd x_157
                      refine lv_goto (tgt := 259) hx hb dX5_lookUp_251 (by decide) ?_
                      exact ret_i hx hb hr hlk (hP.sub (ws' := [(o_t, .inr (5, [.ref a_t_numbers, .ref a_t_lefts, .ref a_t_falls, .int f_t_lateCorner, .int f_t_earlyCorner])), (a_t_lefts, aI E 64 g_t_lefts), (a_t_numbers, aI E 192 g_t_numbers)]) [1, 0, 2] rfl) (hD.sub (ws' := [(o_t, .inr (5, [.ref a_t_numbers, .ref a_t_lefts, .ref a_t_falls, .int f_t_lateCorner, .int f_t_earlyCorner])), (a_t_lefts, aI E 64 g_t_lefts), (a_t_numbers, aI E 192 g_t_numbers)]) [1, 0, 2] (by decide) rfl) hS rfl dX5_lookUp_259 (Nat.le_of_ble_eq_true rfl) (Nat.le_of_ble_eq_true rfl) ⟨trivial, rfl⟩
                · have e_139 : 0 < x_110.toInt := i3_nle c_139
                  exfalso; omega
            · have e_137 : r_136.toInt ≠ 0 := i3_ne c_137
              refine lv_iload hx hb dX5_lookUp_127 (lv_at hl 0 rfl) ?_
              exact ret_i hx hb hr hlk (hP.sub (ws' := [(o_t, .inr (5, [.ref a_t_numbers, .ref a_t_lefts, .ref a_t_falls, .int f_t_lateCorner, .int f_t_earlyCorner])), (a_t_lefts, aI E 64 g_t_lefts), (a_t_numbers, aI E 192 g_t_numbers)]) [1, 2, 0] rfl) (hD.sub (ws' := [(o_t, .inr (5, [.ref a_t_numbers, .ref a_t_lefts, .ref a_t_falls, .int f_t_lateCorner, .int f_t_earlyCorner])), (a_t_lefts, aI E 64 g_t_lefts), (a_t_numbers, aI E 192 g_t_numbers)]) [1, 2, 0] (by decide) rfl) hS rfl dX5_lookUp_129 (Nat.le_of_ble_eq_true rfl) (Nat.le_of_ble_eq_true rfl) ⟨trivial, rfl⟩
      · have e_112 : 0 < x_110.toInt := i3_nle c_112
        refine lv_iload hx hb dX5_lookUp_79 (lv_at hl 3 rfl) ?_
        refine lv_iconst (v := 1) hx hb dX5_lookUp_81 (by decide) ?_
        refine lv_iadd hx hb dX5_lookUp_82 ?_
        refine lv_cst (y := 2) (by decide) ?_
        refine lv_goto (tgt := 88) hx hb dX5_lookUp_83 (by decide) ?_
        refine lv_istore (lv' := [(13, .int 2), (12, .int r_111), (11, .int x_110), (10, .int x_109), (9, .int 1), (8, .int 0), (7, .int x_3), (6, .int x_1), (0, .ref o_t), (1, .int p1), (2, .int p2), (3, .int p3), (4, .int p4), (5, .int p5)]) hx hb dX5_lookUp_88 hl (by decide) rfl (fun ls hl => ?_)
        refine lv_aload_n hx hb dX5_lookUp_90 rfl (lv_at hl 8 rfl) ?_
        refine lv_iload hx hb dX5_lookUp_91 (lv_at hl 1 rfl) ?_
        refine lv_iload hx hb dX5_lookUp_93 (lv_at hl 0 rfl) ?_
        refine call_i (va_runV (As := [.int r_111, .int 2]) (rest := []) ⟨hx, hb, hml, hown, hts⟩ (q_whyAbsent l E o_t a_t_numbers a_t_lefts a_t_falls f_t_lateCorner f_t_earlyCorner r_111 2 g_t_lefts r_f_t_lateCorner r_f_t_earlyCorner i_g_t_lefts (RG.mk (by omega)) H.size) (cwV 2 hts g_q_lookUp_q_whyAbsent_51 rfl rfl rfl (by decide +kernel) ⟨Nat.le_of_ble_eq_true rfl, Nat.le_of_ble_eq_true rfl⟩) (pre_V hK hN hZ hS (va_free hD hS hA [0, 1] rfl) (hP.sub (ws' := [(o_t, .inr (5, [.ref a_t_numbers, .ref a_t_lefts, .ref a_t_falls, .int f_t_lateCorner, .int f_t_earlyCorner])), (a_t_lefts, aI E 64 g_t_lefts)]) [0, 1] rfl) (hD.sub (ws' := [(o_t, .inr (5, [.ref a_t_numbers, .ref a_t_lefts, .ref a_t_falls, .int f_t_lateCorner, .int f_t_earlyCorner])), (a_t_lefts, aI E 64 g_t_lefts)]) [0, 1] (by decide) rfl) (ci := 5) (q0 := 0) rfl rfl) rfl rfl hl.1 rfl (lv_room (Nat.le_of_ble_eq_true rfl)) dX5_lookUp_95 ⟨Nat.le_of_ble_eq_true rfl, Nat.le_of_ble_eq_true rfl⟩) hP hD hS hA [0, 1] [2] (wr := [(a_t_numbers, aI E 192 g_t_numbers)]) rfl rfl (by decide) (by decide) (fun r_161 w H locs hw hP hD hS => ?_)
        obtain ⟨b_r_161, rfl⟩ := hw
        replace hP : va_P E.1 vwCl [(a_t_numbers, aI E 192 g_t_numbers), (o_t, .inr (5, [.ref a_t_numbers, .ref a_t_lefts, .ref a_t_falls, .int f_t_lateCorner, .int f_t_earlyCorner])), (a_t_lefts, aI E 64 g_t_lefts)] H := hP
        replace hD : va_D A [(a_t_numbers, aI E 192 g_t_numbers), (o_t, .inr (5, [.ref a_t_numbers, .ref a_t_lefts, .ref a_t_falls, .int f_t_lateCorner, .int f_t_earlyCorner])), (a_t_lefts, aI E 64 g_t_lefts)] := hD
        refine lv_istore (lv' := [(14, .int r_161), (13, .int 2), (12, .int r_111), (11, .int x_110), (10, .int x_109), (9, .int 1), (8, .int 0), (7, .int x_3), (6, .int x_1), (0, .ref o_t), (1, .int p1), (2, .int p2), (3, .int p3), (4, .int p4), (5, .int p5)]) hx hb dX5_lookUp_98 hl (by decide) rfl (fun ls hl => ?_)
        refine lv_iload hx hb dX5_lookUp_100 (lv_at hl 0 rfl) ?_
        refine lv_if_ne (tgt := 122) hx hb dX5_lookUp_102 (by decide) (fun c_162 => ?_) (fun c_162 => ?_)
        · have e_162 : r_161.toInt ≠ 0 := i3_ne c_162
          refine lv_iload hx hb dX5_lookUp_122 (lv_at hl 0 rfl) ?_
          refine lv_if_eq (tgt := 130) hx hb dX5_lookUp_124 (by decide) (fun c_163 => ?_) (fun c_163 => ?_)
          · have e_163 : r_161.toInt = 0 := i3_eq c_163
            exfalso; omega
          · have e_163 : r_161.toInt ≠ 0 := i3_ne c_163
            refine lv_iload hx hb dX5_lookUp_127 (lv_at hl 0 rfl) ?_
            exact ret_i hx hb hr hlk (hP.sub (ws' := [(o_t, .inr (5, [.ref a_t_numbers, .ref a_t_lefts, .ref a_t_falls, .int f_t_lateCorner, .int f_t_earlyCorner])), (a_t_lefts, aI E 64 g_t_lefts), (a_t_numbers, aI E 192 g_t_numbers)]) [1, 2, 0] rfl) (hD.sub (ws' := [(o_t, .inr (5, [.ref a_t_numbers, .ref a_t_lefts, .ref a_t_falls, .int f_t_lateCorner, .int f_t_earlyCorner])), (a_t_lefts, aI E 64 g_t_lefts), (a_t_numbers, aI E 192 g_t_numbers)]) [1, 2, 0] (by decide) rfl) hS rfl dX5_lookUp_129 (Nat.le_of_ble_eq_true rfl) (Nat.le_of_ble_eq_true rfl) ⟨trivial, rfl⟩
        · have e_162 : r_161.toInt = 0 := i3_eq c_162
          refine lv_iload hx hb dX5_lookUp_105 (lv_at hl 4 rfl) ?_
          refine lv_if_le (tgt := 122) hx hb dX5_lookUp_107 (by decide) (fun c_164 => ?_) (fun c_164 => ?_)
          · have e_164 : x_109.toInt ≤ 0 := i3_le c_164
            refine lv_iload hx hb dX5_lookUp_122 (lv_at hl 0 rfl) ?_
            refine lv_if_eq (tgt := 130) hx hb dX5_lookUp_124 (by decide) (fun c_165 => ?_) (fun c_165 => ?_)
            · have e_165 : r_161.toInt = 0 := i3_eq c_165
              refine lv_iload hx hb dX5_lookUp_130 (lv_at hl 4 rfl) ?_
              refine lv_if_le (tgt := 153) hx hb dX5_lookUp_132 (by decide) (fun c_166 => ?_) (fun c_166 => ?_)
              · have e_166 : x_109.toInt ≤ 0 := i3_le c_166
                refine lv_iconst (v := 1) hx hb dX5_lookUp_153 (by decide) ?_
                refine lv_istore (lv' := [(15, .int 1), (14, .int r_161), (13, .int 2), (12, .int r_111), (11, .int x_110), (10, .int x_109), (9, .int 1), (8, .int 0), (7, .int x_3), (6, .int x_1), (0, .ref o_t), (1, .int p1), (2, .int p2), (3, .int p3), (4, .int p4), (5, .int p5)]) hx hb dX5_lookUp_154 hl (by decide) rfl (fun ls hl => ?_)
                refine lv_iload hx hb dX5_lookUp_156 (lv_at hl 4 rfl) ?_
                refine lv_if_le (tgt := 179) hx hb dX5_lookUp_158 (by decide) (fun c_167 => ?_) (fun c_167 => ?_)
                · have e_167 : x_110.toInt ≤ 0 := i3_le c_167
                  exfalso; omega
                · have e_167 : 0 < x_110.toInt := i3_nle c_167
                  refine va_gets (C := "TimingHouse$Tables") (n := "SLOPE_MARKS") (d := "[I") (own := RX5) (ref := "TimingHouse$Tables") hx hb hZ.2.1.1 hS hown (hto (.fieldLink RX5 40 "TimingHouse$Tables" "SLOPE_MARKS" "[I") (by decide +kernel)) (fun _ h9 => h9) dX5_lookUp_161 ?_
                  refine lv_iload hx hb dX5_lookUp_164 (lv_at hl 6 rfl) ?_
                  refine lv_iconst (v := 1) hx hb dX5_lookUp_166 (by decide) ?_
                  refine lv_iadd hx hb dX5_lookUp_167 ?_
                  refine lv_cst (y := 2) (by decide) ?_
                  refine va_ti (v := .int 64) hx hb hZ.2.1.2 hS (i3_in (by decide)) rfl dX5_lookUp_168 ?_
                  refine va_gets (C := "TimingHouse$Tables") (n := "SLOPE_MARKS") (d := "[I") (own := RX5) (ref := "TimingHouse$Tables") hx hb hZ.2.1.1 hS hown (hto (.fieldLink RX5 40 "TimingHouse$Tables" "SLOPE_MARKS" "[I") (by decide +kernel)) (fun _ h9 => h9) dX5_lookUp_169 ?_
                  refine lv_iload hx hb dX5_lookUp_172 (lv_at hl 6 rfl) ?_
                  refine va_ti (v := .int 16) hx hb hZ.2.1.2 hS (i3_in (by decide)) rfl dX5_lookUp_174 ?_
                  refine lv_isub hx hb dX5_lookUp_175 ?_
                  refine lv_cst (y := 48) (by decide) ?_
                  refine lv_goto (tgt := 180) hx hb dX5_lookUp_176 (by decide) ?_
                  refine lv_istore (lv' := [(16, .int 48), (15, .int 1), (14, .int r_161), (13, .int 2), (12, .int r_111), (11, .int x_110), (10, .int x_109), (9, .int 1), (8, .int 0), (7, .int x_3), (6, .int x_1), (0, .ref o_t), (1, .int p1), (2, .int p2), (3, .int p3), (4, .int p4), (5, .int p5)]) hx hb dX5_lookUp_180 hl (by decide) rfl (fun ls hl => ?_)
                  refine lv_iload hx hb dX5_lookUp_182 (lv_at hl 1 rfl) ?_
                  refine lv_iload hx hb dX5_lookUp_184 (lv_at hl 6 rfl) ?_
                  refine lv_isub hx hb dX5_lookUp_186 ?_
                  refine lv_topi (fun x_168 ex_168 => ?_)
                  refine lv_aload_n hx hb dX5_lookUp_187 rfl (lv_at hl 11 rfl) ?_
                  refine lv_iload hx hb dX5_lookUp_188 (lv_at hl 4 rfl) ?_
                  refine lv_iload hx hb dX5_lookUp_190 (lv_at hl 7 rfl) ?_
                  refine lv_iload hx hb dX5_lookUp_192 (lv_at hl 5 rfl) ?_
                  refine lv_iload hx hb dX5_lookUp_194 (lv_at hl 0 rfl) ?_
                  refine call_i (va_runV (As := [.int r_111, .int 1, .int x_110, .int 48]) (rest := [.int x_168]) ⟨hx, hb, hml, hown, hts⟩ (q_weighRow1 l E o_t a_t_numbers a_t_lefts a_t_falls f_t_lateCorner f_t_earlyCorner r_111 1 x_110 48 g_t_numbers r_f_t_lateCorner r_f_t_earlyCorner i_g_t_numbers (RG.mk (by omega)) (RG.mk (by decide)) H.size) (cwV 4 hts g_q_lookUp_q_weighRow1_54 rfl rfl rfl (by decide +kernel) ⟨Nat.le_of_ble_eq_true rfl, Nat.le_of_ble_eq_true rfl⟩) (pre_V hK hN hZ hS (va_free hD hS hA [1, 0] rfl) (hP.sub (ws' := [(o_t, .inr (5, [.ref a_t_numbers, .ref a_t_lefts, .ref a_t_falls, .int f_t_lateCorner, .int f_t_earlyCorner])), (a_t_numbers, aI E 192 g_t_numbers)]) [1, 0] rfl) (hD.sub (ws' := [(o_t, .inr (5, [.ref a_t_numbers, .ref a_t_lefts, .ref a_t_falls, .int f_t_lateCorner, .int f_t_earlyCorner])), (a_t_numbers, aI E 192 g_t_numbers)]) [1, 0] (by decide) rfl) (ci := 5) (q0 := 0) rfl rfl) rfl rfl hl.1 rfl (lv_room (Nat.le_of_ble_eq_true rfl)) dX5_lookUp_196 ⟨Nat.le_of_ble_eq_true rfl, Nat.le_of_ble_eq_true rfl⟩) hP hD hS hA [1, 0] [2] (wr := [(a_t_lefts, aI E 64 g_t_lefts)]) rfl rfl (by decide) (by decide) (fun r_169 w H locs hw hP hD hS => ?_)
                  obtain ⟨b_r_169, rfl⟩ := hw
                  replace hP : va_P E.1 vwCl [(a_t_lefts, aI E 64 g_t_lefts), (o_t, .inr (5, [.ref a_t_numbers, .ref a_t_lefts, .ref a_t_falls, .int f_t_lateCorner, .int f_t_earlyCorner])), (a_t_numbers, aI E 192 g_t_numbers)] H := hP
                  replace hD : va_D A [(a_t_lefts, aI E 64 g_t_lefts), (o_t, .inr (5, [.ref a_t_numbers, .ref a_t_lefts, .ref a_t_falls, .int f_t_lateCorner, .int f_t_earlyCorner])), (a_t_numbers, aI E 192 g_t_numbers)] := hD
                  refine lv_imul hx hb dX5_lookUp_199 ?_
                  refine lv_topi (fun x_170 ex_170 => ?_)
                  have bd_171 := i3_bd x_168
                  have bd_172 := i3_bd r_169
                  refine lv_istore (lv' := [(17, .int x_170), (16, .int 48), (15, .int 1), (14, .int r_161), (13, .int 2), (12, .int r_111), (11, .int x_110), (10, .int x_109), (9, .int 1), (8, .int 0), (7, .int x_3), (6, .int x_1), (0, .ref o_t), (1, .int p1), (2, .int p2), (3, .int p3), (4, .int p4), (5, .int p5)]) hx hb dX5_lookUp_200 hl (by decide) rfl (fun ls hl => ?_)
                  refine lv_iload hx hb dX5_lookUp_202 (lv_at hl 7 rfl) ?_
                  refine lv_if_le (tgt := 229) hx hb dX5_lookUp_204 (by decide) (fun c_173 => ?_) (fun c_173 => ?_)
                  · have e_173 : x_109.toInt ≤ 0 := i3_le c_173
                    refine lv_iload hx hb dX5_lookUp_229 (lv_at hl 2 rfl) ?_
                    refine lv_iload hx hb dX5_lookUp_231 (lv_at hl 1 rfl) ?_
                    refine lv_imul hx hb dX5_lookUp_233 ?_
                    refine lv_cst (y := 48) (by decide) ?_
                    refine lv_istore (lv' := [(18, .int 48), (17, .int x_170), (16, .int 48), (15, .int 1), (14, .int r_161), (13, .int 2), (12, .int r_111), (11, .int x_110), (10, .int x_109), (9, .int 1), (8, .int 0), (7, .int x_3), (6, .int x_1), (0, .ref o_t), (1, .int p1), (2, .int p2), (3, .int p3), (4, .int p4), (5, .int p5)]) hx hb dX5_lookUp_234 hl (by decide) rfl (fun ls hl => ?_)
                    refine lv_iload hx hb dX5_lookUp_236 (lv_at hl 18 rfl) ?_
                    have b_p5 := r_p5.out
                    refine lv_if_eq (tgt := 254) hx hb dX5_lookUp_238 (by decide) (fun c_174 => ?_) (fun c_174 => ?_)
                    · have e_174 : p5.toInt = 0 := i3_eq c_174
                      refine lv_iload hx hb dX5_lookUp_254 (lv_at hl 1 rfl) ?_
                      refine lv_iload hx hb dX5_lookUp_256 (lv_at hl 0 rfl) ?_
                      refine lv_idiv hx hb dX5_lookUp_258 (by decide) ?_
                      refine lv_topi (fun x_175 ex_175 => ?_)
                      have bd_176 := i3_bd x_170
                      exact ret_i hx hb hr hlk (hP.sub (ws' := [(o_t, .inr (5, [.ref a_t_numbers, .ref a_t_lefts, .ref a_t_falls, .int f_t_lateCorner, .int f_t_earlyCorner])), (a_t_lefts, aI E 64 g_t_lefts), (a_t_numbers, aI E 192 g_t_numbers)]) [1, 0, 2] rfl) (hD.sub (ws' := [(o_t, .inr (5, [.ref a_t_numbers, .ref a_t_lefts, .ref a_t_falls, .int f_t_lateCorner, .int f_t_earlyCorner])), (a_t_lefts, aI E 64 g_t_lefts), (a_t_numbers, aI E 192 g_t_numbers)]) [1, 0, 2] (by decide) rfl) hS rfl dX5_lookUp_259 (Nat.le_of_ble_eq_true rfl) (Nat.le_of_ble_eq_true rfl) ⟨trivial, rfl⟩
                    · have e_174 : p5.toInt ≠ 0 := i3_ne c_174
                      refine lv_iload hx hb dX5_lookUp_241 (lv_at hl 1 rfl) ?_
                      refine lv_iload hx hb dX5_lookUp_243 (lv_at hl 0 rfl) ?_
                      refine lv_iadd hx hb dX5_lookUp_245 ?_
                      refine lv_topi (fun x_177 ex_177 => ?_)
                      have bd_178 := i3_bd x_170
                      refine lv_iconst (v := 1) hx hb dX5_lookUp_246 (by decide) ?_
                      refine lv_isub hx hb dX5_lookUp_247 ?_
                      refine lv_topi (fun x_179 ex_179 => ?_)
                      have bd_180 := i3_bd x_177
                      refine lv_iload hx hb dX5_lookUp_248 (lv_at hl 0 rfl) ?_
                      refine lv_idiv hx hb dX5_lookUp_250 (by decide) ?_
                      refine lv_topi (fun x_181 ex_181 => ?_)
                      have bd_182 := i3_bd x_179
                      refine lv_goto (tgt := 259) hx hb dX5_lookUp_251 (by decide) ?_
                      exact ret_i hx hb hr hlk (hP.sub (ws' := [(o_t, .inr (5, [.ref a_t_numbers, .ref a_t_lefts, .ref a_t_falls, .int f_t_lateCorner, .int f_t_earlyCorner])), (a_t_lefts, aI E 64 g_t_lefts), (a_t_numbers, aI E 192 g_t_numbers)]) [1, 0, 2] rfl) (hD.sub (ws' := [(o_t, .inr (5, [.ref a_t_numbers, .ref a_t_lefts, .ref a_t_falls, .int f_t_lateCorner, .int f_t_earlyCorner])), (a_t_lefts, aI E 64 g_t_lefts), (a_t_numbers, aI E 192 g_t_numbers)]) [1, 0, 2] (by decide) rfl) hS rfl dX5_lookUp_259 (Nat.le_of_ble_eq_true rfl) (Nat.le_of_ble_eq_true rfl) ⟨trivial, rfl⟩
                  · have e_173 : 0 < x_109.toInt := i3_nle c_173
                    exfalso; omega
              · have e_166 : 0 < x_109.toInt := i3_nle c_166
                exfalso; omega
            · have e_165 : r_161.toInt ≠ 0 := i3_ne c_165
              exfalso; omega
          · have e_164 : 0 < x_109.toInt := i3_nle c_164
            refine lv_aload_n hx hb dX5_lookUp_110 rfl (lv_at hl 9 rfl) ?_
            refine lv_iload hx hb dX5_lookUp_111 (lv_at hl 2 rfl) ?_
            refine lv_iconst (v := 1) hx hb dX5_lookUp_113 (by decide) ?_
            refine lv_iadd hx hb dX5_lookUp_114 ?_
            refine lv_topi (fun x_183 ex_183 => ?_)
            have tx_183 : x_183.toInt = r_111.toInt + 1 := i3_addc rfl rfl ex_183 (by omega)
            refine lv_iload hx hb dX5_lookUp_115 (lv_at hl 1 rfl) ?_
            refine call_i (va_runV (As := [.int x_183, .int 2]) (rest := []) ⟨hx, hb, hml, hown, hts⟩ (q_whyAbsent l E o_t a_t_numbers a_t_lefts a_t_falls f_t_lateCorner f_t_earlyCorner x_183 2 g_t_lefts r_f_t_lateCorner r_f_t_earlyCorner i_g_t_lefts (RG.mk (by omega)) H.size) (cwV 2 hts g_q_lookUp_q_whyAbsent_51 rfl rfl rfl (by decide +kernel) ⟨Nat.le_of_ble_eq_true rfl, Nat.le_of_ble_eq_true rfl⟩) (pre_V hK hN hZ hS (va_free hD hS hA [1, 2] rfl) (hP.sub (ws' := [(o_t, .inr (5, [.ref a_t_numbers, .ref a_t_lefts, .ref a_t_falls, .int f_t_lateCorner, .int f_t_earlyCorner])), (a_t_lefts, aI E 64 g_t_lefts)]) [1, 2] rfl) (hD.sub (ws' := [(o_t, .inr (5, [.ref a_t_numbers, .ref a_t_lefts, .ref a_t_falls, .int f_t_lateCorner, .int f_t_earlyCorner])), (a_t_lefts, aI E 64 g_t_lefts)]) [1, 2] (by decide) rfl) (ci := 5) (q0 := 0) rfl rfl) rfl rfl hl.1 rfl (lv_room (Nat.le_of_ble_eq_true rfl)) dX5_lookUp_117 ⟨Nat.le_of_ble_eq_true rfl, Nat.le_of_ble_eq_true rfl⟩) hP hD hS hA [1, 2] [0] (wr := [(a_t_numbers, aI E 192 g_t_numbers)]) rfl rfl (by decide) (by decide) (fun r_184 w H locs hw hP hD hS => ?_)
            obtain ⟨b_r_184, rfl⟩ := hw
            replace hP : va_P E.1 vwCl [(a_t_numbers, aI E 192 g_t_numbers), (o_t, .inr (5, [.ref a_t_numbers, .ref a_t_lefts, .ref a_t_falls, .int f_t_lateCorner, .int f_t_earlyCorner])), (a_t_lefts, aI E 64 g_t_lefts)] H := hP
            replace hD : va_D A [(a_t_numbers, aI E 192 g_t_numbers), (o_t, .inr (5, [.ref a_t_numbers, .ref a_t_lefts, .ref a_t_falls, .int f_t_lateCorner, .int f_t_earlyCorner])), (a_t_lefts, aI E 64 g_t_lefts)] := hD
            refine lv_istore (lv' := [(14, .int r_184), (13, .int 2), (12, .int r_111), (11, .int x_110), (10, .int x_109), (9, .int 1), (8, .int 0), (7, .int x_3), (6, .int x_1), (0, .ref o_t), (1, .int p1), (2, .int p2), (3, .int p3), (4, .int p4), (5, .int p5)]) hx hb dX5_lookUp_120 hl (by decide) rfl (fun ls hl => ?_)
            refine lv_iload hx hb dX5_lookUp_122 (lv_at hl 0 rfl) ?_
            refine lv_if_eq (tgt := 130) hx hb dX5_lookUp_124 (by decide) (fun c_185 => ?_) (fun c_185 => ?_)
            · have e_185 : r_184.toInt = 0 := i3_eq c_185
              refine lv_iload hx hb dX5_lookUp_130 (lv_at hl 4 rfl) ?_
              refine lv_if_le (tgt := 153) hx hb dX5_lookUp_132 (by decide) (fun c_186 => ?_) (fun c_186 => ?_)
              · have e_186 : x_109.toInt ≤ 0 := i3_le c_186
                exfalso; omega
              · have e_186 : 0 < x_109.toInt := i3_nle c_186
                refine va_gets (C := "TimingHouse$Tables") (n := "LOAD_MARKS") (d := "[I") (own := RX5) (ref := "TimingHouse$Tables") hx hb hZ.1.1 hS hown (hto (.fieldLink RX5 31 "TimingHouse$Tables" "LOAD_MARKS" "[I") (by decide +kernel)) (fun _ h9 => h9) dX5_lookUp_135 ?_
                refine lv_iload hx hb dX5_lookUp_138 (lv_at hl 6 rfl) ?_
                refine lv_iconst (v := 1) hx hb dX5_lookUp_140 (by decide) ?_
                refine lv_iadd hx hb dX5_lookUp_141 ?_
                refine lv_cst (y := 1) (by decide) ?_
                refine va_ti (v := .int 8) hx hb hZ.1.2 hS (i3_in (by decide)) rfl dX5_lookUp_142 ?_
                refine va_gets (C := "TimingHouse$Tables") (n := "LOAD_MARKS") (d := "[I") (own := RX5) (ref := "TimingHouse$Tables") hx hb hZ.1.1 hS hown (hto (.fieldLink RX5 31 "TimingHouse$Tables" "LOAD_MARKS" "[I") (by decide +kernel)) (fun _ h9 => h9) dX5_lookUp_143 ?_
                refine lv_iload hx hb dX5_lookUp_146 (lv_at hl 6 rfl) ?_
                refine va_ti (v := .int 0) hx hb hZ.1.2 hS (i3_in (by decide)) rfl dX5_lookUp_148 ?_
                refine lv_isub hx hb dX5_lookUp_149 ?_
                refine lv_cst (y := 8) (by decide) ?_
                refine lv_goto (tgt := 154) hx hb dX5_lookUp_150 (by decide) ?_
                refine lv_istore (lv' := [(15, .int 8), (14, .int r_184), (13, .int 2), (12, .int r_111), (11, .int x_110), (10, .int x_109), (9, .int 1), (8, .int 0), (7, .int x_3), (6, .int x_1), (0, .ref o_t), (1, .int p1), (2, .int p2), (3, .int p3), (4, .int p4), (5, .int p5)]) hx hb dX5_lookUp_154 hl (by decide) rfl (fun ls hl => ?_)
                refine lv_iload hx hb dX5_lookUp_156 (lv_at hl 4 rfl) ?_
                refine lv_if_le (tgt := 179) hx hb dX5_lookUp_158 (by decide) (fun c_187 => ?_) (fun c_187 => ?_)
                · have e_187 : x_110.toInt ≤ 0 := i3_le c_187
                  exfalso; omega
                · have e_187 : 0 < x_110.toInt := i3_nle c_187
                  refine va_gets (C := "TimingHouse$Tables") (n := "SLOPE_MARKS") (d := "[I") (own := RX5) (ref := "TimingHouse$Tables") hx hb hZ.2.1.1 hS hown (hto (.fieldLink RX5 40 "TimingHouse$Tables" "SLOPE_MARKS" "[I") (by decide +kernel)) (fun _ h9 => h9) dX5_lookUp_161 ?_
                  refine lv_iload hx hb dX5_lookUp_164 (lv_at hl 6 rfl) ?_
                  refine lv_iconst (v := 1) hx hb dX5_lookUp_166 (by decide) ?_
                  refine lv_iadd hx hb dX5_lookUp_167 ?_
                  refine lv_cst (y := 2) (by decide) ?_
                  refine va_ti (v := .int 64) hx hb hZ.2.1.2 hS (i3_in (by decide)) rfl dX5_lookUp_168 ?_
                  refine va_gets (C := "TimingHouse$Tables") (n := "SLOPE_MARKS") (d := "[I") (own := RX5) (ref := "TimingHouse$Tables") hx hb hZ.2.1.1 hS hown (hto (.fieldLink RX5 40 "TimingHouse$Tables" "SLOPE_MARKS" "[I") (by decide +kernel)) (fun _ h9 => h9) dX5_lookUp_169 ?_
                  refine lv_iload hx hb dX5_lookUp_172 (lv_at hl 6 rfl) ?_
                  refine va_ti (v := .int 16) hx hb hZ.2.1.2 hS (i3_in (by decide)) rfl dX5_lookUp_174 ?_
                  refine lv_isub hx hb dX5_lookUp_175 ?_
                  refine lv_cst (y := 48) (by decide) ?_
                  refine lv_goto (tgt := 180) hx hb dX5_lookUp_176 (by decide) ?_
                  refine lv_istore (lv' := [(16, .int 48), (15, .int 8), (14, .int r_184), (13, .int 2), (12, .int r_111), (11, .int x_110), (10, .int x_109), (9, .int 1), (8, .int 0), (7, .int x_3), (6, .int x_1), (0, .ref o_t), (1, .int p1), (2, .int p2), (3, .int p3), (4, .int p4), (5, .int p5)]) hx hb dX5_lookUp_180 hl (by decide) rfl (fun ls hl => ?_)
                  refine lv_iload hx hb dX5_lookUp_182 (lv_at hl 1 rfl) ?_
                  refine lv_iload hx hb dX5_lookUp_184 (lv_at hl 6 rfl) ?_
                  refine lv_isub hx hb dX5_lookUp_186 ?_
                  refine lv_topi (fun x_188 ex_188 => ?_)
                  have tx_188 : x_188.toInt = 8 - x_109.toInt := i3_subc rfl rfl ex_188 (by omega)
                  refine lv_aload_n hx hb dX5_lookUp_187 rfl (lv_at hl 11 rfl) ?_
                  refine lv_iload hx hb dX5_lookUp_188 (lv_at hl 4 rfl) ?_
                  refine lv_iload hx hb dX5_lookUp_190 (lv_at hl 7 rfl) ?_
                  refine lv_iload hx hb dX5_lookUp_192 (lv_at hl 5 rfl) ?_
                  refine lv_iload hx hb dX5_lookUp_194 (lv_at hl 0 rfl) ?_
                  refine call_i (va_runV (As := [.int r_111, .int 1, .int x_110, .int 48]) (rest := [.int x_188]) ⟨hx, hb, hml, hown, hts⟩ (q_weighRow1 l E o_t a_t_numbers a_t_lefts a_t_falls f_t_lateCorner f_t_earlyCorner r_111 1 x_110 48 g_t_numbers r_f_t_lateCorner r_f_t_earlyCorner i_g_t_numbers (RG.mk (by omega)) (RG.mk (by decide)) H.size) (cwV 4 hts g_q_lookUp_q_weighRow1_54 rfl rfl rfl (by decide +kernel) ⟨Nat.le_of_ble_eq_true rfl, Nat.le_of_ble_eq_true rfl⟩) (pre_V hK hN hZ hS (va_free hD hS hA [1, 0] rfl) (hP.sub (ws' := [(o_t, .inr (5, [.ref a_t_numbers, .ref a_t_lefts, .ref a_t_falls, .int f_t_lateCorner, .int f_t_earlyCorner])), (a_t_numbers, aI E 192 g_t_numbers)]) [1, 0] rfl) (hD.sub (ws' := [(o_t, .inr (5, [.ref a_t_numbers, .ref a_t_lefts, .ref a_t_falls, .int f_t_lateCorner, .int f_t_earlyCorner])), (a_t_numbers, aI E 192 g_t_numbers)]) [1, 0] (by decide) rfl) (ci := 5) (q0 := 0) rfl rfl) rfl rfl hl.1 rfl (lv_room (Nat.le_of_ble_eq_true rfl)) dX5_lookUp_196 ⟨Nat.le_of_ble_eq_true rfl, Nat.le_of_ble_eq_true rfl⟩) hP hD hS hA [1, 0] [2] (wr := [(a_t_lefts, aI E 64 g_t_lefts)]) rfl rfl (by decide) (by decide) (fun r_189 w H locs hw hP hD hS => ?_)
                  obtain ⟨b_r_189, rfl⟩ := hw
                  replace hP : va_P E.1 vwCl [(a_t_lefts, aI E 64 g_t_lefts), (o_t, .inr (5, [.ref a_t_numbers, .ref a_t_lefts, .ref a_t_falls, .int f_t_lateCorner, .int f_t_earlyCorner])), (a_t_numbers, aI E 192 g_t_numbers)] H := hP
                  replace hD : va_D A [(a_t_lefts, aI E 64 g_t_lefts), (o_t, .inr (5, [.ref a_t_numbers, .ref a_t_lefts, .ref a_t_falls, .int f_t_lateCorner, .int f_t_earlyCorner])), (a_t_numbers, aI E 192 g_t_numbers)] := hD
                  refine lv_imul hx hb dX5_lookUp_199 ?_
                  refine lv_topi (fun x_190 ex_190 => ?_)
                  have bd_191 := i3_bd r_189
                  refine lv_istore (lv' := [(17, .int x_190), (16, .int 48), (15, .int 8), (14, .int r_184), (13, .int 2), (12, .int r_111), (11, .int x_110), (10, .int x_109), (9, .int 1), (8, .int 0), (7, .int x_3), (6, .int x_1), (0, .ref o_t), (1, .int p1), (2, .int p2), (3, .int p3), (4, .int p4), (5, .int p5)]) hx hb dX5_lookUp_200 hl (by decide) rfl (fun ls hl => ?_)
                  refine lv_iload hx hb dX5_lookUp_202 (lv_at hl 7 rfl) ?_
                  refine lv_if_le (tgt := 229) hx hb dX5_lookUp_204 (by decide) (fun c_192 => ?_) (fun c_192 => ?_)
                  · have e_192 : x_109.toInt ≤ 0 := i3_le c_192
                    exfalso; omega
                  · have e_192 : 0 < x_109.toInt := i3_nle c_192
                    refine lv_iload hx hb dX5_lookUp_207 (lv_at hl 0 rfl) ?_
                    refine lv_iload hx hb dX5_lookUp_209 (lv_at hl 7 rfl) ?_
                    refine lv_aload_n hx hb dX5_lookUp_211 rfl (lv_at hl 12 rfl) ?_
                    refine lv_iload hx hb dX5_lookUp_212 (lv_at hl 5 rfl) ?_
                    refine lv_iconst (v := 1) hx hb dX5_lookUp_214 (by decide) ?_
                    refine lv_iadd hx hb dX5_lookUp_215 ?_
                    refine lv_topi (fun x_193 ex_193 => ?_)
                    have hq_x_193 : x_183 = x_193 := ex_183.trans ex_193.symm
                    subst hq_x_193
                    refine lv_iload hx hb dX5_lookUp_216 (lv_at hl 8 rfl) ?_
                    refine lv_iload hx hb dX5_lookUp_218 (lv_at hl 6 rfl) ?_
                    refine lv_iload hx hb dX5_lookUp_220 (lv_at hl 1 rfl) ?_
                    refine call_i (va_runV (As := [.int x_183, .int 1, .int x_110, .int 48]) (rest := [.int x_109, .int x_190]) ⟨hx, hb, hml, hown, hts⟩ (q_weighRow1 l E o_t a_t_numbers a_t_lefts a_t_falls f_t_lateCorner f_t_earlyCorner x_183 1 x_110 48 g_t_numbers r_f_t_lateCorner r_f_t_earlyCorner i_g_t_numbers (RG.mk (by omega)) (RG.mk (by decide)) H.size) (cwV 4 hts g_q_lookUp_q_weighRow1_54 rfl rfl rfl (by decide +kernel) ⟨Nat.le_of_ble_eq_true rfl, Nat.le_of_ble_eq_true rfl⟩) (pre_V hK hN hZ hS (va_free hD hS hA [1, 2] rfl) (hP.sub (ws' := [(o_t, .inr (5, [.ref a_t_numbers, .ref a_t_lefts, .ref a_t_falls, .int f_t_lateCorner, .int f_t_earlyCorner])), (a_t_numbers, aI E 192 g_t_numbers)]) [1, 2] rfl) (hD.sub (ws' := [(o_t, .inr (5, [.ref a_t_numbers, .ref a_t_lefts, .ref a_t_falls, .int f_t_lateCorner, .int f_t_earlyCorner])), (a_t_numbers, aI E 192 g_t_numbers)]) [1, 2] (by decide) rfl) (ci := 5) (q0 := 0) rfl rfl) rfl rfl hl.1 rfl (lv_room (Nat.le_of_ble_eq_true rfl)) dX5_lookUp_222 ⟨Nat.le_of_ble_eq_true rfl, Nat.le_of_ble_eq_true rfl⟩) hP hD hS hA [1, 2] [0] (wr := [(a_t_lefts, aI E 64 g_t_lefts)]) rfl rfl (by decide) (by decide) (fun r_194 w H locs hw hP hD hS => ?_)
                    obtain ⟨b_r_194, rfl⟩ := hw
                    replace hP : va_P E.1 vwCl [(a_t_lefts, aI E 64 g_t_lefts), (o_t, .inr (5, [.ref a_t_numbers, .ref a_t_lefts, .ref a_t_falls, .int f_t_lateCorner, .int f_t_earlyCorner])), (a_t_numbers, aI E 192 g_t_numbers)] H := hP
                    replace hD : va_D A [(a_t_lefts, aI E 64 g_t_lefts), (o_t, .inr (5, [.ref a_t_numbers, .ref a_t_lefts, .ref a_t_falls, .int f_t_lateCorner, .int f_t_earlyCorner])), (a_t_numbers, aI E 192 g_t_numbers)] := hD
                    refine lv_imul hx hb dX5_lookUp_225 ?_
                    refine lv_topi (fun x_195 ex_195 => ?_)
                    have bd_196 := i3_bd r_194
                    refine lv_iadd hx hb dX5_lookUp_226 ?_
                    refine lv_topi (fun x_197 ex_197 => ?_)
                    have bd_198 := i3_bd x_190
                    have bd_199 := i3_bd x_195
                    refine lv_istore (lv' := [(17, .int x_197), (16, .int 48), (15, .int 8), (14, .int r_184), (13, .int 2), (12, .int r_111), (11, .int x_110), (10, .int x_109), (9, .int 1), (8, .int 0), (7, .int x_3), (6, .int x_1), (0, .ref o_t), (1, .int p1), (2, .int p2), (3, .int p3), (4, .int p4), (5, .int p5)]) hx hb dX5_lookUp_227 hl (by decide) rfl (fun ls hl => ?_)
                    refine lv_iload hx hb dX5_lookUp_229 (lv_at hl 2 rfl) ?_
                    refine lv_iload hx hb dX5_lookUp_231 (lv_at hl 1 rfl) ?_
                    refine lv_imul hx hb dX5_lookUp_233 ?_
                    refine lv_cst (y := 384) (by decide) ?_
                    refine lv_istore (lv' := [(18, .int 384), (17, .int x_197), (16, .int 48), (15, .int 8), (14, .int r_184), (13, .int 2), (12, .int r_111), (11, .int x_110), (10, .int x_109), (9, .int 1), (8, .int 0), (7, .int x_3), (6, .int x_1), (0, .ref o_t), (1, .int p1), (2, .int p2), (3, .int p3), (4, .int p4), (5, .int p5)]) hx hb dX5_lookUp_234 hl (by decide) rfl (fun ls hl => ?_)
                    refine lv_iload hx hb dX5_lookUp_236 (lv_at hl 18 rfl) ?_
                    have b_p5 := r_p5.out
                    refine lv_if_eq (tgt := 254) hx hb dX5_lookUp_238 (by decide) (fun c_200 => ?_) (fun c_200 => ?_)
                    · have e_200 : p5.toInt = 0 := i3_eq c_200
                      refine lv_iload hx hb dX5_lookUp_254 (lv_at hl 1 rfl) ?_
                      refine lv_iload hx hb dX5_lookUp_256 (lv_at hl 0 rfl) ?_
                      refine lv_idiv hx hb dX5_lookUp_258 (by decide) ?_
                      refine lv_topi (fun x_201 ex_201 => ?_)
                      have bd_202 := i3_bd x_197
                      exact ret_i hx hb hr hlk (hP.sub (ws' := [(o_t, .inr (5, [.ref a_t_numbers, .ref a_t_lefts, .ref a_t_falls, .int f_t_lateCorner, .int f_t_earlyCorner])), (a_t_lefts, aI E 64 g_t_lefts), (a_t_numbers, aI E 192 g_t_numbers)]) [1, 0, 2] rfl) (hD.sub (ws' := [(o_t, .inr (5, [.ref a_t_numbers, .ref a_t_lefts, .ref a_t_falls, .int f_t_lateCorner, .int f_t_earlyCorner])), (a_t_lefts, aI E 64 g_t_lefts), (a_t_numbers, aI E 192 g_t_numbers)]) [1, 0, 2] (by decide) rfl) hS rfl dX5_lookUp_259 (Nat.le_of_ble_eq_true rfl) (Nat.le_of_ble_eq_true rfl) ⟨trivial, rfl⟩
                    · have e_200 : p5.toInt ≠ 0 := i3_ne c_200
                      refine lv_iload hx hb dX5_lookUp_241 (lv_at hl 1 rfl) ?_
                      refine lv_iload hx hb dX5_lookUp_243 (lv_at hl 0 rfl) ?_
                      refine lv_iadd hx hb dX5_lookUp_245 ?_
                      refine lv_topi (fun x_203 ex_203 => ?_)
                      have bd_204 := i3_bd x_197
                      refine lv_iconst (v := 1) hx hb dX5_lookUp_246 (by decide) ?_
                      refine lv_isub hx hb dX5_lookUp_247 ?_
                      refine lv_topi (fun x_205 ex_205 => ?_)
                      have bd_206 := i3_bd x_203
                      refine lv_iload hx hb dX5_lookUp_248 (lv_at hl 0 rfl) ?_
                      refine lv_idiv hx hb dX5_lookUp_250 (by decide) ?_
                      refine lv_topi (fun x_207 ex_207 => ?_)
                      have bd_208 := i3_bd x_205
                      refine lv_goto (tgt := 259) hx hb dX5_lookUp_251 (by decide) ?_
                      exact ret_i hx hb hr hlk (hP.sub (ws' := [(o_t, .inr (5, [.ref a_t_numbers, .ref a_t_lefts, .ref a_t_falls, .int f_t_lateCorner, .int f_t_earlyCorner])), (a_t_lefts, aI E 64 g_t_lefts), (a_t_numbers, aI E 192 g_t_numbers)]) [1, 0, 2] rfl) (hD.sub (ws' := [(o_t, .inr (5, [.ref a_t_numbers, .ref a_t_lefts, .ref a_t_falls, .int f_t_lateCorner, .int f_t_earlyCorner])), (a_t_lefts, aI E 64 g_t_lefts), (a_t_numbers, aI E 192 g_t_numbers)]) [1, 0, 2] (by decide) rfl) hS rfl dX5_lookUp_259 (Nat.le_of_ble_eq_true rfl) (Nat.le_of_ble_eq_true rfl) ⟨trivial, rfl⟩
            · have e_185 : r_184.toInt ≠ 0 := i3_ne c_185
              refine lv_iload hx hb dX5_lookUp_127 (lv_at hl 0 rfl) ?_
              exact ret_i hx hb hr hlk (hP.sub (ws' := [(o_t, .inr (5, [.ref a_t_numbers, .ref a_t_lefts, .ref a_t_falls, .int f_t_lateCorner, .int f_t_earlyCorner])), (a_t_lefts, aI E 64 g_t_lefts), (a_t_numbers, aI E 192 g_t_numbers)]) [1, 2, 0] rfl) (hD.sub (ws' := [(o_t, .inr (5, [.ref a_t_numbers, .ref a_t_lefts, .ref a_t_falls, .int f_t_lateCorner, .int f_t_earlyCorner])), (a_t_lefts, aI E 64 g_t_lefts), (a_t_numbers, aI E 192 g_t_numbers)]) [1, 2, 0] (by decide) rfl) hS rfl dX5_lookUp_129 (Nat.le_of_ble_eq_true rfl) (Nat.le_of_ble_eq_true rfl) ⟨trivial, rfl⟩
    · have hs_h_8 := i3_cs (c := 2) h_8 (by decide)
      subst hs_h_8
      have hk_h_8 : (2 : Int32).toInt = 2 := rfl
      refine lv_iload hx hb dX5_lookUp_43 (lv_at hl 3 rfl) ?_
      refine va_gets (C := "TimingHouse$Tables") (n := "LOAD_MARKS") (d := "[I") (own := RX5) (ref := "TimingHouse$Tables") hx hb hZ.1.1 hS hown (hto (.fieldLink RX5 31 "TimingHouse$Tables" "LOAD_MARKS" "[I") (by decide +kernel)) (fun _ h9 => h9) dX5_lookUp_45 ?_
      refine lv_iload hx hb dX5_lookUp_48 (lv_at hl 1 rfl) ?_
      refine va_ti (v := .int 0) hx hb hZ.1.2 hS (i3_in (by decide)) rfl dX5_lookUp_50 ?_
      refine lv_isub hx hb dX5_lookUp_51 ?_
      refine lv_topi (fun x_209 ex_209 => ?_)
      have tx_209 : x_209.toInt = x_1.toInt - 0 := i3_subc rfl rfl ex_209 (by omega)
      refine lv_istore (lv' := [(10, .int x_209), (9, .int 2), (8, .int 0), (7, .int x_3), (6, .int x_1), (0, .ref o_t), (1, .int p1), (2, .int p2), (3, .int p3), (4, .int p4), (5, .int p5)]) hx hb dX5_lookUp_52 hl (by decide) rfl (fun ls hl => ?_)
      refine lv_iload hx hb dX5_lookUp_54 (lv_at hl 3 rfl) ?_
      refine va_gets (C := "TimingHouse$Tables") (n := "SLOPE_MARKS") (d := "[I") (own := RX5) (ref := "TimingHouse$Tables") hx hb hZ.2.1.1 hS hown (hto (.fieldLink RX5 40 "TimingHouse$Tables" "SLOPE_MARKS" "[I") (by decide +kernel)) (fun _ h9 => h9) dX5_lookUp_56 ?_
      refine lv_iload hx hb dX5_lookUp_59 (lv_at hl 1 rfl) ?_
      refine va_ti (v := .int 64) hx hb hZ.2.1.2 hS (i3_in (by decide)) rfl dX5_lookUp_61 ?_
      refine lv_isub hx hb dX5_lookUp_62 ?_
      refine lv_topi (fun x_210 ex_210 => ?_)
      have tx_210 : x_210.toInt = x_3.toInt - 64 := i3_subc rfl rfl ex_210 (by omega)
      refine lv_istore (lv' := [(11, .int x_210), (10, .int x_209), (9, .int 2), (8, .int 0), (7, .int x_3), (6, .int x_1), (0, .ref o_t), (1, .int p1), (2, .int p2), (3, .int p3), (4, .int p4), (5, .int p5)]) hx hb dX5_lookUp_63 hl (by decide) rfl (fun ls hl => ?_)
      refine lv_iload_n hx hb dX5_lookUp_65 rfl (lv_at hl 7 rfl) ?_
      refine lv_iload_n hx hb dX5_lookUp_66 rfl (lv_at hl 8 rfl) ?_
      refine lv_iload hx hb dX5_lookUp_67 (lv_at hl 3 rfl) ?_
      have b_p1 := r_p1.out
      have b_p2 := r_p2.out
      refine call_i (va_runS (As := [.int p1, .int p2, .int 0]) (rest := []) ⟨hx, hb, hml, hown, hts⟩ (q_rowPlace l E p1 p2 0 r_p1 r_p2 (RG.mk (by decide)) H.size) (va_cwS 3 hts g_q_lookUp_q_rowPlace_47 rfl rfl rfl (by decide +kernel) ⟨Nat.le_of_ble_eq_true rfl, Nat.le_of_ble_eq_true rfl⟩) (pre_S hK hN hZ hS (va_free hD hS hA [] rfl) (hP.sub (ws' := []) [] rfl) (hD.sub (ws' := []) [] (by decide) rfl)) rfl rfl hl.1 rfl (lv_room (Nat.le_of_ble_eq_true rfl)) dX5_lookUp_69 ⟨Nat.le_of_ble_eq_true rfl, Nat.le_of_ble_eq_true rfl⟩) hP hD hS hA [] [0, 1, 2] (wr := [(o_t, .inr (5, [.ref a_t_numbers, .ref a_t_lefts, .ref a_t_falls, .int f_t_lateCorner, .int f_t_earlyCorner])), (a_t_lefts, aI E 64 g_t_lefts), (a_t_numbers, aI E 192 g_t_numbers)]) rfl rfl (by decide) (by decide) (fun r_211 w H locs hw hP hD hS => ?_)
      obtain ⟨b_r_211, l_r_211, rfl⟩ := hw
      replace l_r_211 : r_211.toInt = (p1.toInt * 2 + p2.toInt) * 4 + 0 := l_r_211
      replace hP : va_P E.1 vwCl [(o_t, .inr (5, [.ref a_t_numbers, .ref a_t_lefts, .ref a_t_falls, .int f_t_lateCorner, .int f_t_earlyCorner])), (a_t_lefts, aI E 64 g_t_lefts), (a_t_numbers, aI E 192 g_t_numbers)] H := hP
      replace hD : va_D A [(o_t, .inr (5, [.ref a_t_numbers, .ref a_t_lefts, .ref a_t_falls, .int f_t_lateCorner, .int f_t_earlyCorner])), (a_t_lefts, aI E 64 g_t_lefts), (a_t_numbers, aI E 192 g_t_numbers)] := hD
      refine lv_istore (lv' := [(12, .int r_211), (11, .int x_210), (10, .int x_209), (9, .int 2), (8, .int 0), (7, .int x_3), (6, .int x_1), (0, .ref o_t), (1, .int p1), (2, .int p2), (3, .int p3), (4, .int p4), (5, .int p5)]) hx hb dX5_lookUp_72 hl (by decide) rfl (fun ls hl => ?_)
      refine lv_iload hx hb dX5_lookUp_74 (lv_at hl 1 rfl) ?_
      refine lv_if_le (tgt := 86) hx hb dX5_lookUp_76 (by decide) (fun c_212 => ?_) (fun c_212 => ?_)
      · have e_212 : x_210.toInt ≤ 0 := i3_le c_212
        refine lv_iload hx hb dX5_lookUp_86 (lv_at hl 3 rfl) ?_
        refine lv_istore (lv' := [(13, .int 2), (12, .int r_211), (11, .int x_210), (10, .int x_209), (9, .int 2), (8, .int 0), (7, .int x_3), (6, .int x_1), (0, .ref o_t), (1, .int p1), (2, .int p2), (3, .int p3), (4, .int p4), (5, .int p5)]) hx hb dX5_lookUp_88 hl (by decide) rfl (fun ls hl => ?_)
        refine lv_aload_n hx hb dX5_lookUp_90 rfl (lv_at hl 8 rfl) ?_
        refine lv_iload hx hb dX5_lookUp_91 (lv_at hl 1 rfl) ?_
        refine lv_iload hx hb dX5_lookUp_93 (lv_at hl 0 rfl) ?_
        refine call_i (va_runV (As := [.int r_211, .int 2]) (rest := []) ⟨hx, hb, hml, hown, hts⟩ (q_whyAbsent l E o_t a_t_numbers a_t_lefts a_t_falls f_t_lateCorner f_t_earlyCorner r_211 2 g_t_lefts r_f_t_lateCorner r_f_t_earlyCorner i_g_t_lefts (RG.mk (by omega)) H.size) (cwV 2 hts g_q_lookUp_q_whyAbsent_51 rfl rfl rfl (by decide +kernel) ⟨Nat.le_of_ble_eq_true rfl, Nat.le_of_ble_eq_true rfl⟩) (pre_V hK hN hZ hS (va_free hD hS hA [0, 1] rfl) (hP.sub (ws' := [(o_t, .inr (5, [.ref a_t_numbers, .ref a_t_lefts, .ref a_t_falls, .int f_t_lateCorner, .int f_t_earlyCorner])), (a_t_lefts, aI E 64 g_t_lefts)]) [0, 1] rfl) (hD.sub (ws' := [(o_t, .inr (5, [.ref a_t_numbers, .ref a_t_lefts, .ref a_t_falls, .int f_t_lateCorner, .int f_t_earlyCorner])), (a_t_lefts, aI E 64 g_t_lefts)]) [0, 1] (by decide) rfl) (ci := 5) (q0 := 0) rfl rfl) rfl rfl hl.1 rfl (lv_room (Nat.le_of_ble_eq_true rfl)) dX5_lookUp_95 ⟨Nat.le_of_ble_eq_true rfl, Nat.le_of_ble_eq_true rfl⟩) hP hD hS hA [0, 1] [2] (wr := [(a_t_numbers, aI E 192 g_t_numbers)]) rfl rfl (by decide) (by decide) (fun r_213 w H locs hw hP hD hS => ?_)
        obtain ⟨b_r_213, rfl⟩ := hw
        replace hP : va_P E.1 vwCl [(a_t_numbers, aI E 192 g_t_numbers), (o_t, .inr (5, [.ref a_t_numbers, .ref a_t_lefts, .ref a_t_falls, .int f_t_lateCorner, .int f_t_earlyCorner])), (a_t_lefts, aI E 64 g_t_lefts)] H := hP
        replace hD : va_D A [(a_t_numbers, aI E 192 g_t_numbers), (o_t, .inr (5, [.ref a_t_numbers, .ref a_t_lefts, .ref a_t_falls, .int f_t_lateCorner, .int f_t_earlyCorner])), (a_t_lefts, aI E 64 g_t_lefts)] := hD
        refine lv_istore (lv' := [(14, .int r_213), (13, .int 2), (12, .int r_211), (11, .int x_210), (10, .int x_209), (9, .int 2), (8, .int 0), (7, .int x_3), (6, .int x_1), (0, .ref o_t), (1, .int p1), (2, .int p2), (3, .int p3), (4, .int p4), (5, .int p5)]) hx hb dX5_lookUp_98 hl (by decide) rfl (fun ls hl => ?_)
        refine lv_iload hx hb dX5_lookUp_100 (lv_at hl 0 rfl) ?_
        refine lv_if_ne (tgt := 122) hx hb dX5_lookUp_102 (by decide) (fun c_214 => ?_) (fun c_214 => ?_)
        · have e_214 : r_213.toInt ≠ 0 := i3_ne c_214
          refine lv_iload hx hb dX5_lookUp_122 (lv_at hl 0 rfl) ?_
          refine lv_if_eq (tgt := 130) hx hb dX5_lookUp_124 (by decide) (fun c_215 => ?_) (fun c_215 => ?_)
          · have e_215 : r_213.toInt = 0 := i3_eq c_215
            exfalso; omega
          · have e_215 : r_213.toInt ≠ 0 := i3_ne c_215
            refine lv_iload hx hb dX5_lookUp_127 (lv_at hl 0 rfl) ?_
            exact ret_i hx hb hr hlk (hP.sub (ws' := [(o_t, .inr (5, [.ref a_t_numbers, .ref a_t_lefts, .ref a_t_falls, .int f_t_lateCorner, .int f_t_earlyCorner])), (a_t_lefts, aI E 64 g_t_lefts), (a_t_numbers, aI E 192 g_t_numbers)]) [1, 2, 0] rfl) (hD.sub (ws' := [(o_t, .inr (5, [.ref a_t_numbers, .ref a_t_lefts, .ref a_t_falls, .int f_t_lateCorner, .int f_t_earlyCorner])), (a_t_lefts, aI E 64 g_t_lefts), (a_t_numbers, aI E 192 g_t_numbers)]) [1, 2, 0] (by decide) rfl) hS rfl dX5_lookUp_129 (Nat.le_of_ble_eq_true rfl) (Nat.le_of_ble_eq_true rfl) ⟨trivial, rfl⟩
        · have e_214 : r_213.toInt = 0 := i3_eq c_214
          refine lv_iload hx hb dX5_lookUp_105 (lv_at hl 4 rfl) ?_
          refine lv_if_le (tgt := 122) hx hb dX5_lookUp_107 (by decide) (fun c_216 => ?_) (fun c_216 => ?_)
          · have e_216 : x_209.toInt ≤ 0 := i3_le c_216
            refine lv_iload hx hb dX5_lookUp_122 (lv_at hl 0 rfl) ?_
            refine lv_if_eq (tgt := 130) hx hb dX5_lookUp_124 (by decide) (fun c_217 => ?_) (fun c_217 => ?_)
            · have e_217 : r_213.toInt = 0 := i3_eq c_217
              refine lv_iload hx hb dX5_lookUp_130 (lv_at hl 4 rfl) ?_
              refine lv_if_le (tgt := 153) hx hb dX5_lookUp_132 (by decide) (fun c_218 => ?_) (fun c_218 => ?_)
              · have e_218 : x_209.toInt ≤ 0 := i3_le c_218
                refine lv_iconst (v := 1) hx hb dX5_lookUp_153 (by decide) ?_
                refine lv_istore (lv' := [(15, .int 1), (14, .int r_213), (13, .int 2), (12, .int r_211), (11, .int x_210), (10, .int x_209), (9, .int 2), (8, .int 0), (7, .int x_3), (6, .int x_1), (0, .ref o_t), (1, .int p1), (2, .int p2), (3, .int p3), (4, .int p4), (5, .int p5)]) hx hb dX5_lookUp_154 hl (by decide) rfl (fun ls hl => ?_)
                refine lv_iload hx hb dX5_lookUp_156 (lv_at hl 4 rfl) ?_
                refine lv_if_le (tgt := 179) hx hb dX5_lookUp_158 (by decide) (fun c_219 => ?_) (fun c_219 => ?_)
                · have e_219 : x_210.toInt ≤ 0 := i3_le c_219
                  refine lv_iconst (v := 1) hx hb dX5_lookUp_179 (by decide) ?_
                  refine lv_istore (lv' := [(16, .int 1), (15, .int 1), (14, .int r_213), (13, .int 2), (12, .int r_211), (11, .int x_210), (10, .int x_209), (9, .int 2), (8, .int 0), (7, .int x_3), (6, .int x_1), (0, .ref o_t), (1, .int p1), (2, .int p2), (3, .int p3), (4, .int p4), (5, .int p5)]) hx hb dX5_lookUp_180 hl (by decide) rfl (fun ls hl => ?_)
                  refine lv_iload hx hb dX5_lookUp_182 (lv_at hl 1 rfl) ?_
                  refine lv_iload hx hb dX5_lookUp_184 (lv_at hl 6 rfl) ?_
                  refine lv_isub hx hb dX5_lookUp_186 ?_
                  refine lv_topi (fun x_220 ex_220 => ?_)
                  refine lv_aload_n hx hb dX5_lookUp_187 rfl (lv_at hl 11 rfl) ?_
                  refine lv_iload hx hb dX5_lookUp_188 (lv_at hl 4 rfl) ?_
                  refine lv_iload hx hb dX5_lookUp_190 (lv_at hl 7 rfl) ?_
                  refine lv_iload hx hb dX5_lookUp_192 (lv_at hl 5 rfl) ?_
                  refine lv_iload hx hb dX5_lookUp_194 (lv_at hl 0 rfl) ?_
                  refine call_i (va_runV (As := [.int r_211, .int 2, .int x_210, .int 1]) (rest := [.int x_220]) ⟨hx, hb, hml, hown, hts⟩ (q_weighRow2 l E o_t a_t_numbers a_t_lefts a_t_falls f_t_lateCorner f_t_earlyCorner r_211 2 x_210 1 g_t_numbers r_f_t_lateCorner r_f_t_earlyCorner i_g_t_numbers (RG.mk (by omega)) (RG.mk (by decide)) (RG.mk (by omega)) H.size) (cwV 4 hts g_q_lookUp_q_weighRow2_54 rfl rfl rfl (by decide +kernel) ⟨Nat.le_of_ble_eq_true rfl, Nat.le_of_ble_eq_true rfl⟩) (pre_V hK hN hZ hS (va_free hD hS hA [1, 0] rfl) (hP.sub (ws' := [(o_t, .inr (5, [.ref a_t_numbers, .ref a_t_lefts, .ref a_t_falls, .int f_t_lateCorner, .int f_t_earlyCorner])), (a_t_numbers, aI E 192 g_t_numbers)]) [1, 0] rfl) (hD.sub (ws' := [(o_t, .inr (5, [.ref a_t_numbers, .ref a_t_lefts, .ref a_t_falls, .int f_t_lateCorner, .int f_t_earlyCorner])), (a_t_numbers, aI E 192 g_t_numbers)]) [1, 0] (by decide) rfl) (ci := 5) (q0 := 0) rfl rfl) rfl rfl hl.1 rfl (lv_room (Nat.le_of_ble_eq_true rfl)) dX5_lookUp_196 ⟨Nat.le_of_ble_eq_true rfl, Nat.le_of_ble_eq_true rfl⟩) hP hD hS hA [1, 0] [2] (wr := [(a_t_lefts, aI E 64 g_t_lefts)]) rfl rfl (by decide) (by decide) (fun r_221 w H locs hw hP hD hS => ?_)
                  obtain ⟨b_r_221, rfl⟩ := hw
                  replace hP : va_P E.1 vwCl [(a_t_lefts, aI E 64 g_t_lefts), (o_t, .inr (5, [.ref a_t_numbers, .ref a_t_lefts, .ref a_t_falls, .int f_t_lateCorner, .int f_t_earlyCorner])), (a_t_numbers, aI E 192 g_t_numbers)] H := hP
                  replace hD : va_D A [(a_t_lefts, aI E 64 g_t_lefts), (o_t, .inr (5, [.ref a_t_numbers, .ref a_t_lefts, .ref a_t_falls, .int f_t_lateCorner, .int f_t_earlyCorner])), (a_t_numbers, aI E 192 g_t_numbers)] := hD
                  refine lv_imul hx hb dX5_lookUp_199 ?_
                  refine lv_topi (fun x_222 ex_222 => ?_)
                  have bd_223 := i3_bd x_220
                  have bd_224 := i3_bd r_221
                  refine lv_istore (lv' := [(17, .int x_222), (16, .int 1), (15, .int 1), (14, .int r_213), (13, .int 2), (12, .int r_211), (11, .int x_210), (10, .int x_209), (9, .int 2), (8, .int 0), (7, .int x_3), (6, .int x_1), (0, .ref o_t), (1, .int p1), (2, .int p2), (3, .int p3), (4, .int p4), (5, .int p5)]) hx hb dX5_lookUp_200 hl (by decide) rfl (fun ls hl => ?_)
                  refine lv_iload hx hb dX5_lookUp_202 (lv_at hl 7 rfl) ?_
                  refine lv_if_le (tgt := 229) hx hb dX5_lookUp_204 (by decide) (fun c_225 => ?_) (fun c_225 => ?_)
                  · have e_225 : x_209.toInt ≤ 0 := i3_le c_225
                    refine lv_iload hx hb dX5_lookUp_229 (lv_at hl 2 rfl) ?_
                    refine lv_iload hx hb dX5_lookUp_231 (lv_at hl 1 rfl) ?_
                    refine lv_imul hx hb dX5_lookUp_233 ?_
                    refine lv_cst (y := 1) (by decide) ?_
                    refine lv_istore (lv' := [(18, .int 1), (17, .int x_222), (16, .int 1), (15, .int 1), (14, .int r_213), (13, .int 2), (12, .int r_211), (11, .int x_210), (10, .int x_209), (9, .int 2), (8, .int 0), (7, .int x_3), (6, .int x_1), (0, .ref o_t), (1, .int p1), (2, .int p2), (3, .int p3), (4, .int p4), (5, .int p5)]) hx hb dX5_lookUp_234 hl (by decide) rfl (fun ls hl => ?_)
                    refine lv_iload hx hb dX5_lookUp_236 (lv_at hl 18 rfl) ?_
                    have b_p5 := r_p5.out
                    refine lv_if_eq (tgt := 254) hx hb dX5_lookUp_238 (by decide) (fun c_226 => ?_) (fun c_226 => ?_)
                    · have e_226 : p5.toInt = 0 := i3_eq c_226
                      refine lv_iload hx hb dX5_lookUp_254 (lv_at hl 1 rfl) ?_
                      refine lv_iload hx hb dX5_lookUp_256 (lv_at hl 0 rfl) ?_
                      refine lv_idiv hx hb dX5_lookUp_258 (by decide) ?_
                      refine lv_topi (fun x_227 ex_227 => ?_)
                      have bd_228 := i3_bd x_222
                      exact ret_i hx hb hr hlk (hP.sub (ws' := [(o_t, .inr (5, [.ref a_t_numbers, .ref a_t_lefts, .ref a_t_falls, .int f_t_lateCorner, .int f_t_earlyCorner])), (a_t_lefts, aI E 64 g_t_lefts), (a_t_numbers, aI E 192 g_t_numbers)]) [1, 0, 2] rfl) (hD.sub (ws' := [(o_t, .inr (5, [.ref a_t_numbers, .ref a_t_lefts, .ref a_t_falls, .int f_t_lateCorner, .int f_t_earlyCorner])), (a_t_lefts, aI E 64 g_t_lefts), (a_t_numbers, aI E 192 g_t_numbers)]) [1, 0, 2] (by decide) rfl) hS rfl dX5_lookUp_259 (Nat.le_of_ble_eq_true rfl) (Nat.le_of_ble_eq_true rfl) ⟨trivial, rfl⟩
                    · have e_226 : p5.toInt ≠ 0 := i3_ne c_226
                      refine lv_iload hx hb dX5_lookUp_241 (lv_at hl 1 rfl) ?_
                      refine lv_iload hx hb dX5_lookUp_243 (lv_at hl 0 rfl) ?_
                      refine lv_iadd hx hb dX5_lookUp_245 ?_
                      refine lv_topi (fun x_229 ex_229 => ?_)
                      have bd_230 := i3_bd x_222
                      refine lv_iconst (v := 1) hx hb dX5_lookUp_246 (by decide) ?_
                      refine lv_isub hx hb dX5_lookUp_247 ?_
                      refine lv_topi (fun x_231 ex_231 => ?_)
                      have bd_232 := i3_bd x_229
                      refine lv_iload hx hb dX5_lookUp_248 (lv_at hl 0 rfl) ?_
                      refine lv_idiv hx hb dX5_lookUp_250 (by decide) ?_
                      refine lv_topi (fun x_233 ex_233 => ?_)
                      have bd_234 := i3_bd x_231
                      refine lv_goto (tgt := 259) hx hb dX5_lookUp_251 (by decide) ?_
                      exact ret_i hx hb hr hlk (hP.sub (ws' := [(o_t, .inr (5, [.ref a_t_numbers, .ref a_t_lefts, .ref a_t_falls, .int f_t_lateCorner, .int f_t_earlyCorner])), (a_t_lefts, aI E 64 g_t_lefts), (a_t_numbers, aI E 192 g_t_numbers)]) [1, 0, 2] rfl) (hD.sub (ws' := [(o_t, .inr (5, [.ref a_t_numbers, .ref a_t_lefts, .ref a_t_falls, .int f_t_lateCorner, .int f_t_earlyCorner])), (a_t_lefts, aI E 64 g_t_lefts), (a_t_numbers, aI E 192 g_t_numbers)]) [1, 0, 2] (by decide) rfl) hS rfl dX5_lookUp_259 (Nat.le_of_ble_eq_true rfl) (Nat.le_of_ble_eq_true rfl) ⟨trivial, rfl⟩
                  · have e_225 : 0 < x_209.toInt := i3_nle c_225
                    exfalso; omega
                · have e_219 : 0 < x_210.toInt := i3_nle c_219
                  exfalso; omega
              · have e_218 : 0 < x_209.toInt := i3_nle c_218
                exfalso; omega
            · have e_217 : r_213.toInt ≠ 0 := i3_ne c_217
              exfalso; omega
          · have e_216 : 0 < x_209.toInt := i3_nle c_216
            refine lv_aload_n hx hb dX5_lookUp_110 rfl (lv_at hl 9 rfl) ?_
            refine lv_iload hx hb dX5_lookUp_111 (lv_at hl 2 rfl) ?_
            refine lv_iconst (v := 1) hx hb dX5_lookUp_113 (by decide) ?_
            refine lv_iadd hx hb dX5_lookUp_114 ?_
            refine lv_topi (fun x_235 ex_235 => ?_)
            have tx_235 : x_235.toInt = r_211.toInt + 1 := i3_addc rfl rfl ex_235 (by omega)
            refine lv_iload hx hb dX5_lookUp_115 (lv_at hl 1 rfl) ?_
            refine call_i (va_runV (As := [.int x_235, .int 2]) (rest := []) ⟨hx, hb, hml, hown, hts⟩ (q_whyAbsent l E o_t a_t_numbers a_t_lefts a_t_falls f_t_lateCorner f_t_earlyCorner x_235 2 g_t_lefts r_f_t_lateCorner r_f_t_earlyCorner i_g_t_lefts (RG.mk (by omega)) H.size) (cwV 2 hts g_q_lookUp_q_whyAbsent_51 rfl rfl rfl (by decide +kernel) ⟨Nat.le_of_ble_eq_true rfl, Nat.le_of_ble_eq_true rfl⟩) (pre_V hK hN hZ hS (va_free hD hS hA [1, 2] rfl) (hP.sub (ws' := [(o_t, .inr (5, [.ref a_t_numbers, .ref a_t_lefts, .ref a_t_falls, .int f_t_lateCorner, .int f_t_earlyCorner])), (a_t_lefts, aI E 64 g_t_lefts)]) [1, 2] rfl) (hD.sub (ws' := [(o_t, .inr (5, [.ref a_t_numbers, .ref a_t_lefts, .ref a_t_falls, .int f_t_lateCorner, .int f_t_earlyCorner])), (a_t_lefts, aI E 64 g_t_lefts)]) [1, 2] (by decide) rfl) (ci := 5) (q0 := 0) rfl rfl) rfl rfl hl.1 rfl (lv_room (Nat.le_of_ble_eq_true rfl)) dX5_lookUp_117 ⟨Nat.le_of_ble_eq_true rfl, Nat.le_of_ble_eq_true rfl⟩) hP hD hS hA [1, 2] [0] (wr := [(a_t_numbers, aI E 192 g_t_numbers)]) rfl rfl (by decide) (by decide) (fun r_236 w H locs hw hP hD hS => ?_)
            obtain ⟨b_r_236, rfl⟩ := hw
            replace hP : va_P E.1 vwCl [(a_t_numbers, aI E 192 g_t_numbers), (o_t, .inr (5, [.ref a_t_numbers, .ref a_t_lefts, .ref a_t_falls, .int f_t_lateCorner, .int f_t_earlyCorner])), (a_t_lefts, aI E 64 g_t_lefts)] H := hP
            replace hD : va_D A [(a_t_numbers, aI E 192 g_t_numbers), (o_t, .inr (5, [.ref a_t_numbers, .ref a_t_lefts, .ref a_t_falls, .int f_t_lateCorner, .int f_t_earlyCorner])), (a_t_lefts, aI E 64 g_t_lefts)] := hD
            refine lv_istore (lv' := [(14, .int r_236), (13, .int 2), (12, .int r_211), (11, .int x_210), (10, .int x_209), (9, .int 2), (8, .int 0), (7, .int x_3), (6, .int x_1), (0, .ref o_t), (1, .int p1), (2, .int p2), (3, .int p3), (4, .int p4), (5, .int p5)]) hx hb dX5_lookUp_120 hl (by decide) rfl (fun ls hl => ?_)
            refine lv_iload hx hb dX5_lookUp_122 (lv_at hl 0 rfl) ?_
            refine lv_if_eq (tgt := 130) hx hb dX5_lookUp_124 (by decide) (fun c_237 => ?_) (fun c_237 => ?_)
            · have e_237 : r_236.toInt = 0 := i3_eq c_237
              refine lv_iload hx hb dX5_lookUp_130 (lv_at hl 4 rfl) ?_
              refine lv_if_le (tgt := 153) hx hb dX5_lookUp_132 (by decide) (fun c_238 => ?_) (fun c_238 => ?_)
              · have e_238 : x_209.toInt ≤ 0 := i3_le c_238
                exfalso; omega
              · have e_238 : 0 < x_209.toInt := i3_nle c_238
                refine va_gets (C := "TimingHouse$Tables") (n := "LOAD_MARKS") (d := "[I") (own := RX5) (ref := "TimingHouse$Tables") hx hb hZ.1.1 hS hown (hto (.fieldLink RX5 31 "TimingHouse$Tables" "LOAD_MARKS" "[I") (by decide +kernel)) (fun _ h9 => h9) dX5_lookUp_135 ?_
                refine lv_iload hx hb dX5_lookUp_138 (lv_at hl 6 rfl) ?_
                refine lv_iconst (v := 1) hx hb dX5_lookUp_140 (by decide) ?_
                refine lv_iadd hx hb dX5_lookUp_141 ?_
                refine lv_cst (y := 1) (by decide) ?_
                refine va_ti (v := .int 8) hx hb hZ.1.2 hS (i3_in (by decide)) rfl dX5_lookUp_142 ?_
                refine va_gets (C := "TimingHouse$Tables") (n := "LOAD_MARKS") (d := "[I") (own := RX5) (ref := "TimingHouse$Tables") hx hb hZ.1.1 hS hown (hto (.fieldLink RX5 31 "TimingHouse$Tables" "LOAD_MARKS" "[I") (by decide +kernel)) (fun _ h9 => h9) dX5_lookUp_143 ?_
                refine lv_iload hx hb dX5_lookUp_146 (lv_at hl 6 rfl) ?_
                refine va_ti (v := .int 0) hx hb hZ.1.2 hS (i3_in (by decide)) rfl dX5_lookUp_148 ?_
                refine lv_isub hx hb dX5_lookUp_149 ?_
                refine lv_cst (y := 8) (by decide) ?_
                refine lv_goto (tgt := 154) hx hb dX5_lookUp_150 (by decide) ?_
                refine lv_istore (lv' := [(15, .int 8), (14, .int r_236), (13, .int 2), (12, .int r_211), (11, .int x_210), (10, .int x_209), (9, .int 2), (8, .int 0), (7, .int x_3), (6, .int x_1), (0, .ref o_t), (1, .int p1), (2, .int p2), (3, .int p3), (4, .int p4), (5, .int p5)]) hx hb dX5_lookUp_154 hl (by decide) rfl (fun ls hl => ?_)
                refine lv_iload hx hb dX5_lookUp_156 (lv_at hl 4 rfl) ?_
                refine lv_if_le (tgt := 179) hx hb dX5_lookUp_158 (by decide) (fun c_239 => ?_) (fun c_239 => ?_)
                · have e_239 : x_210.toInt ≤ 0 := i3_le c_239
                  refine lv_iconst (v := 1) hx hb dX5_lookUp_179 (by decide) ?_
                  refine lv_istore (lv' := [(16, .int 1), (15, .int 8), (14, .int r_236), (13, .int 2), (12, .int r_211), (11, .int x_210), (10, .int x_209), (9, .int 2), (8, .int 0), (7, .int x_3), (6, .int x_1), (0, .ref o_t), (1, .int p1), (2, .int p2), (3, .int p3), (4, .int p4), (5, .int p5)]) hx hb dX5_lookUp_180 hl (by decide) rfl (fun ls hl => ?_)
                  refine lv_iload hx hb dX5_lookUp_182 (lv_at hl 1 rfl) ?_
                  refine lv_iload hx hb dX5_lookUp_184 (lv_at hl 6 rfl) ?_
                  refine lv_isub hx hb dX5_lookUp_186 ?_
                  refine lv_topi (fun x_240 ex_240 => ?_)
                  have tx_240 : x_240.toInt = 8 - x_209.toInt := i3_subc rfl rfl ex_240 (by omega)
                  refine lv_aload_n hx hb dX5_lookUp_187 rfl (lv_at hl 11 rfl) ?_
                  refine lv_iload hx hb dX5_lookUp_188 (lv_at hl 4 rfl) ?_
                  refine lv_iload hx hb dX5_lookUp_190 (lv_at hl 7 rfl) ?_
                  refine lv_iload hx hb dX5_lookUp_192 (lv_at hl 5 rfl) ?_
                  refine lv_iload hx hb dX5_lookUp_194 (lv_at hl 0 rfl) ?_
                  refine call_i (va_runV (As := [.int r_211, .int 2, .int x_210, .int 1]) (rest := [.int x_240]) ⟨hx, hb, hml, hown, hts⟩ (q_weighRow2 l E o_t a_t_numbers a_t_lefts a_t_falls f_t_lateCorner f_t_earlyCorner r_211 2 x_210 1 g_t_numbers r_f_t_lateCorner r_f_t_earlyCorner i_g_t_numbers (RG.mk (by omega)) (RG.mk (by decide)) (RG.mk (by omega)) H.size) (cwV 4 hts g_q_lookUp_q_weighRow2_54 rfl rfl rfl (by decide +kernel) ⟨Nat.le_of_ble_eq_true rfl, Nat.le_of_ble_eq_true rfl⟩) (pre_V hK hN hZ hS (va_free hD hS hA [1, 0] rfl) (hP.sub (ws' := [(o_t, .inr (5, [.ref a_t_numbers, .ref a_t_lefts, .ref a_t_falls, .int f_t_lateCorner, .int f_t_earlyCorner])), (a_t_numbers, aI E 192 g_t_numbers)]) [1, 0] rfl) (hD.sub (ws' := [(o_t, .inr (5, [.ref a_t_numbers, .ref a_t_lefts, .ref a_t_falls, .int f_t_lateCorner, .int f_t_earlyCorner])), (a_t_numbers, aI E 192 g_t_numbers)]) [1, 0] (by decide) rfl) (ci := 5) (q0 := 0) rfl rfl) rfl rfl hl.1 rfl (lv_room (Nat.le_of_ble_eq_true rfl)) dX5_lookUp_196 ⟨Nat.le_of_ble_eq_true rfl, Nat.le_of_ble_eq_true rfl⟩) hP hD hS hA [1, 0] [2] (wr := [(a_t_lefts, aI E 64 g_t_lefts)]) rfl rfl (by decide) (by decide) (fun r_241 w H locs hw hP hD hS => ?_)
                  obtain ⟨b_r_241, rfl⟩ := hw
                  replace hP : va_P E.1 vwCl [(a_t_lefts, aI E 64 g_t_lefts), (o_t, .inr (5, [.ref a_t_numbers, .ref a_t_lefts, .ref a_t_falls, .int f_t_lateCorner, .int f_t_earlyCorner])), (a_t_numbers, aI E 192 g_t_numbers)] H := hP
                  replace hD : va_D A [(a_t_lefts, aI E 64 g_t_lefts), (o_t, .inr (5, [.ref a_t_numbers, .ref a_t_lefts, .ref a_t_falls, .int f_t_lateCorner, .int f_t_earlyCorner])), (a_t_numbers, aI E 192 g_t_numbers)] := hD
                  refine lv_imul hx hb dX5_lookUp_199 ?_
                  refine lv_topi (fun x_242 ex_242 => ?_)
                  have bd_243 := i3_bd r_241
                  refine lv_istore (lv' := [(17, .int x_242), (16, .int 1), (15, .int 8), (14, .int r_236), (13, .int 2), (12, .int r_211), (11, .int x_210), (10, .int x_209), (9, .int 2), (8, .int 0), (7, .int x_3), (6, .int x_1), (0, .ref o_t), (1, .int p1), (2, .int p2), (3, .int p3), (4, .int p4), (5, .int p5)]) hx hb dX5_lookUp_200 hl (by decide) rfl (fun ls hl => ?_)
                  refine lv_iload hx hb dX5_lookUp_202 (lv_at hl 7 rfl) ?_
                  refine lv_if_le (tgt := 229) hx hb dX5_lookUp_204 (by decide) (fun c_244 => ?_) (fun c_244 => ?_)
                  · have e_244 : x_209.toInt ≤ 0 := i3_le c_244
                    exfalso; omega
                  · have e_244 : 0 < x_209.toInt := i3_nle c_244
                    refine lv_iload hx hb dX5_lookUp_207 (lv_at hl 0 rfl) ?_
                    refine lv_iload hx hb dX5_lookUp_209 (lv_at hl 7 rfl) ?_
                    refine lv_aload_n hx hb dX5_lookUp_211 rfl (lv_at hl 12 rfl) ?_
                    refine lv_iload hx hb dX5_lookUp_212 (lv_at hl 5 rfl) ?_
                    refine lv_iconst (v := 1) hx hb dX5_lookUp_214 (by decide) ?_
                    refine lv_iadd hx hb dX5_lookUp_215 ?_
                    refine lv_topi (fun x_245 ex_245 => ?_)
                    have hq_x_245 : x_235 = x_245 := ex_235.trans ex_245.symm
                    subst hq_x_245
                    refine lv_iload hx hb dX5_lookUp_216 (lv_at hl 8 rfl) ?_
                    refine lv_iload hx hb dX5_lookUp_218 (lv_at hl 6 rfl) ?_
                    refine lv_iload hx hb dX5_lookUp_220 (lv_at hl 1 rfl) ?_
                    refine call_i (va_runV (As := [.int x_235, .int 2, .int x_210, .int 1]) (rest := [.int x_209, .int x_242]) ⟨hx, hb, hml, hown, hts⟩ (q_weighRow2 l E o_t a_t_numbers a_t_lefts a_t_falls f_t_lateCorner f_t_earlyCorner x_235 2 x_210 1 g_t_numbers r_f_t_lateCorner r_f_t_earlyCorner i_g_t_numbers (RG.mk (by omega)) (RG.mk (by decide)) (RG.mk (by omega)) H.size) (cwV 4 hts g_q_lookUp_q_weighRow2_54 rfl rfl rfl (by decide +kernel) ⟨Nat.le_of_ble_eq_true rfl, Nat.le_of_ble_eq_true rfl⟩) (pre_V hK hN hZ hS (va_free hD hS hA [1, 2] rfl) (hP.sub (ws' := [(o_t, .inr (5, [.ref a_t_numbers, .ref a_t_lefts, .ref a_t_falls, .int f_t_lateCorner, .int f_t_earlyCorner])), (a_t_numbers, aI E 192 g_t_numbers)]) [1, 2] rfl) (hD.sub (ws' := [(o_t, .inr (5, [.ref a_t_numbers, .ref a_t_lefts, .ref a_t_falls, .int f_t_lateCorner, .int f_t_earlyCorner])), (a_t_numbers, aI E 192 g_t_numbers)]) [1, 2] (by decide) rfl) (ci := 5) (q0 := 0) rfl rfl) rfl rfl hl.1 rfl (lv_room (Nat.le_of_ble_eq_true rfl)) dX5_lookUp_222 ⟨Nat.le_of_ble_eq_true rfl, Nat.le_of_ble_eq_true rfl⟩) hP hD hS hA [1, 2] [0] (wr := [(a_t_lefts, aI E 64 g_t_lefts)]) rfl rfl (by decide) (by decide) (fun r_246 w H locs hw hP hD hS => ?_)
                    obtain ⟨b_r_246, rfl⟩ := hw
                    replace hP : va_P E.1 vwCl [(a_t_lefts, aI E 64 g_t_lefts), (o_t, .inr (5, [.ref a_t_numbers, .ref a_t_lefts, .ref a_t_falls, .int f_t_lateCorner, .int f_t_earlyCorner])), (a_t_numbers, aI E 192 g_t_numbers)] H := hP
                    replace hD : va_D A [(a_t_lefts, aI E 64 g_t_lefts), (o_t, .inr (5, [.ref a_t_numbers, .ref a_t_lefts, .ref a_t_falls, .int f_t_lateCorner, .int f_t_earlyCorner])), (a_t_numbers, aI E 192 g_t_numbers)] := hD
                    refine lv_imul hx hb dX5_lookUp_225 ?_
                    refine lv_topi (fun x_247 ex_247 => ?_)
                    have bd_248 := i3_bd r_246
                    refine lv_iadd hx hb dX5_lookUp_226 ?_
                    refine lv_topi (fun x_249 ex_249 => ?_)
                    have bd_250 := i3_bd x_242
                    have bd_251 := i3_bd x_247
                    refine lv_istore (lv' := [(17, .int x_249), (16, .int 1), (15, .int 8), (14, .int r_236), (13, .int 2), (12, .int r_211), (11, .int x_210), (10, .int x_209), (9, .int 2), (8, .int 0), (7, .int x_3), (6, .int x_1), (0, .ref o_t), (1, .int p1), (2, .int p2), (3, .int p3), (4, .int p4), (5, .int p5)]) hx hb dX5_lookUp_227 hl (by decide) rfl (fun ls hl => ?_)
                    refine lv_iload hx hb dX5_lookUp_229 (lv_at hl 2 rfl) ?_
                    refine lv_iload hx hb dX5_lookUp_231 (lv_at hl 1 rfl) ?_
                    refine lv_imul hx hb dX5_lookUp_233 ?_
                    refine lv_cst (y := 8) (by decide) ?_
                    refine lv_istore (lv' := [(18, .int 8), (17, .int x_249), (16, .int 1), (15, .int 8), (14, .int r_236), (13, .int 2), (12, .int r_211), (11, .int x_210), (10, .int x_209), (9, .int 2), (8, .int 0), (7, .int x_3), (6, .int x_1), (0, .ref o_t), (1, .int p1), (2, .int p2), (3, .int p3), (4, .int p4), (5, .int p5)]) hx hb dX5_lookUp_234 hl (by decide) rfl (fun ls hl => ?_)
                    refine lv_iload hx hb dX5_lookUp_236 (lv_at hl 18 rfl) ?_
                    have b_p5 := r_p5.out
                    refine lv_if_eq (tgt := 254) hx hb dX5_lookUp_238 (by decide) (fun c_252 => ?_) (fun c_252 => ?_)
                    · have e_252 : p5.toInt = 0 := i3_eq c_252
                      refine lv_iload hx hb dX5_lookUp_254 (lv_at hl 1 rfl) ?_
                      refine lv_iload hx hb dX5_lookUp_256 (lv_at hl 0 rfl) ?_
                      refine lv_idiv hx hb dX5_lookUp_258 (by decide) ?_
                      refine lv_topi (fun x_253 ex_253 => ?_)
                      have bd_254 := i3_bd x_249
                      exact ret_i hx hb hr hlk (hP.sub (ws' := [(o_t, .inr (5, [.ref a_t_numbers, .ref a_t_lefts, .ref a_t_falls, .int f_t_lateCorner, .int f_t_earlyCorner])), (a_t_lefts, aI E 64 g_t_lefts), (a_t_numbers, aI E 192 g_t_numbers)]) [1, 0, 2] rfl) (hD.sub (ws' := [(o_t, .inr (5, [.ref a_t_numbers, .ref a_t_lefts, .ref a_t_falls, .int f_t_lateCorner, .int f_t_earlyCorner])), (a_t_lefts, aI E 64 g_t_lefts), (a_t_numbers, aI E 192 g_t_numbers)]) [1, 0, 2] (by decide) rfl) hS rfl dX5_lookUp_259 (Nat.le_of_ble_eq_true rfl) (Nat.le_of_ble_eq_true rfl) ⟨trivial, rfl⟩
                    · have e_252 : p5.toInt ≠ 0 := i3_ne c_252
                      refine lv_iload hx hb dX5_lookUp_241 (lv_at hl 1 rfl) ?_
                      refine lv_iload hx hb dX5_lookUp_243 (lv_at hl 0 rfl) ?_
                      refine lv_iadd hx hb dX5_lookUp_245 ?_
                      refine lv_topi (fun x_255 ex_255 => ?_)
                      have bd_256 := i3_bd x_249
                      refine lv_iconst (v := 1) hx hb dX5_lookUp_246 (by decide) ?_
                      refine lv_isub hx hb dX5_lookUp_247 ?_
                      refine lv_topi (fun x_257 ex_257 => ?_)
                      have bd_258 := i3_bd x_255
                      refine lv_iload hx hb dX5_lookUp_248 (lv_at hl 0 rfl) ?_
                      refine lv_idiv hx hb dX5_lookUp_250 (by decide) ?_
                      refine lv_topi (fun x_259 ex_259 => ?_)
                      have bd_260 := i3_bd x_257
                      refine lv_goto (tgt := 259) hx hb dX5_lookUp_251 (by decide) ?_
                      exact ret_i hx hb hr hlk (hP.sub (ws' := [(o_t, .inr (5, [.ref a_t_numbers, .ref a_t_lefts, .ref a_t_falls, .int f_t_lateCorner, .int f_t_earlyCorner])), (a_t_lefts, aI E 64 g_t_lefts), (a_t_numbers, aI E 192 g_t_numbers)]) [1, 0, 2] rfl) (hD.sub (ws' := [(o_t, .inr (5, [.ref a_t_numbers, .ref a_t_lefts, .ref a_t_falls, .int f_t_lateCorner, .int f_t_earlyCorner])), (a_t_lefts, aI E 64 g_t_lefts), (a_t_numbers, aI E 192 g_t_numbers)]) [1, 0, 2] (by decide) rfl) hS rfl dX5_lookUp_259 (Nat.le_of_ble_eq_true rfl) (Nat.le_of_ble_eq_true rfl) ⟨trivial, rfl⟩
                · have e_239 : 0 < x_210.toInt := i3_nle c_239
                  exfalso; omega
            · have e_237 : r_236.toInt ≠ 0 := i3_ne c_237
              refine lv_iload hx hb dX5_lookUp_127 (lv_at hl 0 rfl) ?_
              exact ret_i hx hb hr hlk (hP.sub (ws' := [(o_t, .inr (5, [.ref a_t_numbers, .ref a_t_lefts, .ref a_t_falls, .int f_t_lateCorner, .int f_t_earlyCorner])), (a_t_lefts, aI E 64 g_t_lefts), (a_t_numbers, aI E 192 g_t_numbers)]) [1, 2, 0] rfl) (hD.sub (ws' := [(o_t, .inr (5, [.ref a_t_numbers, .ref a_t_lefts, .ref a_t_falls, .int f_t_lateCorner, .int f_t_earlyCorner])), (a_t_lefts, aI E 64 g_t_lefts), (a_t_numbers, aI E 192 g_t_numbers)]) [1, 2, 0] (by decide) rfl) hS rfl dX5_lookUp_129 (Nat.le_of_ble_eq_true rfl) (Nat.le_of_ble_eq_true rfl) ⟨trivial, rfl⟩
      · have e_212 : 0 < x_210.toInt := i3_nle c_212
        exfalso; omega
  · have hs_h_7 := i3_cs (c := 1) h_7 (by decide)
    subst hs_h_7
    have hk_h_7 : (1 : Int32).toInt = 1 := rfl
    rcases (show r_6.toInt = 0 ∨ r_6.toInt = 1 ∨ r_6.toInt = 2 by omega) with h_261 | h_261 | h_261
    · have hs_h_261 := i3_cs (c := 0) h_261 (by decide)
      subst hs_h_261
      have hk_h_261 : (0 : Int32).toInt = 0 := rfl
      refine lv_iload hx hb dX5_lookUp_43 (lv_at hl 3 rfl) ?_
      refine va_gets (C := "TimingHouse$Tables") (n := "LOAD_MARKS") (d := "[I") (own := RX5) (ref := "TimingHouse$Tables") hx hb hZ.1.1 hS hown (hto (.fieldLink RX5 31 "TimingHouse$Tables" "LOAD_MARKS" "[I") (by decide +kernel)) (fun _ h9 => h9) dX5_lookUp_45 ?_
      refine lv_iload hx hb dX5_lookUp_48 (lv_at hl 1 rfl) ?_
      refine va_ti (v := .int 8) hx hb hZ.1.2 hS (i3_in (by decide)) rfl dX5_lookUp_50 ?_
      refine lv_isub hx hb dX5_lookUp_51 ?_
      refine lv_topi (fun x_262 ex_262 => ?_)
      have tx_262 : x_262.toInt = x_1.toInt - 8 := i3_subc rfl rfl ex_262 (by omega)
      refine lv_istore (lv' := [(10, .int x_262), (9, .int 0), (8, .int 1), (7, .int x_3), (6, .int x_1), (0, .ref o_t), (1, .int p1), (2, .int p2), (3, .int p3), (4, .int p4), (5, .int p5)]) hx hb dX5_lookUp_52 hl (by decide) rfl (fun ls hl => ?_)
      refine lv_iload hx hb dX5_lookUp_54 (lv_at hl 3 rfl) ?_
      refine va_gets (C := "TimingHouse$Tables") (n := "SLOPE_MARKS") (d := "[I") (own := RX5) (ref := "TimingHouse$Tables") hx hb hZ.2.1.1 hS hown (hto (.fieldLink RX5 40 "TimingHouse$Tables" "SLOPE_MARKS" "[I") (by decide +kernel)) (fun _ h9 => h9) dX5_lookUp_56 ?_
      refine lv_iload hx hb dX5_lookUp_59 (lv_at hl 1 rfl) ?_
      refine va_ti (v := .int 0) hx hb hZ.2.1.2 hS (i3_in (by decide)) rfl dX5_lookUp_61 ?_
      refine lv_isub hx hb dX5_lookUp_62 ?_
      refine lv_topi (fun x_263 ex_263 => ?_)
      have tx_263 : x_263.toInt = x_3.toInt - 0 := i3_subc rfl rfl ex_263 (by omega)
      refine lv_istore (lv' := [(11, .int x_263), (10, .int x_262), (9, .int 0), (8, .int 1), (7, .int x_3), (6, .int x_1), (0, .ref o_t), (1, .int p1), (2, .int p2), (3, .int p3), (4, .int p4), (5, .int p5)]) hx hb dX5_lookUp_63 hl (by decide) rfl (fun ls hl => ?_)
      refine lv_iload_n hx hb dX5_lookUp_65 rfl (lv_at hl 7 rfl) ?_
      refine lv_iload_n hx hb dX5_lookUp_66 rfl (lv_at hl 8 rfl) ?_
      refine lv_iload hx hb dX5_lookUp_67 (lv_at hl 3 rfl) ?_
      have b_p1 := r_p1.out
      have b_p2 := r_p2.out
      refine call_i (va_runS (As := [.int p1, .int p2, .int 1]) (rest := []) ⟨hx, hb, hml, hown, hts⟩ (q_rowPlace l E p1 p2 1 r_p1 r_p2 (RG.mk (by decide)) H.size) (va_cwS 3 hts g_q_lookUp_q_rowPlace_47 rfl rfl rfl (by decide +kernel) ⟨Nat.le_of_ble_eq_true rfl, Nat.le_of_ble_eq_true rfl⟩) (pre_S hK hN hZ hS (va_free hD hS hA [] rfl) (hP.sub (ws' := []) [] rfl) (hD.sub (ws' := []) [] (by decide) rfl)) rfl rfl hl.1 rfl (lv_room (Nat.le_of_ble_eq_true rfl)) dX5_lookUp_69 ⟨Nat.le_of_ble_eq_true rfl, Nat.le_of_ble_eq_true rfl⟩) hP hD hS hA [] [0, 1, 2] (wr := [(o_t, .inr (5, [.ref a_t_numbers, .ref a_t_lefts, .ref a_t_falls, .int f_t_lateCorner, .int f_t_earlyCorner])), (a_t_lefts, aI E 64 g_t_lefts), (a_t_numbers, aI E 192 g_t_numbers)]) rfl rfl (by decide) (by decide) (fun r_264 w H locs hw hP hD hS => ?_)
      obtain ⟨b_r_264, l_r_264, rfl⟩ := hw
      replace l_r_264 : r_264.toInt = (p1.toInt * 2 + p2.toInt) * 4 + 1 := l_r_264
      replace hP : va_P E.1 vwCl [(o_t, .inr (5, [.ref a_t_numbers, .ref a_t_lefts, .ref a_t_falls, .int f_t_lateCorner, .int f_t_earlyCorner])), (a_t_lefts, aI E 64 g_t_lefts), (a_t_numbers, aI E 192 g_t_numbers)] H := hP
      replace hD : va_D A [(o_t, .inr (5, [.ref a_t_numbers, .ref a_t_lefts, .ref a_t_falls, .int f_t_lateCorner, .int f_t_earlyCorner])), (a_t_lefts, aI E 64 g_t_lefts), (a_t_numbers, aI E 192 g_t_numbers)] := hD
      refine lv_istore (lv' := [(12, .int r_264), (11, .int x_263), (10, .int x_262), (9, .int 0), (8, .int 1), (7, .int x_3), (6, .int x_1), (0, .ref o_t), (1, .int p1), (2, .int p2), (3, .int p3), (4, .int p4), (5, .int p5)]) hx hb dX5_lookUp_72 hl (by decide) rfl (fun ls hl => ?_)
      refine lv_iload hx hb dX5_lookUp_74 (lv_at hl 1 rfl) ?_
      refine lv_if_le (tgt := 86) hx hb dX5_lookUp_76 (by decide) (fun c_265 => ?_) (fun c_265 => ?_)
      · have e_265 : x_263.toInt ≤ 0 := i3_le c_265
        refine lv_iload hx hb dX5_lookUp_86 (lv_at hl 3 rfl) ?_
        refine lv_istore (lv' := [(13, .int 0), (12, .int r_264), (11, .int x_263), (10, .int x_262), (9, .int 0), (8, .int 1), (7, .int x_3), (6, .int x_1), (0, .ref o_t), (1, .int p1), (2, .int p2), (3, .int p3), (4, .int p4), (5, .int p5)]) hx hb dX5_lookUp_88 hl (by decide) rfl (fun ls hl => ?_)
        refine lv_aload_n hx hb dX5_lookUp_90 rfl (lv_at hl 8 rfl) ?_
        refine lv_iload hx hb dX5_lookUp_91 (lv_at hl 1 rfl) ?_
        refine lv_iload hx hb dX5_lookUp_93 (lv_at hl 0 rfl) ?_
        refine call_i (va_runV (As := [.int r_264, .int 0]) (rest := []) ⟨hx, hb, hml, hown, hts⟩ (q_whyAbsent l E o_t a_t_numbers a_t_lefts a_t_falls f_t_lateCorner f_t_earlyCorner r_264 0 g_t_lefts r_f_t_lateCorner r_f_t_earlyCorner i_g_t_lefts (RG.mk (by omega)) H.size) (cwV 2 hts g_q_lookUp_q_whyAbsent_51 rfl rfl rfl (by decide +kernel) ⟨Nat.le_of_ble_eq_true rfl, Nat.le_of_ble_eq_true rfl⟩) (pre_V hK hN hZ hS (va_free hD hS hA [0, 1] rfl) (hP.sub (ws' := [(o_t, .inr (5, [.ref a_t_numbers, .ref a_t_lefts, .ref a_t_falls, .int f_t_lateCorner, .int f_t_earlyCorner])), (a_t_lefts, aI E 64 g_t_lefts)]) [0, 1] rfl) (hD.sub (ws' := [(o_t, .inr (5, [.ref a_t_numbers, .ref a_t_lefts, .ref a_t_falls, .int f_t_lateCorner, .int f_t_earlyCorner])), (a_t_lefts, aI E 64 g_t_lefts)]) [0, 1] (by decide) rfl) (ci := 5) (q0 := 0) rfl rfl) rfl rfl hl.1 rfl (lv_room (Nat.le_of_ble_eq_true rfl)) dX5_lookUp_95 ⟨Nat.le_of_ble_eq_true rfl, Nat.le_of_ble_eq_true rfl⟩) hP hD hS hA [0, 1] [2] (wr := [(a_t_numbers, aI E 192 g_t_numbers)]) rfl rfl (by decide) (by decide) (fun r_266 w H locs hw hP hD hS => ?_)
        obtain ⟨b_r_266, rfl⟩ := hw
        replace hP : va_P E.1 vwCl [(a_t_numbers, aI E 192 g_t_numbers), (o_t, .inr (5, [.ref a_t_numbers, .ref a_t_lefts, .ref a_t_falls, .int f_t_lateCorner, .int f_t_earlyCorner])), (a_t_lefts, aI E 64 g_t_lefts)] H := hP
        replace hD : va_D A [(a_t_numbers, aI E 192 g_t_numbers), (o_t, .inr (5, [.ref a_t_numbers, .ref a_t_lefts, .ref a_t_falls, .int f_t_lateCorner, .int f_t_earlyCorner])), (a_t_lefts, aI E 64 g_t_lefts)] := hD
        refine lv_istore (lv' := [(14, .int r_266), (13, .int 0), (12, .int r_264), (11, .int x_263), (10, .int x_262), (9, .int 0), (8, .int 1), (7, .int x_3), (6, .int x_1), (0, .ref o_t), (1, .int p1), (2, .int p2), (3, .int p3), (4, .int p4), (5, .int p5)]) hx hb dX5_lookUp_98 hl (by decide) rfl (fun ls hl => ?_)
        refine lv_iload hx hb dX5_lookUp_100 (lv_at hl 0 rfl) ?_
        refine lv_if_ne (tgt := 122) hx hb dX5_lookUp_102 (by decide) (fun c_267 => ?_) (fun c_267 => ?_)
        · have e_267 : r_266.toInt ≠ 0 := i3_ne c_267
          refine lv_iload hx hb dX5_lookUp_122 (lv_at hl 0 rfl) ?_
          refine lv_if_eq (tgt := 130) hx hb dX5_lookUp_124 (by decide) (fun c_268 => ?_) (fun c_268 => ?_)
          · have e_268 : r_266.toInt = 0 := i3_eq c_268
            exfalso; omega
          · have e_268 : r_266.toInt ≠ 0 := i3_ne c_268
            refine lv_iload hx hb dX5_lookUp_127 (lv_at hl 0 rfl) ?_
            exact ret_i hx hb hr hlk (hP.sub (ws' := [(o_t, .inr (5, [.ref a_t_numbers, .ref a_t_lefts, .ref a_t_falls, .int f_t_lateCorner, .int f_t_earlyCorner])), (a_t_lefts, aI E 64 g_t_lefts), (a_t_numbers, aI E 192 g_t_numbers)]) [1, 2, 0] rfl) (hD.sub (ws' := [(o_t, .inr (5, [.ref a_t_numbers, .ref a_t_lefts, .ref a_t_falls, .int f_t_lateCorner, .int f_t_earlyCorner])), (a_t_lefts, aI E 64 g_t_lefts), (a_t_numbers, aI E 192 g_t_numbers)]) [1, 2, 0] (by decide) rfl) hS rfl dX5_lookUp_129 (Nat.le_of_ble_eq_true rfl) (Nat.le_of_ble_eq_true rfl) ⟨trivial, rfl⟩
        · have e_267 : r_266.toInt = 0 := i3_eq c_267
          refine lv_iload hx hb dX5_lookUp_105 (lv_at hl 4 rfl) ?_
          refine lv_if_le (tgt := 122) hx hb dX5_lookUp_107 (by decide) (fun c_269 => ?_) (fun c_269 => ?_)
          · have e_269 : x_262.toInt ≤ 0 := i3_le c_269
            refine lv_iload hx hb dX5_lookUp_122 (lv_at hl 0 rfl) ?_
            refine lv_if_eq (tgt := 130) hx hb dX5_lookUp_124 (by decide) (fun c_270 => ?_) (fun c_270 => ?_)
            · have e_270 : r_266.toInt = 0 := i3_eq c_270
              refine lv_iload hx hb dX5_lookUp_130 (lv_at hl 4 rfl) ?_
              refine lv_if_le (tgt := 153) hx hb dX5_lookUp_132 (by decide) (fun c_271 => ?_) (fun c_271 => ?_)
              · have e_271 : x_262.toInt ≤ 0 := i3_le c_271
                refine lv_iconst (v := 1) hx hb dX5_lookUp_153 (by decide) ?_
                refine lv_istore (lv' := [(15, .int 1), (14, .int r_266), (13, .int 0), (12, .int r_264), (11, .int x_263), (10, .int x_262), (9, .int 0), (8, .int 1), (7, .int x_3), (6, .int x_1), (0, .ref o_t), (1, .int p1), (2, .int p2), (3, .int p3), (4, .int p4), (5, .int p5)]) hx hb dX5_lookUp_154 hl (by decide) rfl (fun ls hl => ?_)
                refine lv_iload hx hb dX5_lookUp_156 (lv_at hl 4 rfl) ?_
                refine lv_if_le (tgt := 179) hx hb dX5_lookUp_158 (by decide) (fun c_272 => ?_) (fun c_272 => ?_)
                · have e_272 : x_263.toInt ≤ 0 := i3_le c_272
                  refine lv_iconst (v := 1) hx hb dX5_lookUp_179 (by decide) ?_
                  refine lv_istore (lv' := [(16, .int 1), (15, .int 1), (14, .int r_266), (13, .int 0), (12, .int r_264), (11, .int x_263), (10, .int x_262), (9, .int 0), (8, .int 1), (7, .int x_3), (6, .int x_1), (0, .ref o_t), (1, .int p1), (2, .int p2), (3, .int p3), (4, .int p4), (5, .int p5)]) hx hb dX5_lookUp_180 hl (by decide) rfl (fun ls hl => ?_)
                  refine lv_iload hx hb dX5_lookUp_182 (lv_at hl 1 rfl) ?_
                  refine lv_iload hx hb dX5_lookUp_184 (lv_at hl 6 rfl) ?_
                  refine lv_isub hx hb dX5_lookUp_186 ?_
                  refine lv_topi (fun x_273 ex_273 => ?_)
                  have tx_273 : x_273.toInt = 1 - x_262.toInt := i3_subc rfl rfl ex_273 (by omega)
                  refine lv_aload_n hx hb dX5_lookUp_187 rfl (lv_at hl 11 rfl) ?_
                  refine lv_iload hx hb dX5_lookUp_188 (lv_at hl 4 rfl) ?_
                  refine lv_iload hx hb dX5_lookUp_190 (lv_at hl 7 rfl) ?_
                  refine lv_iload hx hb dX5_lookUp_192 (lv_at hl 5 rfl) ?_
                  refine lv_iload hx hb dX5_lookUp_194 (lv_at hl 0 rfl) ?_
                  refine call_i (va_runV (As := [.int r_264, .int 0, .int x_263, .int 1]) (rest := [.int x_273]) ⟨hx, hb, hml, hown, hts⟩ (q_weighRow1 l E o_t a_t_numbers a_t_lefts a_t_falls f_t_lateCorner f_t_earlyCorner r_264 0 x_263 1 g_t_numbers r_f_t_lateCorner r_f_t_earlyCorner i_g_t_numbers (RG.mk (by omega)) (RG.mk (by decide)) H.size) (cwV 4 hts g_q_lookUp_q_weighRow1_54 rfl rfl rfl (by decide +kernel) ⟨Nat.le_of_ble_eq_true rfl, Nat.le_of_ble_eq_true rfl⟩) (pre_V hK hN hZ hS (va_free hD hS hA [1, 0] rfl) (hP.sub (ws' := [(o_t, .inr (5, [.ref a_t_numbers, .ref a_t_lefts, .ref a_t_falls, .int f_t_lateCorner, .int f_t_earlyCorner])), (a_t_numbers, aI E 192 g_t_numbers)]) [1, 0] rfl) (hD.sub (ws' := [(o_t, .inr (5, [.ref a_t_numbers, .ref a_t_lefts, .ref a_t_falls, .int f_t_lateCorner, .int f_t_earlyCorner])), (a_t_numbers, aI E 192 g_t_numbers)]) [1, 0] (by decide) rfl) (ci := 5) (q0 := 0) rfl rfl) rfl rfl hl.1 rfl (lv_room (Nat.le_of_ble_eq_true rfl)) dX5_lookUp_196 ⟨Nat.le_of_ble_eq_true rfl, Nat.le_of_ble_eq_true rfl⟩) hP hD hS hA [1, 0] [2] (wr := [(a_t_lefts, aI E 64 g_t_lefts)]) rfl rfl (by decide) (by decide) (fun r_274 w H locs hw hP hD hS => ?_)
                  obtain ⟨b_r_274, rfl⟩ := hw
                  replace hP : va_P E.1 vwCl [(a_t_lefts, aI E 64 g_t_lefts), (o_t, .inr (5, [.ref a_t_numbers, .ref a_t_lefts, .ref a_t_falls, .int f_t_lateCorner, .int f_t_earlyCorner])), (a_t_numbers, aI E 192 g_t_numbers)] H := hP
                  replace hD : va_D A [(a_t_lefts, aI E 64 g_t_lefts), (o_t, .inr (5, [.ref a_t_numbers, .ref a_t_lefts, .ref a_t_falls, .int f_t_lateCorner, .int f_t_earlyCorner])), (a_t_numbers, aI E 192 g_t_numbers)] := hD
                  refine lv_imul hx hb dX5_lookUp_199 ?_
                  refine lv_topi (fun x_275 ex_275 => ?_)
                  have bd_276 := i3_bd r_274
                  refine lv_istore (lv' := [(17, .int x_275), (16, .int 1), (15, .int 1), (14, .int r_266), (13, .int 0), (12, .int r_264), (11, .int x_263), (10, .int x_262), (9, .int 0), (8, .int 1), (7, .int x_3), (6, .int x_1), (0, .ref o_t), (1, .int p1), (2, .int p2), (3, .int p3), (4, .int p4), (5, .int p5)]) hx hb dX5_lookUp_200 hl (by decide) rfl (fun ls hl => ?_)
                  refine lv_iload hx hb dX5_lookUp_202 (lv_at hl 7 rfl) ?_
                  refine lv_if_le (tgt := 229) hx hb dX5_lookUp_204 (by decide) (fun c_277 => ?_) (fun c_277 => ?_)
                  · have e_277 : x_262.toInt ≤ 0 := i3_le c_277
                    refine lv_iload hx hb dX5_lookUp_229 (lv_at hl 2 rfl) ?_
                    refine lv_iload hx hb dX5_lookUp_231 (lv_at hl 1 rfl) ?_
                    refine lv_imul hx hb dX5_lookUp_233 ?_
                    refine lv_cst (y := 1) (by decide) ?_
                    refine lv_istore (lv' := [(18, .int 1), (17, .int x_275), (16, .int 1), (15, .int 1), (14, .int r_266), (13, .int 0), (12, .int r_264), (11, .int x_263), (10, .int x_262), (9, .int 0), (8, .int 1), (7, .int x_3), (6, .int x_1), (0, .ref o_t), (1, .int p1), (2, .int p2), (3, .int p3), (4, .int p4), (5, .int p5)]) hx hb dX5_lookUp_234 hl (by decide) rfl (fun ls hl => ?_)
                    refine lv_iload hx hb dX5_lookUp_236 (lv_at hl 18 rfl) ?_
                    have b_p5 := r_p5.out
                    refine lv_if_eq (tgt := 254) hx hb dX5_lookUp_238 (by decide) (fun c_278 => ?_) (fun c_278 => ?_)
                    · have e_278 : p5.toInt = 0 := i3_eq c_278
                      refine lv_iload hx hb dX5_lookUp_254 (lv_at hl 1 rfl) ?_
                      refine lv_iload hx hb dX5_lookUp_256 (lv_at hl 0 rfl) ?_
                      refine lv_idiv hx hb dX5_lookUp_258 (by decide) ?_
                      refine lv_topi (fun x_279 ex_279 => ?_)
                      have bd_280 := i3_bd x_275
                      exact ret_i hx hb hr hlk (hP.sub (ws' := [(o_t, .inr (5, [.ref a_t_numbers, .ref a_t_lefts, .ref a_t_falls, .int f_t_lateCorner, .int f_t_earlyCorner])), (a_t_lefts, aI E 64 g_t_lefts), (a_t_numbers, aI E 192 g_t_numbers)]) [1, 0, 2] rfl) (hD.sub (ws' := [(o_t, .inr (5, [.ref a_t_numbers, .ref a_t_lefts, .ref a_t_falls, .int f_t_lateCorner, .int f_t_earlyCorner])), (a_t_lefts, aI E 64 g_t_lefts), (a_t_numbers, aI E 192 g_t_numbers)]) [1, 0, 2] (by decide) rfl) hS rfl dX5_lookUp_259 (Nat.le_of_ble_eq_true rfl) (Nat.le_of_ble_eq_true rfl) ⟨trivial, rfl⟩
                    · have e_278 : p5.toInt ≠ 0 := i3_ne c_278
                      refine lv_iload hx hb dX5_lookUp_241 (lv_at hl 1 rfl) ?_
                      refine lv_iload hx hb dX5_lookUp_243 (lv_at hl 0 rfl) ?_
                      refine lv_iadd hx hb dX5_lookUp_245 ?_
                      refine lv_topi (fun x_281 ex_281 => ?_)
                      have bd_282 := i3_bd x_275
                      refine lv_iconst (v := 1) hx hb dX5_lookUp_246 (by decide) ?_
                      refine lv_isub hx hb dX5_lookUp_247 ?_
                      refine lv_topi (fun x_283 ex_283 => ?_)
                      have bd_284 := i3_bd x_281
                      refine lv_iload hx hb dX5_lookUp_248 (lv_at hl 0 rfl) ?_
                      refine lv_idiv hx hb dX5_lookUp_250 (by decide) ?_
                      refine lv_topi (fun x_285 ex_285 => ?_)
                      have bd_286 := i3_bd x_283
                      refine lv_goto (tgt := 259) hx hb dX5_lookUp_251 (by decide) ?_
                      exact ret_i hx hb hr hlk (hP.sub (ws' := [(o_t, .inr (5, [.ref a_t_numbers, .ref a_t_lefts, .ref a_t_falls, .int f_t_lateCorner, .int f_t_earlyCorner])), (a_t_lefts, aI E 64 g_t_lefts), (a_t_numbers, aI E 192 g_t_numbers)]) [1, 0, 2] rfl) (hD.sub (ws' := [(o_t, .inr (5, [.ref a_t_numbers, .ref a_t_lefts, .ref a_t_falls, .int f_t_lateCorner, .int f_t_earlyCorner])), (a_t_lefts, aI E 64 g_t_lefts), (a_t_numbers, aI E 192 g_t_numbers)]) [1, 0, 2] (by decide) rfl) hS rfl dX5_lookUp_259 (Nat.le_of_ble_eq_true rfl) (Nat.le_of_ble_eq_true rfl) ⟨trivial, rfl⟩
                  · have e_277 : 0 < x_262.toInt := i3_nle c_277
                    exfalso; omega
                · have e_272 : 0 < x_263.toInt := i3_nle c_272
                  exfalso; omega
              · have e_271 : 0 < x_262.toInt := i3_nle c_271
                exfalso; omega
            · have e_270 : r_266.toInt ≠ 0 := i3_ne c_270
              exfalso; omega
          · have e_269 : 0 < x_262.toInt := i3_nle c_269
            refine lv_aload_n hx hb dX5_lookUp_110 rfl (lv_at hl 9 rfl) ?_
            refine lv_iload hx hb dX5_lookUp_111 (lv_at hl 2 rfl) ?_
            refine lv_iconst (v := 1) hx hb dX5_lookUp_113 (by decide) ?_
            refine lv_iadd hx hb dX5_lookUp_114 ?_
            refine lv_topi (fun x_287 ex_287 => ?_)
            have tx_287 : x_287.toInt = r_264.toInt + 1 := i3_addc rfl rfl ex_287 (by omega)
            refine lv_iload hx hb dX5_lookUp_115 (lv_at hl 1 rfl) ?_
            refine call_i (va_runV (As := [.int x_287, .int 0]) (rest := []) ⟨hx, hb, hml, hown, hts⟩ (q_whyAbsent l E o_t a_t_numbers a_t_lefts a_t_falls f_t_lateCorner f_t_earlyCorner x_287 0 g_t_lefts r_f_t_lateCorner r_f_t_earlyCorner i_g_t_lefts (RG.mk (by omega)) H.size) (cwV 2 hts g_q_lookUp_q_whyAbsent_51 rfl rfl rfl (by decide +kernel) ⟨Nat.le_of_ble_eq_true rfl, Nat.le_of_ble_eq_true rfl⟩) (pre_V hK hN hZ hS (va_free hD hS hA [1, 2] rfl) (hP.sub (ws' := [(o_t, .inr (5, [.ref a_t_numbers, .ref a_t_lefts, .ref a_t_falls, .int f_t_lateCorner, .int f_t_earlyCorner])), (a_t_lefts, aI E 64 g_t_lefts)]) [1, 2] rfl) (hD.sub (ws' := [(o_t, .inr (5, [.ref a_t_numbers, .ref a_t_lefts, .ref a_t_falls, .int f_t_lateCorner, .int f_t_earlyCorner])), (a_t_lefts, aI E 64 g_t_lefts)]) [1, 2] (by decide) rfl) (ci := 5) (q0 := 0) rfl rfl) rfl rfl hl.1 rfl (lv_room (Nat.le_of_ble_eq_true rfl)) dX5_lookUp_117 ⟨Nat.le_of_ble_eq_true rfl, Nat.le_of_ble_eq_true rfl⟩) hP hD hS hA [1, 2] [0] (wr := [(a_t_numbers, aI E 192 g_t_numbers)]) rfl rfl (by decide) (by decide) (fun r_288 w H locs hw hP hD hS => ?_)
            obtain ⟨b_r_288, rfl⟩ := hw
            replace hP : va_P E.1 vwCl [(a_t_numbers, aI E 192 g_t_numbers), (o_t, .inr (5, [.ref a_t_numbers, .ref a_t_lefts, .ref a_t_falls, .int f_t_lateCorner, .int f_t_earlyCorner])), (a_t_lefts, aI E 64 g_t_lefts)] H := hP
            replace hD : va_D A [(a_t_numbers, aI E 192 g_t_numbers), (o_t, .inr (5, [.ref a_t_numbers, .ref a_t_lefts, .ref a_t_falls, .int f_t_lateCorner, .int f_t_earlyCorner])), (a_t_lefts, aI E 64 g_t_lefts)] := hD
            refine lv_istore (lv' := [(14, .int r_288), (13, .int 0), (12, .int r_264), (11, .int x_263), (10, .int x_262), (9, .int 0), (8, .int 1), (7, .int x_3), (6, .int x_1), (0, .ref o_t), (1, .int p1), (2, .int p2), (3, .int p3), (4, .int p4), (5, .int p5)]) hx hb dX5_lookUp_120 hl (by decide) rfl (fun ls hl => ?_)
            refine lv_iload hx hb dX5_lookUp_122 (lv_at hl 0 rfl) ?_
            refine lv_if_eq (tgt := 130) hx hb dX5_lookUp_124 (by decide) (fun c_289 => ?_) (fun c_289 => ?_)
            · have e_289 : r_288.toInt = 0 := i3_eq c_289
              refine lv_iload hx hb dX5_lookUp_130 (lv_at hl 4 rfl) ?_
              refine lv_if_le (tgt := 153) hx hb dX5_lookUp_132 (by decide) (fun c_290 => ?_) (fun c_290 => ?_)
              · have e_290 : x_262.toInt ≤ 0 := i3_le c_290
                exfalso; omega
              · have e_290 : 0 < x_262.toInt := i3_nle c_290
                refine va_gets (C := "TimingHouse$Tables") (n := "LOAD_MARKS") (d := "[I") (own := RX5) (ref := "TimingHouse$Tables") hx hb hZ.1.1 hS hown (hto (.fieldLink RX5 31 "TimingHouse$Tables" "LOAD_MARKS" "[I") (by decide +kernel)) (fun _ h9 => h9) dX5_lookUp_135 ?_
                refine lv_iload hx hb dX5_lookUp_138 (lv_at hl 6 rfl) ?_
                refine lv_iconst (v := 1) hx hb dX5_lookUp_140 (by decide) ?_
                refine lv_iadd hx hb dX5_lookUp_141 ?_
                refine lv_cst (y := 2) (by decide) ?_
                refine va_ti (v := .int 24) hx hb hZ.1.2 hS (i3_in (by decide)) rfl dX5_lookUp_142 ?_
                refine va_gets (C := "TimingHouse$Tables") (n := "LOAD_MARKS") (d := "[I") (own := RX5) (ref := "TimingHouse$Tables") hx hb hZ.1.1 hS hown (hto (.fieldLink RX5 31 "TimingHouse$Tables" "LOAD_MARKS" "[I") (by decide +kernel)) (fun _ h9 => h9) dX5_lookUp_143 ?_
                refine lv_iload hx hb dX5_lookUp_146 (lv_at hl 6 rfl) ?_
                refine va_ti (v := .int 8) hx hb hZ.1.2 hS (i3_in (by decide)) rfl dX5_lookUp_148 ?_
                refine lv_isub hx hb dX5_lookUp_149 ?_
                refine lv_cst (y := 16) (by decide) ?_
                refine lv_goto (tgt := 154) hx hb dX5_lookUp_150 (by decide) ?_
                refine lv_istore (lv' := [(15, .int 16), (14, .int r_288), (13, .int 0), (12, .int r_264), (11, .int x_263), (10, .int x_262), (9, .int 0), (8, .int 1), (7, .int x_3), (6, .int x_1), (0, .ref o_t), (1, .int p1), (2, .int p2), (3, .int p3), (4, .int p4), (5, .int p5)]) hx hb dX5_lookUp_154 hl (by decide) rfl (fun ls hl => ?_)
                refine lv_iload hx hb dX5_lookUp_156 (lv_at hl 4 rfl) ?_
                refine lv_if_le (tgt := 179) hx hb dX5_lookUp_158 (by decide) (fun c_291 => ?_) (fun c_291 => ?_)
                · have e_291 : x_263.toInt ≤ 0 := i3_le c_291
                  refine lv_iconst (v := 1) hx hb dX5_lookUp_179 (by decide) ?_
                  refine lv_istore (lv' := [(16, .int 1), (15, .int 16), (14, .int r_288), (13, .int 0), (12, .int r_264), (11, .int x_263), (10, .int x_262), (9, .int 0), (8, .int 1), (7, .int x_3), (6, .int x_1), (0, .ref o_t), (1, .int p1), (2, .int p2), (3, .int p3), (4, .int p4), (5, .int p5)]) hx hb dX5_lookUp_180 hl (by decide) rfl (fun ls hl => ?_)
                  refine lv_iload hx hb dX5_lookUp_182 (lv_at hl 1 rfl) ?_
                  refine lv_iload hx hb dX5_lookUp_184 (lv_at hl 6 rfl) ?_
                  refine lv_isub hx hb dX5_lookUp_186 ?_
                  refine lv_topi (fun x_292 ex_292 => ?_)
                  have tx_292 : x_292.toInt = 16 - x_262.toInt := i3_subc rfl rfl ex_292 (by omega)
                  refine lv_aload_n hx hb dX5_lookUp_187 rfl (lv_at hl 11 rfl) ?_
                  refine lv_iload hx hb dX5_lookUp_188 (lv_at hl 4 rfl) ?_
                  refine lv_iload hx hb dX5_lookUp_190 (lv_at hl 7 rfl) ?_
                  refine lv_iload hx hb dX5_lookUp_192 (lv_at hl 5 rfl) ?_
                  refine lv_iload hx hb dX5_lookUp_194 (lv_at hl 0 rfl) ?_
                  refine call_i (va_runV (As := [.int r_264, .int 0, .int x_263, .int 1]) (rest := [.int x_292]) ⟨hx, hb, hml, hown, hts⟩ (q_weighRow1 l E o_t a_t_numbers a_t_lefts a_t_falls f_t_lateCorner f_t_earlyCorner r_264 0 x_263 1 g_t_numbers r_f_t_lateCorner r_f_t_earlyCorner i_g_t_numbers (RG.mk (by omega)) (RG.mk (by decide)) H.size) (cwV 4 hts g_q_lookUp_q_weighRow1_54 rfl rfl rfl (by decide +kernel) ⟨Nat.le_of_ble_eq_true rfl, Nat.le_of_ble_eq_true rfl⟩) (pre_V hK hN hZ hS (va_free hD hS hA [1, 0] rfl) (hP.sub (ws' := [(o_t, .inr (5, [.ref a_t_numbers, .ref a_t_lefts, .ref a_t_falls, .int f_t_lateCorner, .int f_t_earlyCorner])), (a_t_numbers, aI E 192 g_t_numbers)]) [1, 0] rfl) (hD.sub (ws' := [(o_t, .inr (5, [.ref a_t_numbers, .ref a_t_lefts, .ref a_t_falls, .int f_t_lateCorner, .int f_t_earlyCorner])), (a_t_numbers, aI E 192 g_t_numbers)]) [1, 0] (by decide) rfl) (ci := 5) (q0 := 0) rfl rfl) rfl rfl hl.1 rfl (lv_room (Nat.le_of_ble_eq_true rfl)) dX5_lookUp_196 ⟨Nat.le_of_ble_eq_true rfl, Nat.le_of_ble_eq_true rfl⟩) hP hD hS hA [1, 0] [2] (wr := [(a_t_lefts, aI E 64 g_t_lefts)]) rfl rfl (by decide) (by decide) (fun r_293 w H locs hw hP hD hS => ?_)
                  obtain ⟨b_r_293, rfl⟩ := hw
                  replace hP : va_P E.1 vwCl [(a_t_lefts, aI E 64 g_t_lefts), (o_t, .inr (5, [.ref a_t_numbers, .ref a_t_lefts, .ref a_t_falls, .int f_t_lateCorner, .int f_t_earlyCorner])), (a_t_numbers, aI E 192 g_t_numbers)] H := hP
                  replace hD : va_D A [(a_t_lefts, aI E 64 g_t_lefts), (o_t, .inr (5, [.ref a_t_numbers, .ref a_t_lefts, .ref a_t_falls, .int f_t_lateCorner, .int f_t_earlyCorner])), (a_t_numbers, aI E 192 g_t_numbers)] := hD
                  refine lv_imul hx hb dX5_lookUp_199 ?_
                  refine lv_topi (fun x_294 ex_294 => ?_)
                  have bd_295 := i3_bd r_293
                  refine lv_istore (lv' := [(17, .int x_294), (16, .int 1), (15, .int 16), (14, .int r_288), (13, .int 0), (12, .int r_264), (11, .int x_263), (10, .int x_262), (9, .int 0), (8, .int 1), (7, .int x_3), (6, .int x_1), (0, .ref o_t), (1, .int p1), (2, .int p2), (3, .int p3), (4, .int p4), (5, .int p5)]) hx hb dX5_lookUp_200 hl (by decide) rfl (fun ls hl => ?_)
                  refine lv_iload hx hb dX5_lookUp_202 (lv_at hl 7 rfl) ?_
                  refine lv_if_le (tgt := 229) hx hb dX5_lookUp_204 (by decide) (fun c_296 => ?_) (fun c_296 => ?_)
                  · have e_296 : x_262.toInt ≤ 0 := i3_le c_296
                    exfalso; omega
                  · have e_296 : 0 < x_262.toInt := i3_nle c_296
                    refine lv_iload hx hb dX5_lookUp_207 (lv_at hl 0 rfl) ?_
                    refine lv_iload hx hb dX5_lookUp_209 (lv_at hl 7 rfl) ?_
                    refine lv_aload_n hx hb dX5_lookUp_211 rfl (lv_at hl 12 rfl) ?_
                    refine lv_iload hx hb dX5_lookUp_212 (lv_at hl 5 rfl) ?_
                    refine lv_iconst (v := 1) hx hb dX5_lookUp_214 (by decide) ?_
                    refine lv_iadd hx hb dX5_lookUp_215 ?_
                    refine lv_topi (fun x_297 ex_297 => ?_)
                    have hq_x_297 : x_287 = x_297 := ex_287.trans ex_297.symm
                    subst hq_x_297
                    refine lv_iload hx hb dX5_lookUp_216 (lv_at hl 8 rfl) ?_
                    refine lv_iload hx hb dX5_lookUp_218 (lv_at hl 6 rfl) ?_
                    refine lv_iload hx hb dX5_lookUp_220 (lv_at hl 1 rfl) ?_
                    refine call_i (va_runV (As := [.int x_287, .int 0, .int x_263, .int 1]) (rest := [.int x_262, .int x_294]) ⟨hx, hb, hml, hown, hts⟩ (q_weighRow1 l E o_t a_t_numbers a_t_lefts a_t_falls f_t_lateCorner f_t_earlyCorner x_287 0 x_263 1 g_t_numbers r_f_t_lateCorner r_f_t_earlyCorner i_g_t_numbers (RG.mk (by omega)) (RG.mk (by decide)) H.size) (cwV 4 hts g_q_lookUp_q_weighRow1_54 rfl rfl rfl (by decide +kernel) ⟨Nat.le_of_ble_eq_true rfl, Nat.le_of_ble_eq_true rfl⟩) (pre_V hK hN hZ hS (va_free hD hS hA [1, 2] rfl) (hP.sub (ws' := [(o_t, .inr (5, [.ref a_t_numbers, .ref a_t_lefts, .ref a_t_falls, .int f_t_lateCorner, .int f_t_earlyCorner])), (a_t_numbers, aI E 192 g_t_numbers)]) [1, 2] rfl) (hD.sub (ws' := [(o_t, .inr (5, [.ref a_t_numbers, .ref a_t_lefts, .ref a_t_falls, .int f_t_lateCorner, .int f_t_earlyCorner])), (a_t_numbers, aI E 192 g_t_numbers)]) [1, 2] (by decide) rfl) (ci := 5) (q0 := 0) rfl rfl) rfl rfl hl.1 rfl (lv_room (Nat.le_of_ble_eq_true rfl)) dX5_lookUp_222 ⟨Nat.le_of_ble_eq_true rfl, Nat.le_of_ble_eq_true rfl⟩) hP hD hS hA [1, 2] [0] (wr := [(a_t_lefts, aI E 64 g_t_lefts)]) rfl rfl (by decide) (by decide) (fun r_298 w H locs hw hP hD hS => ?_)
                    obtain ⟨b_r_298, rfl⟩ := hw
                    replace hP : va_P E.1 vwCl [(a_t_lefts, aI E 64 g_t_lefts), (o_t, .inr (5, [.ref a_t_numbers, .ref a_t_lefts, .ref a_t_falls, .int f_t_lateCorner, .int f_t_earlyCorner])), (a_t_numbers, aI E 192 g_t_numbers)] H := hP
                    replace hD : va_D A [(a_t_lefts, aI E 64 g_t_lefts), (o_t, .inr (5, [.ref a_t_numbers, .ref a_t_lefts, .ref a_t_falls, .int f_t_lateCorner, .int f_t_earlyCorner])), (a_t_numbers, aI E 192 g_t_numbers)] := hD
                    refine lv_imul hx hb dX5_lookUp_225 ?_
                    refine lv_topi (fun x_299 ex_299 => ?_)
                    have bd_300 := i3_bd r_298
                    refine lv_iadd hx hb dX5_lookUp_226 ?_
                    refine lv_topi (fun x_301 ex_301 => ?_)
                    have bd_302 := i3_bd x_294
                    have bd_303 := i3_bd x_299
                    refine lv_istore (lv' := [(17, .int x_301), (16, .int 1), (15, .int 16), (14, .int r_288), (13, .int 0), (12, .int r_264), (11, .int x_263), (10, .int x_262), (9, .int 0), (8, .int 1), (7, .int x_3), (6, .int x_1), (0, .ref o_t), (1, .int p1), (2, .int p2), (3, .int p3), (4, .int p4), (5, .int p5)]) hx hb dX5_lookUp_227 hl (by decide) rfl (fun ls hl => ?_)
                    refine lv_iload hx hb dX5_lookUp_229 (lv_at hl 2 rfl) ?_
                    refine lv_iload hx hb dX5_lookUp_231 (lv_at hl 1 rfl) ?_
                    refine lv_imul hx hb dX5_lookUp_233 ?_
                    refine lv_cst (y := 16) (by decide) ?_
                    refine lv_istore (lv' := [(18, .int 16), (17, .int x_301), (16, .int 1), (15, .int 16), (14, .int r_288), (13, .int 0), (12, .int r_264), (11, .int x_263), (10, .int x_262), (9, .int 0), (8, .int 1), (7, .int x_3), (6, .int x_1), (0, .ref o_t), (1, .int p1), (2, .int p2), (3, .int p3), (4, .int p4), (5, .int p5)]) hx hb dX5_lookUp_234 hl (by decide) rfl (fun ls hl => ?_)
                    refine lv_iload hx hb dX5_lookUp_236 (lv_at hl 18 rfl) ?_
                    have b_p5 := r_p5.out
                    refine lv_if_eq (tgt := 254) hx hb dX5_lookUp_238 (by decide) (fun c_304 => ?_) (fun c_304 => ?_)
                    · have e_304 : p5.toInt = 0 := i3_eq c_304
                      refine lv_iload hx hb dX5_lookUp_254 (lv_at hl 1 rfl) ?_
                      refine lv_iload hx hb dX5_lookUp_256 (lv_at hl 0 rfl) ?_
                      refine lv_idiv hx hb dX5_lookUp_258 (by decide) ?_
                      refine lv_topi (fun x_305 ex_305 => ?_)
                      have bd_306 := i3_bd x_301
                      exact ret_i hx hb hr hlk (hP.sub (ws' := [(o_t, .inr (5, [.ref a_t_numbers, .ref a_t_lefts, .ref a_t_falls, .int f_t_lateCorner, .int f_t_earlyCorner])), (a_t_lefts, aI E 64 g_t_lefts), (a_t_numbers, aI E 192 g_t_numbers)]) [1, 0, 2] rfl) (hD.sub (ws' := [(o_t, .inr (5, [.ref a_t_numbers, .ref a_t_lefts, .ref a_t_falls, .int f_t_lateCorner, .int f_t_earlyCorner])), (a_t_lefts, aI E 64 g_t_lefts), (a_t_numbers, aI E 192 g_t_numbers)]) [1, 0, 2] (by decide) rfl) hS rfl dX5_lookUp_259 (Nat.le_of_ble_eq_true rfl) (Nat.le_of_ble_eq_true rfl) ⟨trivial, rfl⟩
                    · have e_304 : p5.toInt ≠ 0 := i3_ne c_304
                      refine lv_iload hx hb dX5_lookUp_241 (lv_at hl 1 rfl) ?_
                      refine lv_iload hx hb dX5_lookUp_243 (lv_at hl 0 rfl) ?_
                      refine lv_iadd hx hb dX5_lookUp_245 ?_
                      refine lv_topi (fun x_307 ex_307 => ?_)
                      have bd_308 := i3_bd x_301
                      refine lv_iconst (v := 1) hx hb dX5_lookUp_246 (by decide) ?_
                      refine lv_isub hx hb dX5_lookUp_247 ?_
                      refine lv_topi (fun x_309 ex_309 => ?_)
                      have bd_310 := i3_bd x_307
                      refine lv_iload hx hb dX5_lookUp_248 (lv_at hl 0 rfl) ?_
                      refine lv_idiv hx hb dX5_lookUp_250 (by decide) ?_
                      refine lv_topi (fun x_311 ex_311 => ?_)
                      have bd_312 := i3_bd x_309
                      refine lv_goto (tgt := 259) hx hb dX5_lookUp_251 (by decide) ?_
                      exact ret_i hx hb hr hlk (hP.sub (ws' := [(o_t, .inr (5, [.ref a_t_numbers, .ref a_t_lefts, .ref a_t_falls, .int f_t_lateCorner, .int f_t_earlyCorner])), (a_t_lefts, aI E 64 g_t_lefts), (a_t_numbers, aI E 192 g_t_numbers)]) [1, 0, 2] rfl) (hD.sub (ws' := [(o_t, .inr (5, [.ref a_t_numbers, .ref a_t_lefts, .ref a_t_falls, .int f_t_lateCorner, .int f_t_earlyCorner])), (a_t_lefts, aI E 64 g_t_lefts), (a_t_numbers, aI E 192 g_t_numbers)]) [1, 0, 2] (by decide) rfl) hS rfl dX5_lookUp_259 (Nat.le_of_ble_eq_true rfl) (Nat.le_of_ble_eq_true rfl) ⟨trivial, rfl⟩
                · have e_291 : 0 < x_263.toInt := i3_nle c_291
                  exfalso; omega
            · have e_289 : r_288.toInt ≠ 0 := i3_ne c_289
              refine lv_iload hx hb dX5_lookUp_127 (lv_at hl 0 rfl) ?_
              exact ret_i hx hb hr hlk (hP.sub (ws' := [(o_t, .inr (5, [.ref a_t_numbers, .ref a_t_lefts, .ref a_t_falls, .int f_t_lateCorner, .int f_t_earlyCorner])), (a_t_lefts, aI E 64 g_t_lefts), (a_t_numbers, aI E 192 g_t_numbers)]) [1, 2, 0] rfl) (hD.sub (ws' := [(o_t, .inr (5, [.ref a_t_numbers, .ref a_t_lefts, .ref a_t_falls, .int f_t_lateCorner, .int f_t_earlyCorner])), (a_t_lefts, aI E 64 g_t_lefts), (a_t_numbers, aI E 192 g_t_numbers)]) [1, 2, 0] (by decide) rfl) hS rfl dX5_lookUp_129 (Nat.le_of_ble_eq_true rfl) (Nat.le_of_ble_eq_true rfl) ⟨trivial, rfl⟩
      · have e_265 : 0 < x_263.toInt := i3_nle c_265
        refine lv_iload hx hb dX5_lookUp_79 (lv_at hl 3 rfl) ?_
        refine lv_iconst (v := 1) hx hb dX5_lookUp_81 (by decide) ?_
        refine lv_iadd hx hb dX5_lookUp_82 ?_
        refine lv_cst (y := 1) (by decide) ?_
        refine lv_goto (tgt := 88) hx hb dX5_lookUp_83 (by decide) ?_
        refine lv_istore (lv' := [(13, .int 1), (12, .int r_264), (11, .int x_263), (10, .int x_262), (9, .int 0), (8, .int 1), (7, .int x_3), (6, .int x_1), (0, .ref o_t), (1, .int p1), (2, .int p2), (3, .int p3), (4, .int p4), (5, .int p5)]) hx hb dX5_lookUp_88 hl (by decide) rfl (fun ls hl => ?_)
        refine lv_aload_n hx hb dX5_lookUp_90 rfl (lv_at hl 8 rfl) ?_
        refine lv_iload hx hb dX5_lookUp_91 (lv_at hl 1 rfl) ?_
        refine lv_iload hx hb dX5_lookUp_93 (lv_at hl 0 rfl) ?_
        refine call_i (va_runV (As := [.int r_264, .int 1]) (rest := []) ⟨hx, hb, hml, hown, hts⟩ (q_whyAbsent l E o_t a_t_numbers a_t_lefts a_t_falls f_t_lateCorner f_t_earlyCorner r_264 1 g_t_lefts r_f_t_lateCorner r_f_t_earlyCorner i_g_t_lefts (RG.mk (by omega)) H.size) (cwV 2 hts g_q_lookUp_q_whyAbsent_51 rfl rfl rfl (by decide +kernel) ⟨Nat.le_of_ble_eq_true rfl, Nat.le_of_ble_eq_true rfl⟩) (pre_V hK hN hZ hS (va_free hD hS hA [0, 1] rfl) (hP.sub (ws' := [(o_t, .inr (5, [.ref a_t_numbers, .ref a_t_lefts, .ref a_t_falls, .int f_t_lateCorner, .int f_t_earlyCorner])), (a_t_lefts, aI E 64 g_t_lefts)]) [0, 1] rfl) (hD.sub (ws' := [(o_t, .inr (5, [.ref a_t_numbers, .ref a_t_lefts, .ref a_t_falls, .int f_t_lateCorner, .int f_t_earlyCorner])), (a_t_lefts, aI E 64 g_t_lefts)]) [0, 1] (by decide) rfl) (ci := 5) (q0 := 0) rfl rfl) rfl rfl hl.1 rfl (lv_room (Nat.le_of_ble_eq_true rfl)) dX5_lookUp_95 ⟨Nat.le_of_ble_eq_true rfl, Nat.le_of_ble_eq_true rfl⟩) hP hD hS hA [0, 1] [2] (wr := [(a_t_numbers, aI E 192 g_t_numbers)]) rfl rfl (by decide) (by decide) (fun r_313 w H locs hw hP hD hS => ?_)
        obtain ⟨b_r_313, rfl⟩ := hw
        replace hP : va_P E.1 vwCl [(a_t_numbers, aI E 192 g_t_numbers), (o_t, .inr (5, [.ref a_t_numbers, .ref a_t_lefts, .ref a_t_falls, .int f_t_lateCorner, .int f_t_earlyCorner])), (a_t_lefts, aI E 64 g_t_lefts)] H := hP
        replace hD : va_D A [(a_t_numbers, aI E 192 g_t_numbers), (o_t, .inr (5, [.ref a_t_numbers, .ref a_t_lefts, .ref a_t_falls, .int f_t_lateCorner, .int f_t_earlyCorner])), (a_t_lefts, aI E 64 g_t_lefts)] := hD
        refine lv_istore (lv' := [(14, .int r_313), (13, .int 1), (12, .int r_264), (11, .int x_263), (10, .int x_262), (9, .int 0), (8, .int 1), (7, .int x_3), (6, .int x_1), (0, .ref o_t), (1, .int p1), (2, .int p2), (3, .int p3), (4, .int p4), (5, .int p5)]) hx hb dX5_lookUp_98 hl (by decide) rfl (fun ls hl => ?_)
        refine lv_iload hx hb dX5_lookUp_100 (lv_at hl 0 rfl) ?_
        refine lv_if_ne (tgt := 122) hx hb dX5_lookUp_102 (by decide) (fun c_314 => ?_) (fun c_314 => ?_)
        · have e_314 : r_313.toInt ≠ 0 := i3_ne c_314
          refine lv_iload hx hb dX5_lookUp_122 (lv_at hl 0 rfl) ?_
          refine lv_if_eq (tgt := 130) hx hb dX5_lookUp_124 (by decide) (fun c_315 => ?_) (fun c_315 => ?_)
          · have e_315 : r_313.toInt = 0 := i3_eq c_315
            exfalso; omega
          · have e_315 : r_313.toInt ≠ 0 := i3_ne c_315
            refine lv_iload hx hb dX5_lookUp_127 (lv_at hl 0 rfl) ?_
            exact ret_i hx hb hr hlk (hP.sub (ws' := [(o_t, .inr (5, [.ref a_t_numbers, .ref a_t_lefts, .ref a_t_falls, .int f_t_lateCorner, .int f_t_earlyCorner])), (a_t_lefts, aI E 64 g_t_lefts), (a_t_numbers, aI E 192 g_t_numbers)]) [1, 2, 0] rfl) (hD.sub (ws' := [(o_t, .inr (5, [.ref a_t_numbers, .ref a_t_lefts, .ref a_t_falls, .int f_t_lateCorner, .int f_t_earlyCorner])), (a_t_lefts, aI E 64 g_t_lefts), (a_t_numbers, aI E 192 g_t_numbers)]) [1, 2, 0] (by decide) rfl) hS rfl dX5_lookUp_129 (Nat.le_of_ble_eq_true rfl) (Nat.le_of_ble_eq_true rfl) ⟨trivial, rfl⟩
        · have e_314 : r_313.toInt = 0 := i3_eq c_314
          refine lv_iload hx hb dX5_lookUp_105 (lv_at hl 4 rfl) ?_
          refine lv_if_le (tgt := 122) hx hb dX5_lookUp_107 (by decide) (fun c_316 => ?_) (fun c_316 => ?_)
          · have e_316 : x_262.toInt ≤ 0 := i3_le c_316
            refine lv_iload hx hb dX5_lookUp_122 (lv_at hl 0 rfl) ?_
            refine lv_if_eq (tgt := 130) hx hb dX5_lookUp_124 (by decide) (fun c_317 => ?_) (fun c_317 => ?_)
            · have e_317 : r_313.toInt = 0 := i3_eq c_317
              refine lv_iload hx hb dX5_lookUp_130 (lv_at hl 4 rfl) ?_
              refine lv_if_le (tgt := 153) hx hb dX5_lookUp_132 (by decide) (fun c_318 => ?_) (fun c_318 => ?_)
              · have e_318 : x_262.toInt ≤ 0 := i3_le c_318
                refine lv_iconst (v := 1) hx hb dX5_lookUp_153 (by decide) ?_
                refine lv_istore (lv' := [(15, .int 1), (14, .int r_313), (13, .int 1), (12, .int r_264), (11, .int x_263), (10, .int x_262), (9, .int 0), (8, .int 1), (7, .int x_3), (6, .int x_1), (0, .ref o_t), (1, .int p1), (2, .int p2), (3, .int p3), (4, .int p4), (5, .int p5)]) hx hb dX5_lookUp_154 hl (by decide) rfl (fun ls hl => ?_)
                refine lv_iload hx hb dX5_lookUp_156 (lv_at hl 4 rfl) ?_
                refine lv_if_le (tgt := 179) hx hb dX5_lookUp_158 (by decide) (fun c_319 => ?_) (fun c_319 => ?_)
                · have e_319 : x_263.toInt ≤ 0 := i3_le c_319
                  exfalso; omega
                · have e_319 : 0 < x_263.toInt := i3_nle c_319
                  refine va_gets (C := "TimingHouse$Tables") (n := "SLOPE_MARKS") (d := "[I") (own := RX5) (ref := "TimingHouse$Tables") hx hb hZ.2.1.1 hS hown (hto (.fieldLink RX5 40 "TimingHouse$Tables" "SLOPE_MARKS" "[I") (by decide +kernel)) (fun _ h9 => h9) dX5_lookUp_161 ?_
                  refine lv_iload hx hb dX5_lookUp_164 (lv_at hl 6 rfl) ?_
                  refine lv_iconst (v := 1) hx hb dX5_lookUp_166 (by decide) ?_
                  refine lv_iadd hx hb dX5_lookUp_167 ?_
                  refine lv_cst (y := 1) (by decide) ?_
                  refine va_ti (v := .int 16) hx hb hZ.2.1.2 hS (i3_in (by decide)) rfl dX5_lookUp_168 ?_
                  refine va_gets (C := "TimingHouse$Tables") (n := "SLOPE_MARKS") (d := "[I") (own := RX5) (ref := "TimingHouse$Tables") hx hb hZ.2.1.1 hS hown (hto (.fieldLink RX5 40 "TimingHouse$Tables" "SLOPE_MARKS" "[I") (by decide +kernel)) (fun _ h9 => h9) dX5_lookUp_169 ?_
                  refine lv_iload hx hb dX5_lookUp_172 (lv_at hl 6 rfl) ?_
                  refine va_ti (v := .int 0) hx hb hZ.2.1.2 hS (i3_in (by decide)) rfl dX5_lookUp_174 ?_
                  refine lv_isub hx hb dX5_lookUp_175 ?_
                  refine lv_cst (y := 16) (by decide) ?_
                  refine lv_goto (tgt := 180) hx hb dX5_lookUp_176 (by decide) ?_
                  refine lv_istore (lv' := [(16, .int 16), (15, .int 1), (14, .int r_313), (13, .int 1), (12, .int r_264), (11, .int x_263), (10, .int x_262), (9, .int 0), (8, .int 1), (7, .int x_3), (6, .int x_1), (0, .ref o_t), (1, .int p1), (2, .int p2), (3, .int p3), (4, .int p4), (5, .int p5)]) hx hb dX5_lookUp_180 hl (by decide) rfl (fun ls hl => ?_)
                  refine lv_iload hx hb dX5_lookUp_182 (lv_at hl 1 rfl) ?_
                  refine lv_iload hx hb dX5_lookUp_184 (lv_at hl 6 rfl) ?_
                  refine lv_isub hx hb dX5_lookUp_186 ?_
                  refine lv_topi (fun x_320 ex_320 => ?_)
                  have tx_320 : x_320.toInt = 1 - x_262.toInt := i3_subc rfl rfl ex_320 (by omega)
                  refine lv_aload_n hx hb dX5_lookUp_187 rfl (lv_at hl 11 rfl) ?_
                  refine lv_iload hx hb dX5_lookUp_188 (lv_at hl 4 rfl) ?_
                  refine lv_iload hx hb dX5_lookUp_190 (lv_at hl 7 rfl) ?_
                  refine lv_iload hx hb dX5_lookUp_192 (lv_at hl 5 rfl) ?_
                  refine lv_iload hx hb dX5_lookUp_194 (lv_at hl 0 rfl) ?_
                  refine call_i (va_runV (As := [.int r_264, .int 0, .int x_263, .int 16]) (rest := [.int x_320]) ⟨hx, hb, hml, hown, hts⟩ (q_weighRow1 l E o_t a_t_numbers a_t_lefts a_t_falls f_t_lateCorner f_t_earlyCorner r_264 0 x_263 16 g_t_numbers r_f_t_lateCorner r_f_t_earlyCorner i_g_t_numbers (RG.mk (by omega)) (RG.mk (by decide)) H.size) (cwV 4 hts g_q_lookUp_q_weighRow1_54 rfl rfl rfl (by decide +kernel) ⟨Nat.le_of_ble_eq_true rfl, Nat.le_of_ble_eq_true rfl⟩) (pre_V hK hN hZ hS (va_free hD hS hA [1, 0] rfl) (hP.sub (ws' := [(o_t, .inr (5, [.ref a_t_numbers, .ref a_t_lefts, .ref a_t_falls, .int f_t_lateCorner, .int f_t_earlyCorner])), (a_t_numbers, aI E 192 g_t_numbers)]) [1, 0] rfl) (hD.sub (ws' := [(o_t, .inr (5, [.ref a_t_numbers, .ref a_t_lefts, .ref a_t_falls, .int f_t_lateCorner, .int f_t_earlyCorner])), (a_t_numbers, aI E 192 g_t_numbers)]) [1, 0] (by decide) rfl) (ci := 5) (q0 := 0) rfl rfl) rfl rfl hl.1 rfl (lv_room (Nat.le_of_ble_eq_true rfl)) dX5_lookUp_196 ⟨Nat.le_of_ble_eq_true rfl, Nat.le_of_ble_eq_true rfl⟩) hP hD hS hA [1, 0] [2] (wr := [(a_t_lefts, aI E 64 g_t_lefts)]) rfl rfl (by decide) (by decide) (fun r_321 w H locs hw hP hD hS => ?_)
                  obtain ⟨b_r_321, rfl⟩ := hw
                  replace hP : va_P E.1 vwCl [(a_t_lefts, aI E 64 g_t_lefts), (o_t, .inr (5, [.ref a_t_numbers, .ref a_t_lefts, .ref a_t_falls, .int f_t_lateCorner, .int f_t_earlyCorner])), (a_t_numbers, aI E 192 g_t_numbers)] H := hP
                  replace hD : va_D A [(a_t_lefts, aI E 64 g_t_lefts), (o_t, .inr (5, [.ref a_t_numbers, .ref a_t_lefts, .ref a_t_falls, .int f_t_lateCorner, .int f_t_earlyCorner])), (a_t_numbers, aI E 192 g_t_numbers)] := hD
                  refine lv_imul hx hb dX5_lookUp_199 ?_
                  refine lv_topi (fun x_322 ex_322 => ?_)
                  have bd_323 := i3_bd r_321
                  refine lv_istore (lv' := [(17, .int x_322), (16, .int 16), (15, .int 1), (14, .int r_313), (13, .int 1), (12, .int r_264), (11, .int x_263), (10, .int x_262), (9, .int 0), (8, .int 1), (7, .int x_3), (6, .int x_1), (0, .ref o_t), (1, .int p1), (2, .int p2), (3, .int p3), (4, .int p4), (5, .int p5)]) hx hb dX5_lookUp_200 hl (by decide) rfl (fun ls hl => ?_)
                  refine lv_iload hx hb dX5_lookUp_202 (lv_at hl 7 rfl) ?_
                  refine lv_if_le (tgt := 229) hx hb dX5_lookUp_204 (by decide) (fun c_324 => ?_) (fun c_324 => ?_)
                  · have e_324 : x_262.toInt ≤ 0 := i3_le c_324
                    refine lv_iload hx hb dX5_lookUp_229 (lv_at hl 2 rfl) ?_
                    refine lv_iload hx hb dX5_lookUp_231 (lv_at hl 1 rfl) ?_
                    refine lv_imul hx hb dX5_lookUp_233 ?_
                    refine lv_cst (y := 16) (by decide) ?_
                    refine lv_istore (lv' := [(18, .int 16), (17, .int x_322), (16, .int 16), (15, .int 1), (14, .int r_313), (13, .int 1), (12, .int r_264), (11, .int x_263), (10, .int x_262), (9, .int 0), (8, .int 1), (7, .int x_3), (6, .int x_1), (0, .ref o_t), (1, .int p1), (2, .int p2), (3, .int p3), (4, .int p4), (5, .int p5)]) hx hb dX5_lookUp_234 hl (by decide) rfl (fun ls hl => ?_)
                    refine lv_iload hx hb dX5_lookUp_236 (lv_at hl 18 rfl) ?_
                    have b_p5 := r_p5.out
                    refine lv_if_eq (tgt := 254) hx hb dX5_lookUp_238 (by decide) (fun c_325 => ?_) (fun c_325 => ?_)
                    · have e_325 : p5.toInt = 0 := i3_eq c_325
                      refine lv_iload hx hb dX5_lookUp_254 (lv_at hl 1 rfl) ?_
                      refine lv_iload hx hb dX5_lookUp_256 (lv_at hl 0 rfl) ?_
                      refine lv_idiv hx hb dX5_lookUp_258 (by decide) ?_
                      refine lv_topi (fun x_326 ex_326 => ?_)
                      have bd_327 := i3_bd x_322
                      exact ret_i hx hb hr hlk (hP.sub (ws' := [(o_t, .inr (5, [.ref a_t_numbers, .ref a_t_lefts, .ref a_t_falls, .int f_t_lateCorner, .int f_t_earlyCorner])), (a_t_lefts, aI E 64 g_t_lefts), (a_t_numbers, aI E 192 g_t_numbers)]) [1, 0, 2] rfl) (hD.sub (ws' := [(o_t, .inr (5, [.ref a_t_numbers, .ref a_t_lefts, .ref a_t_falls, .int f_t_lateCorner, .int f_t_earlyCorner])), (a_t_lefts, aI E 64 g_t_lefts), (a_t_numbers, aI E 192 g_t_numbers)]) [1, 0, 2] (by decide) rfl) hS rfl dX5_lookUp_259 (Nat.le_of_ble_eq_true rfl) (Nat.le_of_ble_eq_true rfl) ⟨trivial, rfl⟩
                    · have e_325 : p5.toInt ≠ 0 := i3_ne c_325
                      refine lv_iload hx hb dX5_lookUp_241 (lv_at hl 1 rfl) ?_
                      refine lv_iload hx hb dX5_lookUp_243 (lv_at hl 0 rfl) ?_
                      refine lv_iadd hx hb dX5_lookUp_245 ?_
                      refine lv_topi (fun x_328 ex_328 => ?_)
                      have bd_329 := i3_bd x_322
                      refine lv_iconst (v := 1) hx hb dX5_lookUp_246 (by decide) ?_
                      refine lv_isub hx hb dX5_lookUp_247 ?_
                      refine lv_topi (fun x_330 ex_330 => ?_)
                      have bd_331 := i3_bd x_328
                      refine lv_iload hx hb dX5_lookUp_248 (lv_at hl 0 rfl) ?_
                      refine lv_idiv hx hb dX5_lookUp_250 (by decide) ?_
                      refine lv_topi (fun x_332 ex_332 => ?_)
                      have bd_333 := i3_bd x_330
                      refine lv_goto (tgt := 259) hx hb dX5_lookUp_251 (by decide) ?_
                      exact ret_i hx hb hr hlk (hP.sub (ws' := [(o_t, .inr (5, [.ref a_t_numbers, .ref a_t_lefts, .ref a_t_falls, .int f_t_lateCorner, .int f_t_earlyCorner])), (a_t_lefts, aI E 64 g_t_lefts), (a_t_numbers, aI E 192 g_t_numbers)]) [1, 0, 2] rfl) (hD.sub (ws' := [(o_t, .inr (5, [.ref a_t_numbers, .ref a_t_lefts, .ref a_t_falls, .int f_t_lateCorner, .int f_t_earlyCorner])), (a_t_lefts, aI E 64 g_t_lefts), (a_t_numbers, aI E 192 g_t_numbers)]) [1, 0, 2] (by decide) rfl) hS rfl dX5_lookUp_259 (Nat.le_of_ble_eq_true rfl) (Nat.le_of_ble_eq_true rfl) ⟨trivial, rfl⟩
                  · have e_324 : 0 < x_262.toInt := i3_nle c_324
                    exfalso; omega
              · have e_318 : 0 < x_262.toInt := i3_nle c_318
                exfalso; omega
            · have e_317 : r_313.toInt ≠ 0 := i3_ne c_317
              exfalso; omega
          · have e_316 : 0 < x_262.toInt := i3_nle c_316
            refine lv_aload_n hx hb dX5_lookUp_110 rfl (lv_at hl 9 rfl) ?_
            refine lv_iload hx hb dX5_lookUp_111 (lv_at hl 2 rfl) ?_
            refine lv_iconst (v := 1) hx hb dX5_lookUp_113 (by decide) ?_
            refine lv_iadd hx hb dX5_lookUp_114 ?_
            refine lv_topi (fun x_334 ex_334 => ?_)
            have tx_334 : x_334.toInt = r_264.toInt + 1 := i3_addc rfl rfl ex_334 (by omega)
            refine lv_iload hx hb dX5_lookUp_115 (lv_at hl 1 rfl) ?_
            refine call_i (va_runV (As := [.int x_334, .int 1]) (rest := []) ⟨hx, hb, hml, hown, hts⟩ (q_whyAbsent l E o_t a_t_numbers a_t_lefts a_t_falls f_t_lateCorner f_t_earlyCorner x_334 1 g_t_lefts r_f_t_lateCorner r_f_t_earlyCorner i_g_t_lefts (RG.mk (by omega)) H.size) (cwV 2 hts g_q_lookUp_q_whyAbsent_51 rfl rfl rfl (by decide +kernel) ⟨Nat.le_of_ble_eq_true rfl, Nat.le_of_ble_eq_true rfl⟩) (pre_V hK hN hZ hS (va_free hD hS hA [1, 2] rfl) (hP.sub (ws' := [(o_t, .inr (5, [.ref a_t_numbers, .ref a_t_lefts, .ref a_t_falls, .int f_t_lateCorner, .int f_t_earlyCorner])), (a_t_lefts, aI E 64 g_t_lefts)]) [1, 2] rfl) (hD.sub (ws' := [(o_t, .inr (5, [.ref a_t_numbers, .ref a_t_lefts, .ref a_t_falls, .int f_t_lateCorner, .int f_t_earlyCorner])), (a_t_lefts, aI E 64 g_t_lefts)]) [1, 2] (by decide) rfl) (ci := 5) (q0 := 0) rfl rfl) rfl rfl hl.1 rfl (lv_room (Nat.le_of_ble_eq_true rfl)) dX5_lookUp_117 ⟨Nat.le_of_ble_eq_true rfl, Nat.le_of_ble_eq_true rfl⟩) hP hD hS hA [1, 2] [0] (wr := [(a_t_numbers, aI E 192 g_t_numbers)]) rfl rfl (by decide) (by decide) (fun r_335 w H locs hw hP hD hS => ?_)
            obtain ⟨b_r_335, rfl⟩ := hw
            replace hP : va_P E.1 vwCl [(a_t_numbers, aI E 192 g_t_numbers), (o_t, .inr (5, [.ref a_t_numbers, .ref a_t_lefts, .ref a_t_falls, .int f_t_lateCorner, .int f_t_earlyCorner])), (a_t_lefts, aI E 64 g_t_lefts)] H := hP
            replace hD : va_D A [(a_t_numbers, aI E 192 g_t_numbers), (o_t, .inr (5, [.ref a_t_numbers, .ref a_t_lefts, .ref a_t_falls, .int f_t_lateCorner, .int f_t_earlyCorner])), (a_t_lefts, aI E 64 g_t_lefts)] := hD
            refine lv_istore (lv' := [(14, .int r_335), (13, .int 1), (12, .int r_264), (11, .int x_263), (10, .int x_262), (9, .int 0), (8, .int 1), (7, .int x_3), (6, .int x_1), (0, .ref o_t), (1, .int p1), (2, .int p2), (3, .int p3), (4, .int p4), (5, .int p5)]) hx hb dX5_lookUp_120 hl (by decide) rfl (fun ls hl => ?_)
            refine lv_iload hx hb dX5_lookUp_122 (lv_at hl 0 rfl) ?_
            refine lv_if_eq (tgt := 130) hx hb dX5_lookUp_124 (by decide) (fun c_336 => ?_) (fun c_336 => ?_)
            · have e_336 : r_335.toInt = 0 := i3_eq c_336
              refine lv_iload hx hb dX5_lookUp_130 (lv_at hl 4 rfl) ?_
              refine lv_if_le (tgt := 153) hx hb dX5_lookUp_132 (by decide) (fun c_337 => ?_) (fun c_337 => ?_)
              · have e_337 : x_262.toInt ≤ 0 := i3_le c_337
                exfalso; omega
              · have e_337 : 0 < x_262.toInt := i3_nle c_337
                refine va_gets (C := "TimingHouse$Tables") (n := "LOAD_MARKS") (d := "[I") (own := RX5) (ref := "TimingHouse$Tables") hx hb hZ.1.1 hS hown (hto (.fieldLink RX5 31 "TimingHouse$Tables" "LOAD_MARKS" "[I") (by decide +kernel)) (fun _ h9 => h9) dX5_lookUp_135 ?_
                refine lv_iload hx hb dX5_lookUp_138 (lv_at hl 6 rfl) ?_
                refine lv_iconst (v := 1) hx hb dX5_lookUp_140 (by decide) ?_
                refine lv_iadd hx hb dX5_lookUp_141 ?_
                refine lv_cst (y := 2) (by decide) ?_
                refine va_ti (v := .int 24) hx hb hZ.1.2 hS (i3_in (by decide)) rfl dX5_lookUp_142 ?_
                refine va_gets (C := "TimingHouse$Tables") (n := "LOAD_MARKS") (d := "[I") (own := RX5) (ref := "TimingHouse$Tables") hx hb hZ.1.1 hS hown (hto (.fieldLink RX5 31 "TimingHouse$Tables" "LOAD_MARKS" "[I") (by decide +kernel)) (fun _ h9 => h9) dX5_lookUp_143 ?_
                refine lv_iload hx hb dX5_lookUp_146 (lv_at hl 6 rfl) ?_
                refine va_ti (v := .int 8) hx hb hZ.1.2 hS (i3_in (by decide)) rfl dX5_lookUp_148 ?_
                refine lv_isub hx hb dX5_lookUp_149 ?_
                refine lv_cst (y := 16) (by decide) ?_
                refine lv_goto (tgt := 154) hx hb dX5_lookUp_150 (by decide) ?_
                refine lv_istore (lv' := [(15, .int 16), (14, .int r_335), (13, .int 1), (12, .int r_264), (11, .int x_263), (10, .int x_262), (9, .int 0), (8, .int 1), (7, .int x_3), (6, .int x_1), (0, .ref o_t), (1, .int p1), (2, .int p2), (3, .int p3), (4, .int p4), (5, .int p5)]) hx hb dX5_lookUp_154 hl (by decide) rfl (fun ls hl => ?_)
                refine lv_iload hx hb dX5_lookUp_156 (lv_at hl 4 rfl) ?_
                refine lv_if_le (tgt := 179) hx hb dX5_lookUp_158 (by decide) (fun c_338 => ?_) (fun c_338 => ?_)
                · have e_338 : x_263.toInt ≤ 0 := i3_le c_338
                  exfalso; omega
                · have e_338 : 0 < x_263.toInt := i3_nle c_338
                  refine va_gets (C := "TimingHouse$Tables") (n := "SLOPE_MARKS") (d := "[I") (own := RX5) (ref := "TimingHouse$Tables") hx hb hZ.2.1.1 hS hown (hto (.fieldLink RX5 40 "TimingHouse$Tables" "SLOPE_MARKS" "[I") (by decide +kernel)) (fun _ h9 => h9) dX5_lookUp_161 ?_
                  refine lv_iload hx hb dX5_lookUp_164 (lv_at hl 6 rfl) ?_
                  refine lv_iconst (v := 1) hx hb dX5_lookUp_166 (by decide) ?_
                  refine lv_iadd hx hb dX5_lookUp_167 ?_
                  refine lv_cst (y := 1) (by decide) ?_
                  refine va_ti (v := .int 16) hx hb hZ.2.1.2 hS (i3_in (by decide)) rfl dX5_lookUp_168 ?_
                  refine va_gets (C := "TimingHouse$Tables") (n := "SLOPE_MARKS") (d := "[I") (own := RX5) (ref := "TimingHouse$Tables") hx hb hZ.2.1.1 hS hown (hto (.fieldLink RX5 40 "TimingHouse$Tables" "SLOPE_MARKS" "[I") (by decide +kernel)) (fun _ h9 => h9) dX5_lookUp_169 ?_
                  refine lv_iload hx hb dX5_lookUp_172 (lv_at hl 6 rfl) ?_
                  refine va_ti (v := .int 0) hx hb hZ.2.1.2 hS (i3_in (by decide)) rfl dX5_lookUp_174 ?_
                  refine lv_isub hx hb dX5_lookUp_175 ?_
                  refine lv_cst (y := 16) (by decide) ?_
                  refine lv_goto (tgt := 180) hx hb dX5_lookUp_176 (by decide) ?_
                  refine lv_istore (lv' := [(16, .int 16), (15, .int 16), (14, .int r_335), (13, .int 1), (12, .int r_264), (11, .int x_263), (10, .int x_262), (9, .int 0), (8, .int 1), (7, .int x_3), (6, .int x_1), (0, .ref o_t), (1, .int p1), (2, .int p2), (3, .int p3), (4, .int p4), (5, .int p5)]) hx hb dX5_lookUp_180 hl (by decide) rfl (fun ls hl => ?_)
                  refine lv_iload hx hb dX5_lookUp_182 (lv_at hl 1 rfl) ?_
                  refine lv_iload hx hb dX5_lookUp_184 (lv_at hl 6 rfl) ?_
                  refine lv_isub hx hb dX5_lookUp_186 ?_
                  refine lv_topi (fun x_339 ex_339 => ?_)
                  have tx_339 : x_339.toInt = 16 - x_262.toInt := i3_subc rfl rfl ex_339 (by omega)
                  refine lv_aload_n hx hb dX5_lookUp_187 rfl (lv_at hl 11 rfl) ?_
                  refine lv_iload hx hb dX5_lookUp_188 (lv_at hl 4 rfl) ?_
                  refine lv_iload hx hb dX5_lookUp_190 (lv_at hl 7 rfl) ?_
                  refine lv_iload hx hb dX5_lookUp_192 (lv_at hl 5 rfl) ?_
                  refine lv_iload hx hb dX5_lookUp_194 (lv_at hl 0 rfl) ?_
                  refine call_i (va_runV (As := [.int r_264, .int 0, .int x_263, .int 16]) (rest := [.int x_339]) ⟨hx, hb, hml, hown, hts⟩ (q_weighRow1 l E o_t a_t_numbers a_t_lefts a_t_falls f_t_lateCorner f_t_earlyCorner r_264 0 x_263 16 g_t_numbers r_f_t_lateCorner r_f_t_earlyCorner i_g_t_numbers (RG.mk (by omega)) (RG.mk (by decide)) H.size) (cwV 4 hts g_q_lookUp_q_weighRow1_54 rfl rfl rfl (by decide +kernel) ⟨Nat.le_of_ble_eq_true rfl, Nat.le_of_ble_eq_true rfl⟩) (pre_V hK hN hZ hS (va_free hD hS hA [1, 0] rfl) (hP.sub (ws' := [(o_t, .inr (5, [.ref a_t_numbers, .ref a_t_lefts, .ref a_t_falls, .int f_t_lateCorner, .int f_t_earlyCorner])), (a_t_numbers, aI E 192 g_t_numbers)]) [1, 0] rfl) (hD.sub (ws' := [(o_t, .inr (5, [.ref a_t_numbers, .ref a_t_lefts, .ref a_t_falls, .int f_t_lateCorner, .int f_t_earlyCorner])), (a_t_numbers, aI E 192 g_t_numbers)]) [1, 0] (by decide) rfl) (ci := 5) (q0 := 0) rfl rfl) rfl rfl hl.1 rfl (lv_room (Nat.le_of_ble_eq_true rfl)) dX5_lookUp_196 ⟨Nat.le_of_ble_eq_true rfl, Nat.le_of_ble_eq_true rfl⟩) hP hD hS hA [1, 0] [2] (wr := [(a_t_lefts, aI E 64 g_t_lefts)]) rfl rfl (by decide) (by decide) (fun r_340 w H locs hw hP hD hS => ?_)
                  obtain ⟨b_r_340, rfl⟩ := hw
                  replace hP : va_P E.1 vwCl [(a_t_lefts, aI E 64 g_t_lefts), (o_t, .inr (5, [.ref a_t_numbers, .ref a_t_lefts, .ref a_t_falls, .int f_t_lateCorner, .int f_t_earlyCorner])), (a_t_numbers, aI E 192 g_t_numbers)] H := hP
                  replace hD : va_D A [(a_t_lefts, aI E 64 g_t_lefts), (o_t, .inr (5, [.ref a_t_numbers, .ref a_t_lefts, .ref a_t_falls, .int f_t_lateCorner, .int f_t_earlyCorner])), (a_t_numbers, aI E 192 g_t_numbers)] := hD
                  refine lv_imul hx hb dX5_lookUp_199 ?_
                  refine lv_topi (fun x_341 ex_341 => ?_)
                  have bd_342 := i3_bd r_340
                  refine lv_istore (lv' := [(17, .int x_341), (16, .int 16), (15, .int 16), (14, .int r_335), (13, .int 1), (12, .int r_264), (11, .int x_263), (10, .int x_262), (9, .int 0), (8, .int 1), (7, .int x_3), (6, .int x_1), (0, .ref o_t), (1, .int p1), (2, .int p2), (3, .int p3), (4, .int p4), (5, .int p5)]) hx hb dX5_lookUp_200 hl (by decide) rfl (fun ls hl => ?_)
                  refine lv_iload hx hb dX5_lookUp_202 (lv_at hl 7 rfl) ?_
                  refine lv_if_le (tgt := 229) hx hb dX5_lookUp_204 (by decide) (fun c_343 => ?_) (fun c_343 => ?_)
                  · have e_343 : x_262.toInt ≤ 0 := i3_le c_343
                    exfalso; omega
                  · have e_343 : 0 < x_262.toInt := i3_nle c_343
                    refine lv_iload hx hb dX5_lookUp_207 (lv_at hl 0 rfl) ?_
                    refine lv_iload hx hb dX5_lookUp_209 (lv_at hl 7 rfl) ?_
                    refine lv_aload_n hx hb dX5_lookUp_211 rfl (lv_at hl 12 rfl) ?_
                    refine lv_iload hx hb dX5_lookUp_212 (lv_at hl 5 rfl) ?_
                    refine lv_iconst (v := 1) hx hb dX5_lookUp_214 (by decide) ?_
                    refine lv_iadd hx hb dX5_lookUp_215 ?_
                    refine lv_topi (fun x_344 ex_344 => ?_)
                    have hq_x_344 : x_334 = x_344 := ex_334.trans ex_344.symm
                    subst hq_x_344
                    refine lv_iload hx hb dX5_lookUp_216 (lv_at hl 8 rfl) ?_
                    refine lv_iload hx hb dX5_lookUp_218 (lv_at hl 6 rfl) ?_
                    refine lv_iload hx hb dX5_lookUp_220 (lv_at hl 1 rfl) ?_
                    refine call_i (va_runV (As := [.int x_334, .int 0, .int x_263, .int 16]) (rest := [.int x_262, .int x_341]) ⟨hx, hb, hml, hown, hts⟩ (q_weighRow1 l E o_t a_t_numbers a_t_lefts a_t_falls f_t_lateCorner f_t_earlyCorner x_334 0 x_263 16 g_t_numbers r_f_t_lateCorner r_f_t_earlyCorner i_g_t_numbers (RG.mk (by omega)) (RG.mk (by decide)) H.size) (cwV 4 hts g_q_lookUp_q_weighRow1_54 rfl rfl rfl (by decide +kernel) ⟨Nat.le_of_ble_eq_true rfl, Nat.le_of_ble_eq_true rfl⟩) (pre_V hK hN hZ hS (va_free hD hS hA [1, 2] rfl) (hP.sub (ws' := [(o_t, .inr (5, [.ref a_t_numbers, .ref a_t_lefts, .ref a_t_falls, .int f_t_lateCorner, .int f_t_earlyCorner])), (a_t_numbers, aI E 192 g_t_numbers)]) [1, 2] rfl) (hD.sub (ws' := [(o_t, .inr (5, [.ref a_t_numbers, .ref a_t_lefts, .ref a_t_falls, .int f_t_lateCorner, .int f_t_earlyCorner])), (a_t_numbers, aI E 192 g_t_numbers)]) [1, 2] (by decide) rfl) (ci := 5) (q0 := 0) rfl rfl) rfl rfl hl.1 rfl (lv_room (Nat.le_of_ble_eq_true rfl)) dX5_lookUp_222 ⟨Nat.le_of_ble_eq_true rfl, Nat.le_of_ble_eq_true rfl⟩) hP hD hS hA [1, 2] [0] (wr := [(a_t_lefts, aI E 64 g_t_lefts)]) rfl rfl (by decide) (by decide) (fun r_345 w H locs hw hP hD hS => ?_)
                    obtain ⟨b_r_345, rfl⟩ := hw
                    replace hP : va_P E.1 vwCl [(a_t_lefts, aI E 64 g_t_lefts), (o_t, .inr (5, [.ref a_t_numbers, .ref a_t_lefts, .ref a_t_falls, .int f_t_lateCorner, .int f_t_earlyCorner])), (a_t_numbers, aI E 192 g_t_numbers)] H := hP
                    replace hD : va_D A [(a_t_lefts, aI E 64 g_t_lefts), (o_t, .inr (5, [.ref a_t_numbers, .ref a_t_lefts, .ref a_t_falls, .int f_t_lateCorner, .int f_t_earlyCorner])), (a_t_numbers, aI E 192 g_t_numbers)] := hD
                    refine lv_imul hx hb dX5_lookUp_225 ?_
                    refine lv_topi (fun x_346 ex_346 => ?_)
                    have bd_347 := i3_bd r_345
                    refine lv_iadd hx hb dX5_lookUp_226 ?_
                    refine lv_topi (fun x_348 ex_348 => ?_)
                    have bd_349 := i3_bd x_341
                    have bd_350 := i3_bd x_346
                    refine lv_istore (lv' := [(17, .int x_348), (16, .int 16), (15, .int 16), (14, .int r_335), (13, .int 1), (12, .int r_264), (11, .int x_263), (10, .int x_262), (9, .int 0), (8, .int 1), (7, .int x_3), (6, .int x_1), (0, .ref o_t), (1, .int p1), (2, .int p2), (3, .int p3), (4, .int p4), (5, .int p5)]) hx hb dX5_lookUp_227 hl (by decide) rfl (fun ls hl => ?_)
                    refine lv_iload hx hb dX5_lookUp_229 (lv_at hl 2 rfl) ?_
                    refine lv_iload hx hb dX5_lookUp_231 (lv_at hl 1 rfl) ?_
                    refine lv_imul hx hb dX5_lookUp_233 ?_
                    refine lv_cst (y := 256) (by decide) ?_
                    refine lv_istore (lv' := [(18, .int 256), (17, .int x_348), (16, .int 16), (15, .int 16), (14, .int r_335), (13, .int 1), (12, .int r_264), (11, .int x_263), (10, .int x_262), (9, .int 0), (8, .int 1), (7, .int x_3), (6, .int x_1), (0, .ref o_t), (1, .int p1), (2, .int p2), (3, .int p3), (4, .int p4), (5, .int p5)]) hx hb dX5_lookUp_234 hl (by decide) rfl (fun ls hl => ?_)
                    refine lv_iload hx hb dX5_lookUp_236 (lv_at hl 18 rfl) ?_
                    have b_p5 := r_p5.out
                    refine lv_if_eq (tgt := 254) hx hb dX5_lookUp_238 (by decide) (fun c_351 => ?_) (fun c_351 => ?_)
                    · have e_351 : p5.toInt = 0 := i3_eq c_351
                      refine lv_iload hx hb dX5_lookUp_254 (lv_at hl 1 rfl) ?_
                      refine lv_iload hx hb dX5_lookUp_256 (lv_at hl 0 rfl) ?_
                      refine lv_idiv hx hb dX5_lookUp_258 (by decide) ?_
                      refine lv_topi (fun x_352 ex_352 => ?_)
                      have bd_353 := i3_bd x_348
                      exact ret_i hx hb hr hlk (hP.sub (ws' := [(o_t, .inr (5, [.ref a_t_numbers, .ref a_t_lefts, .ref a_t_falls, .int f_t_lateCorner, .int f_t_earlyCorner])), (a_t_lefts, aI E 64 g_t_lefts), (a_t_numbers, aI E 192 g_t_numbers)]) [1, 0, 2] rfl) (hD.sub (ws' := [(o_t, .inr (5, [.ref a_t_numbers, .ref a_t_lefts, .ref a_t_falls, .int f_t_lateCorner, .int f_t_earlyCorner])), (a_t_lefts, aI E 64 g_t_lefts), (a_t_numbers, aI E 192 g_t_numbers)]) [1, 0, 2] (by decide) rfl) hS rfl dX5_lookUp_259 (Nat.le_of_ble_eq_true rfl) (Nat.le_of_ble_eq_true rfl) ⟨trivial, rfl⟩
                    · have e_351 : p5.toInt ≠ 0 := i3_ne c_351
                      refine lv_iload hx hb dX5_lookUp_241 (lv_at hl 1 rfl) ?_
                      refine lv_iload hx hb dX5_lookUp_243 (lv_at hl 0 rfl) ?_
                      refine lv_iadd hx hb dX5_lookUp_245 ?_
                      refine lv_topi (fun x_354 ex_354 => ?_)
                      have bd_355 := i3_bd x_348
                      refine lv_iconst (v := 1) hx hb dX5_lookUp_246 (by decide) ?_
                      refine lv_isub hx hb dX5_lookUp_247 ?_
                      refine lv_topi (fun x_356 ex_356 => ?_)
                      have bd_357 := i3_bd x_354
                      refine lv_iload hx hb dX5_lookUp_248 (lv_at hl 0 rfl) ?_
                      refine lv_idiv hx hb dX5_lookUp_250 (by decide) ?_
                      refine lv_topi (fun x_358 ex_358 => ?_)
                      have bd_359 := i3_bd x_356
                      refine lv_goto (tgt := 259) hx hb dX5_lookUp_251 (by decide) ?_
                      exact ret_i hx hb hr hlk (hP.sub (ws' := [(o_t, .inr (5, [.ref a_t_numbers, .ref a_t_lefts, .ref a_t_falls, .int f_t_lateCorner, .int f_t_earlyCorner])), (a_t_lefts, aI E 64 g_t_lefts), (a_t_numbers, aI E 192 g_t_numbers)]) [1, 0, 2] rfl) (hD.sub (ws' := [(o_t, .inr (5, [.ref a_t_numbers, .ref a_t_lefts, .ref a_t_falls, .int f_t_lateCorner, .int f_t_earlyCorner])), (a_t_lefts, aI E 64 g_t_lefts), (a_t_numbers, aI E 192 g_t_numbers)]) [1, 0, 2] (by decide) rfl) hS rfl dX5_lookUp_259 (Nat.le_of_ble_eq_true rfl) (Nat.le_of_ble_eq_true rfl) ⟨trivial, rfl⟩
            · have e_336 : r_335.toInt ≠ 0 := i3_ne c_336
              refine lv_iload hx hb dX5_lookUp_127 (lv_at hl 0 rfl) ?_
              exact ret_i hx hb hr hlk (hP.sub (ws' := [(o_t, .inr (5, [.ref a_t_numbers, .ref a_t_lefts, .ref a_t_falls, .int f_t_lateCorner, .int f_t_earlyCorner])), (a_t_lefts, aI E 64 g_t_lefts), (a_t_numbers, aI E 192 g_t_numbers)]) [1, 2, 0] rfl) (hD.sub (ws' := [(o_t, .inr (5, [.ref a_t_numbers, .ref a_t_lefts, .ref a_t_falls, .int f_t_lateCorner, .int f_t_earlyCorner])), (a_t_lefts, aI E 64 g_t_lefts), (a_t_numbers, aI E 192 g_t_numbers)]) [1, 2, 0] (by decide) rfl) hS rfl dX5_lookUp_129 (Nat.le_of_ble_eq_true rfl) (Nat.le_of_ble_eq_true rfl) ⟨trivial, rfl⟩
    · have hs_h_261 := i3_cs (c := 1) h_261 (by decide)
      subst hs_h_261
      have hk_h_261 : (1 : Int32).toInt = 1 := rfl
      refine lv_iload hx hb dX5_lookUp_43 (lv_at hl 3 rfl) ?_
      refine va_gets (C := "TimingHouse$Tables") (n := "LOAD_MARKS") (d := "[I") (own := RX5) (ref := "TimingHouse$Tables") hx hb hZ.1.1 hS hown (hto (.fieldLink RX5 31 "TimingHouse$Tables" "LOAD_MARKS" "[I") (by decide +kernel)) (fun _ h9 => h9) dX5_lookUp_45 ?_
      refine lv_iload hx hb dX5_lookUp_48 (lv_at hl 1 rfl) ?_
      refine va_ti (v := .int 8) hx hb hZ.1.2 hS (i3_in (by decide)) rfl dX5_lookUp_50 ?_
      refine lv_isub hx hb dX5_lookUp_51 ?_
      refine lv_topi (fun x_360 ex_360 => ?_)
      have tx_360 : x_360.toInt = x_1.toInt - 8 := i3_subc rfl rfl ex_360 (by omega)
      refine lv_istore (lv' := [(10, .int x_360), (9, .int 1), (8, .int 1), (7, .int x_3), (6, .int x_1), (0, .ref o_t), (1, .int p1), (2, .int p2), (3, .int p3), (4, .int p4), (5, .int p5)]) hx hb dX5_lookUp_52 hl (by decide) rfl (fun ls hl => ?_)
      refine lv_iload hx hb dX5_lookUp_54 (lv_at hl 3 rfl) ?_
      refine va_gets (C := "TimingHouse$Tables") (n := "SLOPE_MARKS") (d := "[I") (own := RX5) (ref := "TimingHouse$Tables") hx hb hZ.2.1.1 hS hown (hto (.fieldLink RX5 40 "TimingHouse$Tables" "SLOPE_MARKS" "[I") (by decide +kernel)) (fun _ h9 => h9) dX5_lookUp_56 ?_
      refine lv_iload hx hb dX5_lookUp_59 (lv_at hl 1 rfl) ?_
      refine va_ti (v := .int 16) hx hb hZ.2.1.2 hS (i3_in (by decide)) rfl dX5_lookUp_61 ?_
      refine lv_isub hx hb dX5_lookUp_62 ?_
      refine lv_topi (fun x_361 ex_361 => ?_)
      have tx_361 : x_361.toInt = x_3.toInt - 16 := i3_subc rfl rfl ex_361 (by omega)
      refine lv_istore (lv' := [(11, .int x_361), (10, .int x_360), (9, .int 1), (8, .int 1), (7, .int x_3), (6, .int x_1), (0, .ref o_t), (1, .int p1), (2, .int p2), (3, .int p3), (4, .int p4), (5, .int p5)]) hx hb dX5_lookUp_63 hl (by decide) rfl (fun ls hl => ?_)
      refine lv_iload_n hx hb dX5_lookUp_65 rfl (lv_at hl 7 rfl) ?_
      refine lv_iload_n hx hb dX5_lookUp_66 rfl (lv_at hl 8 rfl) ?_
      refine lv_iload hx hb dX5_lookUp_67 (lv_at hl 3 rfl) ?_
      have b_p1 := r_p1.out
      have b_p2 := r_p2.out
      refine call_i (va_runS (As := [.int p1, .int p2, .int 1]) (rest := []) ⟨hx, hb, hml, hown, hts⟩ (q_rowPlace l E p1 p2 1 r_p1 r_p2 (RG.mk (by decide)) H.size) (va_cwS 3 hts g_q_lookUp_q_rowPlace_47 rfl rfl rfl (by decide +kernel) ⟨Nat.le_of_ble_eq_true rfl, Nat.le_of_ble_eq_true rfl⟩) (pre_S hK hN hZ hS (va_free hD hS hA [] rfl) (hP.sub (ws' := []) [] rfl) (hD.sub (ws' := []) [] (by decide) rfl)) rfl rfl hl.1 rfl (lv_room (Nat.le_of_ble_eq_true rfl)) dX5_lookUp_69 ⟨Nat.le_of_ble_eq_true rfl, Nat.le_of_ble_eq_true rfl⟩) hP hD hS hA [] [0, 1, 2] (wr := [(o_t, .inr (5, [.ref a_t_numbers, .ref a_t_lefts, .ref a_t_falls, .int f_t_lateCorner, .int f_t_earlyCorner])), (a_t_lefts, aI E 64 g_t_lefts), (a_t_numbers, aI E 192 g_t_numbers)]) rfl rfl (by decide) (by decide) (fun r_362 w H locs hw hP hD hS => ?_)
      obtain ⟨b_r_362, l_r_362, rfl⟩ := hw
      replace l_r_362 : r_362.toInt = (p1.toInt * 2 + p2.toInt) * 4 + 1 := l_r_362
      replace hP : va_P E.1 vwCl [(o_t, .inr (5, [.ref a_t_numbers, .ref a_t_lefts, .ref a_t_falls, .int f_t_lateCorner, .int f_t_earlyCorner])), (a_t_lefts, aI E 64 g_t_lefts), (a_t_numbers, aI E 192 g_t_numbers)] H := hP
      replace hD : va_D A [(o_t, .inr (5, [.ref a_t_numbers, .ref a_t_lefts, .ref a_t_falls, .int f_t_lateCorner, .int f_t_earlyCorner])), (a_t_lefts, aI E 64 g_t_lefts), (a_t_numbers, aI E 192 g_t_numbers)] := hD
      refine lv_istore (lv' := [(12, .int r_362), (11, .int x_361), (10, .int x_360), (9, .int 1), (8, .int 1), (7, .int x_3), (6, .int x_1), (0, .ref o_t), (1, .int p1), (2, .int p2), (3, .int p3), (4, .int p4), (5, .int p5)]) hx hb dX5_lookUp_72 hl (by decide) rfl (fun ls hl => ?_)
      refine lv_iload hx hb dX5_lookUp_74 (lv_at hl 1 rfl) ?_
      refine lv_if_le (tgt := 86) hx hb dX5_lookUp_76 (by decide) (fun c_363 => ?_) (fun c_363 => ?_)
      · have e_363 : x_361.toInt ≤ 0 := i3_le c_363
        refine lv_iload hx hb dX5_lookUp_86 (lv_at hl 3 rfl) ?_
        refine lv_istore (lv' := [(13, .int 1), (12, .int r_362), (11, .int x_361), (10, .int x_360), (9, .int 1), (8, .int 1), (7, .int x_3), (6, .int x_1), (0, .ref o_t), (1, .int p1), (2, .int p2), (3, .int p3), (4, .int p4), (5, .int p5)]) hx hb dX5_lookUp_88 hl (by decide) rfl (fun ls hl => ?_)
        refine lv_aload_n hx hb dX5_lookUp_90 rfl (lv_at hl 8 rfl) ?_
        refine lv_iload hx hb dX5_lookUp_91 (lv_at hl 1 rfl) ?_
        refine lv_iload hx hb dX5_lookUp_93 (lv_at hl 0 rfl) ?_
        refine call_i (va_runV (As := [.int r_362, .int 1]) (rest := []) ⟨hx, hb, hml, hown, hts⟩ (q_whyAbsent l E o_t a_t_numbers a_t_lefts a_t_falls f_t_lateCorner f_t_earlyCorner r_362 1 g_t_lefts r_f_t_lateCorner r_f_t_earlyCorner i_g_t_lefts (RG.mk (by omega)) H.size) (cwV 2 hts g_q_lookUp_q_whyAbsent_51 rfl rfl rfl (by decide +kernel) ⟨Nat.le_of_ble_eq_true rfl, Nat.le_of_ble_eq_true rfl⟩) (pre_V hK hN hZ hS (va_free hD hS hA [0, 1] rfl) (hP.sub (ws' := [(o_t, .inr (5, [.ref a_t_numbers, .ref a_t_lefts, .ref a_t_falls, .int f_t_lateCorner, .int f_t_earlyCorner])), (a_t_lefts, aI E 64 g_t_lefts)]) [0, 1] rfl) (hD.sub (ws' := [(o_t, .inr (5, [.ref a_t_numbers, .ref a_t_lefts, .ref a_t_falls, .int f_t_lateCorner, .int f_t_earlyCorner])), (a_t_lefts, aI E 64 g_t_lefts)]) [0, 1] (by decide) rfl) (ci := 5) (q0 := 0) rfl rfl) rfl rfl hl.1 rfl (lv_room (Nat.le_of_ble_eq_true rfl)) dX5_lookUp_95 ⟨Nat.le_of_ble_eq_true rfl, Nat.le_of_ble_eq_true rfl⟩) hP hD hS hA [0, 1] [2] (wr := [(a_t_numbers, aI E 192 g_t_numbers)]) rfl rfl (by decide) (by decide) (fun r_364 w H locs hw hP hD hS => ?_)
        obtain ⟨b_r_364, rfl⟩ := hw
        replace hP : va_P E.1 vwCl [(a_t_numbers, aI E 192 g_t_numbers), (o_t, .inr (5, [.ref a_t_numbers, .ref a_t_lefts, .ref a_t_falls, .int f_t_lateCorner, .int f_t_earlyCorner])), (a_t_lefts, aI E 64 g_t_lefts)] H := hP
        replace hD : va_D A [(a_t_numbers, aI E 192 g_t_numbers), (o_t, .inr (5, [.ref a_t_numbers, .ref a_t_lefts, .ref a_t_falls, .int f_t_lateCorner, .int f_t_earlyCorner])), (a_t_lefts, aI E 64 g_t_lefts)] := hD
        refine lv_istore (lv' := [(14, .int r_364), (13, .int 1), (12, .int r_362), (11, .int x_361), (10, .int x_360), (9, .int 1), (8, .int 1), (7, .int x_3), (6, .int x_1), (0, .ref o_t), (1, .int p1), (2, .int p2), (3, .int p3), (4, .int p4), (5, .int p5)]) hx hb dX5_lookUp_98 hl (by decide) rfl (fun ls hl => ?_)
        refine lv_iload hx hb dX5_lookUp_100 (lv_at hl 0 rfl) ?_
        refine lv_if_ne (tgt := 122) hx hb dX5_lookUp_102 (by decide) (fun c_365 => ?_) (fun c_365 => ?_)
        · have e_365 : r_364.toInt ≠ 0 := i3_ne c_365
          refine lv_iload hx hb dX5_lookUp_122 (lv_at hl 0 rfl) ?_
          refine lv_if_eq (tgt := 130) hx hb dX5_lookUp_124 (by decide) (fun c_366 => ?_) (fun c_366 => ?_)
          · have e_366 : r_364.toInt = 0 := i3_eq c_366
            exfalso; omega
          · have e_366 : r_364.toInt ≠ 0 := i3_ne c_366
            refine lv_iload hx hb dX5_lookUp_127 (lv_at hl 0 rfl) ?_
            exact ret_i hx hb hr hlk (hP.sub (ws' := [(o_t, .inr (5, [.ref a_t_numbers, .ref a_t_lefts, .ref a_t_falls, .int f_t_lateCorner, .int f_t_earlyCorner])), (a_t_lefts, aI E 64 g_t_lefts), (a_t_numbers, aI E 192 g_t_numbers)]) [1, 2, 0] rfl) (hD.sub (ws' := [(o_t, .inr (5, [.ref a_t_numbers, .ref a_t_lefts, .ref a_t_falls, .int f_t_lateCorner, .int f_t_earlyCorner])), (a_t_lefts, aI E 64 g_t_lefts), (a_t_numbers, aI E 192 g_t_numbers)]) [1, 2, 0] (by decide) rfl) hS rfl dX5_lookUp_129 (Nat.le_of_ble_eq_true rfl) (Nat.le_of_ble_eq_true rfl) ⟨trivial, rfl⟩
        · have e_365 : r_364.toInt = 0 := i3_eq c_365
          refine lv_iload hx hb dX5_lookUp_105 (lv_at hl 4 rfl) ?_
          refine lv_if_le (tgt := 122) hx hb dX5_lookUp_107 (by decide) (fun c_367 => ?_) (fun c_367 => ?_)
          · have e_367 : x_360.toInt ≤ 0 := i3_le c_367
            refine lv_iload hx hb dX5_lookUp_122 (lv_at hl 0 rfl) ?_
            refine lv_if_eq (tgt := 130) hx hb dX5_lookUp_124 (by decide) (fun c_368 => ?_) (fun c_368 => ?_)
            · have e_368 : r_364.toInt = 0 := i3_eq c_368
              refine lv_iload hx hb dX5_lookUp_130 (lv_at hl 4 rfl) ?_
              refine lv_if_le (tgt := 153) hx hb dX5_lookUp_132 (by decide) (fun c_369 => ?_) (fun c_369 => ?_)
              · have e_369 : x_360.toInt ≤ 0 := i3_le c_369
                refine lv_iconst (v := 1) hx hb dX5_lookUp_153 (by decide) ?_
                refine lv_istore (lv' := [(15, .int 1), (14, .int r_364), (13, .int 1), (12, .int r_362), (11, .int x_361), (10, .int x_360), (9, .int 1), (8, .int 1), (7, .int x_3), (6, .int x_1), (0, .ref o_t), (1, .int p1), (2, .int p2), (3, .int p3), (4, .int p4), (5, .int p5)]) hx hb dX5_lookUp_154 hl (by decide) rfl (fun ls hl => ?_)
                refine lv_iload hx hb dX5_lookUp_156 (lv_at hl 4 rfl) ?_
                refine lv_if_le (tgt := 179) hx hb dX5_lookUp_158 (by decide) (fun c_370 => ?_) (fun c_370 => ?_)
                · have e_370 : x_361.toInt ≤ 0 := i3_le c_370
                  refine lv_iconst (v := 1) hx hb dX5_lookUp_179 (by decide) ?_
                  refine lv_istore (lv' := [(16, .int 1), (15, .int 1), (14, .int r_364), (13, .int 1), (12, .int r_362), (11, .int x_361), (10, .int x_360), (9, .int 1), (8, .int 1), (7, .int x_3), (6, .int x_1), (0, .ref o_t), (1, .int p1), (2, .int p2), (3, .int p3), (4, .int p4), (5, .int p5)]) hx hb dX5_lookUp_180 hl (by decide) rfl (fun ls hl => ?_)
                  refine lv_iload hx hb dX5_lookUp_182 (lv_at hl 1 rfl) ?_
                  refine lv_iload hx hb dX5_lookUp_184 (lv_at hl 6 rfl) ?_
                  refine lv_isub hx hb dX5_lookUp_186 ?_
                  refine lv_topi (fun x_371 ex_371 => ?_)
                  have tx_371 : x_371.toInt = 1 - x_360.toInt := i3_subc rfl rfl ex_371 (by omega)
                  refine lv_aload_n hx hb dX5_lookUp_187 rfl (lv_at hl 11 rfl) ?_
                  refine lv_iload hx hb dX5_lookUp_188 (lv_at hl 4 rfl) ?_
                  refine lv_iload hx hb dX5_lookUp_190 (lv_at hl 7 rfl) ?_
                  refine lv_iload hx hb dX5_lookUp_192 (lv_at hl 5 rfl) ?_
                  refine lv_iload hx hb dX5_lookUp_194 (lv_at hl 0 rfl) ?_
                  refine call_i (va_runV (As := [.int r_362, .int 1, .int x_361, .int 1]) (rest := [.int x_371]) ⟨hx, hb, hml, hown, hts⟩ (q_weighRow1 l E o_t a_t_numbers a_t_lefts a_t_falls f_t_lateCorner f_t_earlyCorner r_362 1 x_361 1 g_t_numbers r_f_t_lateCorner r_f_t_earlyCorner i_g_t_numbers (RG.mk (by omega)) (RG.mk (by decide)) H.size) (cwV 4 hts g_q_lookUp_q_weighRow1_54 rfl rfl rfl (by decide +kernel) ⟨Nat.le_of_ble_eq_true rfl, Nat.le_of_ble_eq_true rfl⟩) (pre_V hK hN hZ hS (va_free hD hS hA [1, 0] rfl) (hP.sub (ws' := [(o_t, .inr (5, [.ref a_t_numbers, .ref a_t_lefts, .ref a_t_falls, .int f_t_lateCorner, .int f_t_earlyCorner])), (a_t_numbers, aI E 192 g_t_numbers)]) [1, 0] rfl) (hD.sub (ws' := [(o_t, .inr (5, [.ref a_t_numbers, .ref a_t_lefts, .ref a_t_falls, .int f_t_lateCorner, .int f_t_earlyCorner])), (a_t_numbers, aI E 192 g_t_numbers)]) [1, 0] (by decide) rfl) (ci := 5) (q0 := 0) rfl rfl) rfl rfl hl.1 rfl (lv_room (Nat.le_of_ble_eq_true rfl)) dX5_lookUp_196 ⟨Nat.le_of_ble_eq_true rfl, Nat.le_of_ble_eq_true rfl⟩) hP hD hS hA [1, 0] [2] (wr := [(a_t_lefts, aI E 64 g_t_lefts)]) rfl rfl (by decide) (by decide) (fun r_372 w H locs hw hP hD hS => ?_)
                  obtain ⟨b_r_372, rfl⟩ := hw
                  replace hP : va_P E.1 vwCl [(a_t_lefts, aI E 64 g_t_lefts), (o_t, .inr (5, [.ref a_t_numbers, .ref a_t_lefts, .ref a_t_falls, .int f_t_lateCorner, .int f_t_earlyCorner])), (a_t_numbers, aI E 192 g_t_numbers)] H := hP
                  replace hD : va_D A [(a_t_lefts, aI E 64 g_t_lefts), (o_t, .inr (5, [.ref a_t_numbers, .ref a_t_lefts, .ref a_t_falls, .int f_t_lateCorner, .int f_t_earlyCorner])), (a_t_numbers, aI E 192 g_t_numbers)] := hD
                  refine lv_imul hx hb dX5_lookUp_199 ?_
                  refine lv_topi (fun x_373 ex_373 => ?_)
                  have bd_374 := i3_bd r_372
                  refine lv_istore (lv' := [(17, .int x_373), (16, .int 1), (15, .int 1), (14, .int r_364), (13, .int 1), (12, .int r_362), (11, .int x_361), (10, .int x_360), (9, .int 1), (8, .int 1), (7, .int x_3), (6, .int x_1), (0, .ref o_t), (1, .int p1), (2, .int p2), (3, .int p3), (4, .int p4), (5, .int p5)]) hx hb dX5_lookUp_200 hl (by decide) rfl (fun ls hl => ?_)
                  refine lv_iload hx hb dX5_lookUp_202 (lv_at hl 7 rfl) ?_
                  refine lv_if_le (tgt := 229) hx hb dX5_lookUp_204 (by decide) (fun c_375 => ?_) (fun c_375 => ?_)
                  · have e_375 : x_360.toInt ≤ 0 := i3_le c_375
                    refine lv_iload hx hb dX5_lookUp_229 (lv_at hl 2 rfl) ?_
                    refine lv_iload hx hb dX5_lookUp_231 (lv_at hl 1 rfl) ?_
                    refine lv_imul hx hb dX5_lookUp_233 ?_
                    refine lv_cst (y := 1) (by decide) ?_
                    refine lv_istore (lv' := [(18, .int 1), (17, .int x_373), (16, .int 1), (15, .int 1), (14, .int r_364), (13, .int 1), (12, .int r_362), (11, .int x_361), (10, .int x_360), (9, .int 1), (8, .int 1), (7, .int x_3), (6, .int x_1), (0, .ref o_t), (1, .int p1), (2, .int p2), (3, .int p3), (4, .int p4), (5, .int p5)]) hx hb dX5_lookUp_234 hl (by decide) rfl (fun ls hl => ?_)
                    refine lv_iload hx hb dX5_lookUp_236 (lv_at hl 18 rfl) ?_
                    have b_p5 := r_p5.out
                    refine lv_if_eq (tgt := 254) hx hb dX5_lookUp_238 (by decide) (fun c_376 => ?_) (fun c_376 => ?_)
                    · have e_376 : p5.toInt = 0 := i3_eq c_376
                      refine lv_iload hx hb dX5_lookUp_254 (lv_at hl 1 rfl) ?_
                      refine lv_iload hx hb dX5_lookUp_256 (lv_at hl 0 rfl) ?_
                      refine lv_idiv hx hb dX5_lookUp_258 (by decide) ?_
                      refine lv_topi (fun x_377 ex_377 => ?_)
                      have bd_378 := i3_bd x_373
                      exact ret_i hx hb hr hlk (hP.sub (ws' := [(o_t, .inr (5, [.ref a_t_numbers, .ref a_t_lefts, .ref a_t_falls, .int f_t_lateCorner, .int f_t_earlyCorner])), (a_t_lefts, aI E 64 g_t_lefts), (a_t_numbers, aI E 192 g_t_numbers)]) [1, 0, 2] rfl) (hD.sub (ws' := [(o_t, .inr (5, [.ref a_t_numbers, .ref a_t_lefts, .ref a_t_falls, .int f_t_lateCorner, .int f_t_earlyCorner])), (a_t_lefts, aI E 64 g_t_lefts), (a_t_numbers, aI E 192 g_t_numbers)]) [1, 0, 2] (by decide) rfl) hS rfl dX5_lookUp_259 (Nat.le_of_ble_eq_true rfl) (Nat.le_of_ble_eq_true rfl) ⟨trivial, rfl⟩
                    · have e_376 : p5.toInt ≠ 0 := i3_ne c_376
                      refine lv_iload hx hb dX5_lookUp_241 (lv_at hl 1 rfl) ?_
                      refine lv_iload hx hb dX5_lookUp_243 (lv_at hl 0 rfl) ?_
                      refine lv_iadd hx hb dX5_lookUp_245 ?_
                      refine lv_topi (fun x_379 ex_379 => ?_)
                      have bd_380 := i3_bd x_373
                      refine lv_iconst (v := 1) hx hb dX5_lookUp_246 (by decide) ?_
                      refine lv_isub hx hb dX5_lookUp_247 ?_
                      refine lv_topi (fun x_381 ex_381 => ?_)
                      have bd_382 := i3_bd x_379
                      refine lv_iload hx hb dX5_lookUp_248 (lv_at hl 0 rfl) ?_
                      refine lv_idiv hx hb dX5_lookUp_250 (by decide) ?_
                      refine lv_topi (fun x_383 ex_383 => ?_)
                      have bd_384 := i3_bd x_381
                      refine lv_goto (tgt := 259) hx hb dX5_lookUp_251 (by decide) ?_
                      exact ret_i hx hb hr hlk (hP.sub (ws' := [(o_t, .inr (5, [.ref a_t_numbers, .ref a_t_lefts, .ref a_t_falls, .int f_t_lateCorner, .int f_t_earlyCorner])), (a_t_lefts, aI E 64 g_t_lefts), (a_t_numbers, aI E 192 g_t_numbers)]) [1, 0, 2] rfl) (hD.sub (ws' := [(o_t, .inr (5, [.ref a_t_numbers, .ref a_t_lefts, .ref a_t_falls, .int f_t_lateCorner, .int f_t_earlyCorner])), (a_t_lefts, aI E 64 g_t_lefts), (a_t_numbers, aI E 192 g_t_numbers)]) [1, 0, 2] (by decide) rfl) hS rfl dX5_lookUp_259 (Nat.le_of_ble_eq_true rfl) (Nat.le_of_ble_eq_true rfl) ⟨trivial, rfl⟩
                  · have e_375 : 0 < x_360.toInt := i3_nle c_375
                    exfalso; omega
                · have e_370 : 0 < x_361.toInt := i3_nle c_370
                  exfalso; omega
              · have e_369 : 0 < x_360.toInt := i3_nle c_369
                exfalso; omega
            · have e_368 : r_364.toInt ≠ 0 := i3_ne c_368
              exfalso; omega
          · have e_367 : 0 < x_360.toInt := i3_nle c_367
            refine lv_aload_n hx hb dX5_lookUp_110 rfl (lv_at hl 9 rfl) ?_
            refine lv_iload hx hb dX5_lookUp_111 (lv_at hl 2 rfl) ?_
            refine lv_iconst (v := 1) hx hb dX5_lookUp_113 (by decide) ?_
            refine lv_iadd hx hb dX5_lookUp_114 ?_
            refine lv_topi (fun x_385 ex_385 => ?_)
            have tx_385 : x_385.toInt = r_362.toInt + 1 := i3_addc rfl rfl ex_385 (by omega)
            refine lv_iload hx hb dX5_lookUp_115 (lv_at hl 1 rfl) ?_
            refine call_i (va_runV (As := [.int x_385, .int 1]) (rest := []) ⟨hx, hb, hml, hown, hts⟩ (q_whyAbsent l E o_t a_t_numbers a_t_lefts a_t_falls f_t_lateCorner f_t_earlyCorner x_385 1 g_t_lefts r_f_t_lateCorner r_f_t_earlyCorner i_g_t_lefts (RG.mk (by omega)) H.size) (cwV 2 hts g_q_lookUp_q_whyAbsent_51 rfl rfl rfl (by decide +kernel) ⟨Nat.le_of_ble_eq_true rfl, Nat.le_of_ble_eq_true rfl⟩) (pre_V hK hN hZ hS (va_free hD hS hA [1, 2] rfl) (hP.sub (ws' := [(o_t, .inr (5, [.ref a_t_numbers, .ref a_t_lefts, .ref a_t_falls, .int f_t_lateCorner, .int f_t_earlyCorner])), (a_t_lefts, aI E 64 g_t_lefts)]) [1, 2] rfl) (hD.sub (ws' := [(o_t, .inr (5, [.ref a_t_numbers, .ref a_t_lefts, .ref a_t_falls, .int f_t_lateCorner, .int f_t_earlyCorner])), (a_t_lefts, aI E 64 g_t_lefts)]) [1, 2] (by decide) rfl) (ci := 5) (q0 := 0) rfl rfl) rfl rfl hl.1 rfl (lv_room (Nat.le_of_ble_eq_true rfl)) dX5_lookUp_117 ⟨Nat.le_of_ble_eq_true rfl, Nat.le_of_ble_eq_true rfl⟩) hP hD hS hA [1, 2] [0] (wr := [(a_t_numbers, aI E 192 g_t_numbers)]) rfl rfl (by decide) (by decide) (fun r_386 w H locs hw hP hD hS => ?_)
            obtain ⟨b_r_386, rfl⟩ := hw
            replace hP : va_P E.1 vwCl [(a_t_numbers, aI E 192 g_t_numbers), (o_t, .inr (5, [.ref a_t_numbers, .ref a_t_lefts, .ref a_t_falls, .int f_t_lateCorner, .int f_t_earlyCorner])), (a_t_lefts, aI E 64 g_t_lefts)] H := hP
            replace hD : va_D A [(a_t_numbers, aI E 192 g_t_numbers), (o_t, .inr (5, [.ref a_t_numbers, .ref a_t_lefts, .ref a_t_falls, .int f_t_lateCorner, .int f_t_earlyCorner])), (a_t_lefts, aI E 64 g_t_lefts)] := hD
            refine lv_istore (lv' := [(14, .int r_386), (13, .int 1), (12, .int r_362), (11, .int x_361), (10, .int x_360), (9, .int 1), (8, .int 1), (7, .int x_3), (6, .int x_1), (0, .ref o_t), (1, .int p1), (2, .int p2), (3, .int p3), (4, .int p4), (5, .int p5)]) hx hb dX5_lookUp_120 hl (by decide) rfl (fun ls hl => ?_)
            refine lv_iload hx hb dX5_lookUp_122 (lv_at hl 0 rfl) ?_
            refine lv_if_eq (tgt := 130) hx hb dX5_lookUp_124 (by decide) (fun c_387 => ?_) (fun c_387 => ?_)
            · have e_387 : r_386.toInt = 0 := i3_eq c_387
              refine lv_iload hx hb dX5_lookUp_130 (lv_at hl 4 rfl) ?_
              refine lv_if_le (tgt := 153) hx hb dX5_lookUp_132 (by decide) (fun c_388 => ?_) (fun c_388 => ?_)
              · have e_388 : x_360.toInt ≤ 0 := i3_le c_388
                exfalso; omega
              · have e_388 : 0 < x_360.toInt := i3_nle c_388
                refine va_gets (C := "TimingHouse$Tables") (n := "LOAD_MARKS") (d := "[I") (own := RX5) (ref := "TimingHouse$Tables") hx hb hZ.1.1 hS hown (hto (.fieldLink RX5 31 "TimingHouse$Tables" "LOAD_MARKS" "[I") (by decide +kernel)) (fun _ h9 => h9) dX5_lookUp_135 ?_
                refine lv_iload hx hb dX5_lookUp_138 (lv_at hl 6 rfl) ?_
                refine lv_iconst (v := 1) hx hb dX5_lookUp_140 (by decide) ?_
                refine lv_iadd hx hb dX5_lookUp_141 ?_
                refine lv_cst (y := 2) (by decide) ?_
                refine va_ti (v := .int 24) hx hb hZ.1.2 hS (i3_in (by decide)) rfl dX5_lookUp_142 ?_
                refine va_gets (C := "TimingHouse$Tables") (n := "LOAD_MARKS") (d := "[I") (own := RX5) (ref := "TimingHouse$Tables") hx hb hZ.1.1 hS hown (hto (.fieldLink RX5 31 "TimingHouse$Tables" "LOAD_MARKS" "[I") (by decide +kernel)) (fun _ h9 => h9) dX5_lookUp_143 ?_
                refine lv_iload hx hb dX5_lookUp_146 (lv_at hl 6 rfl) ?_
                refine va_ti (v := .int 8) hx hb hZ.1.2 hS (i3_in (by decide)) rfl dX5_lookUp_148 ?_
                refine lv_isub hx hb dX5_lookUp_149 ?_
                refine lv_cst (y := 16) (by decide) ?_
                refine lv_goto (tgt := 154) hx hb dX5_lookUp_150 (by decide) ?_
                refine lv_istore (lv' := [(15, .int 16), (14, .int r_386), (13, .int 1), (12, .int r_362), (11, .int x_361), (10, .int x_360), (9, .int 1), (8, .int 1), (7, .int x_3), (6, .int x_1), (0, .ref o_t), (1, .int p1), (2, .int p2), (3, .int p3), (4, .int p4), (5, .int p5)]) hx hb dX5_lookUp_154 hl (by decide) rfl (fun ls hl => ?_)
                refine lv_iload hx hb dX5_lookUp_156 (lv_at hl 4 rfl) ?_
                refine lv_if_le (tgt := 179) hx hb dX5_lookUp_158 (by decide) (fun c_389 => ?_) (fun c_389 => ?_)
                · have e_389 : x_361.toInt ≤ 0 := i3_le c_389
                  refine lv_iconst (v := 1) hx hb dX5_lookUp_179 (by decide) ?_
                  refine lv_istore (lv' := [(16, .int 1), (15, .int 16), (14, .int r_386), (13, .int 1), (12, .int r_362), (11, .int x_361), (10, .int x_360), (9, .int 1), (8, .int 1), (7, .int x_3), (6, .int x_1), (0, .ref o_t), (1, .int p1), (2, .int p2), (3, .int p3), (4, .int p4), (5, .int p5)]) hx hb dX5_lookUp_180 hl (by decide) rfl (fun ls hl => ?_)
                  refine lv_iload hx hb dX5_lookUp_182 (lv_at hl 1 rfl) ?_
                  refine lv_iload hx hb dX5_lookUp_184 (lv_at hl 6 rfl) ?_
                  refine lv_isub hx hb dX5_lookUp_186 ?_
                  refine lv_topi (fun x_390 ex_390 => ?_)
                  have tx_390 : x_390.toInt = 16 - x_360.toInt := i3_subc rfl rfl ex_390 (by omega)
                  refine lv_aload_n hx hb dX5_lookUp_187 rfl (lv_at hl 11 rfl) ?_
                  refine lv_iload hx hb dX5_lookUp_188 (lv_at hl 4 rfl) ?_
                  refine lv_iload hx hb dX5_lookUp_190 (lv_at hl 7 rfl) ?_
                  refine lv_iload hx hb dX5_lookUp_192 (lv_at hl 5 rfl) ?_
                  refine lv_iload hx hb dX5_lookUp_194 (lv_at hl 0 rfl) ?_
                  refine call_i (va_runV (As := [.int r_362, .int 1, .int x_361, .int 1]) (rest := [.int x_390]) ⟨hx, hb, hml, hown, hts⟩ (q_weighRow1 l E o_t a_t_numbers a_t_lefts a_t_falls f_t_lateCorner f_t_earlyCorner r_362 1 x_361 1 g_t_numbers r_f_t_lateCorner r_f_t_earlyCorner i_g_t_numbers (RG.mk (by omega)) (RG.mk (by decide)) H.size) (cwV 4 hts g_q_lookUp_q_weighRow1_54 rfl rfl rfl (by decide +kernel) ⟨Nat.le_of_ble_eq_true rfl, Nat.le_of_ble_eq_true rfl⟩) (pre_V hK hN hZ hS (va_free hD hS hA [1, 0] rfl) (hP.sub (ws' := [(o_t, .inr (5, [.ref a_t_numbers, .ref a_t_lefts, .ref a_t_falls, .int f_t_lateCorner, .int f_t_earlyCorner])), (a_t_numbers, aI E 192 g_t_numbers)]) [1, 0] rfl) (hD.sub (ws' := [(o_t, .inr (5, [.ref a_t_numbers, .ref a_t_lefts, .ref a_t_falls, .int f_t_lateCorner, .int f_t_earlyCorner])), (a_t_numbers, aI E 192 g_t_numbers)]) [1, 0] (by decide) rfl) (ci := 5) (q0 := 0) rfl rfl) rfl rfl hl.1 rfl (lv_room (Nat.le_of_ble_eq_true rfl)) dX5_lookUp_196 ⟨Nat.le_of_ble_eq_true rfl, Nat.le_of_ble_eq_true rfl⟩) hP hD hS hA [1, 0] [2] (wr := [(a_t_lefts, aI E 64 g_t_lefts)]) rfl rfl (by decide) (by decide) (fun r_391 w H locs hw hP hD hS => ?_)
                  obtain ⟨b_r_391, rfl⟩ := hw
                  replace hP : va_P E.1 vwCl [(a_t_lefts, aI E 64 g_t_lefts), (o_t, .inr (5, [.ref a_t_numbers, .ref a_t_lefts, .ref a_t_falls, .int f_t_lateCorner, .int f_t_earlyCorner])), (a_t_numbers, aI E 192 g_t_numbers)] H := hP
                  replace hD : va_D A [(a_t_lefts, aI E 64 g_t_lefts), (o_t, .inr (5, [.ref a_t_numbers, .ref a_t_lefts, .ref a_t_falls, .int f_t_lateCorner, .int f_t_earlyCorner])), (a_t_numbers, aI E 192 g_t_numbers)] := hD
                  refine lv_imul hx hb dX5_lookUp_199 ?_
                  refine lv_topi (fun x_392 ex_392 => ?_)
                  have bd_393 := i3_bd r_391
                  refine lv_istore (lv' := [(17, .int x_392), (16, .int 1), (15, .int 16), (14, .int r_386), (13, .int 1), (12, .int r_362), (11, .int x_361), (10, .int x_360), (9, .int 1), (8, .int 1), (7, .int x_3), (6, .int x_1), (0, .ref o_t), (1, .int p1), (2, .int p2), (3, .int p3), (4, .int p4), (5, .int p5)]) hx hb dX5_lookUp_200 hl (by decide) rfl (fun ls hl => ?_)
                  refine lv_iload hx hb dX5_lookUp_202 (lv_at hl 7 rfl) ?_
                  refine lv_if_le (tgt := 229) hx hb dX5_lookUp_204 (by decide) (fun c_394 => ?_) (fun c_394 => ?_)
                  · have e_394 : x_360.toInt ≤ 0 := i3_le c_394
                    exfalso; omega
                  · have e_394 : 0 < x_360.toInt := i3_nle c_394
                    refine lv_iload hx hb dX5_lookUp_207 (lv_at hl 0 rfl) ?_
                    refine lv_iload hx hb dX5_lookUp_209 (lv_at hl 7 rfl) ?_
                    refine lv_aload_n hx hb dX5_lookUp_211 rfl (lv_at hl 12 rfl) ?_
                    refine lv_iload hx hb dX5_lookUp_212 (lv_at hl 5 rfl) ?_
                    refine lv_iconst (v := 1) hx hb dX5_lookUp_214 (by decide) ?_
                    refine lv_iadd hx hb dX5_lookUp_215 ?_
                    refine lv_topi (fun x_395 ex_395 => ?_)
                    have hq_x_395 : x_385 = x_395 := ex_385.trans ex_395.symm
                    subst hq_x_395
                    refine lv_iload hx hb dX5_lookUp_216 (lv_at hl 8 rfl) ?_
                    refine lv_iload hx hb dX5_lookUp_218 (lv_at hl 6 rfl) ?_
                    refine lv_iload hx hb dX5_lookUp_220 (lv_at hl 1 rfl) ?_
                    refine call_i (va_runV (As := [.int x_385, .int 1, .int x_361, .int 1]) (rest := [.int x_360, .int x_392]) ⟨hx, hb, hml, hown, hts⟩ (q_weighRow1 l E o_t a_t_numbers a_t_lefts a_t_falls f_t_lateCorner f_t_earlyCorner x_385 1 x_361 1 g_t_numbers r_f_t_lateCorner r_f_t_earlyCorner i_g_t_numbers (RG.mk (by omega)) (RG.mk (by decide)) H.size) (cwV 4 hts g_q_lookUp_q_weighRow1_54 rfl rfl rfl (by decide +kernel) ⟨Nat.le_of_ble_eq_true rfl, Nat.le_of_ble_eq_true rfl⟩) (pre_V hK hN hZ hS (va_free hD hS hA [1, 2] rfl) (hP.sub (ws' := [(o_t, .inr (5, [.ref a_t_numbers, .ref a_t_lefts, .ref a_t_falls, .int f_t_lateCorner, .int f_t_earlyCorner])), (a_t_numbers, aI E 192 g_t_numbers)]) [1, 2] rfl) (hD.sub (ws' := [(o_t, .inr (5, [.ref a_t_numbers, .ref a_t_lefts, .ref a_t_falls, .int f_t_lateCorner, .int f_t_earlyCorner])), (a_t_numbers, aI E 192 g_t_numbers)]) [1, 2] (by decide) rfl) (ci := 5) (q0 := 0) rfl rfl) rfl rfl hl.1 rfl (lv_room (Nat.le_of_ble_eq_true rfl)) dX5_lookUp_222 ⟨Nat.le_of_ble_eq_true rfl, Nat.le_of_ble_eq_true rfl⟩) hP hD hS hA [1, 2] [0] (wr := [(a_t_lefts, aI E 64 g_t_lefts)]) rfl rfl (by decide) (by decide) (fun r_396 w H locs hw hP hD hS => ?_)
                    obtain ⟨b_r_396, rfl⟩ := hw
                    replace hP : va_P E.1 vwCl [(a_t_lefts, aI E 64 g_t_lefts), (o_t, .inr (5, [.ref a_t_numbers, .ref a_t_lefts, .ref a_t_falls, .int f_t_lateCorner, .int f_t_earlyCorner])), (a_t_numbers, aI E 192 g_t_numbers)] H := hP
                    replace hD : va_D A [(a_t_lefts, aI E 64 g_t_lefts), (o_t, .inr (5, [.ref a_t_numbers, .ref a_t_lefts, .ref a_t_falls, .int f_t_lateCorner, .int f_t_earlyCorner])), (a_t_numbers, aI E 192 g_t_numbers)] := hD
                    refine lv_imul hx hb dX5_lookUp_225 ?_
                    refine lv_topi (fun x_397 ex_397 => ?_)
                    have bd_398 := i3_bd r_396
                    refine lv_iadd hx hb dX5_lookUp_226 ?_
                    refine lv_topi (fun x_399 ex_399 => ?_)
                    have bd_400 := i3_bd x_392
                    have bd_401 := i3_bd x_397
                    refine lv_istore (lv' := [(17, .int x_399), (16, .int 1), (15, .int 16), (14, .int r_386), (13, .int 1), (12, .int r_362), (11, .int x_361), (10, .int x_360), (9, .int 1), (8, .int 1), (7, .int x_3), (6, .int x_1), (0, .ref o_t), (1, .int p1), (2, .int p2), (3, .int p3), (4, .int p4), (5, .int p5)]) hx hb dX5_lookUp_227 hl (by decide) rfl (fun ls hl => ?_)
                    refine lv_iload hx hb dX5_lookUp_229 (lv_at hl 2 rfl) ?_
                    refine lv_iload hx hb dX5_lookUp_231 (lv_at hl 1 rfl) ?_
                    refine lv_imul hx hb dX5_lookUp_233 ?_
                    refine lv_cst (y := 16) (by decide) ?_
                    refine lv_istore (lv' := [(18, .int 16), (17, .int x_399), (16, .int 1), (15, .int 16), (14, .int r_386), (13, .int 1), (12, .int r_362), (11, .int x_361), (10, .int x_360), (9, .int 1), (8, .int 1), (7, .int x_3), (6, .int x_1), (0, .ref o_t), (1, .int p1), (2, .int p2), (3, .int p3), (4, .int p4), (5, .int p5)]) hx hb dX5_lookUp_234 hl (by decide) rfl (fun ls hl => ?_)
                    refine lv_iload hx hb dX5_lookUp_236 (lv_at hl 18 rfl) ?_
                    have b_p5 := r_p5.out
                    refine lv_if_eq (tgt := 254) hx hb dX5_lookUp_238 (by decide) (fun c_402 => ?_) (fun c_402 => ?_)
                    · have e_402 : p5.toInt = 0 := i3_eq c_402
                      refine lv_iload hx hb dX5_lookUp_254 (lv_at hl 1 rfl) ?_
                      refine lv_iload hx hb dX5_lookUp_256 (lv_at hl 0 rfl) ?_
                      refine lv_idiv hx hb dX5_lookUp_258 (by decide) ?_
                      refine lv_topi (fun x_403 ex_403 => ?_)
                      have bd_404 := i3_bd x_399
                      exact ret_i hx hb hr hlk (hP.sub (ws' := [(o_t, .inr (5, [.ref a_t_numbers, .ref a_t_lefts, .ref a_t_falls, .int f_t_lateCorner, .int f_t_earlyCorner])), (a_t_lefts, aI E 64 g_t_lefts), (a_t_numbers, aI E 192 g_t_numbers)]) [1, 0, 2] rfl) (hD.sub (ws' := [(o_t, .inr (5, [.ref a_t_numbers, .ref a_t_lefts, .ref a_t_falls, .int f_t_lateCorner, .int f_t_earlyCorner])), (a_t_lefts, aI E 64 g_t_lefts), (a_t_numbers, aI E 192 g_t_numbers)]) [1, 0, 2] (by decide) rfl) hS rfl dX5_lookUp_259 (Nat.le_of_ble_eq_true rfl) (Nat.le_of_ble_eq_true rfl) ⟨trivial, rfl⟩
                    · have e_402 : p5.toInt ≠ 0 := i3_ne c_402
                      refine lv_iload hx hb dX5_lookUp_241 (lv_at hl 1 rfl) ?_
                      refine lv_iload hx hb dX5_lookUp_243 (lv_at hl 0 rfl) ?_
                      refine lv_iadd hx hb dX5_lookUp_245 ?_
                      refine lv_topi (fun x_405 ex_405 => ?_)
                      have bd_406 := i3_bd x_399
                      refine lv_iconst (v := 1) hx hb dX5_lookUp_246 (by decide) ?_
                      refine lv_isub hx hb dX5_lookUp_247 ?_
                      refine lv_topi (fun x_407 ex_407 => ?_)
                      have bd_408 := i3_bd x_405
                      refine lv_iload hx hb dX5_lookUp_248 (lv_at hl 0 rfl) ?_
                      refine lv_idiv hx hb dX5_lookUp_250 (by decide) ?_
                      refine lv_topi (fun x_409 ex_409 => ?_)
                      have bd_410 := i3_bd x_407
                      refine lv_goto (tgt := 259) hx hb dX5_lookUp_251 (by decide) ?_
                      exact ret_i hx hb hr hlk (hP.sub (ws' := [(o_t, .inr (5, [.ref a_t_numbers, .ref a_t_lefts, .ref a_t_falls, .int f_t_lateCorner, .int f_t_earlyCorner])), (a_t_lefts, aI E 64 g_t_lefts), (a_t_numbers, aI E 192 g_t_numbers)]) [1, 0, 2] rfl) (hD.sub (ws' := [(o_t, .inr (5, [.ref a_t_numbers, .ref a_t_lefts, .ref a_t_falls, .int f_t_lateCorner, .int f_t_earlyCorner])), (a_t_lefts, aI E 64 g_t_lefts), (a_t_numbers, aI E 192 g_t_numbers)]) [1, 0, 2] (by decide) rfl) hS rfl dX5_lookUp_259 (Nat.le_of_ble_eq_true rfl) (Nat.le_of_ble_eq_true rfl) ⟨trivial, rfl⟩
                · have e_389 : 0 < x_361.toInt := i3_nle c_389
                  exfalso; omega
            · have e_387 : r_386.toInt ≠ 0 := i3_ne c_387
              refine lv_iload hx hb dX5_lookUp_127 (lv_at hl 0 rfl) ?_
              exact ret_i hx hb hr hlk (hP.sub (ws' := [(o_t, .inr (5, [.ref a_t_numbers, .ref a_t_lefts, .ref a_t_falls, .int f_t_lateCorner, .int f_t_earlyCorner])), (a_t_lefts, aI E 64 g_t_lefts), (a_t_numbers, aI E 192 g_t_numbers)]) [1, 2, 0] rfl) (hD.sub (ws' := [(o_t, .inr (5, [.ref a_t_numbers, .ref a_t_lefts, .ref a_t_falls, .int f_t_lateCorner, .int f_t_earlyCorner])), (a_t_lefts, aI E 64 g_t_lefts), (a_t_numbers, aI E 192 g_t_numbers)]) [1, 2, 0] (by decide) rfl) hS rfl dX5_lookUp_129 (Nat.le_of_ble_eq_true rfl) (Nat.le_of_ble_eq_true rfl) ⟨trivial, rfl⟩
      · have e_363 : 0 < x_361.toInt := i3_nle c_363
        refine lv_iload hx hb dX5_lookUp_79 (lv_at hl 3 rfl) ?_
        refine lv_iconst (v := 1) hx hb dX5_lookUp_81 (by decide) ?_
        refine lv_iadd hx hb dX5_lookUp_82 ?_
        refine lv_cst (y := 2) (by decide) ?_
        refine lv_goto (tgt := 88) hx hb dX5_lookUp_83 (by decide) ?_
        refine lv_istore (lv' := [(13, .int 2), (12, .int r_362), (11, .int x_361), (10, .int x_360), (9, .int 1), (8, .int 1), (7, .int x_3), (6, .int x_1), (0, .ref o_t), (1, .int p1), (2, .int p2), (3, .int p3), (4, .int p4), (5, .int p5)]) hx hb dX5_lookUp_88 hl (by decide) rfl (fun ls hl => ?_)
        refine lv_aload_n hx hb dX5_lookUp_90 rfl (lv_at hl 8 rfl) ?_
        refine lv_iload hx hb dX5_lookUp_91 (lv_at hl 1 rfl) ?_
        refine lv_iload hx hb dX5_lookUp_93 (lv_at hl 0 rfl) ?_
        refine call_i (va_runV (As := [.int r_362, .int 2]) (rest := []) ⟨hx, hb, hml, hown, hts⟩ (q_whyAbsent l E o_t a_t_numbers a_t_lefts a_t_falls f_t_lateCorner f_t_earlyCorner r_362 2 g_t_lefts r_f_t_lateCorner r_f_t_earlyCorner i_g_t_lefts (RG.mk (by omega)) H.size) (cwV 2 hts g_q_lookUp_q_whyAbsent_51 rfl rfl rfl (by decide +kernel) ⟨Nat.le_of_ble_eq_true rfl, Nat.le_of_ble_eq_true rfl⟩) (pre_V hK hN hZ hS (va_free hD hS hA [0, 1] rfl) (hP.sub (ws' := [(o_t, .inr (5, [.ref a_t_numbers, .ref a_t_lefts, .ref a_t_falls, .int f_t_lateCorner, .int f_t_earlyCorner])), (a_t_lefts, aI E 64 g_t_lefts)]) [0, 1] rfl) (hD.sub (ws' := [(o_t, .inr (5, [.ref a_t_numbers, .ref a_t_lefts, .ref a_t_falls, .int f_t_lateCorner, .int f_t_earlyCorner])), (a_t_lefts, aI E 64 g_t_lefts)]) [0, 1] (by decide) rfl) (ci := 5) (q0 := 0) rfl rfl) rfl rfl hl.1 rfl (lv_room (Nat.le_of_ble_eq_true rfl)) dX5_lookUp_95 ⟨Nat.le_of_ble_eq_true rfl, Nat.le_of_ble_eq_true rfl⟩) hP hD hS hA [0, 1] [2] (wr := [(a_t_numbers, aI E 192 g_t_numbers)]) rfl rfl (by decide) (by decide) (fun r_411 w H locs hw hP hD hS => ?_)
        obtain ⟨b_r_411, rfl⟩ := hw
        replace hP : va_P E.1 vwCl [(a_t_numbers, aI E 192 g_t_numbers), (o_t, .inr (5, [.ref a_t_numbers, .ref a_t_lefts, .ref a_t_falls, .int f_t_lateCorner, .int f_t_earlyCorner])), (a_t_lefts, aI E 64 g_t_lefts)] H := hP
        replace hD : va_D A [(a_t_numbers, aI E 192 g_t_numbers), (o_t, .inr (5, [.ref a_t_numbers, .ref a_t_lefts, .ref a_t_falls, .int f_t_lateCorner, .int f_t_earlyCorner])), (a_t_lefts, aI E 64 g_t_lefts)] := hD
        refine lv_istore (lv' := [(14, .int r_411), (13, .int 2), (12, .int r_362), (11, .int x_361), (10, .int x_360), (9, .int 1), (8, .int 1), (7, .int x_3), (6, .int x_1), (0, .ref o_t), (1, .int p1), (2, .int p2), (3, .int p3), (4, .int p4), (5, .int p5)]) hx hb dX5_lookUp_98 hl (by decide) rfl (fun ls hl => ?_)
        refine lv_iload hx hb dX5_lookUp_100 (lv_at hl 0 rfl) ?_
        refine lv_if_ne (tgt := 122) hx hb dX5_lookUp_102 (by decide) (fun c_412 => ?_) (fun c_412 => ?_)
        · have e_412 : r_411.toInt ≠ 0 := i3_ne c_412
          refine lv_iload hx hb dX5_lookUp_122 (lv_at hl 0 rfl) ?_
          refine lv_if_eq (tgt := 130) hx hb dX5_lookUp_124 (by decide) (fun c_413 => ?_) (fun c_413 => ?_)
          · have e_413 : r_411.toInt = 0 := i3_eq c_413
            exfalso; omega
          · have e_413 : r_411.toInt ≠ 0 := i3_ne c_413
            refine lv_iload hx hb dX5_lookUp_127 (lv_at hl 0 rfl) ?_
            exact ret_i hx hb hr hlk (hP.sub (ws' := [(o_t, .inr (5, [.ref a_t_numbers, .ref a_t_lefts, .ref a_t_falls, .int f_t_lateCorner, .int f_t_earlyCorner])), (a_t_lefts, aI E 64 g_t_lefts), (a_t_numbers, aI E 192 g_t_numbers)]) [1, 2, 0] rfl) (hD.sub (ws' := [(o_t, .inr (5, [.ref a_t_numbers, .ref a_t_lefts, .ref a_t_falls, .int f_t_lateCorner, .int f_t_earlyCorner])), (a_t_lefts, aI E 64 g_t_lefts), (a_t_numbers, aI E 192 g_t_numbers)]) [1, 2, 0] (by decide) rfl) hS rfl dX5_lookUp_129 (Nat.le_of_ble_eq_true rfl) (Nat.le_of_ble_eq_true rfl) ⟨trivial, rfl⟩
        · have e_412 : r_411.toInt = 0 := i3_eq c_412
          refine lv_iload hx hb dX5_lookUp_105 (lv_at hl 4 rfl) ?_
          refine lv_if_le (tgt := 122) hx hb dX5_lookUp_107 (by decide) (fun c_414 => ?_) (fun c_414 => ?_)
          · have e_414 : x_360.toInt ≤ 0 := i3_le c_414
            refine lv_iload hx hb dX5_lookUp_122 (lv_at hl 0 rfl) ?_
            refine lv_if_eq (tgt := 130) hx hb dX5_lookUp_124 (by decide) (fun c_415 => ?_) (fun c_415 => ?_)
            · have e_415 : r_411.toInt = 0 := i3_eq c_415
              refine lv_iload hx hb dX5_lookUp_130 (lv_at hl 4 rfl) ?_
              refine lv_if_le (tgt := 153) hx hb dX5_lookUp_132 (by decide) (fun c_416 => ?_) (fun c_416 => ?_)
              · have e_416 : x_360.toInt ≤ 0 := i3_le c_416
                refine lv_iconst (v := 1) hx hb dX5_lookUp_153 (by decide) ?_
                refine lv_istore (lv' := [(15, .int 1), (14, .int r_411), (13, .int 2), (12, .int r_362), (11, .int x_361), (10, .int x_360), (9, .int 1), (8, .int 1), (7, .int x_3), (6, .int x_1), (0, .ref o_t), (1, .int p1), (2, .int p2), (3, .int p3), (4, .int p4), (5, .int p5)]) hx hb dX5_lookUp_154 hl (by decide) rfl (fun ls hl => ?_)
                refine lv_iload hx hb dX5_lookUp_156 (lv_at hl 4 rfl) ?_
                refine lv_if_le (tgt := 179) hx hb dX5_lookUp_158 (by decide) (fun c_417 => ?_) (fun c_417 => ?_)
                · have e_417 : x_361.toInt ≤ 0 := i3_le c_417
                  exfalso; omega
                · have e_417 : 0 < x_361.toInt := i3_nle c_417
                  refine va_gets (C := "TimingHouse$Tables") (n := "SLOPE_MARKS") (d := "[I") (own := RX5) (ref := "TimingHouse$Tables") hx hb hZ.2.1.1 hS hown (hto (.fieldLink RX5 40 "TimingHouse$Tables" "SLOPE_MARKS" "[I") (by decide +kernel)) (fun _ h9 => h9) dX5_lookUp_161 ?_
                  refine lv_iload hx hb dX5_lookUp_164 (lv_at hl 6 rfl) ?_
                  refine lv_iconst (v := 1) hx hb dX5_lookUp_166 (by decide) ?_
                  refine lv_iadd hx hb dX5_lookUp_167 ?_
                  refine lv_cst (y := 2) (by decide) ?_
                  refine va_ti (v := .int 64) hx hb hZ.2.1.2 hS (i3_in (by decide)) rfl dX5_lookUp_168 ?_
                  refine va_gets (C := "TimingHouse$Tables") (n := "SLOPE_MARKS") (d := "[I") (own := RX5) (ref := "TimingHouse$Tables") hx hb hZ.2.1.1 hS hown (hto (.fieldLink RX5 40 "TimingHouse$Tables" "SLOPE_MARKS" "[I") (by decide +kernel)) (fun _ h9 => h9) dX5_lookUp_169 ?_
                  refine lv_iload hx hb dX5_lookUp_172 (lv_at hl 6 rfl) ?_
                  refine va_ti (v := .int 16) hx hb hZ.2.1.2 hS (i3_in (by decide)) rfl dX5_lookUp_174 ?_
                  refine lv_isub hx hb dX5_lookUp_175 ?_
                  refine lv_cst (y := 48) (by decide) ?_
                  refine lv_goto (tgt := 180) hx hb dX5_lookUp_176 (by decide) ?_
                  refine lv_istore (lv' := [(16, .int 48), (15, .int 1), (14, .int r_411), (13, .int 2), (12, .int r_362), (11, .int x_361), (10, .int x_360), (9, .int 1), (8, .int 1), (7, .int x_3), (6, .int x_1), (0, .ref o_t), (1, .int p1), (2, .int p2), (3, .int p3), (4, .int p4), (5, .int p5)]) hx hb dX5_lookUp_180 hl (by decide) rfl (fun ls hl => ?_)
                  refine lv_iload hx hb dX5_lookUp_182 (lv_at hl 1 rfl) ?_
                  refine lv_iload hx hb dX5_lookUp_184 (lv_at hl 6 rfl) ?_
                  refine lv_isub hx hb dX5_lookUp_186 ?_
                  refine lv_topi (fun x_418 ex_418 => ?_)
                  have tx_418 : x_418.toInt = 1 - x_360.toInt := i3_subc rfl rfl ex_418 (by omega)
                  refine lv_aload_n hx hb dX5_lookUp_187 rfl (lv_at hl 11 rfl) ?_
                  refine lv_iload hx hb dX5_lookUp_188 (lv_at hl 4 rfl) ?_
                  refine lv_iload hx hb dX5_lookUp_190 (lv_at hl 7 rfl) ?_
                  refine lv_iload hx hb dX5_lookUp_192 (lv_at hl 5 rfl) ?_
                  refine lv_iload hx hb dX5_lookUp_194 (lv_at hl 0 rfl) ?_
                  refine call_i (va_runV (As := [.int r_362, .int 1, .int x_361, .int 48]) (rest := [.int x_418]) ⟨hx, hb, hml, hown, hts⟩ (q_weighRow1 l E o_t a_t_numbers a_t_lefts a_t_falls f_t_lateCorner f_t_earlyCorner r_362 1 x_361 48 g_t_numbers r_f_t_lateCorner r_f_t_earlyCorner i_g_t_numbers (RG.mk (by omega)) (RG.mk (by decide)) H.size) (cwV 4 hts g_q_lookUp_q_weighRow1_54 rfl rfl rfl (by decide +kernel) ⟨Nat.le_of_ble_eq_true rfl, Nat.le_of_ble_eq_true rfl⟩) (pre_V hK hN hZ hS (va_free hD hS hA [1, 0] rfl) (hP.sub (ws' := [(o_t, .inr (5, [.ref a_t_numbers, .ref a_t_lefts, .ref a_t_falls, .int f_t_lateCorner, .int f_t_earlyCorner])), (a_t_numbers, aI E 192 g_t_numbers)]) [1, 0] rfl) (hD.sub (ws' := [(o_t, .inr (5, [.ref a_t_numbers, .ref a_t_lefts, .ref a_t_falls, .int f_t_lateCorner, .int f_t_earlyCorner])), (a_t_numbers, aI E 192 g_t_numbers)]) [1, 0] (by decide) rfl) (ci := 5) (q0 := 0) rfl rfl) rfl rfl hl.1 rfl (lv_room (Nat.le_of_ble_eq_true rfl)) dX5_lookUp_196 ⟨Nat.le_of_ble_eq_true rfl, Nat.le_of_ble_eq_true rfl⟩) hP hD hS hA [1, 0] [2] (wr := [(a_t_lefts, aI E 64 g_t_lefts)]) rfl rfl (by decide) (by decide) (fun r_419 w H locs hw hP hD hS => ?_)
                  obtain ⟨b_r_419, rfl⟩ := hw
                  replace hP : va_P E.1 vwCl [(a_t_lefts, aI E 64 g_t_lefts), (o_t, .inr (5, [.ref a_t_numbers, .ref a_t_lefts, .ref a_t_falls, .int f_t_lateCorner, .int f_t_earlyCorner])), (a_t_numbers, aI E 192 g_t_numbers)] H := hP
                  replace hD : va_D A [(a_t_lefts, aI E 64 g_t_lefts), (o_t, .inr (5, [.ref a_t_numbers, .ref a_t_lefts, .ref a_t_falls, .int f_t_lateCorner, .int f_t_earlyCorner])), (a_t_numbers, aI E 192 g_t_numbers)] := hD
                  refine lv_imul hx hb dX5_lookUp_199 ?_
                  refine lv_topi (fun x_420 ex_420 => ?_)
                  have bd_421 := i3_bd r_419
                  refine lv_istore (lv' := [(17, .int x_420), (16, .int 48), (15, .int 1), (14, .int r_411), (13, .int 2), (12, .int r_362), (11, .int x_361), (10, .int x_360), (9, .int 1), (8, .int 1), (7, .int x_3), (6, .int x_1), (0, .ref o_t), (1, .int p1), (2, .int p2), (3, .int p3), (4, .int p4), (5, .int p5)]) hx hb dX5_lookUp_200 hl (by decide) rfl (fun ls hl => ?_)
                  refine lv_iload hx hb dX5_lookUp_202 (lv_at hl 7 rfl) ?_
                  refine lv_if_le (tgt := 229) hx hb dX5_lookUp_204 (by decide) (fun c_422 => ?_) (fun c_422 => ?_)
                  · have e_422 : x_360.toInt ≤ 0 := i3_le c_422
                    refine lv_iload hx hb dX5_lookUp_229 (lv_at hl 2 rfl) ?_
                    refine lv_iload hx hb dX5_lookUp_231 (lv_at hl 1 rfl) ?_
                    refine lv_imul hx hb dX5_lookUp_233 ?_
                    refine lv_cst (y := 48) (by decide) ?_
                    refine lv_istore (lv' := [(18, .int 48), (17, .int x_420), (16, .int 48), (15, .int 1), (14, .int r_411), (13, .int 2), (12, .int r_362), (11, .int x_361), (10, .int x_360), (9, .int 1), (8, .int 1), (7, .int x_3), (6, .int x_1), (0, .ref o_t), (1, .int p1), (2, .int p2), (3, .int p3), (4, .int p4), (5, .int p5)]) hx hb dX5_lookUp_234 hl (by decide) rfl (fun ls hl => ?_)
                    refine lv_iload hx hb dX5_lookUp_236 (lv_at hl 18 rfl) ?_
                    have b_p5 := r_p5.out
                    refine lv_if_eq (tgt := 254) hx hb dX5_lookUp_238 (by decide) (fun c_423 => ?_) (fun c_423 => ?_)
                    · have e_423 : p5.toInt = 0 := i3_eq c_423
                      refine lv_iload hx hb dX5_lookUp_254 (lv_at hl 1 rfl) ?_
                      refine lv_iload hx hb dX5_lookUp_256 (lv_at hl 0 rfl) ?_
                      refine lv_idiv hx hb dX5_lookUp_258 (by decide) ?_
                      refine lv_topi (fun x_424 ex_424 => ?_)
                      have bd_425 := i3_bd x_420
                      exact ret_i hx hb hr hlk (hP.sub (ws' := [(o_t, .inr (5, [.ref a_t_numbers, .ref a_t_lefts, .ref a_t_falls, .int f_t_lateCorner, .int f_t_earlyCorner])), (a_t_lefts, aI E 64 g_t_lefts), (a_t_numbers, aI E 192 g_t_numbers)]) [1, 0, 2] rfl) (hD.sub (ws' := [(o_t, .inr (5, [.ref a_t_numbers, .ref a_t_lefts, .ref a_t_falls, .int f_t_lateCorner, .int f_t_earlyCorner])), (a_t_lefts, aI E 64 g_t_lefts), (a_t_numbers, aI E 192 g_t_numbers)]) [1, 0, 2] (by decide) rfl) hS rfl dX5_lookUp_259 (Nat.le_of_ble_eq_true rfl) (Nat.le_of_ble_eq_true rfl) ⟨trivial, rfl⟩
                    · have e_423 : p5.toInt ≠ 0 := i3_ne c_423
                      refine lv_iload hx hb dX5_lookUp_241 (lv_at hl 1 rfl) ?_
                      refine lv_iload hx hb dX5_lookUp_243 (lv_at hl 0 rfl) ?_
                      refine lv_iadd hx hb dX5_lookUp_245 ?_
                      refine lv_topi (fun x_426 ex_426 => ?_)
                      have bd_427 := i3_bd x_420
                      refine lv_iconst (v := 1) hx hb dX5_lookUp_246 (by decide) ?_
                      refine lv_isub hx hb dX5_lookUp_247 ?_
                      refine lv_topi (fun x_428 ex_428 => ?_)
                      have bd_429 := i3_bd x_426
                      refine lv_iload hx hb dX5_lookUp_248 (lv_at hl 0 rfl) ?_
                      refine lv_idiv hx hb dX5_lookUp_250 (by decide) ?_
                      refine lv_topi (fun x_430 ex_430 => ?_)
                      have bd_431 := i3_bd x_428
                      refine lv_goto (tgt := 259) hx hb dX5_lookUp_251 (by decide) ?_
                      exact ret_i hx hb hr hlk (hP.sub (ws' := [(o_t, .inr (5, [.ref a_t_numbers, .ref a_t_lefts, .ref a_t_falls, .int f_t_lateCorner, .int f_t_earlyCorner])), (a_t_lefts, aI E 64 g_t_lefts), (a_t_numbers, aI E 192 g_t_numbers)]) [1, 0, 2] rfl) (hD.sub (ws' := [(o_t, .inr (5, [.ref a_t_numbers, .ref a_t_lefts, .ref a_t_falls, .int f_t_lateCorner, .int f_t_earlyCorner])), (a_t_lefts, aI E 64 g_t_lefts), (a_t_numbers, aI E 192 g_t_numbers)]) [1, 0, 2] (by decide) rfl) hS rfl dX5_lookUp_259 (Nat.le_of_ble_eq_true rfl) (Nat.le_of_ble_eq_true rfl) ⟨trivial, rfl⟩
                  · have e_422 : 0 < x_360.toInt := i3_nle c_422
                    exfalso; omega
              · have e_416 : 0 < x_360.toInt := i3_nle c_416
                exfalso; omega
            · have e_415 : r_411.toInt ≠ 0 := i3_ne c_415
              exfalso; omega
          · have e_414 : 0 < x_360.toInt := i3_nle c_414
            refine lv_aload_n hx hb dX5_lookUp_110 rfl (lv_at hl 9 rfl) ?_
            refine lv_iload hx hb dX5_lookUp_111 (lv_at hl 2 rfl) ?_
            refine lv_iconst (v := 1) hx hb dX5_lookUp_113 (by decide) ?_
            refine lv_iadd hx hb dX5_lookUp_114 ?_
            refine lv_topi (fun x_432 ex_432 => ?_)
            have tx_432 : x_432.toInt = r_362.toInt + 1 := i3_addc rfl rfl ex_432 (by omega)
            refine lv_iload hx hb dX5_lookUp_115 (lv_at hl 1 rfl) ?_
            refine call_i (va_runV (As := [.int x_432, .int 2]) (rest := []) ⟨hx, hb, hml, hown, hts⟩ (q_whyAbsent l E o_t a_t_numbers a_t_lefts a_t_falls f_t_lateCorner f_t_earlyCorner x_432 2 g_t_lefts r_f_t_lateCorner r_f_t_earlyCorner i_g_t_lefts (RG.mk (by omega)) H.size) (cwV 2 hts g_q_lookUp_q_whyAbsent_51 rfl rfl rfl (by decide +kernel) ⟨Nat.le_of_ble_eq_true rfl, Nat.le_of_ble_eq_true rfl⟩) (pre_V hK hN hZ hS (va_free hD hS hA [1, 2] rfl) (hP.sub (ws' := [(o_t, .inr (5, [.ref a_t_numbers, .ref a_t_lefts, .ref a_t_falls, .int f_t_lateCorner, .int f_t_earlyCorner])), (a_t_lefts, aI E 64 g_t_lefts)]) [1, 2] rfl) (hD.sub (ws' := [(o_t, .inr (5, [.ref a_t_numbers, .ref a_t_lefts, .ref a_t_falls, .int f_t_lateCorner, .int f_t_earlyCorner])), (a_t_lefts, aI E 64 g_t_lefts)]) [1, 2] (by decide) rfl) (ci := 5) (q0 := 0) rfl rfl) rfl rfl hl.1 rfl (lv_room (Nat.le_of_ble_eq_true rfl)) dX5_lookUp_117 ⟨Nat.le_of_ble_eq_true rfl, Nat.le_of_ble_eq_true rfl⟩) hP hD hS hA [1, 2] [0] (wr := [(a_t_numbers, aI E 192 g_t_numbers)]) rfl rfl (by decide) (by decide) (fun r_433 w H locs hw hP hD hS => ?_)
            obtain ⟨b_r_433, rfl⟩ := hw
            replace hP : va_P E.1 vwCl [(a_t_numbers, aI E 192 g_t_numbers), (o_t, .inr (5, [.ref a_t_numbers, .ref a_t_lefts, .ref a_t_falls, .int f_t_lateCorner, .int f_t_earlyCorner])), (a_t_lefts, aI E 64 g_t_lefts)] H := hP
            replace hD : va_D A [(a_t_numbers, aI E 192 g_t_numbers), (o_t, .inr (5, [.ref a_t_numbers, .ref a_t_lefts, .ref a_t_falls, .int f_t_lateCorner, .int f_t_earlyCorner])), (a_t_lefts, aI E 64 g_t_lefts)] := hD
            refine lv_istore (lv' := [(14, .int r_433), (13, .int 2), (12, .int r_362), (11, .int x_361), (10, .int x_360), (9, .int 1), (8, .int 1), (7, .int x_3), (6, .int x_1), (0, .ref o_t), (1, .int p1), (2, .int p2), (3, .int p3), (4, .int p4), (5, .int p5)]) hx hb dX5_lookUp_120 hl (by decide) rfl (fun ls hl => ?_)
            refine lv_iload hx hb dX5_lookUp_122 (lv_at hl 0 rfl) ?_
            refine lv_if_eq (tgt := 130) hx hb dX5_lookUp_124 (by decide) (fun c_434 => ?_) (fun c_434 => ?_)
            · have e_434 : r_433.toInt = 0 := i3_eq c_434
              refine lv_iload hx hb dX5_lookUp_130 (lv_at hl 4 rfl) ?_
              refine lv_if_le (tgt := 153) hx hb dX5_lookUp_132 (by decide) (fun c_435 => ?_) (fun c_435 => ?_)
              · have e_435 : x_360.toInt ≤ 0 := i3_le c_435
                exfalso; omega
              · have e_435 : 0 < x_360.toInt := i3_nle c_435
                refine va_gets (C := "TimingHouse$Tables") (n := "LOAD_MARKS") (d := "[I") (own := RX5) (ref := "TimingHouse$Tables") hx hb hZ.1.1 hS hown (hto (.fieldLink RX5 31 "TimingHouse$Tables" "LOAD_MARKS" "[I") (by decide +kernel)) (fun _ h9 => h9) dX5_lookUp_135 ?_
                refine lv_iload hx hb dX5_lookUp_138 (lv_at hl 6 rfl) ?_
                refine lv_iconst (v := 1) hx hb dX5_lookUp_140 (by decide) ?_
                refine lv_iadd hx hb dX5_lookUp_141 ?_
                refine lv_cst (y := 2) (by decide) ?_
                refine va_ti (v := .int 24) hx hb hZ.1.2 hS (i3_in (by decide)) rfl dX5_lookUp_142 ?_
                refine va_gets (C := "TimingHouse$Tables") (n := "LOAD_MARKS") (d := "[I") (own := RX5) (ref := "TimingHouse$Tables") hx hb hZ.1.1 hS hown (hto (.fieldLink RX5 31 "TimingHouse$Tables" "LOAD_MARKS" "[I") (by decide +kernel)) (fun _ h9 => h9) dX5_lookUp_143 ?_
                refine lv_iload hx hb dX5_lookUp_146 (lv_at hl 6 rfl) ?_
                refine va_ti (v := .int 8) hx hb hZ.1.2 hS (i3_in (by decide)) rfl dX5_lookUp_148 ?_
                refine lv_isub hx hb dX5_lookUp_149 ?_
                refine lv_cst (y := 16) (by decide) ?_
                refine lv_goto (tgt := 154) hx hb dX5_lookUp_150 (by decide) ?_
                refine lv_istore (lv' := [(15, .int 16), (14, .int r_433), (13, .int 2), (12, .int r_362), (11, .int x_361), (10, .int x_360), (9, .int 1), (8, .int 1), (7, .int x_3), (6, .int x_1), (0, .ref o_t), (1, .int p1), (2, .int p2), (3, .int p3), (4, .int p4), (5, .int p5)]) hx hb dX5_lookUp_154 hl (by decide) rfl (fun ls hl => ?_)
                refine lv_iload hx hb dX5_lookUp_156 (lv_at hl 4 rfl) ?_
                refine lv_if_le (tgt := 179) hx hb dX5_lookUp_158 (by decide) (fun c_436 => ?_) (fun c_436 => ?_)
                · have e_436 : x_361.toInt ≤ 0 := i3_le c_436
                  exfalso; omega
                · have e_436 : 0 < x_361.toInt := i3_nle c_436
                  refine va_gets (C := "TimingHouse$Tables") (n := "SLOPE_MARKS") (d := "[I") (own := RX5) (ref := "TimingHouse$Tables") hx hb hZ.2.1.1 hS hown (hto (.fieldLink RX5 40 "TimingHouse$Tables" "SLOPE_MARKS" "[I") (by decide +kernel)) (fun _ h9 => h9) dX5_lookUp_161 ?_
                  refine lv_iload hx hb dX5_lookUp_164 (lv_at hl 6 rfl) ?_
                  refine lv_iconst (v := 1) hx hb dX5_lookUp_166 (by decide) ?_
                  refine lv_iadd hx hb dX5_lookUp_167 ?_
                  refine lv_cst (y := 2) (by decide) ?_
                  refine va_ti (v := .int 64) hx hb hZ.2.1.2 hS (i3_in (by decide)) rfl dX5_lookUp_168 ?_
                  refine va_gets (C := "TimingHouse$Tables") (n := "SLOPE_MARKS") (d := "[I") (own := RX5) (ref := "TimingHouse$Tables") hx hb hZ.2.1.1 hS hown (hto (.fieldLink RX5 40 "TimingHouse$Tables" "SLOPE_MARKS" "[I") (by decide +kernel)) (fun _ h9 => h9) dX5_lookUp_169 ?_
                  refine lv_iload hx hb dX5_lookUp_172 (lv_at hl 6 rfl) ?_
                  refine va_ti (v := .int 16) hx hb hZ.2.1.2 hS (i3_in (by decide)) rfl dX5_lookUp_174 ?_
                  refine lv_isub hx hb dX5_lookUp_175 ?_
                  refine lv_cst (y := 48) (by decide) ?_
                  refine lv_goto (tgt := 180) hx hb dX5_lookUp_176 (by decide) ?_
                  refine lv_istore (lv' := [(16, .int 48), (15, .int 16), (14, .int r_433), (13, .int 2), (12, .int r_362), (11, .int x_361), (10, .int x_360), (9, .int 1), (8, .int 1), (7, .int x_3), (6, .int x_1), (0, .ref o_t), (1, .int p1), (2, .int p2), (3, .int p3), (4, .int p4), (5, .int p5)]) hx hb dX5_lookUp_180 hl (by decide) rfl (fun ls hl => ?_)
                  refine lv_iload hx hb dX5_lookUp_182 (lv_at hl 1 rfl) ?_
                  refine lv_iload hx hb dX5_lookUp_184 (lv_at hl 6 rfl) ?_
                  refine lv_isub hx hb dX5_lookUp_186 ?_
                  refine lv_topi (fun x_437 ex_437 => ?_)
                  have tx_437 : x_437.toInt = 16 - x_360.toInt := i3_subc rfl rfl ex_437 (by omega)
                  refine lv_aload_n hx hb dX5_lookUp_187 rfl (lv_at hl 11 rfl) ?_
                  refine lv_iload hx hb dX5_lookUp_188 (lv_at hl 4 rfl) ?_
                  refine lv_iload hx hb dX5_lookUp_190 (lv_at hl 7 rfl) ?_
                  refine lv_iload hx hb dX5_lookUp_192 (lv_at hl 5 rfl) ?_
                  refine lv_iload hx hb dX5_lookUp_194 (lv_at hl 0 rfl) ?_
                  refine call_i (va_runV (As := [.int r_362, .int 1, .int x_361, .int 48]) (rest := [.int x_437]) ⟨hx, hb, hml, hown, hts⟩ (q_weighRow1 l E o_t a_t_numbers a_t_lefts a_t_falls f_t_lateCorner f_t_earlyCorner r_362 1 x_361 48 g_t_numbers r_f_t_lateCorner r_f_t_earlyCorner i_g_t_numbers (RG.mk (by omega)) (RG.mk (by decide)) H.size) (cwV 4 hts g_q_lookUp_q_weighRow1_54 rfl rfl rfl (by decide +kernel) ⟨Nat.le_of_ble_eq_true rfl, Nat.le_of_ble_eq_true rfl⟩) (pre_V hK hN hZ hS (va_free hD hS hA [1, 0] rfl) (hP.sub (ws' := [(o_t, .inr (5, [.ref a_t_numbers, .ref a_t_lefts, .ref a_t_falls, .int f_t_lateCorner, .int f_t_earlyCorner])), (a_t_numbers, aI E 192 g_t_numbers)]) [1, 0] rfl) (hD.sub (ws' := [(o_t, .inr (5, [.ref a_t_numbers, .ref a_t_lefts, .ref a_t_falls, .int f_t_lateCorner, .int f_t_earlyCorner])), (a_t_numbers, aI E 192 g_t_numbers)]) [1, 0] (by decide) rfl) (ci := 5) (q0 := 0) rfl rfl) rfl rfl hl.1 rfl (lv_room (Nat.le_of_ble_eq_true rfl)) dX5_lookUp_196 ⟨Nat.le_of_ble_eq_true rfl, Nat.le_of_ble_eq_true rfl⟩) hP hD hS hA [1, 0] [2] (wr := [(a_t_lefts, aI E 64 g_t_lefts)]) rfl rfl (by decide) (by decide) (fun r_438 w H locs hw hP hD hS => ?_)
                  obtain ⟨b_r_438, rfl⟩ := hw
                  replace hP : va_P E.1 vwCl [(a_t_lefts, aI E 64 g_t_lefts), (o_t, .inr (5, [.ref a_t_numbers, .ref a_t_lefts, .ref a_t_falls, .int f_t_lateCorner, .int f_t_earlyCorner])), (a_t_numbers, aI E 192 g_t_numbers)] H := hP
                  replace hD : va_D A [(a_t_lefts, aI E 64 g_t_lefts), (o_t, .inr (5, [.ref a_t_numbers, .ref a_t_lefts, .ref a_t_falls, .int f_t_lateCorner, .int f_t_earlyCorner])), (a_t_numbers, aI E 192 g_t_numbers)] := hD
                  refine lv_imul hx hb dX5_lookUp_199 ?_
                  refine lv_topi (fun x_439 ex_439 => ?_)
                  have bd_440 := i3_bd r_438
                  refine lv_istore (lv' := [(17, .int x_439), (16, .int 48), (15, .int 16), (14, .int r_433), (13, .int 2), (12, .int r_362), (11, .int x_361), (10, .int x_360), (9, .int 1), (8, .int 1), (7, .int x_3), (6, .int x_1), (0, .ref o_t), (1, .int p1), (2, .int p2), (3, .int p3), (4, .int p4), (5, .int p5)]) hx hb dX5_lookUp_200 hl (by decide) rfl (fun ls hl => ?_)
                  refine lv_iload hx hb dX5_lookUp_202 (lv_at hl 7 rfl) ?_
                  refine lv_if_le (tgt := 229) hx hb dX5_lookUp_204 (by decide) (fun c_441 => ?_) (fun c_441 => ?_)
                  · have e_441 : x_360.toInt ≤ 0 := i3_le c_441
                    exfalso; omega
                  · have e_441 : 0 < x_360.toInt := i3_nle c_441
                    refine lv_iload hx hb dX5_lookUp_207 (lv_at hl 0 rfl) ?_
                    refine lv_iload hx hb dX5_lookUp_209 (lv_at hl 7 rfl) ?_
                    refine lv_aload_n hx hb dX5_lookUp_211 rfl (lv_at hl 12 rfl) ?_
                    refine lv_iload hx hb dX5_lookUp_212 (lv_at hl 5 rfl) ?_
                    refine lv_iconst (v := 1) hx hb dX5_lookUp_214 (by decide) ?_
                    refine lv_iadd hx hb dX5_lookUp_215 ?_
                    refine lv_topi (fun x_442 ex_442 => ?_)
                    have hq_x_442 : x_432 = x_442 := ex_432.trans ex_442.symm
                    subst hq_x_442
                    refine lv_iload hx hb dX5_lookUp_216 (lv_at hl 8 rfl) ?_
                    refine lv_iload hx hb dX5_lookUp_218 (lv_at hl 6 rfl) ?_
                    refine lv_iload hx hb dX5_lookUp_220 (lv_at hl 1 rfl) ?_
                    refine call_i (va_runV (As := [.int x_432, .int 1, .int x_361, .int 48]) (rest := [.int x_360, .int x_439]) ⟨hx, hb, hml, hown, hts⟩ (q_weighRow1 l E o_t a_t_numbers a_t_lefts a_t_falls f_t_lateCorner f_t_earlyCorner x_432 1 x_361 48 g_t_numbers r_f_t_lateCorner r_f_t_earlyCorner i_g_t_numbers (RG.mk (by omega)) (RG.mk (by decide)) H.size) (cwV 4 hts g_q_lookUp_q_weighRow1_54 rfl rfl rfl (by decide +kernel) ⟨Nat.le_of_ble_eq_true rfl, Nat.le_of_ble_eq_true rfl⟩) (pre_V hK hN hZ hS (va_free hD hS hA [1, 2] rfl) (hP.sub (ws' := [(o_t, .inr (5, [.ref a_t_numbers, .ref a_t_lefts, .ref a_t_falls, .int f_t_lateCorner, .int f_t_earlyCorner])), (a_t_numbers, aI E 192 g_t_numbers)]) [1, 2] rfl) (hD.sub (ws' := [(o_t, .inr (5, [.ref a_t_numbers, .ref a_t_lefts, .ref a_t_falls, .int f_t_lateCorner, .int f_t_earlyCorner])), (a_t_numbers, aI E 192 g_t_numbers)]) [1, 2] (by decide) rfl) (ci := 5) (q0 := 0) rfl rfl) rfl rfl hl.1 rfl (lv_room (Nat.le_of_ble_eq_true rfl)) dX5_lookUp_222 ⟨Nat.le_of_ble_eq_true rfl, Nat.le_of_ble_eq_true rfl⟩) hP hD hS hA [1, 2] [0] (wr := [(a_t_lefts, aI E 64 g_t_lefts)]) rfl rfl (by decide) (by decide) (fun r_443 w H locs hw hP hD hS => ?_)
                    obtain ⟨b_r_443, rfl⟩ := hw
                    replace hP : va_P E.1 vwCl [(a_t_lefts, aI E 64 g_t_lefts), (o_t, .inr (5, [.ref a_t_numbers, .ref a_t_lefts, .ref a_t_falls, .int f_t_lateCorner, .int f_t_earlyCorner])), (a_t_numbers, aI E 192 g_t_numbers)] H := hP
                    replace hD : va_D A [(a_t_lefts, aI E 64 g_t_lefts), (o_t, .inr (5, [.ref a_t_numbers, .ref a_t_lefts, .ref a_t_falls, .int f_t_lateCorner, .int f_t_earlyCorner])), (a_t_numbers, aI E 192 g_t_numbers)] := hD
                    refine lv_imul hx hb dX5_lookUp_225 ?_
                    refine lv_topi (fun x_444 ex_444 => ?_)
                    have bd_445 := i3_bd r_443
                    refine lv_iadd hx hb dX5_lookUp_226 ?_
                    refine lv_topi (fun x_446 ex_446 => ?_)
                    have bd_447 := i3_bd x_439
                    have bd_448 := i3_bd x_444
                    refine lv_istore (lv' := [(17, .int x_446), (16, .int 48), (15, .int 16), (14, .int r_433), (13, .int 2), (12, .int r_362), (11, .int x_361), (10, .int x_360), (9, .int 1), (8, .int 1), (7, .int x_3), (6, .int x_1), (0, .ref o_t), (1, .int p1), (2, .int p2), (3, .int p3), (4, .int p4), (5, .int p5)]) hx hb dX5_lookUp_227 hl (by decide) rfl (fun ls hl => ?_)
                    refine lv_iload hx hb dX5_lookUp_229 (lv_at hl 2 rfl) ?_
                    refine lv_iload hx hb dX5_lookUp_231 (lv_at hl 1 rfl) ?_
                    refine lv_imul hx hb dX5_lookUp_233 ?_
                    refine lv_cst (y := 768) (by decide) ?_
                    refine lv_istore (lv' := [(18, .int 768), (17, .int x_446), (16, .int 48), (15, .int 16), (14, .int r_433), (13, .int 2), (12, .int r_362), (11, .int x_361), (10, .int x_360), (9, .int 1), (8, .int 1), (7, .int x_3), (6, .int x_1), (0, .ref o_t), (1, .int p1), (2, .int p2), (3, .int p3), (4, .int p4), (5, .int p5)]) hx hb dX5_lookUp_234 hl (by decide) rfl (fun ls hl => ?_)
                    refine lv_iload hx hb dX5_lookUp_236 (lv_at hl 18 rfl) ?_
                    have b_p5 := r_p5.out
                    refine lv_if_eq (tgt := 254) hx hb dX5_lookUp_238 (by decide) (fun c_449 => ?_) (fun c_449 => ?_)
                    · have e_449 : p5.toInt = 0 := i3_eq c_449
                      refine lv_iload hx hb dX5_lookUp_254 (lv_at hl 1 rfl) ?_
                      refine lv_iload hx hb dX5_lookUp_256 (lv_at hl 0 rfl) ?_
                      refine lv_idiv hx hb dX5_lookUp_258 (by decide) ?_
                      refine lv_topi (fun x_450 ex_450 => ?_)
                      have bd_451 := i3_bd x_446
                      exact ret_i hx hb hr hlk (hP.sub (ws' := [(o_t, .inr (5, [.ref a_t_numbers, .ref a_t_lefts, .ref a_t_falls, .int f_t_lateCorner, .int f_t_earlyCorner])), (a_t_lefts, aI E 64 g_t_lefts), (a_t_numbers, aI E 192 g_t_numbers)]) [1, 0, 2] rfl) (hD.sub (ws' := [(o_t, .inr (5, [.ref a_t_numbers, .ref a_t_lefts, .ref a_t_falls, .int f_t_lateCorner, .int f_t_earlyCorner])), (a_t_lefts, aI E 64 g_t_lefts), (a_t_numbers, aI E 192 g_t_numbers)]) [1, 0, 2] (by decide) rfl) hS rfl dX5_lookUp_259 (Nat.le_of_ble_eq_true rfl) (Nat.le_of_ble_eq_true rfl) ⟨trivial, rfl⟩
                    · have e_449 : p5.toInt ≠ 0 := i3_ne c_449
                      refine lv_iload hx hb dX5_lookUp_241 (lv_at hl 1 rfl) ?_
                      refine lv_iload hx hb dX5_lookUp_243 (lv_at hl 0 rfl) ?_
                      refine lv_iadd hx hb dX5_lookUp_245 ?_
                      refine lv_topi (fun x_452 ex_452 => ?_)
                      have bd_453 := i3_bd x_446
                      refine lv_iconst (v := 1) hx hb dX5_lookUp_246 (by decide) ?_
                      refine lv_isub hx hb dX5_lookUp_247 ?_
                      refine lv_topi (fun x_454 ex_454 => ?_)
                      have bd_455 := i3_bd x_452
                      refine lv_iload hx hb dX5_lookUp_248 (lv_at hl 0 rfl) ?_
                      refine lv_idiv hx hb dX5_lookUp_250 (by decide) ?_
                      refine lv_topi (fun x_456 ex_456 => ?_)
                      have bd_457 := i3_bd x_454
                      refine lv_goto (tgt := 259) hx hb dX5_lookUp_251 (by decide) ?_
                      exact ret_i hx hb hr hlk (hP.sub (ws' := [(o_t, .inr (5, [.ref a_t_numbers, .ref a_t_lefts, .ref a_t_falls, .int f_t_lateCorner, .int f_t_earlyCorner])), (a_t_lefts, aI E 64 g_t_lefts), (a_t_numbers, aI E 192 g_t_numbers)]) [1, 0, 2] rfl) (hD.sub (ws' := [(o_t, .inr (5, [.ref a_t_numbers, .ref a_t_lefts, .ref a_t_falls, .int f_t_lateCorner, .int f_t_earlyCorner])), (a_t_lefts, aI E 64 g_t_lefts), (a_t_numbers, aI E 192 g_t_numbers)]) [1, 0, 2] (by decide) rfl) hS rfl dX5_lookUp_259 (Nat.le_of_ble_eq_true rfl) (Nat.le_of_ble_eq_true rfl) ⟨trivial, rfl⟩
            · have e_434 : r_433.toInt ≠ 0 := i3_ne c_434
              refine lv_iload hx hb dX5_lookUp_127 (lv_at hl 0 rfl) ?_
              exact ret_i hx hb hr hlk (hP.sub (ws' := [(o_t, .inr (5, [.ref a_t_numbers, .ref a_t_lefts, .ref a_t_falls, .int f_t_lateCorner, .int f_t_earlyCorner])), (a_t_lefts, aI E 64 g_t_lefts), (a_t_numbers, aI E 192 g_t_numbers)]) [1, 2, 0] rfl) (hD.sub (ws' := [(o_t, .inr (5, [.ref a_t_numbers, .ref a_t_lefts, .ref a_t_falls, .int f_t_lateCorner, .int f_t_earlyCorner])), (a_t_lefts, aI E 64 g_t_lefts), (a_t_numbers, aI E 192 g_t_numbers)]) [1, 2, 0] (by decide) rfl) hS rfl dX5_lookUp_129 (Nat.le_of_ble_eq_true rfl) (Nat.le_of_ble_eq_true rfl) ⟨trivial, rfl⟩
    · have hs_h_261 := i3_cs (c := 2) h_261 (by decide)
      subst hs_h_261
      have hk_h_261 : (2 : Int32).toInt = 2 := rfl
      refine lv_iload hx hb dX5_lookUp_43 (lv_at hl 3 rfl) ?_
      refine va_gets (C := "TimingHouse$Tables") (n := "LOAD_MARKS") (d := "[I") (own := RX5) (ref := "TimingHouse$Tables") hx hb hZ.1.1 hS hown (hto (.fieldLink RX5 31 "TimingHouse$Tables" "LOAD_MARKS" "[I") (by decide +kernel)) (fun _ h9 => h9) dX5_lookUp_45 ?_
      refine lv_iload hx hb dX5_lookUp_48 (lv_at hl 1 rfl) ?_
      refine va_ti (v := .int 8) hx hb hZ.1.2 hS (i3_in (by decide)) rfl dX5_lookUp_50 ?_
      refine lv_isub hx hb dX5_lookUp_51 ?_
      refine lv_topi (fun x_458 ex_458 => ?_)
      have tx_458 : x_458.toInt = x_1.toInt - 8 := i3_subc rfl rfl ex_458 (by omega)
      refine lv_istore (lv' := [(10, .int x_458), (9, .int 2), (8, .int 1), (7, .int x_3), (6, .int x_1), (0, .ref o_t), (1, .int p1), (2, .int p2), (3, .int p3), (4, .int p4), (5, .int p5)]) hx hb dX5_lookUp_52 hl (by decide) rfl (fun ls hl => ?_)
      refine lv_iload hx hb dX5_lookUp_54 (lv_at hl 3 rfl) ?_
      refine va_gets (C := "TimingHouse$Tables") (n := "SLOPE_MARKS") (d := "[I") (own := RX5) (ref := "TimingHouse$Tables") hx hb hZ.2.1.1 hS hown (hto (.fieldLink RX5 40 "TimingHouse$Tables" "SLOPE_MARKS" "[I") (by decide +kernel)) (fun _ h9 => h9) dX5_lookUp_56 ?_
      refine lv_iload hx hb dX5_lookUp_59 (lv_at hl 1 rfl) ?_
      refine va_ti (v := .int 64) hx hb hZ.2.1.2 hS (i3_in (by decide)) rfl dX5_lookUp_61 ?_
      refine lv_isub hx hb dX5_lookUp_62 ?_
      refine lv_topi (fun x_459 ex_459 => ?_)
      have tx_459 : x_459.toInt = x_3.toInt - 64 := i3_subc rfl rfl ex_459 (by omega)
      refine lv_istore (lv' := [(11, .int x_459), (10, .int x_458), (9, .int 2), (8, .int 1), (7, .int x_3), (6, .int x_1), (0, .ref o_t), (1, .int p1), (2, .int p2), (3, .int p3), (4, .int p4), (5, .int p5)]) hx hb dX5_lookUp_63 hl (by decide) rfl (fun ls hl => ?_)
      refine lv_iload_n hx hb dX5_lookUp_65 rfl (lv_at hl 7 rfl) ?_
      refine lv_iload_n hx hb dX5_lookUp_66 rfl (lv_at hl 8 rfl) ?_
      refine lv_iload hx hb dX5_lookUp_67 (lv_at hl 3 rfl) ?_
      have b_p1 := r_p1.out
      have b_p2 := r_p2.out
      refine call_i (va_runS (As := [.int p1, .int p2, .int 1]) (rest := []) ⟨hx, hb, hml, hown, hts⟩ (q_rowPlace l E p1 p2 1 r_p1 r_p2 (RG.mk (by decide)) H.size) (va_cwS 3 hts g_q_lookUp_q_rowPlace_47 rfl rfl rfl (by decide +kernel) ⟨Nat.le_of_ble_eq_true rfl, Nat.le_of_ble_eq_true rfl⟩) (pre_S hK hN hZ hS (va_free hD hS hA [] rfl) (hP.sub (ws' := []) [] rfl) (hD.sub (ws' := []) [] (by decide) rfl)) rfl rfl hl.1 rfl (lv_room (Nat.le_of_ble_eq_true rfl)) dX5_lookUp_69 ⟨Nat.le_of_ble_eq_true rfl, Nat.le_of_ble_eq_true rfl⟩) hP hD hS hA [] [0, 1, 2] (wr := [(o_t, .inr (5, [.ref a_t_numbers, .ref a_t_lefts, .ref a_t_falls, .int f_t_lateCorner, .int f_t_earlyCorner])), (a_t_lefts, aI E 64 g_t_lefts), (a_t_numbers, aI E 192 g_t_numbers)]) rfl rfl (by decide) (by decide) (fun r_460 w H locs hw hP hD hS => ?_)
      obtain ⟨b_r_460, l_r_460, rfl⟩ := hw
      replace l_r_460 : r_460.toInt = (p1.toInt * 2 + p2.toInt) * 4 + 1 := l_r_460
      replace hP : va_P E.1 vwCl [(o_t, .inr (5, [.ref a_t_numbers, .ref a_t_lefts, .ref a_t_falls, .int f_t_lateCorner, .int f_t_earlyCorner])), (a_t_lefts, aI E 64 g_t_lefts), (a_t_numbers, aI E 192 g_t_numbers)] H := hP
      replace hD : va_D A [(o_t, .inr (5, [.ref a_t_numbers, .ref a_t_lefts, .ref a_t_falls, .int f_t_lateCorner, .int f_t_earlyCorner])), (a_t_lefts, aI E 64 g_t_lefts), (a_t_numbers, aI E 192 g_t_numbers)] := hD
      refine lv_istore (lv' := [(12, .int r_460), (11, .int x_459), (10, .int x_458), (9, .int 2), (8, .int 1), (7, .int x_3), (6, .int x_1), (0, .ref o_t), (1, .int p1), (2, .int p2), (3, .int p3), (4, .int p4), (5, .int p5)]) hx hb dX5_lookUp_72 hl (by decide) rfl (fun ls hl => ?_)
      refine lv_iload hx hb dX5_lookUp_74 (lv_at hl 1 rfl) ?_
      refine lv_if_le (tgt := 86) hx hb dX5_lookUp_76 (by decide) (fun c_461 => ?_) (fun c_461 => ?_)
      · have e_461 : x_459.toInt ≤ 0 := i3_le c_461
        refine lv_iload hx hb dX5_lookUp_86 (lv_at hl 3 rfl) ?_
        refine lv_istore (lv' := [(13, .int 2), (12, .int r_460), (11, .int x_459), (10, .int x_458), (9, .int 2), (8, .int 1), (7, .int x_3), (6, .int x_1), (0, .ref o_t), (1, .int p1), (2, .int p2), (3, .int p3), (4, .int p4), (5, .int p5)]) hx hb dX5_lookUp_88 hl (by decide) rfl (fun ls hl => ?_)
        refine lv_aload_n hx hb dX5_lookUp_90 rfl (lv_at hl 8 rfl) ?_
        refine lv_iload hx hb dX5_lookUp_91 (lv_at hl 1 rfl) ?_
        refine lv_iload hx hb dX5_lookUp_93 (lv_at hl 0 rfl) ?_
        refine call_i (va_runV (As := [.int r_460, .int 2]) (rest := []) ⟨hx, hb, hml, hown, hts⟩ (q_whyAbsent l E o_t a_t_numbers a_t_lefts a_t_falls f_t_lateCorner f_t_earlyCorner r_460 2 g_t_lefts r_f_t_lateCorner r_f_t_earlyCorner i_g_t_lefts (RG.mk (by omega)) H.size) (cwV 2 hts g_q_lookUp_q_whyAbsent_51 rfl rfl rfl (by decide +kernel) ⟨Nat.le_of_ble_eq_true rfl, Nat.le_of_ble_eq_true rfl⟩) (pre_V hK hN hZ hS (va_free hD hS hA [0, 1] rfl) (hP.sub (ws' := [(o_t, .inr (5, [.ref a_t_numbers, .ref a_t_lefts, .ref a_t_falls, .int f_t_lateCorner, .int f_t_earlyCorner])), (a_t_lefts, aI E 64 g_t_lefts)]) [0, 1] rfl) (hD.sub (ws' := [(o_t, .inr (5, [.ref a_t_numbers, .ref a_t_lefts, .ref a_t_falls, .int f_t_lateCorner, .int f_t_earlyCorner])), (a_t_lefts, aI E 64 g_t_lefts)]) [0, 1] (by decide) rfl) (ci := 5) (q0 := 0) rfl rfl) rfl rfl hl.1 rfl (lv_room (Nat.le_of_ble_eq_true rfl)) dX5_lookUp_95 ⟨Nat.le_of_ble_eq_true rfl, Nat.le_of_ble_eq_true rfl⟩) hP hD hS hA [0, 1] [2] (wr := [(a_t_numbers, aI E 192 g_t_numbers)]) rfl rfl (by decide) (by decide) (fun r_462 w H locs hw hP hD hS => ?_)
        obtain ⟨b_r_462, rfl⟩ := hw
        replace hP : va_P E.1 vwCl [(a_t_numbers, aI E 192 g_t_numbers), (o_t, .inr (5, [.ref a_t_numbers, .ref a_t_lefts, .ref a_t_falls, .int f_t_lateCorner, .int f_t_earlyCorner])), (a_t_lefts, aI E 64 g_t_lefts)] H := hP
        replace hD : va_D A [(a_t_numbers, aI E 192 g_t_numbers), (o_t, .inr (5, [.ref a_t_numbers, .ref a_t_lefts, .ref a_t_falls, .int f_t_lateCorner, .int f_t_earlyCorner])), (a_t_lefts, aI E 64 g_t_lefts)] := hD
        refine lv_istore (lv' := [(14, .int r_462), (13, .int 2), (12, .int r_460), (11, .int x_459), (10, .int x_458), (9, .int 2), (8, .int 1), (7, .int x_3), (6, .int x_1), (0, .ref o_t), (1, .int p1), (2, .int p2), (3, .int p3), (4, .int p4), (5, .int p5)]) hx hb dX5_lookUp_98 hl (by decide) rfl (fun ls hl => ?_)
        refine lv_iload hx hb dX5_lookUp_100 (lv_at hl 0 rfl) ?_
        refine lv_if_ne (tgt := 122) hx hb dX5_lookUp_102 (by decide) (fun c_463 => ?_) (fun c_463 => ?_)
        · have e_463 : r_462.toInt ≠ 0 := i3_ne c_463
          refine lv_iload hx hb dX5_lookUp_122 (lv_at hl 0 rfl) ?_
          refine lv_if_eq (tgt := 130) hx hb dX5_lookUp_124 (by decide) (fun c_464 => ?_) (fun c_464 => ?_)
          · have e_464 : r_462.toInt = 0 := i3_eq c_464
            exfalso; omega
          · have e_464 : r_462.toInt ≠ 0 := i3_ne c_464
            refine lv_iload hx hb dX5_lookUp_127 (lv_at hl 0 rfl) ?_
            exact ret_i hx hb hr hlk (hP.sub (ws' := [(o_t, .inr (5, [.ref a_t_numbers, .ref a_t_lefts, .ref a_t_falls, .int f_t_lateCorner, .int f_t_earlyCorner])), (a_t_lefts, aI E 64 g_t_lefts), (a_t_numbers, aI E 192 g_t_numbers)]) [1, 2, 0] rfl) (hD.sub (ws' := [(o_t, .inr (5, [.ref a_t_numbers, .ref a_t_lefts, .ref a_t_falls, .int f_t_lateCorner, .int f_t_earlyCorner])), (a_t_lefts, aI E 64 g_t_lefts), (a_t_numbers, aI E 192 g_t_numbers)]) [1, 2, 0] (by decide) rfl) hS rfl dX5_lookUp_129 (Nat.le_of_ble_eq_true rfl) (Nat.le_of_ble_eq_true rfl) ⟨trivial, rfl⟩
        · have e_463 : r_462.toInt = 0 := i3_eq c_463
          refine lv_iload hx hb dX5_lookUp_105 (lv_at hl 4 rfl) ?_
          refine lv_if_le (tgt := 122) hx hb dX5_lookUp_107 (by decide) (fun c_465 => ?_) (fun c_465 => ?_)
          · have e_465 : x_458.toInt ≤ 0 := i3_le c_465
            refine lv_iload hx hb dX5_lookUp_122 (lv_at hl 0 rfl) ?_
            refine lv_if_eq (tgt := 130) hx hb dX5_lookUp_124 (by decide) (fun c_466 => ?_) (fun c_466 => ?_)
            · have e_466 : r_462.toInt = 0 := i3_eq c_466
              refine lv_iload hx hb dX5_lookUp_130 (lv_at hl 4 rfl) ?_
              refine lv_if_le (tgt := 153) hx hb dX5_lookUp_132 (by decide) (fun c_467 => ?_) (fun c_467 => ?_)
              · have e_467 : x_458.toInt ≤ 0 := i3_le c_467
                refine lv_iconst (v := 1) hx hb dX5_lookUp_153 (by decide) ?_
                refine lv_istore (lv' := [(15, .int 1), (14, .int r_462), (13, .int 2), (12, .int r_460), (11, .int x_459), (10, .int x_458), (9, .int 2), (8, .int 1), (7, .int x_3), (6, .int x_1), (0, .ref o_t), (1, .int p1), (2, .int p2), (3, .int p3), (4, .int p4), (5, .int p5)]) hx hb dX5_lookUp_154 hl (by decide) rfl (fun ls hl => ?_)
                refine lv_iload hx hb dX5_lookUp_156 (lv_at hl 4 rfl) ?_
                refine lv_if_le (tgt := 179) hx hb dX5_lookUp_158 (by decide) (fun c_468 => ?_) (fun c_468 => ?_)
                · have e_468 : x_459.toInt ≤ 0 := i3_le c_468
                  refine lv_iconst (v := 1) hx hb dX5_lookUp_179 (by decide) ?_
                  refine lv_istore (lv' := [(16, .int 1), (15, .int 1), (14, .int r_462), (13, .int 2), (12, .int r_460), (11, .int x_459), (10, .int x_458), (9, .int 2), (8, .int 1), (7, .int x_3), (6, .int x_1), (0, .ref o_t), (1, .int p1), (2, .int p2), (3, .int p3), (4, .int p4), (5, .int p5)]) hx hb dX5_lookUp_180 hl (by decide) rfl (fun ls hl => ?_)
                  refine lv_iload hx hb dX5_lookUp_182 (lv_at hl 1 rfl) ?_
                  refine lv_iload hx hb dX5_lookUp_184 (lv_at hl 6 rfl) ?_
                  refine lv_isub hx hb dX5_lookUp_186 ?_
                  refine lv_topi (fun x_469 ex_469 => ?_)
                  have tx_469 : x_469.toInt = 1 - x_458.toInt := i3_subc rfl rfl ex_469 (by omega)
                  refine lv_aload_n hx hb dX5_lookUp_187 rfl (lv_at hl 11 rfl) ?_
                  refine lv_iload hx hb dX5_lookUp_188 (lv_at hl 4 rfl) ?_
                  refine lv_iload hx hb dX5_lookUp_190 (lv_at hl 7 rfl) ?_
                  refine lv_iload hx hb dX5_lookUp_192 (lv_at hl 5 rfl) ?_
                  refine lv_iload hx hb dX5_lookUp_194 (lv_at hl 0 rfl) ?_
                  refine call_i (va_runV (As := [.int r_460, .int 2, .int x_459, .int 1]) (rest := [.int x_469]) ⟨hx, hb, hml, hown, hts⟩ (q_weighRow2 l E o_t a_t_numbers a_t_lefts a_t_falls f_t_lateCorner f_t_earlyCorner r_460 2 x_459 1 g_t_numbers r_f_t_lateCorner r_f_t_earlyCorner i_g_t_numbers (RG.mk (by omega)) (RG.mk (by decide)) (RG.mk (by omega)) H.size) (cwV 4 hts g_q_lookUp_q_weighRow2_54 rfl rfl rfl (by decide +kernel) ⟨Nat.le_of_ble_eq_true rfl, Nat.le_of_ble_eq_true rfl⟩) (pre_V hK hN hZ hS (va_free hD hS hA [1, 0] rfl) (hP.sub (ws' := [(o_t, .inr (5, [.ref a_t_numbers, .ref a_t_lefts, .ref a_t_falls, .int f_t_lateCorner, .int f_t_earlyCorner])), (a_t_numbers, aI E 192 g_t_numbers)]) [1, 0] rfl) (hD.sub (ws' := [(o_t, .inr (5, [.ref a_t_numbers, .ref a_t_lefts, .ref a_t_falls, .int f_t_lateCorner, .int f_t_earlyCorner])), (a_t_numbers, aI E 192 g_t_numbers)]) [1, 0] (by decide) rfl) (ci := 5) (q0 := 0) rfl rfl) rfl rfl hl.1 rfl (lv_room (Nat.le_of_ble_eq_true rfl)) dX5_lookUp_196 ⟨Nat.le_of_ble_eq_true rfl, Nat.le_of_ble_eq_true rfl⟩) hP hD hS hA [1, 0] [2] (wr := [(a_t_lefts, aI E 64 g_t_lefts)]) rfl rfl (by decide) (by decide) (fun r_470 w H locs hw hP hD hS => ?_)
                  obtain ⟨b_r_470, rfl⟩ := hw
                  replace hP : va_P E.1 vwCl [(a_t_lefts, aI E 64 g_t_lefts), (o_t, .inr (5, [.ref a_t_numbers, .ref a_t_lefts, .ref a_t_falls, .int f_t_lateCorner, .int f_t_earlyCorner])), (a_t_numbers, aI E 192 g_t_numbers)] H := hP
                  replace hD : va_D A [(a_t_lefts, aI E 64 g_t_lefts), (o_t, .inr (5, [.ref a_t_numbers, .ref a_t_lefts, .ref a_t_falls, .int f_t_lateCorner, .int f_t_earlyCorner])), (a_t_numbers, aI E 192 g_t_numbers)] := hD
                  refine lv_imul hx hb dX5_lookUp_199 ?_
                  refine lv_topi (fun x_471 ex_471 => ?_)
                  have bd_472 := i3_bd r_470
                  refine lv_istore (lv' := [(17, .int x_471), (16, .int 1), (15, .int 1), (14, .int r_462), (13, .int 2), (12, .int r_460), (11, .int x_459), (10, .int x_458), (9, .int 2), (8, .int 1), (7, .int x_3), (6, .int x_1), (0, .ref o_t), (1, .int p1), (2, .int p2), (3, .int p3), (4, .int p4), (5, .int p5)]) hx hb dX5_lookUp_200 hl (by decide) rfl (fun ls hl => ?_)
                  refine lv_iload hx hb dX5_lookUp_202 (lv_at hl 7 rfl) ?_
                  refine lv_if_le (tgt := 229) hx hb dX5_lookUp_204 (by decide) (fun c_473 => ?_) (fun c_473 => ?_)
                  · have e_473 : x_458.toInt ≤ 0 := i3_le c_473
                    refine lv_iload hx hb dX5_lookUp_229 (lv_at hl 2 rfl) ?_
                    refine lv_iload hx hb dX5_lookUp_231 (lv_at hl 1 rfl) ?_
                    refine lv_imul hx hb dX5_lookUp_233 ?_
                    refine lv_cst (y := 1) (by decide) ?_
                    refine lv_istore (lv' := [(18, .int 1), (17, .int x_471), (16, .int 1), (15, .int 1), (14, .int r_462), (13, .int 2), (12, .int r_460), (11, .int x_459), (10, .int x_458), (9, .int 2), (8, .int 1), (7, .int x_3), (6, .int x_1), (0, .ref o_t), (1, .int p1), (2, .int p2), (3, .int p3), (4, .int p4), (5, .int p5)]) hx hb dX5_lookUp_234 hl (by decide) rfl (fun ls hl => ?_)
                    refine lv_iload hx hb dX5_lookUp_236 (lv_at hl 18 rfl) ?_
                    have b_p5 := r_p5.out
                    refine lv_if_eq (tgt := 254) hx hb dX5_lookUp_238 (by decide) (fun c_474 => ?_) (fun c_474 => ?_)
                    · have e_474 : p5.toInt = 0 := i3_eq c_474
                      refine lv_iload hx hb dX5_lookUp_254 (lv_at hl 1 rfl) ?_
                      refine lv_iload hx hb dX5_lookUp_256 (lv_at hl 0 rfl) ?_
                      refine lv_idiv hx hb dX5_lookUp_258 (by decide) ?_
                      refine lv_topi (fun x_475 ex_475 => ?_)
                      have bd_476 := i3_bd x_471
                      exact ret_i hx hb hr hlk (hP.sub (ws' := [(o_t, .inr (5, [.ref a_t_numbers, .ref a_t_lefts, .ref a_t_falls, .int f_t_lateCorner, .int f_t_earlyCorner])), (a_t_lefts, aI E 64 g_t_lefts), (a_t_numbers, aI E 192 g_t_numbers)]) [1, 0, 2] rfl) (hD.sub (ws' := [(o_t, .inr (5, [.ref a_t_numbers, .ref a_t_lefts, .ref a_t_falls, .int f_t_lateCorner, .int f_t_earlyCorner])), (a_t_lefts, aI E 64 g_t_lefts), (a_t_numbers, aI E 192 g_t_numbers)]) [1, 0, 2] (by decide) rfl) hS rfl dX5_lookUp_259 (Nat.le_of_ble_eq_true rfl) (Nat.le_of_ble_eq_true rfl) ⟨trivial, rfl⟩
                    · have e_474 : p5.toInt ≠ 0 := i3_ne c_474
                      refine lv_iload hx hb dX5_lookUp_241 (lv_at hl 1 rfl) ?_
                      refine lv_iload hx hb dX5_lookUp_243 (lv_at hl 0 rfl) ?_
                      refine lv_iadd hx hb dX5_lookUp_245 ?_
                      refine lv_topi (fun x_477 ex_477 => ?_)
                      have bd_478 := i3_bd x_471
                      refine lv_iconst (v := 1) hx hb dX5_lookUp_246 (by decide) ?_
                      refine lv_isub hx hb dX5_lookUp_247 ?_
                      refine lv_topi (fun x_479 ex_479 => ?_)
                      have bd_480 := i3_bd x_477
                      refine lv_iload hx hb dX5_lookUp_248 (lv_at hl 0 rfl) ?_
                      refine lv_idiv hx hb dX5_lookUp_250 (by decide) ?_
                      refine lv_topi (fun x_481 ex_481 => ?_)
                      have bd_482 := i3_bd x_479
                      refine lv_goto (tgt := 259) hx hb dX5_lookUp_251 (by decide) ?_
                      exact ret_i hx hb hr hlk (hP.sub (ws' := [(o_t, .inr (5, [.ref a_t_numbers, .ref a_t_lefts, .ref a_t_falls, .int f_t_lateCorner, .int f_t_earlyCorner])), (a_t_lefts, aI E 64 g_t_lefts), (a_t_numbers, aI E 192 g_t_numbers)]) [1, 0, 2] rfl) (hD.sub (ws' := [(o_t, .inr (5, [.ref a_t_numbers, .ref a_t_lefts, .ref a_t_falls, .int f_t_lateCorner, .int f_t_earlyCorner])), (a_t_lefts, aI E 64 g_t_lefts), (a_t_numbers, aI E 192 g_t_numbers)]) [1, 0, 2] (by decide) rfl) hS rfl dX5_lookUp_259 (Nat.le_of_ble_eq_true rfl) (Nat.le_of_ble_eq_true rfl) ⟨trivial, rfl⟩
                  · have e_473 : 0 < x_458.toInt := i3_nle c_473
                    exfalso; omega
                · have e_468 : 0 < x_459.toInt := i3_nle c_468
                  exfalso; omega
              · have e_467 : 0 < x_458.toInt := i3_nle c_467
                exfalso; omega
            · have e_466 : r_462.toInt ≠ 0 := i3_ne c_466
              exfalso; omega
          · have e_465 : 0 < x_458.toInt := i3_nle c_465
            refine lv_aload_n hx hb dX5_lookUp_110 rfl (lv_at hl 9 rfl) ?_
            refine lv_iload hx hb dX5_lookUp_111 (lv_at hl 2 rfl) ?_
            refine lv_iconst (v := 1) hx hb dX5_lookUp_113 (by decide) ?_
            refine lv_iadd hx hb dX5_lookUp_114 ?_
            refine lv_topi (fun x_483 ex_483 => ?_)
            have tx_483 : x_483.toInt = r_460.toInt + 1 := i3_addc rfl rfl ex_483 (by omega)
            refine lv_iload hx hb dX5_lookUp_115 (lv_at hl 1 rfl) ?_
            refine call_i (va_runV (As := [.int x_483, .int 2]) (rest := []) ⟨hx, hb, hml, hown, hts⟩ (q_whyAbsent l E o_t a_t_numbers a_t_lefts a_t_falls f_t_lateCorner f_t_earlyCorner x_483 2 g_t_lefts r_f_t_lateCorner r_f_t_earlyCorner i_g_t_lefts (RG.mk (by omega)) H.size) (cwV 2 hts g_q_lookUp_q_whyAbsent_51 rfl rfl rfl (by decide +kernel) ⟨Nat.le_of_ble_eq_true rfl, Nat.le_of_ble_eq_true rfl⟩) (pre_V hK hN hZ hS (va_free hD hS hA [1, 2] rfl) (hP.sub (ws' := [(o_t, .inr (5, [.ref a_t_numbers, .ref a_t_lefts, .ref a_t_falls, .int f_t_lateCorner, .int f_t_earlyCorner])), (a_t_lefts, aI E 64 g_t_lefts)]) [1, 2] rfl) (hD.sub (ws' := [(o_t, .inr (5, [.ref a_t_numbers, .ref a_t_lefts, .ref a_t_falls, .int f_t_lateCorner, .int f_t_earlyCorner])), (a_t_lefts, aI E 64 g_t_lefts)]) [1, 2] (by decide) rfl) (ci := 5) (q0 := 0) rfl rfl) rfl rfl hl.1 rfl (lv_room (Nat.le_of_ble_eq_true rfl)) dX5_lookUp_117 ⟨Nat.le_of_ble_eq_true rfl, Nat.le_of_ble_eq_true rfl⟩) hP hD hS hA [1, 2] [0] (wr := [(a_t_numbers, aI E 192 g_t_numbers)]) rfl rfl (by decide) (by decide) (fun r_484 w H locs hw hP hD hS => ?_)
            obtain ⟨b_r_484, rfl⟩ := hw
            replace hP : va_P E.1 vwCl [(a_t_numbers, aI E 192 g_t_numbers), (o_t, .inr (5, [.ref a_t_numbers, .ref a_t_lefts, .ref a_t_falls, .int f_t_lateCorner, .int f_t_earlyCorner])), (a_t_lefts, aI E 64 g_t_lefts)] H := hP
            replace hD : va_D A [(a_t_numbers, aI E 192 g_t_numbers), (o_t, .inr (5, [.ref a_t_numbers, .ref a_t_lefts, .ref a_t_falls, .int f_t_lateCorner, .int f_t_earlyCorner])), (a_t_lefts, aI E 64 g_t_lefts)] := hD
            refine lv_istore (lv' := [(14, .int r_484), (13, .int 2), (12, .int r_460), (11, .int x_459), (10, .int x_458), (9, .int 2), (8, .int 1), (7, .int x_3), (6, .int x_1), (0, .ref o_t), (1, .int p1), (2, .int p2), (3, .int p3), (4, .int p4), (5, .int p5)]) hx hb dX5_lookUp_120 hl (by decide) rfl (fun ls hl => ?_)
            refine lv_iload hx hb dX5_lookUp_122 (lv_at hl 0 rfl) ?_
            refine lv_if_eq (tgt := 130) hx hb dX5_lookUp_124 (by decide) (fun c_485 => ?_) (fun c_485 => ?_)
            · have e_485 : r_484.toInt = 0 := i3_eq c_485
              refine lv_iload hx hb dX5_lookUp_130 (lv_at hl 4 rfl) ?_
              refine lv_if_le (tgt := 153) hx hb dX5_lookUp_132 (by decide) (fun c_486 => ?_) (fun c_486 => ?_)
              · have e_486 : x_458.toInt ≤ 0 := i3_le c_486
                exfalso; omega
              · have e_486 : 0 < x_458.toInt := i3_nle c_486
                refine va_gets (C := "TimingHouse$Tables") (n := "LOAD_MARKS") (d := "[I") (own := RX5) (ref := "TimingHouse$Tables") hx hb hZ.1.1 hS hown (hto (.fieldLink RX5 31 "TimingHouse$Tables" "LOAD_MARKS" "[I") (by decide +kernel)) (fun _ h9 => h9) dX5_lookUp_135 ?_
                refine lv_iload hx hb dX5_lookUp_138 (lv_at hl 6 rfl) ?_
                refine lv_iconst (v := 1) hx hb dX5_lookUp_140 (by decide) ?_
                refine lv_iadd hx hb dX5_lookUp_141 ?_
                refine lv_cst (y := 2) (by decide) ?_
                refine va_ti (v := .int 24) hx hb hZ.1.2 hS (i3_in (by decide)) rfl dX5_lookUp_142 ?_
                refine va_gets (C := "TimingHouse$Tables") (n := "LOAD_MARKS") (d := "[I") (own := RX5) (ref := "TimingHouse$Tables") hx hb hZ.1.1 hS hown (hto (.fieldLink RX5 31 "TimingHouse$Tables" "LOAD_MARKS" "[I") (by decide +kernel)) (fun _ h9 => h9) dX5_lookUp_143 ?_
                refine lv_iload hx hb dX5_lookUp_146 (lv_at hl 6 rfl) ?_
                refine va_ti (v := .int 8) hx hb hZ.1.2 hS (i3_in (by decide)) rfl dX5_lookUp_148 ?_
                refine lv_isub hx hb dX5_lookUp_149 ?_
                refine lv_cst (y := 16) (by decide) ?_
                refine lv_goto (tgt := 154) hx hb dX5_lookUp_150 (by decide) ?_
                refine lv_istore (lv' := [(15, .int 16), (14, .int r_484), (13, .int 2), (12, .int r_460), (11, .int x_459), (10, .int x_458), (9, .int 2), (8, .int 1), (7, .int x_3), (6, .int x_1), (0, .ref o_t), (1, .int p1), (2, .int p2), (3, .int p3), (4, .int p4), (5, .int p5)]) hx hb dX5_lookUp_154 hl (by decide) rfl (fun ls hl => ?_)
                refine lv_iload hx hb dX5_lookUp_156 (lv_at hl 4 rfl) ?_
                refine lv_if_le (tgt := 179) hx hb dX5_lookUp_158 (by decide) (fun c_487 => ?_) (fun c_487 => ?_)
                · have e_487 : x_459.toInt ≤ 0 := i3_le c_487
                  refine lv_iconst (v := 1) hx hb dX5_lookUp_179 (by decide) ?_
                  refine lv_istore (lv' := [(16, .int 1), (15, .int 16), (14, .int r_484), (13, .int 2), (12, .int r_460), (11, .int x_459), (10, .int x_458), (9, .int 2), (8, .int 1), (7, .int x_3), (6, .int x_1), (0, .ref o_t), (1, .int p1), (2, .int p2), (3, .int p3), (4, .int p4), (5, .int p5)]) hx hb dX5_lookUp_180 hl (by decide) rfl (fun ls hl => ?_)
                  refine lv_iload hx hb dX5_lookUp_182 (lv_at hl 1 rfl) ?_
                  refine lv_iload hx hb dX5_lookUp_184 (lv_at hl 6 rfl) ?_
                  refine lv_isub hx hb dX5_lookUp_186 ?_
                  refine lv_topi (fun x_488 ex_488 => ?_)
                  have tx_488 : x_488.toInt = 16 - x_458.toInt := i3_subc rfl rfl ex_488 (by omega)
                  refine lv_aload_n hx hb dX5_lookUp_187 rfl (lv_at hl 11 rfl) ?_
                  refine lv_iload hx hb dX5_lookUp_188 (lv_at hl 4 rfl) ?_
                  refine lv_iload hx hb dX5_lookUp_190 (lv_at hl 7 rfl) ?_
                  refine lv_iload hx hb dX5_lookUp_192 (lv_at hl 5 rfl) ?_
                  refine lv_iload hx hb dX5_lookUp_194 (lv_at hl 0 rfl) ?_
                  refine call_i (va_runV (As := [.int r_460, .int 2, .int x_459, .int 1]) (rest := [.int x_488]) ⟨hx, hb, hml, hown, hts⟩ (q_weighRow2 l E o_t a_t_numbers a_t_lefts a_t_falls f_t_lateCorner f_t_earlyCorner r_460 2 x_459 1 g_t_numbers r_f_t_lateCorner r_f_t_earlyCorner i_g_t_numbers (RG.mk (by omega)) (RG.mk (by decide)) (RG.mk (by omega)) H.size) (cwV 4 hts g_q_lookUp_q_weighRow2_54 rfl rfl rfl (by decide +kernel) ⟨Nat.le_of_ble_eq_true rfl, Nat.le_of_ble_eq_true rfl⟩) (pre_V hK hN hZ hS (va_free hD hS hA [1, 0] rfl) (hP.sub (ws' := [(o_t, .inr (5, [.ref a_t_numbers, .ref a_t_lefts, .ref a_t_falls, .int f_t_lateCorner, .int f_t_earlyCorner])), (a_t_numbers, aI E 192 g_t_numbers)]) [1, 0] rfl) (hD.sub (ws' := [(o_t, .inr (5, [.ref a_t_numbers, .ref a_t_lefts, .ref a_t_falls, .int f_t_lateCorner, .int f_t_earlyCorner])), (a_t_numbers, aI E 192 g_t_numbers)]) [1, 0] (by decide) rfl) (ci := 5) (q0 := 0) rfl rfl) rfl rfl hl.1 rfl (lv_room (Nat.le_of_ble_eq_true rfl)) dX5_lookUp_196 ⟨Nat.le_of_ble_eq_true rfl, Nat.le_of_ble_eq_true rfl⟩) hP hD hS hA [1, 0] [2] (wr := [(a_t_lefts, aI E 64 g_t_lefts)]) rfl rfl (by decide) (by decide) (fun r_489 w H locs hw hP hD hS => ?_)
                  obtain ⟨b_r_489, rfl⟩ := hw
                  replace hP : va_P E.1 vwCl [(a_t_lefts, aI E 64 g_t_lefts), (o_t, .inr (5, [.ref a_t_numbers, .ref a_t_lefts, .ref a_t_falls, .int f_t_lateCorner, .int f_t_earlyCorner])), (a_t_numbers, aI E 192 g_t_numbers)] H := hP
                  replace hD : va_D A [(a_t_lefts, aI E 64 g_t_lefts), (o_t, .inr (5, [.ref a_t_numbers, .ref a_t_lefts, .ref a_t_falls, .int f_t_lateCorner, .int f_t_earlyCorner])), (a_t_numbers, aI E 192 g_t_numbers)] := hD
                  refine lv_imul hx hb dX5_lookUp_199 ?_
                  refine lv_topi (fun x_490 ex_490 => ?_)
                  have bd_491 := i3_bd r_489
                  refine lv_istore (lv' := [(17, .int x_490), (16, .int 1), (15, .int 16), (14, .int r_484), (13, .int 2), (12, .int r_460), (11, .int x_459), (10, .int x_458), (9, .int 2), (8, .int 1), (7, .int x_3), (6, .int x_1), (0, .ref o_t), (1, .int p1), (2, .int p2), (3, .int p3), (4, .int p4), (5, .int p5)]) hx hb dX5_lookUp_200 hl (by decide) rfl (fun ls hl => ?_)
                  refine lv_iload hx hb dX5_lookUp_202 (lv_at hl 7 rfl) ?_
                  refine lv_if_le (tgt := 229) hx hb dX5_lookUp_204 (by decide) (fun c_492 => ?_) (fun c_492 => ?_)
                  · have e_492 : x_458.toInt ≤ 0 := i3_le c_492
                    exfalso; omega
                  · have e_492 : 0 < x_458.toInt := i3_nle c_492
                    refine lv_iload hx hb dX5_lookUp_207 (lv_at hl 0 rfl) ?_
                    refine lv_iload hx hb dX5_lookUp_209 (lv_at hl 7 rfl) ?_
                    refine lv_aload_n hx hb dX5_lookUp_211 rfl (lv_at hl 12 rfl) ?_
                    refine lv_iload hx hb dX5_lookUp_212 (lv_at hl 5 rfl) ?_
                    refine lv_iconst (v := 1) hx hb dX5_lookUp_214 (by decide) ?_
                    refine lv_iadd hx hb dX5_lookUp_215 ?_
                    refine lv_topi (fun x_493 ex_493 => ?_)
                    have hq_x_493 : x_483 = x_493 := ex_483.trans ex_493.symm
                    subst hq_x_493
                    refine lv_iload hx hb dX5_lookUp_216 (lv_at hl 8 rfl) ?_
                    refine lv_iload hx hb dX5_lookUp_218 (lv_at hl 6 rfl) ?_
                    refine lv_iload hx hb dX5_lookUp_220 (lv_at hl 1 rfl) ?_
                    refine call_i (va_runV (As := [.int x_483, .int 2, .int x_459, .int 1]) (rest := [.int x_458, .int x_490]) ⟨hx, hb, hml, hown, hts⟩ (q_weighRow2 l E o_t a_t_numbers a_t_lefts a_t_falls f_t_lateCorner f_t_earlyCorner x_483 2 x_459 1 g_t_numbers r_f_t_lateCorner r_f_t_earlyCorner i_g_t_numbers (RG.mk (by omega)) (RG.mk (by decide)) (RG.mk (by omega)) H.size) (cwV 4 hts g_q_lookUp_q_weighRow2_54 rfl rfl rfl (by decide +kernel) ⟨Nat.le_of_ble_eq_true rfl, Nat.le_of_ble_eq_true rfl⟩) (pre_V hK hN hZ hS (va_free hD hS hA [1, 2] rfl) (hP.sub (ws' := [(o_t, .inr (5, [.ref a_t_numbers, .ref a_t_lefts, .ref a_t_falls, .int f_t_lateCorner, .int f_t_earlyCorner])), (a_t_numbers, aI E 192 g_t_numbers)]) [1, 2] rfl) (hD.sub (ws' := [(o_t, .inr (5, [.ref a_t_numbers, .ref a_t_lefts, .ref a_t_falls, .int f_t_lateCorner, .int f_t_earlyCorner])), (a_t_numbers, aI E 192 g_t_numbers)]) [1, 2] (by decide) rfl) (ci := 5) (q0 := 0) rfl rfl) rfl rfl hl.1 rfl (lv_room (Nat.le_of_ble_eq_true rfl)) dX5_lookUp_222 ⟨Nat.le_of_ble_eq_true rfl, Nat.le_of_ble_eq_true rfl⟩) hP hD hS hA [1, 2] [0] (wr := [(a_t_lefts, aI E 64 g_t_lefts)]) rfl rfl (by decide) (by decide) (fun r_494 w H locs hw hP hD hS => ?_)
                    obtain ⟨b_r_494, rfl⟩ := hw
                    replace hP : va_P E.1 vwCl [(a_t_lefts, aI E 64 g_t_lefts), (o_t, .inr (5, [.ref a_t_numbers, .ref a_t_lefts, .ref a_t_falls, .int f_t_lateCorner, .int f_t_earlyCorner])), (a_t_numbers, aI E 192 g_t_numbers)] H := hP
                    replace hD : va_D A [(a_t_lefts, aI E 64 g_t_lefts), (o_t, .inr (5, [.ref a_t_numbers, .ref a_t_lefts, .ref a_t_falls, .int f_t_lateCorner, .int f_t_earlyCorner])), (a_t_numbers, aI E 192 g_t_numbers)] := hD
                    refine lv_imul hx hb dX5_lookUp_225 ?_
                    refine lv_topi (fun x_495 ex_495 => ?_)
                    have bd_496 := i3_bd r_494
                    refine lv_iadd hx hb dX5_lookUp_226 ?_
                    refine lv_topi (fun x_497 ex_497 => ?_)
                    have bd_498 := i3_bd x_490
                    have bd_499 := i3_bd x_495
                    refine lv_istore (lv' := [(17, .int x_497), (16, .int 1), (15, .int 16), (14, .int r_484), (13, .int 2), (12, .int r_460), (11, .int x_459), (10, .int x_458), (9, .int 2), (8, .int 1), (7, .int x_3), (6, .int x_1), (0, .ref o_t), (1, .int p1), (2, .int p2), (3, .int p3), (4, .int p4), (5, .int p5)]) hx hb dX5_lookUp_227 hl (by decide) rfl (fun ls hl => ?_)
                    refine lv_iload hx hb dX5_lookUp_229 (lv_at hl 2 rfl) ?_
                    refine lv_iload hx hb dX5_lookUp_231 (lv_at hl 1 rfl) ?_
                    refine lv_imul hx hb dX5_lookUp_233 ?_
                    refine lv_cst (y := 16) (by decide) ?_
                    refine lv_istore (lv' := [(18, .int 16), (17, .int x_497), (16, .int 1), (15, .int 16), (14, .int r_484), (13, .int 2), (12, .int r_460), (11, .int x_459), (10, .int x_458), (9, .int 2), (8, .int 1), (7, .int x_3), (6, .int x_1), (0, .ref o_t), (1, .int p1), (2, .int p2), (3, .int p3), (4, .int p4), (5, .int p5)]) hx hb dX5_lookUp_234 hl (by decide) rfl (fun ls hl => ?_)
                    refine lv_iload hx hb dX5_lookUp_236 (lv_at hl 18 rfl) ?_
                    have b_p5 := r_p5.out
                    refine lv_if_eq (tgt := 254) hx hb dX5_lookUp_238 (by decide) (fun c_500 => ?_) (fun c_500 => ?_)
                    · have e_500 : p5.toInt = 0 := i3_eq c_500
                      refine lv_iload hx hb dX5_lookUp_254 (lv_at hl 1 rfl) ?_
                      refine lv_iload hx hb dX5_lookUp_256 (lv_at hl 0 rfl) ?_
                      refine lv_idiv hx hb dX5_lookUp_258 (by decide) ?_
                      refine lv_topi (fun x_501 ex_501 => ?_)
                      have bd_502 := i3_bd x_497
                      exact ret_i hx hb hr hlk (hP.sub (ws' := [(o_t, .inr (5, [.ref a_t_numbers, .ref a_t_lefts, .ref a_t_falls, .int f_t_lateCorner, .int f_t_earlyCorner])), (a_t_lefts, aI E 64 g_t_lefts), (a_t_numbers, aI E 192 g_t_numbers)]) [1, 0, 2] rfl) (hD.sub (ws' := [(o_t, .inr (5, [.ref a_t_numbers, .ref a_t_lefts, .ref a_t_falls, .int f_t_lateCorner, .int f_t_earlyCorner])), (a_t_lefts, aI E 64 g_t_lefts), (a_t_numbers, aI E 192 g_t_numbers)]) [1, 0, 2] (by decide) rfl) hS rfl dX5_lookUp_259 (Nat.le_of_ble_eq_true rfl) (Nat.le_of_ble_eq_true rfl) ⟨trivial, rfl⟩
                    · have e_500 : p5.toInt ≠ 0 := i3_ne c_500
                      refine lv_iload hx hb dX5_lookUp_241 (lv_at hl 1 rfl) ?_
                      refine lv_iload hx hb dX5_lookUp_243 (lv_at hl 0 rfl) ?_
                      refine lv_iadd hx hb dX5_lookUp_245 ?_
                      refine lv_topi (fun x_503 ex_503 => ?_)
                      have bd_504 := i3_bd x_497
                      refine lv_iconst (v := 1) hx hb dX5_lookUp_246 (by decide) ?_
                      refine lv_isub hx hb dX5_lookUp_247 ?_
                      refine lv_topi (fun x_505 ex_505 => ?_)
                      have bd_506 := i3_bd x_503
                      refine lv_iload hx hb dX5_lookUp_248 (lv_at hl 0 rfl) ?_
                      refine lv_idiv hx hb dX5_lookUp_250 (by decide) ?_
                      refine lv_topi (fun x_507 ex_507 => ?_)
                      have bd_508 := i3_bd x_505
                      refine lv_goto (tgt := 259) hx hb dX5_lookUp_251 (by decide) ?_
                      exact ret_i hx hb hr hlk (hP.sub (ws' := [(o_t, .inr (5, [.ref a_t_numbers, .ref a_t_lefts, .ref a_t_falls, .int f_t_lateCorner, .int f_t_earlyCorner])), (a_t_lefts, aI E 64 g_t_lefts), (a_t_numbers, aI E 192 g_t_numbers)]) [1, 0, 2] rfl) (hD.sub (ws' := [(o_t, .inr (5, [.ref a_t_numbers, .ref a_t_lefts, .ref a_t_falls, .int f_t_lateCorner, .int f_t_earlyCorner])), (a_t_lefts, aI E 64 g_t_lefts), (a_t_numbers, aI E 192 g_t_numbers)]) [1, 0, 2] (by decide) rfl) hS rfl dX5_lookUp_259 (Nat.le_of_ble_eq_true rfl) (Nat.le_of_ble_eq_true rfl) ⟨trivial, rfl⟩
                · have e_487 : 0 < x_459.toInt := i3_nle c_487
                  exfalso; omega
            · have e_485 : r_484.toInt ≠ 0 := i3_ne c_485
              refine lv_iload hx hb dX5_lookUp_127 (lv_at hl 0 rfl) ?_
              exact ret_i hx hb hr hlk (hP.sub (ws' := [(o_t, .inr (5, [.ref a_t_numbers, .ref a_t_lefts, .ref a_t_falls, .int f_t_lateCorner, .int f_t_earlyCorner])), (a_t_lefts, aI E 64 g_t_lefts), (a_t_numbers, aI E 192 g_t_numbers)]) [1, 2, 0] rfl) (hD.sub (ws' := [(o_t, .inr (5, [.ref a_t_numbers, .ref a_t_lefts, .ref a_t_falls, .int f_t_lateCorner, .int f_t_earlyCorner])), (a_t_lefts, aI E 64 g_t_lefts), (a_t_numbers, aI E 192 g_t_numbers)]) [1, 2, 0] (by decide) rfl) hS rfl dX5_lookUp_129 (Nat.le_of_ble_eq_true rfl) (Nat.le_of_ble_eq_true rfl) ⟨trivial, rfl⟩
      · have e_461 : 0 < x_459.toInt := i3_nle c_461
        exfalso; omega
  · have hs_h_7 := i3_cs (c := 2) h_7 (by decide)
    subst hs_h_7
    have hk_h_7 : (2 : Int32).toInt = 2 := rfl
    rcases (show r_6.toInt = 0 ∨ r_6.toInt = 1 ∨ r_6.toInt = 2 by omega) with h_509 | h_509 | h_509
    · have hs_h_509 := i3_cs (c := 0) h_509 (by decide)
      subst hs_h_509
      have hk_h_509 : (0 : Int32).toInt = 0 := rfl
      refine lv_iload hx hb dX5_lookUp_43 (lv_at hl 3 rfl) ?_
      refine va_gets (C := "TimingHouse$Tables") (n := "LOAD_MARKS") (d := "[I") (own := RX5) (ref := "TimingHouse$Tables") hx hb hZ.1.1 hS hown (hto (.fieldLink RX5 31 "TimingHouse$Tables" "LOAD_MARKS" "[I") (by decide +kernel)) (fun _ h9 => h9) dX5_lookUp_45 ?_
      refine lv_iload hx hb dX5_lookUp_48 (lv_at hl 1 rfl) ?_
      refine va_ti (v := .int 24) hx hb hZ.1.2 hS (i3_in (by decide)) rfl dX5_lookUp_50 ?_
      refine lv_isub hx hb dX5_lookUp_51 ?_
      refine lv_topi (fun x_510 ex_510 => ?_)
      have tx_510 : x_510.toInt = x_1.toInt - 24 := i3_subc rfl rfl ex_510 (by omega)
      refine lv_istore (lv' := [(10, .int x_510), (9, .int 0), (8, .int 2), (7, .int x_3), (6, .int x_1), (0, .ref o_t), (1, .int p1), (2, .int p2), (3, .int p3), (4, .int p4), (5, .int p5)]) hx hb dX5_lookUp_52 hl (by decide) rfl (fun ls hl => ?_)
      refine lv_iload hx hb dX5_lookUp_54 (lv_at hl 3 rfl) ?_
      refine va_gets (C := "TimingHouse$Tables") (n := "SLOPE_MARKS") (d := "[I") (own := RX5) (ref := "TimingHouse$Tables") hx hb hZ.2.1.1 hS hown (hto (.fieldLink RX5 40 "TimingHouse$Tables" "SLOPE_MARKS" "[I") (by decide +kernel)) (fun _ h9 => h9) dX5_lookUp_56 ?_
      refine lv_iload hx hb dX5_lookUp_59 (lv_at hl 1 rfl) ?_
      refine va_ti (v := .int 0) hx hb hZ.2.1.2 hS (i3_in (by decide)) rfl dX5_lookUp_61 ?_
      refine lv_isub hx hb dX5_lookUp_62 ?_
      refine lv_topi (fun x_511 ex_511 => ?_)
      have tx_511 : x_511.toInt = x_3.toInt - 0 := i3_subc rfl rfl ex_511 (by omega)
      refine lv_istore (lv' := [(11, .int x_511), (10, .int x_510), (9, .int 0), (8, .int 2), (7, .int x_3), (6, .int x_1), (0, .ref o_t), (1, .int p1), (2, .int p2), (3, .int p3), (4, .int p4), (5, .int p5)]) hx hb dX5_lookUp_63 hl (by decide) rfl (fun ls hl => ?_)
      refine lv_iload_n hx hb dX5_lookUp_65 rfl (lv_at hl 7 rfl) ?_
      refine lv_iload_n hx hb dX5_lookUp_66 rfl (lv_at hl 8 rfl) ?_
      refine lv_iload hx hb dX5_lookUp_67 (lv_at hl 3 rfl) ?_
      have b_p1 := r_p1.out
      have b_p2 := r_p2.out
      refine call_i (va_runS (As := [.int p1, .int p2, .int 2]) (rest := []) ⟨hx, hb, hml, hown, hts⟩ (q_rowPlace l E p1 p2 2 r_p1 r_p2 (RG.mk (by decide)) H.size) (va_cwS 3 hts g_q_lookUp_q_rowPlace_47 rfl rfl rfl (by decide +kernel) ⟨Nat.le_of_ble_eq_true rfl, Nat.le_of_ble_eq_true rfl⟩) (pre_S hK hN hZ hS (va_free hD hS hA [] rfl) (hP.sub (ws' := []) [] rfl) (hD.sub (ws' := []) [] (by decide) rfl)) rfl rfl hl.1 rfl (lv_room (Nat.le_of_ble_eq_true rfl)) dX5_lookUp_69 ⟨Nat.le_of_ble_eq_true rfl, Nat.le_of_ble_eq_true rfl⟩) hP hD hS hA [] [0, 1, 2] (wr := [(o_t, .inr (5, [.ref a_t_numbers, .ref a_t_lefts, .ref a_t_falls, .int f_t_lateCorner, .int f_t_earlyCorner])), (a_t_lefts, aI E 64 g_t_lefts), (a_t_numbers, aI E 192 g_t_numbers)]) rfl rfl (by decide) (by decide) (fun r_512 w H locs hw hP hD hS => ?_)
      obtain ⟨b_r_512, l_r_512, rfl⟩ := hw
      replace l_r_512 : r_512.toInt = (p1.toInt * 2 + p2.toInt) * 4 + 2 := l_r_512
      replace hP : va_P E.1 vwCl [(o_t, .inr (5, [.ref a_t_numbers, .ref a_t_lefts, .ref a_t_falls, .int f_t_lateCorner, .int f_t_earlyCorner])), (a_t_lefts, aI E 64 g_t_lefts), (a_t_numbers, aI E 192 g_t_numbers)] H := hP
      replace hD : va_D A [(o_t, .inr (5, [.ref a_t_numbers, .ref a_t_lefts, .ref a_t_falls, .int f_t_lateCorner, .int f_t_earlyCorner])), (a_t_lefts, aI E 64 g_t_lefts), (a_t_numbers, aI E 192 g_t_numbers)] := hD
      refine lv_istore (lv' := [(12, .int r_512), (11, .int x_511), (10, .int x_510), (9, .int 0), (8, .int 2), (7, .int x_3), (6, .int x_1), (0, .ref o_t), (1, .int p1), (2, .int p2), (3, .int p3), (4, .int p4), (5, .int p5)]) hx hb dX5_lookUp_72 hl (by decide) rfl (fun ls hl => ?_)
      refine lv_iload hx hb dX5_lookUp_74 (lv_at hl 1 rfl) ?_
      refine lv_if_le (tgt := 86) hx hb dX5_lookUp_76 (by decide) (fun c_513 => ?_) (fun c_513 => ?_)
      · have e_513 : x_511.toInt ≤ 0 := i3_le c_513
        refine lv_iload hx hb dX5_lookUp_86 (lv_at hl 3 rfl) ?_
        refine lv_istore (lv' := [(13, .int 0), (12, .int r_512), (11, .int x_511), (10, .int x_510), (9, .int 0), (8, .int 2), (7, .int x_3), (6, .int x_1), (0, .ref o_t), (1, .int p1), (2, .int p2), (3, .int p3), (4, .int p4), (5, .int p5)]) hx hb dX5_lookUp_88 hl (by decide) rfl (fun ls hl => ?_)
        refine lv_aload_n hx hb dX5_lookUp_90 rfl (lv_at hl 8 rfl) ?_
        refine lv_iload hx hb dX5_lookUp_91 (lv_at hl 1 rfl) ?_
        refine lv_iload hx hb dX5_lookUp_93 (lv_at hl 0 rfl) ?_
        refine call_i (va_runV (As := [.int r_512, .int 0]) (rest := []) ⟨hx, hb, hml, hown, hts⟩ (q_whyAbsent l E o_t a_t_numbers a_t_lefts a_t_falls f_t_lateCorner f_t_earlyCorner r_512 0 g_t_lefts r_f_t_lateCorner r_f_t_earlyCorner i_g_t_lefts (RG.mk (by omega)) H.size) (cwV 2 hts g_q_lookUp_q_whyAbsent_51 rfl rfl rfl (by decide +kernel) ⟨Nat.le_of_ble_eq_true rfl, Nat.le_of_ble_eq_true rfl⟩) (pre_V hK hN hZ hS (va_free hD hS hA [0, 1] rfl) (hP.sub (ws' := [(o_t, .inr (5, [.ref a_t_numbers, .ref a_t_lefts, .ref a_t_falls, .int f_t_lateCorner, .int f_t_earlyCorner])), (a_t_lefts, aI E 64 g_t_lefts)]) [0, 1] rfl) (hD.sub (ws' := [(o_t, .inr (5, [.ref a_t_numbers, .ref a_t_lefts, .ref a_t_falls, .int f_t_lateCorner, .int f_t_earlyCorner])), (a_t_lefts, aI E 64 g_t_lefts)]) [0, 1] (by decide) rfl) (ci := 5) (q0 := 0) rfl rfl) rfl rfl hl.1 rfl (lv_room (Nat.le_of_ble_eq_true rfl)) dX5_lookUp_95 ⟨Nat.le_of_ble_eq_true rfl, Nat.le_of_ble_eq_true rfl⟩) hP hD hS hA [0, 1] [2] (wr := [(a_t_numbers, aI E 192 g_t_numbers)]) rfl rfl (by decide) (by decide) (fun r_514 w H locs hw hP hD hS => ?_)
        obtain ⟨b_r_514, rfl⟩ := hw
        replace hP : va_P E.1 vwCl [(a_t_numbers, aI E 192 g_t_numbers), (o_t, .inr (5, [.ref a_t_numbers, .ref a_t_lefts, .ref a_t_falls, .int f_t_lateCorner, .int f_t_earlyCorner])), (a_t_lefts, aI E 64 g_t_lefts)] H := hP
        replace hD : va_D A [(a_t_numbers, aI E 192 g_t_numbers), (o_t, .inr (5, [.ref a_t_numbers, .ref a_t_lefts, .ref a_t_falls, .int f_t_lateCorner, .int f_t_earlyCorner])), (a_t_lefts, aI E 64 g_t_lefts)] := hD
        refine lv_istore (lv' := [(14, .int r_514), (13, .int 0), (12, .int r_512), (11, .int x_511), (10, .int x_510), (9, .int 0), (8, .int 2), (7, .int x_3), (6, .int x_1), (0, .ref o_t), (1, .int p1), (2, .int p2), (3, .int p3), (4, .int p4), (5, .int p5)]) hx hb dX5_lookUp_98 hl (by decide) rfl (fun ls hl => ?_)
        refine lv_iload hx hb dX5_lookUp_100 (lv_at hl 0 rfl) ?_
        refine lv_if_ne (tgt := 122) hx hb dX5_lookUp_102 (by decide) (fun c_515 => ?_) (fun c_515 => ?_)
        · have e_515 : r_514.toInt ≠ 0 := i3_ne c_515
          refine lv_iload hx hb dX5_lookUp_122 (lv_at hl 0 rfl) ?_
          refine lv_if_eq (tgt := 130) hx hb dX5_lookUp_124 (by decide) (fun c_516 => ?_) (fun c_516 => ?_)
          · have e_516 : r_514.toInt = 0 := i3_eq c_516
            exfalso; omega
          · have e_516 : r_514.toInt ≠ 0 := i3_ne c_516
            refine lv_iload hx hb dX5_lookUp_127 (lv_at hl 0 rfl) ?_
            exact ret_i hx hb hr hlk (hP.sub (ws' := [(o_t, .inr (5, [.ref a_t_numbers, .ref a_t_lefts, .ref a_t_falls, .int f_t_lateCorner, .int f_t_earlyCorner])), (a_t_lefts, aI E 64 g_t_lefts), (a_t_numbers, aI E 192 g_t_numbers)]) [1, 2, 0] rfl) (hD.sub (ws' := [(o_t, .inr (5, [.ref a_t_numbers, .ref a_t_lefts, .ref a_t_falls, .int f_t_lateCorner, .int f_t_earlyCorner])), (a_t_lefts, aI E 64 g_t_lefts), (a_t_numbers, aI E 192 g_t_numbers)]) [1, 2, 0] (by decide) rfl) hS rfl dX5_lookUp_129 (Nat.le_of_ble_eq_true rfl) (Nat.le_of_ble_eq_true rfl) ⟨trivial, rfl⟩
        · have e_515 : r_514.toInt = 0 := i3_eq c_515
          refine lv_iload hx hb dX5_lookUp_105 (lv_at hl 4 rfl) ?_
          refine lv_if_le (tgt := 122) hx hb dX5_lookUp_107 (by decide) (fun c_517 => ?_) (fun c_517 => ?_)
          · have e_517 : x_510.toInt ≤ 0 := i3_le c_517
            refine lv_iload hx hb dX5_lookUp_122 (lv_at hl 0 rfl) ?_
            refine lv_if_eq (tgt := 130) hx hb dX5_lookUp_124 (by decide) (fun c_518 => ?_) (fun c_518 => ?_)
            · have e_518 : r_514.toInt = 0 := i3_eq c_518
              refine lv_iload hx hb dX5_lookUp_130 (lv_at hl 4 rfl) ?_
              refine lv_if_le (tgt := 153) hx hb dX5_lookUp_132 (by decide) (fun c_519 => ?_) (fun c_519 => ?_)
              · have e_519 : x_510.toInt ≤ 0 := i3_le c_519
                refine lv_iconst (v := 1) hx hb dX5_lookUp_153 (by decide) ?_
                refine lv_istore (lv' := [(15, .int 1), (14, .int r_514), (13, .int 0), (12, .int r_512), (11, .int x_511), (10, .int x_510), (9, .int 0), (8, .int 2), (7, .int x_3), (6, .int x_1), (0, .ref o_t), (1, .int p1), (2, .int p2), (3, .int p3), (4, .int p4), (5, .int p5)]) hx hb dX5_lookUp_154 hl (by decide) rfl (fun ls hl => ?_)
                refine lv_iload hx hb dX5_lookUp_156 (lv_at hl 4 rfl) ?_
                refine lv_if_le (tgt := 179) hx hb dX5_lookUp_158 (by decide) (fun c_520 => ?_) (fun c_520 => ?_)
                · have e_520 : x_511.toInt ≤ 0 := i3_le c_520
                  refine lv_iconst (v := 1) hx hb dX5_lookUp_179 (by decide) ?_
                  refine lv_istore (lv' := [(16, .int 1), (15, .int 1), (14, .int r_514), (13, .int 0), (12, .int r_512), (11, .int x_511), (10, .int x_510), (9, .int 0), (8, .int 2), (7, .int x_3), (6, .int x_1), (0, .ref o_t), (1, .int p1), (2, .int p2), (3, .int p3), (4, .int p4), (5, .int p5)]) hx hb dX5_lookUp_180 hl (by decide) rfl (fun ls hl => ?_)
                  refine lv_iload hx hb dX5_lookUp_182 (lv_at hl 1 rfl) ?_
                  refine lv_iload hx hb dX5_lookUp_184 (lv_at hl 6 rfl) ?_
                  refine lv_isub hx hb dX5_lookUp_186 ?_
                  refine lv_topi (fun x_521 ex_521 => ?_)
                  have tx_521 : x_521.toInt = 1 - x_510.toInt := i3_subc rfl rfl ex_521 (by omega)
                  refine lv_aload_n hx hb dX5_lookUp_187 rfl (lv_at hl 11 rfl) ?_
                  refine lv_iload hx hb dX5_lookUp_188 (lv_at hl 4 rfl) ?_
                  refine lv_iload hx hb dX5_lookUp_190 (lv_at hl 7 rfl) ?_
                  refine lv_iload hx hb dX5_lookUp_192 (lv_at hl 5 rfl) ?_
                  refine lv_iload hx hb dX5_lookUp_194 (lv_at hl 0 rfl) ?_
                  refine call_i (va_runV (As := [.int r_512, .int 0, .int x_511, .int 1]) (rest := [.int x_521]) ⟨hx, hb, hml, hown, hts⟩ (q_weighRow1 l E o_t a_t_numbers a_t_lefts a_t_falls f_t_lateCorner f_t_earlyCorner r_512 0 x_511 1 g_t_numbers r_f_t_lateCorner r_f_t_earlyCorner i_g_t_numbers (RG.mk (by omega)) (RG.mk (by decide)) H.size) (cwV 4 hts g_q_lookUp_q_weighRow1_54 rfl rfl rfl (by decide +kernel) ⟨Nat.le_of_ble_eq_true rfl, Nat.le_of_ble_eq_true rfl⟩) (pre_V hK hN hZ hS (va_free hD hS hA [1, 0] rfl) (hP.sub (ws' := [(o_t, .inr (5, [.ref a_t_numbers, .ref a_t_lefts, .ref a_t_falls, .int f_t_lateCorner, .int f_t_earlyCorner])), (a_t_numbers, aI E 192 g_t_numbers)]) [1, 0] rfl) (hD.sub (ws' := [(o_t, .inr (5, [.ref a_t_numbers, .ref a_t_lefts, .ref a_t_falls, .int f_t_lateCorner, .int f_t_earlyCorner])), (a_t_numbers, aI E 192 g_t_numbers)]) [1, 0] (by decide) rfl) (ci := 5) (q0 := 0) rfl rfl) rfl rfl hl.1 rfl (lv_room (Nat.le_of_ble_eq_true rfl)) dX5_lookUp_196 ⟨Nat.le_of_ble_eq_true rfl, Nat.le_of_ble_eq_true rfl⟩) hP hD hS hA [1, 0] [2] (wr := [(a_t_lefts, aI E 64 g_t_lefts)]) rfl rfl (by decide) (by decide) (fun r_522 w H locs hw hP hD hS => ?_)
                  obtain ⟨b_r_522, rfl⟩ := hw
                  replace hP : va_P E.1 vwCl [(a_t_lefts, aI E 64 g_t_lefts), (o_t, .inr (5, [.ref a_t_numbers, .ref a_t_lefts, .ref a_t_falls, .int f_t_lateCorner, .int f_t_earlyCorner])), (a_t_numbers, aI E 192 g_t_numbers)] H := hP
                  replace hD : va_D A [(a_t_lefts, aI E 64 g_t_lefts), (o_t, .inr (5, [.ref a_t_numbers, .ref a_t_lefts, .ref a_t_falls, .int f_t_lateCorner, .int f_t_earlyCorner])), (a_t_numbers, aI E 192 g_t_numbers)] := hD
                  refine lv_imul hx hb dX5_lookUp_199 ?_
                  refine lv_topi (fun x_523 ex_523 => ?_)
                  have bd_524 := i3_bd r_522
                  refine lv_istore (lv' := [(17, .int x_523), (16, .int 1), (15, .int 1), (14, .int r_514), (13, .int 0), (12, .int r_512), (11, .int x_511), (10, .int x_510), (9, .int 0), (8, .int 2), (7, .int x_3), (6, .int x_1), (0, .ref o_t), (1, .int p1), (2, .int p2), (3, .int p3), (4, .int p4), (5, .int p5)]) hx hb dX5_lookUp_200 hl (by decide) rfl (fun ls hl => ?_)
                  refine lv_iload hx hb dX5_lookUp_202 (lv_at hl 7 rfl) ?_
                  refine lv_if_le (tgt := 229) hx hb dX5_lookUp_204 (by decide) (fun c_525 => ?_) (fun c_525 => ?_)
                  · have e_525 : x_510.toInt ≤ 0 := i3_le c_525
                    refine lv_iload hx hb dX5_lookUp_229 (lv_at hl 2 rfl) ?_
                    refine lv_iload hx hb dX5_lookUp_231 (lv_at hl 1 rfl) ?_
                    refine lv_imul hx hb dX5_lookUp_233 ?_
                    refine lv_cst (y := 1) (by decide) ?_
                    refine lv_istore (lv' := [(18, .int 1), (17, .int x_523), (16, .int 1), (15, .int 1), (14, .int r_514), (13, .int 0), (12, .int r_512), (11, .int x_511), (10, .int x_510), (9, .int 0), (8, .int 2), (7, .int x_3), (6, .int x_1), (0, .ref o_t), (1, .int p1), (2, .int p2), (3, .int p3), (4, .int p4), (5, .int p5)]) hx hb dX5_lookUp_234 hl (by decide) rfl (fun ls hl => ?_)
                    refine lv_iload hx hb dX5_lookUp_236 (lv_at hl 18 rfl) ?_
                    have b_p5 := r_p5.out
                    refine lv_if_eq (tgt := 254) hx hb dX5_lookUp_238 (by decide) (fun c_526 => ?_) (fun c_526 => ?_)
                    · have e_526 : p5.toInt = 0 := i3_eq c_526
                      refine lv_iload hx hb dX5_lookUp_254 (lv_at hl 1 rfl) ?_
                      refine lv_iload hx hb dX5_lookUp_256 (lv_at hl 0 rfl) ?_
                      refine lv_idiv hx hb dX5_lookUp_258 (by decide) ?_
                      refine lv_topi (fun x_527 ex_527 => ?_)
                      have bd_528 := i3_bd x_523
                      exact ret_i hx hb hr hlk (hP.sub (ws' := [(o_t, .inr (5, [.ref a_t_numbers, .ref a_t_lefts, .ref a_t_falls, .int f_t_lateCorner, .int f_t_earlyCorner])), (a_t_lefts, aI E 64 g_t_lefts), (a_t_numbers, aI E 192 g_t_numbers)]) [1, 0, 2] rfl) (hD.sub (ws' := [(o_t, .inr (5, [.ref a_t_numbers, .ref a_t_lefts, .ref a_t_falls, .int f_t_lateCorner, .int f_t_earlyCorner])), (a_t_lefts, aI E 64 g_t_lefts), (a_t_numbers, aI E 192 g_t_numbers)]) [1, 0, 2] (by decide) rfl) hS rfl dX5_lookUp_259 (Nat.le_of_ble_eq_true rfl) (Nat.le_of_ble_eq_true rfl) ⟨trivial, rfl⟩
                    · have e_526 : p5.toInt ≠ 0 := i3_ne c_526
                      refine lv_iload hx hb dX5_lookUp_241 (lv_at hl 1 rfl) ?_
                      refine lv_iload hx hb dX5_lookUp_243 (lv_at hl 0 rfl) ?_
                      refine lv_iadd hx hb dX5_lookUp_245 ?_
                      refine lv_topi (fun x_529 ex_529 => ?_)
                      have bd_530 := i3_bd x_523
                      refine lv_iconst (v := 1) hx hb dX5_lookUp_246 (by decide) ?_
                      refine lv_isub hx hb dX5_lookUp_247 ?_
                      refine lv_topi (fun x_531 ex_531 => ?_)
                      have bd_532 := i3_bd x_529
                      refine lv_iload hx hb dX5_lookUp_248 (lv_at hl 0 rfl) ?_
                      refine lv_idiv hx hb dX5_lookUp_250 (by decide) ?_
                      refine lv_topi (fun x_533 ex_533 => ?_)
                      have bd_534 := i3_bd x_531
                      refine lv_goto (tgt := 259) hx hb dX5_lookUp_251 (by decide) ?_
                      exact ret_i hx hb hr hlk (hP.sub (ws' := [(o_t, .inr (5, [.ref a_t_numbers, .ref a_t_lefts, .ref a_t_falls, .int f_t_lateCorner, .int f_t_earlyCorner])), (a_t_lefts, aI E 64 g_t_lefts), (a_t_numbers, aI E 192 g_t_numbers)]) [1, 0, 2] rfl) (hD.sub (ws' := [(o_t, .inr (5, [.ref a_t_numbers, .ref a_t_lefts, .ref a_t_falls, .int f_t_lateCorner, .int f_t_earlyCorner])), (a_t_lefts, aI E 64 g_t_lefts), (a_t_numbers, aI E 192 g_t_numbers)]) [1, 0, 2] (by decide) rfl) hS rfl dX5_lookUp_259 (Nat.le_of_ble_eq_true rfl) (Nat.le_of_ble_eq_true rfl) ⟨trivial, rfl⟩
                  · have e_525 : 0 < x_510.toInt := i3_nle c_525
                    exfalso; omega
                · have e_520 : 0 < x_511.toInt := i3_nle c_520
                  exfalso; omega
              · have e_519 : 0 < x_510.toInt := i3_nle c_519
                exfalso; omega
            · have e_518 : r_514.toInt ≠ 0 := i3_ne c_518
              exfalso; omega
          · have e_517 : 0 < x_510.toInt := i3_nle c_517
            refine lv_aload_n hx hb dX5_lookUp_110 rfl (lv_at hl 9 rfl) ?_
            refine lv_iload hx hb dX5_lookUp_111 (lv_at hl 2 rfl) ?_
            refine lv_iconst (v := 1) hx hb dX5_lookUp_113 (by decide) ?_
            refine lv_iadd hx hb dX5_lookUp_114 ?_
            refine lv_topi (fun x_535 ex_535 => ?_)
            have tx_535 : x_535.toInt = r_512.toInt + 1 := i3_addc rfl rfl ex_535 (by omega)
            refine lv_iload hx hb dX5_lookUp_115 (lv_at hl 1 rfl) ?_
            refine call_i (va_runV (As := [.int x_535, .int 0]) (rest := []) ⟨hx, hb, hml, hown, hts⟩ (q_whyAbsent l E o_t a_t_numbers a_t_lefts a_t_falls f_t_lateCorner f_t_earlyCorner x_535 0 g_t_lefts r_f_t_lateCorner r_f_t_earlyCorner i_g_t_lefts (RG.mk (by omega)) H.size) (cwV 2 hts g_q_lookUp_q_whyAbsent_51 rfl rfl rfl (by decide +kernel) ⟨Nat.le_of_ble_eq_true rfl, Nat.le_of_ble_eq_true rfl⟩) (pre_V hK hN hZ hS (va_free hD hS hA [1, 2] rfl) (hP.sub (ws' := [(o_t, .inr (5, [.ref a_t_numbers, .ref a_t_lefts, .ref a_t_falls, .int f_t_lateCorner, .int f_t_earlyCorner])), (a_t_lefts, aI E 64 g_t_lefts)]) [1, 2] rfl) (hD.sub (ws' := [(o_t, .inr (5, [.ref a_t_numbers, .ref a_t_lefts, .ref a_t_falls, .int f_t_lateCorner, .int f_t_earlyCorner])), (a_t_lefts, aI E 64 g_t_lefts)]) [1, 2] (by decide) rfl) (ci := 5) (q0 := 0) rfl rfl) rfl rfl hl.1 rfl (lv_room (Nat.le_of_ble_eq_true rfl)) dX5_lookUp_117 ⟨Nat.le_of_ble_eq_true rfl, Nat.le_of_ble_eq_true rfl⟩) hP hD hS hA [1, 2] [0] (wr := [(a_t_numbers, aI E 192 g_t_numbers)]) rfl rfl (by decide) (by decide) (fun r_536 w H locs hw hP hD hS => ?_)
            obtain ⟨b_r_536, rfl⟩ := hw
            replace hP : va_P E.1 vwCl [(a_t_numbers, aI E 192 g_t_numbers), (o_t, .inr (5, [.ref a_t_numbers, .ref a_t_lefts, .ref a_t_falls, .int f_t_lateCorner, .int f_t_earlyCorner])), (a_t_lefts, aI E 64 g_t_lefts)] H := hP
            replace hD : va_D A [(a_t_numbers, aI E 192 g_t_numbers), (o_t, .inr (5, [.ref a_t_numbers, .ref a_t_lefts, .ref a_t_falls, .int f_t_lateCorner, .int f_t_earlyCorner])), (a_t_lefts, aI E 64 g_t_lefts)] := hD
            refine lv_istore (lv' := [(14, .int r_536), (13, .int 0), (12, .int r_512), (11, .int x_511), (10, .int x_510), (9, .int 0), (8, .int 2), (7, .int x_3), (6, .int x_1), (0, .ref o_t), (1, .int p1), (2, .int p2), (3, .int p3), (4, .int p4), (5, .int p5)]) hx hb dX5_lookUp_120 hl (by decide) rfl (fun ls hl => ?_)
            refine lv_iload hx hb dX5_lookUp_122 (lv_at hl 0 rfl) ?_
            refine lv_if_eq (tgt := 130) hx hb dX5_lookUp_124 (by decide) (fun c_537 => ?_) (fun c_537 => ?_)
            · have e_537 : r_536.toInt = 0 := i3_eq c_537
              refine lv_iload hx hb dX5_lookUp_130 (lv_at hl 4 rfl) ?_
              refine lv_if_le (tgt := 153) hx hb dX5_lookUp_132 (by decide) (fun c_538 => ?_) (fun c_538 => ?_)
              · have e_538 : x_510.toInt ≤ 0 := i3_le c_538
                exfalso; omega
              · have e_538 : 0 < x_510.toInt := i3_nle c_538
                refine va_gets (C := "TimingHouse$Tables") (n := "LOAD_MARKS") (d := "[I") (own := RX5) (ref := "TimingHouse$Tables") hx hb hZ.1.1 hS hown (hto (.fieldLink RX5 31 "TimingHouse$Tables" "LOAD_MARKS" "[I") (by decide +kernel)) (fun _ h9 => h9) dX5_lookUp_135 ?_
                refine lv_iload hx hb dX5_lookUp_138 (lv_at hl 6 rfl) ?_
                refine lv_iconst (v := 1) hx hb dX5_lookUp_140 (by decide) ?_
                refine lv_iadd hx hb dX5_lookUp_141 ?_
                refine lv_cst (y := 3) (by decide) ?_
                refine va_ti (v := .int 64) hx hb hZ.1.2 hS (i3_in (by decide)) rfl dX5_lookUp_142 ?_
                refine va_gets (C := "TimingHouse$Tables") (n := "LOAD_MARKS") (d := "[I") (own := RX5) (ref := "TimingHouse$Tables") hx hb hZ.1.1 hS hown (hto (.fieldLink RX5 31 "TimingHouse$Tables" "LOAD_MARKS" "[I") (by decide +kernel)) (fun _ h9 => h9) dX5_lookUp_143 ?_
                refine lv_iload hx hb dX5_lookUp_146 (lv_at hl 6 rfl) ?_
                refine va_ti (v := .int 24) hx hb hZ.1.2 hS (i3_in (by decide)) rfl dX5_lookUp_148 ?_
                refine lv_isub hx hb dX5_lookUp_149 ?_
                refine lv_cst (y := 40) (by decide) ?_
                refine lv_goto (tgt := 154) hx hb dX5_lookUp_150 (by decide) ?_
                refine lv_istore (lv' := [(15, .int 40), (14, .int r_536), (13, .int 0), (12, .int r_512), (11, .int x_511), (10, .int x_510), (9, .int 0), (8, .int 2), (7, .int x_3), (6, .int x_1), (0, .ref o_t), (1, .int p1), (2, .int p2), (3, .int p3), (4, .int p4), (5, .int p5)]) hx hb dX5_lookUp_154 hl (by decide) rfl (fun ls hl => ?_)
                refine lv_iload hx hb dX5_lookUp_156 (lv_at hl 4 rfl) ?_
                refine lv_if_le (tgt := 179) hx hb dX5_lookUp_158 (by decide) (fun c_539 => ?_) (fun c_539 => ?_)
                · have e_539 : x_511.toInt ≤ 0 := i3_le c_539
                  refine lv_iconst (v := 1) hx hb dX5_lookUp_179 (by decide) ?_
                  refine lv_istore (lv' := [(16, .int 1), (15, .int 40), (14, .int r_536), (13, .int 0), (12, .int r_512), (11, .int x_511), (10, .int x_510), (9, .int 0), (8, .int 2), (7, .int x_3), (6, .int x_1), (0, .ref o_t), (1, .int p1), (2, .int p2), (3, .int p3), (4, .int p4), (5, .int p5)]) hx hb dX5_lookUp_180 hl (by decide) rfl (fun ls hl => ?_)
                  refine lv_iload hx hb dX5_lookUp_182 (lv_at hl 1 rfl) ?_
                  refine lv_iload hx hb dX5_lookUp_184 (lv_at hl 6 rfl) ?_
                  refine lv_isub hx hb dX5_lookUp_186 ?_
                  refine lv_topi (fun x_540 ex_540 => ?_)
                  have tx_540 : x_540.toInt = 40 - x_510.toInt := i3_subc rfl rfl ex_540 (by omega)
                  refine lv_aload_n hx hb dX5_lookUp_187 rfl (lv_at hl 11 rfl) ?_
                  refine lv_iload hx hb dX5_lookUp_188 (lv_at hl 4 rfl) ?_
                  refine lv_iload hx hb dX5_lookUp_190 (lv_at hl 7 rfl) ?_
                  refine lv_iload hx hb dX5_lookUp_192 (lv_at hl 5 rfl) ?_
                  refine lv_iload hx hb dX5_lookUp_194 (lv_at hl 0 rfl) ?_
                  refine call_i (va_runV (As := [.int r_512, .int 0, .int x_511, .int 1]) (rest := [.int x_540]) ⟨hx, hb, hml, hown, hts⟩ (q_weighRow1 l E o_t a_t_numbers a_t_lefts a_t_falls f_t_lateCorner f_t_earlyCorner r_512 0 x_511 1 g_t_numbers r_f_t_lateCorner r_f_t_earlyCorner i_g_t_numbers (RG.mk (by omega)) (RG.mk (by decide)) H.size) (cwV 4 hts g_q_lookUp_q_weighRow1_54 rfl rfl rfl (by decide +kernel) ⟨Nat.le_of_ble_eq_true rfl, Nat.le_of_ble_eq_true rfl⟩) (pre_V hK hN hZ hS (va_free hD hS hA [1, 0] rfl) (hP.sub (ws' := [(o_t, .inr (5, [.ref a_t_numbers, .ref a_t_lefts, .ref a_t_falls, .int f_t_lateCorner, .int f_t_earlyCorner])), (a_t_numbers, aI E 192 g_t_numbers)]) [1, 0] rfl) (hD.sub (ws' := [(o_t, .inr (5, [.ref a_t_numbers, .ref a_t_lefts, .ref a_t_falls, .int f_t_lateCorner, .int f_t_earlyCorner])), (a_t_numbers, aI E 192 g_t_numbers)]) [1, 0] (by decide) rfl) (ci := 5) (q0 := 0) rfl rfl) rfl rfl hl.1 rfl (lv_room (Nat.le_of_ble_eq_true rfl)) dX5_lookUp_196 ⟨Nat.le_of_ble_eq_true rfl, Nat.le_of_ble_eq_true rfl⟩) hP hD hS hA [1, 0] [2] (wr := [(a_t_lefts, aI E 64 g_t_lefts)]) rfl rfl (by decide) (by decide) (fun r_541 w H locs hw hP hD hS => ?_)
                  obtain ⟨b_r_541, rfl⟩ := hw
                  replace hP : va_P E.1 vwCl [(a_t_lefts, aI E 64 g_t_lefts), (o_t, .inr (5, [.ref a_t_numbers, .ref a_t_lefts, .ref a_t_falls, .int f_t_lateCorner, .int f_t_earlyCorner])), (a_t_numbers, aI E 192 g_t_numbers)] H := hP
                  replace hD : va_D A [(a_t_lefts, aI E 64 g_t_lefts), (o_t, .inr (5, [.ref a_t_numbers, .ref a_t_lefts, .ref a_t_falls, .int f_t_lateCorner, .int f_t_earlyCorner])), (a_t_numbers, aI E 192 g_t_numbers)] := hD
                  refine lv_imul hx hb dX5_lookUp_199 ?_
                  refine lv_topi (fun x_542 ex_542 => ?_)
                  have bd_543 := i3_bd r_541
                  refine lv_istore (lv' := [(17, .int x_542), (16, .int 1), (15, .int 40), (14, .int r_536), (13, .int 0), (12, .int r_512), (11, .int x_511), (10, .int x_510), (9, .int 0), (8, .int 2), (7, .int x_3), (6, .int x_1), (0, .ref o_t), (1, .int p1), (2, .int p2), (3, .int p3), (4, .int p4), (5, .int p5)]) hx hb dX5_lookUp_200 hl (by decide) rfl (fun ls hl => ?_)
                  refine lv_iload hx hb dX5_lookUp_202 (lv_at hl 7 rfl) ?_
                  refine lv_if_le (tgt := 229) hx hb dX5_lookUp_204 (by decide) (fun c_544 => ?_) (fun c_544 => ?_)
                  · have e_544 : x_510.toInt ≤ 0 := i3_le c_544
                    exfalso; omega
                  · have e_544 : 0 < x_510.toInt := i3_nle c_544
                    refine lv_iload hx hb dX5_lookUp_207 (lv_at hl 0 rfl) ?_
                    refine lv_iload hx hb dX5_lookUp_209 (lv_at hl 7 rfl) ?_
                    refine lv_aload_n hx hb dX5_lookUp_211 rfl (lv_at hl 12 rfl) ?_
                    refine lv_iload hx hb dX5_lookUp_212 (lv_at hl 5 rfl) ?_
                    refine lv_iconst (v := 1) hx hb dX5_lookUp_214 (by decide) ?_
                    refine lv_iadd hx hb dX5_lookUp_215 ?_
                    refine lv_topi (fun x_545 ex_545 => ?_)
                    have hq_x_545 : x_535 = x_545 := ex_535.trans ex_545.symm
                    subst hq_x_545
                    refine lv_iload hx hb dX5_lookUp_216 (lv_at hl 8 rfl) ?_
                    refine lv_iload hx hb dX5_lookUp_218 (lv_at hl 6 rfl) ?_
                    refine lv_iload hx hb dX5_lookUp_220 (lv_at hl 1 rfl) ?_
                    refine call_i (va_runV (As := [.int x_535, .int 0, .int x_511, .int 1]) (rest := [.int x_510, .int x_542]) ⟨hx, hb, hml, hown, hts⟩ (q_weighRow1 l E o_t a_t_numbers a_t_lefts a_t_falls f_t_lateCorner f_t_earlyCorner x_535 0 x_511 1 g_t_numbers r_f_t_lateCorner r_f_t_earlyCorner i_g_t_numbers (RG.mk (by omega)) (RG.mk (by decide)) H.size) (cwV 4 hts g_q_lookUp_q_weighRow1_54 rfl rfl rfl (by decide +kernel) ⟨Nat.le_of_ble_eq_true rfl, Nat.le_of_ble_eq_true rfl⟩) (pre_V hK hN hZ hS (va_free hD hS hA [1, 2] rfl) (hP.sub (ws' := [(o_t, .inr (5, [.ref a_t_numbers, .ref a_t_lefts, .ref a_t_falls, .int f_t_lateCorner, .int f_t_earlyCorner])), (a_t_numbers, aI E 192 g_t_numbers)]) [1, 2] rfl) (hD.sub (ws' := [(o_t, .inr (5, [.ref a_t_numbers, .ref a_t_lefts, .ref a_t_falls, .int f_t_lateCorner, .int f_t_earlyCorner])), (a_t_numbers, aI E 192 g_t_numbers)]) [1, 2] (by decide) rfl) (ci := 5) (q0 := 0) rfl rfl) rfl rfl hl.1 rfl (lv_room (Nat.le_of_ble_eq_true rfl)) dX5_lookUp_222 ⟨Nat.le_of_ble_eq_true rfl, Nat.le_of_ble_eq_true rfl⟩) hP hD hS hA [1, 2] [0] (wr := [(a_t_lefts, aI E 64 g_t_lefts)]) rfl rfl (by decide) (by decide) (fun r_546 w H locs hw hP hD hS => ?_)
                    obtain ⟨b_r_546, rfl⟩ := hw
                    replace hP : va_P E.1 vwCl [(a_t_lefts, aI E 64 g_t_lefts), (o_t, .inr (5, [.ref a_t_numbers, .ref a_t_lefts, .ref a_t_falls, .int f_t_lateCorner, .int f_t_earlyCorner])), (a_t_numbers, aI E 192 g_t_numbers)] H := hP
                    replace hD : va_D A [(a_t_lefts, aI E 64 g_t_lefts), (o_t, .inr (5, [.ref a_t_numbers, .ref a_t_lefts, .ref a_t_falls, .int f_t_lateCorner, .int f_t_earlyCorner])), (a_t_numbers, aI E 192 g_t_numbers)] := hD
                    refine lv_imul hx hb dX5_lookUp_225 ?_
                    refine lv_topi (fun x_547 ex_547 => ?_)
                    have bd_548 := i3_bd r_546
                    refine lv_iadd hx hb dX5_lookUp_226 ?_
                    refine lv_topi (fun x_549 ex_549 => ?_)
                    have bd_550 := i3_bd x_542
                    have bd_551 := i3_bd x_547
                    refine lv_istore (lv' := [(17, .int x_549), (16, .int 1), (15, .int 40), (14, .int r_536), (13, .int 0), (12, .int r_512), (11, .int x_511), (10, .int x_510), (9, .int 0), (8, .int 2), (7, .int x_3), (6, .int x_1), (0, .ref o_t), (1, .int p1), (2, .int p2), (3, .int p3), (4, .int p4), (5, .int p5)]) hx hb dX5_lookUp_227 hl (by decide) rfl (fun ls hl => ?_)
                    refine lv_iload hx hb dX5_lookUp_229 (lv_at hl 2 rfl) ?_
                    refine lv_iload hx hb dX5_lookUp_231 (lv_at hl 1 rfl) ?_
                    refine lv_imul hx hb dX5_lookUp_233 ?_
                    refine lv_cst (y := 40) (by decide) ?_
                    refine lv_istore (lv' := [(18, .int 40), (17, .int x_549), (16, .int 1), (15, .int 40), (14, .int r_536), (13, .int 0), (12, .int r_512), (11, .int x_511), (10, .int x_510), (9, .int 0), (8, .int 2), (7, .int x_3), (6, .int x_1), (0, .ref o_t), (1, .int p1), (2, .int p2), (3, .int p3), (4, .int p4), (5, .int p5)]) hx hb dX5_lookUp_234 hl (by decide) rfl (fun ls hl => ?_)
                    refine lv_iload hx hb dX5_lookUp_236 (lv_at hl 18 rfl) ?_
                    have b_p5 := r_p5.out
                    refine lv_if_eq (tgt := 254) hx hb dX5_lookUp_238 (by decide) (fun c_552 => ?_) (fun c_552 => ?_)
                    · have e_552 : p5.toInt = 0 := i3_eq c_552
                      refine lv_iload hx hb dX5_lookUp_254 (lv_at hl 1 rfl) ?_
                      refine lv_iload hx hb dX5_lookUp_256 (lv_at hl 0 rfl) ?_
                      refine lv_idiv hx hb dX5_lookUp_258 (by decide) ?_
                      refine lv_topi (fun x_553 ex_553 => ?_)
                      have bd_554 := i3_bd x_549
                      exact ret_i hx hb hr hlk (hP.sub (ws' := [(o_t, .inr (5, [.ref a_t_numbers, .ref a_t_lefts, .ref a_t_falls, .int f_t_lateCorner, .int f_t_earlyCorner])), (a_t_lefts, aI E 64 g_t_lefts), (a_t_numbers, aI E 192 g_t_numbers)]) [1, 0, 2] rfl) (hD.sub (ws' := [(o_t, .inr (5, [.ref a_t_numbers, .ref a_t_lefts, .ref a_t_falls, .int f_t_lateCorner, .int f_t_earlyCorner])), (a_t_lefts, aI E 64 g_t_lefts), (a_t_numbers, aI E 192 g_t_numbers)]) [1, 0, 2] (by decide) rfl) hS rfl dX5_lookUp_259 (Nat.le_of_ble_eq_true rfl) (Nat.le_of_ble_eq_true rfl) ⟨trivial, rfl⟩
                    · have e_552 : p5.toInt ≠ 0 := i3_ne c_552
                      refine lv_iload hx hb dX5_lookUp_241 (lv_at hl 1 rfl) ?_
                      refine lv_iload hx hb dX5_lookUp_243 (lv_at hl 0 rfl) ?_
                      refine lv_iadd hx hb dX5_lookUp_245 ?_
                      refine lv_topi (fun x_555 ex_555 => ?_)
                      have bd_556 := i3_bd x_549
                      refine lv_iconst (v := 1) hx hb dX5_lookUp_246 (by decide) ?_
                      refine lv_isub hx hb dX5_lookUp_247 ?_
                      refine lv_topi (fun x_557 ex_557 => ?_)
                      have bd_558 := i3_bd x_555
                      refine lv_iload hx hb dX5_lookUp_248 (lv_at hl 0 rfl) ?_
                      refine lv_idiv hx hb dX5_lookUp_250 (by decide) ?_
                      refine lv_topi (fun x_559 ex_559 => ?_)
                      have bd_560 := i3_bd x_557
                      refine lv_goto (tgt := 259) hx hb dX5_lookUp_251 (by decide) ?_
                      exact ret_i hx hb hr hlk (hP.sub (ws' := [(o_t, .inr (5, [.ref a_t_numbers, .ref a_t_lefts, .ref a_t_falls, .int f_t_lateCorner, .int f_t_earlyCorner])), (a_t_lefts, aI E 64 g_t_lefts), (a_t_numbers, aI E 192 g_t_numbers)]) [1, 0, 2] rfl) (hD.sub (ws' := [(o_t, .inr (5, [.ref a_t_numbers, .ref a_t_lefts, .ref a_t_falls, .int f_t_lateCorner, .int f_t_earlyCorner])), (a_t_lefts, aI E 64 g_t_lefts), (a_t_numbers, aI E 192 g_t_numbers)]) [1, 0, 2] (by decide) rfl) hS rfl dX5_lookUp_259 (Nat.le_of_ble_eq_true rfl) (Nat.le_of_ble_eq_true rfl) ⟨trivial, rfl⟩
                · have e_539 : 0 < x_511.toInt := i3_nle c_539
                  exfalso; omega
            · have e_537 : r_536.toInt ≠ 0 := i3_ne c_537
              refine lv_iload hx hb dX5_lookUp_127 (lv_at hl 0 rfl) ?_
              exact ret_i hx hb hr hlk (hP.sub (ws' := [(o_t, .inr (5, [.ref a_t_numbers, .ref a_t_lefts, .ref a_t_falls, .int f_t_lateCorner, .int f_t_earlyCorner])), (a_t_lefts, aI E 64 g_t_lefts), (a_t_numbers, aI E 192 g_t_numbers)]) [1, 2, 0] rfl) (hD.sub (ws' := [(o_t, .inr (5, [.ref a_t_numbers, .ref a_t_lefts, .ref a_t_falls, .int f_t_lateCorner, .int f_t_earlyCorner])), (a_t_lefts, aI E 64 g_t_lefts), (a_t_numbers, aI E 192 g_t_numbers)]) [1, 2, 0] (by decide) rfl) hS rfl dX5_lookUp_129 (Nat.le_of_ble_eq_true rfl) (Nat.le_of_ble_eq_true rfl) ⟨trivial, rfl⟩
      · have e_513 : 0 < x_511.toInt := i3_nle c_513
        refine lv_iload hx hb dX5_lookUp_79 (lv_at hl 3 rfl) ?_
        refine lv_iconst (v := 1) hx hb dX5_lookUp_81 (by decide) ?_
        refine lv_iadd hx hb dX5_lookUp_82 ?_
        refine lv_cst (y := 1) (by decide) ?_
        refine lv_goto (tgt := 88) hx hb dX5_lookUp_83 (by decide) ?_
        refine lv_istore (lv' := [(13, .int 1), (12, .int r_512), (11, .int x_511), (10, .int x_510), (9, .int 0), (8, .int 2), (7, .int x_3), (6, .int x_1), (0, .ref o_t), (1, .int p1), (2, .int p2), (3, .int p3), (4, .int p4), (5, .int p5)]) hx hb dX5_lookUp_88 hl (by decide) rfl (fun ls hl => ?_)
        refine lv_aload_n hx hb dX5_lookUp_90 rfl (lv_at hl 8 rfl) ?_
        refine lv_iload hx hb dX5_lookUp_91 (lv_at hl 1 rfl) ?_
        refine lv_iload hx hb dX5_lookUp_93 (lv_at hl 0 rfl) ?_
        refine call_i (va_runV (As := [.int r_512, .int 1]) (rest := []) ⟨hx, hb, hml, hown, hts⟩ (q_whyAbsent l E o_t a_t_numbers a_t_lefts a_t_falls f_t_lateCorner f_t_earlyCorner r_512 1 g_t_lefts r_f_t_lateCorner r_f_t_earlyCorner i_g_t_lefts (RG.mk (by omega)) H.size) (cwV 2 hts g_q_lookUp_q_whyAbsent_51 rfl rfl rfl (by decide +kernel) ⟨Nat.le_of_ble_eq_true rfl, Nat.le_of_ble_eq_true rfl⟩) (pre_V hK hN hZ hS (va_free hD hS hA [0, 1] rfl) (hP.sub (ws' := [(o_t, .inr (5, [.ref a_t_numbers, .ref a_t_lefts, .ref a_t_falls, .int f_t_lateCorner, .int f_t_earlyCorner])), (a_t_lefts, aI E 64 g_t_lefts)]) [0, 1] rfl) (hD.sub (ws' := [(o_t, .inr (5, [.ref a_t_numbers, .ref a_t_lefts, .ref a_t_falls, .int f_t_lateCorner, .int f_t_earlyCorner])), (a_t_lefts, aI E 64 g_t_lefts)]) [0, 1] (by decide) rfl) (ci := 5) (q0 := 0) rfl rfl) rfl rfl hl.1 rfl (lv_room (Nat.le_of_ble_eq_true rfl)) dX5_lookUp_95 ⟨Nat.le_of_ble_eq_true rfl, Nat.le_of_ble_eq_true rfl⟩) hP hD hS hA [0, 1] [2] (wr := [(a_t_numbers, aI E 192 g_t_numbers)]) rfl rfl (by decide) (by decide) (fun r_561 w H locs hw hP hD hS => ?_)
        obtain ⟨b_r_561, rfl⟩ := hw
        replace hP : va_P E.1 vwCl [(a_t_numbers, aI E 192 g_t_numbers), (o_t, .inr (5, [.ref a_t_numbers, .ref a_t_lefts, .ref a_t_falls, .int f_t_lateCorner, .int f_t_earlyCorner])), (a_t_lefts, aI E 64 g_t_lefts)] H := hP
        replace hD : va_D A [(a_t_numbers, aI E 192 g_t_numbers), (o_t, .inr (5, [.ref a_t_numbers, .ref a_t_lefts, .ref a_t_falls, .int f_t_lateCorner, .int f_t_earlyCorner])), (a_t_lefts, aI E 64 g_t_lefts)] := hD
        refine lv_istore (lv' := [(14, .int r_561), (13, .int 1), (12, .int r_512), (11, .int x_511), (10, .int x_510), (9, .int 0), (8, .int 2), (7, .int x_3), (6, .int x_1), (0, .ref o_t), (1, .int p1), (2, .int p2), (3, .int p3), (4, .int p4), (5, .int p5)]) hx hb dX5_lookUp_98 hl (by decide) rfl (fun ls hl => ?_)
        refine lv_iload hx hb dX5_lookUp_100 (lv_at hl 0 rfl) ?_
        refine lv_if_ne (tgt := 122) hx hb dX5_lookUp_102 (by decide) (fun c_562 => ?_) (fun c_562 => ?_)
        · have e_562 : r_561.toInt ≠ 0 := i3_ne c_562
          refine lv_iload hx hb dX5_lookUp_122 (lv_at hl 0 rfl) ?_
          refine lv_if_eq (tgt := 130) hx hb dX5_lookUp_124 (by decide) (fun c_563 => ?_) (fun c_563 => ?_)
          · have e_563 : r_561.toInt = 0 := i3_eq c_563
            exfalso; omega
          · have e_563 : r_561.toInt ≠ 0 := i3_ne c_563
            refine lv_iload hx hb dX5_lookUp_127 (lv_at hl 0 rfl) ?_
            exact ret_i hx hb hr hlk (hP.sub (ws' := [(o_t, .inr (5, [.ref a_t_numbers, .ref a_t_lefts, .ref a_t_falls, .int f_t_lateCorner, .int f_t_earlyCorner])), (a_t_lefts, aI E 64 g_t_lefts), (a_t_numbers, aI E 192 g_t_numbers)]) [1, 2, 0] rfl) (hD.sub (ws' := [(o_t, .inr (5, [.ref a_t_numbers, .ref a_t_lefts, .ref a_t_falls, .int f_t_lateCorner, .int f_t_earlyCorner])), (a_t_lefts, aI E 64 g_t_lefts), (a_t_numbers, aI E 192 g_t_numbers)]) [1, 2, 0] (by decide) rfl) hS rfl dX5_lookUp_129 (Nat.le_of_ble_eq_true rfl) (Nat.le_of_ble_eq_true rfl) ⟨trivial, rfl⟩
        · have e_562 : r_561.toInt = 0 := i3_eq c_562
          refine lv_iload hx hb dX5_lookUp_105 (lv_at hl 4 rfl) ?_
          refine lv_if_le (tgt := 122) hx hb dX5_lookUp_107 (by decide) (fun c_564 => ?_) (fun c_564 => ?_)
          · have e_564 : x_510.toInt ≤ 0 := i3_le c_564
            refine lv_iload hx hb dX5_lookUp_122 (lv_at hl 0 rfl) ?_
            refine lv_if_eq (tgt := 130) hx hb dX5_lookUp_124 (by decide) (fun c_565 => ?_) (fun c_565 => ?_)
            · have e_565 : r_561.toInt = 0 := i3_eq c_565
              refine lv_iload hx hb dX5_lookUp_130 (lv_at hl 4 rfl) ?_
              refine lv_if_le (tgt := 153) hx hb dX5_lookUp_132 (by decide) (fun c_566 => ?_) (fun c_566 => ?_)
              · have e_566 : x_510.toInt ≤ 0 := i3_le c_566
                refine lv_iconst (v := 1) hx hb dX5_lookUp_153 (by decide) ?_
                refine lv_istore (lv' := [(15, .int 1), (14, .int r_561), (13, .int 1), (12, .int r_512), (11, .int x_511), (10, .int x_510), (9, .int 0), (8, .int 2), (7, .int x_3), (6, .int x_1), (0, .ref o_t), (1, .int p1), (2, .int p2), (3, .int p3), (4, .int p4), (5, .int p5)]) hx hb dX5_lookUp_154 hl (by decide) rfl (fun ls hl => ?_)
                refine lv_iload hx hb dX5_lookUp_156 (lv_at hl 4 rfl) ?_
                refine lv_if_le (tgt := 179) hx hb dX5_lookUp_158 (by decide) (fun c_567 => ?_) (fun c_567 => ?_)
                · have e_567 : x_511.toInt ≤ 0 := i3_le c_567
                  exfalso; omega
                · have e_567 : 0 < x_511.toInt := i3_nle c_567
                  refine va_gets (C := "TimingHouse$Tables") (n := "SLOPE_MARKS") (d := "[I") (own := RX5) (ref := "TimingHouse$Tables") hx hb hZ.2.1.1 hS hown (hto (.fieldLink RX5 40 "TimingHouse$Tables" "SLOPE_MARKS" "[I") (by decide +kernel)) (fun _ h9 => h9) dX5_lookUp_161 ?_
                  refine lv_iload hx hb dX5_lookUp_164 (lv_at hl 6 rfl) ?_
                  refine lv_iconst (v := 1) hx hb dX5_lookUp_166 (by decide) ?_
                  refine lv_iadd hx hb dX5_lookUp_167 ?_
                  refine lv_cst (y := 1) (by decide) ?_
                  refine va_ti (v := .int 16) hx hb hZ.2.1.2 hS (i3_in (by decide)) rfl dX5_lookUp_168 ?_
                  refine va_gets (C := "TimingHouse$Tables") (n := "SLOPE_MARKS") (d := "[I") (own := RX5) (ref := "TimingHouse$Tables") hx hb hZ.2.1.1 hS hown (hto (.fieldLink RX5 40 "TimingHouse$Tables" "SLOPE_MARKS" "[I") (by decide +kernel)) (fun _ h9 => h9) dX5_lookUp_169 ?_
                  refine lv_iload hx hb dX5_lookUp_172 (lv_at hl 6 rfl) ?_
                  refine va_ti (v := .int 0) hx hb hZ.2.1.2 hS (i3_in (by decide)) rfl dX5_lookUp_174 ?_
                  refine lv_isub hx hb dX5_lookUp_175 ?_
                  refine lv_cst (y := 16) (by decide) ?_
                  refine lv_goto (tgt := 180) hx hb dX5_lookUp_176 (by decide) ?_
                  refine lv_istore (lv' := [(16, .int 16), (15, .int 1), (14, .int r_561), (13, .int 1), (12, .int r_512), (11, .int x_511), (10, .int x_510), (9, .int 0), (8, .int 2), (7, .int x_3), (6, .int x_1), (0, .ref o_t), (1, .int p1), (2, .int p2), (3, .int p3), (4, .int p4), (5, .int p5)]) hx hb dX5_lookUp_180 hl (by decide) rfl (fun ls hl => ?_)
                  refine lv_iload hx hb dX5_lookUp_182 (lv_at hl 1 rfl) ?_
                  refine lv_iload hx hb dX5_lookUp_184 (lv_at hl 6 rfl) ?_
                  refine lv_isub hx hb dX5_lookUp_186 ?_
                  refine lv_topi (fun x_568 ex_568 => ?_)
                  have tx_568 : x_568.toInt = 1 - x_510.toInt := i3_subc rfl rfl ex_568 (by omega)
                  refine lv_aload_n hx hb dX5_lookUp_187 rfl (lv_at hl 11 rfl) ?_
                  refine lv_iload hx hb dX5_lookUp_188 (lv_at hl 4 rfl) ?_
                  refine lv_iload hx hb dX5_lookUp_190 (lv_at hl 7 rfl) ?_
                  refine lv_iload hx hb dX5_lookUp_192 (lv_at hl 5 rfl) ?_
                  refine lv_iload hx hb dX5_lookUp_194 (lv_at hl 0 rfl) ?_
                  refine call_i (va_runV (As := [.int r_512, .int 0, .int x_511, .int 16]) (rest := [.int x_568]) ⟨hx, hb, hml, hown, hts⟩ (q_weighRow1 l E o_t a_t_numbers a_t_lefts a_t_falls f_t_lateCorner f_t_earlyCorner r_512 0 x_511 16 g_t_numbers r_f_t_lateCorner r_f_t_earlyCorner i_g_t_numbers (RG.mk (by omega)) (RG.mk (by decide)) H.size) (cwV 4 hts g_q_lookUp_q_weighRow1_54 rfl rfl rfl (by decide +kernel) ⟨Nat.le_of_ble_eq_true rfl, Nat.le_of_ble_eq_true rfl⟩) (pre_V hK hN hZ hS (va_free hD hS hA [1, 0] rfl) (hP.sub (ws' := [(o_t, .inr (5, [.ref a_t_numbers, .ref a_t_lefts, .ref a_t_falls, .int f_t_lateCorner, .int f_t_earlyCorner])), (a_t_numbers, aI E 192 g_t_numbers)]) [1, 0] rfl) (hD.sub (ws' := [(o_t, .inr (5, [.ref a_t_numbers, .ref a_t_lefts, .ref a_t_falls, .int f_t_lateCorner, .int f_t_earlyCorner])), (a_t_numbers, aI E 192 g_t_numbers)]) [1, 0] (by decide) rfl) (ci := 5) (q0 := 0) rfl rfl) rfl rfl hl.1 rfl (lv_room (Nat.le_of_ble_eq_true rfl)) dX5_lookUp_196 ⟨Nat.le_of_ble_eq_true rfl, Nat.le_of_ble_eq_true rfl⟩) hP hD hS hA [1, 0] [2] (wr := [(a_t_lefts, aI E 64 g_t_lefts)]) rfl rfl (by decide) (by decide) (fun r_569 w H locs hw hP hD hS => ?_)
                  obtain ⟨b_r_569, rfl⟩ := hw
                  replace hP : va_P E.1 vwCl [(a_t_lefts, aI E 64 g_t_lefts), (o_t, .inr (5, [.ref a_t_numbers, .ref a_t_lefts, .ref a_t_falls, .int f_t_lateCorner, .int f_t_earlyCorner])), (a_t_numbers, aI E 192 g_t_numbers)] H := hP
                  replace hD : va_D A [(a_t_lefts, aI E 64 g_t_lefts), (o_t, .inr (5, [.ref a_t_numbers, .ref a_t_lefts, .ref a_t_falls, .int f_t_lateCorner, .int f_t_earlyCorner])), (a_t_numbers, aI E 192 g_t_numbers)] := hD
                  refine lv_imul hx hb dX5_lookUp_199 ?_
                  refine lv_topi (fun x_570 ex_570 => ?_)
                  have bd_571 := i3_bd r_569
                  refine lv_istore (lv' := [(17, .int x_570), (16, .int 16), (15, .int 1), (14, .int r_561), (13, .int 1), (12, .int r_512), (11, .int x_511), (10, .int x_510), (9, .int 0), (8, .int 2), (7, .int x_3), (6, .int x_1), (0, .ref o_t), (1, .int p1), (2, .int p2), (3, .int p3), (4, .int p4), (5, .int p5)]) hx hb dX5_lookUp_200 hl (by decide) rfl (fun ls hl => ?_)
                  refine lv_iload hx hb dX5_lookUp_202 (lv_at hl 7 rfl) ?_
                  refine lv_if_le (tgt := 229) hx hb dX5_lookUp_204 (by decide) (fun c_572 => ?_) (fun c_572 => ?_)
                  · have e_572 : x_510.toInt ≤ 0 := i3_le c_572
                    refine lv_iload hx hb dX5_lookUp_229 (lv_at hl 2 rfl) ?_
                    refine lv_iload hx hb dX5_lookUp_231 (lv_at hl 1 rfl) ?_
                    refine lv_imul hx hb dX5_lookUp_233 ?_
                    refine lv_cst (y := 16) (by decide) ?_
                    refine lv_istore (lv' := [(18, .int 16), (17, .int x_570), (16, .int 16), (15, .int 1), (14, .int r_561), (13, .int 1), (12, .int r_512), (11, .int x_511), (10, .int x_510), (9, .int 0), (8, .int 2), (7, .int x_3), (6, .int x_1), (0, .ref o_t), (1, .int p1), (2, .int p2), (3, .int p3), (4, .int p4), (5, .int p5)]) hx hb dX5_lookUp_234 hl (by decide) rfl (fun ls hl => ?_)
                    refine lv_iload hx hb dX5_lookUp_236 (lv_at hl 18 rfl) ?_
                    have b_p5 := r_p5.out
                    refine lv_if_eq (tgt := 254) hx hb dX5_lookUp_238 (by decide) (fun c_573 => ?_) (fun c_573 => ?_)
                    · have e_573 : p5.toInt = 0 := i3_eq c_573
                      refine lv_iload hx hb dX5_lookUp_254 (lv_at hl 1 rfl) ?_
                      refine lv_iload hx hb dX5_lookUp_256 (lv_at hl 0 rfl) ?_
                      refine lv_idiv hx hb dX5_lookUp_258 (by decide) ?_
                      refine lv_topi (fun x_574 ex_574 => ?_)
                      have bd_575 := i3_bd x_570
                      exact ret_i hx hb hr hlk (hP.sub (ws' := [(o_t, .inr (5, [.ref a_t_numbers, .ref a_t_lefts, .ref a_t_falls, .int f_t_lateCorner, .int f_t_earlyCorner])), (a_t_lefts, aI E 64 g_t_lefts), (a_t_numbers, aI E 192 g_t_numbers)]) [1, 0, 2] rfl) (hD.sub (ws' := [(o_t, .inr (5, [.ref a_t_numbers, .ref a_t_lefts, .ref a_t_falls, .int f_t_lateCorner, .int f_t_earlyCorner])), (a_t_lefts, aI E 64 g_t_lefts), (a_t_numbers, aI E 192 g_t_numbers)]) [1, 0, 2] (by decide) rfl) hS rfl dX5_lookUp_259 (Nat.le_of_ble_eq_true rfl) (Nat.le_of_ble_eq_true rfl) ⟨trivial, rfl⟩
                    · have e_573 : p5.toInt ≠ 0 := i3_ne c_573
                      refine lv_iload hx hb dX5_lookUp_241 (lv_at hl 1 rfl) ?_
                      refine lv_iload hx hb dX5_lookUp_243 (lv_at hl 0 rfl) ?_
                      refine lv_iadd hx hb dX5_lookUp_245 ?_
                      refine lv_topi (fun x_576 ex_576 => ?_)
                      have bd_577 := i3_bd x_570
                      refine lv_iconst (v := 1) hx hb dX5_lookUp_246 (by decide) ?_
                      refine lv_isub hx hb dX5_lookUp_247 ?_
                      refine lv_topi (fun x_578 ex_578 => ?_)
                      have bd_579 := i3_bd x_576
                      refine lv_iload hx hb dX5_lookUp_248 (lv_at hl 0 rfl) ?_
                      refine lv_idiv hx hb dX5_lookUp_250 (by decide) ?_
                      refine lv_topi (fun x_580 ex_580 => ?_)
                      have bd_581 := i3_bd x_578
                      refine lv_goto (tgt := 259) hx hb dX5_lookUp_251 (by decide) ?_
                      exact ret_i hx hb hr hlk (hP.sub (ws' := [(o_t, .inr (5, [.ref a_t_numbers, .ref a_t_lefts, .ref a_t_falls, .int f_t_lateCorner, .int f_t_earlyCorner])), (a_t_lefts, aI E 64 g_t_lefts), (a_t_numbers, aI E 192 g_t_numbers)]) [1, 0, 2] rfl) (hD.sub (ws' := [(o_t, .inr (5, [.ref a_t_numbers, .ref a_t_lefts, .ref a_t_falls, .int f_t_lateCorner, .int f_t_earlyCorner])), (a_t_lefts, aI E 64 g_t_lefts), (a_t_numbers, aI E 192 g_t_numbers)]) [1, 0, 2] (by decide) rfl) hS rfl dX5_lookUp_259 (Nat.le_of_ble_eq_true rfl) (Nat.le_of_ble_eq_true rfl) ⟨trivial, rfl⟩
                  · have e_572 : 0 < x_510.toInt := i3_nle c_572
                    exfalso; omega
              · have e_566 : 0 < x_510.toInt := i3_nle c_566
                exfalso; omega
            · have e_565 : r_561.toInt ≠ 0 := i3_ne c_565
              exfalso; omega
          · have e_564 : 0 < x_510.toInt := i3_nle c_564
            refine lv_aload_n hx hb dX5_lookUp_110 rfl (lv_at hl 9 rfl) ?_
            refine lv_iload hx hb dX5_lookUp_111 (lv_at hl 2 rfl) ?_
            refine lv_iconst (v := 1) hx hb dX5_lookUp_113 (by decide) ?_
            refine lv_iadd hx hb dX5_lookUp_114 ?_
            refine lv_topi (fun x_582 ex_582 => ?_)
            have tx_582 : x_582.toInt = r_512.toInt + 1 := i3_addc rfl rfl ex_582 (by omega)
            refine lv_iload hx hb dX5_lookUp_115 (lv_at hl 1 rfl) ?_
            refine call_i (va_runV (As := [.int x_582, .int 1]) (rest := []) ⟨hx, hb, hml, hown, hts⟩ (q_whyAbsent l E o_t a_t_numbers a_t_lefts a_t_falls f_t_lateCorner f_t_earlyCorner x_582 1 g_t_lefts r_f_t_lateCorner r_f_t_earlyCorner i_g_t_lefts (RG.mk (by omega)) H.size) (cwV 2 hts g_q_lookUp_q_whyAbsent_51 rfl rfl rfl (by decide +kernel) ⟨Nat.le_of_ble_eq_true rfl, Nat.le_of_ble_eq_true rfl⟩) (pre_V hK hN hZ hS (va_free hD hS hA [1, 2] rfl) (hP.sub (ws' := [(o_t, .inr (5, [.ref a_t_numbers, .ref a_t_lefts, .ref a_t_falls, .int f_t_lateCorner, .int f_t_earlyCorner])), (a_t_lefts, aI E 64 g_t_lefts)]) [1, 2] rfl) (hD.sub (ws' := [(o_t, .inr (5, [.ref a_t_numbers, .ref a_t_lefts, .ref a_t_falls, .int f_t_lateCorner, .int f_t_earlyCorner])), (a_t_lefts, aI E 64 g_t_lefts)]) [1, 2] (by decide) rfl) (ci := 5) (q0 := 0) rfl rfl) rfl rfl hl.1 rfl (lv_room (Nat.le_of_ble_eq_true rfl)) dX5_lookUp_117 ⟨Nat.le_of_ble_eq_true rfl, Nat.le_of_ble_eq_true rfl⟩) hP hD hS hA [1, 2] [0] (wr := [(a_t_numbers, aI E 192 g_t_numbers)]) rfl rfl (by decide) (by decide) (fun r_583 w H locs hw hP hD hS => ?_)
            obtain ⟨b_r_583, rfl⟩ := hw
            replace hP : va_P E.1 vwCl [(a_t_numbers, aI E 192 g_t_numbers), (o_t, .inr (5, [.ref a_t_numbers, .ref a_t_lefts, .ref a_t_falls, .int f_t_lateCorner, .int f_t_earlyCorner])), (a_t_lefts, aI E 64 g_t_lefts)] H := hP
            replace hD : va_D A [(a_t_numbers, aI E 192 g_t_numbers), (o_t, .inr (5, [.ref a_t_numbers, .ref a_t_lefts, .ref a_t_falls, .int f_t_lateCorner, .int f_t_earlyCorner])), (a_t_lefts, aI E 64 g_t_lefts)] := hD
            refine lv_istore (lv' := [(14, .int r_583), (13, .int 1), (12, .int r_512), (11, .int x_511), (10, .int x_510), (9, .int 0), (8, .int 2), (7, .int x_3), (6, .int x_1), (0, .ref o_t), (1, .int p1), (2, .int p2), (3, .int p3), (4, .int p4), (5, .int p5)]) hx hb dX5_lookUp_120 hl (by decide) rfl (fun ls hl => ?_)
            refine lv_iload hx hb dX5_lookUp_122 (lv_at hl 0 rfl) ?_
            refine lv_if_eq (tgt := 130) hx hb dX5_lookUp_124 (by decide) (fun c_584 => ?_) (fun c_584 => ?_)
            · have e_584 : r_583.toInt = 0 := i3_eq c_584
              refine lv_iload hx hb dX5_lookUp_130 (lv_at hl 4 rfl) ?_
              refine lv_if_le (tgt := 153) hx hb dX5_lookUp_132 (by decide) (fun c_585 => ?_) (fun c_585 => ?_)
              · have e_585 : x_510.toInt ≤ 0 := i3_le c_585
                exfalso; omega
              · have e_585 : 0 < x_510.toInt := i3_nle c_585
                refine va_gets (C := "TimingHouse$Tables") (n := "LOAD_MARKS") (d := "[I") (own := RX5) (ref := "TimingHouse$Tables") hx hb hZ.1.1 hS hown (hto (.fieldLink RX5 31 "TimingHouse$Tables" "LOAD_MARKS" "[I") (by decide +kernel)) (fun _ h9 => h9) dX5_lookUp_135 ?_
                refine lv_iload hx hb dX5_lookUp_138 (lv_at hl 6 rfl) ?_
                refine lv_iconst (v := 1) hx hb dX5_lookUp_140 (by decide) ?_
                refine lv_iadd hx hb dX5_lookUp_141 ?_
                refine lv_cst (y := 3) (by decide) ?_
                refine va_ti (v := .int 64) hx hb hZ.1.2 hS (i3_in (by decide)) rfl dX5_lookUp_142 ?_
                refine va_gets (C := "TimingHouse$Tables") (n := "LOAD_MARKS") (d := "[I") (own := RX5) (ref := "TimingHouse$Tables") hx hb hZ.1.1 hS hown (hto (.fieldLink RX5 31 "TimingHouse$Tables" "LOAD_MARKS" "[I") (by decide +kernel)) (fun _ h9 => h9) dX5_lookUp_143 ?_
                refine lv_iload hx hb dX5_lookUp_146 (lv_at hl 6 rfl) ?_
                refine va_ti (v := .int 24) hx hb hZ.1.2 hS (i3_in (by decide)) rfl dX5_lookUp_148 ?_
                refine lv_isub hx hb dX5_lookUp_149 ?_
                refine lv_cst (y := 40) (by decide) ?_
                refine lv_goto (tgt := 154) hx hb dX5_lookUp_150 (by decide) ?_
                refine lv_istore (lv' := [(15, .int 40), (14, .int r_583), (13, .int 1), (12, .int r_512), (11, .int x_511), (10, .int x_510), (9, .int 0), (8, .int 2), (7, .int x_3), (6, .int x_1), (0, .ref o_t), (1, .int p1), (2, .int p2), (3, .int p3), (4, .int p4), (5, .int p5)]) hx hb dX5_lookUp_154 hl (by decide) rfl (fun ls hl => ?_)
                refine lv_iload hx hb dX5_lookUp_156 (lv_at hl 4 rfl) ?_
                refine lv_if_le (tgt := 179) hx hb dX5_lookUp_158 (by decide) (fun c_586 => ?_) (fun c_586 => ?_)
                · have e_586 : x_511.toInt ≤ 0 := i3_le c_586
                  exfalso; omega
                · have e_586 : 0 < x_511.toInt := i3_nle c_586
                  refine va_gets (C := "TimingHouse$Tables") (n := "SLOPE_MARKS") (d := "[I") (own := RX5) (ref := "TimingHouse$Tables") hx hb hZ.2.1.1 hS hown (hto (.fieldLink RX5 40 "TimingHouse$Tables" "SLOPE_MARKS" "[I") (by decide +kernel)) (fun _ h9 => h9) dX5_lookUp_161 ?_
                  refine lv_iload hx hb dX5_lookUp_164 (lv_at hl 6 rfl) ?_
                  refine lv_iconst (v := 1) hx hb dX5_lookUp_166 (by decide) ?_
                  refine lv_iadd hx hb dX5_lookUp_167 ?_
                  refine lv_cst (y := 1) (by decide) ?_
                  refine va_ti (v := .int 16) hx hb hZ.2.1.2 hS (i3_in (by decide)) rfl dX5_lookUp_168 ?_
                  refine va_gets (C := "TimingHouse$Tables") (n := "SLOPE_MARKS") (d := "[I") (own := RX5) (ref := "TimingHouse$Tables") hx hb hZ.2.1.1 hS hown (hto (.fieldLink RX5 40 "TimingHouse$Tables" "SLOPE_MARKS" "[I") (by decide +kernel)) (fun _ h9 => h9) dX5_lookUp_169 ?_
                  refine lv_iload hx hb dX5_lookUp_172 (lv_at hl 6 rfl) ?_
                  refine va_ti (v := .int 0) hx hb hZ.2.1.2 hS (i3_in (by decide)) rfl dX5_lookUp_174 ?_
                  refine lv_isub hx hb dX5_lookUp_175 ?_
                  refine lv_cst (y := 16) (by decide) ?_
                  refine lv_goto (tgt := 180) hx hb dX5_lookUp_176 (by decide) ?_
                  refine lv_istore (lv' := [(16, .int 16), (15, .int 40), (14, .int r_583), (13, .int 1), (12, .int r_512), (11, .int x_511), (10, .int x_510), (9, .int 0), (8, .int 2), (7, .int x_3), (6, .int x_1), (0, .ref o_t), (1, .int p1), (2, .int p2), (3, .int p3), (4, .int p4), (5, .int p5)]) hx hb dX5_lookUp_180 hl (by decide) rfl (fun ls hl => ?_)
                  refine lv_iload hx hb dX5_lookUp_182 (lv_at hl 1 rfl) ?_
                  refine lv_iload hx hb dX5_lookUp_184 (lv_at hl 6 rfl) ?_
                  refine lv_isub hx hb dX5_lookUp_186 ?_
                  refine lv_topi (fun x_587 ex_587 => ?_)
                  have tx_587 : x_587.toInt = 40 - x_510.toInt := i3_subc rfl rfl ex_587 (by omega)
                  refine lv_aload_n hx hb dX5_lookUp_187 rfl (lv_at hl 11 rfl) ?_
                  refine lv_iload hx hb dX5_lookUp_188 (lv_at hl 4 rfl) ?_
                  refine lv_iload hx hb dX5_lookUp_190 (lv_at hl 7 rfl) ?_
                  refine lv_iload hx hb dX5_lookUp_192 (lv_at hl 5 rfl) ?_
                  refine lv_iload hx hb dX5_lookUp_194 (lv_at hl 0 rfl) ?_
                  refine call_i (va_runV (As := [.int r_512, .int 0, .int x_511, .int 16]) (rest := [.int x_587]) ⟨hx, hb, hml, hown, hts⟩ (q_weighRow1 l E o_t a_t_numbers a_t_lefts a_t_falls f_t_lateCorner f_t_earlyCorner r_512 0 x_511 16 g_t_numbers r_f_t_lateCorner r_f_t_earlyCorner i_g_t_numbers (RG.mk (by omega)) (RG.mk (by decide)) H.size) (cwV 4 hts g_q_lookUp_q_weighRow1_54 rfl rfl rfl (by decide +kernel) ⟨Nat.le_of_ble_eq_true rfl, Nat.le_of_ble_eq_true rfl⟩) (pre_V hK hN hZ hS (va_free hD hS hA [1, 0] rfl) (hP.sub (ws' := [(o_t, .inr (5, [.ref a_t_numbers, .ref a_t_lefts, .ref a_t_falls, .int f_t_lateCorner, .int f_t_earlyCorner])), (a_t_numbers, aI E 192 g_t_numbers)]) [1, 0] rfl) (hD.sub (ws' := [(o_t, .inr (5, [.ref a_t_numbers, .ref a_t_lefts, .ref a_t_falls, .int f_t_lateCorner, .int f_t_earlyCorner])), (a_t_numbers, aI E 192 g_t_numbers)]) [1, 0] (by decide) rfl) (ci := 5) (q0 := 0) rfl rfl) rfl rfl hl.1 rfl (lv_room (Nat.le_of_ble_eq_true rfl)) dX5_lookUp_196 ⟨Nat.le_of_ble_eq_true rfl, Nat.le_of_ble_eq_true rfl⟩) hP hD hS hA [1, 0] [2] (wr := [(a_t_lefts, aI E 64 g_t_lefts)]) rfl rfl (by decide) (by decide) (fun r_588 w H locs hw hP hD hS => ?_)
                  obtain ⟨b_r_588, rfl⟩ := hw
                  replace hP : va_P E.1 vwCl [(a_t_lefts, aI E 64 g_t_lefts), (o_t, .inr (5, [.ref a_t_numbers, .ref a_t_lefts, .ref a_t_falls, .int f_t_lateCorner, .int f_t_earlyCorner])), (a_t_numbers, aI E 192 g_t_numbers)] H := hP
                  replace hD : va_D A [(a_t_lefts, aI E 64 g_t_lefts), (o_t, .inr (5, [.ref a_t_numbers, .ref a_t_lefts, .ref a_t_falls, .int f_t_lateCorner, .int f_t_earlyCorner])), (a_t_numbers, aI E 192 g_t_numbers)] := hD
                  refine lv_imul hx hb dX5_lookUp_199 ?_
                  refine lv_topi (fun x_589 ex_589 => ?_)
                  have bd_590 := i3_bd r_588
                  refine lv_istore (lv' := [(17, .int x_589), (16, .int 16), (15, .int 40), (14, .int r_583), (13, .int 1), (12, .int r_512), (11, .int x_511), (10, .int x_510), (9, .int 0), (8, .int 2), (7, .int x_3), (6, .int x_1), (0, .ref o_t), (1, .int p1), (2, .int p2), (3, .int p3), (4, .int p4), (5, .int p5)]) hx hb dX5_lookUp_200 hl (by decide) rfl (fun ls hl => ?_)
                  refine lv_iload hx hb dX5_lookUp_202 (lv_at hl 7 rfl) ?_
                  refine lv_if_le (tgt := 229) hx hb dX5_lookUp_204 (by decide) (fun c_591 => ?_) (fun c_591 => ?_)
                  · have e_591 : x_510.toInt ≤ 0 := i3_le c_591
                    exfalso; omega
                  · have e_591 : 0 < x_510.toInt := i3_nle c_591
                    refine lv_iload hx hb dX5_lookUp_207 (lv_at hl 0 rfl) ?_
                    refine lv_iload hx hb dX5_lookUp_209 (lv_at hl 7 rfl) ?_
                    refine lv_aload_n hx hb dX5_lookUp_211 rfl (lv_at hl 12 rfl) ?_
                    refine lv_iload hx hb dX5_lookUp_212 (lv_at hl 5 rfl) ?_
                    refine lv_iconst (v := 1) hx hb dX5_lookUp_214 (by decide) ?_
                    refine lv_iadd hx hb dX5_lookUp_215 ?_
                    refine lv_topi (fun x_592 ex_592 => ?_)
                    have hq_x_592 : x_582 = x_592 := ex_582.trans ex_592.symm
                    subst hq_x_592
                    refine lv_iload hx hb dX5_lookUp_216 (lv_at hl 8 rfl) ?_
                    refine lv_iload hx hb dX5_lookUp_218 (lv_at hl 6 rfl) ?_
                    refine lv_iload hx hb dX5_lookUp_220 (lv_at hl 1 rfl) ?_
                    refine call_i (va_runV (As := [.int x_582, .int 0, .int x_511, .int 16]) (rest := [.int x_510, .int x_589]) ⟨hx, hb, hml, hown, hts⟩ (q_weighRow1 l E o_t a_t_numbers a_t_lefts a_t_falls f_t_lateCorner f_t_earlyCorner x_582 0 x_511 16 g_t_numbers r_f_t_lateCorner r_f_t_earlyCorner i_g_t_numbers (RG.mk (by omega)) (RG.mk (by decide)) H.size) (cwV 4 hts g_q_lookUp_q_weighRow1_54 rfl rfl rfl (by decide +kernel) ⟨Nat.le_of_ble_eq_true rfl, Nat.le_of_ble_eq_true rfl⟩) (pre_V hK hN hZ hS (va_free hD hS hA [1, 2] rfl) (hP.sub (ws' := [(o_t, .inr (5, [.ref a_t_numbers, .ref a_t_lefts, .ref a_t_falls, .int f_t_lateCorner, .int f_t_earlyCorner])), (a_t_numbers, aI E 192 g_t_numbers)]) [1, 2] rfl) (hD.sub (ws' := [(o_t, .inr (5, [.ref a_t_numbers, .ref a_t_lefts, .ref a_t_falls, .int f_t_lateCorner, .int f_t_earlyCorner])), (a_t_numbers, aI E 192 g_t_numbers)]) [1, 2] (by decide) rfl) (ci := 5) (q0 := 0) rfl rfl) rfl rfl hl.1 rfl (lv_room (Nat.le_of_ble_eq_true rfl)) dX5_lookUp_222 ⟨Nat.le_of_ble_eq_true rfl, Nat.le_of_ble_eq_true rfl⟩) hP hD hS hA [1, 2] [0] (wr := [(a_t_lefts, aI E 64 g_t_lefts)]) rfl rfl (by decide) (by decide) (fun r_593 w H locs hw hP hD hS => ?_)
                    obtain ⟨b_r_593, rfl⟩ := hw
                    replace hP : va_P E.1 vwCl [(a_t_lefts, aI E 64 g_t_lefts), (o_t, .inr (5, [.ref a_t_numbers, .ref a_t_lefts, .ref a_t_falls, .int f_t_lateCorner, .int f_t_earlyCorner])), (a_t_numbers, aI E 192 g_t_numbers)] H := hP
                    replace hD : va_D A [(a_t_lefts, aI E 64 g_t_lefts), (o_t, .inr (5, [.ref a_t_numbers, .ref a_t_lefts, .ref a_t_falls, .int f_t_lateCorner, .int f_t_earlyCorner])), (a_t_numbers, aI E 192 g_t_numbers)] := hD
                    refine lv_imul hx hb dX5_lookUp_225 ?_
                    refine lv_topi (fun x_594 ex_594 => ?_)
                    have bd_595 := i3_bd r_593
                    refine lv_iadd hx hb dX5_lookUp_226 ?_
                    refine lv_topi (fun x_596 ex_596 => ?_)
                    have bd_597 := i3_bd x_589
                    have bd_598 := i3_bd x_594
                    refine lv_istore (lv' := [(17, .int x_596), (16, .int 16), (15, .int 40), (14, .int r_583), (13, .int 1), (12, .int r_512), (11, .int x_511), (10, .int x_510), (9, .int 0), (8, .int 2), (7, .int x_3), (6, .int x_1), (0, .ref o_t), (1, .int p1), (2, .int p2), (3, .int p3), (4, .int p4), (5, .int p5)]) hx hb dX5_lookUp_227 hl (by decide) rfl (fun ls hl => ?_)
                    refine lv_iload hx hb dX5_lookUp_229 (lv_at hl 2 rfl) ?_
                    refine lv_iload hx hb dX5_lookUp_231 (lv_at hl 1 rfl) ?_
                    refine lv_imul hx hb dX5_lookUp_233 ?_
                    refine lv_cst (y := 640) (by decide) ?_
                    refine lv_istore (lv' := [(18, .int 640), (17, .int x_596), (16, .int 16), (15, .int 40), (14, .int r_583), (13, .int 1), (12, .int r_512), (11, .int x_511), (10, .int x_510), (9, .int 0), (8, .int 2), (7, .int x_3), (6, .int x_1), (0, .ref o_t), (1, .int p1), (2, .int p2), (3, .int p3), (4, .int p4), (5, .int p5)]) hx hb dX5_lookUp_234 hl (by decide) rfl (fun ls hl => ?_)
                    refine lv_iload hx hb dX5_lookUp_236 (lv_at hl 18 rfl) ?_
                    have b_p5 := r_p5.out
                    refine lv_if_eq (tgt := 254) hx hb dX5_lookUp_238 (by decide) (fun c_599 => ?_) (fun c_599 => ?_)
                    · have e_599 : p5.toInt = 0 := i3_eq c_599
                      refine lv_iload hx hb dX5_lookUp_254 (lv_at hl 1 rfl) ?_
                      refine lv_iload hx hb dX5_lookUp_256 (lv_at hl 0 rfl) ?_
                      refine lv_idiv hx hb dX5_lookUp_258 (by decide) ?_
                      refine lv_topi (fun x_600 ex_600 => ?_)
                      have bd_601 := i3_bd x_596
                      exact ret_i hx hb hr hlk (hP.sub (ws' := [(o_t, .inr (5, [.ref a_t_numbers, .ref a_t_lefts, .ref a_t_falls, .int f_t_lateCorner, .int f_t_earlyCorner])), (a_t_lefts, aI E 64 g_t_lefts), (a_t_numbers, aI E 192 g_t_numbers)]) [1, 0, 2] rfl) (hD.sub (ws' := [(o_t, .inr (5, [.ref a_t_numbers, .ref a_t_lefts, .ref a_t_falls, .int f_t_lateCorner, .int f_t_earlyCorner])), (a_t_lefts, aI E 64 g_t_lefts), (a_t_numbers, aI E 192 g_t_numbers)]) [1, 0, 2] (by decide) rfl) hS rfl dX5_lookUp_259 (Nat.le_of_ble_eq_true rfl) (Nat.le_of_ble_eq_true rfl) ⟨trivial, rfl⟩
                    · have e_599 : p5.toInt ≠ 0 := i3_ne c_599
                      refine lv_iload hx hb dX5_lookUp_241 (lv_at hl 1 rfl) ?_
                      refine lv_iload hx hb dX5_lookUp_243 (lv_at hl 0 rfl) ?_
                      refine lv_iadd hx hb dX5_lookUp_245 ?_
                      refine lv_topi (fun x_602 ex_602 => ?_)
                      have bd_603 := i3_bd x_596
                      refine lv_iconst (v := 1) hx hb dX5_lookUp_246 (by decide) ?_
                      refine lv_isub hx hb dX5_lookUp_247 ?_
                      refine lv_topi (fun x_604 ex_604 => ?_)
                      have bd_605 := i3_bd x_602
                      refine lv_iload hx hb dX5_lookUp_248 (lv_at hl 0 rfl) ?_
                      refine lv_idiv hx hb dX5_lookUp_250 (by decide) ?_
                      refine lv_topi (fun x_606 ex_606 => ?_)
                      have bd_607 := i3_bd x_604
                      refine lv_goto (tgt := 259) hx hb dX5_lookUp_251 (by decide) ?_
                      exact ret_i hx hb hr hlk (hP.sub (ws' := [(o_t, .inr (5, [.ref a_t_numbers, .ref a_t_lefts, .ref a_t_falls, .int f_t_lateCorner, .int f_t_earlyCorner])), (a_t_lefts, aI E 64 g_t_lefts), (a_t_numbers, aI E 192 g_t_numbers)]) [1, 0, 2] rfl) (hD.sub (ws' := [(o_t, .inr (5, [.ref a_t_numbers, .ref a_t_lefts, .ref a_t_falls, .int f_t_lateCorner, .int f_t_earlyCorner])), (a_t_lefts, aI E 64 g_t_lefts), (a_t_numbers, aI E 192 g_t_numbers)]) [1, 0, 2] (by decide) rfl) hS rfl dX5_lookUp_259 (Nat.le_of_ble_eq_true rfl) (Nat.le_of_ble_eq_true rfl) ⟨trivial, rfl⟩
            · have e_584 : r_583.toInt ≠ 0 := i3_ne c_584
              refine lv_iload hx hb dX5_lookUp_127 (lv_at hl 0 rfl) ?_
              exact ret_i hx hb hr hlk (hP.sub (ws' := [(o_t, .inr (5, [.ref a_t_numbers, .ref a_t_lefts, .ref a_t_falls, .int f_t_lateCorner, .int f_t_earlyCorner])), (a_t_lefts, aI E 64 g_t_lefts), (a_t_numbers, aI E 192 g_t_numbers)]) [1, 2, 0] rfl) (hD.sub (ws' := [(o_t, .inr (5, [.ref a_t_numbers, .ref a_t_lefts, .ref a_t_falls, .int f_t_lateCorner, .int f_t_earlyCorner])), (a_t_lefts, aI E 64 g_t_lefts), (a_t_numbers, aI E 192 g_t_numbers)]) [1, 2, 0] (by decide) rfl) hS rfl dX5_lookUp_129 (Nat.le_of_ble_eq_true rfl) (Nat.le_of_ble_eq_true rfl) ⟨trivial, rfl⟩
    · have hs_h_509 := i3_cs (c := 1) h_509 (by decide)
      subst hs_h_509
      have hk_h_509 : (1 : Int32).toInt = 1 := rfl
      refine lv_iload hx hb dX5_lookUp_43 (lv_at hl 3 rfl) ?_
      refine va_gets (C := "TimingHouse$Tables") (n := "LOAD_MARKS") (d := "[I") (own := RX5) (ref := "TimingHouse$Tables") hx hb hZ.1.1 hS hown (hto (.fieldLink RX5 31 "TimingHouse$Tables" "LOAD_MARKS" "[I") (by decide +kernel)) (fun _ h9 => h9) dX5_lookUp_45 ?_
      refine lv_iload hx hb dX5_lookUp_48 (lv_at hl 1 rfl) ?_
      refine va_ti (v := .int 24) hx hb hZ.1.2 hS (i3_in (by decide)) rfl dX5_lookUp_50 ?_
      refine lv_isub hx hb dX5_lookUp_51 ?_
      refine lv_topi (fun x_608 ex_608 => ?_)
      have tx_608 : x_608.toInt = x_1.toInt - 24 := i3_subc rfl rfl ex_608 (by omega)
      refine lv_istore (lv' := [(10, .int x_608), (9, .int 1), (8, .int 2), (7, .int x_3), (6, .int x_1), (0, .ref o_t), (1, .int p1), (2, .int p2), (3, .int p3), (4, .int p4), (5, .int p5)]) hx hb dX5_lookUp_52 hl (by decide) rfl (fun ls hl => ?_)
      refine lv_iload hx hb dX5_lookUp_54 (lv_at hl 3 rfl) ?_
      refine va_gets (C := "TimingHouse$Tables") (n := "SLOPE_MARKS") (d := "[I") (own := RX5) (ref := "TimingHouse$Tables") hx hb hZ.2.1.1 hS hown (hto (.fieldLink RX5 40 "TimingHouse$Tables" "SLOPE_MARKS" "[I") (by decide +kernel)) (fun _ h9 => h9) dX5_lookUp_56 ?_
      refine lv_iload hx hb dX5_lookUp_59 (lv_at hl 1 rfl) ?_
      refine va_ti (v := .int 16) hx hb hZ.2.1.2 hS (i3_in (by decide)) rfl dX5_lookUp_61 ?_
      refine lv_isub hx hb dX5_lookUp_62 ?_
      refine lv_topi (fun x_609 ex_609 => ?_)
      have tx_609 : x_609.toInt = x_3.toInt - 16 := i3_subc rfl rfl ex_609 (by omega)
      refine lv_istore (lv' := [(11, .int x_609), (10, .int x_608), (9, .int 1), (8, .int 2), (7, .int x_3), (6, .int x_1), (0, .ref o_t), (1, .int p1), (2, .int p2), (3, .int p3), (4, .int p4), (5, .int p5)]) hx hb dX5_lookUp_63 hl (by decide) rfl (fun ls hl => ?_)
      refine lv_iload_n hx hb dX5_lookUp_65 rfl (lv_at hl 7 rfl) ?_
      refine lv_iload_n hx hb dX5_lookUp_66 rfl (lv_at hl 8 rfl) ?_
      refine lv_iload hx hb dX5_lookUp_67 (lv_at hl 3 rfl) ?_
      have b_p1 := r_p1.out
      have b_p2 := r_p2.out
      refine call_i (va_runS (As := [.int p1, .int p2, .int 2]) (rest := []) ⟨hx, hb, hml, hown, hts⟩ (q_rowPlace l E p1 p2 2 r_p1 r_p2 (RG.mk (by decide)) H.size) (va_cwS 3 hts g_q_lookUp_q_rowPlace_47 rfl rfl rfl (by decide +kernel) ⟨Nat.le_of_ble_eq_true rfl, Nat.le_of_ble_eq_true rfl⟩) (pre_S hK hN hZ hS (va_free hD hS hA [] rfl) (hP.sub (ws' := []) [] rfl) (hD.sub (ws' := []) [] (by decide) rfl)) rfl rfl hl.1 rfl (lv_room (Nat.le_of_ble_eq_true rfl)) dX5_lookUp_69 ⟨Nat.le_of_ble_eq_true rfl, Nat.le_of_ble_eq_true rfl⟩) hP hD hS hA [] [0, 1, 2] (wr := [(o_t, .inr (5, [.ref a_t_numbers, .ref a_t_lefts, .ref a_t_falls, .int f_t_lateCorner, .int f_t_earlyCorner])), (a_t_lefts, aI E 64 g_t_lefts), (a_t_numbers, aI E 192 g_t_numbers)]) rfl rfl (by decide) (by decide) (fun r_610 w H locs hw hP hD hS => ?_)
      obtain ⟨b_r_610, l_r_610, rfl⟩ := hw
      replace l_r_610 : r_610.toInt = (p1.toInt * 2 + p2.toInt) * 4 + 2 := l_r_610
      replace hP : va_P E.1 vwCl [(o_t, .inr (5, [.ref a_t_numbers, .ref a_t_lefts, .ref a_t_falls, .int f_t_lateCorner, .int f_t_earlyCorner])), (a_t_lefts, aI E 64 g_t_lefts), (a_t_numbers, aI E 192 g_t_numbers)] H := hP
      replace hD : va_D A [(o_t, .inr (5, [.ref a_t_numbers, .ref a_t_lefts, .ref a_t_falls, .int f_t_lateCorner, .int f_t_earlyCorner])), (a_t_lefts, aI E 64 g_t_lefts), (a_t_numbers, aI E 192 g_t_numbers)] := hD
      refine lv_istore (lv' := [(12, .int r_610), (11, .int x_609), (10, .int x_608), (9, .int 1), (8, .int 2), (7, .int x_3), (6, .int x_1), (0, .ref o_t), (1, .int p1), (2, .int p2), (3, .int p3), (4, .int p4), (5, .int p5)]) hx hb dX5_lookUp_72 hl (by decide) rfl (fun ls hl => ?_)
      refine lv_iload hx hb dX5_lookUp_74 (lv_at hl 1 rfl) ?_
      refine lv_if_le (tgt := 86) hx hb dX5_lookUp_76 (by decide) (fun c_611 => ?_) (fun c_611 => ?_)
      · have e_611 : x_609.toInt ≤ 0 := i3_le c_611
        refine lv_iload hx hb dX5_lookUp_86 (lv_at hl 3 rfl) ?_
        refine lv_istore (lv' := [(13, .int 1), (12, .int r_610), (11, .int x_609), (10, .int x_608), (9, .int 1), (8, .int 2), (7, .int x_3), (6, .int x_1), (0, .ref o_t), (1, .int p1), (2, .int p2), (3, .int p3), (4, .int p4), (5, .int p5)]) hx hb dX5_lookUp_88 hl (by decide) rfl (fun ls hl => ?_)
        refine lv_aload_n hx hb dX5_lookUp_90 rfl (lv_at hl 8 rfl) ?_
        refine lv_iload hx hb dX5_lookUp_91 (lv_at hl 1 rfl) ?_
        refine lv_iload hx hb dX5_lookUp_93 (lv_at hl 0 rfl) ?_
        refine call_i (va_runV (As := [.int r_610, .int 1]) (rest := []) ⟨hx, hb, hml, hown, hts⟩ (q_whyAbsent l E o_t a_t_numbers a_t_lefts a_t_falls f_t_lateCorner f_t_earlyCorner r_610 1 g_t_lefts r_f_t_lateCorner r_f_t_earlyCorner i_g_t_lefts (RG.mk (by omega)) H.size) (cwV 2 hts g_q_lookUp_q_whyAbsent_51 rfl rfl rfl (by decide +kernel) ⟨Nat.le_of_ble_eq_true rfl, Nat.le_of_ble_eq_true rfl⟩) (pre_V hK hN hZ hS (va_free hD hS hA [0, 1] rfl) (hP.sub (ws' := [(o_t, .inr (5, [.ref a_t_numbers, .ref a_t_lefts, .ref a_t_falls, .int f_t_lateCorner, .int f_t_earlyCorner])), (a_t_lefts, aI E 64 g_t_lefts)]) [0, 1] rfl) (hD.sub (ws' := [(o_t, .inr (5, [.ref a_t_numbers, .ref a_t_lefts, .ref a_t_falls, .int f_t_lateCorner, .int f_t_earlyCorner])), (a_t_lefts, aI E 64 g_t_lefts)]) [0, 1] (by decide) rfl) (ci := 5) (q0 := 0) rfl rfl) rfl rfl hl.1 rfl (lv_room (Nat.le_of_ble_eq_true rfl)) dX5_lookUp_95 ⟨Nat.le_of_ble_eq_true rfl, Nat.le_of_ble_eq_true rfl⟩) hP hD hS hA [0, 1] [2] (wr := [(a_t_numbers, aI E 192 g_t_numbers)]) rfl rfl (by decide) (by decide) (fun r_612 w H locs hw hP hD hS => ?_)
        obtain ⟨b_r_612, rfl⟩ := hw
        replace hP : va_P E.1 vwCl [(a_t_numbers, aI E 192 g_t_numbers), (o_t, .inr (5, [.ref a_t_numbers, .ref a_t_lefts, .ref a_t_falls, .int f_t_lateCorner, .int f_t_earlyCorner])), (a_t_lefts, aI E 64 g_t_lefts)] H := hP
        replace hD : va_D A [(a_t_numbers, aI E 192 g_t_numbers), (o_t, .inr (5, [.ref a_t_numbers, .ref a_t_lefts, .ref a_t_falls, .int f_t_lateCorner, .int f_t_earlyCorner])), (a_t_lefts, aI E 64 g_t_lefts)] := hD
        refine lv_istore (lv' := [(14, .int r_612), (13, .int 1), (12, .int r_610), (11, .int x_609), (10, .int x_608), (9, .int 1), (8, .int 2), (7, .int x_3), (6, .int x_1), (0, .ref o_t), (1, .int p1), (2, .int p2), (3, .int p3), (4, .int p4), (5, .int p5)]) hx hb dX5_lookUp_98 hl (by decide) rfl (fun ls hl => ?_)
        refine lv_iload hx hb dX5_lookUp_100 (lv_at hl 0 rfl) ?_
        refine lv_if_ne (tgt := 122) hx hb dX5_lookUp_102 (by decide) (fun c_613 => ?_) (fun c_613 => ?_)
        · have e_613 : r_612.toInt ≠ 0 := i3_ne c_613
          refine lv_iload hx hb dX5_lookUp_122 (lv_at hl 0 rfl) ?_
          refine lv_if_eq (tgt := 130) hx hb dX5_lookUp_124 (by decide) (fun c_614 => ?_) (fun c_614 => ?_)
          · have e_614 : r_612.toInt = 0 := i3_eq c_614
            exfalso; omega
          · have e_614 : r_612.toInt ≠ 0 := i3_ne c_614
            refine lv_iload hx hb dX5_lookUp_127 (lv_at hl 0 rfl) ?_
            exact ret_i hx hb hr hlk (hP.sub (ws' := [(o_t, .inr (5, [.ref a_t_numbers, .ref a_t_lefts, .ref a_t_falls, .int f_t_lateCorner, .int f_t_earlyCorner])), (a_t_lefts, aI E 64 g_t_lefts), (a_t_numbers, aI E 192 g_t_numbers)]) [1, 2, 0] rfl) (hD.sub (ws' := [(o_t, .inr (5, [.ref a_t_numbers, .ref a_t_lefts, .ref a_t_falls, .int f_t_lateCorner, .int f_t_earlyCorner])), (a_t_lefts, aI E 64 g_t_lefts), (a_t_numbers, aI E 192 g_t_numbers)]) [1, 2, 0] (by decide) rfl) hS rfl dX5_lookUp_129 (Nat.le_of_ble_eq_true rfl) (Nat.le_of_ble_eq_true rfl) ⟨trivial, rfl⟩
        · have e_613 : r_612.toInt = 0 := i3_eq c_613
          refine lv_iload hx hb dX5_lookUp_105 (lv_at hl 4 rfl) ?_
          refine lv_if_le (tgt := 122) hx hb dX5_lookUp_107 (by decide) (fun c_615 => ?_) (fun c_615 => ?_)
          · have e_615 : x_608.toInt ≤ 0 := i3_le c_615
            refine lv_iload hx hb dX5_lookUp_122 (lv_at hl 0 rfl) ?_
            refine lv_if_eq (tgt := 130) hx hb dX5_lookUp_124 (by decide) (fun c_616 => ?_) (fun c_616 => ?_)
            · have e_616 : r_612.toInt = 0 := i3_eq c_616
              refine lv_iload hx hb dX5_lookUp_130 (lv_at hl 4 rfl) ?_
              refine lv_if_le (tgt := 153) hx hb dX5_lookUp_132 (by decide) (fun c_617 => ?_) (fun c_617 => ?_)
              · have e_617 : x_608.toInt ≤ 0 := i3_le c_617
                refine lv_iconst (v := 1) hx hb dX5_lookUp_153 (by decide) ?_
                refine lv_istore (lv' := [(15, .int 1), (14, .int r_612), (13, .int 1), (12, .int r_610), (11, .int x_609), (10, .int x_608), (9, .int 1), (8, .int 2), (7, .int x_3), (6, .int x_1), (0, .ref o_t), (1, .int p1), (2, .int p2), (3, .int p3), (4, .int p4), (5, .int p5)]) hx hb dX5_lookUp_154 hl (by decide) rfl (fun ls hl => ?_)
                refine lv_iload hx hb dX5_lookUp_156 (lv_at hl 4 rfl) ?_
                refine lv_if_le (tgt := 179) hx hb dX5_lookUp_158 (by decide) (fun c_618 => ?_) (fun c_618 => ?_)
                · have e_618 : x_609.toInt ≤ 0 := i3_le c_618
                  refine lv_iconst (v := 1) hx hb dX5_lookUp_179 (by decide) ?_
                  refine lv_istore (lv' := [(16, .int 1), (15, .int 1), (14, .int r_612), (13, .int 1), (12, .int r_610), (11, .int x_609), (10, .int x_608), (9, .int 1), (8, .int 2), (7, .int x_3), (6, .int x_1), (0, .ref o_t), (1, .int p1), (2, .int p2), (3, .int p3), (4, .int p4), (5, .int p5)]) hx hb dX5_lookUp_180 hl (by decide) rfl (fun ls hl => ?_)
                  refine lv_iload hx hb dX5_lookUp_182 (lv_at hl 1 rfl) ?_
                  refine lv_iload hx hb dX5_lookUp_184 (lv_at hl 6 rfl) ?_
                  refine lv_isub hx hb dX5_lookUp_186 ?_
                  refine lv_topi (fun x_619 ex_619 => ?_)
                  have tx_619 : x_619.toInt = 1 - x_608.toInt := i3_subc rfl rfl ex_619 (by omega)
                  refine lv_aload_n hx hb dX5_lookUp_187 rfl (lv_at hl 11 rfl) ?_
                  refine lv_iload hx hb dX5_lookUp_188 (lv_at hl 4 rfl) ?_
                  refine lv_iload hx hb dX5_lookUp_190 (lv_at hl 7 rfl) ?_
                  refine lv_iload hx hb dX5_lookUp_192 (lv_at hl 5 rfl) ?_
                  refine lv_iload hx hb dX5_lookUp_194 (lv_at hl 0 rfl) ?_
                  refine call_i (va_runV (As := [.int r_610, .int 1, .int x_609, .int 1]) (rest := [.int x_619]) ⟨hx, hb, hml, hown, hts⟩ (q_weighRow1 l E o_t a_t_numbers a_t_lefts a_t_falls f_t_lateCorner f_t_earlyCorner r_610 1 x_609 1 g_t_numbers r_f_t_lateCorner r_f_t_earlyCorner i_g_t_numbers (RG.mk (by omega)) (RG.mk (by decide)) H.size) (cwV 4 hts g_q_lookUp_q_weighRow1_54 rfl rfl rfl (by decide +kernel) ⟨Nat.le_of_ble_eq_true rfl, Nat.le_of_ble_eq_true rfl⟩) (pre_V hK hN hZ hS (va_free hD hS hA [1, 0] rfl) (hP.sub (ws' := [(o_t, .inr (5, [.ref a_t_numbers, .ref a_t_lefts, .ref a_t_falls, .int f_t_lateCorner, .int f_t_earlyCorner])), (a_t_numbers, aI E 192 g_t_numbers)]) [1, 0] rfl) (hD.sub (ws' := [(o_t, .inr (5, [.ref a_t_numbers, .ref a_t_lefts, .ref a_t_falls, .int f_t_lateCorner, .int f_t_earlyCorner])), (a_t_numbers, aI E 192 g_t_numbers)]) [1, 0] (by decide) rfl) (ci := 5) (q0 := 0) rfl rfl) rfl rfl hl.1 rfl (lv_room (Nat.le_of_ble_eq_true rfl)) dX5_lookUp_196 ⟨Nat.le_of_ble_eq_true rfl, Nat.le_of_ble_eq_true rfl⟩) hP hD hS hA [1, 0] [2] (wr := [(a_t_lefts, aI E 64 g_t_lefts)]) rfl rfl (by decide) (by decide) (fun r_620 w H locs hw hP hD hS => ?_)
                  obtain ⟨b_r_620, rfl⟩ := hw
                  replace hP : va_P E.1 vwCl [(a_t_lefts, aI E 64 g_t_lefts), (o_t, .inr (5, [.ref a_t_numbers, .ref a_t_lefts, .ref a_t_falls, .int f_t_lateCorner, .int f_t_earlyCorner])), (a_t_numbers, aI E 192 g_t_numbers)] H := hP
                  replace hD : va_D A [(a_t_lefts, aI E 64 g_t_lefts), (o_t, .inr (5, [.ref a_t_numbers, .ref a_t_lefts, .ref a_t_falls, .int f_t_lateCorner, .int f_t_earlyCorner])), (a_t_numbers, aI E 192 g_t_numbers)] := hD
                  refine lv_imul hx hb dX5_lookUp_199 ?_
                  refine lv_topi (fun x_621 ex_621 => ?_)
                  have bd_622 := i3_bd r_620
                  refine lv_istore (lv' := [(17, .int x_621), (16, .int 1), (15, .int 1), (14, .int r_612), (13, .int 1), (12, .int r_610), (11, .int x_609), (10, .int x_608), (9, .int 1), (8, .int 2), (7, .int x_3), (6, .int x_1), (0, .ref o_t), (1, .int p1), (2, .int p2), (3, .int p3), (4, .int p4), (5, .int p5)]) hx hb dX5_lookUp_200 hl (by decide) rfl (fun ls hl => ?_)
                  refine lv_iload hx hb dX5_lookUp_202 (lv_at hl 7 rfl) ?_
                  refine lv_if_le (tgt := 229) hx hb dX5_lookUp_204 (by decide) (fun c_623 => ?_) (fun c_623 => ?_)
                  · have e_623 : x_608.toInt ≤ 0 := i3_le c_623
                    refine lv_iload hx hb dX5_lookUp_229 (lv_at hl 2 rfl) ?_
                    refine lv_iload hx hb dX5_lookUp_231 (lv_at hl 1 rfl) ?_
                    refine lv_imul hx hb dX5_lookUp_233 ?_
                    refine lv_cst (y := 1) (by decide) ?_
                    refine lv_istore (lv' := [(18, .int 1), (17, .int x_621), (16, .int 1), (15, .int 1), (14, .int r_612), (13, .int 1), (12, .int r_610), (11, .int x_609), (10, .int x_608), (9, .int 1), (8, .int 2), (7, .int x_3), (6, .int x_1), (0, .ref o_t), (1, .int p1), (2, .int p2), (3, .int p3), (4, .int p4), (5, .int p5)]) hx hb dX5_lookUp_234 hl (by decide) rfl (fun ls hl => ?_)
                    refine lv_iload hx hb dX5_lookUp_236 (lv_at hl 18 rfl) ?_
                    have b_p5 := r_p5.out
                    refine lv_if_eq (tgt := 254) hx hb dX5_lookUp_238 (by decide) (fun c_624 => ?_) (fun c_624 => ?_)
                    · have e_624 : p5.toInt = 0 := i3_eq c_624
                      refine lv_iload hx hb dX5_lookUp_254 (lv_at hl 1 rfl) ?_
                      refine lv_iload hx hb dX5_lookUp_256 (lv_at hl 0 rfl) ?_
                      refine lv_idiv hx hb dX5_lookUp_258 (by decide) ?_
                      refine lv_topi (fun x_625 ex_625 => ?_)
                      have bd_626 := i3_bd x_621
                      exact ret_i hx hb hr hlk (hP.sub (ws' := [(o_t, .inr (5, [.ref a_t_numbers, .ref a_t_lefts, .ref a_t_falls, .int f_t_lateCorner, .int f_t_earlyCorner])), (a_t_lefts, aI E 64 g_t_lefts), (a_t_numbers, aI E 192 g_t_numbers)]) [1, 0, 2] rfl) (hD.sub (ws' := [(o_t, .inr (5, [.ref a_t_numbers, .ref a_t_lefts, .ref a_t_falls, .int f_t_lateCorner, .int f_t_earlyCorner])), (a_t_lefts, aI E 64 g_t_lefts), (a_t_numbers, aI E 192 g_t_numbers)]) [1, 0, 2] (by decide) rfl) hS rfl dX5_lookUp_259 (Nat.le_of_ble_eq_true rfl) (Nat.le_of_ble_eq_true rfl) ⟨trivial, rfl⟩
                    · have e_624 : p5.toInt ≠ 0 := i3_ne c_624
                      refine lv_iload hx hb dX5_lookUp_241 (lv_at hl 1 rfl) ?_
                      refine lv_iload hx hb dX5_lookUp_243 (lv_at hl 0 rfl) ?_
                      refine lv_iadd hx hb dX5_lookUp_245 ?_
                      refine lv_topi (fun x_627 ex_627 => ?_)
                      have bd_628 := i3_bd x_621
                      refine lv_iconst (v := 1) hx hb dX5_lookUp_246 (by decide) ?_
                      refine lv_isub hx hb dX5_lookUp_247 ?_
                      refine lv_topi (fun x_629 ex_629 => ?_)
                      have bd_630 := i3_bd x_627
                      refine lv_iload hx hb dX5_lookUp_248 (lv_at hl 0 rfl) ?_
                      refine lv_idiv hx hb dX5_lookUp_250 (by decide) ?_
                      refine lv_topi (fun x_631 ex_631 => ?_)
                      have bd_632 := i3_bd x_629
                      refine lv_goto (tgt := 259) hx hb dX5_lookUp_251 (by decide) ?_
                      exact ret_i hx hb hr hlk (hP.sub (ws' := [(o_t, .inr (5, [.ref a_t_numbers, .ref a_t_lefts, .ref a_t_falls, .int f_t_lateCorner, .int f_t_earlyCorner])), (a_t_lefts, aI E 64 g_t_lefts), (a_t_numbers, aI E 192 g_t_numbers)]) [1, 0, 2] rfl) (hD.sub (ws' := [(o_t, .inr (5, [.ref a_t_numbers, .ref a_t_lefts, .ref a_t_falls, .int f_t_lateCorner, .int f_t_earlyCorner])), (a_t_lefts, aI E 64 g_t_lefts), (a_t_numbers, aI E 192 g_t_numbers)]) [1, 0, 2] (by decide) rfl) hS rfl dX5_lookUp_259 (Nat.le_of_ble_eq_true rfl) (Nat.le_of_ble_eq_true rfl) ⟨trivial, rfl⟩
                  · have e_623 : 0 < x_608.toInt := i3_nle c_623
                    exfalso; omega
                · have e_618 : 0 < x_609.toInt := i3_nle c_618
                  exfalso; omega
              · have e_617 : 0 < x_608.toInt := i3_nle c_617
                exfalso; omega
            · have e_616 : r_612.toInt ≠ 0 := i3_ne c_616
              exfalso; omega
          · have e_615 : 0 < x_608.toInt := i3_nle c_615
            refine lv_aload_n hx hb dX5_lookUp_110 rfl (lv_at hl 9 rfl) ?_
            refine lv_iload hx hb dX5_lookUp_111 (lv_at hl 2 rfl) ?_
            refine lv_iconst (v := 1) hx hb dX5_lookUp_113 (by decide) ?_
            refine lv_iadd hx hb dX5_lookUp_114 ?_
            refine lv_topi (fun x_633 ex_633 => ?_)
            have tx_633 : x_633.toInt = r_610.toInt + 1 := i3_addc rfl rfl ex_633 (by omega)
            refine lv_iload hx hb dX5_lookUp_115 (lv_at hl 1 rfl) ?_
            refine call_i (va_runV (As := [.int x_633, .int 1]) (rest := []) ⟨hx, hb, hml, hown, hts⟩ (q_whyAbsent l E o_t a_t_numbers a_t_lefts a_t_falls f_t_lateCorner f_t_earlyCorner x_633 1 g_t_lefts r_f_t_lateCorner r_f_t_earlyCorner i_g_t_lefts (RG.mk (by omega)) H.size) (cwV 2 hts g_q_lookUp_q_whyAbsent_51 rfl rfl rfl (by decide +kernel) ⟨Nat.le_of_ble_eq_true rfl, Nat.le_of_ble_eq_true rfl⟩) (pre_V hK hN hZ hS (va_free hD hS hA [1, 2] rfl) (hP.sub (ws' := [(o_t, .inr (5, [.ref a_t_numbers, .ref a_t_lefts, .ref a_t_falls, .int f_t_lateCorner, .int f_t_earlyCorner])), (a_t_lefts, aI E 64 g_t_lefts)]) [1, 2] rfl) (hD.sub (ws' := [(o_t, .inr (5, [.ref a_t_numbers, .ref a_t_lefts, .ref a_t_falls, .int f_t_lateCorner, .int f_t_earlyCorner])), (a_t_lefts, aI E 64 g_t_lefts)]) [1, 2] (by decide) rfl) (ci := 5) (q0 := 0) rfl rfl) rfl rfl hl.1 rfl (lv_room (Nat.le_of_ble_eq_true rfl)) dX5_lookUp_117 ⟨Nat.le_of_ble_eq_true rfl, Nat.le_of_ble_eq_true rfl⟩) hP hD hS hA [1, 2] [0] (wr := [(a_t_numbers, aI E 192 g_t_numbers)]) rfl rfl (by decide) (by decide) (fun r_634 w H locs hw hP hD hS => ?_)
            obtain ⟨b_r_634, rfl⟩ := hw
            replace hP : va_P E.1 vwCl [(a_t_numbers, aI E 192 g_t_numbers), (o_t, .inr (5, [.ref a_t_numbers, .ref a_t_lefts, .ref a_t_falls, .int f_t_lateCorner, .int f_t_earlyCorner])), (a_t_lefts, aI E 64 g_t_lefts)] H := hP
            replace hD : va_D A [(a_t_numbers, aI E 192 g_t_numbers), (o_t, .inr (5, [.ref a_t_numbers, .ref a_t_lefts, .ref a_t_falls, .int f_t_lateCorner, .int f_t_earlyCorner])), (a_t_lefts, aI E 64 g_t_lefts)] := hD
            refine lv_istore (lv' := [(14, .int r_634), (13, .int 1), (12, .int r_610), (11, .int x_609), (10, .int x_608), (9, .int 1), (8, .int 2), (7, .int x_3), (6, .int x_1), (0, .ref o_t), (1, .int p1), (2, .int p2), (3, .int p3), (4, .int p4), (5, .int p5)]) hx hb dX5_lookUp_120 hl (by decide) rfl (fun ls hl => ?_)
            refine lv_iload hx hb dX5_lookUp_122 (lv_at hl 0 rfl) ?_
            refine lv_if_eq (tgt := 130) hx hb dX5_lookUp_124 (by decide) (fun c_635 => ?_) (fun c_635 => ?_)
            · have e_635 : r_634.toInt = 0 := i3_eq c_635
              refine lv_iload hx hb dX5_lookUp_130 (lv_at hl 4 rfl) ?_
              refine lv_if_le (tgt := 153) hx hb dX5_lookUp_132 (by decide) (fun c_636 => ?_) (fun c_636 => ?_)
              · have e_636 : x_608.toInt ≤ 0 := i3_le c_636
                exfalso; omega
              · have e_636 : 0 < x_608.toInt := i3_nle c_636
                refine va_gets (C := "TimingHouse$Tables") (n := "LOAD_MARKS") (d := "[I") (own := RX5) (ref := "TimingHouse$Tables") hx hb hZ.1.1 hS hown (hto (.fieldLink RX5 31 "TimingHouse$Tables" "LOAD_MARKS" "[I") (by decide +kernel)) (fun _ h9 => h9) dX5_lookUp_135 ?_
                refine lv_iload hx hb dX5_lookUp_138 (lv_at hl 6 rfl) ?_
                refine lv_iconst (v := 1) hx hb dX5_lookUp_140 (by decide) ?_
                refine lv_iadd hx hb dX5_lookUp_141 ?_
                refine lv_cst (y := 3) (by decide) ?_
                refine va_ti (v := .int 64) hx hb hZ.1.2 hS (i3_in (by decide)) rfl dX5_lookUp_142 ?_
                refine va_gets (C := "TimingHouse$Tables") (n := "LOAD_MARKS") (d := "[I") (own := RX5) (ref := "TimingHouse$Tables") hx hb hZ.1.1 hS hown (hto (.fieldLink RX5 31 "TimingHouse$Tables" "LOAD_MARKS" "[I") (by decide +kernel)) (fun _ h9 => h9) dX5_lookUp_143 ?_
                refine lv_iload hx hb dX5_lookUp_146 (lv_at hl 6 rfl) ?_
                refine va_ti (v := .int 24) hx hb hZ.1.2 hS (i3_in (by decide)) rfl dX5_lookUp_148 ?_
                refine lv_isub hx hb dX5_lookUp_149 ?_
                refine lv_cst (y := 40) (by decide) ?_
                refine lv_goto (tgt := 154) hx hb dX5_lookUp_150 (by decide) ?_
                refine lv_istore (lv' := [(15, .int 40), (14, .int r_634), (13, .int 1), (12, .int r_610), (11, .int x_609), (10, .int x_608), (9, .int 1), (8, .int 2), (7, .int x_3), (6, .int x_1), (0, .ref o_t), (1, .int p1), (2, .int p2), (3, .int p3), (4, .int p4), (5, .int p5)]) hx hb dX5_lookUp_154 hl (by decide) rfl (fun ls hl => ?_)
                refine lv_iload hx hb dX5_lookUp_156 (lv_at hl 4 rfl) ?_
                refine lv_if_le (tgt := 179) hx hb dX5_lookUp_158 (by decide) (fun c_637 => ?_) (fun c_637 => ?_)
                · have e_637 : x_609.toInt ≤ 0 := i3_le c_637
                  refine lv_iconst (v := 1) hx hb dX5_lookUp_179 (by decide) ?_
                  refine lv_istore (lv' := [(16, .int 1), (15, .int 40), (14, .int r_634), (13, .int 1), (12, .int r_610), (11, .int x_609), (10, .int x_608), (9, .int 1), (8, .int 2), (7, .int x_3), (6, .int x_1), (0, .ref o_t), (1, .int p1), (2, .int p2), (3, .int p3), (4, .int p4), (5, .int p5)]) hx hb dX5_lookUp_180 hl (by decide) rfl (fun ls hl => ?_)
                  refine lv_iload hx hb dX5_lookUp_182 (lv_at hl 1 rfl) ?_
                  refine lv_iload hx hb dX5_lookUp_184 (lv_at hl 6 rfl) ?_
                  refine lv_isub hx hb dX5_lookUp_186 ?_
                  refine lv_topi (fun x_638 ex_638 => ?_)
                  have tx_638 : x_638.toInt = 40 - x_608.toInt := i3_subc rfl rfl ex_638 (by omega)
                  refine lv_aload_n hx hb dX5_lookUp_187 rfl (lv_at hl 11 rfl) ?_
                  refine lv_iload hx hb dX5_lookUp_188 (lv_at hl 4 rfl) ?_
                  refine lv_iload hx hb dX5_lookUp_190 (lv_at hl 7 rfl) ?_
                  refine lv_iload hx hb dX5_lookUp_192 (lv_at hl 5 rfl) ?_
                  refine lv_iload hx hb dX5_lookUp_194 (lv_at hl 0 rfl) ?_
                  refine call_i (va_runV (As := [.int r_610, .int 1, .int x_609, .int 1]) (rest := [.int x_638]) ⟨hx, hb, hml, hown, hts⟩ (q_weighRow1 l E o_t a_t_numbers a_t_lefts a_t_falls f_t_lateCorner f_t_earlyCorner r_610 1 x_609 1 g_t_numbers r_f_t_lateCorner r_f_t_earlyCorner i_g_t_numbers (RG.mk (by omega)) (RG.mk (by decide)) H.size) (cwV 4 hts g_q_lookUp_q_weighRow1_54 rfl rfl rfl (by decide +kernel) ⟨Nat.le_of_ble_eq_true rfl, Nat.le_of_ble_eq_true rfl⟩) (pre_V hK hN hZ hS (va_free hD hS hA [1, 0] rfl) (hP.sub (ws' := [(o_t, .inr (5, [.ref a_t_numbers, .ref a_t_lefts, .ref a_t_falls, .int f_t_lateCorner, .int f_t_earlyCorner])), (a_t_numbers, aI E 192 g_t_numbers)]) [1, 0] rfl) (hD.sub (ws' := [(o_t, .inr (5, [.ref a_t_numbers, .ref a_t_lefts, .ref a_t_falls, .int f_t_lateCorner, .int f_t_earlyCorner])), (a_t_numbers, aI E 192 g_t_numbers)]) [1, 0] (by decide) rfl) (ci := 5) (q0 := 0) rfl rfl) rfl rfl hl.1 rfl (lv_room (Nat.le_of_ble_eq_true rfl)) dX5_lookUp_196 ⟨Nat.le_of_ble_eq_true rfl, Nat.le_of_ble_eq_true rfl⟩) hP hD hS hA [1, 0] [2] (wr := [(a_t_lefts, aI E 64 g_t_lefts)]) rfl rfl (by decide) (by decide) (fun r_639 w H locs hw hP hD hS => ?_)
                  obtain ⟨b_r_639, rfl⟩ := hw
                  replace hP : va_P E.1 vwCl [(a_t_lefts, aI E 64 g_t_lefts), (o_t, .inr (5, [.ref a_t_numbers, .ref a_t_lefts, .ref a_t_falls, .int f_t_lateCorner, .int f_t_earlyCorner])), (a_t_numbers, aI E 192 g_t_numbers)] H := hP
                  replace hD : va_D A [(a_t_lefts, aI E 64 g_t_lefts), (o_t, .inr (5, [.ref a_t_numbers, .ref a_t_lefts, .ref a_t_falls, .int f_t_lateCorner, .int f_t_earlyCorner])), (a_t_numbers, aI E 192 g_t_numbers)] := hD
                  refine lv_imul hx hb dX5_lookUp_199 ?_
                  refine lv_topi (fun x_640 ex_640 => ?_)
                  have bd_641 := i3_bd r_639
                  refine lv_istore (lv' := [(17, .int x_640), (16, .int 1), (15, .int 40), (14, .int r_634), (13, .int 1), (12, .int r_610), (11, .int x_609), (10, .int x_608), (9, .int 1), (8, .int 2), (7, .int x_3), (6, .int x_1), (0, .ref o_t), (1, .int p1), (2, .int p2), (3, .int p3), (4, .int p4), (5, .int p5)]) hx hb dX5_lookUp_200 hl (by decide) rfl (fun ls hl => ?_)
                  refine lv_iload hx hb dX5_lookUp_202 (lv_at hl 7 rfl) ?_
                  refine lv_if_le (tgt := 229) hx hb dX5_lookUp_204 (by decide) (fun c_642 => ?_) (fun c_642 => ?_)
                  · have e_642 : x_608.toInt ≤ 0 := i3_le c_642
                    exfalso; omega
                  · have e_642 : 0 < x_608.toInt := i3_nle c_642
                    refine lv_iload hx hb dX5_lookUp_207 (lv_at hl 0 rfl) ?_
                    refine lv_iload hx hb dX5_lookUp_209 (lv_at hl 7 rfl) ?_
                    refine lv_aload_n hx hb dX5_lookUp_211 rfl (lv_at hl 12 rfl) ?_
                    refine lv_iload hx hb dX5_lookUp_212 (lv_at hl 5 rfl) ?_
                    refine lv_iconst (v := 1) hx hb dX5_lookUp_214 (by decide) ?_
                    refine lv_iadd hx hb dX5_lookUp_215 ?_
                    refine lv_topi (fun x_643 ex_643 => ?_)
                    have hq_x_643 : x_633 = x_643 := ex_633.trans ex_643.symm
                    subst hq_x_643
                    refine lv_iload hx hb dX5_lookUp_216 (lv_at hl 8 rfl) ?_
                    refine lv_iload hx hb dX5_lookUp_218 (lv_at hl 6 rfl) ?_
                    refine lv_iload hx hb dX5_lookUp_220 (lv_at hl 1 rfl) ?_
                    refine call_i (va_runV (As := [.int x_633, .int 1, .int x_609, .int 1]) (rest := [.int x_608, .int x_640]) ⟨hx, hb, hml, hown, hts⟩ (q_weighRow1 l E o_t a_t_numbers a_t_lefts a_t_falls f_t_lateCorner f_t_earlyCorner x_633 1 x_609 1 g_t_numbers r_f_t_lateCorner r_f_t_earlyCorner i_g_t_numbers (RG.mk (by omega)) (RG.mk (by decide)) H.size) (cwV 4 hts g_q_lookUp_q_weighRow1_54 rfl rfl rfl (by decide +kernel) ⟨Nat.le_of_ble_eq_true rfl, Nat.le_of_ble_eq_true rfl⟩) (pre_V hK hN hZ hS (va_free hD hS hA [1, 2] rfl) (hP.sub (ws' := [(o_t, .inr (5, [.ref a_t_numbers, .ref a_t_lefts, .ref a_t_falls, .int f_t_lateCorner, .int f_t_earlyCorner])), (a_t_numbers, aI E 192 g_t_numbers)]) [1, 2] rfl) (hD.sub (ws' := [(o_t, .inr (5, [.ref a_t_numbers, .ref a_t_lefts, .ref a_t_falls, .int f_t_lateCorner, .int f_t_earlyCorner])), (a_t_numbers, aI E 192 g_t_numbers)]) [1, 2] (by decide) rfl) (ci := 5) (q0 := 0) rfl rfl) rfl rfl hl.1 rfl (lv_room (Nat.le_of_ble_eq_true rfl)) dX5_lookUp_222 ⟨Nat.le_of_ble_eq_true rfl, Nat.le_of_ble_eq_true rfl⟩) hP hD hS hA [1, 2] [0] (wr := [(a_t_lefts, aI E 64 g_t_lefts)]) rfl rfl (by decide) (by decide) (fun r_644 w H locs hw hP hD hS => ?_)
                    obtain ⟨b_r_644, rfl⟩ := hw
                    replace hP : va_P E.1 vwCl [(a_t_lefts, aI E 64 g_t_lefts), (o_t, .inr (5, [.ref a_t_numbers, .ref a_t_lefts, .ref a_t_falls, .int f_t_lateCorner, .int f_t_earlyCorner])), (a_t_numbers, aI E 192 g_t_numbers)] H := hP
                    replace hD : va_D A [(a_t_lefts, aI E 64 g_t_lefts), (o_t, .inr (5, [.ref a_t_numbers, .ref a_t_lefts, .ref a_t_falls, .int f_t_lateCorner, .int f_t_earlyCorner])), (a_t_numbers, aI E 192 g_t_numbers)] := hD
                    refine lv_imul hx hb dX5_lookUp_225 ?_
                    refine lv_topi (fun x_645 ex_645 => ?_)
                    have bd_646 := i3_bd r_644
                    refine lv_iadd hx hb dX5_lookUp_226 ?_
                    refine lv_topi (fun x_647 ex_647 => ?_)
                    have bd_648 := i3_bd x_640
                    have bd_649 := i3_bd x_645
                    refine lv_istore (lv' := [(17, .int x_647), (16, .int 1), (15, .int 40), (14, .int r_634), (13, .int 1), (12, .int r_610), (11, .int x_609), (10, .int x_608), (9, .int 1), (8, .int 2), (7, .int x_3), (6, .int x_1), (0, .ref o_t), (1, .int p1), (2, .int p2), (3, .int p3), (4, .int p4), (5, .int p5)]) hx hb dX5_lookUp_227 hl (by decide) rfl (fun ls hl => ?_)
                    refine lv_iload hx hb dX5_lookUp_229 (lv_at hl 2 rfl) ?_
                    refine lv_iload hx hb dX5_lookUp_231 (lv_at hl 1 rfl) ?_
                    refine lv_imul hx hb dX5_lookUp_233 ?_
                    refine lv_cst (y := 40) (by decide) ?_
                    refine lv_istore (lv' := [(18, .int 40), (17, .int x_647), (16, .int 1), (15, .int 40), (14, .int r_634), (13, .int 1), (12, .int r_610), (11, .int x_609), (10, .int x_608), (9, .int 1), (8, .int 2), (7, .int x_3), (6, .int x_1), (0, .ref o_t), (1, .int p1), (2, .int p2), (3, .int p3), (4, .int p4), (5, .int p5)]) hx hb dX5_lookUp_234 hl (by decide) rfl (fun ls hl => ?_)
                    refine lv_iload hx hb dX5_lookUp_236 (lv_at hl 18 rfl) ?_
                    have b_p5 := r_p5.out
                    refine lv_if_eq (tgt := 254) hx hb dX5_lookUp_238 (by decide) (fun c_650 => ?_) (fun c_650 => ?_)
                    · have e_650 : p5.toInt = 0 := i3_eq c_650
                      refine lv_iload hx hb dX5_lookUp_254 (lv_at hl 1 rfl) ?_
                      refine lv_iload hx hb dX5_lookUp_256 (lv_at hl 0 rfl) ?_
                      refine lv_idiv hx hb dX5_lookUp_258 (by decide) ?_
                      refine lv_topi (fun x_651 ex_651 => ?_)
                      have bd_652 := i3_bd x_647
                      exact ret_i hx hb hr hlk (hP.sub (ws' := [(o_t, .inr (5, [.ref a_t_numbers, .ref a_t_lefts, .ref a_t_falls, .int f_t_lateCorner, .int f_t_earlyCorner])), (a_t_lefts, aI E 64 g_t_lefts), (a_t_numbers, aI E 192 g_t_numbers)]) [1, 0, 2] rfl) (hD.sub (ws' := [(o_t, .inr (5, [.ref a_t_numbers, .ref a_t_lefts, .ref a_t_falls, .int f_t_lateCorner, .int f_t_earlyCorner])), (a_t_lefts, aI E 64 g_t_lefts), (a_t_numbers, aI E 192 g_t_numbers)]) [1, 0, 2] (by decide) rfl) hS rfl dX5_lookUp_259 (Nat.le_of_ble_eq_true rfl) (Nat.le_of_ble_eq_true rfl) ⟨trivial, rfl⟩
                    · have e_650 : p5.toInt ≠ 0 := i3_ne c_650
                      refine lv_iload hx hb dX5_lookUp_241 (lv_at hl 1 rfl) ?_
                      refine lv_iload hx hb dX5_lookUp_243 (lv_at hl 0 rfl) ?_
                      refine lv_iadd hx hb dX5_lookUp_245 ?_
                      refine lv_topi (fun x_653 ex_653 => ?_)
                      have bd_654 := i3_bd x_647
                      refine lv_iconst (v := 1) hx hb dX5_lookUp_246 (by decide) ?_
                      refine lv_isub hx hb dX5_lookUp_247 ?_
                      refine lv_topi (fun x_655 ex_655 => ?_)
                      have bd_656 := i3_bd x_653
                      refine lv_iload hx hb dX5_lookUp_248 (lv_at hl 0 rfl) ?_
                      refine lv_idiv hx hb dX5_lookUp_250 (by decide) ?_
                      refine lv_topi (fun x_657 ex_657 => ?_)
                      have bd_658 := i3_bd x_655
                      refine lv_goto (tgt := 259) hx hb dX5_lookUp_251 (by decide) ?_
                      exact ret_i hx hb hr hlk (hP.sub (ws' := [(o_t, .inr (5, [.ref a_t_numbers, .ref a_t_lefts, .ref a_t_falls, .int f_t_lateCorner, .int f_t_earlyCorner])), (a_t_lefts, aI E 64 g_t_lefts), (a_t_numbers, aI E 192 g_t_numbers)]) [1, 0, 2] rfl) (hD.sub (ws' := [(o_t, .inr (5, [.ref a_t_numbers, .ref a_t_lefts, .ref a_t_falls, .int f_t_lateCorner, .int f_t_earlyCorner])), (a_t_lefts, aI E 64 g_t_lefts), (a_t_numbers, aI E 192 g_t_numbers)]) [1, 0, 2] (by decide) rfl) hS rfl dX5_lookUp_259 (Nat.le_of_ble_eq_true rfl) (Nat.le_of_ble_eq_true rfl) ⟨trivial, rfl⟩
                · have e_637 : 0 < x_609.toInt := i3_nle c_637
                  exfalso; omega
            · have e_635 : r_634.toInt ≠ 0 := i3_ne c_635
              refine lv_iload hx hb dX5_lookUp_127 (lv_at hl 0 rfl) ?_
              exact ret_i hx hb hr hlk (hP.sub (ws' := [(o_t, .inr (5, [.ref a_t_numbers, .ref a_t_lefts, .ref a_t_falls, .int f_t_lateCorner, .int f_t_earlyCorner])), (a_t_lefts, aI E 64 g_t_lefts), (a_t_numbers, aI E 192 g_t_numbers)]) [1, 2, 0] rfl) (hD.sub (ws' := [(o_t, .inr (5, [.ref a_t_numbers, .ref a_t_lefts, .ref a_t_falls, .int f_t_lateCorner, .int f_t_earlyCorner])), (a_t_lefts, aI E 64 g_t_lefts), (a_t_numbers, aI E 192 g_t_numbers)]) [1, 2, 0] (by decide) rfl) hS rfl dX5_lookUp_129 (Nat.le_of_ble_eq_true rfl) (Nat.le_of_ble_eq_true rfl) ⟨trivial, rfl⟩
      · have e_611 : 0 < x_609.toInt := i3_nle c_611
        refine lv_iload hx hb dX5_lookUp_79 (lv_at hl 3 rfl) ?_
        refine lv_iconst (v := 1) hx hb dX5_lookUp_81 (by decide) ?_
        refine lv_iadd hx hb dX5_lookUp_82 ?_
        refine lv_cst (y := 2) (by decide) ?_
        refine lv_goto (tgt := 88) hx hb dX5_lookUp_83 (by decide) ?_
        refine lv_istore (lv' := [(13, .int 2), (12, .int r_610), (11, .int x_609), (10, .int x_608), (9, .int 1), (8, .int 2), (7, .int x_3), (6, .int x_1), (0, .ref o_t), (1, .int p1), (2, .int p2), (3, .int p3), (4, .int p4), (5, .int p5)]) hx hb dX5_lookUp_88 hl (by decide) rfl (fun ls hl => ?_)
        refine lv_aload_n hx hb dX5_lookUp_90 rfl (lv_at hl 8 rfl) ?_
        refine lv_iload hx hb dX5_lookUp_91 (lv_at hl 1 rfl) ?_
        refine lv_iload hx hb dX5_lookUp_93 (lv_at hl 0 rfl) ?_
        refine call_i (va_runV (As := [.int r_610, .int 2]) (rest := []) ⟨hx, hb, hml, hown, hts⟩ (q_whyAbsent l E o_t a_t_numbers a_t_lefts a_t_falls f_t_lateCorner f_t_earlyCorner r_610 2 g_t_lefts r_f_t_lateCorner r_f_t_earlyCorner i_g_t_lefts (RG.mk (by omega)) H.size) (cwV 2 hts g_q_lookUp_q_whyAbsent_51 rfl rfl rfl (by decide +kernel) ⟨Nat.le_of_ble_eq_true rfl, Nat.le_of_ble_eq_true rfl⟩) (pre_V hK hN hZ hS (va_free hD hS hA [0, 1] rfl) (hP.sub (ws' := [(o_t, .inr (5, [.ref a_t_numbers, .ref a_t_lefts, .ref a_t_falls, .int f_t_lateCorner, .int f_t_earlyCorner])), (a_t_lefts, aI E 64 g_t_lefts)]) [0, 1] rfl) (hD.sub (ws' := [(o_t, .inr (5, [.ref a_t_numbers, .ref a_t_lefts, .ref a_t_falls, .int f_t_lateCorner, .int f_t_earlyCorner])), (a_t_lefts, aI E 64 g_t_lefts)]) [0, 1] (by decide) rfl) (ci := 5) (q0 := 0) rfl rfl) rfl rfl hl.1 rfl (lv_room (Nat.le_of_ble_eq_true rfl)) dX5_lookUp_95 ⟨Nat.le_of_ble_eq_true rfl, Nat.le_of_ble_eq_true rfl⟩) hP hD hS hA [0, 1] [2] (wr := [(a_t_numbers, aI E 192 g_t_numbers)]) rfl rfl (by decide) (by decide) (fun r_659 w H locs hw hP hD hS => ?_)
        obtain ⟨b_r_659, rfl⟩ := hw
        replace hP : va_P E.1 vwCl [(a_t_numbers, aI E 192 g_t_numbers), (o_t, .inr (5, [.ref a_t_numbers, .ref a_t_lefts, .ref a_t_falls, .int f_t_lateCorner, .int f_t_earlyCorner])), (a_t_lefts, aI E 64 g_t_lefts)] H := hP
        replace hD : va_D A [(a_t_numbers, aI E 192 g_t_numbers), (o_t, .inr (5, [.ref a_t_numbers, .ref a_t_lefts, .ref a_t_falls, .int f_t_lateCorner, .int f_t_earlyCorner])), (a_t_lefts, aI E 64 g_t_lefts)] := hD
        refine lv_istore (lv' := [(14, .int r_659), (13, .int 2), (12, .int r_610), (11, .int x_609), (10, .int x_608), (9, .int 1), (8, .int 2), (7, .int x_3), (6, .int x_1), (0, .ref o_t), (1, .int p1), (2, .int p2), (3, .int p3), (4, .int p4), (5, .int p5)]) hx hb dX5_lookUp_98 hl (by decide) rfl (fun ls hl => ?_)
        refine lv_iload hx hb dX5_lookUp_100 (lv_at hl 0 rfl) ?_
        refine lv_if_ne (tgt := 122) hx hb dX5_lookUp_102 (by decide) (fun c_660 => ?_) (fun c_660 => ?_)
        · have e_660 : r_659.toInt ≠ 0 := i3_ne c_660
          refine lv_iload hx hb dX5_lookUp_122 (lv_at hl 0 rfl) ?_
          refine lv_if_eq (tgt := 130) hx hb dX5_lookUp_124 (by decide) (fun c_661 => ?_) (fun c_661 => ?_)
          · have e_661 : r_659.toInt = 0 := i3_eq c_661
            exfalso; omega
          · have e_661 : r_659.toInt ≠ 0 := i3_ne c_661
            refine lv_iload hx hb dX5_lookUp_127 (lv_at hl 0 rfl) ?_
            exact ret_i hx hb hr hlk (hP.sub (ws' := [(o_t, .inr (5, [.ref a_t_numbers, .ref a_t_lefts, .ref a_t_falls, .int f_t_lateCorner, .int f_t_earlyCorner])), (a_t_lefts, aI E 64 g_t_lefts), (a_t_numbers, aI E 192 g_t_numbers)]) [1, 2, 0] rfl) (hD.sub (ws' := [(o_t, .inr (5, [.ref a_t_numbers, .ref a_t_lefts, .ref a_t_falls, .int f_t_lateCorner, .int f_t_earlyCorner])), (a_t_lefts, aI E 64 g_t_lefts), (a_t_numbers, aI E 192 g_t_numbers)]) [1, 2, 0] (by decide) rfl) hS rfl dX5_lookUp_129 (Nat.le_of_ble_eq_true rfl) (Nat.le_of_ble_eq_true rfl) ⟨trivial, rfl⟩
        · have e_660 : r_659.toInt = 0 := i3_eq c_660
          refine lv_iload hx hb dX5_lookUp_105 (lv_at hl 4 rfl) ?_
          refine lv_if_le (tgt := 122) hx hb dX5_lookUp_107 (by decide) (fun c_662 => ?_) (fun c_662 => ?_)
          · have e_662 : x_608.toInt ≤ 0 := i3_le c_662
            refine lv_iload hx hb dX5_lookUp_122 (lv_at hl 0 rfl) ?_
            refine lv_if_eq (tgt := 130) hx hb dX5_lookUp_124 (by decide) (fun c_663 => ?_) (fun c_663 => ?_)
            · have e_663 : r_659.toInt = 0 := i3_eq c_663
              refine lv_iload hx hb dX5_lookUp_130 (lv_at hl 4 rfl) ?_
              refine lv_if_le (tgt := 153) hx hb dX5_lookUp_132 (by decide) (fun c_664 => ?_) (fun c_664 => ?_)
              · have e_664 : x_608.toInt ≤ 0 := i3_le c_664
                refine lv_iconst (v := 1) hx hb dX5_lookUp_153 (by decide) ?_
                refine lv_istore (lv' := [(15, .int 1), (14, .int r_659), (13, .int 2), (12, .int r_610), (11, .int x_609), (10, .int x_608), (9, .int 1), (8, .int 2), (7, .int x_3), (6, .int x_1), (0, .ref o_t), (1, .int p1), (2, .int p2), (3, .int p3), (4, .int p4), (5, .int p5)]) hx hb dX5_lookUp_154 hl (by decide) rfl (fun ls hl => ?_)
                refine lv_iload hx hb dX5_lookUp_156 (lv_at hl 4 rfl) ?_
                refine lv_if_le (tgt := 179) hx hb dX5_lookUp_158 (by decide) (fun c_665 => ?_) (fun c_665 => ?_)
                · have e_665 : x_609.toInt ≤ 0 := i3_le c_665
                  exfalso; omega
                · have e_665 : 0 < x_609.toInt := i3_nle c_665
                  refine va_gets (C := "TimingHouse$Tables") (n := "SLOPE_MARKS") (d := "[I") (own := RX5) (ref := "TimingHouse$Tables") hx hb hZ.2.1.1 hS hown (hto (.fieldLink RX5 40 "TimingHouse$Tables" "SLOPE_MARKS" "[I") (by decide +kernel)) (fun _ h9 => h9) dX5_lookUp_161 ?_
                  refine lv_iload hx hb dX5_lookUp_164 (lv_at hl 6 rfl) ?_
                  refine lv_iconst (v := 1) hx hb dX5_lookUp_166 (by decide) ?_
                  refine lv_iadd hx hb dX5_lookUp_167 ?_
                  refine lv_cst (y := 2) (by decide) ?_
                  refine va_ti (v := .int 64) hx hb hZ.2.1.2 hS (i3_in (by decide)) rfl dX5_lookUp_168 ?_
                  refine va_gets (C := "TimingHouse$Tables") (n := "SLOPE_MARKS") (d := "[I") (own := RX5) (ref := "TimingHouse$Tables") hx hb hZ.2.1.1 hS hown (hto (.fieldLink RX5 40 "TimingHouse$Tables" "SLOPE_MARKS" "[I") (by decide +kernel)) (fun _ h9 => h9) dX5_lookUp_169 ?_
                  refine lv_iload hx hb dX5_lookUp_172 (lv_at hl 6 rfl) ?_
                  refine va_ti (v := .int 16) hx hb hZ.2.1.2 hS (i3_in (by decide)) rfl dX5_lookUp_174 ?_
                  refine lv_isub hx hb dX5_lookUp_175 ?_
                  refine lv_cst (y := 48) (by decide) ?_
                  refine lv_goto (tgt := 180) hx hb dX5_lookUp_176 (by decide) ?_
                  refine lv_istore (lv' := [(16, .int 48), (15, .int 1), (14, .int r_659), (13, .int 2), (12, .int r_610), (11, .int x_609), (10, .int x_608), (9, .int 1), (8, .int 2), (7, .int x_3), (6, .int x_1), (0, .ref o_t), (1, .int p1), (2, .int p2), (3, .int p3), (4, .int p4), (5, .int p5)]) hx hb dX5_lookUp_180 hl (by decide) rfl (fun ls hl => ?_)
                  refine lv_iload hx hb dX5_lookUp_182 (lv_at hl 1 rfl) ?_
                  refine lv_iload hx hb dX5_lookUp_184 (lv_at hl 6 rfl) ?_
                  refine lv_isub hx hb dX5_lookUp_186 ?_
                  refine lv_topi (fun x_666 ex_666 => ?_)
                  have tx_666 : x_666.toInt = 1 - x_608.toInt := i3_subc rfl rfl ex_666 (by omega)
                  refine lv_aload_n hx hb dX5_lookUp_187 rfl (lv_at hl 11 rfl) ?_
                  refine lv_iload hx hb dX5_lookUp_188 (lv_at hl 4 rfl) ?_
                  refine lv_iload hx hb dX5_lookUp_190 (lv_at hl 7 rfl) ?_
                  refine lv_iload hx hb dX5_lookUp_192 (lv_at hl 5 rfl) ?_
                  refine lv_iload hx hb dX5_lookUp_194 (lv_at hl 0 rfl) ?_
                  refine call_i (va_runV (As := [.int r_610, .int 1, .int x_609, .int 48]) (rest := [.int x_666]) ⟨hx, hb, hml, hown, hts⟩ (q_weighRow1 l E o_t a_t_numbers a_t_lefts a_t_falls f_t_lateCorner f_t_earlyCorner r_610 1 x_609 48 g_t_numbers r_f_t_lateCorner r_f_t_earlyCorner i_g_t_numbers (RG.mk (by omega)) (RG.mk (by decide)) H.size) (cwV 4 hts g_q_lookUp_q_weighRow1_54 rfl rfl rfl (by decide +kernel) ⟨Nat.le_of_ble_eq_true rfl, Nat.le_of_ble_eq_true rfl⟩) (pre_V hK hN hZ hS (va_free hD hS hA [1, 0] rfl) (hP.sub (ws' := [(o_t, .inr (5, [.ref a_t_numbers, .ref a_t_lefts, .ref a_t_falls, .int f_t_lateCorner, .int f_t_earlyCorner])), (a_t_numbers, aI E 192 g_t_numbers)]) [1, 0] rfl) (hD.sub (ws' := [(o_t, .inr (5, [.ref a_t_numbers, .ref a_t_lefts, .ref a_t_falls, .int f_t_lateCorner, .int f_t_earlyCorner])), (a_t_numbers, aI E 192 g_t_numbers)]) [1, 0] (by decide) rfl) (ci := 5) (q0 := 0) rfl rfl) rfl rfl hl.1 rfl (lv_room (Nat.le_of_ble_eq_true rfl)) dX5_lookUp_196 ⟨Nat.le_of_ble_eq_true rfl, Nat.le_of_ble_eq_true rfl⟩) hP hD hS hA [1, 0] [2] (wr := [(a_t_lefts, aI E 64 g_t_lefts)]) rfl rfl (by decide) (by decide) (fun r_667 w H locs hw hP hD hS => ?_)
                  obtain ⟨b_r_667, rfl⟩ := hw
                  replace hP : va_P E.1 vwCl [(a_t_lefts, aI E 64 g_t_lefts), (o_t, .inr (5, [.ref a_t_numbers, .ref a_t_lefts, .ref a_t_falls, .int f_t_lateCorner, .int f_t_earlyCorner])), (a_t_numbers, aI E 192 g_t_numbers)] H := hP
                  replace hD : va_D A [(a_t_lefts, aI E 64 g_t_lefts), (o_t, .inr (5, [.ref a_t_numbers, .ref a_t_lefts, .ref a_t_falls, .int f_t_lateCorner, .int f_t_earlyCorner])), (a_t_numbers, aI E 192 g_t_numbers)] := hD
                  refine lv_imul hx hb dX5_lookUp_199 ?_
                  refine lv_topi (fun x_668 ex_668 => ?_)
                  have bd_669 := i3_bd r_667
                  refine lv_istore (lv' := [(17, .int x_668), (16, .int 48), (15, .int 1), (14, .int r_659), (13, .int 2), (12, .int r_610), (11, .int x_609), (10, .int x_608), (9, .int 1), (8, .int 2), (7, .int x_3), (6, .int x_1), (0, .ref o_t), (1, .int p1), (2, .int p2), (3, .int p3), (4, .int p4), (5, .int p5)]) hx hb dX5_lookUp_200 hl (by decide) rfl (fun ls hl => ?_)
                  refine lv_iload hx hb dX5_lookUp_202 (lv_at hl 7 rfl) ?_
                  refine lv_if_le (tgt := 229) hx hb dX5_lookUp_204 (by decide) (fun c_670 => ?_) (fun c_670 => ?_)
                  · have e_670 : x_608.toInt ≤ 0 := i3_le c_670
                    refine lv_iload hx hb dX5_lookUp_229 (lv_at hl 2 rfl) ?_
                    refine lv_iload hx hb dX5_lookUp_231 (lv_at hl 1 rfl) ?_
                    refine lv_imul hx hb dX5_lookUp_233 ?_
                    refine lv_cst (y := 48) (by decide) ?_
                    refine lv_istore (lv' := [(18, .int 48), (17, .int x_668), (16, .int 48), (15, .int 1), (14, .int r_659), (13, .int 2), (12, .int r_610), (11, .int x_609), (10, .int x_608), (9, .int 1), (8, .int 2), (7, .int x_3), (6, .int x_1), (0, .ref o_t), (1, .int p1), (2, .int p2), (3, .int p3), (4, .int p4), (5, .int p5)]) hx hb dX5_lookUp_234 hl (by decide) rfl (fun ls hl => ?_)
                    refine lv_iload hx hb dX5_lookUp_236 (lv_at hl 18 rfl) ?_
                    have b_p5 := r_p5.out
                    refine lv_if_eq (tgt := 254) hx hb dX5_lookUp_238 (by decide) (fun c_671 => ?_) (fun c_671 => ?_)
                    · have e_671 : p5.toInt = 0 := i3_eq c_671
                      refine lv_iload hx hb dX5_lookUp_254 (lv_at hl 1 rfl) ?_
                      refine lv_iload hx hb dX5_lookUp_256 (lv_at hl 0 rfl) ?_
                      refine lv_idiv hx hb dX5_lookUp_258 (by decide) ?_
                      refine lv_topi (fun x_672 ex_672 => ?_)
                      have bd_673 := i3_bd x_668
                      exact ret_i hx hb hr hlk (hP.sub (ws' := [(o_t, .inr (5, [.ref a_t_numbers, .ref a_t_lefts, .ref a_t_falls, .int f_t_lateCorner, .int f_t_earlyCorner])), (a_t_lefts, aI E 64 g_t_lefts), (a_t_numbers, aI E 192 g_t_numbers)]) [1, 0, 2] rfl) (hD.sub (ws' := [(o_t, .inr (5, [.ref a_t_numbers, .ref a_t_lefts, .ref a_t_falls, .int f_t_lateCorner, .int f_t_earlyCorner])), (a_t_lefts, aI E 64 g_t_lefts), (a_t_numbers, aI E 192 g_t_numbers)]) [1, 0, 2] (by decide) rfl) hS rfl dX5_lookUp_259 (Nat.le_of_ble_eq_true rfl) (Nat.le_of_ble_eq_true rfl) ⟨trivial, rfl⟩
                    · have e_671 : p5.toInt ≠ 0 := i3_ne c_671
                      refine lv_iload hx hb dX5_lookUp_241 (lv_at hl 1 rfl) ?_
                      refine lv_iload hx hb dX5_lookUp_243 (lv_at hl 0 rfl) ?_
                      refine lv_iadd hx hb dX5_lookUp_245 ?_
                      refine lv_topi (fun x_674 ex_674 => ?_)
                      have bd_675 := i3_bd x_668
                      refine lv_iconst (v := 1) hx hb dX5_lookUp_246 (by decide) ?_
                      refine lv_isub hx hb dX5_lookUp_247 ?_
                      refine lv_topi (fun x_676 ex_676 => ?_)
                      have bd_677 := i3_bd x_674
                      refine lv_iload hx hb dX5_lookUp_248 (lv_at hl 0 rfl) ?_
                      refine lv_idiv hx hb dX5_lookUp_250 (by decide) ?_
                      refine lv_topi (fun x_678 ex_678 => ?_)
                      have bd_679 := i3_bd x_676
                      refine lv_goto (tgt := 259) hx hb dX5_lookUp_251 (by decide) ?_
                      exact ret_i hx hb hr hlk (hP.sub (ws' := [(o_t, .inr (5, [.ref a_t_numbers, .ref a_t_lefts, .ref a_t_falls, .int f_t_lateCorner, .int f_t_earlyCorner])), (a_t_lefts, aI E 64 g_t_lefts), (a_t_numbers, aI E 192 g_t_numbers)]) [1, 0, 2] rfl) (hD.sub (ws' := [(o_t, .inr (5, [.ref a_t_numbers, .ref a_t_lefts, .ref a_t_falls, .int f_t_lateCorner, .int f_t_earlyCorner])), (a_t_lefts, aI E 64 g_t_lefts), (a_t_numbers, aI E 192 g_t_numbers)]) [1, 0, 2] (by decide) rfl) hS rfl dX5_lookUp_259 (Nat.le_of_ble_eq_true rfl) (Nat.le_of_ble_eq_true rfl) ⟨trivial, rfl⟩
                  · have e_670 : 0 < x_608.toInt := i3_nle c_670
                    exfalso; omega
              · have e_664 : 0 < x_608.toInt := i3_nle c_664
                exfalso; omega
            · have e_663 : r_659.toInt ≠ 0 := i3_ne c_663
              exfalso; omega
          · have e_662 : 0 < x_608.toInt := i3_nle c_662
            refine lv_aload_n hx hb dX5_lookUp_110 rfl (lv_at hl 9 rfl) ?_
            refine lv_iload hx hb dX5_lookUp_111 (lv_at hl 2 rfl) ?_
            refine lv_iconst (v := 1) hx hb dX5_lookUp_113 (by decide) ?_
            refine lv_iadd hx hb dX5_lookUp_114 ?_
            refine lv_topi (fun x_680 ex_680 => ?_)
            have tx_680 : x_680.toInt = r_610.toInt + 1 := i3_addc rfl rfl ex_680 (by omega)
            refine lv_iload hx hb dX5_lookUp_115 (lv_at hl 1 rfl) ?_
            refine call_i (va_runV (As := [.int x_680, .int 2]) (rest := []) ⟨hx, hb, hml, hown, hts⟩ (q_whyAbsent l E o_t a_t_numbers a_t_lefts a_t_falls f_t_lateCorner f_t_earlyCorner x_680 2 g_t_lefts r_f_t_lateCorner r_f_t_earlyCorner i_g_t_lefts (RG.mk (by omega)) H.size) (cwV 2 hts g_q_lookUp_q_whyAbsent_51 rfl rfl rfl (by decide +kernel) ⟨Nat.le_of_ble_eq_true rfl, Nat.le_of_ble_eq_true rfl⟩) (pre_V hK hN hZ hS (va_free hD hS hA [1, 2] rfl) (hP.sub (ws' := [(o_t, .inr (5, [.ref a_t_numbers, .ref a_t_lefts, .ref a_t_falls, .int f_t_lateCorner, .int f_t_earlyCorner])), (a_t_lefts, aI E 64 g_t_lefts)]) [1, 2] rfl) (hD.sub (ws' := [(o_t, .inr (5, [.ref a_t_numbers, .ref a_t_lefts, .ref a_t_falls, .int f_t_lateCorner, .int f_t_earlyCorner])), (a_t_lefts, aI E 64 g_t_lefts)]) [1, 2] (by decide) rfl) (ci := 5) (q0 := 0) rfl rfl) rfl rfl hl.1 rfl (lv_room (Nat.le_of_ble_eq_true rfl)) dX5_lookUp_117 ⟨Nat.le_of_ble_eq_true rfl, Nat.le_of_ble_eq_true rfl⟩) hP hD hS hA [1, 2] [0] (wr := [(a_t_numbers, aI E 192 g_t_numbers)]) rfl rfl (by decide) (by decide) (fun r_681 w H locs hw hP hD hS => ?_)
            obtain ⟨b_r_681, rfl⟩ := hw
            replace hP : va_P E.1 vwCl [(a_t_numbers, aI E 192 g_t_numbers), (o_t, .inr (5, [.ref a_t_numbers, .ref a_t_lefts, .ref a_t_falls, .int f_t_lateCorner, .int f_t_earlyCorner])), (a_t_lefts, aI E 64 g_t_lefts)] H := hP
            replace hD : va_D A [(a_t_numbers, aI E 192 g_t_numbers), (o_t, .inr (5, [.ref a_t_numbers, .ref a_t_lefts, .ref a_t_falls, .int f_t_lateCorner, .int f_t_earlyCorner])), (a_t_lefts, aI E 64 g_t_lefts)] := hD
            refine lv_istore (lv' := [(14, .int r_681), (13, .int 2), (12, .int r_610), (11, .int x_609), (10, .int x_608), (9, .int 1), (8, .int 2), (7, .int x_3), (6, .int x_1), (0, .ref o_t), (1, .int p1), (2, .int p2), (3, .int p3), (4, .int p4), (5, .int p5)]) hx hb dX5_lookUp_120 hl (by decide) rfl (fun ls hl => ?_)
            refine lv_iload hx hb dX5_lookUp_122 (lv_at hl 0 rfl) ?_
            refine lv_if_eq (tgt := 130) hx hb dX5_lookUp_124 (by decide) (fun c_682 => ?_) (fun c_682 => ?_)
            · have e_682 : r_681.toInt = 0 := i3_eq c_682
              refine lv_iload hx hb dX5_lookUp_130 (lv_at hl 4 rfl) ?_
              refine lv_if_le (tgt := 153) hx hb dX5_lookUp_132 (by decide) (fun c_683 => ?_) (fun c_683 => ?_)
              · have e_683 : x_608.toInt ≤ 0 := i3_le c_683
                exfalso; omega
              · have e_683 : 0 < x_608.toInt := i3_nle c_683
                refine va_gets (C := "TimingHouse$Tables") (n := "LOAD_MARKS") (d := "[I") (own := RX5) (ref := "TimingHouse$Tables") hx hb hZ.1.1 hS hown (hto (.fieldLink RX5 31 "TimingHouse$Tables" "LOAD_MARKS" "[I") (by decide +kernel)) (fun _ h9 => h9) dX5_lookUp_135 ?_
                refine lv_iload hx hb dX5_lookUp_138 (lv_at hl 6 rfl) ?_
                refine lv_iconst (v := 1) hx hb dX5_lookUp_140 (by decide) ?_
                refine lv_iadd hx hb dX5_lookUp_141 ?_
                refine lv_cst (y := 3) (by decide) ?_
                refine va_ti (v := .int 64) hx hb hZ.1.2 hS (i3_in (by decide)) rfl dX5_lookUp_142 ?_
                refine va_gets (C := "TimingHouse$Tables") (n := "LOAD_MARKS") (d := "[I") (own := RX5) (ref := "TimingHouse$Tables") hx hb hZ.1.1 hS hown (hto (.fieldLink RX5 31 "TimingHouse$Tables" "LOAD_MARKS" "[I") (by decide +kernel)) (fun _ h9 => h9) dX5_lookUp_143 ?_
                refine lv_iload hx hb dX5_lookUp_146 (lv_at hl 6 rfl) ?_
                refine va_ti (v := .int 24) hx hb hZ.1.2 hS (i3_in (by decide)) rfl dX5_lookUp_148 ?_
                refine lv_isub hx hb dX5_lookUp_149 ?_
                refine lv_cst (y := 40) (by decide) ?_
                refine lv_goto (tgt := 154) hx hb dX5_lookUp_150 (by decide) ?_
                refine lv_istore (lv' := [(15, .int 40), (14, .int r_681), (13, .int 2), (12, .int r_610), (11, .int x_609), (10, .int x_608), (9, .int 1), (8, .int 2), (7, .int x_3), (6, .int x_1), (0, .ref o_t), (1, .int p1), (2, .int p2), (3, .int p3), (4, .int p4), (5, .int p5)]) hx hb dX5_lookUp_154 hl (by decide) rfl (fun ls hl => ?_)
                refine lv_iload hx hb dX5_lookUp_156 (lv_at hl 4 rfl) ?_
                refine lv_if_le (tgt := 179) hx hb dX5_lookUp_158 (by decide) (fun c_684 => ?_) (fun c_684 => ?_)
                · have e_684 : x_609.toInt ≤ 0 := i3_le c_684
                  exfalso; omega
                · have e_684 : 0 < x_609.toInt := i3_nle c_684
                  refine va_gets (C := "TimingHouse$Tables") (n := "SLOPE_MARKS") (d := "[I") (own := RX5) (ref := "TimingHouse$Tables") hx hb hZ.2.1.1 hS hown (hto (.fieldLink RX5 40 "TimingHouse$Tables" "SLOPE_MARKS" "[I") (by decide +kernel)) (fun _ h9 => h9) dX5_lookUp_161 ?_
                  refine lv_iload hx hb dX5_lookUp_164 (lv_at hl 6 rfl) ?_
                  refine lv_iconst (v := 1) hx hb dX5_lookUp_166 (by decide) ?_
                  refine lv_iadd hx hb dX5_lookUp_167 ?_
                  refine lv_cst (y := 2) (by decide) ?_
                  refine va_ti (v := .int 64) hx hb hZ.2.1.2 hS (i3_in (by decide)) rfl dX5_lookUp_168 ?_
                  refine va_gets (C := "TimingHouse$Tables") (n := "SLOPE_MARKS") (d := "[I") (own := RX5) (ref := "TimingHouse$Tables") hx hb hZ.2.1.1 hS hown (hto (.fieldLink RX5 40 "TimingHouse$Tables" "SLOPE_MARKS" "[I") (by decide +kernel)) (fun _ h9 => h9) dX5_lookUp_169 ?_
                  refine lv_iload hx hb dX5_lookUp_172 (lv_at hl 6 rfl) ?_
                  refine va_ti (v := .int 16) hx hb hZ.2.1.2 hS (i3_in (by decide)) rfl dX5_lookUp_174 ?_
                  refine lv_isub hx hb dX5_lookUp_175 ?_
                  refine lv_cst (y := 48) (by decide) ?_
                  refine lv_goto (tgt := 180) hx hb dX5_lookUp_176 (by decide) ?_
                  refine lv_istore (lv' := [(16, .int 48), (15, .int 40), (14, .int r_681), (13, .int 2), (12, .int r_610), (11, .int x_609), (10, .int x_608), (9, .int 1), (8, .int 2), (7, .int x_3), (6, .int x_1), (0, .ref o_t), (1, .int p1), (2, .int p2), (3, .int p3), (4, .int p4), (5, .int p5)]) hx hb dX5_lookUp_180 hl (by decide) rfl (fun ls hl => ?_)
                  refine lv_iload hx hb dX5_lookUp_182 (lv_at hl 1 rfl) ?_
                  refine lv_iload hx hb dX5_lookUp_184 (lv_at hl 6 rfl) ?_
                  refine lv_isub hx hb dX5_lookUp_186 ?_
                  refine lv_topi (fun x_685 ex_685 => ?_)
                  have tx_685 : x_685.toInt = 40 - x_608.toInt := i3_subc rfl rfl ex_685 (by omega)
                  refine lv_aload_n hx hb dX5_lookUp_187 rfl (lv_at hl 11 rfl) ?_
                  refine lv_iload hx hb dX5_lookUp_188 (lv_at hl 4 rfl) ?_
                  refine lv_iload hx hb dX5_lookUp_190 (lv_at hl 7 rfl) ?_
                  refine lv_iload hx hb dX5_lookUp_192 (lv_at hl 5 rfl) ?_
                  refine lv_iload hx hb dX5_lookUp_194 (lv_at hl 0 rfl) ?_
                  refine call_i (va_runV (As := [.int r_610, .int 1, .int x_609, .int 48]) (rest := [.int x_685]) ⟨hx, hb, hml, hown, hts⟩ (q_weighRow1 l E o_t a_t_numbers a_t_lefts a_t_falls f_t_lateCorner f_t_earlyCorner r_610 1 x_609 48 g_t_numbers r_f_t_lateCorner r_f_t_earlyCorner i_g_t_numbers (RG.mk (by omega)) (RG.mk (by decide)) H.size) (cwV 4 hts g_q_lookUp_q_weighRow1_54 rfl rfl rfl (by decide +kernel) ⟨Nat.le_of_ble_eq_true rfl, Nat.le_of_ble_eq_true rfl⟩) (pre_V hK hN hZ hS (va_free hD hS hA [1, 0] rfl) (hP.sub (ws' := [(o_t, .inr (5, [.ref a_t_numbers, .ref a_t_lefts, .ref a_t_falls, .int f_t_lateCorner, .int f_t_earlyCorner])), (a_t_numbers, aI E 192 g_t_numbers)]) [1, 0] rfl) (hD.sub (ws' := [(o_t, .inr (5, [.ref a_t_numbers, .ref a_t_lefts, .ref a_t_falls, .int f_t_lateCorner, .int f_t_earlyCorner])), (a_t_numbers, aI E 192 g_t_numbers)]) [1, 0] (by decide) rfl) (ci := 5) (q0 := 0) rfl rfl) rfl rfl hl.1 rfl (lv_room (Nat.le_of_ble_eq_true rfl)) dX5_lookUp_196 ⟨Nat.le_of_ble_eq_true rfl, Nat.le_of_ble_eq_true rfl⟩) hP hD hS hA [1, 0] [2] (wr := [(a_t_lefts, aI E 64 g_t_lefts)]) rfl rfl (by decide) (by decide) (fun r_686 w H locs hw hP hD hS => ?_)
                  obtain ⟨b_r_686, rfl⟩ := hw
                  replace hP : va_P E.1 vwCl [(a_t_lefts, aI E 64 g_t_lefts), (o_t, .inr (5, [.ref a_t_numbers, .ref a_t_lefts, .ref a_t_falls, .int f_t_lateCorner, .int f_t_earlyCorner])), (a_t_numbers, aI E 192 g_t_numbers)] H := hP
                  replace hD : va_D A [(a_t_lefts, aI E 64 g_t_lefts), (o_t, .inr (5, [.ref a_t_numbers, .ref a_t_lefts, .ref a_t_falls, .int f_t_lateCorner, .int f_t_earlyCorner])), (a_t_numbers, aI E 192 g_t_numbers)] := hD
                  refine lv_imul hx hb dX5_lookUp_199 ?_
                  refine lv_topi (fun x_687 ex_687 => ?_)
                  have bd_688 := i3_bd r_686
                  refine lv_istore (lv' := [(17, .int x_687), (16, .int 48), (15, .int 40), (14, .int r_681), (13, .int 2), (12, .int r_610), (11, .int x_609), (10, .int x_608), (9, .int 1), (8, .int 2), (7, .int x_3), (6, .int x_1), (0, .ref o_t), (1, .int p1), (2, .int p2), (3, .int p3), (4, .int p4), (5, .int p5)]) hx hb dX5_lookUp_200 hl (by decide) rfl (fun ls hl => ?_)
                  refine lv_iload hx hb dX5_lookUp_202 (lv_at hl 7 rfl) ?_
                  refine lv_if_le (tgt := 229) hx hb dX5_lookUp_204 (by decide) (fun c_689 => ?_) (fun c_689 => ?_)
                  · have e_689 : x_608.toInt ≤ 0 := i3_le c_689
                    exfalso; omega
                  · have e_689 : 0 < x_608.toInt := i3_nle c_689
                    refine lv_iload hx hb dX5_lookUp_207 (lv_at hl 0 rfl) ?_
                    refine lv_iload hx hb dX5_lookUp_209 (lv_at hl 7 rfl) ?_
                    refine lv_aload_n hx hb dX5_lookUp_211 rfl (lv_at hl 12 rfl) ?_
                    refine lv_iload hx hb dX5_lookUp_212 (lv_at hl 5 rfl) ?_
                    refine lv_iconst (v := 1) hx hb dX5_lookUp_214 (by decide) ?_
                    refine lv_iadd hx hb dX5_lookUp_215 ?_
                    refine lv_topi (fun x_690 ex_690 => ?_)
                    have hq_x_690 : x_680 = x_690 := ex_680.trans ex_690.symm
                    subst hq_x_690
                    refine lv_iload hx hb dX5_lookUp_216 (lv_at hl 8 rfl) ?_
                    refine lv_iload hx hb dX5_lookUp_218 (lv_at hl 6 rfl) ?_
                    refine lv_iload hx hb dX5_lookUp_220 (lv_at hl 1 rfl) ?_
                    refine call_i (va_runV (As := [.int x_680, .int 1, .int x_609, .int 48]) (rest := [.int x_608, .int x_687]) ⟨hx, hb, hml, hown, hts⟩ (q_weighRow1 l E o_t a_t_numbers a_t_lefts a_t_falls f_t_lateCorner f_t_earlyCorner x_680 1 x_609 48 g_t_numbers r_f_t_lateCorner r_f_t_earlyCorner i_g_t_numbers (RG.mk (by omega)) (RG.mk (by decide)) H.size) (cwV 4 hts g_q_lookUp_q_weighRow1_54 rfl rfl rfl (by decide +kernel) ⟨Nat.le_of_ble_eq_true rfl, Nat.le_of_ble_eq_true rfl⟩) (pre_V hK hN hZ hS (va_free hD hS hA [1, 2] rfl) (hP.sub (ws' := [(o_t, .inr (5, [.ref a_t_numbers, .ref a_t_lefts, .ref a_t_falls, .int f_t_lateCorner, .int f_t_earlyCorner])), (a_t_numbers, aI E 192 g_t_numbers)]) [1, 2] rfl) (hD.sub (ws' := [(o_t, .inr (5, [.ref a_t_numbers, .ref a_t_lefts, .ref a_t_falls, .int f_t_lateCorner, .int f_t_earlyCorner])), (a_t_numbers, aI E 192 g_t_numbers)]) [1, 2] (by decide) rfl) (ci := 5) (q0 := 0) rfl rfl) rfl rfl hl.1 rfl (lv_room (Nat.le_of_ble_eq_true rfl)) dX5_lookUp_222 ⟨Nat.le_of_ble_eq_true rfl, Nat.le_of_ble_eq_true rfl⟩) hP hD hS hA [1, 2] [0] (wr := [(a_t_lefts, aI E 64 g_t_lefts)]) rfl rfl (by decide) (by decide) (fun r_691 w H locs hw hP hD hS => ?_)
                    obtain ⟨b_r_691, rfl⟩ := hw
                    replace hP : va_P E.1 vwCl [(a_t_lefts, aI E 64 g_t_lefts), (o_t, .inr (5, [.ref a_t_numbers, .ref a_t_lefts, .ref a_t_falls, .int f_t_lateCorner, .int f_t_earlyCorner])), (a_t_numbers, aI E 192 g_t_numbers)] H := hP
                    replace hD : va_D A [(a_t_lefts, aI E 64 g_t_lefts), (o_t, .inr (5, [.ref a_t_numbers, .ref a_t_lefts, .ref a_t_falls, .int f_t_lateCorner, .int f_t_earlyCorner])), (a_t_numbers, aI E 192 g_t_numbers)] := hD
                    refine lv_imul hx hb dX5_lookUp_225 ?_
                    refine lv_topi (fun x_692 ex_692 => ?_)
                    have bd_693 := i3_bd r_691
                    refine lv_iadd hx hb dX5_lookUp_226 ?_
                    refine lv_topi (fun x_694 ex_694 => ?_)
                    have bd_695 := i3_bd x_687
                    have bd_696 := i3_bd x_692
                    refine lv_istore (lv' := [(17, .int x_694), (16, .int 48), (15, .int 40), (14, .int r_681), (13, .int 2), (12, .int r_610), (11, .int x_609), (10, .int x_608), (9, .int 1), (8, .int 2), (7, .int x_3), (6, .int x_1), (0, .ref o_t), (1, .int p1), (2, .int p2), (3, .int p3), (4, .int p4), (5, .int p5)]) hx hb dX5_lookUp_227 hl (by decide) rfl (fun ls hl => ?_)
                    refine lv_iload hx hb dX5_lookUp_229 (lv_at hl 2 rfl) ?_
                    refine lv_iload hx hb dX5_lookUp_231 (lv_at hl 1 rfl) ?_
                    refine lv_imul hx hb dX5_lookUp_233 ?_
                    refine lv_cst (y := 1920) (by decide) ?_
                    refine lv_istore (lv' := [(18, .int 1920), (17, .int x_694), (16, .int 48), (15, .int 40), (14, .int r_681), (13, .int 2), (12, .int r_610), (11, .int x_609), (10, .int x_608), (9, .int 1), (8, .int 2), (7, .int x_3), (6, .int x_1), (0, .ref o_t), (1, .int p1), (2, .int p2), (3, .int p3), (4, .int p4), (5, .int p5)]) hx hb dX5_lookUp_234 hl (by decide) rfl (fun ls hl => ?_)
                    refine lv_iload hx hb dX5_lookUp_236 (lv_at hl 18 rfl) ?_
                    have b_p5 := r_p5.out
                    refine lv_if_eq (tgt := 254) hx hb dX5_lookUp_238 (by decide) (fun c_697 => ?_) (fun c_697 => ?_)
                    · have e_697 : p5.toInt = 0 := i3_eq c_697
                      refine lv_iload hx hb dX5_lookUp_254 (lv_at hl 1 rfl) ?_
                      refine lv_iload hx hb dX5_lookUp_256 (lv_at hl 0 rfl) ?_
                      refine lv_idiv hx hb dX5_lookUp_258 (by decide) ?_
                      refine lv_topi (fun x_698 ex_698 => ?_)
                      have bd_699 := i3_bd x_694
                      exact ret_i hx hb hr hlk (hP.sub (ws' := [(o_t, .inr (5, [.ref a_t_numbers, .ref a_t_lefts, .ref a_t_falls, .int f_t_lateCorner, .int f_t_earlyCorner])), (a_t_lefts, aI E 64 g_t_lefts), (a_t_numbers, aI E 192 g_t_numbers)]) [1, 0, 2] rfl) (hD.sub (ws' := [(o_t, .inr (5, [.ref a_t_numbers, .ref a_t_lefts, .ref a_t_falls, .int f_t_lateCorner, .int f_t_earlyCorner])), (a_t_lefts, aI E 64 g_t_lefts), (a_t_numbers, aI E 192 g_t_numbers)]) [1, 0, 2] (by decide) rfl) hS rfl dX5_lookUp_259 (Nat.le_of_ble_eq_true rfl) (Nat.le_of_ble_eq_true rfl) ⟨trivial, rfl⟩
                    · have e_697 : p5.toInt ≠ 0 := i3_ne c_697
                      refine lv_iload hx hb dX5_lookUp_241 (lv_at hl 1 rfl) ?_
                      refine lv_iload hx hb dX5_lookUp_243 (lv_at hl 0 rfl) ?_
                      refine lv_iadd hx hb dX5_lookUp_245 ?_
                      refine lv_topi (fun x_700 ex_700 => ?_)
                      have bd_701 := i3_bd x_694
                      refine lv_iconst (v := 1) hx hb dX5_lookUp_246 (by decide) ?_
                      refine lv_isub hx hb dX5_lookUp_247 ?_
                      refine lv_topi (fun x_702 ex_702 => ?_)
                      have bd_703 := i3_bd x_700
                      refine lv_iload hx hb dX5_lookUp_248 (lv_at hl 0 rfl) ?_
                      refine lv_idiv hx hb dX5_lookUp_250 (by decide) ?_
                      refine lv_topi (fun x_704 ex_704 => ?_)
                      have bd_705 := i3_bd x_702
                      refine lv_goto (tgt := 259) hx hb dX5_lookUp_251 (by decide) ?_
                      exact ret_i hx hb hr hlk (hP.sub (ws' := [(o_t, .inr (5, [.ref a_t_numbers, .ref a_t_lefts, .ref a_t_falls, .int f_t_lateCorner, .int f_t_earlyCorner])), (a_t_lefts, aI E 64 g_t_lefts), (a_t_numbers, aI E 192 g_t_numbers)]) [1, 0, 2] rfl) (hD.sub (ws' := [(o_t, .inr (5, [.ref a_t_numbers, .ref a_t_lefts, .ref a_t_falls, .int f_t_lateCorner, .int f_t_earlyCorner])), (a_t_lefts, aI E 64 g_t_lefts), (a_t_numbers, aI E 192 g_t_numbers)]) [1, 0, 2] (by decide) rfl) hS rfl dX5_lookUp_259 (Nat.le_of_ble_eq_true rfl) (Nat.le_of_ble_eq_true rfl) ⟨trivial, rfl⟩
            · have e_682 : r_681.toInt ≠ 0 := i3_ne c_682
              refine lv_iload hx hb dX5_lookUp_127 (lv_at hl 0 rfl) ?_
              exact ret_i hx hb hr hlk (hP.sub (ws' := [(o_t, .inr (5, [.ref a_t_numbers, .ref a_t_lefts, .ref a_t_falls, .int f_t_lateCorner, .int f_t_earlyCorner])), (a_t_lefts, aI E 64 g_t_lefts), (a_t_numbers, aI E 192 g_t_numbers)]) [1, 2, 0] rfl) (hD.sub (ws' := [(o_t, .inr (5, [.ref a_t_numbers, .ref a_t_lefts, .ref a_t_falls, .int f_t_lateCorner, .int f_t_earlyCorner])), (a_t_lefts, aI E 64 g_t_lefts), (a_t_numbers, aI E 192 g_t_numbers)]) [1, 2, 0] (by decide) rfl) hS rfl dX5_lookUp_129 (Nat.le_of_ble_eq_true rfl) (Nat.le_of_ble_eq_true rfl) ⟨trivial, rfl⟩
    · have hs_h_509 := i3_cs (c := 2) h_509 (by decide)
      subst hs_h_509
      have hk_h_509 : (2 : Int32).toInt = 2 := rfl
      refine lv_iload hx hb dX5_lookUp_43 (lv_at hl 3 rfl) ?_
      refine va_gets (C := "TimingHouse$Tables") (n := "LOAD_MARKS") (d := "[I") (own := RX5) (ref := "TimingHouse$Tables") hx hb hZ.1.1 hS hown (hto (.fieldLink RX5 31 "TimingHouse$Tables" "LOAD_MARKS" "[I") (by decide +kernel)) (fun _ h9 => h9) dX5_lookUp_45 ?_
      refine lv_iload hx hb dX5_lookUp_48 (lv_at hl 1 rfl) ?_
      refine va_ti (v := .int 24) hx hb hZ.1.2 hS (i3_in (by decide)) rfl dX5_lookUp_50 ?_
      refine lv_isub hx hb dX5_lookUp_51 ?_
      refine lv_topi (fun x_706 ex_706 => ?_)
      have tx_706 : x_706.toInt = x_1.toInt - 24 := i3_subc rfl rfl ex_706 (by omega)
      refine lv_istore (lv' := [(10, .int x_706), (9, .int 2), (8, .int 2), (7, .int x_3), (6, .int x_1), (0, .ref o_t), (1, .int p1), (2, .int p2), (3, .int p3), (4, .int p4), (5, .int p5)]) hx hb dX5_lookUp_52 hl (by decide) rfl (fun ls hl => ?_)
      refine lv_iload hx hb dX5_lookUp_54 (lv_at hl 3 rfl) ?_
      refine va_gets (C := "TimingHouse$Tables") (n := "SLOPE_MARKS") (d := "[I") (own := RX5) (ref := "TimingHouse$Tables") hx hb hZ.2.1.1 hS hown (hto (.fieldLink RX5 40 "TimingHouse$Tables" "SLOPE_MARKS" "[I") (by decide +kernel)) (fun _ h9 => h9) dX5_lookUp_56 ?_
      refine lv_iload hx hb dX5_lookUp_59 (lv_at hl 1 rfl) ?_
      refine va_ti (v := .int 64) hx hb hZ.2.1.2 hS (i3_in (by decide)) rfl dX5_lookUp_61 ?_
      refine lv_isub hx hb dX5_lookUp_62 ?_
      refine lv_topi (fun x_707 ex_707 => ?_)
      have tx_707 : x_707.toInt = x_3.toInt - 64 := i3_subc rfl rfl ex_707 (by omega)
      refine lv_istore (lv' := [(11, .int x_707), (10, .int x_706), (9, .int 2), (8, .int 2), (7, .int x_3), (6, .int x_1), (0, .ref o_t), (1, .int p1), (2, .int p2), (3, .int p3), (4, .int p4), (5, .int p5)]) hx hb dX5_lookUp_63 hl (by decide) rfl (fun ls hl => ?_)
      refine lv_iload_n hx hb dX5_lookUp_65 rfl (lv_at hl 7 rfl) ?_
      refine lv_iload_n hx hb dX5_lookUp_66 rfl (lv_at hl 8 rfl) ?_
      refine lv_iload hx hb dX5_lookUp_67 (lv_at hl 3 rfl) ?_
      have b_p1 := r_p1.out
      have b_p2 := r_p2.out
      refine call_i (va_runS (As := [.int p1, .int p2, .int 2]) (rest := []) ⟨hx, hb, hml, hown, hts⟩ (q_rowPlace l E p1 p2 2 r_p1 r_p2 (RG.mk (by decide)) H.size) (va_cwS 3 hts g_q_lookUp_q_rowPlace_47 rfl rfl rfl (by decide +kernel) ⟨Nat.le_of_ble_eq_true rfl, Nat.le_of_ble_eq_true rfl⟩) (pre_S hK hN hZ hS (va_free hD hS hA [] rfl) (hP.sub (ws' := []) [] rfl) (hD.sub (ws' := []) [] (by decide) rfl)) rfl rfl hl.1 rfl (lv_room (Nat.le_of_ble_eq_true rfl)) dX5_lookUp_69 ⟨Nat.le_of_ble_eq_true rfl, Nat.le_of_ble_eq_true rfl⟩) hP hD hS hA [] [0, 1, 2] (wr := [(o_t, .inr (5, [.ref a_t_numbers, .ref a_t_lefts, .ref a_t_falls, .int f_t_lateCorner, .int f_t_earlyCorner])), (a_t_lefts, aI E 64 g_t_lefts), (a_t_numbers, aI E 192 g_t_numbers)]) rfl rfl (by decide) (by decide) (fun r_708 w H locs hw hP hD hS => ?_)
      obtain ⟨b_r_708, l_r_708, rfl⟩ := hw
      replace l_r_708 : r_708.toInt = (p1.toInt * 2 + p2.toInt) * 4 + 2 := l_r_708
      replace hP : va_P E.1 vwCl [(o_t, .inr (5, [.ref a_t_numbers, .ref a_t_lefts, .ref a_t_falls, .int f_t_lateCorner, .int f_t_earlyCorner])), (a_t_lefts, aI E 64 g_t_lefts), (a_t_numbers, aI E 192 g_t_numbers)] H := hP
      replace hD : va_D A [(o_t, .inr (5, [.ref a_t_numbers, .ref a_t_lefts, .ref a_t_falls, .int f_t_lateCorner, .int f_t_earlyCorner])), (a_t_lefts, aI E 64 g_t_lefts), (a_t_numbers, aI E 192 g_t_numbers)] := hD
      refine lv_istore (lv' := [(12, .int r_708), (11, .int x_707), (10, .int x_706), (9, .int 2), (8, .int 2), (7, .int x_3), (6, .int x_1), (0, .ref o_t), (1, .int p1), (2, .int p2), (3, .int p3), (4, .int p4), (5, .int p5)]) hx hb dX5_lookUp_72 hl (by decide) rfl (fun ls hl => ?_)
      refine lv_iload hx hb dX5_lookUp_74 (lv_at hl 1 rfl) ?_
      refine lv_if_le (tgt := 86) hx hb dX5_lookUp_76 (by decide) (fun c_709 => ?_) (fun c_709 => ?_)
      · have e_709 : x_707.toInt ≤ 0 := i3_le c_709
        refine lv_iload hx hb dX5_lookUp_86 (lv_at hl 3 rfl) ?_
        refine lv_istore (lv' := [(13, .int 2), (12, .int r_708), (11, .int x_707), (10, .int x_706), (9, .int 2), (8, .int 2), (7, .int x_3), (6, .int x_1), (0, .ref o_t), (1, .int p1), (2, .int p2), (3, .int p3), (4, .int p4), (5, .int p5)]) hx hb dX5_lookUp_88 hl (by decide) rfl (fun ls hl => ?_)
        refine lv_aload_n hx hb dX5_lookUp_90 rfl (lv_at hl 8 rfl) ?_
        refine lv_iload hx hb dX5_lookUp_91 (lv_at hl 1 rfl) ?_
        refine lv_iload hx hb dX5_lookUp_93 (lv_at hl 0 rfl) ?_
        refine call_i (va_runV (As := [.int r_708, .int 2]) (rest := []) ⟨hx, hb, hml, hown, hts⟩ (q_whyAbsent l E o_t a_t_numbers a_t_lefts a_t_falls f_t_lateCorner f_t_earlyCorner r_708 2 g_t_lefts r_f_t_lateCorner r_f_t_earlyCorner i_g_t_lefts (RG.mk (by omega)) H.size) (cwV 2 hts g_q_lookUp_q_whyAbsent_51 rfl rfl rfl (by decide +kernel) ⟨Nat.le_of_ble_eq_true rfl, Nat.le_of_ble_eq_true rfl⟩) (pre_V hK hN hZ hS (va_free hD hS hA [0, 1] rfl) (hP.sub (ws' := [(o_t, .inr (5, [.ref a_t_numbers, .ref a_t_lefts, .ref a_t_falls, .int f_t_lateCorner, .int f_t_earlyCorner])), (a_t_lefts, aI E 64 g_t_lefts)]) [0, 1] rfl) (hD.sub (ws' := [(o_t, .inr (5, [.ref a_t_numbers, .ref a_t_lefts, .ref a_t_falls, .int f_t_lateCorner, .int f_t_earlyCorner])), (a_t_lefts, aI E 64 g_t_lefts)]) [0, 1] (by decide) rfl) (ci := 5) (q0 := 0) rfl rfl) rfl rfl hl.1 rfl (lv_room (Nat.le_of_ble_eq_true rfl)) dX5_lookUp_95 ⟨Nat.le_of_ble_eq_true rfl, Nat.le_of_ble_eq_true rfl⟩) hP hD hS hA [0, 1] [2] (wr := [(a_t_numbers, aI E 192 g_t_numbers)]) rfl rfl (by decide) (by decide) (fun r_710 w H locs hw hP hD hS => ?_)
        obtain ⟨b_r_710, rfl⟩ := hw
        replace hP : va_P E.1 vwCl [(a_t_numbers, aI E 192 g_t_numbers), (o_t, .inr (5, [.ref a_t_numbers, .ref a_t_lefts, .ref a_t_falls, .int f_t_lateCorner, .int f_t_earlyCorner])), (a_t_lefts, aI E 64 g_t_lefts)] H := hP
        replace hD : va_D A [(a_t_numbers, aI E 192 g_t_numbers), (o_t, .inr (5, [.ref a_t_numbers, .ref a_t_lefts, .ref a_t_falls, .int f_t_lateCorner, .int f_t_earlyCorner])), (a_t_lefts, aI E 64 g_t_lefts)] := hD
        refine lv_istore (lv' := [(14, .int r_710), (13, .int 2), (12, .int r_708), (11, .int x_707), (10, .int x_706), (9, .int 2), (8, .int 2), (7, .int x_3), (6, .int x_1), (0, .ref o_t), (1, .int p1), (2, .int p2), (3, .int p3), (4, .int p4), (5, .int p5)]) hx hb dX5_lookUp_98 hl (by decide) rfl (fun ls hl => ?_)
        refine lv_iload hx hb dX5_lookUp_100 (lv_at hl 0 rfl) ?_
        refine lv_if_ne (tgt := 122) hx hb dX5_lookUp_102 (by decide) (fun c_711 => ?_) (fun c_711 => ?_)
        · have e_711 : r_710.toInt ≠ 0 := i3_ne c_711
          refine lv_iload hx hb dX5_lookUp_122 (lv_at hl 0 rfl) ?_
          refine lv_if_eq (tgt := 130) hx hb dX5_lookUp_124 (by decide) (fun c_712 => ?_) (fun c_712 => ?_)
          · have e_712 : r_710.toInt = 0 := i3_eq c_712
            exfalso; omega
          · have e_712 : r_710.toInt ≠ 0 := i3_ne c_712
            refine lv_iload hx hb dX5_lookUp_127 (lv_at hl 0 rfl) ?_
            exact ret_i hx hb hr hlk (hP.sub (ws' := [(o_t, .inr (5, [.ref a_t_numbers, .ref a_t_lefts, .ref a_t_falls, .int f_t_lateCorner, .int f_t_earlyCorner])), (a_t_lefts, aI E 64 g_t_lefts), (a_t_numbers, aI E 192 g_t_numbers)]) [1, 2, 0] rfl) (hD.sub (ws' := [(o_t, .inr (5, [.ref a_t_numbers, .ref a_t_lefts, .ref a_t_falls, .int f_t_lateCorner, .int f_t_earlyCorner])), (a_t_lefts, aI E 64 g_t_lefts), (a_t_numbers, aI E 192 g_t_numbers)]) [1, 2, 0] (by decide) rfl) hS rfl dX5_lookUp_129 (Nat.le_of_ble_eq_true rfl) (Nat.le_of_ble_eq_true rfl) ⟨trivial, rfl⟩
        · have e_711 : r_710.toInt = 0 := i3_eq c_711
          refine lv_iload hx hb dX5_lookUp_105 (lv_at hl 4 rfl) ?_
          refine lv_if_le (tgt := 122) hx hb dX5_lookUp_107 (by decide) (fun c_713 => ?_) (fun c_713 => ?_)
          · have e_713 : x_706.toInt ≤ 0 := i3_le c_713
            refine lv_iload hx hb dX5_lookUp_122 (lv_at hl 0 rfl) ?_
            refine lv_if_eq (tgt := 130) hx hb dX5_lookUp_124 (by decide) (fun c_714 => ?_) (fun c_714 => ?_)
            · have e_714 : r_710.toInt = 0 := i3_eq c_714
              refine lv_iload hx hb dX5_lookUp_130 (lv_at hl 4 rfl) ?_
              refine lv_if_le (tgt := 153) hx hb dX5_lookUp_132 (by decide) (fun c_715 => ?_) (fun c_715 => ?_)
              · have e_715 : x_706.toInt ≤ 0 := i3_le c_715
                refine lv_iconst (v := 1) hx hb dX5_lookUp_153 (by decide) ?_
                refine lv_istore (lv' := [(15, .int 1), (14, .int r_710), (13, .int 2), (12, .int r_708), (11, .int x_707), (10, .int x_706), (9, .int 2), (8, .int 2), (7, .int x_3), (6, .int x_1), (0, .ref o_t), (1, .int p1), (2, .int p2), (3, .int p3), (4, .int p4), (5, .int p5)]) hx hb dX5_lookUp_154 hl (by decide) rfl (fun ls hl => ?_)
                refine lv_iload hx hb dX5_lookUp_156 (lv_at hl 4 rfl) ?_
                refine lv_if_le (tgt := 179) hx hb dX5_lookUp_158 (by decide) (fun c_716 => ?_) (fun c_716 => ?_)
                · have e_716 : x_707.toInt ≤ 0 := i3_le c_716
                  refine lv_iconst (v := 1) hx hb dX5_lookUp_179 (by decide) ?_
                  refine lv_istore (lv' := [(16, .int 1), (15, .int 1), (14, .int r_710), (13, .int 2), (12, .int r_708), (11, .int x_707), (10, .int x_706), (9, .int 2), (8, .int 2), (7, .int x_3), (6, .int x_1), (0, .ref o_t), (1, .int p1), (2, .int p2), (3, .int p3), (4, .int p4), (5, .int p5)]) hx hb dX5_lookUp_180 hl (by decide) rfl (fun ls hl => ?_)
                  refine lv_iload hx hb dX5_lookUp_182 (lv_at hl 1 rfl) ?_
                  refine lv_iload hx hb dX5_lookUp_184 (lv_at hl 6 rfl) ?_
                  refine lv_isub hx hb dX5_lookUp_186 ?_
                  refine lv_topi (fun x_717 ex_717 => ?_)
                  have tx_717 : x_717.toInt = 1 - x_706.toInt := i3_subc rfl rfl ex_717 (by omega)
                  refine lv_aload_n hx hb dX5_lookUp_187 rfl (lv_at hl 11 rfl) ?_
                  refine lv_iload hx hb dX5_lookUp_188 (lv_at hl 4 rfl) ?_
                  refine lv_iload hx hb dX5_lookUp_190 (lv_at hl 7 rfl) ?_
                  refine lv_iload hx hb dX5_lookUp_192 (lv_at hl 5 rfl) ?_
                  refine lv_iload hx hb dX5_lookUp_194 (lv_at hl 0 rfl) ?_
                  refine call_i (va_runV (As := [.int r_708, .int 2, .int x_707, .int 1]) (rest := [.int x_717]) ⟨hx, hb, hml, hown, hts⟩ (q_weighRow2 l E o_t a_t_numbers a_t_lefts a_t_falls f_t_lateCorner f_t_earlyCorner r_708 2 x_707 1 g_t_numbers r_f_t_lateCorner r_f_t_earlyCorner i_g_t_numbers (RG.mk (by omega)) (RG.mk (by decide)) (RG.mk (by omega)) H.size) (cwV 4 hts g_q_lookUp_q_weighRow2_54 rfl rfl rfl (by decide +kernel) ⟨Nat.le_of_ble_eq_true rfl, Nat.le_of_ble_eq_true rfl⟩) (pre_V hK hN hZ hS (va_free hD hS hA [1, 0] rfl) (hP.sub (ws' := [(o_t, .inr (5, [.ref a_t_numbers, .ref a_t_lefts, .ref a_t_falls, .int f_t_lateCorner, .int f_t_earlyCorner])), (a_t_numbers, aI E 192 g_t_numbers)]) [1, 0] rfl) (hD.sub (ws' := [(o_t, .inr (5, [.ref a_t_numbers, .ref a_t_lefts, .ref a_t_falls, .int f_t_lateCorner, .int f_t_earlyCorner])), (a_t_numbers, aI E 192 g_t_numbers)]) [1, 0] (by decide) rfl) (ci := 5) (q0 := 0) rfl rfl) rfl rfl hl.1 rfl (lv_room (Nat.le_of_ble_eq_true rfl)) dX5_lookUp_196 ⟨Nat.le_of_ble_eq_true rfl, Nat.le_of_ble_eq_true rfl⟩) hP hD hS hA [1, 0] [2] (wr := [(a_t_lefts, aI E 64 g_t_lefts)]) rfl rfl (by decide) (by decide) (fun r_718 w H locs hw hP hD hS => ?_)
                  obtain ⟨b_r_718, rfl⟩ := hw
                  replace hP : va_P E.1 vwCl [(a_t_lefts, aI E 64 g_t_lefts), (o_t, .inr (5, [.ref a_t_numbers, .ref a_t_lefts, .ref a_t_falls, .int f_t_lateCorner, .int f_t_earlyCorner])), (a_t_numbers, aI E 192 g_t_numbers)] H := hP
                  replace hD : va_D A [(a_t_lefts, aI E 64 g_t_lefts), (o_t, .inr (5, [.ref a_t_numbers, .ref a_t_lefts, .ref a_t_falls, .int f_t_lateCorner, .int f_t_earlyCorner])), (a_t_numbers, aI E 192 g_t_numbers)] := hD
                  refine lv_imul hx hb dX5_lookUp_199 ?_
                  refine lv_topi (fun x_719 ex_719 => ?_)
                  have bd_720 := i3_bd r_718
                  refine lv_istore (lv' := [(17, .int x_719), (16, .int 1), (15, .int 1), (14, .int r_710), (13, .int 2), (12, .int r_708), (11, .int x_707), (10, .int x_706), (9, .int 2), (8, .int 2), (7, .int x_3), (6, .int x_1), (0, .ref o_t), (1, .int p1), (2, .int p2), (3, .int p3), (4, .int p4), (5, .int p5)]) hx hb dX5_lookUp_200 hl (by decide) rfl (fun ls hl => ?_)
                  refine lv_iload hx hb dX5_lookUp_202 (lv_at hl 7 rfl) ?_
                  refine lv_if_le (tgt := 229) hx hb dX5_lookUp_204 (by decide) (fun c_721 => ?_) (fun c_721 => ?_)
                  · have e_721 : x_706.toInt ≤ 0 := i3_le c_721
                    refine lv_iload hx hb dX5_lookUp_229 (lv_at hl 2 rfl) ?_
                    refine lv_iload hx hb dX5_lookUp_231 (lv_at hl 1 rfl) ?_
                    refine lv_imul hx hb dX5_lookUp_233 ?_
                    refine lv_cst (y := 1) (by decide) ?_
                    refine lv_istore (lv' := [(18, .int 1), (17, .int x_719), (16, .int 1), (15, .int 1), (14, .int r_710), (13, .int 2), (12, .int r_708), (11, .int x_707), (10, .int x_706), (9, .int 2), (8, .int 2), (7, .int x_3), (6, .int x_1), (0, .ref o_t), (1, .int p1), (2, .int p2), (3, .int p3), (4, .int p4), (5, .int p5)]) hx hb dX5_lookUp_234 hl (by decide) rfl (fun ls hl => ?_)
                    refine lv_iload hx hb dX5_lookUp_236 (lv_at hl 18 rfl) ?_
                    have b_p5 := r_p5.out
                    refine lv_if_eq (tgt := 254) hx hb dX5_lookUp_238 (by decide) (fun c_722 => ?_) (fun c_722 => ?_)
                    · have e_722 : p5.toInt = 0 := i3_eq c_722
                      refine lv_iload hx hb dX5_lookUp_254 (lv_at hl 1 rfl) ?_
                      refine lv_iload hx hb dX5_lookUp_256 (lv_at hl 0 rfl) ?_
                      refine lv_idiv hx hb dX5_lookUp_258 (by decide) ?_
                      refine lv_topi (fun x_723 ex_723 => ?_)
                      have bd_724 := i3_bd x_719
                      exact ret_i hx hb hr hlk (hP.sub (ws' := [(o_t, .inr (5, [.ref a_t_numbers, .ref a_t_lefts, .ref a_t_falls, .int f_t_lateCorner, .int f_t_earlyCorner])), (a_t_lefts, aI E 64 g_t_lefts), (a_t_numbers, aI E 192 g_t_numbers)]) [1, 0, 2] rfl) (hD.sub (ws' := [(o_t, .inr (5, [.ref a_t_numbers, .ref a_t_lefts, .ref a_t_falls, .int f_t_lateCorner, .int f_t_earlyCorner])), (a_t_lefts, aI E 64 g_t_lefts), (a_t_numbers, aI E 192 g_t_numbers)]) [1, 0, 2] (by decide) rfl) hS rfl dX5_lookUp_259 (Nat.le_of_ble_eq_true rfl) (Nat.le_of_ble_eq_true rfl) ⟨trivial, rfl⟩
                    · have e_722 : p5.toInt ≠ 0 := i3_ne c_722
                      refine lv_iload hx hb dX5_lookUp_241 (lv_at hl 1 rfl) ?_
                      refine lv_iload hx hb dX5_lookUp_243 (lv_at hl 0 rfl) ?_
                      refine lv_iadd hx hb dX5_lookUp_245 ?_
                      refine lv_topi (fun x_725 ex_725 => ?_)
                      have bd_726 := i3_bd x_719
                      refine lv_iconst (v := 1) hx hb dX5_lookUp_246 (by decide) ?_
                      refine lv_isub hx hb dX5_lookUp_247 ?_
                      refine lv_topi (fun x_727 ex_727 => ?_)
                      have bd_728 := i3_bd x_725
                      refine lv_iload hx hb dX5_lookUp_248 (lv_at hl 0 rfl) ?_
                      refine lv_idiv hx hb dX5_lookUp_250 (by decide) ?_
                      refine lv_topi (fun x_729 ex_729 => ?_)
                      have bd_730 := i3_bd x_727
                      refine lv_goto (tgt := 259) hx hb dX5_lookUp_251 (by decide) ?_
                      exact ret_i hx hb hr hlk (hP.sub (ws' := [(o_t, .inr (5, [.ref a_t_numbers, .ref a_t_lefts, .ref a_t_falls, .int f_t_lateCorner, .int f_t_earlyCorner])), (a_t_lefts, aI E 64 g_t_lefts), (a_t_numbers, aI E 192 g_t_numbers)]) [1, 0, 2] rfl) (hD.sub (ws' := [(o_t, .inr (5, [.ref a_t_numbers, .ref a_t_lefts, .ref a_t_falls, .int f_t_lateCorner, .int f_t_earlyCorner])), (a_t_lefts, aI E 64 g_t_lefts), (a_t_numbers, aI E 192 g_t_numbers)]) [1, 0, 2] (by decide) rfl) hS rfl dX5_lookUp_259 (Nat.le_of_ble_eq_true rfl) (Nat.le_of_ble_eq_true rfl) ⟨trivial, rfl⟩
                  · have e_721 : 0 < x_706.toInt := i3_nle c_721
                    exfalso; omega
                · have e_716 : 0 < x_707.toInt := i3_nle c_716
                  exfalso; omega
              · have e_715 : 0 < x_706.toInt := i3_nle c_715
                exfalso; omega
            · have e_714 : r_710.toInt ≠ 0 := i3_ne c_714
              exfalso; omega
          · have e_713 : 0 < x_706.toInt := i3_nle c_713
            refine lv_aload_n hx hb dX5_lookUp_110 rfl (lv_at hl 9 rfl) ?_
            refine lv_iload hx hb dX5_lookUp_111 (lv_at hl 2 rfl) ?_
            refine lv_iconst (v := 1) hx hb dX5_lookUp_113 (by decide) ?_
            refine lv_iadd hx hb dX5_lookUp_114 ?_
            refine lv_topi (fun x_731 ex_731 => ?_)
            have tx_731 : x_731.toInt = r_708.toInt + 1 := i3_addc rfl rfl ex_731 (by omega)
            refine lv_iload hx hb dX5_lookUp_115 (lv_at hl 1 rfl) ?_
            refine call_i (va_runV (As := [.int x_731, .int 2]) (rest := []) ⟨hx, hb, hml, hown, hts⟩ (q_whyAbsent l E o_t a_t_numbers a_t_lefts a_t_falls f_t_lateCorner f_t_earlyCorner x_731 2 g_t_lefts r_f_t_lateCorner r_f_t_earlyCorner i_g_t_lefts (RG.mk (by omega)) H.size) (cwV 2 hts g_q_lookUp_q_whyAbsent_51 rfl rfl rfl (by decide +kernel) ⟨Nat.le_of_ble_eq_true rfl, Nat.le_of_ble_eq_true rfl⟩) (pre_V hK hN hZ hS (va_free hD hS hA [1, 2] rfl) (hP.sub (ws' := [(o_t, .inr (5, [.ref a_t_numbers, .ref a_t_lefts, .ref a_t_falls, .int f_t_lateCorner, .int f_t_earlyCorner])), (a_t_lefts, aI E 64 g_t_lefts)]) [1, 2] rfl) (hD.sub (ws' := [(o_t, .inr (5, [.ref a_t_numbers, .ref a_t_lefts, .ref a_t_falls, .int f_t_lateCorner, .int f_t_earlyCorner])), (a_t_lefts, aI E 64 g_t_lefts)]) [1, 2] (by decide) rfl) (ci := 5) (q0 := 0) rfl rfl) rfl rfl hl.1 rfl (lv_room (Nat.le_of_ble_eq_true rfl)) dX5_lookUp_117 ⟨Nat.le_of_ble_eq_true rfl, Nat.le_of_ble_eq_true rfl⟩) hP hD hS hA [1, 2] [0] (wr := [(a_t_numbers, aI E 192 g_t_numbers)]) rfl rfl (by decide) (by decide) (fun r_732 w H locs hw hP hD hS => ?_)
            obtain ⟨b_r_732, rfl⟩ := hw
            replace hP : va_P E.1 vwCl [(a_t_numbers, aI E 192 g_t_numbers), (o_t, .inr (5, [.ref a_t_numbers, .ref a_t_lefts, .ref a_t_falls, .int f_t_lateCorner, .int f_t_earlyCorner])), (a_t_lefts, aI E 64 g_t_lefts)] H := hP
            replace hD : va_D A [(a_t_numbers, aI E 192 g_t_numbers), (o_t, .inr (5, [.ref a_t_numbers, .ref a_t_lefts, .ref a_t_falls, .int f_t_lateCorner, .int f_t_earlyCorner])), (a_t_lefts, aI E 64 g_t_lefts)] := hD
            refine lv_istore (lv' := [(14, .int r_732), (13, .int 2), (12, .int r_708), (11, .int x_707), (10, .int x_706), (9, .int 2), (8, .int 2), (7, .int x_3), (6, .int x_1), (0, .ref o_t), (1, .int p1), (2, .int p2), (3, .int p3), (4, .int p4), (5, .int p5)]) hx hb dX5_lookUp_120 hl (by decide) rfl (fun ls hl => ?_)
            refine lv_iload hx hb dX5_lookUp_122 (lv_at hl 0 rfl) ?_
            refine lv_if_eq (tgt := 130) hx hb dX5_lookUp_124 (by decide) (fun c_733 => ?_) (fun c_733 => ?_)
            · have e_733 : r_732.toInt = 0 := i3_eq c_733
              refine lv_iload hx hb dX5_lookUp_130 (lv_at hl 4 rfl) ?_
              refine lv_if_le (tgt := 153) hx hb dX5_lookUp_132 (by decide) (fun c_734 => ?_) (fun c_734 => ?_)
              · have e_734 : x_706.toInt ≤ 0 := i3_le c_734
                exfalso; omega
              · have e_734 : 0 < x_706.toInt := i3_nle c_734
                refine va_gets (C := "TimingHouse$Tables") (n := "LOAD_MARKS") (d := "[I") (own := RX5) (ref := "TimingHouse$Tables") hx hb hZ.1.1 hS hown (hto (.fieldLink RX5 31 "TimingHouse$Tables" "LOAD_MARKS" "[I") (by decide +kernel)) (fun _ h9 => h9) dX5_lookUp_135 ?_
                refine lv_iload hx hb dX5_lookUp_138 (lv_at hl 6 rfl) ?_
                refine lv_iconst (v := 1) hx hb dX5_lookUp_140 (by decide) ?_
                refine lv_iadd hx hb dX5_lookUp_141 ?_
                refine lv_cst (y := 3) (by decide) ?_
                refine va_ti (v := .int 64) hx hb hZ.1.2 hS (i3_in (by decide)) rfl dX5_lookUp_142 ?_
                refine va_gets (C := "TimingHouse$Tables") (n := "LOAD_MARKS") (d := "[I") (own := RX5) (ref := "TimingHouse$Tables") hx hb hZ.1.1 hS hown (hto (.fieldLink RX5 31 "TimingHouse$Tables" "LOAD_MARKS" "[I") (by decide +kernel)) (fun _ h9 => h9) dX5_lookUp_143 ?_
                refine lv_iload hx hb dX5_lookUp_146 (lv_at hl 6 rfl) ?_
                refine va_ti (v := .int 24) hx hb hZ.1.2 hS (i3_in (by decide)) rfl dX5_lookUp_148 ?_
                refine lv_isub hx hb dX5_lookUp_149 ?_
                refine lv_cst (y := 40) (by decide) ?_
                refine lv_goto (tgt := 154) hx hb dX5_lookUp_150 (by decide) ?_
                refine lv_istore (lv' := [(15, .int 40), (14, .int r_732), (13, .int 2), (12, .int r_708), (11, .int x_707), (10, .int x_706), (9, .int 2), (8, .int 2), (7, .int x_3), (6, .int x_1), (0, .ref o_t), (1, .int p1), (2, .int p2), (3, .int p3), (4, .int p4), (5, .int p5)]) hx hb dX5_lookUp_154 hl (by decide) rfl (fun ls hl => ?_)
                refine lv_iload hx hb dX5_lookUp_156 (lv_at hl 4 rfl) ?_
                refine lv_if_le (tgt := 179) hx hb dX5_lookUp_158 (by decide) (fun c_735 => ?_) (fun c_735 => ?_)
                · have e_735 : x_707.toInt ≤ 0 := i3_le c_735
                  refine lv_iconst (v := 1) hx hb dX5_lookUp_179 (by decide) ?_
                  refine lv_istore (lv' := [(16, .int 1), (15, .int 40), (14, .int r_732), (13, .int 2), (12, .int r_708), (11, .int x_707), (10, .int x_706), (9, .int 2), (8, .int 2), (7, .int x_3), (6, .int x_1), (0, .ref o_t), (1, .int p1), (2, .int p2), (3, .int p3), (4, .int p4), (5, .int p5)]) hx hb dX5_lookUp_180 hl (by decide) rfl (fun ls hl => ?_)
                  refine lv_iload hx hb dX5_lookUp_182 (lv_at hl 1 rfl) ?_
                  refine lv_iload hx hb dX5_lookUp_184 (lv_at hl 6 rfl) ?_
                  refine lv_isub hx hb dX5_lookUp_186 ?_
                  refine lv_topi (fun x_736 ex_736 => ?_)
                  have tx_736 : x_736.toInt = 40 - x_706.toInt := i3_subc rfl rfl ex_736 (by omega)
                  refine lv_aload_n hx hb dX5_lookUp_187 rfl (lv_at hl 11 rfl) ?_
                  refine lv_iload hx hb dX5_lookUp_188 (lv_at hl 4 rfl) ?_
                  refine lv_iload hx hb dX5_lookUp_190 (lv_at hl 7 rfl) ?_
                  refine lv_iload hx hb dX5_lookUp_192 (lv_at hl 5 rfl) ?_
                  refine lv_iload hx hb dX5_lookUp_194 (lv_at hl 0 rfl) ?_
                  refine call_i (va_runV (As := [.int r_708, .int 2, .int x_707, .int 1]) (rest := [.int x_736]) ⟨hx, hb, hml, hown, hts⟩ (q_weighRow2 l E o_t a_t_numbers a_t_lefts a_t_falls f_t_lateCorner f_t_earlyCorner r_708 2 x_707 1 g_t_numbers r_f_t_lateCorner r_f_t_earlyCorner i_g_t_numbers (RG.mk (by omega)) (RG.mk (by decide)) (RG.mk (by omega)) H.size) (cwV 4 hts g_q_lookUp_q_weighRow2_54 rfl rfl rfl (by decide +kernel) ⟨Nat.le_of_ble_eq_true rfl, Nat.le_of_ble_eq_true rfl⟩) (pre_V hK hN hZ hS (va_free hD hS hA [1, 0] rfl) (hP.sub (ws' := [(o_t, .inr (5, [.ref a_t_numbers, .ref a_t_lefts, .ref a_t_falls, .int f_t_lateCorner, .int f_t_earlyCorner])), (a_t_numbers, aI E 192 g_t_numbers)]) [1, 0] rfl) (hD.sub (ws' := [(o_t, .inr (5, [.ref a_t_numbers, .ref a_t_lefts, .ref a_t_falls, .int f_t_lateCorner, .int f_t_earlyCorner])), (a_t_numbers, aI E 192 g_t_numbers)]) [1, 0] (by decide) rfl) (ci := 5) (q0 := 0) rfl rfl) rfl rfl hl.1 rfl (lv_room (Nat.le_of_ble_eq_true rfl)) dX5_lookUp_196 ⟨Nat.le_of_ble_eq_true rfl, Nat.le_of_ble_eq_true rfl⟩) hP hD hS hA [1, 0] [2] (wr := [(a_t_lefts, aI E 64 g_t_lefts)]) rfl rfl (by decide) (by decide) (fun r_737 w H locs hw hP hD hS => ?_)
                  obtain ⟨b_r_737, rfl⟩ := hw
                  replace hP : va_P E.1 vwCl [(a_t_lefts, aI E 64 g_t_lefts), (o_t, .inr (5, [.ref a_t_numbers, .ref a_t_lefts, .ref a_t_falls, .int f_t_lateCorner, .int f_t_earlyCorner])), (a_t_numbers, aI E 192 g_t_numbers)] H := hP
                  replace hD : va_D A [(a_t_lefts, aI E 64 g_t_lefts), (o_t, .inr (5, [.ref a_t_numbers, .ref a_t_lefts, .ref a_t_falls, .int f_t_lateCorner, .int f_t_earlyCorner])), (a_t_numbers, aI E 192 g_t_numbers)] := hD
                  refine lv_imul hx hb dX5_lookUp_199 ?_
                  refine lv_topi (fun x_738 ex_738 => ?_)
                  have bd_739 := i3_bd r_737
                  refine lv_istore (lv' := [(17, .int x_738), (16, .int 1), (15, .int 40), (14, .int r_732), (13, .int 2), (12, .int r_708), (11, .int x_707), (10, .int x_706), (9, .int 2), (8, .int 2), (7, .int x_3), (6, .int x_1), (0, .ref o_t), (1, .int p1), (2, .int p2), (3, .int p3), (4, .int p4), (5, .int p5)]) hx hb dX5_lookUp_200 hl (by decide) rfl (fun ls hl => ?_)
                  refine lv_iload hx hb dX5_lookUp_202 (lv_at hl 7 rfl) ?_
                  refine lv_if_le (tgt := 229) hx hb dX5_lookUp_204 (by decide) (fun c_740 => ?_) (fun c_740 => ?_)
                  · have e_740 : x_706.toInt ≤ 0 := i3_le c_740
                    exfalso; omega
                  · have e_740 : 0 < x_706.toInt := i3_nle c_740
                    refine lv_iload hx hb dX5_lookUp_207 (lv_at hl 0 rfl) ?_
                    refine lv_iload hx hb dX5_lookUp_209 (lv_at hl 7 rfl) ?_
                    refine lv_aload_n hx hb dX5_lookUp_211 rfl (lv_at hl 12 rfl) ?_
                    refine lv_iload hx hb dX5_lookUp_212 (lv_at hl 5 rfl) ?_
                    refine lv_iconst (v := 1) hx hb dX5_lookUp_214 (by decide) ?_
                    refine lv_iadd hx hb dX5_lookUp_215 ?_
                    refine lv_topi (fun x_741 ex_741 => ?_)
                    have hq_x_741 : x_731 = x_741 := ex_731.trans ex_741.symm
                    subst hq_x_741
                    refine lv_iload hx hb dX5_lookUp_216 (lv_at hl 8 rfl) ?_
                    refine lv_iload hx hb dX5_lookUp_218 (lv_at hl 6 rfl) ?_
                    refine lv_iload hx hb dX5_lookUp_220 (lv_at hl 1 rfl) ?_
                    refine call_i (va_runV (As := [.int x_731, .int 2, .int x_707, .int 1]) (rest := [.int x_706, .int x_738]) ⟨hx, hb, hml, hown, hts⟩ (q_weighRow2 l E o_t a_t_numbers a_t_lefts a_t_falls f_t_lateCorner f_t_earlyCorner x_731 2 x_707 1 g_t_numbers r_f_t_lateCorner r_f_t_earlyCorner i_g_t_numbers (RG.mk (by omega)) (RG.mk (by decide)) (RG.mk (by omega)) H.size) (cwV 4 hts g_q_lookUp_q_weighRow2_54 rfl rfl rfl (by decide +kernel) ⟨Nat.le_of_ble_eq_true rfl, Nat.le_of_ble_eq_true rfl⟩) (pre_V hK hN hZ hS (va_free hD hS hA [1, 2] rfl) (hP.sub (ws' := [(o_t, .inr (5, [.ref a_t_numbers, .ref a_t_lefts, .ref a_t_falls, .int f_t_lateCorner, .int f_t_earlyCorner])), (a_t_numbers, aI E 192 g_t_numbers)]) [1, 2] rfl) (hD.sub (ws' := [(o_t, .inr (5, [.ref a_t_numbers, .ref a_t_lefts, .ref a_t_falls, .int f_t_lateCorner, .int f_t_earlyCorner])), (a_t_numbers, aI E 192 g_t_numbers)]) [1, 2] (by decide) rfl) (ci := 5) (q0 := 0) rfl rfl) rfl rfl hl.1 rfl (lv_room (Nat.le_of_ble_eq_true rfl)) dX5_lookUp_222 ⟨Nat.le_of_ble_eq_true rfl, Nat.le_of_ble_eq_true rfl⟩) hP hD hS hA [1, 2] [0] (wr := [(a_t_lefts, aI E 64 g_t_lefts)]) rfl rfl (by decide) (by decide) (fun r_742 w H locs hw hP hD hS => ?_)
                    obtain ⟨b_r_742, rfl⟩ := hw
                    replace hP : va_P E.1 vwCl [(a_t_lefts, aI E 64 g_t_lefts), (o_t, .inr (5, [.ref a_t_numbers, .ref a_t_lefts, .ref a_t_falls, .int f_t_lateCorner, .int f_t_earlyCorner])), (a_t_numbers, aI E 192 g_t_numbers)] H := hP
                    replace hD : va_D A [(a_t_lefts, aI E 64 g_t_lefts), (o_t, .inr (5, [.ref a_t_numbers, .ref a_t_lefts, .ref a_t_falls, .int f_t_lateCorner, .int f_t_earlyCorner])), (a_t_numbers, aI E 192 g_t_numbers)] := hD
                    refine lv_imul hx hb dX5_lookUp_225 ?_
                    refine lv_topi (fun x_743 ex_743 => ?_)
                    have bd_744 := i3_bd r_742
                    refine lv_iadd hx hb dX5_lookUp_226 ?_
                    refine lv_topi (fun x_745 ex_745 => ?_)
                    have bd_746 := i3_bd x_738
                    have bd_747 := i3_bd x_743
                    refine lv_istore (lv' := [(17, .int x_745), (16, .int 1), (15, .int 40), (14, .int r_732), (13, .int 2), (12, .int r_708), (11, .int x_707), (10, .int x_706), (9, .int 2), (8, .int 2), (7, .int x_3), (6, .int x_1), (0, .ref o_t), (1, .int p1), (2, .int p2), (3, .int p3), (4, .int p4), (5, .int p5)]) hx hb dX5_lookUp_227 hl (by decide) rfl (fun ls hl => ?_)
                    refine lv_iload hx hb dX5_lookUp_229 (lv_at hl 2 rfl) ?_
                    refine lv_iload hx hb dX5_lookUp_231 (lv_at hl 1 rfl) ?_
                    refine lv_imul hx hb dX5_lookUp_233 ?_
                    refine lv_cst (y := 40) (by decide) ?_
                    refine lv_istore (lv' := [(18, .int 40), (17, .int x_745), (16, .int 1), (15, .int 40), (14, .int r_732), (13, .int 2), (12, .int r_708), (11, .int x_707), (10, .int x_706), (9, .int 2), (8, .int 2), (7, .int x_3), (6, .int x_1), (0, .ref o_t), (1, .int p1), (2, .int p2), (3, .int p3), (4, .int p4), (5, .int p5)]) hx hb dX5_lookUp_234 hl (by decide) rfl (fun ls hl => ?_)
                    refine lv_iload hx hb dX5_lookUp_236 (lv_at hl 18 rfl) ?_
                    have b_p5 := r_p5.out
                    refine lv_if_eq (tgt := 254) hx hb dX5_lookUp_238 (by decide) (fun c_748 => ?_) (fun c_748 => ?_)
                    · have e_748 : p5.toInt = 0 := i3_eq c_748
                      refine lv_iload hx hb dX5_lookUp_254 (lv_at hl 1 rfl) ?_
                      refine lv_iload hx hb dX5_lookUp_256 (lv_at hl 0 rfl) ?_
                      refine lv_idiv hx hb dX5_lookUp_258 (by decide) ?_
                      refine lv_topi (fun x_749 ex_749 => ?_)
                      have bd_750 := i3_bd x_745
                      exact ret_i hx hb hr hlk (hP.sub (ws' := [(o_t, .inr (5, [.ref a_t_numbers, .ref a_t_lefts, .ref a_t_falls, .int f_t_lateCorner, .int f_t_earlyCorner])), (a_t_lefts, aI E 64 g_t_lefts), (a_t_numbers, aI E 192 g_t_numbers)]) [1, 0, 2] rfl) (hD.sub (ws' := [(o_t, .inr (5, [.ref a_t_numbers, .ref a_t_lefts, .ref a_t_falls, .int f_t_lateCorner, .int f_t_earlyCorner])), (a_t_lefts, aI E 64 g_t_lefts), (a_t_numbers, aI E 192 g_t_numbers)]) [1, 0, 2] (by decide) rfl) hS rfl dX5_lookUp_259 (Nat.le_of_ble_eq_true rfl) (Nat.le_of_ble_eq_true rfl) ⟨trivial, rfl⟩
                    · have e_748 : p5.toInt ≠ 0 := i3_ne c_748
                      refine lv_iload hx hb dX5_lookUp_241 (lv_at hl 1 rfl) ?_
                      refine lv_iload hx hb dX5_lookUp_243 (lv_at hl 0 rfl) ?_
                      refine lv_iadd hx hb dX5_lookUp_245 ?_
                      refine lv_topi (fun x_751 ex_751 => ?_)
                      have bd_752 := i3_bd x_745
                      refine lv_iconst (v := 1) hx hb dX5_lookUp_246 (by decide) ?_
                      refine lv_isub hx hb dX5_lookUp_247 ?_
                      refine lv_topi (fun x_753 ex_753 => ?_)
                      have bd_754 := i3_bd x_751
                      refine lv_iload hx hb dX5_lookUp_248 (lv_at hl 0 rfl) ?_
                      refine lv_idiv hx hb dX5_lookUp_250 (by decide) ?_
                      refine lv_topi (fun x_755 ex_755 => ?_)
                      have bd_756 := i3_bd x_753
                      refine lv_goto (tgt := 259) hx hb dX5_lookUp_251 (by decide) ?_
                      exact ret_i hx hb hr hlk (hP.sub (ws' := [(o_t, .inr (5, [.ref a_t_numbers, .ref a_t_lefts, .ref a_t_falls, .int f_t_lateCorner, .int f_t_earlyCorner])), (a_t_lefts, aI E 64 g_t_lefts), (a_t_numbers, aI E 192 g_t_numbers)]) [1, 0, 2] rfl) (hD.sub (ws' := [(o_t, .inr (5, [.ref a_t_numbers, .ref a_t_lefts, .ref a_t_falls, .int f_t_lateCorner, .int f_t_earlyCorner])), (a_t_lefts, aI E 64 g_t_lefts), (a_t_numbers, aI E 192 g_t_numbers)]) [1, 0, 2] (by decide) rfl) hS rfl dX5_lookUp_259 (Nat.le_of_ble_eq_true rfl) (Nat.le_of_ble_eq_true rfl) ⟨trivial, rfl⟩
                · have e_735 : 0 < x_707.toInt := i3_nle c_735
                  exfalso; omega
            · have e_733 : r_732.toInt ≠ 0 := i3_ne c_733
              refine lv_iload hx hb dX5_lookUp_127 (lv_at hl 0 rfl) ?_
              exact ret_i hx hb hr hlk (hP.sub (ws' := [(o_t, .inr (5, [.ref a_t_numbers, .ref a_t_lefts, .ref a_t_falls, .int f_t_lateCorner, .int f_t_earlyCorner])), (a_t_lefts, aI E 64 g_t_lefts), (a_t_numbers, aI E 192 g_t_numbers)]) [1, 2, 0] rfl) (hD.sub (ws' := [(o_t, .inr (5, [.ref a_t_numbers, .ref a_t_lefts, .ref a_t_falls, .int f_t_lateCorner, .int f_t_earlyCorner])), (a_t_lefts, aI E 64 g_t_lefts), (a_t_numbers, aI E 192 g_t_numbers)]) [1, 2, 0] (by decide) rfl) hS rfl dX5_lookUp_129 (Nat.le_of_ble_eq_true rfl) (Nat.le_of_ble_eq_true rfl) ⟨trivial, rfl⟩
      · have e_709 : 0 < x_707.toInt := i3_nle c_709
        exfalso; omega
  · have hs_h_7 := i3_cs (c := 3) h_7 (by decide)
    subst hs_h_7
    have hk_h_7 : (3 : Int32).toInt = 3 := rfl
    rcases (show r_6.toInt = 0 ∨ r_6.toInt = 1 ∨ r_6.toInt = 2 by omega) with h_757 | h_757 | h_757
    · have hs_h_757 := i3_cs (c := 0) h_757 (by decide)
      subst hs_h_757
      have hk_h_757 : (0 : Int32).toInt = 0 := rfl
      refine lv_iload hx hb dX5_lookUp_43 (lv_at hl 3 rfl) ?_
      refine va_gets (C := "TimingHouse$Tables") (n := "LOAD_MARKS") (d := "[I") (own := RX5) (ref := "TimingHouse$Tables") hx hb hZ.1.1 hS hown (hto (.fieldLink RX5 31 "TimingHouse$Tables" "LOAD_MARKS" "[I") (by decide +kernel)) (fun _ h9 => h9) dX5_lookUp_45 ?_
      refine lv_iload hx hb dX5_lookUp_48 (lv_at hl 1 rfl) ?_
      refine va_ti (v := .int 64) hx hb hZ.1.2 hS (i3_in (by decide)) rfl dX5_lookUp_50 ?_
      refine lv_isub hx hb dX5_lookUp_51 ?_
      refine lv_topi (fun x_758 ex_758 => ?_)
      have tx_758 : x_758.toInt = x_1.toInt - 64 := i3_subc rfl rfl ex_758 (by omega)
      refine lv_istore (lv' := [(10, .int x_758), (9, .int 0), (8, .int 3), (7, .int x_3), (6, .int x_1), (0, .ref o_t), (1, .int p1), (2, .int p2), (3, .int p3), (4, .int p4), (5, .int p5)]) hx hb dX5_lookUp_52 hl (by decide) rfl (fun ls hl => ?_)
      refine lv_iload hx hb dX5_lookUp_54 (lv_at hl 3 rfl) ?_
      refine va_gets (C := "TimingHouse$Tables") (n := "SLOPE_MARKS") (d := "[I") (own := RX5) (ref := "TimingHouse$Tables") hx hb hZ.2.1.1 hS hown (hto (.fieldLink RX5 40 "TimingHouse$Tables" "SLOPE_MARKS" "[I") (by decide +kernel)) (fun _ h9 => h9) dX5_lookUp_56 ?_
      refine lv_iload hx hb dX5_lookUp_59 (lv_at hl 1 rfl) ?_
      refine va_ti (v := .int 0) hx hb hZ.2.1.2 hS (i3_in (by decide)) rfl dX5_lookUp_61 ?_
      refine lv_isub hx hb dX5_lookUp_62 ?_
      refine lv_topi (fun x_759 ex_759 => ?_)
      have tx_759 : x_759.toInt = x_3.toInt - 0 := i3_subc rfl rfl ex_759 (by omega)
      refine lv_istore (lv' := [(11, .int x_759), (10, .int x_758), (9, .int 0), (8, .int 3), (7, .int x_3), (6, .int x_1), (0, .ref o_t), (1, .int p1), (2, .int p2), (3, .int p3), (4, .int p4), (5, .int p5)]) hx hb dX5_lookUp_63 hl (by decide) rfl (fun ls hl => ?_)
      refine lv_iload_n hx hb dX5_lookUp_65 rfl (lv_at hl 7 rfl) ?_
      refine lv_iload_n hx hb dX5_lookUp_66 rfl (lv_at hl 8 rfl) ?_
      refine lv_iload hx hb dX5_lookUp_67 (lv_at hl 3 rfl) ?_
      have b_p1 := r_p1.out
      have b_p2 := r_p2.out
      refine call_i (va_runS (As := [.int p1, .int p2, .int 3]) (rest := []) ⟨hx, hb, hml, hown, hts⟩ (q_rowPlace l E p1 p2 3 r_p1 r_p2 (RG.mk (by decide)) H.size) (va_cwS 3 hts g_q_lookUp_q_rowPlace_47 rfl rfl rfl (by decide +kernel) ⟨Nat.le_of_ble_eq_true rfl, Nat.le_of_ble_eq_true rfl⟩) (pre_S hK hN hZ hS (va_free hD hS hA [] rfl) (hP.sub (ws' := []) [] rfl) (hD.sub (ws' := []) [] (by decide) rfl)) rfl rfl hl.1 rfl (lv_room (Nat.le_of_ble_eq_true rfl)) dX5_lookUp_69 ⟨Nat.le_of_ble_eq_true rfl, Nat.le_of_ble_eq_true rfl⟩) hP hD hS hA [] [0, 1, 2] (wr := [(o_t, .inr (5, [.ref a_t_numbers, .ref a_t_lefts, .ref a_t_falls, .int f_t_lateCorner, .int f_t_earlyCorner])), (a_t_lefts, aI E 64 g_t_lefts), (a_t_numbers, aI E 192 g_t_numbers)]) rfl rfl (by decide) (by decide) (fun r_760 w H locs hw hP hD hS => ?_)
      obtain ⟨b_r_760, l_r_760, rfl⟩ := hw
      replace l_r_760 : r_760.toInt = (p1.toInt * 2 + p2.toInt) * 4 + 3 := l_r_760
      replace hP : va_P E.1 vwCl [(o_t, .inr (5, [.ref a_t_numbers, .ref a_t_lefts, .ref a_t_falls, .int f_t_lateCorner, .int f_t_earlyCorner])), (a_t_lefts, aI E 64 g_t_lefts), (a_t_numbers, aI E 192 g_t_numbers)] H := hP
      replace hD : va_D A [(o_t, .inr (5, [.ref a_t_numbers, .ref a_t_lefts, .ref a_t_falls, .int f_t_lateCorner, .int f_t_earlyCorner])), (a_t_lefts, aI E 64 g_t_lefts), (a_t_numbers, aI E 192 g_t_numbers)] := hD
      refine lv_istore (lv' := [(12, .int r_760), (11, .int x_759), (10, .int x_758), (9, .int 0), (8, .int 3), (7, .int x_3), (6, .int x_1), (0, .ref o_t), (1, .int p1), (2, .int p2), (3, .int p3), (4, .int p4), (5, .int p5)]) hx hb dX5_lookUp_72 hl (by decide) rfl (fun ls hl => ?_)
      refine lv_iload hx hb dX5_lookUp_74 (lv_at hl 1 rfl) ?_
      refine lv_if_le (tgt := 86) hx hb dX5_lookUp_76 (by decide) (fun c_761 => ?_) (fun c_761 => ?_)
      · have e_761 : x_759.toInt ≤ 0 := i3_le c_761
        refine lv_iload hx hb dX5_lookUp_86 (lv_at hl 3 rfl) ?_
        refine lv_istore (lv' := [(13, .int 0), (12, .int r_760), (11, .int x_759), (10, .int x_758), (9, .int 0), (8, .int 3), (7, .int x_3), (6, .int x_1), (0, .ref o_t), (1, .int p1), (2, .int p2), (3, .int p3), (4, .int p4), (5, .int p5)]) hx hb dX5_lookUp_88 hl (by decide) rfl (fun ls hl => ?_)
        refine lv_aload_n hx hb dX5_lookUp_90 rfl (lv_at hl 8 rfl) ?_
        refine lv_iload hx hb dX5_lookUp_91 (lv_at hl 1 rfl) ?_
        refine lv_iload hx hb dX5_lookUp_93 (lv_at hl 0 rfl) ?_
        refine call_i (va_runV (As := [.int r_760, .int 0]) (rest := []) ⟨hx, hb, hml, hown, hts⟩ (q_whyAbsent l E o_t a_t_numbers a_t_lefts a_t_falls f_t_lateCorner f_t_earlyCorner r_760 0 g_t_lefts r_f_t_lateCorner r_f_t_earlyCorner i_g_t_lefts (RG.mk (by omega)) H.size) (cwV 2 hts g_q_lookUp_q_whyAbsent_51 rfl rfl rfl (by decide +kernel) ⟨Nat.le_of_ble_eq_true rfl, Nat.le_of_ble_eq_true rfl⟩) (pre_V hK hN hZ hS (va_free hD hS hA [0, 1] rfl) (hP.sub (ws' := [(o_t, .inr (5, [.ref a_t_numbers, .ref a_t_lefts, .ref a_t_falls, .int f_t_lateCorner, .int f_t_earlyCorner])), (a_t_lefts, aI E 64 g_t_lefts)]) [0, 1] rfl) (hD.sub (ws' := [(o_t, .inr (5, [.ref a_t_numbers, .ref a_t_lefts, .ref a_t_falls, .int f_t_lateCorner, .int f_t_earlyCorner])), (a_t_lefts, aI E 64 g_t_lefts)]) [0, 1] (by decide) rfl) (ci := 5) (q0 := 0) rfl rfl) rfl rfl hl.1 rfl (lv_room (Nat.le_of_ble_eq_true rfl)) dX5_lookUp_95 ⟨Nat.le_of_ble_eq_true rfl, Nat.le_of_ble_eq_true rfl⟩) hP hD hS hA [0, 1] [2] (wr := [(a_t_numbers, aI E 192 g_t_numbers)]) rfl rfl (by decide) (by decide) (fun r_762 w H locs hw hP hD hS => ?_)
        obtain ⟨b_r_762, rfl⟩ := hw
        replace hP : va_P E.1 vwCl [(a_t_numbers, aI E 192 g_t_numbers), (o_t, .inr (5, [.ref a_t_numbers, .ref a_t_lefts, .ref a_t_falls, .int f_t_lateCorner, .int f_t_earlyCorner])), (a_t_lefts, aI E 64 g_t_lefts)] H := hP
        replace hD : va_D A [(a_t_numbers, aI E 192 g_t_numbers), (o_t, .inr (5, [.ref a_t_numbers, .ref a_t_lefts, .ref a_t_falls, .int f_t_lateCorner, .int f_t_earlyCorner])), (a_t_lefts, aI E 64 g_t_lefts)] := hD
        refine lv_istore (lv' := [(14, .int r_762), (13, .int 0), (12, .int r_760), (11, .int x_759), (10, .int x_758), (9, .int 0), (8, .int 3), (7, .int x_3), (6, .int x_1), (0, .ref o_t), (1, .int p1), (2, .int p2), (3, .int p3), (4, .int p4), (5, .int p5)]) hx hb dX5_lookUp_98 hl (by decide) rfl (fun ls hl => ?_)
        refine lv_iload hx hb dX5_lookUp_100 (lv_at hl 0 rfl) ?_
        refine lv_if_ne (tgt := 122) hx hb dX5_lookUp_102 (by decide) (fun c_763 => ?_) (fun c_763 => ?_)
        · have e_763 : r_762.toInt ≠ 0 := i3_ne c_763
          refine lv_iload hx hb dX5_lookUp_122 (lv_at hl 0 rfl) ?_
          refine lv_if_eq (tgt := 130) hx hb dX5_lookUp_124 (by decide) (fun c_764 => ?_) (fun c_764 => ?_)
          · have e_764 : r_762.toInt = 0 := i3_eq c_764
            exfalso; omega
          · have e_764 : r_762.toInt ≠ 0 := i3_ne c_764
            refine lv_iload hx hb dX5_lookUp_127 (lv_at hl 0 rfl) ?_
            exact ret_i hx hb hr hlk (hP.sub (ws' := [(o_t, .inr (5, [.ref a_t_numbers, .ref a_t_lefts, .ref a_t_falls, .int f_t_lateCorner, .int f_t_earlyCorner])), (a_t_lefts, aI E 64 g_t_lefts), (a_t_numbers, aI E 192 g_t_numbers)]) [1, 2, 0] rfl) (hD.sub (ws' := [(o_t, .inr (5, [.ref a_t_numbers, .ref a_t_lefts, .ref a_t_falls, .int f_t_lateCorner, .int f_t_earlyCorner])), (a_t_lefts, aI E 64 g_t_lefts), (a_t_numbers, aI E 192 g_t_numbers)]) [1, 2, 0] (by decide) rfl) hS rfl dX5_lookUp_129 (Nat.le_of_ble_eq_true rfl) (Nat.le_of_ble_eq_true rfl) ⟨trivial, rfl⟩
        · have e_763 : r_762.toInt = 0 := i3_eq c_763
          refine lv_iload hx hb dX5_lookUp_105 (lv_at hl 4 rfl) ?_
          refine lv_if_le (tgt := 122) hx hb dX5_lookUp_107 (by decide) (fun c_765 => ?_) (fun c_765 => ?_)
          · have e_765 : x_758.toInt ≤ 0 := i3_le c_765
            refine lv_iload hx hb dX5_lookUp_122 (lv_at hl 0 rfl) ?_
            refine lv_if_eq (tgt := 130) hx hb dX5_lookUp_124 (by decide) (fun c_766 => ?_) (fun c_766 => ?_)
            · have e_766 : r_762.toInt = 0 := i3_eq c_766
              refine lv_iload hx hb dX5_lookUp_130 (lv_at hl 4 rfl) ?_
              refine lv_if_le (tgt := 153) hx hb dX5_lookUp_132 (by decide) (fun c_767 => ?_) (fun c_767 => ?_)
              · have e_767 : x_758.toInt ≤ 0 := i3_le c_767
                refine lv_iconst (v := 1) hx hb dX5_lookUp_153 (by decide) ?_
                refine lv_istore (lv' := [(15, .int 1), (14, .int r_762), (13, .int 0), (12, .int r_760), (11, .int x_759), (10, .int x_758), (9, .int 0), (8, .int 3), (7, .int x_3), (6, .int x_1), (0, .ref o_t), (1, .int p1), (2, .int p2), (3, .int p3), (4, .int p4), (5, .int p5)]) hx hb dX5_lookUp_154 hl (by decide) rfl (fun ls hl => ?_)
                refine lv_iload hx hb dX5_lookUp_156 (lv_at hl 4 rfl) ?_
                refine lv_if_le (tgt := 179) hx hb dX5_lookUp_158 (by decide) (fun c_768 => ?_) (fun c_768 => ?_)
                · have e_768 : x_759.toInt ≤ 0 := i3_le c_768
                  refine lv_iconst (v := 1) hx hb dX5_lookUp_179 (by decide) ?_
                  refine lv_istore (lv' := [(16, .int 1), (15, .int 1), (14, .int r_762), (13, .int 0), (12, .int r_760), (11, .int x_759), (10, .int x_758), (9, .int 0), (8, .int 3), (7, .int x_3), (6, .int x_1), (0, .ref o_t), (1, .int p1), (2, .int p2), (3, .int p3), (4, .int p4), (5, .int p5)]) hx hb dX5_lookUp_180 hl (by decide) rfl (fun ls hl => ?_)
                  refine lv_iload hx hb dX5_lookUp_182 (lv_at hl 1 rfl) ?_
                  refine lv_iload hx hb dX5_lookUp_184 (lv_at hl 6 rfl) ?_
                  refine lv_isub hx hb dX5_lookUp_186 ?_
                  refine lv_topi (fun x_769 ex_769 => ?_)
                  have tx_769 : x_769.toInt = 1 - x_758.toInt := i3_subc rfl rfl ex_769 (by omega)
                  refine lv_aload_n hx hb dX5_lookUp_187 rfl (lv_at hl 11 rfl) ?_
                  refine lv_iload hx hb dX5_lookUp_188 (lv_at hl 4 rfl) ?_
                  refine lv_iload hx hb dX5_lookUp_190 (lv_at hl 7 rfl) ?_
                  refine lv_iload hx hb dX5_lookUp_192 (lv_at hl 5 rfl) ?_
                  refine lv_iload hx hb dX5_lookUp_194 (lv_at hl 0 rfl) ?_
                  refine call_i (va_runV (As := [.int r_760, .int 0, .int x_759, .int 1]) (rest := [.int x_769]) ⟨hx, hb, hml, hown, hts⟩ (q_weighRow1 l E o_t a_t_numbers a_t_lefts a_t_falls f_t_lateCorner f_t_earlyCorner r_760 0 x_759 1 g_t_numbers r_f_t_lateCorner r_f_t_earlyCorner i_g_t_numbers (RG.mk (by omega)) (RG.mk (by decide)) H.size) (cwV 4 hts g_q_lookUp_q_weighRow1_54 rfl rfl rfl (by decide +kernel) ⟨Nat.le_of_ble_eq_true rfl, Nat.le_of_ble_eq_true rfl⟩) (pre_V hK hN hZ hS (va_free hD hS hA [1, 0] rfl) (hP.sub (ws' := [(o_t, .inr (5, [.ref a_t_numbers, .ref a_t_lefts, .ref a_t_falls, .int f_t_lateCorner, .int f_t_earlyCorner])), (a_t_numbers, aI E 192 g_t_numbers)]) [1, 0] rfl) (hD.sub (ws' := [(o_t, .inr (5, [.ref a_t_numbers, .ref a_t_lefts, .ref a_t_falls, .int f_t_lateCorner, .int f_t_earlyCorner])), (a_t_numbers, aI E 192 g_t_numbers)]) [1, 0] (by decide) rfl) (ci := 5) (q0 := 0) rfl rfl) rfl rfl hl.1 rfl (lv_room (Nat.le_of_ble_eq_true rfl)) dX5_lookUp_196 ⟨Nat.le_of_ble_eq_true rfl, Nat.le_of_ble_eq_true rfl⟩) hP hD hS hA [1, 0] [2] (wr := [(a_t_lefts, aI E 64 g_t_lefts)]) rfl rfl (by decide) (by decide) (fun r_770 w H locs hw hP hD hS => ?_)
                  obtain ⟨b_r_770, rfl⟩ := hw
                  replace hP : va_P E.1 vwCl [(a_t_lefts, aI E 64 g_t_lefts), (o_t, .inr (5, [.ref a_t_numbers, .ref a_t_lefts, .ref a_t_falls, .int f_t_lateCorner, .int f_t_earlyCorner])), (a_t_numbers, aI E 192 g_t_numbers)] H := hP
                  replace hD : va_D A [(a_t_lefts, aI E 64 g_t_lefts), (o_t, .inr (5, [.ref a_t_numbers, .ref a_t_lefts, .ref a_t_falls, .int f_t_lateCorner, .int f_t_earlyCorner])), (a_t_numbers, aI E 192 g_t_numbers)] := hD
                  refine lv_imul hx hb dX5_lookUp_199 ?_
                  refine lv_topi (fun x_771 ex_771 => ?_)
                  have bd_772 := i3_bd r_770
                  refine lv_istore (lv' := [(17, .int x_771), (16, .int 1), (15, .int 1), (14, .int r_762), (13, .int 0), (12, .int r_760), (11, .int x_759), (10, .int x_758), (9, .int 0), (8, .int 3), (7, .int x_3), (6, .int x_1), (0, .ref o_t), (1, .int p1), (2, .int p2), (3, .int p3), (4, .int p4), (5, .int p5)]) hx hb dX5_lookUp_200 hl (by decide) rfl (fun ls hl => ?_)
                  refine lv_iload hx hb dX5_lookUp_202 (lv_at hl 7 rfl) ?_
                  refine lv_if_le (tgt := 229) hx hb dX5_lookUp_204 (by decide) (fun c_773 => ?_) (fun c_773 => ?_)
                  · have e_773 : x_758.toInt ≤ 0 := i3_le c_773
                    refine lv_iload hx hb dX5_lookUp_229 (lv_at hl 2 rfl) ?_
                    refine lv_iload hx hb dX5_lookUp_231 (lv_at hl 1 rfl) ?_
                    refine lv_imul hx hb dX5_lookUp_233 ?_
                    refine lv_cst (y := 1) (by decide) ?_
                    refine lv_istore (lv' := [(18, .int 1), (17, .int x_771), (16, .int 1), (15, .int 1), (14, .int r_762), (13, .int 0), (12, .int r_760), (11, .int x_759), (10, .int x_758), (9, .int 0), (8, .int 3), (7, .int x_3), (6, .int x_1), (0, .ref o_t), (1, .int p1), (2, .int p2), (3, .int p3), (4, .int p4), (5, .int p5)]) hx hb dX5_lookUp_234 hl (by decide) rfl (fun ls hl => ?_)
                    refine lv_iload hx hb dX5_lookUp_236 (lv_at hl 18 rfl) ?_
                    have b_p5 := r_p5.out
                    refine lv_if_eq (tgt := 254) hx hb dX5_lookUp_238 (by decide) (fun c_774 => ?_) (fun c_774 => ?_)
                    · have e_774 : p5.toInt = 0 := i3_eq c_774
                      refine lv_iload hx hb dX5_lookUp_254 (lv_at hl 1 rfl) ?_
                      refine lv_iload hx hb dX5_lookUp_256 (lv_at hl 0 rfl) ?_
                      refine lv_idiv hx hb dX5_lookUp_258 (by decide) ?_
                      refine lv_topi (fun x_775 ex_775 => ?_)
                      have bd_776 := i3_bd x_771
                      exact ret_i hx hb hr hlk (hP.sub (ws' := [(o_t, .inr (5, [.ref a_t_numbers, .ref a_t_lefts, .ref a_t_falls, .int f_t_lateCorner, .int f_t_earlyCorner])), (a_t_lefts, aI E 64 g_t_lefts), (a_t_numbers, aI E 192 g_t_numbers)]) [1, 0, 2] rfl) (hD.sub (ws' := [(o_t, .inr (5, [.ref a_t_numbers, .ref a_t_lefts, .ref a_t_falls, .int f_t_lateCorner, .int f_t_earlyCorner])), (a_t_lefts, aI E 64 g_t_lefts), (a_t_numbers, aI E 192 g_t_numbers)]) [1, 0, 2] (by decide) rfl) hS rfl dX5_lookUp_259 (Nat.le_of_ble_eq_true rfl) (Nat.le_of_ble_eq_true rfl) ⟨trivial, rfl⟩
                    · have e_774 : p5.toInt ≠ 0 := i3_ne c_774
                      refine lv_iload hx hb dX5_lookUp_241 (lv_at hl 1 rfl) ?_
                      refine lv_iload hx hb dX5_lookUp_243 (lv_at hl 0 rfl) ?_
                      refine lv_iadd hx hb dX5_lookUp_245 ?_
                      refine lv_topi (fun x_777 ex_777 => ?_)
                      have bd_778 := i3_bd x_771
                      refine lv_iconst (v := 1) hx hb dX5_lookUp_246 (by decide) ?_
                      refine lv_isub hx hb dX5_lookUp_247 ?_
                      refine lv_topi (fun x_779 ex_779 => ?_)
                      have bd_780 := i3_bd x_777
                      refine lv_iload hx hb dX5_lookUp_248 (lv_at hl 0 rfl) ?_
                      refine lv_idiv hx hb dX5_lookUp_250 (by decide) ?_
                      refine lv_topi (fun x_781 ex_781 => ?_)
                      have bd_782 := i3_bd x_779
                      refine lv_goto (tgt := 259) hx hb dX5_lookUp_251 (by decide) ?_
                      exact ret_i hx hb hr hlk (hP.sub (ws' := [(o_t, .inr (5, [.ref a_t_numbers, .ref a_t_lefts, .ref a_t_falls, .int f_t_lateCorner, .int f_t_earlyCorner])), (a_t_lefts, aI E 64 g_t_lefts), (a_t_numbers, aI E 192 g_t_numbers)]) [1, 0, 2] rfl) (hD.sub (ws' := [(o_t, .inr (5, [.ref a_t_numbers, .ref a_t_lefts, .ref a_t_falls, .int f_t_lateCorner, .int f_t_earlyCorner])), (a_t_lefts, aI E 64 g_t_lefts), (a_t_numbers, aI E 192 g_t_numbers)]) [1, 0, 2] (by decide) rfl) hS rfl dX5_lookUp_259 (Nat.le_of_ble_eq_true rfl) (Nat.le_of_ble_eq_true rfl) ⟨trivial, rfl⟩
                  · have e_773 : 0 < x_758.toInt := i3_nle c_773
                    exfalso; omega
                · have e_768 : 0 < x_759.toInt := i3_nle c_768
                  exfalso; omega
              · have e_767 : 0 < x_758.toInt := i3_nle c_767
                exfalso; omega
            · have e_766 : r_762.toInt ≠ 0 := i3_ne c_766
              exfalso; omega
          · have e_765 : 0 < x_758.toInt := i3_nle c_765
            exfalso; omega
      · have e_761 : 0 < x_759.toInt := i3_nle c_761
        refine lv_iload hx hb dX5_lookUp_79 (lv_at hl 3 rfl) ?_
        refine lv_iconst (v := 1) hx hb dX5_lookUp_81 (by decide) ?_
        refine lv_iadd hx hb dX5_lookUp_82 ?_
        refine lv_cst (y := 1) (by decide) ?_
        refine lv_goto (tgt := 88) hx hb dX5_lookUp_83 (by decide) ?_
        refine lv_istore (lv' := [(13, .int 1), (12, .int r_760), (11, .int x_759), (10, .int x_758), (9, .int 0), (8, .int 3), (7, .int x_3), (6, .int x_1), (0, .ref o_t), (1, .int p1), (2, .int p2), (3, .int p3), (4, .int p4), (5, .int p5)]) hx hb dX5_lookUp_88 hl (by decide) rfl (fun ls hl => ?_)
        refine lv_aload_n hx hb dX5_lookUp_90 rfl (lv_at hl 8 rfl) ?_
        refine lv_iload hx hb dX5_lookUp_91 (lv_at hl 1 rfl) ?_
        refine lv_iload hx hb dX5_lookUp_93 (lv_at hl 0 rfl) ?_
        refine call_i (va_runV (As := [.int r_760, .int 1]) (rest := []) ⟨hx, hb, hml, hown, hts⟩ (q_whyAbsent l E o_t a_t_numbers a_t_lefts a_t_falls f_t_lateCorner f_t_earlyCorner r_760 1 g_t_lefts r_f_t_lateCorner r_f_t_earlyCorner i_g_t_lefts (RG.mk (by omega)) H.size) (cwV 2 hts g_q_lookUp_q_whyAbsent_51 rfl rfl rfl (by decide +kernel) ⟨Nat.le_of_ble_eq_true rfl, Nat.le_of_ble_eq_true rfl⟩) (pre_V hK hN hZ hS (va_free hD hS hA [0, 1] rfl) (hP.sub (ws' := [(o_t, .inr (5, [.ref a_t_numbers, .ref a_t_lefts, .ref a_t_falls, .int f_t_lateCorner, .int f_t_earlyCorner])), (a_t_lefts, aI E 64 g_t_lefts)]) [0, 1] rfl) (hD.sub (ws' := [(o_t, .inr (5, [.ref a_t_numbers, .ref a_t_lefts, .ref a_t_falls, .int f_t_lateCorner, .int f_t_earlyCorner])), (a_t_lefts, aI E 64 g_t_lefts)]) [0, 1] (by decide) rfl) (ci := 5) (q0 := 0) rfl rfl) rfl rfl hl.1 rfl (lv_room (Nat.le_of_ble_eq_true rfl)) dX5_lookUp_95 ⟨Nat.le_of_ble_eq_true rfl, Nat.le_of_ble_eq_true rfl⟩) hP hD hS hA [0, 1] [2] (wr := [(a_t_numbers, aI E 192 g_t_numbers)]) rfl rfl (by decide) (by decide) (fun r_783 w H locs hw hP hD hS => ?_)
        obtain ⟨b_r_783, rfl⟩ := hw
        replace hP : va_P E.1 vwCl [(a_t_numbers, aI E 192 g_t_numbers), (o_t, .inr (5, [.ref a_t_numbers, .ref a_t_lefts, .ref a_t_falls, .int f_t_lateCorner, .int f_t_earlyCorner])), (a_t_lefts, aI E 64 g_t_lefts)] H := hP
        replace hD : va_D A [(a_t_numbers, aI E 192 g_t_numbers), (o_t, .inr (5, [.ref a_t_numbers, .ref a_t_lefts, .ref a_t_falls, .int f_t_lateCorner, .int f_t_earlyCorner])), (a_t_lefts, aI E 64 g_t_lefts)] := hD
        refine lv_istore (lv' := [(14, .int r_783), (13, .int 1), (12, .int r_760), (11, .int x_759), (10, .int x_758), (9, .int 0), (8, .int 3), (7, .int x_3), (6, .int x_1), (0, .ref o_t), (1, .int p1), (2, .int p2), (3, .int p3), (4, .int p4), (5, .int p5)]) hx hb dX5_lookUp_98 hl (by decide) rfl (fun ls hl => ?_)
        refine lv_iload hx hb dX5_lookUp_100 (lv_at hl 0 rfl) ?_
        refine lv_if_ne (tgt := 122) hx hb dX5_lookUp_102 (by decide) (fun c_784 => ?_) (fun c_784 => ?_)
        · have e_784 : r_783.toInt ≠ 0 := i3_ne c_784
          refine lv_iload hx hb dX5_lookUp_122 (lv_at hl 0 rfl) ?_
          refine lv_if_eq (tgt := 130) hx hb dX5_lookUp_124 (by decide) (fun c_785 => ?_) (fun c_785 => ?_)
          · have e_785 : r_783.toInt = 0 := i3_eq c_785
            exfalso; omega
          · have e_785 : r_783.toInt ≠ 0 := i3_ne c_785
            refine lv_iload hx hb dX5_lookUp_127 (lv_at hl 0 rfl) ?_
            exact ret_i hx hb hr hlk (hP.sub (ws' := [(o_t, .inr (5, [.ref a_t_numbers, .ref a_t_lefts, .ref a_t_falls, .int f_t_lateCorner, .int f_t_earlyCorner])), (a_t_lefts, aI E 64 g_t_lefts), (a_t_numbers, aI E 192 g_t_numbers)]) [1, 2, 0] rfl) (hD.sub (ws' := [(o_t, .inr (5, [.ref a_t_numbers, .ref a_t_lefts, .ref a_t_falls, .int f_t_lateCorner, .int f_t_earlyCorner])), (a_t_lefts, aI E 64 g_t_lefts), (a_t_numbers, aI E 192 g_t_numbers)]) [1, 2, 0] (by decide) rfl) hS rfl dX5_lookUp_129 (Nat.le_of_ble_eq_true rfl) (Nat.le_of_ble_eq_true rfl) ⟨trivial, rfl⟩
        · have e_784 : r_783.toInt = 0 := i3_eq c_784
          refine lv_iload hx hb dX5_lookUp_105 (lv_at hl 4 rfl) ?_
          refine lv_if_le (tgt := 122) hx hb dX5_lookUp_107 (by decide) (fun c_786 => ?_) (fun c_786 => ?_)
          · have e_786 : x_758.toInt ≤ 0 := i3_le c_786
            refine lv_iload hx hb dX5_lookUp_122 (lv_at hl 0 rfl) ?_
            refine lv_if_eq (tgt := 130) hx hb dX5_lookUp_124 (by decide) (fun c_787 => ?_) (fun c_787 => ?_)
            · have e_787 : r_783.toInt = 0 := i3_eq c_787
              refine lv_iload hx hb dX5_lookUp_130 (lv_at hl 4 rfl) ?_
              refine lv_if_le (tgt := 153) hx hb dX5_lookUp_132 (by decide) (fun c_788 => ?_) (fun c_788 => ?_)
              · have e_788 : x_758.toInt ≤ 0 := i3_le c_788
                refine lv_iconst (v := 1) hx hb dX5_lookUp_153 (by decide) ?_
                refine lv_istore (lv' := [(15, .int 1), (14, .int r_783), (13, .int 1), (12, .int r_760), (11, .int x_759), (10, .int x_758), (9, .int 0), (8, .int 3), (7, .int x_3), (6, .int x_1), (0, .ref o_t), (1, .int p1), (2, .int p2), (3, .int p3), (4, .int p4), (5, .int p5)]) hx hb dX5_lookUp_154 hl (by decide) rfl (fun ls hl => ?_)
                refine lv_iload hx hb dX5_lookUp_156 (lv_at hl 4 rfl) ?_
                refine lv_if_le (tgt := 179) hx hb dX5_lookUp_158 (by decide) (fun c_789 => ?_) (fun c_789 => ?_)
                · have e_789 : x_759.toInt ≤ 0 := i3_le c_789
                  exfalso; omega
                · have e_789 : 0 < x_759.toInt := i3_nle c_789
                  refine va_gets (C := "TimingHouse$Tables") (n := "SLOPE_MARKS") (d := "[I") (own := RX5) (ref := "TimingHouse$Tables") hx hb hZ.2.1.1 hS hown (hto (.fieldLink RX5 40 "TimingHouse$Tables" "SLOPE_MARKS" "[I") (by decide +kernel)) (fun _ h9 => h9) dX5_lookUp_161 ?_
                  refine lv_iload hx hb dX5_lookUp_164 (lv_at hl 6 rfl) ?_
                  refine lv_iconst (v := 1) hx hb dX5_lookUp_166 (by decide) ?_
                  refine lv_iadd hx hb dX5_lookUp_167 ?_
                  refine lv_cst (y := 1) (by decide) ?_
                  refine va_ti (v := .int 16) hx hb hZ.2.1.2 hS (i3_in (by decide)) rfl dX5_lookUp_168 ?_
                  refine va_gets (C := "TimingHouse$Tables") (n := "SLOPE_MARKS") (d := "[I") (own := RX5) (ref := "TimingHouse$Tables") hx hb hZ.2.1.1 hS hown (hto (.fieldLink RX5 40 "TimingHouse$Tables" "SLOPE_MARKS" "[I") (by decide +kernel)) (fun _ h9 => h9) dX5_lookUp_169 ?_
                  refine lv_iload hx hb dX5_lookUp_172 (lv_at hl 6 rfl) ?_
                  refine va_ti (v := .int 0) hx hb hZ.2.1.2 hS (i3_in (by decide)) rfl dX5_lookUp_174 ?_
                  refine lv_isub hx hb dX5_lookUp_175 ?_
                  refine lv_cst (y := 16) (by decide) ?_
                  refine lv_goto (tgt := 180) hx hb dX5_lookUp_176 (by decide) ?_
                  refine lv_istore (lv' := [(16, .int 16), (15, .int 1), (14, .int r_783), (13, .int 1), (12, .int r_760), (11, .int x_759), (10, .int x_758), (9, .int 0), (8, .int 3), (7, .int x_3), (6, .int x_1), (0, .ref o_t), (1, .int p1), (2, .int p2), (3, .int p3), (4, .int p4), (5, .int p5)]) hx hb dX5_lookUp_180 hl (by decide) rfl (fun ls hl => ?_)
                  refine lv_iload hx hb dX5_lookUp_182 (lv_at hl 1 rfl) ?_
                  refine lv_iload hx hb dX5_lookUp_184 (lv_at hl 6 rfl) ?_
                  refine lv_isub hx hb dX5_lookUp_186 ?_
                  refine lv_topi (fun x_790 ex_790 => ?_)
                  have tx_790 : x_790.toInt = 1 - x_758.toInt := i3_subc rfl rfl ex_790 (by omega)
                  refine lv_aload_n hx hb dX5_lookUp_187 rfl (lv_at hl 11 rfl) ?_
                  refine lv_iload hx hb dX5_lookUp_188 (lv_at hl 4 rfl) ?_
                  refine lv_iload hx hb dX5_lookUp_190 (lv_at hl 7 rfl) ?_
                  refine lv_iload hx hb dX5_lookUp_192 (lv_at hl 5 rfl) ?_
                  refine lv_iload hx hb dX5_lookUp_194 (lv_at hl 0 rfl) ?_
                  refine call_i (va_runV (As := [.int r_760, .int 0, .int x_759, .int 16]) (rest := [.int x_790]) ⟨hx, hb, hml, hown, hts⟩ (q_weighRow1 l E o_t a_t_numbers a_t_lefts a_t_falls f_t_lateCorner f_t_earlyCorner r_760 0 x_759 16 g_t_numbers r_f_t_lateCorner r_f_t_earlyCorner i_g_t_numbers (RG.mk (by omega)) (RG.mk (by decide)) H.size) (cwV 4 hts g_q_lookUp_q_weighRow1_54 rfl rfl rfl (by decide +kernel) ⟨Nat.le_of_ble_eq_true rfl, Nat.le_of_ble_eq_true rfl⟩) (pre_V hK hN hZ hS (va_free hD hS hA [1, 0] rfl) (hP.sub (ws' := [(o_t, .inr (5, [.ref a_t_numbers, .ref a_t_lefts, .ref a_t_falls, .int f_t_lateCorner, .int f_t_earlyCorner])), (a_t_numbers, aI E 192 g_t_numbers)]) [1, 0] rfl) (hD.sub (ws' := [(o_t, .inr (5, [.ref a_t_numbers, .ref a_t_lefts, .ref a_t_falls, .int f_t_lateCorner, .int f_t_earlyCorner])), (a_t_numbers, aI E 192 g_t_numbers)]) [1, 0] (by decide) rfl) (ci := 5) (q0 := 0) rfl rfl) rfl rfl hl.1 rfl (lv_room (Nat.le_of_ble_eq_true rfl)) dX5_lookUp_196 ⟨Nat.le_of_ble_eq_true rfl, Nat.le_of_ble_eq_true rfl⟩) hP hD hS hA [1, 0] [2] (wr := [(a_t_lefts, aI E 64 g_t_lefts)]) rfl rfl (by decide) (by decide) (fun r_791 w H locs hw hP hD hS => ?_)
                  obtain ⟨b_r_791, rfl⟩ := hw
                  replace hP : va_P E.1 vwCl [(a_t_lefts, aI E 64 g_t_lefts), (o_t, .inr (5, [.ref a_t_numbers, .ref a_t_lefts, .ref a_t_falls, .int f_t_lateCorner, .int f_t_earlyCorner])), (a_t_numbers, aI E 192 g_t_numbers)] H := hP
                  replace hD : va_D A [(a_t_lefts, aI E 64 g_t_lefts), (o_t, .inr (5, [.ref a_t_numbers, .ref a_t_lefts, .ref a_t_falls, .int f_t_lateCorner, .int f_t_earlyCorner])), (a_t_numbers, aI E 192 g_t_numbers)] := hD
                  refine lv_imul hx hb dX5_lookUp_199 ?_
                  refine lv_topi (fun x_792 ex_792 => ?_)
                  have bd_793 := i3_bd r_791
                  refine lv_istore (lv' := [(17, .int x_792), (16, .int 16), (15, .int 1), (14, .int r_783), (13, .int 1), (12, .int r_760), (11, .int x_759), (10, .int x_758), (9, .int 0), (8, .int 3), (7, .int x_3), (6, .int x_1), (0, .ref o_t), (1, .int p1), (2, .int p2), (3, .int p3), (4, .int p4), (5, .int p5)]) hx hb dX5_lookUp_200 hl (by decide) rfl (fun ls hl => ?_)
                  refine lv_iload hx hb dX5_lookUp_202 (lv_at hl 7 rfl) ?_
                  refine lv_if_le (tgt := 229) hx hb dX5_lookUp_204 (by decide) (fun c_794 => ?_) (fun c_794 => ?_)
                  · have e_794 : x_758.toInt ≤ 0 := i3_le c_794
                    refine lv_iload hx hb dX5_lookUp_229 (lv_at hl 2 rfl) ?_
                    refine lv_iload hx hb dX5_lookUp_231 (lv_at hl 1 rfl) ?_
                    refine lv_imul hx hb dX5_lookUp_233 ?_
                    refine lv_cst (y := 16) (by decide) ?_
                    refine lv_istore (lv' := [(18, .int 16), (17, .int x_792), (16, .int 16), (15, .int 1), (14, .int r_783), (13, .int 1), (12, .int r_760), (11, .int x_759), (10, .int x_758), (9, .int 0), (8, .int 3), (7, .int x_3), (6, .int x_1), (0, .ref o_t), (1, .int p1), (2, .int p2), (3, .int p3), (4, .int p4), (5, .int p5)]) hx hb dX5_lookUp_234 hl (by decide) rfl (fun ls hl => ?_)
                    refine lv_iload hx hb dX5_lookUp_236 (lv_at hl 18 rfl) ?_
                    have b_p5 := r_p5.out
                    refine lv_if_eq (tgt := 254) hx hb dX5_lookUp_238 (by decide) (fun c_795 => ?_) (fun c_795 => ?_)
                    · have e_795 : p5.toInt = 0 := i3_eq c_795
                      refine lv_iload hx hb dX5_lookUp_254 (lv_at hl 1 rfl) ?_
                      refine lv_iload hx hb dX5_lookUp_256 (lv_at hl 0 rfl) ?_
                      refine lv_idiv hx hb dX5_lookUp_258 (by decide) ?_
                      refine lv_topi (fun x_796 ex_796 => ?_)
                      have bd_797 := i3_bd x_792
                      exact ret_i hx hb hr hlk (hP.sub (ws' := [(o_t, .inr (5, [.ref a_t_numbers, .ref a_t_lefts, .ref a_t_falls, .int f_t_lateCorner, .int f_t_earlyCorner])), (a_t_lefts, aI E 64 g_t_lefts), (a_t_numbers, aI E 192 g_t_numbers)]) [1, 0, 2] rfl) (hD.sub (ws' := [(o_t, .inr (5, [.ref a_t_numbers, .ref a_t_lefts, .ref a_t_falls, .int f_t_lateCorner, .int f_t_earlyCorner])), (a_t_lefts, aI E 64 g_t_lefts), (a_t_numbers, aI E 192 g_t_numbers)]) [1, 0, 2] (by decide) rfl) hS rfl dX5_lookUp_259 (Nat.le_of_ble_eq_true rfl) (Nat.le_of_ble_eq_true rfl) ⟨trivial, rfl⟩
                    · have e_795 : p5.toInt ≠ 0 := i3_ne c_795
                      refine lv_iload hx hb dX5_lookUp_241 (lv_at hl 1 rfl) ?_
                      refine lv_iload hx hb dX5_lookUp_243 (lv_at hl 0 rfl) ?_
                      refine lv_iadd hx hb dX5_lookUp_245 ?_
                      refine lv_topi (fun x_798 ex_798 => ?_)
                      have bd_799 := i3_bd x_792
                      refine lv_iconst (v := 1) hx hb dX5_lookUp_246 (by decide) ?_
                      refine lv_isub hx hb dX5_lookUp_247 ?_
                      refine lv_topi (fun x_800 ex_800 => ?_)
                      have bd_801 := i3_bd x_798
                      refine lv_iload hx hb dX5_lookUp_248 (lv_at hl 0 rfl) ?_
                      refine lv_idiv hx hb dX5_lookUp_250 (by decide) ?_
                      refine lv_topi (fun x_802 ex_802 => ?_)
                      have bd_803 := i3_bd x_800
                      refine lv_goto (tgt := 259) hx hb dX5_lookUp_251 (by decide) ?_
                      exact ret_i hx hb hr hlk (hP.sub (ws' := [(o_t, .inr (5, [.ref a_t_numbers, .ref a_t_lefts, .ref a_t_falls, .int f_t_lateCorner, .int f_t_earlyCorner])), (a_t_lefts, aI E 64 g_t_lefts), (a_t_numbers, aI E 192 g_t_numbers)]) [1, 0, 2] rfl) (hD.sub (ws' := [(o_t, .inr (5, [.ref a_t_numbers, .ref a_t_lefts, .ref a_t_falls, .int f_t_lateCorner, .int f_t_earlyCorner])), (a_t_lefts, aI E 64 g_t_lefts), (a_t_numbers, aI E 192 g_t_numbers)]) [1, 0, 2] (by decide) rfl) hS rfl dX5_lookUp_259 (Nat.le_of_ble_eq_true rfl) (Nat.le_of_ble_eq_true rfl) ⟨trivial, rfl⟩
                  · have e_794 : 0 < x_758.toInt := i3_nle c_794
                    exfalso; omega
              · have e_788 : 0 < x_758.toInt := i3_nle c_788
                exfalso; omega
            · have e_787 : r_783.toInt ≠ 0 := i3_ne c_787
              exfalso; omega
          · have e_786 : 0 < x_758.toInt := i3_nle c_786
            exfalso; omega
    · have hs_h_757 := i3_cs (c := 1) h_757 (by decide)
      subst hs_h_757
      have hk_h_757 : (1 : Int32).toInt = 1 := rfl
      refine lv_iload hx hb dX5_lookUp_43 (lv_at hl 3 rfl) ?_
      refine va_gets (C := "TimingHouse$Tables") (n := "LOAD_MARKS") (d := "[I") (own := RX5) (ref := "TimingHouse$Tables") hx hb hZ.1.1 hS hown (hto (.fieldLink RX5 31 "TimingHouse$Tables" "LOAD_MARKS" "[I") (by decide +kernel)) (fun _ h9 => h9) dX5_lookUp_45 ?_
      refine lv_iload hx hb dX5_lookUp_48 (lv_at hl 1 rfl) ?_
      refine va_ti (v := .int 64) hx hb hZ.1.2 hS (i3_in (by decide)) rfl dX5_lookUp_50 ?_
      refine lv_isub hx hb dX5_lookUp_51 ?_
      refine lv_topi (fun x_804 ex_804 => ?_)
      have tx_804 : x_804.toInt = x_1.toInt - 64 := i3_subc rfl rfl ex_804 (by omega)
      refine lv_istore (lv' := [(10, .int x_804), (9, .int 1), (8, .int 3), (7, .int x_3), (6, .int x_1), (0, .ref o_t), (1, .int p1), (2, .int p2), (3, .int p3), (4, .int p4), (5, .int p5)]) hx hb dX5_lookUp_52 hl (by decide) rfl (fun ls hl => ?_)
      refine lv_iload hx hb dX5_lookUp_54 (lv_at hl 3 rfl) ?_
      refine va_gets (C := "TimingHouse$Tables") (n := "SLOPE_MARKS") (d := "[I") (own := RX5) (ref := "TimingHouse$Tables") hx hb hZ.2.1.1 hS hown (hto (.fieldLink RX5 40 "TimingHouse$Tables" "SLOPE_MARKS" "[I") (by decide +kernel)) (fun _ h9 => h9) dX5_lookUp_56 ?_
      refine lv_iload hx hb dX5_lookUp_59 (lv_at hl 1 rfl) ?_
      refine va_ti (v := .int 16) hx hb hZ.2.1.2 hS (i3_in (by decide)) rfl dX5_lookUp_61 ?_
      refine lv_isub hx hb dX5_lookUp_62 ?_
      refine lv_topi (fun x_805 ex_805 => ?_)
      have tx_805 : x_805.toInt = x_3.toInt - 16 := i3_subc rfl rfl ex_805 (by omega)
      refine lv_istore (lv' := [(11, .int x_805), (10, .int x_804), (9, .int 1), (8, .int 3), (7, .int x_3), (6, .int x_1), (0, .ref o_t), (1, .int p1), (2, .int p2), (3, .int p3), (4, .int p4), (5, .int p5)]) hx hb dX5_lookUp_63 hl (by decide) rfl (fun ls hl => ?_)
      refine lv_iload_n hx hb dX5_lookUp_65 rfl (lv_at hl 7 rfl) ?_
      refine lv_iload_n hx hb dX5_lookUp_66 rfl (lv_at hl 8 rfl) ?_
      refine lv_iload hx hb dX5_lookUp_67 (lv_at hl 3 rfl) ?_
      have b_p1 := r_p1.out
      have b_p2 := r_p2.out
      refine call_i (va_runS (As := [.int p1, .int p2, .int 3]) (rest := []) ⟨hx, hb, hml, hown, hts⟩ (q_rowPlace l E p1 p2 3 r_p1 r_p2 (RG.mk (by decide)) H.size) (va_cwS 3 hts g_q_lookUp_q_rowPlace_47 rfl rfl rfl (by decide +kernel) ⟨Nat.le_of_ble_eq_true rfl, Nat.le_of_ble_eq_true rfl⟩) (pre_S hK hN hZ hS (va_free hD hS hA [] rfl) (hP.sub (ws' := []) [] rfl) (hD.sub (ws' := []) [] (by decide) rfl)) rfl rfl hl.1 rfl (lv_room (Nat.le_of_ble_eq_true rfl)) dX5_lookUp_69 ⟨Nat.le_of_ble_eq_true rfl, Nat.le_of_ble_eq_true rfl⟩) hP hD hS hA [] [0, 1, 2] (wr := [(o_t, .inr (5, [.ref a_t_numbers, .ref a_t_lefts, .ref a_t_falls, .int f_t_lateCorner, .int f_t_earlyCorner])), (a_t_lefts, aI E 64 g_t_lefts), (a_t_numbers, aI E 192 g_t_numbers)]) rfl rfl (by decide) (by decide) (fun r_806 w H locs hw hP hD hS => ?_)
      obtain ⟨b_r_806, l_r_806, rfl⟩ := hw
      replace l_r_806 : r_806.toInt = (p1.toInt * 2 + p2.toInt) * 4 + 3 := l_r_806
      replace hP : va_P E.1 vwCl [(o_t, .inr (5, [.ref a_t_numbers, .ref a_t_lefts, .ref a_t_falls, .int f_t_lateCorner, .int f_t_earlyCorner])), (a_t_lefts, aI E 64 g_t_lefts), (a_t_numbers, aI E 192 g_t_numbers)] H := hP
      replace hD : va_D A [(o_t, .inr (5, [.ref a_t_numbers, .ref a_t_lefts, .ref a_t_falls, .int f_t_lateCorner, .int f_t_earlyCorner])), (a_t_lefts, aI E 64 g_t_lefts), (a_t_numbers, aI E 192 g_t_numbers)] := hD
      refine lv_istore (lv' := [(12, .int r_806), (11, .int x_805), (10, .int x_804), (9, .int 1), (8, .int 3), (7, .int x_3), (6, .int x_1), (0, .ref o_t), (1, .int p1), (2, .int p2), (3, .int p3), (4, .int p4), (5, .int p5)]) hx hb dX5_lookUp_72 hl (by decide) rfl (fun ls hl => ?_)
      refine lv_iload hx hb dX5_lookUp_74 (lv_at hl 1 rfl) ?_
      refine lv_if_le (tgt := 86) hx hb dX5_lookUp_76 (by decide) (fun c_807 => ?_) (fun c_807 => ?_)
      · have e_807 : x_805.toInt ≤ 0 := i3_le c_807
        refine lv_iload hx hb dX5_lookUp_86 (lv_at hl 3 rfl) ?_
        refine lv_istore (lv' := [(13, .int 1), (12, .int r_806), (11, .int x_805), (10, .int x_804), (9, .int 1), (8, .int 3), (7, .int x_3), (6, .int x_1), (0, .ref o_t), (1, .int p1), (2, .int p2), (3, .int p3), (4, .int p4), (5, .int p5)]) hx hb dX5_lookUp_88 hl (by decide) rfl (fun ls hl => ?_)
        refine lv_aload_n hx hb dX5_lookUp_90 rfl (lv_at hl 8 rfl) ?_
        refine lv_iload hx hb dX5_lookUp_91 (lv_at hl 1 rfl) ?_
        refine lv_iload hx hb dX5_lookUp_93 (lv_at hl 0 rfl) ?_
        refine call_i (va_runV (As := [.int r_806, .int 1]) (rest := []) ⟨hx, hb, hml, hown, hts⟩ (q_whyAbsent l E o_t a_t_numbers a_t_lefts a_t_falls f_t_lateCorner f_t_earlyCorner r_806 1 g_t_lefts r_f_t_lateCorner r_f_t_earlyCorner i_g_t_lefts (RG.mk (by omega)) H.size) (cwV 2 hts g_q_lookUp_q_whyAbsent_51 rfl rfl rfl (by decide +kernel) ⟨Nat.le_of_ble_eq_true rfl, Nat.le_of_ble_eq_true rfl⟩) (pre_V hK hN hZ hS (va_free hD hS hA [0, 1] rfl) (hP.sub (ws' := [(o_t, .inr (5, [.ref a_t_numbers, .ref a_t_lefts, .ref a_t_falls, .int f_t_lateCorner, .int f_t_earlyCorner])), (a_t_lefts, aI E 64 g_t_lefts)]) [0, 1] rfl) (hD.sub (ws' := [(o_t, .inr (5, [.ref a_t_numbers, .ref a_t_lefts, .ref a_t_falls, .int f_t_lateCorner, .int f_t_earlyCorner])), (a_t_lefts, aI E 64 g_t_lefts)]) [0, 1] (by decide) rfl) (ci := 5) (q0 := 0) rfl rfl) rfl rfl hl.1 rfl (lv_room (Nat.le_of_ble_eq_true rfl)) dX5_lookUp_95 ⟨Nat.le_of_ble_eq_true rfl, Nat.le_of_ble_eq_true rfl⟩) hP hD hS hA [0, 1] [2] (wr := [(a_t_numbers, aI E 192 g_t_numbers)]) rfl rfl (by decide) (by decide) (fun r_808 w H locs hw hP hD hS => ?_)
        obtain ⟨b_r_808, rfl⟩ := hw
        replace hP : va_P E.1 vwCl [(a_t_numbers, aI E 192 g_t_numbers), (o_t, .inr (5, [.ref a_t_numbers, .ref a_t_lefts, .ref a_t_falls, .int f_t_lateCorner, .int f_t_earlyCorner])), (a_t_lefts, aI E 64 g_t_lefts)] H := hP
        replace hD : va_D A [(a_t_numbers, aI E 192 g_t_numbers), (o_t, .inr (5, [.ref a_t_numbers, .ref a_t_lefts, .ref a_t_falls, .int f_t_lateCorner, .int f_t_earlyCorner])), (a_t_lefts, aI E 64 g_t_lefts)] := hD
        refine lv_istore (lv' := [(14, .int r_808), (13, .int 1), (12, .int r_806), (11, .int x_805), (10, .int x_804), (9, .int 1), (8, .int 3), (7, .int x_3), (6, .int x_1), (0, .ref o_t), (1, .int p1), (2, .int p2), (3, .int p3), (4, .int p4), (5, .int p5)]) hx hb dX5_lookUp_98 hl (by decide) rfl (fun ls hl => ?_)
        refine lv_iload hx hb dX5_lookUp_100 (lv_at hl 0 rfl) ?_
        refine lv_if_ne (tgt := 122) hx hb dX5_lookUp_102 (by decide) (fun c_809 => ?_) (fun c_809 => ?_)
        · have e_809 : r_808.toInt ≠ 0 := i3_ne c_809
          refine lv_iload hx hb dX5_lookUp_122 (lv_at hl 0 rfl) ?_
          refine lv_if_eq (tgt := 130) hx hb dX5_lookUp_124 (by decide) (fun c_810 => ?_) (fun c_810 => ?_)
          · have e_810 : r_808.toInt = 0 := i3_eq c_810
            exfalso; omega
          · have e_810 : r_808.toInt ≠ 0 := i3_ne c_810
            refine lv_iload hx hb dX5_lookUp_127 (lv_at hl 0 rfl) ?_
            exact ret_i hx hb hr hlk (hP.sub (ws' := [(o_t, .inr (5, [.ref a_t_numbers, .ref a_t_lefts, .ref a_t_falls, .int f_t_lateCorner, .int f_t_earlyCorner])), (a_t_lefts, aI E 64 g_t_lefts), (a_t_numbers, aI E 192 g_t_numbers)]) [1, 2, 0] rfl) (hD.sub (ws' := [(o_t, .inr (5, [.ref a_t_numbers, .ref a_t_lefts, .ref a_t_falls, .int f_t_lateCorner, .int f_t_earlyCorner])), (a_t_lefts, aI E 64 g_t_lefts), (a_t_numbers, aI E 192 g_t_numbers)]) [1, 2, 0] (by decide) rfl) hS rfl dX5_lookUp_129 (Nat.le_of_ble_eq_true rfl) (Nat.le_of_ble_eq_true rfl) ⟨trivial, rfl⟩
        · have e_809 : r_808.toInt = 0 := i3_eq c_809
          refine lv_iload hx hb dX5_lookUp_105 (lv_at hl 4 rfl) ?_
          refine lv_if_le (tgt := 122) hx hb dX5_lookUp_107 (by decide) (fun c_811 => ?_) (fun c_811 => ?_)
          · have e_811 : x_804.toInt ≤ 0 := i3_le c_811
            refine lv_iload hx hb dX5_lookUp_122 (lv_at hl 0 rfl) ?_
            refine lv_if_eq (tgt := 130) hx hb dX5_lookUp_124 (by decide) (fun c_812 => ?_) (fun c_812 => ?_)
            · have e_812 : r_808.toInt = 0 := i3_eq c_812
              refine lv_iload hx hb dX5_lookUp_130 (lv_at hl 4 rfl) ?_
              refine lv_if_le (tgt := 153) hx hb dX5_lookUp_132 (by decide) (fun c_813 => ?_) (fun c_813 => ?_)
              · have e_813 : x_804.toInt ≤ 0 := i3_le c_813
                refine lv_iconst (v := 1) hx hb dX5_lookUp_153 (by decide) ?_
                refine lv_istore (lv' := [(15, .int 1), (14, .int r_808), (13, .int 1), (12, .int r_806), (11, .int x_805), (10, .int x_804), (9, .int 1), (8, .int 3), (7, .int x_3), (6, .int x_1), (0, .ref o_t), (1, .int p1), (2, .int p2), (3, .int p3), (4, .int p4), (5, .int p5)]) hx hb dX5_lookUp_154 hl (by decide) rfl (fun ls hl => ?_)
                refine lv_iload hx hb dX5_lookUp_156 (lv_at hl 4 rfl) ?_
                refine lv_if_le (tgt := 179) hx hb dX5_lookUp_158 (by decide) (fun c_814 => ?_) (fun c_814 => ?_)
                · have e_814 : x_805.toInt ≤ 0 := i3_le c_814
                  refine lv_iconst (v := 1) hx hb dX5_lookUp_179 (by decide) ?_
                  refine lv_istore (lv' := [(16, .int 1), (15, .int 1), (14, .int r_808), (13, .int 1), (12, .int r_806), (11, .int x_805), (10, .int x_804), (9, .int 1), (8, .int 3), (7, .int x_3), (6, .int x_1), (0, .ref o_t), (1, .int p1), (2, .int p2), (3, .int p3), (4, .int p4), (5, .int p5)]) hx hb dX5_lookUp_180 hl (by decide) rfl (fun ls hl => ?_)
                  refine lv_iload hx hb dX5_lookUp_182 (lv_at hl 1 rfl) ?_
                  refine lv_iload hx hb dX5_lookUp_184 (lv_at hl 6 rfl) ?_
                  refine lv_isub hx hb dX5_lookUp_186 ?_
                  refine lv_topi (fun x_815 ex_815 => ?_)
                  have tx_815 : x_815.toInt = 1 - x_804.toInt := i3_subc rfl rfl ex_815 (by omega)
                  refine lv_aload_n hx hb dX5_lookUp_187 rfl (lv_at hl 11 rfl) ?_
                  refine lv_iload hx hb dX5_lookUp_188 (lv_at hl 4 rfl) ?_
                  refine lv_iload hx hb dX5_lookUp_190 (lv_at hl 7 rfl) ?_
                  refine lv_iload hx hb dX5_lookUp_192 (lv_at hl 5 rfl) ?_
                  refine lv_iload hx hb dX5_lookUp_194 (lv_at hl 0 rfl) ?_
                  refine call_i (va_runV (As := [.int r_806, .int 1, .int x_805, .int 1]) (rest := [.int x_815]) ⟨hx, hb, hml, hown, hts⟩ (q_weighRow1 l E o_t a_t_numbers a_t_lefts a_t_falls f_t_lateCorner f_t_earlyCorner r_806 1 x_805 1 g_t_numbers r_f_t_lateCorner r_f_t_earlyCorner i_g_t_numbers (RG.mk (by omega)) (RG.mk (by decide)) H.size) (cwV 4 hts g_q_lookUp_q_weighRow1_54 rfl rfl rfl (by decide +kernel) ⟨Nat.le_of_ble_eq_true rfl, Nat.le_of_ble_eq_true rfl⟩) (pre_V hK hN hZ hS (va_free hD hS hA [1, 0] rfl) (hP.sub (ws' := [(o_t, .inr (5, [.ref a_t_numbers, .ref a_t_lefts, .ref a_t_falls, .int f_t_lateCorner, .int f_t_earlyCorner])), (a_t_numbers, aI E 192 g_t_numbers)]) [1, 0] rfl) (hD.sub (ws' := [(o_t, .inr (5, [.ref a_t_numbers, .ref a_t_lefts, .ref a_t_falls, .int f_t_lateCorner, .int f_t_earlyCorner])), (a_t_numbers, aI E 192 g_t_numbers)]) [1, 0] (by decide) rfl) (ci := 5) (q0 := 0) rfl rfl) rfl rfl hl.1 rfl (lv_room (Nat.le_of_ble_eq_true rfl)) dX5_lookUp_196 ⟨Nat.le_of_ble_eq_true rfl, Nat.le_of_ble_eq_true rfl⟩) hP hD hS hA [1, 0] [2] (wr := [(a_t_lefts, aI E 64 g_t_lefts)]) rfl rfl (by decide) (by decide) (fun r_816 w H locs hw hP hD hS => ?_)
                  obtain ⟨b_r_816, rfl⟩ := hw
                  replace hP : va_P E.1 vwCl [(a_t_lefts, aI E 64 g_t_lefts), (o_t, .inr (5, [.ref a_t_numbers, .ref a_t_lefts, .ref a_t_falls, .int f_t_lateCorner, .int f_t_earlyCorner])), (a_t_numbers, aI E 192 g_t_numbers)] H := hP
                  replace hD : va_D A [(a_t_lefts, aI E 64 g_t_lefts), (o_t, .inr (5, [.ref a_t_numbers, .ref a_t_lefts, .ref a_t_falls, .int f_t_lateCorner, .int f_t_earlyCorner])), (a_t_numbers, aI E 192 g_t_numbers)] := hD
                  refine lv_imul hx hb dX5_lookUp_199 ?_
                  refine lv_topi (fun x_817 ex_817 => ?_)
                  have bd_818 := i3_bd r_816
                  refine lv_istore (lv' := [(17, .int x_817), (16, .int 1), (15, .int 1), (14, .int r_808), (13, .int 1), (12, .int r_806), (11, .int x_805), (10, .int x_804), (9, .int 1), (8, .int 3), (7, .int x_3), (6, .int x_1), (0, .ref o_t), (1, .int p1), (2, .int p2), (3, .int p3), (4, .int p4), (5, .int p5)]) hx hb dX5_lookUp_200 hl (by decide) rfl (fun ls hl => ?_)
                  refine lv_iload hx hb dX5_lookUp_202 (lv_at hl 7 rfl) ?_
                  refine lv_if_le (tgt := 229) hx hb dX5_lookUp_204 (by decide) (fun c_819 => ?_) (fun c_819 => ?_)
                  · have e_819 : x_804.toInt ≤ 0 := i3_le c_819
                    refine lv_iload hx hb dX5_lookUp_229 (lv_at hl 2 rfl) ?_
                    refine lv_iload hx hb dX5_lookUp_231 (lv_at hl 1 rfl) ?_
                    refine lv_imul hx hb dX5_lookUp_233 ?_
                    refine lv_cst (y := 1) (by decide) ?_
                    refine lv_istore (lv' := [(18, .int 1), (17, .int x_817), (16, .int 1), (15, .int 1), (14, .int r_808), (13, .int 1), (12, .int r_806), (11, .int x_805), (10, .int x_804), (9, .int 1), (8, .int 3), (7, .int x_3), (6, .int x_1), (0, .ref o_t), (1, .int p1), (2, .int p2), (3, .int p3), (4, .int p4), (5, .int p5)]) hx hb dX5_lookUp_234 hl (by decide) rfl (fun ls hl => ?_)
                    refine lv_iload hx hb dX5_lookUp_236 (lv_at hl 18 rfl) ?_
                    have b_p5 := r_p5.out
                    refine lv_if_eq (tgt := 254) hx hb dX5_lookUp_238 (by decide) (fun c_820 => ?_) (fun c_820 => ?_)
                    · have e_820 : p5.toInt = 0 := i3_eq c_820
                      refine lv_iload hx hb dX5_lookUp_254 (lv_at hl 1 rfl) ?_
                      refine lv_iload hx hb dX5_lookUp_256 (lv_at hl 0 rfl) ?_
                      refine lv_idiv hx hb dX5_lookUp_258 (by decide) ?_
                      refine lv_topi (fun x_821 ex_821 => ?_)
                      have bd_822 := i3_bd x_817
                      exact ret_i hx hb hr hlk (hP.sub (ws' := [(o_t, .inr (5, [.ref a_t_numbers, .ref a_t_lefts, .ref a_t_falls, .int f_t_lateCorner, .int f_t_earlyCorner])), (a_t_lefts, aI E 64 g_t_lefts), (a_t_numbers, aI E 192 g_t_numbers)]) [1, 0, 2] rfl) (hD.sub (ws' := [(o_t, .inr (5, [.ref a_t_numbers, .ref a_t_lefts, .ref a_t_falls, .int f_t_lateCorner, .int f_t_earlyCorner])), (a_t_lefts, aI E 64 g_t_lefts), (a_t_numbers, aI E 192 g_t_numbers)]) [1, 0, 2] (by decide) rfl) hS rfl dX5_lookUp_259 (Nat.le_of_ble_eq_true rfl) (Nat.le_of_ble_eq_true rfl) ⟨trivial, rfl⟩
                    · have e_820 : p5.toInt ≠ 0 := i3_ne c_820
                      refine lv_iload hx hb dX5_lookUp_241 (lv_at hl 1 rfl) ?_
                      refine lv_iload hx hb dX5_lookUp_243 (lv_at hl 0 rfl) ?_
                      refine lv_iadd hx hb dX5_lookUp_245 ?_
                      refine lv_topi (fun x_823 ex_823 => ?_)
                      have bd_824 := i3_bd x_817
                      refine lv_iconst (v := 1) hx hb dX5_lookUp_246 (by decide) ?_
                      refine lv_isub hx hb dX5_lookUp_247 ?_
                      refine lv_topi (fun x_825 ex_825 => ?_)
                      have bd_826 := i3_bd x_823
                      refine lv_iload hx hb dX5_lookUp_248 (lv_at hl 0 rfl) ?_
                      refine lv_idiv hx hb dX5_lookUp_250 (by decide) ?_
                      refine lv_topi (fun x_827 ex_827 => ?_)
                      have bd_828 := i3_bd x_825
                      refine lv_goto (tgt := 259) hx hb dX5_lookUp_251 (by decide) ?_
                      exact ret_i hx hb hr hlk (hP.sub (ws' := [(o_t, .inr (5, [.ref a_t_numbers, .ref a_t_lefts, .ref a_t_falls, .int f_t_lateCorner, .int f_t_earlyCorner])), (a_t_lefts, aI E 64 g_t_lefts), (a_t_numbers, aI E 192 g_t_numbers)]) [1, 0, 2] rfl) (hD.sub (ws' := [(o_t, .inr (5, [.ref a_t_numbers, .ref a_t_lefts, .ref a_t_falls, .int f_t_lateCorner, .int f_t_earlyCorner])), (a_t_lefts, aI E 64 g_t_lefts), (a_t_numbers, aI E 192 g_t_numbers)]) [1, 0, 2] (by decide) rfl) hS rfl dX5_lookUp_259 (Nat.le_of_ble_eq_true rfl) (Nat.le_of_ble_eq_true rfl) ⟨trivial, rfl⟩
                  · have e_819 : 0 < x_804.toInt := i3_nle c_819
                    exfalso; omega
                · have e_814 : 0 < x_805.toInt := i3_nle c_814
                  exfalso; omega
              · have e_813 : 0 < x_804.toInt := i3_nle c_813
                exfalso; omega
            · have e_812 : r_808.toInt ≠ 0 := i3_ne c_812
              exfalso; omega
          · have e_811 : 0 < x_804.toInt := i3_nle c_811
            exfalso; omega
      · have e_807 : 0 < x_805.toInt := i3_nle c_807
        refine lv_iload hx hb dX5_lookUp_79 (lv_at hl 3 rfl) ?_
        refine lv_iconst (v := 1) hx hb dX5_lookUp_81 (by decide) ?_
        refine lv_iadd hx hb dX5_lookUp_82 ?_
        refine lv_cst (y := 2) (by decide) ?_
        refine lv_goto (tgt := 88) hx hb dX5_lookUp_83 (by decide) ?_
        refine lv_istore (lv' := [(13, .int 2), (12, .int r_806), (11, .int x_805), (10, .int x_804), (9, .int 1), (8, .int 3), (7, .int x_3), (6, .int x_1), (0, .ref o_t), (1, .int p1), (2, .int p2), (3, .int p3), (4, .int p4), (5, .int p5)]) hx hb dX5_lookUp_88 hl (by decide) rfl (fun ls hl => ?_)
        refine lv_aload_n hx hb dX5_lookUp_90 rfl (lv_at hl 8 rfl) ?_
        refine lv_iload hx hb dX5_lookUp_91 (lv_at hl 1 rfl) ?_
        refine lv_iload hx hb dX5_lookUp_93 (lv_at hl 0 rfl) ?_
        refine call_i (va_runV (As := [.int r_806, .int 2]) (rest := []) ⟨hx, hb, hml, hown, hts⟩ (q_whyAbsent l E o_t a_t_numbers a_t_lefts a_t_falls f_t_lateCorner f_t_earlyCorner r_806 2 g_t_lefts r_f_t_lateCorner r_f_t_earlyCorner i_g_t_lefts (RG.mk (by omega)) H.size) (cwV 2 hts g_q_lookUp_q_whyAbsent_51 rfl rfl rfl (by decide +kernel) ⟨Nat.le_of_ble_eq_true rfl, Nat.le_of_ble_eq_true rfl⟩) (pre_V hK hN hZ hS (va_free hD hS hA [0, 1] rfl) (hP.sub (ws' := [(o_t, .inr (5, [.ref a_t_numbers, .ref a_t_lefts, .ref a_t_falls, .int f_t_lateCorner, .int f_t_earlyCorner])), (a_t_lefts, aI E 64 g_t_lefts)]) [0, 1] rfl) (hD.sub (ws' := [(o_t, .inr (5, [.ref a_t_numbers, .ref a_t_lefts, .ref a_t_falls, .int f_t_lateCorner, .int f_t_earlyCorner])), (a_t_lefts, aI E 64 g_t_lefts)]) [0, 1] (by decide) rfl) (ci := 5) (q0 := 0) rfl rfl) rfl rfl hl.1 rfl (lv_room (Nat.le_of_ble_eq_true rfl)) dX5_lookUp_95 ⟨Nat.le_of_ble_eq_true rfl, Nat.le_of_ble_eq_true rfl⟩) hP hD hS hA [0, 1] [2] (wr := [(a_t_numbers, aI E 192 g_t_numbers)]) rfl rfl (by decide) (by decide) (fun r_829 w H locs hw hP hD hS => ?_)
        obtain ⟨b_r_829, rfl⟩ := hw
        replace hP : va_P E.1 vwCl [(a_t_numbers, aI E 192 g_t_numbers), (o_t, .inr (5, [.ref a_t_numbers, .ref a_t_lefts, .ref a_t_falls, .int f_t_lateCorner, .int f_t_earlyCorner])), (a_t_lefts, aI E 64 g_t_lefts)] H := hP
        replace hD : va_D A [(a_t_numbers, aI E 192 g_t_numbers), (o_t, .inr (5, [.ref a_t_numbers, .ref a_t_lefts, .ref a_t_falls, .int f_t_lateCorner, .int f_t_earlyCorner])), (a_t_lefts, aI E 64 g_t_lefts)] := hD
        refine lv_istore (lv' := [(14, .int r_829), (13, .int 2), (12, .int r_806), (11, .int x_805), (10, .int x_804), (9, .int 1), (8, .int 3), (7, .int x_3), (6, .int x_1), (0, .ref o_t), (1, .int p1), (2, .int p2), (3, .int p3), (4, .int p4), (5, .int p5)]) hx hb dX5_lookUp_98 hl (by decide) rfl (fun ls hl => ?_)
        refine lv_iload hx hb dX5_lookUp_100 (lv_at hl 0 rfl) ?_
        refine lv_if_ne (tgt := 122) hx hb dX5_lookUp_102 (by decide) (fun c_830 => ?_) (fun c_830 => ?_)
        · have e_830 : r_829.toInt ≠ 0 := i3_ne c_830
          refine lv_iload hx hb dX5_lookUp_122 (lv_at hl 0 rfl) ?_
          refine lv_if_eq (tgt := 130) hx hb dX5_lookUp_124 (by decide) (fun c_831 => ?_) (fun c_831 => ?_)
          · have e_831 : r_829.toInt = 0 := i3_eq c_831
            exfalso; omega
          · have e_831 : r_829.toInt ≠ 0 := i3_ne c_831
            refine lv_iload hx hb dX5_lookUp_127 (lv_at hl 0 rfl) ?_
            exact ret_i hx hb hr hlk (hP.sub (ws' := [(o_t, .inr (5, [.ref a_t_numbers, .ref a_t_lefts, .ref a_t_falls, .int f_t_lateCorner, .int f_t_earlyCorner])), (a_t_lefts, aI E 64 g_t_lefts), (a_t_numbers, aI E 192 g_t_numbers)]) [1, 2, 0] rfl) (hD.sub (ws' := [(o_t, .inr (5, [.ref a_t_numbers, .ref a_t_lefts, .ref a_t_falls, .int f_t_lateCorner, .int f_t_earlyCorner])), (a_t_lefts, aI E 64 g_t_lefts), (a_t_numbers, aI E 192 g_t_numbers)]) [1, 2, 0] (by decide) rfl) hS rfl dX5_lookUp_129 (Nat.le_of_ble_eq_true rfl) (Nat.le_of_ble_eq_true rfl) ⟨trivial, rfl⟩
        · have e_830 : r_829.toInt = 0 := i3_eq c_830
          refine lv_iload hx hb dX5_lookUp_105 (lv_at hl 4 rfl) ?_
          refine lv_if_le (tgt := 122) hx hb dX5_lookUp_107 (by decide) (fun c_832 => ?_) (fun c_832 => ?_)
          · have e_832 : x_804.toInt ≤ 0 := i3_le c_832
            refine lv_iload hx hb dX5_lookUp_122 (lv_at hl 0 rfl) ?_
            refine lv_if_eq (tgt := 130) hx hb dX5_lookUp_124 (by decide) (fun c_833 => ?_) (fun c_833 => ?_)
            · have e_833 : r_829.toInt = 0 := i3_eq c_833
              refine lv_iload hx hb dX5_lookUp_130 (lv_at hl 4 rfl) ?_
              refine lv_if_le (tgt := 153) hx hb dX5_lookUp_132 (by decide) (fun c_834 => ?_) (fun c_834 => ?_)
              · have e_834 : x_804.toInt ≤ 0 := i3_le c_834
                refine lv_iconst (v := 1) hx hb dX5_lookUp_153 (by decide) ?_
                refine lv_istore (lv' := [(15, .int 1), (14, .int r_829), (13, .int 2), (12, .int r_806), (11, .int x_805), (10, .int x_804), (9, .int 1), (8, .int 3), (7, .int x_3), (6, .int x_1), (0, .ref o_t), (1, .int p1), (2, .int p2), (3, .int p3), (4, .int p4), (5, .int p5)]) hx hb dX5_lookUp_154 hl (by decide) rfl (fun ls hl => ?_)
                refine lv_iload hx hb dX5_lookUp_156 (lv_at hl 4 rfl) ?_
                refine lv_if_le (tgt := 179) hx hb dX5_lookUp_158 (by decide) (fun c_835 => ?_) (fun c_835 => ?_)
                · have e_835 : x_805.toInt ≤ 0 := i3_le c_835
                  exfalso; omega
                · have e_835 : 0 < x_805.toInt := i3_nle c_835
                  refine va_gets (C := "TimingHouse$Tables") (n := "SLOPE_MARKS") (d := "[I") (own := RX5) (ref := "TimingHouse$Tables") hx hb hZ.2.1.1 hS hown (hto (.fieldLink RX5 40 "TimingHouse$Tables" "SLOPE_MARKS" "[I") (by decide +kernel)) (fun _ h9 => h9) dX5_lookUp_161 ?_
                  refine lv_iload hx hb dX5_lookUp_164 (lv_at hl 6 rfl) ?_
                  refine lv_iconst (v := 1) hx hb dX5_lookUp_166 (by decide) ?_
                  refine lv_iadd hx hb dX5_lookUp_167 ?_
                  refine lv_cst (y := 2) (by decide) ?_
                  refine va_ti (v := .int 64) hx hb hZ.2.1.2 hS (i3_in (by decide)) rfl dX5_lookUp_168 ?_
                  refine va_gets (C := "TimingHouse$Tables") (n := "SLOPE_MARKS") (d := "[I") (own := RX5) (ref := "TimingHouse$Tables") hx hb hZ.2.1.1 hS hown (hto (.fieldLink RX5 40 "TimingHouse$Tables" "SLOPE_MARKS" "[I") (by decide +kernel)) (fun _ h9 => h9) dX5_lookUp_169 ?_
                  refine lv_iload hx hb dX5_lookUp_172 (lv_at hl 6 rfl) ?_
                  refine va_ti (v := .int 16) hx hb hZ.2.1.2 hS (i3_in (by decide)) rfl dX5_lookUp_174 ?_
                  refine lv_isub hx hb dX5_lookUp_175 ?_
                  refine lv_cst (y := 48) (by decide) ?_
                  refine lv_goto (tgt := 180) hx hb dX5_lookUp_176 (by decide) ?_
                  refine lv_istore (lv' := [(16, .int 48), (15, .int 1), (14, .int r_829), (13, .int 2), (12, .int r_806), (11, .int x_805), (10, .int x_804), (9, .int 1), (8, .int 3), (7, .int x_3), (6, .int x_1), (0, .ref o_t), (1, .int p1), (2, .int p2), (3, .int p3), (4, .int p4), (5, .int p5)]) hx hb dX5_lookUp_180 hl (by decide) rfl (fun ls hl => ?_)
                  refine lv_iload hx hb dX5_lookUp_182 (lv_at hl 1 rfl) ?_
                  refine lv_iload hx hb dX5_lookUp_184 (lv_at hl 6 rfl) ?_
                  refine lv_isub hx hb dX5_lookUp_186 ?_
                  refine lv_topi (fun x_836 ex_836 => ?_)
                  have tx_836 : x_836.toInt = 1 - x_804.toInt := i3_subc rfl rfl ex_836 (by omega)
                  refine lv_aload_n hx hb dX5_lookUp_187 rfl (lv_at hl 11 rfl) ?_
                  refine lv_iload hx hb dX5_lookUp_188 (lv_at hl 4 rfl) ?_
                  refine lv_iload hx hb dX5_lookUp_190 (lv_at hl 7 rfl) ?_
                  refine lv_iload hx hb dX5_lookUp_192 (lv_at hl 5 rfl) ?_
                  refine lv_iload hx hb dX5_lookUp_194 (lv_at hl 0 rfl) ?_
                  refine call_i (va_runV (As := [.int r_806, .int 1, .int x_805, .int 48]) (rest := [.int x_836]) ⟨hx, hb, hml, hown, hts⟩ (q_weighRow1 l E o_t a_t_numbers a_t_lefts a_t_falls f_t_lateCorner f_t_earlyCorner r_806 1 x_805 48 g_t_numbers r_f_t_lateCorner r_f_t_earlyCorner i_g_t_numbers (RG.mk (by omega)) (RG.mk (by decide)) H.size) (cwV 4 hts g_q_lookUp_q_weighRow1_54 rfl rfl rfl (by decide +kernel) ⟨Nat.le_of_ble_eq_true rfl, Nat.le_of_ble_eq_true rfl⟩) (pre_V hK hN hZ hS (va_free hD hS hA [1, 0] rfl) (hP.sub (ws' := [(o_t, .inr (5, [.ref a_t_numbers, .ref a_t_lefts, .ref a_t_falls, .int f_t_lateCorner, .int f_t_earlyCorner])), (a_t_numbers, aI E 192 g_t_numbers)]) [1, 0] rfl) (hD.sub (ws' := [(o_t, .inr (5, [.ref a_t_numbers, .ref a_t_lefts, .ref a_t_falls, .int f_t_lateCorner, .int f_t_earlyCorner])), (a_t_numbers, aI E 192 g_t_numbers)]) [1, 0] (by decide) rfl) (ci := 5) (q0 := 0) rfl rfl) rfl rfl hl.1 rfl (lv_room (Nat.le_of_ble_eq_true rfl)) dX5_lookUp_196 ⟨Nat.le_of_ble_eq_true rfl, Nat.le_of_ble_eq_true rfl⟩) hP hD hS hA [1, 0] [2] (wr := [(a_t_lefts, aI E 64 g_t_lefts)]) rfl rfl (by decide) (by decide) (fun r_837 w H locs hw hP hD hS => ?_)
                  obtain ⟨b_r_837, rfl⟩ := hw
                  replace hP : va_P E.1 vwCl [(a_t_lefts, aI E 64 g_t_lefts), (o_t, .inr (5, [.ref a_t_numbers, .ref a_t_lefts, .ref a_t_falls, .int f_t_lateCorner, .int f_t_earlyCorner])), (a_t_numbers, aI E 192 g_t_numbers)] H := hP
                  replace hD : va_D A [(a_t_lefts, aI E 64 g_t_lefts), (o_t, .inr (5, [.ref a_t_numbers, .ref a_t_lefts, .ref a_t_falls, .int f_t_lateCorner, .int f_t_earlyCorner])), (a_t_numbers, aI E 192 g_t_numbers)] := hD
                  refine lv_imul hx hb dX5_lookUp_199 ?_
                  refine lv_topi (fun x_838 ex_838 => ?_)
                  have bd_839 := i3_bd r_837
                  refine lv_istore (lv' := [(17, .int x_838), (16, .int 48), (15, .int 1), (14, .int r_829), (13, .int 2), (12, .int r_806), (11, .int x_805), (10, .int x_804), (9, .int 1), (8, .int 3), (7, .int x_3), (6, .int x_1), (0, .ref o_t), (1, .int p1), (2, .int p2), (3, .int p3), (4, .int p4), (5, .int p5)]) hx hb dX5_lookUp_200 hl (by decide) rfl (fun ls hl => ?_)
                  refine lv_iload hx hb dX5_lookUp_202 (lv_at hl 7 rfl) ?_
                  refine lv_if_le (tgt := 229) hx hb dX5_lookUp_204 (by decide) (fun c_840 => ?_) (fun c_840 => ?_)
                  · have e_840 : x_804.toInt ≤ 0 := i3_le c_840
                    refine lv_iload hx hb dX5_lookUp_229 (lv_at hl 2 rfl) ?_
                    refine lv_iload hx hb dX5_lookUp_231 (lv_at hl 1 rfl) ?_
                    refine lv_imul hx hb dX5_lookUp_233 ?_
                    refine lv_cst (y := 48) (by decide) ?_
                    refine lv_istore (lv' := [(18, .int 48), (17, .int x_838), (16, .int 48), (15, .int 1), (14, .int r_829), (13, .int 2), (12, .int r_806), (11, .int x_805), (10, .int x_804), (9, .int 1), (8, .int 3), (7, .int x_3), (6, .int x_1), (0, .ref o_t), (1, .int p1), (2, .int p2), (3, .int p3), (4, .int p4), (5, .int p5)]) hx hb dX5_lookUp_234 hl (by decide) rfl (fun ls hl => ?_)
                    refine lv_iload hx hb dX5_lookUp_236 (lv_at hl 18 rfl) ?_
                    have b_p5 := r_p5.out
                    refine lv_if_eq (tgt := 254) hx hb dX5_lookUp_238 (by decide) (fun c_841 => ?_) (fun c_841 => ?_)
                    · have e_841 : p5.toInt = 0 := i3_eq c_841
                      refine lv_iload hx hb dX5_lookUp_254 (lv_at hl 1 rfl) ?_
                      refine lv_iload hx hb dX5_lookUp_256 (lv_at hl 0 rfl) ?_
                      refine lv_idiv hx hb dX5_lookUp_258 (by decide) ?_
                      refine lv_topi (fun x_842 ex_842 => ?_)
                      have bd_843 := i3_bd x_838
                      exact ret_i hx hb hr hlk (hP.sub (ws' := [(o_t, .inr (5, [.ref a_t_numbers, .ref a_t_lefts, .ref a_t_falls, .int f_t_lateCorner, .int f_t_earlyCorner])), (a_t_lefts, aI E 64 g_t_lefts), (a_t_numbers, aI E 192 g_t_numbers)]) [1, 0, 2] rfl) (hD.sub (ws' := [(o_t, .inr (5, [.ref a_t_numbers, .ref a_t_lefts, .ref a_t_falls, .int f_t_lateCorner, .int f_t_earlyCorner])), (a_t_lefts, aI E 64 g_t_lefts), (a_t_numbers, aI E 192 g_t_numbers)]) [1, 0, 2] (by decide) rfl) hS rfl dX5_lookUp_259 (Nat.le_of_ble_eq_true rfl) (Nat.le_of_ble_eq_true rfl) ⟨trivial, rfl⟩
                    · have e_841 : p5.toInt ≠ 0 := i3_ne c_841
                      refine lv_iload hx hb dX5_lookUp_241 (lv_at hl 1 rfl) ?_
                      refine lv_iload hx hb dX5_lookUp_243 (lv_at hl 0 rfl) ?_
                      refine lv_iadd hx hb dX5_lookUp_245 ?_
                      refine lv_topi (fun x_844 ex_844 => ?_)
                      have bd_845 := i3_bd x_838
                      refine lv_iconst (v := 1) hx hb dX5_lookUp_246 (by decide) ?_
                      refine lv_isub hx hb dX5_lookUp_247 ?_
                      refine lv_topi (fun x_846 ex_846 => ?_)
                      have bd_847 := i3_bd x_844
                      refine lv_iload hx hb dX5_lookUp_248 (lv_at hl 0 rfl) ?_
                      refine lv_idiv hx hb dX5_lookUp_250 (by decide) ?_
                      refine lv_topi (fun x_848 ex_848 => ?_)
                      have bd_849 := i3_bd x_846
                      refine lv_goto (tgt := 259) hx hb dX5_lookUp_251 (by decide) ?_
                      exact ret_i hx hb hr hlk (hP.sub (ws' := [(o_t, .inr (5, [.ref a_t_numbers, .ref a_t_lefts, .ref a_t_falls, .int f_t_lateCorner, .int f_t_earlyCorner])), (a_t_lefts, aI E 64 g_t_lefts), (a_t_numbers, aI E 192 g_t_numbers)]) [1, 0, 2] rfl) (hD.sub (ws' := [(o_t, .inr (5, [.ref a_t_numbers, .ref a_t_lefts, .ref a_t_falls, .int f_t_lateCorner, .int f_t_earlyCorner])), (a_t_lefts, aI E 64 g_t_lefts), (a_t_numbers, aI E 192 g_t_numbers)]) [1, 0, 2] (by decide) rfl) hS rfl dX5_lookUp_259 (Nat.le_of_ble_eq_true rfl) (Nat.le_of_ble_eq_true rfl) ⟨trivial, rfl⟩
                  · have e_840 : 0 < x_804.toInt := i3_nle c_840
                    exfalso; omega
              · have e_834 : 0 < x_804.toInt := i3_nle c_834
                exfalso; omega
            · have e_833 : r_829.toInt ≠ 0 := i3_ne c_833
              exfalso; omega
          · have e_832 : 0 < x_804.toInt := i3_nle c_832
            exfalso; omega
    · have hs_h_757 := i3_cs (c := 2) h_757 (by decide)
      subst hs_h_757
      have hk_h_757 : (2 : Int32).toInt = 2 := rfl
      refine lv_iload hx hb dX5_lookUp_43 (lv_at hl 3 rfl) ?_
      refine va_gets (C := "TimingHouse$Tables") (n := "LOAD_MARKS") (d := "[I") (own := RX5) (ref := "TimingHouse$Tables") hx hb hZ.1.1 hS hown (hto (.fieldLink RX5 31 "TimingHouse$Tables" "LOAD_MARKS" "[I") (by decide +kernel)) (fun _ h9 => h9) dX5_lookUp_45 ?_
      refine lv_iload hx hb dX5_lookUp_48 (lv_at hl 1 rfl) ?_
      refine va_ti (v := .int 64) hx hb hZ.1.2 hS (i3_in (by decide)) rfl dX5_lookUp_50 ?_
      refine lv_isub hx hb dX5_lookUp_51 ?_
      refine lv_topi (fun x_850 ex_850 => ?_)
      have tx_850 : x_850.toInt = x_1.toInt - 64 := i3_subc rfl rfl ex_850 (by omega)
      refine lv_istore (lv' := [(10, .int x_850), (9, .int 2), (8, .int 3), (7, .int x_3), (6, .int x_1), (0, .ref o_t), (1, .int p1), (2, .int p2), (3, .int p3), (4, .int p4), (5, .int p5)]) hx hb dX5_lookUp_52 hl (by decide) rfl (fun ls hl => ?_)
      refine lv_iload hx hb dX5_lookUp_54 (lv_at hl 3 rfl) ?_
      refine va_gets (C := "TimingHouse$Tables") (n := "SLOPE_MARKS") (d := "[I") (own := RX5) (ref := "TimingHouse$Tables") hx hb hZ.2.1.1 hS hown (hto (.fieldLink RX5 40 "TimingHouse$Tables" "SLOPE_MARKS" "[I") (by decide +kernel)) (fun _ h9 => h9) dX5_lookUp_56 ?_
      refine lv_iload hx hb dX5_lookUp_59 (lv_at hl 1 rfl) ?_
      refine va_ti (v := .int 64) hx hb hZ.2.1.2 hS (i3_in (by decide)) rfl dX5_lookUp_61 ?_
      refine lv_isub hx hb dX5_lookUp_62 ?_
      refine lv_topi (fun x_851 ex_851 => ?_)
      have tx_851 : x_851.toInt = x_3.toInt - 64 := i3_subc rfl rfl ex_851 (by omega)
      refine lv_istore (lv' := [(11, .int x_851), (10, .int x_850), (9, .int 2), (8, .int 3), (7, .int x_3), (6, .int x_1), (0, .ref o_t), (1, .int p1), (2, .int p2), (3, .int p3), (4, .int p4), (5, .int p5)]) hx hb dX5_lookUp_63 hl (by decide) rfl (fun ls hl => ?_)
      refine lv_iload_n hx hb dX5_lookUp_65 rfl (lv_at hl 7 rfl) ?_
      refine lv_iload_n hx hb dX5_lookUp_66 rfl (lv_at hl 8 rfl) ?_
      refine lv_iload hx hb dX5_lookUp_67 (lv_at hl 3 rfl) ?_
      have b_p1 := r_p1.out
      have b_p2 := r_p2.out
      refine call_i (va_runS (As := [.int p1, .int p2, .int 3]) (rest := []) ⟨hx, hb, hml, hown, hts⟩ (q_rowPlace l E p1 p2 3 r_p1 r_p2 (RG.mk (by decide)) H.size) (va_cwS 3 hts g_q_lookUp_q_rowPlace_47 rfl rfl rfl (by decide +kernel) ⟨Nat.le_of_ble_eq_true rfl, Nat.le_of_ble_eq_true rfl⟩) (pre_S hK hN hZ hS (va_free hD hS hA [] rfl) (hP.sub (ws' := []) [] rfl) (hD.sub (ws' := []) [] (by decide) rfl)) rfl rfl hl.1 rfl (lv_room (Nat.le_of_ble_eq_true rfl)) dX5_lookUp_69 ⟨Nat.le_of_ble_eq_true rfl, Nat.le_of_ble_eq_true rfl⟩) hP hD hS hA [] [0, 1, 2] (wr := [(o_t, .inr (5, [.ref a_t_numbers, .ref a_t_lefts, .ref a_t_falls, .int f_t_lateCorner, .int f_t_earlyCorner])), (a_t_lefts, aI E 64 g_t_lefts), (a_t_numbers, aI E 192 g_t_numbers)]) rfl rfl (by decide) (by decide) (fun r_852 w H locs hw hP hD hS => ?_)
      obtain ⟨b_r_852, l_r_852, rfl⟩ := hw
      replace l_r_852 : r_852.toInt = (p1.toInt * 2 + p2.toInt) * 4 + 3 := l_r_852
      replace hP : va_P E.1 vwCl [(o_t, .inr (5, [.ref a_t_numbers, .ref a_t_lefts, .ref a_t_falls, .int f_t_lateCorner, .int f_t_earlyCorner])), (a_t_lefts, aI E 64 g_t_lefts), (a_t_numbers, aI E 192 g_t_numbers)] H := hP
      replace hD : va_D A [(o_t, .inr (5, [.ref a_t_numbers, .ref a_t_lefts, .ref a_t_falls, .int f_t_lateCorner, .int f_t_earlyCorner])), (a_t_lefts, aI E 64 g_t_lefts), (a_t_numbers, aI E 192 g_t_numbers)] := hD
      refine lv_istore (lv' := [(12, .int r_852), (11, .int x_851), (10, .int x_850), (9, .int 2), (8, .int 3), (7, .int x_3), (6, .int x_1), (0, .ref o_t), (1, .int p1), (2, .int p2), (3, .int p3), (4, .int p4), (5, .int p5)]) hx hb dX5_lookUp_72 hl (by decide) rfl (fun ls hl => ?_)
      refine lv_iload hx hb dX5_lookUp_74 (lv_at hl 1 rfl) ?_
      refine lv_if_le (tgt := 86) hx hb dX5_lookUp_76 (by decide) (fun c_853 => ?_) (fun c_853 => ?_)
      · have e_853 : x_851.toInt ≤ 0 := i3_le c_853
        refine lv_iload hx hb dX5_lookUp_86 (lv_at hl 3 rfl) ?_
        refine lv_istore (lv' := [(13, .int 2), (12, .int r_852), (11, .int x_851), (10, .int x_850), (9, .int 2), (8, .int 3), (7, .int x_3), (6, .int x_1), (0, .ref o_t), (1, .int p1), (2, .int p2), (3, .int p3), (4, .int p4), (5, .int p5)]) hx hb dX5_lookUp_88 hl (by decide) rfl (fun ls hl => ?_)
        refine lv_aload_n hx hb dX5_lookUp_90 rfl (lv_at hl 8 rfl) ?_
        refine lv_iload hx hb dX5_lookUp_91 (lv_at hl 1 rfl) ?_
        refine lv_iload hx hb dX5_lookUp_93 (lv_at hl 0 rfl) ?_
        refine call_i (va_runV (As := [.int r_852, .int 2]) (rest := []) ⟨hx, hb, hml, hown, hts⟩ (q_whyAbsent l E o_t a_t_numbers a_t_lefts a_t_falls f_t_lateCorner f_t_earlyCorner r_852 2 g_t_lefts r_f_t_lateCorner r_f_t_earlyCorner i_g_t_lefts (RG.mk (by omega)) H.size) (cwV 2 hts g_q_lookUp_q_whyAbsent_51 rfl rfl rfl (by decide +kernel) ⟨Nat.le_of_ble_eq_true rfl, Nat.le_of_ble_eq_true rfl⟩) (pre_V hK hN hZ hS (va_free hD hS hA [0, 1] rfl) (hP.sub (ws' := [(o_t, .inr (5, [.ref a_t_numbers, .ref a_t_lefts, .ref a_t_falls, .int f_t_lateCorner, .int f_t_earlyCorner])), (a_t_lefts, aI E 64 g_t_lefts)]) [0, 1] rfl) (hD.sub (ws' := [(o_t, .inr (5, [.ref a_t_numbers, .ref a_t_lefts, .ref a_t_falls, .int f_t_lateCorner, .int f_t_earlyCorner])), (a_t_lefts, aI E 64 g_t_lefts)]) [0, 1] (by decide) rfl) (ci := 5) (q0 := 0) rfl rfl) rfl rfl hl.1 rfl (lv_room (Nat.le_of_ble_eq_true rfl)) dX5_lookUp_95 ⟨Nat.le_of_ble_eq_true rfl, Nat.le_of_ble_eq_true rfl⟩) hP hD hS hA [0, 1] [2] (wr := [(a_t_numbers, aI E 192 g_t_numbers)]) rfl rfl (by decide) (by decide) (fun r_854 w H locs hw hP hD hS => ?_)
        obtain ⟨b_r_854, rfl⟩ := hw
        replace hP : va_P E.1 vwCl [(a_t_numbers, aI E 192 g_t_numbers), (o_t, .inr (5, [.ref a_t_numbers, .ref a_t_lefts, .ref a_t_falls, .int f_t_lateCorner, .int f_t_earlyCorner])), (a_t_lefts, aI E 64 g_t_lefts)] H := hP
        replace hD : va_D A [(a_t_numbers, aI E 192 g_t_numbers), (o_t, .inr (5, [.ref a_t_numbers, .ref a_t_lefts, .ref a_t_falls, .int f_t_lateCorner, .int f_t_earlyCorner])), (a_t_lefts, aI E 64 g_t_lefts)] := hD
        refine lv_istore (lv' := [(14, .int r_854), (13, .int 2), (12, .int r_852), (11, .int x_851), (10, .int x_850), (9, .int 2), (8, .int 3), (7, .int x_3), (6, .int x_1), (0, .ref o_t), (1, .int p1), (2, .int p2), (3, .int p3), (4, .int p4), (5, .int p5)]) hx hb dX5_lookUp_98 hl (by decide) rfl (fun ls hl => ?_)
        refine lv_iload hx hb dX5_lookUp_100 (lv_at hl 0 rfl) ?_
        refine lv_if_ne (tgt := 122) hx hb dX5_lookUp_102 (by decide) (fun c_855 => ?_) (fun c_855 => ?_)
        · have e_855 : r_854.toInt ≠ 0 := i3_ne c_855
          refine lv_iload hx hb dX5_lookUp_122 (lv_at hl 0 rfl) ?_
          refine lv_if_eq (tgt := 130) hx hb dX5_lookUp_124 (by decide) (fun c_856 => ?_) (fun c_856 => ?_)
          · have e_856 : r_854.toInt = 0 := i3_eq c_856
            exfalso; omega
          · have e_856 : r_854.toInt ≠ 0 := i3_ne c_856
            refine lv_iload hx hb dX5_lookUp_127 (lv_at hl 0 rfl) ?_
            exact ret_i hx hb hr hlk (hP.sub (ws' := [(o_t, .inr (5, [.ref a_t_numbers, .ref a_t_lefts, .ref a_t_falls, .int f_t_lateCorner, .int f_t_earlyCorner])), (a_t_lefts, aI E 64 g_t_lefts), (a_t_numbers, aI E 192 g_t_numbers)]) [1, 2, 0] rfl) (hD.sub (ws' := [(o_t, .inr (5, [.ref a_t_numbers, .ref a_t_lefts, .ref a_t_falls, .int f_t_lateCorner, .int f_t_earlyCorner])), (a_t_lefts, aI E 64 g_t_lefts), (a_t_numbers, aI E 192 g_t_numbers)]) [1, 2, 0] (by decide) rfl) hS rfl dX5_lookUp_129 (Nat.le_of_ble_eq_true rfl) (Nat.le_of_ble_eq_true rfl) ⟨trivial, rfl⟩
        · have e_855 : r_854.toInt = 0 := i3_eq c_855
          refine lv_iload hx hb dX5_lookUp_105 (lv_at hl 4 rfl) ?_
          refine lv_if_le (tgt := 122) hx hb dX5_lookUp_107 (by decide) (fun c_857 => ?_) (fun c_857 => ?_)
          · have e_857 : x_850.toInt ≤ 0 := i3_le c_857
            refine lv_iload hx hb dX5_lookUp_122 (lv_at hl 0 rfl) ?_
            refine lv_if_eq (tgt := 130) hx hb dX5_lookUp_124 (by decide) (fun c_858 => ?_) (fun c_858 => ?_)
            · have e_858 : r_854.toInt = 0 := i3_eq c_858
              refine lv_iload hx hb dX5_lookUp_130 (lv_at hl 4 rfl) ?_
              refine lv_if_le (tgt := 153) hx hb dX5_lookUp_132 (by decide) (fun c_859 => ?_) (fun c_859 => ?_)
              · have e_859 : x_850.toInt ≤ 0 := i3_le c_859
                refine lv_iconst (v := 1) hx hb dX5_lookUp_153 (by decide) ?_
                refine lv_istore (lv' := [(15, .int 1), (14, .int r_854), (13, .int 2), (12, .int r_852), (11, .int x_851), (10, .int x_850), (9, .int 2), (8, .int 3), (7, .int x_3), (6, .int x_1), (0, .ref o_t), (1, .int p1), (2, .int p2), (3, .int p3), (4, .int p4), (5, .int p5)]) hx hb dX5_lookUp_154 hl (by decide) rfl (fun ls hl => ?_)
                refine lv_iload hx hb dX5_lookUp_156 (lv_at hl 4 rfl) ?_
                refine lv_if_le (tgt := 179) hx hb dX5_lookUp_158 (by decide) (fun c_860 => ?_) (fun c_860 => ?_)
                · have e_860 : x_851.toInt ≤ 0 := i3_le c_860
                  refine lv_iconst (v := 1) hx hb dX5_lookUp_179 (by decide) ?_
                  refine lv_istore (lv' := [(16, .int 1), (15, .int 1), (14, .int r_854), (13, .int 2), (12, .int r_852), (11, .int x_851), (10, .int x_850), (9, .int 2), (8, .int 3), (7, .int x_3), (6, .int x_1), (0, .ref o_t), (1, .int p1), (2, .int p2), (3, .int p3), (4, .int p4), (5, .int p5)]) hx hb dX5_lookUp_180 hl (by decide) rfl (fun ls hl => ?_)
                  refine lv_iload hx hb dX5_lookUp_182 (lv_at hl 1 rfl) ?_
                  refine lv_iload hx hb dX5_lookUp_184 (lv_at hl 6 rfl) ?_
                  refine lv_isub hx hb dX5_lookUp_186 ?_
                  refine lv_topi (fun x_861 ex_861 => ?_)
                  have tx_861 : x_861.toInt = 1 - x_850.toInt := i3_subc rfl rfl ex_861 (by omega)
                  refine lv_aload_n hx hb dX5_lookUp_187 rfl (lv_at hl 11 rfl) ?_
                  refine lv_iload hx hb dX5_lookUp_188 (lv_at hl 4 rfl) ?_
                  refine lv_iload hx hb dX5_lookUp_190 (lv_at hl 7 rfl) ?_
                  refine lv_iload hx hb dX5_lookUp_192 (lv_at hl 5 rfl) ?_
                  refine lv_iload hx hb dX5_lookUp_194 (lv_at hl 0 rfl) ?_
                  refine call_i (va_runV (As := [.int r_852, .int 2, .int x_851, .int 1]) (rest := [.int x_861]) ⟨hx, hb, hml, hown, hts⟩ (q_weighRow2 l E o_t a_t_numbers a_t_lefts a_t_falls f_t_lateCorner f_t_earlyCorner r_852 2 x_851 1 g_t_numbers r_f_t_lateCorner r_f_t_earlyCorner i_g_t_numbers (RG.mk (by omega)) (RG.mk (by decide)) (RG.mk (by omega)) H.size) (cwV 4 hts g_q_lookUp_q_weighRow2_54 rfl rfl rfl (by decide +kernel) ⟨Nat.le_of_ble_eq_true rfl, Nat.le_of_ble_eq_true rfl⟩) (pre_V hK hN hZ hS (va_free hD hS hA [1, 0] rfl) (hP.sub (ws' := [(o_t, .inr (5, [.ref a_t_numbers, .ref a_t_lefts, .ref a_t_falls, .int f_t_lateCorner, .int f_t_earlyCorner])), (a_t_numbers, aI E 192 g_t_numbers)]) [1, 0] rfl) (hD.sub (ws' := [(o_t, .inr (5, [.ref a_t_numbers, .ref a_t_lefts, .ref a_t_falls, .int f_t_lateCorner, .int f_t_earlyCorner])), (a_t_numbers, aI E 192 g_t_numbers)]) [1, 0] (by decide) rfl) (ci := 5) (q0 := 0) rfl rfl) rfl rfl hl.1 rfl (lv_room (Nat.le_of_ble_eq_true rfl)) dX5_lookUp_196 ⟨Nat.le_of_ble_eq_true rfl, Nat.le_of_ble_eq_true rfl⟩) hP hD hS hA [1, 0] [2] (wr := [(a_t_lefts, aI E 64 g_t_lefts)]) rfl rfl (by decide) (by decide) (fun r_862 w H locs hw hP hD hS => ?_)
                  obtain ⟨b_r_862, rfl⟩ := hw
                  replace hP : va_P E.1 vwCl [(a_t_lefts, aI E 64 g_t_lefts), (o_t, .inr (5, [.ref a_t_numbers, .ref a_t_lefts, .ref a_t_falls, .int f_t_lateCorner, .int f_t_earlyCorner])), (a_t_numbers, aI E 192 g_t_numbers)] H := hP
                  replace hD : va_D A [(a_t_lefts, aI E 64 g_t_lefts), (o_t, .inr (5, [.ref a_t_numbers, .ref a_t_lefts, .ref a_t_falls, .int f_t_lateCorner, .int f_t_earlyCorner])), (a_t_numbers, aI E 192 g_t_numbers)] := hD
                  refine lv_imul hx hb dX5_lookUp_199 ?_
                  refine lv_topi (fun x_863 ex_863 => ?_)
                  have bd_864 := i3_bd r_862
                  refine lv_istore (lv' := [(17, .int x_863), (16, .int 1), (15, .int 1), (14, .int r_854), (13, .int 2), (12, .int r_852), (11, .int x_851), (10, .int x_850), (9, .int 2), (8, .int 3), (7, .int x_3), (6, .int x_1), (0, .ref o_t), (1, .int p1), (2, .int p2), (3, .int p3), (4, .int p4), (5, .int p5)]) hx hb dX5_lookUp_200 hl (by decide) rfl (fun ls hl => ?_)
                  refine lv_iload hx hb dX5_lookUp_202 (lv_at hl 7 rfl) ?_
                  refine lv_if_le (tgt := 229) hx hb dX5_lookUp_204 (by decide) (fun c_865 => ?_) (fun c_865 => ?_)
                  · have e_865 : x_850.toInt ≤ 0 := i3_le c_865
                    refine lv_iload hx hb dX5_lookUp_229 (lv_at hl 2 rfl) ?_
                    refine lv_iload hx hb dX5_lookUp_231 (lv_at hl 1 rfl) ?_
                    refine lv_imul hx hb dX5_lookUp_233 ?_
                    refine lv_cst (y := 1) (by decide) ?_
                    refine lv_istore (lv' := [(18, .int 1), (17, .int x_863), (16, .int 1), (15, .int 1), (14, .int r_854), (13, .int 2), (12, .int r_852), (11, .int x_851), (10, .int x_850), (9, .int 2), (8, .int 3), (7, .int x_3), (6, .int x_1), (0, .ref o_t), (1, .int p1), (2, .int p2), (3, .int p3), (4, .int p4), (5, .int p5)]) hx hb dX5_lookUp_234 hl (by decide) rfl (fun ls hl => ?_)
                    refine lv_iload hx hb dX5_lookUp_236 (lv_at hl 18 rfl) ?_
                    have b_p5 := r_p5.out
                    refine lv_if_eq (tgt := 254) hx hb dX5_lookUp_238 (by decide) (fun c_866 => ?_) (fun c_866 => ?_)
                    · have e_866 : p5.toInt = 0 := i3_eq c_866
                      refine lv_iload hx hb dX5_lookUp_254 (lv_at hl 1 rfl) ?_
                      refine lv_iload hx hb dX5_lookUp_256 (lv_at hl 0 rfl) ?_
                      refine lv_idiv hx hb dX5_lookUp_258 (by decide) ?_
                      refine lv_topi (fun x_867 ex_867 => ?_)
                      have bd_868 := i3_bd x_863
                      exact ret_i hx hb hr hlk (hP.sub (ws' := [(o_t, .inr (5, [.ref a_t_numbers, .ref a_t_lefts, .ref a_t_falls, .int f_t_lateCorner, .int f_t_earlyCorner])), (a_t_lefts, aI E 64 g_t_lefts), (a_t_numbers, aI E 192 g_t_numbers)]) [1, 0, 2] rfl) (hD.sub (ws' := [(o_t, .inr (5, [.ref a_t_numbers, .ref a_t_lefts, .ref a_t_falls, .int f_t_lateCorner, .int f_t_earlyCorner])), (a_t_lefts, aI E 64 g_t_lefts), (a_t_numbers, aI E 192 g_t_numbers)]) [1, 0, 2] (by decide) rfl) hS rfl dX5_lookUp_259 (Nat.le_of_ble_eq_true rfl) (Nat.le_of_ble_eq_true rfl) ⟨trivial, rfl⟩
                    · have e_866 : p5.toInt ≠ 0 := i3_ne c_866
                      refine lv_iload hx hb dX5_lookUp_241 (lv_at hl 1 rfl) ?_
                      refine lv_iload hx hb dX5_lookUp_243 (lv_at hl 0 rfl) ?_
                      refine lv_iadd hx hb dX5_lookUp_245 ?_
                      refine lv_topi (fun x_869 ex_869 => ?_)
                      have bd_870 := i3_bd x_863
                      refine lv_iconst (v := 1) hx hb dX5_lookUp_246 (by decide) ?_
                      refine lv_isub hx hb dX5_lookUp_247 ?_
                      refine lv_topi (fun x_871 ex_871 => ?_)
                      have bd_872 := i3_bd x_869
                      refine lv_iload hx hb dX5_lookUp_248 (lv_at hl 0 rfl) ?_
                      refine lv_idiv hx hb dX5_lookUp_250 (by decide) ?_
                      refine lv_topi (fun x_873 ex_873 => ?_)
                      have bd_874 := i3_bd x_871
                      refine lv_goto (tgt := 259) hx hb dX5_lookUp_251 (by decide) ?_
                      exact ret_i hx hb hr hlk (hP.sub (ws' := [(o_t, .inr (5, [.ref a_t_numbers, .ref a_t_lefts, .ref a_t_falls, .int f_t_lateCorner, .int f_t_earlyCorner])), (a_t_lefts, aI E 64 g_t_lefts), (a_t_numbers, aI E 192 g_t_numbers)]) [1, 0, 2] rfl) (hD.sub (ws' := [(o_t, .inr (5, [.ref a_t_numbers, .ref a_t_lefts, .ref a_t_falls, .int f_t_lateCorner, .int f_t_earlyCorner])), (a_t_lefts, aI E 64 g_t_lefts), (a_t_numbers, aI E 192 g_t_numbers)]) [1, 0, 2] (by decide) rfl) hS rfl dX5_lookUp_259 (Nat.le_of_ble_eq_true rfl) (Nat.le_of_ble_eq_true rfl) ⟨trivial, rfl⟩
                  · have e_865 : 0 < x_850.toInt := i3_nle c_865
                    exfalso; omega
                · have e_860 : 0 < x_851.toInt := i3_nle c_860
                  exfalso; omega
              · have e_859 : 0 < x_850.toInt := i3_nle c_859
                exfalso; omega
            · have e_858 : r_854.toInt ≠ 0 := i3_ne c_858
              exfalso; omega
          · have e_857 : 0 < x_850.toInt := i3_nle c_857
            exfalso; omega
      · have e_853 : 0 < x_851.toInt := i3_nle c_853
        exfalso; omega
