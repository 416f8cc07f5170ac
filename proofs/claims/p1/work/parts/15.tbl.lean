theorem gt_of {ws : List Cond} (hg : GW ws) (ps : List Nat) (h : ps.map (fun i => lw_tbl[i]?) = ws.map some) : GoodIn lw_tbl ws := by
  intro w hw
  refine ⟨?_, hg w hw⟩
  have h1 : some w ∈ ps.map (fun i => lw_tbl[i]?) := by rw [h]; exact List.mem_map.mpr ⟨w, hw, rfl⟩
  obtain ⟨i, -, hi⟩ := List.mem_map.mp h1
  exact List.mem_of_getElem? hi
theorem gt_nil : GoodIn lw_tbl [] := fun _ h => absurd h List.not_mem_nil
set_option maxRecDepth 20000 in
theorem gt_X0 : GoodIn lw_tbl wsX00 := gt_of (GW_of (by decide +kernel)) [220, 222, 224, 226, 228] (by decide +kernel)
set_option maxRecDepth 20000 in
theorem gt_X1 : GoodIn lw_tbl wsX10 := gt_of (GW_of (by decide +kernel)) [137, 139, 141, 143, 145, 147, 149, 151, 153, 155, 157, 159, 161] (by decide +kernel)
set_option maxRecDepth 20000 in
theorem gt_X2 : GoodIn lw_tbl wsX20 := gt_of (GW_of (by decide +kernel)) [368, 370, 372, 374, 376, 378, 380, 382, 384, 386, 388, 390, 392] (by decide +kernel)
set_option maxRecDepth 20000 in
theorem gt_X3 : GoodIn lw_tbl wsX30 := gt_of (GW_of (by decide +kernel)) [246, 248, 250, 252, 254, 256] (by decide +kernel)
set_option maxRecDepth 20000 in
theorem gt_X4 : GoodIn lw_tbl wsX40 := gt_of (GW_of (by decide +kernel)) [192, 194, 196, 198, 200, 202] (by decide +kernel)
set_option maxRecDepth 20000 in
theorem gt_X5 : GoodIn lw_tbl wsX50 := gt_of (GW_of (by decide +kernel)) [276, 278, 280, 282, 284] (by decide +kernel)
set_option maxRecDepth 20000 in
theorem gt_X6 : GoodIn lw_tbl wsX60 := gt_of (GW_of (by decide +kernel)) [320, 322, 324, 326, 328, 330, 332, 334, 336, 338, 340, 342] (by decide +kernel)
set_option maxRecDepth 20000 in
theorem gt_X7 : GoodIn lw_tbl wsX70 := gt_of (GW_of (by decide +kernel)) [413, 415, 417, 419, 421, 423, 425, 427, 429, 431, 433, 435] (by decide +kernel)
set_option maxRecDepth 20000 in
theorem gt_X8 : GoodIn lw_tbl wsX80 := gt_of (GW_of (by decide +kernel)) [460, 462, 464, 466, 468, 470, 472] (by decide +kernel)
set_option maxRecDepth 20000 in
theorem gt_X9 : GoodIn lw_tbl wsX90 := gt_of (GW_of (by decide +kernel)) [487, 489, 491, 493, 495, 497, 499, 501, 503, 505, 507, 509] (by decide +kernel)
set_option maxRecDepth 20000 in
theorem gt_X10 : GoodIn lw_tbl wsX100 := gt_of (GW_of (by decide +kernel)) [1087, 1089, 1091, 1093, 1095, 1097, 1099, 1101, 1103, 1105, 1107, 1109, 1111, 1113, 1115, 1117, 1119, 1121, 1123, 1125, 1127, 1129, 1131, 1133, 1135, 1137, 1139, 1141, 1143, 1145, 1147, 1149, 1151, 1153, 1155, 1157, 1159, 1161, 1163, 1165, 1167, 1169, 1171, 1173, 1175, 1177, 1179, 1181, 1183, 1185, 1187, 1189, 1191, 1193, 1195, 1197, 1199, 1201, 1203, 1205, 1207, 1209, 1211, 1213, 1215, 1217, 1219, 1221, 1223] (by decide +kernel)
set_option maxRecDepth 20000 in
theorem gt_k_within : GoodIn lw_tbl w_k_within := goodIn_app (gt_of (GW_of (by decide +kernel)) [524] (by decide +kernel)) (gt_nil)
set_option maxRecDepth 20000 in
theorem gt_k_thas : GoodIn lw_tbl w_k_thas := goodIn_app (gt_of (GW_of (by decide +kernel)) [518] (by decide +kernel)) (gt_nil)
set_option maxRecDepth 20000 in
theorem gt_k_isGateKind : GoodIn lw_tbl w_k_isGateKind := goodIn_app (gt_of (GW_of (by decide +kernel)) [521] (by decide +kernel)) (gt_nil)
set_option maxRecDepth 20000 in
theorem gt_k_hasRow : GoodIn lw_tbl w_k_hasRow := goodIn_app (gt_of (GW_of (by decide +kernel)) [610, 611, 517, 74] (by decide +kernel)) (goodIn_app gt_k_thas (gt_nil))
set_option maxRecDepth 20000 in
theorem gt_k_rowPlace : GoodIn lw_tbl w_k_rowPlace := goodIn_app (gt_of (GW_of (by decide +kernel)) [614] (by decide +kernel)) (gt_nil)
set_option maxRecDepth 20000 in
theorem gt_k_has0 : GoodIn lw_tbl w_k_has0 := goodIn_app (gt_of (GW_of (by decide +kernel)) [561, 101] (by decide +kernel)) (goodIn_app gt_X1 (gt_nil))
set_option maxRecDepth 20000 in
theorem gt_k_hasInput0 : GoodIn lw_tbl w_k_hasInput0 := goodIn_app (gt_of (GW_of (by decide +kernel)) [565, 566, 559, 560, 69] (by decide +kernel)) (goodIn_app gt_k_has0 (gt_nil))
set_option maxRecDepth 20000 in
theorem gt_k_hasOrRoot0 : GoodIn lw_tbl w_k_hasOrRoot0 := goodIn_app (gt_of (GW_of (by decide +kernel)) [599, 215] (by decide +kernel)) (goodIn_app gt_X0 (gt_nil))
set_option maxRecDepth 20000 in
theorem gt_k_earlyOf : GoodIn lw_tbl w_k_earlyOf := goodIn_app (gt_of (GW_of (by decide +kernel)) [651] (by decide +kernel)) (gt_nil)
set_option maxRecDepth 20000 in
theorem gt_k_lateOf : GoodIn lw_tbl w_k_lateOf := goodIn_app (gt_of (GW_of (by decide +kernel)) [655] (by decide +kernel)) (gt_nil)
set_option maxRecDepth 20000 in
theorem gt_k_forget : GoodIn lw_tbl w_k_forget := goodIn_app (gt_of (GW_of (by decide +kernel)) [528, 485, 486] (by decide +kernel)) (goodIn_app gt_X9 (gt_nil))
theorem gt_k_fill : GoodIn lw_tbl w_k_fill := gt_of wg_k_fill [97] (by decide +kernel)
set_option maxRecDepth 20000 in
theorem gt_k_net : GoodIn lw_tbl w_k_net := goodIn_app (gt_of (GW_of (by decide +kernel)) [93, 94, 87, 88, 164, 103, 108, 112, 114, 117, 119, 123, 125, 127, 135, 165, 136, 95, 96, 70] (by decide +kernel)) (goodIn_app gt_X1 (goodIn_app gt_k_fill (gt_nil)))
set_option maxRecDepth 20000 in
theorem gt_k_stations : GoodIn lw_tbl w_k_stations := goodIn_app (gt_of (GW_of (by decide +kernel)) [170, 171, 87, 88, 164, 173, 176, 179, 182, 186, 189, 172, 96, 70] (by decide +kernel)) (goodIn_app gt_X4 (goodIn_app gt_k_fill (gt_nil)))
set_option maxRecDepth 20000 in
theorem gt_k_clock : GoodIn lw_tbl w_k_clock := goodIn_app (gt_of (GW_of (by decide +kernel)) [209, 210, 87, 88, 211, 164, 217, 218, 219] (by decide +kernel)) (goodIn_app gt_X0 (gt_nil))
set_option maxRecDepth 20000 in
theorem gt_k_rules : GoodIn lw_tbl w_k_rules := goodIn_app (gt_of (GW_of (by decide +kernel)) [235, 236, 87, 88, 164, 239, 240, 241, 242, 243] (by decide +kernel)) (goodIn_app gt_X3 (gt_nil))
set_option maxRecDepth 20000 in
theorem gt_k_tables : GoodIn lw_tbl w_k_tables := goodIn_app (gt_of (GW_of (by decide +kernel)) [263, 264, 87, 88, 164, 266, 268, 269, 265, 96, 70] (by decide +kernel)) (goodIn_app gt_X5 (goodIn_app gt_k_fill (gt_nil)))
set_option maxRecDepth 20000 in
theorem gt_k_timing : GoodIn lw_tbl w_k_timing := goodIn_app (gt_of (GW_of (by decide +kernel)) [291, 292, 87, 88, 165, 297, 164, 299, 302, 305, 308, 310, 312, 316, 293, 294, 295, 296] (by decide +kernel)) (goodIn_app gt_X6 (gt_nil))
set_option maxRecDepth 20000 in
theorem gt_k_race : GoodIn lw_tbl w_k_race := goodIn_app (gt_of (GW_of (by decide +kernel)) [349, 350, 87, 88, 356, 164, 357, 358, 359, 360, 362, 364, 366, 351, 352, 353, 354, 355] (by decide +kernel)) (goodIn_app gt_X2 (gt_nil))
set_option maxRecDepth 20000 in
theorem gt_k_tracer : GoodIn lw_tbl w_k_tracer := goodIn_app (gt_of (GW_of (by decide +kernel)) [399, 400, 87, 88, 406, 164, 410, 438, 411, 401, 402, 403, 404, 405] (by decide +kernel)) (goodIn_app gt_X7 (gt_nil))
set_option maxRecDepth 20000 in
theorem gt_k_trail : GoodIn lw_tbl w_k_trail := goodIn_app (gt_of (GW_of (by decide +kernel)) [443, 444, 87, 88, 164, 448, 450, 452, 454] (by decide +kernel)) (goodIn_app gt_X8 (gt_nil))
set_option maxRecDepth 20000 in
theorem gt_k_house : GoodIn lw_tbl w_k_house := goodIn_app (gt_of (GW_of (by decide +kernel)) [85, 86, 87, 88, 89, 90, 69, 92, 91, 475, 166, 167, 71, 169, 168, 476, 205, 206, 72, 208, 477, 231, 232, 73, 234, 478, 259, 260, 74, 262, 261, 479, 287, 288, 75, 290, 289, 480, 345, 346, 76, 348, 347, 481, 395, 396, 77, 398, 397, 482, 439, 440, 78, 442, 483, 484] (by decide +kernel)) (goodIn_app gt_X0 (goodIn_app gt_X1 (goodIn_app gt_X2 (goodIn_app gt_X3 (goodIn_app gt_X4 (goodIn_app gt_X5 (goodIn_app gt_X6 (goodIn_app gt_X7 (goodIn_app gt_X8 (goodIn_app gt_X9 (goodIn_app gt_k_net (goodIn_app gt_k_stations (goodIn_app gt_k_clock (goodIn_app gt_k_rules (goodIn_app gt_k_tables (goodIn_app gt_k_timing (goodIn_app gt_k_race (goodIn_app gt_k_tracer (goodIn_app gt_k_trail (gt_nil))))))))))))))))))))
set_option maxRecDepth 20000 in
theorem gt_f_hasOrAny : GoodIn lw_tbl w_f_hasOrAny := goodIn_app (gt_of (GW_of (by decide +kernel)) [663, 475, 558, 559, 560, 69] (by decide +kernel)) (goodIn_app gt_X9 (goodIn_app gt_k_has0 (gt_nil)))
set_option maxRecDepth 20000 in
theorem gt_f_isTold : GoodIn lw_tbl w_f_isTold := goodIn_app (gt_of (GW_of (by decide +kernel)) [853, 475, 558, 559, 560, 69] (by decide +kernel)) (goodIn_app gt_X9 (goodIn_app gt_k_has0 (gt_nil)))
set_option maxRecDepth 20000 in
theorem gt_f_wire : GoodIn lw_tbl w_f_wire := goodIn_app (gt_of (GW_of (by decide +kernel)) [557, 475, 562, 563, 564, 69, 558, 559, 560] (by decide +kernel)) (goodIn_app gt_X9 (goodIn_app gt_k_hasInput0 (goodIn_app gt_k_has0 (gt_nil))))
set_option maxRecDepth 20000 in
theorem gt_f_extra : GoodIn lw_tbl w_f_extra := goodIn_app (gt_of (GW_of (by decide +kernel)) [578, 475, 558, 559, 560, 69] (by decide +kernel)) (goodIn_app gt_X9 (goodIn_app gt_k_has0 (gt_nil)))
set_option maxRecDepth 20000 in
theorem gt_f_size : GoodIn lw_tbl w_f_size := goodIn_app (gt_of (GW_of (by decide +kernel)) [582, 475, 558, 559, 560, 69] (by decide +kernel)) (goodIn_app gt_X9 (goodIn_app gt_k_has0 (gt_nil)))
set_option maxRecDepth 20000 in
theorem gt_f_port : GoodIn lw_tbl w_f_port := goodIn_app (gt_of (GW_of (by decide +kernel)) [590, 475, 558, 559, 560, 69] (by decide +kernel)) (goodIn_app gt_X9 (goodIn_app gt_k_has0 (gt_nil)))
set_option maxRecDepth 20000 in
theorem gt_f_target : GoodIn lw_tbl w_f_target := goodIn_app (gt_of (GW_of (by decide +kernel)) [595, 475, 558, 559, 560, 69] (by decide +kernel)) (goodIn_app gt_X9 (goodIn_app gt_k_has0 (gt_nil)))
set_option maxRecDepth 20000 in
theorem gt_f_about : GoodIn lw_tbl w_f_about := goodIn_app (gt_of (GW_of (by decide +kernel)) [683, 475, 558, 559, 560, 69] (by decide +kernel)) (goodIn_app gt_X9 (goodIn_app gt_k_has0 (gt_nil)))
set_option maxRecDepth 20000 in
theorem gt_f_takes : GoodIn lw_tbl w_f_takes := goodIn_app (gt_of (GW_of (by decide +kernel)) [775, 475, 562, 563, 564, 69] (by decide +kernel)) (goodIn_app gt_X9 (goodIn_app gt_k_hasInput0 (gt_nil)))
set_option maxRecDepth 20000 in
theorem gt_f_arrival : GoodIn lw_tbl w_f_arrival := goodIn_app (gt_of (GW_of (by decide +kernel)) [779, 475, 558, 559, 560, 69, 780] (by decide +kernel)) (goodIn_app gt_X9 (goodIn_app gt_k_has0 (gt_nil)))
set_option maxRecDepth 20000 in
theorem gt_f_told : GoodIn lw_tbl w_f_told := goodIn_app (gt_of (GW_of (by decide +kernel)) [784, 475, 558, 559, 560, 69] (by decide +kernel)) (goodIn_app gt_X9 (goodIn_app gt_k_has0 (gt_nil)))
set_option maxRecDepth 20000 in
theorem gt_f_slack : GoodIn lw_tbl w_f_slack := goodIn_app (gt_of (GW_of (by decide +kernel)) [849, 850, 852, 22, 68, 854] (by decide +kernel)) (goodIn_app gt_f_isTold (gt_nil))
set_option maxRecDepth 20000 in
theorem gt_f_hold : GoodIn lw_tbl w_f_hold := goodIn_app (gt_of (GW_of (by decide +kernel)) [858, 850, 852, 22, 68, 854] (by decide +kernel)) (goodIn_app gt_f_isTold (gt_nil))
set_option maxRecDepth 20000 in
theorem gt_f_paths : GoodIn lw_tbl w_f_paths := goodIn_app (gt_of (GW_of (by decide +kernel)) [870, 475, 558, 559, 560, 69] (by decide +kernel)) (goodIn_app gt_X9 (goodIn_app gt_k_has0 (gt_nil)))
set_option maxRecDepth 20000 in
theorem gt_f_path : GoodIn lw_tbl w_f_path := goodIn_app (gt_of (GW_of (by decide +kernel)) [874, 475, 558, 559, 560, 69] (by decide +kernel)) (goodIn_app gt_X9 (goodIn_app gt_k_has0 (gt_nil)))
set_option maxRecDepth 20000 in
theorem gt_f_common : GoodIn lw_tbl w_f_common := goodIn_app (gt_of (GW_of (by decide +kernel)) [932, 475, 558, 559, 560, 69] (by decide +kernel)) (goodIn_app gt_X9 (goodIn_app gt_k_has0 (gt_nil)))
set_option maxRecDepth 20000 in
theorem gt_f_except : GoodIn lw_tbl w_f_except := goodIn_app (gt_of (GW_of (by decide +kernel)) [659, 660, 662, 5, 68, 522, 523] (by decide +kernel)) (goodIn_app gt_f_hasOrAny (goodIn_app gt_k_within (gt_nil)))
set_option maxRecDepth 20000 in
theorem gt_f_unexcept : GoodIn lw_tbl w_f_unexcept := goodIn_app (gt_of (GW_of (by decide +kernel)) [675, 478] (by decide +kernel)) (goodIn_app gt_X3 (goodIn_app gt_X9 (gt_nil)))
set_option maxRecDepth 20000 in
theorem gt_f_step : GoodIn lw_tbl w_f_step := goodIn_app (gt_of (GW_of (by decide +kernel)) [928, 483, 854] (by decide +kernel)) (goodIn_app gt_X8 (goodIn_app gt_X9 (gt_nil)))
set_option maxRecDepth 20000 in
theorem gt_f_area : GoodIn lw_tbl w_f_area := goodIn_app (gt_of (GW_of (by decide +kernel)) [962, 475] (by decide +kernel)) (goodIn_app gt_X1 (goodIn_app gt_X9 (gt_nil)))
set_option maxRecDepth 20000 in
theorem gt_f_count : GoodIn lw_tbl w_f_count := goodIn_app (gt_of (GW_of (by decide +kernel)) [966, 475, 477, 478] (by decide +kernel)) (goodIn_app gt_X0 (goodIn_app gt_X1 (goodIn_app gt_X3 (goodIn_app gt_X9 (gt_nil)))))
set_option maxRecDepth 20000 in
theorem gt_f_period : GoodIn lw_tbl w_f_period := goodIn_app (gt_of (GW_of (by decide +kernel)) [638, 639, 522, 523, 68, 477, 525, 527, 0] (by decide +kernel)) (goodIn_app gt_X0 (goodIn_app gt_X9 (goodIn_app gt_k_within (goodIn_app gt_k_forget (gt_nil)))))
set_option maxRecDepth 20000 in
theorem gt_f_corner : GoodIn lw_tbl w_f_corner := goodIn_app (gt_of (GW_of (by decide +kernel)) [634, 522, 523, 68, 479, 525, 527, 0] (by decide +kernel)) (goodIn_app gt_X5 (goodIn_app gt_X9 (goodIn_app gt_k_within (goodIn_app gt_k_forget (gt_nil)))))
set_option maxRecDepth 20000 in
theorem gt_f_fall : GoodIn lw_tbl w_f_fall := goodIn_app (gt_of (GW_of (by decide +kernel)) [630, 516, 517, 74, 522, 523, 68, 479, 525, 527, 0] (by decide +kernel)) (goodIn_app gt_X5 (goodIn_app gt_X9 (goodIn_app gt_k_thas (goodIn_app gt_k_within (goodIn_app gt_k_forget (gt_nil))))))
set_option maxRecDepth 20000 in
theorem gt_k_whyAbsent : GoodIn lw_tbl w_k_whyAbsent := goodIn_app (gt_of (GW_of (by decide +kernel)) [618, 268] (by decide +kernel)) (goodIn_app gt_X5 (gt_nil))
set_option maxRecDepth 20000 in
theorem gt_k_cutRow : GoodIn lw_tbl w_k_cutRow := goodIn_app (gt_of (GW_of (by decide +kernel)) [626, 268] (by decide +kernel)) (goodIn_app gt_X5 (gt_nil))
set_option maxRecDepth 20000 in
theorem gt_f_entry : GoodIn lw_tbl w_f_entry := goodIn_app (gt_of (GW_of (by decide +kernel)) [607, 608, 609, 74, 522, 523, 68, 612, 613, 479, 615, 616, 617, 525, 527, 0] (by decide +kernel)) (goodIn_app gt_X5 (goodIn_app gt_X9 (goodIn_app gt_k_hasRow (goodIn_app gt_k_within (goodIn_app gt_k_rowPlace (goodIn_app gt_k_whyAbsent (goodIn_app gt_k_forget (gt_nil))))))))
set_option maxRecDepth 20000 in
theorem gt_f_tear : GoodIn lw_tbl w_f_tear := goodIn_app (gt_of (GW_of (by decide +kernel)) [622, 608, 609, 74, 522, 523, 68, 525, 527, 0, 479, 612, 613, 623, 624, 625] (by decide +kernel)) (goodIn_app gt_X9 (goodIn_app gt_k_hasRow (goodIn_app gt_k_within (goodIn_app gt_k_forget (goodIn_app gt_k_rowPlace (goodIn_app gt_k_cutRow (gt_nil)))))))
set_option maxRecDepth 20000 in
theorem gt_k_addNode : GoodIn lw_tbl w_k_addNode := goodIn_app (gt_of (GW_of (by decide +kernel)) [647, 215, 217, 218, 648, 649, 650, 72, 219, 652, 653, 654] (by decide +kernel)) (goodIn_app gt_X0 (goodIn_app gt_k_earlyOf (goodIn_app gt_k_lateOf (gt_nil))))
set_option maxRecDepth 20000 in
theorem gt_f_node : GoodIn lw_tbl w_f_node := goodIn_app (gt_of (GW_of (by decide +kernel)) [643, 477, 596, 597, 598, 72, 591, 644, 645, 646] (by decide +kernel)) (goodIn_app gt_X0 (goodIn_app gt_X9 (goodIn_app gt_k_hasOrRoot0 (goodIn_app gt_k_addNode (gt_nil)))))
set_option maxRecDepth 20000 in
theorem gt_k_trun : GoodIn lw_tbl w_k_trun := goodIn_app (gt_of (GW_of (by decide +kernel)) [695, 293] (by decide +kernel)) (goodIn_app gt_X1 (goodIn_app gt_X6 (gt_nil)))
set_option maxRecDepth 20000 in
theorem gt_k_masks : GoodIn lw_tbl w_k_masks := goodIn_app (gt_of (GW_of (by decide +kernel)) [796, 237] (by decide +kernel)) (goodIn_app gt_X3 (gt_nil))
set_option maxRecDepth 20000 in
theorem gt_k_rrun : GoodIn lw_tbl w_k_rrun := goodIn_app (gt_of (GW_of (by decide +kernel)) [792, 354, 793, 794, 795, 73, 356, 366, 360, 797, 96, 70, 362, 798, 364, 351] (by decide +kernel)) (goodIn_app gt_X1 (goodIn_app gt_X2 (goodIn_app gt_k_masks (goodIn_app gt_k_fill (gt_nil)))))
set_option maxRecDepth 20000 in
theorem gt_k_leastOf : GoodIn lw_tbl w_k_leastOf := goodIn_app (gt_of (GW_of (by decide +kernel)) [866, 351] (by decide +kernel)) (goodIn_app gt_X1 (goodIn_app gt_X2 (gt_nil)))
set_option maxRecDepth 20000 in
theorem gt_k_refreshRace : GoodIn lw_tbl w_k_refreshRace := goodIn_app (gt_of (GW_of (by decide +kernel)) [788, 486, 485, 480, 692, 693, 694, 75, 481, 789, 790, 791, 76] (by decide +kernel)) (goodIn_app gt_X9 (goodIn_app gt_k_trun (goodIn_app gt_k_rrun (gt_nil))))
set_option maxRecDepth 20000 in
theorem gt_f_worst : GoodIn lw_tbl w_f_worst := goodIn_app (gt_of (GW_of (by decide +kernel)) [862, 522, 523, 68, 785, 787, 16, 481, 863, 864, 865, 76] (by decide +kernel)) (goodIn_app gt_X2 (goodIn_app gt_X9 (goodIn_app gt_k_within (goodIn_app gt_k_refreshRace (goodIn_app gt_k_leastOf (gt_nil))))))
set_option maxRecDepth 20000 in
theorem gt_f_least : GoodIn lw_tbl w_f_least := goodIn_app (gt_of (GW_of (by decide +kernel)) [937, 639, 522, 523, 68, 785, 787, 16, 481] (by decide +kernel)) (goodIn_app gt_X2 (goodIn_app gt_X9 (goodIn_app gt_k_within (goodIn_app gt_k_refreshRace (gt_nil)))))
set_option maxRecDepth 20000 in
theorem gt_f_fix : GoodIn lw_tbl w_f_fix := goodIn_app (gt_of (GW_of (by decide +kernel)) [941, 785, 787, 16, 68, 481, 863, 864, 865, 76] (by decide +kernel)) (goodIn_app gt_X2 (goodIn_app gt_X9 (goodIn_app gt_k_refreshRace (goodIn_app gt_k_leastOf (gt_nil)))))
set_option maxRecDepth 20000 in
theorem gt_k_listTakers : GoodIn lw_tbl w_k_listTakers := goodIn_app (gt_of (GW_of (by decide +kernel)) [540, 135, 95, 96, 70, 101, 119, 125] (by decide +kernel)) (goodIn_app gt_X1 (goodIn_app gt_k_fill (gt_nil)))
set_option maxRecDepth 20000 in
theorem gt_k_gatesTakenBy : GoodIn lw_tbl w_k_gatesTakenBy := goodIn_app (gt_of (GW_of (by decide +kernel)) [548, 108, 119] (by decide +kernel)) (goodIn_app gt_X1 (gt_nil))
set_option maxRecDepth 20000 in
theorem gt_k_isGate : GoodIn lw_tbl w_k_isGate := goodIn_app (gt_of (GW_of (by decide +kernel)) [552, 103, 553, 520, 69] (by decide +kernel)) (goodIn_app gt_X1 (goodIn_app gt_k_isGateKind (gt_nil)))
set_option maxRecDepth 20000 in
theorem gt_k_orderGates : GoodIn lw_tbl w_k_orderGates := goodIn_app (gt_of (GW_of (by decide +kernel)) [544, 134, 101, 135, 545, 547, 4, 69, 549, 550, 551, 127, 125] (by decide +kernel)) (goodIn_app gt_X1 (goodIn_app gt_k_gatesTakenBy (goodIn_app gt_k_isGate (gt_nil))))
set_option maxRecDepth 20000 in
theorem gt_k_arrange : GoodIn lw_tbl w_k_arrange := goodIn_app (gt_of (GW_of (by decide +kernel)) [536, 537, 539, 2, 69, 541, 543, 3] (by decide +kernel)) (goodIn_app gt_k_listTakers (goodIn_app gt_k_orderGates (gt_nil)))
set_option maxRecDepth 20000 in
theorem gt_k_addCell : GoodIn lw_tbl w_k_addCell := goodIn_app (gt_of (GW_of (by decide +kernel)) [532, 101, 103, 108, 112, 533, 535, 1, 69] (by decide +kernel)) (goodIn_app gt_X1 (goodIn_app gt_k_arrange (gt_nil)))
set_option maxRecDepth 20000 in
theorem gt_f_make : GoodIn lw_tbl w_f_make := goodIn_app (gt_of (GW_of (by decide +kernel)) [515, 516, 517, 74, 519, 520, 69, 475, 525, 527, 0, 68, 529, 530, 531, 522, 523] (by decide +kernel)) (goodIn_app gt_X1 (goodIn_app gt_X9 (goodIn_app gt_k_thas (goodIn_app gt_k_isGateKind (goodIn_app gt_k_forget (goodIn_app gt_k_addCell (goodIn_app gt_k_within (gt_nil))))))))
set_option maxRecDepth 20000 in
theorem gt_k_model : GoodIn lw_tbl w_k_model := goodIn_app (gt_of (GW_of (by decide +kernel)) [1016, 1017, 87, 88, 164, 1020, 1021, 1022, 1023, 1024, 1025, 1026, 1027, 1028, 1029, 1030, 1031, 165, 1032, 1033, 1034, 1035, 1038, 1040, 1041, 1042, 1044, 1045, 1046, 1047, 1049, 1051, 1052, 1053, 1054, 1055, 1056, 1057, 1058, 1059, 1060, 1061, 1062, 1063, 1064, 1065, 1067, 1068, 1069, 1070, 1018, 1071, 1072, 1073, 1074, 1075, 1076, 1077, 1078, 1081, 1082, 1083, 1084] (by decide +kernel)) (goodIn_app gt_X10 (gt_nil))
set_option maxRecDepth 20000 in
theorem gt_g_isRow : GoodIn lw_tbl w_g_isRow := goodIn_app (gt_of (GW_of (by decide +kernel)) [1232] (by decide +kernel)) (gt_nil)
set_option maxRecDepth 20000 in
theorem gt_g_isCell : GoodIn lw_tbl w_g_isCell := goodIn_app (gt_of (GW_of (by decide +kernel)) [983, 1019] (by decide +kernel)) (goodIn_app gt_X10 (gt_nil))
set_option maxRecDepth 20000 in
theorem gt_g_isInput : GoodIn lw_tbl w_g_isInput := goodIn_app (gt_of (GW_of (by decide +kernel)) [979, 980, 982, 33, 79] (by decide +kernel)) (goodIn_app gt_g_isCell (gt_nil))
set_option maxRecDepth 20000 in
theorem gt_g_mayBe : GoodIn lw_tbl w_g_mayBe := goodIn_app (gt_of (GW_of (by decide +kernel)) [1261, 980, 982, 33, 79] (by decide +kernel)) (goodIn_app gt_g_isCell (gt_nil))
set_option maxRecDepth 20000 in
theorem gt_g_wire : GoodIn lw_tbl w_g_wire := goodIn_app (gt_of (GW_of (by decide +kernel)) [974, 1019, 975, 977, 32, 79] (by decide +kernel)) (goodIn_app gt_X10 (goodIn_app gt_g_isInput (gt_nil)))
set_option maxRecDepth 20000 in
theorem gt_g_extra : GoodIn lw_tbl w_g_extra := goodIn_app (gt_of (GW_of (by decide +kernel)) [995, 980, 982, 33, 79] (by decide +kernel)) (goodIn_app gt_g_isCell (gt_nil))
set_option maxRecDepth 20000 in
theorem gt_g_size : GoodIn lw_tbl w_g_size := goodIn_app (gt_of (GW_of (by decide +kernel)) [999, 980, 982, 33, 79] (by decide +kernel)) (goodIn_app gt_g_isCell (gt_nil))
set_option maxRecDepth 20000 in
theorem gt_g_port : GoodIn lw_tbl w_g_port := goodIn_app (gt_of (GW_of (by decide +kernel)) [1003, 980, 982, 33, 79] (by decide +kernel)) (goodIn_app gt_g_isCell (gt_nil))
set_option maxRecDepth 20000 in
theorem gt_g_target : GoodIn lw_tbl w_g_target := goodIn_app (gt_of (GW_of (by decide +kernel)) [1008, 980, 982, 33, 79] (by decide +kernel)) (goodIn_app gt_g_isCell (gt_nil))
set_option maxRecDepth 20000 in
theorem gt_g_about : GoodIn lw_tbl w_g_about := goodIn_app (gt_of (GW_of (by decide +kernel)) [1340, 980, 982, 33, 79] (by decide +kernel)) (goodIn_app gt_g_isCell (gt_nil))
set_option maxRecDepth 20000 in
theorem gt_g_takes : GoodIn lw_tbl w_g_takes := goodIn_app (gt_of (GW_of (by decide +kernel)) [1344, 975, 977, 32, 79] (by decide +kernel)) (goodIn_app gt_g_isInput (gt_nil))
set_option maxRecDepth 20000 in
theorem gt_g_arrival : GoodIn lw_tbl w_g_arrival := goodIn_app (gt_of (GW_of (by decide +kernel)) [1281, 980, 982, 33, 79, 1282] (by decide +kernel)) (goodIn_app gt_g_isCell (gt_nil))
set_option maxRecDepth 20000 in
theorem gt_g_told : GoodIn lw_tbl w_g_told := goodIn_app (gt_of (GW_of (by decide +kernel)) [1348, 980, 982, 33, 79] (by decide +kernel)) (goodIn_app gt_g_isCell (gt_nil))
set_option maxRecDepth 20000 in
theorem gt_g_slack : GoodIn lw_tbl w_g_slack := goodIn_app (gt_of (GW_of (by decide +kernel)) [1385, 980, 982, 33, 79, 1353] (by decide +kernel)) (goodIn_app gt_g_isCell (gt_nil))
set_option maxRecDepth 20000 in
theorem gt_g_hold : GoodIn lw_tbl w_g_hold := goodIn_app (gt_of (GW_of (by decide +kernel)) [1389, 980, 982, 33, 79, 1353] (by decide +kernel)) (goodIn_app gt_g_isCell (gt_nil))
set_option maxRecDepth 20000 in
theorem gt_g_paths : GoodIn lw_tbl w_g_paths := goodIn_app (gt_of (GW_of (by decide +kernel)) [1401, 980, 982, 33, 79] (by decide +kernel)) (goodIn_app gt_g_isCell (gt_nil))
set_option maxRecDepth 20000 in
theorem gt_g_path : GoodIn lw_tbl w_g_path := goodIn_app (gt_of (GW_of (by decide +kernel)) [1405, 980, 982, 33, 79] (by decide +kernel)) (goodIn_app gt_g_isCell (gt_nil))
set_option maxRecDepth 20000 in
theorem gt_g_common : GoodIn lw_tbl w_g_common := goodIn_app (gt_of (GW_of (by decide +kernel)) [1269, 980, 982, 33, 79] (by decide +kernel)) (goodIn_app gt_g_isCell (gt_nil))
set_option maxRecDepth 20000 in
theorem gt_g_except : GoodIn lw_tbl w_g_except := goodIn_app (gt_of (GW_of (by decide +kernel)) [1257, 1258, 1260, 37, 79] (by decide +kernel)) (goodIn_app gt_g_mayBe (gt_nil))
set_option maxRecDepth 20000 in
theorem gt_g_area : GoodIn lw_tbl w_g_area := goodIn_app (gt_of (GW_of (by decide +kernel)) [1449, 1019] (by decide +kernel)) (goodIn_app gt_X10 (gt_nil))
set_option maxRecDepth 20000 in
theorem gt_g_unexcept : GoodIn lw_tbl w_g_unexcept := goodIn_app (gt_of (GW_of (by decide +kernel)) [1265, 1043] (by decide +kernel)) (goodIn_app gt_X10 (gt_nil))
set_option maxRecDepth 20000 in
theorem gt_g_step : GoodIn lw_tbl w_g_step := goodIn_app (gt_of (GW_of (by decide +kernel)) [1429, 1080, 1353] (by decide +kernel)) (goodIn_app gt_X10 (gt_nil))
set_option maxRecDepth 20000 in
theorem gt_g_count : GoodIn lw_tbl w_g_count := goodIn_app (gt_of (GW_of (by decide +kernel)) [1453, 1038, 1043, 1039, 1019] (by decide +kernel)) (goodIn_app gt_X10 (gt_nil))
set_option maxRecDepth 20000 in
theorem gt_g_period : GoodIn lw_tbl w_g_period := goodIn_app (gt_of (GW_of (by decide +kernel)) [1248, 1249, 1038] (by decide +kernel)) (goodIn_app gt_X10 (gt_nil))
set_option maxRecDepth 20000 in
theorem gt_g_corner : GoodIn lw_tbl w_g_corner := goodIn_app (gt_of (GW_of (by decide +kernel)) [1244, 1036, 1037] (by decide +kernel)) (goodIn_app gt_X10 (gt_nil))
set_option maxRecDepth 20000 in
theorem gt_g_fall : GoodIn lw_tbl w_g_fall := goodIn_app (gt_of (GW_of (by decide +kernel)) [1240, 1035] (by decide +kernel)) (goodIn_app gt_X10 (gt_nil))
set_option maxRecDepth 20000 in
theorem gt_g_entry : GoodIn lw_tbl w_g_entry := goodIn_app (gt_of (GW_of (by decide +kernel)) [1229, 1230, 1231, 79, 1034, 1033] (by decide +kernel)) (goodIn_app gt_X10 (goodIn_app gt_g_isRow (gt_nil)))
set_option maxRecDepth 20000 in
theorem gt_g_tear : GoodIn lw_tbl w_g_tear := goodIn_app (gt_of (GW_of (by decide +kernel)) [1236, 1230, 1231, 79, 1034] (by decide +kernel)) (goodIn_app gt_X10 (goodIn_app gt_g_isRow (gt_nil)))
set_option maxRecDepth 20000 in
theorem gt_g_node : GoodIn lw_tbl w_g_node := goodIn_app (gt_of (GW_of (by decide +kernel)) [1253, 1039, 1004, 1040, 1041, 1042] (by decide +kernel)) (goodIn_app gt_X10 (gt_nil))
set_option maxRecDepth 20000 in
theorem gt_g_make : GoodIn lw_tbl w_g_make := goodIn_app (gt_of (GW_of (by decide +kernel)) [970, 1019, 1020, 1021, 1022, 1023, 1024, 1025, 1026, 1027, 1028, 1029, 1030, 1031] (by decide +kernel)) (goodIn_app gt_X10 (gt_nil))
set_option maxRecDepth 20000 in
theorem gt_g_time : GoodIn lw_tbl w_g_time := goodIn_app (gt_of (GW_of (by decide +kernel)) [1286, 1050, 1019] (by decide +kernel)) (goodIn_app gt_X10 (gt_nil))
set_option maxRecDepth 20000 in
theorem gt_g_judge : GoodIn lw_tbl w_g_judge := goodIn_app (gt_of (GW_of (by decide +kernel)) [1352, 1283, 1285, 40, 79, 1019] (by decide +kernel)) (goodIn_app gt_X10 (goodIn_app gt_g_time (gt_nil)))
set_option maxRecDepth 20000 in
theorem gt_g_worstOf : GoodIn lw_tbl w_g_worstOf := goodIn_app (gt_of (GW_of (by decide +kernel)) [1397, 1019] (by decide +kernel)) (goodIn_app gt_X10 (gt_nil))
set_option maxRecDepth 20000 in
theorem gt_g_worst : GoodIn lw_tbl w_g_worst := goodIn_app (gt_of (GW_of (by decide +kernel)) [1393, 1349, 1351, 51, 79, 1394, 1396, 59] (by decide +kernel)) (goodIn_app gt_g_judge (goodIn_app gt_g_worstOf (gt_nil)))
set_option maxRecDepth 20000 in
theorem gt_g_fix : GoodIn lw_tbl w_g_fix := goodIn_app (gt_of (GW_of (by decide +kernel)) [1441, 1349, 1351, 51, 79, 1394, 1396, 59] (by decide +kernel)) (goodIn_app gt_g_judge (goodIn_app gt_g_worstOf (gt_nil)))
set_option maxRecDepth 20000 in
theorem gt_g_holdsAt : GoodIn lw_tbl w_g_holdsAt := goodIn_app (gt_of (GW_of (by decide +kernel)) [1437, 1038, 1349, 1351, 51, 79, 1394, 1396, 59] (by decide +kernel)) (goodIn_app gt_X10 (goodIn_app gt_g_judge (goodIn_app gt_g_worstOf (gt_nil))))
set_option maxRecDepth 20000 in
theorem gt_g_least : GoodIn lw_tbl w_g_least := goodIn_app (gt_of (GW_of (by decide +kernel)) [1433, 1249, 1434, 1436, 65, 79] (by decide +kernel)) (goodIn_app gt_g_holdsAt (gt_nil))
theorem aw_prim {ty : FieldType} {args : Array Value} {s : State} (hp : ∀ C, ty ≠ .object C) (h : (Cond.arrayClass ty).before args s = true) : ∃ cA : ClassId, ArrOfT s cA ty ∧ va_RA s cA ty := by
  obtain ⟨cA, kA, comp, h1, h2, h3⟩ := Cond.arrayClass_spec h
  refine ⟨cA, fun n z => ⟨fun k h => (by cases h), kA, h2, comp, h3⟩, ?_⟩
  cases ty with
  | object C => exact absurd rfl (hp C)
  | _ => exact h1
set_option maxRecDepth 20000 in
theorem nF_in : [98, 99, 100, 102, 104, 105, 106, 107, 109, 110, 111, 113, 115, 116, 118, 120, 121, 122, 124, 126, 128, 129, 130, 131, 132, 133, 174, 175, 177, 178, 180, 181, 183, 184, 185, 187, 188, 190, 191, 212, 213, 214, 216, 238, 244, 245, 267, 270, 271, 272, 273, 274, 275, 298, 300, 301, 303, 304, 306, 307, 309, 311, 313, 314, 315, 317, 318, 319, 361, 363, 365, 367, 446, 447, 449, 451, 453, 455, 456, 457, 458, 459].map (fun i => lw_tbl[i]?) = nF.map (fun q => some (Cond.fieldLinkNest q.1 q.2.1 q.2.2.1 q.2.2.2.1 q.2.2.2.2.1 q.2.2.2.2.2)) := by decide +kernel
set_option maxRecDepth 20000 in
theorem nM_in : [207, 233, 441].map (fun i => lw_tbl[i]?) = nM.map (fun q => some (Cond.methodLinkNest q.1 q.2.1 q.2.2.1 q.2.2.2)) := by decide +kernel
theorem nw_law {args : Array Value} {s : State} (hts : ∀ w ∈ lw_tbl, w.before args s = true) : nw_ok s := by
  refine ⟨fun q hq => va_Nw.of rfl (hts _ ?_), fun q hq => va_Nw.of rfl (hts _ ?_)⟩
  · have h1 : some (Cond.fieldLinkNest q.1 q.2.1 q.2.2.1 q.2.2.2.1 q.2.2.2.2.1 q.2.2.2.2.2) ∈ [98, 99, 100, 102, 104, 105, 106, 107, 109, 110, 111, 113, 115, 116, 118, 120, 121, 122, 124, 126, 128, 129, 130, 131, 132, 133, 174, 175, 177, 178, 180, 181, 183, 184, 185, 187, 188, 190, 191, 212, 213, 214, 216, 238, 244, 245, 267, 270, 271, 272, 273, 274, 275, 298, 300, 301, 303, 304, 306, 307, 309, 311, 313, 314, 315, 317, 318, 319, 361, 363, 365, 367, 446, 447, 449, 451, 453, 455, 456, 457, 458, 459].map (fun i => lw_tbl[i]?) := by rw [nF_in]; exact List.mem_map.mpr ⟨q, hq, rfl⟩
    obtain ⟨i, -, hi⟩ := List.mem_map.mp h1
    exact List.mem_of_getElem? hi
  · have h1 : some (Cond.methodLinkNest q.1 q.2.1 q.2.2.1 q.2.2.2) ∈ [207, 233, 441].map (fun i => lw_tbl[i]?) := by rw [nM_in]; exact List.mem_map.mpr ⟨q, hq, rfl⟩
    obtain ⟨i, -, hi⟩ := List.mem_map.mp h1
    exact List.mem_of_getElem? hi
