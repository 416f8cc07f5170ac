theorem dX1_listTakers_0 : decode cX1_listTakers 0 = .ok (.aload_n 0, 1) := by decide +kernel
theorem dX1_listTakers_1 : decode cX1_listTakers 1 = .ok (.getfield 39, 3) := by decide +kernel
theorem dX1_listTakers_4 : decode cX1_listTakers 4 = .ok (.iconst 0, 1) := by decide +kernel
theorem dX1_listTakers_5 : decode cX1_listTakers 5 = .ok (.invokestatic 46, 3) := by decide +kernel
theorem dX1_listTakers_8 : decode cX1_listTakers 8 = .ok (.iconst 0, 1) := by decide +kernel
theorem dX1_listTakers_9 : decode cX1_listTakers 9 = .ok (.istore_n 1, 1) := by decide +kernel
theorem dX1_listTakers_10 : decode cX1_listTakers 10 = .ok (.iload_n 1, 1) := by decide +kernel
theorem dX1_listTakers_11 : decode cX1_listTakers 11 = .ok (.aload_n 0, 1) := by decide +kernel
theorem dX1_listTakers_12 : decode cX1_listTakers 12 = .ok (.getfield 52, 3) := by decide +kernel
theorem dX1_listTakers_15 : decode cX1_listTakers 15 = .ok (.iconst 4, 1) := by decide +kernel
theorem dX1_listTakers_16 : decode cX1_listTakers 16 = .ok (.imul, 1) := by decide +kernel
theorem dX1_listTakers_17 : decode cX1_listTakers 17 = .ok (.if_icmp .ge 33, 3) := by decide +kernel
theorem dX1_listTakers_20 : decode cX1_listTakers 20 = .ok (.aload_n 0, 1) := by decide +kernel
theorem dX1_listTakers_21 : decode cX1_listTakers 21 = .ok (.getfield 27, 3) := by decide +kernel
theorem dX1_listTakers_24 : decode cX1_listTakers 24 = .ok (.iload_n 1, 1) := by decide +kernel
theorem dX1_listTakers_25 : decode cX1_listTakers 25 = .ok (.iaload, 1) := by decide +kernel
theorem dX1_listTakers_26 : decode cX1_listTakers 26 = .ok (.ifCond .lt 18, 3) := by decide +kernel
theorem dX1_listTakers_44 : decode cX1_listTakers 44 = .ok (.iinc 1 1, 3) := by decide +kernel
theorem dX1_listTakers_47 : decode cX1_listTakers 47 = .ok (.goto (-37), 3) := by decide +kernel
theorem dX1_listTakers_50 : decode cX1_listTakers 50 = .ok (.aload_n 0, 1) := by decide +kernel
theorem dX1_listTakers_51 : decode cX1_listTakers 51 = .ok (.getfield 33, 3) := by decide +kernel
theorem dX1_listTakers_54 : decode cX1_listTakers 54 = .ok (.iconst 0, 1) := by decide +kernel
theorem dX1_listTakers_55 : decode cX1_listTakers 55 = .ok (.iconst 0, 1) := by decide +kernel
theorem dX1_listTakers_56 : decode cX1_listTakers 56 = .ok (.iastore, 1) := by decide +kernel
theorem dX1_listTakers_57 : decode cX1_listTakers 57 = .ok (.iconst 0, 1) := by decide +kernel
theorem dX1_listTakers_58 : decode cX1_listTakers 58 = .ok (.istore_n 1, 1) := by decide +kernel
theorem dX1_listTakers_59 : decode cX1_listTakers 59 = .ok (.iload_n 1, 1) := by decide +kernel
theorem dX1_listTakers_60 : decode cX1_listTakers 60 = .ok (.aload_n 0, 1) := by decide +kernel
theorem dX1_listTakers_61 : decode cX1_listTakers 61 = .ok (.getfield 52, 3) := by decide +kernel
theorem dX1_listTakers_64 : decode cX1_listTakers 64 = .ok (.if_icmp .ge 42, 3) := by decide +kernel
theorem dX1_listTakers_67 : decode cX1_listTakers 67 = .ok (.aload_n 0, 1) := by decide +kernel
theorem dX1_listTakers_68 : decode cX1_listTakers 68 = .ok (.getfield 33, 3) := by decide +kernel
theorem dX1_listTakers_71 : decode cX1_listTakers 71 = .ok (.iload_n 1, 1) := by decide +kernel
theorem dX1_listTakers_72 : decode cX1_listTakers 72 = .ok (.iconst 1, 1) := by decide +kernel
theorem dX1_listTakers_73 : decode cX1_listTakers 73 = .ok (.iadd, 1) := by decide +kernel
theorem dX1_listTakers_74 : decode cX1_listTakers 74 = .ok (.aload_n 0, 1) := by decide +kernel
theorem dX1_listTakers_75 : decode cX1_listTakers 75 = .ok (.getfield 33, 3) := by decide +kernel
theorem dX1_listTakers_78 : decode cX1_listTakers 78 = .ok (.iload_n 1, 1) := by decide +kernel
theorem dX1_listTakers_79 : decode cX1_listTakers 79 = .ok (.iaload, 1) := by decide +kernel
theorem dX1_listTakers_80 : decode cX1_listTakers 80 = .ok (.aload_n 0, 1) := by decide +kernel
theorem dX1_listTakers_81 : decode cX1_listTakers 81 = .ok (.getfield 39, 3) := by decide +kernel
theorem dX1_listTakers_84 : decode cX1_listTakers 84 = .ok (.iload_n 1, 1) := by decide +kernel
theorem dX1_listTakers_85 : decode cX1_listTakers 85 = .ok (.iaload, 1) := by decide +kernel
theorem dX1_listTakers_86 : decode cX1_listTakers 86 = .ok (.iadd, 1) := by decide +kernel
theorem dX1_listTakers_87 : decode cX1_listTakers 87 = .ok (.iastore, 1) := by decide +kernel
theorem dX1_listTakers_88 : decode cX1_listTakers 88 = .ok (.aload_n 0, 1) := by decide +kernel
theorem dX1_listTakers_89 : decode cX1_listTakers 89 = .ok (.getfield 39, 3) := by decide +kernel
theorem dX1_listTakers_92 : decode cX1_listTakers 92 = .ok (.iload_n 1, 1) := by decide +kernel
theorem dX1_listTakers_93 : decode cX1_listTakers 93 = .ok (.aload_n 0, 1) := by decide +kernel
theorem dX1_listTakers_94 : decode cX1_listTakers 94 = .ok (.getfield 33, 3) := by decide +kernel
theorem dX1_listTakers_97 : decode cX1_listTakers 97 = .ok (.iload_n 1, 1) := by decide +kernel
theorem dX1_listTakers_98 : decode cX1_listTakers 98 = .ok (.iaload, 1) := by decide +kernel
theorem dX1_listTakers_99 : decode cX1_listTakers 99 = .ok (.iastore, 1) := by decide +kernel
theorem dX1_listTakers_100 : decode cX1_listTakers 100 = .ok (.iinc 1 1, 3) := by decide +kernel
theorem dX1_listTakers_103 : decode cX1_listTakers 103 = .ok (.goto (-44), 3) := by decide +kernel
theorem dX1_listTakers_106 : decode cX1_listTakers 106 = .ok (.iconst 0, 1) := by decide +kernel
theorem dX1_listTakers_107 : decode cX1_listTakers 107 = .ok (.istore_n 1, 1) := by decide +kernel
theorem dX1_listTakers_108 : decode cX1_listTakers 108 = .ok (.iload_n 1, 1) := by decide +kernel
theorem dX1_listTakers_109 : decode cX1_listTakers 109 = .ok (.aload_n 0, 1) := by decide +kernel
theorem dX1_listTakers_110 : decode cX1_listTakers 110 = .ok (.getfield 52, 3) := by decide +kernel
theorem dX1_listTakers_113 : decode cX1_listTakers 113 = .ok (.iconst 4, 1) := by decide +kernel
theorem dX1_listTakers_114 : decode cX1_listTakers 114 = .ok (.imul, 1) := by decide +kernel
theorem dX1_listTakers_115 : decode cX1_listTakers 115 = .ok (.if_icmp .ge 42, 3) := by decide +kernel
theorem dX1_listTakers_118 : decode cX1_listTakers 118 = .ok (.aload_n 0, 1) := by decide +kernel
theorem dX1_listTakers_119 : decode cX1_listTakers 119 = .ok (.getfield 27, 3) := by decide +kernel
theorem dX1_listTakers_122 : decode cX1_listTakers 122 = .ok (.iload_n 1, 1) := by decide +kernel
theorem dX1_listTakers_123 : decode cX1_listTakers 123 = .ok (.iaload, 1) := by decide +kernel
theorem dX1_listTakers_124 : decode cX1_listTakers 124 = .ok (.istore_n 2, 1) := by decide +kernel
theorem dX1_listTakers_125 : decode cX1_listTakers 125 = .ok (.iload_n 2, 1) := by decide +kernel
theorem dX1_listTakers_126 : decode cX1_listTakers 126 = .ok (.ifCond .lt 25, 3) := by decide +kernel
theorem dX1_listTakers_151 : decode cX1_listTakers 151 = .ok (.iinc 1 1, 3) := by decide +kernel
theorem dX1_listTakers_154 : decode cX1_listTakers 154 = .ok (.goto (-46), 3) := by decide +kernel
theorem dX1_listTakers_157 : decode cX1_listTakers 157 = .ok (.return_, 1) := by decide +kernel
def wo_k_listTakers : List Cond := [.code yX1_listTakers cX1_listTakers 3 none, .fieldLink RX1 39 "TimingHouse$Net" "tally" "[I", .methodLink RX1 46 yJ7_fill_53178, .static yJ7_fill_53178, .initialized RJ7, .fieldLink RX1 52 "TimingHouse$Net" "cells" "I", .fieldLink RX1 27 "TimingHouse$Net" "sources" "[I", .fieldLink RX1 33 "TimingHouse$Net" "firstTaker" "[I"]
def wr_k_listTakers : List Cond := (wsX10 ++ (w_k_fill ++ ([])))
def w_k_listTakers : List Cond := wo_k_listTakers ++ wr_k_listTakers
theorem wg_k_listTakers : GW w_k_listTakers := GW_app (GW_of (by decide +kernel)) (GW_app (GW_of (by decide +kernel)) (GW_app (wg_k_fill) (GW_nil)))
theorem i_k_listTakers_X1 : ∀ w ∈ wsX10, w ∈ w_k_listTakers := fun _ h => List.mem_append_right _ (List.mem_append_left _ h)
theorem g_k_listTakers_k_fill_46 : GoodIn w_k_listTakers (va_wsS RX1 46 yJ7_fill_53178 w_k_fill) := goodIn_app (gi_left (goodIn_of _ (by decide +kernel))) (fun w h => ⟨List.mem_append_right _ (List.mem_append_right _ (List.mem_append_left _ h)), wg_k_fill w h⟩)
set_option maxHeartbeats 4000000 in
set_option maxRecDepth 100000 in
theorem k_listTakers (l : Launch) (E : gE) (nt : Nat) (a_kinds : Nat) (a_inputs : Nat) (a_tables : Nat) (a_sources : Nat) (a_firstTaker : Nat) (a_order : Nat) (a_tally : Nat) (n_sizes : Value) (n_extras : Value) (n_takers : Value) (n_behind : Value) : CtV l E yX1_listTakers w_k_listTakers ({ frames := 1, cells := 0, slots := 0, locals := 23 }) [(nt, .inr (1, [.int 1, .ref a_kinds, .ref a_inputs, .ref a_tables, n_sizes, n_extras, .ref a_sources, n_takers, .ref a_firstTaker, .ref a_order, .int 0, .ref a_tally, n_behind])), (a_sources, aI E 200 (fun _ => (-5))), (a_firstTaker, aI E 51 (fun _ => 0)), (a_tally, aI E 50 (fun _ => 0))] [.ref nt] (fun w => w = [(nt, .inr (1, [.int 1, .ref a_kinds, .ref a_inputs, .ref a_tables, n_sizes, n_extras, .ref a_sources, n_takers, .ref a_firstTaker, .ref a_order, .int 0, .ref a_tally, n_behind])), (a_sources, aI E 200 (fun _ => (-5))), (a_firstTaker, aI E 51 (upd (upd (fun _ => 0) 0 0) 1 0)), (a_tally, aI E 50 (upd (fun _ => 0) 0 0))]) := by
  refine CtV.of (cc := cX1_listTakers) (maxL := 3) (rt := none) (by decide) rfl (Nat.le_of_ble_eq_true rfl) ?_
  intro p e s m below meth c A B ls hl
  obtain ⟨hx, hb, hml, hr, hlk, hin, hts, hown, hK, hN, hA, hP, hD, hS⟩ := B
  have hown : s.vm.findClass RX1 = some m.cls := hown
  have hto : ∀ w ∈ wo_k_listTakers, w.before _ s = true := fun w h => hts w (List.mem_append_left _ h)
  have hl : lv_has ls 3 [(0, .ref nt)] := hl
  obtain ⟨H, hHe⟩ : ∃ H, H = s.heap := ⟨_, rfl⟩
  have hS : va_S A s.heap H [] := by rw [hHe]; exact hS
  have hP : va_P E.1 vwCl [(nt, .inr (1, [.int 1, .ref a_kinds, .ref a_inputs, .ref a_tables, n_sizes, n_extras, .ref a_sources, n_takers, .ref a_firstTaker, .ref a_order, .int 0, .ref a_tally, n_behind])), (a_sources, aI E 200 (fun _ => (-5))), (a_firstTaker, aI E 51 (fun _ => 0)), (a_tally, aI E 50 (fun _ => 0))] H := by rw [hHe]; exact hP
  refine W_heap hHe ?_
  refine lv_aload_n hx hb dX1_listTakers_0 rfl (lv_at hl 0 rfl) ?_
  refine va_get (D := E.1) (ci := 1) (v := .ref a_tally) (own := RX1) (C := RX1) (T := TX1) (N := 13) hx hb hts i_k_listTakers_X1 hown hK hP 0 rfl rfl 11 (by decide) (hto (.fieldLink RX1 39 "TimingHouse$Net" "tally" "[I") (by decide +kernel)) (fun _ h9 => h9) rfl dX1_listTakers_1 ?_
  refine lv_iconst (v := 0) hx hb dX1_listTakers_4 (by decide) ?_
  refine call_v (va_runS (As := [.ref a_tally, .int 0]) (rest := []) ⟨hx, hb, hml, hown, hts⟩ (k_fill l E a_tally 50 (fun _ => 0) 0 (by decide) H.size) (va_cwS 2 hts g_k_listTakers_k_fill_46 rfl rfl rfl (by decide +kernel) ⟨Nat.le_of_ble_eq_true rfl, Nat.le_of_ble_eq_true rfl⟩) (pre_S hK hN (hP.sub (ws' := [(a_tally, aI E 50 (fun _ => 0))]) [3] rfl) (hD.sub (ws' := [(a_tally, aI E 50 (fun _ => 0))]) [3] (by decide) rfl)) rfl rfl hl.1 rfl (lv_room (Nat.le_of_ble_eq_true rfl)) dX1_listTakers_5 ⟨Nat.le_of_ble_eq_true rfl, Nat.le_of_ble_eq_true rfl⟩) hP hD hS hA [3] [0, 1, 2] (wr := [(nt, .inr (1, [.int 1, .ref a_kinds, .ref a_inputs, .ref a_tables, n_sizes, n_extras, .ref a_sources, n_takers, .ref a_firstTaker, .ref a_order, .int 0, .ref a_tally, n_behind])), (a_sources, aI E 200 (fun _ => (-5))), (a_firstTaker, aI E 51 (fun _ => 0))]) rfl rfl (by decide) (by decide) (fun w H locs hw hP hD hS => ?_)
  obtain rfl := hw
  have hP : va_P E.1 vwCl [(nt, .inr (1, [.int 1, .ref a_kinds, .ref a_inputs, .ref a_tables, n_sizes, n_extras, .ref a_sources, n_takers, .ref a_firstTaker, .ref a_order, .int 0, .ref a_tally, n_behind])), (a_sources, aI E 200 (fun _ => (-5))), (a_firstTaker, aI E 51 (fun _ => 0)), (a_tally, aI E 50 (fun _ => 0))] H := hP
  have hD : va_D A [(nt, .inr (1, [.int 1, .ref a_kinds, .ref a_inputs, .ref a_tables, n_sizes, n_extras, .ref a_sources, n_takers, .ref a_firstTaker, .ref a_order, .int 0, .ref a_tally, n_behind])), (a_sources, aI E 200 (fun _ => (-5))), (a_firstTaker, aI E 51 (fun _ => 0)), (a_tally, aI E 50 (fun _ => 0))] := hD
  refine lv_iconst (v := 0) hx hb dX1_listTakers_8 (by decide) ?_
  refine lv_istore_n (lv' := [(1, .int 0), (0, .ref nt)]) hx hb dX1_listTakers_9 rfl hl (by decide) rfl (fun ls hl => ?_)
  refine lv_iload_n hx hb dX1_listTakers_10 rfl (lv_at hl 0 rfl) ?_
  refine lv_aload_n hx hb dX1_listTakers_11 rfl (lv_at hl 1 rfl) ?_
  refine va_get (D := E.1) (ci := 1) (v := .int 1) (own := RX1) (C := RX1) (T := TX1) (N := 13) hx hb hts i_k_listTakers_X1 hown hK hP 0 rfl rfl 0 (by decide) (hto (.fieldLink RX1 52 "TimingHouse$Net" "cells" "I") (by decide +kernel)) (fun _ h9 => h9) rfl dX1_listTakers_12 ?_
  refine lv_iconst (v := 4) hx hb dX1_listTakers_15 (by decide) ?_
  refine lv_imul hx hb dX1_listTakers_16 ?_
  refine lv_cst (y := 4) (by decide) ?_
  refine lv_icmp_ge (tgt := 50) hx hb dX1_listTakers_17 (by decide) (fun c_2 => ?_) (fun c_2 => ?_)
  · exact absurd c_2 (by decide)
  · refine lv_aload_n hx hb dX1_listTakers_20 rfl (lv_at hl 1 rfl) ?_
    refine va_get (D := E.1) (ci := 1) (v := .ref a_sources) (own := RX1) (C := RX1) (T := TX1) (N := 13) hx hb hts i_k_listTakers_X1 hown hK hP 0 rfl rfl 6 (by decide) (hto (.fieldLink RX1 27 "TimingHouse$Net" "sources" "[I") (by decide +kernel)) (fun _ h9 => h9) rfl dX1_listTakers_21 ?_
    refine lv_iload_n hx hb dX1_listTakers_24 rfl (lv_at hl 0 rfl) ?_
    refine va_iald hx hb hK hP 1 0 rfl rfl (i3_in (by decide)) dX1_listTakers_25 ?_
    refine lv_cst (y := (-5)) (by rfl) ?_
    refine lv_if_lt (tgt := 44) hx hb dX1_listTakers_26 (by decide) (fun c_3 => ?_) (fun c_3 => ?_)
    · refine lv_iinc (v := 1) (lv' := [(1, .int 1), (0, .ref nt)]) hx hb dX1_listTakers_44 hl (k := 0) rfl (by decide) (by decide) rfl (fun ls hl => ?_)
      refine lv_goto (tgt := 10) hx hb dX1_listTakers_47 (by decide) ?_
      refine lv_iload_n hx hb dX1_listTakers_10 rfl (lv_at hl 0 rfl) ?_
      refine lv_aload_n hx hb dX1_listTakers_11 rfl (lv_at hl 1 rfl) ?_
      refine va_get (D := E.1) (ci := 1) (v := .int 1) (own := RX1) (C := RX1) (T := TX1) (N := 13) hx hb hts i_k_listTakers_X1 hown hK hP 0 rfl rfl 0 (by decide) (hto (.fieldLink RX1 52 "TimingHouse$Net" "cells" "I") (by decide +kernel)) (fun _ h9 => h9) rfl dX1_listTakers_12 ?_
      refine lv_iconst (v := 4) hx hb dX1_listTakers_15 (by decide) ?_
      refine lv_imul hx hb dX1_listTakers_16 ?_
      refine lv_cst (y := 4) (by decide) ?_
      refine lv_icmp_ge (tgt := 50) hx hb dX1_listTakers_17 (by decide) (fun c_4 => ?_) (fun c_4 => ?_)
      · exact absurd c_4 (by decide)
      · refine lv_aload_n hx hb dX1_listTakers_20 rfl (lv_at hl 1 rfl) ?_
        refine va_get (D := E.1) (ci := 1) (v := .ref a_sources) (own := RX1) (C := RX1) (T := TX1) (N := 13) hx hb hts i_k_listTakers_X1 hown hK hP 0 rfl rfl 6 (by decide) (hto (.fieldLink RX1 27 "TimingHouse$Net" "sources" "[I") (by decide +kernel)) (fun _ h9 => h9) rfl dX1_listTakers_21 ?_
        refine lv_iload_n hx hb dX1_listTakers_24 rfl (lv_at hl 0 rfl) ?_
        refine va_iald hx hb hK hP 1 0 rfl rfl (i3_in (by decide)) dX1_listTakers_25 ?_
        refine lv_cst (y := (-5)) (by rfl) ?_
        refine lv_if_lt (tgt := 44) hx hb dX1_listTakers_26 (by decide) (fun c_5 => ?_) (fun c_5 => ?_)
        · refine lv_iinc (v := 2) (lv' := [(1, .int 2), (0, .ref nt)]) hx hb dX1_listTakers_44 hl (k := 0) rfl (by decide) (by decide) rfl (fun ls hl => ?_)
          refine lv_goto (tgt := 10) hx hb dX1_listTakers_47 (by decide) ?_
          refine lv_iload_n hx hb dX1_listTakers_10 rfl (lv_at hl 0 rfl) ?_
          refine lv_aload_n hx hb dX1_listTakers_11 rfl (lv_at hl 1 rfl) ?_
          refine va_get (D := E.1) (ci := 1) (v := .int 1) (own := RX1) (C := RX1) (T := TX1) (N := 13) hx hb hts i_k_listTakers_X1 hown hK hP 0 rfl rfl 0 (by decide) (hto (.fieldLink RX1 52 "TimingHouse$Net" "cells" "I") (by decide +kernel)) (fun _ h9 => h9) rfl dX1_listTakers_12 ?_
          refine lv_iconst (v := 4) hx hb dX1_listTakers_15 (by decide) ?_
          refine lv_imul hx hb dX1_listTakers_16 ?_
          refine lv_cst (y := 4) (by decide) ?_
          refine lv_icmp_ge (tgt := 50) hx hb dX1_listTakers_17 (by decide) (fun c_6 => ?_) (fun c_6 => ?_)
          · exact absurd c_6 (by decide)
          · refine lv_aload_n hx hb dX1_listTakers_20 rfl (lv_at hl 1 rfl) ?_
            refine va_get (D := E.1) (ci := 1) (v := .ref a_sources) (own := RX1) (C := RX1) (T := TX1) (N := 13) hx hb hts i_k_listTakers_X1 hown hK hP 0 rfl rfl 6 (by decide) (hto (.fieldLink RX1 27 "TimingHouse$Net" "sources" "[I") (by decide +kernel)) (fun _ h9 => h9) rfl dX1_listTakers_21 ?_
            refine lv_iload_n hx hb dX1_listTakers_24 rfl (lv_at hl 0 rfl) ?_
            refine va_iald hx hb hK hP 1 0 rfl rfl (i3_in (by decide)) dX1_listTakers_25 ?_
            refine lv_cst (y := (-5)) (by rfl) ?_
            refine lv_if_lt (tgt := 44) hx hb dX1_listTakers_26 (by decide) (fun c_7 => ?_) (fun c_7 => ?_)
            · refine lv_iinc (v := 3) (lv' := [(1, .int 3), (0, .ref nt)]) hx hb dX1_listTakers_44 hl (k := 0) rfl (by decide) (by decide) rfl (fun ls hl => ?_)
              refine lv_goto (tgt := 10) hx hb dX1_listTakers_47 (by decide) ?_
              refine lv_iload_n hx hb dX1_listTakers_10 rfl (lv_at hl 0 rfl) ?_
              refine lv_aload_n hx hb dX1_listTakers_11 rfl (lv_at hl 1 rfl) ?_
              refine va_get (D := E.1) (ci := 1) (v := .int 1) (own := RX1) (C := RX1) (T := TX1) (N := 13) hx hb hts i_k_listTakers_X1 hown hK hP 0 rfl rfl 0 (by decide) (hto (.fieldLink RX1 52 "TimingHouse$Net" "cells" "I") (by decide +kernel)) (fun _ h9 => h9) rfl dX1_listTakers_12 ?_
              refine lv_iconst (v := 4) hx hb dX1_listTakers_15 (by decide) ?_
              refine lv_imul hx hb dX1_listTakers_16 ?_
              refine lv_cst (y := 4) (by decide) ?_
              refine lv_icmp_ge (tgt := 50) hx hb dX1_listTakers_17 (by decide) (fun c_8 => ?_) (fun c_8 => ?_)
              · exact absurd c_8 (by decide)
              · refine lv_aload_n hx hb dX1_listTakers_20 rfl (lv_at hl 1 rfl) ?_
                refine va_get (D := E.1) (ci := 1) (v := .ref a_sources) (own := RX1) (C := RX1) (T := TX1) (N := 13) hx hb hts i_k_listTakers_X1 hown hK hP 0 rfl rfl 6 (by decide) (hto (.fieldLink RX1 27 "TimingHouse$Net" "sources" "[I") (by decide +kernel)) (fun _ h9 => h9) rfl dX1_listTakers_21 ?_
                refine lv_iload_n hx hb dX1_listTakers_24 rfl (lv_at hl 0 rfl) ?_
                refine va_iald hx hb hK hP 1 0 rfl rfl (i3_in (by decide)) dX1_listTakers_25 ?_
                refine lv_cst (y := (-5)) (by rfl) ?_
                refine lv_if_lt (tgt := 44) hx hb dX1_listTakers_26 (by decide) (fun c_9 => ?_) (fun c_9 => ?_)
                · refine lv_iinc (v := 4) (lv' := [(1, .int 4), (0, .ref nt)]) hx hb dX1_listTakers_44 hl (k := 0) rfl (by decide) (by decide) rfl (fun ls hl => ?_)
                  refine lv_goto (tgt := 10) hx hb dX1_listTakers_47 (by decide) ?_
                  refine lv_iload_n hx hb dX1_listTakers_10 rfl (lv_at hl 0 rfl) ?_
                  refine lv_aload_n hx hb dX1_listTakers_11 rfl (lv_at hl 1 rfl) ?_
                  refine va_get (D := E.1) (ci := 1) (v := .int 1) (own := RX1) (C := RX1) (T := TX1) (N := 13) hx hb hts i_k_listTakers_X1 hown hK hP 0 rfl rfl 0 (by decide) (hto (.fieldLink RX1 52 "TimingHouse$Net" "cells" "I") (by decide +kernel)) (fun _ h9 => h9) rfl dX1_listTakers_12 ?_
                  refine lv_iconst (v := 4) hx hb dX1_listTakers_15 (by decide) ?_
                  refine lv_imul hx hb dX1_listTakers_16 ?_
                  refine lv_cst (y := 4) (by decide) ?_
                  refine lv_icmp_ge (tgt := 50) hx hb dX1_listTakers_17 (by decide) (fun c_10 => ?_) (fun c_10 => ?_)
                  · refine lv_aload_n hx hb dX1_listTakers_50 rfl (lv_at hl 1 rfl) ?_
                    refine va_get (D := E.1) (ci := 1) (v := .ref a_firstTaker) (own := RX1) (C := RX1) (T := TX1) (N := 13) hx hb hts i_k_listTakers_X1 hown hK hP 0 rfl rfl 8 (by decide) (hto (.fieldLink RX1 33 "TimingHouse$Net" "firstTaker" "[I") (by decide +kernel)) (fun _ h9 => h9) rfl dX1_listTakers_51 ?_
                    refine lv_iconst (v := 0) hx hb dX1_listTakers_54 (by decide) ?_
                    refine lv_iconst (v := 0) hx hb dX1_listTakers_55 (by decide) ?_
                    refine va_iast hx hb hK hP hD hS 2 0 rfl rfl (i3_in (by decide)) dX1_listTakers_56 (fun H locs hP hD hS => ?_)
                    have hP : va_P E.1 vwCl [(nt, .inr (1, [.int 1, .ref a_kinds, .ref a_inputs, .ref a_tables, n_sizes, n_extras, .ref a_sources, n_takers, .ref a_firstTaker, .ref a_order, .int 0, .ref a_tally, n_behind])), (a_sources, aI E 200 (fun _ => (-5))), (a_firstTaker, aI E 51 (upd (fun _ => 0) 0 0)), (a_tally, aI E 50 (fun _ => 0))] H := hP
                    have hD : va_D A [(nt, .inr (1, [.int 1, .ref a_kinds, .ref a_inputs, .ref a_tables, n_sizes, n_extras, .ref a_sources, n_takers, .ref a_firstTaker, .ref a_order, .int 0, .ref a_tally, n_behind])), (a_sources, aI E 200 (fun _ => (-5))), (a_firstTaker, aI E 51 (upd (fun _ => 0) 0 0)), (a_tally, aI E 50 (fun _ => 0))] := hD
                    refine lv_iconst (v := 0) hx hb dX1_listTakers_57 (by decide) ?_
                    refine lv_istore_n (lv' := [(1, .int 0), (0, .ref nt)]) hx hb dX1_listTakers_58 rfl hl (by decide) rfl (fun ls hl => ?_)
                    refine lv_iload_n hx hb dX1_listTakers_59 rfl (lv_at hl 0 rfl) ?_
                    refine lv_aload_n hx hb dX1_listTakers_60 rfl (lv_at hl 1 rfl) ?_
                    refine va_get (D := E.1) (ci := 1) (v := .int 1) (own := RX1) (C := RX1) (T := TX1) (N := 13) hx hb hts i_k_listTakers_X1 hown hK hP 0 rfl rfl 0 (by decide) (hto (.fieldLink RX1 52 "TimingHouse$Net" "cells" "I") (by decide +kernel)) (fun _ h9 => h9) rfl dX1_listTakers_61 ?_
                    refine lv_icmp_ge (tgt := 106) hx hb dX1_listTakers_64 (by decide) (fun c_11 => ?_) (fun c_11 => ?_)
                    · exact absurd c_11 (by decide)
                    · refine lv_aload_n hx hb dX1_listTakers_67 rfl (lv_at hl 1 rfl) ?_
                      refine va_get (D := E.1) (ci := 1) (v := .ref a_firstTaker) (own := RX1) (C := RX1) (T := TX1) (N := 13) hx hb hts i_k_listTakers_X1 hown hK hP 0 rfl rfl 8 (by decide) (hto (.fieldLink RX1 33 "TimingHouse$Net" "firstTaker" "[I") (by decide +kernel)) (fun _ h9 => h9) rfl dX1_listTakers_68 ?_
                      refine lv_iload_n hx hb dX1_listTakers_71 rfl (lv_at hl 0 rfl) ?_
                      refine lv_iconst (v := 1) hx hb dX1_listTakers_72 (by decide) ?_
                      refine lv_iadd hx hb dX1_listTakers_73 ?_
                      refine lv_cst (y := 1) (by decide) ?_
                      refine lv_aload_n hx hb dX1_listTakers_74 rfl (lv_at hl 1 rfl) ?_
                      refine va_get (D := E.1) (ci := 1) (v := .ref a_firstTaker) (own := RX1) (C := RX1) (T := TX1) (N := 13) hx hb hts i_k_listTakers_X1 hown hK hP 0 rfl rfl 8 (by decide) (hto (.fieldLink RX1 33 "TimingHouse$Net" "firstTaker" "[I") (by decide +kernel)) (fun _ h9 => h9) rfl dX1_listTakers_75 ?_
                      refine lv_iload_n hx hb dX1_listTakers_78 rfl (lv_at hl 0 rfl) ?_
                      refine va_iald hx hb hK hP 2 0 rfl rfl (i3_in (by decide)) dX1_listTakers_79 ?_
                      refine lv_cst (y := 0) (by rfl) ?_
                      refine lv_aload_n hx hb dX1_listTakers_80 rfl (lv_at hl 1 rfl) ?_
                      refine va_get (D := E.1) (ci := 1) (v := .ref a_tally) (own := RX1) (C := RX1) (T := TX1) (N := 13) hx hb hts i_k_listTakers_X1 hown hK hP 0 rfl rfl 11 (by decide) (hto (.fieldLink RX1 39 "TimingHouse$Net" "tally" "[I") (by decide +kernel)) (fun _ h9 => h9) rfl dX1_listTakers_81 ?_
                      refine lv_iload_n hx hb dX1_listTakers_84 rfl (lv_at hl 0 rfl) ?_
                      refine va_iald hx hb hK hP 3 0 rfl rfl (i3_in (by decide)) dX1_listTakers_85 ?_
                      refine lv_cst (y := 0) (by rfl) ?_
                      refine lv_iadd hx hb dX1_listTakers_86 ?_
                      refine lv_cst (y := 0) (by decide) ?_
                      refine va_iast hx hb hK hP hD hS 2 0 rfl rfl (i3_in (by decide)) dX1_listTakers_87 (fun H locs hP hD hS => ?_)
                      have hP : va_P E.1 vwCl [(nt, .inr (1, [.int 1, .ref a_kinds, .ref a_inputs, .ref a_tables, n_sizes, n_extras, .ref a_sources, n_takers, .ref a_firstTaker, .ref a_order, .int 0, .ref a_tally, n_behind])), (a_sources, aI E 200 (fun _ => (-5))), (a_firstTaker, aI E 51 (upd (upd (fun _ => 0) 0 0) 1 0)), (a_tally, aI E 50 (fun _ => 0))] H := hP
                      have hD : va_D A [(nt, .inr (1, [.int 1, .ref a_kinds, .ref a_inputs, .ref a_tables, n_sizes, n_extras, .ref a_sources, n_takers, .ref a_firstTaker, .ref a_order, .int 0, .ref a_tally, n_behind])), (a_sources, aI E 200 (fun _ => (-5))), (a_firstTaker, aI E 51 (upd (upd (fun _ => 0) 0 0) 1 0)), (a_tally, aI E 50 (fun _ => 0))] := hD
                      refine lv_aload_n hx hb dX1_listTakers_88 rfl (lv_at hl 1 rfl) ?_
                      refine va_get (D := E.1) (ci := 1) (v := .ref a_tally) (own := RX1) (C := RX1) (T := TX1) (N := 13) hx hb hts i_k_listTakers_X1 hown hK hP 0 rfl rfl 11 (by decide) (hto (.fieldLink RX1 39 "TimingHouse$Net" "tally" "[I") (by decide +kernel)) (fun _ h9 => h9) rfl dX1_listTakers_89 ?_
                      refine lv_iload_n hx hb dX1_listTakers_92 rfl (lv_at hl 0 rfl) ?_
                      refine lv_aload_n hx hb dX1_listTakers_93 rfl (lv_at hl 1 rfl) ?_
                      refine va_get (D := E.1) (ci := 1) (v := .ref a_firstTaker) (own := RX1) (C := RX1) (T := TX1) (N := 13) hx hb hts i_k_listTakers_X1 hown hK hP 0 rfl rfl 8 (by decide) (hto (.fieldLink RX1 33 "TimingHouse$Net" "firstTaker" "[I") (by decide +kernel)) (fun _ h9 => h9) rfl dX1_listTakers_94 ?_
                      refine lv_iload_n hx hb dX1_listTakers_97 rfl (lv_at hl 0 rfl) ?_
                      refine va_iald hx hb hK hP 2 0 rfl rfl (i3_in (by decide)) dX1_listTakers_98 ?_
                      refine lv_cst (y := 0) (by rfl) ?_
                      refine va_iast hx hb hK hP hD hS 3 0 rfl rfl (i3_in (by decide)) dX1_listTakers_99 (fun H locs hP hD hS => ?_)
                      have hP : va_P E.1 vwCl [(nt, .inr (1, [.int 1, .ref a_kinds, .ref a_inputs, .ref a_tables, n_sizes, n_extras, .ref a_sources, n_takers, .ref a_firstTaker, .ref a_order, .int 0, .ref a_tally, n_behind])), (a_sources, aI E 200 (fun _ => (-5))), (a_firstTaker, aI E 51 (upd (upd (fun _ => 0) 0 0) 1 0)), (a_tally, aI E 50 (upd (fun _ => 0) 0 0))] H := hP
                      have hD : va_D A [(nt, .inr (1, [.int 1, .ref a_kinds, .ref a_inputs, .ref a_tables, n_sizes, n_extras, .ref a_sources, n_takers, .ref a_firstTaker, .ref a_order, .int 0, .ref a_tally, n_behind])), (a_sources, aI E 200 (fun _ => (-5))), (a_firstTaker, aI E 51 (upd (upd (fun _ => 0) 0 0) 1 0)), (a_tally, aI E 50 (upd (fun _ => 0) 0 0))] := hD
                      refine lv_iinc (v := 1) (lv' := [(1, .int 1), (0, .ref nt)]) hx hb dX1_listTakers_100 hl (k := 0) rfl (by decide) (by decide) rfl (fun ls hl => ?_)
                      refine lv_goto (tgt := 59) hx hb dX1_listTakers_103 (by decide) ?_
                      refine lv_iload_n hx hb dX1_listTakers_59 rfl (lv_at hl 0 rfl) ?_
                      refine lv_aload_n hx hb dX1_listTakers_60 rfl (lv_at hl 1 rfl) ?_
                      refine va_get (D := E.1) (ci := 1) (v := .int 1) (own := RX1) (C := RX1) (T := TX1) (N := 13) hx hb hts i_k_listTakers_X1 hown hK hP 0 rfl rfl 0 (by decide) (hto (.fieldLink RX1 52 "TimingHouse$Net" "cells" "I") (by decide +kernel)) (fun _ h9 => h9) rfl dX1_listTakers_61 ?_
                      refine lv_icmp_ge (tgt := 106) hx hb dX1_listTakers_64 (by decide) (fun c_12 => ?_) (fun c_12 => ?_)
                      · refine lv_iconst (v := 0) hx hb dX1_listTakers_106 (by decide) ?_
                        refine lv_istore_n (lv' := [(1, .int 0), (0, .ref nt)]) hx hb dX1_listTakers_107 rfl hl (by decide) rfl (fun ls hl => ?_)
                        refine lv_iload_n hx hb dX1_listTakers_108 rfl (lv_at hl 0 rfl) ?_
                        refine lv_aload_n hx hb dX1_listTakers_109 rfl (lv_at hl 1 rfl) ?_
                        refine va_get (D := E.1) (ci := 1) (v := .int 1) (own := RX1) (C := RX1) (T := TX1) (N := 13) hx hb hts i_k_listTakers_X1 hown hK hP 0 rfl rfl 0 (by decide) (hto (.fieldLink RX1 52 "TimingHouse$Net" "cells" "I") (by decide +kernel)) (fun _ h9 => h9) rfl dX1_listTakers_110 ?_
                        refine lv_iconst (v := 4) hx hb dX1_listTakers_113 (by decide) ?_
                        refine lv_imul hx hb dX1_listTakers_114 ?_
                        refine lv_cst (y := 4) (by decide) ?_
                        refine lv_icmp_ge (tgt := 157) hx hb dX1_listTakers_115 (by decide) (fun c_13 => ?_) (fun c_13 => ?_)
                        · exact absurd c_13 (by decide)
                        · refine lv_aload_n hx hb dX1_listTakers_118 rfl (lv_at hl 1 rfl) ?_
                          refine va_get (D := E.1) (ci := 1) (v := .ref a_sources) (own := RX1) (C := RX1) (T := TX1) (N := 13) hx hb hts i_k_listTakers_X1 hown hK hP 0 rfl rfl 6 (by decide) (hto (.fieldLink RX1 27 "TimingHouse$Net" "sources" "[I") (by decide +kernel)) (fun _ h9 => h9) rfl dX1_listTakers_119 ?_
                          refine lv_iload_n hx hb dX1_listTakers_122 rfl (lv_at hl 0 rfl) ?_
                          refine va_iald hx hb hK hP 1 0 rfl rfl (i3_in (by decide)) dX1_listTakers_123 ?_
                          refine lv_cst (y := (-5)) (by rfl) ?_
                          refine lv_istore_n (lv' := [(2, .int (-5)), (1, .int 0), (0, .ref nt)]) hx hb dX1_listTakers_124 rfl hl (by decide) rfl (fun ls hl => ?_)
                          refine lv_iload_n hx hb dX1_listTakers_125 rfl (lv_at hl 0 rfl) ?_
                          refine lv_if_lt (tgt := 151) hx hb dX1_listTakers_126 (by decide) (fun c_14 => ?_) (fun c_14 => ?_)
                          · refine lv_iinc (v := 1) (lv' := [(1, .int 1), (2, .int (-5)), (0, .ref nt)]) hx hb dX1_listTakers_151 hl (k := 1) rfl (by decide) (by decide) rfl (fun ls hl => ?_)
                            refine lv_goto (tgt := 108) hx hb dX1_listTakers_154 (by decide) ?_
                            refine lv_iload_n hx hb dX1_listTakers_108 rfl (lv_at hl 0 rfl) ?_
                            refine lv_aload_n hx hb dX1_listTakers_109 rfl (lv_at hl 2 rfl) ?_
                            refine va_get (D := E.1) (ci := 1) (v := .int 1) (own := RX1) (C := RX1) (T := TX1) (N := 13) hx hb hts i_k_listTakers_X1 hown hK hP 0 rfl rfl 0 (by decide) (hto (.fieldLink RX1 52 "TimingHouse$Net" "cells" "I") (by decide +kernel)) (fun _ h9 => h9) rfl dX1_listTakers_110 ?_
                            refine lv_iconst (v := 4) hx hb dX1_listTakers_113 (by decide) ?_
                            refine lv_imul hx hb dX1_listTakers_114 ?_
                            refine lv_cst (y := 4) (by decide) ?_
                            refine lv_icmp_ge (tgt := 157) hx hb dX1_listTakers_115 (by decide) (fun c_15 => ?_) (fun c_15 => ?_)
                            · exact absurd c_15 (by decide)
                            · refine lv_aload_n hx hb dX1_listTakers_118 rfl (lv_at hl 2 rfl) ?_
                              refine va_get (D := E.1) (ci := 1) (v := .ref a_sources) (own := RX1) (C := RX1) (T := TX1) (N := 13) hx hb hts i_k_listTakers_X1 hown hK hP 0 rfl rfl 6 (by decide) (hto (.fieldLink RX1 27 "TimingHouse$Net" "sources" "[I") (by decide +kernel)) (fun _ h9 => h9) rfl dX1_listTakers_119 ?_
                              refine lv_iload_n hx hb dX1_listTakers_122 rfl (lv_at hl 0 rfl) ?_
                              refine va_iald hx hb hK hP 1 0 rfl rfl (i3_in (by decide)) dX1_listTakers_123 ?_
                              refine lv_cst (y := (-5)) (by rfl) ?_
                              refine lv_istore_n (lv' := [(2, .int (-5)), (1, .int 1), (0, .ref nt)]) hx hb dX1_listTakers_124 rfl hl (by decide) rfl (fun ls hl => ?_)
                              refine lv_iload_n hx hb dX1_listTakers_125 rfl (lv_at hl 0 rfl) ?_
                              refine lv_if_lt (tgt := 151) hx hb dX1_listTakers_126 (by decide) (fun c_16 => ?_) (fun c_16 => ?_)
                              · refine lv_iinc (v := 2) (lv' := [(1, .int 2), (2, .int (-5)), (0, .ref nt)]) hx hb dX1_listTakers_151 hl (k := 1) rfl (by decide) (by decide) rfl (fun ls hl => ?_)
                                refine lv_goto (tgt := 108) hx hb dX1_listTakers_154 (by decide) ?_
                                refine lv_iload_n hx hb dX1_listTakers_108 rfl (lv_at hl 0 rfl) ?_
                                refine lv_aload_n hx hb dX1_listTakers_109 rfl (lv_at hl 2 rfl) ?_
                                refine va_get (D := E.1) (ci := 1) (v := .int 1) (own := RX1) (C := RX1) (T := TX1) (N := 13) hx hb hts i_k_listTakers_X1 hown hK hP 0 rfl rfl 0 (by decide) (hto (.fieldLink RX1 52 "TimingHouse$Net" "cells" "I") (by decide +kernel)) (fun _ h9 => h9) rfl dX1_listTakers_110 ?_
                                refine lv_iconst (v := 4) hx hb dX1_listTakers_113 (by decide) ?_
                                refine lv_imul hx hb dX1_listTakers_114 ?_
                                refine lv_cst (y := 4) (by decide) ?_
                                refine lv_icmp_ge (tgt := 157) hx hb dX1_listTakers_115 (by decide) (fun c_17 => ?_) (fun c_17 => ?_)
                                · exact absurd c_17 (by decide)
                                · refine lv_aload_n hx hb dX1_listTakers_118 rfl (lv_at hl 2 rfl) ?_
                                  refine va_get (D := E.1) (ci := 1) (v := .ref a_sources) (own := RX1) (C := RX1) (T := TX1) (N := 13) hx hb hts i_k_listTakers_X1 hown hK hP 0 rfl rfl 6 (by decide) (hto (.fieldLink RX1 27 "TimingHouse$Net" "sources" "[I") (by decide +kernel)) (fun _ h9 => h9) rfl dX1_listTakers_119 ?_
                                  refine lv_iload_n hx hb dX1_listTakers_122 rfl (lv_at hl 0 rfl) ?_
                                  refine va_iald hx hb hK hP 1 0 rfl rfl (i3_in (by decide)) dX1_listTakers_123 ?_
                                  refine lv_cst (y := (-5)) (by rfl) ?_
                                  refine lv_istore_n (lv' := [(2, .int (-5)), (1, .int 2), (0, .ref nt)]) hx hb dX1_listTakers_124 rfl hl (by decide) rfl (fun ls hl => ?_)
                                  refine lv_iload_n hx hb dX1_listTakers_125 rfl (lv_at hl 0 rfl) ?_
                                  refine lv_if_lt (tgt := 151) hx hb dX1_listTakers_126 (by decide) (fun c_18 => ?_) (fun c_18 => ?_)
                                  · refine lv_iinc (v := 3) (lv' := [(1, .int 3), (2, .int (-5)), (0, .ref nt)]) hx hb dX1_listTakers_151 hl (k := 1) rfl (by decide) (by decide) rfl (fun ls hl => ?_)
                                    refine lv_goto (tgt := 108) hx hb dX1_listTakers_154 (by decide) ?_
                                    refine lv_iload_n hx hb dX1_listTakers_108 rfl (lv_at hl 0 rfl) ?_
                                    refine lv_aload_n hx hb dX1_listTakers_109 rfl (lv_at hl 2 rfl) ?_
                                    refine va_get (D := E.1) (ci := 1) (v := .int 1) (own := RX1) (C := RX1) (T := TX1) (N := 13) hx hb hts i_k_listTakers_X1 hown hK hP 0 rfl rfl 0 (by decide) (hto (.fieldLink RX1 52 "TimingHouse$Net" "cells" "I") (by decide +kernel)) (fun _ h9 => h9) rfl dX1_listTakers_110 ?_
                                    refine lv_iconst (v := 4) hx hb dX1_listTakers_113 (by decide) ?_
                                    refine lv_imul hx hb dX1_listTakers_114 ?_
                                    refine lv_cst (y := 4) (by decide) ?_
                                    refine lv_icmp_ge (tgt := 157) hx hb dX1_listTakers_115 (by decide) (fun c_19 => ?_) (fun c_19 => ?_)
                                    · exact absurd c_19 (by decide)
                                    · refine lv_aload_n hx hb dX1_listTakers_118 rfl (lv_at hl 2 rfl) ?_
                                      refine va_get (D := E.1) (ci := 1) (v := .ref a_sources) (own := RX1) (C := RX1) (T := TX1) (N := 13) hx hb hts i_k_listTakers_X1 hown hK hP 0 rfl rfl 6 (by decide) (hto (.fieldLink RX1 27 "TimingHouse$Net" "sources" "[I") (by decide +kernel)) (fun _ h9 => h9) rfl dX1_listTakers_119 ?_
                                      refine lv_iload_n hx hb dX1_listTakers_122 rfl (lv_at hl 0 rfl) ?_
                                      refine va_iald hx hb hK hP 1 0 rfl rfl (i3_in (by decide)) dX1_listTakers_123 ?_
                                      refine lv_cst (y := (-5)) (by rfl) ?_
                                      refine lv_istore_n (lv' := [(2, .int (-5)), (1, .int 3), (0, .ref nt)]) hx hb dX1_listTakers_124 rfl hl (by decide) rfl (fun ls hl => ?_)
                                      refine lv_iload_n hx hb dX1_listTakers_125 rfl (lv_at hl 0 rfl) ?_
                                      refine lv_if_lt (tgt := 151) hx hb dX1_listTakers_126 (by decide) (fun c_20 => ?_) (fun c_20 => ?_)
                                      · refine lv_iinc (v := 4) (lv' := [(1, .int 4), (2, .int (-5)), (0, .ref nt)]) hx hb dX1_listTakers_151 hl (k := 1) rfl (by decide) (by decide) rfl (fun ls hl => ?_)
                                        refine lv_goto (tgt := 108) hx hb dX1_listTakers_154 (by decide) ?_
                                        refine lv_iload_n hx hb dX1_listTakers_108 rfl (lv_at hl 0 rfl) ?_
                                        refine lv_aload_n hx hb dX1_listTakers_109 rfl (lv_at hl 2 rfl) ?_
                                        refine va_get (D := E.1) (ci := 1) (v := .int 1) (own := RX1) (C := RX1) (T := TX1) (N := 13) hx hb hts i_k_listTakers_X1 hown hK hP 0 rfl rfl 0 (by decide) (hto (.fieldLink RX1 52 "TimingHouse$Net" "cells" "I") (by decide +kernel)) (fun _ h9 => h9) rfl dX1_listTakers_110 ?_
                                        refine lv_iconst (v := 4) hx hb dX1_listTakers_113 (by decide) ?_
                                        refine lv_imul hx hb dX1_listTakers_114 ?_
                                        refine lv_cst (y := 4) (by decide) ?_
                                        refine lv_icmp_ge (tgt := 157) hx hb dX1_listTakers_115 (by decide) (fun c_21 => ?_) (fun c_21 => ?_)
                                        · exact ret_v hx hb hr hlk (hP.sub (ws' := [(nt, .inr (1, [.int 1, .ref a_kinds, .ref a_inputs, .ref a_tables, n_sizes, n_extras, .ref a_sources, n_takers, .ref a_firstTaker, .ref a_order, .int 0, .ref a_tally, n_behind])), (a_sources, aI E 200 (fun _ => (-5))), (a_firstTaker, aI E 51 (upd (upd (fun _ => 0) 0 0) 1 0)), (a_tally, aI E 50 (upd (fun _ => 0) 0 0))]) [0, 1, 2, 3] rfl) (hD.sub (ws' := [(nt, .inr (1, [.int 1, .ref a_kinds, .ref a_inputs, .ref a_tables, n_sizes, n_extras, .ref a_sources, n_takers, .ref a_firstTaker, .ref a_order, .int 0, .ref a_tally, n_behind])), (a_sources, aI E 200 (fun _ => (-5))), (a_firstTaker, aI E 51 (upd (upd (fun _ => 0) 0 0) 1 0)), (a_tally, aI E 50 (upd (fun _ => 0) 0 0))]) [0, 1, 2, 3] (by decide) rfl) hS dX1_listTakers_157 (Nat.le_of_ble_eq_true rfl) (Nat.le_of_ble_eq_true rfl) rfl
                                        · exact absurd c_21 (by decide)
                                      · exact absurd c_20 (by decide)
                                  · exact absurd c_18 (by decide)
                              · exact absurd c_16 (by decide)
                          · exact absurd c_14 (by decide)
                      · exact absurd c_12 (by decide)
                  · exact absurd c_10 (by decide)
                · exact absurd c_9 (by decide)
            · exact absurd c_7 (by decide)
        · exact absurd c_5 (by decide)
    · exact absurd c_3 (by decide)
theorem dX1_gatesTakenBy_0 : decode cX1_gatesTakenBy 0 = .ok (.iconst 0, 1) := by decide +kernel
theorem dX1_gatesTakenBy_1 : decode cX1_gatesTakenBy 1 = .ok (.istore_n 2, 1) := by decide +kernel
theorem dX1_gatesTakenBy_2 : decode cX1_gatesTakenBy 2 = .ok (.iload_n 1, 1) := by decide +kernel
theorem dX1_gatesTakenBy_3 : decode cX1_gatesTakenBy 3 = .ok (.iconst 4, 1) := by decide +kernel
theorem dX1_gatesTakenBy_4 : decode cX1_gatesTakenBy 4 = .ok (.imul, 1) := by decide +kernel
theorem dX1_gatesTakenBy_5 : decode cX1_gatesTakenBy 5 = .ok (.istore_n 3, 1) := by decide +kernel
theorem dX1_gatesTakenBy_6 : decode cX1_gatesTakenBy 6 = .ok (.iload_n 3, 1) := by decide +kernel
theorem dX1_gatesTakenBy_7 : decode cX1_gatesTakenBy 7 = .ok (.iload_n 1, 1) := by decide +kernel
theorem dX1_gatesTakenBy_8 : decode cX1_gatesTakenBy 8 = .ok (.iconst 4, 1) := by decide +kernel
theorem dX1_gatesTakenBy_9 : decode cX1_gatesTakenBy 9 = .ok (.imul, 1) := by decide +kernel
theorem dX1_gatesTakenBy_10 : decode cX1_gatesTakenBy 10 = .ok (.aload_n 0, 1) := by decide +kernel
theorem dX1_gatesTakenBy_11 : decode cX1_gatesTakenBy 11 = .ok (.getfield 15, 3) := by decide +kernel
theorem dX1_gatesTakenBy_14 : decode cX1_gatesTakenBy 14 = .ok (.iload_n 1, 1) := by decide +kernel
theorem dX1_gatesTakenBy_15 : decode cX1_gatesTakenBy 15 = .ok (.iaload, 1) := by decide +kernel
theorem dX1_gatesTakenBy_16 : decode cX1_gatesTakenBy 16 = .ok (.iadd, 1) := by decide +kernel
theorem dX1_gatesTakenBy_17 : decode cX1_gatesTakenBy 17 = .ok (.if_icmp .ge 34, 3) := by decide +kernel
theorem dX1_gatesTakenBy_51 : decode cX1_gatesTakenBy 51 = .ok (.iload_n 2, 1) := by decide +kernel
theorem dX1_gatesTakenBy_52 : decode cX1_gatesTakenBy 52 = .ok (.ireturn, 1) := by decide +kernel
theorem dX1_gatesTakenBy_20 : decode cX1_gatesTakenBy 20 = .ok (.aload_n 0, 1) := by decide +kernel
theorem dX1_gatesTakenBy_21 : decode cX1_gatesTakenBy 21 = .ok (.getfield 27, 3) := by decide +kernel
theorem dX1_gatesTakenBy_24 : decode cX1_gatesTakenBy 24 = .ok (.iload_n 3, 1) := by decide +kernel
theorem dX1_gatesTakenBy_25 : decode cX1_gatesTakenBy 25 = .ok (.iaload, 1) := by decide +kernel
theorem dX1_gatesTakenBy_26 : decode cX1_gatesTakenBy 26 = .ok (.ifCond .lt 19, 3) := by decide +kernel
theorem dX1_gatesTakenBy_45 : decode cX1_gatesTakenBy 45 = .ok (.iinc 3 1, 3) := by decide +kernel
theorem dX1_gatesTakenBy_48 : decode cX1_gatesTakenBy 48 = .ok (.goto (-42), 3) := by decide +kernel
def wo_k_gatesTakenBy : List Cond := [.code yX1_gatesTakenBy cX1_gatesTakenBy 4 (some .int), .fieldLink RX1 15 "TimingHouse$Net" "inputs" "[I", .fieldLink RX1 27 "TimingHouse$Net" "sources" "[I"]
def wr_k_gatesTakenBy : List Cond := (wsX10 ++ ([]))
def w_k_gatesTakenBy : List Cond := wo_k_gatesTakenBy ++ wr_k_gatesTakenBy
theorem wg_k_gatesTakenBy : GW w_k_gatesTakenBy := GW_app (GW_of (by decide +kernel)) (GW_app (GW_of (by decide +kernel)) (GW_nil))
theorem i_k_gatesTakenBy_X1 : ∀ w ∈ wsX10, w ∈ w_k_gatesTakenBy := fun _ h => List.mem_append_right _ (List.mem_append_left _ h)
set_option maxHeartbeats 4000000 in
set_option maxRecDepth 100000 in
theorem k_gatesTakenBy (l : Launch) (E : gE) (nt : Nat) (a_kinds : Nat) (a_inputs : Nat) (a_tables : Nat) (a_sources : Nat) (a_firstTaker : Nat) (a_order : Nat) (a_tally : Nat) (n_sizes : Value) (n_extras : Value) (n_takers : Value) (n_behind : Value) (ow : Int32) (ha : 0 ≤ ow.toInt ∧ ow.toInt ≤ 4) : CtI l E yX1_gatesTakenBy w_k_gatesTakenBy ({ frames := 0, cells := 0, slots := 0, locals := 0 }) [(nt, .inr (1, [.int 1, .ref a_kinds, .ref a_inputs, .ref a_tables, n_sizes, n_extras, .ref a_sources, n_takers, .ref a_firstTaker, .ref a_order, .int 0, .ref a_tally, n_behind])), (a_inputs, aI E 50 (upd (fun _ => 0) 0 ow)), (a_sources, aI E 200 (fun _ => (-5)))] [.ref nt, .int 0] (fun r w => r = 0 ∧ w = [(nt, .inr (1, [.int 1, .ref a_kinds, .ref a_inputs, .ref a_tables, n_sizes, n_extras, .ref a_sources, n_takers, .ref a_firstTaker, .ref a_order, .int 0, .ref a_tally, n_behind])), (a_inputs, aI E 50 (upd (fun _ => 0) 0 ow)), (a_sources, aI E 200 (fun _ => (-5)))]) := by
  refine CtI.of (cc := cX1_gatesTakenBy) (maxL := 4) (rt := (some .int)) (by decide) rfl (Nat.le_of_ble_eq_true rfl) ?_
  intro p e s m below meth c A B ls hl
  obtain ⟨hx, hb, hml, hr, hlk, hin, hts, hown, hK, hN, hA, hP, hD, hS⟩ := B
  have hown : s.vm.findClass RX1 = some m.cls := hown
  have hto : ∀ w ∈ wo_k_gatesTakenBy, w.before _ s = true := fun w h => hts w (List.mem_append_left _ h)
  have hl : lv_has ls 4 [(0, .ref nt), (1, .int 0)] := hl
  obtain ⟨H, hHe⟩ : ∃ H, H = s.heap := ⟨_, rfl⟩
  have hS : va_S A s.heap H [] := by rw [hHe]; exact hS
  have hP : va_P E.1 vwCl [(nt, .inr (1, [.int 1, .ref a_kinds, .ref a_inputs, .ref a_tables, n_sizes, n_extras, .ref a_sources, n_takers, .ref a_firstTaker, .ref a_order, .int 0, .ref a_tally, n_behind])), (a_inputs, aI E 50 (upd (fun _ => 0) 0 ow)), (a_sources, aI E 200 (fun _ => (-5)))] H := by rw [hHe]; exact hP
  refine W_heap hHe ?_
  refine lv_iconst (v := 0) hx hb dX1_gatesTakenBy_0 (by decide) ?_
  refine lv_istore_n (lv' := [(2, .int 0), (0, .ref nt), (1, .int 0)]) hx hb dX1_gatesTakenBy_1 rfl hl (by decide) rfl (fun ls hl => ?_)
  refine lv_iload_n hx hb dX1_gatesTakenBy_2 rfl (lv_at hl 2 rfl) ?_
  refine lv_iconst (v := 4) hx hb dX1_gatesTakenBy_3 (by decide) ?_
  refine lv_imul hx hb dX1_gatesTakenBy_4 ?_
  refine lv_cst (y := 0) (by decide) ?_
  refine lv_istore_n (lv' := [(3, .int 0), (2, .int 0), (0, .ref nt), (1, .int 0)]) hx hb dX1_gatesTakenBy_5 rfl hl (by decide) rfl (fun ls hl => ?_)
  refine lv_iload_n hx hb dX1_gatesTakenBy_6 rfl (lv_at hl 0 rfl) ?_
  refine lv_iload_n hx hb dX1_gatesTakenBy_7 rfl (lv_at hl 3 rfl) ?_
  refine lv_iconst (v := 4) hx hb dX1_gatesTakenBy_8 (by decide) ?_
  refine lv_imul hx hb dX1_gatesTakenBy_9 ?_
  refine lv_cst (y := 0) (by decide) ?_
  refine lv_aload_n hx hb dX1_gatesTakenBy_10 rfl (lv_at hl 2 rfl) ?_
  refine va_get (D := E.1) (ci := 1) (v := .ref a_inputs) (own := RX1) (C := RX1) (T := TX1) (N := 13) hx hb hts i_k_gatesTakenBy_X1 hown hK hP 0 rfl rfl 2 (by decide) (hto (.fieldLink RX1 15 "TimingHouse$Net" "inputs" "[I") (by decide +kernel)) (fun _ h9 => h9) rfl dX1_gatesTakenBy_11 ?_
  refine lv_iload_n hx hb dX1_gatesTakenBy_14 rfl (lv_at hl 3 rfl) ?_
  refine va_iald hx hb hK hP 1 0 rfl rfl (i3_in (by decide)) dX1_gatesTakenBy_15 ?_
  refine lv_cst (y := ow) (by rfl) ?_
  refine lv_iadd hx hb dX1_gatesTakenBy_16 ?_
  refine lv_topi (fun x_1 ex_1 => ?_)
  have tx_1 : x_1.toInt = 0 + ow.toInt := i3_addc rfl rfl ex_1 (by omega)
  refine lv_icmp_ge (tgt := 51) hx hb dX1_gatesTakenBy_17 (by decide) (fun c_2 => ?_) (fun c_2 => ?_)
  · have e_2 : x_1.toInt ≤ 0 := i3_le c_2
    refine lv_iload_n hx hb dX1_gatesTakenBy_51 rfl (lv_at hl 1 rfl) ?_
    exact ret_i hx hb hr hlk (hP.sub (ws' := [(nt, .inr (1, [.int 1, .ref a_kinds, .ref a_inputs, .ref a_tables, n_sizes, n_extras, .ref a_sources, n_takers, .ref a_firstTaker, .ref a_order, .int 0, .ref a_tally, n_behind])), (a_inputs, aI E 50 (upd (fun _ => 0) 0 ow)), (a_sources, aI E 200 (fun _ => (-5)))]) [0, 1, 2] rfl) (hD.sub (ws' := [(nt, .inr (1, [.int 1, .ref a_kinds, .ref a_inputs, .ref a_tables, n_sizes, n_extras, .ref a_sources, n_takers, .ref a_firstTaker, .ref a_order, .int 0, .ref a_tally, n_behind])), (a_inputs, aI E 50 (upd (fun _ => 0) 0 ow)), (a_sources, aI E 200 (fun _ => (-5)))]) [0, 1, 2] (by decide) rfl) hS rfl dX1_gatesTakenBy_52 (Nat.le_of_ble_eq_true rfl) (Nat.le_of_ble_eq_true rfl) ⟨rfl, rfl⟩
  · have e_2 : 0 < x_1.toInt := i3_nle c_2
    refine lv_aload_n hx hb dX1_gatesTakenBy_20 rfl (lv_at hl 2 rfl) ?_
    refine va_get (D := E.1) (ci := 1) (v := .ref a_sources) (own := RX1) (C := RX1) (T := TX1) (N := 13) hx hb hts i_k_gatesTakenBy_X1 hown hK hP 0 rfl rfl 6 (by decide) (hto (.fieldLink RX1 27 "TimingHouse$Net" "sources" "[I") (by decide +kernel)) (fun _ h9 => h9) rfl dX1_gatesTakenBy_21 ?_
    refine lv_iload_n hx hb dX1_gatesTakenBy_24 rfl (lv_at hl 0 rfl) ?_
    refine va_iald hx hb hK hP 2 0 rfl rfl (i3_in (by decide)) dX1_gatesTakenBy_25 ?_
    refine lv_cst (y := (-5)) (by rfl) ?_
    refine lv_if_lt (tgt := 45) hx hb dX1_gatesTakenBy_26 (by decide) (fun c_3 => ?_) (fun c_3 => ?_)
    · refine lv_iinc (v := 1) (lv' := [(3, .int 1), (2, .int 0), (0, .ref nt), (1, .int 0)]) hx hb dX1_gatesTakenBy_45 hl (k := 0) rfl (by decide) (by decide) rfl (fun ls hl => ?_)
      refine lv_goto (tgt := 6) hx hb dX1_gatesTakenBy_48 (by decide) ?_
      refine lv_iload_n hx hb dX1_gatesTakenBy_6 rfl (lv_at hl 0 rfl) ?_
      refine lv_iload_n hx hb dX1_gatesTakenBy_7 rfl (lv_at hl 3 rfl) ?_
      refine lv_iconst (v := 4) hx hb dX1_gatesTakenBy_8 (by decide) ?_
      refine lv_imul hx hb dX1_gatesTakenBy_9 ?_
      refine lv_cst (y := 0) (by decide) ?_
      refine lv_aload_n hx hb dX1_gatesTakenBy_10 rfl (lv_at hl 2 rfl) ?_
      refine va_get (D := E.1) (ci := 1) (v := .ref a_inputs) (own := RX1) (C := RX1) (T := TX1) (N := 13) hx hb hts i_k_gatesTakenBy_X1 hown hK hP 0 rfl rfl 2 (by decide) (hto (.fieldLink RX1 15 "TimingHouse$Net" "inputs" "[I") (by decide +kernel)) (fun _ h9 => h9) rfl dX1_gatesTakenBy_11 ?_
      refine lv_iload_n hx hb dX1_gatesTakenBy_14 rfl (lv_at hl 3 rfl) ?_
      refine va_iald hx hb hK hP 1 0 rfl rfl (i3_in (by decide)) dX1_gatesTakenBy_15 ?_
      refine lv_cst (y := ow) (by rfl) ?_
      refine lv_iadd hx hb dX1_gatesTakenBy_16 ?_
      refine lv_topi (fun x_4 ex_4 => ?_)
      have tx_4 : x_4.toInt = 0 + ow.toInt := i3_addc rfl rfl ex_4 (by omega)
      refine lv_icmp_ge (tgt := 51) hx hb dX1_gatesTakenBy_17 (by decide) (fun c_5 => ?_) (fun c_5 => ?_)
      · have e_5 : x_4.toInt ≤ 1 := i3_le c_5
        refine lv_iload_n hx hb dX1_gatesTakenBy_51 rfl (lv_at hl 1 rfl) ?_
        exact ret_i hx hb hr hlk (hP.sub (ws' := [(nt, .inr (1, [.int 1, .ref a_kinds, .ref a_inputs, .ref a_tables, n_sizes, n_extras, .ref a_sources, n_takers, .ref a_firstTaker, .ref a_order, .int 0, .ref a_tally, n_behind])), (a_inputs, aI E 50 (upd (fun _ => 0) 0 ow)), (a_sources, aI E 200 (fun _ => (-5)))]) [0, 1, 2] rfl) (hD.sub (ws' := [(nt, .inr (1, [.int 1, .ref a_kinds, .ref a_inputs, .ref a_tables, n_sizes, n_extras, .ref a_sources, n_takers, .ref a_firstTaker, .ref a_order, .int 0, .ref a_tally, n_behind])), (a_inputs, aI E 50 (upd (fun _ => 0) 0 ow)), (a_sources, aI E 200 (fun _ => (-5)))]) [0, 1, 2] (by decide) rfl) hS rfl dX1_gatesTakenBy_52 (Nat.le_of_ble_eq_true rfl) (Nat.le_of_ble_eq_true rfl) ⟨rfl, rfl⟩
      · have e_5 : 1 < x_4.toInt := i3_nle c_5
        refine lv_aload_n hx hb dX1_gatesTakenBy_20 rfl (lv_at hl 2 rfl) ?_
        refine va_get (D := E.1) (ci := 1) (v := .ref a_sources) (own := RX1) (C := RX1) (T := TX1) (N := 13) hx hb hts i_k_gatesTakenBy_X1 hown hK hP 0 rfl rfl 6 (by decide) (hto (.fieldLink RX1 27 "TimingHouse$Net" "sources" "[I") (by decide +kernel)) (fun _ h9 => h9) rfl dX1_gatesTakenBy_21 ?_
        refine lv_iload_n hx hb dX1_gatesTakenBy_24 rfl (lv_at hl 0 rfl) ?_
        refine va_iald hx hb hK hP 2 0 rfl rfl (i3_in (by decide)) dX1_gatesTakenBy_25 ?_
        refine lv_cst (y := (-5)) (by rfl) ?_
        refine lv_if_lt (tgt := 45) hx hb dX1_gatesTakenBy_26 (by decide) (fun c_6 => ?_) (fun c_6 => ?_)
        · refine lv_iinc (v := 2) (lv' := [(3, .int 2), (2, .int 0), (0, .ref nt), (1, .int 0)]) hx hb dX1_gatesTakenBy_45 hl (k := 0) rfl (by decide) (by decide) rfl (fun ls hl => ?_)
          refine lv_goto (tgt := 6) hx hb dX1_gatesTakenBy_48 (by decide) ?_
          refine lv_iload_n hx hb dX1_gatesTakenBy_6 rfl (lv_at hl 0 rfl) ?_
          refine lv_iload_n hx hb dX1_gatesTakenBy_7 rfl (lv_at hl 3 rfl) ?_
          refine lv_iconst (v := 4) hx hb dX1_gatesTakenBy_8 (by decide) ?_
          refine lv_imul hx hb dX1_gatesTakenBy_9 ?_
          refine lv_cst (y := 0) (by decide) ?_
          refine lv_aload_n hx hb dX1_gatesTakenBy_10 rfl (lv_at hl 2 rfl) ?_
          refine va_get (D := E.1) (ci := 1) (v := .ref a_inputs) (own := RX1) (C := RX1) (T := TX1) (N := 13) hx hb hts i_k_gatesTakenBy_X1 hown hK hP 0 rfl rfl 2 (by decide) (hto (.fieldLink RX1 15 "TimingHouse$Net" "inputs" "[I") (by decide +kernel)) (fun _ h9 => h9) rfl dX1_gatesTakenBy_11 ?_
          refine lv_iload_n hx hb dX1_gatesTakenBy_14 rfl (lv_at hl 3 rfl) ?_
          refine va_iald hx hb hK hP 1 0 rfl rfl (i3_in (by decide)) dX1_gatesTakenBy_15 ?_
          refine lv_cst (y := ow) (by rfl) ?_
          refine lv_iadd hx hb dX1_gatesTakenBy_16 ?_
          refine lv_topi (fun x_7 ex_7 => ?_)
          have tx_7 : x_7.toInt = 0 + ow.toInt := i3_addc rfl rfl ex_7 (by omega)
          refine lv_icmp_ge (tgt := 51) hx hb dX1_gatesTakenBy_17 (by decide) (fun c_8 => ?_) (fun c_8 => ?_)
          · have e_8 : x_7.toInt ≤ 2 := i3_le c_8
            refine lv_iload_n hx hb dX1_gatesTakenBy_51 rfl (lv_at hl 1 rfl) ?_
            exact ret_i hx hb hr hlk (hP.sub (ws' := [(nt, .inr (1, [.int 1, .ref a_kinds, .ref a_inputs, .ref a_tables, n_sizes, n_extras, .ref a_sources, n_takers, .ref a_firstTaker, .ref a_order, .int 0, .ref a_tally, n_behind])), (a_inputs, aI E 50 (upd (fun _ => 0) 0 ow)), (a_sources, aI E 200 (fun _ => (-5)))]) [0, 1, 2] rfl) (hD.sub (ws' := [(nt, .inr (1, [.int 1, .ref a_kinds, .ref a_inputs, .ref a_tables, n_sizes, n_extras, .ref a_sources, n_takers, .ref a_firstTaker, .ref a_order, .int 0, .ref a_tally, n_behind])), (a_inputs, aI E 50 (upd (fun _ => 0) 0 ow)), (a_sources, aI E 200 (fun _ => (-5)))]) [0, 1, 2] (by decide) rfl) hS rfl dX1_gatesTakenBy_52 (Nat.le_of_ble_eq_true rfl) (Nat.le_of_ble_eq_true rfl) ⟨rfl, rfl⟩
          · have e_8 : 2 < x_7.toInt := i3_nle c_8
            refine lv_aload_n hx hb dX1_gatesTakenBy_20 rfl (lv_at hl 2 rfl) ?_
            refine va_get (D := E.1) (ci := 1) (v := .ref a_sources) (own := RX1) (C := RX1) (T := TX1) (N := 13) hx hb hts i_k_gatesTakenBy_X1 hown hK hP 0 rfl rfl 6 (by decide) (hto (.fieldLink RX1 27 "TimingHouse$Net" "sources" "[I") (by decide +kernel)) (fun _ h9 => h9) rfl dX1_gatesTakenBy_21 ?_
            refine lv_iload_n hx hb dX1_gatesTakenBy_24 rfl (lv_at hl 0 rfl) ?_
            refine va_iald hx hb hK hP 2 0 rfl rfl (i3_in (by decide)) dX1_gatesTakenBy_25 ?_
            refine lv_cst (y := (-5)) (by rfl) ?_
            refine lv_if_lt (tgt := 45) hx hb dX1_gatesTakenBy_26 (by decide) (fun c_9 => ?_) (fun c_9 => ?_)
            · refine lv_iinc (v := 3) (lv' := [(3, .int 3), (2, .int 0), (0, .ref nt), (1, .int 0)]) hx hb dX1_gatesTakenBy_45 hl (k := 0) rfl (by decide) (by decide) rfl (fun ls hl => ?_)
              refine lv_goto (tgt := 6) hx hb dX1_gatesTakenBy_48 (by decide) ?_
              refine lv_iload_n hx hb dX1_gatesTakenBy_6 rfl (lv_at hl 0 rfl) ?_
              refine lv_iload_n hx hb dX1_gatesTakenBy_7 rfl (lv_at hl 3 rfl) ?_
              refine lv_iconst (v := 4) hx hb dX1_gatesTakenBy_8 (by decide) ?_
              refine lv_imul hx hb dX1_gatesTakenBy_9 ?_
              refine lv_cst (y := 0) (by decide) ?_
              refine lv_aload_n hx hb dX1_gatesTakenBy_10 rfl (lv_at hl 2 rfl) ?_
              refine va_get (D := E.1) (ci := 1) (v := .ref a_inputs) (own := RX1) (C := RX1) (T := TX1) (N := 13) hx hb hts i_k_gatesTakenBy_X1 hown hK hP 0 rfl rfl 2 (by decide) (hto (.fieldLink RX1 15 "TimingHouse$Net" "inputs" "[I") (by decide +kernel)) (fun _ h9 => h9) rfl dX1_gatesTakenBy_11 ?_
              refine lv_iload_n hx hb dX1_gatesTakenBy_14 rfl (lv_at hl 3 rfl) ?_
              refine va_iald hx hb hK hP 1 0 rfl rfl (i3_in (by decide)) dX1_gatesTakenBy_15 ?_
              refine lv_cst (y := ow) (by rfl) ?_
              refine lv_iadd hx hb dX1_gatesTakenBy_16 ?_
              refine lv_topi (fun x_10 ex_10 => ?_)
              have tx_10 : x_10.toInt = 0 + ow.toInt := i3_addc rfl rfl ex_10 (by omega)
              refine lv_icmp_ge (tgt := 51) hx hb dX1_gatesTakenBy_17 (by decide) (fun c_11 => ?_) (fun c_11 => ?_)
              · have e_11 : x_10.toInt ≤ 3 := i3_le c_11
                refine lv_iload_n hx hb dX1_gatesTakenBy_51 rfl (lv_at hl 1 rfl) ?_
                exact ret_i hx hb hr hlk (hP.sub (ws' := [(nt, .inr (1, [.int 1, .ref a_kinds, .ref a_inputs, .ref a_tables, n_sizes, n_extras, .ref a_sources, n_takers, .ref a_firstTaker, .ref a_order, .int 0, .ref a_tally, n_behind])), (a_inputs, aI E 50 (upd (fun _ => 0) 0 ow)), (a_sources, aI E 200 (fun _ => (-5)))]) [0, 1, 2] rfl) (hD.sub (ws' := [(nt, .inr (1, [.int 1, .ref a_kinds, .ref a_inputs, .ref a_tables, n_sizes, n_extras, .ref a_sources, n_takers, .ref a_firstTaker, .ref a_order, .int 0, .ref a_tally, n_behind])), (a_inputs, aI E 50 (upd (fun _ => 0) 0 ow)), (a_sources, aI E 200 (fun _ => (-5)))]) [0, 1, 2] (by decide) rfl) hS rfl dX1_gatesTakenBy_52 (Nat.le_of_ble_eq_true rfl) (Nat.le_of_ble_eq_true rfl) ⟨rfl, rfl⟩
              · have e_11 : 3 < x_10.toInt := i3_nle c_11
                refine lv_aload_n hx hb dX1_gatesTakenBy_20 rfl (lv_at hl 2 rfl) ?_
                refine va_get (D := E.1) (ci := 1) (v := .ref a_sources) (own := RX1) (C := RX1) (T := TX1) (N := 13) hx hb hts i_k_gatesTakenBy_X1 hown hK hP 0 rfl rfl 6 (by decide) (hto (.fieldLink RX1 27 "TimingHouse$Net" "sources" "[I") (by decide +kernel)) (fun _ h9 => h9) rfl dX1_gatesTakenBy_21 ?_
                refine lv_iload_n hx hb dX1_gatesTakenBy_24 rfl (lv_at hl 0 rfl) ?_
                refine va_iald hx hb hK hP 2 0 rfl rfl (i3_in (by decide)) dX1_gatesTakenBy_25 ?_
                refine lv_cst (y := (-5)) (by rfl) ?_
                refine lv_if_lt (tgt := 45) hx hb dX1_gatesTakenBy_26 (by decide) (fun c_12 => ?_) (fun c_12 => ?_)
                · refine lv_iinc (v := 4) (lv' := [(3, .int 4), (2, .int 0), (0, .ref nt), (1, .int 0)]) hx hb dX1_gatesTakenBy_45 hl (k := 0) rfl (by decide) (by decide) rfl (fun ls hl => ?_)
                  refine lv_goto (tgt := 6) hx hb dX1_gatesTakenBy_48 (by decide) ?_
                  refine lv_iload_n hx hb dX1_gatesTakenBy_6 rfl (lv_at hl 0 rfl) ?_
                  refine lv_iload_n hx hb dX1_gatesTakenBy_7 rfl (lv_at hl 3 rfl) ?_
                  refine lv_iconst (v := 4) hx hb dX1_gatesTakenBy_8 (by decide) ?_
                  refine lv_imul hx hb dX1_gatesTakenBy_9 ?_
                  refine lv_cst (y := 0) (by decide) ?_
                  refine lv_aload_n hx hb dX1_gatesTakenBy_10 rfl (lv_at hl 2 rfl) ?_
                  refine va_get (D := E.1) (ci := 1) (v := .ref a_inputs) (own := RX1) (C := RX1) (T := TX1) (N := 13) hx hb hts i_k_gatesTakenBy_X1 hown hK hP 0 rfl rfl 2 (by decide) (hto (.fieldLink RX1 15 "TimingHouse$Net" "inputs" "[I") (by decide +kernel)) (fun _ h9 => h9) rfl dX1_gatesTakenBy_11 ?_
                  refine lv_iload_n hx hb dX1_gatesTakenBy_14 rfl (lv_at hl 3 rfl) ?_
                  refine va_iald hx hb hK hP 1 0 rfl rfl (i3_in (by decide)) dX1_gatesTakenBy_15 ?_
                  refine lv_cst (y := ow) (by rfl) ?_
                  refine lv_iadd hx hb dX1_gatesTakenBy_16 ?_
                  refine lv_topi (fun x_13 ex_13 => ?_)
                  have tx_13 : x_13.toInt = 0 + ow.toInt := i3_addc rfl rfl ex_13 (by omega)
                  refine lv_icmp_ge (tgt := 51) hx hb dX1_gatesTakenBy_17 (by decide) (fun c_14 => ?_) (fun c_14 => ?_)
                  · have e_14 : x_13.toInt ≤ 4 := i3_le c_14
                    refine lv_iload_n hx hb dX1_gatesTakenBy_51 rfl (lv_at hl 1 rfl) ?_
                    exact ret_i hx hb hr hlk (hP.sub (ws' := [(nt, .inr (1, [.int 1, .ref a_kinds, .ref a_inputs, .ref a_tables, n_sizes, n_extras, .ref a_sources, n_takers, .ref a_firstTaker, .ref a_order, .int 0, .ref a_tally, n_behind])), (a_inputs, aI E 50 (upd (fun _ => 0) 0 ow)), (a_sources, aI E 200 (fun _ => (-5)))]) [0, 1, 2] rfl) (hD.sub (ws' := [(nt, .inr (1, [.int 1, .ref a_kinds, .ref a_inputs, .ref a_tables, n_sizes, n_extras, .ref a_sources, n_takers, .ref a_firstTaker, .ref a_order, .int 0, .ref a_tally, n_behind])), (a_inputs, aI E 50 (upd (fun _ => 0) 0 ow)), (a_sources, aI E 200 (fun _ => (-5)))]) [0, 1, 2] (by decide) rfl) hS rfl dX1_gatesTakenBy_52 (Nat.le_of_ble_eq_true rfl) (Nat.le_of_ble_eq_true rfl) ⟨rfl, rfl⟩
                  · have e_14 : 4 < x_13.toInt := i3_nle c_14
                    exfalso; omega
                · exact absurd c_12 (by decide)
            · exact absurd c_9 (by decide)
        · exact absurd c_6 (by decide)
    · exact absurd c_3 (by decide)
theorem dX1_isGate_0 : decode cX1_isGate 0 = .ok (.aload_n 0, 1) := by decide +kernel
theorem dX1_isGate_1 : decode cX1_isGate 1 = .ok (.getfield 9, 3) := by decide +kernel
theorem dX1_isGate_4 : decode cX1_isGate 4 = .ok (.iload_n 1, 1) := by decide +kernel
theorem dX1_isGate_5 : decode cX1_isGate 5 = .ok (.iaload, 1) := by decide +kernel
theorem dX1_isGate_6 : decode cX1_isGate 6 = .ok (.invokestatic 60, 3) := by decide +kernel
theorem dX1_isGate_9 : decode cX1_isGate 9 = .ok (.ireturn, 1) := by decide +kernel
def wo_k_isGate : List Cond := [.code yX1_isGate cX1_isGate 2 (some .boolean), .fieldLink RX1 9 "TimingHouse$Net" "kinds" "[I", .methodLink RX1 60 yX1_isGateKind, .static yX1_isGateKind, .initialized RX1]
def wr_k_isGate : List Cond := (wsX10 ++ (w_k_isGateKind ++ ([])))
def w_k_isGate : List Cond := wo_k_isGate ++ wr_k_isGate
theorem wg_k_isGate : GW w_k_isGate := GW_app (GW_of (by decide +kernel)) (GW_app (GW_of (by decide +kernel)) (GW_app (wg_k_isGateKind) (GW_nil)))
theorem i_k_isGate_X1 : ∀ w ∈ wsX10, w ∈ w_k_isGate := fun _ h => List.mem_append_right _ (List.mem_append_left _ h)
theorem g_k_isGate_k_isGateKind_60 : GoodIn w_k_isGate (va_wsS RX1 60 yX1_isGateKind w_k_isGateKind) := goodIn_app (gi_left (goodIn_of _ (by decide +kernel))) (fun w h => ⟨List.mem_append_right _ (List.mem_append_right _ (List.mem_append_left _ h)), wg_k_isGateKind w h⟩)
set_option maxHeartbeats 4000000 in
set_option maxRecDepth 100000 in
theorem k_isGate (l : Launch) (E : gE) (nt : Nat) (a_kinds : Nat) (a_inputs : Nat) (a_tables : Nat) (a_sources : Nat) (a_firstTaker : Nat) (a_order : Nat) (a_tally : Nat) (n_sizes : Value) (n_extras : Value) (n_takers : Value) (n_behind : Value) (kd : Int32) : CtI l E yX1_isGate w_k_isGate ({ frames := 1, cells := 0, slots := 0, locals := 20 }) [(nt, .inr (1, [.int 1, .ref a_kinds, .ref a_inputs, .ref a_tables, n_sizes, n_extras, .ref a_sources, n_takers, .ref a_firstTaker, .ref a_order, .int 0, .ref a_tally, n_behind])), (a_kinds, aI E 50 (upd (fun _ => 0) 0 kd))] [.ref nt, .int 0] (fun r w => (r = if 0 < kd.toInt ∧ kd.toInt < 4 then 1 else 0) ∧ w = [(nt, .inr (1, [.int 1, .ref a_kinds, .ref a_inputs, .ref a_tables, n_sizes, n_extras, .ref a_sources, n_takers, .ref a_firstTaker, .ref a_order, .int 0, .ref a_tally, n_behind])), (a_kinds, aI E 50 (upd (fun _ => 0) 0 kd))]) := by
  refine CtI.of (cc := cX1_isGate) (maxL := 2) (rt := (some .boolean)) (by decide) rfl (Nat.le_of_ble_eq_true rfl) ?_
  intro p e s m below meth c A B ls hl
  obtain ⟨hx, hb, hml, hr, hlk, hin, hts, hown, hK, hN, hA, hP, hD, hS⟩ := B
  have hown : s.vm.findClass RX1 = some m.cls := hown
  have hto : ∀ w ∈ wo_k_isGate, w.before _ s = true := fun w h => hts w (List.mem_append_left _ h)
  have hl : lv_has ls 2 [(0, .ref nt), (1, .int 0)] := hl
  obtain ⟨H, hHe⟩ : ∃ H, H = s.heap := ⟨_, rfl⟩
  have hS : va_S A s.heap H [] := by rw [hHe]; exact hS
  have hP : va_P E.1 vwCl [(nt, .inr (1, [.int 1, .ref a_kinds, .ref a_inputs, .ref a_tables, n_sizes, n_extras, .ref a_sources, n_takers, .ref a_firstTaker, .ref a_order, .int 0, .ref a_tally, n_behind])), (a_kinds, aI E 50 (upd (fun _ => 0) 0 kd))] H := by rw [hHe]; exact hP
  refine W_heap hHe ?_
  refine lv_aload_n hx hb dX1_isGate_0 rfl (lv_at hl 0 rfl) ?_
  refine va_get (D := E.1) (ci := 1) (v := .ref a_kinds) (own := RX1) (C := RX1) (T := TX1) (N := 13) hx hb hts i_k_isGate_X1 hown hK hP 0 rfl rfl 1 (by decide) (hto (.fieldLink RX1 9 "TimingHouse$Net" "kinds" "[I") (by decide +kernel)) (fun _ h9 => h9) rfl dX1_isGate_1 ?_
  refine lv_iload_n hx hb dX1_isGate_4 rfl (lv_at hl 1 rfl) ?_
  refine va_iald hx hb hK hP 1 0 rfl rfl (i3_in (by decide)) dX1_isGate_5 ?_
  refine lv_cst (y := kd) (by rfl) ?_
  refine call_i (va_runS (As := [.int kd]) (rest := []) ⟨hx, hb, hml, hown, hts⟩ (k_isGateKind l E kd H.size) (va_cwS 1 hts g_k_isGate_k_isGateKind_60 rfl rfl rfl (by decide +kernel) ⟨Nat.le_of_ble_eq_true rfl, Nat.le_of_ble_eq_true rfl⟩) (pre_S hK hN (hP.sub (ws' := []) [] rfl) (hD.sub (ws' := []) [] (by decide) rfl)) rfl rfl hl.1 rfl (lv_room (Nat.le_of_ble_eq_true rfl)) dX1_isGate_6 ⟨Nat.le_of_ble_eq_true rfl, Nat.le_of_ble_eq_true rfl⟩) hP hD hS hA [] [0, 1] (wr := [(nt, .inr (1, [.int 1, .ref a_kinds, .ref a_inputs, .ref a_tables, n_sizes, n_extras, .ref a_sources, n_takers, .ref a_firstTaker, .ref a_order, .int 0, .ref a_tally, n_behind])), (a_kinds, aI E 50 (upd (fun _ => 0) 0 kd))]) rfl rfl (by decide) (by decide) (fun r_1 w H locs hw hP hD hS => ?_)
  obtain ⟨hr_1, rfl⟩ := hw
  have hr_1 : r_1 = if 0 < kd.toInt ∧ kd.toInt < 4 then 1 else 0 := hr_1
  have hP : va_P E.1 vwCl [(nt, .inr (1, [.int 1, .ref a_kinds, .ref a_inputs, .ref a_tables, n_sizes, n_extras, .ref a_sources, n_takers, .ref a_firstTaker, .ref a_order, .int 0, .ref a_tally, n_behind])), (a_kinds, aI E 50 (upd (fun _ => 0) 0 kd))] H := hP
  have hD : va_D A [(nt, .inr (1, [.int 1, .ref a_kinds, .ref a_inputs, .ref a_tables, n_sizes, n_extras, .ref a_sources, n_takers, .ref a_firstTaker, .ref a_order, .int 0, .ref a_tally, n_behind])), (a_kinds, aI E 50 (upd (fun _ => 0) 0 kd))] := hD
  exact ret_i hx hb hr hlk (hP.sub (ws' := [(nt, .inr (1, [.int 1, .ref a_kinds, .ref a_inputs, .ref a_tables, n_sizes, n_extras, .ref a_sources, n_takers, .ref a_firstTaker, .ref a_order, .int 0, .ref a_tally, n_behind])), (a_kinds, aI E 50 (upd (fun _ => 0) 0 kd))]) [0, 1] rfl) (hD.sub (ws' := [(nt, .inr (1, [.int 1, .ref a_kinds, .ref a_inputs, .ref a_tables, n_sizes, n_extras, .ref a_sources, n_takers, .ref a_firstTaker, .ref a_order, .int 0, .ref a_tally, n_behind])), (a_kinds, aI E 50 (upd (fun _ => 0) 0 kd))]) [0, 1] (by decide) rfl) hS (nb_if hr_1) dX1_isGate_9 (Nat.le_of_ble_eq_true rfl) (Nat.le_of_ble_eq_true rfl) ⟨(by first | assumption | ((repeat' split) <;> first | rfl | (exfalso; omega))), rfl⟩
theorem dX1_orderGates_0 : decode cX1_orderGates 0 = .ok (.aload_n 0, 1) := by decide +kernel
theorem dX1_orderGates_1 : decode cX1_orderGates 1 = .ok (.iconst 0, 1) := by decide +kernel
theorem dX1_orderGates_2 : decode cX1_orderGates 2 = .ok (.putfield 69, 3) := by decide +kernel
theorem dX1_orderGates_5 : decode cX1_orderGates 5 = .ok (.iconst 0, 1) := by decide +kernel
theorem dX1_orderGates_6 : decode cX1_orderGates 6 = .ok (.istore_n 1, 1) := by decide +kernel
theorem dX1_orderGates_7 : decode cX1_orderGates 7 = .ok (.iload_n 1, 1) := by decide +kernel
theorem dX1_orderGates_8 : decode cX1_orderGates 8 = .ok (.aload_n 0, 1) := by decide +kernel
theorem dX1_orderGates_9 : decode cX1_orderGates 9 = .ok (.getfield 52, 3) := by decide +kernel
theorem dX1_orderGates_12 : decode cX1_orderGates 12 = .ok (.if_icmp .ge 57, 3) := by decide +kernel
theorem dX1_orderGates_15 : decode cX1_orderGates 15 = .ok (.aload_n 0, 1) := by decide +kernel
theorem dX1_orderGates_16 : decode cX1_orderGates 16 = .ok (.getfield 39, 3) := by decide +kernel
theorem dX1_orderGates_19 : decode cX1_orderGates 19 = .ok (.iload_n 1, 1) := by decide +kernel
theorem dX1_orderGates_20 : decode cX1_orderGates 20 = .ok (.aload_n 0, 1) := by decide +kernel
theorem dX1_orderGates_21 : decode cX1_orderGates 21 = .ok (.iload_n 1, 1) := by decide +kernel
theorem dX1_orderGates_22 : decode cX1_orderGates 22 = .ok (.invokevirtual 78, 3) := by decide +kernel
theorem dX1_orderGates_25 : decode cX1_orderGates 25 = .ok (.iastore, 1) := by decide +kernel
theorem dX1_orderGates_26 : decode cX1_orderGates 26 = .ok (.aload_n 0, 1) := by decide +kernel
theorem dX1_orderGates_27 : decode cX1_orderGates 27 = .ok (.iload_n 1, 1) := by decide +kernel
theorem dX1_orderGates_28 : decode cX1_orderGates 28 = .ok (.invokevirtual 66, 3) := by decide +kernel
theorem dX1_orderGates_31 : decode cX1_orderGates 31 = .ok (.ifCond .eq 32, 3) := by decide +kernel
theorem dX1_orderGates_63 : decode cX1_orderGates 63 = .ok (.iinc 1 1, 3) := by decide +kernel
theorem dX1_orderGates_66 : decode cX1_orderGates 66 = .ok (.goto (-59), 3) := by decide +kernel
theorem dX1_orderGates_69 : decode cX1_orderGates 69 = .ok (.iconst 0, 1) := by decide +kernel
theorem dX1_orderGates_70 : decode cX1_orderGates 70 = .ok (.istore_n 1, 1) := by decide +kernel
theorem dX1_orderGates_71 : decode cX1_orderGates 71 = .ok (.iload_n 1, 1) := by decide +kernel
theorem dX1_orderGates_72 : decode cX1_orderGates 72 = .ok (.aload_n 0, 1) := by decide +kernel
theorem dX1_orderGates_73 : decode cX1_orderGates 73 = .ok (.getfield 69, 3) := by decide +kernel
theorem dX1_orderGates_76 : decode cX1_orderGates 76 = .ok (.if_icmp .ge 108, 3) := by decide +kernel
theorem dX1_orderGates_184 : decode cX1_orderGates 184 = .ok (.return_, 1) := by decide +kernel
theorem dX1_orderGates_34 : decode cX1_orderGates 34 = .ok (.aload_n 0, 1) := by decide +kernel
theorem dX1_orderGates_35 : decode cX1_orderGates 35 = .ok (.getfield 39, 3) := by decide +kernel
theorem dX1_orderGates_38 : decode cX1_orderGates 38 = .ok (.iload_n 1, 1) := by decide +kernel
theorem dX1_orderGates_39 : decode cX1_orderGates 39 = .ok (.iaload, 1) := by decide +kernel
theorem dX1_orderGates_40 : decode cX1_orderGates 40 = .ok (.ifCond .ne 23, 3) := by decide +kernel
theorem dX1_orderGates_43 : decode cX1_orderGates 43 = .ok (.aload_n 0, 1) := by decide +kernel
theorem dX1_orderGates_44 : decode cX1_orderGates 44 = .ok (.getfield 36, 3) := by decide +kernel
theorem dX1_orderGates_47 : decode cX1_orderGates 47 = .ok (.aload_n 0, 1) := by decide +kernel
theorem dX1_orderGates_48 : decode cX1_orderGates 48 = .ok (.getfield 69, 3) := by decide +kernel
theorem dX1_orderGates_51 : decode cX1_orderGates 51 = .ok (.iload_n 1, 1) := by decide +kernel
theorem dX1_orderGates_52 : decode cX1_orderGates 52 = .ok (.iastore, 1) := by decide +kernel
theorem dX1_orderGates_53 : decode cX1_orderGates 53 = .ok (.aload_n 0, 1) := by decide +kernel
theorem dX1_orderGates_54 : decode cX1_orderGates 54 = .ok (.dup, 1) := by decide +kernel
theorem dX1_orderGates_55 : decode cX1_orderGates 55 = .ok (.getfield 69, 3) := by decide +kernel
theorem dX1_orderGates_58 : decode cX1_orderGates 58 = .ok (.iconst 1, 1) := by decide +kernel
theorem dX1_orderGates_59 : decode cX1_orderGates 59 = .ok (.iadd, 1) := by decide +kernel
theorem dX1_orderGates_60 : decode cX1_orderGates 60 = .ok (.putfield 69, 3) := by decide +kernel
theorem dX1_orderGates_79 : decode cX1_orderGates 79 = .ok (.iload_n 1, 1) := by decide +kernel
theorem dX1_orderGates_80 : decode cX1_orderGates 80 = .ok (.bipush 50, 2) := by decide +kernel
theorem dX1_orderGates_82 : decode cX1_orderGates 82 = .ok (.if_icmp .ge 102, 3) := by decide +kernel
theorem dX1_orderGates_85 : decode cX1_orderGates 85 = .ok (.aload_n 0, 1) := by decide +kernel
theorem dX1_orderGates_86 : decode cX1_orderGates 86 = .ok (.getfield 36, 3) := by decide +kernel
theorem dX1_orderGates_89 : decode cX1_orderGates 89 = .ok (.iload_n 1, 1) := by decide +kernel
theorem dX1_orderGates_90 : decode cX1_orderGates 90 = .ok (.iaload, 1) := by decide +kernel
theorem dX1_orderGates_91 : decode cX1_orderGates 91 = .ok (.istore_n 2, 1) := by decide +kernel
theorem dX1_orderGates_92 : decode cX1_orderGates 92 = .ok (.aload_n 0, 1) := by decide +kernel
theorem dX1_orderGates_93 : decode cX1_orderGates 93 = .ok (.getfield 33, 3) := by decide +kernel
theorem dX1_orderGates_96 : decode cX1_orderGates 96 = .ok (.iload_n 2, 1) := by decide +kernel
theorem dX1_orderGates_97 : decode cX1_orderGates 97 = .ok (.iaload, 1) := by decide +kernel
theorem dX1_orderGates_98 : decode cX1_orderGates 98 = .ok (.istore_n 3, 1) := by decide +kernel
theorem dX1_orderGates_99 : decode cX1_orderGates 99 = .ok (.iload_n 3, 1) := by decide +kernel
theorem dX1_orderGates_100 : decode cX1_orderGates 100 = .ok (.aload_n 0, 1) := by decide +kernel
theorem dX1_orderGates_101 : decode cX1_orderGates 101 = .ok (.getfield 33, 3) := by decide +kernel
theorem dX1_orderGates_104 : decode cX1_orderGates 104 = .ok (.iload_n 2, 1) := by decide +kernel
theorem dX1_orderGates_105 : decode cX1_orderGates 105 = .ok (.iconst 1, 1) := by decide +kernel
theorem dX1_orderGates_106 : decode cX1_orderGates 106 = .ok (.iadd, 1) := by decide +kernel
theorem dX1_orderGates_107 : decode cX1_orderGates 107 = .ok (.iaload, 1) := by decide +kernel
theorem dX1_orderGates_108 : decode cX1_orderGates 108 = .ok (.if_icmp .ge 70, 3) := by decide +kernel
theorem dX1_orderGates_178 : decode cX1_orderGates 178 = .ok (.iinc 1 1, 3) := by decide +kernel
theorem dX1_orderGates_181 : decode cX1_orderGates 181 = .ok (.goto (-110), 3) := by decide +kernel
def wo_k_orderGates : List Cond := [.code yX1_orderGates cX1_orderGates 5 none, .fieldLink RX1 69 "TimingHouse$Net" "ordered" "I", .fieldLink RX1 52 "TimingHouse$Net" "cells" "I", .fieldLink RX1 39 "TimingHouse$Net" "tally" "[I", .methodLink RX1 78 yX1_gatesTakenBy, .instanceMethod yX1_gatesTakenBy, .selects RX1 yX1_gatesTakenBy yX1_gatesTakenBy, .initialized RX1, .methodLink RX1 66 yX1_isGate, .instanceMethod yX1_isGate, .selects RX1 yX1_isGate yX1_isGate, .fieldLink RX1 36 "TimingHouse$Net" "order" "[I", .fieldLink RX1 33 "TimingHouse$Net" "firstTaker" "[I"]
def wr_k_orderGates : List Cond := (wsX10 ++ (w_k_gatesTakenBy ++ (w_k_isGate ++ ([]))))
def w_k_orderGates : List Cond := wo_k_orderGates ++ wr_k_orderGates
theorem wg_k_orderGates : GW w_k_orderGates := GW_app (GW_of (by decide +kernel)) (GW_app (GW_of (by decide +kernel)) (GW_app (wg_k_gatesTakenBy) (GW_app (wg_k_isGate) (GW_nil))))
theorem i_k_orderGates_X1 : ∀ w ∈ wsX10, w ∈ w_k_orderGates := fun _ h => List.mem_append_right _ (List.mem_append_left _ h)
theorem g_k_orderGates_k_gatesTakenBy_78 : GoodIn w_k_orderGates (wsV RX1 78 RX1 yX1_gatesTakenBy w_k_gatesTakenBy) := goodIn_app (gi_left (goodIn_of _ (by decide +kernel))) (fun w h => ⟨List.mem_append_right _ (List.mem_append_right _ (List.mem_append_left _ h)), wg_k_gatesTakenBy w h⟩)
theorem g_k_orderGates_k_isGate_66 : GoodIn w_k_orderGates (wsV RX1 66 RX1 yX1_isGate w_k_isGate) := goodIn_app (gi_left (goodIn_of _ (by decide +kernel))) (fun w h => ⟨List.mem_append_right _ (List.mem_append_right _ (List.mem_append_right _ (List.mem_append_left _ h))), wg_k_isGate w h⟩)
set_option maxHeartbeats 4000000 in
set_option maxRecDepth 100000 in
theorem k_orderGates (l : Launch) (E : gE) (nt : Nat) (a_kinds : Nat) (a_inputs : Nat) (a_tables : Nat) (a_sources : Nat) (a_firstTaker : Nat) (a_order : Nat) (a_tally : Nat) (n_sizes : Value) (n_extras : Value) (n_takers : Value) (n_behind : Value) (kd : Int32) (ow : Int32) (ha : 0 ≤ ow.toInt ∧ ow.toInt ≤ 4) : CtV l E yX1_orderGates w_k_orderGates ({ frames := 2, cells := 0, slots := 0, locals := 41 }) [(nt, .inr (1, [.int 1, .ref a_kinds, .ref a_inputs, .ref a_tables, n_sizes, n_extras, .ref a_sources, n_takers, .ref a_firstTaker, .ref a_order, .int 0, .ref a_tally, n_behind])), (a_sources, aI E 200 (fun _ => (-5))), (a_firstTaker, aI E 51 (upd (upd (fun _ => 0) 0 0) 1 0)), (a_tally, aI E 50 (upd (fun _ => 0) 0 0)), (a_inputs, aI E 50 (upd (fun _ => 0) 0 ow)), (a_kinds, aI E 50 (upd (fun _ => 0) 0 kd)), (a_order, aI E 50 (fun _ => 0))] [.ref nt] (fun w => w = []) := by
  refine CtV.of (cc := cX1_orderGates) (maxL := 5) (rt := none) (by decide) rfl (Nat.le_of_ble_eq_true rfl) ?_
  intro p e s m below meth c A B ls hl
  obtain ⟨hx, hb, hml, hr, hlk, hin, hts, hown, hK, hN, hA, hP, hD, hS⟩ := B
  have hown : s.vm.findClass RX1 = some m.cls := hown
  have hto : ∀ w ∈ wo_k_orderGates, w.before _ s = true := fun w h => hts w (List.mem_append_left _ h)
  have hl : lv_has ls 5 [(0, .ref nt)] := hl
  obtain ⟨H, hHe⟩ : ∃ H, H = s.heap := ⟨_, rfl⟩
  have hS : va_S A s.heap H [] := by rw [hHe]; exact hS
  have hP : va_P E.1 vwCl [(nt, .inr (1, [.int 1, .ref a_kinds, .ref a_inputs, .ref a_tables, n_sizes, n_extras, .ref a_sources, n_takers, .ref a_firstTaker, .ref a_order, .int 0, .ref a_tally, n_behind])), (a_sources, aI E 200 (fun _ => (-5))), (a_firstTaker, aI E 51 (upd (upd (fun _ => 0) 0 0) 1 0)), (a_tally, aI E 50 (upd (fun _ => 0) 0 0)), (a_inputs, aI E 50 (upd (fun _ => 0) 0 ow)), (a_kinds, aI E 50 (upd (fun _ => 0) 0 kd)), (a_order, aI E 50 (fun _ => 0))] H := by rw [hHe]; exact hP
  refine W_heap hHe ?_
  refine lv_aload_n hx hb dX1_orderGates_0 rfl (lv_at hl 0 rfl) ?_
  refine lv_iconst (v := 0) hx hb dX1_orderGates_1 (by decide) ?_
  refine va_put (D := E.1) (ci := 1) (v := .int 0) (ty := .int) (own := RX1) (C := RX1) (T := TX1) (N := 13) hx hb hts i_k_orderGates_X1 tyX1 tyX1_ok nmX1 hown hK hP hD hS 0 rfl rfl 10 (by decide) (hto (.fieldLink RX1 69 "TimingHouse$Net" "ordered" "I") (by decide +kernel)) (fun _ h9 => h9) rfl (by decide +kernel) rfl rfl (Nat.le_of_ble_eq_true rfl) dX1_orderGates_2 (fun H locs hP hD hS => ?_)
  have hP : va_P E.1 vwCl [(nt, .inr (1, [.int 1, .ref a_kinds, .ref a_inputs, .ref a_tables, n_sizes, n_extras, .ref a_sources, n_takers, .ref a_firstTaker, .ref a_order, .int 0, .ref a_tally, n_behind])), (a_sources, aI E 200 (fun _ => (-5))), (a_firstTaker, aI E 51 (upd (upd (fun _ => 0) 0 0) 1 0)), (a_tally, aI E 50 (upd (fun _ => 0) 0 0)), (a_inputs, aI E 50 (upd (fun _ => 0) 0 ow)), (a_kinds, aI E 50 (upd (fun _ => 0) 0 kd)), (a_order, aI E 50 (fun _ => 0))] H := hP
  have hD : va_D A [(nt, .inr (1, [.int 1, .ref a_kinds, .ref a_inputs, .ref a_tables, n_sizes, n_extras, .ref a_sources, n_takers, .ref a_firstTaker, .ref a_order, .int 0, .ref a_tally, n_behind])), (a_sources, aI E 200 (fun _ => (-5))), (a_firstTaker, aI E 51 (upd (upd (fun _ => 0) 0 0) 1 0)), (a_tally, aI E 50 (upd (fun _ => 0) 0 0)), (a_inputs, aI E 50 (upd (fun _ => 0) 0 ow)), (a_kinds, aI E 50 (upd (fun _ => 0) 0 kd)), (a_order, aI E 50 (fun _ => 0))] := hD
  refine lv_iconst (v := 0) hx hb dX1_orderGates_5 (by decide) ?_
  refine lv_istore_n (lv' := [(1, .int 0), (0, .ref nt)]) hx hb dX1_orderGates_6 rfl hl (by decide) rfl (fun ls hl => ?_)
  refine lv_iload_n hx hb dX1_orderGates_7 rfl (lv_at hl 0 rfl) ?_
  refine lv_aload_n hx hb dX1_orderGates_8 rfl (lv_at hl 1 rfl) ?_
  refine va_get (D := E.1) (ci := 1) (v := .int 1) (own := RX1) (C := RX1) (T := TX1) (N := 13) hx hb hts i_k_orderGates_X1 hown hK hP 0 rfl rfl 0 (by decide) (hto (.fieldLink RX1 52 "TimingHouse$Net" "cells" "I") (by decide +kernel)) (fun _ h9 => h9) rfl dX1_orderGates_9 ?_
  refine lv_icmp_ge (tgt := 69) hx hb dX1_orderGates_12 (by decide) (fun c_1 => ?_) (fun c_1 => ?_)
  · exact absurd c_1 (by decide)
  · refine lv_aload_n hx hb dX1_orderGates_15 rfl (lv_at hl 1 rfl) ?_
    refine va_get (D := E.1) (ci := 1) (v := .ref a_tally) (own := RX1) (C := RX1) (T := TX1) (N := 13) hx hb hts i_k_orderGates_X1 hown hK hP 0 rfl rfl 11 (by decide) (hto (.fieldLink RX1 39 "TimingHouse$Net" "tally" "[I") (by decide +kernel)) (fun _ h9 => h9) rfl dX1_orderGates_16 ?_
    refine lv_iload_n hx hb dX1_orderGates_19 rfl (lv_at hl 0 rfl) ?_
    refine lv_aload_n hx hb dX1_orderGates_20 rfl (lv_at hl 1 rfl) ?_
    refine lv_iload_n hx hb dX1_orderGates_21 rfl (lv_at hl 0 rfl) ?_
    refine call_i (va_runV (As := [.int 0]) (rest := [.int 0, .ref a_tally]) ⟨hx, hb, hml, hown, hts⟩ (k_gatesTakenBy l E nt a_kinds a_inputs a_tables a_sources a_firstTaker a_order a_tally (n_sizes) (n_extras) (n_takers) (n_behind) ow (by first | omega | decide) H.size) (cwV 1 hts g_k_orderGates_k_gatesTakenBy_78 rfl rfl rfl (by decide +kernel) ⟨Nat.le_of_ble_eq_true rfl, Nat.le_of_ble_eq_true rfl⟩) (pre_V hK hN (hP.sub (ws' := [(nt, .inr (1, [.int 1, .ref a_kinds, .ref a_inputs, .ref a_tables, n_sizes, n_extras, .ref a_sources, n_takers, .ref a_firstTaker, .ref a_order, .int 0, .ref a_tally, n_behind])), (a_inputs, aI E 50 (upd (fun _ => 0) 0 ow)), (a_sources, aI E 200 (fun _ => (-5)))]) [0, 4, 1] rfl) (hD.sub (ws' := [(nt, .inr (1, [.int 1, .ref a_kinds, .ref a_inputs, .ref a_tables, n_sizes, n_extras, .ref a_sources, n_takers, .ref a_firstTaker, .ref a_order, .int 0, .ref a_tally, n_behind])), (a_inputs, aI E 50 (upd (fun _ => 0) 0 ow)), (a_sources, aI E 200 (fun _ => (-5)))]) [0, 4, 1] (by decide) rfl) (ci := 1) (q0 := 0) rfl rfl) rfl rfl hl.1 rfl (lv_room (Nat.le_of_ble_eq_true rfl)) dX1_orderGates_22 ⟨Nat.le_of_ble_eq_true rfl, Nat.le_of_ble_eq_true rfl⟩) hP hD hS hA [0, 4, 1] [2, 3, 5, 6] (wr := [(a_firstTaker, aI E 51 (upd (upd (fun _ => 0) 0 0) 1 0)), (a_tally, aI E 50 (upd (fun _ => 0) 0 0)), (a_kinds, aI E 50 (upd (fun _ => 0) 0 kd)), (a_order, aI E 50 (fun _ => 0))]) rfl rfl (by decide) (by decide) (fun r_2 w H locs hw hP hD hS => ?_)
    obtain ⟨rfl, rfl⟩ := hw
    have hP : va_P E.1 vwCl [(a_firstTaker, aI E 51 (upd (upd (fun _ => 0) 0 0) 1 0)), (a_tally, aI E 50 (upd (fun _ => 0) 0 0)), (a_kinds, aI E 50 (upd (fun _ => 0) 0 kd)), (a_order, aI E 50 (fun _ => 0)), (nt, .inr (1, [.int 1, .ref a_kinds, .ref a_inputs, .ref a_tables, n_sizes, n_extras, .ref a_sources, n_takers, .ref a_firstTaker, .ref a_order, .int 0, .ref a_tally, n_behind])), (a_inputs, aI E 50 (upd (fun _ => 0) 0 ow)), (a_sources, aI E 200 (fun _ => (-5)))] H := hP
    have hD : va_D A [(a_firstTaker, aI E 51 (upd (upd (fun _ => 0) 0 0) 1 0)), (a_tally, aI E 50 (upd (fun _ => 0) 0 0)), (a_kinds, aI E 50 (upd (fun _ => 0) 0 kd)), (a_order, aI E 50 (fun _ => 0)), (nt, .inr (1, [.int 1, .ref a_kinds, .ref a_inputs, .ref a_tables, n_sizes, n_extras, .ref a_sources, n_takers, .ref a_firstTaker, .ref a_order, .int 0, .ref a_tally, n_behind])), (a_inputs, aI E 50 (upd (fun _ => 0) 0 ow)), (a_sources, aI E 200 (fun _ => (-5)))] := hD
    refine va_iast hx hb hK hP hD hS 1 0 rfl rfl (i3_in (by decide)) dX1_orderGates_25 (fun H locs hP hD hS => ?_)
    have hP : va_P E.1 vwCl [(a_firstTaker, aI E 51 (upd (upd (fun _ => 0) 0 0) 1 0)), (a_tally, aI E 50 (upd (upd (fun _ => 0) 0 0) 0 0)), (a_kinds, aI E 50 (upd (fun _ => 0) 0 kd)), (a_order, aI E 50 (fun _ => 0)), (nt, .inr (1, [.int 1, .ref a_kinds, .ref a_inputs, .ref a_tables, n_sizes, n_extras, .ref a_sources, n_takers, .ref a_firstTaker, .ref a_order, .int 0, .ref a_tally, n_behind])), (a_inputs, aI E 50 (upd (fun _ => 0) 0 ow)), (a_sources, aI E 200 (fun _ => (-5)))] H := hP
    have hD : va_D A [(a_firstTaker, aI E 51 (upd (upd (fun _ => 0) 0 0) 1 0)), (a_tally, aI E 50 (upd (upd (fun _ => 0) 0 0) 0 0)), (a_kinds, aI E 50 (upd (fun _ => 0) 0 kd)), (a_order, aI E 50 (fun _ => 0)), (nt, .inr (1, [.int 1, .ref a_kinds, .ref a_inputs, .ref a_tables, n_sizes, n_extras, .ref a_sources, n_takers, .ref a_firstTaker, .ref a_order, .int 0, .ref a_tally, n_behind])), (a_inputs, aI E 50 (upd (fun _ => 0) 0 ow)), (a_sources, aI E 200 (fun _ => (-5)))] := hD
    refine lv_aload_n hx hb dX1_orderGates_26 rfl (lv_at hl 1 rfl) ?_
    refine lv_iload_n hx hb dX1_orderGates_27 rfl (lv_at hl 0 rfl) ?_
    refine call_i (va_runV (As := [.int 0]) (rest := []) ⟨hx, hb, hml, hown, hts⟩ (k_isGate l E nt a_kinds a_inputs a_tables a_sources a_firstTaker a_order a_tally (n_sizes) (n_extras) (n_takers) (n_behind) kd H.size) (cwV 1 hts g_k_orderGates_k_isGate_66 rfl rfl rfl (by decide +kernel) ⟨Nat.le_of_ble_eq_true rfl, Nat.le_of_ble_eq_true rfl⟩) (pre_V hK hN (hP.sub (ws' := [(nt, .inr (1, [.int 1, .ref a_kinds, .ref a_inputs, .ref a_tables, n_sizes, n_extras, .ref a_sources, n_takers, .ref a_firstTaker, .ref a_order, .int 0, .ref a_tally, n_behind])), (a_kinds, aI E 50 (upd (fun _ => 0) 0 kd))]) [4, 2] rfl) (hD.sub (ws' := [(nt, .inr (1, [.int 1, .ref a_kinds, .ref a_inputs, .ref a_tables, n_sizes, n_extras, .ref a_sources, n_takers, .ref a_firstTaker, .ref a_order, .int 0, .ref a_tally, n_behind])), (a_kinds, aI E 50 (upd (fun _ => 0) 0 kd))]) [4, 2] (by decide) rfl) (ci := 1) (q0 := 0) rfl rfl) rfl rfl hl.1 rfl (lv_room (Nat.le_of_ble_eq_true rfl)) dX1_orderGates_28 ⟨Nat.le_of_ble_eq_true rfl, Nat.le_of_ble_eq_true rfl⟩) hP hD hS hA [4, 2] [0, 1, 3, 5, 6] (wr := [(a_firstTaker, aI E 51 (upd (upd (fun _ => 0) 0 0) 1 0)), (a_tally, aI E 50 (upd (upd (fun _ => 0) 0 0) 0 0)), (a_order, aI E 50 (fun _ => 0)), (a_inputs, aI E 50 (upd (fun _ => 0) 0 ow)), (a_sources, aI E 200 (fun _ => (-5)))]) rfl rfl (by decide) (by decide) (fun r_3 w H locs hw hP hD hS => ?_)
    obtain ⟨hr_3, rfl⟩ := hw
    have hr_3 : r_3 = if 0 < kd.toInt ∧ kd.toInt < 4 then 1 else 0 := hr_3
    have hP : va_P E.1 vwCl [(a_firstTaker, aI E 51 (upd (upd (fun _ => 0) 0 0) 1 0)), (a_tally, aI E 50 (upd (upd (fun _ => 0) 0 0) 0 0)), (a_order, aI E 50 (fun _ => 0)), (a_inputs, aI E 50 (upd (fun _ => 0) 0 ow)), (a_sources, aI E 200 (fun _ => (-5))), (nt, .inr (1, [.int 1, .ref a_kinds, .ref a_inputs, .ref a_tables, n_sizes, n_extras, .ref a_sources, n_takers, .ref a_firstTaker, .ref a_order, .int 0, .ref a_tally, n_behind])), (a_kinds, aI E 50 (upd (fun _ => 0) 0 kd))] H := hP
    have hD : va_D A [(a_firstTaker, aI E 51 (upd (upd (fun _ => 0) 0 0) 1 0)), (a_tally, aI E 50 (upd (upd (fun _ => 0) 0 0) 0 0)), (a_order, aI E 50 (fun _ => 0)), (a_inputs, aI E 50 (upd (fun _ => 0) 0 ow)), (a_sources, aI E 200 (fun _ => (-5))), (nt, .inr (1, [.int 1, .ref a_kinds, .ref a_inputs, .ref a_tables, n_sizes, n_extras, .ref a_sources, n_takers, .ref a_firstTaker, .ref a_order, .int 0, .ref a_tally, n_behind])), (a_kinds, aI E 50 (upd (fun _ => 0) 0 kd))] := hD
    refine lv_if_eq (tgt := 63) hx hb dX1_orderGates_31 (by decide) (fun c_4 => ?_) (fun c_4 => ?_)
    · have e_4 : ¬ (0 < kd.toInt ∧ kd.toInt < 4) := bi_neg hr_3 c_4
      refine lv_iinc (v := 1) (lv' := [(1, .int 1), (0, .ref nt)]) hx hb dX1_orderGates_63 hl (k := 0) rfl (by decide) (by decide) rfl (fun ls hl => ?_)
      refine lv_goto (tgt := 7) hx hb dX1_orderGates_66 (by decide) ?_
      refine lv_iload_n hx hb dX1_orderGates_7 rfl (lv_at hl 0 rfl) ?_
      refine lv_aload_n hx hb dX1_orderGates_8 rfl (lv_at hl 1 rfl) ?_
      refine va_get (D := E.1) (ci := 1) (v := .int 1) (own := RX1) (C := RX1) (T := TX1) (N := 13) hx hb hts i_k_orderGates_X1 hown hK hP 5 rfl rfl 0 (by decide) (hto (.fieldLink RX1 52 "TimingHouse$Net" "cells" "I") (by decide +kernel)) (fun _ h9 => h9) rfl dX1_orderGates_9 ?_
      refine lv_icmp_ge (tgt := 69) hx hb dX1_orderGates_12 (by decide) (fun c_5 => ?_) (fun c_5 => ?_)
      · refine lv_iconst (v := 0) hx hb dX1_orderGates_69 (by decide) ?_
        refine lv_istore_n (lv' := [(1, .int 0), (0, .ref nt)]) hx hb dX1_orderGates_70 rfl hl (by decide) rfl (fun ls hl => ?_)
        refine lv_iload_n hx hb dX1_orderGates_71 rfl (lv_at hl 0 rfl) ?_
        refine lv_aload_n hx hb dX1_orderGates_72 rfl (lv_at hl 1 rfl) ?_
        refine va_get (D := E.1) (ci := 1) (v := .int 0) (own := RX1) (C := RX1) (T := TX1) (N := 13) hx hb hts i_k_orderGates_X1 hown hK hP 5 rfl rfl 10 (by decide) (hto (.fieldLink RX1 69 "TimingHouse$Net" "ordered" "I") (by decide +kernel)) (fun _ h9 => h9) rfl dX1_orderGates_73 ?_
        refine lv_icmp_ge (tgt := 184) hx hb dX1_orderGates_76 (by decide) (fun c_6 => ?_) (fun c_6 => ?_)
        · exact ret_v hx hb hr hlk (hP.sub (ws' := []) [] rfl) (hD.sub (ws' := []) [] (by decide) rfl) hS dX1_orderGates_184 (Nat.le_of_ble_eq_true rfl) (Nat.le_of_ble_eq_true rfl) rfl
        · exact absurd c_6 (by decide)
      · exact absurd c_5 (by decide)
    · have e_4 : 0 < kd.toInt ∧ kd.toInt < 4 := bi_pos hr_3 c_4
      refine lv_aload_n hx hb dX1_orderGates_34 rfl (lv_at hl 1 rfl) ?_
      refine va_get (D := E.1) (ci := 1) (v := .ref a_tally) (own := RX1) (C := RX1) (T := TX1) (N := 13) hx hb hts i_k_orderGates_X1 hown hK hP 5 rfl rfl 11 (by decide) (hto (.fieldLink RX1 39 "TimingHouse$Net" "tally" "[I") (by decide +kernel)) (fun _ h9 => h9) rfl dX1_orderGates_35 ?_
      refine lv_iload_n hx hb dX1_orderGates_38 rfl (lv_at hl 0 rfl) ?_
      refine va_iald hx hb hK hP 1 0 rfl rfl (i3_in (by decide)) dX1_orderGates_39 ?_
      refine lv_cst (y := 0) (by rfl) ?_
      refine lv_if_ne (tgt := 63) hx hb dX1_orderGates_40 (by decide) (fun c_7 => ?_) (fun c_7 => ?_)
      · exact absurd c_7 (by decide)
      · refine lv_aload_n hx hb dX1_orderGates_43 rfl (lv_at hl 1 rfl) ?_
        refine va_get (D := E.1) (ci := 1) (v := .ref a_order) (own := RX1) (C := RX1) (T := TX1) (N := 13) hx hb hts i_k_orderGates_X1 hown hK hP 5 rfl rfl 9 (by decide) (hto (.fieldLink RX1 36 "TimingHouse$Net" "order" "[I") (by decide +kernel)) (fun _ h9 => h9) rfl dX1_orderGates_44 ?_
        refine lv_aload_n hx hb dX1_orderGates_47 rfl (lv_at hl 1 rfl) ?_
        refine va_get (D := E.1) (ci := 1) (v := .int 0) (own := RX1) (C := RX1) (T := TX1) (N := 13) hx hb hts i_k_orderGates_X1 hown hK hP 5 rfl rfl 10 (by decide) (hto (.fieldLink RX1 69 "TimingHouse$Net" "ordered" "I") (by decide +kernel)) (fun _ h9 => h9) rfl dX1_orderGates_48 ?_
        refine lv_iload_n hx hb dX1_orderGates_51 rfl (lv_at hl 0 rfl) ?_
        refine va_iast hx hb hK hP hD hS 2 0 rfl rfl (i3_in (by decide)) dX1_orderGates_52 (fun H locs hP hD hS => ?_)
        have hP : va_P E.1 vwCl [(a_firstTaker, aI E 51 (upd (upd (fun _ => 0) 0 0) 1 0)), (a_tally, aI E 50 (upd (upd (fun _ => 0) 0 0) 0 0)), (a_order, aI E 50 (upd (fun _ => 0) 0 0)), (a_inputs, aI E 50 (upd (fun _ => 0) 0 ow)), (a_sources, aI E 200 (fun _ => (-5))), (nt, .inr (1, [.int 1, .ref a_kinds, .ref a_inputs, .ref a_tables, n_sizes, n_extras, .ref a_sources, n_takers, .ref a_firstTaker, .ref a_order, .int 0, .ref a_tally, n_behind])), (a_kinds, aI E 50 (upd (fun _ => 0) 0 kd))] H := hP
        have hD : va_D A [(a_firstTaker, aI E 51 (upd (upd (fun _ => 0) 0 0) 1 0)), (a_tally, aI E 50 (upd (upd (fun _ => 0) 0 0) 0 0)), (a_order, aI E 50 (upd (fun _ => 0) 0 0)), (a_inputs, aI E 50 (upd (fun _ => 0) 0 ow)), (a_sources, aI E 200 (fun _ => (-5))), (nt, .inr (1, [.int 1, .ref a_kinds, .ref a_inputs, .ref a_tables, n_sizes, n_extras, .ref a_sources, n_takers, .ref a_firstTaker, .ref a_order, .int 0, .ref a_tally, n_behind])), (a_kinds, aI E 50 (upd (fun _ => 0) 0 kd))] := hD
        refine lv_aload_n hx hb dX1_orderGates_53 rfl (lv_at hl 1 rfl) ?_
        refine lv_dup hx hb dX1_orderGates_54 rfl ?_
        refine va_get (D := E.1) (ci := 1) (v := .int 0) (own := RX1) (C := RX1) (T := TX1) (N := 13) hx hb hts i_k_orderGates_X1 hown hK hP 5 rfl rfl 10 (by decide) (hto (.fieldLink RX1 69 "TimingHouse$Net" "ordered" "I") (by decide +kernel)) (fun _ h9 => h9) rfl dX1_orderGates_55 ?_
        refine lv_iconst (v := 1) hx hb dX1_orderGates_58 (by decide) ?_
        refine lv_iadd hx hb dX1_orderGates_59 ?_
        refine lv_cst (y := 1) (by decide) ?_
        refine va_put (D := E.1) (ci := 1) (v := .int 1) (ty := .int) (own := RX1) (C := RX1) (T := TX1) (N := 13) hx hb hts i_k_orderGates_X1 tyX1 tyX1_ok nmX1 hown hK hP hD hS 5 rfl rfl 10 (by decide) (hto (.fieldLink RX1 69 "TimingHouse$Net" "ordered" "I") (by decide +kernel)) (fun _ h9 => h9) rfl (by decide +kernel) rfl rfl (Nat.le_of_ble_eq_true rfl) dX1_orderGates_60 (fun H locs hP hD hS => ?_)
        have hP : va_P E.1 vwCl [(a_firstTaker, aI E 51 (upd (upd (fun _ => 0) 0 0) 1 0)), (a_tally, aI E 50 (upd (upd (fun _ => 0) 0 0) 0 0)), (a_order, aI E 50 (upd (fun _ => 0) 0 0)), (a_inputs, aI E 50 (upd (fun _ => 0) 0 ow)), (a_sources, aI E 200 (fun _ => (-5))), (nt, .inr (1, [.int 1, .ref a_kinds, .ref a_inputs, .ref a_tables, n_sizes, n_extras, .ref a_sources, n_takers, .ref a_firstTaker, .ref a_order, .int 1, .ref a_tally, n_behind])), (a_kinds, aI E 50 (upd (fun _ => 0) 0 kd))] H := hP
        have hD : va_D A [(a_firstTaker, aI E 51 (upd (upd (fun _ => 0) 0 0) 1 0)), (a_tally, aI E 50 (upd (upd (fun _ => 0) 0 0) 0 0)), (a_order, aI E 50 (upd (fun _ => 0) 0 0)), (a_inputs, aI E 50 (upd (fun _ => 0) 0 ow)), (a_sources, aI E 200 (fun _ => (-5))), (nt, .inr (1, [.int 1, .ref a_kinds, .ref a_inputs, .ref a_tables, n_sizes, n_extras, .ref a_sources, n_takers, .ref a_firstTaker, .ref a_order, .int 1, .ref a_tally, n_behind])), (a_kinds, aI E 50 (upd (fun _ => 0) 0 kd))] := hD
        refine lv_iinc (v := 1) (lv' := [(1, .int 1), (0, .ref nt)]) hx hb dX1_orderGates_63 hl (k := 0) rfl (by decide) (by decide) rfl (fun ls hl => ?_)
        refine lv_goto (tgt := 7) hx hb dX1_orderGates_66 (by decide) ?_
        refine lv_iload_n hx hb dX1_orderGates_7 rfl (lv_at hl 0 rfl) ?_
        refine lv_aload_n hx hb dX1_orderGates_8 rfl (lv_at hl 1 rfl) ?_
        refine va_get (D := E.1) (ci := 1) (v := .int 1) (own := RX1) (C := RX1) (T := TX1) (N := 13) hx hb hts i_k_orderGates_X1 hown hK hP 5 rfl rfl 0 (by decide) (hto (.fieldLink RX1 52 "TimingHouse$Net" "cells" "I") (by decide +kernel)) (fun _ h9 => h9) rfl dX1_orderGates_9 ?_
        refine lv_icmp_ge (tgt := 69) hx hb dX1_orderGates_12 (by decide) (fun c_8 => ?_) (fun c_8 => ?_)
        · refine lv_iconst (v := 0) hx hb dX1_orderGates_69 (by decide) ?_
          refine lv_istore_n (lv' := [(1, .int 0), (0, .ref nt)]) hx hb dX1_orderGates_70 rfl hl (by decide) rfl (fun ls hl => ?_)
          refine lv_iload_n hx hb dX1_orderGates_71 rfl (lv_at hl 0 rfl) ?_
          refine lv_aload_n hx hb dX1_orderGates_72 rfl (lv_at hl 1 rfl) ?_
          refine va_get (D := E.1) (ci := 1) (v := .int 1) (own := RX1) (C := RX1) (T := TX1) (N := 13) hx hb hts i_k_orderGates_X1 hown hK hP 5 rfl rfl 10 (by decide) (hto (.fieldLink RX1 69 "TimingHouse$Net" "ordered" "I") (by decide +kernel)) (fun _ h9 => h9) rfl dX1_orderGates_73 ?_
          refine lv_icmp_ge (tgt := 184) hx hb dX1_orderGates_76 (by decide) (fun c_9 => ?_) (fun c_9 => ?_)
          · exact absurd c_9 (by decide)
          · refine lv_iload_n hx hb dX1_orderGates_79 rfl (lv_at hl 0 rfl) ?_
            refine lv_bipush (v := 50) hx hb dX1_orderGates_80 (by decide) ?_
            refine lv_icmp_ge (tgt := 184) hx hb dX1_orderGates_82 (by decide) (fun c_10 => ?_) (fun c_10 => ?_)
            · exact absurd c_10 (by decide)
            · refine lv_aload_n hx hb dX1_orderGates_85 rfl (lv_at hl 1 rfl) ?_
              refine va_get (D := E.1) (ci := 1) (v := .ref a_order) (own := RX1) (C := RX1) (T := TX1) (N := 13) hx hb hts i_k_orderGates_X1 hown hK hP 5 rfl rfl 9 (by decide) (hto (.fieldLink RX1 36 "TimingHouse$Net" "order" "[I") (by decide +kernel)) (fun _ h9 => h9) rfl dX1_orderGates_86 ?_
              refine lv_iload_n hx hb dX1_orderGates_89 rfl (lv_at hl 0 rfl) ?_
              refine va_iald hx hb hK hP 2 0 rfl rfl (i3_in (by decide)) dX1_orderGates_90 ?_
              refine lv_cst (y := 0) (by rfl) ?_
              refine lv_istore_n (lv' := [(2, .int 0), (1, .int 0), (0, .ref nt)]) hx hb dX1_orderGates_91 rfl hl (by decide) rfl (fun ls hl => ?_)
              refine lv_aload_n hx hb dX1_orderGates_92 rfl (lv_at hl 2 rfl) ?_
              refine va_get (D := E.1) (ci := 1) (v := .ref a_firstTaker) (own := RX1) (C := RX1) (T := TX1) (N := 13) hx hb hts i_k_orderGates_X1 hown hK hP 5 rfl rfl 8 (by decide) (hto (.fieldLink RX1 33 "TimingHouse$Net" "firstTaker" "[I") (by decide +kernel)) (fun _ h9 => h9) rfl dX1_orderGates_93 ?_
              refine lv_iload_n hx hb dX1_orderGates_96 rfl (lv_at hl 0 rfl) ?_
              refine va_iald hx hb hK hP 0 0 rfl rfl (i3_in (by decide)) dX1_orderGates_97 ?_
              refine lv_cst (y := 0) (by rfl) ?_
              refine lv_istore_n (lv' := [(3, .int 0), (2, .int 0), (1, .int 0), (0, .ref nt)]) hx hb dX1_orderGates_98 rfl hl (by decide) rfl (fun ls hl => ?_)
              refine lv_iload_n hx hb dX1_orderGates_99 rfl (lv_at hl 0 rfl) ?_
              refine lv_aload_n hx hb dX1_orderGates_100 rfl (lv_at hl 3 rfl) ?_
              refine va_get (D := E.1) (ci := 1) (v := .ref a_firstTaker) (own := RX1) (C := RX1) (T := TX1) (N := 13) hx hb hts i_k_orderGates_X1 hown hK hP 5 rfl rfl 8 (by decide) (hto (.fieldLink RX1 33 "TimingHouse$Net" "firstTaker" "[I") (by decide +kernel)) (fun _ h9 => h9) rfl dX1_orderGates_101 ?_
              refine lv_iload_n hx hb dX1_orderGates_104 rfl (lv_at hl 1 rfl) ?_
              refine lv_iconst (v := 1) hx hb dX1_orderGates_105 (by decide) ?_
              refine lv_iadd hx hb dX1_orderGates_106 ?_
              refine lv_cst (y := 1) (by decide) ?_
              refine va_iald hx hb hK hP 0 0 rfl rfl (i3_in (by decide)) dX1_orderGates_107 ?_
              refine lv_cst (y := 0) (by rfl) ?_
              refine lv_icmp_ge (tgt := 178) hx hb dX1_orderGates_108 (by decide) (fun c_11 => ?_) (fun c_11 => ?_)
              · refine lv_iinc (v := 1) (lv' := [(1, .int 1), (3, .int 0), (2, .int 0), (0, .ref nt)]) hx hb dX1_orderGates_178 hl (k := 2) rfl (by decide) (by decide) rfl (fun ls hl => ?_)
                refine lv_goto (tgt := 71) hx hb dX1_orderGates_181 (by decide) ?_
                refine lv_iload_n hx hb dX1_orderGates_71 rfl (lv_at hl 0 rfl) ?_
                refine lv_aload_n hx hb dX1_orderGates_72 rfl (lv_at hl 3 rfl) ?_
                refine va_get (D := E.1) (ci := 1) (v := .int 1) (own := RX1) (C := RX1) (T := TX1) (N := 13) hx hb hts i_k_orderGates_X1 hown hK hP 5 rfl rfl 10 (by decide) (hto (.fieldLink RX1 69 "TimingHouse$Net" "ordered" "I") (by decide +kernel)) (fun _ h9 => h9) rfl dX1_orderGates_73 ?_
                refine lv_icmp_ge (tgt := 184) hx hb dX1_orderGates_76 (by decide) (fun c_12 => ?_) (fun c_12 => ?_)
                · exact ret_v hx hb hr hlk (hP.sub (ws' := []) [] rfl) (hD.sub (ws' := []) [] (by decide) rfl) hS dX1_orderGates_184 (Nat.le_of_ble_eq_true rfl) (Nat.le_of_ble_eq_true rfl) rfl
                · exact absurd c_12 (by decide)
              · exact absurd c_11 (by decide)
        · exact absurd c_8 (by decide)
theorem dX1_arrange_0 : decode cX1_arrange 0 = .ok (.aload_n 0, 1) := by decide +kernel
theorem dX1_arrange_1 : decode cX1_arrange 1 = .ok (.invokevirtual 72, 3) := by decide +kernel
theorem dX1_arrange_4 : decode cX1_arrange 4 = .ok (.aload_n 0, 1) := by decide +kernel
theorem dX1_arrange_5 : decode cX1_arrange 5 = .ok (.invokevirtual 75, 3) := by decide +kernel
theorem dX1_arrange_8 : decode cX1_arrange 8 = .ok (.return_, 1) := by decide +kernel
def wo_k_arrange : List Cond := [.code yX1_arrange cX1_arrange 1 none, .methodLink RX1 72 yX1_listTakers, .instanceMethod yX1_listTakers, .selects RX1 yX1_listTakers yX1_listTakers, .initialized RX1, .methodLink RX1 75 yX1_orderGates, .instanceMethod yX1_orderGates, .selects RX1 yX1_orderGates yX1_orderGates]
def wr_k_arrange : List Cond := (w_k_listTakers ++ (w_k_orderGates ++ ([])))
def w_k_arrange : List Cond := wo_k_arrange ++ wr_k_arrange
theorem wg_k_arrange : GW w_k_arrange := GW_app (GW_of (by decide +kernel)) (GW_app (wg_k_listTakers) (GW_app (wg_k_orderGates) (GW_nil)))
theorem g_k_arrange_k_listTakers_72 : GoodIn w_k_arrange (wsV RX1 72 RX1 yX1_listTakers w_k_listTakers) := goodIn_app (gi_left (goodIn_of _ (by decide +kernel))) (fun w h => ⟨List.mem_append_right _ (List.mem_append_left _ h), wg_k_listTakers w h⟩)
theorem g_k_arrange_k_orderGates_75 : GoodIn w_k_arrange (wsV RX1 75 RX1 yX1_orderGates w_k_orderGates) := goodIn_app (gi_left (goodIn_of _ (by decide +kernel))) (fun w h => ⟨List.mem_append_right _ (List.mem_append_right _ (List.mem_append_left _ h)), wg_k_orderGates w h⟩)
set_option maxHeartbeats 4000000 in
set_option maxRecDepth 100000 in
theorem k_arrange (l : Launch) (E : gE) (nt : Nat) (a_kinds : Nat) (a_inputs : Nat) (a_tables : Nat) (a_sources : Nat) (a_firstTaker : Nat) (a_order : Nat) (a_tally : Nat) (n_sizes : Value) (n_extras : Value) (n_takers : Value) (n_behind : Value) (kd : Int32) (ow : Int32) (ha : 0 ≤ ow.toInt ∧ ow.toInt ≤ 4) : CtV l E yX1_arrange w_k_arrange ({ frames := 3, cells := 0, slots := 0, locals := 65 }) [(nt, .inr (1, [.int 1, .ref a_kinds, .ref a_inputs, .ref a_tables, n_sizes, n_extras, .ref a_sources, n_takers, .ref a_firstTaker, .ref a_order, .int 0, .ref a_tally, n_behind])), (a_sources, aI E 200 (fun _ => (-5))), (a_firstTaker, aI E 51 (fun _ => 0)), (a_tally, aI E 50 (fun _ => 0)), (a_inputs, aI E 50 (upd (fun _ => 0) 0 ow)), (a_kinds, aI E 50 (upd (fun _ => 0) 0 kd)), (a_order, aI E 50 (fun _ => 0))] [.ref nt] (fun w => w = []) := by
  refine CtV.of (cc := cX1_arrange) (maxL := 1) (rt := none) (by decide) rfl (Nat.le_of_ble_eq_true rfl) ?_
  intro p e s m below meth c A B ls hl
  obtain ⟨hx, hb, hml, hr, hlk, hin, hts, hown, hK, hN, hA, hP, hD, hS⟩ := B
  have hown : s.vm.findClass RX1 = some m.cls := hown
  have hto : ∀ w ∈ wo_k_arrange, w.before _ s = true := fun w h => hts w (List.mem_append_left _ h)
  have hl : lv_has ls 1 [(0, .ref nt)] := hl
  obtain ⟨H, hHe⟩ : ∃ H, H = s.heap := ⟨_, rfl⟩
  have hS : va_S A s.heap H [] := by rw [hHe]; exact hS
  have hP : va_P E.1 vwCl [(nt, .inr (1, [.int 1, .ref a_kinds, .ref a_inputs, .ref a_tables, n_sizes, n_extras, .ref a_sources, n_takers, .ref a_firstTaker, .ref a_order, .int 0, .ref a_tally, n_behind])), (a_sources, aI E 200 (fun _ => (-5))), (a_firstTaker, aI E 51 (fun _ => 0)), (a_tally, aI E 50 (fun _ => 0)), (a_inputs, aI E 50 (upd (fun _ => 0) 0 ow)), (a_kinds, aI E 50 (upd (fun _ => 0) 0 kd)), (a_order, aI E 50 (fun _ => 0))] H := by rw [hHe]; exact hP
  refine W_heap hHe ?_
  refine lv_aload_n hx hb dX1_arrange_0 rfl (lv_at hl 0 rfl) ?_
  refine call_v (va_runV (As := []) (rest := []) ⟨hx, hb, hml, hown, hts⟩ (k_listTakers l E nt a_kinds a_inputs a_tables a_sources a_firstTaker a_order a_tally (n_sizes) (n_extras) (n_takers) (n_behind) H.size) (cwV 0 hts g_k_arrange_k_listTakers_72 rfl rfl rfl (by decide +kernel) ⟨Nat.le_of_ble_eq_true rfl, Nat.le_of_ble_eq_true rfl⟩) (pre_V hK hN (hP.sub (ws' := [(nt, .inr (1, [.int 1, .ref a_kinds, .ref a_inputs, .ref a_tables, n_sizes, n_extras, .ref a_sources, n_takers, .ref a_firstTaker, .ref a_order, .int 0, .ref a_tally, n_behind])), (a_sources, aI E 200 (fun _ => (-5))), (a_firstTaker, aI E 51 (fun _ => 0)), (a_tally, aI E 50 (fun _ => 0))]) [0, 1, 2, 3] rfl) (hD.sub (ws' := [(nt, .inr (1, [.int 1, .ref a_kinds, .ref a_inputs, .ref a_tables, n_sizes, n_extras, .ref a_sources, n_takers, .ref a_firstTaker, .ref a_order, .int 0, .ref a_tally, n_behind])), (a_sources, aI E 200 (fun _ => (-5))), (a_firstTaker, aI E 51 (fun _ => 0)), (a_tally, aI E 50 (fun _ => 0))]) [0, 1, 2, 3] (by decide) rfl) (ci := 1) (q0 := 0) rfl rfl) rfl rfl hl.1 rfl (lv_room (Nat.le_of_ble_eq_true rfl)) dX1_arrange_1 ⟨Nat.le_of_ble_eq_true rfl, Nat.le_of_ble_eq_true rfl⟩) hP hD hS hA [0, 1, 2, 3] [4, 5, 6] (wr := [(a_inputs, aI E 50 (upd (fun _ => 0) 0 ow)), (a_kinds, aI E 50 (upd (fun _ => 0) 0 kd)), (a_order, aI E 50 (fun _ => 0))]) rfl rfl (by decide) (by decide) (fun w H locs hw hP hD hS => ?_)
  obtain rfl := hw
  have hP : va_P E.1 vwCl [(a_inputs, aI E 50 (upd (fun _ => 0) 0 ow)), (a_kinds, aI E 50 (upd (fun _ => 0) 0 kd)), (a_order, aI E 50 (fun _ => 0)), (nt, .inr (1, [.int 1, .ref a_kinds, .ref a_inputs, .ref a_tables, n_sizes, n_extras, .ref a_sources, n_takers, .ref a_firstTaker, .ref a_order, .int 0, .ref a_tally, n_behind])), (a_sources, aI E 200 (fun _ => (-5))), (a_firstTaker, aI E 51 (upd (upd (fun _ => 0) 0 0) 1 0)), (a_tally, aI E 50 (upd (fun _ => 0) 0 0))] H := hP
  have hD : va_D A [(a_inputs, aI E 50 (upd (fun _ => 0) 0 ow)), (a_kinds, aI E 50 (upd (fun _ => 0) 0 kd)), (a_order, aI E 50 (fun _ => 0)), (nt, .inr (1, [.int 1, .ref a_kinds, .ref a_inputs, .ref a_tables, n_sizes, n_extras, .ref a_sources, n_takers, .ref a_firstTaker, .ref a_order, .int 0, .ref a_tally, n_behind])), (a_sources, aI E 200 (fun _ => (-5))), (a_firstTaker, aI E 51 (upd (upd (fun _ => 0) 0 0) 1 0)), (a_tally, aI E 50 (upd (fun _ => 0) 0 0))] := hD
  refine lv_aload_n hx hb dX1_arrange_4 rfl (lv_at hl 0 rfl) ?_
  refine call_v (va_runV (As := []) (rest := []) ⟨hx, hb, hml, hown, hts⟩ (k_orderGates l E nt a_kinds a_inputs a_tables a_sources a_firstTaker a_order a_tally (n_sizes) (n_extras) (n_takers) (n_behind) kd ow (by first | omega | decide) H.size) (cwV 0 hts g_k_arrange_k_orderGates_75 rfl rfl rfl (by decide +kernel) ⟨Nat.le_of_ble_eq_true rfl, Nat.le_of_ble_eq_true rfl⟩) (pre_V hK hN (hP.sub (ws' := [(nt, .inr (1, [.int 1, .ref a_kinds, .ref a_inputs, .ref a_tables, n_sizes, n_extras, .ref a_sources, n_takers, .ref a_firstTaker, .ref a_order, .int 0, .ref a_tally, n_behind])), (a_sources, aI E 200 (fun _ => (-5))), (a_firstTaker, aI E 51 (upd (upd (fun _ => 0) 0 0) 1 0)), (a_tally, aI E 50 (upd (fun _ => 0) 0 0)), (a_inputs, aI E 50 (upd (fun _ => 0) 0 ow)), (a_kinds, aI E 50 (upd (fun _ => 0) 0 kd)), (a_order, aI E 50 (fun _ => 0))]) [3, 4, 5, 6, 0, 1, 2] rfl) (hD.sub (ws' := [(nt, .inr (1, [.int 1, .ref a_kinds, .ref a_inputs, .ref a_tables, n_sizes, n_extras, .ref a_sources, n_takers, .ref a_firstTaker, .ref a_order, .int 0, .ref a_tally, n_behind])), (a_sources, aI E 200 (fun _ => (-5))), (a_firstTaker, aI E 51 (upd (upd (fun _ => 0) 0 0) 1 0)), (a_tally, aI E 50 (upd (fun _ => 0) 0 0)), (a_inputs, aI E 50 (upd (fun _ => 0) 0 ow)), (a_kinds, aI E 50 (upd (fun _ => 0) 0 kd)), (a_order, aI E 50 (fun _ => 0))]) [3, 4, 5, 6, 0, 1, 2] (by decide) rfl) (ci := 1) (q0 := 0) rfl rfl) rfl rfl hl.1 rfl (lv_room (Nat.le_of_ble_eq_true rfl)) dX1_arrange_5 ⟨Nat.le_of_ble_eq_true rfl, Nat.le_of_ble_eq_true rfl⟩) hP hD hS hA [3, 4, 5, 6, 0, 1, 2] [] (wr := []) rfl rfl (by decide) (by decide) (fun w H locs hw hP hD hS => ?_)
  obtain rfl := hw
  have hP : va_P E.1 vwCl [] H := hP
  have hD : va_D A [] := hD
  exact ret_v hx hb hr hlk (hP.sub (ws' := []) [] rfl) (hD.sub (ws' := []) [] (by decide) rfl) hS dX1_arrange_8 (Nat.le_of_ble_eq_true rfl) (Nat.le_of_ble_eq_true rfl) rfl
theorem dX1_addCell_0 : decode cX1_addCell 0 = .ok (.aload_n 0, 1) := by decide +kernel
theorem dX1_addCell_1 : decode cX1_addCell 1 = .ok (.getfield 52, 3) := by decide +kernel
theorem dX1_addCell_4 : decode cX1_addCell 4 = .ok (.istore 4, 2) := by decide +kernel
theorem dX1_addCell_6 : decode cX1_addCell 6 = .ok (.aload_n 0, 1) := by decide +kernel
theorem dX1_addCell_7 : decode cX1_addCell 7 = .ok (.dup, 1) := by decide +kernel
theorem dX1_addCell_8 : decode cX1_addCell 8 = .ok (.getfield 52, 3) := by decide +kernel
theorem dX1_addCell_11 : decode cX1_addCell 11 = .ok (.iconst 1, 1) := by decide +kernel
theorem dX1_addCell_12 : decode cX1_addCell 12 = .ok (.iadd, 1) := by decide +kernel
theorem dX1_addCell_13 : decode cX1_addCell 13 = .ok (.putfield 52, 3) := by decide +kernel
theorem dX1_addCell_16 : decode cX1_addCell 16 = .ok (.aload_n 0, 1) := by decide +kernel
theorem dX1_addCell_17 : decode cX1_addCell 17 = .ok (.getfield 9, 3) := by decide +kernel
theorem dX1_addCell_20 : decode cX1_addCell 20 = .ok (.iload 4, 2) := by decide +kernel
theorem dX1_addCell_22 : decode cX1_addCell 22 = .ok (.iload_n 1, 1) := by decide +kernel
theorem dX1_addCell_23 : decode cX1_addCell 23 = .ok (.iastore, 1) := by decide +kernel
theorem dX1_addCell_24 : decode cX1_addCell 24 = .ok (.aload_n 0, 1) := by decide +kernel
theorem dX1_addCell_25 : decode cX1_addCell 25 = .ok (.getfield 15, 3) := by decide +kernel
theorem dX1_addCell_28 : decode cX1_addCell 28 = .ok (.iload 4, 2) := by decide +kernel
theorem dX1_addCell_30 : decode cX1_addCell 30 = .ok (.iload_n 2, 1) := by decide +kernel
theorem dX1_addCell_31 : decode cX1_addCell 31 = .ok (.iastore, 1) := by decide +kernel
theorem dX1_addCell_32 : decode cX1_addCell 32 = .ok (.aload_n 0, 1) := by decide +kernel
theorem dX1_addCell_33 : decode cX1_addCell 33 = .ok (.getfield 18, 3) := by decide +kernel
theorem dX1_addCell_36 : decode cX1_addCell 36 = .ok (.iload 4, 2) := by decide +kernel
theorem dX1_addCell_38 : decode cX1_addCell 38 = .ok (.iload_n 3, 1) := by decide +kernel
theorem dX1_addCell_39 : decode cX1_addCell 39 = .ok (.iastore, 1) := by decide +kernel
theorem dX1_addCell_40 : decode cX1_addCell 40 = .ok (.aload_n 0, 1) := by decide +kernel
theorem dX1_addCell_41 : decode cX1_addCell 41 = .ok (.invokevirtual 63, 3) := by decide +kernel
theorem dX1_addCell_44 : decode cX1_addCell 44 = .ok (.iload 4, 2) := by decide +kernel
theorem dX1_addCell_46 : decode cX1_addCell 46 = .ok (.ireturn, 1) := by decide +kernel
def wo_k_addCell : List Cond := [.code yX1_addCell cX1_addCell 5 (some .int), .fieldLink RX1 52 "TimingHouse$Net" "cells" "I", .fieldLink RX1 9 "TimingHouse$Net" "kinds" "[I", .fieldLink RX1 15 "TimingHouse$Net" "inputs" "[I", .fieldLink RX1 18 "TimingHouse$Net" "tables" "[I", .methodLink RX1 63 yX1_arrange, .instanceMethod yX1_arrange, .selects RX1 yX1_arrange yX1_arrange, .initialized RX1]
def wr_k_addCell : List Cond := (wsX10 ++ (w_k_arrange ++ ([])))
def w_k_addCell : List Cond := wo_k_addCell ++ wr_k_addCell
theorem wg_k_addCell : GW w_k_addCell := GW_app (GW_of (by decide +kernel)) (GW_app (GW_of (by decide +kernel)) (GW_app (wg_k_arrange) (GW_nil)))
theorem i_k_addCell_X1 : ∀ w ∈ wsX10, w ∈ w_k_addCell := fun _ h => List.mem_append_right _ (List.mem_append_left _ h)
theorem g_k_addCell_k_arrange_63 : GoodIn w_k_addCell (wsV RX1 63 RX1 yX1_arrange w_k_arrange) := goodIn_app (gi_left (goodIn_of _ (by decide +kernel))) (fun w h => ⟨List.mem_append_right _ (List.mem_append_right _ (List.mem_append_left _ h)), wg_k_arrange w h⟩)
set_option maxHeartbeats 4000000 in
set_option maxRecDepth 100000 in
theorem k_addCell (l : Launch) (E : gE) (nt : Nat) (a_kinds : Nat) (a_inputs : Nat) (a_tables : Nat) (a_sources : Nat) (a_firstTaker : Nat) (a_order : Nat) (a_tally : Nat) (n_sizes : Value) (n_extras : Value) (n_takers : Value) (n_behind : Value) (kd : Int32) (ow : Int32) (tb : Int32) (ha : 0 ≤ ow.toInt ∧ ow.toInt ≤ 4) : CtI l E yX1_addCell w_k_addCell ({ frames := 4, cells := 0, slots := 0, locals := 85 }) [(nt, .inr (1, [.int 0, .ref a_kinds, .ref a_inputs, .ref a_tables, n_sizes, n_extras, .ref a_sources, n_takers, .ref a_firstTaker, .ref a_order, .int 0, .ref a_tally, n_behind])), (a_sources, aI E 200 (fun _ => (-5))), (a_firstTaker, aI E 51 (fun _ => 0)), (a_tally, aI E 50 (fun _ => 0)), (a_inputs, aI E 50 (fun _ => 0)), (a_kinds, aI E 50 (fun _ => 0)), (a_order, aI E 50 (fun _ => 0)), (a_tables, aI E 50 (fun _ => 0))] [.ref nt, .int kd, .int ow, .int tb] (fun r w => r = 0 ∧ w = []) := by
  refine CtI.of (cc := cX1_addCell) (maxL := 5) (rt := (some .int)) (by decide) rfl (Nat.le_of_ble_eq_true rfl) ?_
  intro p e s m below meth c A B ls hl
  obtain ⟨hx, hb, hml, hr, hlk, hin, hts, hown, hK, hN, hA, hP, hD, hS⟩ := B
  have hown : s.vm.findClass RX1 = some m.cls := hown
  have hto : ∀ w ∈ wo_k_addCell, w.before _ s = true := fun w h => hts w (List.mem_append_left _ h)
  have hl : lv_has ls 5 [(0, .ref nt), (1, .int kd), (2, .int ow), (3, .int tb)] := hl
  obtain ⟨H, hHe⟩ : ∃ H, H = s.heap := ⟨_, rfl⟩
  have hS : va_S A s.heap H [] := by rw [hHe]; exact hS
  have hP : va_P E.1 vwCl [(nt, .inr (1, [.int 0, .ref a_kinds, .ref a_inputs, .ref a_tables, n_sizes, n_extras, .ref a_sources, n_takers, .ref a_firstTaker, .ref a_order, .int 0, .ref a_tally, n_behind])), (a_sources, aI E 200 (fun _ => (-5))), (a_firstTaker, aI E 51 (fun _ => 0)), (a_tally, aI E 50 (fun _ => 0)), (a_inputs, aI E 50 (fun _ => 0)), (a_kinds, aI E 50 (fun _ => 0)), (a_order, aI E 50 (fun _ => 0)), (a_tables, aI E 50 (fun _ => 0))] H := by rw [hHe]; exact hP
  refine W_heap hHe ?_
  refine lv_aload_n hx hb dX1_addCell_0 rfl (lv_at hl 0 rfl) ?_
  refine va_get (D := E.1) (ci := 1) (v := .int 0) (own := RX1) (C := RX1) (T := TX1) (N := 13) hx hb hts i_k_addCell_X1 hown hK hP 0 rfl rfl 0 (by decide) (hto (.fieldLink RX1 52 "TimingHouse$Net" "cells" "I") (by decide +kernel)) (fun _ h9 => h9) rfl dX1_addCell_1 ?_
  refine lv_istore (lv' := [(4, .int 0), (0, .ref nt), (1, .int kd), (2, .int ow), (3, .int tb)]) hx hb dX1_addCell_4 hl (by decide) rfl (fun ls hl => ?_)
  refine lv_aload_n hx hb dX1_addCell_6 rfl (lv_at hl 1 rfl) ?_
  refine lv_dup hx hb dX1_addCell_7 rfl ?_
  refine va_get (D := E.1) (ci := 1) (v := .int 0) (own := RX1) (C := RX1) (T := TX1) (N := 13) hx hb hts i_k_addCell_X1 hown hK hP 0 rfl rfl 0 (by decide) (hto (.fieldLink RX1 52 "TimingHouse$Net" "cells" "I") (by decide +kernel)) (fun _ h9 => h9) rfl dX1_addCell_8 ?_
  refine lv_iconst (v := 1) hx hb dX1_addCell_11 (by decide) ?_
  refine lv_iadd hx hb dX1_addCell_12 ?_
  refine lv_cst (y := 1) (by decide) ?_
  refine va_put (D := E.1) (ci := 1) (v := .int 1) (ty := .int) (own := RX1) (C := RX1) (T := TX1) (N := 13) hx hb hts i_k_addCell_X1 tyX1 tyX1_ok nmX1 hown hK hP hD hS 0 rfl rfl 0 (by decide) (hto (.fieldLink RX1 52 "TimingHouse$Net" "cells" "I") (by decide +kernel)) (fun _ h9 => h9) rfl (by decide +kernel) rfl rfl (Nat.le_of_ble_eq_true rfl) dX1_addCell_13 (fun H locs hP hD hS => ?_)
  have hP : va_P E.1 vwCl [(nt, .inr (1, [.int 1, .ref a_kinds, .ref a_inputs, .ref a_tables, n_sizes, n_extras, .ref a_sources, n_takers, .ref a_firstTaker, .ref a_order, .int 0, .ref a_tally, n_behind])), (a_sources, aI E 200 (fun _ => (-5))), (a_firstTaker, aI E 51 (fun _ => 0)), (a_tally, aI E 50 (fun _ => 0)), (a_inputs, aI E 50 (fun _ => 0)), (a_kinds, aI E 50 (fun _ => 0)), (a_order, aI E 50 (fun _ => 0)), (a_tables, aI E 50 (fun _ => 0))] H := hP
  have hD : va_D A [(nt, .inr (1, [.int 1, .ref a_kinds, .ref a_inputs, .ref a_tables, n_sizes, n_extras, .ref a_sources, n_takers, .ref a_firstTaker, .ref a_order, .int 0, .ref a_tally, n_behind])), (a_sources, aI E 200 (fun _ => (-5))), (a_firstTaker, aI E 51 (fun _ => 0)), (a_tally, aI E 50 (fun _ => 0)), (a_inputs, aI E 50 (fun _ => 0)), (a_kinds, aI E 50 (fun _ => 0)), (a_order, aI E 50 (fun _ => 0)), (a_tables, aI E 50 (fun _ => 0))] := hD
  refine lv_aload_n hx hb dX1_addCell_16 rfl (lv_at hl 1 rfl) ?_
  refine va_get (D := E.1) (ci := 1) (v := .ref a_kinds) (own := RX1) (C := RX1) (T := TX1) (N := 13) hx hb hts i_k_addCell_X1 hown hK hP 0 rfl rfl 1 (by decide) (hto (.fieldLink RX1 9 "TimingHouse$Net" "kinds" "[I") (by decide +kernel)) (fun _ h9 => h9) rfl dX1_addCell_17 ?_
  refine lv_iload hx hb dX1_addCell_20 (lv_at hl 0 rfl) ?_
  refine lv_iload_n hx hb dX1_addCell_22 rfl (lv_at hl 2 rfl) ?_
  refine va_iast hx hb hK hP hD hS 5 0 rfl rfl (i3_in (by decide)) dX1_addCell_23 (fun H locs hP hD hS => ?_)
  have hP : va_P E.1 vwCl [(nt, .inr (1, [.int 1, .ref a_kinds, .ref a_inputs, .ref a_tables, n_sizes, n_extras, .ref a_sources, n_takers, .ref a_firstTaker, .ref a_order, .int 0, .ref a_tally, n_behind])), (a_sources, aI E 200 (fun _ => (-5))), (a_firstTaker, aI E 51 (fun _ => 0)), (a_tally, aI E 50 (fun _ => 0)), (a_inputs, aI E 50 (fun _ => 0)), (a_kinds, aI E 50 (upd (fun _ => 0) 0 kd)), (a_order, aI E 50 (fun _ => 0)), (a_tables, aI E 50 (fun _ => 0))] H := hP
  have hD : va_D A [(nt, .inr (1, [.int 1, .ref a_kinds, .ref a_inputs, .ref a_tables, n_sizes, n_extras, .ref a_sources, n_takers, .ref a_firstTaker, .ref a_order, .int 0, .ref a_tally, n_behind])), (a_sources, aI E 200 (fun _ => (-5))), (a_firstTaker, aI E 51 (fun _ => 0)), (a_tally, aI E 50 (fun _ => 0)), (a_inputs, aI E 50 (fun _ => 0)), (a_kinds, aI E 50 (upd (fun _ => 0) 0 kd)), (a_order, aI E 50 (fun _ => 0)), (a_tables, aI E 50 (fun _ => 0))] := hD
  refine lv_aload_n hx hb dX1_addCell_24 rfl (lv_at hl 1 rfl) ?_
  refine va_get (D := E.1) (ci := 1) (v := .ref a_inputs) (own := RX1) (C := RX1) (T := TX1) (N := 13) hx hb hts i_k_addCell_X1 hown hK hP 0 rfl rfl 2 (by decide) (hto (.fieldLink RX1 15 "TimingHouse$Net" "inputs" "[I") (by decide +kernel)) (fun _ h9 => h9) rfl dX1_addCell_25 ?_
  refine lv_iload hx hb dX1_addCell_28 (lv_at hl 0 rfl) ?_
  refine lv_iload_n hx hb dX1_addCell_30 rfl (lv_at hl 3 rfl) ?_
  refine va_iast hx hb hK hP hD hS 4 0 rfl rfl (i3_in (by decide)) dX1_addCell_31 (fun H locs hP hD hS => ?_)
  have hP : va_P E.1 vwCl [(nt, .inr (1, [.int 1, .ref a_kinds, .ref a_inputs, .ref a_tables, n_sizes, n_extras, .ref a_sources, n_takers, .ref a_firstTaker, .ref a_order, .int 0, .ref a_tally, n_behind])), (a_sources, aI E 200 (fun _ => (-5))), (a_firstTaker, aI E 51 (fun _ => 0)), (a_tally, aI E 50 (fun _ => 0)), (a_inputs, aI E 50 (upd (fun _ => 0) 0 ow)), (a_kinds, aI E 50 (upd (fun _ => 0) 0 kd)), (a_order, aI E 50 (fun _ => 0)), (a_tables, aI E 50 (fun _ => 0))] H := hP
  have hD : va_D A [(nt, .inr (1, [.int 1, .ref a_kinds, .ref a_inputs, .ref a_tables, n_sizes, n_extras, .ref a_sources, n_takers, .ref a_firstTaker, .ref a_order, .int 0, .ref a_tally, n_behind])), (a_sources, aI E 200 (fun _ => (-5))), (a_firstTaker, aI E 51 (fun _ => 0)), (a_tally, aI E 50 (fun _ => 0)), (a_inputs, aI E 50 (upd (fun _ => 0) 0 ow)), (a_kinds, aI E 50 (upd (fun _ => 0) 0 kd)), (a_order, aI E 50 (fun _ => 0)), (a_tables, aI E 50 (fun _ => 0))] := hD
  refine lv_aload_n hx hb dX1_addCell_32 rfl (lv_at hl 1 rfl) ?_
  refine va_get (D := E.1) (ci := 1) (v := .ref a_tables) (own := RX1) (C := RX1) (T := TX1) (N := 13) hx hb hts i_k_addCell_X1 hown hK hP 0 rfl rfl 3 (by decide) (hto (.fieldLink RX1 18 "TimingHouse$Net" "tables" "[I") (by decide +kernel)) (fun _ h9 => h9) rfl dX1_addCell_33 ?_
  refine lv_iload hx hb dX1_addCell_36 (lv_at hl 0 rfl) ?_
  refine lv_iload_n hx hb dX1_addCell_38 rfl (lv_at hl 4 rfl) ?_
  refine va_iast hx hb hK hP hD hS 7 0 rfl rfl (i3_in (by decide)) dX1_addCell_39 (fun H locs hP hD hS => ?_)
  have hP : va_P E.1 vwCl [(nt, .inr (1, [.int 1, .ref a_kinds, .ref a_inputs, .ref a_tables, n_sizes, n_extras, .ref a_sources, n_takers, .ref a_firstTaker, .ref a_order, .int 0, .ref a_tally, n_behind])), (a_sources, aI E 200 (fun _ => (-5))), (a_firstTaker, aI E 51 (fun _ => 0)), (a_tally, aI E 50 (fun _ => 0)), (a_inputs, aI E 50 (upd (fun _ => 0) 0 ow)), (a_kinds, aI E 50 (upd (fun _ => 0) 0 kd)), (a_order, aI E 50 (fun _ => 0)), (a_tables, aI E 50 (upd (fun _ => 0) 0 tb))] H := hP
  have hD : va_D A [(nt, .inr (1, [.int 1, .ref a_kinds, .ref a_inputs, .ref a_tables, n_sizes, n_extras, .ref a_sources, n_takers, .ref a_firstTaker, .ref a_order, .int 0, .ref a_tally, n_behind])), (a_sources, aI E 200 (fun _ => (-5))), (a_firstTaker, aI E 51 (fun _ => 0)), (a_tally, aI E 50 (fun _ => 0)), (a_inputs, aI E 50 (upd (fun _ => 0) 0 ow)), (a_kinds, aI E 50 (upd (fun _ => 0) 0 kd)), (a_order, aI E 50 (fun _ => 0)), (a_tables, aI E 50 (upd (fun _ => 0) 0 tb))] := hD
  refine lv_aload_n hx hb dX1_addCell_40 rfl (lv_at hl 1 rfl) ?_
  refine call_v (va_runV (As := []) (rest := []) ⟨hx, hb, hml, hown, hts⟩ (k_arrange l E nt a_kinds a_inputs a_tables a_sources a_firstTaker a_order a_tally (n_sizes) (n_extras) (n_takers) (n_behind) kd ow (by first | omega | decide) H.size) (cwV 0 hts g_k_addCell_k_arrange_63 rfl rfl rfl (by decide +kernel) ⟨Nat.le_of_ble_eq_true rfl, Nat.le_of_ble_eq_true rfl⟩) (pre_V hK hN (hP.sub (ws' := [(nt, .inr (1, [.int 1, .ref a_kinds, .ref a_inputs, .ref a_tables, n_sizes, n_extras, .ref a_sources, n_takers, .ref a_firstTaker, .ref a_order, .int 0, .ref a_tally, n_behind])), (a_sources, aI E 200 (fun _ => (-5))), (a_firstTaker, aI E 51 (fun _ => 0)), (a_tally, aI E 50 (fun _ => 0)), (a_inputs, aI E 50 (upd (fun _ => 0) 0 ow)), (a_kinds, aI E 50 (upd (fun _ => 0) 0 kd)), (a_order, aI E 50 (fun _ => 0))]) [0, 1, 2, 3, 4, 5, 6] rfl) (hD.sub (ws' := [(nt, .inr (1, [.int 1, .ref a_kinds, .ref a_inputs, .ref a_tables, n_sizes, n_extras, .ref a_sources, n_takers, .ref a_firstTaker, .ref a_order, .int 0, .ref a_tally, n_behind])), (a_sources, aI E 200 (fun _ => (-5))), (a_firstTaker, aI E 51 (fun _ => 0)), (a_tally, aI E 50 (fun _ => 0)), (a_inputs, aI E 50 (upd (fun _ => 0) 0 ow)), (a_kinds, aI E 50 (upd (fun _ => 0) 0 kd)), (a_order, aI E 50 (fun _ => 0))]) [0, 1, 2, 3, 4, 5, 6] (by decide) rfl) (ci := 1) (q0 := 0) rfl rfl) rfl rfl hl.1 rfl (lv_room (Nat.le_of_ble_eq_true rfl)) dX1_addCell_41 ⟨Nat.le_of_ble_eq_true rfl, Nat.le_of_ble_eq_true rfl⟩) hP hD hS hA [0, 1, 2, 3, 4, 5, 6] [7] (wr := [(a_tables, aI E 50 (upd (fun _ => 0) 0 tb))]) rfl rfl (by decide) (by decide) (fun w H locs hw hP hD hS => ?_)
  obtain rfl := hw
  have hP : va_P E.1 vwCl [(a_tables, aI E 50 (upd (fun _ => 0) 0 tb))] H := hP
  have hD : va_D A [(a_tables, aI E 50 (upd (fun _ => 0) 0 tb))] := hD
  refine lv_iload hx hb dX1_addCell_44 (lv_at hl 0 rfl) ?_
  exact ret_i hx hb hr hlk (hP.sub (ws' := []) [] rfl) (hD.sub (ws' := []) [] (by decide) rfl) hS rfl dX1_addCell_46 (Nat.le_of_ble_eq_true rfl) (Nat.le_of_ble_eq_true rfl) ⟨rfl, rfl⟩
theorem dX9_make_0 : decode cX9_make 0 = .ok (.iload_n 1, 1) := by decide +kernel
theorem dX9_make_1 : decode cX9_make 1 = .ok (.ifCond .lt 15, 3) := by decide +kernel
theorem dX9_make_16 : decode cX9_make 16 = .ok (.iconst (-1), 1) := by decide +kernel
theorem dX9_make_17 : decode cX9_make 17 = .ok (.ireturn, 1) := by decide +kernel
theorem dX9_make_4 : decode cX9_make 4 = .ok (.iload_n 1, 1) := by decide +kernel
theorem dX9_make_5 : decode cX9_make 5 = .ok (.iconst 5, 1) := by decide +kernel
theorem dX9_make_6 : decode cX9_make 6 = .ok (.if_icmp .gt 10, 3) := by decide +kernel
theorem dX9_make_9 : decode cX9_make 9 = .ok (.iload_n 3, 1) := by decide +kernel
theorem dX9_make_10 : decode cX9_make 10 = .ok (.invokestatic 81, 3) := by decide +kernel
theorem dX9_make_13 : decode cX9_make 13 = .ok (.ifCond .ne 5, 3) := by decide +kernel
theorem dX9_make_18 : decode cX9_make 18 = .ok (.iload_n 1, 1) := by decide +kernel
theorem dX9_make_19 : decode cX9_make 19 = .ok (.invokestatic 85, 3) := by decide +kernel
theorem dX9_make_22 : decode cX9_make 22 = .ok (.ifCond .eq 12, 3) := by decide +kernel
theorem dX9_make_34 : decode cX9_make 34 = .ok (.iconst 0, 1) := by decide +kernel
theorem dX9_make_35 : decode cX9_make 35 = .ok (.istore 4, 2) := by decide +kernel
theorem dX9_make_37 : decode cX9_make 37 = .ok (.iload 4, 2) := by decide +kernel
theorem dX9_make_39 : decode cX9_make 39 = .ok (.ifCond .eq 14, 3) := by decide +kernel
theorem dX9_make_53 : decode cX9_make 53 = .ok (.aload_n 0, 1) := by decide +kernel
theorem dX9_make_54 : decode cX9_make 54 = .ok (.getfield 12, 3) := by decide +kernel
theorem dX9_make_57 : decode cX9_make 57 = .ok (.getfield 92, 3) := by decide +kernel
theorem dX9_make_60 : decode cX9_make 60 = .ok (.bipush 50, 2) := by decide +kernel
theorem dX9_make_62 : decode cX9_make 62 = .ok (.if_icmp .lt 6, 3) := by decide +kernel
theorem dX9_make_68 : decode cX9_make 68 = .ok (.iload 4, 2) := by decide +kernel
theorem dX9_make_70 : decode cX9_make 70 = .ok (.ifCond .eq 7, 3) := by decide +kernel
theorem dX9_make_77 : decode cX9_make 77 = .ok (.iload_n 1, 1) := by decide +kernel
theorem dX9_make_78 : decode cX9_make 78 = .ok (.ifCond .ne 7, 3) := by decide +kernel
theorem dX9_make_85 : decode cX9_make 85 = .ok (.iconst 1, 1) := by decide +kernel
theorem dX9_make_86 : decode cX9_make 86 = .ok (.istore 5, 2) := by decide +kernel
theorem dX9_make_88 : decode cX9_make 88 = .ok (.aload_n 0, 1) := by decide +kernel
theorem dX9_make_89 : decode cX9_make 89 = .ok (.invokevirtual 96, 3) := by decide +kernel
theorem dX9_make_92 : decode cX9_make 92 = .ok (.aload_n 0, 1) := by decide +kernel
theorem dX9_make_93 : decode cX9_make 93 = .ok (.getfield 12, 3) := by decide +kernel
theorem dX9_make_96 : decode cX9_make 96 = .ok (.iload_n 1, 1) := by decide +kernel
theorem dX9_make_97 : decode cX9_make 97 = .ok (.iload 5, 2) := by decide +kernel
theorem dX9_make_99 : decode cX9_make 99 = .ok (.iload_n 3, 1) := by decide +kernel
theorem dX9_make_100 : decode cX9_make 100 = .ok (.invokevirtual 99, 3) := by decide +kernel
theorem dX9_make_103 : decode cX9_make 103 = .ok (.ireturn, 1) := by decide +kernel
theorem dX9_make_81 : decode cX9_make 81 = .ok (.iconst 0, 1) := by decide +kernel
theorem dX9_make_82 : decode cX9_make 82 = .ok (.goto 4, 3) := by decide +kernel
theorem dX9_make_25 : decode cX9_make 25 = .ok (.iload_n 1, 1) := by decide +kernel
theorem dX9_make_26 : decode cX9_make 26 = .ok (.iconst 3, 1) := by decide +kernel
theorem dX9_make_27 : decode cX9_make 27 = .ok (.if_icmp .eq 7, 3) := by decide +kernel
theorem dX9_make_30 : decode cX9_make 30 = .ok (.iconst 1, 1) := by decide +kernel
theorem dX9_make_31 : decode cX9_make 31 = .ok (.goto 4, 3) := by decide +kernel
theorem dX9_make_42 : decode cX9_make 42 = .ok (.iload_n 2, 1) := by decide +kernel
theorem dX9_make_43 : decode cX9_make 43 = .ok (.iconst 1, 1) := by decide +kernel
theorem dX9_make_44 : decode cX9_make 44 = .ok (.iconst 4, 1) := by decide +kernel
theorem dX9_make_45 : decode cX9_make 45 = .ok (.invokestatic 88, 3) := by decide +kernel
theorem dX9_make_48 : decode cX9_make 48 = .ok (.ifCond .ne 5, 3) := by decide +kernel
theorem dX9_make_73 : decode cX9_make 73 = .ok (.iload_n 2, 1) := by decide +kernel
theorem dX9_make_74 : decode cX9_make 74 = .ok (.goto 12, 3) := by decide +kernel
theorem dX9_make_51 : decode cX9_make 51 = .ok (.iconst (-1), 1) := by decide +kernel
theorem dX9_make_52 : decode cX9_make 52 = .ok (.ireturn, 1) := by decide +kernel
def wo_f_make : List Cond := [.code yX9_make cX9_make 6 (some .int), .methodLink RX9 81 yX5_has, .static yX5_has, .initialized RX5, .methodLink RX9 85 yX1_isGateKind, .static yX1_isGateKind, .initialized RX1, .fieldLink RX9 12 "TimingHouse" "net" "LTimingHouse$Net;", .methodLink RX9 96 yX9_forget, .instanceMethod yX9_forget, .selects RX9 yX9_forget yX9_forget, .initialized RX9, .methodLink RX9 99 yX1_addCell, .instanceMethod yX1_addCell, .selects RX1 yX1_addCell yX1_addCell, .methodLink RX9 88 yX9_within, .static yX9_within]
def wr_f_make : List Cond := (wsX10 ++ (wsX90 ++ (w_k_thas ++ (w_k_isGateKind ++ (w_k_forget ++ (w_k_addCell ++ (w_k_within ++ ([]))))))))
def w_f_make : List Cond := wo_f_make ++ wr_f_make
theorem wg_f_make : GW w_f_make := GW_app (GW_of (by decide +kernel)) (GW_app (GW_of (by decide +kernel)) (GW_app (GW_of (by decide +kernel)) (GW_app (wg_k_thas) (GW_app (wg_k_isGateKind) (GW_app (wg_k_forget) (GW_app (wg_k_addCell) (GW_app (wg_k_within) (GW_nil))))))))
theorem i_f_make_X1 : ∀ w ∈ wsX10, w ∈ w_f_make := fun _ h => List.mem_append_right _ (List.mem_append_left _ h)
theorem i_f_make_X9 : ∀ w ∈ wsX90, w ∈ w_f_make := fun _ h => List.mem_append_right _ (List.mem_append_right _ (List.mem_append_left _ h))
theorem g_f_make_k_thas_81 : GoodIn w_f_make (va_wsS RX9 81 yX5_has w_k_thas) := goodIn_app (gi_left (goodIn_of _ (by decide +kernel))) (fun w h => ⟨List.mem_append_right _ (List.mem_append_right _ (List.mem_append_right _ (List.mem_append_left _ h))), wg_k_thas w h⟩)
theorem g_f_make_k_isGateKind_85 : GoodIn w_f_make (va_wsS RX9 85 yX1_isGateKind w_k_isGateKind) := goodIn_app (gi_left (goodIn_of _ (by decide +kernel))) (fun w h => ⟨List.mem_append_right _ (List.mem_append_right _ (List.mem_append_right _ (List.mem_append_right _ (List.mem_append_left _ h)))), wg_k_isGateKind w h⟩)
theorem g_f_make_k_forget_96 : GoodIn w_f_make (wsV RX9 96 RX9 yX9_forget w_k_forget) := goodIn_app (gi_left (goodIn_of _ (by decide +kernel))) (fun w h => ⟨List.mem_append_right _ (List.mem_append_right _ (List.mem_append_right _ (List.mem_append_right _ (List.mem_append_right _ (List.mem_append_left _ h))))), wg_k_forget w h⟩)
theorem g_f_make_k_addCell_99 : GoodIn w_f_make (wsV RX9 99 RX1 yX1_addCell w_k_addCell) := goodIn_app (gi_left (goodIn_of _ (by decide +kernel))) (fun w h => ⟨List.mem_append_right _ (List.mem_append_right _ (List.mem_append_right _ (List.mem_append_right _ (List.mem_append_right _ (List.mem_append_right _ (List.mem_append_left _ h)))))), wg_k_addCell w h⟩)
theorem g_f_make_k_within_88 : GoodIn w_f_make (va_wsS RX9 88 yX9_within w_k_within) := goodIn_app (gi_left (goodIn_of _ (by decide +kernel))) (fun w h => ⟨List.mem_append_right _ (List.mem_append_right _ (List.mem_append_right _ (List.mem_append_right _ (List.mem_append_right _ (List.mem_append_right _ (List.mem_append_right _ (List.mem_append_left _ h))))))), wg_k_within w h⟩)
set_option maxHeartbeats 4000000 in
set_option maxRecDepth 100000 in
theorem f_make (l : Launch) (E : gE) (h : Nat) (h_stations : Value) (h_clock : Value) (h_rules : Value) (h_tables : Value) (h_timing : Value) (h_race : Value) (h_tracer : Value) (h_shown : Value) (h_trial : Value) (nt : Nat) (a_kinds : Nat) (a_inputs : Nat) (a_tables : Nat) (a_sources : Nat) (a_firstTaker : Nat) (a_order : Nat) (a_tally : Nat) (n_sizes : Value) (n_extras : Value) (n_takers : Value) (n_behind : Value) (p1 : Int32) (p2 : Int32) (p3 : Int32) : CtI l E yX9_make w_f_make ({ frames := 5, cells := 0, slots := 0, locals := 109 }) [(h, .inr (9, [.ref nt, h_stations, h_clock, h_rules, h_tables, h_timing, h_race, h_tracer, h_shown, h_trial, .int 0, .int 0])), (nt, .inr (1, [.int 0, .ref a_kinds, .ref a_inputs, .ref a_tables, n_sizes, n_extras, .ref a_sources, n_takers, .ref a_firstTaker, .ref a_order, .int 0, .ref a_tally, n_behind])), (a_sources, aI E 200 (fun _ => (-5))), (a_firstTaker, aI E 51 (fun _ => 0)), (a_tally, aI E 50 (fun _ => 0)), (a_inputs, aI E 50 (fun _ => 0)), (a_kinds, aI E 50 (fun _ => 0)), (a_order, aI E 50 (fun _ => 0)), (a_tables, aI E 50 (fun _ => 0))] [.ref h, .int p1, .int p2, .int p3] (fun r w => r = (if 0 ≤ p1.toInt ∧ p1.toInt ≤ 5 ∧ 0 ≤ p3.toInt ∧ p3.toInt < 8 ∧ (¬ (p1.toInt = 1 ∨ p1.toInt = 2) ∨ (1 ≤ p2.toInt ∧ p2.toInt ≤ 4)) then 0 else -1) ∧ w = []) := by
  refine CtI.of (cc := cX9_make) (maxL := 6) (rt := (some .int)) (by decide) rfl (Nat.le_of_ble_eq_true rfl) ?_
  intro p e s m below meth c A B ls hl
  obtain ⟨hx, hb, hml, hr, hlk, hin, hts, hown, hK, hN, hA, hP, hD, hS⟩ := B
  have hown : s.vm.findClass RX9 = some m.cls := hown
  have hto : ∀ w ∈ wo_f_make, w.before _ s = true := fun w h => hts w (List.mem_append_left _ h)
  have hl : lv_has ls 6 [(0, .ref h), (1, .int p1), (2, .int p2), (3, .int p3)] := hl
  obtain ⟨H, hHe⟩ : ∃ H, H = s.heap := ⟨_, rfl⟩
  have hS : va_S A s.heap H [] := by rw [hHe]; exact hS
  have hP : va_P E.1 vwCl [(h, .inr (9, [.ref nt, h_stations, h_clock, h_rules, h_tables, h_timing, h_race, h_tracer, h_shown, h_trial, .int 0, .int 0])), (nt, .inr (1, [.int 0, .ref a_kinds, .ref a_inputs, .ref a_tables, n_sizes, n_extras, .ref a_sources, n_takers, .ref a_firstTaker, .ref a_order, .int 0, .ref a_tally, n_behind])), (a_sources, aI E 200 (fun _ => (-5))), (a_firstTaker, aI E 51 (fun _ => 0)), (a_tally, aI E 50 (fun _ => 0)), (a_inputs, aI E 50 (fun _ => 0)), (a_kinds, aI E 50 (fun _ => 0)), (a_order, aI E 50 (fun _ => 0)), (a_tables, aI E 50 (fun _ => 0))] H := by rw [hHe]; exact hP
  refine W_heap hHe ?_
  refine lv_iload_n hx hb dX9_make_0 rfl (lv_at hl 1 rfl) ?_
  refine lv_if_lt (tgt := 16) hx hb dX9_make_1 (by decide) (fun c_1 => ?_) (fun c_1 => ?_)
  · have e_1 : p1.toInt < 0 := i3_lt c_1
    refine lv_iconst (v := (-1)) hx hb dX9_make_16 (by decide) ?_
    exact ret_i hx hb hr hlk (hP.sub (ws' := []) [] rfl) (hD.sub (ws' := []) [] (by decide) rfl) hS rfl dX9_make_17 (Nat.le_of_ble_eq_true rfl) (Nat.le_of_ble_eq_true rfl) ⟨(by first | assumption | ((repeat' split) <;> first | rfl | (exfalso; omega))), rfl⟩
  · have e_1 : 0 ≤ p1.toInt := i3_nlt c_1
    refine lv_iload_n hx hb dX9_make_4 rfl (lv_at hl 1 rfl) ?_
    refine lv_iconst (v := 5) hx hb dX9_make_5 (by decide) ?_
    refine lv_icmp_gt (tgt := 16) hx hb dX9_make_6 (by decide) (fun c_2 => ?_) (fun c_2 => ?_)
    · have e_2 : 5 < p1.toInt := i3_lt c_2
      refine lv_iconst (v := (-1)) hx hb dX9_make_16 (by decide) ?_
      exact ret_i hx hb hr hlk (hP.sub (ws' := []) [] rfl) (hD.sub (ws' := []) [] (by decide) rfl) hS rfl dX9_make_17 (Nat.le_of_ble_eq_true rfl) (Nat.le_of_ble_eq_true rfl) ⟨(by first | assumption | ((repeat' split) <;> first | rfl | (exfalso; omega))), rfl⟩
    · have e_2 : p1.toInt ≤ 5 := i3_nlt c_2
      refine lv_iload_n hx hb dX9_make_9 rfl (lv_at hl 3 rfl) ?_
      refine call_i (va_runS (As := [.int p3]) (rest := []) ⟨hx, hb, hml, hown, hts⟩ (k_thas l E p3 H.size) (va_cwS 1 hts g_f_make_k_thas_81 rfl rfl rfl (by decide +kernel) ⟨Nat.le_of_ble_eq_true rfl, Nat.le_of_ble_eq_true rfl⟩) (pre_S hK hN (hP.sub (ws' := []) [] rfl) (hD.sub (ws' := []) [] (by decide) rfl)) rfl rfl hl.1 rfl (lv_room (Nat.le_of_ble_eq_true rfl)) dX9_make_10 ⟨Nat.le_of_ble_eq_true rfl, Nat.le_of_ble_eq_true rfl⟩) hP hD hS hA [] [0, 1, 2, 3, 4, 5, 6, 7, 8] (wr := [(h, .inr (9, [.ref nt, h_stations, h_clock, h_rules, h_tables, h_timing, h_race, h_tracer, h_shown, h_trial, .int 0, .int 0])), (nt, .inr (1, [.int 0, .ref a_kinds, .ref a_inputs, .ref a_tables, n_sizes, n_extras, .ref a_sources, n_takers, .ref a_firstTaker, .ref a_order, .int 0, .ref a_tally, n_behind])), (a_sources, aI E 200 (fun _ => (-5))), (a_firstTaker, aI E 51 (fun _ => 0)), (a_tally, aI E 50 (fun _ => 0)), (a_inputs, aI E 50 (fun _ => 0)), (a_kinds, aI E 50 (fun _ => 0)), (a_order, aI E 50 (fun _ => 0)), (a_tables, aI E 50 (fun _ => 0))]) rfl rfl (by decide) (by decide) (fun r_3 w H locs hw hP hD hS => ?_)
      obtain ⟨hr_3, rfl⟩ := hw
      have hr_3 : r_3 = if 0 ≤ p3.toInt ∧ p3.toInt < 8 then 1 else 0 := hr_3
      have hP : va_P E.1 vwCl [(h, .inr (9, [.ref nt, h_stations, h_clock, h_rules, h_tables, h_timing, h_race, h_tracer, h_shown, h_trial, .int 0, .int 0])), (nt, .inr (1, [.int 0, .ref a_kinds, .ref a_inputs, .ref a_tables, n_sizes, n_extras, .ref a_sources, n_takers, .ref a_firstTaker, .ref a_order, .int 0, .ref a_tally, n_behind])), (a_sources, aI E 200 (fun _ => (-5))), (a_firstTaker, aI E 51 (fun _ => 0)), (a_tally, aI E 50 (fun _ => 0)), (a_inputs, aI E 50 (fun _ => 0)), (a_kinds, aI E 50 (fun _ => 0)), (a_order, aI E 50 (fun _ => 0)), (a_tables, aI E 50 (fun _ => 0))] H := hP
      have hD : va_D A [(h, .inr (9, [.ref nt, h_stations, h_clock, h_rules, h_tables, h_timing, h_race, h_tracer, h_shown, h_trial, .int 0, .int 0])), (nt, .inr (1, [.int 0, .ref a_kinds, .ref a_inputs, .ref a_tables, n_sizes, n_extras, .ref a_sources, n_takers, .ref a_firstTaker, .ref a_order, .int 0, .ref a_tally, n_behind])), (a_sources, aI E 200 (fun _ => (-5))), (a_firstTaker, aI E 51 (fun _ => 0)), (a_tally, aI E 50 (fun _ => 0)), (a_inputs, aI E 50 (fun _ => 0)), (a_kinds, aI E 50 (fun _ => 0)), (a_order, aI E 50 (fun _ => 0)), (a_tables, aI E 50 (fun _ => 0))] := hD
      refine lv_if_ne (tgt := 18) hx hb dX9_make_13 (by decide) (fun c_4 => ?_) (fun c_4 => ?_)
      · have e_4 : 0 ≤ p3.toInt ∧ p3.toInt < 8 := bi_pos hr_3 c_4
        refine lv_iload_n hx hb dX9_make_18 rfl (lv_at hl 1 rfl) ?_
        refine call_i (va_runS (As := [.int p1]) (rest := []) ⟨hx, hb, hml, hown, hts⟩ (k_isGateKind l E p1 H.size) (va_cwS 1 hts g_f_make_k_isGateKind_85 rfl rfl rfl (by decide +kernel) ⟨Nat.le_of_ble_eq_true rfl, Nat.le_of_ble_eq_true rfl⟩) (pre_S hK hN (hP.sub (ws' := []) [] rfl) (hD.sub (ws' := []) [] (by decide) rfl)) rfl rfl hl.1 rfl (lv_room (Nat.le_of_ble_eq_true rfl)) dX9_make_19 ⟨Nat.le_of_ble_eq_true rfl, Nat.le_of_ble_eq_true rfl⟩) hP hD hS hA [] [0, 1, 2, 3, 4, 5, 6, 7, 8] (wr := [(h, .inr (9, [.ref nt, h_stations, h_clock, h_rules, h_tables, h_timing, h_race, h_tracer, h_shown, h_trial, .int 0, .int 0])), (nt, .inr (1, [.int 0, .ref a_kinds, .ref a_inputs, .ref a_tables, n_sizes, n_extras, .ref a_sources, n_takers, .ref a_firstTaker, .ref a_order, .int 0, .ref a_tally, n_behind])), (a_sources, aI E 200 (fun _ => (-5))), (a_firstTaker, aI E 51 (fun _ => 0)), (a_tally, aI E 50 (fun _ => 0)), (a_inputs, aI E 50 (fun _ => 0)), (a_kinds, aI E 50 (fun _ => 0)), (a_order, aI E 50 (fun _ => 0)), (a_tables, aI E 50 (fun _ => 0))]) rfl rfl (by decide) (by decide) (fun r_5 w H locs hw hP hD hS => ?_)
        obtain ⟨hr_5, rfl⟩ := hw
        have hr_5 : r_5 = if 0 < p1.toInt ∧ p1.toInt < 4 then 1 else 0 := hr_5
        have hP : va_P E.1 vwCl [(h, .inr (9, [.ref nt, h_stations, h_clock, h_rules, h_tables, h_timing, h_race, h_tracer, h_shown, h_trial, .int 0, .int 0])), (nt, .inr (1, [.int 0, .ref a_kinds, .ref a_inputs, .ref a_tables, n_sizes, n_extras, .ref a_sources, n_takers, .ref a_firstTaker, .ref a_order, .int 0, .ref a_tally, n_behind])), (a_sources, aI E 200 (fun _ => (-5))), (a_firstTaker, aI E 51 (fun _ => 0)), (a_tally, aI E 50 (fun _ => 0)), (a_inputs, aI E 50 (fun _ => 0)), (a_kinds, aI E 50 (fun _ => 0)), (a_order, aI E 50 (fun _ => 0)), (a_tables, aI E 50 (fun _ => 0))] H := hP
        have hD : va_D A [(h, .inr (9, [.ref nt, h_stations, h_clock, h_rules, h_tables, h_timing, h_race, h_tracer, h_shown, h_trial, .int 0, .int 0])), (nt, .inr (1, [.int 0, .ref a_kinds, .ref a_inputs, .ref a_tables, n_sizes, n_extras, .ref a_sources, n_takers, .ref a_firstTaker, .ref a_order, .int 0, .ref a_tally, n_behind])), (a_sources, aI E 200 (fun _ => (-5))), (a_firstTaker, aI E 51 (fun _ => 0)), (a_tally, aI E 50 (fun _ => 0)), (a_inputs, aI E 50 (fun _ => 0)), (a_kinds, aI E 50 (fun _ => 0)), (a_order, aI E 50 (fun _ => 0)), (a_tables, aI E 50 (fun _ => 0))] := hD
        refine lv_if_eq (tgt := 34) hx hb dX9_make_22 (by decide) (fun c_6 => ?_) (fun c_6 => ?_)
        · have e_6 : ¬ (0 < p1.toInt ∧ p1.toInt < 4) := bi_neg hr_5 c_6
          refine lv_iconst (v := 0) hx hb dX9_make_34 (by decide) ?_
          refine lv_istore (lv' := [(4, .int 0), (0, .ref h), (1, .int p1), (2, .int p2), (3, .int p3)]) hx hb dX9_make_35 hl (by decide) rfl (fun ls hl => ?_)
          refine lv_iload hx hb dX9_make_37 (lv_at hl 0 rfl) ?_
          refine lv_if_eq (tgt := 53) hx hb dX9_make_39 (by decide) (fun c_7 => ?_) (fun c_7 => ?_)
          · refine lv_aload_n hx hb dX9_make_53 rfl (lv_at hl 1 rfl) ?_
            refine va_get (D := E.1) (ci := 9) (v := .ref nt) (own := RX9) (C := RX9) (T := TX9) (N := 12) hx hb hts i_f_make_X9 hown hK hP 0 rfl rfl 0 (by decide) (hto (.fieldLink RX9 12 "TimingHouse" "net" "LTimingHouse$Net;") (by decide +kernel)) (fun _ h9 => h9) rfl dX9_make_54 ?_
            refine va_getN (D := E.1) (ci := 1) (v := .int 0) (own := RX9) (ref := "TimingHouse$Net") (host := "TimingHouse") (C := RX1) (T := TX1) (N := 13) hx hb hts i_f_make_X1 hown hK hP 1 rfl rfl 0 (by decide) (nw_F hN 2 rfl) (fun _ h9 => h9) rfl dX9_make_57 ?_
            refine lv_bipush (v := 50) hx hb dX9_make_60 (by decide) ?_
            refine lv_icmp_lt (tgt := 68) hx hb dX9_make_62 (by decide) (fun c_8 => ?_) (fun c_8 => ?_)
            · refine lv_iload hx hb dX9_make_68 (lv_at hl 0 rfl) ?_
              refine lv_if_eq (tgt := 77) hx hb dX9_make_70 (by decide) (fun c_9 => ?_) (fun c_9 => ?_)
              · refine lv_iload_n hx hb dX9_make_77 rfl (lv_at hl 2 rfl) ?_
                refine lv_if_ne (tgt := 85) hx hb dX9_make_78 (by decide) (fun c_10 => ?_) (fun c_10 => ?_)
                · have e_10 : p1.toInt ≠ 0 := i3_ne c_10
                  refine lv_iconst (v := 1) hx hb dX9_make_85 (by decide) ?_
                  refine lv_istore (lv' := [(5, .int 1), (4, .int 0), (0, .ref h), (1, .int p1), (2, .int p2), (3, .int p3)]) hx hb dX9_make_86 hl (by decide) rfl (fun ls hl => ?_)
                  refine lv_aload_n hx hb dX9_make_88 rfl (lv_at hl 2 rfl) ?_
                  refine call_v (va_runV (As := []) (rest := []) ⟨hx, hb, hml, hown, hts⟩ (k_forget l E h (.ref nt) (h_stations) (h_clock) (h_rules) (h_tables) (h_timing) (h_race) (h_tracer) (h_shown) (h_trial) 0 0 H.size) (cwV 0 hts g_f_make_k_forget_96 rfl rfl rfl (by decide +kernel) ⟨Nat.le_of_ble_eq_true rfl, Nat.le_of_ble_eq_true rfl⟩) (pre_V hK hN (hP.sub (ws' := [(h, .inr (9, [.ref nt, h_stations, h_clock, h_rules, h_tables, h_timing, h_race, h_tracer, h_shown, h_trial, .int 0, .int 0]))]) [0] rfl) (hD.sub (ws' := [(h, .inr (9, [.ref nt, h_stations, h_clock, h_rules, h_tables, h_timing, h_race, h_tracer, h_shown, h_trial, .int 0, .int 0]))]) [0] (by decide) rfl) (ci := 9) (q0 := 0) rfl rfl) rfl rfl hl.1 rfl (lv_room (Nat.le_of_ble_eq_true rfl)) dX9_make_89 ⟨Nat.le_of_ble_eq_true rfl, Nat.le_of_ble_eq_true rfl⟩) hP hD hS hA [0] [1, 2, 3, 4, 5, 6, 7, 8] (wr := [(nt, .inr (1, [.int 0, .ref a_kinds, .ref a_inputs, .ref a_tables, n_sizes, n_extras, .ref a_sources, n_takers, .ref a_firstTaker, .ref a_order, .int 0, .ref a_tally, n_behind])), (a_sources, aI E 200 (fun _ => (-5))), (a_firstTaker, aI E 51 (fun _ => 0)), (a_tally, aI E 50 (fun _ => 0)), (a_inputs, aI E 50 (fun _ => 0)), (a_kinds, aI E 50 (fun _ => 0)), (a_order, aI E 50 (fun _ => 0)), (a_tables, aI E 50 (fun _ => 0))]) rfl rfl (by decide) (by decide) (fun w H locs hw hP hD hS => ?_)
                  obtain rfl := hw
                  have hP : va_P E.1 vwCl [(nt, .inr (1, [.int 0, .ref a_kinds, .ref a_inputs, .ref a_tables, n_sizes, n_extras, .ref a_sources, n_takers, .ref a_firstTaker, .ref a_order, .int 0, .ref a_tally, n_behind])), (a_sources, aI E 200 (fun _ => (-5))), (a_firstTaker, aI E 51 (fun _ => 0)), (a_tally, aI E 50 (fun _ => 0)), (a_inputs, aI E 50 (fun _ => 0)), (a_kinds, aI E 50 (fun _ => 0)), (a_order, aI E 50 (fun _ => 0)), (a_tables, aI E 50 (fun _ => 0)), (h, .inr (9, [.ref nt, h_stations, h_clock, h_rules, h_tables, h_timing, h_race, h_tracer, h_shown, h_trial, .int 0, .int 0]))] H := hP
                  have hD : va_D A [(nt, .inr (1, [.int 0, .ref a_kinds, .ref a_inputs, .ref a_tables, n_sizes, n_extras, .ref a_sources, n_takers, .ref a_firstTaker, .ref a_order, .int 0, .ref a_tally, n_behind])), (a_sources, aI E 200 (fun _ => (-5))), (a_firstTaker, aI E 51 (fun _ => 0)), (a_tally, aI E 50 (fun _ => 0)), (a_inputs, aI E 50 (fun _ => 0)), (a_kinds, aI E 50 (fun _ => 0)), (a_order, aI E 50 (fun _ => 0)), (a_tables, aI E 50 (fun _ => 0)), (h, .inr (9, [.ref nt, h_stations, h_clock, h_rules, h_tables, h_timing, h_race, h_tracer, h_shown, h_trial, .int 0, .int 0]))] := hD
                  refine lv_aload_n hx hb dX9_make_92 rfl (lv_at hl 2 rfl) ?_
                  refine va_get (D := E.1) (ci := 9) (v := .ref nt) (own := RX9) (C := RX9) (T := TX9) (N := 12) hx hb hts i_f_make_X9 hown hK hP 8 rfl rfl 0 (by decide) (hto (.fieldLink RX9 12 "TimingHouse" "net" "LTimingHouse$Net;") (by decide +kernel)) (fun _ h9 => h9) rfl dX9_make_93 ?_
                  refine lv_iload_n hx hb dX9_make_96 rfl (lv_at hl 3 rfl) ?_
                  refine lv_iload hx hb dX9_make_97 (lv_at hl 0 rfl) ?_
                  refine lv_iload_n hx hb dX9_make_99 rfl (lv_at hl 5 rfl) ?_
                  refine call_i (va_runV (As := [.int p1, .int 1, .int p3]) (rest := []) ⟨hx, hb, hml, hown, hts⟩ (k_addCell l E nt a_kinds a_inputs a_tables a_sources a_firstTaker a_order a_tally (n_sizes) (n_extras) (n_takers) (n_behind) p1 1 p3 (by first | omega | decide) H.size) (cwV 3 hts g_f_make_k_addCell_99 rfl rfl rfl (by decide +kernel) ⟨Nat.le_of_ble_eq_true rfl, Nat.le_of_ble_eq_true rfl⟩) (pre_V hK hN (hP.sub (ws' := [(nt, .inr (1, [.int 0, .ref a_kinds, .ref a_inputs, .ref a_tables, n_sizes, n_extras, .ref a_sources, n_takers, .ref a_firstTaker, .ref a_order, .int 0, .ref a_tally, n_behind])), (a_sources, aI E 200 (fun _ => (-5))), (a_firstTaker, aI E 51 (fun _ => 0)), (a_tally, aI E 50 (fun _ => 0)), (a_inputs, aI E 50 (fun _ => 0)), (a_kinds, aI E 50 (fun _ => 0)), (a_order, aI E 50 (fun _ => 0)), (a_tables, aI E 50 (fun _ => 0))]) [0, 1, 2, 3, 4, 5, 6, 7] rfl) (hD.sub (ws' := [(nt, .inr (1, [.int 0, .ref a_kinds, .ref a_inputs, .ref a_tables, n_sizes, n_extras, .ref a_sources, n_takers, .ref a_firstTaker, .ref a_order, .int 0, .ref a_tally, n_behind])), (a_sources, aI E 200 (fun _ => (-5))), (a_firstTaker, aI E 51 (fun _ => 0)), (a_tally, aI E 50 (fun _ => 0)), (a_inputs, aI E 50 (fun _ => 0)), (a_kinds, aI E 50 (fun _ => 0)), (a_order, aI E 50 (fun _ => 0)), (a_tables, aI E 50 (fun _ => 0))]) [0, 1, 2, 3, 4, 5, 6, 7] (by decide) rfl) (ci := 1) (q0 := 0) rfl rfl) rfl rfl hl.1 rfl (lv_room (Nat.le_of_ble_eq_true rfl)) dX9_make_100 ⟨Nat.le_of_ble_eq_true rfl, Nat.le_of_ble_eq_true rfl⟩) hP hD hS hA [0, 1, 2, 3, 4, 5, 6, 7] [8] (wr := [(h, .inr (9, [.ref nt, h_stations, h_clock, h_rules, h_tables, h_timing, h_race, h_tracer, h_shown, h_trial, .int 0, .int 0]))]) rfl rfl (by decide) (by decide) (fun r_12 w H locs hw hP hD hS => ?_)
                  obtain ⟨rfl, rfl⟩ := hw
                  have hP : va_P E.1 vwCl [(h, .inr (9, [.ref nt, h_stations, h_clock, h_rules, h_tables, h_timing, h_race, h_tracer, h_shown, h_trial, .int 0, .int 0]))] H := hP
                  have hD : va_D A [(h, .inr (9, [.ref nt, h_stations, h_clock, h_rules, h_tables, h_timing, h_race, h_tracer, h_shown, h_trial, .int 0, .int 0]))] := hD
                  exact ret_i hx hb hr hlk (hP.sub (ws' := []) [] rfl) (hD.sub (ws' := []) [] (by decide) rfl) hS rfl dX9_make_103 (Nat.le_of_ble_eq_true rfl) (Nat.le_of_ble_eq_true rfl) ⟨(by first | assumption | ((repeat' split) <;> first | rfl | (exfalso; omega))), rfl⟩
                · have e_10 : p1.toInt = 0 := i3_eq c_10
                  refine lv_iconst (v := 0) hx hb dX9_make_81 (by decide) ?_
                  refine lv_goto (tgt := 86) hx hb dX9_make_82 (by decide) ?_
                  refine lv_istore (lv' := [(5, .int 0), (4, .int 0), (0, .ref h), (1, .int p1), (2, .int p2), (3, .int p3)]) hx hb dX9_make_86 hl (by decide) rfl (fun ls hl => ?_)
                  refine lv_aload_n hx hb dX9_make_88 rfl (lv_at hl 2 rfl) ?_
                  refine call_v (va_runV (As := []) (rest := []) ⟨hx, hb, hml, hown, hts⟩ (k_forget l E h (.ref nt) (h_stations) (h_clock) (h_rules) (h_tables) (h_timing) (h_race) (h_tracer) (h_shown) (h_trial) 0 0 H.size) (cwV 0 hts g_f_make_k_forget_96 rfl rfl rfl (by decide +kernel) ⟨Nat.le_of_ble_eq_true rfl, Nat.le_of_ble_eq_true rfl⟩) (pre_V hK hN (hP.sub (ws' := [(h, .inr (9, [.ref nt, h_stations, h_clock, h_rules, h_tables, h_timing, h_race, h_tracer, h_shown, h_trial, .int 0, .int 0]))]) [0] rfl) (hD.sub (ws' := [(h, .inr (9, [.ref nt, h_stations, h_clock, h_rules, h_tables, h_timing, h_race, h_tracer, h_shown, h_trial, .int 0, .int 0]))]) [0] (by decide) rfl) (ci := 9) (q0 := 0) rfl rfl) rfl rfl hl.1 rfl (lv_room (Nat.le_of_ble_eq_true rfl)) dX9_make_89 ⟨Nat.le_of_ble_eq_true rfl, Nat.le_of_ble_eq_true rfl⟩) hP hD hS hA [0] [1, 2, 3, 4, 5, 6, 7, 8] (wr := [(nt, .inr (1, [.int 0, .ref a_kinds, .ref a_inputs, .ref a_tables, n_sizes, n_extras, .ref a_sources, n_takers, .ref a_firstTaker, .ref a_order, .int 0, .ref a_tally, n_behind])), (a_sources, aI E 200 (fun _ => (-5))), (a_firstTaker, aI E 51 (fun _ => 0)), (a_tally, aI E 50 (fun _ => 0)), (a_inputs, aI E 50 (fun _ => 0)), (a_kinds, aI E 50 (fun _ => 0)), (a_order, aI E 50 (fun _ => 0)), (a_tables, aI E 50 (fun _ => 0))]) rfl rfl (by decide) (by decide) (fun w H locs hw hP hD hS => ?_)
                  obtain rfl := hw
                  have hP : va_P E.1 vwCl [(nt, .inr (1, [.int 0, .ref a_kinds, .ref a_inputs, .ref a_tables, n_sizes, n_extras, .ref a_sources, n_takers, .ref a_firstTaker, .ref a_order, .int 0, .ref a_tally, n_behind])), (a_sources, aI E 200 (fun _ => (-5))), (a_firstTaker, aI E 51 (fun _ => 0)), (a_tally, aI E 50 (fun _ => 0)), (a_inputs, aI E 50 (fun _ => 0)), (a_kinds, aI E 50 (fun _ => 0)), (a_order, aI E 50 (fun _ => 0)), (a_tables, aI E 50 (fun _ => 0)), (h, .inr (9, [.ref nt, h_stations, h_clock, h_rules, h_tables, h_timing, h_race, h_tracer, h_shown, h_trial, .int 0, .int 0]))] H := hP
                  have hD : va_D A [(nt, .inr (1, [.int 0, .ref a_kinds, .ref a_inputs, .ref a_tables, n_sizes, n_extras, .ref a_sources, n_takers, .ref a_firstTaker, .ref a_order, .int 0, .ref a_tally, n_behind])), (a_sources, aI E 200 (fun _ => (-5))), (a_firstTaker, aI E 51 (fun _ => 0)), (a_tally, aI E 50 (fun _ => 0)), (a_inputs, aI E 50 (fun _ => 0)), (a_kinds, aI E 50 (fun _ => 0)), (a_order, aI E 50 (fun _ => 0)), (a_tables, aI E 50 (fun _ => 0)), (h, .inr (9, [.ref nt, h_stations, h_clock, h_rules, h_tables, h_timing, h_race, h_tracer, h_shown, h_trial, .int 0, .int 0]))] := hD
                  refine lv_aload_n hx hb dX9_make_92 rfl (lv_at hl 2 rfl) ?_
                  refine va_get (D := E.1) (ci := 9) (v := .ref nt) (own := RX9) (C := RX9) (T := TX9) (N := 12) hx hb hts i_f_make_X9 hown hK hP 8 rfl rfl 0 (by decide) (hto (.fieldLink RX9 12 "TimingHouse" "net" "LTimingHouse$Net;") (by decide +kernel)) (fun _ h9 => h9) rfl dX9_make_93 ?_
                  refine lv_iload_n hx hb dX9_make_96 rfl (lv_at hl 3 rfl) ?_
                  refine lv_iload hx hb dX9_make_97 (lv_at hl 0 rfl) ?_
                  refine lv_iload_n hx hb dX9_make_99 rfl (lv_at hl 5 rfl) ?_
                  refine call_i (va_runV (As := [.int p1, .int 0, .int p3]) (rest := []) ⟨hx, hb, hml, hown, hts⟩ (k_addCell l E nt a_kinds a_inputs a_tables a_sources a_firstTaker a_order a_tally (n_sizes) (n_extras) (n_takers) (n_behind) p1 0 p3 (by first | omega | decide) H.size) (cwV 3 hts g_f_make_k_addCell_99 rfl rfl rfl (by decide +kernel) ⟨Nat.le_of_ble_eq_true rfl, Nat.le_of_ble_eq_true rfl⟩) (pre_V hK hN (hP.sub (ws' := [(nt, .inr (1, [.int 0, .ref a_kinds, .ref a_inputs, .ref a_tables, n_sizes, n_extras, .ref a_sources, n_takers, .ref a_firstTaker, .ref a_order, .int 0, .ref a_tally, n_behind])), (a_sources, aI E 200 (fun _ => (-5))), (a_firstTaker, aI E 51 (fun _ => 0)), (a_tally, aI E 50 (fun _ => 0)), (a_inputs, aI E 50 (fun _ => 0)), (a_kinds, aI E 50 (fun _ => 0)), (a_order, aI E 50 (fun _ => 0)), (a_tables, aI E 50 (fun _ => 0))]) [0, 1, 2, 3, 4, 5, 6, 7] rfl) (hD.sub (ws' := [(nt, .inr (1, [.int 0, .ref a_kinds, .ref a_inputs, .ref a_tables, n_sizes, n_extras, .ref a_sources, n_takers, .ref a_firstTaker, .ref a_order, .int 0, .ref a_tally, n_behind])), (a_sources, aI E 200 (fun _ => (-5))), (a_firstTaker, aI E 51 (fun _ => 0)), (a_tally, aI E 50 (fun _ => 0)), (a_inputs, aI E 50 (fun _ => 0)), (a_kinds, aI E 50 (fun _ => 0)), (a_order, aI E 50 (fun _ => 0)), (a_tables, aI E 50 (fun _ => 0))]) [0, 1, 2, 3, 4, 5, 6, 7] (by decide) rfl) (ci := 1) (q0 := 0) rfl rfl) rfl rfl hl.1 rfl (lv_room (Nat.le_of_ble_eq_true rfl)) dX9_make_100 ⟨Nat.le_of_ble_eq_true rfl, Nat.le_of_ble_eq_true rfl⟩) hP hD hS hA [0, 1, 2, 3, 4, 5, 6, 7] [8] (wr := [(h, .inr (9, [.ref nt, h_stations, h_clock, h_rules, h_tables, h_timing, h_race, h_tracer, h_shown, h_trial, .int 0, .int 0]))]) rfl rfl (by decide) (by decide) (fun r_14 w H locs hw hP hD hS => ?_)
                  obtain ⟨rfl, rfl⟩ := hw
                  have hP : va_P E.1 vwCl [(h, .inr (9, [.ref nt, h_stations, h_clock, h_rules, h_tables, h_timing, h_race, h_tracer, h_shown, h_trial, .int 0, .int 0]))] H := hP
                  have hD : va_D A [(h, .inr (9, [.ref nt, h_stations, h_clock, h_rules, h_tables, h_timing, h_race, h_tracer, h_shown, h_trial, .int 0, .int 0]))] := hD
                  exact ret_i hx hb hr hlk (hP.sub (ws' := []) [] rfl) (hD.sub (ws' := []) [] (by decide) rfl) hS rfl dX9_make_103 (Nat.le_of_ble_eq_true rfl) (Nat.le_of_ble_eq_true rfl) ⟨(by first | assumption | ((repeat' split) <;> first | rfl | (exfalso; omega))), rfl⟩
              · exact absurd c_9 (by decide)
            · exact absurd c_8 (by decide)
          · exact absurd c_7 (by decide)
        · have e_6 : 0 < p1.toInt ∧ p1.toInt < 4 := bi_pos hr_5 c_6
          refine lv_iload_n hx hb dX9_make_25 rfl (lv_at hl 1 rfl) ?_
          refine lv_iconst (v := 3) hx hb dX9_make_26 (by decide) ?_
          refine lv_icmp_eq (tgt := 34) hx hb dX9_make_27 (by decide) (fun c_15 => ?_) (fun c_15 => ?_)
          · have e_15 : p1.toInt = 3 := i3_eq c_15
            refine lv_iconst (v := 0) hx hb dX9_make_34 (by decide) ?_
            refine lv_istore (lv' := [(4, .int 0), (0, .ref h), (1, .int p1), (2, .int p2), (3, .int p3)]) hx hb dX9_make_35 hl (by decide) rfl (fun ls hl => ?_)
            refine lv_iload hx hb dX9_make_37 (lv_at hl 0 rfl) ?_
            refine lv_if_eq (tgt := 53) hx hb dX9_make_39 (by decide) (fun c_16 => ?_) (fun c_16 => ?_)
            · refine lv_aload_n hx hb dX9_make_53 rfl (lv_at hl 1 rfl) ?_
              refine va_get (D := E.1) (ci := 9) (v := .ref nt) (own := RX9) (C := RX9) (T := TX9) (N := 12) hx hb hts i_f_make_X9 hown hK hP 0 rfl rfl 0 (by decide) (hto (.fieldLink RX9 12 "TimingHouse" "net" "LTimingHouse$Net;") (by decide +kernel)) (fun _ h9 => h9) rfl dX9_make_54 ?_
              refine va_getN (D := E.1) (ci := 1) (v := .int 0) (own := RX9) (ref := "TimingHouse$Net") (host := "TimingHouse") (C := RX1) (T := TX1) (N := 13) hx hb hts i_f_make_X1 hown hK hP 1 rfl rfl 0 (by decide) (nw_F hN 2 rfl) (fun _ h9 => h9) rfl dX9_make_57 ?_
              refine lv_bipush (v := 50) hx hb dX9_make_60 (by decide) ?_
              refine lv_icmp_lt (tgt := 68) hx hb dX9_make_62 (by decide) (fun c_17 => ?_) (fun c_17 => ?_)
              · refine lv_iload hx hb dX9_make_68 (lv_at hl 0 rfl) ?_
                refine lv_if_eq (tgt := 77) hx hb dX9_make_70 (by decide) (fun c_18 => ?_) (fun c_18 => ?_)
                · refine lv_iload_n hx hb dX9_make_77 rfl (lv_at hl 2 rfl) ?_
                  refine lv_if_ne (tgt := 85) hx hb dX9_make_78 (by decide) (fun c_19 => ?_) (fun c_19 => ?_)
                  · have e_19 : p1.toInt ≠ 0 := i3_ne c_19
                    refine lv_iconst (v := 1) hx hb dX9_make_85 (by decide) ?_
                    refine lv_istore (lv' := [(5, .int 1), (4, .int 0), (0, .ref h), (1, .int p1), (2, .int p2), (3, .int p3)]) hx hb dX9_make_86 hl (by decide) rfl (fun ls hl => ?_)
                    refine lv_aload_n hx hb dX9_make_88 rfl (lv_at hl 2 rfl) ?_
                    refine call_v (va_runV (As := []) (rest := []) ⟨hx, hb, hml, hown, hts⟩ (k_forget l E h (.ref nt) (h_stations) (h_clock) (h_rules) (h_tables) (h_timing) (h_race) (h_tracer) (h_shown) (h_trial) 0 0 H.size) (cwV 0 hts g_f_make_k_forget_96 rfl rfl rfl (by decide +kernel) ⟨Nat.le_of_ble_eq_true rfl, Nat.le_of_ble_eq_true rfl⟩) (pre_V hK hN (hP.sub (ws' := [(h, .inr (9, [.ref nt, h_stations, h_clock, h_rules, h_tables, h_timing, h_race, h_tracer, h_shown, h_trial, .int 0, .int 0]))]) [0] rfl) (hD.sub (ws' := [(h, .inr (9, [.ref nt, h_stations, h_clock, h_rules, h_tables, h_timing, h_race, h_tracer, h_shown, h_trial, .int 0, .int 0]))]) [0] (by decide) rfl) (ci := 9) (q0 := 0) rfl rfl) rfl rfl hl.1 rfl (lv_room (Nat.le_of_ble_eq_true rfl)) dX9_make_89 ⟨Nat.le_of_ble_eq_true rfl, Nat.le_of_ble_eq_true rfl⟩) hP hD hS hA [0] [1, 2, 3, 4, 5, 6, 7, 8] (wr := [(nt, .inr (1, [.int 0, .ref a_kinds, .ref a_inputs, .ref a_tables, n_sizes, n_extras, .ref a_sources, n_takers, .ref a_firstTaker, .ref a_order, .int 0, .ref a_tally, n_behind])), (a_sources, aI E 200 (fun _ => (-5))), (a_firstTaker, aI E 51 (fun _ => 0)), (a_tally, aI E 50 (fun _ => 0)), (a_inputs, aI E 50 (fun _ => 0)), (a_kinds, aI E 50 (fun _ => 0)), (a_order, aI E 50 (fun _ => 0)), (a_tables, aI E 50 (fun _ => 0))]) rfl rfl (by decide) (by decide) (fun w H locs hw hP hD hS => ?_)
                    obtain rfl := hw
                    have hP : va_P E.1 vwCl [(nt, .inr (1, [.int 0, .ref a_kinds, .ref a_inputs, .ref a_tables, n_sizes, n_extras, .ref a_sources, n_takers, .ref a_firstTaker, .ref a_order, .int 0, .ref a_tally, n_behind])), (a_sources, aI E 200 (fun _ => (-5))), (a_firstTaker, aI E 51 (fun _ => 0)), (a_tally, aI E 50 (fun _ => 0)), (a_inputs, aI E 50 (fun _ => 0)), (a_kinds, aI E 50 (fun _ => 0)), (a_order, aI E 50 (fun _ => 0)), (a_tables, aI E 50 (fun _ => 0)), (h, .inr (9, [.ref nt, h_stations, h_clock, h_rules, h_tables, h_timing, h_race, h_tracer, h_shown, h_trial, .int 0, .int 0]))] H := hP
                    have hD : va_D A [(nt, .inr (1, [.int 0, .ref a_kinds, .ref a_inputs, .ref a_tables, n_sizes, n_extras, .ref a_sources, n_takers, .ref a_firstTaker, .ref a_order, .int 0, .ref a_tally, n_behind])), (a_sources, aI E 200 (fun _ => (-5))), (a_firstTaker, aI E 51 (fun _ => 0)), (a_tally, aI E 50 (fun _ => 0)), (a_inputs, aI E 50 (fun _ => 0)), (a_kinds, aI E 50 (fun _ => 0)), (a_order, aI E 50 (fun _ => 0)), (a_tables, aI E 50 (fun _ => 0)), (h, .inr (9, [.ref nt, h_stations, h_clock, h_rules, h_tables, h_timing, h_race, h_tracer, h_shown, h_trial, .int 0, .int 0]))] := hD
                    refine lv_aload_n hx hb dX9_make_92 rfl (lv_at hl 2 rfl) ?_
                    refine va_get (D := E.1) (ci := 9) (v := .ref nt) (own := RX9) (C := RX9) (T := TX9) (N := 12) hx hb hts i_f_make_X9 hown hK hP 8 rfl rfl 0 (by decide) (hto (.fieldLink RX9 12 "TimingHouse" "net" "LTimingHouse$Net;") (by decide +kernel)) (fun _ h9 => h9) rfl dX9_make_93 ?_
                    refine lv_iload_n hx hb dX9_make_96 rfl (lv_at hl 3 rfl) ?_
                    refine lv_iload hx hb dX9_make_97 (lv_at hl 0 rfl) ?_
                    refine lv_iload_n hx hb dX9_make_99 rfl (lv_at hl 5 rfl) ?_
                    refine call_i (va_runV (As := [.int p1, .int 1, .int p3]) (rest := []) ⟨hx, hb, hml, hown, hts⟩ (k_addCell l E nt a_kinds a_inputs a_tables a_sources a_firstTaker a_order a_tally (n_sizes) (n_extras) (n_takers) (n_behind) p1 1 p3 (by first | omega | decide) H.size) (cwV 3 hts g_f_make_k_addCell_99 rfl rfl rfl (by decide +kernel) ⟨Nat.le_of_ble_eq_true rfl, Nat.le_of_ble_eq_true rfl⟩) (pre_V hK hN (hP.sub (ws' := [(nt, .inr (1, [.int 0, .ref a_kinds, .ref a_inputs, .ref a_tables, n_sizes, n_extras, .ref a_sources, n_takers, .ref a_firstTaker, .ref a_order, .int 0, .ref a_tally, n_behind])), (a_sources, aI E 200 (fun _ => (-5))), (a_firstTaker, aI E 51 (fun _ => 0)), (a_tally, aI E 50 (fun _ => 0)), (a_inputs, aI E 50 (fun _ => 0)), (a_kinds, aI E 50 (fun _ => 0)), (a_order, aI E 50 (fun _ => 0)), (a_tables, aI E 50 (fun _ => 0))]) [0, 1, 2, 3, 4, 5, 6, 7] rfl) (hD.sub (ws' := [(nt, .inr (1, [.int 0, .ref a_kinds, .ref a_inputs, .ref a_tables, n_sizes, n_extras, .ref a_sources, n_takers, .ref a_firstTaker, .ref a_order, .int 0, .ref a_tally, n_behind])), (a_sources, aI E 200 (fun _ => (-5))), (a_firstTaker, aI E 51 (fun _ => 0)), (a_tally, aI E 50 (fun _ => 0)), (a_inputs, aI E 50 (fun _ => 0)), (a_kinds, aI E 50 (fun _ => 0)), (a_order, aI E 50 (fun _ => 0)), (a_tables, aI E 50 (fun _ => 0))]) [0, 1, 2, 3, 4, 5, 6, 7] (by decide) rfl) (ci := 1) (q0 := 0) rfl rfl) rfl rfl hl.1 rfl (lv_room (Nat.le_of_ble_eq_true rfl)) dX9_make_100 ⟨Nat.le_of_ble_eq_true rfl, Nat.le_of_ble_eq_true rfl⟩) hP hD hS hA [0, 1, 2, 3, 4, 5, 6, 7] [8] (wr := [(h, .inr (9, [.ref nt, h_stations, h_clock, h_rules, h_tables, h_timing, h_race, h_tracer, h_shown, h_trial, .int 0, .int 0]))]) rfl rfl (by decide) (by decide) (fun r_21 w H locs hw hP hD hS => ?_)
                    obtain ⟨rfl, rfl⟩ := hw
                    have hP : va_P E.1 vwCl [(h, .inr (9, [.ref nt, h_stations, h_clock, h_rules, h_tables, h_timing, h_race, h_tracer, h_shown, h_trial, .int 0, .int 0]))] H := hP
                    have hD : va_D A [(h, .inr (9, [.ref nt, h_stations, h_clock, h_rules, h_tables, h_timing, h_race, h_tracer, h_shown, h_trial, .int 0, .int 0]))] := hD
                    exact ret_i hx hb hr hlk (hP.sub (ws' := []) [] rfl) (hD.sub (ws' := []) [] (by decide) rfl) hS rfl dX9_make_103 (Nat.le_of_ble_eq_true rfl) (Nat.le_of_ble_eq_true rfl) ⟨(by first | assumption | ((repeat' split) <;> first | rfl | (exfalso; omega))), rfl⟩
                  · have e_19 : p1.toInt = 0 := i3_eq c_19
                    exfalso; omega
                · exact absurd c_18 (by decide)
              · exact absurd c_17 (by decide)
            · exact absurd c_16 (by decide)
          · have e_15 : p1.toInt ≠ 3 := i3_ne c_15
            refine lv_iconst (v := 1) hx hb dX9_make_30 (by decide) ?_
            refine lv_goto (tgt := 35) hx hb dX9_make_31 (by decide) ?_
            refine lv_istore (lv' := [(4, .int 1), (0, .ref h), (1, .int p1), (2, .int p2), (3, .int p3)]) hx hb dX9_make_35 hl (by decide) rfl (fun ls hl => ?_)
            refine lv_iload hx hb dX9_make_37 (lv_at hl 0 rfl) ?_
            refine lv_if_eq (tgt := 53) hx hb dX9_make_39 (by decide) (fun c_22 => ?_) (fun c_22 => ?_)
            · exact absurd c_22 (by decide)
            · refine lv_iload_n hx hb dX9_make_42 rfl (lv_at hl 3 rfl) ?_
              refine lv_iconst (v := 1) hx hb dX9_make_43 (by decide) ?_
              refine lv_iconst (v := 4) hx hb dX9_make_44 (by decide) ?_
              refine call_i (va_runS (As := [.int p2, .int 1, .int 4]) (rest := []) ⟨hx, hb, hml, hown, hts⟩ (k_within l E p2 1 4 H.size) (va_cwS 3 hts g_f_make_k_within_88 rfl rfl rfl (by decide +kernel) ⟨Nat.le_of_ble_eq_true rfl, Nat.le_of_ble_eq_true rfl⟩) (pre_S hK hN (hP.sub (ws' := []) [] rfl) (hD.sub (ws' := []) [] (by decide) rfl)) rfl rfl hl.1 rfl (lv_room (Nat.le_of_ble_eq_true rfl)) dX9_make_45 ⟨Nat.le_of_ble_eq_true rfl, Nat.le_of_ble_eq_true rfl⟩) hP hD hS hA [] [0, 1, 2, 3, 4, 5, 6, 7, 8] (wr := [(h, .inr (9, [.ref nt, h_stations, h_clock, h_rules, h_tables, h_timing, h_race, h_tracer, h_shown, h_trial, .int 0, .int 0])), (nt, .inr (1, [.int 0, .ref a_kinds, .ref a_inputs, .ref a_tables, n_sizes, n_extras, .ref a_sources, n_takers, .ref a_firstTaker, .ref a_order, .int 0, .ref a_tally, n_behind])), (a_sources, aI E 200 (fun _ => (-5))), (a_firstTaker, aI E 51 (fun _ => 0)), (a_tally, aI E 50 (fun _ => 0)), (a_inputs, aI E 50 (fun _ => 0)), (a_kinds, aI E 50 (fun _ => 0)), (a_order, aI E 50 (fun _ => 0)), (a_tables, aI E 50 (fun _ => 0))]) rfl rfl (by decide) (by decide) (fun r_23 w H locs hw hP hD hS => ?_)
              obtain ⟨hr_23, rfl⟩ := hw
              have hr_23 : r_23 = if 1 ≤ p2.toInt ∧ p2.toInt ≤ 4 then 1 else 0 := hr_23
              have hP : va_P E.1 vwCl [(h, .inr (9, [.ref nt, h_stations, h_clock, h_rules, h_tables, h_timing, h_race, h_tracer, h_shown, h_trial, .int 0, .int 0])), (nt, .inr (1, [.int 0, .ref a_kinds, .ref a_inputs, .ref a_tables, n_sizes, n_extras, .ref a_sources, n_takers, .ref a_firstTaker, .ref a_order, .int 0, .ref a_tally, n_behind])), (a_sources, aI E 200 (fun _ => (-5))), (a_firstTaker, aI E 51 (fun _ => 0)), (a_tally, aI E 50 (fun _ => 0)), (a_inputs, aI E 50 (fun _ => 0)), (a_kinds, aI E 50 (fun _ => 0)), (a_order, aI E 50 (fun _ => 0)), (a_tables, aI E 50 (fun _ => 0))] H := hP
              have hD : va_D A [(h, .inr (9, [.ref nt, h_stations, h_clock, h_rules, h_tables, h_timing, h_race, h_tracer, h_shown, h_trial, .int 0, .int 0])), (nt, .inr (1, [.int 0, .ref a_kinds, .ref a_inputs, .ref a_tables, n_sizes, n_extras, .ref a_sources, n_takers, .ref a_firstTaker, .ref a_order, .int 0, .ref a_tally, n_behind])), (a_sources, aI E 200 (fun _ => (-5))), (a_firstTaker, aI E 51 (fun _ => 0)), (a_tally, aI E 50 (fun _ => 0)), (a_inputs, aI E 50 (fun _ => 0)), (a_kinds, aI E 50 (fun _ => 0)), (a_order, aI E 50 (fun _ => 0)), (a_tables, aI E 50 (fun _ => 0))] := hD
              refine lv_if_ne (tgt := 53) hx hb dX9_make_48 (by decide) (fun c_24 => ?_) (fun c_24 => ?_)
              · have e_24 : 1 ≤ p2.toInt ∧ p2.toInt ≤ 4 := bi_pos hr_23 c_24
                refine lv_aload_n hx hb dX9_make_53 rfl (lv_at hl 1 rfl) ?_
                refine va_get (D := E.1) (ci := 9) (v := .ref nt) (own := RX9) (C := RX9) (T := TX9) (N := 12) hx hb hts i_f_make_X9 hown hK hP 0 rfl rfl 0 (by decide) (hto (.fieldLink RX9 12 "TimingHouse" "net" "LTimingHouse$Net;") (by decide +kernel)) (fun _ h9 => h9) rfl dX9_make_54 ?_
                refine va_getN (D := E.1) (ci := 1) (v := .int 0) (own := RX9) (ref := "TimingHouse$Net") (host := "TimingHouse") (C := RX1) (T := TX1) (N := 13) hx hb hts i_f_make_X1 hown hK hP 1 rfl rfl 0 (by decide) (nw_F hN 2 rfl) (fun _ h9 => h9) rfl dX9_make_57 ?_
                refine lv_bipush (v := 50) hx hb dX9_make_60 (by decide) ?_
                refine lv_icmp_lt (tgt := 68) hx hb dX9_make_62 (by decide) (fun c_25 => ?_) (fun c_25 => ?_)
                · refine lv_iload hx hb dX9_make_68 (lv_at hl 0 rfl) ?_
                  refine lv_if_eq (tgt := 77) hx hb dX9_make_70 (by decide) (fun c_26 => ?_) (fun c_26 => ?_)
                  · exact absurd c_26 (by decide)
                  · refine lv_iload_n hx hb dX9_make_73 rfl (lv_at hl 3 rfl) ?_
                    refine lv_goto (tgt := 86) hx hb dX9_make_74 (by decide) ?_
                    refine lv_istore (lv' := [(5, .int p2), (4, .int 1), (0, .ref h), (1, .int p1), (2, .int p2), (3, .int p3)]) hx hb dX9_make_86 hl (by decide) rfl (fun ls hl => ?_)
                    refine lv_aload_n hx hb dX9_make_88 rfl (lv_at hl 2 rfl) ?_
                    refine call_v (va_runV (As := []) (rest := []) ⟨hx, hb, hml, hown, hts⟩ (k_forget l E h (.ref nt) (h_stations) (h_clock) (h_rules) (h_tables) (h_timing) (h_race) (h_tracer) (h_shown) (h_trial) 0 0 H.size) (cwV 0 hts g_f_make_k_forget_96 rfl rfl rfl (by decide +kernel) ⟨Nat.le_of_ble_eq_true rfl, Nat.le_of_ble_eq_true rfl⟩) (pre_V hK hN (hP.sub (ws' := [(h, .inr (9, [.ref nt, h_stations, h_clock, h_rules, h_tables, h_timing, h_race, h_tracer, h_shown, h_trial, .int 0, .int 0]))]) [0] rfl) (hD.sub (ws' := [(h, .inr (9, [.ref nt, h_stations, h_clock, h_rules, h_tables, h_timing, h_race, h_tracer, h_shown, h_trial, .int 0, .int 0]))]) [0] (by decide) rfl) (ci := 9) (q0 := 0) rfl rfl) rfl rfl hl.1 rfl (lv_room (Nat.le_of_ble_eq_true rfl)) dX9_make_89 ⟨Nat.le_of_ble_eq_true rfl, Nat.le_of_ble_eq_true rfl⟩) hP hD hS hA [0] [1, 2, 3, 4, 5, 6, 7, 8] (wr := [(nt, .inr (1, [.int 0, .ref a_kinds, .ref a_inputs, .ref a_tables, n_sizes, n_extras, .ref a_sources, n_takers, .ref a_firstTaker, .ref a_order, .int 0, .ref a_tally, n_behind])), (a_sources, aI E 200 (fun _ => (-5))), (a_firstTaker, aI E 51 (fun _ => 0)), (a_tally, aI E 50 (fun _ => 0)), (a_inputs, aI E 50 (fun _ => 0)), (a_kinds, aI E 50 (fun _ => 0)), (a_order, aI E 50 (fun _ => 0)), (a_tables, aI E 50 (fun _ => 0))]) rfl rfl (by decide) (by decide) (fun w H locs hw hP hD hS => ?_)
                    obtain rfl := hw
                    have hP : va_P E.1 vwCl [(nt, .inr (1, [.int 0, .ref a_kinds, .ref a_inputs, .ref a_tables, n_sizes, n_extras, .ref a_sources, n_takers, .ref a_firstTaker, .ref a_order, .int 0, .ref a_tally, n_behind])), (a_sources, aI E 200 (fun _ => (-5))), (a_firstTaker, aI E 51 (fun _ => 0)), (a_tally, aI E 50 (fun _ => 0)), (a_inputs, aI E 50 (fun _ => 0)), (a_kinds, aI E 50 (fun _ => 0)), (a_order, aI E 50 (fun _ => 0)), (a_tables, aI E 50 (fun _ => 0)), (h, .inr (9, [.ref nt, h_stations, h_clock, h_rules, h_tables, h_timing, h_race, h_tracer, h_shown, h_trial, .int 0, .int 0]))] H := hP
                    have hD : va_D A [(nt, .inr (1, [.int 0, .ref a_kinds, .ref a_inputs, .ref a_tables, n_sizes, n_extras, .ref a_sources, n_takers, .ref a_firstTaker, .ref a_order, .int 0, .ref a_tally, n_behind])), (a_sources, aI E 200 (fun _ => (-5))), (a_firstTaker, aI E 51 (fun _ => 0)), (a_tally, aI E 50 (fun _ => 0)), (a_inputs, aI E 50 (fun _ => 0)), (a_kinds, aI E 50 (fun _ => 0)), (a_order, aI E 50 (fun _ => 0)), (a_tables, aI E 50 (fun _ => 0)), (h, .inr (9, [.ref nt, h_stations, h_clock, h_rules, h_tables, h_timing, h_race, h_tracer, h_shown, h_trial, .int 0, .int 0]))] := hD
                    refine lv_aload_n hx hb dX9_make_92 rfl (lv_at hl 2 rfl) ?_
                    refine va_get (D := E.1) (ci := 9) (v := .ref nt) (own := RX9) (C := RX9) (T := TX9) (N := 12) hx hb hts i_f_make_X9 hown hK hP 8 rfl rfl 0 (by decide) (hto (.fieldLink RX9 12 "TimingHouse" "net" "LTimingHouse$Net;") (by decide +kernel)) (fun _ h9 => h9) rfl dX9_make_93 ?_
                    refine lv_iload_n hx hb dX9_make_96 rfl (lv_at hl 3 rfl) ?_
                    refine lv_iload hx hb dX9_make_97 (lv_at hl 0 rfl) ?_
                    refine lv_iload_n hx hb dX9_make_99 rfl (lv_at hl 5 rfl) ?_
                    refine call_i (va_runV (As := [.int p1, .int p2, .int p3]) (rest := []) ⟨hx, hb, hml, hown, hts⟩ (k_addCell l E nt a_kinds a_inputs a_tables a_sources a_firstTaker a_order a_tally (n_sizes) (n_extras) (n_takers) (n_behind) p1 p2 p3 (by first | omega | decide) H.size) (cwV 3 hts g_f_make_k_addCell_99 rfl rfl rfl (by decide +kernel) ⟨Nat.le_of_ble_eq_true rfl, Nat.le_of_ble_eq_true rfl⟩) (pre_V hK hN (hP.sub (ws' := [(nt, .inr (1, [.int 0, .ref a_kinds, .ref a_inputs, .ref a_tables, n_sizes, n_extras, .ref a_sources, n_takers, .ref a_firstTaker, .ref a_order, .int 0, .ref a_tally, n_behind])), (a_sources, aI E 200 (fun _ => (-5))), (a_firstTaker, aI E 51 (fun _ => 0)), (a_tally, aI E 50 (fun _ => 0)), (a_inputs, aI E 50 (fun _ => 0)), (a_kinds, aI E 50 (fun _ => 0)), (a_order, aI E 50 (fun _ => 0)), (a_tables, aI E 50 (fun _ => 0))]) [0, 1, 2, 3, 4, 5, 6, 7] rfl) (hD.sub (ws' := [(nt, .inr (1, [.int 0, .ref a_kinds, .ref a_inputs, .ref a_tables, n_sizes, n_extras, .ref a_sources, n_takers, .ref a_firstTaker, .ref a_order, .int 0, .ref a_tally, n_behind])), (a_sources, aI E 200 (fun _ => (-5))), (a_firstTaker, aI E 51 (fun _ => 0)), (a_tally, aI E 50 (fun _ => 0)), (a_inputs, aI E 50 (fun _ => 0)), (a_kinds, aI E 50 (fun _ => 0)), (a_order, aI E 50 (fun _ => 0)), (a_tables, aI E 50 (fun _ => 0))]) [0, 1, 2, 3, 4, 5, 6, 7] (by decide) rfl) (ci := 1) (q0 := 0) rfl rfl) rfl rfl hl.1 rfl (lv_room (Nat.le_of_ble_eq_true rfl)) dX9_make_100 ⟨Nat.le_of_ble_eq_true rfl, Nat.le_of_ble_eq_true rfl⟩) hP hD hS hA [0, 1, 2, 3, 4, 5, 6, 7] [8] (wr := [(h, .inr (9, [.ref nt, h_stations, h_clock, h_rules, h_tables, h_timing, h_race, h_tracer, h_shown, h_trial, .int 0, .int 0]))]) rfl rfl (by decide) (by decide) (fun r_28 w H locs hw hP hD hS => ?_)
                    obtain ⟨rfl, rfl⟩ := hw
                    have hP : va_P E.1 vwCl [(h, .inr (9, [.ref nt, h_stations, h_clock, h_rules, h_tables, h_timing, h_race, h_tracer, h_shown, h_trial, .int 0, .int 0]))] H := hP
                    have hD : va_D A [(h, .inr (9, [.ref nt, h_stations, h_clock, h_rules, h_tables, h_timing, h_race, h_tracer, h_shown, h_trial, .int 0, .int 0]))] := hD
                    exact ret_i hx hb hr hlk (hP.sub (ws' := []) [] rfl) (hD.sub (ws' := []) [] (by decide) rfl) hS rfl dX9_make_103 (Nat.le_of_ble_eq_true rfl) (Nat.le_of_ble_eq_true rfl) ⟨(by first | assumption | ((repeat' split) <;> first | rfl | (exfalso; omega))), rfl⟩
                · exact absurd c_25 (by decide)
              · have e_24 : ¬ (1 ≤ p2.toInt ∧ p2.toInt ≤ 4) := bi_neg hr_23 c_24
                refine lv_iconst (v := (-1)) hx hb dX9_make_51 (by decide) ?_
                exact ret_i hx hb hr hlk (hP.sub (ws' := []) [] rfl) (hD.sub (ws' := []) [] (by decide) rfl) hS rfl dX9_make_52 (Nat.le_of_ble_eq_true rfl) (Nat.le_of_ble_eq_true rfl) ⟨(by first | assumption | ((repeat' split) <;> first | rfl | (exfalso; omega))), rfl⟩
      · have e_4 : ¬ (0 ≤ p3.toInt ∧ p3.toInt < 8) := bi_neg hr_3 c_4
        refine lv_iconst (v := (-1)) hx hb dX9_make_16 (by decide) ?_
        exact ret_i hx hb hr hlk (hP.sub (ws' := []) [] rfl) (hD.sub (ws' := []) [] (by decide) rfl) hS rfl dX9_make_17 (Nat.le_of_ble_eq_true rfl) (Nat.le_of_ble_eq_true rfl) ⟨(by first | assumption | ((repeat' split) <;> first | rfl | (exfalso; omega))), rfl⟩
