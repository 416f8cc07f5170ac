theorem dX1_init_0 : decode cX1_init 0 = .ok (.aload_n 0, 1) := by decide +kernel
theorem dX1_init_1 : decode cX1_init 1 = .ok (.invokespecial 3, 3) := by decide +kernel
theorem dX1_init_4 : decode cX1_init 4 = .ok (.aload_n 0, 1) := by decide +kernel
theorem dX1_init_5 : decode cX1_init 5 = .ok (.bipush 50, 2) := by decide +kernel
theorem dX1_init_7 : decode cX1_init 7 = .ok (.newarray .int, 2) := by decide +kernel
theorem dX1_init_9 : decode cX1_init 9 = .ok (.putfield 9, 3) := by decide +kernel
theorem dX1_init_12 : decode cX1_init 12 = .ok (.aload_n 0, 1) := by decide +kernel
theorem dX1_init_13 : decode cX1_init 13 = .ok (.bipush 50, 2) := by decide +kernel
theorem dX1_init_15 : decode cX1_init 15 = .ok (.newarray .int, 2) := by decide +kernel
theorem dX1_init_17 : decode cX1_init 17 = .ok (.putfield 15, 3) := by decide +kernel
theorem dX1_init_20 : decode cX1_init 20 = .ok (.aload_n 0, 1) := by decide +kernel
theorem dX1_init_21 : decode cX1_init 21 = .ok (.bipush 50, 2) := by decide +kernel
theorem dX1_init_23 : decode cX1_init 23 = .ok (.newarray .int, 2) := by decide +kernel
theorem dX1_init_25 : decode cX1_init 25 = .ok (.putfield 18, 3) := by decide +kernel
theorem dX1_init_28 : decode cX1_init 28 = .ok (.aload_n 0, 1) := by decide +kernel
theorem dX1_init_29 : decode cX1_init 29 = .ok (.bipush 50, 2) := by decide +kernel
theorem dX1_init_31 : decode cX1_init 31 = .ok (.newarray .int, 2) := by decide +kernel
theorem dX1_init_33 : decode cX1_init 33 = .ok (.putfield 21, 3) := by decide +kernel
theorem dX1_init_36 : decode cX1_init 36 = .ok (.aload_n 0, 1) := by decide +kernel
theorem dX1_init_37 : decode cX1_init 37 = .ok (.bipush 50, 2) := by decide +kernel
theorem dX1_init_39 : decode cX1_init 39 = .ok (.newarray .int, 2) := by decide +kernel
theorem dX1_init_41 : decode cX1_init 41 = .ok (.putfield 24, 3) := by decide +kernel
theorem dX1_init_44 : decode cX1_init 44 = .ok (.aload_n 0, 1) := by decide +kernel
theorem dX1_init_45 : decode cX1_init 45 = .ok (.sipush 200, 3) := by decide +kernel
theorem dX1_init_48 : decode cX1_init 48 = .ok (.newarray .int, 2) := by decide +kernel
theorem dX1_init_50 : decode cX1_init 50 = .ok (.putfield 27, 3) := by decide +kernel
theorem dX1_init_53 : decode cX1_init 53 = .ok (.aload_n 0, 1) := by decide +kernel
theorem dX1_init_54 : decode cX1_init 54 = .ok (.sipush 200, 3) := by decide +kernel
theorem dX1_init_57 : decode cX1_init 57 = .ok (.newarray .int, 2) := by decide +kernel
theorem dX1_init_59 : decode cX1_init 59 = .ok (.putfield 30, 3) := by decide +kernel
theorem dX1_init_62 : decode cX1_init 62 = .ok (.aload_n 0, 1) := by decide +kernel
theorem dX1_init_63 : decode cX1_init 63 = .ok (.bipush 51, 2) := by decide +kernel
theorem dX1_init_65 : decode cX1_init 65 = .ok (.newarray .int, 2) := by decide +kernel
theorem dX1_init_67 : decode cX1_init 67 = .ok (.putfield 33, 3) := by decide +kernel
theorem dX1_init_70 : decode cX1_init 70 = .ok (.aload_n 0, 1) := by decide +kernel
theorem dX1_init_71 : decode cX1_init 71 = .ok (.bipush 50, 2) := by decide +kernel
theorem dX1_init_73 : decode cX1_init 73 = .ok (.newarray .int, 2) := by decide +kernel
theorem dX1_init_75 : decode cX1_init 75 = .ok (.putfield 36, 3) := by decide +kernel
theorem dX1_init_78 : decode cX1_init 78 = .ok (.aload_n 0, 1) := by decide +kernel
theorem dX1_init_79 : decode cX1_init 79 = .ok (.bipush 50, 2) := by decide +kernel
theorem dX1_init_81 : decode cX1_init 81 = .ok (.newarray .int, 2) := by decide +kernel
theorem dX1_init_83 : decode cX1_init 83 = .ok (.putfield 39, 3) := by decide +kernel
theorem dX1_init_86 : decode cX1_init 86 = .ok (.aload_n 0, 1) := by decide +kernel
theorem dX1_init_87 : decode cX1_init 87 = .ok (.bipush 50, 2) := by decide +kernel
theorem dX1_init_89 : decode cX1_init 89 = .ok (.newarray .boolean, 2) := by decide +kernel
theorem dX1_init_91 : decode cX1_init 91 = .ok (.putfield 42, 3) := by decide +kernel
theorem dX1_init_94 : decode cX1_init 94 = .ok (.aload_n 0, 1) := by decide +kernel
theorem dX1_init_95 : decode cX1_init 95 = .ok (.getfield 27, 3) := by decide +kernel
theorem dX1_init_98 : decode cX1_init 98 = .ok (.bipush (-5), 2) := by decide +kernel
theorem dX1_init_100 : decode cX1_init 100 = .ok (.invokestatic 46, 3) := by decide +kernel
theorem dX1_init_103 : decode cX1_init 103 = .ok (.return_, 1) := by decide +kernel
set_option maxRecDepth 20000 in
theorem ggX1_init_J7_fill_53178 : GoodIn wsX1_init wsJ7_fill_53178 := goodIn_r _ [20] (by decide +kernel) (by decide +kernel)
set_option maxRecDepth 20000 in
theorem gX1_init_J7_fill_53178 : GoodIn wsX1_init (va_wsS RX1 46 yJ7_fill_53178 wsJ7_fill_53178) := goodIn_app (goodIn_of _ (by decide +kernel)) ggX1_init_J7_fill_53178
theorem iX1_init_X1 : ∀ w ∈ wsX10, w ∈ wsX1_init := by decide +kernel
theorem m_oi_X1_init : Cond.code objectInit ⟨#[0xb1]⟩ 1 none ∈ wsX1_init := List.mem_of_getElem? (i := 3) rfl
set_option maxHeartbeats 4000000 in
set_option maxRecDepth 100000 in
theorem k_net (l : Launch) (E : gE) (h : Nat) : CtV l E yX1_init wsX1_init ({ frames := 1, cells := 11, slots := 851, locals := 23 }) [(h, .inr (1, [.int 0, .null, .null, .null, .null, .null, .null, .null, .null, .null, .int 0, .null, .null]))] [.ref h] (fun w => ∃ q_kinds : Nat, ∃ q_inputs : Nat, ∃ q_tables : Nat, ∃ q_sizes : Nat, ∃ q_extras : Nat, ∃ q_sources : Nat, ∃ q_takers : Nat, ∃ q_firstTaker : Nat, ∃ q_order : Nat, ∃ q_tally : Nat, ∃ q_behind : Nat, w = [(h, .inr (1, [.int 0, .ref q_kinds, .ref q_inputs, .ref q_tables, .ref q_sizes, .ref q_extras, .ref q_sources, .ref q_takers, .ref q_firstTaker, .ref q_order, .int 0, .ref q_tally, .ref q_behind])), (q_kinds, aI E 50 (fun _ => 0)), (q_inputs, aI E 50 (fun _ => 0)), (q_tables, aI E 50 (fun _ => 0)), (q_sources, aI E 200 (fun _ => (-5))), (q_firstTaker, aI E 51 (fun _ => 0)), (q_order, aI E 50 (fun _ => 0)), (q_tally, aI E 50 (fun _ => 0))]) := by
  refine CtV.of (cc := cX1_init) (maxL := 1) (rt := none) (by decide) rfl (Nat.le_of_ble_eq_true rfl) ?_
  intro p e s m below meth c A B ls hl
  obtain ⟨hx, hb, hml, hr, hlk, hin, hts, hown, hK, hN, hA, hP, hD, hS⟩ := B
  have hown : s.vm.findClass RX1 = some m.cls := hown
  have hl : lv_has ls 1 [(0, .ref h)] := hl
  obtain ⟨H, hHe⟩ : ∃ H, H = s.heap := ⟨_, rfl⟩
  have hS : va_S A s.heap H [] := by rw [hHe]; exact hS
  have hP : va_P E.1 vwCl [(h, .inr (1, [.int 0, .null, .null, .null, .null, .null, .null, .null, .null, .null, .int 0, .null, .null]))] H := by rw [hHe]; exact hP
  refine W_heap hHe ?_
  have hin : meth.name = "<init>" := hin
  refine lv_aload_n hx hb dX1_init_0 rfl (lv_at hl 0 rfl) ?_
  refine W.objInit hx hb hown (hts (.methodLink RX1 3 objectInit) (by decide +kernel)) (hts (.instanceMethod objectInit) (by decide +kernel)) (hts _ m_oi_X1_init) rfl (by rw [hml]; exact hl.1) rfl dX1_init_1 (Nat.le_of_ble_eq_true rfl) (Nat.le_of_ble_eq_true rfl) ?_
  refine W.eq (g2 := F0 m 4 ls []) rfl ?_
  refine lv_aload_n hx hb dX1_init_4 rfl (lv_at hl 0 rfl) ?_
  refine lv_bipush (v := 50) hx hb dX1_init_5 (by decide) ?_
  refine nw_int (N' := 50) (A := A) (E := E) hx hb (hts (.arrayClass .int) (by decide +kernel)) hK hP hD hS hA (by decide) (by decide) (Nat.le_of_ble_eq_true rfl) (Nat.le_of_ble_eq_true rfl) dX1_init_7 (fun q_1 H hP hD hS => ?_)
  have hP : va_P E.1 vwCl [(h, .inr (1, [.int 0, .null, .null, .null, .null, .null, .null, .null, .null, .null, .int 0, .null, .null])), (q_1, aI E 50 (fun _ => 0))] H := hP
  have hD : va_D A [(h, .inr (1, [.int 0, .null, .null, .null, .null, .null, .null, .null, .null, .null, .int 0, .null, .null])), (q_1, aI E 50 (fun _ => 0))] := hD
  refine va_putF (D := E.1) (ci := 1) (v := .ref q_1) (ty := .array .int) (own := RX1) (C := RX1) (T := TX1) (N := 13) hx hb hts iX1_init_X1 tyX1 tyX1_ok nmX1 hown hK hP hD hS 0 rfl rfl 1 (by decide) (hts (.fieldLink RX1 9 "TimingHouse$Net" "kinds" "[I") (by decide +kernel)) (fun _ h9 => h9) rfl hin rfl (by decide +kernel) rfl rfl (Nat.le_of_ble_eq_true rfl) dX1_init_9 (fun H locs hP hD hS => ?_)
  have hP : va_P E.1 vwCl [(h, .inr (1, [.int 0, .ref q_1, .null, .null, .null, .null, .null, .null, .null, .null, .int 0, .null, .null])), (q_1, aI E 50 (fun _ => 0))] H := hP
  have hD : va_D A [(h, .inr (1, [.int 0, .ref q_1, .null, .null, .null, .null, .null, .null, .null, .null, .int 0, .null, .null])), (q_1, aI E 50 (fun _ => 0))] := hD
  refine lv_aload_n hx hb dX1_init_12 rfl (lv_at hl 0 rfl) ?_
  refine lv_bipush (v := 50) hx hb dX1_init_13 (by decide) ?_
  refine nw_int (N' := 50) (A := A) (E := E) hx hb (hts (.arrayClass .int) (by decide +kernel)) hK hP hD hS hA (by decide) (by decide) (Nat.le_of_ble_eq_true rfl) (Nat.le_of_ble_eq_true rfl) dX1_init_15 (fun q_2 H hP hD hS => ?_)
  have hP : va_P E.1 vwCl [(h, .inr (1, [.int 0, .ref q_1, .null, .null, .null, .null, .null, .null, .null, .null, .int 0, .null, .null])), (q_1, aI E 50 (fun _ => 0)), (q_2, aI E 50 (fun _ => 0))] H := hP
  have hD : va_D A [(h, .inr (1, [.int 0, .ref q_1, .null, .null, .null, .null, .null, .null, .null, .null, .int 0, .null, .null])), (q_1, aI E 50 (fun _ => 0)), (q_2, aI E 50 (fun _ => 0))] := hD
  refine va_putF (D := E.1) (ci := 1) (v := .ref q_2) (ty := .array .int) (own := RX1) (C := RX1) (T := TX1) (N := 13) hx hb hts iX1_init_X1 tyX1 tyX1_ok nmX1 hown hK hP hD hS 0 rfl rfl 2 (by decide) (hts (.fieldLink RX1 15 "TimingHouse$Net" "inputs" "[I") (by decide +kernel)) (fun _ h9 => h9) rfl hin rfl (by decide +kernel) rfl rfl (Nat.le_of_ble_eq_true rfl) dX1_init_17 (fun H locs hP hD hS => ?_)
  have hP : va_P E.1 vwCl [(h, .inr (1, [.int 0, .ref q_1, .ref q_2, .null, .null, .null, .null, .null, .null, .null, .int 0, .null, .null])), (q_1, aI E 50 (fun _ => 0)), (q_2, aI E 50 (fun _ => 0))] H := hP
  have hD : va_D A [(h, .inr (1, [.int 0, .ref q_1, .ref q_2, .null, .null, .null, .null, .null, .null, .null, .int 0, .null, .null])), (q_1, aI E 50 (fun _ => 0)), (q_2, aI E 50 (fun _ => 0))] := hD
  refine lv_aload_n hx hb dX1_init_20 rfl (lv_at hl 0 rfl) ?_
  refine lv_bipush (v := 50) hx hb dX1_init_21 (by decide) ?_
  refine nw_int (N' := 50) (A := A) (E := E) hx hb (hts (.arrayClass .int) (by decide +kernel)) hK hP hD hS hA (by decide) (by decide) (Nat.le_of_ble_eq_true rfl) (Nat.le_of_ble_eq_true rfl) dX1_init_23 (fun q_3 H hP hD hS => ?_)
  have hP : va_P E.1 vwCl [(h, .inr (1, [.int 0, .ref q_1, .ref q_2, .null, .null, .null, .null, .null, .null, .null, .int 0, .null, .null])), (q_1, aI E 50 (fun _ => 0)), (q_2, aI E 50 (fun _ => 0)), (q_3, aI E 50 (fun _ => 0))] H := hP
  have hD : va_D A [(h, .inr (1, [.int 0, .ref q_1, .ref q_2, .null, .null, .null, .null, .null, .null, .null, .int 0, .null, .null])), (q_1, aI E 50 (fun _ => 0)), (q_2, aI E 50 (fun _ => 0)), (q_3, aI E 50 (fun _ => 0))] := hD
  refine va_putF (D := E.1) (ci := 1) (v := .ref q_3) (ty := .array .int) (own := RX1) (C := RX1) (T := TX1) (N := 13) hx hb hts iX1_init_X1 tyX1 tyX1_ok nmX1 hown hK hP hD hS 0 rfl rfl 3 (by decide) (hts (.fieldLink RX1 18 "TimingHouse$Net" "tables" "[I") (by decide +kernel)) (fun _ h9 => h9) rfl hin rfl (by decide +kernel) rfl rfl (Nat.le_of_ble_eq_true rfl) dX1_init_25 (fun H locs hP hD hS => ?_)
  have hP : va_P E.1 vwCl [(h, .inr (1, [.int 0, .ref q_1, .ref q_2, .ref q_3, .null, .null, .null, .null, .null, .null, .int 0, .null, .null])), (q_1, aI E 50 (fun _ => 0)), (q_2, aI E 50 (fun _ => 0)), (q_3, aI E 50 (fun _ => 0))] H := hP
  have hD : va_D A [(h, .inr (1, [.int 0, .ref q_1, .ref q_2, .ref q_3, .null, .null, .null, .null, .null, .null, .int 0, .null, .null])), (q_1, aI E 50 (fun _ => 0)), (q_2, aI E 50 (fun _ => 0)), (q_3, aI E 50 (fun _ => 0))] := hD
  refine lv_aload_n hx hb dX1_init_28 rfl (lv_at hl 0 rfl) ?_
  refine lv_bipush (v := 50) hx hb dX1_init_29 (by decide) ?_
  refine nw_int (N' := 50) (A := A) (E := E) hx hb (hts (.arrayClass .int) (by decide +kernel)) hK hP hD hS hA (by decide) (by decide) (Nat.le_of_ble_eq_true rfl) (Nat.le_of_ble_eq_true rfl) dX1_init_31 (fun q_4 H hP hD hS => ?_)
  have hP : va_P E.1 vwCl [(h, .inr (1, [.int 0, .ref q_1, .ref q_2, .ref q_3, .null, .null, .null, .null, .null, .null, .int 0, .null, .null])), (q_1, aI E 50 (fun _ => 0)), (q_2, aI E 50 (fun _ => 0)), (q_3, aI E 50 (fun _ => 0)), (q_4, aI E 50 (fun _ => 0))] H := hP
  have hD : va_D A [(h, .inr (1, [.int 0, .ref q_1, .ref q_2, .ref q_3, .null, .null, .null, .null, .null, .null, .int 0, .null, .null])), (q_1, aI E 50 (fun _ => 0)), (q_2, aI E 50 (fun _ => 0)), (q_3, aI E 50 (fun _ => 0)), (q_4, aI E 50 (fun _ => 0))] := hD
  refine va_putF (D := E.1) (ci := 1) (v := .ref q_4) (ty := .array .int) (own := RX1) (C := RX1) (T := TX1) (N := 13) hx hb hts iX1_init_X1 tyX1 tyX1_ok nmX1 hown hK hP hD hS 0 rfl rfl 4 (by decide) (hts (.fieldLink RX1 21 "TimingHouse$Net" "sizes" "[I") (by decide +kernel)) (fun _ h9 => h9) rfl hin rfl (by decide +kernel) rfl rfl (Nat.le_of_ble_eq_true rfl) dX1_init_33 (fun H locs hP hD hS => ?_)
  have hP : va_P E.1 vwCl [(h, .inr (1, [.int 0, .ref q_1, .ref q_2, .ref q_3, .ref q_4, .null, .null, .null, .null, .null, .int 0, .null, .null])), (q_1, aI E 50 (fun _ => 0)), (q_2, aI E 50 (fun _ => 0)), (q_3, aI E 50 (fun _ => 0)), (q_4, aI E 50 (fun _ => 0))] H := hP
  have hD : va_D A [(h, .inr (1, [.int 0, .ref q_1, .ref q_2, .ref q_3, .ref q_4, .null, .null, .null, .null, .null, .int 0, .null, .null])), (q_1, aI E 50 (fun _ => 0)), (q_2, aI E 50 (fun _ => 0)), (q_3, aI E 50 (fun _ => 0)), (q_4, aI E 50 (fun _ => 0))] := hD
  refine lv_aload_n hx hb dX1_init_36 rfl (lv_at hl 0 rfl) ?_
  refine lv_bipush (v := 50) hx hb dX1_init_37 (by decide) ?_
  refine nw_int (N' := 50) (A := A) (E := E) hx hb (hts (.arrayClass .int) (by decide +kernel)) hK hP hD hS hA (by decide) (by decide) (Nat.le_of_ble_eq_true rfl) (Nat.le_of_ble_eq_true rfl) dX1_init_39 (fun q_5 H hP hD hS => ?_)
  have hP : va_P E.1 vwCl [(h, .inr (1, [.int 0, .ref q_1, .ref q_2, .ref q_3, .ref q_4, .null, .null, .null, .null, .null, .int 0, .null, .null])), (q_1, aI E 50 (fun _ => 0)), (q_2, aI E 50 (fun _ => 0)), (q_3, aI E 50 (fun _ => 0)), (q_4, aI E 50 (fun _ => 0)), (q_5, aI E 50 (fun _ => 0))] H := hP
  have hD : va_D A [(h, .inr (1, [.int 0, .ref q_1, .ref q_2, .ref q_3, .ref q_4, .null, .null, .null, .null, .null, .int 0, .null, .null])), (q_1, aI E 50 (fun _ => 0)), (q_2, aI E 50 (fun _ => 0)), (q_3, aI E 50 (fun _ => 0)), (q_4, aI E 50 (fun _ => 0)), (q_5, aI E 50 (fun _ => 0))] := hD
  refine va_putF (D := E.1) (ci := 1) (v := .ref q_5) (ty := .array .int) (own := RX1) (C := RX1) (T := TX1) (N := 13) hx hb hts iX1_init_X1 tyX1 tyX1_ok nmX1 hown hK hP hD hS 0 rfl rfl 5 (by decide) (hts (.fieldLink RX1 24 "TimingHouse$Net" "extras" "[I") (by decide +kernel)) (fun _ h9 => h9) rfl hin rfl (by decide +kernel) rfl rfl (Nat.le_of_ble_eq_true rfl) dX1_init_41 (fun H locs hP hD hS => ?_)
  have hP : va_P E.1 vwCl [(h, .inr (1, [.int 0, .ref q_1, .ref q_2, .ref q_3, .ref q_4, .ref q_5, .null, .null, .null, .null, .int 0, .null, .null])), (q_1, aI E 50 (fun _ => 0)), (q_2, aI E 50 (fun _ => 0)), (q_3, aI E 50 (fun _ => 0)), (q_4, aI E 50 (fun _ => 0)), (q_5, aI E 50 (fun _ => 0))] H := hP
  have hD : va_D A [(h, .inr (1, [.int 0, .ref q_1, .ref q_2, .ref q_3, .ref q_4, .ref q_5, .null, .null, .null, .null, .int 0, .null, .null])), (q_1, aI E 50 (fun _ => 0)), (q_2, aI E 50 (fun _ => 0)), (q_3, aI E 50 (fun _ => 0)), (q_4, aI E 50 (fun _ => 0)), (q_5, aI E 50 (fun _ => 0))] := hD
  refine lv_aload_n hx hb dX1_init_44 rfl (lv_at hl 0 rfl) ?_
  refine lv_sipush (v := 200) hx hb dX1_init_45 (by decide) ?_
  refine nw_int (N' := 200) (A := A) (E := E) hx hb (hts (.arrayClass .int) (by decide +kernel)) hK hP hD hS hA (by decide) (by decide) (Nat.le_of_ble_eq_true rfl) (Nat.le_of_ble_eq_true rfl) dX1_init_48 (fun q_6 H hP hD hS => ?_)
  have hP : va_P E.1 vwCl [(h, .inr (1, [.int 0, .ref q_1, .ref q_2, .ref q_3, .ref q_4, .ref q_5, .null, .null, .null, .null, .int 0, .null, .null])), (q_1, aI E 50 (fun _ => 0)), (q_2, aI E 50 (fun _ => 0)), (q_3, aI E 50 (fun _ => 0)), (q_4, aI E 50 (fun _ => 0)), (q_5, aI E 50 (fun _ => 0)), (q_6, aI E 200 (fun _ => 0))] H := hP
  have hD : va_D A [(h, .inr (1, [.int 0, .ref q_1, .ref q_2, .ref q_3, .ref q_4, .ref q_5, .null, .null, .null, .null, .int 0, .null, .null])), (q_1, aI E 50 (fun _ => 0)), (q_2, aI E 50 (fun _ => 0)), (q_3, aI E 50 (fun _ => 0)), (q_4, aI E 50 (fun _ => 0)), (q_5, aI E 50 (fun _ => 0)), (q_6, aI E 200 (fun _ => 0))] := hD
  refine va_putF (D := E.1) (ci := 1) (v := .ref q_6) (ty := .array .int) (own := RX1) (C := RX1) (T := TX1) (N := 13) hx hb hts iX1_init_X1 tyX1 tyX1_ok nmX1 hown hK hP hD hS 0 rfl rfl 6 (by decide) (hts (.fieldLink RX1 27 "TimingHouse$Net" "sources" "[I") (by decide +kernel)) (fun _ h9 => h9) rfl hin rfl (by decide +kernel) rfl rfl (Nat.le_of_ble_eq_true rfl) dX1_init_50 (fun H locs hP hD hS => ?_)
  have hP : va_P E.1 vwCl [(h, .inr (1, [.int 0, .ref q_1, .ref q_2, .ref q_3, .ref q_4, .ref q_5, .ref q_6, .null, .null, .null, .int 0, .null, .null])), (q_1, aI E 50 (fun _ => 0)), (q_2, aI E 50 (fun _ => 0)), (q_3, aI E 50 (fun _ => 0)), (q_4, aI E 50 (fun _ => 0)), (q_5, aI E 50 (fun _ => 0)), (q_6, aI E 200 (fun _ => 0))] H := hP
  have hD : va_D A [(h, .inr (1, [.int 0, .ref q_1, .ref q_2, .ref q_3, .ref q_4, .ref q_5, .ref q_6, .null, .null, .null, .int 0, .null, .null])), (q_1, aI E 50 (fun _ => 0)), (q_2, aI E 50 (fun _ => 0)), (q_3, aI E 50 (fun _ => 0)), (q_4, aI E 50 (fun _ => 0)), (q_5, aI E 50 (fun _ => 0)), (q_6, aI E 200 (fun _ => 0))] := hD
  refine lv_aload_n hx hb dX1_init_53 rfl (lv_at hl 0 rfl) ?_
  refine lv_sipush (v := 200) hx hb dX1_init_54 (by decide) ?_
  refine nw_int (N' := 200) (A := A) (E := E) hx hb (hts (.arrayClass .int) (by decide +kernel)) hK hP hD hS hA (by decide) (by decide) (Nat.le_of_ble_eq_true rfl) (Nat.le_of_ble_eq_true rfl) dX1_init_57 (fun q_7 H hP hD hS => ?_)
  have hP : va_P E.1 vwCl [(h, .inr (1, [.int 0, .ref q_1, .ref q_2, .ref q_3, .ref q_4, .ref q_5, .ref q_6, .null, .null, .null, .int 0, .null, .null])), (q_1, aI E 50 (fun _ => 0)), (q_2, aI E 50 (fun _ => 0)), (q_3, aI E 50 (fun _ => 0)), (q_4, aI E 50 (fun _ => 0)), (q_5, aI E 50 (fun _ => 0)), (q_6, aI E 200 (fun _ => 0)), (q_7, aI E 200 (fun _ => 0))] H := hP
  have hD : va_D A [(h, .inr (1, [.int 0, .ref q_1, .ref q_2, .ref q_3, .ref q_4, .ref q_5, .ref q_6, .null, .null, .null, .int 0, .null, .null])), (q_1, aI E 50 (fun _ => 0)), (q_2, aI E 50 (fun _ => 0)), (q_3, aI E 50 (fun _ => 0)), (q_4, aI E 50 (fun _ => 0)), (q_5, aI E 50 (fun _ => 0)), (q_6, aI E 200 (fun _ => 0)), (q_7, aI E 200 (fun _ => 0))] := hD
  refine va_putF (D := E.1) (ci := 1) (v := .ref q_7) (ty := .array .int) (own := RX1) (C := RX1) (T := TX1) (N := 13) hx hb hts iX1_init_X1 tyX1 tyX1_ok nmX1 hown hK hP hD hS 0 rfl rfl 7 (by decide) (hts (.fieldLink RX1 30 "TimingHouse$Net" "takers" "[I") (by decide +kernel)) (fun _ h9 => h9) rfl hin rfl (by decide +kernel) rfl rfl (Nat.le_of_ble_eq_true rfl) dX1_init_59 (fun H locs hP hD hS => ?_)
  have hP : va_P E.1 vwCl [(h, .inr (1, [.int 0, .ref q_1, .ref q_2, .ref q_3, .ref q_4, .ref q_5, .ref q_6, .ref q_7, .null, .null, .int 0, .null, .null])), (q_1, aI E 50 (fun _ => 0)), (q_2, aI E 50 (fun _ => 0)), (q_3, aI E 50 (fun _ => 0)), (q_4, aI E 50 (fun _ => 0)), (q_5, aI E 50 (fun _ => 0)), (q_6, aI E 200 (fun _ => 0)), (q_7, aI E 200 (fun _ => 0))] H := hP
  have hD : va_D A [(h, .inr (1, [.int 0, .ref q_1, .ref q_2, .ref q_3, .ref q_4, .ref q_5, .ref q_6, .ref q_7, .null, .null, .int 0, .null, .null])), (q_1, aI E 50 (fun _ => 0)), (q_2, aI E 50 (fun _ => 0)), (q_3, aI E 50 (fun _ => 0)), (q_4, aI E 50 (fun _ => 0)), (q_5, aI E 50 (fun _ => 0)), (q_6, aI E 200 (fun _ => 0)), (q_7, aI E 200 (fun _ => 0))] := hD
  refine lv_aload_n hx hb dX1_init_62 rfl (lv_at hl 0 rfl) ?_
  refine lv_bipush (v := 51) hx hb dX1_init_63 (by decide) ?_
  refine nw_int (N' := 51) (A := A) (E := E) hx hb (hts (.arrayClass .int) (by decide +kernel)) hK hP hD hS hA (by decide) (by decide) (Nat.le_of_ble_eq_true rfl) (Nat.le_of_ble_eq_true rfl) dX1_init_65 (fun q_8 H hP hD hS => ?_)
  have hP : va_P E.1 vwCl [(h, .inr (1, [.int 0, .ref q_1, .ref q_2, .ref q_3, .ref q_4, .ref q_5, .ref q_6, .ref q_7, .null, .null, .int 0, .null, .null])), (q_1, aI E 50 (fun _ => 0)), (q_2, aI E 50 (fun _ => 0)), (q_3, aI E 50 (fun _ => 0)), (q_4, aI E 50 (fun _ => 0)), (q_5, aI E 50 (fun _ => 0)), (q_6, aI E 200 (fun _ => 0)), (q_7, aI E 200 (fun _ => 0)), (q_8, aI E 51 (fun _ => 0))] H := hP
  have hD : va_D A [(h, .inr (1, [.int 0, .ref q_1, .ref q_2, .ref q_3, .ref q_4, .ref q_5, .ref q_6, .ref q_7, .null, .null, .int 0, .null, .null])), (q_1, aI E 50 (fun _ => 0)), (q_2, aI E 50 (fun _ => 0)), (q_3, aI E 50 (fun _ => 0)), (q_4, aI E 50 (fun _ => 0)), (q_5, aI E 50 (fun _ => 0)), (q_6, aI E 200 (fun _ => 0)), (q_7, aI E 200 (fun _ => 0)), (q_8, aI E 51 (fun _ => 0))] := hD
  refine va_putF (D := E.1) (ci := 1) (v := .ref q_8) (ty := .array .int) (own := RX1) (C := RX1) (T := TX1) (N := 13) hx hb hts iX1_init_X1 tyX1 tyX1_ok nmX1 hown hK hP hD hS 0 rfl rfl 8 (by decide) (hts (.fieldLink RX1 33 "TimingHouse$Net" "firstTaker" "[I") (by decide +kernel)) (fun _ h9 => h9) rfl hin rfl (by decide +kernel) rfl rfl (Nat.le_of_ble_eq_true rfl) dX1_init_67 (fun H locs hP hD hS => ?_)
  have hP : va_P E.1 vwCl [(h, .inr (1, [.int 0, .ref q_1, .ref q_2, .ref q_3, .ref q_4, .ref q_5, .ref q_6, .ref q_7, .ref q_8, .null, .int 0, .null, .null])), (q_1, aI E 50 (fun _ => 0)), (q_2, aI E 50 (fun _ => 0)), (q_3, aI E 50 (fun _ => 0)), (q_4, aI E 50 (fun _ => 0)), (q_5, aI E 50 (fun _ => 0)), (q_6, aI E 200 (fun _ => 0)), (q_7, aI E 200 (fun _ => 0)), (q_8, aI E 51 (fun _ => 0))] H := hP
  have hD : va_D A [(h, .inr (1, [.int 0, .ref q_1, .ref q_2, .ref q_3, .ref q_4, .ref q_5, .ref q_6, .ref q_7, .ref q_8, .null, .int 0, .null, .null])), (q_1, aI E 50 (fun _ => 0)), (q_2, aI E 50 (fun _ => 0)), (q_3, aI E 50 (fun _ => 0)), (q_4, aI E 50 (fun _ => 0)), (q_5, aI E 50 (fun _ => 0)), (q_6, aI E 200 (fun _ => 0)), (q_7, aI E 200 (fun _ => 0)), (q_8, aI E 51 (fun _ => 0))] := hD
  refine lv_aload_n hx hb dX1_init_70 rfl (lv_at hl 0 rfl) ?_
  refine lv_bipush (v := 50) hx hb dX1_init_71 (by decide) ?_
  refine nw_int (N' := 50) (A := A) (E := E) hx hb (hts (.arrayClass .int) (by decide +kernel)) hK hP hD hS hA (by decide) (by decide) (Nat.le_of_ble_eq_true rfl) (Nat.le_of_ble_eq_true rfl) dX1_init_73 (fun q_9 H hP hD hS => ?_)
  have hP : va_P E.1 vwCl [(h, .inr (1, [.int 0, .ref q_1, .ref q_2, .ref q_3, .ref q_4, .ref q_5, .ref q_6, .ref q_7, .ref q_8, .null, .int 0, .null, .null])), (q_1, aI E 50 (fun _ => 0)), (q_2, aI E 50 (fun _ => 0)), (q_3, aI E 50 (fun _ => 0)), (q_4, aI E 50 (fun _ => 0)), (q_5, aI E 50 (fun _ => 0)), (q_6, aI E 200 (fun _ => 0)), (q_7, aI E 200 (fun _ => 0)), (q_8, aI E 51 (fun _ => 0)), (q_9, aI E 50 (fun _ => 0))] H := hP
  have hD : va_D A [(h, .inr (1, [.int 0, .ref q_1, .ref q_2, .ref q_3, .ref q_4, .ref q_5, .ref q_6, .ref q_7, .ref q_8, .null, .int 0, .null, .null])), (q_1, aI E 50 (fun _ => 0)), (q_2, aI E 50 (fun _ => 0)), (q_3, aI E 50 (fun _ => 0)), (q_4, aI E 50 (fun _ => 0)), (q_5, aI E 50 (fun _ => 0)), (q_6, aI E 200 (fun _ => 0)), (q_7, aI E 200 (fun _ => 0)), (q_8, aI E 51 (fun _ => 0)), (q_9, aI E 50 (fun _ => 0))] := hD
  refine va_putF (D := E.1) (ci := 1) (v := .ref q_9) (ty := .array .int) (own := RX1) (C := RX1) (T := TX1) (N := 13) hx hb hts iX1_init_X1 tyX1 tyX1_ok nmX1 hown hK hP hD hS 0 rfl rfl 9 (by decide) (hts (.fieldLink RX1 36 "TimingHouse$Net" "order" "[I") (by decide +kernel)) (fun _ h9 => h9) rfl hin rfl (by decide +kernel) rfl rfl (Nat.le_of_ble_eq_true rfl) dX1_init_75 (fun H locs hP hD hS => ?_)
  have hP : va_P E.1 vwCl [(h, .inr (1, [.int 0, .ref q_1, .ref q_2, .ref q_3, .ref q_4, .ref q_5, .ref q_6, .ref q_7, .ref q_8, .ref q_9, .int 0, .null, .null])), (q_1, aI E 50 (fun _ => 0)), (q_2, aI E 50 (fun _ => 0)), (q_3, aI E 50 (fun _ => 0)), (q_4, aI E 50 (fun _ => 0)), (q_5, aI E 50 (fun _ => 0)), (q_6, aI E 200 (fun _ => 0)), (q_7, aI E 200 (fun _ => 0)), (q_8, aI E 51 (fun _ => 0)), (q_9, aI E 50 (fun _ => 0))] H := hP
  have hD : va_D A [(h, .inr (1, [.int 0, .ref q_1, .ref q_2, .ref q_3, .ref q_4, .ref q_5, .ref q_6, .ref q_7, .ref q_8, .ref q_9, .int 0, .null, .null])), (q_1, aI E 50 (fun _ => 0)), (q_2, aI E 50 (fun _ => 0)), (q_3, aI E 50 (fun _ => 0)), (q_4, aI E 50 (fun _ => 0)), (q_5, aI E 50 (fun _ => 0)), (q_6, aI E 200 (fun _ => 0)), (q_7, aI E 200 (fun _ => 0)), (q_8, aI E 51 (fun _ => 0)), (q_9, aI E 50 (fun _ => 0))] := hD
  refine lv_aload_n hx hb dX1_init_78 rfl (lv_at hl 0 rfl) ?_
  refine lv_bipush (v := 50) hx hb dX1_init_79 (by decide) ?_
  refine nw_int (N' := 50) (A := A) (E := E) hx hb (hts (.arrayClass .int) (by decide +kernel)) hK hP hD hS hA (by decide) (by decide) (Nat.le_of_ble_eq_true rfl) (Nat.le_of_ble_eq_true rfl) dX1_init_81 (fun q_10 H hP hD hS => ?_)
  have hP : va_P E.1 vwCl [(h, .inr (1, [.int 0, .ref q_1, .ref q_2, .ref q_3, .ref q_4, .ref q_5, .ref q_6, .ref q_7, .ref q_8, .ref q_9, .int 0, .null, .null])), (q_1, aI E 50 (fun _ => 0)), (q_2, aI E 50 (fun _ => 0)), (q_3, aI E 50 (fun _ => 0)), (q_4, aI E 50 (fun _ => 0)), (q_5, aI E 50 (fun _ => 0)), (q_6, aI E 200 (fun _ => 0)), (q_7, aI E 200 (fun _ => 0)), (q_8, aI E 51 (fun _ => 0)), (q_9, aI E 50 (fun _ => 0)), (q_10, aI E 50 (fun _ => 0))] H := hP
  have hD : va_D A [(h, .inr (1, [.int 0, .ref q_1, .ref q_2, .ref q_3, .ref q_4, .ref q_5, .ref q_6, .ref q_7, .ref q_8, .ref q_9, .int 0, .null, .null])), (q_1, aI E 50 (fun _ => 0)), (q_2, aI E 50 (fun _ => 0)), (q_3, aI E 50 (fun _ => 0)), (q_4, aI E 50 (fun _ => 0)), (q_5, aI E 50 (fun _ => 0)), (q_6, aI E 200 (fun _ => 0)), (q_7, aI E 200 (fun _ => 0)), (q_8, aI E 51 (fun _ => 0)), (q_9, aI E 50 (fun _ => 0)), (q_10, aI E 50 (fun _ => 0))] := hD
  refine va_putF (D := E.1) (ci := 1) (v := .ref q_10) (ty := .array .int) (own := RX1) (C := RX1) (T := TX1) (N := 13) hx hb hts iX1_init_X1 tyX1 tyX1_ok nmX1 hown hK hP hD hS 0 rfl rfl 11 (by decide) (hts (.fieldLink RX1 39 "TimingHouse$Net" "tally" "[I") (by decide +kernel)) (fun _ h9 => h9) rfl hin rfl (by decide +kernel) rfl rfl (Nat.le_of_ble_eq_true rfl) dX1_init_83 (fun H locs hP hD hS => ?_)
  have hP : va_P E.1 vwCl [(h, .inr (1, [.int 0, .ref q_1, .ref q_2, .ref q_3, .ref q_4, .ref q_5, .ref q_6, .ref q_7, .ref q_8, .ref q_9, .int 0, .ref q_10, .null])), (q_1, aI E 50 (fun _ => 0)), (q_2, aI E 50 (fun _ => 0)), (q_3, aI E 50 (fun _ => 0)), (q_4, aI E 50 (fun _ => 0)), (q_5, aI E 50 (fun _ => 0)), (q_6, aI E 200 (fun _ => 0)), (q_7, aI E 200 (fun _ => 0)), (q_8, aI E 51 (fun _ => 0)), (q_9, aI E 50 (fun _ => 0)), (q_10, aI E 50 (fun _ => 0))] H := hP
  have hD : va_D A [(h, .inr (1, [.int 0, .ref q_1, .ref q_2, .ref q_3, .ref q_4, .ref q_5, .ref q_6, .ref q_7, .ref q_8, .ref q_9, .int 0, .ref q_10, .null])), (q_1, aI E 50 (fun _ => 0)), (q_2, aI E 50 (fun _ => 0)), (q_3, aI E 50 (fun _ => 0)), (q_4, aI E 50 (fun _ => 0)), (q_5, aI E 50 (fun _ => 0)), (q_6, aI E 200 (fun _ => 0)), (q_7, aI E 200 (fun _ => 0)), (q_8, aI E 51 (fun _ => 0)), (q_9, aI E 50 (fun _ => 0)), (q_10, aI E 50 (fun _ => 0))] := hD
  refine lv_aload_n hx hb dX1_init_86 rfl (lv_at hl 0 rfl) ?_
  refine lv_bipush (v := 50) hx hb dX1_init_87 (by decide) ?_
  refine nw_bool (N' := 50) (A := A) (E := E) hx hb (hts (.arrayClass .boolean) (by decide +kernel)) hK hP hD hS hA (by decide) (by decide) (Nat.le_of_ble_eq_true rfl) (Nat.le_of_ble_eq_true rfl) dX1_init_89 (fun q_11 H hP hD hS => ?_)
  have hP : va_P E.1 vwCl [(h, .inr (1, [.int 0, .ref q_1, .ref q_2, .ref q_3, .ref q_4, .ref q_5, .ref q_6, .ref q_7, .ref q_8, .ref q_9, .int 0, .ref q_10, .null])), (q_1, aI E 50 (fun _ => 0)), (q_2, aI E 50 (fun _ => 0)), (q_3, aI E 50 (fun _ => 0)), (q_4, aI E 50 (fun _ => 0)), (q_5, aI E 50 (fun _ => 0)), (q_6, aI E 200 (fun _ => 0)), (q_7, aI E 200 (fun _ => 0)), (q_8, aI E 51 (fun _ => 0)), (q_9, aI E 50 (fun _ => 0)), (q_10, aI E 50 (fun _ => 0)), (q_11, aZ E 50 (fun _ => 0))] H := hP
  have hD : va_D A [(h, .inr (1, [.int 0, .ref q_1, .ref q_2, .ref q_3, .ref q_4, .ref q_5, .ref q_6, .ref q_7, .ref q_8, .ref q_9, .int 0, .ref q_10, .null])), (q_1, aI E 50 (fun _ => 0)), (q_2, aI E 50 (fun _ => 0)), (q_3, aI E 50 (fun _ => 0)), (q_4, aI E 50 (fun _ => 0)), (q_5, aI E 50 (fun _ => 0)), (q_6, aI E 200 (fun _ => 0)), (q_7, aI E 200 (fun _ => 0)), (q_8, aI E 51 (fun _ => 0)), (q_9, aI E 50 (fun _ => 0)), (q_10, aI E 50 (fun _ => 0)), (q_11, aZ E 50 (fun _ => 0))] := hD
  refine va_putF (D := E.1) (ci := 1) (v := .ref q_11) (ty := .array .boolean) (own := RX1) (C := RX1) (T := TX1) (N := 13) hx hb hts iX1_init_X1 tyX1 tyX1_ok nmX1 hown hK hP hD hS 0 rfl rfl 12 (by decide) (hts (.fieldLink RX1 42 "TimingHouse$Net" "behind" "[Z") (by decide +kernel)) (fun _ h9 => h9) rfl hin rfl (by decide +kernel) rfl rfl (Nat.le_of_ble_eq_true rfl) dX1_init_91 (fun H locs hP hD hS => ?_)
  have hP : va_P E.1 vwCl [(h, .inr (1, [.int 0, .ref q_1, .ref q_2, .ref q_3, .ref q_4, .ref q_5, .ref q_6, .ref q_7, .ref q_8, .ref q_9, .int 0, .ref q_10, .ref q_11])), (q_1, aI E 50 (fun _ => 0)), (q_2, aI E 50 (fun _ => 0)), (q_3, aI E 50 (fun _ => 0)), (q_4, aI E 50 (fun _ => 0)), (q_5, aI E 50 (fun _ => 0)), (q_6, aI E 200 (fun _ => 0)), (q_7, aI E 200 (fun _ => 0)), (q_8, aI E 51 (fun _ => 0)), (q_9, aI E 50 (fun _ => 0)), (q_10, aI E 50 (fun _ => 0)), (q_11, aZ E 50 (fun _ => 0))] H := hP
  have hD : va_D A [(h, .inr (1, [.int 0, .ref q_1, .ref q_2, .ref q_3, .ref q_4, .ref q_5, .ref q_6, .ref q_7, .ref q_8, .ref q_9, .int 0, .ref q_10, .ref q_11])), (q_1, aI E 50 (fun _ => 0)), (q_2, aI E 50 (fun _ => 0)), (q_3, aI E 50 (fun _ => 0)), (q_4, aI E 50 (fun _ => 0)), (q_5, aI E 50 (fun _ => 0)), (q_6, aI E 200 (fun _ => 0)), (q_7, aI E 200 (fun _ => 0)), (q_8, aI E 51 (fun _ => 0)), (q_9, aI E 50 (fun _ => 0)), (q_10, aI E 50 (fun _ => 0)), (q_11, aZ E 50 (fun _ => 0))] := hD
  refine lv_aload_n hx hb dX1_init_94 rfl (lv_at hl 0 rfl) ?_
  refine va_get (D := E.1) (ci := 1) (v := .ref q_6) (own := RX1) (C := RX1) (T := TX1) (N := 13) hx hb hts iX1_init_X1 hown hK hP 0 rfl rfl 6 (by decide) (hts (.fieldLink RX1 27 "TimingHouse$Net" "sources" "[I") (by decide +kernel)) (fun _ h9 => h9) rfl dX1_init_95 ?_
  refine lv_bipush (v := (-5)) hx hb dX1_init_98 (by decide) ?_
  refine call_v (va_runS (As := [.ref q_6, .int (-5)]) (rest := []) ⟨hx, hb, hml, hown, hts⟩ (k_fill l E q_6 200 (fun _ => 0) (-5) (by decide) H.size) (va_cwS 2 hts gX1_init_J7_fill_53178 rfl rfl rfl (by decide +kernel) ⟨Nat.le_of_ble_eq_true rfl, Nat.le_of_ble_eq_true rfl⟩) (pre_S hK hN (hP.sub (ws' := [(q_6, aI E 200 (fun _ => 0))]) [6] rfl) (hD.sub (ws' := [(q_6, aI E 200 (fun _ => 0))]) [6] (by decide) rfl)) rfl rfl hl.1 rfl (lv_room (Nat.le_of_ble_eq_true rfl)) dX1_init_100 ⟨Nat.le_of_ble_eq_true rfl, Nat.le_of_ble_eq_true rfl⟩) hP hD hS hA [6] [0, 1, 2, 3, 4, 5, 7, 8, 9, 10, 11] (wr := [(h, .inr (1, [.int 0, .ref q_1, .ref q_2, .ref q_3, .ref q_4, .ref q_5, .ref q_6, .ref q_7, .ref q_8, .ref q_9, .int 0, .ref q_10, .ref q_11])), (q_1, aI E 50 (fun _ => 0)), (q_2, aI E 50 (fun _ => 0)), (q_3, aI E 50 (fun _ => 0)), (q_4, aI E 50 (fun _ => 0)), (q_5, aI E 50 (fun _ => 0)), (q_7, aI E 200 (fun _ => 0)), (q_8, aI E 51 (fun _ => 0)), (q_9, aI E 50 (fun _ => 0)), (q_10, aI E 50 (fun _ => 0)), (q_11, aZ E 50 (fun _ => 0))]) rfl rfl (by decide) (by decide) (fun w H locs hw hP hD hS => ?_)
  obtain rfl := hw
  have hP : va_P E.1 vwCl [(h, .inr (1, [.int 0, .ref q_1, .ref q_2, .ref q_3, .ref q_4, .ref q_5, .ref q_6, .ref q_7, .ref q_8, .ref q_9, .int 0, .ref q_10, .ref q_11])), (q_1, aI E 50 (fun _ => 0)), (q_2, aI E 50 (fun _ => 0)), (q_3, aI E 50 (fun _ => 0)), (q_4, aI E 50 (fun _ => 0)), (q_5, aI E 50 (fun _ => 0)), (q_7, aI E 200 (fun _ => 0)), (q_8, aI E 51 (fun _ => 0)), (q_9, aI E 50 (fun _ => 0)), (q_10, aI E 50 (fun _ => 0)), (q_11, aZ E 50 (fun _ => 0)), (q_6, aI E 200 (fun _ => (-5)))] H := hP
  have hD : va_D A [(h, .inr (1, [.int 0, .ref q_1, .ref q_2, .ref q_3, .ref q_4, .ref q_5, .ref q_6, .ref q_7, .ref q_8, .ref q_9, .int 0, .ref q_10, .ref q_11])), (q_1, aI E 50 (fun _ => 0)), (q_2, aI E 50 (fun _ => 0)), (q_3, aI E 50 (fun _ => 0)), (q_4, aI E 50 (fun _ => 0)), (q_5, aI E 50 (fun _ => 0)), (q_7, aI E 200 (fun _ => 0)), (q_8, aI E 51 (fun _ => 0)), (q_9, aI E 50 (fun _ => 0)), (q_10, aI E 50 (fun _ => 0)), (q_11, aZ E 50 (fun _ => 0)), (q_6, aI E 200 (fun _ => (-5)))] := hD
  exact ret_v hx hb hr hlk (hP.sub (ws' := [(h, .inr (1, [.int 0, .ref q_1, .ref q_2, .ref q_3, .ref q_4, .ref q_5, .ref q_6, .ref q_7, .ref q_8, .ref q_9, .int 0, .ref q_10, .ref q_11])), (q_1, aI E 50 (fun _ => 0)), (q_2, aI E 50 (fun _ => 0)), (q_3, aI E 50 (fun _ => 0)), (q_6, aI E 200 (fun _ => (-5))), (q_8, aI E 51 (fun _ => 0)), (q_9, aI E 50 (fun _ => 0)), (q_10, aI E 50 (fun _ => 0))]) [0, 1, 2, 3, 11, 7, 8, 9] rfl) (hD.sub (ws' := [(h, .inr (1, [.int 0, .ref q_1, .ref q_2, .ref q_3, .ref q_4, .ref q_5, .ref q_6, .ref q_7, .ref q_8, .ref q_9, .int 0, .ref q_10, .ref q_11])), (q_1, aI E 50 (fun _ => 0)), (q_2, aI E 50 (fun _ => 0)), (q_3, aI E 50 (fun _ => 0)), (q_6, aI E 200 (fun _ => (-5))), (q_8, aI E 51 (fun _ => 0)), (q_9, aI E 50 (fun _ => 0)), (q_10, aI E 50 (fun _ => 0))]) [0, 1, 2, 3, 11, 7, 8, 9] (by decide) rfl) hS dX1_init_103 (Nat.le_of_ble_eq_true rfl) (Nat.le_of_ble_eq_true rfl) ⟨q_1, q_2, q_3, q_4, q_5, q_6, q_7, q_8, q_9, q_10, q_11, rfl⟩
