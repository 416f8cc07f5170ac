theorem dX5_init_0 : decode cX5_init 0 = .ok (.aload_n 0, 1) := by decide +kernel
theorem dX5_init_1 : decode cX5_init 1 = .ok (.invokespecial 3, 3) := by decide +kernel
theorem dX5_init_4 : decode cX5_init 4 = .ok (.aload_n 0, 1) := by decide +kernel
theorem dX5_init_5 : decode cX5_init 5 = .ok (.sipush 192, 3) := by decide +kernel
theorem dX5_init_8 : decode cX5_init 8 = .ok (.newarray .int, 2) := by decide +kernel
theorem dX5_init_10 : decode cX5_init 10 = .ok (.putfield 9, 3) := by decide +kernel
theorem dX5_init_13 : decode cX5_init 13 = .ok (.aload_n 0, 1) := by decide +kernel
theorem dX5_init_14 : decode cX5_init 14 = .ok (.bipush 64, 2) := by decide +kernel
theorem dX5_init_16 : decode cX5_init 16 = .ok (.newarray .int, 2) := by decide +kernel
theorem dX5_init_18 : decode cX5_init 18 = .ok (.putfield 15, 3) := by decide +kernel
theorem dX5_init_21 : decode cX5_init 21 = .ok (.aload_n 0, 1) := by decide +kernel
theorem dX5_init_22 : decode cX5_init 22 = .ok (.bipush 8, 2) := by decide +kernel
theorem dX5_init_24 : decode cX5_init 24 = .ok (.newarray .int, 2) := by decide +kernel
theorem dX5_init_26 : decode cX5_init 26 = .ok (.putfield 18, 3) := by decide +kernel
theorem dX5_init_29 : decode cX5_init 29 = .ok (.aload_n 0, 1) := by decide +kernel
theorem dX5_init_30 : decode cX5_init 30 = .ok (.getfield 9, 3) := by decide +kernel
theorem dX5_init_33 : decode cX5_init 33 = .ok (.bipush 10, 2) := by decide +kernel
theorem dX5_init_35 : decode cX5_init 35 = .ok (.invokestatic 21, 3) := by decide +kernel
theorem dX5_init_38 : decode cX5_init 38 = .ok (.aload_n 0, 1) := by decide +kernel
theorem dX5_init_39 : decode cX5_init 39 = .ok (.getfield 15, 3) := by decide +kernel
theorem dX5_init_42 : decode cX5_init 42 = .ok (.iconst 3, 1) := by decide +kernel
theorem dX5_init_43 : decode cX5_init 43 = .ok (.invokestatic 21, 3) := by decide +kernel
theorem dX5_init_46 : decode cX5_init 46 = .ok (.return_, 1) := by decide +kernel
def wo_k_tables : List Cond := [.code yX5_init cX5_init 1 none, .methodLink RX5 3 objectInit, .instanceMethod objectInit, .code objectInit ⟨#[0xb1]⟩ 1 none, .arrayClass .int, .fieldLink RX5 9 "TimingHouse$Tables" "numbers" "[I", .fieldLink RX5 15 "TimingHouse$Tables" "lefts" "[I", .fieldLink RX5 18 "TimingHouse$Tables" "falls" "[I", .methodLink RX5 21 yJ7_fill_53178, .static yJ7_fill_53178, .initialized RJ7]
def wr_k_tables : List Cond := (wsX50 ++ (w_k_fill ++ ([])))
def w_k_tables : List Cond := wo_k_tables ++ wr_k_tables
theorem wg_k_tables : GW w_k_tables := GW_app (GW_of (by decide +kernel)) (GW_app (GW_of (by decide +kernel)) (GW_app (wg_k_fill) (GW_nil)))
theorem i_k_tables_X5 : ∀ w ∈ wsX50, w ∈ w_k_tables := fun _ h => List.mem_append_right _ (List.mem_append_left _ h)
theorem g_k_tables_k_fill_21 : GoodIn w_k_tables (va_wsS RX5 21 yJ7_fill_53178 w_k_fill) := goodIn_app (gi_left (goodIn_of _ (by decide +kernel))) (fun w h => ⟨List.mem_append_right _ (List.mem_append_right _ (List.mem_append_left _ h)), wg_k_fill w h⟩)
set_option maxHeartbeats 4000000 in
set_option maxRecDepth 100000 in
theorem k_tables (l : Launch) (E : gE) (h : Nat) : CtV l E yX5_init w_k_tables ({ frames := 1, cells := 3, slots := 264, locals := 23 }) [(h, .inr (5, [.null, .null, .null, .int 0, .int 0]))] [.ref h] (fun w => ∃ q_numbers : Nat, ∃ q_lefts : Nat, ∃ q_falls : Nat, w = [(h, .inr (5, [.ref q_numbers, .ref q_lefts, .ref q_falls, .int 0, .int 0])), (q_numbers, aI E 192 (fun _ => 10)), (q_lefts, aI E 64 (fun _ => 3)), (q_falls, aI E 8 (fun _ => 0))]) := by
  refine CtV.of (cc := cX5_init) (maxL := 1) (rt := none) (by decide) rfl (Nat.le_of_ble_eq_true rfl) ?_
  intro p e s m below meth c A B ls hl
  obtain ⟨hx, hb, hml, hr, hlk, hin, hts, hown, hK, hN, hZ, hA, hP, hD, hS⟩ := B
  have hown : s.vm.findClass RX5 = some m.cls := hown
  have hto : ∀ w ∈ wo_k_tables, w.before _ s = true := fun w h => hts w (List.mem_append_left _ h)
  have hl : lv_has ls 1 [(0, .ref h)] := hl
  obtain ⟨H, hHe⟩ : ∃ H, H = s.heap := ⟨_, rfl⟩
  have hS : va_S A s.heap H [] := by rw [hHe]; exact hS
  have hP : va_P E.1 vwCl [(h, .inr (5, [.null, .null, .null, .int 0, .int 0]))] H := by rw [hHe]; exact hP
  refine W_heap hHe ?_
  have hin : meth.name = "<init>" := hin
  refine lv_aload_n hx hb dX5_init_0 rfl (lv_at hl 0 rfl) ?_
  refine W.objInit hx hb hown (hto (.methodLink RX5 3 objectInit) (by decide +kernel)) (hto (.instanceMethod objectInit) (by decide +kernel)) (hto (.code objectInit ⟨#[0xb1]⟩ 1 none) (by decide +kernel)) rfl (by rw [hml]; exact hl.1) rfl dX5_init_1 (Nat.le_of_ble_eq_true rfl) (Nat.le_of_ble_eq_true rfl) ?_
  refine W.eq (g2 := F0 m 4 ls []) rfl ?_
  refine lv_aload_n hx hb dX5_init_4 rfl (lv_at hl 0 rfl) ?_
  refine lv_sipush (v := 192) hx hb dX5_init_5 (by decide) ?_
  refine nw_int (N' := 192) (A := A) (E := E) hx hb (hto (.arrayClass .int) (by decide +kernel)) hK hP hD hS hA (by decide) (by decide) (Nat.le_of_ble_eq_true rfl) (Nat.le_of_ble_eq_true rfl) dX5_init_8 (fun q_1 H hP hD hS => ?_)
  have hP : va_P E.1 vwCl [(h, .inr (5, [.null, .null, .null, .int 0, .int 0])), (q_1, aI E 192 (fun _ => 0))] H := hP
  have hD : va_D A [(h, .inr (5, [.null, .null, .null, .int 0, .int 0])), (q_1, aI E 192 (fun _ => 0))] := hD
  refine va_putF (D := E.1) (ci := 5) (v := .ref q_1) (ty := .array .int) (own := RX5) (C := RX5) (T := TX5) (N := 5) hx hb hts i_k_tables_X5 tyX5 tyX5_ok nmX5 hown hK hP hD hS 0 rfl rfl 0 (by decide) (hto (.fieldLink RX5 9 "TimingHouse$Tables" "numbers" "[I") (by decide +kernel)) (fun _ h9 => h9) rfl hin rfl (by decide +kernel) rfl rfl (Nat.le_of_ble_eq_true rfl) dX5_init_10 (fun H locs hP hD hS => ?_)
  have hP : va_P E.1 vwCl [(h, .inr (5, [.ref q_1, .null, .null, .int 0, .int 0])), (q_1, aI E 192 (fun _ => 0))] H := hP
  have hD : va_D A [(h, .inr (5, [.ref q_1, .null, .null, .int 0, .int 0])), (q_1, aI E 192 (fun _ => 0))] := hD
  refine lv_aload_n hx hb dX5_init_13 rfl (lv_at hl 0 rfl) ?_
  refine lv_bipush (v := 64) hx hb dX5_init_14 (by decide) ?_
  refine nw_int (N' := 64) (A := A) (E := E) hx hb (hto (.arrayClass .int) (by decide +kernel)) hK hP hD hS hA (by decide) (by decide) (Nat.le_of_ble_eq_true rfl) (Nat.le_of_ble_eq_true rfl) dX5_init_16 (fun q_2 H hP hD hS => ?_)
  have hP : va_P E.1 vwCl [(h, .inr (5, [.ref q_1, .null, .null, .int 0, .int 0])), (q_1, aI E 192 (fun _ => 0)), (q_2, aI E 64 (fun _ => 0))] H := hP
  have hD : va_D A [(h, .inr (5, [.ref q_1, .null, .null, .int 0, .int 0])), (q_1, aI E 192 (fun _ => 0)), (q_2, aI E 64 (fun _ => 0))] := hD
  refine va_putF (D := E.1) (ci := 5) (v := .ref q_2) (ty := .array .int) (own := RX5) (C := RX5) (T := TX5) (N := 5) hx hb hts i_k_tables_X5 tyX5 tyX5_ok nmX5 hown hK hP hD hS 0 rfl rfl 1 (by decide) (hto (.fieldLink RX5 15 "TimingHouse$Tables" "lefts" "[I") (by decide +kernel)) (fun _ h9 => h9) rfl hin rfl (by decide +kernel) rfl rfl (Nat.le_of_ble_eq_true rfl) dX5_init_18 (fun H locs hP hD hS => ?_)
  have hP : va_P E.1 vwCl [(h, .inr (5, [.ref q_1, .ref q_2, .null, .int 0, .int 0])), (q_1, aI E 192 (fun _ => 0)), (q_2, aI E 64 (fun _ => 0))] H := hP
  have hD : va_D A [(h, .inr (5, [.ref q_1, .ref q_2, .null, .int 0, .int 0])), (q_1, aI E 192 (fun _ => 0)), (q_2, aI E 64 (fun _ => 0))] := hD
  refine lv_aload_n hx hb dX5_init_21 rfl (lv_at hl 0 rfl) ?_
  refine lv_bipush (v := 8) hx hb dX5_init_22 (by decide) ?_
  refine nw_int (N' := 8) (A := A) (E := E) hx hb (hto (.arrayClass .int) (by decide +kernel)) hK hP hD hS hA (by decide) (by decide) (Nat.le_of_ble_eq_true rfl) (Nat.le_of_ble_eq_true rfl) dX5_init_24 (fun q_3 H hP hD hS => ?_)
  have hP : va_P E.1 vwCl [(h, .inr (5, [.ref q_1, .ref q_2, .null, .int 0, .int 0])), (q_1, aI E 192 (fun _ => 0)), (q_2, aI E 64 (fun _ => 0)), (q_3, aI E 8 (fun _ => 0))] H := hP
  have hD : va_D A [(h, .inr (5, [.ref q_1, .ref q_2, .null, .int 0, .int 0])), (q_1, aI E 192 (fun _ => 0)), (q_2, aI E 64 (fun _ => 0)), (q_3, aI E 8 (fun _ => 0))] := hD
  refine va_putF (D := E.1) (ci := 5) (v := .ref q_3) (ty := .array .int) (own := RX5) (C := RX5) (T := TX5) (N := 5) hx hb hts i_k_tables_X5 tyX5 tyX5_ok nmX5 hown hK hP hD hS 0 rfl rfl 2 (by decide) (hto (.fieldLink RX5 18 "TimingHouse$Tables" "falls" "[I") (by decide +kernel)) (fun _ h9 => h9) rfl hin rfl (by decide +kernel) rfl rfl (Nat.le_of_ble_eq_true rfl) dX5_init_26 (fun H locs hP hD hS => ?_)
  have hP : va_P E.1 vwCl [(h, .inr (5, [.ref q_1, .ref q_2, .ref q_3, .int 0, .int 0])), (q_1, aI E 192 (fun _ => 0)), (q_2, aI E 64 (fun _ => 0)), (q_3, aI E 8 (fun _ => 0))] H := hP
  have hD : va_D A [(h, .inr (5, [.ref q_1, .ref q_2, .ref q_3, .int 0, .int 0])), (q_1, aI E 192 (fun _ => 0)), (q_2, aI E 64 (fun _ => 0)), (q_3, aI E 8 (fun _ => 0))] := hD
  refine lv_aload_n hx hb dX5_init_29 rfl (lv_at hl 0 rfl) ?_
  refine va_get (D := E.1) (ci := 5) (v := .ref q_1) (own := RX5) (C := RX5) (T := TX5) (N := 5) hx hb hts i_k_tables_X5 hown hK hP 0 rfl rfl 0 (by decide) (hto (.fieldLink RX5 9 "TimingHouse$Tables" "numbers" "[I") (by decide +kernel)) (fun _ h9 => h9) rfl dX5_init_30 ?_
  refine lv_bipush (v := 10) hx hb dX5_init_33 (by decide) ?_
  refine call_v (va_runS (As := [.ref q_1, .int 10]) (rest := []) ⟨hx, hb, hml, hown, hts⟩ (k_fill l E q_1 192 (fun _ => 0) 10 (by decide) H.size) (va_cwS 2 hts g_k_tables_k_fill_21 rfl rfl rfl (by decide +kernel) ⟨Nat.le_of_ble_eq_true rfl, Nat.le_of_ble_eq_true rfl⟩) (pre_S hK hN hZ hS (va_free hD hS hA [1] rfl) (hP.sub (ws' := [(q_1, aI E 192 (fun _ => 0))]) [1] rfl) (hD.sub (ws' := [(q_1, aI E 192 (fun _ => 0))]) [1] (by decide) rfl)) rfl rfl hl.1 rfl (lv_room (Nat.le_of_ble_eq_true rfl)) dX5_init_35 ⟨Nat.le_of_ble_eq_true rfl, Nat.le_of_ble_eq_true rfl⟩) hP hD hS hA [1] [0, 2, 3] (wr := [(h, .inr (5, [.ref q_1, .ref q_2, .ref q_3, .int 0, .int 0])), (q_2, aI E 64 (fun _ => 0)), (q_3, aI E 8 (fun _ => 0))]) rfl rfl (by decide) (by decide) (fun w H locs hw hP hD hS => ?_)
  obtain rfl := hw
  have hP : va_P E.1 vwCl [(h, .inr (5, [.ref q_1, .ref q_2, .ref q_3, .int 0, .int 0])), (q_2, aI E 64 (fun _ => 0)), (q_3, aI E 8 (fun _ => 0)), (q_1, aI E 192 (fun _ => 10))] H := hP
  have hD : va_D A [(h, .inr (5, [.ref q_1, .ref q_2, .ref q_3, .int 0, .int 0])), (q_2, aI E 64 (fun _ => 0)), (q_3, aI E 8 (fun _ => 0)), (q_1, aI E 192 (fun _ => 10))] := hD
  refine lv_aload_n hx hb dX5_init_38 rfl (lv_at hl 0 rfl) ?_
  refine va_get (D := E.1) (ci := 5) (v := .ref q_2) (own := RX5) (C := RX5) (T := TX5) (N := 5) hx hb hts i_k_tables_X5 hown hK hP 0 rfl rfl 1 (by decide) (hto (.fieldLink RX5 15 "TimingHouse$Tables" "lefts" "[I") (by decide +kernel)) (fun _ h9 => h9) rfl dX5_init_39 ?_
  refine lv_iconst (v := 3) hx hb dX5_init_42 (by decide) ?_
  refine call_v (va_runS (As := [.ref q_2, .int 3]) (rest := []) ⟨hx, hb, hml, hown, hts⟩ (k_fill l E q_2 64 (fun _ => 0) 3 (by decide) H.size) (va_cwS 2 hts g_k_tables_k_fill_21 rfl rfl rfl (by decide +kernel) ⟨Nat.le_of_ble_eq_true rfl, Nat.le_of_ble_eq_true rfl⟩) (pre_S hK hN hZ hS (va_free hD hS hA [1] rfl) (hP.sub (ws' := [(q_2, aI E 64 (fun _ => 0))]) [1] rfl) (hD.sub (ws' := [(q_2, aI E 64 (fun _ => 0))]) [1] (by decide) rfl)) rfl rfl hl.1 rfl (lv_room (Nat.le_of_ble_eq_true rfl)) dX5_init_43 ⟨Nat.le_of_ble_eq_true rfl, Nat.le_of_ble_eq_true rfl⟩) hP hD hS hA [1] [0, 2, 3] (wr := [(h, .inr (5, [.ref q_1, .ref q_2, .ref q_3, .int 0, .int 0])), (q_3, aI E 8 (fun _ => 0)), (q_1, aI E 192 (fun _ => 10))]) rfl rfl (by decide) (by decide) (fun w H locs hw hP hD hS => ?_)
  obtain rfl := hw
  have hP : va_P E.1 vwCl [(h, .inr (5, [.ref q_1, .ref q_2, .ref q_3, .int 0, .int 0])), (q_3, aI E 8 (fun _ => 0)), (q_1, aI E 192 (fun _ => 10)), (q_2, aI E 64 (fun _ => 3))] H := hP
  have hD : va_D A [(h, .inr (5, [.ref q_1, .ref q_2, .ref q_3, .int 0, .int 0])), (q_3, aI E 8 (fun _ => 0)), (q_1, aI E 192 (fun _ => 10)), (q_2, aI E 64 (fun _ => 3))] := hD
  exact ret_v hx hb hr hlk (hP.sub (ws' := [(h, .inr (5, [.ref q_1, .ref q_2, .ref q_3, .int 0, .int 0])), (q_1, aI E 192 (fun _ => 10)), (q_2, aI E 64 (fun _ => 3)), (q_3, aI E 8 (fun _ => 0))]) [0, 2, 3, 1] rfl) (hD.sub (ws' := [(h, .inr (5, [.ref q_1, .ref q_2, .ref q_3, .int 0, .int 0])), (q_1, aI E 192 (fun _ => 10)), (q_2, aI E 64 (fun _ => 3)), (q_3, aI E 8 (fun _ => 0))]) [0, 2, 3, 1] (by decide) rfl) hS dX5_init_46 (Nat.le_of_ble_eq_true rfl) (Nat.le_of_ble_eq_true rfl) ⟨q_1, q_2, q_3, rfl⟩
