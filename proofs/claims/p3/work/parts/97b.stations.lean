theorem dX4_init_0 : decode cX4_init 0 = .ok (.aload_n 0, 1) := by decide +kernel
theorem dX4_init_1 : decode cX4_init 1 = .ok (.invokespecial 3, 3) := by decide +kernel
theorem dX4_init_4 : decode cX4_init 4 = .ok (.aload_n 0, 1) := by decide +kernel
theorem dX4_init_5 : decode cX4_init 5 = .ok (.bipush 50, 2) := by decide +kernel
theorem dX4_init_7 : decode cX4_init 7 = .ok (.newarray .int, 2) := by decide +kernel
theorem dX4_init_9 : decode cX4_init 9 = .ok (.putfield 9, 3) := by decide +kernel
theorem dX4_init_12 : decode cX4_init 12 = .ok (.aload_n 0, 1) := by decide +kernel
theorem dX4_init_13 : decode cX4_init 13 = .ok (.bipush 50, 2) := by decide +kernel
theorem dX4_init_15 : decode cX4_init 15 = .ok (.newarray .int, 2) := by decide +kernel
theorem dX4_init_17 : decode cX4_init 17 = .ok (.putfield 15, 3) := by decide +kernel
theorem dX4_init_20 : decode cX4_init 20 = .ok (.aload_n 0, 1) := by decide +kernel
theorem dX4_init_21 : decode cX4_init 21 = .ok (.bipush 50, 2) := by decide +kernel
theorem dX4_init_23 : decode cX4_init 23 = .ok (.newarray .int, 2) := by decide +kernel
theorem dX4_init_25 : decode cX4_init 25 = .ok (.putfield 18, 3) := by decide +kernel
theorem dX4_init_28 : decode cX4_init 28 = .ok (.aload_n 0, 1) := by decide +kernel
theorem dX4_init_29 : decode cX4_init 29 = .ok (.bipush 50, 2) := by decide +kernel
theorem dX4_init_31 : decode cX4_init 31 = .ok (.newarray .int, 2) := by decide +kernel
theorem dX4_init_33 : decode cX4_init 33 = .ok (.putfield 21, 3) := by decide +kernel
theorem dX4_init_36 : decode cX4_init 36 = .ok (.aload_n 0, 1) := by decide +kernel
theorem dX4_init_37 : decode cX4_init 37 = .ok (.bipush 50, 2) := by decide +kernel
theorem dX4_init_39 : decode cX4_init 39 = .ok (.newarray .int, 2) := by decide +kernel
theorem dX4_init_41 : decode cX4_init 41 = .ok (.putfield 24, 3) := by decide +kernel
theorem dX4_init_44 : decode cX4_init 44 = .ok (.aload_n 0, 1) := by decide +kernel
theorem dX4_init_45 : decode cX4_init 45 = .ok (.bipush 50, 2) := by decide +kernel
theorem dX4_init_47 : decode cX4_init 47 = .ok (.newarray .int, 2) := by decide +kernel
theorem dX4_init_49 : decode cX4_init 49 = .ok (.putfield 27, 3) := by decide +kernel
theorem dX4_init_52 : decode cX4_init 52 = .ok (.aload_n 0, 1) := by decide +kernel
theorem dX4_init_53 : decode cX4_init 53 = .ok (.getfield 21, 3) := by decide +kernel
theorem dX4_init_56 : decode cX4_init 56 = .ok (.iconst (-1), 1) := by decide +kernel
theorem dX4_init_57 : decode cX4_init 57 = .ok (.invokestatic 30, 3) := by decide +kernel
theorem dX4_init_60 : decode cX4_init 60 = .ok (.return_, 1) := by decide +kernel
def wo_k_stations : List Cond := [.code yX4_init cX4_init 1 none, .methodLink RX4 3 objectInit, .instanceMethod objectInit, .code objectInit ⟨#[0xb1]⟩ 1 none, .arrayClass .int, .fieldLink RX4 9 "TimingHouse$Stations" "earlies" "[I", .fieldLink RX4 15 "TimingHouse$Stations" "lates" "[I", .fieldLink RX4 18 "TimingHouse$Stations" "slopes" "[I", .fieldLink RX4 21 "TimingHouse$Stations" "nodes" "[I", .fieldLink RX4 24 "TimingHouse$Stations" "setups" "[I", .fieldLink RX4 27 "TimingHouse$Stations" "holds" "[I", .methodLink RX4 30 yJ7_fill_53178, .static yJ7_fill_53178, .initialized RJ7]
def wr_k_stations : List Cond := (wsX40 ++ (w_k_fill ++ ([])))
def w_k_stations : List Cond := wo_k_stations ++ wr_k_stations
theorem wg_k_stations : GW w_k_stations := GW_app (GW_of (by decide +kernel)) (GW_app (GW_of (by decide +kernel)) (GW_app (wg_k_fill) (GW_nil)))
theorem i_k_stations_X4 : ∀ w ∈ wsX40, w ∈ w_k_stations := fun _ h => List.mem_append_right _ (List.mem_append_left _ h)
theorem g_k_stations_k_fill_30 : GoodIn w_k_stations (va_wsS RX4 30 yJ7_fill_53178 w_k_fill) := goodIn_app (gi_left (goodIn_of _ (by decide +kernel))) (fun w h => ⟨List.mem_append_right _ (List.mem_append_right _ (List.mem_append_left _ h)), wg_k_fill w h⟩)
set_option maxHeartbeats 4000000 in
set_option maxRecDepth 100000 in
theorem k_stations (l : Launch) (E : gE) (h : Nat) : CtV l E yX4_init w_k_stations ({ frames := 1, cells := 6, slots := 300, locals := 23 }) [(h, .inr (4, [.null, .null, .null, .null, .null, .null]))] [.ref h] (fun w => ∃ q_earlies : Nat, ∃ q_lates : Nat, ∃ q_slopes : Nat, ∃ q_nodes : Nat, ∃ q_setups : Nat, ∃ q_holds : Nat, w = [(h, .inr (4, [.ref q_earlies, .ref q_lates, .ref q_slopes, .ref q_nodes, .ref q_setups, .ref q_holds])), (q_earlies, aI E 50 (fun _ => 0)), (q_lates, aI E 50 (fun _ => 0)), (q_slopes, aI E 50 (fun _ => 0)), (q_nodes, aI E 50 (fun _ => (-1))), (q_setups, aI E 50 (fun _ => 0)), (q_holds, aI E 50 (fun _ => 0))]) := by
  refine CtV.of (cc := cX4_init) (maxL := 1) (rt := none) (by decide) rfl (Nat.le_of_ble_eq_true rfl) ?_
  intro p e s m below meth c A B ls hl
  obtain ⟨hx, hb, hml, hr, hlk, hin, hts, hown, hK, hN, hZ, hA, hP, hD, hS⟩ := B
  have hown : s.vm.findClass RX4 = some m.cls := hown
  have hto : ∀ w ∈ wo_k_stations, w.before _ s = true := fun w h => hts w (List.mem_append_left _ h)
  have hl : lv_has ls 1 [(0, .ref h)] := hl
  obtain ⟨H, hHe⟩ : ∃ H, H = s.heap := ⟨_, rfl⟩
  have hS : va_S A s.heap H [] := by rw [hHe]; exact hS
  have hP : va_P E.1 vwCl [(h, .inr (4, [.null, .null, .null, .null, .null, .null]))] H := by rw [hHe]; exact hP
  refine W_heap hHe ?_
  have hin : meth.name = "<init>" := hin
  refine lv_aload_n hx hb dX4_init_0 rfl (lv_at hl 0 rfl) ?_
  refine W.objInit hx hb hown (hto (.methodLink RX4 3 objectInit) (by decide +kernel)) (hto (.instanceMethod objectInit) (by decide +kernel)) (hto (.code objectInit ⟨#[0xb1]⟩ 1 none) (by decide +kernel)) rfl (by rw [hml]; exact hl.1) rfl dX4_init_1 (Nat.le_of_ble_eq_true rfl) (Nat.le_of_ble_eq_true rfl) ?_
  refine W.eq (g2 := F0 m 4 ls []) rfl ?_
  refine lv_aload_n hx hb dX4_init_4 rfl (lv_at hl 0 rfl) ?_
  refine lv_bipush (v := 50) hx hb dX4_init_5 (by decide) ?_
  refine nw_int (N' := 50) (A := A) (E := E) hx hb (hto (.arrayClass .int) (by decide +kernel)) hK hP hD hS hA (by decide) (by decide) (Nat.le_of_ble_eq_true rfl) (Nat.le_of_ble_eq_true rfl) dX4_init_7 (fun q_1 H hP hD hS => ?_)
  have hP : va_P E.1 vwCl [(h, .inr (4, [.null, .null, .null, .null, .null, .null])), (q_1, aI E 50 (fun _ => 0))] H := hP
  have hD : va_D A [(h, .inr (4, [.null, .null, .null, .null, .null, .null])), (q_1, aI E 50 (fun _ => 0))] := hD
  refine va_putF (D := E.1) (ci := 4) (v := .ref q_1) (ty := .array .int) (own := RX4) (C := RX4) (T := TX4) (N := 6) hx hb hts i_k_stations_X4 tyX4 tyX4_ok nmX4 hown hK hP hD hS 0 rfl rfl 0 (by decide) (hto (.fieldLink RX4 9 "TimingHouse$Stations" "earlies" "[I") (by decide +kernel)) (fun _ h9 => h9) rfl hin rfl (by decide +kernel) rfl rfl (Nat.le_of_ble_eq_true rfl) dX4_init_9 (fun H locs hP hD hS => ?_)
  have hP : va_P E.1 vwCl [(h, .inr (4, [.ref q_1, .null, .null, .null, .null, .null])), (q_1, aI E 50 (fun _ => 0))] H := hP
  have hD : va_D A [(h, .inr (4, [.ref q_1, .null, .null, .null, .null, .null])), (q_1, aI E 50 (fun _ => 0))] := hD
  refine lv_aload_n hx hb dX4_init_12 rfl (lv_at hl 0 rfl) ?_
  refine lv_bipush (v := 50) hx hb dX4_init_13 (by decide) ?_
  refine nw_int (N' := 50) (A := A) (E := E) hx hb (hto (.arrayClass .int) (by decide +kernel)) hK hP hD hS hA (by decide) (by decide) (Nat.le_of_ble_eq_true rfl) (Nat.le_of_ble_eq_true rfl) dX4_init_15 (fun q_2 H hP hD hS => ?_)
  have hP : va_P E.1 vwCl [(h, .inr (4, [.ref q_1, .null, .null, .null, .null, .null])), (q_1, aI E 50 (fun _ => 0)), (q_2, aI E 50 (fun _ => 0))] H := hP
  have hD : va_D A [(h, .inr (4, [.ref q_1, .null, .null, .null, .null, .null])), (q_1, aI E 50 (fun _ => 0)), (q_2, aI E 50 (fun _ => 0))] := hD
  refine va_putF (D := E.1) (ci := 4) (v := .ref q_2) (ty := .array .int) (own := RX4) (C := RX4) (T := TX4) (N := 6) hx hb hts i_k_stations_X4 tyX4 tyX4_ok nmX4 hown hK hP hD hS 0 rfl rfl 1 (by decide) (hto (.fieldLink RX4 15 "TimingHouse$Stations" "lates" "[I") (by decide +kernel)) (fun _ h9 => h9) rfl hin rfl (by decide +kernel) rfl rfl (Nat.le_of_ble_eq_true rfl) dX4_init_17 (fun H locs hP hD hS => ?_)
  have hP : va_P E.1 vwCl [(h, .inr (4, [.ref q_1, .ref q_2, .null, .null, .null, .null])), (q_1, aI E 50 (fun _ => 0)), (q_2, aI E 50 (fun _ => 0))] H := hP
  have hD : va_D A [(h, .inr (4, [.ref q_1, .ref q_2, .null, .null, .null, .null])), (q_1, aI E 50 (fun _ => 0)), (q_2, aI E 50 (fun _ => 0))] := hD
  refine lv_aload_n hx hb dX4_init_20 rfl (lv_at hl 0 rfl) ?_
  refine lv_bipush (v := 50) hx hb dX4_init_21 (by decide) ?_
  refine nw_int (N' := 50) (A := A) (E := E) hx hb (hto (.arrayClass .int) (by decide +kernel)) hK hP hD hS hA (by decide) (by decide) (Nat.le_of_ble_eq_true rfl) (Nat.le_of_ble_eq_true rfl) dX4_init_23 (fun q_3 H hP hD hS => ?_)
  have hP : va_P E.1 vwCl [(h, .inr (4, [.ref q_1, .ref q_2, .null, .null, .null, .null])), (q_1, aI E 50 (fun _ => 0)), (q_2, aI E 50 (fun _ => 0)), (q_3, aI E 50 (fun _ => 0))] H := hP
  have hD : va_D A [(h, .inr (4, [.ref q_1, .ref q_2, .null, .null, .null, .null])), (q_1, aI E 50 (fun _ => 0)), (q_2, aI E 50 (fun _ => 0)), (q_3, aI E 50 (fun _ => 0))] := hD
  refine va_putF (D := E.1) (ci := 4) (v := .ref q_3) (ty := .array .int) (own := RX4) (C := RX4) (T := TX4) (N := 6) hx hb hts i_k_stations_X4 tyX4 tyX4_ok nmX4 hown hK hP hD hS 0 rfl rfl 2 (by decide) (hto (.fieldLink RX4 18 "TimingHouse$Stations" "slopes" "[I") (by decide +kernel)) (fun _ h9 => h9) rfl hin rfl (by decide +kernel) rfl rfl (Nat.le_of_ble_eq_true rfl) dX4_init_25 (fun H locs hP hD hS => ?_)
  have hP : va_P E.1 vwCl [(h, .inr (4, [.ref q_1, .ref q_2, .ref q_3, .null, .null, .null])), (q_1, aI E 50 (fun _ => 0)), (q_2, aI E 50 (fun _ => 0)), (q_3, aI E 50 (fun _ => 0))] H := hP
  have hD : va_D A [(h, .inr (4, [.ref q_1, .ref q_2, .ref q_3, .null, .null, .null])), (q_1, aI E 50 (fun _ => 0)), (q_2, aI E 50 (fun _ => 0)), (q_3, aI E 50 (fun _ => 0))] := hD
  refine lv_aload_n hx hb dX4_init_28 rfl (lv_at hl 0 rfl) ?_
  refine lv_bipush (v := 50) hx hb dX4_init_29 (by decide) ?_
  refine nw_int (N' := 50) (A := A) (E := E) hx hb (hto (.arrayClass .int) (by decide +kernel)) hK hP hD hS hA (by decide) (by decide) (Nat.le_of_ble_eq_true rfl) (Nat.le_of_ble_eq_true rfl) dX4_init_31 (fun q_4 H hP hD hS => ?_)
  have hP : va_P E.1 vwCl [(h, .inr (4, [.ref q_1, .ref q_2, .ref q_3, .null, .null, .null])), (q_1, aI E 50 (fun _ => 0)), (q_2, aI E 50 (fun _ => 0)), (q_3, aI E 50 (fun _ => 0)), (q_4, aI E 50 (fun _ => 0))] H := hP
  have hD : va_D A [(h, .inr (4, [.ref q_1, .ref q_2, .ref q_3, .null, .null, .null])), (q_1, aI E 50 (fun _ => 0)), (q_2, aI E 50 (fun _ => 0)), (q_3, aI E 50 (fun _ => 0)), (q_4, aI E 50 (fun _ => 0))] := hD
  refine va_putF (D := E.1) (ci := 4) (v := .ref q_4) (ty := .array .int) (own := RX4) (C := RX4) (T := TX4) (N := 6) hx hb hts i_k_stations_X4 tyX4 tyX4_ok nmX4 hown hK hP hD hS 0 rfl rfl 3 (by decide) (hto (.fieldLink RX4 21 "TimingHouse$Stations" "nodes" "[I") (by decide +kernel)) (fun _ h9 => h9) rfl hin rfl (by decide +kernel) rfl rfl (Nat.le_of_ble_eq_true rfl) dX4_init_33 (fun H locs hP hD hS => ?_)
  have hP : va_P E.1 vwCl [(h, .inr (4, [.ref q_1, .ref q_2, .ref q_3, .ref q_4, .null, .null])), (q_1, aI E 50 (fun _ => 0)), (q_2, aI E 50 (fun _ => 0)), (q_3, aI E 50 (fun _ => 0)), (q_4, aI E 50 (fun _ => 0))] H := hP
  have hD : va_D A [(h, .inr (4, [.ref q_1, .ref q_2, .ref q_3, .ref q_4, .null, .null])), (q_1, aI E 50 (fun _ => 0)), (q_2, aI E 50 (fun _ => 0)), (q_3, aI E 50 (fun _ => 0)), (q_4, aI E 50 (fun _ => 0))] := hD
  refine lv_aload_n hx hb dX4_init_36 rfl (lv_at hl 0 rfl) ?_
  refine lv_bipush (v := 50) hx hb dX4_init_37 (by decide) ?_
  refine nw_int (N' := 50) (A := A) (E := E) hx hb (hto (.arrayClass .int) (by decide +kernel)) hK hP hD hS hA (by decide) (by decide) (Nat.le_of_ble_eq_true rfl) (Nat.le_of_ble_eq_true rfl) dX4_init_39 (fun q_5 H hP hD hS => ?_)
  have hP : va_P E.1 vwCl [(h, .inr (4, [.ref q_1, .ref q_2, .ref q_3, .ref q_4, .null, .null])), (q_1, aI E 50 (fun _ => 0)), (q_2, aI E 50 (fun _ => 0)), (q_3, aI E 50 (fun _ => 0)), (q_4, aI E 50 (fun _ => 0)), (q_5, aI E 50 (fun _ => 0))] H := hP
  have hD : va_D A [(h, .inr (4, [.ref q_1, .ref q_2, .ref q_3, .ref q_4, .null, .null])), (q_1, aI E 50 (fun _ => 0)), (q_2, aI E 50 (fun _ => 0)), (q_3, aI E 50 (fun _ => 0)), (q_4, aI E 50 (fun _ => 0)), (q_5, aI E 50 (fun _ => 0))] := hD
  refine va_putF (D := E.1) (ci := 4) (v := .ref q_5) (ty := .array .int) (own := RX4) (C := RX4) (T := TX4) (N := 6) hx hb hts i_k_stations_X4 tyX4 tyX4_ok nmX4 hown hK hP hD hS 0 rfl rfl 4 (by decide) (hto (.fieldLink RX4 24 "TimingHouse$Stations" "setups" "[I") (by decide +kernel)) (fun _ h9 => h9) rfl hin rfl (by decide +kernel) rfl rfl (Nat.le_of_ble_eq_true rfl) dX4_init_41 (fun H locs hP hD hS => ?_)
  have hP : va_P E.1 vwCl [(h, .inr (4, [.ref q_1, .ref q_2, .ref q_3, .ref q_4, .ref q_5, .null])), (q_1, aI E 50 (fun _ => 0)), (q_2, aI E 50 (fun _ => 0)), (q_3, aI E 50 (fun _ => 0)), (q_4, aI E 50 (fun _ => 0)), (q_5, aI E 50 (fun _ => 0))] H := hP
  have hD : va_D A [(h, .inr (4, [.ref q_1, .ref q_2, .ref q_3, .ref q_4, .ref q_5, .null])), (q_1, aI E 50 (fun _ => 0)), (q_2, aI E 50 (fun _ => 0)), (q_3, aI E 50 (fun _ => 0)), (q_4, aI E 50 (fun _ => 0)), (q_5, aI E 50 (fun _ => 0))] := hD
  refine lv_aload_n hx hb dX4_init_44 rfl (lv_at hl 0 rfl) ?_
  refine lv_bipush (v := 50) hx hb dX4_init_45 (by decide) ?_
  refine nw_int (N' := 50) (A := A) (E := E) hx hb (hto (.arrayClass .int) (by decide +kernel)) hK hP hD hS hA (by decide) (by decide) (Nat.le_of_ble_eq_true rfl) (Nat.le_of_ble_eq_true rfl) dX4_init_47 (fun q_6 H hP hD hS => ?_)
  have hP : va_P E.1 vwCl [(h, .inr (4, [.ref q_1, .ref q_2, .ref q_3, .ref q_4, .ref q_5, .null])), (q_1, aI E 50 (fun _ => 0)), (q_2, aI E 50 (fun _ => 0)), (q_3, aI E 50 (fun _ => 0)), (q_4, aI E 50 (fun _ => 0)), (q_5, aI E 50 (fun _ => 0)), (q_6, aI E 50 (fun _ => 0))] H := hP
  have hD : va_D A [(h, .inr (4, [.ref q_1, .ref q_2, .ref q_3, .ref q_4, .ref q_5, .null])), (q_1, aI E 50 (fun _ => 0)), (q_2, aI E 50 (fun _ => 0)), (q_3, aI E 50 (fun _ => 0)), (q_4, aI E 50 (fun _ => 0)), (q_5, aI E 50 (fun _ => 0)), (q_6, aI E 50 (fun _ => 0))] := hD
  refine va_putF (D := E.1) (ci := 4) (v := .ref q_6) (ty := .array .int) (own := RX4) (C := RX4) (T := TX4) (N := 6) hx hb hts i_k_stations_X4 tyX4 tyX4_ok nmX4 hown hK hP hD hS 0 rfl rfl 5 (by decide) (hto (.fieldLink RX4 27 "TimingHouse$Stations" "holds" "[I") (by decide +kernel)) (fun _ h9 => h9) rfl hin rfl (by decide +kernel) rfl rfl (Nat.le_of_ble_eq_true rfl) dX4_init_49 (fun H locs hP hD hS => ?_)
  have hP : va_P E.1 vwCl [(h, .inr (4, [.ref q_1, .ref q_2, .ref q_3, .ref q_4, .ref q_5, .ref q_6])), (q_1, aI E 50 (fun _ => 0)), (q_2, aI E 50 (fun _ => 0)), (q_3, aI E 50 (fun _ => 0)), (q_4, aI E 50 (fun _ => 0)), (q_5, aI E 50 (fun _ => 0)), (q_6, aI E 50 (fun _ => 0))] H := hP
  have hD : va_D A [(h, .inr (4, [.ref q_1, .ref q_2, .ref q_3, .ref q_4, .ref q_5, .ref q_6])), (q_1, aI E 50 (fun _ => 0)), (q_2, aI E 50 (fun _ => 0)), (q_3, aI E 50 (fun _ => 0)), (q_4, aI E 50 (fun _ => 0)), (q_5, aI E 50 (fun _ => 0)), (q_6, aI E 50 (fun _ => 0))] := hD
  refine lv_aload_n hx hb dX4_init_52 rfl (lv_at hl 0 rfl) ?_
  refine va_get (D := E.1) (ci := 4) (v := .ref q_4) (own := RX4) (C := RX4) (T := TX4) (N := 6) hx hb hts i_k_stations_X4 hown hK hP 0 rfl rfl 3 (by decide) (hto (.fieldLink RX4 21 "TimingHouse$Stations" "nodes" "[I") (by decide +kernel)) (fun _ h9 => h9) rfl dX4_init_53 ?_
  refine lv_iconst (v := (-1)) hx hb dX4_init_56 (by decide) ?_
  refine call_v (va_runS (As := [.ref q_4, .int (-1)]) (rest := []) ⟨hx, hb, hml, hown, hts⟩ (k_fill l E q_4 50 (fun _ => 0) (-1) (by decide) H.size) (va_cwS 2 hts g_k_stations_k_fill_30 rfl rfl rfl (by decide +kernel) ⟨Nat.le_of_ble_eq_true rfl, Nat.le_of_ble_eq_true rfl⟩) (pre_S hK hN hZ hS (va_free hD hS hA [4] rfl) (hP.sub (ws' := [(q_4, aI E 50 (fun _ => 0))]) [4] rfl) (hD.sub (ws' := [(q_4, aI E 50 (fun _ => 0))]) [4] (by decide) rfl)) rfl rfl hl.1 rfl (lv_room (Nat.le_of_ble_eq_true rfl)) dX4_init_57 ⟨Nat.le_of_ble_eq_true rfl, Nat.le_of_ble_eq_true rfl⟩) hP hD hS hA [4] [0, 1, 2, 3, 5, 6] (wr := [(h, .inr (4, [.ref q_1, .ref q_2, .ref q_3, .ref q_4, .ref q_5, .ref q_6])), (q_1, aI E 50 (fun _ => 0)), (q_2, aI E 50 (fun _ => 0)), (q_3, aI E 50 (fun _ => 0)), (q_5, aI E 50 (fun _ => 0)), (q_6, aI E 50 (fun _ => 0))]) rfl rfl (by decide) (by decide) (fun w H locs hw hP hD hS => ?_)
  obtain rfl := hw
  have hP : va_P E.1 vwCl [(h, .inr (4, [.ref q_1, .ref q_2, .ref q_3, .ref q_4, .ref q_5, .ref q_6])), (q_1, aI E 50 (fun _ => 0)), (q_2, aI E 50 (fun _ => 0)), (q_3, aI E 50 (fun _ => 0)), (q_5, aI E 50 (fun _ => 0)), (q_6, aI E 50 (fun _ => 0)), (q_4, aI E 50 (fun _ => (-1)))] H := hP
  have hD : va_D A [(h, .inr (4, [.ref q_1, .ref q_2, .ref q_3, .ref q_4, .ref q_5, .ref q_6])), (q_1, aI E 50 (fun _ => 0)), (q_2, aI E 50 (fun _ => 0)), (q_3, aI E 50 (fun _ => 0)), (q_5, aI E 50 (fun _ => 0)), (q_6, aI E 50 (fun _ => 0)), (q_4, aI E 50 (fun _ => (-1)))] := hD
  exact ret_v hx hb hr hlk (hP.sub (ws' := [(h, .inr (4, [.ref q_1, .ref q_2, .ref q_3, .ref q_4, .ref q_5, .ref q_6])), (q_1, aI E 50 (fun _ => 0)), (q_2, aI E 50 (fun _ => 0)), (q_3, aI E 50 (fun _ => 0)), (q_4, aI E 50 (fun _ => (-1))), (q_5, aI E 50 (fun _ => 0)), (q_6, aI E 50 (fun _ => 0))]) [0, 1, 2, 3, 6, 4, 5] rfl) (hD.sub (ws' := [(h, .inr (4, [.ref q_1, .ref q_2, .ref q_3, .ref q_4, .ref q_5, .ref q_6])), (q_1, aI E 50 (fun _ => 0)), (q_2, aI E 50 (fun _ => 0)), (q_3, aI E 50 (fun _ => 0)), (q_4, aI E 50 (fun _ => (-1))), (q_5, aI E 50 (fun _ => 0)), (q_6, aI E 50 (fun _ => 0))]) [0, 1, 2, 3, 6, 4, 5] (by decide) rfl) hS dX4_init_60 (Nat.le_of_ble_eq_true rfl) (Nat.le_of_ble_eq_true rfl) ⟨q_1, q_2, q_3, q_4, q_5, q_6, rfl⟩
