theorem dX6_init_0 : decode cX6_init 0 = .ok (.aload_n 0, 1) := by decide +kernel
theorem dX6_init_1 : decode cX6_init 1 = .ok (.invokespecial 3, 3) := by decide +kernel
theorem dX6_init_4 : decode cX6_init 4 = .ok (.aload_n 0, 1) := by decide +kernel
theorem dX6_init_5 : decode cX6_init 5 = .ok (.bipush 50, 2) := by decide +kernel
theorem dX6_init_7 : decode cX6_init 7 = .ok (.newarray .boolean, 2) := by decide +kernel
theorem dX6_init_9 : decode cX6_init 9 = .ok (.putfield 9, 3) := by decide +kernel
theorem dX6_init_12 : decode cX6_init 12 = .ok (.aload_n 0, 1) := by decide +kernel
theorem dX6_init_13 : decode cX6_init 13 = .ok (.bipush 50, 2) := by decide +kernel
theorem dX6_init_15 : decode cX6_init 15 = .ok (.newarray .int, 2) := by decide +kernel
theorem dX6_init_17 : decode cX6_init 17 = .ok (.putfield 15, 3) := by decide +kernel
theorem dX6_init_20 : decode cX6_init 20 = .ok (.aload_n 0, 1) := by decide +kernel
theorem dX6_init_21 : decode cX6_init 21 = .ok (.sipush 400, 3) := by decide +kernel
theorem dX6_init_24 : decode cX6_init 24 = .ok (.newarray .int, 2) := by decide +kernel
theorem dX6_init_26 : decode cX6_init 26 = .ok (.putfield 19, 3) := by decide +kernel
theorem dX6_init_29 : decode cX6_init 29 = .ok (.aload_n 0, 1) := by decide +kernel
theorem dX6_init_30 : decode cX6_init 30 = .ok (.sipush 400, 3) := by decide +kernel
theorem dX6_init_33 : decode cX6_init 33 = .ok (.newarray .int, 2) := by decide +kernel
theorem dX6_init_35 : decode cX6_init 35 = .ok (.putfield 22, 3) := by decide +kernel
theorem dX6_init_38 : decode cX6_init 38 = .ok (.aload_n 0, 1) := by decide +kernel
theorem dX6_init_39 : decode cX6_init 39 = .ok (.bipush 100, 2) := by decide +kernel
theorem dX6_init_41 : decode cX6_init 41 = .ok (.newarray .int, 2) := by decide +kernel
theorem dX6_init_43 : decode cX6_init 43 = .ok (.putfield 25, 3) := by decide +kernel
theorem dX6_init_46 : decode cX6_init 46 = .ok (.aload_n 0, 1) := by decide +kernel
theorem dX6_init_47 : decode cX6_init 47 = .ok (.bipush 100, 2) := by decide +kernel
theorem dX6_init_49 : decode cX6_init 49 = .ok (.newarray .int, 2) := by decide +kernel
theorem dX6_init_51 : decode cX6_init 51 = .ok (.putfield 28, 3) := by decide +kernel
theorem dX6_init_54 : decode cX6_init 54 = .ok (.aload_n 0, 1) := by decide +kernel
theorem dX6_init_55 : decode cX6_init 55 = .ok (.bipush 100, 2) := by decide +kernel
theorem dX6_init_57 : decode cX6_init 57 = .ok (.newarray .int, 2) := by decide +kernel
theorem dX6_init_59 : decode cX6_init 59 = .ok (.putfield 31, 3) := by decide +kernel
theorem dX6_init_62 : decode cX6_init 62 = .ok (.aload_n 0, 1) := by decide +kernel
theorem dX6_init_63 : decode cX6_init 63 = .ok (.bipush 100, 2) := by decide +kernel
theorem dX6_init_65 : decode cX6_init 65 = .ok (.newarray .int, 2) := by decide +kernel
theorem dX6_init_67 : decode cX6_init 67 = .ok (.putfield 34, 3) := by decide +kernel
theorem dX6_init_70 : decode cX6_init 70 = .ok (.aload_n 0, 1) := by decide +kernel
theorem dX6_init_71 : decode cX6_init 71 = .ok (.aload_n 1, 1) := by decide +kernel
theorem dX6_init_72 : decode cX6_init 72 = .ok (.putfield 37, 3) := by decide +kernel
theorem dX6_init_75 : decode cX6_init 75 = .ok (.aload_n 0, 1) := by decide +kernel
theorem dX6_init_76 : decode cX6_init 76 = .ok (.aload_n 2, 1) := by decide +kernel
theorem dX6_init_77 : decode cX6_init 77 = .ok (.putfield 41, 3) := by decide +kernel
theorem dX6_init_80 : decode cX6_init 80 = .ok (.aload_n 0, 1) := by decide +kernel
theorem dX6_init_81 : decode cX6_init 81 = .ok (.aload_n 3, 1) := by decide +kernel
theorem dX6_init_82 : decode cX6_init 82 = .ok (.putfield 45, 3) := by decide +kernel
theorem dX6_init_85 : decode cX6_init 85 = .ok (.aload_n 0, 1) := by decide +kernel
theorem dX6_init_86 : decode cX6_init 86 = .ok (.aload 4, 2) := by decide +kernel
theorem dX6_init_88 : decode cX6_init 88 = .ok (.putfield 49, 3) := by decide +kernel
theorem dX6_init_91 : decode cX6_init 91 = .ok (.return_, 1) := by decide +kernel
def wo_k_timing : List Cond := [.code yX6_init cX6_init 5 none, .methodLink RX6 3 objectInit, .instanceMethod objectInit, .code objectInit ⟨#[0xb1]⟩ 1 none, .arrayClass .boolean, .fieldLink RX6 9 "TimingHouse$Timing" "reached" "[Z", .arrayClass .int, .fieldLink RX6 15 "TimingHouse$Timing" "open" "[I", .fieldLink RX6 19 "TimingHouse$Timing" "lateDelays" "[I", .fieldLink RX6 22 "TimingHouse$Timing" "earlyDelays" "[I", .fieldLink RX6 25 "TimingHouse$Timing" "lateSlopes" "[I", .fieldLink RX6 28 "TimingHouse$Timing" "earlySlopes" "[I", .fieldLink RX6 31 "TimingHouse$Timing" "lateArrivals" "[I", .fieldLink RX6 34 "TimingHouse$Timing" "earlyArrivals" "[I", .fieldLink RX6 37 "TimingHouse$Timing" "net" "LTimingHouse$Net;", .fieldLink RX6 41 "TimingHouse$Timing" "stations" "LTimingHouse$Stations;", .fieldLink RX6 45 "TimingHouse$Timing" "clock" "LTimingHouse$Clock;", .fieldLink RX6 49 "TimingHouse$Timing" "tables" "LTimingHouse$Tables;"]
def wr_k_timing : List Cond := (wsX60 ++ ([]))
def w_k_timing : List Cond := wo_k_timing ++ wr_k_timing
theorem wg_k_timing : GW w_k_timing := GW_app (GW_of (by decide +kernel)) (GW_app (GW_of (by decide +kernel)) (GW_nil))
theorem i_k_timing_X6 : ∀ w ∈ wsX60, w ∈ w_k_timing := fun _ h => List.mem_append_right _ (List.mem_append_left _ h)
set_option maxHeartbeats 4000000 in
set_option maxRecDepth 100000 in
theorem k_timing (l : Launch) (E : gE) (h : Nat) (a1 : Nat) (a2 : Nat) (a3 : Nat) (a4 : Nat) : CtV l E yX6_init w_k_timing ({ frames := 1, cells := 8, slots := 1300, locals := 20 }) [(h, .inr (6, [.null, .null, .null, .null, .null, .null, .null, .null, .null, .null, .null, .null]))] [.ref h, .ref a1, .ref a2, .ref a3, .ref a4] (fun w => ∃ q_reached : Nat, ∃ q_open : Nat, ∃ q_lateDelays : Nat, ∃ q_earlyDelays : Nat, ∃ q_lateSlopes : Nat, ∃ q_earlySlopes : Nat, ∃ q_lateArrivals : Nat, ∃ q_earlyArrivals : Nat, w = [(h, .inr (6, [.ref a1, .ref a2, .ref a3, .ref a4, .ref q_reached, .ref q_open, .ref q_lateDelays, .ref q_earlyDelays, .ref q_lateSlopes, .ref q_earlySlopes, .ref q_lateArrivals, .ref q_earlyArrivals])), (q_reached, aZ E 50 (fun _ => 0)), (q_open, aI E 50 (fun _ => 0)), (q_lateDelays, aI E 400 (fun _ => 0)), (q_earlyDelays, aI E 400 (fun _ => 0)), (q_lateSlopes, aI E 100 (fun _ => 0)), (q_earlySlopes, aI E 100 (fun _ => 0)), (q_lateArrivals, aI E 100 (fun _ => 0)), (q_earlyArrivals, aI E 100 (fun _ => 0))]) := by
  refine CtV.of (cc := cX6_init) (maxL := 5) (rt := none) (by decide) rfl (Nat.le_of_ble_eq_true rfl) ?_
  intro p e s m below meth c A B ls hl
  obtain ⟨hx, hb, hml, hr, hlk, hin, hts, hown, hK, hN, hZ, hA, hP, hD, hS⟩ := B
  have hown : s.vm.findClass RX6 = some m.cls := hown
  have hto : ∀ w ∈ wo_k_timing, w.before _ s = true := fun w h => hts w (List.mem_append_left _ h)
  have hl : lv_has ls 5 [(0, .ref h), (1, .ref a1), (2, .ref a2), (3, .ref a3), (4, .ref a4)] := hl
  obtain ⟨H, hHe⟩ : ∃ H, H = s.heap := ⟨_, rfl⟩
  have hS : va_S A s.heap H [] := by rw [hHe]; exact hS
  have hP : va_P E.1 vwCl [(h, .inr (6, [.null, .null, .null, .null, .null, .null, .null, .null, .null, .null, .null, .null]))] H := by rw [hHe]; exact hP
  refine W_heap hHe ?_
  have hin : meth.name = "<init>" := hin
  refine lv_aload_n hx hb dX6_init_0 rfl (lv_at hl 0 rfl) ?_
  refine W.objInit hx hb hown (hto (.methodLink RX6 3 objectInit) (by decide +kernel)) (hto (.instanceMethod objectInit) (by decide +kernel)) (hto (.code objectInit ⟨#[0xb1]⟩ 1 none) (by decide +kernel)) rfl (by rw [hml]; exact hl.1) rfl dX6_init_1 (Nat.le_of_ble_eq_true rfl) (Nat.le_of_ble_eq_true rfl) ?_
  refine W.eq (g2 := F0 m 4 ls []) rfl ?_
  refine lv_aload_n hx hb dX6_init_4 rfl (lv_at hl 0 rfl) ?_
  refine lv_bipush (v := 50) hx hb dX6_init_5 (by decide) ?_
  refine nw_bool (N' := 50) (A := A) (E := E) hx hb (hto (.arrayClass .boolean) (by decide +kernel)) hK hP hD hS hA (by decide) (by decide) (Nat.le_of_ble_eq_true rfl) (Nat.le_of_ble_eq_true rfl) dX6_init_7 (fun q_1 H hP hD hS => ?_)
  have hP : va_P E.1 vwCl [(h, .inr (6, [.null, .null, .null, .null, .null, .null, .null, .null, .null, .null, .null, .null])), (q_1, aZ E 50 (fun _ => 0))] H := hP
  have hD : va_D A [(h, .inr (6, [.null, .null, .null, .null, .null, .null, .null, .null, .null, .null, .null, .null])), (q_1, aZ E 50 (fun _ => 0))] := hD
  refine va_putF (D := E.1) (ci := 6) (v := .ref q_1) (ty := .array .boolean) (own := RX6) (C := RX6) (T := TX6) (N := 12) hx hb hts i_k_timing_X6 tyX6 tyX6_ok nmX6 hown hK hP hD hS 0 rfl rfl 4 (by decide) (hto (.fieldLink RX6 9 "TimingHouse$Timing" "reached" "[Z") (by decide +kernel)) (fun _ h9 => h9) rfl hin rfl (by decide +kernel) rfl rfl (Nat.le_of_ble_eq_true rfl) dX6_init_9 (fun H locs hP hD hS => ?_)
  have hP : va_P E.1 vwCl [(h, .inr (6, [.null, .null, .null, .null, .ref q_1, .null, .null, .null, .null, .null, .null, .null])), (q_1, aZ E 50 (fun _ => 0))] H := hP
  have hD : va_D A [(h, .inr (6, [.null, .null, .null, .null, .ref q_1, .null, .null, .null, .null, .null, .null, .null])), (q_1, aZ E 50 (fun _ => 0))] := hD
  refine lv_aload_n hx hb dX6_init_12 rfl (lv_at hl 0 rfl) ?_
  refine lv_bipush (v := 50) hx hb dX6_init_13 (by decide) ?_
  refine nw_int (N' := 50) (A := A) (E := E) hx hb (hto (.arrayClass .int) (by decide +kernel)) hK hP hD hS hA (by decide) (by decide) (Nat.le_of_ble_eq_true rfl) (Nat.le_of_ble_eq_true rfl) dX6_init_15 (fun q_2 H hP hD hS => ?_)
  have hP : va_P E.1 vwCl [(h, .inr (6, [.null, .null, .null, .null, .ref q_1, .null, .null, .null, .null, .null, .null, .null])), (q_1, aZ E 50 (fun _ => 0)), (q_2, aI E 50 (fun _ => 0))] H := hP
  have hD : va_D A [(h, .inr (6, [.null, .null, .null, .null, .ref q_1, .null, .null, .null, .null, .null, .null, .null])), (q_1, aZ E 50 (fun _ => 0)), (q_2, aI E 50 (fun _ => 0))] := hD
  refine va_putF (D := E.1) (ci := 6) (v := .ref q_2) (ty := .array .int) (own := RX6) (C := RX6) (T := TX6) (N := 12) hx hb hts i_k_timing_X6 tyX6 tyX6_ok nmX6 hown hK hP hD hS 0 rfl rfl 5 (by decide) (hto (.fieldLink RX6 15 "TimingHouse$Timing" "open" "[I") (by decide +kernel)) (fun _ h9 => h9) rfl hin rfl (by decide +kernel) rfl rfl (Nat.le_of_ble_eq_true rfl) dX6_init_17 (fun H locs hP hD hS => ?_)
  have hP : va_P E.1 vwCl [(h, .inr (6, [.null, .null, .null, .null, .ref q_1, .ref q_2, .null, .null, .null, .null, .null, .null])), (q_1, aZ E 50 (fun _ => 0)), (q_2, aI E 50 (fun _ => 0))] H := hP
  have hD : va_D A [(h, .inr (6, [.null, .null, .null, .null, .ref q_1, .ref q_2, .null, .null, .null, .null, .null, .null])), (q_1, aZ E 50 (fun _ => 0)), (q_2, aI E 50 (fun _ => 0))] := hD
  refine lv_aload_n hx hb dX6_init_20 rfl (lv_at hl 0 rfl) ?_
  refine lv_sipush (v := 400) hx hb dX6_init_21 (by decide) ?_
  refine nw_int (N' := 400) (A := A) (E := E) hx hb (hto (.arrayClass .int) (by decide +kernel)) hK hP hD hS hA (by decide) (by decide) (Nat.le_of_ble_eq_true rfl) (Nat.le_of_ble_eq_true rfl) dX6_init_24 (fun q_3 H hP hD hS => ?_)
  have hP : va_P E.1 vwCl [(h, .inr (6, [.null, .null, .null, .null, .ref q_1, .ref q_2, .null, .null, .null, .null, .null, .null])), (q_1, aZ E 50 (fun _ => 0)), (q_2, aI E 50 (fun _ => 0)), (q_3, aI E 400 (fun _ => 0))] H := hP
  have hD : va_D A [(h, .inr (6, [.null, .null, .null, .null, .ref q_1, .ref q_2, .null, .null, .null, .null, .null, .null])), (q_1, aZ E 50 (fun _ => 0)), (q_2, aI E 50 (fun _ => 0)), (q_3, aI E 400 (fun _ => 0))] := hD
  refine va_putF (D := E.1) (ci := 6) (v := .ref q_3) (ty := .array .int) (own := RX6) (C := RX6) (T := TX6) (N := 12) hx hb hts i_k_timing_X6 tyX6 tyX6_ok nmX6 hown hK hP hD hS 0 rfl rfl 6 (by decide) (hto (.fieldLink RX6 19 "TimingHouse$Timing" "lateDelays" "[I") (by decide +kernel)) (fun _ h9 => h9) rfl hin rfl (by decide +kernel) rfl rfl (Nat.le_of_ble_eq_true rfl) dX6_init_26 (fun H locs hP hD hS => ?_)
  have hP : va_P E.1 vwCl [(h, .inr (6, [.null, .null, .null, .null, .ref q_1, .ref q_2, .ref q_3, .null, .null, .null, .null, .null])), (q_1, aZ E 50 (fun _ => 0)), (q_2, aI E 50 (fun _ => 0)), (q_3, aI E 400 (fun _ => 0))] H := hP
  have hD : va_D A [(h, .inr (6, [.null, .null, .null, .null, .ref q_1, .ref q_2, .ref q_3, .null, .null, .null, .null, .null])), (q_1, aZ E 50 (fun _ => 0)), (q_2, aI E 50 (fun _ => 0)), (q_3, aI E 400 (fun _ => 0))] := hD
  refine lv_aload_n hx hb dX6_init_29 rfl (lv_at hl 0 rfl) ?_
  refine lv_sipush (v := 400) hx hb dX6_init_30 (by decide) ?_
  refine nw_int (N' := 400) (A := A) (E := E) hx hb (hto (.arrayClass .int) (by decide +kernel)) hK hP hD hS hA (by decide) (by decide) (Nat.le_of_ble_eq_true rfl) (Nat.le_of_ble_eq_true rfl) dX6_init_33 (fun q_4 H hP hD hS => ?_)
  have hP : va_P E.1 vwCl [(h, .inr (6, [.null, .null, .null, .null, .ref q_1, .ref q_2, .ref q_3, .null, .null, .null, .null, .null])), (q_1, aZ E 50 (fun _ => 0)), (q_2, aI E 50 (fun _ => 0)), (q_3, aI E 400 (fun _ => 0)), (q_4, aI E 400 (fun _ => 0))] H := hP
  have hD : va_D A [(h, .inr (6, [.null, .null, .null, .null, .ref q_1, .ref q_2, .ref q_3, .null, .null, .null, .null, .null])), (q_1, aZ E 50 (fun _ => 0)), (q_2, aI E 50 (fun _ => 0)), (q_3, aI E 400 (fun _ => 0)), (q_4, aI E 400 (fun _ => 0))] := hD
  refine va_putF (D := E.1) (ci := 6) (v := .ref q_4) (ty := .array .int) (own := RX6) (C := RX6) (T := TX6) (N := 12) hx hb hts i_k_timing_X6 tyX6 tyX6_ok nmX6 hown hK hP hD hS 0 rfl rfl 7 (by decide) (hto (.fieldLink RX6 22 "TimingHouse$Timing" "earlyDelays" "[I") (by decide +kernel)) (fun _ h9 => h9) rfl hin rfl (by decide +kernel) rfl rfl (Nat.le_of_ble_eq_true rfl) dX6_init_35 (fun H locs hP hD hS => ?_)
  have hP : va_P E.1 vwCl [(h, .inr (6, [.null, .null, .null, .null, .ref q_1, .ref q_2, .ref q_3, .ref q_4, .null, .null, .null, .null])), (q_1, aZ E 50 (fun _ => 0)), (q_2, aI E 50 (fun _ => 0)), (q_3, aI E 400 (fun _ => 0)), (q_4, aI E 400 (fun _ => 0))] H := hP
  have hD : va_D A [(h, .inr (6, [.null, .null, .null, .null, .ref q_1, .ref q_2, .ref q_3, .ref q_4, .null, .null, .null, .null])), (q_1, aZ E 50 (fun _ => 0)), (q_2, aI E 50 (fun _ => 0)), (q_3, aI E 400 (fun _ => 0)), (q_4, aI E 400 (fun _ => 0))] := hD
  refine lv_aload_n hx hb dX6_init_38 rfl (lv_at hl 0 rfl) ?_
  refine lv_bipush (v := 100) hx hb dX6_init_39 (by decide) ?_
  refine nw_int (N' := 100) (A := A) (E := E) hx hb (hto (.arrayClass .int) (by decide +kernel)) hK hP hD hS hA (by decide) (by decide) (Nat.le_of_ble_eq_true rfl) (Nat.le_of_ble_eq_true rfl) dX6_init_41 (fun q_5 H hP hD hS => ?_)
  have hP : va_P E.1 vwCl [(h, .inr (6, [.null, .null, .null, .null, .ref q_1, .ref q_2, .ref q_3, .ref q_4, .null, .null, .null, .null])), (q_1, aZ E 50 (fun _ => 0)), (q_2, aI E 50 (fun _ => 0)), (q_3, aI E 400 (fun _ => 0)), (q_4, aI E 400 (fun _ => 0)), (q_5, aI E 100 (fun _ => 0))] H := hP
  have hD : va_D A [(h, .inr (6, [.null, .null, .null, .null, .ref q_1, .ref q_2, .ref q_3, .ref q_4, .null, .null, .null, .null])), (q_1, aZ E 50 (fun _ => 0)), (q_2, aI E 50 (fun _ => 0)), (q_3, aI E 400 (fun _ => 0)), (q_4, aI E 400 (fun _ => 0)), (q_5, aI E 100 (fun _ => 0))] := hD
  refine va_putF (D := E.1) (ci := 6) (v := .ref q_5) (ty := .array .int) (own := RX6) (C := RX6) (T := TX6) (N := 12) hx hb hts i_k_timing_X6 tyX6 tyX6_ok nmX6 hown hK hP hD hS 0 rfl rfl 8 (by decide) (hto (.fieldLink RX6 25 "TimingHouse$Timing" "lateSlopes" "[I") (by decide +kernel)) (fun _ h9 => h9) rfl hin rfl (by decide +kernel) rfl rfl (Nat.le_of_ble_eq_true rfl) dX6_init_43 (fun H locs hP hD hS => ?_)
  have hP : va_P E.1 vwCl [(h, .inr (6, [.null, .null, .null, .null, .ref q_1, .ref q_2, .ref q_3, .ref q_4, .ref q_5, .null, .null, .null])), (q_1, aZ E 50 (fun _ => 0)), (q_2, aI E 50 (fun _ => 0)), (q_3, aI E 400 (fun _ => 0)), (q_4, aI E 400 (fun _ => 0)), (q_5, aI E 100 (fun _ => 0))] H := hP
  have hD : va_D A [(h, .inr (6, [.null, .null, .null, .null, .ref q_1, .ref q_2, .ref q_3, .ref q_4, .ref q_5, .null, .null, .null])), (q_1, aZ E 50 (fun _ => 0)), (q_2, aI E 50 (fun _ => 0)), (q_3, aI E 400 (fun _ => 0)), (q_4, aI E 400 (fun _ => 0)), (q_5, aI E 100 (fun _ => 0))] := hD
  refine lv_aload_n hx hb dX6_init_46 rfl (lv_at hl 0 rfl) ?_
  refine lv_bipush (v := 100) hx hb dX6_init_47 (by decide) ?_
  refine nw_int (N' := 100) (A := A) (E := E) hx hb (hto (.arrayClass .int) (by decide +kernel)) hK hP hD hS hA (by decide) (by decide) (Nat.le_of_ble_eq_true rfl) (Nat.le_of_ble_eq_true rfl) dX6_init_49 (fun q_6 H hP hD hS => ?_)
  have hP : va_P E.1 vwCl [(h, .inr (6, [.null, .null, .null, .null, .ref q_1, .ref q_2, .ref q_3, .ref q_4, .ref q_5, .null, .null, .null])), (q_1, aZ E 50 (fun _ => 0)), (q_2, aI E 50 (fun _ => 0)), (q_3, aI E 400 (fun _ => 0)), (q_4, aI E 400 (fun _ => 0)), (q_5, aI E 100 (fun _ => 0)), (q_6, aI E 100 (fun _ => 0))] H := hP
  have hD : va_D A [(h, .inr (6, [.null, .null, .null, .null, .ref q_1, .ref q_2, .ref q_3, .ref q_4, .ref q_5, .null, .null, .null])), (q_1, aZ E 50 (fun _ => 0)), (q_2, aI E 50 (fun _ => 0)), (q_3, aI E 400 (fun _ => 0)), (q_4, aI E 400 (fun _ => 0)), (q_5, aI E 100 (fun _ => 0)), (q_6, aI E 100 (fun _ => 0))] := hD
  refine va_putF (D := E.1) (ci := 6) (v := .ref q_6) (ty := .array .int) (own := RX6) (C := RX6) (T := TX6) (N := 12) hx hb hts i_k_timing_X6 tyX6 tyX6_ok nmX6 hown hK hP hD hS 0 rfl rfl 9 (by decide) (hto (.fieldLink RX6 28 "TimingHouse$Timing" "earlySlopes" "[I") (by decide +kernel)) (fun _ h9 => h9) rfl hin rfl (by decide +kernel) rfl rfl (Nat.le_of_ble_eq_true rfl) dX6_init_51 (fun H locs hP hD hS => ?_)
  have hP : va_P E.1 vwCl [(h, .inr (6, [.null, .null, .null, .null, .ref q_1, .ref q_2, .ref q_3, .ref q_4, .ref q_5, .ref q_6, .null, .null])), (q_1, aZ E 50 (fun _ => 0)), (q_2, aI E 50 (fun _ => 0)), (q_3, aI E 400 (fun _ => 0)), (q_4, aI E 400 (fun _ => 0)), (q_5, aI E 100 (fun _ => 0)), (q_6, aI E 100 (fun _ => 0))] H := hP
  have hD : va_D A [(h, .inr (6, [.null, .null, .null, .null, .ref q_1, .ref q_2, .ref q_3, .ref q_4, .ref q_5, .ref q_6, .null, .null])), (q_1, aZ E 50 (fun _ => 0)), (q_2, aI E 50 (fun _ => 0)), (q_3, aI E 400 (fun _ => 0)), (q_4, aI E 400 (fun _ => 0)), (q_5, aI E 100 (fun _ => 0)), (q_6, aI E 100 (fun _ => 0))] := hD
  refine lv_aload_n hx hb dX6_init_54 rfl (lv_at hl 0 rfl) ?_
  refine lv_bipush (v := 100) hx hb dX6_init_55 (by decide) ?_
  refine nw_int (N' := 100) (A := A) (E := E) hx hb (hto (.arrayClass .int) (by decide +kernel)) hK hP hD hS hA (by decide) (by decide) (Nat.le_of_ble_eq_true rfl) (Nat.le_of_ble_eq_true rfl) dX6_init_57 (fun q_7 H hP hD hS => ?_)
  have hP : va_P E.1 vwCl [(h, .inr (6, [.null, .null, .null, .null, .ref q_1, .ref q_2, .ref q_3, .ref q_4, .ref q_5, .ref q_6, .null, .null])), (q_1, aZ E 50 (fun _ => 0)), (q_2, aI E 50 (fun _ => 0)), (q_3, aI E 400 (fun _ => 0)), (q_4, aI E 400 (fun _ => 0)), (q_5, aI E 100 (fun _ => 0)), (q_6, aI E 100 (fun _ => 0)), (q_7, aI E 100 (fun _ => 0))] H := hP
  have hD : va_D A [(h, .inr (6, [.null, .null, .null, .null, .ref q_1, .ref q_2, .ref q_3, .ref q_4, .ref q_5, .ref q_6, .null, .null])), (q_1, aZ E 50 (fun _ => 0)), (q_2, aI E 50 (fun _ => 0)), (q_3, aI E 400 (fun _ => 0)), (q_4, aI E 400 (fun _ => 0)), (q_5, aI E 100 (fun _ => 0)), (q_6, aI E 100 (fun _ => 0)), (q_7, aI E 100 (fun _ => 0))] := hD
  refine va_putF (D := E.1) (ci := 6) (v := .ref q_7) (ty := .array .int) (own := RX6) (C := RX6) (T := TX6) (N := 12) hx hb hts i_k_timing_X6 tyX6 tyX6_ok nmX6 hown hK hP hD hS 0 rfl rfl 10 (by decide) (hto (.fieldLink RX6 31 "TimingHouse$Timing" "lateArrivals" "[I") (by decide +kernel)) (fun _ h9 => h9) rfl hin rfl (by decide +kernel) rfl rfl (Nat.le_of_ble_eq_true rfl) dX6_init_59 (fun H locs hP hD hS => ?_)
  have hP : va_P E.1 vwCl [(h, .inr (6, [.null, .null, .null, .null, .ref q_1, .ref q_2, .ref q_3, .ref q_4, .ref q_5, .ref q_6, .ref q_7, .null])), (q_1, aZ E 50 (fun _ => 0)), (q_2, aI E 50 (fun _ => 0)), (q_3, aI E 400 (fun _ => 0)), (q_4, aI E 400 (fun _ => 0)), (q_5, aI E 100 (fun _ => 0)), (q_6, aI E 100 (fun _ => 0)), (q_7, aI E 100 (fun _ => 0))] H := hP
  have hD : va_D A [(h, .inr (6, [.null, .null, .null, .null, .ref q_1, .ref q_2, .ref q_3, .ref q_4, .ref q_5, .ref q_6, .ref q_7, .null])), (q_1, aZ E 50 (fun _ => 0)), (q_2, aI E 50 (fun _ => 0)), (q_3, aI E 400 (fun _ => 0)), (q_4, aI E 400 (fun _ => 0)), (q_5, aI E 100 (fun _ => 0)), (q_6, aI E 100 (fun _ => 0)), (q_7, aI E 100 (fun _ => 0))] := hD
  refine lv_aload_n hx hb dX6_init_62 rfl (lv_at hl 0 rfl) ?_
  refine lv_bipush (v := 100) hx hb dX6_init_63 (by decide) ?_
  refine nw_int (N' := 100) (A := A) (E := E) hx hb (hto (.arrayClass .int) (by decide +kernel)) hK hP hD hS hA (by decide) (by decide) (Nat.le_of_ble_eq_true rfl) (Nat.le_of_ble_eq_true rfl) dX6_init_65 (fun q_8 H hP hD hS => ?_)
  have hP : va_P E.1 vwCl [(h, .inr (6, [.null, .null, .null, .null, .ref q_1, .ref q_2, .ref q_3, .ref q_4, .ref q_5, .ref q_6, .ref q_7, .null])), (q_1, aZ E 50 (fun _ => 0)), (q_2, aI E 50 (fun _ => 0)), (q_3, aI E 400 (fun _ => 0)), (q_4, aI E 400 (fun _ => 0)), (q_5, aI E 100 (fun _ => 0)), (q_6, aI E 100 (fun _ => 0)), (q_7, aI E 100 (fun _ => 0)), (q_8, aI E 100 (fun _ => 0))] H := hP
  have hD : va_D A [(h, .inr (6, [.null, .null, .null, .null, .ref q_1, .ref q_2, .ref q_3, .ref q_4, .ref q_5, .ref q_6, .ref q_7, .null])), (q_1, aZ E 50 (fun _ => 0)), (q_2, aI E 50 (fun _ => 0)), (q_3, aI E 400 (fun _ => 0)), (q_4, aI E 400 (fun _ => 0)), (q_5, aI E 100 (fun _ => 0)), (q_6, aI E 100 (fun _ => 0)), (q_7, aI E 100 (fun _ => 0)), (q_8, aI E 100 (fun _ => 0))] := hD
  refine va_putF (D := E.1) (ci := 6) (v := .ref q_8) (ty := .array .int) (own := RX6) (C := RX6) (T := TX6) (N := 12) hx hb hts i_k_timing_X6 tyX6 tyX6_ok nmX6 hown hK hP hD hS 0 rfl rfl 11 (by decide) (hto (.fieldLink RX6 34 "TimingHouse$Timing" "earlyArrivals" "[I") (by decide +kernel)) (fun _ h9 => h9) rfl hin rfl (by decide +kernel) rfl rfl (Nat.le_of_ble_eq_true rfl) dX6_init_67 (fun H locs hP hD hS => ?_)
  have hP : va_P E.1 vwCl [(h, .inr (6, [.null, .null, .null, .null, .ref q_1, .ref q_2, .ref q_3, .ref q_4, .ref q_5, .ref q_6, .ref q_7, .ref q_8])), (q_1, aZ E 50 (fun _ => 0)), (q_2, aI E 50 (fun _ => 0)), (q_3, aI E 400 (fun _ => 0)), (q_4, aI E 400 (fun _ => 0)), (q_5, aI E 100 (fun _ => 0)), (q_6, aI E 100 (fun _ => 0)), (q_7, aI E 100 (fun _ => 0)), (q_8, aI E 100 (fun _ => 0))] H := hP
  have hD : va_D A [(h, .inr (6, [.null, .null, .null, .null, .ref q_1, .ref q_2, .ref q_3, .ref q_4, .ref q_5, .ref q_6, .ref q_7, .ref q_8])), (q_1, aZ E 50 (fun _ => 0)), (q_2, aI E 50 (fun _ => 0)), (q_3, aI E 400 (fun _ => 0)), (q_4, aI E 400 (fun _ => 0)), (q_5, aI E 100 (fun _ => 0)), (q_6, aI E 100 (fun _ => 0)), (q_7, aI E 100 (fun _ => 0)), (q_8, aI E 100 (fun _ => 0))] := hD
  refine lv_aload_n hx hb dX6_init_70 rfl (lv_at hl 0 rfl) ?_
  refine lv_aload_n hx hb dX6_init_71 rfl (lv_at hl 1 rfl) ?_
  refine va_putF (D := E.1) (ci := 6) (v := .ref a1) (ty := .object "TimingHouse$Net") (own := RX6) (C := RX6) (T := TX6) (N := 12) hx hb hts i_k_timing_X6 tyX6 tyX6_ok nmX6 hown hK hP hD hS 0 rfl rfl 0 (by decide) (hto (.fieldLink RX6 37 "TimingHouse$Timing" "net" "LTimingHouse$Net;") (by decide +kernel)) (fun _ h9 => h9) rfl hin rfl (by decide +kernel) rfl rfl (Nat.le_of_ble_eq_true rfl) dX6_init_72 (fun H locs hP hD hS => ?_)
  have hP : va_P E.1 vwCl [(h, .inr (6, [.ref a1, .null, .null, .null, .ref q_1, .ref q_2, .ref q_3, .ref q_4, .ref q_5, .ref q_6, .ref q_7, .ref q_8])), (q_1, aZ E 50 (fun _ => 0)), (q_2, aI E 50 (fun _ => 0)), (q_3, aI E 400 (fun _ => 0)), (q_4, aI E 400 (fun _ => 0)), (q_5, aI E 100 (fun _ => 0)), (q_6, aI E 100 (fun _ => 0)), (q_7, aI E 100 (fun _ => 0)), (q_8, aI E 100 (fun _ => 0))] H := hP
  have hD : va_D A [(h, .inr (6, [.ref a1, .null, .null, .null, .ref q_1, .ref q_2, .ref q_3, .ref q_4, .ref q_5, .ref q_6, .ref q_7, .ref q_8])), (q_1, aZ E 50 (fun _ => 0)), (q_2, aI E 50 (fun _ => 0)), (q_3, aI E 400 (fun _ => 0)), (q_4, aI E 400 (fun _ => 0)), (q_5, aI E 100 (fun _ => 0)), (q_6, aI E 100 (fun _ => 0)), (q_7, aI E 100 (fun _ => 0)), (q_8, aI E 100 (fun _ => 0))] := hD
  refine lv_aload_n hx hb dX6_init_75 rfl (lv_at hl 0 rfl) ?_
  refine lv_aload_n hx hb dX6_init_76 rfl (lv_at hl 2 rfl) ?_
  refine va_putF (D := E.1) (ci := 6) (v := .ref a2) (ty := .object "TimingHouse$Stations") (own := RX6) (C := RX6) (T := TX6) (N := 12) hx hb hts i_k_timing_X6 tyX6 tyX6_ok nmX6 hown hK hP hD hS 0 rfl rfl 1 (by decide) (hto (.fieldLink RX6 41 "TimingHouse$Timing" "stations" "LTimingHouse$Stations;") (by decide +kernel)) (fun _ h9 => h9) rfl hin rfl (by decide +kernel) rfl rfl (Nat.le_of_ble_eq_true rfl) dX6_init_77 (fun H locs hP hD hS => ?_)
  have hP : va_P E.1 vwCl [(h, .inr (6, [.ref a1, .ref a2, .null, .null, .ref q_1, .ref q_2, .ref q_3, .ref q_4, .ref q_5, .ref q_6, .ref q_7, .ref q_8])), (q_1, aZ E 50 (fun _ => 0)), (q_2, aI E 50 (fun _ => 0)), (q_3, aI E 400 (fun _ => 0)), (q_4, aI E 400 (fun _ => 0)), (q_5, aI E 100 (fun _ => 0)), (q_6, aI E 100 (fun _ => 0)), (q_7, aI E 100 (fun _ => 0)), (q_8, aI E 100 (fun _ => 0))] H := hP
  have hD : va_D A [(h, .inr (6, [.ref a1, .ref a2, .null, .null, .ref q_1, .ref q_2, .ref q_3, .ref q_4, .ref q_5, .ref q_6, .ref q_7, .ref q_8])), (q_1, aZ E 50 (fun _ => 0)), (q_2, aI E 50 (fun _ => 0)), (q_3, aI E 400 (fun _ => 0)), (q_4, aI E 400 (fun _ => 0)), (q_5, aI E 100 (fun _ => 0)), (q_6, aI E 100 (fun _ => 0)), (q_7, aI E 100 (fun _ => 0)), (q_8, aI E 100 (fun _ => 0))] := hD
  refine lv_aload_n hx hb dX6_init_80 rfl (lv_at hl 0 rfl) ?_
  refine lv_aload_n hx hb dX6_init_81 rfl (lv_at hl 3 rfl) ?_
  refine va_putF (D := E.1) (ci := 6) (v := .ref a3) (ty := .object "TimingHouse$Clock") (own := RX6) (C := RX6) (T := TX6) (N := 12) hx hb hts i_k_timing_X6 tyX6 tyX6_ok nmX6 hown hK hP hD hS 0 rfl rfl 2 (by decide) (hto (.fieldLink RX6 45 "TimingHouse$Timing" "clock" "LTimingHouse$Clock;") (by decide +kernel)) (fun _ h9 => h9) rfl hin rfl (by decide +kernel) rfl rfl (Nat.le_of_ble_eq_true rfl) dX6_init_82 (fun H locs hP hD hS => ?_)
  have hP : va_P E.1 vwCl [(h, .inr (6, [.ref a1, .ref a2, .ref a3, .null, .ref q_1, .ref q_2, .ref q_3, .ref q_4, .ref q_5, .ref q_6, .ref q_7, .ref q_8])), (q_1, aZ E 50 (fun _ => 0)), (q_2, aI E 50 (fun _ => 0)), (q_3, aI E 400 (fun _ => 0)), (q_4, aI E 400 (fun _ => 0)), (q_5, aI E 100 (fun _ => 0)), (q_6, aI E 100 (fun _ => 0)), (q_7, aI E 100 (fun _ => 0)), (q_8, aI E 100 (fun _ => 0))] H := hP
  have hD : va_D A [(h, .inr (6, [.ref a1, .ref a2, .ref a3, .null, .ref q_1, .ref q_2, .ref q_3, .ref q_4, .ref q_5, .ref q_6, .ref q_7, .ref q_8])), (q_1, aZ E 50 (fun _ => 0)), (q_2, aI E 50 (fun _ => 0)), (q_3, aI E 400 (fun _ => 0)), (q_4, aI E 400 (fun _ => 0)), (q_5, aI E 100 (fun _ => 0)), (q_6, aI E 100 (fun _ => 0)), (q_7, aI E 100 (fun _ => 0)), (q_8, aI E 100 (fun _ => 0))] := hD
  refine lv_aload_n hx hb dX6_init_85 rfl (lv_at hl 0 rfl) ?_
  refine lv_aload hx hb dX6_init_86 (lv_at hl 4 rfl) ?_
  refine va_putF (D := E.1) (ci := 6) (v := .ref a4) (ty := .object "TimingHouse$Tables") (own := RX6) (C := RX6) (T := TX6) (N := 12) hx hb hts i_k_timing_X6 tyX6 tyX6_ok nmX6 hown hK hP hD hS 0 rfl rfl 3 (by decide) (hto (.fieldLink RX6 49 "TimingHouse$Timing" "tables" "LTimingHouse$Tables;") (by decide +kernel)) (fun _ h9 => h9) rfl hin rfl (by decide +kernel) rfl rfl (Nat.le_of_ble_eq_true rfl) dX6_init_88 (fun H locs hP hD hS => ?_)
  have hP : va_P E.1 vwCl [(h, .inr (6, [.ref a1, .ref a2, .ref a3, .ref a4, .ref q_1, .ref q_2, .ref q_3, .ref q_4, .ref q_5, .ref q_6, .ref q_7, .ref q_8])), (q_1, aZ E 50 (fun _ => 0)), (q_2, aI E 50 (fun _ => 0)), (q_3, aI E 400 (fun _ => 0)), (q_4, aI E 400 (fun _ => 0)), (q_5, aI E 100 (fun _ => 0)), (q_6, aI E 100 (fun _ => 0)), (q_7, aI E 100 (fun _ => 0)), (q_8, aI E 100 (fun _ => 0))] H := hP
  have hD : va_D A [(h, .inr (6, [.ref a1, .ref a2, .ref a3, .ref a4, .ref q_1, .ref q_2, .ref q_3, .ref q_4, .ref q_5, .ref q_6, .ref q_7, .ref q_8])), (q_1, aZ E 50 (fun _ => 0)), (q_2, aI E 50 (fun _ => 0)), (q_3, aI E 400 (fun _ => 0)), (q_4, aI E 400 (fun _ => 0)), (q_5, aI E 100 (fun _ => 0)), (q_6, aI E 100 (fun _ => 0)), (q_7, aI E 100 (fun _ => 0)), (q_8, aI E 100 (fun _ => 0))] := hD
  exact ret_v hx hb hr hlk (hP.sub (ws' := [(h, .inr (6, [.ref a1, .ref a2, .ref a3, .ref a4, .ref q_1, .ref q_2, .ref q_3, .ref q_4, .ref q_5, .ref q_6, .ref q_7, .ref q_8])), (q_1, aZ E 50 (fun _ => 0)), (q_2, aI E 50 (fun _ => 0)), (q_3, aI E 400 (fun _ => 0)), (q_4, aI E 400 (fun _ => 0)), (q_5, aI E 100 (fun _ => 0)), (q_6, aI E 100 (fun _ => 0)), (q_7, aI E 100 (fun _ => 0)), (q_8, aI E 100 (fun _ => 0))]) [0, 1, 2, 3, 4, 5, 6, 7, 8] rfl) (hD.sub (ws' := [(h, .inr (6, [.ref a1, .ref a2, .ref a3, .ref a4, .ref q_1, .ref q_2, .ref q_3, .ref q_4, .ref q_5, .ref q_6, .ref q_7, .ref q_8])), (q_1, aZ E 50 (fun _ => 0)), (q_2, aI E 50 (fun _ => 0)), (q_3, aI E 400 (fun _ => 0)), (q_4, aI E 400 (fun _ => 0)), (q_5, aI E 100 (fun _ => 0)), (q_6, aI E 100 (fun _ => 0)), (q_7, aI E 100 (fun _ => 0)), (q_8, aI E 100 (fun _ => 0))]) [0, 1, 2, 3, 4, 5, 6, 7, 8] (by decide) rfl) hS dX6_init_91 (Nat.le_of_ble_eq_true rfl) (Nat.le_of_ble_eq_true rfl) ⟨q_1, q_2, q_3, q_4, q_5, q_6, q_7, q_8, rfl⟩
