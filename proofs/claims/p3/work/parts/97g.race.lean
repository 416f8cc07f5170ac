theorem dX2_init_0 : decode cX2_init 0 = .ok (.aload_n 0, 1) := by decide +kernel
theorem dX2_init_1 : decode cX2_init 1 = .ok (.invokespecial 3, 3) := by decide +kernel
theorem dX2_init_4 : decode cX2_init 4 = .ok (.aload_n 0, 1) := by decide +kernel
theorem dX2_init_5 : decode cX2_init 5 = .ok (.iconst 1, 1) := by decide +kernel
theorem dX2_init_6 : decode cX2_init 6 = .ok (.putfield 9, 3) := by decide +kernel
theorem dX2_init_9 : decode cX2_init 9 = .ok (.aload_n 0, 1) := by decide +kernel
theorem dX2_init_10 : decode cX2_init 10 = .ok (.sipush 1600, 3) := by decide +kernel
theorem dX2_init_13 : decode cX2_init 13 = .ok (.newarray .int, 2) := by decide +kernel
theorem dX2_init_15 : decode cX2_init 15 = .ok (.putfield 15, 3) := by decide +kernel
theorem dX2_init_18 : decode cX2_init 18 = .ok (.aload_n 0, 1) := by decide +kernel
theorem dX2_init_19 : decode cX2_init 19 = .ok (.sipush 1600, 3) := by decide +kernel
theorem dX2_init_22 : decode cX2_init 22 = .ok (.newarray .int, 2) := by decide +kernel
theorem dX2_init_24 : decode cX2_init 24 = .ok (.putfield 19, 3) := by decide +kernel
theorem dX2_init_27 : decode cX2_init 27 = .ok (.aload_n 0, 1) := by decide +kernel
theorem dX2_init_28 : decode cX2_init 28 = .ok (.sipush 1600, 3) := by decide +kernel
theorem dX2_init_31 : decode cX2_init 31 = .ok (.newarray .int, 2) := by decide +kernel
theorem dX2_init_33 : decode cX2_init 33 = .ok (.putfield 22, 3) := by decide +kernel
theorem dX2_init_36 : decode cX2_init 36 = .ok (.aload_n 0, 1) := by decide +kernel
theorem dX2_init_37 : decode cX2_init 37 = .ok (.bipush 50, 2) := by decide +kernel
theorem dX2_init_39 : decode cX2_init 39 = .ok (.newarray .int, 2) := by decide +kernel
theorem dX2_init_41 : decode cX2_init 41 = .ok (.putfield 25, 3) := by decide +kernel
theorem dX2_init_44 : decode cX2_init 44 = .ok (.aload_n 0, 1) := by decide +kernel
theorem dX2_init_45 : decode cX2_init 45 = .ok (.bipush 50, 2) := by decide +kernel
theorem dX2_init_47 : decode cX2_init 47 = .ok (.newarray .int, 2) := by decide +kernel
theorem dX2_init_49 : decode cX2_init 49 = .ok (.putfield 28, 3) := by decide +kernel
theorem dX2_init_52 : decode cX2_init 52 = .ok (.aload_n 0, 1) := by decide +kernel
theorem dX2_init_53 : decode cX2_init 53 = .ok (.bipush 50, 2) := by decide +kernel
theorem dX2_init_55 : decode cX2_init 55 = .ok (.newarray .int, 2) := by decide +kernel
theorem dX2_init_57 : decode cX2_init 57 = .ok (.putfield 31, 3) := by decide +kernel
theorem dX2_init_60 : decode cX2_init 60 = .ok (.aload_n 0, 1) := by decide +kernel
theorem dX2_init_61 : decode cX2_init 61 = .ok (.iconst 1, 1) := by decide +kernel
theorem dX2_init_62 : decode cX2_init 62 = .ok (.putfield 34, 3) := by decide +kernel
theorem dX2_init_65 : decode cX2_init 65 = .ok (.aload_n 0, 1) := by decide +kernel
theorem dX2_init_66 : decode cX2_init 66 = .ok (.aload_n 1, 1) := by decide +kernel
theorem dX2_init_67 : decode cX2_init 67 = .ok (.putfield 37, 3) := by decide +kernel
theorem dX2_init_70 : decode cX2_init 70 = .ok (.aload_n 0, 1) := by decide +kernel
theorem dX2_init_71 : decode cX2_init 71 = .ok (.aload_n 2, 1) := by decide +kernel
theorem dX2_init_72 : decode cX2_init 72 = .ok (.putfield 41, 3) := by decide +kernel
theorem dX2_init_75 : decode cX2_init 75 = .ok (.aload_n 0, 1) := by decide +kernel
theorem dX2_init_76 : decode cX2_init 76 = .ok (.aload_n 3, 1) := by decide +kernel
theorem dX2_init_77 : decode cX2_init 77 = .ok (.putfield 45, 3) := by decide +kernel
theorem dX2_init_80 : decode cX2_init 80 = .ok (.aload_n 0, 1) := by decide +kernel
theorem dX2_init_81 : decode cX2_init 81 = .ok (.aload 4, 2) := by decide +kernel
theorem dX2_init_83 : decode cX2_init 83 = .ok (.putfield 49, 3) := by decide +kernel
theorem dX2_init_86 : decode cX2_init 86 = .ok (.aload_n 0, 1) := by decide +kernel
theorem dX2_init_87 : decode cX2_init 87 = .ok (.aload 5, 2) := by decide +kernel
theorem dX2_init_89 : decode cX2_init 89 = .ok (.putfield 53, 3) := by decide +kernel
theorem dX2_init_92 : decode cX2_init 92 = .ok (.return_, 1) := by decide +kernel
def wo_k_race : List Cond := [.code yX2_init cX2_init 6 none, .methodLink RX2 3 objectInit, .instanceMethod objectInit, .code objectInit ⟨#[0xb1]⟩ 1 none, .fieldLink RX2 9 "TimingHouse$Race" "masks" "I", .arrayClass .int, .fieldLink RX2 15 "TimingHouse$Race" "ways" "[I", .fieldLink RX2 19 "TimingHouse$Race" "lates" "[I", .fieldLink RX2 22 "TimingHouse$Race" "earlies" "[I", .fieldLink RX2 25 "TimingHouse$Race" "counts" "[I", .fieldLink RX2 28 "TimingHouse$Race" "slacks" "[I", .fieldLink RX2 31 "TimingHouse$Race" "holdSlacks" "[I", .fieldLink RX2 34 "TimingHouse$Race" "needed" "I", .fieldLink RX2 37 "TimingHouse$Race" "net" "LTimingHouse$Net;", .fieldLink RX2 41 "TimingHouse$Race" "stations" "LTimingHouse$Stations;", .fieldLink RX2 45 "TimingHouse$Race" "clock" "LTimingHouse$Clock;", .fieldLink RX2 49 "TimingHouse$Race" "rules" "LTimingHouse$Rules;", .fieldLink RX2 53 "TimingHouse$Race" "timing" "LTimingHouse$Timing;"]
def wr_k_race : List Cond := (wsX20 ++ ([]))
def w_k_race : List Cond := wo_k_race ++ wr_k_race
theorem wg_k_race : GW w_k_race := GW_app (GW_of (by decide +kernel)) (GW_app (GW_of (by decide +kernel)) (GW_nil))
theorem i_k_race_X2 : ∀ w ∈ wsX20, w ∈ w_k_race := fun _ h => List.mem_append_right _ (List.mem_append_left _ h)
set_option maxHeartbeats 4000000 in
set_option maxRecDepth 100000 in
theorem k_race (l : Launch) (E : gE) (h : Nat) (a1 : Nat) (a2 : Nat) (a3 : Nat) (a4 : Nat) (a5 : Nat) : CtV l E yX2_init w_k_race ({ frames := 1, cells := 6, slots := 4950, locals := 20 }) [(h, .inr (2, [.null, .null, .null, .null, .null, .int 0, .null, .null, .null, .null, .null, .null, .int 0]))] [.ref h, .ref a1, .ref a2, .ref a3, .ref a4, .ref a5] (fun w => ∃ q_ways : Nat, ∃ q_lates : Nat, ∃ q_earlies : Nat, ∃ q_counts : Nat, ∃ q_slacks : Nat, ∃ q_holdSlacks : Nat, w = [(h, .inr (2, [.ref a1, .ref a2, .ref a3, .ref a4, .ref a5, .int 1, .ref q_ways, .ref q_lates, .ref q_earlies, .ref q_counts, .ref q_slacks, .ref q_holdSlacks, .int 1])), (q_ways, aI E 1600 (fun _ => 0)), (q_lates, aI E 1600 (fun _ => 0)), (q_earlies, aI E 1600 (fun _ => 0)), (q_counts, aI E 50 (fun _ => 0)), (q_slacks, aI E 50 (fun _ => 0)), (q_holdSlacks, aI E 50 (fun _ => 0))]) := by
  refine CtV.of (cc := cX2_init) (maxL := 6) (rt := none) (by decide) rfl (Nat.le_of_ble_eq_true rfl) ?_
  intro p e s m below meth c A B ls hl
  obtain ⟨hx, hb, hml, hr, hlk, hin, hts, hown, hK, hN, hZ, hA, hP, hD, hS⟩ := B
  have hown : s.vm.findClass RX2 = some m.cls := hown
  have hto : ∀ w ∈ wo_k_race, w.before _ s = true := fun w h => hts w (List.mem_append_left _ h)
  have hl : lv_has ls 6 [(0, .ref h), (1, .ref a1), (2, .ref a2), (3, .ref a3), (4, .ref a4), (5, .ref a5)] := hl
  obtain ⟨H, hHe⟩ : ∃ H, H = s.heap := ⟨_, rfl⟩
  have hS : va_S A s.heap H [] := by rw [hHe]; exact hS
  have hP : va_P E.1 vwCl [(h, .inr (2, [.null, .null, .null, .null, .null, .int 0, .null, .null, .null, .null, .null, .null, .int 0]))] H := by rw [hHe]; exact hP
  refine W_heap hHe ?_
  have hin : meth.name = "<init>" := hin
  refine lv_aload_n hx hb dX2_init_0 rfl (lv_at hl 0 rfl) ?_
  refine W.objInit hx hb hown (hto (.methodLink RX2 3 objectInit) (by decide +kernel)) (hto (.instanceMethod objectInit) (by decide +kernel)) (hto (.code objectInit ⟨#[0xb1]⟩ 1 none) (by decide +kernel)) rfl (by rw [hml]; exact hl.1) rfl dX2_init_1 (Nat.le_of_ble_eq_true rfl) (Nat.le_of_ble_eq_true rfl) ?_
  refine W.eq (g2 := F0 m 4 ls []) rfl ?_
  refine lv_aload_n hx hb dX2_init_4 rfl (lv_at hl 0 rfl) ?_
  refine lv_iconst (v := 1) hx hb dX2_init_5 (by decide) ?_
  refine va_put (D := E.1) (ci := 2) (v := .int 1) (ty := .int) (own := RX2) (C := RX2) (T := TX2) (N := 13) hx hb hts i_k_race_X2 tyX2 tyX2_ok nmX2 hown hK hP hD hS 0 rfl rfl 5 (by decide) (hto (.fieldLink RX2 9 "TimingHouse$Race" "masks" "I") (by decide +kernel)) (fun _ h9 => h9) rfl (by decide +kernel) rfl rfl (Nat.le_of_ble_eq_true rfl) dX2_init_6 (fun H locs hP hD hS => ?_)
  have hP : va_P E.1 vwCl [(h, .inr (2, [.null, .null, .null, .null, .null, .int 1, .null, .null, .null, .null, .null, .null, .int 0]))] H := hP
  have hD : va_D A [(h, .inr (2, [.null, .null, .null, .null, .null, .int 1, .null, .null, .null, .null, .null, .null, .int 0]))] := hD
  refine lv_aload_n hx hb dX2_init_9 rfl (lv_at hl 0 rfl) ?_
  refine lv_sipush (v := 1600) hx hb dX2_init_10 (by decide) ?_
  refine nw_int (N' := 1600) (A := A) (E := E) hx hb (hto (.arrayClass .int) (by decide +kernel)) hK hP hD hS hA (by decide) (by decide) (Nat.le_of_ble_eq_true rfl) (Nat.le_of_ble_eq_true rfl) dX2_init_13 (fun q_1 H hP hD hS => ?_)
  have hP : va_P E.1 vwCl [(h, .inr (2, [.null, .null, .null, .null, .null, .int 1, .null, .null, .null, .null, .null, .null, .int 0])), (q_1, aI E 1600 (fun _ => 0))] H := hP
  have hD : va_D A [(h, .inr (2, [.null, .null, .null, .null, .null, .int 1, .null, .null, .null, .null, .null, .null, .int 0])), (q_1, aI E 1600 (fun _ => 0))] := hD
  refine va_putF (D := E.1) (ci := 2) (v := .ref q_1) (ty := .array .int) (own := RX2) (C := RX2) (T := TX2) (N := 13) hx hb hts i_k_race_X2 tyX2 tyX2_ok nmX2 hown hK hP hD hS 0 rfl rfl 6 (by decide) (hto (.fieldLink RX2 15 "TimingHouse$Race" "ways" "[I") (by decide +kernel)) (fun _ h9 => h9) rfl hin rfl (by decide +kernel) rfl rfl (Nat.le_of_ble_eq_true rfl) dX2_init_15 (fun H locs hP hD hS => ?_)
  have hP : va_P E.1 vwCl [(h, .inr (2, [.null, .null, .null, .null, .null, .int 1, .ref q_1, .null, .null, .null, .null, .null, .int 0])), (q_1, aI E 1600 (fun _ => 0))] H := hP
  have hD : va_D A [(h, .inr (2, [.null, .null, .null, .null, .null, .int 1, .ref q_1, .null, .null, .null, .null, .null, .int 0])), (q_1, aI E 1600 (fun _ => 0))] := hD
  refine lv_aload_n hx hb dX2_init_18 rfl (lv_at hl 0 rfl) ?_
  refine lv_sipush (v := 1600) hx hb dX2_init_19 (by decide) ?_
  refine nw_int (N' := 1600) (A := A) (E := E) hx hb (hto (.arrayClass .int) (by decide +kernel)) hK hP hD hS hA (by decide) (by decide) (Nat.le_of_ble_eq_true rfl) (Nat.le_of_ble_eq_true rfl) dX2_init_22 (fun q_2 H hP hD hS => ?_)
  have hP : va_P E.1 vwCl [(h, .inr (2, [.null, .null, .null, .null, .null, .int 1, .ref q_1, .null, .null, .null, .null, .null, .int 0])), (q_1, aI E 1600 (fun _ => 0)), (q_2, aI E 1600 (fun _ => 0))] H := hP
  have hD : va_D A [(h, .inr (2, [.null, .null, .null, .null, .null, .int 1, .ref q_1, .null, .null, .null, .null, .null, .int 0])), (q_1, aI E 1600 (fun _ => 0)), (q_2, aI E 1600 (fun _ => 0))] := hD
  refine va_putF (D := E.1) (ci := 2) (v := .ref q_2) (ty := .array .int) (own := RX2) (C := RX2) (T := TX2) (N := 13) hx hb hts i_k_race_X2 tyX2 tyX2_ok nmX2 hown hK hP hD hS 0 rfl rfl 7 (by decide) (hto (.fieldLink RX2 19 "TimingHouse$Race" "lates" "[I") (by decide +kernel)) (fun _ h9 => h9) rfl hin rfl (by decide +kernel) rfl rfl (Nat.le_of_ble_eq_true rfl) dX2_init_24 (fun H locs hP hD hS => ?_)
  have hP : va_P E.1 vwCl [(h, .inr (2, [.null, .null, .null, .null, .null, .int 1, .ref q_1, .ref q_2, .null, .null, .null, .null, .int 0])), (q_1, aI E 1600 (fun _ => 0)), (q_2, aI E 1600 (fun _ => 0))] H := hP
  have hD : va_D A [(h, .inr (2, [.null, .null, .null, .null, .null, .int 1, .ref q_1, .ref q_2, .null, .null, .null, .null, .int 0])), (q_1, aI E 1600 (fun _ => 0)), (q_2, aI E 1600 (fun _ => 0))] := hD
  refine lv_aload_n hx hb dX2_init_27 rfl (lv_at hl 0 rfl) ?_
  refine lv_sipush (v := 1600) hx hb dX2_init_28 (by decide) ?_
  refine nw_int (N' := 1600) (A := A) (E := E) hx hb (hto (.arrayClass .int) (by decide +kernel)) hK hP hD hS hA (by decide) (by decide) (Nat.le_of_ble_eq_true rfl) (Nat.le_of_ble_eq_true rfl) dX2_init_31 (fun q_3 H hP hD hS => ?_)
  have hP : va_P E.1 vwCl [(h, .inr (2, [.null, .null, .null, .null, .null, .int 1, .ref q_1, .ref q_2, .null, .null, .null, .null, .int 0])), (q_1, aI E 1600 (fun _ => 0)), (q_2, aI E 1600 (fun _ => 0)), (q_3, aI E 1600 (fun _ => 0))] H := hP
  have hD : va_D A [(h, .inr (2, [.null, .null, .null, .null, .null, .int 1, .ref q_1, .ref q_2, .null, .null, .null, .null, .int 0])), (q_1, aI E 1600 (fun _ => 0)), (q_2, aI E 1600 (fun _ => 0)), (q_3, aI E 1600 (fun _ => 0))] := hD
  refine va_putF (D := E.1) (ci := 2) (v := .ref q_3) (ty := .array .int) (own := RX2) (C := RX2) (T := TX2) (N := 13) hx hb hts i_k_race_X2 tyX2 tyX2_ok nmX2 hown hK hP hD hS 0 rfl rfl 8 (by decide) (hto (.fieldLink RX2 22 "TimingHouse$Race" "earlies" "[I") (by decide +kernel)) (fun _ h9 => h9) rfl hin rfl (by decide +kernel) rfl rfl (Nat.le_of_ble_eq_true rfl) dX2_init_33 (fun H locs hP hD hS => ?_)
  have hP : va_P E.1 vwCl [(h, .inr (2, [.null, .null, .null, .null, .null, .int 1, .ref q_1, .ref q_2, .ref q_3, .null, .null, .null, .int 0])), (q_1, aI E 1600 (fun _ => 0)), (q_2, aI E 1600 (fun _ => 0)), (q_3, aI E 1600 (fun _ => 0))] H := hP
  have hD : va_D A [(h, .inr (2, [.null, .null, .null, .null, .null, .int 1, .ref q_1, .ref q_2, .ref q_3, .null, .null, .null, .int 0])), (q_1, aI E 1600 (fun _ => 0)), (q_2, aI E 1600 (fun _ => 0)), (q_3, aI E 1600 (fun _ => 0))] := hD
  refine lv_aload_n hx hb dX2_init_36 rfl (lv_at hl 0 rfl) ?_
  refine lv_bipush (v := 50) hx hb dX2_init_37 (by decide) ?_
  refine nw_int (N' := 50) (A := A) (E := E) hx hb (hto (.arrayClass .int) (by decide +kernel)) hK hP hD hS hA (by decide) (by decide) (Nat.le_of_ble_eq_true rfl) (Nat.le_of_ble_eq_true rfl) dX2_init_39 (fun q_4 H hP hD hS => ?_)
  have hP : va_P E.1 vwCl [(h, .inr (2, [.null, .null, .null, .null, .null, .int 1, .ref q_1, .ref q_2, .ref q_3, .null, .null, .null, .int 0])), (q_1, aI E 1600 (fun _ => 0)), (q_2, aI E 1600 (fun _ => 0)), (q_3, aI E 1600 (fun _ => 0)), (q_4, aI E 50 (fun _ => 0))] H := hP
  have hD : va_D A [(h, .inr (2, [.null, .null, .null, .null, .null, .int 1, .ref q_1, .ref q_2, .ref q_3, .null, .null, .null, .int 0])), (q_1, aI E 1600 (fun _ => 0)), (q_2, aI E 1600 (fun _ => 0)), (q_3, aI E 1600 (fun _ => 0)), (q_4, aI E 50 (fun _ => 0))] := hD
  refine va_putF (D := E.1) (ci := 2) (v := .ref q_4) (ty := .array .int) (own := RX2) (C := RX2) (T := TX2) (N := 13) hx hb hts i_k_race_X2 tyX2 tyX2_ok nmX2 hown hK hP hD hS 0 rfl rfl 9 (by decide) (hto (.fieldLink RX2 25 "TimingHouse$Race" "counts" "[I") (by decide +kernel)) (fun _ h9 => h9) rfl hin rfl (by decide +kernel) rfl rfl (Nat.le_of_ble_eq_true rfl) dX2_init_41 (fun H locs hP hD hS => ?_)
  have hP : va_P E.1 vwCl [(h, .inr (2, [.null, .null, .null, .null, .null, .int 1, .ref q_1, .ref q_2, .ref q_3, .ref q_4, .null, .null, .int 0])), (q_1, aI E 1600 (fun _ => 0)), (q_2, aI E 1600 (fun _ => 0)), (q_3, aI E 1600 (fun _ => 0)), (q_4, aI E 50 (fun _ => 0))] H := hP
  have hD : va_D A [(h, .inr (2, [.null, .null, .null, .null, .null, .int 1, .ref q_1, .ref q_2, .ref q_3, .ref q_4, .null, .null, .int 0])), (q_1, aI E 1600 (fun _ => 0)), (q_2, aI E 1600 (fun _ => 0)), (q_3, aI E 1600 (fun _ => 0)), (q_4, aI E 50 (fun _ => 0))] := hD
  refine lv_aload_n hx hb dX2_init_44 rfl (lv_at hl 0 rfl) ?_
  refine lv_bipush (v := 50) hx hb dX2_init_45 (by decide) ?_
  refine nw_int (N' := 50) (A := A) (E := E) hx hb (hto (.arrayClass .int) (by decide +kernel)) hK hP hD hS hA (by decide) (by decide) (Nat.le_of_ble_eq_true rfl) (Nat.le_of_ble_eq_true rfl) dX2_init_47 (fun q_5 H hP hD hS => ?_)
  have hP : va_P E.1 vwCl [(h, .inr (2, [.null, .null, .null, .null, .null, .int 1, .ref q_1, .ref q_2, .ref q_3, .ref q_4, .null, .null, .int 0])), (q_1, aI E 1600 (fun _ => 0)), (q_2, aI E 1600 (fun _ => 0)), (q_3, aI E 1600 (fun _ => 0)), (q_4, aI E 50 (fun _ => 0)), (q_5, aI E 50 (fun _ => 0))] H := hP
  have hD : va_D A [(h, .inr (2, [.null, .null, .null, .null, .null, .int 1, .ref q_1, .ref q_2, .ref q_3, .ref q_4, .null, .null, .int 0])), (q_1, aI E 1600 (fun _ => 0)), (q_2, aI E 1600 (fun _ => 0)), (q_3, aI E 1600 (fun _ => 0)), (q_4, aI E 50 (fun _ => 0)), (q_5, aI E 50 (fun _ => 0))] := hD
  refine va_putF (D := E.1) (ci := 2) (v := .ref q_5) (ty := .array .int) (own := RX2) (C := RX2) (T := TX2) (N := 13) hx hb hts i_k_race_X2 tyX2 tyX2_ok nmX2 hown hK hP hD hS 0 rfl rfl 10 (by decide) (hto (.fieldLink RX2 28 "TimingHouse$Race" "slacks" "[I") (by decide +kernel)) (fun _ h9 => h9) rfl hin rfl (by decide +kernel) rfl rfl (Nat.le_of_ble_eq_true rfl) dX2_init_49 (fun H locs hP hD hS => ?_)
  have hP : va_P E.1 vwCl [(h, .inr (2, [.null, .null, .null, .null, .null, .int 1, .ref q_1, .ref q_2, .ref q_3, .ref q_4, .ref q_5, .null, .int 0])), (q_1, aI E 1600 (fun _ => 0)), (q_2, aI E 1600 (fun _ => 0)), (q_3, aI E 1600 (fun _ => 0)), (q_4, aI E 50 (fun _ => 0)), (q_5, aI E 50 (fun _ => 0))] H := hP
  have hD : va_D A [(h, .inr (2, [.null, .null, .null, .null, .null, .int 1, .ref q_1, .ref q_2, .ref q_3, .ref q_4, .ref q_5, .null, .int 0])), (q_1, aI E 1600 (fun _ => 0)), (q_2, aI E 1600 (fun _ => 0)), (q_3, aI E 1600 (fun _ => 0)), (q_4, aI E 50 (fun _ => 0)), (q_5, aI E 50 (fun _ => 0))] := hD
  refine lv_aload_n hx hb dX2_init_52 rfl (lv_at hl 0 rfl) ?_
  refine lv_bipush (v := 50) hx hb dX2_init_53 (by decide) ?_
  refine nw_int (N' := 50) (A := A) (E := E) hx hb (hto (.arrayClass .int) (by decide +kernel)) hK hP hD hS hA (by decide) (by decide) (Nat.le_of_ble_eq_true rfl) (Nat.le_of_ble_eq_true rfl) dX2_init_55 (fun q_6 H hP hD hS => ?_)
  have hP : va_P E.1 vwCl [(h, .inr (2, [.null, .null, .null, .null, .null, .int 1, .ref q_1, .ref q_2, .ref q_3, .ref q_4, .ref q_5, .null, .int 0])), (q_1, aI E 1600 (fun _ => 0)), (q_2, aI E 1600 (fun _ => 0)), (q_3, aI E 1600 (fun _ => 0)), (q_4, aI E 50 (fun _ => 0)), (q_5, aI E 50 (fun _ => 0)), (q_6, aI E 50 (fun _ => 0))] H := hP
  have hD : va_D A [(h, .inr (2, [.null, .null, .null, .null, .null, .int 1, .ref q_1, .ref q_2, .ref q_3, .ref q_4, .ref q_5, .null, .int 0])), (q_1, aI E 1600 (fun _ => 0)), (q_2, aI E 1600 (fun _ => 0)), (q_3, aI E 1600 (fun _ => 0)), (q_4, aI E 50 (fun _ => 0)), (q_5, aI E 50 (fun _ => 0)), (q_6, aI E 50 (fun _ => 0))] := hD
  refine va_putF (D := E.1) (ci := 2) (v := .ref q_6) (ty := .array .int) (own := RX2) (C := RX2) (T := TX2) (N := 13) hx hb hts i_k_race_X2 tyX2 tyX2_ok nmX2 hown hK hP hD hS 0 rfl rfl 11 (by decide) (hto (.fieldLink RX2 31 "TimingHouse$Race" "holdSlacks" "[I") (by decide +kernel)) (fun _ h9 => h9) rfl hin rfl (by decide +kernel) rfl rfl (Nat.le_of_ble_eq_true rfl) dX2_init_57 (fun H locs hP hD hS => ?_)
  have hP : va_P E.1 vwCl [(h, .inr (2, [.null, .null, .null, .null, .null, .int 1, .ref q_1, .ref q_2, .ref q_3, .ref q_4, .ref q_5, .ref q_6, .int 0])), (q_1, aI E 1600 (fun _ => 0)), (q_2, aI E 1600 (fun _ => 0)), (q_3, aI E 1600 (fun _ => 0)), (q_4, aI E 50 (fun _ => 0)), (q_5, aI E 50 (fun _ => 0)), (q_6, aI E 50 (fun _ => 0))] H := hP
  have hD : va_D A [(h, .inr (2, [.null, .null, .null, .null, .null, .int 1, .ref q_1, .ref q_2, .ref q_3, .ref q_4, .ref q_5, .ref q_6, .int 0])), (q_1, aI E 1600 (fun _ => 0)), (q_2, aI E 1600 (fun _ => 0)), (q_3, aI E 1600 (fun _ => 0)), (q_4, aI E 50 (fun _ => 0)), (q_5, aI E 50 (fun _ => 0)), (q_6, aI E 50 (fun _ => 0))] := hD
  refine lv_aload_n hx hb dX2_init_60 rfl (lv_at hl 0 rfl) ?_
  refine lv_iconst (v := 1) hx hb dX2_init_61 (by decide) ?_
  refine va_put (D := E.1) (ci := 2) (v := .int 1) (ty := .int) (own := RX2) (C := RX2) (T := TX2) (N := 13) hx hb hts i_k_race_X2 tyX2 tyX2_ok nmX2 hown hK hP hD hS 0 rfl rfl 12 (by decide) (hto (.fieldLink RX2 34 "TimingHouse$Race" "needed" "I") (by decide +kernel)) (fun _ h9 => h9) rfl (by decide +kernel) rfl rfl (Nat.le_of_ble_eq_true rfl) dX2_init_62 (fun H locs hP hD hS => ?_)
  have hP : va_P E.1 vwCl [(h, .inr (2, [.null, .null, .null, .null, .null, .int 1, .ref q_1, .ref q_2, .ref q_3, .ref q_4, .ref q_5, .ref q_6, .int 1])), (q_1, aI E 1600 (fun _ => 0)), (q_2, aI E 1600 (fun _ => 0)), (q_3, aI E 1600 (fun _ => 0)), (q_4, aI E 50 (fun _ => 0)), (q_5, aI E 50 (fun _ => 0)), (q_6, aI E 50 (fun _ => 0))] H := hP
  have hD : va_D A [(h, .inr (2, [.null, .null, .null, .null, .null, .int 1, .ref q_1, .ref q_2, .ref q_3, .ref q_4, .ref q_5, .ref q_6, .int 1])), (q_1, aI E 1600 (fun _ => 0)), (q_2, aI E 1600 (fun _ => 0)), (q_3, aI E 1600 (fun _ => 0)), (q_4, aI E 50 (fun _ => 0)), (q_5, aI E 50 (fun _ => 0)), (q_6, aI E 50 (fun _ => 0))] := hD
  refine lv_aload_n hx hb dX2_init_65 rfl (lv_at hl 0 rfl) ?_
  refine lv_aload_n hx hb dX2_init_66 rfl (lv_at hl 1 rfl) ?_
  refine va_putF (D := E.1) (ci := 2) (v := .ref a1) (ty := .object "TimingHouse$Net") (own := RX2) (C := RX2) (T := TX2) (N := 13) hx hb hts i_k_race_X2 tyX2 tyX2_ok nmX2 hown hK hP hD hS 0 rfl rfl 0 (by decide) (hto (.fieldLink RX2 37 "TimingHouse$Race" "net" "LTimingHouse$Net;") (by decide +kernel)) (fun _ h9 => h9) rfl hin rfl (by decide +kernel) rfl rfl (Nat.le_of_ble_eq_true rfl) dX2_init_67 (fun H locs hP hD hS => ?_)
  have hP : va_P E.1 vwCl [(h, .inr (2, [.ref a1, .null, .null, .null, .null, .int 1, .ref q_1, .ref q_2, .ref q_3, .ref q_4, .ref q_5, .ref q_6, .int 1])), (q_1, aI E 1600 (fun _ => 0)), (q_2, aI E 1600 (fun _ => 0)), (q_3, aI E 1600 (fun _ => 0)), (q_4, aI E 50 (fun _ => 0)), (q_5, aI E 50 (fun _ => 0)), (q_6, aI E 50 (fun _ => 0))] H := hP
  have hD : va_D A [(h, .inr (2, [.ref a1, .null, .null, .null, .null, .int 1, .ref q_1, .ref q_2, .ref q_3, .ref q_4, .ref q_5, .ref q_6, .int 1])), (q_1, aI E 1600 (fun _ => 0)), (q_2, aI E 1600 (fun _ => 0)), (q_3, aI E 1600 (fun _ => 0)), (q_4, aI E 50 (fun _ => 0)), (q_5, aI E 50 (fun _ => 0)), (q_6, aI E 50 (fun _ => 0))] := hD
  refine lv_aload_n hx hb dX2_init_70 rfl (lv_at hl 0 rfl) ?_
  refine lv_aload_n hx hb dX2_init_71 rfl (lv_at hl 2 rfl) ?_
  refine va_putF (D := E.1) (ci := 2) (v := .ref a2) (ty := .object "TimingHouse$Stations") (own := RX2) (C := RX2) (T := TX2) (N := 13) hx hb hts i_k_race_X2 tyX2 tyX2_ok nmX2 hown hK hP hD hS 0 rfl rfl 1 (by decide) (hto (.fieldLink RX2 41 "TimingHouse$Race" "stations" "LTimingHouse$Stations;") (by decide +kernel)) (fun _ h9 => h9) rfl hin rfl (by decide +kernel) rfl rfl (Nat.le_of_ble_eq_true rfl) dX2_init_72 (fun H locs hP hD hS => ?_)
  have hP : va_P E.1 vwCl [(h, .inr (2, [.ref a1, .ref a2, .null, .null, .null, .int 1, .ref q_1, .ref q_2, .ref q_3, .ref q_4, .ref q_5, .ref q_6, .int 1])), (q_1, aI E 1600 (fun _ => 0)), (q_2, aI E 1600 (fun _ => 0)), (q_3, aI E 1600 (fun _ => 0)), (q_4, aI E 50 (fun _ => 0)), (q_5, aI E 50 (fun _ => 0)), (q_6, aI E 50 (fun _ => 0))] H := hP
  have hD : va_D A [(h, .inr (2, [.ref a1, .ref a2, .null, .null, .null, .int 1, .ref q_1, .ref q_2, .ref q_3, .ref q_4, .ref q_5, .ref q_6, .int 1])), (q_1, aI E 1600 (fun _ => 0)), (q_2, aI E 1600 (fun _ => 0)), (q_3, aI E 1600 (fun _ => 0)), (q_4, aI E 50 (fun _ => 0)), (q_5, aI E 50 (fun _ => 0)), (q_6, aI E 50 (fun _ => 0))] := hD
  refine lv_aload_n hx hb dX2_init_75 rfl (lv_at hl 0 rfl) ?_
  refine lv_aload_n hx hb dX2_init_76 rfl (lv_at hl 3 rfl) ?_
  refine va_putF (D := E.1) (ci := 2) (v := .ref a3) (ty := .object "TimingHouse$Clock") (own := RX2) (C := RX2) (T := TX2) (N := 13) hx hb hts i_k_race_X2 tyX2 tyX2_ok nmX2 hown hK hP hD hS 0 rfl rfl 2 (by decide) (hto (.fieldLink RX2 45 "TimingHouse$Race" "clock" "LTimingHouse$Clock;") (by decide +kernel)) (fun _ h9 => h9) rfl hin rfl (by decide +kernel) rfl rfl (Nat.le_of_ble_eq_true rfl) dX2_init_77 (fun H locs hP hD hS => ?_)
  have hP : va_P E.1 vwCl [(h, .inr (2, [.ref a1, .ref a2, .ref a3, .null, .null, .int 1, .ref q_1, .ref q_2, .ref q_3, .ref q_4, .ref q_5, .ref q_6, .int 1])), (q_1, aI E 1600 (fun _ => 0)), (q_2, aI E 1600 (fun _ => 0)), (q_3, aI E 1600 (fun _ => 0)), (q_4, aI E 50 (fun _ => 0)), (q_5, aI E 50 (fun _ => 0)), (q_6, aI E 50 (fun _ => 0))] H := hP
  have hD : va_D A [(h, .inr (2, [.ref a1, .ref a2, .ref a3, .null, .null, .int 1, .ref q_1, .ref q_2, .ref q_3, .ref q_4, .ref q_5, .ref q_6, .int 1])), (q_1, aI E 1600 (fun _ => 0)), (q_2, aI E 1600 (fun _ => 0)), (q_3, aI E 1600 (fun _ => 0)), (q_4, aI E 50 (fun _ => 0)), (q_5, aI E 50 (fun _ => 0)), (q_6, aI E 50 (fun _ => 0))] := hD
  refine lv_aload_n hx hb dX2_init_80 rfl (lv_at hl 0 rfl) ?_
  refine lv_aload hx hb dX2_init_81 (lv_at hl 4 rfl) ?_
  refine va_putF (D := E.1) (ci := 2) (v := .ref a4) (ty := .object "TimingHouse$Rules") (own := RX2) (C := RX2) (T := TX2) (N := 13) hx hb hts i_k_race_X2 tyX2 tyX2_ok nmX2 hown hK hP hD hS 0 rfl rfl 3 (by decide) (hto (.fieldLink RX2 49 "TimingHouse$Race" "rules" "LTimingHouse$Rules;") (by decide +kernel)) (fun _ h9 => h9) rfl hin rfl (by decide +kernel) rfl rfl (Nat.le_of_ble_eq_true rfl) dX2_init_83 (fun H locs hP hD hS => ?_)
  have hP : va_P E.1 vwCl [(h, .inr (2, [.ref a1, .ref a2, .ref a3, .ref a4, .null, .int 1, .ref q_1, .ref q_2, .ref q_3, .ref q_4, .ref q_5, .ref q_6, .int 1])), (q_1, aI E 1600 (fun _ => 0)), (q_2, aI E 1600 (fun _ => 0)), (q_3, aI E 1600 (fun _ => 0)), (q_4, aI E 50 (fun _ => 0)), (q_5, aI E 50 (fun _ => 0)), (q_6, aI E 50 (fun _ => 0))] H := hP
  have hD : va_D A [(h, .inr (2, [.ref a1, .ref a2, .ref a3, .ref a4, .null, .int 1, .ref q_1, .ref q_2, .ref q_3, .ref q_4, .ref q_5, .ref q_6, .int 1])), (q_1, aI E 1600 (fun _ => 0)), (q_2, aI E 1600 (fun _ => 0)), (q_3, aI E 1600 (fun _ => 0)), (q_4, aI E 50 (fun _ => 0)), (q_5, aI E 50 (fun _ => 0)), (q_6, aI E 50 (fun _ => 0))] := hD
  refine lv_aload_n hx hb dX2_init_86 rfl (lv_at hl 0 rfl) ?_
  refine lv_aload hx hb dX2_init_87 (lv_at hl 5 rfl) ?_
  refine va_putF (D := E.1) (ci := 2) (v := .ref a5) (ty := .object "TimingHouse$Timing") (own := RX2) (C := RX2) (T := TX2) (N := 13) hx hb hts i_k_race_X2 tyX2 tyX2_ok nmX2 hown hK hP hD hS 0 rfl rfl 4 (by decide) (hto (.fieldLink RX2 53 "TimingHouse$Race" "timing" "LTimingHouse$Timing;") (by decide +kernel)) (fun _ h9 => h9) rfl hin rfl (by decide +kernel) rfl rfl (Nat.le_of_ble_eq_true rfl) dX2_init_89 (fun H locs hP hD hS => ?_)
  have hP : va_P E.1 vwCl [(h, .inr (2, [.ref a1, .ref a2, .ref a3, .ref a4, .ref a5, .int 1, .ref q_1, .ref q_2, .ref q_3, .ref q_4, .ref q_5, .ref q_6, .int 1])), (q_1, aI E 1600 (fun _ => 0)), (q_2, aI E 1600 (fun _ => 0)), (q_3, aI E 1600 (fun _ => 0)), (q_4, aI E 50 (fun _ => 0)), (q_5, aI E 50 (fun _ => 0)), (q_6, aI E 50 (fun _ => 0))] H := hP
  have hD : va_D A [(h, .inr (2, [.ref a1, .ref a2, .ref a3, .ref a4, .ref a5, .int 1, .ref q_1, .ref q_2, .ref q_3, .ref q_4, .ref q_5, .ref q_6, .int 1])), (q_1, aI E 1600 (fun _ => 0)), (q_2, aI E 1600 (fun _ => 0)), (q_3, aI E 1600 (fun _ => 0)), (q_4, aI E 50 (fun _ => 0)), (q_5, aI E 50 (fun _ => 0)), (q_6, aI E 50 (fun _ => 0))] := hD
  exact ret_v hx hb hr hlk (hP.sub (ws' := [(h, .inr (2, [.ref a1, .ref a2, .ref a3, .ref a4, .ref a5, .int 1, .ref q_1, .ref q_2, .ref q_3, .ref q_4, .ref q_5, .ref q_6, .int 1])), (q_1, aI E 1600 (fun _ => 0)), (q_2, aI E 1600 (fun _ => 0)), (q_3, aI E 1600 (fun _ => 0)), (q_4, aI E 50 (fun _ => 0)), (q_5, aI E 50 (fun _ => 0)), (q_6, aI E 50 (fun _ => 0))]) [0, 1, 2, 3, 4, 5, 6] rfl) (hD.sub (ws' := [(h, .inr (2, [.ref a1, .ref a2, .ref a3, .ref a4, .ref a5, .int 1, .ref q_1, .ref q_2, .ref q_3, .ref q_4, .ref q_5, .ref q_6, .int 1])), (q_1, aI E 1600 (fun _ => 0)), (q_2, aI E 1600 (fun _ => 0)), (q_3, aI E 1600 (fun _ => 0)), (q_4, aI E 50 (fun _ => 0)), (q_5, aI E 50 (fun _ => 0)), (q_6, aI E 50 (fun _ => 0))]) [0, 1, 2, 3, 4, 5, 6] (by decide) rfl) hS dX2_init_92 (Nat.le_of_ble_eq_true rfl) (Nat.le_of_ble_eq_true rfl) ⟨q_1, q_2, q_3, q_4, q_5, q_6, rfl⟩
