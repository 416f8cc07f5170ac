theorem dX7_init_0 : decode cX7_init 0 = .ok (.aload_n 0, 1) := by decide +kernel
theorem dX7_init_1 : decode cX7_init 1 = .ok (.invokespecial 3, 3) := by decide +kernel
theorem dX7_init_4 : decode cX7_init 4 = .ok (.aload_n 0, 1) := by decide +kernel
theorem dX7_init_5 : decode cX7_init 5 = .ok (.iconst 1, 1) := by decide +kernel
theorem dX7_init_6 : decode cX7_init 6 = .ok (.putfield 9, 3) := by decide +kernel
theorem dX7_init_9 : decode cX7_init 9 = .ok (.aload_n 0, 1) := by decide +kernel
theorem dX7_init_10 : decode cX7_init 10 = .ok (.sipush 800, 3) := by decide +kernel
theorem dX7_init_13 : decode cX7_init 13 = .ok (.newarray .int, 2) := by decide +kernel
theorem dX7_init_15 : decode cX7_init 15 = .ok (.putfield 15, 3) := by decide +kernel
theorem dX7_init_18 : decode cX7_init 18 = .ok (.aload_n 0, 1) := by decide +kernel
theorem dX7_init_19 : decode cX7_init 19 = .ok (.sipush 1000, 3) := by decide +kernel
theorem dX7_init_22 : decode cX7_init 22 = .ok (.newarray .long, 2) := by decide +kernel
theorem dX7_init_24 : decode cX7_init 24 = .ok (.putfield 19, 3) := by decide +kernel
theorem dX7_init_27 : decode cX7_init 27 = .ok (.aload_n 0, 1) := by decide +kernel
theorem dX7_init_28 : decode cX7_init 28 = .ok (.aload_n 1, 1) := by decide +kernel
theorem dX7_init_29 : decode cX7_init 29 = .ok (.putfield 23, 3) := by decide +kernel
theorem dX7_init_32 : decode cX7_init 32 = .ok (.aload_n 0, 1) := by decide +kernel
theorem dX7_init_33 : decode cX7_init 33 = .ok (.aload_n 2, 1) := by decide +kernel
theorem dX7_init_34 : decode cX7_init 34 = .ok (.putfield 27, 3) := by decide +kernel
theorem dX7_init_37 : decode cX7_init 37 = .ok (.aload_n 0, 1) := by decide +kernel
theorem dX7_init_38 : decode cX7_init 38 = .ok (.aload_n 3, 1) := by decide +kernel
theorem dX7_init_39 : decode cX7_init 39 = .ok (.putfield 31, 3) := by decide +kernel
theorem dX7_init_42 : decode cX7_init 42 = .ok (.aload_n 0, 1) := by decide +kernel
theorem dX7_init_43 : decode cX7_init 43 = .ok (.aload 4, 2) := by decide +kernel
theorem dX7_init_45 : decode cX7_init 45 = .ok (.putfield 35, 3) := by decide +kernel
theorem dX7_init_48 : decode cX7_init 48 = .ok (.aload_n 0, 1) := by decide +kernel
theorem dX7_init_49 : decode cX7_init 49 = .ok (.aload 5, 2) := by decide +kernel
theorem dX7_init_51 : decode cX7_init 51 = .ok (.putfield 39, 3) := by decide +kernel
theorem dX7_init_54 : decode cX7_init 54 = .ok (.return_, 1) := by decide +kernel
def wo_k_tracer : List Cond := [.code yX7_init cX7_init 6 none, .methodLink RX7 3 objectInit, .instanceMethod objectInit, .code objectInit ⟨#[0xb1]⟩ 1 none, .fieldLink RX7 9 "TimingHouse$Tracer" "masks" "I", .arrayClass .int, .fieldLink RX7 15 "TimingHouse$Tracer" "onward" "[I", .arrayClass .long, .fieldLink RX7 19 "TimingHouse$Tracer" "keys" "[J", .fieldLink RX7 23 "TimingHouse$Tracer" "net" "LTimingHouse$Net;", .fieldLink RX7 27 "TimingHouse$Tracer" "clock" "LTimingHouse$Clock;", .fieldLink RX7 31 "TimingHouse$Tracer" "rules" "LTimingHouse$Rules;", .fieldLink RX7 35 "TimingHouse$Tracer" "timing" "LTimingHouse$Timing;", .fieldLink RX7 39 "TimingHouse$Tracer" "race" "LTimingHouse$Race;"]
def wr_k_tracer : List Cond := (wsX70 ++ ([]))
def w_k_tracer : List Cond := wo_k_tracer ++ wr_k_tracer
theorem wg_k_tracer : GW w_k_tracer := GW_app (GW_of (by decide +kernel)) (GW_app (GW_of (by decide +kernel)) (GW_nil))
theorem i_k_tracer_X7 : ∀ w ∈ wsX70, w ∈ w_k_tracer := fun _ h => List.mem_append_right _ (List.mem_append_left _ h)
set_option maxHeartbeats 4000000 in
set_option maxRecDepth 100000 in
theorem k_tracer (l : Launch) (E : gE) (h : Nat) (a1 : Nat) (a2 : Nat) (a3 : Nat) (a4 : Nat) (a5 : Nat) : CtV l E yX7_init w_k_tracer ({ frames := 1, cells := 2, slots := 1800, locals := 20 }) [(h, .inr (7, [.null, .null, .null, .null, .null, .int 0, .int 0, .int 0, .int 0, .null, .null, .int 0]))] [.ref h, .ref a1, .ref a2, .ref a3, .ref a4, .ref a5] (fun w => ∃ q_onward : Nat, ∃ q_keys : Nat, w = [(h, .inr (7, [.ref a1, .ref a2, .ref a3, .ref a4, .ref a5, .int 1, .int 0, .int 0, .int 0, .ref q_onward, .ref q_keys, .int 0])), (q_onward, aI E 800 (fun _ => 0)), (q_keys, aJ E 1000 (fun _ => 0))]) := by
  refine CtV.of (cc := cX7_init) (maxL := 6) (rt := none) (by decide) rfl (Nat.le_of_ble_eq_true rfl) ?_
  intro p e s m below meth c A B ls hl
  obtain ⟨hx, hb, hml, hr, hlk, hin, hts, hown, hK, hN, hZ, hA, hP, hD, hS⟩ := B
  have hown : s.vm.findClass RX7 = some m.cls := hown
  have hto : ∀ w ∈ wo_k_tracer, w.before _ s = true := fun w h => hts w (List.mem_append_left _ h)
  have hl : lv_has ls 6 [(0, .ref h), (1, .ref a1), (2, .ref a2), (3, .ref a3), (4, .ref a4), (5, .ref a5)] := hl
  obtain ⟨H, hHe⟩ : ∃ H, H = s.heap := ⟨_, rfl⟩
  have hS : va_S A s.heap H [] := by rw [hHe]; exact hS
  have hP : va_P E.1 vwCl [(h, .inr (7, [.null, .null, .null, .null, .null, .int 0, .int 0, .int 0, .int 0, .null, .null, .int 0]))] H := by rw [hHe]; exact hP
  refine W_heap hHe ?_
  have hin : meth.name = "<init>" := hin
  refine lv_aload_n hx hb dX7_init_0 rfl (lv_at hl 0 rfl) ?_
  refine W.objInit hx hb hown (hto (.methodLink RX7 3 objectInit) (by decide +kernel)) (hto (.instanceMethod objectInit) (by decide +kernel)) (hto (.code objectInit ⟨#[0xb1]⟩ 1 none) (by decide +kernel)) rfl (by rw [hml]; exact hl.1) rfl dX7_init_1 (Nat.le_of_ble_eq_true rfl) (Nat.le_of_ble_eq_true rfl) ?_
  refine W.eq (g2 := F0 m 4 ls []) rfl ?_
  refine lv_aload_n hx hb dX7_init_4 rfl (lv_at hl 0 rfl) ?_
  refine lv_iconst (v := 1) hx hb dX7_init_5 (by decide) ?_
  refine va_put (D := E.1) (ci := 7) (v := .int 1) (ty := .int) (own := RX7) (C := RX7) (T := TX7) (N := 12) hx hb hts i_k_tracer_X7 tyX7 tyX7_ok nmX7 hown hK hP hD hS 0 rfl rfl 5 (by decide) (hto (.fieldLink RX7 9 "TimingHouse$Tracer" "masks" "I") (by decide +kernel)) (fun _ h9 => h9) rfl (by decide +kernel) rfl rfl (Nat.le_of_ble_eq_true rfl) dX7_init_6 (fun H locs hP hD hS => ?_)
  have hP : va_P E.1 vwCl [(h, .inr (7, [.null, .null, .null, .null, .null, .int 1, .int 0, .int 0, .int 0, .null, .null, .int 0]))] H := hP
  have hD : va_D A [(h, .inr (7, [.null, .null, .null, .null, .null, .int 1, .int 0, .int 0, .int 0, .null, .null, .int 0]))] := hD
  refine lv_aload_n hx hb dX7_init_9 rfl (lv_at hl 0 rfl) ?_
  refine lv_sipush (v := 800) hx hb dX7_init_10 (by decide) ?_
  refine nw_int (N' := 800) (A := A) (E := E) hx hb (hto (.arrayClass .int) (by decide +kernel)) hK hP hD hS hA (by decide) (by decide) (Nat.le_of_ble_eq_true rfl) (Nat.le_of_ble_eq_true rfl) dX7_init_13 (fun q_1 H hP hD hS => ?_)
  have hP : va_P E.1 vwCl [(h, .inr (7, [.null, .null, .null, .null, .null, .int 1, .int 0, .int 0, .int 0, .null, .null, .int 0])), (q_1, aI E 800 (fun _ => 0))] H := hP
  have hD : va_D A [(h, .inr (7, [.null, .null, .null, .null, .null, .int 1, .int 0, .int 0, .int 0, .null, .null, .int 0])), (q_1, aI E 800 (fun _ => 0))] := hD
  refine va_putF (D := E.1) (ci := 7) (v := .ref q_1) (ty := .array .int) (own := RX7) (C := RX7) (T := TX7) (N := 12) hx hb hts i_k_tracer_X7 tyX7 tyX7_ok nmX7 hown hK hP hD hS 0 rfl rfl 9 (by decide) (hto (.fieldLink RX7 15 "TimingHouse$Tracer" "onward" "[I") (by decide +kernel)) (fun _ h9 => h9) rfl hin rfl (by decide +kernel) rfl rfl (Nat.le_of_ble_eq_true rfl) dX7_init_15 (fun H locs hP hD hS => ?_)
  have hP : va_P E.1 vwCl [(h, .inr (7, [.null, .null, .null, .null, .null, .int 1, .int 0, .int 0, .int 0, .ref q_1, .null, .int 0])), (q_1, aI E 800 (fun _ => 0))] H := hP
  have hD : va_D A [(h, .inr (7, [.null, .null, .null, .null, .null, .int 1, .int 0, .int 0, .int 0, .ref q_1, .null, .int 0])), (q_1, aI E 800 (fun _ => 0))] := hD
  refine lv_aload_n hx hb dX7_init_18 rfl (lv_at hl 0 rfl) ?_
  refine lv_sipush (v := 1000) hx hb dX7_init_19 (by decide) ?_
  refine nw_long (N' := 1000) (A := A) (E := E) hx hb (hto (.arrayClass .long) (by decide +kernel)) hK hP hD hS hA (by decide) (by decide) (Nat.le_of_ble_eq_true rfl) (Nat.le_of_ble_eq_true rfl) dX7_init_22 (fun q_2 H hP hD hS => ?_)
  have hP : va_P E.1 vwCl [(h, .inr (7, [.null, .null, .null, .null, .null, .int 1, .int 0, .int 0, .int 0, .ref q_1, .null, .int 0])), (q_1, aI E 800 (fun _ => 0)), (q_2, aJ E 1000 (fun _ => 0))] H := hP
  have hD : va_D A [(h, .inr (7, [.null, .null, .null, .null, .null, .int 1, .int 0, .int 0, .int 0, .ref q_1, .null, .int 0])), (q_1, aI E 800 (fun _ => 0)), (q_2, aJ E 1000 (fun _ => 0))] := hD
  refine va_putF (D := E.1) (ci := 7) (v := .ref q_2) (ty := .array .long) (own := RX7) (C := RX7) (T := TX7) (N := 12) hx hb hts i_k_tracer_X7 tyX7 tyX7_ok nmX7 hown hK hP hD hS 0 rfl rfl 10 (by decide) (hto (.fieldLink RX7 19 "TimingHouse$Tracer" "keys" "[J") (by decide +kernel)) (fun _ h9 => h9) rfl hin rfl (by decide +kernel) rfl rfl (Nat.le_of_ble_eq_true rfl) dX7_init_24 (fun H locs hP hD hS => ?_)
  have hP : va_P E.1 vwCl [(h, .inr (7, [.null, .null, .null, .null, .null, .int 1, .int 0, .int 0, .int 0, .ref q_1, .ref q_2, .int 0])), (q_1, aI E 800 (fun _ => 0)), (q_2, aJ E 1000 (fun _ => 0))] H := hP
  have hD : va_D A [(h, .inr (7, [.null, .null, .null, .null, .null, .int 1, .int 0, .int 0, .int 0, .ref q_1, .ref q_2, .int 0])), (q_1, aI E 800 (fun _ => 0)), (q_2, aJ E 1000 (fun _ => 0))] := hD
  refine lv_aload_n hx hb dX7_init_27 rfl (lv_at hl 0 rfl) ?_
  refine lv_aload_n hx hb dX7_init_28 rfl (lv_at hl 1 rfl) ?_
  refine va_putF (D := E.1) (ci := 7) (v := .ref a1) (ty := .object "TimingHouse$Net") (own := RX7) (C := RX7) (T := TX7) (N := 12) hx hb hts i_k_tracer_X7 tyX7 tyX7_ok nmX7 hown hK hP hD hS 0 rfl rfl 0 (by decide) (hto (.fieldLink RX7 23 "TimingHouse$Tracer" "net" "LTimingHouse$Net;") (by decide +kernel)) (fun _ h9 => h9) rfl hin rfl (by decide +kernel) rfl rfl (Nat.le_of_ble_eq_true rfl) dX7_init_29 (fun H locs hP hD hS => ?_)
  have hP : va_P E.1 vwCl [(h, .inr (7, [.ref a1, .null, .null, .null, .null, .int 1, .int 0, .int 0, .int 0, .ref q_1, .ref q_2, .int 0])), (q_1, aI E 800 (fun _ => 0)), (q_2, aJ E 1000 (fun _ => 0))] H := hP
  have hD : va_D A [(h, .inr (7, [.ref a1, .null, .null, .null, .null, .int 1, .int 0, .int 0, .int 0, .ref q_1, .ref q_2, .int 0])), (q_1, aI E 800 (fun _ => 0)), (q_2, aJ E 1000 (fun _ => 0))] := hD
  refine lv_aload_n hx hb dX7_init_32 rfl (lv_at hl 0 rfl) ?_
  refine lv_aload_n hx hb dX7_init_33 rfl (lv_at hl 2 rfl) ?_
  refine va_putF (D := E.1) (ci := 7) (v := .ref a2) (ty := .object "TimingHouse$Clock") (own := RX7) (C := RX7) (T := TX7) (N := 12) hx hb hts i_k_tracer_X7 tyX7 tyX7_ok nmX7 hown hK hP hD hS 0 rfl rfl 1 (by decide) (hto (.fieldLink RX7 27 "TimingHouse$Tracer" "clock" "LTimingHouse$Clock;") (by decide +kernel)) (fun _ h9 => h9) rfl hin rfl (by decide +kernel) rfl rfl (Nat.le_of_ble_eq_true rfl) dX7_init_34 (fun H locs hP hD hS => ?_)
  have hP : va_P E.1 vwCl [(h, .inr (7, [.ref a1, .ref a2, .null, .null, .null, .int 1, .int 0, .int 0, .int 0, .ref q_1, .ref q_2, .int 0])), (q_1, aI E 800 (fun _ => 0)), (q_2, aJ E 1000 (fun _ => 0))] H := hP
  have hD : va_D A [(h, .inr (7, [.ref a1, .ref a2, .null, .null, .null, .int 1, .int 0, .int 0, .int 0, .ref q_1, .ref q_2, .int 0])), (q_1, aI E 800 (fun _ => 0)), (q_2, aJ E 1000 (fun _ => 0))] := hD
  refine lv_aload_n hx hb dX7_init_37 rfl (lv_at hl 0 rfl) ?_
  refine lv_aload_n hx hb dX7_init_38 rfl (lv_at hl 3 rfl) ?_
  refine va_putF (D := E.1) (ci := 7) (v := .ref a3) (ty := .object "TimingHouse$Rules") (own := RX7) (C := RX7) (T := TX7) (N := 12) hx hb hts i_k_tracer_X7 tyX7 tyX7_ok nmX7 hown hK hP hD hS 0 rfl rfl 2 (by decide) (hto (.fieldLink RX7 31 "TimingHouse$Tracer" "rules" "LTimingHouse$Rules;") (by decide +kernel)) (fun _ h9 => h9) rfl hin rfl (by decide +kernel) rfl rfl (Nat.le_of_ble_eq_true rfl) dX7_init_39 (fun H locs hP hD hS => ?_)
  have hP : va_P E.1 vwCl [(h, .inr (7, [.ref a1, .ref a2, .ref a3, .null, .null, .int 1, .int 0, .int 0, .int 0, .ref q_1, .ref q_2, .int 0])), (q_1, aI E 800 (fun _ => 0)), (q_2, aJ E 1000 (fun _ => 0))] H := hP
  have hD : va_D A [(h, .inr (7, [.ref a1, .ref a2, .ref a3, .null, .null, .int 1, .int 0, .int 0, .int 0, .ref q_1, .ref q_2, .int 0])), (q_1, aI E 800 (fun _ => 0)), (q_2, aJ E 1000 (fun _ => 0))] := hD
  refine lv_aload_n hx hb dX7_init_42 rfl (lv_at hl 0 rfl) ?_
  refine lv_aload hx hb dX7_init_43 (lv_at hl 4 rfl) ?_
  refine va_putF (D := E.1) (ci := 7) (v := .ref a4) (ty := .object "TimingHouse$Timing") (own := RX7) (C := RX7) (T := TX7) (N := 12) hx hb hts i_k_tracer_X7 tyX7 tyX7_ok nmX7 hown hK hP hD hS 0 rfl rfl 3 (by decide) (hto (.fieldLink RX7 35 "TimingHouse$Tracer" "timing" "LTimingHouse$Timing;") (by decide +kernel)) (fun _ h9 => h9) rfl hin rfl (by decide +kernel) rfl rfl (Nat.le_of_ble_eq_true rfl) dX7_init_45 (fun H locs hP hD hS => ?_)
  have hP : va_P E.1 vwCl [(h, .inr (7, [.ref a1, .ref a2, .ref a3, .ref a4, .null, .int 1, .int 0, .int 0, .int 0, .ref q_1, .ref q_2, .int 0])), (q_1, aI E 800 (fun _ => 0)), (q_2, aJ E 1000 (fun _ => 0))] H := hP
  have hD : va_D A [(h, .inr (7, [.ref a1, .ref a2, .ref a3, .ref a4, .null, .int 1, .int 0, .int 0, .int 0, .ref q_1, .ref q_2, .int 0])), (q_1, aI E 800 (fun _ => 0)), (q_2, aJ E 1000 (fun _ => 0))] := hD
  refine lv_aload_n hx hb dX7_init_48 rfl (lv_at hl 0 rfl) ?_
  refine lv_aload hx hb dX7_init_49 (lv_at hl 5 rfl) ?_
  refine va_putF (D := E.1) (ci := 7) (v := .ref a5) (ty := .object "TimingHouse$Race") (own := RX7) (C := RX7) (T := TX7) (N := 12) hx hb hts i_k_tracer_X7 tyX7 tyX7_ok nmX7 hown hK hP hD hS 0 rfl rfl 4 (by decide) (hto (.fieldLink RX7 39 "TimingHouse$Tracer" "race" "LTimingHouse$Race;") (by decide +kernel)) (fun _ h9 => h9) rfl hin rfl (by decide +kernel) rfl rfl (Nat.le_of_ble_eq_true rfl) dX7_init_51 (fun H locs hP hD hS => ?_)
  have hP : va_P E.1 vwCl [(h, .inr (7, [.ref a1, .ref a2, .ref a3, .ref a4, .ref a5, .int 1, .int 0, .int 0, .int 0, .ref q_1, .ref q_2, .int 0])), (q_1, aI E 800 (fun _ => 0)), (q_2, aJ E 1000 (fun _ => 0))] H := hP
  have hD : va_D A [(h, .inr (7, [.ref a1, .ref a2, .ref a3, .ref a4, .ref a5, .int 1, .int 0, .int 0, .int 0, .ref q_1, .ref q_2, .int 0])), (q_1, aI E 800 (fun _ => 0)), (q_2, aJ E 1000 (fun _ => 0))] := hD
  exact ret_v hx hb hr hlk (hP.sub (ws' := [(h, .inr (7, [.ref a1, .ref a2, .ref a3, .ref a4, .ref a5, .int 1, .int 0, .int 0, .int 0, .ref q_1, .ref q_2, .int 0])), (q_1, aI E 800 (fun _ => 0)), (q_2, aJ E 1000 (fun _ => 0))]) [0, 1, 2] rfl) (hD.sub (ws' := [(h, .inr (7, [.ref a1, .ref a2, .ref a3, .ref a4, .ref a5, .int 1, .int 0, .int 0, .int 0, .ref q_1, .ref q_2, .int 0])), (q_1, aI E 800 (fun _ => 0)), (q_2, aJ E 1000 (fun _ => 0))]) [0, 1, 2] (by decide) rfl) hS dX7_init_54 (Nat.le_of_ble_eq_true rfl) (Nat.le_of_ble_eq_true rfl) ⟨q_1, q_2, rfl⟩
