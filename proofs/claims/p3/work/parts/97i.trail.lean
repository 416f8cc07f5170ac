theorem dX8_init_0 : decode cX8_init 0 = .ok (.aload_n 0, 1) := by decide +kernel
theorem dX8_init_1 : decode cX8_init 1 = .ok (.invokespecial 3, 3) := by decide +kernel
theorem dX8_init_4 : decode cX8_init 4 = .ok (.aload_n 0, 1) := by decide +kernel
theorem dX8_init_5 : decode cX8_init 5 = .ok (.bipush 51, 2) := by decide +kernel
theorem dX8_init_7 : decode cX8_init 7 = .ok (.newarray .int, 2) := by decide +kernel
theorem dX8_init_9 : decode cX8_init 9 = .ok (.putfield 9, 3) := by decide +kernel
theorem dX8_init_12 : decode cX8_init 12 = .ok (.aload_n 0, 1) := by decide +kernel
theorem dX8_init_13 : decode cX8_init 13 = .ok (.bipush 51, 2) := by decide +kernel
theorem dX8_init_15 : decode cX8_init 15 = .ok (.newarray .int, 2) := by decide +kernel
theorem dX8_init_17 : decode cX8_init 17 = .ok (.putfield 15, 3) := by decide +kernel
theorem dX8_init_20 : decode cX8_init 20 = .ok (.aload_n 0, 1) := by decide +kernel
theorem dX8_init_21 : decode cX8_init 21 = .ok (.bipush 51, 2) := by decide +kernel
theorem dX8_init_23 : decode cX8_init 23 = .ok (.newarray .int, 2) := by decide +kernel
theorem dX8_init_25 : decode cX8_init 25 = .ok (.putfield 18, 3) := by decide +kernel
theorem dX8_init_28 : decode cX8_init 28 = .ok (.aload_n 0, 1) := by decide +kernel
theorem dX8_init_29 : decode cX8_init 29 = .ok (.bipush 51, 2) := by decide +kernel
theorem dX8_init_31 : decode cX8_init 31 = .ok (.newarray .int, 2) := by decide +kernel
theorem dX8_init_33 : decode cX8_init 33 = .ok (.putfield 21, 3) := by decide +kernel
theorem dX8_init_36 : decode cX8_init 36 = .ok (.return_, 1) := by decide +kernel
def wo_k_trail : List Cond := [.code yX8_init cX8_init 1 none, .methodLink RX8 3 objectInit, .instanceMethod objectInit, .code objectInit ⟨#[0xb1]⟩ 1 none, .arrayClass .int, .fieldLink RX8 9 "TimingHouse$Trail" "cells" "[I", .fieldLink RX8 15 "TimingHouse$Trail" "inputs" "[I", .fieldLink RX8 18 "TimingHouse$Trail" "edges" "[I", .fieldLink RX8 21 "TimingHouse$Trail" "lates" "[I"]
def wr_k_trail : List Cond := (wsX80 ++ ([]))
def w_k_trail : List Cond := wo_k_trail ++ wr_k_trail
theorem wg_k_trail : GW w_k_trail := GW_app (GW_of (by decide +kernel)) (GW_app (GW_of (by decide +kernel)) (GW_nil))
theorem i_k_trail_X8 : ∀ w ∈ wsX80, w ∈ w_k_trail := fun _ h => List.mem_append_right _ (List.mem_append_left _ h)
set_option maxHeartbeats 4000000 in
set_option maxRecDepth 100000 in
theorem k_trail (l : Launch) (E : gE) (h : Nat) : CtV l E yX8_init w_k_trail ({ frames := 1, cells := 4, slots := 204, locals := 20 }) [(h, .inr (8, [.int 0, .null, .null, .null, .null, .int 0, .int 0]))] [.ref h] (fun w => ∃ q_cells : Nat, ∃ q_inputs : Nat, ∃ q_edges : Nat, ∃ q_lates : Nat, w = [(h, .inr (8, [.int 0, .ref q_cells, .ref q_inputs, .ref q_edges, .ref q_lates, .int 0, .int 0])), (q_cells, aI E 51 (fun _ => 0)), (q_inputs, aI E 51 (fun _ => 0)), (q_edges, aI E 51 (fun _ => 0)), (q_lates, aI E 51 (fun _ => 0))]) := by
  refine CtV.of (cc := cX8_init) (maxL := 1) (rt := none) (by decide) rfl (Nat.le_of_ble_eq_true rfl) ?_
  intro p e s m below meth c A B ls hl
  obtain ⟨hx, hb, hml, hr, hlk, hin, hts, hown, hK, hN, hZ, hA, hP, hD, hS⟩ := B
  have hown : s.vm.findClass RX8 = some m.cls := hown
  have hto : ∀ w ∈ wo_k_trail, w.before _ s = true := fun w h => hts w (List.mem_append_left _ h)
  have hl : lv_has ls 1 [(0, .ref h)] := hl
  obtain ⟨H, hHe⟩ : ∃ H, H = s.heap := ⟨_, rfl⟩
  have hS : va_S A s.heap H [] := by rw [hHe]; exact hS
  have hP : va_P E.1 vwCl [(h, .inr (8, [.int 0, .null, .null, .null, .null, .int 0, .int 0]))] H := by rw [hHe]; exact hP
  refine W_heap hHe ?_
  have hin : meth.name = "<init>" := hin
  refine lv_aload_n hx hb dX8_init_0 rfl (lv_at hl 0 rfl) ?_
  refine W.objInit hx hb hown (hto (.methodLink RX8 3 objectInit) (by decide +kernel)) (hto (.instanceMethod objectInit) (by decide +kernel)) (hto (.code objectInit ⟨#[0xb1]⟩ 1 none) (by decide +kernel)) rfl (by rw [hml]; exact hl.1) rfl dX8_init_1 (Nat.le_of_ble_eq_true rfl) (Nat.le_of_ble_eq_true rfl) ?_
  refine W.eq (g2 := F0 m 4 ls []) rfl ?_
  refine lv_aload_n hx hb dX8_init_4 rfl (lv_at hl 0 rfl) ?_
  refine lv_bipush (v := 51) hx hb dX8_init_5 (by decide) ?_
  refine nw_int (N' := 51) (A := A) (E := E) hx hb (hto (.arrayClass .int) (by decide +kernel)) hK hP hD hS hA (by decide) (by decide) (Nat.le_of_ble_eq_true rfl) (Nat.le_of_ble_eq_true rfl) dX8_init_7 (fun q_1 H hP hD hS => ?_)
  have hP : va_P E.1 vwCl [(h, .inr (8, [.int 0, .null, .null, .null, .null, .int 0, .int 0])), (q_1, aI E 51 (fun _ => 0))] H := hP
  have hD : va_D A [(h, .inr (8, [.int 0, .null, .null, .null, .null, .int 0, .int 0])), (q_1, aI E 51 (fun _ => 0))] := hD
  refine va_putF (D := E.1) (ci := 8) (v := .ref q_1) (ty := .array .int) (own := RX8) (C := RX8) (T := TX8) (N := 7) hx hb hts i_k_trail_X8 tyX8 tyX8_ok nmX8 hown hK hP hD hS 0 rfl rfl 1 (by decide) (hto (.fieldLink RX8 9 "TimingHouse$Trail" "cells" "[I") (by decide +kernel)) (fun _ h9 => h9) rfl hin rfl (by decide +kernel) rfl rfl (Nat.le_of_ble_eq_true rfl) dX8_init_9 (fun H locs hP hD hS => ?_)
  have hP : va_P E.1 vwCl [(h, .inr (8, [.int 0, .ref q_1, .null, .null, .null, .int 0, .int 0])), (q_1, aI E 51 (fun _ => 0))] H := hP
  have hD : va_D A [(h, .inr (8, [.int 0, .ref q_1, .null, .null, .null, .int 0, .int 0])), (q_1, aI E 51 (fun _ => 0))] := hD
  refine lv_aload_n hx hb dX8_init_12 rfl (lv_at hl 0 rfl) ?_
  refine lv_bipush (v := 51) hx hb dX8_init_13 (by decide) ?_
  refine nw_int (N' := 51) (A := A) (E := E) hx hb (hto (.arrayClass .int) (by decide +kernel)) hK hP hD hS hA (by decide) (by decide) (Nat.le_of_ble_eq_true rfl) (Nat.le_of_ble_eq_true rfl) dX8_init_15 (fun q_2 H hP hD hS => ?_)
  have hP : va_P E.1 vwCl [(h, .inr (8, [.int 0, .ref q_1, .null, .null, .null, .int 0, .int 0])), (q_1, aI E 51 (fun _ => 0)), (q_2, aI E 51 (fun _ => 0))] H := hP
  have hD : va_D A [(h, .inr (8, [.int 0, .ref q_1, .null, .null, .null, .int 0, .int 0])), (q_1, aI E 51 (fun _ => 0)), (q_2, aI E 51 (fun _ => 0))] := hD
  refine va_putF (D := E.1) (ci := 8) (v := .ref q_2) (ty := .array .int) (own := RX8) (C := RX8) (T := TX8) (N := 7) hx hb hts i_k_trail_X8 tyX8 tyX8_ok nmX8 hown hK hP hD hS 0 rfl rfl 2 (by decide) (hto (.fieldLink RX8 15 "TimingHouse$Trail" "inputs" "[I") (by decide +kernel)) (fun _ h9 => h9) rfl hin rfl (by decide +kernel) rfl rfl (Nat.le_of_ble_eq_true rfl) dX8_init_17 (fun H locs hP hD hS => ?_)
  have hP : va_P E.1 vwCl [(h, .inr (8, [.int 0, .ref q_1, .ref q_2, .null, .null, .int 0, .int 0])), (q_1, aI E 51 (fun _ => 0)), (q_2, aI E 51 (fun _ => 0))] H := hP
  have hD : va_D A [(h, .inr (8, [.int 0, .ref q_1, .ref q_2, .null, .null, .int 0, .int 0])), (q_1, aI E 51 (fun _ => 0)), (q_2, aI E 51 (fun _ => 0))] := hD
  refine lv_aload_n hx hb dX8_init_20 rfl (lv_at hl 0 rfl) ?_
  refine lv_bipush (v := 51) hx hb dX8_init_21 (by decide) ?_
  refine nw_int (N' := 51) (A := A) (E := E) hx hb (hto (.arrayClass .int) (by decide +kernel)) hK hP hD hS hA (by decide) (by decide) (Nat.le_of_ble_eq_true rfl) (Nat.le_of_ble_eq_true rfl) dX8_init_23 (fun q_3 H hP hD hS => ?_)
  have hP : va_P E.1 vwCl [(h, .inr (8, [.int 0, .ref q_1, .ref q_2, .null, .null, .int 0, .int 0])), (q_1, aI E 51 (fun _ => 0)), (q_2, aI E 51 (fun _ => 0)), (q_3, aI E 51 (fun _ => 0))] H := hP
  have hD : va_D A [(h, .inr (8, [.int 0, .ref q_1, .ref q_2, .null, .null, .int 0, .int 0])), (q_1, aI E 51 (fun _ => 0)), (q_2, aI E 51 (fun _ => 0)), (q_3, aI E 51 (fun _ => 0))] := hD
  refine va_putF (D := E.1) (ci := 8) (v := .ref q_3) (ty := .array .int) (own := RX8) (C := RX8) (T := TX8) (N := 7) hx hb hts i_k_trail_X8 tyX8 tyX8_ok nmX8 hown hK hP hD hS 0 rfl rfl 3 (by decide) (hto (.fieldLink RX8 18 "TimingHouse$Trail" "edges" "[I") (by decide +kernel)) (fun _ h9 => h9) rfl hin rfl (by decide +kernel) rfl rfl (Nat.le_of_ble_eq_true rfl) dX8_init_25 (fun H locs hP hD hS => ?_)
  have hP : va_P E.1 vwCl [(h, .inr (8, [.int 0, .ref q_1, .ref q_2, .ref q_3, .null, .int 0, .int 0])), (q_1, aI E 51 (fun _ => 0)), (q_2, aI E 51 (fun _ => 0)), (q_3, aI E 51 (fun _ => 0))] H := hP
  have hD : va_D A [(h, .inr (8, [.int 0, .ref q_1, .ref q_2, .ref q_3, .null, .int 0, .int 0])), (q_1, aI E 51 (fun _ => 0)), (q_2, aI E 51 (fun _ => 0)), (q_3, aI E 51 (fun _ => 0))] := hD
  refine lv_aload_n hx hb dX8_init_28 rfl (lv_at hl 0 rfl) ?_
  refine lv_bipush (v := 51) hx hb dX8_init_29 (by decide) ?_
  refine nw_int (N' := 51) (A := A) (E := E) hx hb (hto (.arrayClass .int) (by decide +kernel)) hK hP hD hS hA (by decide) (by decide) (Nat.le_of_ble_eq_true rfl) (Nat.le_of_ble_eq_true rfl) dX8_init_31 (fun q_4 H hP hD hS => ?_)
  have hP : va_P E.1 vwCl [(h, .inr (8, [.int 0, .ref q_1, .ref q_2, .ref q_3, .null, .int 0, .int 0])), (q_1, aI E 51 (fun _ => 0)), (q_2, aI E 51 (fun _ => 0)), (q_3, aI E 51 (fun _ => 0)), (q_4, aI E 51 (fun _ => 0))] H := hP
  have hD : va_D A [(h, .inr (8, [.int 0, .ref q_1, .ref q_2, .ref q_3, .null, .int 0, .int 0])), (q_1, aI E 51 (fun _ => 0)), (q_2, aI E 51 (fun _ => 0)), (q_3, aI E 51 (fun _ => 0)), (q_4, aI E 51 (fun _ => 0))] := hD
  refine va_putF (D := E.1) (ci := 8) (v := .ref q_4) (ty := .array .int) (own := RX8) (C := RX8) (T := TX8) (N := 7) hx hb hts i_k_trail_X8 tyX8 tyX8_ok nmX8 hown hK hP hD hS 0 rfl rfl 4 (by decide) (hto (.fieldLink RX8 21 "TimingHouse$Trail" "lates" "[I") (by decide +kernel)) (fun _ h9 => h9) rfl hin rfl (by decide +kernel) rfl rfl (Nat.le_of_ble_eq_true rfl) dX8_init_33 (fun H locs hP hD hS => ?_)
  have hP : va_P E.1 vwCl [(h, .inr (8, [.int 0, .ref q_1, .ref q_2, .ref q_3, .ref q_4, .int 0, .int 0])), (q_1, aI E 51 (fun _ => 0)), (q_2, aI E 51 (fun _ => 0)), (q_3, aI E 51 (fun _ => 0)), (q_4, aI E 51 (fun _ => 0))] H := hP
  have hD : va_D A [(h, .inr (8, [.int 0, .ref q_1, .ref q_2, .ref q_3, .ref q_4, .int 0, .int 0])), (q_1, aI E 51 (fun _ => 0)), (q_2, aI E 51 (fun _ => 0)), (q_3, aI E 51 (fun _ => 0)), (q_4, aI E 51 (fun _ => 0))] := hD
  exact ret_v hx hb hr hlk (hP.sub (ws' := [(h, .inr (8, [.int 0, .ref q_1, .ref q_2, .ref q_3, .ref q_4, .int 0, .int 0])), (q_1, aI E 51 (fun _ => 0)), (q_2, aI E 51 (fun _ => 0)), (q_3, aI E 51 (fun _ => 0)), (q_4, aI E 51 (fun _ => 0))]) [0, 1, 2, 3, 4] rfl) (hD.sub (ws' := [(h, .inr (8, [.int 0, .ref q_1, .ref q_2, .ref q_3, .ref q_4, .int 0, .int 0])), (q_1, aI E 51 (fun _ => 0)), (q_2, aI E 51 (fun _ => 0)), (q_3, aI E 51 (fun _ => 0)), (q_4, aI E 51 (fun _ => 0))]) [0, 1, 2, 3, 4] (by decide) rfl) hS dX8_init_36 (Nat.le_of_ble_eq_true rfl) (Nat.le_of_ble_eq_true rfl) ⟨q_1, q_2, q_3, q_4, rfl⟩
