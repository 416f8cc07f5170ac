theorem dX0_init_0 : decode cX0_init 0 = .ok (.aload_n 0, 1) := by decide +kernel
theorem dX0_init_1 : decode cX0_init 1 = .ok (.invokespecial 3, 3) := by decide +kernel
theorem dX0_init_4 : decode cX0_init 4 = .ok (.aload_n 0, 1) := by decide +kernel
theorem dX0_init_5 : decode cX0_init 5 = .ok (.sipush 1000, 3) := by decide +kernel
theorem dX0_init_8 : decode cX0_init 8 = .ok (.putfield 9, 3) := by decide +kernel
theorem dX0_init_11 : decode cX0_init 11 = .ok (.aload_n 0, 1) := by decide +kernel
theorem dX0_init_12 : decode cX0_init 12 = .ok (.bipush 20, 2) := by decide +kernel
theorem dX0_init_14 : decode cX0_init 14 = .ok (.newarray .int, 2) := by decide +kernel
theorem dX0_init_16 : decode cX0_init 16 = .ok (.putfield 15, 3) := by decide +kernel
theorem dX0_init_19 : decode cX0_init 19 = .ok (.aload_n 0, 1) := by decide +kernel
theorem dX0_init_20 : decode cX0_init 20 = .ok (.bipush 20, 2) := by decide +kernel
theorem dX0_init_22 : decode cX0_init 22 = .ok (.newarray .int, 2) := by decide +kernel
theorem dX0_init_24 : decode cX0_init 24 = .ok (.putfield 19, 3) := by decide +kernel
theorem dX0_init_27 : decode cX0_init 27 = .ok (.aload_n 0, 1) := by decide +kernel
theorem dX0_init_28 : decode cX0_init 28 = .ok (.bipush 20, 2) := by decide +kernel
theorem dX0_init_30 : decode cX0_init 30 = .ok (.newarray .int, 2) := by decide +kernel
theorem dX0_init_32 : decode cX0_init 32 = .ok (.putfield 22, 3) := by decide +kernel
theorem dX0_init_35 : decode cX0_init 35 = .ok (.return_, 1) := by decide +kernel
def wo_k_clock : List Cond := [.code yX0_init cX0_init 1 none, .methodLink RX0 3 objectInit, .instanceMethod objectInit, .code objectInit ⟨#[0xb1]⟩ 1 none, .fieldLink RX0 9 "TimingHouse$Clock" "length" "I", .arrayClass .int, .fieldLink RX0 15 "TimingHouse$Clock" "parents" "[I", .fieldLink RX0 19 "TimingHouse$Clock" "earlySums" "[I", .fieldLink RX0 22 "TimingHouse$Clock" "lateSums" "[I"]
def wr_k_clock : List Cond := (wsX00 ++ ([]))
def w_k_clock : List Cond := wo_k_clock ++ wr_k_clock
theorem wg_k_clock : GW w_k_clock := GW_app (GW_of (by decide +kernel)) (GW_app (GW_of (by decide +kernel)) (GW_nil))
theorem i_k_clock_X0 : ∀ w ∈ wsX00, w ∈ w_k_clock := fun _ h => List.mem_append_right _ (List.mem_append_left _ h)
set_option maxHeartbeats 4000000 in
set_option maxRecDepth 100000 in
theorem k_clock (l : Launch) (E : gE) (h : Nat) : CtV l E yX0_init w_k_clock ({ frames := 1, cells := 3, slots := 60, locals := 20 }) [(h, .inr (0, [.int 0, .int 0, .null, .null, .null]))] [.ref h] (fun w => ∃ q_parents : Nat, ∃ q_earlySums : Nat, ∃ q_lateSums : Nat, w = [(h, .inr (0, [.int 1000, .int 0, .ref q_parents, .ref q_earlySums, .ref q_lateSums])), (q_parents, aI E 20 (fun _ => 0)), (q_earlySums, aI E 20 (fun _ => 0)), (q_lateSums, aI E 20 (fun _ => 0))]) := by
  refine CtV.of (cc := cX0_init) (maxL := 1) (rt := none) (by decide) rfl (Nat.le_of_ble_eq_true rfl) ?_
  intro p e s m below meth c A B ls hl
  obtain ⟨hx, hb, hml, hr, hlk, hin, hts, hown, hK, hN, hZ, hA, hP, hD, hS⟩ := B
  have hown : s.vm.findClass RX0 = some m.cls := hown
  have hto : ∀ w ∈ wo_k_clock, w.before _ s = true := fun w h => hts w (List.mem_append_left _ h)
  have hl : lv_has ls 1 [(0, .ref h)] := hl
  obtain ⟨H, hHe⟩ : ∃ H, H = s.heap := ⟨_, rfl⟩
  have hS : va_S A s.heap H [] := by rw [hHe]; exact hS
  have hP : va_P E.1 vwCl [(h, .inr (0, [.int 0, .int 0, .null, .null, .null]))] H := by rw [hHe]; exact hP
  refine W_heap hHe ?_
  have hin : meth.name = "<init>" := hin
  refine lv_aload_n hx hb dX0_init_0 rfl (lv_at hl 0 rfl) ?_
  refine W.objInit hx hb hown (hto (.methodLink RX0 3 objectInit) (by decide +kernel)) (hto (.instanceMethod objectInit) (by decide +kernel)) (hto (.code objectInit ⟨#[0xb1]⟩ 1 none) (by decide +kernel)) rfl (by rw [hml]; exact hl.1) rfl dX0_init_1 (Nat.le_of_ble_eq_true rfl) (Nat.le_of_ble_eq_true rfl) ?_
  refine W.eq (g2 := F0 m 4 ls []) rfl ?_
  refine lv_aload_n hx hb dX0_init_4 rfl (lv_at hl 0 rfl) ?_
  refine lv_sipush (v := 1000) hx hb dX0_init_5 (by decide) ?_
  refine va_put (D := E.1) (ci := 0) (v := .int 1000) (ty := .int) (own := RX0) (C := RX0) (T := TX0) (N := 5) hx hb hts i_k_clock_X0 tyX0 tyX0_ok nmX0 hown hK hP hD hS 0 rfl rfl 0 (by decide) (hto (.fieldLink RX0 9 "TimingHouse$Clock" "length" "I") (by decide +kernel)) (fun _ h9 => h9) rfl (by decide +kernel) rfl rfl (Nat.le_of_ble_eq_true rfl) dX0_init_8 (fun H locs hP hD hS => ?_)
  have hP : va_P E.1 vwCl [(h, .inr (0, [.int 1000, .int 0, .null, .null, .null]))] H := hP
  have hD : va_D A [(h, .inr (0, [.int 1000, .int 0, .null, .null, .null]))] := hD
  refine lv_aload_n hx hb dX0_init_11 rfl (lv_at hl 0 rfl) ?_
  refine lv_bipush (v := 20) hx hb dX0_init_12 (by decide) ?_
  refine nw_int (N' := 20) (A := A) (E := E) hx hb (hto (.arrayClass .int) (by decide +kernel)) hK hP hD hS hA (by decide) (by decide) (Nat.le_of_ble_eq_true rfl) (Nat.le_of_ble_eq_true rfl) dX0_init_14 (fun q_1 H hP hD hS => ?_)
  have hP : va_P E.1 vwCl [(h, .inr (0, [.int 1000, .int 0, .null, .null, .null])), (q_1, aI E 20 (fun _ => 0))] H := hP
  have hD : va_D A [(h, .inr (0, [.int 1000, .int 0, .null, .null, .null])), (q_1, aI E 20 (fun _ => 0))] := hD
  refine va_putF (D := E.1) (ci := 0) (v := .ref q_1) (ty := .array .int) (own := RX0) (C := RX0) (T := TX0) (N := 5) hx hb hts i_k_clock_X0 tyX0 tyX0_ok nmX0 hown hK hP hD hS 0 rfl rfl 2 (by decide) (hto (.fieldLink RX0 15 "TimingHouse$Clock" "parents" "[I") (by decide +kernel)) (fun _ h9 => h9) rfl hin rfl (by decide +kernel) rfl rfl (Nat.le_of_ble_eq_true rfl) dX0_init_16 (fun H locs hP hD hS => ?_)
  have hP : va_P E.1 vwCl [(h, .inr (0, [.int 1000, .int 0, .ref q_1, .null, .null])), (q_1, aI E 20 (fun _ => 0))] H := hP
  have hD : va_D A [(h, .inr (0, [.int 1000, .int 0, .ref q_1, .null, .null])), (q_1, aI E 20 (fun _ => 0))] := hD
  refine lv_aload_n hx hb dX0_init_19 rfl (lv_at hl 0 rfl) ?_
  refine lv_bipush (v := 20) hx hb dX0_init_20 (by decide) ?_
  refine nw_int (N' := 20) (A := A) (E := E) hx hb (hto (.arrayClass .int) (by decide +kernel)) hK hP hD hS hA (by decide) (by decide) (Nat.le_of_ble_eq_true rfl) (Nat.le_of_ble_eq_true rfl) dX0_init_22 (fun q_2 H hP hD hS => ?_)
  have hP : va_P E.1 vwCl [(h, .inr (0, [.int 1000, .int 0, .ref q_1, .null, .null])), (q_1, aI E 20 (fun _ => 0)), (q_2, aI E 20 (fun _ => 0))] H := hP
  have hD : va_D A [(h, .inr (0, [.int 1000, .int 0, .ref q_1, .null, .null])), (q_1, aI E 20 (fun _ => 0)), (q_2, aI E 20 (fun _ => 0))] := hD
  refine va_putF (D := E.1) (ci := 0) (v := .ref q_2) (ty := .array .int) (own := RX0) (C := RX0) (T := TX0) (N := 5) hx hb hts i_k_clock_X0 tyX0 tyX0_ok nmX0 hown hK hP hD hS 0 rfl rfl 3 (by decide) (hto (.fieldLink RX0 19 "TimingHouse$Clock" "earlySums" "[I") (by decide +kernel)) (fun _ h9 => h9) rfl hin rfl (by decide +kernel) rfl rfl (Nat.le_of_ble_eq_true rfl) dX0_init_24 (fun H locs hP hD hS => ?_)
  have hP : va_P E.1 vwCl [(h, .inr (0, [.int 1000, .int 0, .ref q_1, .ref q_2, .null])), (q_1, aI E 20 (fun _ => 0)), (q_2, aI E 20 (fun _ => 0))] H := hP
  have hD : va_D A [(h, .inr (0, [.int 1000, .int 0, .ref q_1, .ref q_2, .null])), (q_1, aI E 20 (fun _ => 0)), (q_2, aI E 20 (fun _ => 0))] := hD
  refine lv_aload_n hx hb dX0_init_27 rfl (lv_at hl 0 rfl) ?_
  refine lv_bipush (v := 20) hx hb dX0_init_28 (by decide) ?_
  refine nw_int (N' := 20) (A := A) (E := E) hx hb (hto (.arrayClass .int) (by decide +kernel)) hK hP hD hS hA (by decide) (by decide) (Nat.le_of_ble_eq_true rfl) (Nat.le_of_ble_eq_true rfl) dX0_init_30 (fun q_3 H hP hD hS => ?_)
  have hP : va_P E.1 vwCl [(h, .inr (0, [.int 1000, .int 0, .ref q_1, .ref q_2, .null])), (q_1, aI E 20 (fun _ => 0)), (q_2, aI E 20 (fun _ => 0)), (q_3, aI E 20 (fun _ => 0))] H := hP
  have hD : va_D A [(h, .inr (0, [.int 1000, .int 0, .ref q_1, .ref q_2, .null])), (q_1, aI E 20 (fun _ => 0)), (q_2, aI E 20 (fun _ => 0)), (q_3, aI E 20 (fun _ => 0))] := hD
  refine va_putF (D := E.1) (ci := 0) (v := .ref q_3) (ty := .array .int) (own := RX0) (C := RX0) (T := TX0) (N := 5) hx hb hts i_k_clock_X0 tyX0 tyX0_ok nmX0 hown hK hP hD hS 0 rfl rfl 4 (by decide) (hto (.fieldLink RX0 22 "TimingHouse$Clock" "lateSums" "[I") (by decide +kernel)) (fun _ h9 => h9) rfl hin rfl (by decide +kernel) rfl rfl (Nat.le_of_ble_eq_true rfl) dX0_init_32 (fun H locs hP hD hS => ?_)
  have hP : va_P E.1 vwCl [(h, .inr (0, [.int 1000, .int 0, .ref q_1, .ref q_2, .ref q_3])), (q_1, aI E 20 (fun _ => 0)), (q_2, aI E 20 (fun _ => 0)), (q_3, aI E 20 (fun _ => 0))] H := hP
  have hD : va_D A [(h, .inr (0, [.int 1000, .int 0, .ref q_1, .ref q_2, .ref q_3])), (q_1, aI E 20 (fun _ => 0)), (q_2, aI E 20 (fun _ => 0)), (q_3, aI E 20 (fun _ => 0))] := hD
  exact ret_v hx hb hr hlk (hP.sub (ws' := [(h, .inr (0, [.int 1000, .int 0, .ref q_1, .ref q_2, .ref q_3])), (q_1, aI E 20 (fun _ => 0)), (q_2, aI E 20 (fun _ => 0)), (q_3, aI E 20 (fun _ => 0))]) [0, 1, 2, 3] rfl) (hD.sub (ws' := [(h, .inr (0, [.int 1000, .int 0, .ref q_1, .ref q_2, .ref q_3])), (q_1, aI E 20 (fun _ => 0)), (q_2, aI E 20 (fun _ => 0)), (q_3, aI E 20 (fun _ => 0))]) [0, 1, 2, 3] (by decide) rfl) hS dX0_init_35 (Nat.le_of_ble_eq_true rfl) (Nat.le_of_ble_eq_true rfl) ⟨q_1, q_2, q_3, rfl⟩
