theorem dX3_init_0 : decode cX3_init 0 = .ok (.aload_n 0, 1) := by decide +kernel
theorem dX3_init_1 : decode cX3_init 1 = .ok (.invokespecial 3, 3) := by decide +kernel
theorem dX3_init_4 : decode cX3_init 4 = .ok (.aload_n 0, 1) := by decide +kernel
theorem dX3_init_5 : decode cX3_init 5 = .ok (.iconst 4, 1) := by decide +kernel
theorem dX3_init_6 : decode cX3_init 6 = .ok (.newarray .int, 2) := by decide +kernel
theorem dX3_init_8 : decode cX3_init 8 = .ok (.putfield 9, 3) := by decide +kernel
theorem dX3_init_11 : decode cX3_init 11 = .ok (.aload_n 0, 1) := by decide +kernel
theorem dX3_init_12 : decode cX3_init 12 = .ok (.iconst 4, 1) := by decide +kernel
theorem dX3_init_13 : decode cX3_init 13 = .ok (.newarray .int, 2) := by decide +kernel
theorem dX3_init_15 : decode cX3_init 15 = .ok (.putfield 15, 3) := by decide +kernel
theorem dX3_init_18 : decode cX3_init 18 = .ok (.aload_n 0, 1) := by decide +kernel
theorem dX3_init_19 : decode cX3_init 19 = .ok (.iconst 4, 1) := by decide +kernel
theorem dX3_init_20 : decode cX3_init 20 = .ok (.newarray .int, 2) := by decide +kernel
theorem dX3_init_22 : decode cX3_init 22 = .ok (.putfield 18, 3) := by decide +kernel
theorem dX3_init_25 : decode cX3_init 25 = .ok (.aload_n 0, 1) := by decide +kernel
theorem dX3_init_26 : decode cX3_init 26 = .ok (.iconst 4, 1) := by decide +kernel
theorem dX3_init_27 : decode cX3_init 27 = .ok (.newarray .int, 2) := by decide +kernel
theorem dX3_init_29 : decode cX3_init 29 = .ok (.putfield 21, 3) := by decide +kernel
theorem dX3_init_32 : decode cX3_init 32 = .ok (.aload_n 0, 1) := by decide +kernel
theorem dX3_init_33 : decode cX3_init 33 = .ok (.bipush 50, 2) := by decide +kernel
theorem dX3_init_35 : decode cX3_init 35 = .ok (.newarray .int, 2) := by decide +kernel
theorem dX3_init_37 : decode cX3_init 37 = .ok (.putfield 24, 3) := by decide +kernel
theorem dX3_init_40 : decode cX3_init 40 = .ok (.return_, 1) := by decide +kernel
def wo_k_rules : List Cond := [.code yX3_init cX3_init 1 none, .methodLink RX3 3 objectInit, .instanceMethod objectInit, .code objectInit ⟨#[0xb1]⟩ 1 none, .arrayClass .int, .fieldLink RX3 9 "TimingHouse$Rules" "periods" "[I", .fieldLink RX3 15 "TimingHouse$Rules" "froms" "[I", .fieldLink RX3 18 "TimingHouse$Rules" "throughs" "[I", .fieldLink RX3 21 "TimingHouse$Rules" "tos" "[I", .fieldLink RX3 24 "TimingHouse$Rules" "bits" "[I"]
def wr_k_rules : List Cond := (wsX30 ++ ([]))
def w_k_rules : List Cond := wo_k_rules ++ wr_k_rules
theorem wg_k_rules : GW w_k_rules := GW_app (GW_of (by decide +kernel)) (GW_app (GW_of (by decide +kernel)) (GW_nil))
theorem i_k_rules_X3 : ∀ w ∈ wsX30, w ∈ w_k_rules := fun _ h => List.mem_append_right _ (List.mem_append_left _ h)
set_option maxHeartbeats 4000000 in
set_option maxRecDepth 100000 in
theorem k_rules (l : Launch) (E : gE) (h : Nat) : CtV l E yX3_init w_k_rules ({ frames := 1, cells := 5, slots := 66, locals := 20 }) [(h, .inr (3, [.int 0, .null, .null, .null, .null, .null]))] [.ref h] (fun w => ∃ q_periods : Nat, ∃ q_froms : Nat, ∃ q_throughs : Nat, ∃ q_tos : Nat, ∃ q_bits : Nat, w = [(h, .inr (3, [.int 0, .ref q_periods, .ref q_froms, .ref q_throughs, .ref q_tos, .ref q_bits])), (q_periods, aI E 4 (fun _ => 0)), (q_froms, aI E 4 (fun _ => 0)), (q_throughs, aI E 4 (fun _ => 0)), (q_tos, aI E 4 (fun _ => 0)), (q_bits, aI E 50 (fun _ => 0))]) := by
  refine CtV.of (cc := cX3_init) (maxL := 1) (rt := none) (by decide) rfl (Nat.le_of_ble_eq_true rfl) ?_
  intro p e s m below meth c A B ls hl
  obtain ⟨hx, hb, hml, hr, hlk, hin, hts, hown, hK, hN, hZ, hA, hP, hD, hS⟩ := B
  have hown : s.vm.findClass RX3 = some m.cls := hown
  have hto : ∀ w ∈ wo_k_rules, w.before _ s = true := fun w h => hts w (List.mem_append_left _ h)
  have hl : lv_has ls 1 [(0, .ref h)] := hl
  obtain ⟨H, hHe⟩ : ∃ H, H = s.heap := ⟨_, rfl⟩
  have hS : va_S A s.heap H [] := by rw [hHe]; exact hS
  have hP : va_P E.1 vwCl [(h, .inr (3, [.int 0, .null, .null, .null, .null, .null]))] H := by rw [hHe]; exact hP
  refine W_heap hHe ?_
  have hin : meth.name = "<init>" := hin
  refine lv_aload_n hx hb dX3_init_0 rfl (lv_at hl 0 rfl) ?_
  refine W.objInit hx hb hown (hto (.methodLink RX3 3 objectInit) (by decide +kernel)) (hto (.instanceMethod objectInit) (by decide +kernel)) (hto (.code objectInit ⟨#[0xb1]⟩ 1 none) (by decide +kernel)) rfl (by rw [hml]; exact hl.1) rfl dX3_init_1 (Nat.le_of_ble_eq_true rfl) (Nat.le_of_ble_eq_true rfl) ?_
  refine W.eq (g2 := F0 m 4 ls []) rfl ?_
  refine lv_aload_n hx hb dX3_init_4 rfl (lv_at hl 0 rfl) ?_
  refine lv_iconst (v := 4) hx hb dX3_init_5 (by decide) ?_
  refine nw_int (N' := 4) (A := A) (E := E) hx hb (hto (.arrayClass .int) (by decide +kernel)) hK hP hD hS hA (by decide) (by decide) (Nat.le_of_ble_eq_true rfl) (Nat.le_of_ble_eq_true rfl) dX3_init_6 (fun q_1 H hP hD hS => ?_)
  have hP : va_P E.1 vwCl [(h, .inr (3, [.int 0, .null, .null, .null, .null, .null])), (q_1, aI E 4 (fun _ => 0))] H := hP
  have hD : va_D A [(h, .inr (3, [.int 0, .null, .null, .null, .null, .null])), (q_1, aI E 4 (fun _ => 0))] := hD
  refine va_putF (D := E.1) (ci := 3) (v := .ref q_1) (ty := .array .int) (own := RX3) (C := RX3) (T := TX3) (N := 6) hx hb hts i_k_rules_X3 tyX3 tyX3_ok nmX3 hown hK hP hD hS 0 rfl rfl 1 (by decide) (hto (.fieldLink RX3 9 "TimingHouse$Rules" "periods" "[I") (by decide +kernel)) (fun _ h9 => h9) rfl hin rfl (by decide +kernel) rfl rfl (Nat.le_of_ble_eq_true rfl) dX3_init_8 (fun H locs hP hD hS => ?_)
  have hP : va_P E.1 vwCl [(h, .inr (3, [.int 0, .ref q_1, .null, .null, .null, .null])), (q_1, aI E 4 (fun _ => 0))] H := hP
  have hD : va_D A [(h, .inr (3, [.int 0, .ref q_1, .null, .null, .null, .null])), (q_1, aI E 4 (fun _ => 0))] := hD
  refine lv_aload_n hx hb dX3_init_11 rfl (lv_at hl 0 rfl) ?_
  refine lv_iconst (v := 4) hx hb dX3_init_12 (by decide) ?_
  refine nw_int (N' := 4) (A := A) (E := E) hx hb (hto (.arrayClass .int) (by decide +kernel)) hK hP hD hS hA (by decide) (by decide) (Nat.le_of_ble_eq_true rfl) (Nat.le_of_ble_eq_true rfl) dX3_init_13 (fun q_2 H hP hD hS => ?_)
  have hP : va_P E.1 vwCl [(h, .inr (3, [.int 0, .ref q_1, .null, .null, .null, .null])), (q_1, aI E 4 (fun _ => 0)), (q_2, aI E 4 (fun _ => 0))] H := hP
  have hD : va_D A [(h, .inr (3, [.int 0, .ref q_1, .null, .null, .null, .null])), (q_1, aI E 4 (fun _ => 0)), (q_2, aI E 4 (fun _ => 0))] := hD
  refine va_putF (D := E.1) (ci := 3) (v := .ref q_2) (ty := .array .int) (own := RX3) (C := RX3) (T := TX3) (N := 6) hx hb hts i_k_rules_X3 tyX3 tyX3_ok nmX3 hown hK hP hD hS 0 rfl rfl 2 (by decide) (hto (.fieldLink RX3 15 "TimingHouse$Rules" "froms" "[I") (by decide +kernel)) (fun _ h9 => h9) rfl hin rfl (by decide +kernel) rfl rfl (Nat.le_of_ble_eq_true rfl) dX3_init_15 (fun H locs hP hD hS => ?_)
  have hP : va_P E.1 vwCl [(h, .inr (3, [.int 0, .ref q_1, .ref q_2, .null, .null, .null])), (q_1, aI E 4 (fun _ => 0)), (q_2, aI E 4 (fun _ => 0))] H := hP
  have hD : va_D A [(h, .inr (3, [.int 0, .ref q_1, .ref q_2, .null, .null, .null])), (q_1, aI E 4 (fun _ => 0)), (q_2, aI E 4 (fun _ => 0))] := hD
  refine lv_aload_n hx hb dX3_init_18 rfl (lv_at hl 0 rfl) ?_
  refine lv_iconst (v := 4) hx hb dX3_init_19 (by decide) ?_
  refine nw_int (N' := 4) (A := A) (E := E) hx hb (hto (.arrayClass .int) (by decide +kernel)) hK hP hD hS hA (by decide) (by decide) (Nat.le_of_ble_eq_true rfl) (Nat.le_of_ble_eq_true rfl) dX3_init_20 (fun q_3 H hP hD hS => ?_)
  have hP : va_P E.1 vwCl [(h, .inr (3, [.int 0, .ref q_1, .ref q_2, .null, .null, .null])), (q_1, aI E 4 (fun _ => 0)), (q_2, aI E 4 (fun _ => 0)), (q_3, aI E 4 (fun _ => 0))] H := hP
  have hD : va_D A [(h, .inr (3, [.int 0, .ref q_1, .ref q_2, .null, .null, .null])), (q_1, aI E 4 (fun _ => 0)), (q_2, aI E 4 (fun _ => 0)), (q_3, aI E 4 (fun _ => 0))] := hD
  refine va_putF (D := E.1) (ci := 3) (v := .ref q_3) (ty := .array .int) (own := RX3) (C := RX3) (T := TX3) (N := 6) hx hb hts i_k_rules_X3 tyX3 tyX3_ok nmX3 hown hK hP hD hS 0 rfl rfl 3 (by decide) (hto (.fieldLink RX3 18 "TimingHouse$Rules" "throughs" "[I") (by decide +kernel)) (fun _ h9 => h9) rfl hin rfl (by decide +kernel) rfl rfl (Nat.le_of_ble_eq_true rfl) dX3_init_22 (fun H locs hP hD hS => ?_)
  have hP : va_P E.1 vwCl [(h, .inr (3, [.int 0, .ref q_1, .ref q_2, .ref q_3, .null, .null])), (q_1, aI E 4 (fun _ => 0)), (q_2, aI E 4 (fun _ => 0)), (q_3, aI E 4 (fun _ => 0))] H := hP
  have hD : va_D A [(h, .inr (3, [.int 0, .ref q_1, .ref q_2, .ref q_3, .null, .null])), (q_1, aI E 4 (fun _ => 0)), (q_2, aI E 4 (fun _ => 0)), (q_3, aI E 4 (fun _ => 0))] := hD
  refine lv_aload_n hx hb dX3_init_25 rfl (lv_at hl 0 rfl) ?_
  refine lv_iconst (v := 4) hx hb dX3_init_26 (by decide) ?_
  refine nw_int (N' := 4) (A := A) (E := E) hx hb (hto (.arrayClass .int) (by decide +kernel)) hK hP hD hS hA (by decide) (by decide) (Nat.le_of_ble_eq_true rfl) (Nat.le_of_ble_eq_true rfl) dX3_init_27 (fun q_4 H hP hD hS => ?_)
  have hP : va_P E.1 vwCl [(h, .inr (3, [.int 0, .ref q_1, .ref q_2, .ref q_3, .null, .null])), (q_1, aI E 4 (fun _ => 0)), (q_2, aI E 4 (fun _ => 0)), (q_3, aI E 4 (fun _ => 0)), (q_4, aI E 4 (fun _ => 0))] H := hP
  have hD : va_D A [(h, .inr (3, [.int 0, .ref q_1, .ref q_2, .ref q_3, .null, .null])), (q_1, aI E 4 (fun _ => 0)), (q_2, aI E 4 (fun _ => 0)), (q_3, aI E 4 (fun _ => 0)), (q_4, aI E 4 (fun _ => 0))] := hD
  refine va_putF (D := E.1) (ci := 3) (v := .ref q_4) (ty := .array .int) (own := RX3) (C := RX3) (T := TX3) (N := 6) hx hb hts i_k_rules_X3 tyX3 tyX3_ok nmX3 hown hK hP hD hS 0 rfl rfl 4 (by decide) (hto (.fieldLink RX3 21 "TimingHouse$Rules" "tos" "[I") (by decide +kernel)) (fun _ h9 => h9) rfl hin rfl (by decide +kernel) rfl rfl (Nat.le_of_ble_eq_true rfl) dX3_init_29 (fun H locs hP hD hS => ?_)
  have hP : va_P E.1 vwCl [(h, .inr (3, [.int 0, .ref q_1, .ref q_2, .ref q_3, .ref q_4, .null])), (q_1, aI E 4 (fun _ => 0)), (q_2, aI E 4 (fun _ => 0)), (q_3, aI E 4 (fun _ => 0)), (q_4, aI E 4 (fun _ => 0))] H := hP
  have hD : va_D A [(h, .inr (3, [.int 0, .ref q_1, .ref q_2, .ref q_3, .ref q_4, .null])), (q_1, aI E 4 (fun _ => 0)), (q_2, aI E 4 (fun _ => 0)), (q_3, aI E 4 (fun _ => 0)), (q_4, aI E 4 (fun _ => 0))] := hD
  refine lv_aload_n hx hb dX3_init_32 rfl (lv_at hl 0 rfl) ?_
  refine lv_bipush (v := 50) hx hb dX3_init_33 (by decide) ?_
  refine nw_int (N' := 50) (A := A) (E := E) hx hb (hto (.arrayClass .int) (by decide +kernel)) hK hP hD hS hA (by decide) (by decide) (Nat.le_of_ble_eq_true rfl) (Nat.le_of_ble_eq_true rfl) dX3_init_35 (fun q_5 H hP hD hS => ?_)
  have hP : va_P E.1 vwCl [(h, .inr (3, [.int 0, .ref q_1, .ref q_2, .ref q_3, .ref q_4, .null])), (q_1, aI E 4 (fun _ => 0)), (q_2, aI E 4 (fun _ => 0)), (q_3, aI E 4 (fun _ => 0)), (q_4, aI E 4 (fun _ => 0)), (q_5, aI E 50 (fun _ => 0))] H := hP
  have hD : va_D A [(h, .inr (3, [.int 0, .ref q_1, .ref q_2, .ref q_3, .ref q_4, .null])), (q_1, aI E 4 (fun _ => 0)), (q_2, aI E 4 (fun _ => 0)), (q_3, aI E 4 (fun _ => 0)), (q_4, aI E 4 (fun _ => 0)), (q_5, aI E 50 (fun _ => 0))] := hD
  refine va_putF (D := E.1) (ci := 3) (v := .ref q_5) (ty := .array .int) (own := RX3) (C := RX3) (T := TX3) (N := 6) hx hb hts i_k_rules_X3 tyX3 tyX3_ok nmX3 hown hK hP hD hS 0 rfl rfl 5 (by decide) (hto (.fieldLink RX3 24 "TimingHouse$Rules" "bits" "[I") (by decide +kernel)) (fun _ h9 => h9) rfl hin rfl (by decide +kernel) rfl rfl (Nat.le_of_ble_eq_true rfl) dX3_init_37 (fun H locs hP hD hS => ?_)
  have hP : va_P E.1 vwCl [(h, .inr (3, [.int 0, .ref q_1, .ref q_2, .ref q_3, .ref q_4, .ref q_5])), (q_1, aI E 4 (fun _ => 0)), (q_2, aI E 4 (fun _ => 0)), (q_3, aI E 4 (fun _ => 0)), (q_4, aI E 4 (fun _ => 0)), (q_5, aI E 50 (fun _ => 0))] H := hP
  have hD : va_D A [(h, .inr (3, [.int 0, .ref q_1, .ref q_2, .ref q_3, .ref q_4, .ref q_5])), (q_1, aI E 4 (fun _ => 0)), (q_2, aI E 4 (fun _ => 0)), (q_3, aI E 4 (fun _ => 0)), (q_4, aI E 4 (fun _ => 0)), (q_5, aI E 50 (fun _ => 0))] := hD
  exact ret_v hx hb hr hlk (hP.sub (ws' := [(h, .inr (3, [.int 0, .ref q_1, .ref q_2, .ref q_3, .ref q_4, .ref q_5])), (q_1, aI E 4 (fun _ => 0)), (q_2, aI E 4 (fun _ => 0)), (q_3, aI E 4 (fun _ => 0)), (q_4, aI E 4 (fun _ => 0)), (q_5, aI E 50 (fun _ => 0))]) [0, 1, 2, 3, 4, 5] rfl) (hD.sub (ws' := [(h, .inr (3, [.int 0, .ref q_1, .ref q_2, .ref q_3, .ref q_4, .ref q_5])), (q_1, aI E 4 (fun _ => 0)), (q_2, aI E 4 (fun _ => 0)), (q_3, aI E 4 (fun _ => 0)), (q_4, aI E 4 (fun _ => 0)), (q_5, aI E 50 (fun _ => 0))]) [0, 1, 2, 3, 4, 5] (by decide) rfl) hS dX3_init_40 (Nat.le_of_ble_eq_true rfl) (Nat.le_of_ble_eq_true rfl) ⟨q_1, q_2, q_3, q_4, q_5, rfl⟩
