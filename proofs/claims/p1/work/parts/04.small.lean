def GW (ws : List Cond) : Prop := ∀ w ∈ ws, (w.onTables && w.keeps) = true ∨ ∃ ty, w = .arrayClass ty
theorem GW_nil : GW [] := fun _ h => absurd h List.not_mem_nil
theorem GW_app {a b : List Cond} (ha : GW a) (hb : GW b) : GW (a ++ b) := fun w h => (List.mem_append.mp h).elim (ha w) (hb w)
theorem GW_of {a : List Cond} (h : a.all goodWord = true) : GW a := fun w hw => good_of_word (List.all_eq_true.mp h w hw)
theorem gi_left {a b ws : List Cond} (h : GoodIn a ws) : GoodIn (a ++ b) ws := fun w hw => ⟨List.mem_append_left _ (h w hw).1, (h w hw).2⟩
theorem gi_right {a b ws : List Cond} (h : GoodIn b ws) : GoodIn (a ++ b) ws := fun w hw => ⟨List.mem_append_right _ (h w hw).1, (h w hw).2⟩
theorem nb_if {P : Prop} [Decidable P] {r : Int32} (h : r = if P then 1 else 0) : narrow .boolean (.int r) = .int r := by
  subst h; split <;> rfl
theorem dX9_within_0 : decode cX9_within 0 = .ok (.iload_n 0, 1) := by decide +kernel
theorem dX9_within_1 : decode cX9_within 1 = .ok (.iload_n 1, 1) := by decide +kernel
theorem dX9_within_2 : decode cX9_within 2 = .ok (.if_icmp .lt 12, 3) := by decide +kernel
theorem dX9_within_14 : decode cX9_within 14 = .ok (.iconst 0, 1) := by decide +kernel
theorem dX9_within_15 : decode cX9_within 15 = .ok (.ireturn, 1) := by decide +kernel
theorem dX9_within_5 : decode cX9_within 5 = .ok (.iload_n 0, 1) := by decide +kernel
theorem dX9_within_6 : decode cX9_within 6 = .ok (.iload_n 2, 1) := by decide +kernel
theorem dX9_within_7 : decode cX9_within 7 = .ok (.if_icmp .gt 7, 3) := by decide +kernel
theorem dX9_within_10 : decode cX9_within 10 = .ok (.iconst 1, 1) := by decide +kernel
theorem dX9_within_11 : decode cX9_within 11 = .ok (.goto 4, 3) := by decide +kernel
def wo_k_within : List Cond := [.code yX9_within cX9_within 3 (some .boolean)]
def wr_k_within : List Cond := []
def w_k_within : List Cond := wo_k_within ++ wr_k_within
theorem wg_k_within : GW w_k_within := GW_app (GW_of (by decide +kernel)) (GW_nil)
set_option maxHeartbeats 4000000 in
set_option maxRecDepth 100000 in
theorem k_within (l : Launch) (E : gE) (v : Int32) (lo : Int32) (hi : Int32) : CtI l E yX9_within w_k_within ({ frames := 0, cells := 0, slots := 0, locals := 0 }) [] [.int v, .int lo, .int hi] (fun r w => (r = if lo.toInt ≤ v.toInt ∧ v.toInt ≤ hi.toInt then 1 else 0) ∧ w = []) := by
  refine CtI.of (cc := cX9_within) (maxL := 3) (rt := (some .boolean)) (by decide) rfl (Nat.le_of_ble_eq_true rfl) ?_
  intro p e s m below meth c A B ls hl
  obtain ⟨hx, hb, hml, hr, hlk, hin, hts, hown, hK, hN, hA, hP, hD, hS⟩ := B
  have hown : s.vm.findClass RX9 = some m.cls := hown
  have hto : ∀ w ∈ wo_k_within, w.before _ s = true := fun w h => hts w (List.mem_append_left _ h)
  have hl : lv_has ls 3 [(0, .int v), (1, .int lo), (2, .int hi)] := hl
  obtain ⟨H, hHe⟩ : ∃ H, H = s.heap := ⟨_, rfl⟩
  have hS : va_S A s.heap H [] := by rw [hHe]; exact hS
  have hP : va_P E.1 vwCl [] H := by rw [hHe]; exact hP
  refine W_heap hHe ?_
  refine lv_iload_n hx hb dX9_within_0 rfl (lv_at hl 0 rfl) ?_
  refine lv_iload_n hx hb dX9_within_1 rfl (lv_at hl 1 rfl) ?_
  refine lv_icmp_lt (tgt := 14) hx hb dX9_within_2 (by decide) (fun c_1 => ?_) (fun c_1 => ?_)
  · have e_1 : v.toInt < lo.toInt := i3_lt c_1
    refine lv_iconst (v := 0) hx hb dX9_within_14 (by decide) ?_
    exact ret_i hx hb hr hlk (hP.sub (ws' := []) [] rfl) (hD.sub (ws' := []) [] (by decide) rfl) hS rfl dX9_within_15 (Nat.le_of_ble_eq_true rfl) (Nat.le_of_ble_eq_true rfl) ⟨(by first | assumption | ((repeat' split) <;> first | rfl | (exfalso; omega))), rfl⟩
  · have e_1 : lo.toInt ≤ v.toInt := i3_nlt c_1
    refine lv_iload_n hx hb dX9_within_5 rfl (lv_at hl 0 rfl) ?_
    refine lv_iload_n hx hb dX9_within_6 rfl (lv_at hl 2 rfl) ?_
    refine lv_icmp_gt (tgt := 14) hx hb dX9_within_7 (by decide) (fun c_2 => ?_) (fun c_2 => ?_)
    · have e_2 : hi.toInt < v.toInt := i3_lt c_2
      refine lv_iconst (v := 0) hx hb dX9_within_14 (by decide) ?_
      exact ret_i hx hb hr hlk (hP.sub (ws' := []) [] rfl) (hD.sub (ws' := []) [] (by decide) rfl) hS rfl dX9_within_15 (Nat.le_of_ble_eq_true rfl) (Nat.le_of_ble_eq_true rfl) ⟨(by first | assumption | ((repeat' split) <;> first | rfl | (exfalso; omega))), rfl⟩
    · have e_2 : v.toInt ≤ hi.toInt := i3_nlt c_2
      refine lv_iconst (v := 1) hx hb dX9_within_10 (by decide) ?_
      refine lv_goto (tgt := 15) hx hb dX9_within_11 (by decide) ?_
      exact ret_i hx hb hr hlk (hP.sub (ws' := []) [] rfl) (hD.sub (ws' := []) [] (by decide) rfl) hS rfl dX9_within_15 (Nat.le_of_ble_eq_true rfl) (Nat.le_of_ble_eq_true rfl) ⟨(by first | assumption | ((repeat' split) <;> first | rfl | (exfalso; omega))), rfl⟩
theorem dX5_has_0 : decode cX5_has 0 = .ok (.iload_n 0, 1) := by decide +kernel
theorem dX5_has_1 : decode cX5_has 1 = .ok (.ifCond .lt 13, 3) := by decide +kernel
theorem dX5_has_14 : decode cX5_has 14 = .ok (.iconst 0, 1) := by decide +kernel
theorem dX5_has_15 : decode cX5_has 15 = .ok (.ireturn, 1) := by decide +kernel
theorem dX5_has_4 : decode cX5_has 4 = .ok (.iload_n 0, 1) := by decide +kernel
theorem dX5_has_5 : decode cX5_has 5 = .ok (.bipush 8, 2) := by decide +kernel
theorem dX5_has_7 : decode cX5_has 7 = .ok (.if_icmp .ge 7, 3) := by decide +kernel
theorem dX5_has_10 : decode cX5_has 10 = .ok (.iconst 1, 1) := by decide +kernel
theorem dX5_has_11 : decode cX5_has 11 = .ok (.goto 4, 3) := by decide +kernel
def wo_k_thas : List Cond := [.code yX5_has cX5_has 1 (some .boolean)]
def wr_k_thas : List Cond := []
def w_k_thas : List Cond := wo_k_thas ++ wr_k_thas
theorem wg_k_thas : GW w_k_thas := GW_app (GW_of (by decide +kernel)) (GW_nil)
set_option maxHeartbeats 4000000 in
set_option maxRecDepth 100000 in
theorem k_thas (l : Launch) (E : gE) (t : Int32) : CtI l E yX5_has w_k_thas ({ frames := 0, cells := 0, slots := 0, locals := 0 }) [] [.int t] (fun r w => (r = if 0 ≤ t.toInt ∧ t.toInt < 8 then 1 else 0) ∧ w = []) := by
  refine CtI.of (cc := cX5_has) (maxL := 1) (rt := (some .boolean)) (by decide) rfl (Nat.le_of_ble_eq_true rfl) ?_
  intro p e s m below meth c A B ls hl
  obtain ⟨hx, hb, hml, hr, hlk, hin, hts, hown, hK, hN, hA, hP, hD, hS⟩ := B
  have hown : s.vm.findClass RX5 = some m.cls := hown
  have hto : ∀ w ∈ wo_k_thas, w.before _ s = true := fun w h => hts w (List.mem_append_left _ h)
  have hl : lv_has ls 1 [(0, .int t)] := hl
  obtain ⟨H, hHe⟩ : ∃ H, H = s.heap := ⟨_, rfl⟩
  have hS : va_S A s.heap H [] := by rw [hHe]; exact hS
  have hP : va_P E.1 vwCl [] H := by rw [hHe]; exact hP
  refine W_heap hHe ?_
  refine lv_iload_n hx hb dX5_has_0 rfl (lv_at hl 0 rfl) ?_
  refine lv_if_lt (tgt := 14) hx hb dX5_has_1 (by decide) (fun c_1 => ?_) (fun c_1 => ?_)
  · have e_1 : t.toInt < 0 := i3_lt c_1
    refine lv_iconst (v := 0) hx hb dX5_has_14 (by decide) ?_
    exact ret_i hx hb hr hlk (hP.sub (ws' := []) [] rfl) (hD.sub (ws' := []) [] (by decide) rfl) hS rfl dX5_has_15 (Nat.le_of_ble_eq_true rfl) (Nat.le_of_ble_eq_true rfl) ⟨(by first | assumption | ((repeat' split) <;> first | rfl | (exfalso; omega))), rfl⟩
  · have e_1 : 0 ≤ t.toInt := i3_nlt c_1
    refine lv_iload_n hx hb dX5_has_4 rfl (lv_at hl 0 rfl) ?_
    refine lv_bipush (v := 8) hx hb dX5_has_5 (by decide) ?_
    refine lv_icmp_ge (tgt := 14) hx hb dX5_has_7 (by decide) (fun c_2 => ?_) (fun c_2 => ?_)
    · have e_2 : 8 ≤ t.toInt := i3_le c_2
      refine lv_iconst (v := 0) hx hb dX5_has_14 (by decide) ?_
      exact ret_i hx hb hr hlk (hP.sub (ws' := []) [] rfl) (hD.sub (ws' := []) [] (by decide) rfl) hS rfl dX5_has_15 (Nat.le_of_ble_eq_true rfl) (Nat.le_of_ble_eq_true rfl) ⟨(by first | assumption | ((repeat' split) <;> first | rfl | (exfalso; omega))), rfl⟩
    · have e_2 : t.toInt < 8 := i3_nle c_2
      refine lv_iconst (v := 1) hx hb dX5_has_10 (by decide) ?_
      refine lv_goto (tgt := 15) hx hb dX5_has_11 (by decide) ?_
      exact ret_i hx hb hr hlk (hP.sub (ws' := []) [] rfl) (hD.sub (ws' := []) [] (by decide) rfl) hS rfl dX5_has_15 (Nat.le_of_ble_eq_true rfl) (Nat.le_of_ble_eq_true rfl) ⟨(by first | assumption | ((repeat' split) <;> first | rfl | (exfalso; omega))), rfl⟩
theorem dX1_isGateKind_0 : decode cX1_isGateKind 0 = .ok (.iload_n 0, 1) := by decide +kernel
theorem dX1_isGateKind_1 : decode cX1_isGateKind 1 = .ok (.ifCond .le 12, 3) := by decide +kernel
theorem dX1_isGateKind_13 : decode cX1_isGateKind 13 = .ok (.iconst 0, 1) := by decide +kernel
theorem dX1_isGateKind_14 : decode cX1_isGateKind 14 = .ok (.ireturn, 1) := by decide +kernel
theorem dX1_isGateKind_4 : decode cX1_isGateKind 4 = .ok (.iload_n 0, 1) := by decide +kernel
theorem dX1_isGateKind_5 : decode cX1_isGateKind 5 = .ok (.iconst 4, 1) := by decide +kernel
theorem dX1_isGateKind_6 : decode cX1_isGateKind 6 = .ok (.if_icmp .ge 7, 3) := by decide +kernel
theorem dX1_isGateKind_9 : decode cX1_isGateKind 9 = .ok (.iconst 1, 1) := by decide +kernel
theorem dX1_isGateKind_10 : decode cX1_isGateKind 10 = .ok (.goto 4, 3) := by decide +kernel
def wo_k_isGateKind : List Cond := [.code yX1_isGateKind cX1_isGateKind 1 (some .boolean)]
def wr_k_isGateKind : List Cond := []
def w_k_isGateKind : List Cond := wo_k_isGateKind ++ wr_k_isGateKind
theorem wg_k_isGateKind : GW w_k_isGateKind := GW_app (GW_of (by decide +kernel)) (GW_nil)
set_option maxHeartbeats 4000000 in
set_option maxRecDepth 100000 in
theorem k_isGateKind (l : Launch) (E : gE) (kd : Int32) : CtI l E yX1_isGateKind w_k_isGateKind ({ frames := 0, cells := 0, slots := 0, locals := 0 }) [] [.int kd] (fun r w => (r = if 0 < kd.toInt ∧ kd.toInt < 4 then 1 else 0) ∧ w = []) := by
  refine CtI.of (cc := cX1_isGateKind) (maxL := 1) (rt := (some .boolean)) (by decide) rfl (Nat.le_of_ble_eq_true rfl) ?_
  intro p e s m below meth c A B ls hl
  obtain ⟨hx, hb, hml, hr, hlk, hin, hts, hown, hK, hN, hA, hP, hD, hS⟩ := B
  have hown : s.vm.findClass RX1 = some m.cls := hown
  have hto : ∀ w ∈ wo_k_isGateKind, w.before _ s = true := fun w h => hts w (List.mem_append_left _ h)
  have hl : lv_has ls 1 [(0, .int kd)] := hl
  obtain ⟨H, hHe⟩ : ∃ H, H = s.heap := ⟨_, rfl⟩
  have hS : va_S A s.heap H [] := by rw [hHe]; exact hS
  have hP : va_P E.1 vwCl [] H := by rw [hHe]; exact hP
  refine W_heap hHe ?_
  refine lv_iload_n hx hb dX1_isGateKind_0 rfl (lv_at hl 0 rfl) ?_
  refine lv_if_le (tgt := 13) hx hb dX1_isGateKind_1 (by decide) (fun c_1 => ?_) (fun c_1 => ?_)
  · have e_1 : kd.toInt ≤ 0 := i3_le c_1
    refine lv_iconst (v := 0) hx hb dX1_isGateKind_13 (by decide) ?_
    exact ret_i hx hb hr hlk (hP.sub (ws' := []) [] rfl) (hD.sub (ws' := []) [] (by decide) rfl) hS rfl dX1_isGateKind_14 (Nat.le_of_ble_eq_true rfl) (Nat.le_of_ble_eq_true rfl) ⟨(by first | assumption | ((repeat' split) <;> first | rfl | (exfalso; omega))), rfl⟩
  · have e_1 : 0 < kd.toInt := i3_nle c_1
    refine lv_iload_n hx hb dX1_isGateKind_4 rfl (lv_at hl 0 rfl) ?_
    refine lv_iconst (v := 4) hx hb dX1_isGateKind_5 (by decide) ?_
    refine lv_icmp_ge (tgt := 13) hx hb dX1_isGateKind_6 (by decide) (fun c_2 => ?_) (fun c_2 => ?_)
    · have e_2 : 4 ≤ kd.toInt := i3_le c_2
      refine lv_iconst (v := 0) hx hb dX1_isGateKind_13 (by decide) ?_
      exact ret_i hx hb hr hlk (hP.sub (ws' := []) [] rfl) (hD.sub (ws' := []) [] (by decide) rfl) hS rfl dX1_isGateKind_14 (Nat.le_of_ble_eq_true rfl) (Nat.le_of_ble_eq_true rfl) ⟨(by first | assumption | ((repeat' split) <;> first | rfl | (exfalso; omega))), rfl⟩
    · have e_2 : kd.toInt < 4 := i3_nle c_2
      refine lv_iconst (v := 1) hx hb dX1_isGateKind_9 (by decide) ?_
      refine lv_goto (tgt := 14) hx hb dX1_isGateKind_10 (by decide) ?_
      exact ret_i hx hb hr hlk (hP.sub (ws' := []) [] rfl) (hD.sub (ws' := []) [] (by decide) rfl) hS rfl dX1_isGateKind_14 (Nat.le_of_ble_eq_true rfl) (Nat.le_of_ble_eq_true rfl) ⟨(by first | assumption | ((repeat' split) <;> first | rfl | (exfalso; omega))), rfl⟩
theorem dX5_hasRow_0 : decode cX5_hasRow 0 = .ok (.iload_n 0, 1) := by decide +kernel
theorem dX5_hasRow_1 : decode cX5_hasRow 1 = .ok (.invokestatic 27, 3) := by decide +kernel
theorem dX5_hasRow_4 : decode cX5_hasRow 4 = .ok (.ifCond .eq 25, 3) := by decide +kernel
theorem dX5_hasRow_29 : decode cX5_hasRow 29 = .ok (.iconst 0, 1) := by decide +kernel
theorem dX5_hasRow_30 : decode cX5_hasRow 30 = .ok (.ireturn, 1) := by decide +kernel
theorem dX5_hasRow_7 : decode cX5_hasRow 7 = .ok (.iload_n 1, 1) := by decide +kernel
theorem dX5_hasRow_8 : decode cX5_hasRow 8 = .ok (.ifCond .lt 21, 3) := by decide +kernel
theorem dX5_hasRow_11 : decode cX5_hasRow 11 = .ok (.iload_n 1, 1) := by decide +kernel
theorem dX5_hasRow_12 : decode cX5_hasRow 12 = .ok (.iconst 2, 1) := by decide +kernel
theorem dX5_hasRow_13 : decode cX5_hasRow 13 = .ok (.if_icmp .ge 16, 3) := by decide +kernel
theorem dX5_hasRow_16 : decode cX5_hasRow 16 = .ok (.iload_n 2, 1) := by decide +kernel
theorem dX5_hasRow_17 : decode cX5_hasRow 17 = .ok (.ifCond .lt 12, 3) := by decide +kernel
theorem dX5_hasRow_20 : decode cX5_hasRow 20 = .ok (.iload_n 2, 1) := by decide +kernel
theorem dX5_hasRow_21 : decode cX5_hasRow 21 = .ok (.iconst 4, 1) := by decide +kernel
theorem dX5_hasRow_22 : decode cX5_hasRow 22 = .ok (.if_icmp .ge 7, 3) := by decide +kernel
theorem dX5_hasRow_25 : decode cX5_hasRow 25 = .ok (.iconst 1, 1) := by decide +kernel
theorem dX5_hasRow_26 : decode cX5_hasRow 26 = .ok (.goto 4, 3) := by decide +kernel
def wo_k_hasRow : List Cond := [.code yX5_hasRow cX5_hasRow 3 (some .boolean), .methodLink RX5 27 yX5_has, .static yX5_has, .initialized RX5]
def wr_k_hasRow : List Cond := (w_k_thas ++ ([]))
def w_k_hasRow : List Cond := wo_k_hasRow ++ wr_k_hasRow
theorem wg_k_hasRow : GW w_k_hasRow := GW_app (GW_of (by decide +kernel)) (GW_app (wg_k_thas) (GW_nil))
theorem g_k_hasRow_k_thas_27 : GoodIn w_k_hasRow (va_wsS RX5 27 yX5_has w_k_thas) := goodIn_app (gi_left (goodIn_of _ (by decide +kernel))) (fun w h => ⟨List.mem_append_right _ (List.mem_append_left _ h), wg_k_thas w h⟩)
set_option maxHeartbeats 4000000 in
set_option maxRecDepth 100000 in
theorem k_hasRow (l : Launch) (E : gE) (t : Int32) (pt : Int32) (rw : Int32) : CtI l E yX5_hasRow w_k_hasRow ({ frames := 1, cells := 0, slots := 0, locals := 20 }) [] [.int t, .int pt, .int rw] (fun r w => (r = if 0 ≤ t.toInt ∧ t.toInt < 8 ∧ 0 ≤ pt.toInt ∧ pt.toInt < 2 ∧ 0 ≤ rw.toInt ∧ rw.toInt < 4 then 1 else 0) ∧ w = []) := by
  refine CtI.of (cc := cX5_hasRow) (maxL := 3) (rt := (some .boolean)) (by decide) rfl (Nat.le_of_ble_eq_true rfl) ?_
  intro p e s m below meth c A B ls hl
  obtain ⟨hx, hb, hml, hr, hlk, hin, hts, hown, hK, hN, hA, hP, hD, hS⟩ := B
  have hown : s.vm.findClass RX5 = some m.cls := hown
  have hto : ∀ w ∈ wo_k_hasRow, w.before _ s = true := fun w h => hts w (List.mem_append_left _ h)
  have hl : lv_has ls 3 [(0, .int t), (1, .int pt), (2, .int rw)] := hl
  obtain ⟨H, hHe⟩ : ∃ H, H = s.heap := ⟨_, rfl⟩
  have hS : va_S A s.heap H [] := by rw [hHe]; exact hS
  have hP : va_P E.1 vwCl [] H := by rw [hHe]; exact hP
  refine W_heap hHe ?_
  refine lv_iload_n hx hb dX5_hasRow_0 rfl (lv_at hl 0 rfl) ?_
  refine call_i (va_runS (As := [.int t]) (rest := []) ⟨hx, hb, hml, hown, hts⟩ (k_thas l E t H.size) (va_cwS 1 hts g_k_hasRow_k_thas_27 rfl rfl rfl (by decide +kernel) ⟨Nat.le_of_ble_eq_true rfl, Nat.le_of_ble_eq_true rfl⟩) (pre_S hK hN (hP.sub (ws' := []) [] rfl) (hD.sub (ws' := []) [] (by decide) rfl)) rfl rfl hl.1 rfl (lv_room (Nat.le_of_ble_eq_true rfl)) dX5_hasRow_1 ⟨Nat.le_of_ble_eq_true rfl, Nat.le_of_ble_eq_true rfl⟩) hP hD hS hA [] [] (wr := []) rfl rfl (by decide) (by decide) (fun r_1 w H locs hw hP hD hS => ?_)
  obtain ⟨hr_1, rfl⟩ := hw
  have hr_1 : r_1 = if 0 ≤ t.toInt ∧ t.toInt < 8 then 1 else 0 := hr_1
  have hP : va_P E.1 vwCl [] H := hP
  have hD : va_D A [] := hD
  refine lv_if_eq (tgt := 29) hx hb dX5_hasRow_4 (by decide) (fun c_2 => ?_) (fun c_2 => ?_)
  · have e_2 : ¬ (0 ≤ t.toInt ∧ t.toInt < 8) := bi_neg hr_1 c_2
    refine lv_iconst (v := 0) hx hb dX5_hasRow_29 (by decide) ?_
    exact ret_i hx hb hr hlk (hP.sub (ws' := []) [] rfl) (hD.sub (ws' := []) [] (by decide) rfl) hS rfl dX5_hasRow_30 (Nat.le_of_ble_eq_true rfl) (Nat.le_of_ble_eq_true rfl) ⟨(by first | assumption | ((repeat' split) <;> first | rfl | (exfalso; omega))), rfl⟩
  · have e_2 : 0 ≤ t.toInt ∧ t.toInt < 8 := bi_pos hr_1 c_2
    refine lv_iload_n hx hb dX5_hasRow_7 rfl (lv_at hl 1 rfl) ?_
    refine lv_if_lt (tgt := 29) hx hb dX5_hasRow_8 (by decide) (fun c_3 => ?_) (fun c_3 => ?_)
    · have e_3 : pt.toInt < 0 := i3_lt c_3
      refine lv_iconst (v := 0) hx hb dX5_hasRow_29 (by decide) ?_
      exact ret_i hx hb hr hlk (hP.sub (ws' := []) [] rfl) (hD.sub (ws' := []) [] (by decide) rfl) hS rfl dX5_hasRow_30 (Nat.le_of_ble_eq_true rfl) (Nat.le_of_ble_eq_true rfl) ⟨(by first | assumption | ((repeat' split) <;> first | rfl | (exfalso; omega))), rfl⟩
    · have e_3 : 0 ≤ pt.toInt := i3_nlt c_3
      refine lv_iload_n hx hb dX5_hasRow_11 rfl (lv_at hl 1 rfl) ?_
      refine lv_iconst (v := 2) hx hb dX5_hasRow_12 (by decide) ?_
      refine lv_icmp_ge (tgt := 29) hx hb dX5_hasRow_13 (by decide) (fun c_4 => ?_) (fun c_4 => ?_)
      · have e_4 : 2 ≤ pt.toInt := i3_le c_4
        refine lv_iconst (v := 0) hx hb dX5_hasRow_29 (by decide) ?_
        exact ret_i hx hb hr hlk (hP.sub (ws' := []) [] rfl) (hD.sub (ws' := []) [] (by decide) rfl) hS rfl dX5_hasRow_30 (Nat.le_of_ble_eq_true rfl) (Nat.le_of_ble_eq_true rfl) ⟨(by first | assumption | ((repeat' split) <;> first | rfl | (exfalso; omega))), rfl⟩
      · have e_4 : pt.toInt < 2 := i3_nle c_4
        refine lv_iload_n hx hb dX5_hasRow_16 rfl (lv_at hl 2 rfl) ?_
        refine lv_if_lt (tgt := 29) hx hb dX5_hasRow_17 (by decide) (fun c_5 => ?_) (fun c_5 => ?_)
        · have e_5 : rw.toInt < 0 := i3_lt c_5
          refine lv_iconst (v := 0) hx hb dX5_hasRow_29 (by decide) ?_
          exact ret_i hx hb hr hlk (hP.sub (ws' := []) [] rfl) (hD.sub (ws' := []) [] (by decide) rfl) hS rfl dX5_hasRow_30 (Nat.le_of_ble_eq_true rfl) (Nat.le_of_ble_eq_true rfl) ⟨(by first | assumption | ((repeat' split) <;> first | rfl | (exfalso; omega))), rfl⟩
        · have e_5 : 0 ≤ rw.toInt := i3_nlt c_5
          refine lv_iload_n hx hb dX5_hasRow_20 rfl (lv_at hl 2 rfl) ?_
          refine lv_iconst (v := 4) hx hb dX5_hasRow_21 (by decide) ?_
          refine lv_icmp_ge (tgt := 29) hx hb dX5_hasRow_22 (by decide) (fun c_6 => ?_) (fun c_6 => ?_)
          · have e_6 : 4 ≤ rw.toInt := i3_le c_6
            refine lv_iconst (v := 0) hx hb dX5_hasRow_29 (by decide) ?_
            exact ret_i hx hb hr hlk (hP.sub (ws' := []) [] rfl) (hD.sub (ws' := []) [] (by decide) rfl) hS rfl dX5_hasRow_30 (Nat.le_of_ble_eq_true rfl) (Nat.le_of_ble_eq_true rfl) ⟨(by first | assumption | ((repeat' split) <;> first | rfl | (exfalso; omega))), rfl⟩
          · have e_6 : rw.toInt < 4 := i3_nle c_6
            refine lv_iconst (v := 1) hx hb dX5_hasRow_25 (by decide) ?_
            refine lv_goto (tgt := 30) hx hb dX5_hasRow_26 (by decide) ?_
            exact ret_i hx hb hr hlk (hP.sub (ws' := []) [] rfl) (hD.sub (ws' := []) [] (by decide) rfl) hS rfl dX5_hasRow_30 (Nat.le_of_ble_eq_true rfl) (Nat.le_of_ble_eq_true rfl) ⟨(by first | assumption | ((repeat' split) <;> first | rfl | (exfalso; omega))), rfl⟩
theorem dX5_rowPlace_0 : decode cX5_rowPlace 0 = .ok (.iload_n 0, 1) := by decide +kernel
theorem dX5_rowPlace_1 : decode cX5_rowPlace 1 = .ok (.iconst 2, 1) := by decide +kernel
theorem dX5_rowPlace_2 : decode cX5_rowPlace 2 = .ok (.imul, 1) := by decide +kernel
theorem dX5_rowPlace_3 : decode cX5_rowPlace 3 = .ok (.iload_n 1, 1) := by decide +kernel
theorem dX5_rowPlace_4 : decode cX5_rowPlace 4 = .ok (.iadd, 1) := by decide +kernel
theorem dX5_rowPlace_5 : decode cX5_rowPlace 5 = .ok (.iconst 4, 1) := by decide +kernel
theorem dX5_rowPlace_6 : decode cX5_rowPlace 6 = .ok (.imul, 1) := by decide +kernel
theorem dX5_rowPlace_7 : decode cX5_rowPlace 7 = .ok (.iload_n 2, 1) := by decide +kernel
theorem dX5_rowPlace_8 : decode cX5_rowPlace 8 = .ok (.iadd, 1) := by decide +kernel
theorem dX5_rowPlace_9 : decode cX5_rowPlace 9 = .ok (.ireturn, 1) := by decide +kernel
def wo_k_rowPlace : List Cond := [.code yX5_rowPlace cX5_rowPlace 3 (some .int)]
def wr_k_rowPlace : List Cond := []
def w_k_rowPlace : List Cond := wo_k_rowPlace ++ wr_k_rowPlace
theorem wg_k_rowPlace : GW w_k_rowPlace := GW_app (GW_of (by decide +kernel)) (GW_nil)
set_option maxHeartbeats 4000000 in
set_option maxRecDepth 100000 in
theorem k_rowPlace (l : Launch) (E : gE) (t : Int32) (pt : Int32) (rw : Int32) (ht : 0 ≤ t.toInt ∧ t.toInt < 8) (hp : 0 ≤ pt.toInt ∧ pt.toInt < 2) (hq : 0 ≤ rw.toInt ∧ rw.toInt < 4) : CtI l E yX5_rowPlace w_k_rowPlace ({ frames := 0, cells := 0, slots := 0, locals := 0 }) [] [.int t, .int pt, .int rw] (fun r w => r.toInt = (t.toInt * 2 + pt.toInt) * 4 + rw.toInt ∧ w = []) := by
  refine CtI.of (cc := cX5_rowPlace) (maxL := 3) (rt := (some .int)) (by decide) rfl (Nat.le_of_ble_eq_true rfl) ?_
  intro p e s m below meth c A B ls hl
  obtain ⟨hx, hb, hml, hr, hlk, hin, hts, hown, hK, hN, hA, hP, hD, hS⟩ := B
  have hown : s.vm.findClass RX5 = some m.cls := hown
  have hto : ∀ w ∈ wo_k_rowPlace, w.before _ s = true := fun w h => hts w (List.mem_append_left _ h)
  have hl : lv_has ls 3 [(0, .int t), (1, .int pt), (2, .int rw)] := hl
  obtain ⟨H, hHe⟩ : ∃ H, H = s.heap := ⟨_, rfl⟩
  have hS : va_S A s.heap H [] := by rw [hHe]; exact hS
  have hP : va_P E.1 vwCl [] H := by rw [hHe]; exact hP
  refine W_heap hHe ?_
  refine lv_iload_n hx hb dX5_rowPlace_0 rfl (lv_at hl 0 rfl) ?_
  refine lv_iconst (v := 2) hx hb dX5_rowPlace_1 (by decide) ?_
  refine lv_imul hx hb dX5_rowPlace_2 ?_
  refine lv_topi (fun x_1 ex_1 => ?_)
  have tx_1 : x_1.toInt = t.toInt * 2 := i3_mulc rfl rfl ex_1 (by omega)
  refine lv_iload_n hx hb dX5_rowPlace_3 rfl (lv_at hl 1 rfl) ?_
  refine lv_iadd hx hb dX5_rowPlace_4 ?_
  refine lv_topi (fun x_2 ex_2 => ?_)
  have tx_2 : x_2.toInt = x_1.toInt + pt.toInt := i3_addc rfl rfl ex_2 (by omega)
  refine lv_iconst (v := 4) hx hb dX5_rowPlace_5 (by decide) ?_
  refine lv_imul hx hb dX5_rowPlace_6 ?_
  refine lv_topi (fun x_3 ex_3 => ?_)
  have tx_3 : x_3.toInt = x_2.toInt * 4 := i3_mulc rfl rfl ex_3 (by omega)
  refine lv_iload_n hx hb dX5_rowPlace_7 rfl (lv_at hl 2 rfl) ?_
  refine lv_iadd hx hb dX5_rowPlace_8 ?_
  refine lv_topi (fun x_4 ex_4 => ?_)
  have tx_4 : x_4.toInt = x_3.toInt + rw.toInt := i3_addc rfl rfl ex_4 (by omega)
  exact ret_i hx hb hr hlk (hP.sub (ws' := []) [] rfl) (hD.sub (ws' := []) [] (by decide) rfl) hS rfl dX5_rowPlace_9 (Nat.le_of_ble_eq_true rfl) (Nat.le_of_ble_eq_true rfl) ⟨(by omega), rfl⟩
theorem dX1_has_0 : decode cX1_has 0 = .ok (.iload_n 1, 1) := by decide +kernel
theorem dX1_has_1 : decode cX1_has 1 = .ok (.ifCond .lt 15, 3) := by decide +kernel
theorem dX1_has_16 : decode cX1_has 16 = .ok (.iconst 0, 1) := by decide +kernel
theorem dX1_has_17 : decode cX1_has 17 = .ok (.ireturn, 1) := by decide +kernel
theorem dX1_has_4 : decode cX1_has 4 = .ok (.iload_n 1, 1) := by decide +kernel
theorem dX1_has_5 : decode cX1_has 5 = .ok (.aload_n 0, 1) := by decide +kernel
theorem dX1_has_6 : decode cX1_has 6 = .ok (.getfield 52, 3) := by decide +kernel
theorem dX1_has_9 : decode cX1_has 9 = .ok (.if_icmp .ge 7, 3) := by decide +kernel
def wo_k_has0 : List Cond := [.code yX1_has cX1_has 2 (some .boolean), .fieldLink RX1 52 "TimingHouse$Net" "cells" "I"]
def wr_k_has0 : List Cond := (wsX10 ++ ([]))
def w_k_has0 : List Cond := wo_k_has0 ++ wr_k_has0
theorem wg_k_has0 : GW w_k_has0 := GW_app (GW_of (by decide +kernel)) (GW_app (GW_of (by decide +kernel)) (GW_nil))
theorem i_k_has0_X1 : ∀ w ∈ wsX10, w ∈ w_k_has0 := fun _ h => List.mem_append_right _ (List.mem_append_left _ h)
set_option maxHeartbeats 4000000 in
set_option maxRecDepth 100000 in
theorem k_has0 (l : Launch) (E : gE) (n : Nat) (n_kinds : Value) (n_inputs : Value) (n_tables : Value) (n_sizes : Value) (n_extras : Value) (n_sources : Value) (n_takers : Value) (n_firstTaker : Value) (n_order : Value) (n_ordered : Value) (n_tally : Value) (n_behind : Value) (cc : Int32) : CtI l E yX1_has w_k_has0 ({ frames := 0, cells := 0, slots := 0, locals := 0 }) [(n, .inr (1, [.int 0, n_kinds, n_inputs, n_tables, n_sizes, n_extras, n_sources, n_takers, n_firstTaker, n_order, n_ordered, n_tally, n_behind]))] [.ref n, .int cc] (fun r w => r = 0 ∧ w = [(n, .inr (1, [.int 0, n_kinds, n_inputs, n_tables, n_sizes, n_extras, n_sources, n_takers, n_firstTaker, n_order, n_ordered, n_tally, n_behind]))]) := by
  refine CtI.of (cc := cX1_has) (maxL := 2) (rt := (some .boolean)) (by decide) rfl (Nat.le_of_ble_eq_true rfl) ?_
  intro p e s m below meth c A B ls hl
  obtain ⟨hx, hb, hml, hr, hlk, hin, hts, hown, hK, hN, hA, hP, hD, hS⟩ := B
  have hown : s.vm.findClass RX1 = some m.cls := hown
  have hto : ∀ w ∈ wo_k_has0, w.before _ s = true := fun w h => hts w (List.mem_append_left _ h)
  have hl : lv_has ls 2 [(0, .ref n), (1, .int cc)] := hl
  obtain ⟨H, hHe⟩ : ∃ H, H = s.heap := ⟨_, rfl⟩
  have hS : va_S A s.heap H [] := by rw [hHe]; exact hS
  have hP : va_P E.1 vwCl [(n, .inr (1, [.int 0, n_kinds, n_inputs, n_tables, n_sizes, n_extras, n_sources, n_takers, n_firstTaker, n_order, n_ordered, n_tally, n_behind]))] H := by rw [hHe]; exact hP
  refine W_heap hHe ?_
  refine lv_iload_n hx hb dX1_has_0 rfl (lv_at hl 1 rfl) ?_
  refine lv_if_lt (tgt := 16) hx hb dX1_has_1 (by decide) (fun c_1 => ?_) (fun c_1 => ?_)
  · have e_1 : cc.toInt < 0 := i3_lt c_1
    refine lv_iconst (v := 0) hx hb dX1_has_16 (by decide) ?_
    exact ret_i hx hb hr hlk (hP.sub (ws' := [(n, .inr (1, [.int 0, n_kinds, n_inputs, n_tables, n_sizes, n_extras, n_sources, n_takers, n_firstTaker, n_order, n_ordered, n_tally, n_behind]))]) [0] rfl) (hD.sub (ws' := [(n, .inr (1, [.int 0, n_kinds, n_inputs, n_tables, n_sizes, n_extras, n_sources, n_takers, n_firstTaker, n_order, n_ordered, n_tally, n_behind]))]) [0] (by decide) rfl) hS rfl dX1_has_17 (Nat.le_of_ble_eq_true rfl) (Nat.le_of_ble_eq_true rfl) ⟨rfl, rfl⟩
  · have e_1 : 0 ≤ cc.toInt := i3_nlt c_1
    refine lv_iload_n hx hb dX1_has_4 rfl (lv_at hl 1 rfl) ?_
    refine lv_aload_n hx hb dX1_has_5 rfl (lv_at hl 0 rfl) ?_
    refine va_get (D := E.1) (ci := 1) (v := .int 0) (own := RX1) (C := RX1) (T := TX1) (N := 13) hx hb hts i_k_has0_X1 hown hK hP 0 rfl rfl 0 (by decide) (hto (.fieldLink RX1 52 "TimingHouse$Net" "cells" "I") (by decide +kernel)) (fun _ h9 => h9) rfl dX1_has_6 ?_
    refine lv_icmp_ge (tgt := 16) hx hb dX1_has_9 (by decide) (fun c_2 => ?_) (fun c_2 => ?_)
    · have e_2 : 0 ≤ cc.toInt := i3_le c_2
      refine lv_iconst (v := 0) hx hb dX1_has_16 (by decide) ?_
      exact ret_i hx hb hr hlk (hP.sub (ws' := [(n, .inr (1, [.int 0, n_kinds, n_inputs, n_tables, n_sizes, n_extras, n_sources, n_takers, n_firstTaker, n_order, n_ordered, n_tally, n_behind]))]) [0] rfl) (hD.sub (ws' := [(n, .inr (1, [.int 0, n_kinds, n_inputs, n_tables, n_sizes, n_extras, n_sources, n_takers, n_firstTaker, n_order, n_ordered, n_tally, n_behind]))]) [0] (by decide) rfl) hS rfl dX1_has_17 (Nat.le_of_ble_eq_true rfl) (Nat.le_of_ble_eq_true rfl) ⟨rfl, rfl⟩
    · have e_2 : cc.toInt < 0 := i3_nle c_2
      exfalso; omega
theorem dX1_hasInput_0 : decode cX1_hasInput 0 = .ok (.aload_n 0, 1) := by decide +kernel
theorem dX1_hasInput_1 : decode cX1_hasInput 1 = .ok (.iload_n 1, 1) := by decide +kernel
theorem dX1_hasInput_2 : decode cX1_hasInput 2 = .ok (.invokevirtual 56, 3) := by decide +kernel
theorem dX1_hasInput_5 : decode cX1_hasInput 5 = .ok (.ifCond .eq 21, 3) := by decide +kernel
theorem dX1_hasInput_26 : decode cX1_hasInput 26 = .ok (.iconst 0, 1) := by decide +kernel
theorem dX1_hasInput_27 : decode cX1_hasInput 27 = .ok (.ireturn, 1) := by decide +kernel
def wo_k_hasInput0 : List Cond := [.code yX1_hasInput cX1_hasInput 3 (some .boolean), .methodLink RX1 56 yX1_has, .instanceMethod yX1_has, .selects RX1 yX1_has yX1_has, .initialized RX1]
def wr_k_hasInput0 : List Cond := (w_k_has0 ++ ([]))
def w_k_hasInput0 : List Cond := wo_k_hasInput0 ++ wr_k_hasInput0
theorem wg_k_hasInput0 : GW w_k_hasInput0 := GW_app (GW_of (by decide +kernel)) (GW_app (wg_k_has0) (GW_nil))
theorem g_k_hasInput0_k_has0_56 : GoodIn w_k_hasInput0 (wsV RX1 56 RX1 yX1_has w_k_has0) := goodIn_app (gi_left (goodIn_of _ (by decide +kernel))) (fun w h => ⟨List.mem_append_right _ (List.mem_append_left _ h), wg_k_has0 w h⟩)
set_option maxHeartbeats 4000000 in
set_option maxRecDepth 100000 in
theorem k_hasInput0 (l : Launch) (E : gE) (n : Nat) (n_kinds : Value) (n_inputs : Value) (n_tables : Value) (n_sizes : Value) (n_extras : Value) (n_sources : Value) (n_takers : Value) (n_firstTaker : Value) (n_order : Value) (n_ordered : Value) (n_tally : Value) (n_behind : Value) (cc : Int32) (ii : Int32) : CtI l E yX1_hasInput w_k_hasInput0 ({ frames := 1, cells := 0, slots := 0, locals := 21 }) [(n, .inr (1, [.int 0, n_kinds, n_inputs, n_tables, n_sizes, n_extras, n_sources, n_takers, n_firstTaker, n_order, n_ordered, n_tally, n_behind]))] [.ref n, .int cc, .int ii] (fun r w => r = 0 ∧ w = [(n, .inr (1, [.int 0, n_kinds, n_inputs, n_tables, n_sizes, n_extras, n_sources, n_takers, n_firstTaker, n_order, n_ordered, n_tally, n_behind]))]) := by
  refine CtI.of (cc := cX1_hasInput) (maxL := 3) (rt := (some .boolean)) (by decide) rfl (Nat.le_of_ble_eq_true rfl) ?_
  intro p e s m below meth c A B ls hl
  obtain ⟨hx, hb, hml, hr, hlk, hin, hts, hown, hK, hN, hA, hP, hD, hS⟩ := B
  have hown : s.vm.findClass RX1 = some m.cls := hown
  have hto : ∀ w ∈ wo_k_hasInput0, w.before _ s = true := fun w h => hts w (List.mem_append_left _ h)
  have hl : lv_has ls 3 [(0, .ref n), (1, .int cc), (2, .int ii)] := hl
  obtain ⟨H, hHe⟩ : ∃ H, H = s.heap := ⟨_, rfl⟩
  have hS : va_S A s.heap H [] := by rw [hHe]; exact hS
  have hP : va_P E.1 vwCl [(n, .inr (1, [.int 0, n_kinds, n_inputs, n_tables, n_sizes, n_extras, n_sources, n_takers, n_firstTaker, n_order, n_ordered, n_tally, n_behind]))] H := by rw [hHe]; exact hP
  refine W_heap hHe ?_
  refine lv_aload_n hx hb dX1_hasInput_0 rfl (lv_at hl 0 rfl) ?_
  refine lv_iload_n hx hb dX1_hasInput_1 rfl (lv_at hl 1 rfl) ?_
  refine call_i (va_runV (As := [.int cc]) (rest := []) ⟨hx, hb, hml, hown, hts⟩ (k_has0 l E n (n_kinds) (n_inputs) (n_tables) (n_sizes) (n_extras) (n_sources) (n_takers) (n_firstTaker) (n_order) (n_ordered) (n_tally) (n_behind) cc H.size) (cwV 1 hts g_k_hasInput0_k_has0_56 rfl rfl rfl (by decide +kernel) ⟨Nat.le_of_ble_eq_true rfl, Nat.le_of_ble_eq_true rfl⟩) (pre_V hK hN (hP.sub (ws' := [(n, .inr (1, [.int 0, n_kinds, n_inputs, n_tables, n_sizes, n_extras, n_sources, n_takers, n_firstTaker, n_order, n_ordered, n_tally, n_behind]))]) [0] rfl) (hD.sub (ws' := [(n, .inr (1, [.int 0, n_kinds, n_inputs, n_tables, n_sizes, n_extras, n_sources, n_takers, n_firstTaker, n_order, n_ordered, n_tally, n_behind]))]) [0] (by decide) rfl) (ci := 1) (q0 := 0) rfl rfl) rfl rfl hl.1 rfl (lv_room (Nat.le_of_ble_eq_true rfl)) dX1_hasInput_2 ⟨Nat.le_of_ble_eq_true rfl, Nat.le_of_ble_eq_true rfl⟩) hP hD hS hA [0] [] (wr := []) rfl rfl (by decide) (by decide) (fun r_1 w H locs hw hP hD hS => ?_)
  obtain ⟨rfl, rfl⟩ := hw
  have hP : va_P E.1 vwCl [(n, .inr (1, [.int 0, n_kinds, n_inputs, n_tables, n_sizes, n_extras, n_sources, n_takers, n_firstTaker, n_order, n_ordered, n_tally, n_behind]))] H := hP
  have hD : va_D A [(n, .inr (1, [.int 0, n_kinds, n_inputs, n_tables, n_sizes, n_extras, n_sources, n_takers, n_firstTaker, n_order, n_ordered, n_tally, n_behind]))] := hD
  refine lv_if_eq (tgt := 26) hx hb dX1_hasInput_5 (by decide) (fun c_2 => ?_) (fun c_2 => ?_)
  · refine lv_iconst (v := 0) hx hb dX1_hasInput_26 (by decide) ?_
    exact ret_i hx hb hr hlk (hP.sub (ws' := [(n, .inr (1, [.int 0, n_kinds, n_inputs, n_tables, n_sizes, n_extras, n_sources, n_takers, n_firstTaker, n_order, n_ordered, n_tally, n_behind]))]) [0] rfl) (hD.sub (ws' := [(n, .inr (1, [.int 0, n_kinds, n_inputs, n_tables, n_sizes, n_extras, n_sources, n_takers, n_firstTaker, n_order, n_ordered, n_tally, n_behind]))]) [0] (by decide) rfl) hS rfl dX1_hasInput_27 (Nat.le_of_ble_eq_true rfl) (Nat.le_of_ble_eq_true rfl) ⟨rfl, rfl⟩
  · exact absurd c_2 (by decide)
theorem dX0_hasOrRoot_0 : decode cX0_hasOrRoot 0 = .ok (.iload_n 1, 1) := by decide +kernel
theorem dX0_hasOrRoot_1 : decode cX0_hasOrRoot 1 = .ok (.iconst (-1), 1) := by decide +kernel
theorem dX0_hasOrRoot_2 : decode cX0_hasOrRoot 2 = .ok (.if_icmp .lt 15, 3) := by decide +kernel
theorem dX0_hasOrRoot_17 : decode cX0_hasOrRoot 17 = .ok (.iconst 0, 1) := by decide +kernel
theorem dX0_hasOrRoot_18 : decode cX0_hasOrRoot 18 = .ok (.ireturn, 1) := by decide +kernel
theorem dX0_hasOrRoot_5 : decode cX0_hasOrRoot 5 = .ok (.iload_n 1, 1) := by decide +kernel
theorem dX0_hasOrRoot_6 : decode cX0_hasOrRoot 6 = .ok (.aload_n 0, 1) := by decide +kernel
theorem dX0_hasOrRoot_7 : decode cX0_hasOrRoot 7 = .ok (.getfield 25, 3) := by decide +kernel
theorem dX0_hasOrRoot_10 : decode cX0_hasOrRoot 10 = .ok (.if_icmp .ge 7, 3) := by decide +kernel
theorem dX0_hasOrRoot_13 : decode cX0_hasOrRoot 13 = .ok (.iconst 1, 1) := by decide +kernel
theorem dX0_hasOrRoot_14 : decode cX0_hasOrRoot 14 = .ok (.goto 4, 3) := by decide +kernel
def wo_k_hasOrRoot0 : List Cond := [.code yX0_hasOrRoot cX0_hasOrRoot 2 (some .boolean), .fieldLink RX0 25 "TimingHouse$Clock" "nodes" "I"]
def wr_k_hasOrRoot0 : List Cond := (wsX00 ++ ([]))
def w_k_hasOrRoot0 : List Cond := wo_k_hasOrRoot0 ++ wr_k_hasOrRoot0
theorem wg_k_hasOrRoot0 : GW w_k_hasOrRoot0 := GW_app (GW_of (by decide +kernel)) (GW_app (GW_of (by decide +kernel)) (GW_nil))
theorem i_k_hasOrRoot0_X0 : ∀ w ∈ wsX00, w ∈ w_k_hasOrRoot0 := fun _ h => List.mem_append_right _ (List.mem_append_left _ h)
set_option maxHeartbeats 4000000 in
set_option maxRecDepth 100000 in
theorem k_hasOrRoot0 (l : Launch) (E : gE) (k : Nat) (k_length : Value) (k_parents : Value) (k_earlySums : Value) (k_lateSums : Value) (nn : Int32) : CtI l E yX0_hasOrRoot w_k_hasOrRoot0 ({ frames := 0, cells := 0, slots := 0, locals := 0 }) [(k, .inr (0, [k_length, .int 0, k_parents, k_earlySums, k_lateSums]))] [.ref k, .int nn] (fun r w => (r = if (-1) ≤ nn.toInt ∧ nn.toInt < 0 then 1 else 0) ∧ w = [(k, .inr (0, [k_length, .int 0, k_parents, k_earlySums, k_lateSums]))]) := by
  refine CtI.of (cc := cX0_hasOrRoot) (maxL := 2) (rt := (some .boolean)) (by decide) rfl (Nat.le_of_ble_eq_true rfl) ?_
  intro p e s m below meth c A B ls hl
  obtain ⟨hx, hb, hml, hr, hlk, hin, hts, hown, hK, hN, hA, hP, hD, hS⟩ := B
  have hown : s.vm.findClass RX0 = some m.cls := hown
  have hto : ∀ w ∈ wo_k_hasOrRoot0, w.before _ s = true := fun w h => hts w (List.mem_append_left _ h)
  have hl : lv_has ls 2 [(0, .ref k), (1, .int nn)] := hl
  obtain ⟨H, hHe⟩ : ∃ H, H = s.heap := ⟨_, rfl⟩
  have hS : va_S A s.heap H [] := by rw [hHe]; exact hS
  have hP : va_P E.1 vwCl [(k, .inr (0, [k_length, .int 0, k_parents, k_earlySums, k_lateSums]))] H := by rw [hHe]; exact hP
  refine W_heap hHe ?_
  refine lv_iload_n hx hb dX0_hasOrRoot_0 rfl (lv_at hl 1 rfl) ?_
  refine lv_iconst (v := (-1)) hx hb dX0_hasOrRoot_1 (by decide) ?_
  refine lv_icmp_lt (tgt := 17) hx hb dX0_hasOrRoot_2 (by decide) (fun c_1 => ?_) (fun c_1 => ?_)
  · have e_1 : nn.toInt < (-1) := i3_lt c_1
    refine lv_iconst (v := 0) hx hb dX0_hasOrRoot_17 (by decide) ?_
    exact ret_i hx hb hr hlk (hP.sub (ws' := [(k, .inr (0, [k_length, .int 0, k_parents, k_earlySums, k_lateSums]))]) [0] rfl) (hD.sub (ws' := [(k, .inr (0, [k_length, .int 0, k_parents, k_earlySums, k_lateSums]))]) [0] (by decide) rfl) hS rfl dX0_hasOrRoot_18 (Nat.le_of_ble_eq_true rfl) (Nat.le_of_ble_eq_true rfl) ⟨(by first | assumption | ((repeat' split) <;> first | rfl | (exfalso; omega))), rfl⟩
  · have e_1 : (-1) ≤ nn.toInt := i3_nlt c_1
    refine lv_iload_n hx hb dX0_hasOrRoot_5 rfl (lv_at hl 1 rfl) ?_
    refine lv_aload_n hx hb dX0_hasOrRoot_6 rfl (lv_at hl 0 rfl) ?_
    refine va_get (D := E.1) (ci := 0) (v := .int 0) (own := RX0) (C := RX0) (T := TX0) (N := 5) hx hb hts i_k_hasOrRoot0_X0 hown hK hP 0 rfl rfl 1 (by decide) (hto (.fieldLink RX0 25 "TimingHouse$Clock" "nodes" "I") (by decide +kernel)) (fun _ h9 => h9) rfl dX0_hasOrRoot_7 ?_
    refine lv_icmp_ge (tgt := 17) hx hb dX0_hasOrRoot_10 (by decide) (fun c_2 => ?_) (fun c_2 => ?_)
    · have e_2 : 0 ≤ nn.toInt := i3_le c_2
      refine lv_iconst (v := 0) hx hb dX0_hasOrRoot_17 (by decide) ?_
      exact ret_i hx hb hr hlk (hP.sub (ws' := [(k, .inr (0, [k_length, .int 0, k_parents, k_earlySums, k_lateSums]))]) [0] rfl) (hD.sub (ws' := [(k, .inr (0, [k_length, .int 0, k_parents, k_earlySums, k_lateSums]))]) [0] (by decide) rfl) hS rfl dX0_hasOrRoot_18 (Nat.le_of_ble_eq_true rfl) (Nat.le_of_ble_eq_true rfl) ⟨(by first | assumption | ((repeat' split) <;> first | rfl | (exfalso; omega))), rfl⟩
    · have e_2 : nn.toInt < 0 := i3_nle c_2
      refine lv_iconst (v := 1) hx hb dX0_hasOrRoot_13 (by decide) ?_
      refine lv_goto (tgt := 18) hx hb dX0_hasOrRoot_14 (by decide) ?_
      exact ret_i hx hb hr hlk (hP.sub (ws' := [(k, .inr (0, [k_length, .int 0, k_parents, k_earlySums, k_lateSums]))]) [0] rfl) (hD.sub (ws' := [(k, .inr (0, [k_length, .int 0, k_parents, k_earlySums, k_lateSums]))]) [0] (by decide) rfl) hS rfl dX0_hasOrRoot_18 (Nat.le_of_ble_eq_true rfl) (Nat.le_of_ble_eq_true rfl) ⟨(by first | assumption | ((repeat' split) <;> first | rfl | (exfalso; omega))), rfl⟩
theorem dX0_earlyOf_0 : decode cX0_earlyOf 0 = .ok (.iload_n 1, 1) := by decide +kernel
theorem dX0_earlyOf_1 : decode cX0_earlyOf 1 = .ok (.ifCond .ge 7, 3) := by decide +kernel
theorem dX0_earlyOf_4 : decode cX0_earlyOf 4 = .ok (.iconst 0, 1) := by decide +kernel
theorem dX0_earlyOf_5 : decode cX0_earlyOf 5 = .ok (.goto 9, 3) := by decide +kernel
theorem dX0_earlyOf_14 : decode cX0_earlyOf 14 = .ok (.ireturn, 1) := by decide +kernel
def wo_k_earlyOf : List Cond := [.code yX0_earlyOf cX0_earlyOf 2 (some .int)]
def wr_k_earlyOf : List Cond := []
def w_k_earlyOf : List Cond := wo_k_earlyOf ++ wr_k_earlyOf
theorem wg_k_earlyOf : GW w_k_earlyOf := GW_app (GW_of (by decide +kernel)) (GW_nil)
set_option maxHeartbeats 4000000 in
set_option maxRecDepth 100000 in
theorem k_earlyOf (l : Launch) (E : gE) (k : Nat) (k_length : Value) (k_nodes : Value) (k_parents : Value) (k_earlySums : Value) (k_lateSums : Value) (nn : Int32) (hq : nn.toInt < 0) : CtI l E yX0_earlyOf w_k_earlyOf ({ frames := 0, cells := 0, slots := 0, locals := 0 }) [(k, .inr (0, [k_length, k_nodes, k_parents, k_earlySums, k_lateSums]))] [.ref k, .int nn] (fun r w => r = 0 ∧ w = [(k, .inr (0, [k_length, k_nodes, k_parents, k_earlySums, k_lateSums]))]) := by
  refine CtI.of (cc := cX0_earlyOf) (maxL := 2) (rt := (some .int)) (by decide) rfl (Nat.le_of_ble_eq_true rfl) ?_
  intro p e s m below meth c A B ls hl
  obtain ⟨hx, hb, hml, hr, hlk, hin, hts, hown, hK, hN, hA, hP, hD, hS⟩ := B
  have hown : s.vm.findClass RX0 = some m.cls := hown
  have hto : ∀ w ∈ wo_k_earlyOf, w.before _ s = true := fun w h => hts w (List.mem_append_left _ h)
  have hl : lv_has ls 2 [(0, .ref k), (1, .int nn)] := hl
  obtain ⟨H, hHe⟩ : ∃ H, H = s.heap := ⟨_, rfl⟩
  have hS : va_S A s.heap H [] := by rw [hHe]; exact hS
  have hP : va_P E.1 vwCl [(k, .inr (0, [k_length, k_nodes, k_parents, k_earlySums, k_lateSums]))] H := by rw [hHe]; exact hP
  refine W_heap hHe ?_
  refine lv_iload_n hx hb dX0_earlyOf_0 rfl (lv_at hl 1 rfl) ?_
  refine lv_if_ge (tgt := 8) hx hb dX0_earlyOf_1 (by decide) (fun c_1 => ?_) (fun c_1 => ?_)
  · have e_1 : 0 ≤ nn.toInt := i3_le c_1
    exfalso; omega
  · have e_1 : nn.toInt < 0 := i3_nle c_1
    refine lv_iconst (v := 0) hx hb dX0_earlyOf_4 (by decide) ?_
    refine lv_goto (tgt := 14) hx hb dX0_earlyOf_5 (by decide) ?_
    exact ret_i hx hb hr hlk (hP.sub (ws' := [(k, .inr (0, [k_length, k_nodes, k_parents, k_earlySums, k_lateSums]))]) [0] rfl) (hD.sub (ws' := [(k, .inr (0, [k_length, k_nodes, k_parents, k_earlySums, k_lateSums]))]) [0] (by decide) rfl) hS rfl dX0_earlyOf_14 (Nat.le_of_ble_eq_true rfl) (Nat.le_of_ble_eq_true rfl) ⟨rfl, rfl⟩
theorem dX0_lateOf_0 : decode cX0_lateOf 0 = .ok (.iload_n 1, 1) := by decide +kernel
theorem dX0_lateOf_1 : decode cX0_lateOf 1 = .ok (.ifCond .ge 7, 3) := by decide +kernel
theorem dX0_lateOf_4 : decode cX0_lateOf 4 = .ok (.iconst 0, 1) := by decide +kernel
theorem dX0_lateOf_5 : decode cX0_lateOf 5 = .ok (.goto 9, 3) := by decide +kernel
theorem dX0_lateOf_14 : decode cX0_lateOf 14 = .ok (.ireturn, 1) := by decide +kernel
def wo_k_lateOf : List Cond := [.code yX0_lateOf cX0_lateOf 2 (some .int)]
def wr_k_lateOf : List Cond := []
def w_k_lateOf : List Cond := wo_k_lateOf ++ wr_k_lateOf
theorem wg_k_lateOf : GW w_k_lateOf := GW_app (GW_of (by decide +kernel)) (GW_nil)
set_option maxHeartbeats 4000000 in
set_option maxRecDepth 100000 in
theorem k_lateOf (l : Launch) (E : gE) (k : Nat) (k_length : Value) (k_nodes : Value) (k_parents : Value) (k_earlySums : Value) (k_lateSums : Value) (nn : Int32) (hq : nn.toInt < 0) : CtI l E yX0_lateOf w_k_lateOf ({ frames := 0, cells := 0, slots := 0, locals := 0 }) [(k, .inr (0, [k_length, k_nodes, k_parents, k_earlySums, k_lateSums]))] [.ref k, .int nn] (fun r w => r = 0 ∧ w = [(k, .inr (0, [k_length, k_nodes, k_parents, k_earlySums, k_lateSums]))]) := by
  refine CtI.of (cc := cX0_lateOf) (maxL := 2) (rt := (some .int)) (by decide) rfl (Nat.le_of_ble_eq_true rfl) ?_
  intro p e s m below meth c A B ls hl
  obtain ⟨hx, hb, hml, hr, hlk, hin, hts, hown, hK, hN, hA, hP, hD, hS⟩ := B
  have hown : s.vm.findClass RX0 = some m.cls := hown
  have hto : ∀ w ∈ wo_k_lateOf, w.before _ s = true := fun w h => hts w (List.mem_append_left _ h)
  have hl : lv_has ls 2 [(0, .ref k), (1, .int nn)] := hl
  obtain ⟨H, hHe⟩ : ∃ H, H = s.heap := ⟨_, rfl⟩
  have hS : va_S A s.heap H [] := by rw [hHe]; exact hS
  have hP : va_P E.1 vwCl [(k, .inr (0, [k_length, k_nodes, k_parents, k_earlySums, k_lateSums]))] H := by rw [hHe]; exact hP
  refine W_heap hHe ?_
  refine lv_iload_n hx hb dX0_lateOf_0 rfl (lv_at hl 1 rfl) ?_
  refine lv_if_ge (tgt := 8) hx hb dX0_lateOf_1 (by decide) (fun c_1 => ?_) (fun c_1 => ?_)
  · have e_1 : 0 ≤ nn.toInt := i3_le c_1
    exfalso; omega
  · have e_1 : nn.toInt < 0 := i3_nle c_1
    refine lv_iconst (v := 0) hx hb dX0_lateOf_4 (by decide) ?_
    refine lv_goto (tgt := 14) hx hb dX0_lateOf_5 (by decide) ?_
    exact ret_i hx hb hr hlk (hP.sub (ws' := [(k, .inr (0, [k_length, k_nodes, k_parents, k_earlySums, k_lateSums]))]) [0] rfl) (hD.sub (ws' := [(k, .inr (0, [k_length, k_nodes, k_parents, k_earlySums, k_lateSums]))]) [0] (by decide) rfl) hS rfl dX0_lateOf_14 (Nat.le_of_ble_eq_true rfl) (Nat.le_of_ble_eq_true rfl) ⟨rfl, rfl⟩
theorem dX9_forget_0 : decode cX9_forget 0 = .ok (.aload_n 0, 1) := by decide +kernel
theorem dX9_forget_1 : decode cX9_forget 1 = .ok (.iconst 0, 1) := by decide +kernel
theorem dX9_forget_2 : decode cX9_forget 2 = .ok (.putfield 290, 3) := by decide +kernel
theorem dX9_forget_5 : decode cX9_forget 5 = .ok (.aload_n 0, 1) := by decide +kernel
theorem dX9_forget_6 : decode cX9_forget 6 = .ok (.iconst 0, 1) := by decide +kernel
theorem dX9_forget_7 : decode cX9_forget 7 = .ok (.putfield 294, 3) := by decide +kernel
theorem dX9_forget_10 : decode cX9_forget 10 = .ok (.return_, 1) := by decide +kernel
def wo_k_forget : List Cond := [.code yX9_forget cX9_forget 1 none, .fieldLink RX9 290 "TimingHouse" "timed" "Z", .fieldLink RX9 294 "TimingHouse" "raced" "Z"]
def wr_k_forget : List Cond := (wsX90 ++ ([]))
def w_k_forget : List Cond := wo_k_forget ++ wr_k_forget
theorem wg_k_forget : GW w_k_forget := GW_app (GW_of (by decide +kernel)) (GW_app (GW_of (by decide +kernel)) (GW_nil))
theorem i_k_forget_X9 : ∀ w ∈ wsX90, w ∈ w_k_forget := fun _ h => List.mem_append_right _ (List.mem_append_left _ h)
set_option maxHeartbeats 4000000 in
set_option maxRecDepth 100000 in
theorem k_forget (l : Launch) (E : gE) (h : Nat) (h_net : Value) (h_stations : Value) (h_clock : Value) (h_rules : Value) (h_tables : Value) (h_timing : Value) (h_race : Value) (h_tracer : Value) (h_shown : Value) (h_trial : Value) (h_timed : Int32) (h_raced : Int32) : CtV l E yX9_forget w_k_forget ({ frames := 0, cells := 0, slots := 0, locals := 0 }) [(h, .inr (9, [h_net, h_stations, h_clock, h_rules, h_tables, h_timing, h_race, h_tracer, h_shown, h_trial, .int h_timed, .int h_raced]))] [.ref h] (fun w => w = [(h, .inr (9, [h_net, h_stations, h_clock, h_rules, h_tables, h_timing, h_race, h_tracer, h_shown, h_trial, .int 0, .int 0]))]) := by
  refine CtV.of (cc := cX9_forget) (maxL := 1) (rt := none) (by decide) rfl (Nat.le_of_ble_eq_true rfl) ?_
  intro p e s m below meth c A B ls hl
  obtain ⟨hx, hb, hml, hr, hlk, hin, hts, hown, hK, hN, hA, hP, hD, hS⟩ := B
  have hown : s.vm.findClass RX9 = some m.cls := hown
  have hto : ∀ w ∈ wo_k_forget, w.before _ s = true := fun w h => hts w (List.mem_append_left _ h)
  have hl : lv_has ls 1 [(0, .ref h)] := hl
  obtain ⟨H, hHe⟩ : ∃ H, H = s.heap := ⟨_, rfl⟩
  have hS : va_S A s.heap H [] := by rw [hHe]; exact hS
  have hP : va_P E.1 vwCl [(h, .inr (9, [h_net, h_stations, h_clock, h_rules, h_tables, h_timing, h_race, h_tracer, h_shown, h_trial, .int h_timed, .int h_raced]))] H := by rw [hHe]; exact hP
  refine W_heap hHe ?_
  refine lv_aload_n hx hb dX9_forget_0 rfl (lv_at hl 0 rfl) ?_
  refine lv_iconst (v := 0) hx hb dX9_forget_1 (by decide) ?_
  refine va_put (D := E.1) (ci := 9) (v := .int 0) (ty := .boolean) (own := RX9) (C := RX9) (T := TX9) (N := 12) hx hb hts i_k_forget_X9 tyX9 tyX9_ok nmX9 hown hK hP hD hS 0 rfl rfl 10 (by decide) (hto (.fieldLink RX9 290 "TimingHouse" "timed" "Z") (by decide +kernel)) (fun _ h9 => h9) rfl (by decide +kernel) rfl rfl (Nat.le_of_ble_eq_true rfl) dX9_forget_2 (fun H locs hP hD hS => ?_)
  have hP : va_P E.1 vwCl [(h, .inr (9, [h_net, h_stations, h_clock, h_rules, h_tables, h_timing, h_race, h_tracer, h_shown, h_trial, .int 0, .int h_raced]))] H := hP
  have hD : va_D A [(h, .inr (9, [h_net, h_stations, h_clock, h_rules, h_tables, h_timing, h_race, h_tracer, h_shown, h_trial, .int 0, .int h_raced]))] := hD
  refine lv_aload_n hx hb dX9_forget_5 rfl (lv_at hl 0 rfl) ?_
  refine lv_iconst (v := 0) hx hb dX9_forget_6 (by decide) ?_
  refine va_put (D := E.1) (ci := 9) (v := .int 0) (ty := .boolean) (own := RX9) (C := RX9) (T := TX9) (N := 12) hx hb hts i_k_forget_X9 tyX9 tyX9_ok nmX9 hown hK hP hD hS 0 rfl rfl 11 (by decide) (hto (.fieldLink RX9 294 "TimingHouse" "raced" "Z") (by decide +kernel)) (fun _ h9 => h9) rfl (by decide +kernel) rfl rfl (Nat.le_of_ble_eq_true rfl) dX9_forget_7 (fun H locs hP hD hS => ?_)
  have hP : va_P E.1 vwCl [(h, .inr (9, [h_net, h_stations, h_clock, h_rules, h_tables, h_timing, h_race, h_tracer, h_shown, h_trial, .int 0, .int 0]))] H := hP
  have hD : va_D A [(h, .inr (9, [h_net, h_stations, h_clock, h_rules, h_tables, h_timing, h_race, h_tracer, h_shown, h_trial, .int 0, .int 0]))] := hD
  exact ret_v hx hb hr hlk (hP.sub (ws' := [(h, .inr (9, [h_net, h_stations, h_clock, h_rules, h_tables, h_timing, h_race, h_tracer, h_shown, h_trial, .int 0, .int 0]))]) [0] rfl) (hD.sub (ws' := [(h, .inr (9, [h_net, h_stations, h_clock, h_rules, h_tables, h_timing, h_race, h_tracer, h_shown, h_trial, .int 0, .int 0]))]) [0] (by decide) rfl) hS dX9_forget_10 (Nat.le_of_ble_eq_true rfl) (Nat.le_of_ble_eq_true rfl) rfl
