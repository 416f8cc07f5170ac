theorem W_hl {p : Program} {l : Launch} {e : Env} {R : Room} {s : State} {m : MethodId} {args : Array Value} {below : List Frame} {meth : Method} {c : Code} {H : Heap} {locs : List Loc} {cells slots : Nat} {Q : State → Prop} {g : JFrame} (h : H = s.heap) (h2 : locs = []) (k : W p l e R s m args below meth c H locs cells slots Q g) : W p l e R s m args below meth c s.heap [] cells slots Q g := by subst h; subst h2; exact k
theorem nb_01 {x : Int32} (h : 0 ≤ x.toInt ∧ x.toInt ≤ 1) : narrow .boolean (.int x) = .int x := by
  rcases (show x.toInt = 0 ∨ x.toInt = 1 by omega) with q | q
  · have : x = 0 := Int32.toInt_inj.mp (by rw [q]; decide)
    subst this; rfl
  · have : x = 1 := Int32.toInt_inj.mp (by rw [q]; decide)
    subst this; rfl
theorem i3_cs {k : Int32} {n : Int} {c : Int32} (h : k.toInt = n) (hc : c.toInt = n) : k = c := Int32.toInt_inj.mp (by rw [h, hc])
theorem i3_shl1 {x k : Int32} (e : x = 1 <<< (k &&& 31)) (h : 0 ≤ k.toInt ∧ k.toInt ≤ 4) : 1 ≤ x.toInt ∧ x.toInt ≤ 16 := by
  rcases (show k.toInt = 0 ∨ k.toInt = 1 ∨ k.toInt = 2 ∨ k.toInt = 3 ∨ k.toInt = 4 by omega) with q | q | q | q | q
  · have := i3_cs (c := 0) q (by decide); subst this; subst e; decide
  · have := i3_cs (c := 1) q (by decide); subst this; subst e; decide
  · have := i3_cs (c := 2) q (by decide); subst this; subst e; decide
  · have := i3_cs (c := 3) q (by decide); subst this; subst e; decide
  · have := i3_cs (c := 4) q (by decide); subst this; subst e; decide
theorem i3_shl3 {x k : Int32} (e : x = 1 <<< (k &&& 31)) (h : 0 ≤ k.toInt ∧ k.toInt ≤ 3) : 1 ≤ x.toInt ∧ x.toInt ≤ 8 := by
  rcases (show k.toInt = 0 ∨ k.toInt = 1 ∨ k.toInt = 2 ∨ k.toInt = 3 by omega) with q | q | q | q
  · have := i3_cs (c := 0) q (by decide); subst this; subst e; decide
  · have := i3_cs (c := 1) q (by decide); subst this; subst e; decide
  · have := i3_cs (c := 2) q (by decide); subst this; subst e; decide
  · have := i3_cs (c := 3) q (by decide); subst this; subst e; decide
theorem i3_min {z x y : Int32} (e : z = if y < x then y else x) : (z.toInt ≤ x.toInt ∧ z.toInt ≤ y.toInt) ∧ (z.toInt = x.toInt ∨ z.toInt = y.toInt) := by
  by_cases h : y < x
  · rw [if_pos h] at e; subst e; have := i3_lt h; omega
  · rw [if_neg h] at e; subst e; have := i3_nlt h; omega
theorem i3_max {z x y : Int32} (e : z = if x < y then y else x) : (z.toInt ≥ x.toInt ∧ z.toInt ≥ y.toInt) ∧ (z.toInt = x.toInt ∨ z.toInt = y.toInt) := by
  by_cases h : x < y
  · rw [if_pos h] at e; subst e; have := i3_lt h; omega
  · rw [if_neg h] at e; subst e; have := i3_nlt h; omega
theorem ar_lm_load : AR (fun j => lm_load.getD j 0) 4 0 64 := by
  intro j hj
  rcases (show j = 0 ∨ j = 1 ∨ j = 2 ∨ j = 3 by omega) with rfl | rfl | rfl | rfl <;> decide
theorem ar_lm_slope : AR (fun j => lm_slope.getD j 0) 3 0 64 := by
  intro j hj
  rcases (show j = 0 ∨ j = 1 ∨ j = 2 by omega) with rfl | rfl | rfl <;> decide
theorem ar_lm_gaps : AR (fun j => lm_gaps.getD j 0) 8 1 701 := by
  intro j hj
  rcases (show j = 0 ∨ j = 1 ∨ j = 2 ∨ j = 3 ∨ j = 4 ∨ j = 5 ∨ j = 6 ∨ j = 7 by omega) with rfl | rfl | rfl | rfl | rfl | rfl | rfl | rfl <;> decide
theorem i3_nn {x : Int32} (h : 0 ≤ x.toInt) : x.toInt = (x.toBitVec.toNat : Int) := by
  have h1 : x.toInt = x.toBitVec.toInt := rfl
  have h2 := BitVec.toInt_eq_toNat_bmod x.toBitVec
  have h3 := x.toBitVec.isLt
  rw [Int.bmod_def] at h2
  omega
theorem i3_ofn {x : Int32} {n : Nat} (h : x.toBitVec.toNat = n) (hn : n < 2147483648) : x.toInt = (n : Int) := by
  have h1 : x.toInt = x.toBitVec.toInt := rfl
  have h2 := BitVec.toInt_eq_toNat_bmod x.toBitVec
  rw [Int.bmod_def, h] at h2
  omega
theorem i3_or15 {x a b : Int32} (e : x = a ||| b) (ha : 0 ≤ a.toInt ∧ a.toInt ≤ 15) (hb : 0 ≤ b.toInt ∧ b.toInt ≤ 15) : 0 ≤ x.toInt ∧ x.toInt ≤ 15 := by
  have h1 := i3_nn ha.1
  have h2 := i3_nn hb.1
  have h3 : x.toBitVec.toNat = a.toBitVec.toNat ||| b.toBitVec.toNat := by rw [e]; exact BitVec.toNat_or _ _
  have h4 : a.toBitVec.toNat ||| b.toBitVec.toNat < 2 ^ 4 := Nat.or_lt_two_pow (by omega) (by omega)
  have h5 := i3_ofn h3 (by omega)
  omega
theorem i3_and1 {x a : Int32} (e : x = a &&& 1) : 0 ≤ x.toInt ∧ x.toInt ≤ 1 := by
  have h3 : x.toBitVec.toNat = a.toBitVec.toNat &&& 1 := by rw [e]; exact BitVec.toNat_and _ _
  have h4 : a.toBitVec.toNat &&& 1 ≤ 1 := Nat.and_le_right
  have h5 := i3_ofn h3 (by omega)
  omega
theorem dX9_within_0 : decode cX9_within 0 = .ok (.iload_n 0, 1) := by decide +kernel
theorem dX9_within_1 : decode cX9_within 1 = .ok (.iload_n 1, 1) := by decide +kernel
theorem dX9_within_2 : decode cX9_within 2 = .ok (.if_icmp .lt 12, 3) := by decide +kernel
theorem dX9_within_14 : decode cX9_within 14 = .ok (.iconst 0, 1) := by decide +kernel
theorem dX9_within_15 : decode cX9_within 15 = .ok (.ireturn, 1) := by decide +kernel
theorem dX9_within_5 : decode cX9_within 5 = .ok (.iload_n 0, 1) := by decide +kernel
theorem dX9_within_6 : decode cX9_within 6 = .ok (.iload_n 2, 1) := by decide +kernel
theorem dX9_within_7 : decode cX9_within 7 = .ok (.if_icmp .gt 7, 3) := by decide +kernel
theorem dX9_within_10 : decode cX9_within 10 = .ok (.iconst 1, 1) := by decide +kernel
theorem dX9_within_11 : decode cX9_within 11 = .ok (.goto 4, 3) := by decide +kernel
def wo_q_within : List Cond := [.code yX9_within cX9_within 3 (some .boolean)]
def wr_q_within : List Cond := []
def w_q_within : List Cond := wo_q_within ++ wr_q_within
theorem wg_q_within : GW w_q_within := GW_app (GW_of (by decide +kernel)) (GW_nil)
set_option maxHeartbeats 8000000 in
set_option maxRecDepth 100000 in
theorem q_within (l : Launch) (E : gE) (v lo hi : Int32) : CtI l E yX9_within w_q_within ({ frames := 0, cells := 0, slots := 0, locals := 0 }) [] [.int v, .int lo, .int hi] (fun r w => (0 ≤ r.toInt ∧ r.toInt ≤ 1) ∧ w = []) := by
  refine CtI.of (cc := cX9_within) (maxL := 3) (rt := (some .boolean)) (by decide) rfl (Nat.le_of_ble_eq_true rfl) ?_
  intro p e s m below meth c A B ls hl
  obtain ⟨hx, hb, hml, hr, hlk, hin, hts, hown, hK, hN, hZ, hA, hP, hD, hS⟩ := B
  replace hown : s.vm.findClass RX9 = some m.cls := hown
  have hto : ∀ w ∈ wo_q_within, w.before _ s = true := fun w h => hts w (List.mem_append_left _ h)
  replace hl : lv_has ls 3 [(0, .int v), (1, .int lo), (2, .int hi)] := hl
  obtain ⟨H, hHe⟩ : ∃ H, H = s.heap := ⟨_, rfl⟩
  obtain ⟨locs, hle⟩ : ∃ l : List Loc, l = [] := ⟨_, rfl⟩
  replace hS : va_S A s.heap H locs := by rw [hHe, hle]; exact hS
  replace hP : va_P E.1 vwCl [] H := by rw [hHe]; exact hP
  refine W_hl hHe hle ?_
  clear hHe hle
  refine lv_iload_n hx hb dX9_within_0 rfl (lv_at hl 0 rfl) ?_
  refine lv_iload_n hx hb dX9_within_1 rfl (lv_at hl 1 rfl) ?_
  refine lv_icmp_lt (tgt := 14) hx hb dX9_within_2 (by decide) (fun c_1 => ?_) (fun c_1 => ?_)
  · have e_1 : v.toInt < lo.toInt := i3_lt c_1
    refine lv_iconst (v := 0) hx hb dX9_within_14 (by decide) ?_
    exact ret_i hx hb hr hlk (hP.sub (ws' := []) [] rfl) (hD.sub (ws' := []) [] (by decide) rfl) hS rfl dX9_within_15 (Nat.le_of_ble_eq_true rfl) (Nat.le_of_ble_eq_true rfl) ⟨(by decide), rfl⟩
  · have e_1 : lo.toInt ≤ v.toInt := i3_nlt c_1
    refine lv_iload_n hx hb dX9_within_5 rfl (lv_at hl 0 rfl) ?_
    refine lv_iload_n hx hb dX9_within_6 rfl (lv_at hl 2 rfl) ?_
    refine lv_icmp_gt (tgt := 14) hx hb dX9_within_7 (by decide) (fun c_2 => ?_) (fun c_2 => ?_)
    · have e_2 : hi.toInt < v.toInt := i3_lt c_2
      refine lv_iconst (v := 0) hx hb dX9_within_14 (by decide) ?_
      exact ret_i hx hb hr hlk (hP.sub (ws' := []) [] rfl) (hD.sub (ws' := []) [] (by decide) rfl) hS rfl dX9_within_15 (Nat.le_of_ble_eq_true rfl) (Nat.le_of_ble_eq_true rfl) ⟨(by decide), rfl⟩
    · have e_2 : v.toInt ≤ hi.toInt := i3_nlt c_2
      refine lv_iconst (v := 1) hx hb dX9_within_10 (by decide) ?_
      refine lv_goto (tgt := 15) hx hb dX9_within_11 (by decide) ?_
      exact ret_i hx hb hr hlk (hP.sub (ws' := []) [] rfl) (hD.sub (ws' := []) [] (by decide) rfl) hS rfl dX9_within_15 (Nat.le_of_ble_eq_true rfl) (Nat.le_of_ble_eq_true rfl) ⟨(by decide), rfl⟩
theorem dX5_has_0 : decode cX5_has 0 = .ok (.iload_n 0, 1) := by decide +kernel
theorem dX5_has_1 : decode cX5_has 1 = .ok (.ifCond .lt 13, 3) := by decide +kernel
theorem dX5_has_14 : decode cX5_has 14 = .ok (.iconst 0, 1) := by decide +kernel
theorem dX5_has_15 : decode cX5_has 15 = .ok (.ireturn, 1) := by decide +kernel
theorem dX5_has_4 : decode cX5_has 4 = .ok (.iload_n 0, 1) := by decide +kernel
theorem dX5_has_5 : decode cX5_has 5 = .ok (.bipush 8, 2) := by decide +kernel
theorem dX5_has_7 : decode cX5_has 7 = .ok (.if_icmp .ge 7, 3) := by decide +kernel
theorem dX5_has_10 : decode cX5_has 10 = .ok (.iconst 1, 1) := by decide +kernel
theorem dX5_has_11 : decode cX5_has 11 = .ok (.goto 4, 3) := by decide +kernel
def wo_q_thas : List Cond := [.code yX5_has cX5_has 1 (some .boolean)]
def wr_q_thas : List Cond := []
def w_q_thas : List Cond := wo_q_thas ++ wr_q_thas
theorem wg_q_thas : GW w_q_thas := GW_app (GW_of (by decide +kernel)) (GW_nil)
set_option maxHeartbeats 8000000 in
set_option maxRecDepth 100000 in
theorem q_thas (l : Launch) (E : gE) (t : Int32) : CtI l E yX5_has w_q_thas ({ frames := 0, cells := 0, slots := 0, locals := 0 }) [] [.int t] (fun r w => (0 ≤ r.toInt ∧ r.toInt ≤ 1) ∧ w = []) := by
  refine CtI.of (cc := cX5_has) (maxL := 1) (rt := (some .boolean)) (by decide) rfl (Nat.le_of_ble_eq_true rfl) ?_
  intro p e s m below meth c A B ls hl
  obtain ⟨hx, hb, hml, hr, hlk, hin, hts, hown, hK, hN, hZ, hA, hP, hD, hS⟩ := B
  replace hown : s.vm.findClass RX5 = some m.cls := hown
  have hto : ∀ w ∈ wo_q_thas, w.before _ s = true := fun w h => hts w (List.mem_append_left _ h)
  replace hl : lv_has ls 1 [(0, .int t)] := hl
  obtain ⟨H, hHe⟩ : ∃ H, H = s.heap := ⟨_, rfl⟩
  obtain ⟨locs, hle⟩ : ∃ l : List Loc, l = [] := ⟨_, rfl⟩
  replace hS : va_S A s.heap H locs := by rw [hHe, hle]; exact hS
  replace hP : va_P E.1 vwCl [] H := by rw [hHe]; exact hP
  refine W_hl hHe hle ?_
  clear hHe hle
  refine lv_iload_n hx hb dX5_has_0 rfl (lv_at hl 0 rfl) ?_
  refine lv_if_lt (tgt := 14) hx hb dX5_has_1 (by decide) (fun c_1 => ?_) (fun c_1 => ?_)
  · have e_1 : t.toInt < 0 := i3_lt c_1
    refine lv_iconst (v := 0) hx hb dX5_has_14 (by decide) ?_
    exact ret_i hx hb hr hlk (hP.sub (ws' := []) [] rfl) (hD.sub (ws' := []) [] (by decide) rfl) hS rfl dX5_has_15 (Nat.le_of_ble_eq_true rfl) (Nat.le_of_ble_eq_true rfl) ⟨(by decide), rfl⟩
  · have e_1 : 0 ≤ t.toInt := i3_nlt c_1
    refine lv_iload_n hx hb dX5_has_4 rfl (lv_at hl 0 rfl) ?_
    refine lv_bipush (v := 8) hx hb dX5_has_5 (by decide) ?_
    refine lv_icmp_ge (tgt := 14) hx hb dX5_has_7 (by decide) (fun c_2 => ?_) (fun c_2 => ?_)
    · have e_2 : 8 ≤ t.toInt := i3_le c_2
      refine lv_iconst (v := 0) hx hb dX5_has_14 (by decide) ?_
      exact ret_i hx hb hr hlk (hP.sub (ws' := []) [] rfl) (hD.sub (ws' := []) [] (by decide) rfl) hS rfl dX5_has_15 (Nat.le_of_ble_eq_true rfl) (Nat.le_of_ble_eq_true rfl) ⟨(by decide), rfl⟩
    · have e_2 : t.toInt < 8 := i3_nle c_2
      refine lv_iconst (v := 1) hx hb dX5_has_10 (by decide) ?_
      refine lv_goto (tgt := 15) hx hb dX5_has_11 (by decide) ?_
      exact ret_i hx hb hr hlk (hP.sub (ws' := []) [] rfl) (hD.sub (ws' := []) [] (by decide) rfl) hS rfl dX5_has_15 (Nat.le_of_ble_eq_true rfl) (Nat.le_of_ble_eq_true rfl) ⟨(by decide), rfl⟩
theorem dX1_isGateKind_0 : decode cX1_isGateKind 0 = .ok (.iload_n 0, 1) := by decide +kernel
theorem dX1_isGateKind_1 : decode cX1_isGateKind 1 = .ok (.ifCond .le 12, 3) := by decide +kernel
theorem dX1_isGateKind_13 : decode cX1_isGateKind 13 = .ok (.iconst 0, 1) := by decide +kernel
theorem dX1_isGateKind_14 : decode cX1_isGateKind 14 = .ok (.ireturn, 1) := by decide +kernel
theorem dX1_isGateKind_4 : decode cX1_isGateKind 4 = .ok (.iload_n 0, 1) := by decide +kernel
theorem dX1_isGateKind_5 : decode cX1_isGateKind 5 = .ok (.iconst 4, 1) := by decide +kernel
theorem dX1_isGateKind_6 : decode cX1_isGateKind 6 = .ok (.if_icmp .ge 7, 3) := by decide +kernel
theorem dX1_isGateKind_9 : decode cX1_isGateKind 9 = .ok (.iconst 1, 1) := by decide +kernel
theorem dX1_isGateKind_10 : decode cX1_isGateKind 10 = .ok (.goto 4, 3) := by decide +kernel
def wo_q_isGateKind : List Cond := [.code yX1_isGateKind cX1_isGateKind 1 (some .boolean)]
def wr_q_isGateKind : List Cond := []
def w_q_isGateKind : List Cond := wo_q_isGateKind ++ wr_q_isGateKind
theorem wg_q_isGateKind : GW w_q_isGateKind := GW_app (GW_of (by decide +kernel)) (GW_nil)
set_option maxHeartbeats 8000000 in
set_option maxRecDepth 100000 in
theorem q_isGateKind (l : Launch) (E : gE) (kd : Int32) : CtI l E yX1_isGateKind w_q_isGateKind ({ frames := 0, cells := 0, slots := 0, locals := 0 }) [] [.int kd] (fun r w => (0 ≤ r.toInt ∧ r.toInt ≤ 1) ∧ w = []) := by
  refine CtI.of (cc := cX1_isGateKind) (maxL := 1) (rt := (some .boolean)) (by decide) rfl (Nat.le_of_ble_eq_true rfl) ?_
  intro p e s m below meth c A B ls hl
  obtain ⟨hx, hb, hml, hr, hlk, hin, hts, hown, hK, hN, hZ, hA, hP, hD, hS⟩ := B
  replace hown : s.vm.findClass RX1 = some m.cls := hown
  have hto : ∀ w ∈ wo_q_isGateKind, w.before _ s = true := fun w h => hts w (List.mem_append_left _ h)
  replace hl : lv_has ls 1 [(0, .int kd)] := hl
  obtain ⟨H, hHe⟩ : ∃ H, H = s.heap := ⟨_, rfl⟩
  obtain ⟨locs, hle⟩ : ∃ l : List Loc, l = [] := ⟨_, rfl⟩
  replace hS : va_S A s.heap H locs := by rw [hHe, hle]; exact hS
  replace hP : va_P E.1 vwCl [] H := by rw [hHe]; exact hP
  refine W_hl hHe hle ?_
  clear hHe hle
  refine lv_iload_n hx hb dX1_isGateKind_0 rfl (lv_at hl 0 rfl) ?_
  refine lv_if_le (tgt := 13) hx hb dX1_isGateKind_1 (by decide) (fun c_1 => ?_) (fun c_1 => ?_)
  · have e_1 : kd.toInt ≤ 0 := i3_le c_1
    refine lv_iconst (v := 0) hx hb dX1_isGateKind_13 (by decide) ?_
    exact ret_i hx hb hr hlk (hP.sub (ws' := []) [] rfl) (hD.sub (ws' := []) [] (by decide) rfl) hS rfl dX1_isGateKind_14 (Nat.le_of_ble_eq_true rfl) (Nat.le_of_ble_eq_true rfl) ⟨(by decide), rfl⟩
  · have e_1 : 0 < kd.toInt := i3_nle c_1
    refine lv_iload_n hx hb dX1_isGateKind_4 rfl (lv_at hl 0 rfl) ?_
    refine lv_iconst (v := 4) hx hb dX1_isGateKind_5 (by decide) ?_
    refine lv_icmp_ge (tgt := 13) hx hb dX1_isGateKind_6 (by decide) (fun c_2 => ?_) (fun c_2 => ?_)
    · have e_2 : 4 ≤ kd.toInt := i3_le c_2
      refine lv_iconst (v := 0) hx hb dX1_isGateKind_13 (by decide) ?_
      exact ret_i hx hb hr hlk (hP.sub (ws' := []) [] rfl) (hD.sub (ws' := []) [] (by decide) rfl) hS rfl dX1_isGateKind_14 (Nat.le_of_ble_eq_true rfl) (Nat.le_of_ble_eq_true rfl) ⟨(by decide), rfl⟩
    · have e_2 : kd.toInt < 4 := i3_nle c_2
      refine lv_iconst (v := 1) hx hb dX1_isGateKind_9 (by decide) ?_
      refine lv_goto (tgt := 14) hx hb dX1_isGateKind_10 (by decide) ?_
      exact ret_i hx hb hr hlk (hP.sub (ws' := []) [] rfl) (hD.sub (ws' := []) [] (by decide) rfl) hS rfl dX1_isGateKind_14 (Nat.le_of_ble_eq_true rfl) (Nat.le_of_ble_eq_true rfl) ⟨(by decide), rfl⟩
theorem dX1_has_0 : decode cX1_has 0 = .ok (.iload_n 1, 1) := by decide +kernel
theorem dX1_has_1 : decode cX1_has 1 = .ok (.ifCond .lt 15, 3) := by decide +kernel
theorem dX1_has_16 : decode cX1_has 16 = .ok (.iconst 0, 1) := by decide +kernel
theorem dX1_has_17 : decode cX1_has 17 = .ok (.ireturn, 1) := by decide +kernel
theorem dX1_has_4 : decode cX1_has 4 = .ok (.iload_n 1, 1) := by decide +kernel
theorem dX1_has_5 : decode cX1_has 5 = .ok (.aload_n 0, 1) := by decide +kernel
theorem dX1_has_6 : decode cX1_has 6 = .ok (.getfield 52, 3) := by decide +kernel
theorem dX1_has_9 : decode cX1_has 9 = .ok (.if_icmp .ge 7, 3) := by decide +kernel
theorem dX1_has_12 : decode cX1_has 12 = .ok (.iconst 1, 1) := by decide +kernel
theorem dX1_has_13 : decode cX1_has 13 = .ok (.goto 4, 3) := by decide +kernel
def wo_q_has : List Cond := [.code yX1_has cX1_has 2 (some .boolean), .fieldLink RX1 52 "TimingHouse$Net" "cells" "I"]
def wr_q_has : List Cond := (wsX10 ++ ([]))
def w_q_has : List Cond := wo_q_has ++ wr_q_has
theorem wg_q_has : GW w_q_has := GW_app (GW_of (by decide +kernel)) (GW_app (GW_of (by decide +kernel)) (GW_nil))
theorem i_q_has_X1 : ∀ w ∈ wsX10, w ∈ w_q_has := fun _ h => List.mem_append_right _ (List.mem_append_left _ h)
set_option maxHeartbeats 8000000 in
set_option maxRecDepth 100000 in
theorem q_has (l : Launch) (E : gE) (o_n a_n_kinds a_n_inputs a_n_tables a_n_sizes a_n_extras a_n_sources a_n_takers a_n_firstTaker a_n_order a_n_tally a_n_behind : Nat) (f_n_cells f_n_ordered p1 : Int32) (r_f_n_cells : RG f_n_cells 0 50) (r_f_n_ordered : RG f_n_ordered 0 50) : CtI l E yX1_has w_q_has ({ frames := 0, cells := 0, slots := 0, locals := 0 }) [(o_n, .inr (1, [.int f_n_cells, .ref a_n_kinds, .ref a_n_inputs, .ref a_n_tables, .ref a_n_sizes, .ref a_n_extras, .ref a_n_sources, .ref a_n_takers, .ref a_n_firstTaker, .ref a_n_order, .int f_n_ordered, .ref a_n_tally, .ref a_n_behind]))] [.ref o_n, .int p1] (fun r w => (0 ≤ r.toInt ∧ r.toInt ≤ 1) ∧ w = [(o_n, .inr (1, [.int f_n_cells, .ref a_n_kinds, .ref a_n_inputs, .ref a_n_tables, .ref a_n_sizes, .ref a_n_extras, .ref a_n_sources, .ref a_n_takers, .ref a_n_firstTaker, .ref a_n_order, .int f_n_ordered, .ref a_n_tally, .ref a_n_behind]))]) := by
  refine CtI.of (cc := cX1_has) (maxL := 2) (rt := (some .boolean)) (by decide) rfl (Nat.le_of_ble_eq_true rfl) ?_
  intro p e s m below meth c A B ls hl
  obtain ⟨hx, hb, hml, hr, hlk, hin, hts, hown, hK, hN, hZ, hA, hP, hD, hS⟩ := B
  replace hown : s.vm.findClass RX1 = some m.cls := hown
  have hto : ∀ w ∈ wo_q_has, w.before _ s = true := fun w h => hts w (List.mem_append_left _ h)
  replace hl : lv_has ls 2 [(0, .ref o_n), (1, .int p1)] := hl
  obtain ⟨H, hHe⟩ : ∃ H, H = s.heap := ⟨_, rfl⟩
  obtain ⟨locs, hle⟩ : ∃ l : List Loc, l = [] := ⟨_, rfl⟩
  replace hS : va_S A s.heap H locs := by rw [hHe, hle]; exact hS
  replace hP : va_P E.1 vwCl [(o_n, .inr (1, [.int f_n_cells, .ref a_n_kinds, .ref a_n_inputs, .ref a_n_tables, .ref a_n_sizes, .ref a_n_extras, .ref a_n_sources, .ref a_n_takers, .ref a_n_firstTaker, .ref a_n_order, .int f_n_ordered, .ref a_n_tally, .ref a_n_behind]))] H := by rw [hHe]; exact hP
  refine W_hl hHe hle ?_
  clear hHe hle
  refine lv_iload_n hx hb dX1_has_0 rfl (lv_at hl 1 rfl) ?_
  refine lv_if_lt (tgt := 16) hx hb dX1_has_1 (by decide) (fun c_1 => ?_) (fun c_1 => ?_)
  · have e_1 : p1.toInt < 0 := i3_lt c_1
    refine lv_iconst (v := 0) hx hb dX1_has_16 (by decide) ?_
    exact ret_i hx hb hr hlk (hP.sub (ws' := [(o_n, .inr (1, [.int f_n_cells, .ref a_n_kinds, .ref a_n_inputs, .ref a_n_tables, .ref a_n_sizes, .ref a_n_extras, .ref a_n_sources, .ref a_n_takers, .ref a_n_firstTaker, .ref a_n_order, .int f_n_ordered, .ref a_n_tally, .ref a_n_behind]))]) [0] rfl) (hD.sub (ws' := [(o_n, .inr (1, [.int f_n_cells, .ref a_n_kinds, .ref a_n_inputs, .ref a_n_tables, .ref a_n_sizes, .ref a_n_extras, .ref a_n_sources, .ref a_n_takers, .ref a_n_firstTaker, .ref a_n_order, .int f_n_ordered, .ref a_n_tally, .ref a_n_behind]))]) [0] (by decide) rfl) hS rfl dX1_has_17 (Nat.le_of_ble_eq_true rfl) (Nat.le_of_ble_eq_true rfl) ⟨(by decide), rfl⟩
  · have e_1 : 0 ≤ p1.toInt := i3_nlt c_1
    refine lv_iload_n hx hb dX1_has_4 rfl (lv_at hl 1 rfl) ?_
    refine lv_aload_n hx hb dX1_has_5 rfl (lv_at hl 0 rfl) ?_
    refine va_get (D := E.1) (ci := 1) (v := .int f_n_cells) (own := RX1) (C := RX1) (T := TX1) (N := 13) hx hb hts i_q_has_X1 hown hK hP 0 rfl rfl 0 (by decide) (hto (.fieldLink RX1 52 "TimingHouse$Net" "cells" "I") (by decide +kernel)) (fun _ h9 => h9) rfl dX1_has_6 ?_
    have b_f_n_cells := r_f_n_cells.out
    refine lv_icmp_ge (tgt := 16) hx hb dX1_has_9 (by decide) (fun c_2 => ?_) (fun c_2 => ?_)
    · have e_2 : f_n_cells.toInt ≤ p1.toInt := i3_le c_2
      refine lv_iconst (v := 0) hx hb dX1_has_16 (by decide) ?_
      exact ret_i hx hb hr hlk (hP.sub (ws' := [(o_n, .inr (1, [.int f_n_cells, .ref a_n_kinds, .ref a_n_inputs, .ref a_n_tables, .ref a_n_sizes, .ref a_n_extras, .ref a_n_sources, .ref a_n_takers, .ref a_n_firstTaker, .ref a_n_order, .int f_n_ordered, .ref a_n_tally, .ref a_n_behind]))]) [0] rfl) (hD.sub (ws' := [(o_n, .inr (1, [.int f_n_cells, .ref a_n_kinds, .ref a_n_inputs, .ref a_n_tables, .ref a_n_sizes, .ref a_n_extras, .ref a_n_sources, .ref a_n_takers, .ref a_n_firstTaker, .ref a_n_order, .int f_n_ordered, .ref a_n_tally, .ref a_n_behind]))]) [0] (by decide) rfl) hS rfl dX1_has_17 (Nat.le_of_ble_eq_true rfl) (Nat.le_of_ble_eq_true rfl) ⟨(by decide), rfl⟩
    · have e_2 : p1.toInt < f_n_cells.toInt := i3_nle c_2
      refine lv_iconst (v := 1) hx hb dX1_has_12 (by decide) ?_
      refine lv_goto (tgt := 17) hx hb dX1_has_13 (by decide) ?_
      exact ret_i hx hb hr hlk (hP.sub (ws' := [(o_n, .inr (1, [.int f_n_cells, .ref a_n_kinds, .ref a_n_inputs, .ref a_n_tables, .ref a_n_sizes, .ref a_n_extras, .ref a_n_sources, .ref a_n_takers, .ref a_n_firstTaker, .ref a_n_order, .int f_n_ordered, .ref a_n_tally, .ref a_n_behind]))]) [0] rfl) (hD.sub (ws' := [(o_n, .inr (1, [.int f_n_cells, .ref a_n_kinds, .ref a_n_inputs, .ref a_n_tables, .ref a_n_sizes, .ref a_n_extras, .ref a_n_sources, .ref a_n_takers, .ref a_n_firstTaker, .ref a_n_order, .int f_n_ordered, .ref a_n_tally, .ref a_n_behind]))]) [0] (by decide) rfl) hS rfl dX1_has_17 (Nat.le_of_ble_eq_true rfl) (Nat.le_of_ble_eq_true rfl) ⟨(by decide), rfl⟩
theorem dX1_isGate_0 : decode cX1_isGate 0 = .ok (.aload_n 0, 1) := by decide +kernel
theorem dX1_isGate_1 : decode cX1_isGate 1 = .ok (.getfield 9, 3) := by decide +kernel
theorem dX1_isGate_4 : decode cX1_isGate 4 = .ok (.iload_n 1, 1) := by decide +kernel
theorem dX1_isGate_5 : decode cX1_isGate 5 = .ok (.iaload, 1) := by decide +kernel
theorem dX1_isGate_6 : decode cX1_isGate 6 = .ok (.invokestatic 60, 3) := by decide +kernel
theorem dX1_isGate_9 : decode cX1_isGate 9 = .ok (.ireturn, 1) := by decide +kernel
def wo_q_isGate : List Cond := [.code yX1_isGate cX1_isGate 2 (some .boolean), .fieldLink RX1 9 "TimingHouse$Net" "kinds" "[I", .methodLink RX1 60 yX1_isGateKind, .static yX1_isGateKind, .initialized RX1]
def wr_q_isGate : List Cond := (wsX10 ++ (w_q_isGateKind ++ ([])))
def w_q_isGate : List Cond := wo_q_isGate ++ wr_q_isGate
theorem wg_q_isGate : GW w_q_isGate := GW_app (GW_of (by decide +kernel)) (GW_app (GW_of (by decide +kernel)) (GW_app (wg_q_isGateKind) (GW_nil)))
theorem i_q_isGate_X1 : ∀ w ∈ wsX10, w ∈ w_q_isGate := fun _ h => List.mem_append_right _ (List.mem_append_left _ h)
theorem g_q_isGate_q_isGateKind_60 : GoodIn w_q_isGate (va_wsS RX1 60 yX1_isGateKind w_q_isGateKind) := goodIn_app (gi_left (goodIn_of _ (by decide +kernel))) (fun w h => ⟨List.mem_append_right _ (List.mem_append_right _ (List.mem_append_left _ h)), wg_q_isGateKind w h⟩)
set_option maxHeartbeats 8000000 in
set_option maxRecDepth 100000 in
theorem q_isGate (l : Launch) (E : gE) (o_n a_n_kinds a_n_inputs a_n_tables a_n_sizes a_n_extras a_n_sources a_n_takers a_n_firstTaker a_n_order a_n_tally a_n_behind : Nat) (f_n_cells f_n_ordered p1 : Int32) (g_n_kinds : Nat → Int32) (r_f_n_cells : RG f_n_cells 0 50) (r_f_n_ordered : RG f_n_ordered 0 50) (i_g_n_kinds : AR g_n_kinds 50 0 5) (r_p1 : RG p1 0 49) : CtI l E yX1_isGate w_q_isGate ({ frames := 1, cells := 0, slots := 0, locals := 20 }) [(o_n, .inr (1, [.int f_n_cells, .ref a_n_kinds, .ref a_n_inputs, .ref a_n_tables, .ref a_n_sizes, .ref a_n_extras, .ref a_n_sources, .ref a_n_takers, .ref a_n_firstTaker, .ref a_n_order, .int f_n_ordered, .ref a_n_tally, .ref a_n_behind])), (a_n_kinds, aI E 50 g_n_kinds)] [.ref o_n, .int p1] (fun r w => (0 ≤ r.toInt ∧ r.toInt ≤ 1) ∧ w = [(o_n, .inr (1, [.int f_n_cells, .ref a_n_kinds, .ref a_n_inputs, .ref a_n_tables, .ref a_n_sizes, .ref a_n_extras, .ref a_n_sources, .ref a_n_takers, .ref a_n_firstTaker, .ref a_n_order, .int f_n_ordered, .ref a_n_tally, .ref a_n_behind])), (a_n_kinds, aI E 50 g_n_kinds)]) := by
  refine CtI.of (cc := cX1_isGate) (maxL := 2) (rt := (some .boolean)) (by decide) rfl (Nat.le_of_ble_eq_true rfl) ?_
  intro p e s m below meth c A B ls hl
  obtain ⟨hx, hb, hml, hr, hlk, hin, hts, hown, hK, hN, hZ, hA, hP, hD, hS⟩ := B
  replace hown : s.vm.findClass RX1 = some m.cls := hown
  have hto : ∀ w ∈ wo_q_isGate, w.before _ s = true := fun w h => hts w (List.mem_append_left _ h)
  replace hl : lv_has ls 2 [(0, .ref o_n), (1, .int p1)] := hl
  obtain ⟨H, hHe⟩ : ∃ H, H = s.heap := ⟨_, rfl⟩
  obtain ⟨locs, hle⟩ : ∃ l : List Loc, l = [] := ⟨_, rfl⟩
  replace hS : va_S A s.heap H locs := by rw [hHe, hle]; exact hS
  replace hP : va_P E.1 vwCl [(o_n, .inr (1, [.int f_n_cells, .ref a_n_kinds, .ref a_n_inputs, .ref a_n_tables, .ref a_n_sizes, .ref a_n_extras, .ref a_n_sources, .ref a_n_takers, .ref a_n_firstTaker, .ref a_n_order, .int f_n_ordered, .ref a_n_tally, .ref a_n_behind])), (a_n_kinds, aI E 50 g_n_kinds)] H := by rw [hHe]; exact hP
  refine W_hl hHe hle ?_
  clear hHe hle
  refine lv_aload_n hx hb dX1_isGate_0 rfl (lv_at hl 0 rfl) ?_
  refine va_get (D := E.1) (ci := 1) (v := .ref a_n_kinds) (own := RX1) (C := RX1) (T := TX1) (N := 13) hx hb hts i_q_isGate_X1 hown hK hP 0 rfl rfl 1 (by decide) (hto (.fieldLink RX1 9 "TimingHouse$Net" "kinds" "[I") (by decide +kernel)) (fun _ h9 => h9) rfl dX1_isGate_1 ?_
  refine lv_iload_n hx hb dX1_isGate_4 rfl (lv_at hl 1 rfl) ?_
  have b_p1 := r_p1.out
  refine ld_i hx hb hK hP 1 rfl (by omega) dX1_isGate_5 (fun x_1 ex_1 => ?_)
  have b_x_1 := AR.rd i_g_n_kinds ex_1 (by omega)
  refine call_i (va_runS (As := [.int x_1]) (rest := []) ⟨hx, hb, hml, hown, hts⟩ (q_isGateKind l E x_1 H.size) (va_cwS 1 hts g_q_isGate_q_isGateKind_60 rfl rfl rfl (by decide +kernel) ⟨Nat.le_of_ble_eq_true rfl, Nat.le_of_ble_eq_true rfl⟩) (pre_S hK hN hZ hS (va_free hD hS hA [] rfl) (hP.sub (ws' := []) [] rfl) (hD.sub (ws' := []) [] (by decide) rfl)) rfl rfl hl.1 rfl (lv_room (Nat.le_of_ble_eq_true rfl)) dX1_isGate_6 ⟨Nat.le_of_ble_eq_true rfl, Nat.le_of_ble_eq_true rfl⟩) hP hD hS hA [] [0, 1] (wr := [(o_n, .inr (1, [.int f_n_cells, .ref a_n_kinds, .ref a_n_inputs, .ref a_n_tables, .ref a_n_sizes, .ref a_n_extras, .ref a_n_sources, .ref a_n_takers, .ref a_n_firstTaker, .ref a_n_order, .int f_n_ordered, .ref a_n_tally, .ref a_n_behind])), (a_n_kinds, aI E 50 g_n_kinds)]) rfl rfl (by decide) (by decide) (fun r_2 w H locs hw hP hD hS => ?_)
  obtain ⟨b_r_2, rfl⟩ := hw
  replace hP : va_P E.1 vwCl [(o_n, .inr (1, [.int f_n_cells, .ref a_n_kinds, .ref a_n_inputs, .ref a_n_tables, .ref a_n_sizes, .ref a_n_extras, .ref a_n_sources, .ref a_n_takers, .ref a_n_firstTaker, .ref a_n_order, .int f_n_ordered, .ref a_n_tally, .ref a_n_behind])), (a_n_kinds, aI E 50 g_n_kinds)] H := hP
  replace hD : va_D A [(o_n, .inr (1, [.int f_n_cells, .ref a_n_kinds, .ref a_n_inputs, .ref a_n_tables, .ref a_n_sizes, .ref a_n_extras, .ref a_n_sources, .ref a_n_takers, .ref a_n_firstTaker, .ref a_n_order, .int f_n_ordered, .ref a_n_tally, .ref a_n_behind])), (a_n_kinds, aI E 50 g_n_kinds)] := hD
  exact ret_i hx hb hr hlk (hP.sub (ws' := [(o_n, .inr (1, [.int f_n_cells, .ref a_n_kinds, .ref a_n_inputs, .ref a_n_tables, .ref a_n_sizes, .ref a_n_extras, .ref a_n_sources, .ref a_n_takers, .ref a_n_firstTaker, .ref a_n_order, .int f_n_ordered, .ref a_n_tally, .ref a_n_behind])), (a_n_kinds, aI E 50 g_n_kinds)]) [0, 1] rfl) (hD.sub (ws' := [(o_n, .inr (1, [.int f_n_cells, .ref a_n_kinds, .ref a_n_inputs, .ref a_n_tables, .ref a_n_sizes, .ref a_n_extras, .ref a_n_sources, .ref a_n_takers, .ref a_n_firstTaker, .ref a_n_order, .int f_n_ordered, .ref a_n_tally, .ref a_n_behind])), (a_n_kinds, aI E 50 g_n_kinds)]) [0, 1] (by decide) rfl) hS (nb_01 (by omega)) dX1_isGate_9 (Nat.le_of_ble_eq_true rfl) (Nat.le_of_ble_eq_true rfl) ⟨(by omega), rfl⟩
theorem dX1_isStart_0 : decode cX1_isStart 0 = .ok (.aload_n 0, 1) := by decide +kernel
theorem dX1_isStart_1 : decode cX1_isStart 1 = .ok (.getfield 9, 3) := by decide +kernel
theorem dX1_isStart_4 : decode cX1_isStart 4 = .ok (.iload_n 1, 1) := by decide +kernel
theorem dX1_isStart_5 : decode cX1_isStart 5 = .ok (.iaload, 1) := by decide +kernel
theorem dX1_isStart_6 : decode cX1_isStart 6 = .ok (.ifCond .eq 13, 3) := by decide +kernel
theorem dX1_isStart_19 : decode cX1_isStart 19 = .ok (.iconst 1, 1) := by decide +kernel
theorem dX1_isStart_20 : decode cX1_isStart 20 = .ok (.goto 4, 3) := by decide +kernel
theorem dX1_isStart_24 : decode cX1_isStart 24 = .ok (.ireturn, 1) := by decide +kernel
theorem dX1_isStart_9 : decode cX1_isStart 9 = .ok (.aload_n 0, 1) := by decide +kernel
theorem dX1_isStart_10 : decode cX1_isStart 10 = .ok (.getfield 9, 3) := by decide +kernel
theorem dX1_isStart_13 : decode cX1_isStart 13 = .ok (.iload_n 1, 1) := by decide +kernel
theorem dX1_isStart_14 : decode cX1_isStart 14 = .ok (.iaload, 1) := by decide +kernel
theorem dX1_isStart_15 : decode cX1_isStart 15 = .ok (.iconst 4, 1) := by decide +kernel
theorem dX1_isStart_16 : decode cX1_isStart 16 = .ok (.if_icmp .ne 7, 3) := by decide +kernel
theorem dX1_isStart_23 : decode cX1_isStart 23 = .ok (.iconst 0, 1) := by decide +kernel
def wo_q_isStart : List Cond := [.code yX1_isStart cX1_isStart 2 (some .boolean), .fieldLink RX1 9 "TimingHouse$Net" "kinds" "[I"]
def wr_q_isStart : List Cond := (wsX10 ++ ([]))
def w_q_isStart : List Cond := wo_q_isStart ++ wr_q_isStart
theorem wg_q_isStart : GW w_q_isStart := GW_app (GW_of (by decide +kernel)) (GW_app (GW_of (by decide +kernel)) (GW_nil))
theorem i_q_isStart_X1 : ∀ w ∈ wsX10, w ∈ w_q_isStart := fun _ h => List.mem_append_right _ (List.mem_append_left _ h)
set_option maxHeartbeats 8000000 in
set_option maxRecDepth 100000 in
theorem q_isStart (l : Launch) (E : gE) (o_n a_n_kinds a_n_inputs a_n_tables a_n_sizes a_n_extras a_n_sources a_n_takers a_n_firstTaker a_n_order a_n_tally a_n_behind : Nat) (f_n_cells f_n_ordered p1 : Int32) (g_n_kinds : Nat → Int32) (r_f_n_cells : RG f_n_cells 0 50) (r_f_n_ordered : RG f_n_ordered 0 50) (i_g_n_kinds : AR g_n_kinds 50 0 5) (r_p1 : RG p1 0 49) : CtI l E yX1_isStart w_q_isStart ({ frames := 0, cells := 0, slots := 0, locals := 0 }) [(o_n, .inr (1, [.int f_n_cells, .ref a_n_kinds, .ref a_n_inputs, .ref a_n_tables, .ref a_n_sizes, .ref a_n_extras, .ref a_n_sources, .ref a_n_takers, .ref a_n_firstTaker, .ref a_n_order, .int f_n_ordered, .ref a_n_tally, .ref a_n_behind])), (a_n_kinds, aI E 50 g_n_kinds)] [.ref o_n, .int p1] (fun r w => (0 ≤ r.toInt ∧ r.toInt ≤ 1) ∧ w = [(o_n, .inr (1, [.int f_n_cells, .ref a_n_kinds, .ref a_n_inputs, .ref a_n_tables, .ref a_n_sizes, .ref a_n_extras, .ref a_n_sources, .ref a_n_takers, .ref a_n_firstTaker, .ref a_n_order, .int f_n_ordered, .ref a_n_tally, .ref a_n_behind])), (a_n_kinds, aI E 50 g_n_kinds)]) := by
  refine CtI.of (cc := cX1_isStart) (maxL := 2) (rt := (some .boolean)) (by decide) rfl (Nat.le_of_ble_eq_true rfl) ?_
  intro p e s m below meth c A B ls hl
  obtain ⟨hx, hb, hml, hr, hlk, hin, hts, hown, hK, hN, hZ, hA, hP, hD, hS⟩ := B
  replace hown : s.vm.findClass RX1 = some m.cls := hown
  have hto : ∀ w ∈ wo_q_isStart, w.before _ s = true := fun w h => hts w (List.mem_append_left _ h)
  replace hl : lv_has ls 2 [(0, .ref o_n), (1, .int p1)] := hl
  obtain ⟨H, hHe⟩ : ∃ H, H = s.heap := ⟨_, rfl⟩
  obtain ⟨locs, hle⟩ : ∃ l : List Loc, l = [] := ⟨_, rfl⟩
  replace hS : va_S A s.heap H locs := by rw [hHe, hle]; exact hS
  replace hP : va_P E.1 vwCl [(o_n, .inr (1, [.int f_n_cells, .ref a_n_kinds, .ref a_n_inputs, .ref a_n_tables, .ref a_n_sizes, .ref a_n_extras, .ref a_n_sources, .ref a_n_takers, .ref a_n_firstTaker, .ref a_n_order, .int f_n_ordered, .ref a_n_tally, .ref a_n_behind])), (a_n_kinds, aI E 50 g_n_kinds)] H := by rw [hHe]; exact hP
  refine W_hl hHe hle ?_
  clear hHe hle
  refine lv_aload_n hx hb dX1_isStart_0 rfl (lv_at hl 0 rfl) ?_
  refine va_get (D := E.1) (ci := 1) (v := .ref a_n_kinds) (own := RX1) (C := RX1) (T := TX1) (N := 13) hx hb hts i_q_isStart_X1 hown hK hP 0 rfl rfl 1 (by decide) (hto (.fieldLink RX1 9 "TimingHouse$Net" "kinds" "[I") (by decide +kernel)) (fun _ h9 => h9) rfl dX1_isStart_1 ?_
  refine lv_iload_n hx hb dX1_isStart_4 rfl (lv_at hl 1 rfl) ?_
  have b_p1 := r_p1.out
  refine ld_i hx hb hK hP 1 rfl (by omega) dX1_isStart_5 (fun x_1 ex_1 => ?_)
  have b_x_1 := AR.rd i_g_n_kinds ex_1 (by omega)
  refine lv_if_eq (tgt := 19) hx hb dX1_isStart_6 (by decide) (fun c_2 => ?_) (fun c_2 => ?_)
  · have e_2 : x_1.toInt = 0 := i3_eq c_2
    refine lv_iconst (v := 1) hx hb dX1_isStart_19 (by decide) ?_
    refine lv_goto (tgt := 24) hx hb dX1_isStart_20 (by decide) ?_
    exact ret_i hx hb hr hlk (hP.sub (ws' := [(o_n, .inr (1, [.int f_n_cells, .ref a_n_kinds, .ref a_n_inputs, .ref a_n_tables, .ref a_n_sizes, .ref a_n_extras, .ref a_n_sources, .ref a_n_takers, .ref a_n_firstTaker, .ref a_n_order, .int f_n_ordered, .ref a_n_tally, .ref a_n_behind])), (a_n_kinds, aI E 50 g_n_kinds)]) [0, 1] rfl) (hD.sub (ws' := [(o_n, .inr (1, [.int f_n_cells, .ref a_n_kinds, .ref a_n_inputs, .ref a_n_tables, .ref a_n_sizes, .ref a_n_extras, .ref a_n_sources, .ref a_n_takers, .ref a_n_firstTaker, .ref a_n_order, .int f_n_ordered, .ref a_n_tally, .ref a_n_behind])), (a_n_kinds, aI E 50 g_n_kinds)]) [0, 1] (by decide) rfl) hS rfl dX1_isStart_24 (Nat.le_of_ble_eq_true rfl) (Nat.le_of_ble_eq_true rfl) ⟨(by decide), rfl⟩
  · have e_2 : x_1.toInt ≠ 0 := i3_ne c_2
    refine lv_aload_n hx hb dX1_isStart_9 rfl (lv_at hl 0 rfl) ?_
    refine va_get (D := E.1) (ci := 1) (v := .ref a_n_kinds) (own := RX1) (C := RX1) (T := TX1) (N := 13) hx hb hts i_q_isStart_X1 hown hK hP 0 rfl rfl 1 (by decide) (hto (.fieldLink RX1 9 "TimingHouse$Net" "kinds" "[I") (by decide +kernel)) (fun _ h9 => h9) rfl dX1_isStart_10 ?_
    refine lv_iload_n hx hb dX1_isStart_13 rfl (lv_at hl 1 rfl) ?_
    refine ld_i hx hb hK hP 1 rfl (by omega) dX1_isStart_14 (fun x_3 ex_3 => ?_)
    have hq_x_3 : x_1 = x_3 := ex_1.trans ex_3.symm
    subst hq_x_3
    refine lv_iconst (v := 4) hx hb dX1_isStart_15 (by decide) ?_
    refine lv_icmp_ne (tgt := 23) hx hb dX1_isStart_16 (by decide) (fun c_4 => ?_) (fun c_4 => ?_)
    · have e_4 : x_1.toInt ≠ 4 := i3_ne c_4
      refine lv_iconst (v := 0) hx hb dX1_isStart_23 (by decide) ?_
      exact ret_i hx hb hr hlk (hP.sub (ws' := [(o_n, .inr (1, [.int f_n_cells, .ref a_n_kinds, .ref a_n_inputs, .ref a_n_tables, .ref a_n_sizes, .ref a_n_extras, .ref a_n_sources, .ref a_n_takers, .ref a_n_firstTaker, .ref a_n_order, .int f_n_ordered, .ref a_n_tally, .ref a_n_behind])), (a_n_kinds, aI E 50 g_n_kinds)]) [0, 1] rfl) (hD.sub (ws' := [(o_n, .inr (1, [.int f_n_cells, .ref a_n_kinds, .ref a_n_inputs, .ref a_n_tables, .ref a_n_sizes, .ref a_n_extras, .ref a_n_sources, .ref a_n_takers, .ref a_n_firstTaker, .ref a_n_order, .int f_n_ordered, .ref a_n_tally, .ref a_n_behind])), (a_n_kinds, aI E 50 g_n_kinds)]) [0, 1] (by decide) rfl) hS rfl dX1_isStart_24 (Nat.le_of_ble_eq_true rfl) (Nat.le_of_ble_eq_true rfl) ⟨(by decide), rfl⟩
    · have e_4 : x_1.toInt = 4 := i3_eq c_4
      refine lv_iconst (v := 1) hx hb dX1_isStart_19 (by decide) ?_
      refine lv_goto (tgt := 24) hx hb dX1_isStart_20 (by decide) ?_
      exact ret_i hx hb hr hlk (hP.sub (ws' := [(o_n, .inr (1, [.int f_n_cells, .ref a_n_kinds, .ref a_n_inputs, .ref a_n_tables, .ref a_n_sizes, .ref a_n_extras, .ref a_n_sources, .ref a_n_takers, .ref a_n_firstTaker, .ref a_n_order, .int f_n_ordered, .ref a_n_tally, .ref a_n_behind])), (a_n_kinds, aI E 50 g_n_kinds)]) [0, 1] rfl) (hD.sub (ws' := [(o_n, .inr (1, [.int f_n_cells, .ref a_n_kinds, .ref a_n_inputs, .ref a_n_tables, .ref a_n_sizes, .ref a_n_extras, .ref a_n_sources, .ref a_n_takers, .ref a_n_firstTaker, .ref a_n_order, .int f_n_ordered, .ref a_n_tally, .ref a_n_behind])), (a_n_kinds, aI E 50 g_n_kinds)]) [0, 1] (by decide) rfl) hS rfl dX1_isStart_24 (Nat.le_of_ble_eq_true rfl) (Nat.le_of_ble_eq_true rfl) ⟨(by decide), rfl⟩
theorem dX1_isTarget_0 : decode cX1_isTarget 0 = .ok (.aload_n 0, 1) := by decide +kernel
theorem dX1_isTarget_1 : decode cX1_isTarget 1 = .ok (.getfield 9, 3) := by decide +kernel
theorem dX1_isTarget_4 : decode cX1_isTarget 4 = .ok (.iload_n 1, 1) := by decide +kernel
theorem dX1_isTarget_5 : decode cX1_isTarget 5 = .ok (.iaload, 1) := by decide +kernel
theorem dX1_isTarget_6 : decode cX1_isTarget 6 = .ok (.iconst 4, 1) := by decide +kernel
theorem dX1_isTarget_7 : decode cX1_isTarget 7 = .ok (.if_icmp .eq 13, 3) := by decide +kernel
theorem dX1_isTarget_20 : decode cX1_isTarget 20 = .ok (.iconst 1, 1) := by decide +kernel
theorem dX1_isTarget_21 : decode cX1_isTarget 21 = .ok (.goto 4, 3) := by decide +kernel
theorem dX1_isTarget_25 : decode cX1_isTarget 25 = .ok (.ireturn, 1) := by decide +kernel
theorem dX1_isTarget_10 : decode cX1_isTarget 10 = .ok (.aload_n 0, 1) := by decide +kernel
theorem dX1_isTarget_11 : decode cX1_isTarget 11 = .ok (.getfield 9, 3) := by decide +kernel
theorem dX1_isTarget_14 : decode cX1_isTarget 14 = .ok (.iload_n 1, 1) := by decide +kernel
theorem dX1_isTarget_15 : decode cX1_isTarget 15 = .ok (.iaload, 1) := by decide +kernel
theorem dX1_isTarget_16 : decode cX1_isTarget 16 = .ok (.iconst 5, 1) := by decide +kernel
theorem dX1_isTarget_17 : decode cX1_isTarget 17 = .ok (.if_icmp .ne 7, 3) := by decide +kernel
theorem dX1_isTarget_24 : decode cX1_isTarget 24 = .ok (.iconst 0, 1) := by decide +kernel
def wo_q_isTarget : List Cond := [.code yX1_isTarget cX1_isTarget 2 (some .boolean), .fieldLink RX1 9 "TimingHouse$Net" "kinds" "[I"]
def wr_q_isTarget : List Cond := (wsX10 ++ ([]))
def w_q_isTarget : List Cond := wo_q_isTarget ++ wr_q_isTarget
theorem wg_q_isTarget : GW w_q_isTarget := GW_app (GW_of (by decide +kernel)) (GW_app (GW_of (by decide +kernel)) (GW_nil))
theorem i_q_isTarget_X1 : ∀ w ∈ wsX10, w ∈ w_q_isTarget := fun _ h => List.mem_append_right _ (List.mem_append_left _ h)
set_option maxHeartbeats 8000000 in
set_option maxRecDepth 100000 in
theorem q_isTarget (l : Launch) (E : gE) (o_n a_n_kinds a_n_inputs a_n_tables a_n_sizes a_n_extras a_n_sources a_n_takers a_n_firstTaker a_n_order a_n_tally a_n_behind : Nat) (f_n_cells f_n_ordered p1 : Int32) (g_n_kinds : Nat → Int32) (r_f_n_cells : RG f_n_cells 0 50) (r_f_n_ordered : RG f_n_ordered 0 50) (i_g_n_kinds : AR g_n_kinds 50 0 5) (r_p1 : RG p1 0 49) : CtI l E yX1_isTarget w_q_isTarget ({ frames := 0, cells := 0, slots := 0, locals := 0 }) [(o_n, .inr (1, [.int f_n_cells, .ref a_n_kinds, .ref a_n_inputs, .ref a_n_tables, .ref a_n_sizes, .ref a_n_extras, .ref a_n_sources, .ref a_n_takers, .ref a_n_firstTaker, .ref a_n_order, .int f_n_ordered, .ref a_n_tally, .ref a_n_behind])), (a_n_kinds, aI E 50 g_n_kinds)] [.ref o_n, .int p1] (fun r w => (0 ≤ r.toInt ∧ r.toInt ≤ 1) ∧ w = [(o_n, .inr (1, [.int f_n_cells, .ref a_n_kinds, .ref a_n_inputs, .ref a_n_tables, .ref a_n_sizes, .ref a_n_extras, .ref a_n_sources, .ref a_n_takers, .ref a_n_firstTaker, .ref a_n_order, .int f_n_ordered, .ref a_n_tally, .ref a_n_behind])), (a_n_kinds, aI E 50 g_n_kinds)]) := by
  refine CtI.of (cc := cX1_isTarget) (maxL := 2) (rt := (some .boolean)) (by decide) rfl (Nat.le_of_ble_eq_true rfl) ?_
  intro p e s m below meth c A B ls hl
  obtain ⟨hx, hb, hml, hr, hlk, hin, hts, hown, hK, hN, hZ, hA, hP, hD, hS⟩ := B
  replace hown : s.vm.findClass RX1 = some m.cls := hown
  have hto : ∀ w ∈ wo_q_isTarget, w.before _ s = true := fun w h => hts w (List.mem_append_left _ h)
  replace hl : lv_has ls 2 [(0, .ref o_n), (1, .int p1)] := hl
  obtain ⟨H, hHe⟩ : ∃ H, H = s.heap := ⟨_, rfl⟩
  obtain ⟨locs, hle⟩ : ∃ l : List Loc, l = [] := ⟨_, rfl⟩
  replace hS : va_S A s.heap H locs := by rw [hHe, hle]; exact hS
  replace hP : va_P E.1 vwCl [(o_n, .inr (1, [.int f_n_cells, .ref a_n_kinds, .ref a_n_inputs, .ref a_n_tables, .ref a_n_sizes, .ref a_n_extras, .ref a_n_sources, .ref a_n_takers, .ref a_n_firstTaker, .ref a_n_order, .int f_n_ordered, .ref a_n_tally, .ref a_n_behind])), (a_n_kinds, aI E 50 g_n_kinds)] H := by rw [hHe]; exact hP
  refine W_hl hHe hle ?_
  clear hHe hle
  refine lv_aload_n hx hb dX1_isTarget_0 rfl (lv_at hl 0 rfl) ?_
  refine va_get (D := E.1) (ci := 1) (v := .ref a_n_kinds) (own := RX1) (C := RX1) (T := TX1) (N := 13) hx hb hts i_q_isTarget_X1 hown hK hP 0 rfl rfl 1 (by decide) (hto (.fieldLink RX1 9 "TimingHouse$Net" "kinds" "[I") (by decide +kernel)) (fun _ h9 => h9) rfl dX1_isTarget_1 ?_
  refine lv_iload_n hx hb dX1_isTarget_4 rfl (lv_at hl 1 rfl) ?_
  have b_p1 := r_p1.out
  refine ld_i hx hb hK hP 1 rfl (by omega) dX1_isTarget_5 (fun x_1 ex_1 => ?_)
  have b_x_1 := AR.rd i_g_n_kinds ex_1 (by omega)
  refine lv_iconst (v := 4) hx hb dX1_isTarget_6 (by decide) ?_
  refine lv_icmp_eq (tgt := 20) hx hb dX1_isTarget_7 (by decide) (fun c_2 => ?_) (fun c_2 => ?_)
  · have e_2 : x_1.toInt = 4 := i3_eq c_2
    refine lv_iconst (v := 1) hx hb dX1_isTarget_20 (by decide) ?_
    refine lv_goto (tgt := 25) hx hb dX1_isTarget_21 (by decide) ?_
    exact ret_i hx hb hr hlk (hP.sub (ws' := [(o_n, .inr (1, [.int f_n_cells, .ref a_n_kinds, .ref a_n_inputs, .ref a_n_tables, .ref a_n_sizes, .ref a_n_extras, .ref a_n_sources, .ref a_n_takers, .ref a_n_firstTaker, .ref a_n_order, .int f_n_ordered, .ref a_n_tally, .ref a_n_behind])), (a_n_kinds, aI E 50 g_n_kinds)]) [0, 1] rfl) (hD.sub (ws' := [(o_n, .inr (1, [.int f_n_cells, .ref a_n_kinds, .ref a_n_inputs, .ref a_n_tables, .ref a_n_sizes, .ref a_n_extras, .ref a_n_sources, .ref a_n_takers, .ref a_n_firstTaker, .ref a_n_order, .int f_n_ordered, .ref a_n_tally, .ref a_n_behind])), (a_n_kinds, aI E 50 g_n_kinds)]) [0, 1] (by decide) rfl) hS rfl dX1_isTarget_25 (Nat.le_of_ble_eq_true rfl) (Nat.le_of_ble_eq_true rfl) ⟨(by decide), rfl⟩
  · have e_2 : x_1.toInt ≠ 4 := i3_ne c_2
    refine lv_aload_n hx hb dX1_isTarget_10 rfl (lv_at hl 0 rfl) ?_
    refine va_get (D := E.1) (ci := 1) (v := .ref a_n_kinds) (own := RX1) (C := RX1) (T := TX1) (N := 13) hx hb hts i_q_isTarget_X1 hown hK hP 0 rfl rfl 1 (by decide) (hto (.fieldLink RX1 9 "TimingHouse$Net" "kinds" "[I") (by decide +kernel)) (fun _ h9 => h9) rfl dX1_isTarget_11 ?_
    refine lv_iload_n hx hb dX1_isTarget_14 rfl (lv_at hl 1 rfl) ?_
    refine ld_i hx hb hK hP 1 rfl (by omega) dX1_isTarget_15 (fun x_3 ex_3 => ?_)
    have hq_x_3 : x_1 = x_3 := ex_1.trans ex_3.symm
    subst hq_x_3
    refine lv_iconst (v := 5) hx hb dX1_isTarget_16 (by decide) ?_
    refine lv_icmp_ne (tgt := 24) hx hb dX1_isTarget_17 (by decide) (fun c_4 => ?_) (fun c_4 => ?_)
    · have e_4 : x_1.toInt ≠ 5 := i3_ne c_4
      refine lv_iconst (v := 0) hx hb dX1_isTarget_24 (by decide) ?_
      exact ret_i hx hb hr hlk (hP.sub (ws' := [(o_n, .inr (1, [.int f_n_cells, .ref a_n_kinds, .ref a_n_inputs, .ref a_n_tables, .ref a_n_sizes, .ref a_n_extras, .ref a_n_sources, .ref a_n_takers, .ref a_n_firstTaker, .ref a_n_order, .int f_n_ordered, .ref a_n_tally, .ref a_n_behind])), (a_n_kinds, aI E 50 g_n_kinds)]) [0, 1] rfl) (hD.sub (ws' := [(o_n, .inr (1, [.int f_n_cells, .ref a_n_kinds, .ref a_n_inputs, .ref a_n_tables, .ref a_n_sizes, .ref a_n_extras, .ref a_n_sources, .ref a_n_takers, .ref a_n_firstTaker, .ref a_n_order, .int f_n_ordered, .ref a_n_tally, .ref a_n_behind])), (a_n_kinds, aI E 50 g_n_kinds)]) [0, 1] (by decide) rfl) hS rfl dX1_isTarget_25 (Nat.le_of_ble_eq_true rfl) (Nat.le_of_ble_eq_true rfl) ⟨(by decide), rfl⟩
    · have e_4 : x_1.toInt = 5 := i3_eq c_4
      refine lv_iconst (v := 1) hx hb dX1_isTarget_20 (by decide) ?_
      refine lv_goto (tgt := 25) hx hb dX1_isTarget_21 (by decide) ?_
      exact ret_i hx hb hr hlk (hP.sub (ws' := [(o_n, .inr (1, [.int f_n_cells, .ref a_n_kinds, .ref a_n_inputs, .ref a_n_tables, .ref a_n_sizes, .ref a_n_extras, .ref a_n_sources, .ref a_n_takers, .ref a_n_firstTaker, .ref a_n_order, .int f_n_ordered, .ref a_n_tally, .ref a_n_behind])), (a_n_kinds, aI E 50 g_n_kinds)]) [0, 1] rfl) (hD.sub (ws' := [(o_n, .inr (1, [.int f_n_cells, .ref a_n_kinds, .ref a_n_inputs, .ref a_n_tables, .ref a_n_sizes, .ref a_n_extras, .ref a_n_sources, .ref a_n_takers, .ref a_n_firstTaker, .ref a_n_order, .int f_n_ordered, .ref a_n_tally, .ref a_n_behind])), (a_n_kinds, aI E 50 g_n_kinds)]) [0, 1] (by decide) rfl) hS rfl dX1_isTarget_25 (Nat.le_of_ble_eq_true rfl) (Nat.le_of_ble_eq_true rfl) ⟨(by decide), rfl⟩
theorem dX1_hasSize_0 : decode cX1_hasSize 0 = .ok (.aload_n 0, 1) := by decide +kernel
theorem dX1_hasSize_1 : decode cX1_hasSize 1 = .ok (.getfield 9, 3) := by decide +kernel
theorem dX1_hasSize_4 : decode cX1_hasSize 4 = .ok (.iload_n 1, 1) := by decide +kernel
theorem dX1_hasSize_5 : decode cX1_hasSize 5 = .ok (.iaload, 1) := by decide +kernel
theorem dX1_hasSize_6 : decode cX1_hasSize 6 = .ok (.ifCond .eq 17, 3) := by decide +kernel
theorem dX1_hasSize_23 : decode cX1_hasSize 23 = .ok (.iconst 0, 1) := by decide +kernel
theorem dX1_hasSize_24 : decode cX1_hasSize 24 = .ok (.ireturn, 1) := by decide +kernel
theorem dX1_hasSize_9 : decode cX1_hasSize 9 = .ok (.aload_n 0, 1) := by decide +kernel
theorem dX1_hasSize_10 : decode cX1_hasSize 10 = .ok (.getfield 9, 3) := by decide +kernel
theorem dX1_hasSize_13 : decode cX1_hasSize 13 = .ok (.iload_n 1, 1) := by decide +kernel
theorem dX1_hasSize_14 : decode cX1_hasSize 14 = .ok (.iaload, 1) := by decide +kernel
theorem dX1_hasSize_15 : decode cX1_hasSize 15 = .ok (.iconst 5, 1) := by decide +kernel
theorem dX1_hasSize_16 : decode cX1_hasSize 16 = .ok (.if_icmp .eq 7, 3) := by decide +kernel
theorem dX1_hasSize_19 : decode cX1_hasSize 19 = .ok (.iconst 1, 1) := by decide +kernel
theorem dX1_hasSize_20 : decode cX1_hasSize 20 = .ok (.goto 4, 3) := by decide +kernel
def wo_q_hasSize : List Cond := [.code yX1_hasSize cX1_hasSize 2 (some .boolean), .fieldLink RX1 9 "TimingHouse$Net" "kinds" "[I"]
def wr_q_hasSize : List Cond := (wsX10 ++ ([]))
def w_q_hasSize : List Cond := wo_q_hasSize ++ wr_q_hasSize
theorem wg_q_hasSize : GW w_q_hasSize := GW_app (GW_of (by decide +kernel)) (GW_app (GW_of (by decide +kernel)) (GW_nil))
theorem i_q_hasSize_X1 : ∀ w ∈ wsX10, w ∈ w_q_hasSize := fun _ h => List.mem_append_right _ (List.mem_append_left _ h)
set_option maxHeartbeats 8000000 in
set_option maxRecDepth 100000 in
theorem q_hasSize (l : Launch) (E : gE) (o_n a_n_kinds a_n_inputs a_n_tables a_n_sizes a_n_extras a_n_sources a_n_takers a_n_firstTaker a_n_order a_n_tally a_n_behind : Nat) (f_n_cells f_n_ordered p1 : Int32) (g_n_kinds : Nat → Int32) (r_f_n_cells : RG f_n_cells 0 50) (r_f_n_ordered : RG f_n_ordered 0 50) (i_g_n_kinds : AR g_n_kinds 50 0 5) (r_p1 : RG p1 0 49) : CtI l E yX1_hasSize w_q_hasSize ({ frames := 0, cells := 0, slots := 0, locals := 0 }) [(o_n, .inr (1, [.int f_n_cells, .ref a_n_kinds, .ref a_n_inputs, .ref a_n_tables, .ref a_n_sizes, .ref a_n_extras, .ref a_n_sources, .ref a_n_takers, .ref a_n_firstTaker, .ref a_n_order, .int f_n_ordered, .ref a_n_tally, .ref a_n_behind])), (a_n_kinds, aI E 50 g_n_kinds)] [.ref o_n, .int p1] (fun r w => (0 ≤ r.toInt ∧ r.toInt ≤ 1) ∧ w = [(o_n, .inr (1, [.int f_n_cells, .ref a_n_kinds, .ref a_n_inputs, .ref a_n_tables, .ref a_n_sizes, .ref a_n_extras, .ref a_n_sources, .ref a_n_takers, .ref a_n_firstTaker, .ref a_n_order, .int f_n_ordered, .ref a_n_tally, .ref a_n_behind])), (a_n_kinds, aI E 50 g_n_kinds)]) := by
  refine CtI.of (cc := cX1_hasSize) (maxL := 2) (rt := (some .boolean)) (by decide) rfl (Nat.le_of_ble_eq_true rfl) ?_
  intro p e s m below meth c A B ls hl
  obtain ⟨hx, hb, hml, hr, hlk, hin, hts, hown, hK, hN, hZ, hA, hP, hD, hS⟩ := B
  replace hown : s.vm.findClass RX1 = some m.cls := hown
  have hto : ∀ w ∈ wo_q_hasSize, w.before _ s = true := fun w h => hts w (List.mem_append_left _ h)
  replace hl : lv_has ls 2 [(0, .ref o_n), (1, .int p1)] := hl
  obtain ⟨H, hHe⟩ : ∃ H, H = s.heap := ⟨_, rfl⟩
  obtain ⟨locs, hle⟩ : ∃ l : List Loc, l = [] := ⟨_, rfl⟩
  replace hS : va_S A s.heap H locs := by rw [hHe, hle]; exact hS
  replace hP : va_P E.1 vwCl [(o_n, .inr (1, [.int f_n_cells, .ref a_n_kinds, .ref a_n_inputs, .ref a_n_tables, .ref a_n_sizes, .ref a_n_extras, .ref a_n_sources, .ref a_n_takers, .ref a_n_firstTaker, .ref a_n_order, .int f_n_ordered, .ref a_n_tally, .ref a_n_behind])), (a_n_kinds, aI E 50 g_n_kinds)] H := by rw [hHe]; exact hP
  refine W_hl hHe hle ?_
  clear hHe hle
  refine lv_aload_n hx hb dX1_hasSize_0 rfl (lv_at hl 0 rfl) ?_
  refine va_get (D := E.1) (ci := 1) (v := .ref a_n_kinds) (own := RX1) (C := RX1) (T := TX1) (N := 13) hx hb hts i_q_hasSize_X1 hown hK hP 0 rfl rfl 1 (by decide) (hto (.fieldLink RX1 9 "TimingHouse$Net" "kinds" "[I") (by decide +kernel)) (fun _ h9 => h9) rfl dX1_hasSize_1 ?_
  refine lv_iload_n hx hb dX1_hasSize_4 rfl (lv_at hl 1 rfl) ?_
  have b_p1 := r_p1.out
  refine ld_i hx hb hK hP 1 rfl (by omega) dX1_hasSize_5 (fun x_1 ex_1 => ?_)
  have b_x_1 := AR.rd i_g_n_kinds ex_1 (by omega)
  refine lv_if_eq (tgt := 23) hx hb dX1_hasSize_6 (by decide) (fun c_2 => ?_) (fun c_2 => ?_)
  · have e_2 : x_1.toInt = 0 := i3_eq c_2
    refine lv_iconst (v := 0) hx hb dX1_hasSize_23 (by decide) ?_
    exact ret_i hx hb hr hlk (hP.sub (ws' := [(o_n, .inr (1, [.int f_n_cells, .ref a_n_kinds, .ref a_n_inputs, .ref a_n_tables, .ref a_n_sizes, .ref a_n_extras, .ref a_n_sources, .ref a_n_takers, .ref a_n_firstTaker, .ref a_n_order, .int f_n_ordered, .ref a_n_tally, .ref a_n_behind])), (a_n_kinds, aI E 50 g_n_kinds)]) [0, 1] rfl) (hD.sub (ws' := [(o_n, .inr (1, [.int f_n_cells, .ref a_n_kinds, .ref a_n_inputs, .ref a_n_tables, .ref a_n_sizes, .ref a_n_extras, .ref a_n_sources, .ref a_n_takers, .ref a_n_firstTaker, .ref a_n_order, .int f_n_ordered, .ref a_n_tally, .ref a_n_behind])), (a_n_kinds, aI E 50 g_n_kinds)]) [0, 1] (by decide) rfl) hS rfl dX1_hasSize_24 (Nat.le_of_ble_eq_true rfl) (Nat.le_of_ble_eq_true rfl) ⟨(by decide), rfl⟩
  · have e_2 : x_1.toInt ≠ 0 := i3_ne c_2
    refine lv_aload_n hx hb dX1_hasSize_9 rfl (lv_at hl 0 rfl) ?_
    refine va_get (D := E.1) (ci := 1) (v := .ref a_n_kinds) (own := RX1) (C := RX1) (T := TX1) (N := 13) hx hb hts i_q_hasSize_X1 hown hK hP 0 rfl rfl 1 (by decide) (hto (.fieldLink RX1 9 "TimingHouse$Net" "kinds" "[I") (by decide +kernel)) (fun _ h9 => h9) rfl dX1_hasSize_10 ?_
    refine lv_iload_n hx hb dX1_hasSize_13 rfl (lv_at hl 1 rfl) ?_
    refine ld_i hx hb hK hP 1 rfl (by omega) dX1_hasSize_14 (fun x_3 ex_3 => ?_)
    have hq_x_3 : x_1 = x_3 := ex_1.trans ex_3.symm
    subst hq_x_3
    refine lv_iconst (v := 5) hx hb dX1_hasSize_15 (by decide) ?_
    refine lv_icmp_eq (tgt := 23) hx hb dX1_hasSize_16 (by decide) (fun c_4 => ?_) (fun c_4 => ?_)
    · have e_4 : x_1.toInt = 5 := i3_eq c_4
      refine lv_iconst (v := 0) hx hb dX1_hasSize_23 (by decide) ?_
      exact ret_i hx hb hr hlk (hP.sub (ws' := [(o_n, .inr (1, [.int f_n_cells, .ref a_n_kinds, .ref a_n_inputs, .ref a_n_tables, .ref a_n_sizes, .ref a_n_extras, .ref a_n_sources, .ref a_n_takers, .ref a_n_firstTaker, .ref a_n_order, .int f_n_ordered, .ref a_n_tally, .ref a_n_behind])), (a_n_kinds, aI E 50 g_n_kinds)]) [0, 1] rfl) (hD.sub (ws' := [(o_n, .inr (1, [.int f_n_cells, .ref a_n_kinds, .ref a_n_inputs, .ref a_n_tables, .ref a_n_sizes, .ref a_n_extras, .ref a_n_sources, .ref a_n_takers, .ref a_n_firstTaker, .ref a_n_order, .int f_n_ordered, .ref a_n_tally, .ref a_n_behind])), (a_n_kinds, aI E 50 g_n_kinds)]) [0, 1] (by decide) rfl) hS rfl dX1_hasSize_24 (Nat.le_of_ble_eq_true rfl) (Nat.le_of_ble_eq_true rfl) ⟨(by decide), rfl⟩
    · have e_4 : x_1.toInt ≠ 5 := i3_ne c_4
      refine lv_iconst (v := 1) hx hb dX1_hasSize_19 (by decide) ?_
      refine lv_goto (tgt := 24) hx hb dX1_hasSize_20 (by decide) ?_
      exact ret_i hx hb hr hlk (hP.sub (ws' := [(o_n, .inr (1, [.int f_n_cells, .ref a_n_kinds, .ref a_n_inputs, .ref a_n_tables, .ref a_n_sizes, .ref a_n_extras, .ref a_n_sources, .ref a_n_takers, .ref a_n_firstTaker, .ref a_n_order, .int f_n_ordered, .ref a_n_tally, .ref a_n_behind])), (a_n_kinds, aI E 50 g_n_kinds)]) [0, 1] rfl) (hD.sub (ws' := [(o_n, .inr (1, [.int f_n_cells, .ref a_n_kinds, .ref a_n_inputs, .ref a_n_tables, .ref a_n_sizes, .ref a_n_extras, .ref a_n_sources, .ref a_n_takers, .ref a_n_firstTaker, .ref a_n_order, .int f_n_ordered, .ref a_n_tally, .ref a_n_behind])), (a_n_kinds, aI E 50 g_n_kinds)]) [0, 1] (by decide) rfl) hS rfl dX1_hasSize_24 (Nat.le_of_ble_eq_true rfl) (Nat.le_of_ble_eq_true rfl) ⟨(by decide), rfl⟩
theorem dX1_loadOf_0 : decode cX1_loadOf 0 = .ok (.aload_n 0, 1) := by decide +kernel
theorem dX1_loadOf_1 : decode cX1_loadOf 1 = .ok (.getfield 24, 3) := by decide +kernel
theorem dX1_loadOf_4 : decode cX1_loadOf 4 = .ok (.iload_n 1, 1) := by decide +kernel
theorem dX1_loadOf_5 : decode cX1_loadOf 5 = .ok (.iaload, 1) := by decide +kernel
theorem dX1_loadOf_6 : decode cX1_loadOf 6 = .ok (.istore_n 2, 1) := by decide +kernel
theorem dX1_loadOf_7 : decode cX1_loadOf 7 = .ok (.aload_n 0, 1) := by decide +kernel
theorem dX1_loadOf_8 : decode cX1_loadOf 8 = .ok (.getfield 33, 3) := by decide +kernel
theorem dX1_loadOf_11 : decode cX1_loadOf 11 = .ok (.iload_n 1, 1) := by decide +kernel
theorem dX1_loadOf_12 : decode cX1_loadOf 12 = .ok (.iaload, 1) := by decide +kernel
theorem dX1_loadOf_13 : decode cX1_loadOf 13 = .ok (.istore_n 3, 1) := by decide +kernel
theorem dX1_loadOf_14 : decode cX1_loadOf 14 = .ok (.iload_n 3, 1) := by decide +kernel
theorem dX1_loadOf_15 : decode cX1_loadOf 15 = .ok (.aload_n 0, 1) := by decide +kernel
theorem dX1_loadOf_16 : decode cX1_loadOf 16 = .ok (.getfield 33, 3) := by decide +kernel
theorem dX1_loadOf_19 : decode cX1_loadOf 19 = .ok (.iload_n 1, 1) := by decide +kernel
theorem dX1_loadOf_20 : decode cX1_loadOf 20 = .ok (.iconst 1, 1) := by decide +kernel
theorem dX1_loadOf_21 : decode cX1_loadOf 21 = .ok (.iadd, 1) := by decide +kernel
theorem dX1_loadOf_22 : decode cX1_loadOf 22 = .ok (.iaload, 1) := by decide +kernel
theorem dX1_loadOf_23 : decode cX1_loadOf 23 = .ok (.if_icmp .ge 27, 3) := by decide +kernel
theorem dX1_loadOf_50 : decode cX1_loadOf 50 = .ok (.iload_n 2, 1) := by decide +kernel
theorem dX1_loadOf_51 : decode cX1_loadOf 51 = .ok (.ireturn, 1) := by decide +kernel
theorem dX1_loadOf_26 : decode cX1_loadOf 26 = .ok (.iload_n 2, 1) := by decide +kernel
theorem dX1_loadOf_27 : decode cX1_loadOf 27 = .ok (.iconst 1, 1) := by decide +kernel
theorem dX1_loadOf_28 : decode cX1_loadOf 28 = .ok (.aload_n 0, 1) := by decide +kernel
theorem dX1_loadOf_29 : decode cX1_loadOf 29 = .ok (.getfield 21, 3) := by decide +kernel
theorem dX1_loadOf_32 : decode cX1_loadOf 32 = .ok (.aload_n 0, 1) := by decide +kernel
theorem dX1_loadOf_33 : decode cX1_loadOf 33 = .ok (.getfield 30, 3) := by decide +kernel
theorem dX1_loadOf_36 : decode cX1_loadOf 36 = .ok (.iload_n 3, 1) := by decide +kernel
theorem dX1_loadOf_37 : decode cX1_loadOf 37 = .ok (.iaload, 1) := by decide +kernel
theorem dX1_loadOf_38 : decode cX1_loadOf 38 = .ok (.iconst 4, 1) := by decide +kernel
theorem dX1_loadOf_39 : decode cX1_loadOf 39 = .ok (.idiv, 1) := by decide +kernel
theorem dX1_loadOf_40 : decode cX1_loadOf 40 = .ok (.iaload, 1) := by decide +kernel
theorem dX1_loadOf_41 : decode cX1_loadOf 41 = .ok (.iadd, 1) := by decide +kernel
theorem dX1_loadOf_42 : decode cX1_loadOf 42 = .ok (.iadd, 1) := by decide +kernel
theorem dX1_loadOf_43 : decode cX1_loadOf 43 = .ok (.istore_n 2, 1) := by decide +kernel
theorem dX1_loadOf_44 : decode cX1_loadOf 44 = .ok (.iinc 3 1, 3) := by decide +kernel
theorem dX1_loadOf_47 : decode cX1_loadOf 47 = .ok (.goto (-33), 3) := by decide +kernel
def wo_q_loadOf : List Cond := [.code yX1_loadOf cX1_loadOf 4 (some .int), .fieldLink RX1 24 "TimingHouse$Net" "extras" "[I", .fieldLink RX1 33 "TimingHouse$Net" "firstTaker" "[I", .fieldLink RX1 21 "TimingHouse$Net" "sizes" "[I", .fieldLink RX1 30 "TimingHouse$Net" "takers" "[I"]
def wr_q_loadOf : List Cond := (wsX10 ++ ([]))
def w_q_loadOf : List Cond := wo_q_loadOf ++ wr_q_loadOf
theorem wg_q_loadOf : GW w_q_loadOf := GW_app (GW_of (by decide +kernel)) (GW_app (GW_of (by decide +kernel)) (GW_nil))
theorem i_q_loadOf_X1 : ∀ w ∈ wsX10, w ∈ w_q_loadOf := fun _ h => List.mem_append_right _ (List.mem_append_left _ h)
set_option maxHeartbeats 8000000 in
set_option maxRecDepth 100000 in
theorem q_loadOf (l : Launch) (E : gE) (o_n a_n_kinds a_n_inputs a_n_tables a_n_sizes a_n_extras a_n_sources a_n_takers a_n_firstTaker a_n_order a_n_tally a_n_behind : Nat) (f_n_cells f_n_ordered p1 : Int32) (g_n_extras : Nat → Int32) (g_n_firstTaker : Nat → Int32) (g_n_takers : Nat → Int32) (g_n_sizes : Nat → Int32) (r_f_n_cells : RG f_n_cells 0 50) (r_f_n_ordered : RG f_n_ordered 0 50) (i_g_n_extras : AR g_n_extras 50 0 1000) (i_g_n_firstTaker : AR g_n_firstTaker 51 0 200) (i_g_n_takers : AR g_n_takers 200 0 199) (i_g_n_sizes : AR g_n_sizes 50 0 2) (r_p1 : RG p1 0 49) : CtI l E yX1_loadOf w_q_loadOf ({ frames := 0, cells := 0, slots := 0, locals := 0 }) [(o_n, .inr (1, [.int f_n_cells, .ref a_n_kinds, .ref a_n_inputs, .ref a_n_tables, .ref a_n_sizes, .ref a_n_extras, .ref a_n_sources, .ref a_n_takers, .ref a_n_firstTaker, .ref a_n_order, .int f_n_ordered, .ref a_n_tally, .ref a_n_behind])), (a_n_extras, aI E 50 g_n_extras), (a_n_firstTaker, aI E 51 g_n_firstTaker), (a_n_takers, aI E 200 g_n_takers), (a_n_sizes, aI E 50 g_n_sizes)] [.ref o_n, .int p1] (fun _ w => True ∧ w = [(o_n, .inr (1, [.int f_n_cells, .ref a_n_kinds, .ref a_n_inputs, .ref a_n_tables, .ref a_n_sizes, .ref a_n_extras, .ref a_n_sources, .ref a_n_takers, .ref a_n_firstTaker, .ref a_n_order, .int f_n_ordered, .ref a_n_tally, .ref a_n_behind])), (a_n_extras, aI E 50 g_n_extras), (a_n_firstTaker, aI E 51 g_n_firstTaker), (a_n_takers, aI E 200 g_n_takers), (a_n_sizes, aI E 50 g_n_sizes)]) := by
  refine CtI.of (cc := cX1_loadOf) (maxL := 4) (rt := (some .int)) (by decide) rfl (Nat.le_of_ble_eq_true rfl) ?_
  intro p e s m below meth c A B ls hl
  obtain ⟨hx, hb, hml, hr, hlk, hin, hts, hown, hK, hN, hZ, hA, hP, hD, hS⟩ := B
  replace hown : s.vm.findClass RX1 = some m.cls := hown
  have hto : ∀ w ∈ wo_q_loadOf, w.before _ s = true := fun w h => hts w (List.mem_append_left _ h)
  replace hl : lv_has ls 4 [(0, .ref o_n), (1, .int p1)] := hl
  obtain ⟨H, hHe⟩ : ∃ H, H = s.heap := ⟨_, rfl⟩
  obtain ⟨locs, hle⟩ : ∃ l : List Loc, l = [] := ⟨_, rfl⟩
  replace hS : va_S A s.heap H locs := by rw [hHe, hle]; exact hS
  replace hP : va_P E.1 vwCl [(o_n, .inr (1, [.int f_n_cells, .ref a_n_kinds, .ref a_n_inputs, .ref a_n_tables, .ref a_n_sizes, .ref a_n_extras, .ref a_n_sources, .ref a_n_takers, .ref a_n_firstTaker, .ref a_n_order, .int f_n_ordered, .ref a_n_tally, .ref a_n_behind])), (a_n_extras, aI E 50 g_n_extras), (a_n_firstTaker, aI E 51 g_n_firstTaker), (a_n_takers, aI E 200 g_n_takers), (a_n_sizes, aI E 50 g_n_sizes)] H := by rw [hHe]; exact hP
  refine W_hl hHe hle ?_
  clear hHe hle
  refine lv_aload_n hx hb dX1_loadOf_0 rfl (lv_at hl 0 rfl) ?_
  refine va_get (D := E.1) (ci := 1) (v := .ref a_n_extras) (own := RX1) (C := RX1) (T := TX1) (N := 13) hx hb hts i_q_loadOf_X1 hown hK hP 0 rfl rfl 5 (by decide) (hto (.fieldLink RX1 24 "TimingHouse$Net" "extras" "[I") (by decide +kernel)) (fun _ h9 => h9) rfl dX1_loadOf_1 ?_
  refine lv_iload_n hx hb dX1_loadOf_4 rfl (lv_at hl 1 rfl) ?_
  have b_p1 := r_p1.out
  refine ld_i hx hb hK hP 1 rfl (by omega) dX1_loadOf_5 (fun x_1 ex_1 => ?_)
  have b_x_1 := AR.rd i_g_n_extras ex_1 (by omega)
  refine lv_istore_n (lv' := [(2, .int x_1), (0, .ref o_n), (1, .int p1)]) hx hb dX1_loadOf_6 rfl hl (by decide) rfl (fun ls hl => ?_)
  refine lv_aload_n hx hb dX1_loadOf_7 rfl (lv_at hl 1 rfl) ?_
  refine va_get (D := E.1) (ci := 1) (v := .ref a_n_firstTaker) (own := RX1) (C := RX1) (T := TX1) (N := 13) hx hb hts i_q_loadOf_X1 hown hK hP 0 rfl rfl 8 (by decide) (hto (.fieldLink RX1 33 "TimingHouse$Net" "firstTaker" "[I") (by decide +kernel)) (fun _ h9 => h9) rfl dX1_loadOf_8 ?_
  refine lv_iload_n hx hb dX1_loadOf_11 rfl (lv_at hl 2 rfl) ?_
  refine ld_i hx hb hK hP 2 rfl (by omega) dX1_loadOf_12 (fun x_2 ex_2 => ?_)
  have b_x_2 := AR.rd i_g_n_firstTaker ex_2 (by omega)
  refine lv_istore_n (lv' := [(3, .int x_2), (2, .int x_1), (0, .ref o_n), (1, .int p1)]) hx hb dX1_loadOf_13 rfl hl (by decide) rfl (fun ls hl => ?_)
  obtain ⟨y_3, hy_3⟩ : ∃ y : Int32, y = x_2 := ⟨_, rfl⟩
  have b_y_3 : 0 ≤ y_3.toInt ∧ y_3.toInt ≤ 200 := by rw [hy_3]; omega
  obtain ⟨y_4, hy_4⟩ : ∃ y : Int32, y = x_1 := ⟨_, rfl⟩
  have b_y_4 := i3_bd y_4
  replace hl : lv_has ls 4 [(3, .int y_3), (2, .int y_4), (0, .ref o_n), (1, .int p1)] := by rw [hy_3, hy_4]; exact hl
  clear hy_3 hy_4
  obtain ⟨d_5, hd_5⟩ : ∃ d : Nat, 200 - y_3.toInt < (d : Int) := ⟨(200 - y_3.toInt + 1).toNat, by omega⟩
  induction d_5 generalizing y_3 y_4 H locs ls with
  | zero => exfalso; omega
  | succ d_5 ih_d_5 =>
    refine lv_iload_n hx hb dX1_loadOf_14 rfl (lv_at hl 0 rfl) ?_
    refine lv_aload_n hx hb dX1_loadOf_15 rfl (lv_at hl 2 rfl) ?_
    refine va_get (D := E.1) (ci := 1) (v := .ref a_n_firstTaker) (own := RX1) (C := RX1) (T := TX1) (N := 13) hx hb hts i_q_loadOf_X1 hown hK hP 0 rfl rfl 8 (by decide) (hto (.fieldLink RX1 33 "TimingHouse$Net" "firstTaker" "[I") (by decide +kernel)) (fun _ h9 => h9) rfl dX1_loadOf_16 ?_
    refine lv_iload_n hx hb dX1_loadOf_19 rfl (lv_at hl 3 rfl) ?_
    refine lv_iconst (v := 1) hx hb dX1_loadOf_20 (by decide) ?_
    refine lv_iadd hx hb dX1_loadOf_21 ?_
    refine lv_topi (fun x_6 ex_6 => ?_)
    have tx_6 : x_6.toInt = p1.toInt + 1 := i3_addc rfl rfl ex_6 (by omega)
    refine ld_i hx hb hK hP 2 rfl (by omega) dX1_loadOf_22 (fun x_7 ex_7 => ?_)
    have b_x_7 := AR.rd i_g_n_firstTaker ex_7 (by omega)
    refine lv_icmp_ge (tgt := 50) hx hb dX1_loadOf_23 (by decide) (fun c_8 => ?_) (fun c_8 => ?_)
    · have e_8 : x_7.toInt ≤ y_3.toInt := i3_le c_8
      refine lv_iload_n hx hb dX1_loadOf_50 rfl (lv_at hl 1 rfl) ?_
      exact ret_i hx hb hr hlk (hP.sub (ws' := [(o_n, .inr (1, [.int f_n_cells, .ref a_n_kinds, .ref a_n_inputs, .ref a_n_tables, .ref a_n_sizes, .ref a_n_extras, .ref a_n_sources, .ref a_n_takers, .ref a_n_firstTaker, .ref a_n_order, .int f_n_ordered, .ref a_n_tally, .ref a_n_behind])), (a_n_extras, aI E 50 g_n_extras), (a_n_firstTaker, aI E 51 g_n_firstTaker), (a_n_takers, aI E 200 g_n_takers), (a_n_sizes, aI E 50 g_n_sizes)]) [0, 1, 2, 3, 4] rfl) (hD.sub (ws' := [(o_n, .inr (1, [.int f_n_cells, .ref a_n_kinds, .ref a_n_inputs, .ref a_n_tables, .ref a_n_sizes, .ref a_n_extras, .ref a_n_sources, .ref a_n_takers, .ref a_n_firstTaker, .ref a_n_order, .int f_n_ordered, .ref a_n_tally, .ref a_n_behind])), (a_n_extras, aI E 50 g_n_extras), (a_n_firstTaker, aI E 51 g_n_firstTaker), (a_n_takers, aI E 200 g_n_takers), (a_n_sizes, aI E 50 g_n_sizes)]) [0, 1, 2, 3, 4] (by decide) rfl) hS rfl dX1_loadOf_51 (Nat.le_of_ble_eq_true rfl) (Nat.le_of_ble_eq_true rfl) ⟨trivial, rfl⟩
    · have e_8 : y_3.toInt < x_7.toInt := i3_nle c_8
      refine lv_iload_n hx hb dX1_loadOf_26 rfl (lv_at hl 1 rfl) ?_
      refine lv_iconst (v := 1) hx hb dX1_loadOf_27 (by decide) ?_
      refine lv_aload_n hx hb dX1_loadOf_28 rfl (lv_at hl 2 rfl) ?_
      refine va_get (D := E.1) (ci := 1) (v := .ref a_n_sizes) (own := RX1) (C := RX1) (T := TX1) (N := 13) hx hb hts i_q_loadOf_X1 hown hK hP 0 rfl rfl 4 (by decide) (hto (.fieldLink RX1 21 "TimingHouse$Net" "sizes" "[I") (by decide +kernel)) (fun _ h9 => h9) rfl dX1_loadOf_29 ?_
      refine lv_aload_n hx hb dX1_loadOf_32 rfl (lv_at hl 2 rfl) ?_
      refine va_get (D := E.1) (ci := 1) (v := .ref a_n_takers) (own := RX1) (C := RX1) (T := TX1) (N := 13) hx hb hts i_q_loadOf_X1 hown hK hP 0 rfl rfl 7 (by decide) (hto (.fieldLink RX1 30 "TimingHouse$Net" "takers" "[I") (by decide +kernel)) (fun _ h9 => h9) rfl dX1_loadOf_33 ?_
      refine lv_iload_n hx hb dX1_loadOf_36 rfl (lv_at hl 0 rfl) ?_
      refine ld_i hx hb hK hP 3 rfl (by omega) dX1_loadOf_37 (fun x_9 ex_9 => ?_)
      have b_x_9 := AR.rd i_g_n_takers ex_9 (by omega)
      refine lv_iconst (v := 4) hx hb dX1_loadOf_38 (by decide) ?_
      refine lv_idiv hx hb dX1_loadOf_39 (by decide) ?_
      refine lv_topi (fun x_10 ex_10 => ?_)
      have tx_10 : x_10.toInt = x_9.toInt / 4 := i3_divc rfl rfl ex_10 (by omega) (by decide)
      refine ld_i hx hb hK hP 4 rfl (by omega) dX1_loadOf_40 (fun x_11 ex_11 => ?_)
      have b_x_11 := AR.rd i_g_n_sizes ex_11 (by omega)
      refine lv_iadd hx hb dX1_loadOf_41 ?_
      refine lv_topi (fun x_12 ex_12 => ?_)
      have tx_12 : x_12.toInt = 1 + x_11.toInt := i3_addc rfl rfl ex_12 (by omega)
      refine lv_iadd hx hb dX1_loadOf_42 ?_
      refine lv_topi (fun x_13 ex_13 => ?_)
      refine lv_istore_n (lv' := [(2, .int x_13), (3, .int y_3), (0, .ref o_n), (1, .int p1)]) hx hb dX1_loadOf_43 rfl hl (by decide) rfl (fun ls hl => ?_)
      obtain ⟨x_14, ex_14⟩ : ∃ y : Int32, y = y_3 + 1 := ⟨_, rfl⟩
      have tx_14 : x_14.toInt = y_3.toInt + 1 := i3_addc rfl rfl ex_14 (by omega)
      refine lv_iinc (v := x_14) (lv' := [(3, .int x_14), (2, .int x_13), (0, .ref o_n), (1, .int p1)]) hx hb dX1_loadOf_44 hl (k := 1) rfl (by rw [ex_14]; rfl) (by decide) rfl (fun ls hl => ?_)
      refine lv_goto (tgt := 14) hx hb dX1_loadOf_47 (by decide) ?_
      have bd_15 := i3_bd x_13
      apply ih_d_5 (y_3 := x_14) (y_4 := x_13) (H := H) (locs := locs) (ls := ls) <;> first | assumption | omega | decide
theorem dX1_wouldRing_0 : decode cX1_wouldRing 0 = .ok (.aload_n 0, 1) := by decide +kernel
theorem dX1_wouldRing_1 : decode cX1_wouldRing 1 = .ok (.iload_n 1, 1) := by decide +kernel
theorem dX1_wouldRing_2 : decode cX1_wouldRing 2 = .ok (.invokevirtual 66, 3) := by decide +kernel
theorem dX1_wouldRing_5 : decode cX1_wouldRing 5 = .ok (.ifCond .eq 11, 3) := by decide +kernel
theorem dX1_wouldRing_16 : decode cX1_wouldRing 16 = .ok (.iconst 0, 1) := by decide +kernel
theorem dX1_wouldRing_17 : decode cX1_wouldRing 17 = .ok (.ireturn, 1) := by decide +kernel
theorem dX1_wouldRing_8 : decode cX1_wouldRing 8 = .ok (.aload_n 0, 1) := by decide +kernel
theorem dX1_wouldRing_9 : decode cX1_wouldRing 9 = .ok (.iload_n 2, 1) := by decide +kernel
theorem dX1_wouldRing_10 : decode cX1_wouldRing 10 = .ok (.invokevirtual 66, 3) := by decide +kernel
theorem dX1_wouldRing_13 : decode cX1_wouldRing 13 = .ok (.ifCond .ne 5, 3) := by decide +kernel
theorem dX1_wouldRing_18 : decode cX1_wouldRing 18 = .ok (.iconst 0, 1) := by decide +kernel
theorem dX1_wouldRing_19 : decode cX1_wouldRing 19 = .ok (.istore_n 3, 1) := by decide +kernel
theorem dX1_wouldRing_20 : decode cX1_wouldRing 20 = .ok (.iload_n 3, 1) := by decide +kernel
theorem dX1_wouldRing_21 : decode cX1_wouldRing 21 = .ok (.aload_n 0, 1) := by decide +kernel
theorem dX1_wouldRing_22 : decode cX1_wouldRing 22 = .ok (.getfield 52, 3) := by decide +kernel
theorem dX1_wouldRing_25 : decode cX1_wouldRing 25 = .ok (.if_icmp .ge 25, 3) := by decide +kernel
theorem dX1_wouldRing_50 : decode cX1_wouldRing 50 = .ok (.iconst 0, 1) := by decide +kernel
theorem dX1_wouldRing_51 : decode cX1_wouldRing 51 = .ok (.istore_n 3, 1) := by decide +kernel
theorem dX1_wouldRing_52 : decode cX1_wouldRing 52 = .ok (.iload_n 3, 1) := by decide +kernel
theorem dX1_wouldRing_53 : decode cX1_wouldRing 53 = .ok (.aload_n 0, 1) := by decide +kernel
theorem dX1_wouldRing_54 : decode cX1_wouldRing 54 = .ok (.getfield 69, 3) := by decide +kernel
theorem dX1_wouldRing_57 : decode cX1_wouldRing 57 = .ok (.if_icmp .ge 79, 3) := by decide +kernel
theorem dX1_wouldRing_136 : decode cX1_wouldRing 136 = .ok (.aload_n 0, 1) := by decide +kernel
theorem dX1_wouldRing_137 : decode cX1_wouldRing 137 = .ok (.getfield 42, 3) := by decide +kernel
theorem dX1_wouldRing_140 : decode cX1_wouldRing 140 = .ok (.iload_n 1, 1) := by decide +kernel
theorem dX1_wouldRing_141 : decode cX1_wouldRing 141 = .ok (.baload, 1) := by decide +kernel
theorem dX1_wouldRing_142 : decode cX1_wouldRing 142 = .ok (.ireturn, 1) := by decide +kernel
theorem dX1_wouldRing_60 : decode cX1_wouldRing 60 = .ok (.aload_n 0, 1) := by decide +kernel
theorem dX1_wouldRing_61 : decode cX1_wouldRing 61 = .ok (.getfield 36, 3) := by decide +kernel
theorem dX1_wouldRing_64 : decode cX1_wouldRing 64 = .ok (.iload_n 3, 1) := by decide +kernel
theorem dX1_wouldRing_65 : decode cX1_wouldRing 65 = .ok (.iaload, 1) := by decide +kernel
theorem dX1_wouldRing_66 : decode cX1_wouldRing 66 = .ok (.istore 4, 2) := by decide +kernel
theorem dX1_wouldRing_68 : decode cX1_wouldRing 68 = .ok (.iload 4, 2) := by decide +kernel
theorem dX1_wouldRing_70 : decode cX1_wouldRing 70 = .ok (.iconst 4, 1) := by decide +kernel
theorem dX1_wouldRing_71 : decode cX1_wouldRing 71 = .ok (.imul, 1) := by decide +kernel
theorem dX1_wouldRing_72 : decode cX1_wouldRing 72 = .ok (.istore 5, 2) := by decide +kernel
theorem dX1_wouldRing_74 : decode cX1_wouldRing 74 = .ok (.iload 5, 2) := by decide +kernel
theorem dX1_wouldRing_76 : decode cX1_wouldRing 76 = .ok (.iload 4, 2) := by decide +kernel
theorem dX1_wouldRing_78 : decode cX1_wouldRing 78 = .ok (.iconst 4, 1) := by decide +kernel
theorem dX1_wouldRing_79 : decode cX1_wouldRing 79 = .ok (.imul, 1) := by decide +kernel
theorem dX1_wouldRing_80 : decode cX1_wouldRing 80 = .ok (.aload_n 0, 1) := by decide +kernel
theorem dX1_wouldRing_81 : decode cX1_wouldRing 81 = .ok (.getfield 15, 3) := by decide +kernel
theorem dX1_wouldRing_84 : decode cX1_wouldRing 84 = .ok (.iload 4, 2) := by decide +kernel
theorem dX1_wouldRing_86 : decode cX1_wouldRing 86 = .ok (.iaload, 1) := by decide +kernel
theorem dX1_wouldRing_87 : decode cX1_wouldRing 87 = .ok (.iadd, 1) := by decide +kernel
theorem dX1_wouldRing_88 : decode cX1_wouldRing 88 = .ok (.if_icmp .ge 42, 3) := by decide +kernel
theorem dX1_wouldRing_130 : decode cX1_wouldRing 130 = .ok (.iinc 3 1, 3) := by decide +kernel
theorem dX1_wouldRing_133 : decode cX1_wouldRing 133 = .ok (.goto (-81), 3) := by decide +kernel
theorem dX1_wouldRing_91 : decode cX1_wouldRing 91 = .ok (.aload_n 0, 1) := by decide +kernel
theorem dX1_wouldRing_92 : decode cX1_wouldRing 92 = .ok (.getfield 27, 3) := by decide +kernel
theorem dX1_wouldRing_95 : decode cX1_wouldRing 95 = .ok (.iload 5, 2) := by decide +kernel
theorem dX1_wouldRing_97 : decode cX1_wouldRing 97 = .ok (.iaload, 1) := by decide +kernel
theorem dX1_wouldRing_98 : decode cX1_wouldRing 98 = .ok (.ifCond .lt 26, 3) := by decide +kernel
theorem dX1_wouldRing_124 : decode cX1_wouldRing 124 = .ok (.iinc 5 1, 3) := by decide +kernel
theorem dX1_wouldRing_127 : decode cX1_wouldRing 127 = .ok (.goto (-53), 3) := by decide +kernel
theorem dX1_wouldRing_101 : decode cX1_wouldRing 101 = .ok (.aload_n 0, 1) := by decide +kernel
theorem dX1_wouldRing_102 : decode cX1_wouldRing 102 = .ok (.getfield 42, 3) := by decide +kernel
theorem dX1_wouldRing_105 : decode cX1_wouldRing 105 = .ok (.aload_n 0, 1) := by decide +kernel
theorem dX1_wouldRing_106 : decode cX1_wouldRing 106 = .ok (.getfield 27, 3) := by decide +kernel
theorem dX1_wouldRing_109 : decode cX1_wouldRing 109 = .ok (.iload 5, 2) := by decide +kernel
theorem dX1_wouldRing_111 : decode cX1_wouldRing 111 = .ok (.iaload, 1) := by decide +kernel
theorem dX1_wouldRing_112 : decode cX1_wouldRing 112 = .ok (.baload, 1) := by decide +kernel
theorem dX1_wouldRing_113 : decode cX1_wouldRing 113 = .ok (.ifCond .eq 11, 3) := by decide +kernel
theorem dX1_wouldRing_116 : decode cX1_wouldRing 116 = .ok (.aload_n 0, 1) := by decide +kernel
theorem dX1_wouldRing_117 : decode cX1_wouldRing 117 = .ok (.getfield 42, 3) := by decide +kernel
theorem dX1_wouldRing_120 : decode cX1_wouldRing 120 = .ok (.iload 4, 2) := by decide +kernel
theorem dX1_wouldRing_122 : decode cX1_wouldRing 122 = .ok (.iconst 1, 1) := by decide +kernel
theorem dX1_wouldRing_123 : decode cX1_wouldRing 123 = .ok (.bastore, 1) := by decide +kernel
theorem dX1_wouldRing_28 : decode cX1_wouldRing 28 = .ok (.aload_n 0, 1) := by decide +kernel
theorem dX1_wouldRing_29 : decode cX1_wouldRing 29 = .ok (.getfield 42, 3) := by decide +kernel
theorem dX1_wouldRing_32 : decode cX1_wouldRing 32 = .ok (.iload_n 3, 1) := by decide +kernel
theorem dX1_wouldRing_33 : decode cX1_wouldRing 33 = .ok (.iload_n 3, 1) := by decide +kernel
theorem dX1_wouldRing_34 : decode cX1_wouldRing 34 = .ok (.iload_n 2, 1) := by decide +kernel
theorem dX1_wouldRing_35 : decode cX1_wouldRing 35 = .ok (.if_icmp .ne 7, 3) := by decide +kernel
theorem dX1_wouldRing_42 : decode cX1_wouldRing 42 = .ok (.iconst 0, 1) := by decide +kernel
theorem dX1_wouldRing_43 : decode cX1_wouldRing 43 = .ok (.bastore, 1) := by decide +kernel
theorem dX1_wouldRing_44 : decode cX1_wouldRing 44 = .ok (.iinc 3 1, 3) := by decide +kernel
theorem dX1_wouldRing_47 : decode cX1_wouldRing 47 = .ok (.goto (-27), 3) := by decide +kernel
theorem dX1_wouldRing_38 : decode cX1_wouldRing 38 = .ok (.iconst 1, 1) := by decide +kernel
theorem dX1_wouldRing_39 : decode cX1_wouldRing 39 = .ok (.goto 4, 3) := by decide +kernel
def wo_q_wouldRing : List Cond := [.code yX1_wouldRing cX1_wouldRing 6 (some .boolean), .methodLink RX1 66 yX1_isGate, .instanceMethod yX1_isGate, .selects RX1 yX1_isGate yX1_isGate, .initialized RX1, .fieldLink RX1 52 "TimingHouse$Net" "cells" "I", .fieldLink RX1 69 "TimingHouse$Net" "ordered" "I", .fieldLink RX1 42 "TimingHouse$Net" "behind" "[Z", .fieldLink RX1 36 "TimingHouse$Net" "order" "[I", .fieldLink RX1 15 "TimingHouse$Net" "inputs" "[I", .fieldLink RX1 27 "TimingHouse$Net" "sources" "[I"]
def wr_q_wouldRing : List Cond := (wsX10 ++ (w_q_isGate ++ ([])))
def w_q_wouldRing : List Cond := wo_q_wouldRing ++ wr_q_wouldRing
theorem wg_q_wouldRing : GW w_q_wouldRing := GW_app (GW_of (by decide +kernel)) (GW_app (GW_of (by decide +kernel)) (GW_app (wg_q_isGate) (GW_nil)))
theorem i_q_wouldRing_X1 : ∀ w ∈ wsX10, w ∈ w_q_wouldRing := fun _ h => List.mem_append_right _ (List.mem_append_left _ h)
theorem g_q_wouldRing_q_isGate_66 : GoodIn w_q_wouldRing (wsV RX1 66 RX1 yX1_isGate w_q_isGate) := goodIn_app (gi_left (goodIn_of _ (by decide +kernel))) (fun w h => ⟨List.mem_append_right _ (List.mem_append_right _ (List.mem_append_left _ h)), wg_q_isGate w h⟩)
set_option maxHeartbeats 8000000 in
set_option maxRecDepth 100000 in
theorem q_wouldRing (l : Launch) (E : gE) (o_n a_n_kinds a_n_inputs a_n_tables a_n_sizes a_n_extras a_n_sources a_n_takers a_n_firstTaker a_n_order a_n_tally a_n_behind : Nat) (f_n_cells f_n_ordered p1 p2 : Int32) (g_n_kinds : Nat → Int32) (g_n_behind : Nat → Int32) (g_n_order : Nat → Int32) (g_n_inputs : Nat → Int32) (g_n_sources : Nat → Int32) (r_f_n_cells : RG f_n_cells 0 50) (r_f_n_ordered : RG f_n_ordered 0 50) (i_g_n_kinds : AR g_n_kinds 50 0 5) (i_g_n_behind : AR g_n_behind 50 0 1) (i_g_n_order : AR g_n_order 50 0 49) (i_g_n_inputs : AR g_n_inputs 50 0 4) (i_g_n_sources : AR g_n_sources 200 (-5) 49) (r_p1 : RG p1 0 49) (r_p2 : RG p2 0 49) : CtI l E yX1_wouldRing w_q_wouldRing ({ frames := 2, cells := 0, slots := 0, locals := 41 }) [(o_n, .inr (1, [.int f_n_cells, .ref a_n_kinds, .ref a_n_inputs, .ref a_n_tables, .ref a_n_sizes, .ref a_n_extras, .ref a_n_sources, .ref a_n_takers, .ref a_n_firstTaker, .ref a_n_order, .int f_n_ordered, .ref a_n_tally, .ref a_n_behind])), (a_n_kinds, aI E 50 g_n_kinds), (a_n_behind, aZ E 50 g_n_behind), (a_n_order, aI E 50 g_n_order), (a_n_inputs, aI E 50 g_n_inputs), (a_n_sources, aI E 200 g_n_sources)] [.ref o_n, .int p1, .int p2] (fun r w => (0 ≤ r.toInt ∧ r.toInt ≤ 1) ∧ ∃ ng_n_behind : Nat → Int32, AR ng_n_behind 50 0 1 ∧ w = [(o_n, .inr (1, [.int f_n_cells, .ref a_n_kinds, .ref a_n_inputs, .ref a_n_tables, .ref a_n_sizes, .ref a_n_extras, .ref a_n_sources, .ref a_n_takers, .ref a_n_firstTaker, .ref a_n_order, .int f_n_ordered, .ref a_n_tally, .ref a_n_behind])), (a_n_kinds, aI E 50 g_n_kinds), (a_n_behind, aZ E 50 ng_n_behind), (a_n_order, aI E 50 g_n_order), (a_n_inputs, aI E 50 g_n_inputs), (a_n_sources, aI E 200 g_n_sources)]) := by
  refine CtI.of (cc := cX1_wouldRing) (maxL := 6) (rt := (some .boolean)) (by decide) rfl (Nat.le_of_ble_eq_true rfl) ?_
  intro p e s m below meth c A B ls hl
  obtain ⟨hx, hb, hml, hr, hlk, hin, hts, hown, hK, hN, hZ, hA, hP, hD, hS⟩ := B
  replace hown : s.vm.findClass RX1 = some m.cls := hown
  have hto : ∀ w ∈ wo_q_wouldRing, w.before _ s = true := fun w h => hts w (List.mem_append_left _ h)
  replace hl : lv_has ls 6 [(0, .ref o_n), (1, .int p1), (2, .int p2)] := hl
  obtain ⟨H, hHe⟩ : ∃ H, H = s.heap := ⟨_, rfl⟩
  obtain ⟨locs, hle⟩ : ∃ l : List Loc, l = [] := ⟨_, rfl⟩
  replace hS : va_S A s.heap H locs := by rw [hHe, hle]; exact hS
  replace hP : va_P E.1 vwCl [(o_n, .inr (1, [.int f_n_cells, .ref a_n_kinds, .ref a_n_inputs, .ref a_n_tables, .ref a_n_sizes, .ref a_n_extras, .ref a_n_sources, .ref a_n_takers, .ref a_n_firstTaker, .ref a_n_order, .int f_n_ordered, .ref a_n_tally, .ref a_n_behind])), (a_n_kinds, aI E 50 g_n_kinds), (a_n_behind, aZ E 50 g_n_behind), (a_n_order, aI E 50 g_n_order), (a_n_inputs, aI E 50 g_n_inputs), (a_n_sources, aI E 200 g_n_sources)] H := by rw [hHe]; exact hP
  refine W_hl hHe hle ?_
  clear hHe hle
  refine lv_aload_n hx hb dX1_wouldRing_0 rfl (lv_at hl 0 rfl) ?_
  refine lv_iload_n hx hb dX1_wouldRing_1 rfl (lv_at hl 1 rfl) ?_
  have b_p1 := r_p1.out
  refine call_i (va_runV (As := [.int p1]) (rest := []) ⟨hx, hb, hml, hown, hts⟩ (q_isGate l E o_n a_n_kinds a_n_inputs a_n_tables a_n_sizes a_n_extras a_n_sources a_n_takers a_n_firstTaker a_n_order a_n_tally a_n_behind f_n_cells f_n_ordered p1 g_n_kinds r_f_n_cells r_f_n_ordered i_g_n_kinds r_p1 H.size) (cwV 1 hts g_q_wouldRing_q_isGate_66 rfl rfl rfl (by decide +kernel) ⟨Nat.le_of_ble_eq_true rfl, Nat.le_of_ble_eq_true rfl⟩) (pre_V hK hN hZ hS (va_free hD hS hA [0, 1] rfl) (hP.sub (ws' := [(o_n, .inr (1, [.int f_n_cells, .ref a_n_kinds, .ref a_n_inputs, .ref a_n_tables, .ref a_n_sizes, .ref a_n_extras, .ref a_n_sources, .ref a_n_takers, .ref a_n_firstTaker, .ref a_n_order, .int f_n_ordered, .ref a_n_tally, .ref a_n_behind])), (a_n_kinds, aI E 50 g_n_kinds)]) [0, 1] rfl) (hD.sub (ws' := [(o_n, .inr (1, [.int f_n_cells, .ref a_n_kinds, .ref a_n_inputs, .ref a_n_tables, .ref a_n_sizes, .ref a_n_extras, .ref a_n_sources, .ref a_n_takers, .ref a_n_firstTaker, .ref a_n_order, .int f_n_ordered, .ref a_n_tally, .ref a_n_behind])), (a_n_kinds, aI E 50 g_n_kinds)]) [0, 1] (by decide) rfl) (ci := 1) (q0 := 0) rfl rfl) rfl rfl hl.1 rfl (lv_room (Nat.le_of_ble_eq_true rfl)) dX1_wouldRing_2 ⟨Nat.le_of_ble_eq_true rfl, Nat.le_of_ble_eq_true rfl⟩) hP hD hS hA [0, 1] [2, 3, 4, 5] (wr := [(a_n_behind, aZ E 50 g_n_behind), (a_n_order, aI E 50 g_n_order), (a_n_inputs, aI E 50 g_n_inputs), (a_n_sources, aI E 200 g_n_sources)]) rfl rfl (by decide) (by decide) (fun r_1 w H locs hw hP hD hS => ?_)
  obtain ⟨b_r_1, rfl⟩ := hw
  replace hP : va_P E.1 vwCl [(a_n_behind, aZ E 50 g_n_behind), (a_n_order, aI E 50 g_n_order), (a_n_inputs, aI E 50 g_n_inputs), (a_n_sources, aI E 200 g_n_sources), (o_n, .inr (1, [.int f_n_cells, .ref a_n_kinds, .ref a_n_inputs, .ref a_n_tables, .ref a_n_sizes, .ref a_n_extras, .ref a_n_sources, .ref a_n_takers, .ref a_n_firstTaker, .ref a_n_order, .int f_n_ordered, .ref a_n_tally, .ref a_n_behind])), (a_n_kinds, aI E 50 g_n_kinds)] H := hP
  replace hD : va_D A [(a_n_behind, aZ E 50 g_n_behind), (a_n_order, aI E 50 g_n_order), (a_n_inputs, aI E 50 g_n_inputs), (a_n_sources, aI E 200 g_n_sources), (o_n, .inr (1, [.int f_n_cells, .ref a_n_kinds, .ref a_n_inputs, .ref a_n_tables, .ref a_n_sizes, .ref a_n_extras, .ref a_n_sources, .ref a_n_takers, .ref a_n_firstTaker, .ref a_n_order, .int f_n_ordered, .ref a_n_tally, .ref a_n_behind])), (a_n_kinds, aI E 50 g_n_kinds)] := hD
  refine lv_if_eq (tgt := 16) hx hb dX1_wouldRing_5 (by decide) (fun c_2 => ?_) (fun c_2 => ?_)
  · have e_2 : r_1.toInt = 0 := i3_eq c_2
    refine lv_iconst (v := 0) hx hb dX1_wouldRing_16 (by decide) ?_
    exact ret_i hx hb hr hlk (hP.sub (ws' := [(o_n, .inr (1, [.int f_n_cells, .ref a_n_kinds, .ref a_n_inputs, .ref a_n_tables, .ref a_n_sizes, .ref a_n_extras, .ref a_n_sources, .ref a_n_takers, .ref a_n_firstTaker, .ref a_n_order, .int f_n_ordered, .ref a_n_tally, .ref a_n_behind])), (a_n_kinds, aI E 50 g_n_kinds), (a_n_behind, aZ E 50 g_n_behind), (a_n_order, aI E 50 g_n_order), (a_n_inputs, aI E 50 g_n_inputs), (a_n_sources, aI E 200 g_n_sources)]) [4, 5, 0, 1, 2, 3] rfl) (hD.sub (ws' := [(o_n, .inr (1, [.int f_n_cells, .ref a_n_kinds, .ref a_n_inputs, .ref a_n_tables, .ref a_n_sizes, .ref a_n_extras, .ref a_n_sources, .ref a_n_takers, .ref a_n_firstTaker, .ref a_n_order, .int f_n_ordered, .ref a_n_tally, .ref a_n_behind])), (a_n_kinds, aI E 50 g_n_kinds), (a_n_behind, aZ E 50 g_n_behind), (a_n_order, aI E 50 g_n_order), (a_n_inputs, aI E 50 g_n_inputs), (a_n_sources, aI E 200 g_n_sources)]) [4, 5, 0, 1, 2, 3] (by decide) rfl) hS rfl dX1_wouldRing_17 (Nat.le_of_ble_eq_true rfl) (Nat.le_of_ble_eq_true rfl) ⟨(by decide), g_n_behind, i_g_n_behind, rfl⟩
  · have e_2 : r_1.toInt ≠ 0 := i3_ne c_2
    refine lv_aload_n hx hb dX1_wouldRing_8 rfl (lv_at hl 0 rfl) ?_
    refine lv_iload_n hx hb dX1_wouldRing_9 rfl (lv_at hl 2 rfl) ?_
    have b_p2 := r_p2.out
    refine call_i (va_runV (As := [.int p2]) (rest := []) ⟨hx, hb, hml, hown, hts⟩ (q_isGate l E o_n a_n_kinds a_n_inputs a_n_tables a_n_sizes a_n_extras a_n_sources a_n_takers a_n_firstTaker a_n_order a_n_tally a_n_behind f_n_cells f_n_ordered p2 g_n_kinds r_f_n_cells r_f_n_ordered i_g_n_kinds r_p2 H.size) (cwV 1 hts g_q_wouldRing_q_isGate_66 rfl rfl rfl (by decide +kernel) ⟨Nat.le_of_ble_eq_true rfl, Nat.le_of_ble_eq_true rfl⟩) (pre_V hK hN hZ hS (va_free hD hS hA [4, 5] rfl) (hP.sub (ws' := [(o_n, .inr (1, [.int f_n_cells, .ref a_n_kinds, .ref a_n_inputs, .ref a_n_tables, .ref a_n_sizes, .ref a_n_extras, .ref a_n_sources, .ref a_n_takers, .ref a_n_firstTaker, .ref a_n_order, .int f_n_ordered, .ref a_n_tally, .ref a_n_behind])), (a_n_kinds, aI E 50 g_n_kinds)]) [4, 5] rfl) (hD.sub (ws' := [(o_n, .inr (1, [.int f_n_cells, .ref a_n_kinds, .ref a_n_inputs, .ref a_n_tables, .ref a_n_sizes, .ref a_n_extras, .ref a_n_sources, .ref a_n_takers, .ref a_n_firstTaker, .ref a_n_order, .int f_n_ordered, .ref a_n_tally, .ref a_n_behind])), (a_n_kinds, aI E 50 g_n_kinds)]) [4, 5] (by decide) rfl) (ci := 1) (q0 := 0) rfl rfl) rfl rfl hl.1 rfl (lv_room (Nat.le_of_ble_eq_true rfl)) dX1_wouldRing_10 ⟨Nat.le_of_ble_eq_true rfl, Nat.le_of_ble_eq_true rfl⟩) hP hD hS hA [4, 5] [0, 1, 2, 3] (wr := [(a_n_behind, aZ E 50 g_n_behind), (a_n_order, aI E 50 g_n_order), (a_n_inputs, aI E 50 g_n_inputs), (a_n_sources, aI E 200 g_n_sources)]) rfl rfl (by decide) (by decide) (fun r_3 w H locs hw hP hD hS => ?_)
    obtain ⟨b_r_3, rfl⟩ := hw
    replace hP : va_P E.1 vwCl [(a_n_behind, aZ E 50 g_n_behind), (a_n_order, aI E 50 g_n_order), (a_n_inputs, aI E 50 g_n_inputs), (a_n_sources, aI E 200 g_n_sources), (o_n, .inr (1, [.int f_n_cells, .ref a_n_kinds, .ref a_n_inputs, .ref a_n_tables, .ref a_n_sizes, .ref a_n_extras, .ref a_n_sources, .ref a_n_takers, .ref a_n_firstTaker, .ref a_n_order, .int f_n_ordered, .ref a_n_tally, .ref a_n_behind])), (a_n_kinds, aI E 50 g_n_kinds)] H := hP
    replace hD : va_D A [(a_n_behind, aZ E 50 g_n_behind), (a_n_order, aI E 50 g_n_order), (a_n_inputs, aI E 50 g_n_inputs), (a_n_sources, aI E 200 g_n_sources), (o_n, .inr (1, [.int f_n_cells, .ref a_n_kinds, .ref a_n_inputs, .ref a_n_tables, .ref a_n_sizes, .ref a_n_extras, .ref a_n_sources, .ref a_n_takers, .ref a_n_firstTaker, .ref a_n_order, .int f_n_ordered, .ref a_n_tally, .ref a_n_behind])), (a_n_kinds, aI E 50 g_n_kinds)] := hD
    refine lv_if_ne (tgt := 18) hx hb dX1_wouldRing_13 (by decide) (fun c_4 => ?_) (fun c_4 => ?_)
    · have e_4 : r_3.toInt ≠ 0 := i3_ne c_4
      refine lv_iconst (v := 0) hx hb dX1_wouldRing_18 (by decide) ?_
      refine lv_istore_n (lv' := [(3, .int 0), (0, .ref o_n), (1, .int p1), (2, .int p2)]) hx hb dX1_wouldRing_19 rfl hl (by decide) rfl (fun ls hl => ?_)
      obtain ⟨y_5, hy_5⟩ : ∃ y : Int32, y = 0 := ⟨_, rfl⟩
      have b_y_5 : 0 ≤ y_5.toInt ∧ y_5.toInt ≤ 50 := by rw [hy_5]; decide
      replace hl : lv_has ls 6 [(3, .int y_5), (0, .ref o_n), (1, .int p1), (2, .int p2)] := by rw [hy_5]; exact hl
      obtain ⟨y_6, hy_6⟩ : ∃ g : Nat → Int32, g = g_n_behind := ⟨_, rfl⟩
      have i_y_6 : AR y_6 50 0 1 := by rw [hy_6]; exact i_g_n_behind
      replace hP : va_P E.1 vwCl [(a_n_behind, aZ E 50 y_6), (a_n_order, aI E 50 g_n_order), (a_n_inputs, aI E 50 g_n_inputs), (a_n_sources, aI E 200 g_n_sources), (o_n, .inr (1, [.int f_n_cells, .ref a_n_kinds, .ref a_n_inputs, .ref a_n_tables, .ref a_n_sizes, .ref a_n_extras, .ref a_n_sources, .ref a_n_takers, .ref a_n_firstTaker, .ref a_n_order, .int f_n_ordered, .ref a_n_tally, .ref a_n_behind])), (a_n_kinds, aI E 50 g_n_kinds)] H := by rw [hy_6]; exact hP
      replace hD : va_D A [(a_n_behind, aZ E 50 y_6), (a_n_order, aI E 50 g_n_order), (a_n_inputs, aI E 50 g_n_inputs), (a_n_sources, aI E 200 g_n_sources), (o_n, .inr (1, [.int f_n_cells, .ref a_n_kinds, .ref a_n_inputs, .ref a_n_tables, .ref a_n_sizes, .ref a_n_extras, .ref a_n_sources, .ref a_n_takers, .ref a_n_firstTaker, .ref a_n_order, .int f_n_ordered, .ref a_n_tally, .ref a_n_behind])), (a_n_kinds, aI E 50 g_n_kinds)] := by rw [hy_6]; exact hD
      clear hy_5 hy_6
      obtain ⟨d_7, hd_7⟩ : ∃ d : Nat, 50 - y_5.toInt < (d : Int) := ⟨(50 - y_5.toInt + 1).toNat, by omega⟩
      induction d_7 generalizing y_5 y_6 H locs ls with
      | zero => exfalso; omega
      | succ d_7 ih_d_7 =>
        refine lv_iload_n hx hb dX1_wouldRing_20 rfl (lv_at hl 0 rfl) ?_
        refine lv_aload_n hx hb dX1_wouldRing_21 rfl (lv_at hl 1 rfl) ?_
        refine va_get (D := E.1) (ci := 1) (v := .int f_n_cells) (own := RX1) (C := RX1) (T := TX1) (N := 13) hx hb hts i_q_wouldRing_X1 hown hK hP 4 rfl rfl 0 (by decide) (hto (.fieldLink RX1 52 "TimingHouse$Net" "cells" "I") (by decide +kernel)) (fun _ h9 => h9) rfl dX1_wouldRing_22 ?_
        have b_f_n_cells := r_f_n_cells.out
        refine lv_icmp_ge (tgt := 50) hx hb dX1_wouldRing_25 (by decide) (fun c_8 => ?_) (fun c_8 => ?_)
        · have e_8 : f_n_cells.toInt ≤ y_5.toInt := i3_le c_8
          refine lv_iconst (v := 0) hx hb dX1_wouldRing_50 (by decide) ?_
          refine lv_istore_n (lv' := [(3, .int 0), (0, .ref o_n), (1, .int p1), (2, .int p2)]) hx hb dX1_wouldRing_51 rfl hl (by decide) rfl (fun ls hl => ?_)
          obtain ⟨y_9, hy_9⟩ : ∃ y : Int32, y = 0 := ⟨_, rfl⟩
          have b_y_9 : 0 ≤ y_9.toInt ∧ y_9.toInt ≤ 50 := by rw [hy_9]; decide
          replace hl : lv_has ls 6 [(3, .int y_9), (0, .ref o_n), (1, .int p1), (2, .int p2)] := by rw [hy_9]; exact hl
          obtain ⟨y_10, hy_10⟩ : ∃ g : Nat → Int32, g = y_6 := ⟨_, rfl⟩
          have i_y_10 : AR y_10 50 0 1 := by rw [hy_10]; exact i_y_6
          replace hP : va_P E.1 vwCl [(a_n_behind, aZ E 50 y_10), (a_n_order, aI E 50 g_n_order), (a_n_inputs, aI E 50 g_n_inputs), (a_n_sources, aI E 200 g_n_sources), (o_n, .inr (1, [.int f_n_cells, .ref a_n_kinds, .ref a_n_inputs, .ref a_n_tables, .ref a_n_sizes, .ref a_n_extras, .ref a_n_sources, .ref a_n_takers, .ref a_n_firstTaker, .ref a_n_order, .int f_n_ordered, .ref a_n_tally, .ref a_n_behind])), (a_n_kinds, aI E 50 g_n_kinds)] H := by rw [hy_10]; exact hP
          replace hD : va_D A [(a_n_behind, aZ E 50 y_10), (a_n_order, aI E 50 g_n_order), (a_n_inputs, aI E 50 g_n_inputs), (a_n_sources, aI E 200 g_n_sources), (o_n, .inr (1, [.int f_n_cells, .ref a_n_kinds, .ref a_n_inputs, .ref a_n_tables, .ref a_n_sizes, .ref a_n_extras, .ref a_n_sources, .ref a_n_takers, .ref a_n_firstTaker, .ref a_n_order, .int f_n_ordered, .ref a_n_tally, .ref a_n_behind])), (a_n_kinds, aI E 50 g_n_kinds)] := by rw [hy_10]; exact hD
          clear hy_9 hy_10
          obtain ⟨d_11, hd_11⟩ : ∃ d : Nat, 50 - y_9.toInt < (d : Int) := ⟨(50 - y_9.toInt + 1).toNat, by omega⟩
          induction d_11 generalizing y_9 y_10 H locs ls with
          | zero => exfalso; omega
          | succ d_11 ih_d_11 =>
            refine lv_iload_n hx hb dX1_wouldRing_52 rfl (lv_at hl 0 rfl) ?_
            refine lv_aload_n hx hb dX1_wouldRing_53 rfl (lv_at hl 1 rfl) ?_
            refine va_get (D := E.1) (ci := 1) (v := .int f_n_ordered) (own := RX1) (C := RX1) (T := TX1) (N := 13) hx hb hts i_q_wouldRing_X1 hown hK hP 4 rfl rfl 10 (by decide) (hto (.fieldLink RX1 69 "TimingHouse$Net" "ordered" "I") (by decide +kernel)) (fun _ h9 => h9) rfl dX1_wouldRing_54 ?_
            have b_f_n_ordered := r_f_n_ordered.out
            refine lv_icmp_ge (tgt := 136) hx hb dX1_wouldRing_57 (by decide) (fun c_12 => ?_) (fun c_12 => ?_)
            · have e_12 : f_n_ordered.toInt ≤ y_9.toInt := i3_le c_12
              refine lv_aload_n hx hb dX1_wouldRing_136 rfl (lv_at hl 1 rfl) ?_
              refine va_get (D := E.1) (ci := 1) (v := .ref a_n_behind) (own := RX1) (C := RX1) (T := TX1) (N := 13) hx hb hts i_q_wouldRing_X1 hown hK hP 4 rfl rfl 12 (by decide) (hto (.fieldLink RX1 42 "TimingHouse$Net" "behind" "[Z") (by decide +kernel)) (fun _ h9 => h9) rfl dX1_wouldRing_137 ?_
              refine lv_iload_n hx hb dX1_wouldRing_140 rfl (lv_at hl 2 rfl) ?_
              refine ld_z hx hb hK hP 0 rfl (by omega) dX1_wouldRing_141 (fun x_13 ex_13 => ?_)
              have b_x_13 := AR.rd i_y_10 ex_13 (by omega)
              exact ret_i hx hb hr hlk (hP.sub (ws' := [(o_n, .inr (1, [.int f_n_cells, .ref a_n_kinds, .ref a_n_inputs, .ref a_n_tables, .ref a_n_sizes, .ref a_n_extras, .ref a_n_sources, .ref a_n_takers, .ref a_n_firstTaker, .ref a_n_order, .int f_n_ordered, .ref a_n_tally, .ref a_n_behind])), (a_n_kinds, aI E 50 g_n_kinds), (a_n_behind, aZ E 50 y_10), (a_n_order, aI E 50 g_n_order), (a_n_inputs, aI E 50 g_n_inputs), (a_n_sources, aI E 200 g_n_sources)]) [4, 5, 0, 1, 2, 3] rfl) (hD.sub (ws' := [(o_n, .inr (1, [.int f_n_cells, .ref a_n_kinds, .ref a_n_inputs, .ref a_n_tables, .ref a_n_sizes, .ref a_n_extras, .ref a_n_sources, .ref a_n_takers, .ref a_n_firstTaker, .ref a_n_order, .int f_n_ordered, .ref a_n_tally, .ref a_n_behind])), (a_n_kinds, aI E 50 g_n_kinds), (a_n_behind, aZ E 50 y_10), (a_n_order, aI E 50 g_n_order), (a_n_inputs, aI E 50 g_n_inputs), (a_n_sources, aI E 200 g_n_sources)]) [4, 5, 0, 1, 2, 3] (by decide) rfl) hS (nb_01 (by omega)) dX1_wouldRing_142 (Nat.le_of_ble_eq_true rfl) (Nat.le_of_ble_eq_true rfl) ⟨(by omega), y_10, i_y_10, rfl⟩
            · have e_12 : y_9.toInt < f_n_ordered.toInt := i3_nle c_12
              refine lv_aload_n hx hb dX1_wouldRing_60 rfl (lv_at hl 1 rfl) ?_
              refine va_get (D := E.1) (ci := 1) (v := .ref a_n_order) (own := RX1) (C := RX1) (T := TX1) (N := 13) hx hb hts i_q_wouldRing_X1 hown hK hP 4 rfl rfl 9 (by decide) (hto (.fieldLink RX1 36 "TimingHouse$Net" "order" "[I") (by decide +kernel)) (fun _ h9 => h9) rfl dX1_wouldRing_61 ?_
              refine lv_iload_n hx hb dX1_wouldRing_64 rfl (lv_at hl 0 rfl) ?_
              refine ld_i hx hb hK hP 1 rfl (by omega) dX1_wouldRing_65 (fun x_14 ex_14 => ?_)
              have b_x_14 := AR.rd i_g_n_order ex_14 (by omega)
              refine lv_istore (lv' := [(4, .int x_14), (3, .int y_9), (0, .ref o_n), (1, .int p1), (2, .int p2)]) hx hb dX1_wouldRing_66 hl (by decide) rfl (fun ls hl => ?_)
              refine lv_iload hx hb dX1_wouldRing_68 (lv_at hl 0 rfl) ?_
              refine lv_iconst (v := 4) hx hb dX1_wouldRing_70 (by decide) ?_
              refine lv_imul hx hb dX1_wouldRing_71 ?_
              refine lv_topi (fun x_15 ex_15 => ?_)
              have tx_15 : x_15.toInt = x_14.toInt * 4 := i3_mulc rfl rfl ex_15 (by omega)
              refine lv_istore (lv' := [(5, .int x_15), (4, .int x_14), (3, .int y_9), (0, .ref o_n), (1, .int p1), (2, .int p2)]) hx hb dX1_wouldRing_72 hl (by decide) rfl (fun ls hl => ?_)
              obtain ⟨y_16, hy_16⟩ : ∃ y : Int32, y = x_15 := ⟨_, rfl⟩
              have b_y_16 : 0 ≤ y_16.toInt ∧ y_16.toInt ≤ 200 := by rw [hy_16]; omega
              replace hl : lv_has ls 6 [(5, .int y_16), (4, .int x_14), (3, .int y_9), (0, .ref o_n), (1, .int p1), (2, .int p2)] := by rw [hy_16]; exact hl
              obtain ⟨y_17, hy_17⟩ : ∃ g : Nat → Int32, g = y_10 := ⟨_, rfl⟩
              have i_y_17 : AR y_17 50 0 1 := by rw [hy_17]; exact i_y_10
              replace hP : va_P E.1 vwCl [(a_n_behind, aZ E 50 y_17), (a_n_order, aI E 50 g_n_order), (a_n_inputs, aI E 50 g_n_inputs), (a_n_sources, aI E 200 g_n_sources), (o_n, .inr (1, [.int f_n_cells, .ref a_n_kinds, .ref a_n_inputs, .ref a_n_tables, .ref a_n_sizes, .ref a_n_extras, .ref a_n_sources, .ref a_n_takers, .ref a_n_firstTaker, .ref a_n_order, .int f_n_ordered, .ref a_n_tally, .ref a_n_behind])), (a_n_kinds, aI E 50 g_n_kinds)] H := by rw [hy_17]; exact hP
              replace hD : va_D A [(a_n_behind, aZ E 50 y_17), (a_n_order, aI E 50 g_n_order), (a_n_inputs, aI E 50 g_n_inputs), (a_n_sources, aI E 200 g_n_sources), (o_n, .inr (1, [.int f_n_cells, .ref a_n_kinds, .ref a_n_inputs, .ref a_n_tables, .ref a_n_sizes, .ref a_n_extras, .ref a_n_sources, .ref a_n_takers, .ref a_n_firstTaker, .ref a_n_order, .int f_n_ordered, .ref a_n_tally, .ref a_n_behind])), (a_n_kinds, aI E 50 g_n_kinds)] := by rw [hy_17]; exact hD
              clear hy_16 hy_17
              obtain ⟨d_18, hd_18⟩ : ∃ d : Nat, 200 - y_16.toInt < (d : Int) := ⟨(200 - y_16.toInt + 1).toNat, by omega⟩
              induction d_18 generalizing y_16 y_17 H locs ls with
              | zero => exfalso; omega
              | succ d_18 ih_d_18 =>
                refine lv_iload hx hb dX1_wouldRing_74 (lv_at hl 0 rfl) ?_
                refine lv_iload hx hb dX1_wouldRing_76 (lv_at hl 1 rfl) ?_
                refine lv_iconst (v := 4) hx hb dX1_wouldRing_78 (by decide) ?_
                refine lv_imul hx hb dX1_wouldRing_79 ?_
                refine lv_topi (fun x_19 ex_19 => ?_)
                have hq_x_19 : x_15 = x_19 := ex_15.trans ex_19.symm
                subst hq_x_19
                refine lv_aload_n hx hb dX1_wouldRing_80 rfl (lv_at hl 3 rfl) ?_
                refine va_get (D := E.1) (ci := 1) (v := .ref a_n_inputs) (own := RX1) (C := RX1) (T := TX1) (N := 13) hx hb hts i_q_wouldRing_X1 hown hK hP 4 rfl rfl 2 (by decide) (hto (.fieldLink RX1 15 "TimingHouse$Net" "inputs" "[I") (by decide +kernel)) (fun _ h9 => h9) rfl dX1_wouldRing_81 ?_
                refine lv_iload hx hb dX1_wouldRing_84 (lv_at hl 1 rfl) ?_
                refine ld_i hx hb hK hP 2 rfl (by omega) dX1_wouldRing_86 (fun x_20 ex_20 => ?_)
                have b_x_20 := AR.rd i_g_n_inputs ex_20 (by omega)
                refine lv_iadd hx hb dX1_wouldRing_87 ?_
                refine lv_topi (fun x_21 ex_21 => ?_)
                have tx_21 : x_21.toInt = x_15.toInt + x_20.toInt := i3_addc rfl rfl ex_21 (by omega)
                refine lv_icmp_ge (tgt := 130) hx hb dX1_wouldRing_88 (by decide) (fun c_22 => ?_) (fun c_22 => ?_)
                · have e_22 : x_21.toInt ≤ y_16.toInt := i3_le c_22
                  obtain ⟨x_23, ex_23⟩ : ∃ y : Int32, y = y_9 + 1 := ⟨_, rfl⟩
                  have tx_23 : x_23.toInt = y_9.toInt + 1 := i3_addc rfl rfl ex_23 (by omega)
                  refine lv_iinc (v := x_23) (lv' := [(3, .int x_23), (5, .int y_16), (4, .int x_14), (0, .ref o_n), (1, .int p1), (2, .int p2)]) hx hb dX1_wouldRing_130 hl (k := 2) rfl (by rw [ex_23]; rfl) (by decide) rfl (fun ls hl => ?_)
                  refine lv_goto (tgt := 52) hx hb dX1_wouldRing_133 (by decide) ?_
                  replace hl : lv_has ls 6 [(3, .int x_23), (0, .ref o_n), (1, .int p1), (2, .int p2)] := lv_sub hl [0, 3, 4, 5] rfl
                  apply ih_d_11 (y_9 := x_23) (y_10 := y_17) (H := H) (locs := locs) (ls := ls) <;> first | assumption | omega | decide
                · have e_22 : y_16.toInt < x_21.toInt := i3_nle c_22
                  refine lv_aload_n hx hb dX1_wouldRing_91 rfl (lv_at hl 3 rfl) ?_
                  refine va_get (D := E.1) (ci := 1) (v := .ref a_n_sources) (own := RX1) (C := RX1) (T := TX1) (N := 13) hx hb hts i_q_wouldRing_X1 hown hK hP 4 rfl rfl 6 (by decide) (hto (.fieldLink RX1 27 "TimingHouse$Net" "sources" "[I") (by decide +kernel)) (fun _ h9 => h9) rfl dX1_wouldRing_92 ?_
                  refine lv_iload hx hb dX1_wouldRing_95 (lv_at hl 0 rfl) ?_
                  refine ld_i hx hb hK hP 3 rfl (by omega) dX1_wouldRing_97 (fun x_24 ex_24 => ?_)
                  have q_x_24 : x_24.toInt = (g_n_sources y_16.toNatClampNeg).toInt := i3_eq ex_24
                  have b_x_24 := AR.rd i_g_n_sources ex_24 (by omega)
                  refine lv_if_lt (tgt := 124) hx hb dX1_wouldRing_98 (by decide) (fun c_25 => ?_) (fun c_25 => ?_)
                  · have e_25 : x_24.toInt < 0 := i3_lt c_25
                    obtain ⟨x_26, ex_26⟩ : ∃ y : Int32, y = y_16 + 1 := ⟨_, rfl⟩
                    have tx_26 : x_26.toInt = y_16.toInt + 1 := i3_addc rfl rfl ex_26 (by omega)
                    refine lv_iinc (v := x_26) (lv' := [(5, .int x_26), (4, .int x_14), (3, .int y_9), (0, .ref o_n), (1, .int p1), (2, .int p2)]) hx hb dX1_wouldRing_124 hl (k := 0) rfl (by rw [ex_26]; rfl) (by decide) rfl (fun ls hl => ?_)
                    refine lv_goto (tgt := 74) hx hb dX1_wouldRing_127 (by decide) ?_
                    apply ih_d_18 (y_16 := x_26) (y_17 := y_17) (H := H) (locs := locs) (ls := ls) <;> first | assumption | omega | decide
                  · have e_25 : 0 ≤ x_24.toInt := i3_nlt c_25
                    refine lv_aload_n hx hb dX1_wouldRing_101 rfl (lv_at hl 3 rfl) ?_
                    refine va_get (D := E.1) (ci := 1) (v := .ref a_n_behind) (own := RX1) (C := RX1) (T := TX1) (N := 13) hx hb hts i_q_wouldRing_X1 hown hK hP 4 rfl rfl 12 (by decide) (hto (.fieldLink RX1 42 "TimingHouse$Net" "behind" "[Z") (by decide +kernel)) (fun _ h9 => h9) rfl dX1_wouldRing_102 ?_
                    refine lv_aload_n hx hb dX1_wouldRing_105 rfl (lv_at hl 3 rfl) ?_
                    refine va_get (D := E.1) (ci := 1) (v := .ref a_n_sources) (own := RX1) (C := RX1) (T := TX1) (N := 13) hx hb hts i_q_wouldRing_X1 hown hK hP 4 rfl rfl 6 (by decide) (hto (.fieldLink RX1 27 "TimingHouse$Net" "sources" "[I") (by decide +kernel)) (fun _ h9 => h9) rfl dX1_wouldRing_106 ?_
                    refine lv_iload hx hb dX1_wouldRing_109 (lv_at hl 0 rfl) ?_
                    refine ld_i hx hb hK hP 3 rfl (by omega) dX1_wouldRing_111 (fun x_27 ex_27 => ?_)
                    have hq_x_27 : x_24 = x_27 := ex_24.trans ex_27.symm
                    subst hq_x_27
                    refine ld_z hx hb hK hP 0 rfl (by omega) dX1_wouldRing_112 (fun x_28 ex_28 => ?_)
                    have b_x_28 := AR.rd i_y_17 ex_28 (by omega)
                    refine lv_if_eq (tgt := 124) hx hb dX1_wouldRing_113 (by decide) (fun c_29 => ?_) (fun c_29 => ?_)
                    · have e_29 : x_28.toInt = 0 := i3_eq c_29
                      obtain ⟨x_30, ex_30⟩ : ∃ y : Int32, y = y_16 + 1 := ⟨_, rfl⟩
                      have tx_30 : x_30.toInt = y_16.toInt + 1 := i3_addc rfl rfl ex_30 (by omega)
                      refine lv_iinc (v := x_30) (lv' := [(5, .int x_30), (4, .int x_14), (3, .int y_9), (0, .ref o_n), (1, .int p1), (2, .int p2)]) hx hb dX1_wouldRing_124 hl (k := 0) rfl (by rw [ex_30]; rfl) (by decide) rfl (fun ls hl => ?_)
                      refine lv_goto (tgt := 74) hx hb dX1_wouldRing_127 (by decide) ?_
                      apply ih_d_18 (y_16 := x_30) (y_17 := y_17) (H := H) (locs := locs) (ls := ls) <;> first | assumption | omega | decide
                    · have e_29 : x_28.toInt ≠ 0 := i3_ne c_29
                      refine lv_aload_n hx hb dX1_wouldRing_116 rfl (lv_at hl 3 rfl) ?_
                      refine va_get (D := E.1) (ci := 1) (v := .ref a_n_behind) (own := RX1) (C := RX1) (T := TX1) (N := 13) hx hb hts i_q_wouldRing_X1 hown hK hP 4 rfl rfl 12 (by decide) (hto (.fieldLink RX1 42 "TimingHouse$Net" "behind" "[Z") (by decide +kernel)) (fun _ h9 => h9) rfl dX1_wouldRing_117 ?_
                      refine lv_iload hx hb dX1_wouldRing_120 (lv_at hl 1 rfl) ?_
                      refine lv_iconst (v := 1) hx hb dX1_wouldRing_122 (by decide) ?_
                      refine st_z hx hb hK hP hD hS 0 rfl (by omega) (by decide) dX1_wouldRing_123 (fun g_31 H locs eg_31 hP hD hS => ?_)
                      have i_g_31 : AR g_31 50 0 1 := by rw [eg_31]; exact AR.up i_y_17 (by decide)
                      clear eg_31
                      replace hP : va_P E.1 vwCl [(a_n_behind, aZ E 50 g_31), (a_n_order, aI E 50 g_n_order), (a_n_inputs, aI E 50 g_n_inputs), (a_n_sources, aI E 200 g_n_sources), (o_n, .inr (1, [.int f_n_cells, .ref a_n_kinds, .ref a_n_inputs, .ref a_n_tables, .ref a_n_sizes, .ref a_n_extras, .ref a_n_sources, .ref a_n_takers, .ref a_n_firstTaker, .ref a_n_order, .int f_n_ordered, .ref a_n_tally, .ref a_n_behind])), (a_n_kinds, aI E 50 g_n_kinds)] H := hP
                      replace hD : va_D A [(a_n_behind, aZ E 50 g_31), (a_n_order, aI E 50 g_n_order), (a_n_inputs, aI E 50 g_n_inputs), (a_n_sources, aI E 200 g_n_sources), (o_n, .inr (1, [.int f_n_cells, .ref a_n_kinds, .ref a_n_inputs, .ref a_n_tables, .ref a_n_sizes, .ref a_n_extras, .ref a_n_sources, .ref a_n_takers, .ref a_n_firstTaker, .ref a_n_order, .int f_n_ordered, .ref a_n_tally, .ref a_n_behind])), (a_n_kinds, aI E 50 g_n_kinds)] := hD
                      obtain ⟨x_32, ex_32⟩ : ∃ y : Int32, y = y_16 + 1 := ⟨_, rfl⟩
                      have tx_32 : x_32.toInt = y_16.toInt + 1 := i3_addc rfl rfl ex_32 (by omega)
                      refine lv_iinc (v := x_32) (lv' := [(5, .int x_32), (4, .int x_14), (3, .int y_9), (0, .ref o_n), (1, .int p1), (2, .int p2)]) hx hb dX1_wouldRing_124 hl (k := 0) rfl (by rw [ex_32]; rfl) (by decide) rfl (fun ls hl => ?_)
                      refine lv_goto (tgt := 74) hx hb dX1_wouldRing_127 (by decide) ?_
                      apply ih_d_18 (y_16 := x_32) (y_17 := g_31) (H := H) (locs := locs) (ls := ls) <;> first | assumption | omega | decide
        · have e_8 : y_5.toInt < f_n_cells.toInt := i3_nle c_8
          refine lv_aload_n hx hb dX1_wouldRing_28 rfl (lv_at hl 1 rfl) ?_
          refine va_get (D := E.1) (ci := 1) (v := .ref a_n_behind) (own := RX1) (C := RX1) (T := TX1) (N := 13) hx hb hts i_q_wouldRing_X1 hown hK hP 4 rfl rfl 12 (by decide) (hto (.fieldLink RX1 42 "TimingHouse$Net" "behind" "[Z") (by decide +kernel)) (fun _ h9 => h9) rfl dX1_wouldRing_29 ?_
          refine lv_iload_n hx hb dX1_wouldRing_32 rfl (lv_at hl 0 rfl) ?_
          refine lv_iload_n hx hb dX1_wouldRing_33 rfl (lv_at hl 0 rfl) ?_
          refine lv_iload_n hx hb dX1_wouldRing_34 rfl (lv_at hl 3 rfl) ?_
          refine lv_icmp_ne (tgt := 42) hx hb dX1_wouldRing_35 (by decide) (fun c_33 => ?_) (fun c_33 => ?_)
          · have e_33 : y_5.toInt ≠ p2.toInt := i3_ne c_33
            refine lv_iconst (v := 0) hx hb dX1_wouldRing_42 (by decide) ?_
            refine st_z hx hb hK hP hD hS 0 rfl (by omega) (by decide) dX1_wouldRing_43 (fun g_34 H locs eg_34 hP hD hS => ?_)
            have i_g_34 : AR g_34 50 0 1 := by rw [eg_34]; exact AR.up i_y_6 (by decide)
            clear eg_34
            replace hP : va_P E.1 vwCl [(a_n_behind, aZ E 50 g_34), (a_n_order, aI E 50 g_n_order), (a_n_inputs, aI E 50 g_n_inputs), (a_n_sources, aI E 200 g_n_sources), (o_n, .inr (1, [.int f_n_cells, .ref a_n_kinds, .ref a_n_inputs, .ref a_n_tables, .ref a_n_sizes, .ref a_n_extras, .ref a_n_sources, .ref a_n_takers, .ref a_n_firstTaker, .ref a_n_order, .int f_n_ordered, .ref a_n_tally, .ref a_n_behind])), (a_n_kinds, aI E 50 g_n_kinds)] H := hP
            replace hD : va_D A [(a_n_behind, aZ E 50 g_34), (a_n_order, aI E 50 g_n_order), (a_n_inputs, aI E 50 g_n_inputs), (a_n_sources, aI E 200 g_n_sources), (o_n, .inr (1, [.int f_n_cells, .ref a_n_kinds, .ref a_n_inputs, .ref a_n_tables, .ref a_n_sizes, .ref a_n_extras, .ref a_n_sources, .ref a_n_takers, .ref a_n_firstTaker, .ref a_n_order, .int f_n_ordered, .ref a_n_tally, .ref a_n_behind])), (a_n_kinds, aI E 50 g_n_kinds)] := hD
            obtain ⟨x_35, ex_35⟩ : ∃ y : Int32, y = y_5 + 1 := ⟨_, rfl⟩
            have tx_35 : x_35.toInt = y_5.toInt + 1 := i3_addc rfl rfl ex_35 (by omega)
            refine lv_iinc (v := x_35) (lv' := [(3, .int x_35), (0, .ref o_n), (1, .int p1), (2, .int p2)]) hx hb dX1_wouldRing_44 hl (k := 0) rfl (by rw [ex_35]; rfl) (by decide) rfl (fun ls hl => ?_)
            refine lv_goto (tgt := 20) hx hb dX1_wouldRing_47 (by decide) ?_
            apply ih_d_7 (y_5 := x_35) (y_6 := g_34) (H := H) (locs := locs) (ls := ls) <;> first | assumption | omega | decide
          · have e_33 : y_5.toInt = p2.toInt := i3_eq c_33
            refine lv_iconst (v := 1) hx hb dX1_wouldRing_38 (by decide) ?_
            refine lv_goto (tgt := 43) hx hb dX1_wouldRing_39 (by decide) ?_
            refine st_z hx hb hK hP hD hS 0 rfl (by omega) (by decide) dX1_wouldRing_43 (fun g_36 H locs eg_36 hP hD hS => ?_)
            have i_g_36 : AR g_36 50 0 1 := by rw [eg_36]; exact AR.up i_y_6 (by decide)
            clear eg_36
            replace hP : va_P E.1 vwCl [(a_n_behind, aZ E 50 g_36), (a_n_order, aI E 50 g_n_order), (a_n_inputs, aI E 50 g_n_inputs), (a_n_sources, aI E 200 g_n_sources), (o_n, .inr (1, [.int f_n_cells, .ref a_n_kinds, .ref a_n_inputs, .ref a_n_tables, .ref a_n_sizes, .ref a_n_extras, .ref a_n_sources, .ref a_n_takers, .ref a_n_firstTaker, .ref a_n_order, .int f_n_ordered, .ref a_n_tally, .ref a_n_behind])), (a_n_kinds, aI E 50 g_n_kinds)] H := hP
            replace hD : va_D A [(a_n_behind, aZ E 50 g_36), (a_n_order, aI E 50 g_n_order), (a_n_inputs, aI E 50 g_n_inputs), (a_n_sources, aI E 200 g_n_sources), (o_n, .inr (1, [.int f_n_cells, .ref a_n_kinds, .ref a_n_inputs, .ref a_n_tables, .ref a_n_sizes, .ref a_n_extras, .ref a_n_sources, .ref a_n_takers, .ref a_n_firstTaker, .ref a_n_order, .int f_n_ordered, .ref a_n_tally, .ref a_n_behind])), (a_n_kinds, aI E 50 g_n_kinds)] := hD
            obtain ⟨x_37, ex_37⟩ : ∃ y : Int32, y = y_5 + 1 := ⟨_, rfl⟩
            have tx_37 : x_37.toInt = y_5.toInt + 1 := i3_addc rfl rfl ex_37 (by omega)
            refine lv_iinc (v := x_37) (lv' := [(3, .int x_37), (0, .ref o_n), (1, .int p1), (2, .int p2)]) hx hb dX1_wouldRing_44 hl (k := 0) rfl (by rw [ex_37]; rfl) (by decide) rfl (fun ls hl => ?_)
            refine lv_goto (tgt := 20) hx hb dX1_wouldRing_47 (by decide) ?_
            apply ih_d_7 (y_5 := x_37) (y_6 := g_36) (H := H) (locs := locs) (ls := ls) <;> first | assumption | omega | decide
    · have e_4 : r_3.toInt = 0 := i3_eq c_4
      refine lv_iconst (v := 0) hx hb dX1_wouldRing_16 (by decide) ?_
      exact ret_i hx hb hr hlk (hP.sub (ws' := [(o_n, .inr (1, [.int f_n_cells, .ref a_n_kinds, .ref a_n_inputs, .ref a_n_tables, .ref a_n_sizes, .ref a_n_extras, .ref a_n_sources, .ref a_n_takers, .ref a_n_firstTaker, .ref a_n_order, .int f_n_ordered, .ref a_n_tally, .ref a_n_behind])), (a_n_kinds, aI E 50 g_n_kinds), (a_n_behind, aZ E 50 g_n_behind), (a_n_order, aI E 50 g_n_order), (a_n_inputs, aI E 50 g_n_inputs), (a_n_sources, aI E 200 g_n_sources)]) [4, 5, 0, 1, 2, 3] rfl) (hD.sub (ws' := [(o_n, .inr (1, [.int f_n_cells, .ref a_n_kinds, .ref a_n_inputs, .ref a_n_tables, .ref a_n_sizes, .ref a_n_extras, .ref a_n_sources, .ref a_n_takers, .ref a_n_firstTaker, .ref a_n_order, .int f_n_ordered, .ref a_n_tally, .ref a_n_behind])), (a_n_kinds, aI E 50 g_n_kinds), (a_n_behind, aZ E 50 g_n_behind), (a_n_order, aI E 50 g_n_order), (a_n_inputs, aI E 50 g_n_inputs), (a_n_sources, aI E 200 g_n_sources)]) [4, 5, 0, 1, 2, 3] (by decide) rfl) hS rfl dX1_wouldRing_17 (Nat.le_of_ble_eq_true rfl) (Nat.le_of_ble_eq_true rfl) ⟨(by decide), g_n_behind, i_g_n_behind, rfl⟩
theorem dX1_gatesTakenBy_0 : decode cX1_gatesTakenBy 0 = .ok (.iconst 0, 1) := by decide +kernel
theorem dX1_gatesTakenBy_1 : decode cX1_gatesTakenBy 1 = .ok (.istore_n 2, 1) := by decide +kernel
theorem dX1_gatesTakenBy_2 : decode cX1_gatesTakenBy 2 = .ok (.iload_n 1, 1) := by decide +kernel
theorem dX1_gatesTakenBy_3 : decode cX1_gatesTakenBy 3 = .ok (.iconst 4, 1) := by decide +kernel
theorem dX1_gatesTakenBy_4 : decode cX1_gatesTakenBy 4 = .ok (.imul, 1) := by decide +kernel
theorem dX1_gatesTakenBy_5 : decode cX1_gatesTakenBy 5 = .ok (.istore_n 3, 1) := by decide +kernel
theorem dX1_gatesTakenBy_6 : decode cX1_gatesTakenBy 6 = .ok (.iload_n 3, 1) := by decide +kernel
theorem dX1_gatesTakenBy_7 : decode cX1_gatesTakenBy 7 = .ok (.iload_n 1, 1) := by decide +kernel
theorem dX1_gatesTakenBy_8 : decode cX1_gatesTakenBy 8 = .ok (.iconst 4, 1) := by decide +kernel
theorem dX1_gatesTakenBy_9 : decode cX1_gatesTakenBy 9 = .ok (.imul, 1) := by decide +kernel
theorem dX1_gatesTakenBy_10 : decode cX1_gatesTakenBy 10 = .ok (.aload_n 0, 1) := by decide +kernel
theorem dX1_gatesTakenBy_11 : decode cX1_gatesTakenBy 11 = .ok (.getfield 15, 3) := by decide +kernel
theorem dX1_gatesTakenBy_14 : decode cX1_gatesTakenBy 14 = .ok (.iload_n 1, 1) := by decide +kernel
theorem dX1_gatesTakenBy_15 : decode cX1_gatesTakenBy 15 = .ok (.iaload, 1) := by decide +kernel
theorem dX1_gatesTakenBy_16 : decode cX1_gatesTakenBy 16 = .ok (.iadd, 1) := by decide +kernel
theorem dX1_gatesTakenBy_17 : decode cX1_gatesTakenBy 17 = .ok (.if_icmp .ge 34, 3) := by decide +kernel
theorem dX1_gatesTakenBy_51 : decode cX1_gatesTakenBy 51 = .ok (.iload_n 2, 1) := by decide +kernel
theorem dX1_gatesTakenBy_52 : decode cX1_gatesTakenBy 52 = .ok (.ireturn, 1) := by decide +kernel
theorem dX1_gatesTakenBy_20 : decode cX1_gatesTakenBy 20 = .ok (.aload_n 0, 1) := by decide +kernel
theorem dX1_gatesTakenBy_21 : decode cX1_gatesTakenBy 21 = .ok (.getfield 27, 3) := by decide +kernel
theorem dX1_gatesTakenBy_24 : decode cX1_gatesTakenBy 24 = .ok (.iload_n 3, 1) := by decide +kernel
theorem dX1_gatesTakenBy_25 : decode cX1_gatesTakenBy 25 = .ok (.iaload, 1) := by decide +kernel
theorem dX1_gatesTakenBy_26 : decode cX1_gatesTakenBy 26 = .ok (.ifCond .lt 19, 3) := by decide +kernel
theorem dX1_gatesTakenBy_45 : decode cX1_gatesTakenBy 45 = .ok (.iinc 3 1, 3) := by decide +kernel
theorem dX1_gatesTakenBy_48 : decode cX1_gatesTakenBy 48 = .ok (.goto (-42), 3) := by decide +kernel
theorem dX1_gatesTakenBy_29 : decode cX1_gatesTakenBy 29 = .ok (.aload_n 0, 1) := by decide +kernel
theorem dX1_gatesTakenBy_30 : decode cX1_gatesTakenBy 30 = .ok (.aload_n 0, 1) := by decide +kernel
theorem dX1_gatesTakenBy_31 : decode cX1_gatesTakenBy 31 = .ok (.getfield 27, 3) := by decide +kernel
theorem dX1_gatesTakenBy_34 : decode cX1_gatesTakenBy 34 = .ok (.iload_n 3, 1) := by decide +kernel
theorem dX1_gatesTakenBy_35 : decode cX1_gatesTakenBy 35 = .ok (.iaload, 1) := by decide +kernel
theorem dX1_gatesTakenBy_36 : decode cX1_gatesTakenBy 36 = .ok (.invokevirtual 66, 3) := by decide +kernel
theorem dX1_gatesTakenBy_39 : decode cX1_gatesTakenBy 39 = .ok (.ifCond .eq 6, 3) := by decide +kernel
theorem dX1_gatesTakenBy_42 : decode cX1_gatesTakenBy 42 = .ok (.iinc 2 1, 3) := by decide +kernel
def wo_q_gatesTakenBy : List Cond := [.code yX1_gatesTakenBy cX1_gatesTakenBy 4 (some .int), .fieldLink RX1 15 "TimingHouse$Net" "inputs" "[I", .fieldLink RX1 27 "TimingHouse$Net" "sources" "[I", .methodLink RX1 66 yX1_isGate, .instanceMethod yX1_isGate, .selects RX1 yX1_isGate yX1_isGate, .initialized RX1]
def wr_q_gatesTakenBy : List Cond := (wsX10 ++ (w_q_isGate ++ ([])))
def w_q_gatesTakenBy : List Cond := wo_q_gatesTakenBy ++ wr_q_gatesTakenBy
theorem wg_q_gatesTakenBy : GW w_q_gatesTakenBy := GW_app (GW_of (by decide +kernel)) (GW_app (GW_of (by decide +kernel)) (GW_app (wg_q_isGate) (GW_nil)))
theorem i_q_gatesTakenBy_X1 : ∀ w ∈ wsX10, w ∈ w_q_gatesTakenBy := fun _ h => List.mem_append_right _ (List.mem_append_left _ h)
theorem g_q_gatesTakenBy_q_isGate_66 : GoodIn w_q_gatesTakenBy (wsV RX1 66 RX1 yX1_isGate w_q_isGate) := goodIn_app (gi_left (goodIn_of _ (by decide +kernel))) (fun w h => ⟨List.mem_append_right _ (List.mem_append_right _ (List.mem_append_left _ h)), wg_q_isGate w h⟩)
set_option maxHeartbeats 8000000 in
set_option maxRecDepth 100000 in
theorem q_gatesTakenBy (l : Launch) (E : gE) (o_n a_n_kinds a_n_inputs a_n_tables a_n_sizes a_n_extras a_n_sources a_n_takers a_n_firstTaker a_n_order a_n_tally a_n_behind : Nat) (f_n_cells f_n_ordered p1 : Int32) (g_n_inputs : Nat → Int32) (g_n_sources : Nat → Int32) (g_n_kinds : Nat → Int32) (r_f_n_cells : RG f_n_cells 0 50) (r_f_n_ordered : RG f_n_ordered 0 50) (i_g_n_inputs : AR g_n_inputs 50 0 4) (i_g_n_sources : AR g_n_sources 200 (-5) 49) (i_g_n_kinds : AR g_n_kinds 50 0 5) (r_p1 : RG p1 0 49) : CtI l E yX1_gatesTakenBy w_q_gatesTakenBy ({ frames := 2, cells := 0, slots := 0, locals := 41 }) [(o_n, .inr (1, [.int f_n_cells, .ref a_n_kinds, .ref a_n_inputs, .ref a_n_tables, .ref a_n_sizes, .ref a_n_extras, .ref a_n_sources, .ref a_n_takers, .ref a_n_firstTaker, .ref a_n_order, .int f_n_ordered, .ref a_n_tally, .ref a_n_behind])), (a_n_inputs, aI E 50 g_n_inputs), (a_n_sources, aI E 200 g_n_sources), (a_n_kinds, aI E 50 g_n_kinds)] [.ref o_n, .int p1] (fun _ w => True ∧ w = [(o_n, .inr (1, [.int f_n_cells, .ref a_n_kinds, .ref a_n_inputs, .ref a_n_tables, .ref a_n_sizes, .ref a_n_extras, .ref a_n_sources, .ref a_n_takers, .ref a_n_firstTaker, .ref a_n_order, .int f_n_ordered, .ref a_n_tally, .ref a_n_behind])), (a_n_inputs, aI E 50 g_n_inputs), (a_n_sources, aI E 200 g_n_sources), (a_n_kinds, aI E 50 g_n_kinds)]) := by
  refine CtI.of (cc := cX1_gatesTakenBy) (maxL := 4) (rt := (some .int)) (by decide) rfl (Nat.le_of_ble_eq_true rfl) ?_
  intro p e s m below meth c A B ls hl
  obtain ⟨hx, hb, hml, hr, hlk, hin, hts, hown, hK, hN, hZ, hA, hP, hD, hS⟩ := B
  replace hown : s.vm.findClass RX1 = some m.cls := hown
  have hto : ∀ w ∈ wo_q_gatesTakenBy, w.before _ s = true := fun w h => hts w (List.mem_append_left _ h)
  replace hl : lv_has ls 4 [(0, .ref o_n), (1, .int p1)] := hl
  obtain ⟨H, hHe⟩ : ∃ H, H = s.heap := ⟨_, rfl⟩
  obtain ⟨locs, hle⟩ : ∃ l : List Loc, l = [] := ⟨_, rfl⟩
  replace hS : va_S A s.heap H locs := by rw [hHe, hle]; exact hS
  replace hP : va_P E.1 vwCl [(o_n, .inr (1, [.int f_n_cells, .ref a_n_kinds, .ref a_n_inputs, .ref a_n_tables, .ref a_n_sizes, .ref a_n_extras, .ref a_n_sources, .ref a_n_takers, .ref a_n_firstTaker, .ref a_n_order, .int f_n_ordered, .ref a_n_tally, .ref a_n_behind])), (a_n_inputs, aI E 50 g_n_inputs), (a_n_sources, aI E 200 g_n_sources), (a_n_kinds, aI E 50 g_n_kinds)] H := by rw [hHe]; exact hP
  refine W_hl hHe hle ?_
  clear hHe hle
  refine lv_iconst (v := 0) hx hb dX1_gatesTakenBy_0 (by decide) ?_
  refine lv_istore_n (lv' := [(2, .int 0), (0, .ref o_n), (1, .int p1)]) hx hb dX1_gatesTakenBy_1 rfl hl (by decide) rfl (fun ls hl => ?_)
  refine lv_iload_n hx hb dX1_gatesTakenBy_2 rfl (lv_at hl 2 rfl) ?_
  refine lv_iconst (v := 4) hx hb dX1_gatesTakenBy_3 (by decide) ?_
  have b_p1 := r_p1.out
  refine lv_imul hx hb dX1_gatesTakenBy_4 ?_
  refine lv_topi (fun x_1 ex_1 => ?_)
  have tx_1 : x_1.toInt = p1.toInt * 4 := i3_mulc rfl rfl ex_1 (by omega)
  refine lv_istore_n (lv' := [(3, .int x_1), (2, .int 0), (0, .ref o_n), (1, .int p1)]) hx hb dX1_gatesTakenBy_5 rfl hl (by decide) rfl (fun ls hl => ?_)
  obtain ⟨y_2, hy_2⟩ : ∃ y : Int32, y = x_1 := ⟨_, rfl⟩
  have b_y_2 : 0 ≤ y_2.toInt ∧ y_2.toInt ≤ 200 := by rw [hy_2]; omega
  obtain ⟨y_3, hy_3⟩ : ∃ y : Int32, y = 0 := ⟨_, rfl⟩
  have b_y_3 := i3_bd y_3
  replace hl : lv_has ls 4 [(3, .int y_2), (2, .int y_3), (0, .ref o_n), (1, .int p1)] := by rw [hy_2, hy_3]; exact hl
  clear hy_2 hy_3
  obtain ⟨d_4, hd_4⟩ : ∃ d : Nat, 200 - y_2.toInt < (d : Int) := ⟨(200 - y_2.toInt + 1).toNat, by omega⟩
  induction d_4 generalizing y_2 y_3 H locs ls with
  | zero => exfalso; omega
  | succ d_4 ih_d_4 =>
    refine lv_iload_n hx hb dX1_gatesTakenBy_6 rfl (lv_at hl 0 rfl) ?_
    refine lv_iload_n hx hb dX1_gatesTakenBy_7 rfl (lv_at hl 3 rfl) ?_
    refine lv_iconst (v := 4) hx hb dX1_gatesTakenBy_8 (by decide) ?_
    refine lv_imul hx hb dX1_gatesTakenBy_9 ?_
    refine lv_topi (fun x_5 ex_5 => ?_)
    have hq_x_5 : x_1 = x_5 := ex_1.trans ex_5.symm
    subst hq_x_5
    refine lv_aload_n hx hb dX1_gatesTakenBy_10 rfl (lv_at hl 2 rfl) ?_
    refine va_get (D := E.1) (ci := 1) (v := .ref a_n_inputs) (own := RX1) (C := RX1) (T := TX1) (N := 13) hx hb hts i_q_gatesTakenBy_X1 hown hK hP 0 rfl rfl 2 (by decide) (hto (.fieldLink RX1 15 "TimingHouse$Net" "inputs" "[I") (by decide +kernel)) (fun _ h9 => h9) rfl dX1_gatesTakenBy_11 ?_
    refine lv_iload_n hx hb dX1_gatesTakenBy_14 rfl (lv_at hl 3 rfl) ?_
    refine ld_i hx hb hK hP 1 rfl (by omega) dX1_gatesTakenBy_15 (fun x_6 ex_6 => ?_)
    have b_x_6 := AR.rd i_g_n_inputs ex_6 (by omega)
    refine lv_iadd hx hb dX1_gatesTakenBy_16 ?_
    refine lv_topi (fun x_7 ex_7 => ?_)
    have tx_7 : x_7.toInt = x_1.toInt + x_6.toInt := i3_addc rfl rfl ex_7 (by omega)
    refine lv_icmp_ge (tgt := 51) hx hb dX1_gatesTakenBy_17 (by decide) (fun c_8 => ?_) (fun c_8 => ?_)
    · have e_8 : x_7.toInt ≤ y_2.toInt := i3_le c_8
      refine lv_iload_n hx hb dX1_gatesTakenBy_51 rfl (lv_at hl 1 rfl) ?_
      exact ret_i hx hb hr hlk (hP.sub (ws' := [(o_n, .inr (1, [.int f_n_cells, .ref a_n_kinds, .ref a_n_inputs, .ref a_n_tables, .ref a_n_sizes, .ref a_n_extras, .ref a_n_sources, .ref a_n_takers, .ref a_n_firstTaker, .ref a_n_order, .int f_n_ordered, .ref a_n_tally, .ref a_n_behind])), (a_n_inputs, aI E 50 g_n_inputs), (a_n_sources, aI E 200 g_n_sources), (a_n_kinds, aI E 50 g_n_kinds)]) [0, 1, 2, 3] rfl) (hD.sub (ws' := [(o_n, .inr (1, [.int f_n_cells, .ref a_n_kinds, .ref a_n_inputs, .ref a_n_tables, .ref a_n_sizes, .ref a_n_extras, .ref a_n_sources, .ref a_n_takers, .ref a_n_firstTaker, .ref a_n_order, .int f_n_ordered, .ref a_n_tally, .ref a_n_behind])), (a_n_inputs, aI E 50 g_n_inputs), (a_n_sources, aI E 200 g_n_sources), (a_n_kinds, aI E 50 g_n_kinds)]) [0, 1, 2, 3] (by decide) rfl) hS rfl dX1_gatesTakenBy_52 (Nat.le_of_ble_eq_true rfl) (Nat.le_of_ble_eq_true rfl) ⟨trivial, rfl⟩
    · have e_8 : y_2.toInt < x_7.toInt := i3_nle c_8
      refine lv_aload_n hx hb dX1_gatesTakenBy_20 rfl (lv_at hl 2 rfl) ?_
      refine va_get (D := E.1) (ci := 1) (v := .ref a_n_sources) (own := RX1) (C := RX1) (T := TX1) (N := 13) hx hb hts i_q_gatesTakenBy_X1 hown hK hP 0 rfl rfl 6 (by decide) (hto (.fieldLink RX1 27 "TimingHouse$Net" "sources" "[I") (by decide +kernel)) (fun _ h9 => h9) rfl dX1_gatesTakenBy_21 ?_
      refine lv_iload_n hx hb dX1_gatesTakenBy_24 rfl (lv_at hl 0 rfl) ?_
      refine ld_i hx hb hK hP 2 rfl (by omega) dX1_gatesTakenBy_25 (fun x_9 ex_9 => ?_)
      have q_x_9 : x_9.toInt = (g_n_sources y_2.toNatClampNeg).toInt := i3_eq ex_9
      have b_x_9 := AR.rd i_g_n_sources ex_9 (by omega)
      refine lv_if_lt (tgt := 45) hx hb dX1_gatesTakenBy_26 (by decide) (fun c_10 => ?_) (fun c_10 => ?_)
      · have e_10 : x_9.toInt < 0 := i3_lt c_10
        obtain ⟨x_11, ex_11⟩ : ∃ y : Int32, y = y_2 + 1 := ⟨_, rfl⟩
        have tx_11 : x_11.toInt = y_2.toInt + 1 := i3_addc rfl rfl ex_11 (by omega)
        refine lv_iinc (v := x_11) (lv' := [(3, .int x_11), (2, .int y_3), (0, .ref o_n), (1, .int p1)]) hx hb dX1_gatesTakenBy_45 hl (k := 0) rfl (by rw [ex_11]; rfl) (by decide) rfl (fun ls hl => ?_)
        refine lv_goto (tgt := 6) hx hb dX1_gatesTakenBy_48 (by decide) ?_
        apply ih_d_4 (y_2 := x_11) (y_3 := y_3) (H := H) (locs := locs) (ls := ls) <;> first | assumption | omega | decide
      · have e_10 : 0 ≤ x_9.toInt := i3_nlt c_10
        refine lv_aload_n hx hb dX1_gatesTakenBy_29 rfl (lv_at hl 2 rfl) ?_
        refine lv_aload_n hx hb dX1_gatesTakenBy_30 rfl (lv_at hl 2 rfl) ?_
        refine va_get (D := E.1) (ci := 1) (v := .ref a_n_sources) (own := RX1) (C := RX1) (T := TX1) (N := 13) hx hb hts i_q_gatesTakenBy_X1 hown hK hP 0 rfl rfl 6 (by decide) (hto (.fieldLink RX1 27 "TimingHouse$Net" "sources" "[I") (by decide +kernel)) (fun _ h9 => h9) rfl dX1_gatesTakenBy_31 ?_
        refine lv_iload_n hx hb dX1_gatesTakenBy_34 rfl (lv_at hl 0 rfl) ?_
        refine ld_i hx hb hK hP 2 rfl (by omega) dX1_gatesTakenBy_35 (fun x_12 ex_12 => ?_)
        have hq_x_12 : x_9 = x_12 := ex_9.trans ex_12.symm
        subst hq_x_12
        refine call_i (va_runV (As := [.int x_9]) (rest := []) ⟨hx, hb, hml, hown, hts⟩ (q_isGate l E o_n a_n_kinds a_n_inputs a_n_tables a_n_sizes a_n_extras a_n_sources a_n_takers a_n_firstTaker a_n_order a_n_tally a_n_behind f_n_cells f_n_ordered x_9 g_n_kinds r_f_n_cells r_f_n_ordered i_g_n_kinds (RG.mk (by omega)) H.size) (cwV 1 hts g_q_gatesTakenBy_q_isGate_66 rfl rfl rfl (by decide +kernel) ⟨Nat.le_of_ble_eq_true rfl, Nat.le_of_ble_eq_true rfl⟩) (pre_V hK hN hZ hS (va_free hD hS hA [0, 3] rfl) (hP.sub (ws' := [(o_n, .inr (1, [.int f_n_cells, .ref a_n_kinds, .ref a_n_inputs, .ref a_n_tables, .ref a_n_sizes, .ref a_n_extras, .ref a_n_sources, .ref a_n_takers, .ref a_n_firstTaker, .ref a_n_order, .int f_n_ordered, .ref a_n_tally, .ref a_n_behind])), (a_n_kinds, aI E 50 g_n_kinds)]) [0, 3] rfl) (hD.sub (ws' := [(o_n, .inr (1, [.int f_n_cells, .ref a_n_kinds, .ref a_n_inputs, .ref a_n_tables, .ref a_n_sizes, .ref a_n_extras, .ref a_n_sources, .ref a_n_takers, .ref a_n_firstTaker, .ref a_n_order, .int f_n_ordered, .ref a_n_tally, .ref a_n_behind])), (a_n_kinds, aI E 50 g_n_kinds)]) [0, 3] (by decide) rfl) (ci := 1) (q0 := 0) rfl rfl) rfl rfl hl.1 rfl (lv_room (Nat.le_of_ble_eq_true rfl)) dX1_gatesTakenBy_36 ⟨Nat.le_of_ble_eq_true rfl, Nat.le_of_ble_eq_true rfl⟩) hP hD hS hA [0, 3] [1, 2] (wr := [(a_n_inputs, aI E 50 g_n_inputs), (a_n_sources, aI E 200 g_n_sources)]) rfl rfl (by decide) (by decide) (fun r_13 w H locs hw hP hD hS => ?_)
        obtain ⟨b_r_13, rfl⟩ := hw
        replace hP : va_P E.1 vwCl [(a_n_inputs, aI E 50 g_n_inputs), (a_n_sources, aI E 200 g_n_sources), (o_n, .inr (1, [.int f_n_cells, .ref a_n_kinds, .ref a_n_inputs, .ref a_n_tables, .ref a_n_sizes, .ref a_n_extras, .ref a_n_sources, .ref a_n_takers, .ref a_n_firstTaker, .ref a_n_order, .int f_n_ordered, .ref a_n_tally, .ref a_n_behind])), (a_n_kinds, aI E 50 g_n_kinds)] H := hP
        replace hD : va_D A [(a_n_inputs, aI E 50 g_n_inputs), (a_n_sources, aI E 200 g_n_sources), (o_n, .inr (1, [.int f_n_cells, .ref a_n_kinds, .ref a_n_inputs, .ref a_n_tables, .ref a_n_sizes, .ref a_n_extras, .ref a_n_sources, .ref a_n_takers, .ref a_n_firstTaker, .ref a_n_order, .int f_n_ordered, .ref a_n_tally, .ref a_n_behind])), (a_n_kinds, aI E 50 g_n_kinds)] := hD
        refine lv_if_eq (tgt := 45) hx hb dX1_gatesTakenBy_39 (by decide) (fun c_14 => ?_) (fun c_14 => ?_)
        · have e_14 : r_13.toInt = 0 := i3_eq c_14
          obtain ⟨x_15, ex_15⟩ : ∃ y : Int32, y = y_2 + 1 := ⟨_, rfl⟩
          have tx_15 : x_15.toInt = y_2.toInt + 1 := i3_addc rfl rfl ex_15 (by omega)
          refine lv_iinc (v := x_15) (lv' := [(3, .int x_15), (2, .int y_3), (0, .ref o_n), (1, .int p1)]) hx hb dX1_gatesTakenBy_45 hl (k := 0) rfl (by rw [ex_15]; rfl) (by decide) rfl (fun ls hl => ?_)
          refine lv_goto (tgt := 6) hx hb dX1_gatesTakenBy_48 (by decide) ?_
          replace hP : va_P E.1 vwCl [(o_n, .inr (1, [.int f_n_cells, .ref a_n_kinds, .ref a_n_inputs, .ref a_n_tables, .ref a_n_sizes, .ref a_n_extras, .ref a_n_sources, .ref a_n_takers, .ref a_n_firstTaker, .ref a_n_order, .int f_n_ordered, .ref a_n_tally, .ref a_n_behind])), (a_n_inputs, aI E 50 g_n_inputs), (a_n_sources, aI E 200 g_n_sources), (a_n_kinds, aI E 50 g_n_kinds)] H := hP.sub [2, 0, 1, 3] rfl
          replace hD : va_D A [(o_n, .inr (1, [.int f_n_cells, .ref a_n_kinds, .ref a_n_inputs, .ref a_n_tables, .ref a_n_sizes, .ref a_n_extras, .ref a_n_sources, .ref a_n_takers, .ref a_n_firstTaker, .ref a_n_order, .int f_n_ordered, .ref a_n_tally, .ref a_n_behind])), (a_n_inputs, aI E 50 g_n_inputs), (a_n_sources, aI E 200 g_n_sources), (a_n_kinds, aI E 50 g_n_kinds)] := hD.sub [2, 0, 1, 3] (by decide) rfl
          apply ih_d_4 (y_2 := x_15) (y_3 := y_3) (H := H) (locs := locs) (ls := ls) <;> first | assumption | omega | decide
        · have e_14 : r_13.toInt ≠ 0 := i3_ne c_14
          obtain ⟨x_16, ex_16⟩ : ∃ y : Int32, y = y_3 + 1 := ⟨_, rfl⟩
          refine lv_iinc (v := x_16) (lv' := [(2, .int x_16), (3, .int y_2), (0, .ref o_n), (1, .int p1)]) hx hb dX1_gatesTakenBy_42 hl (k := 1) rfl (by rw [ex_16]; rfl) (by decide) rfl (fun ls hl => ?_)
          obtain ⟨x_17, ex_17⟩ : ∃ y : Int32, y = y_2 + 1 := ⟨_, rfl⟩
          have tx_17 : x_17.toInt = y_2.toInt + 1 := i3_addc rfl rfl ex_17 (by omega)
          refine lv_iinc (v := x_17) (lv' := [(3, .int x_17), (2, .int x_16), (0, .ref o_n), (1, .int p1)]) hx hb dX1_gatesTakenBy_45 hl (k := 1) rfl (by rw [ex_17]; rfl) (by decide) rfl (fun ls hl => ?_)
          refine lv_goto (tgt := 6) hx hb dX1_gatesTakenBy_48 (by decide) ?_
          replace hP : va_P E.1 vwCl [(o_n, .inr (1, [.int f_n_cells, .ref a_n_kinds, .ref a_n_inputs, .ref a_n_tables, .ref a_n_sizes, .ref a_n_extras, .ref a_n_sources, .ref a_n_takers, .ref a_n_firstTaker, .ref a_n_order, .int f_n_ordered, .ref a_n_tally, .ref a_n_behind])), (a_n_inputs, aI E 50 g_n_inputs), (a_n_sources, aI E 200 g_n_sources), (a_n_kinds, aI E 50 g_n_kinds)] H := hP.sub [2, 0, 1, 3] rfl
          replace hD : va_D A [(o_n, .inr (1, [.int f_n_cells, .ref a_n_kinds, .ref a_n_inputs, .ref a_n_tables, .ref a_n_sizes, .ref a_n_extras, .ref a_n_sources, .ref a_n_takers, .ref a_n_firstTaker, .ref a_n_order, .int f_n_ordered, .ref a_n_tally, .ref a_n_behind])), (a_n_inputs, aI E 50 g_n_inputs), (a_n_sources, aI E 200 g_n_sources), (a_n_kinds, aI E 50 g_n_kinds)] := hD.sub [2, 0, 1, 3] (by decide) rfl
          have bd_18 := i3_bd x_16
          apply ih_d_4 (y_2 := x_17) (y_3 := x_16) (H := H) (locs := locs) (ls := ls) <;> first | assumption | omega | decide
theorem dX0_hasOrRoot_0 : decode cX0_hasOrRoot 0 = .ok (.iload_n 1, 1) := by decide +kernel
theorem dX0_hasOrRoot_1 : decode cX0_hasOrRoot 1 = .ok (.iconst (-1), 1) := by decide +kernel
theorem dX0_hasOrRoot_2 : decode cX0_hasOrRoot 2 = .ok (.if_icmp .lt 15, 3) := by decide +kernel
theorem dX0_hasOrRoot_17 : decode cX0_hasOrRoot 17 = .ok (.iconst 0, 1) := by decide +kernel
theorem dX0_hasOrRoot_18 : decode cX0_hasOrRoot 18 = .ok (.ireturn, 1) := by decide +kernel
theorem dX0_hasOrRoot_5 : decode cX0_hasOrRoot 5 = .ok (.iload_n 1, 1) := by decide +kernel
theorem dX0_hasOrRoot_6 : decode cX0_hasOrRoot 6 = .ok (.aload_n 0, 1) := by decide +kernel
theorem dX0_hasOrRoot_7 : decode cX0_hasOrRoot 7 = .ok (.getfield 25, 3) := by decide +kernel
theorem dX0_hasOrRoot_10 : decode cX0_hasOrRoot 10 = .ok (.if_icmp .ge 7, 3) := by decide +kernel
theorem dX0_hasOrRoot_13 : decode cX0_hasOrRoot 13 = .ok (.iconst 1, 1) := by decide +kernel
theorem dX0_hasOrRoot_14 : decode cX0_hasOrRoot 14 = .ok (.goto 4, 3) := by decide +kernel
def wo_q_hasOrRoot : List Cond := [.code yX0_hasOrRoot cX0_hasOrRoot 2 (some .boolean), .fieldLink RX0 25 "TimingHouse$Clock" "nodes" "I"]
def wr_q_hasOrRoot : List Cond := (wsX00 ++ ([]))
def w_q_hasOrRoot : List Cond := wo_q_hasOrRoot ++ wr_q_hasOrRoot
theorem wg_q_hasOrRoot : GW w_q_hasOrRoot := GW_app (GW_of (by decide +kernel)) (GW_app (GW_of (by decide +kernel)) (GW_nil))
theorem i_q_hasOrRoot_X0 : ∀ w ∈ wsX00, w ∈ w_q_hasOrRoot := fun _ h => List.mem_append_right _ (List.mem_append_left _ h)
set_option maxHeartbeats 8000000 in
set_option maxRecDepth 100000 in
theorem q_hasOrRoot (l : Launch) (E : gE) (o_k a_k_parents a_k_earlySums a_k_lateSums : Nat) (f_k_length f_k_nodes p1 : Int32) (r_f_k_length : RG f_k_length 1 1000000) (r_f_k_nodes : RG f_k_nodes 0 20) : CtI l E yX0_hasOrRoot w_q_hasOrRoot ({ frames := 0, cells := 0, slots := 0, locals := 0 }) [(o_k, .inr (0, [.int f_k_length, .int f_k_nodes, .ref a_k_parents, .ref a_k_earlySums, .ref a_k_lateSums]))] [.ref o_k, .int p1] (fun r w => (0 ≤ r.toInt ∧ r.toInt ≤ 1) ∧ w = [(o_k, .inr (0, [.int f_k_length, .int f_k_nodes, .ref a_k_parents, .ref a_k_earlySums, .ref a_k_lateSums]))]) := by
  refine CtI.of (cc := cX0_hasOrRoot) (maxL := 2) (rt := (some .boolean)) (by decide) rfl (Nat.le_of_ble_eq_true rfl) ?_
  intro p e s m below meth c A B ls hl
  obtain ⟨hx, hb, hml, hr, hlk, hin, hts, hown, hK, hN, hZ, hA, hP, hD, hS⟩ := B
  replace hown : s.vm.findClass RX0 = some m.cls := hown
  have hto : ∀ w ∈ wo_q_hasOrRoot, w.before _ s = true := fun w h => hts w (List.mem_append_left _ h)
  replace hl : lv_has ls 2 [(0, .ref o_k), (1, .int p1)] := hl
  obtain ⟨H, hHe⟩ : ∃ H, H = s.heap := ⟨_, rfl⟩
  obtain ⟨locs, hle⟩ : ∃ l : List Loc, l = [] := ⟨_, rfl⟩
  replace hS : va_S A s.heap H locs := by rw [hHe, hle]; exact hS
  replace hP : va_P E.1 vwCl [(o_k, .inr (0, [.int f_k_length, .int f_k_nodes, .ref a_k_parents, .ref a_k_earlySums, .ref a_k_lateSums]))] H := by rw [hHe]; exact hP
  refine W_hl hHe hle ?_
  clear hHe hle
  refine lv_iload_n hx hb dX0_hasOrRoot_0 rfl (lv_at hl 1 rfl) ?_
  refine lv_iconst (v := (-1)) hx hb dX0_hasOrRoot_1 (by decide) ?_
  refine lv_icmp_lt (tgt := 17) hx hb dX0_hasOrRoot_2 (by decide) (fun c_1 => ?_) (fun c_1 => ?_)
  · have e_1 : p1.toInt < (-1) := i3_lt c_1
    refine lv_iconst (v := 0) hx hb dX0_hasOrRoot_17 (by decide) ?_
    exact ret_i hx hb hr hlk (hP.sub (ws' := [(o_k, .inr (0, [.int f_k_length, .int f_k_nodes, .ref a_k_parents, .ref a_k_earlySums, .ref a_k_lateSums]))]) [0] rfl) (hD.sub (ws' := [(o_k, .inr (0, [.int f_k_length, .int f_k_nodes, .ref a_k_parents, .ref a_k_earlySums, .ref a_k_lateSums]))]) [0] (by decide) rfl) hS rfl dX0_hasOrRoot_18 (Nat.le_of_ble_eq_true rfl) (Nat.le_of_ble_eq_true rfl) ⟨(by decide), rfl⟩
  · have e_1 : (-1) ≤ p1.toInt := i3_nlt c_1
    refine lv_iload_n hx hb dX0_hasOrRoot_5 rfl (lv_at hl 1 rfl) ?_
    refine lv_aload_n hx hb dX0_hasOrRoot_6 rfl (lv_at hl 0 rfl) ?_
    refine va_get (D := E.1) (ci := 0) (v := .int f_k_nodes) (own := RX0) (C := RX0) (T := TX0) (N := 5) hx hb hts i_q_hasOrRoot_X0 hown hK hP 0 rfl rfl 1 (by decide) (hto (.fieldLink RX0 25 "TimingHouse$Clock" "nodes" "I") (by decide +kernel)) (fun _ h9 => h9) rfl dX0_hasOrRoot_7 ?_
    have b_f_k_nodes := r_f_k_nodes.out
    refine lv_icmp_ge (tgt := 17) hx hb dX0_hasOrRoot_10 (by decide) (fun c_2 => ?_) (fun c_2 => ?_)
    · have e_2 : f_k_nodes.toInt ≤ p1.toInt := i3_le c_2
      refine lv_iconst (v := 0) hx hb dX0_hasOrRoot_17 (by decide) ?_
      exact ret_i hx hb hr hlk (hP.sub (ws' := [(o_k, .inr (0, [.int f_k_length, .int f_k_nodes, .ref a_k_parents, .ref a_k_earlySums, .ref a_k_lateSums]))]) [0] rfl) (hD.sub (ws' := [(o_k, .inr (0, [.int f_k_length, .int f_k_nodes, .ref a_k_parents, .ref a_k_earlySums, .ref a_k_lateSums]))]) [0] (by decide) rfl) hS rfl dX0_hasOrRoot_18 (Nat.le_of_ble_eq_true rfl) (Nat.le_of_ble_eq_true rfl) ⟨(by decide), rfl⟩
    · have e_2 : p1.toInt < f_k_nodes.toInt := i3_nle c_2
      refine lv_iconst (v := 1) hx hb dX0_hasOrRoot_13 (by decide) ?_
      refine lv_goto (tgt := 18) hx hb dX0_hasOrRoot_14 (by decide) ?_
      exact ret_i hx hb hr hlk (hP.sub (ws' := [(o_k, .inr (0, [.int f_k_length, .int f_k_nodes, .ref a_k_parents, .ref a_k_earlySums, .ref a_k_lateSums]))]) [0] rfl) (hD.sub (ws' := [(o_k, .inr (0, [.int f_k_length, .int f_k_nodes, .ref a_k_parents, .ref a_k_earlySums, .ref a_k_lateSums]))]) [0] (by decide) rfl) hS rfl dX0_hasOrRoot_18 (Nat.le_of_ble_eq_true rfl) (Nat.le_of_ble_eq_true rfl) ⟨(by decide), rfl⟩
theorem dX0_earlyOf_0 : decode cX0_earlyOf 0 = .ok (.iload_n 1, 1) := by decide +kernel
theorem dX0_earlyOf_1 : decode cX0_earlyOf 1 = .ok (.ifCond .ge 7, 3) := by decide +kernel
theorem dX0_earlyOf_8 : decode cX0_earlyOf 8 = .ok (.aload_n 0, 1) := by decide +kernel
theorem dX0_earlyOf_9 : decode cX0_earlyOf 9 = .ok (.getfield 19, 3) := by decide +kernel
theorem dX0_earlyOf_12 : decode cX0_earlyOf 12 = .ok (.iload_n 1, 1) := by decide +kernel
theorem dX0_earlyOf_13 : decode cX0_earlyOf 13 = .ok (.iaload, 1) := by decide +kernel
theorem dX0_earlyOf_14 : decode cX0_earlyOf 14 = .ok (.ireturn, 1) := by decide +kernel
theorem dX0_earlyOf_4 : decode cX0_earlyOf 4 = .ok (.iconst 0, 1) := by decide +kernel
theorem dX0_earlyOf_5 : decode cX0_earlyOf 5 = .ok (.goto 9, 3) := by decide +kernel
def wo_q_earlyOf : List Cond := [.code yX0_earlyOf cX0_earlyOf 2 (some .int), .fieldLink RX0 19 "TimingHouse$Clock" "earlySums" "[I"]
def wr_q_earlyOf : List Cond := (wsX00 ++ ([]))
def w_q_earlyOf : List Cond := wo_q_earlyOf ++ wr_q_earlyOf
theorem wg_q_earlyOf : GW w_q_earlyOf := GW_app (GW_of (by decide +kernel)) (GW_app (GW_of (by decide +kernel)) (GW_nil))
theorem i_q_earlyOf_X0 : ∀ w ∈ wsX00, w ∈ w_q_earlyOf := fun _ h => List.mem_append_right _ (List.mem_append_left _ h)
set_option maxHeartbeats 8000000 in
set_option maxRecDepth 100000 in
theorem q_earlyOf (l : Launch) (E : gE) (o_k a_k_parents a_k_earlySums a_k_lateSums : Nat) (f_k_length f_k_nodes p1 : Int32) (g_k_earlySums : Nat → Int32) (r_f_k_length : RG f_k_length 1 1000000) (r_f_k_nodes : RG f_k_nodes 0 20) (r_p1 : RG p1 (-1) 19) : CtI l E yX0_earlyOf w_q_earlyOf ({ frames := 0, cells := 0, slots := 0, locals := 0 }) [(o_k, .inr (0, [.int f_k_length, .int f_k_nodes, .ref a_k_parents, .ref a_k_earlySums, .ref a_k_lateSums])), (a_k_earlySums, aI E 20 g_k_earlySums)] [.ref o_k, .int p1] (fun _ w => True ∧ w = [(o_k, .inr (0, [.int f_k_length, .int f_k_nodes, .ref a_k_parents, .ref a_k_earlySums, .ref a_k_lateSums])), (a_k_earlySums, aI E 20 g_k_earlySums)]) := by
  refine CtI.of (cc := cX0_earlyOf) (maxL := 2) (rt := (some .int)) (by decide) rfl (Nat.le_of_ble_eq_true rfl) ?_
  intro p e s m below meth c A B ls hl
  obtain ⟨hx, hb, hml, hr, hlk, hin, hts, hown, hK, hN, hZ, hA, hP, hD, hS⟩ := B
  replace hown : s.vm.findClass RX0 = some m.cls := hown
  have hto : ∀ w ∈ wo_q_earlyOf, w.before _ s = true := fun w h => hts w (List.mem_append_left _ h)
  replace hl : lv_has ls 2 [(0, .ref o_k), (1, .int p1)] := hl
  obtain ⟨H, hHe⟩ : ∃ H, H = s.heap := ⟨_, rfl⟩
  obtain ⟨locs, hle⟩ : ∃ l : List Loc, l = [] := ⟨_, rfl⟩
  replace hS : va_S A s.heap H locs := by rw [hHe, hle]; exact hS
  replace hP : va_P E.1 vwCl [(o_k, .inr (0, [.int f_k_length, .int f_k_nodes, .ref a_k_parents, .ref a_k_earlySums, .ref a_k_lateSums])), (a_k_earlySums, aI E 20 g_k_earlySums)] H := by rw [hHe]; exact hP
  refine W_hl hHe hle ?_
  clear hHe hle
  refine lv_iload_n hx hb dX0_earlyOf_0 rfl (lv_at hl 1 rfl) ?_
  have b_p1 := r_p1.out
  refine lv_if_ge (tgt := 8) hx hb dX0_earlyOf_1 (by decide) (fun c_1 => ?_) (fun c_1 => ?_)
  · have e_1 : 0 ≤ p1.toInt := i3_le c_1
    refine lv_aload_n hx hb dX0_earlyOf_8 rfl (lv_at hl 0 rfl) ?_
    refine va_get (D := E.1) (ci := 0) (v := .ref a_k_earlySums) (own := RX0) (C := RX0) (T := TX0) (N := 5) hx hb hts i_q_earlyOf_X0 hown hK hP 0 rfl rfl 3 (by decide) (hto (.fieldLink RX0 19 "TimingHouse$Clock" "earlySums" "[I") (by decide +kernel)) (fun _ h9 => h9) rfl dX0_earlyOf_9 ?_
    refine lv_iload_n hx hb dX0_earlyOf_12 rfl (lv_at hl 1 rfl) ?_
    refine ld_i hx hb hK hP 1 rfl (by omega) dX0_earlyOf_13 (fun x_2 ex_2 => ?_)
    exact ret_i hx hb hr hlk (hP.sub (ws' := [(o_k, .inr (0, [.int f_k_length, .int f_k_nodes, .ref a_k_parents, .ref a_k_earlySums, .ref a_k_lateSums])), (a_k_earlySums, aI E 20 g_k_earlySums)]) [0, 1] rfl) (hD.sub (ws' := [(o_k, .inr (0, [.int f_k_length, .int f_k_nodes, .ref a_k_parents, .ref a_k_earlySums, .ref a_k_lateSums])), (a_k_earlySums, aI E 20 g_k_earlySums)]) [0, 1] (by decide) rfl) hS rfl dX0_earlyOf_14 (Nat.le_of_ble_eq_true rfl) (Nat.le_of_ble_eq_true rfl) ⟨trivial, rfl⟩
  · have e_1 : p1.toInt < 0 := i3_nle c_1
    refine lv_iconst (v := 0) hx hb dX0_earlyOf_4 (by decide) ?_
    refine lv_goto (tgt := 14) hx hb dX0_earlyOf_5 (by decide) ?_
    exact ret_i hx hb hr hlk (hP.sub (ws' := [(o_k, .inr (0, [.int f_k_length, .int f_k_nodes, .ref a_k_parents, .ref a_k_earlySums, .ref a_k_lateSums])), (a_k_earlySums, aI E 20 g_k_earlySums)]) [0, 1] rfl) (hD.sub (ws' := [(o_k, .inr (0, [.int f_k_length, .int f_k_nodes, .ref a_k_parents, .ref a_k_earlySums, .ref a_k_lateSums])), (a_k_earlySums, aI E 20 g_k_earlySums)]) [0, 1] (by decide) rfl) hS rfl dX0_earlyOf_14 (Nat.le_of_ble_eq_true rfl) (Nat.le_of_ble_eq_true rfl) ⟨trivial, rfl⟩
theorem dX0_lateOf_0 : decode cX0_lateOf 0 = .ok (.iload_n 1, 1) := by decide +kernel
theorem dX0_lateOf_1 : decode cX0_lateOf 1 = .ok (.ifCond .ge 7, 3) := by decide +kernel
theorem dX0_lateOf_8 : decode cX0_lateOf 8 = .ok (.aload_n 0, 1) := by decide +kernel
theorem dX0_lateOf_9 : decode cX0_lateOf 9 = .ok (.getfield 22, 3) := by decide +kernel
theorem dX0_lateOf_12 : decode cX0_lateOf 12 = .ok (.iload_n 1, 1) := by decide +kernel
theorem dX0_lateOf_13 : decode cX0_lateOf 13 = .ok (.iaload, 1) := by decide +kernel
theorem dX0_lateOf_14 : decode cX0_lateOf 14 = .ok (.ireturn, 1) := by decide +kernel
theorem dX0_lateOf_4 : decode cX0_lateOf 4 = .ok (.iconst 0, 1) := by decide +kernel
theorem dX0_lateOf_5 : decode cX0_lateOf 5 = .ok (.goto 9, 3) := by decide +kernel
def wo_q_lateOf : List Cond := [.code yX0_lateOf cX0_lateOf 2 (some .int), .fieldLink RX0 22 "TimingHouse$Clock" "lateSums" "[I"]
def wr_q_lateOf : List Cond := (wsX00 ++ ([]))
def w_q_lateOf : List Cond := wo_q_lateOf ++ wr_q_lateOf
theorem wg_q_lateOf : GW w_q_lateOf := GW_app (GW_of (by decide +kernel)) (GW_app (GW_of (by decide +kernel)) (GW_nil))
theorem i_q_lateOf_X0 : ∀ w ∈ wsX00, w ∈ w_q_lateOf := fun _ h => List.mem_append_right _ (List.mem_append_left _ h)
set_option maxHeartbeats 8000000 in
set_option maxRecDepth 100000 in
theorem q_lateOf (l : Launch) (E : gE) (o_k a_k_parents a_k_earlySums a_k_lateSums : Nat) (f_k_length f_k_nodes p1 : Int32) (g_k_lateSums : Nat → Int32) (r_f_k_length : RG f_k_length 1 1000000) (r_f_k_nodes : RG f_k_nodes 0 20) (r_p1 : RG p1 (-1) 19) : CtI l E yX0_lateOf w_q_lateOf ({ frames := 0, cells := 0, slots := 0, locals := 0 }) [(o_k, .inr (0, [.int f_k_length, .int f_k_nodes, .ref a_k_parents, .ref a_k_earlySums, .ref a_k_lateSums])), (a_k_lateSums, aI E 20 g_k_lateSums)] [.ref o_k, .int p1] (fun _ w => True ∧ w = [(o_k, .inr (0, [.int f_k_length, .int f_k_nodes, .ref a_k_parents, .ref a_k_earlySums, .ref a_k_lateSums])), (a_k_lateSums, aI E 20 g_k_lateSums)]) := by
  refine CtI.of (cc := cX0_lateOf) (maxL := 2) (rt := (some .int)) (by decide) rfl (Nat.le_of_ble_eq_true rfl) ?_
  intro p e s m below meth c A B ls hl
  obtain ⟨hx, hb, hml, hr, hlk, hin, hts, hown, hK, hN, hZ, hA, hP, hD, hS⟩ := B
  replace hown : s.vm.findClass RX0 = some m.cls := hown
  have hto : ∀ w ∈ wo_q_lateOf, w.before _ s = true := fun w h => hts w (List.mem_append_left _ h)
  replace hl : lv_has ls 2 [(0, .ref o_k), (1, .int p1)] := hl
  obtain ⟨H, hHe⟩ : ∃ H, H = s.heap := ⟨_, rfl⟩
  obtain ⟨locs, hle⟩ : ∃ l : List Loc, l = [] := ⟨_, rfl⟩
  replace hS : va_S A s.heap H locs := by rw [hHe, hle]; exact hS
  replace hP : va_P E.1 vwCl [(o_k, .inr (0, [.int f_k_length, .int f_k_nodes, .ref a_k_parents, .ref a_k_earlySums, .ref a_k_lateSums])), (a_k_lateSums, aI E 20 g_k_lateSums)] H := by rw [hHe]; exact hP
  refine W_hl hHe hle ?_
  clear hHe hle
  refine lv_iload_n hx hb dX0_lateOf_0 rfl (lv_at hl 1 rfl) ?_
  have b_p1 := r_p1.out
  refine lv_if_ge (tgt := 8) hx hb dX0_lateOf_1 (by decide) (fun c_1 => ?_) (fun c_1 => ?_)
  · have e_1 : 0 ≤ p1.toInt := i3_le c_1
    refine lv_aload_n hx hb dX0_lateOf_8 rfl (lv_at hl 0 rfl) ?_
    refine va_get (D := E.1) (ci := 0) (v := .ref a_k_lateSums) (own := RX0) (C := RX0) (T := TX0) (N := 5) hx hb hts i_q_lateOf_X0 hown hK hP 0 rfl rfl 4 (by decide) (hto (.fieldLink RX0 22 "TimingHouse$Clock" "lateSums" "[I") (by decide +kernel)) (fun _ h9 => h9) rfl dX0_lateOf_9 ?_
    refine lv_iload_n hx hb dX0_lateOf_12 rfl (lv_at hl 1 rfl) ?_
    refine ld_i hx hb hK hP 1 rfl (by omega) dX0_lateOf_13 (fun x_2 ex_2 => ?_)
    exact ret_i hx hb hr hlk (hP.sub (ws' := [(o_k, .inr (0, [.int f_k_length, .int f_k_nodes, .ref a_k_parents, .ref a_k_earlySums, .ref a_k_lateSums])), (a_k_lateSums, aI E 20 g_k_lateSums)]) [0, 1] rfl) (hD.sub (ws' := [(o_k, .inr (0, [.int f_k_length, .int f_k_nodes, .ref a_k_parents, .ref a_k_earlySums, .ref a_k_lateSums])), (a_k_lateSums, aI E 20 g_k_lateSums)]) [0, 1] (by decide) rfl) hS rfl dX0_lateOf_14 (Nat.le_of_ble_eq_true rfl) (Nat.le_of_ble_eq_true rfl) ⟨trivial, rfl⟩
  · have e_1 : p1.toInt < 0 := i3_nle c_1
    refine lv_iconst (v := 0) hx hb dX0_lateOf_4 (by decide) ?_
    refine lv_goto (tgt := 14) hx hb dX0_lateOf_5 (by decide) ?_
    exact ret_i hx hb hr hlk (hP.sub (ws' := [(o_k, .inr (0, [.int f_k_length, .int f_k_nodes, .ref a_k_parents, .ref a_k_earlySums, .ref a_k_lateSums])), (a_k_lateSums, aI E 20 g_k_lateSums)]) [0, 1] rfl) (hD.sub (ws' := [(o_k, .inr (0, [.int f_k_length, .int f_k_nodes, .ref a_k_parents, .ref a_k_earlySums, .ref a_k_lateSums])), (a_k_lateSums, aI E 20 g_k_lateSums)]) [0, 1] (by decide) rfl) hS rfl dX0_lateOf_14 (Nat.le_of_ble_eq_true rfl) (Nat.le_of_ble_eq_true rfl) ⟨trivial, rfl⟩
theorem dX0_sharedOf_0 : decode cX0_sharedOf 0 = .ok (.iload_n 1, 1) := by decide +kernel
theorem dX0_sharedOf_1 : decode cX0_sharedOf 1 = .ok (.istore_n 3, 1) := by decide +kernel
theorem dX0_sharedOf_2 : decode cX0_sharedOf 2 = .ok (.iload_n 2, 1) := by decide +kernel
theorem dX0_sharedOf_3 : decode cX0_sharedOf 3 = .ok (.istore 4, 2) := by decide +kernel
theorem dX0_sharedOf_5 : decode cX0_sharedOf 5 = .ok (.iconst 0, 1) := by decide +kernel
theorem dX0_sharedOf_6 : decode cX0_sharedOf 6 = .ok (.istore 5, 2) := by decide +kernel
theorem dX0_sharedOf_8 : decode cX0_sharedOf 8 = .ok (.iload 5, 2) := by decide +kernel
theorem dX0_sharedOf_10 : decode cX0_sharedOf 10 = .ok (.bipush 40, 2) := by decide +kernel
theorem dX0_sharedOf_12 : decode cX0_sharedOf 12 = .ok (.if_icmp .ge 40, 3) := by decide +kernel
theorem dX0_sharedOf_52 : decode cX0_sharedOf 52 = .ok (.iload_n 3, 1) := by decide +kernel
theorem dX0_sharedOf_53 : decode cX0_sharedOf 53 = .ok (.ifCond .ge 7, 3) := by decide +kernel
theorem dX0_sharedOf_60 : decode cX0_sharedOf 60 = .ok (.aload_n 0, 1) := by decide +kernel
theorem dX0_sharedOf_61 : decode cX0_sharedOf 61 = .ok (.getfield 22, 3) := by decide +kernel
theorem dX0_sharedOf_64 : decode cX0_sharedOf 64 = .ok (.iload_n 3, 1) := by decide +kernel
theorem dX0_sharedOf_65 : decode cX0_sharedOf 65 = .ok (.iaload, 1) := by decide +kernel
theorem dX0_sharedOf_66 : decode cX0_sharedOf 66 = .ok (.aload_n 0, 1) := by decide +kernel
theorem dX0_sharedOf_67 : decode cX0_sharedOf 67 = .ok (.getfield 19, 3) := by decide +kernel
theorem dX0_sharedOf_70 : decode cX0_sharedOf 70 = .ok (.iload_n 3, 1) := by decide +kernel
theorem dX0_sharedOf_71 : decode cX0_sharedOf 71 = .ok (.iaload, 1) := by decide +kernel
theorem dX0_sharedOf_72 : decode cX0_sharedOf 72 = .ok (.isub, 1) := by decide +kernel
theorem dX0_sharedOf_73 : decode cX0_sharedOf 73 = .ok (.ireturn, 1) := by decide +kernel
theorem dX0_sharedOf_56 : decode cX0_sharedOf 56 = .ok (.iconst 0, 1) := by decide +kernel
theorem dX0_sharedOf_57 : decode cX0_sharedOf 57 = .ok (.goto 16, 3) := by decide +kernel
theorem dX0_sharedOf_15 : decode cX0_sharedOf 15 = .ok (.iload_n 3, 1) := by decide +kernel
theorem dX0_sharedOf_16 : decode cX0_sharedOf 16 = .ok (.iload 4, 2) := by decide +kernel
theorem dX0_sharedOf_18 : decode cX0_sharedOf 18 = .ok (.if_icmp .eq 34, 3) := by decide +kernel
theorem dX0_sharedOf_21 : decode cX0_sharedOf 21 = .ok (.iload_n 3, 1) := by decide +kernel
theorem dX0_sharedOf_22 : decode cX0_sharedOf 22 = .ok (.iload 4, 2) := by decide +kernel
theorem dX0_sharedOf_24 : decode cX0_sharedOf 24 = .ok (.if_icmp .le 13, 3) := by decide +kernel
theorem dX0_sharedOf_37 : decode cX0_sharedOf 37 = .ok (.aload_n 0, 1) := by decide +kernel
theorem dX0_sharedOf_38 : decode cX0_sharedOf 38 = .ok (.getfield 15, 3) := by decide +kernel
theorem dX0_sharedOf_41 : decode cX0_sharedOf 41 = .ok (.iload 4, 2) := by decide +kernel
theorem dX0_sharedOf_43 : decode cX0_sharedOf 43 = .ok (.iaload, 1) := by decide +kernel
theorem dX0_sharedOf_44 : decode cX0_sharedOf 44 = .ok (.istore 4, 2) := by decide +kernel
theorem dX0_sharedOf_46 : decode cX0_sharedOf 46 = .ok (.iinc 5 1, 3) := by decide +kernel
theorem dX0_sharedOf_49 : decode cX0_sharedOf 49 = .ok (.goto (-41), 3) := by decide +kernel
theorem dX0_sharedOf_27 : decode cX0_sharedOf 27 = .ok (.aload_n 0, 1) := by decide +kernel
theorem dX0_sharedOf_28 : decode cX0_sharedOf 28 = .ok (.getfield 15, 3) := by decide +kernel
theorem dX0_sharedOf_31 : decode cX0_sharedOf 31 = .ok (.iload_n 3, 1) := by decide +kernel
theorem dX0_sharedOf_32 : decode cX0_sharedOf 32 = .ok (.iaload, 1) := by decide +kernel
theorem dX0_sharedOf_33 : decode cX0_sharedOf 33 = .ok (.istore_n 3, 1) := by decide +kernel
theorem dX0_sharedOf_34 : decode cX0_sharedOf 34 = .ok (.goto 12, 3) := by decide +kernel
def wo_q_csharedOf : List Cond := [.code yX0_sharedOf cX0_sharedOf 6 (some .int), .fieldLink RX0 22 "TimingHouse$Clock" "lateSums" "[I", .fieldLink RX0 19 "TimingHouse$Clock" "earlySums" "[I", .fieldLink RX0 15 "TimingHouse$Clock" "parents" "[I"]
def wr_q_csharedOf : List Cond := (wsX00 ++ ([]))
def w_q_csharedOf : List Cond := wo_q_csharedOf ++ wr_q_csharedOf
theorem wg_q_csharedOf : GW w_q_csharedOf := GW_app (GW_of (by decide +kernel)) (GW_app (GW_of (by decide +kernel)) (GW_nil))
theorem i_q_csharedOf_X0 : ∀ w ∈ wsX00, w ∈ w_q_csharedOf := fun _ h => List.mem_append_right _ (List.mem_append_left _ h)
set_option maxHeartbeats 8000000 in
set_option maxRecDepth 100000 in
theorem q_csharedOf (l : Launch) (E : gE) (o_k a_k_parents a_k_earlySums a_k_lateSums : Nat) (f_k_length f_k_nodes p1 p2 : Int32) (g_k_lateSums : Nat → Int32) (g_k_earlySums : Nat → Int32) (g_k_parents : Nat → Int32) (r_f_k_length : RG f_k_length 1 1000000) (r_f_k_nodes : RG f_k_nodes 0 20) (i_g_k_parents : AR g_k_parents 20 (-1) 19) (r_p1 : RG p1 (-1) 19) (r_p2 : RG p2 (-1) 19) : CtI l E yX0_sharedOf w_q_csharedOf ({ frames := 0, cells := 0, slots := 0, locals := 0 }) [(o_k, .inr (0, [.int f_k_length, .int f_k_nodes, .ref a_k_parents, .ref a_k_earlySums, .ref a_k_lateSums])), (a_k_lateSums, aI E 20 g_k_lateSums), (a_k_earlySums, aI E 20 g_k_earlySums), (a_k_parents, aI E 20 g_k_parents)] [.ref o_k, .int p1, .int p2] (fun _ w => True ∧ w = [(o_k, .inr (0, [.int f_k_length, .int f_k_nodes, .ref a_k_parents, .ref a_k_earlySums, .ref a_k_lateSums])), (a_k_lateSums, aI E 20 g_k_lateSums), (a_k_earlySums, aI E 20 g_k_earlySums), (a_k_parents, aI E 20 g_k_parents)]) := by
  refine CtI.of (cc := cX0_sharedOf) (maxL := 6) (rt := (some .int)) (by decide) rfl (Nat.le_of_ble_eq_true rfl) ?_
  intro p e s m below meth c A B ls hl
  obtain ⟨hx, hb, hml, hr, hlk, hin, hts, hown, hK, hN, hZ, hA, hP, hD, hS⟩ := B
  replace hown : s.vm.findClass RX0 = some m.cls := hown
  have hto : ∀ w ∈ wo_q_csharedOf, w.before _ s = true := fun w h => hts w (List.mem_append_left _ h)
  replace hl : lv_has ls 6 [(0, .ref o_k), (1, .int p1), (2, .int p2)] := hl
  obtain ⟨H, hHe⟩ : ∃ H, H = s.heap := ⟨_, rfl⟩
  obtain ⟨locs, hle⟩ : ∃ l : List Loc, l = [] := ⟨_, rfl⟩
  replace hS : va_S A s.heap H locs := by rw [hHe, hle]; exact hS
  replace hP : va_P E.1 vwCl [(o_k, .inr (0, [.int f_k_length, .int f_k_nodes, .ref a_k_parents, .ref a_k_earlySums, .ref a_k_lateSums])), (a_k_lateSums, aI E 20 g_k_lateSums), (a_k_earlySums, aI E 20 g_k_earlySums), (a_k_parents, aI E 20 g_k_parents)] H := by rw [hHe]; exact hP
  refine W_hl hHe hle ?_
  clear hHe hle
  refine lv_iload_n hx hb dX0_sharedOf_0 rfl (lv_at hl 1 rfl) ?_
  refine lv_istore_n (lv' := [(3, .int p1), (0, .ref o_k), (1, .int p1), (2, .int p2)]) hx hb dX0_sharedOf_1 rfl hl (by decide) rfl (fun ls hl => ?_)
  refine lv_iload_n hx hb dX0_sharedOf_2 rfl (lv_at hl 3 rfl) ?_
  refine lv_istore (lv' := [(4, .int p2), (3, .int p1), (0, .ref o_k), (1, .int p1), (2, .int p2)]) hx hb dX0_sharedOf_3 hl (by decide) rfl (fun ls hl => ?_)
  refine lv_iconst (v := 0) hx hb dX0_sharedOf_5 (by decide) ?_
  refine lv_istore (lv' := [(5, .int 0), (4, .int p2), (3, .int p1), (0, .ref o_k), (1, .int p1), (2, .int p2)]) hx hb dX0_sharedOf_6 hl (by decide) rfl (fun ls hl => ?_)
  obtain ⟨y_1, hy_1⟩ : ∃ y : Int32, y = 0 := ⟨_, rfl⟩
  have b_y_1 : 0 ≤ y_1.toInt ∧ y_1.toInt ≤ 40 := by rw [hy_1]; decide
  have b_p2 := r_p2.out
  obtain ⟨y_2, hy_2⟩ : ∃ y : Int32, y = p2 := ⟨_, rfl⟩
  have b_y_2 : (-1) ≤ y_2.toInt ∧ y_2.toInt ≤ 19 := by rw [hy_2]; omega
  have b_p1 := r_p1.out
  obtain ⟨y_3, hy_3⟩ : ∃ y : Int32, y = p1 := ⟨_, rfl⟩
  have b_y_3 : (-1) ≤ y_3.toInt ∧ y_3.toInt ≤ 19 := by rw [hy_3]; omega
  replace hl : lv_has ls 6 [(5, .int y_1), (4, .int y_2), (3, .int y_3), (0, .ref o_k), (1, .int p1), (2, .int p2)] := by rw [hy_1, hy_2, hy_3]; exact hl
  clear hy_1 hy_2 hy_3
  obtain ⟨d_4, hd_4⟩ : ∃ d : Nat, 40 - y_1.toInt < (d : Int) := ⟨(40 - y_1.toInt + 1).toNat, by omega⟩
  induction d_4 generalizing y_1 y_2 y_3 H locs ls with
  | zero => exfalso; omega
  | succ d_4 ih_d_4 =>
    refine lv_iload hx hb dX0_sharedOf_8 (lv_at hl 0 rfl) ?_
    refine lv_bipush (v := 40) hx hb dX0_sharedOf_10 (by decide) ?_
    refine lv_icmp_ge (tgt := 52) hx hb dX0_sharedOf_12 (by decide) (fun c_5 => ?_) (fun c_5 => ?_)
    · have e_5 : 40 ≤ y_1.toInt := i3_le c_5
      refine lv_iload_n hx hb dX0_sharedOf_52 rfl (lv_at hl 2 rfl) ?_
      refine lv_if_ge (tgt := 60) hx hb dX0_sharedOf_53 (by decide) (fun c_6 => ?_) (fun c_6 => ?_)
      · have e_6 : 0 ≤ y_3.toInt := i3_le c_6
        refine lv_aload_n hx hb dX0_sharedOf_60 rfl (lv_at hl 3 rfl) ?_
        refine va_get (D := E.1) (ci := 0) (v := .ref a_k_lateSums) (own := RX0) (C := RX0) (T := TX0) (N := 5) hx hb hts i_q_csharedOf_X0 hown hK hP 0 rfl rfl 4 (by decide) (hto (.fieldLink RX0 22 "TimingHouse$Clock" "lateSums" "[I") (by decide +kernel)) (fun _ h9 => h9) rfl dX0_sharedOf_61 ?_
        refine lv_iload_n hx hb dX0_sharedOf_64 rfl (lv_at hl 2 rfl) ?_
        refine ld_i hx hb hK hP 1 rfl (by omega) dX0_sharedOf_65 (fun x_7 ex_7 => ?_)
        refine lv_aload_n hx hb dX0_sharedOf_66 rfl (lv_at hl 3 rfl) ?_
        refine va_get (D := E.1) (ci := 0) (v := .ref a_k_earlySums) (own := RX0) (C := RX0) (T := TX0) (N := 5) hx hb hts i_q_csharedOf_X0 hown hK hP 0 rfl rfl 3 (by decide) (hto (.fieldLink RX0 19 "TimingHouse$Clock" "earlySums" "[I") (by decide +kernel)) (fun _ h9 => h9) rfl dX0_sharedOf_67 ?_
        refine lv_iload_n hx hb dX0_sharedOf_70 rfl (lv_at hl 2 rfl) ?_
        refine ld_i hx hb hK hP 2 rfl (by omega) dX0_sharedOf_71 (fun x_8 ex_8 => ?_)
        refine lv_isub hx hb dX0_sharedOf_72 ?_
        refine lv_topi (fun x_9 ex_9 => ?_)
        have bd_10 := i3_bd x_7
        have bd_11 := i3_bd x_8
        exact ret_i hx hb hr hlk (hP.sub (ws' := [(o_k, .inr (0, [.int f_k_length, .int f_k_nodes, .ref a_k_parents, .ref a_k_earlySums, .ref a_k_lateSums])), (a_k_lateSums, aI E 20 g_k_lateSums), (a_k_earlySums, aI E 20 g_k_earlySums), (a_k_parents, aI E 20 g_k_parents)]) [0, 1, 2, 3] rfl) (hD.sub (ws' := [(o_k, .inr (0, [.int f_k_length, .int f_k_nodes, .ref a_k_parents, .ref a_k_earlySums, .ref a_k_lateSums])), (a_k_lateSums, aI E 20 g_k_lateSums), (a_k_earlySums, aI E 20 g_k_earlySums), (a_k_parents, aI E 20 g_k_parents)]) [0, 1, 2, 3] (by decide) rfl) hS rfl dX0_sharedOf_73 (Nat.le_of_ble_eq_true rfl) (Nat.le_of_ble_eq_true rfl) ⟨trivial, rfl⟩
      · have e_6 : y_3.toInt < 0 := i3_nle c_6
        refine lv_iconst (v := 0) hx hb dX0_sharedOf_56 (by decide) ?_
        refine lv_goto (tgt := 73) hx hb dX0_sharedOf_57 (by decide) ?_
        exact ret_i hx hb hr hlk (hP.sub (ws' := [(o_k, .inr (0, [.int f_k_length, .int f_k_nodes, .ref a_k_parents, .ref a_k_earlySums, .ref a_k_lateSums])), (a_k_lateSums, aI E 20 g_k_lateSums), (a_k_earlySums, aI E 20 g_k_earlySums), (a_k_parents, aI E 20 g_k_parents)]) [0, 1, 2, 3] rfl) (hD.sub (ws' := [(o_k, .inr (0, [.int f_k_length, .int f_k_nodes, .ref a_k_parents, .ref a_k_earlySums, .ref a_k_lateSums])), (a_k_lateSums, aI E 20 g_k_lateSums), (a_k_earlySums, aI E 20 g_k_earlySums), (a_k_parents, aI E 20 g_k_parents)]) [0, 1, 2, 3] (by decide) rfl) hS rfl dX0_sharedOf_73 (Nat.le_of_ble_eq_true rfl) (Nat.le_of_ble_eq_true rfl) ⟨trivial, rfl⟩
    · have e_5 : y_1.toInt < 40 := i3_nle c_5
      refine lv_iload_n hx hb dX0_sharedOf_15 rfl (lv_at hl 2 rfl) ?_
      refine lv_iload hx hb dX0_sharedOf_16 (lv_at hl 1 rfl) ?_
      refine lv_icmp_eq (tgt := 52) hx hb dX0_sharedOf_18 (by decide) (fun c_12 => ?_) (fun c_12 => ?_)
      · have e_12 : y_3.toInt = y_2.toInt := i3_eq c_12
        refine lv_iload_n hx hb dX0_sharedOf_52 rfl (lv_at hl 2 rfl) ?_
        refine lv_if_ge (tgt := 60) hx hb dX0_sharedOf_53 (by decide) (fun c_13 => ?_) (fun c_13 => ?_)
        · have e_13 : 0 ≤ y_3.toInt := i3_le c_13
          refine lv_aload_n hx hb dX0_sharedOf_60 rfl (lv_at hl 3 rfl) ?_
          refine va_get (D := E.1) (ci := 0) (v := .ref a_k_lateSums) (own := RX0) (C := RX0) (T := TX0) (N := 5) hx hb hts i_q_csharedOf_X0 hown hK hP 0 rfl rfl 4 (by decide) (hto (.fieldLink RX0 22 "TimingHouse$Clock" "lateSums" "[I") (by decide +kernel)) (fun _ h9 => h9) rfl dX0_sharedOf_61 ?_
          refine lv_iload_n hx hb dX0_sharedOf_64 rfl (lv_at hl 2 rfl) ?_
          refine ld_i hx hb hK hP 1 rfl (by omega) dX0_sharedOf_65 (fun x_14 ex_14 => ?_)
          refine lv_aload_n hx hb dX0_sharedOf_66 rfl (lv_at hl 3 rfl) ?_
          refine va_get (D := E.1) (ci := 0) (v := .ref a_k_earlySums) (own := RX0) (C := RX0) (T := TX0) (N := 5) hx hb hts i_q_csharedOf_X0 hown hK hP 0 rfl rfl 3 (by decide) (hto (.fieldLink RX0 19 "TimingHouse$Clock" "earlySums" "[I") (by decide +kernel)) (fun _ h9 => h9) rfl dX0_sharedOf_67 ?_
          refine lv_iload_n hx hb dX0_sharedOf_70 rfl (lv_at hl 2 rfl) ?_
          refine ld_i hx hb hK hP 2 rfl (by omega) dX0_sharedOf_71 (fun x_15 ex_15 => ?_)
          refine lv_isub hx hb dX0_sharedOf_72 ?_
          refine lv_topi (fun x_16 ex_16 => ?_)
          have bd_17 := i3_bd x_14
          have bd_18 := i3_bd x_15
          exact ret_i hx hb hr hlk (hP.sub (ws' := [(o_k, .inr (0, [.int f_k_length, .int f_k_nodes, .ref a_k_parents, .ref a_k_earlySums, .ref a_k_lateSums])), (a_k_lateSums, aI E 20 g_k_lateSums), (a_k_earlySums, aI E 20 g_k_earlySums), (a_k_parents, aI E 20 g_k_parents)]) [0, 1, 2, 3] rfl) (hD.sub (ws' := [(o_k, .inr (0, [.int f_k_length, .int f_k_nodes, .ref a_k_parents, .ref a_k_earlySums, .ref a_k_lateSums])), (a_k_lateSums, aI E 20 g_k_lateSums), (a_k_earlySums, aI E 20 g_k_earlySums), (a_k_parents, aI E 20 g_k_parents)]) [0, 1, 2, 3] (by decide) rfl) hS rfl dX0_sharedOf_73 (Nat.le_of_ble_eq_true rfl) (Nat.le_of_ble_eq_true rfl) ⟨trivial, rfl⟩
        · have e_13 : y_3.toInt < 0 := i3_nle c_13
          refine lv_iconst (v := 0) hx hb dX0_sharedOf_56 (by decide) ?_
          refine lv_goto (tgt := 73) hx hb dX0_sharedOf_57 (by decide) ?_
          exact ret_i hx hb hr hlk (hP.sub (ws' := [(o_k, .inr (0, [.int f_k_length, .int f_k_nodes, .ref a_k_parents, .ref a_k_earlySums, .ref a_k_lateSums])), (a_k_lateSums, aI E 20 g_k_lateSums), (a_k_earlySums, aI E 20 g_k_earlySums), (a_k_parents, aI E 20 g_k_parents)]) [0, 1, 2, 3] rfl) (hD.sub (ws' := [(o_k, .inr (0, [.int f_k_length, .int f_k_nodes, .ref a_k_parents, .ref a_k_earlySums, .ref a_k_lateSums])), (a_k_lateSums, aI E 20 g_k_lateSums), (a_k_earlySums, aI E 20 g_k_earlySums), (a_k_parents, aI E 20 g_k_parents)]) [0, 1, 2, 3] (by decide) rfl) hS rfl dX0_sharedOf_73 (Nat.le_of_ble_eq_true rfl) (Nat.le_of_ble_eq_true rfl) ⟨trivial, rfl⟩
      · have e_12 : y_3.toInt ≠ y_2.toInt := i3_ne c_12
        refine lv_iload_n hx hb dX0_sharedOf_21 rfl (lv_at hl 2 rfl) ?_
        refine lv_iload hx hb dX0_sharedOf_22 (lv_at hl 1 rfl) ?_
        refine lv_icmp_le (tgt := 37) hx hb dX0_sharedOf_24 (by decide) (fun c_19 => ?_) (fun c_19 => ?_)
        · have e_19 : y_3.toInt ≤ y_2.toInt := i3_le c_19
          refine lv_aload_n hx hb dX0_sharedOf_37 rfl (lv_at hl 3 rfl) ?_
          refine va_get (D := E.1) (ci := 0) (v := .ref a_k_parents) (own := RX0) (C := RX0) (T := TX0) (N := 5) hx hb hts i_q_csharedOf_X0 hown hK hP 0 rfl rfl 2 (by decide) (hto (.fieldLink RX0 15 "TimingHouse$Clock" "parents" "[I") (by decide +kernel)) (fun _ h9 => h9) rfl dX0_sharedOf_38 ?_
          refine lv_iload hx hb dX0_sharedOf_41 (lv_at hl 1 rfl) ?_
          refine ld_i hx hb hK hP 3 rfl (by omega) dX0_sharedOf_43 (fun x_20 ex_20 => ?_)
          have b_x_20 := AR.rd i_g_k_parents ex_20 (by omega)
          refine lv_istore (lv' := [(4, .int x_20), (5, .int y_1), (3, .int y_3), (0, .ref o_k), (1, .int p1), (2, .int p2)]) hx hb dX0_sharedOf_44 hl (by decide) rfl (fun ls hl => ?_)
          obtain ⟨x_21, ex_21⟩ : ∃ y : Int32, y = y_1 + 1 := ⟨_, rfl⟩
          have tx_21 : x_21.toInt = y_1.toInt + 1 := i3_addc rfl rfl ex_21 (by omega)
          refine lv_iinc (v := x_21) (lv' := [(5, .int x_21), (4, .int x_20), (3, .int y_3), (0, .ref o_k), (1, .int p1), (2, .int p2)]) hx hb dX0_sharedOf_46 hl (k := 1) rfl (by rw [ex_21]; rfl) (by decide) rfl (fun ls hl => ?_)
          refine lv_goto (tgt := 8) hx hb dX0_sharedOf_49 (by decide) ?_
          apply ih_d_4 (y_1 := x_21) (y_2 := x_20) (y_3 := y_3) (H := H) (locs := locs) (ls := ls) <;> first | assumption | omega | decide
        · have e_19 : y_2.toInt < y_3.toInt := i3_nle c_19
          refine lv_aload_n hx hb dX0_sharedOf_27 rfl (lv_at hl 3 rfl) ?_
          refine va_get (D := E.1) (ci := 0) (v := .ref a_k_parents) (own := RX0) (C := RX0) (T := TX0) (N := 5) hx hb hts i_q_csharedOf_X0 hown hK hP 0 rfl rfl 2 (by decide) (hto (.fieldLink RX0 15 "TimingHouse$Clock" "parents" "[I") (by decide +kernel)) (fun _ h9 => h9) rfl dX0_sharedOf_28 ?_
          refine lv_iload_n hx hb dX0_sharedOf_31 rfl (lv_at hl 2 rfl) ?_
          refine ld_i hx hb hK hP 3 rfl (by omega) dX0_sharedOf_32 (fun x_22 ex_22 => ?_)
          have b_x_22 := AR.rd i_g_k_parents ex_22 (by omega)
          refine lv_istore_n (lv' := [(3, .int x_22), (5, .int y_1), (4, .int y_2), (0, .ref o_k), (1, .int p1), (2, .int p2)]) hx hb dX0_sharedOf_33 rfl hl (by decide) rfl (fun ls hl => ?_)
          refine lv_goto (tgt := 46) hx hb dX0_sharedOf_34 (by decide) ?_
          obtain ⟨x_23, ex_23⟩ : ∃ y : Int32, y = y_1 + 1 := ⟨_, rfl⟩
          have tx_23 : x_23.toInt = y_1.toInt + 1 := i3_addc rfl rfl ex_23 (by omega)
          refine lv_iinc (v := x_23) (lv' := [(5, .int x_23), (3, .int x_22), (4, .int y_2), (0, .ref o_k), (1, .int p1), (2, .int p2)]) hx hb dX0_sharedOf_46 hl (k := 1) rfl (by rw [ex_23]; rfl) (by decide) rfl (fun ls hl => ?_)
          refine lv_goto (tgt := 8) hx hb dX0_sharedOf_49 (by decide) ?_
          replace hl : lv_has ls 6 [(5, .int x_23), (4, .int y_2), (3, .int x_22), (0, .ref o_k), (1, .int p1), (2, .int p2)] := lv_sub hl [0, 2, 1, 3, 4, 5] rfl
          apply ih_d_4 (y_1 := x_23) (y_2 := y_2) (y_3 := x_22) (H := H) (locs := locs) (ls := ls) <;> first | assumption | omega | decide
theorem dX3_masks_0 : decode cX3_masks 0 = .ok (.iconst 1, 1) := by decide +kernel
theorem dX3_masks_1 : decode cX3_masks 1 = .ok (.aload_n 0, 1) := by decide +kernel
theorem dX3_masks_2 : decode cX3_masks 2 = .ok (.getfield 27, 3) := by decide +kernel
theorem dX3_masks_5 : decode cX3_masks 5 = .ok (.ishl, 1) := by decide +kernel
theorem dX3_masks_6 : decode cX3_masks 6 = .ok (.ireturn, 1) := by decide +kernel
def wo_q_masks : List Cond := [.code yX3_masks cX3_masks 1 (some .int), .fieldLink RX3 27 "TimingHouse$Rules" "told" "I"]
def wr_q_masks : List Cond := (wsX30 ++ ([]))
def w_q_masks : List Cond := wo_q_masks ++ wr_q_masks
theorem wg_q_masks : GW w_q_masks := GW_app (GW_of (by decide +kernel)) (GW_app (GW_of (by decide +kernel)) (GW_nil))
theorem i_q_masks_X3 : ∀ w ∈ wsX30, w ∈ w_q_masks := fun _ h => List.mem_append_right _ (List.mem_append_left _ h)
set_option maxHeartbeats 8000000 in
set_option maxRecDepth 100000 in
theorem q_masks (l : Launch) (E : gE) (o_u a_u_periods a_u_froms a_u_throughs a_u_tos a_u_bits : Nat) (f_u_told : Int32) (r_f_u_told : RG f_u_told 0 4) : CtI l E yX3_masks w_q_masks ({ frames := 0, cells := 0, slots := 0, locals := 0 }) [(o_u, .inr (3, [.int f_u_told, .ref a_u_periods, .ref a_u_froms, .ref a_u_throughs, .ref a_u_tos, .ref a_u_bits]))] [.ref o_u] (fun r w => (1 ≤ r.toInt ∧ r.toInt ≤ 16) ∧ w = [(o_u, .inr (3, [.int f_u_told, .ref a_u_periods, .ref a_u_froms, .ref a_u_throughs, .ref a_u_tos, .ref a_u_bits]))]) := by
  refine CtI.of (cc := cX3_masks) (maxL := 1) (rt := (some .int)) (by decide) rfl (Nat.le_of_ble_eq_true rfl) ?_
  intro p e s m below meth c A B ls hl
  obtain ⟨hx, hb, hml, hr, hlk, hin, hts, hown, hK, hN, hZ, hA, hP, hD, hS⟩ := B
  replace hown : s.vm.findClass RX3 = some m.cls := hown
  have hto : ∀ w ∈ wo_q_masks, w.before _ s = true := fun w h => hts w (List.mem_append_left _ h)
  replace hl : lv_has ls 1 [(0, .ref o_u)] := hl
  obtain ⟨H, hHe⟩ : ∃ H, H = s.heap := ⟨_, rfl⟩
  obtain ⟨locs, hle⟩ : ∃ l : List Loc, l = [] := ⟨_, rfl⟩
  replace hS : va_S A s.heap H locs := by rw [hHe, hle]; exact hS
  replace hP : va_P E.1 vwCl [(o_u, .inr (3, [.int f_u_told, .ref a_u_periods, .ref a_u_froms, .ref a_u_throughs, .ref a_u_tos, .ref a_u_bits]))] H := by rw [hHe]; exact hP
  refine W_hl hHe hle ?_
  clear hHe hle
  refine lv_iconst (v := 1) hx hb dX3_masks_0 (by decide) ?_
  refine lv_aload_n hx hb dX3_masks_1 rfl (lv_at hl 0 rfl) ?_
  refine va_get (D := E.1) (ci := 3) (v := .int f_u_told) (own := RX3) (C := RX3) (T := TX3) (N := 6) hx hb hts i_q_masks_X3 hown hK hP 0 rfl rfl 0 (by decide) (hto (.fieldLink RX3 27 "TimingHouse$Rules" "told" "I") (by decide +kernel)) (fun _ h9 => h9) rfl dX3_masks_2 ?_
  have b_f_u_told := r_f_u_told.out
  refine lv_ishl hx hb dX3_masks_5 ?_
  refine lv_topi (fun x_1 ex_1 => ?_)
  have b_x_1 := i3_shl1 ex_1 (by omega)
  exact ret_i hx hb hr hlk (hP.sub (ws' := [(o_u, .inr (3, [.int f_u_told, .ref a_u_periods, .ref a_u_froms, .ref a_u_throughs, .ref a_u_tos, .ref a_u_bits]))]) [0] rfl) (hD.sub (ws' := [(o_u, .inr (3, [.int f_u_told, .ref a_u_periods, .ref a_u_froms, .ref a_u_throughs, .ref a_u_tos, .ref a_u_bits]))]) [0] (by decide) rfl) hS rfl dX3_masks_6 (Nat.le_of_ble_eq_true rfl) (Nat.le_of_ble_eq_true rfl) ⟨(by omega), rfl⟩
theorem dX3_periodsOf_0 : decode cX3_periodsOf 0 = .ok (.aload_n 0, 1) := by decide +kernel
theorem dX3_periodsOf_1 : decode cX3_periodsOf 1 = .ok (.getfield 27, 3) := by decide +kernel
theorem dX3_periodsOf_4 : decode cX3_periodsOf 4 = .ok (.iconst 1, 1) := by decide +kernel
theorem dX3_periodsOf_5 : decode cX3_periodsOf 5 = .ok (.isub, 1) := by decide +kernel
theorem dX3_periodsOf_6 : decode cX3_periodsOf 6 = .ok (.istore 4, 2) := by decide +kernel
theorem dX3_periodsOf_8 : decode cX3_periodsOf 8 = .ok (.iload 4, 2) := by decide +kernel
theorem dX3_periodsOf_10 : decode cX3_periodsOf 10 = .ok (.ifCond .lt 83, 3) := by decide +kernel
theorem dX3_periodsOf_93 : decode cX3_periodsOf 93 = .ok (.iconst 1, 1) := by decide +kernel
theorem dX3_periodsOf_94 : decode cX3_periodsOf 94 = .ok (.ireturn, 1) := by decide +kernel
theorem dX3_periodsOf_13 : decode cX3_periodsOf 13 = .ok (.iload_n 3, 1) := by decide +kernel
theorem dX3_periodsOf_14 : decode cX3_periodsOf 14 = .ok (.iload 4, 2) := by decide +kernel
theorem dX3_periodsOf_16 : decode cX3_periodsOf 16 = .ok (.ishr, 1) := by decide +kernel
theorem dX3_periodsOf_17 : decode cX3_periodsOf 17 = .ok (.iconst 1, 1) := by decide +kernel
theorem dX3_periodsOf_18 : decode cX3_periodsOf 18 = .ok (.iand, 1) := by decide +kernel
theorem dX3_periodsOf_19 : decode cX3_periodsOf 19 = .ok (.iconst 1, 1) := by decide +kernel
theorem dX3_periodsOf_20 : decode cX3_periodsOf 20 = .ok (.if_icmp .ne 51, 3) := by decide +kernel
theorem dX3_periodsOf_71 : decode cX3_periodsOf 71 = .ok (.iconst 0, 1) := by decide +kernel
theorem dX3_periodsOf_72 : decode cX3_periodsOf 72 = .ok (.istore 5, 2) := by decide +kernel
theorem dX3_periodsOf_74 : decode cX3_periodsOf 74 = .ok (.iload 5, 2) := by decide +kernel
theorem dX3_periodsOf_76 : decode cX3_periodsOf 76 = .ok (.ifCond .eq 11, 3) := by decide +kernel
theorem dX3_periodsOf_87 : decode cX3_periodsOf 87 = .ok (.iinc 4 (-1), 3) := by decide +kernel
theorem dX3_periodsOf_90 : decode cX3_periodsOf 90 = .ok (.goto (-82), 3) := by decide +kernel
theorem dX3_periodsOf_23 : decode cX3_periodsOf 23 = .ok (.aload_n 0, 1) := by decide +kernel
theorem dX3_periodsOf_24 : decode cX3_periodsOf 24 = .ok (.getfield 15, 3) := by decide +kernel
theorem dX3_periodsOf_27 : decode cX3_periodsOf 27 = .ok (.iload 4, 2) := by decide +kernel
theorem dX3_periodsOf_29 : decode cX3_periodsOf 29 = .ok (.iaload, 1) := by decide +kernel
theorem dX3_periodsOf_30 : decode cX3_periodsOf 30 = .ok (.iconst (-1), 1) := by decide +kernel
theorem dX3_periodsOf_31 : decode cX3_periodsOf 31 = .ok (.if_icmp .eq 14, 3) := by decide +kernel
theorem dX3_periodsOf_45 : decode cX3_periodsOf 45 = .ok (.aload_n 0, 1) := by decide +kernel
theorem dX3_periodsOf_46 : decode cX3_periodsOf 46 = .ok (.getfield 21, 3) := by decide +kernel
theorem dX3_periodsOf_49 : decode cX3_periodsOf 49 = .ok (.iload 4, 2) := by decide +kernel
theorem dX3_periodsOf_51 : decode cX3_periodsOf 51 = .ok (.iaload, 1) := by decide +kernel
theorem dX3_periodsOf_52 : decode cX3_periodsOf 52 = .ok (.iconst (-1), 1) := by decide +kernel
theorem dX3_periodsOf_53 : decode cX3_periodsOf 53 = .ok (.if_icmp .eq 14, 3) := by decide +kernel
theorem dX3_periodsOf_67 : decode cX3_periodsOf 67 = .ok (.iconst 1, 1) := by decide +kernel
theorem dX3_periodsOf_68 : decode cX3_periodsOf 68 = .ok (.goto 4, 3) := by decide +kernel
theorem dX3_periodsOf_79 : decode cX3_periodsOf 79 = .ok (.aload_n 0, 1) := by decide +kernel
theorem dX3_periodsOf_80 : decode cX3_periodsOf 80 = .ok (.getfield 9, 3) := by decide +kernel
theorem dX3_periodsOf_83 : decode cX3_periodsOf 83 = .ok (.iload 4, 2) := by decide +kernel
theorem dX3_periodsOf_85 : decode cX3_periodsOf 85 = .ok (.iaload, 1) := by decide +kernel
theorem dX3_periodsOf_86 : decode cX3_periodsOf 86 = .ok (.ireturn, 1) := by decide +kernel
theorem dX3_periodsOf_56 : decode cX3_periodsOf 56 = .ok (.aload_n 0, 1) := by decide +kernel
theorem dX3_periodsOf_57 : decode cX3_periodsOf 57 = .ok (.getfield 21, 3) := by decide +kernel
theorem dX3_periodsOf_60 : decode cX3_periodsOf 60 = .ok (.iload 4, 2) := by decide +kernel
theorem dX3_periodsOf_62 : decode cX3_periodsOf 62 = .ok (.iaload, 1) := by decide +kernel
theorem dX3_periodsOf_63 : decode cX3_periodsOf 63 = .ok (.iload_n 2, 1) := by decide +kernel
theorem dX3_periodsOf_64 : decode cX3_periodsOf 64 = .ok (.if_icmp .ne 7, 3) := by decide +kernel
theorem dX3_periodsOf_34 : decode cX3_periodsOf 34 = .ok (.aload_n 0, 1) := by decide +kernel
theorem dX3_periodsOf_35 : decode cX3_periodsOf 35 = .ok (.getfield 15, 3) := by decide +kernel
theorem dX3_periodsOf_38 : decode cX3_periodsOf 38 = .ok (.iload 4, 2) := by decide +kernel
theorem dX3_periodsOf_40 : decode cX3_periodsOf 40 = .ok (.iaload, 1) := by decide +kernel
theorem dX3_periodsOf_41 : decode cX3_periodsOf 41 = .ok (.iload_n 1, 1) := by decide +kernel
theorem dX3_periodsOf_42 : decode cX3_periodsOf 42 = .ok (.if_icmp .ne 29, 3) := by decide +kernel
def wo_q_periodsOf : List Cond := [.code yX3_periodsOf cX3_periodsOf 6 (some .int), .fieldLink RX3 27 "TimingHouse$Rules" "told" "I", .fieldLink RX3 15 "TimingHouse$Rules" "froms" "[I", .fieldLink RX3 21 "TimingHouse$Rules" "tos" "[I", .fieldLink RX3 9 "TimingHouse$Rules" "periods" "[I"]
def wr_q_periodsOf : List Cond := (wsX30 ++ ([]))
def w_q_periodsOf : List Cond := wo_q_periodsOf ++ wr_q_periodsOf
theorem wg_q_periodsOf : GW w_q_periodsOf := GW_app (GW_of (by decide +kernel)) (GW_app (GW_of (by decide +kernel)) (GW_nil))
theorem i_q_periodsOf_X3 : ∀ w ∈ wsX30, w ∈ w_q_periodsOf := fun _ h => List.mem_append_right _ (List.mem_append_left _ h)
set_option maxHeartbeats 8000000 in
set_option maxRecDepth 100000 in
theorem q_periodsOf (l : Launch) (E : gE) (o_u a_u_periods a_u_froms a_u_throughs a_u_tos a_u_bits : Nat) (f_u_told p1 p2 p3 : Int32) (g_u_froms : Nat → Int32) (g_u_tos : Nat → Int32) (g_u_periods : Nat → Int32) (r_f_u_told : RG f_u_told 0 4) (i_g_u_froms : AR g_u_froms 4 (-1) 49) (i_g_u_tos : AR g_u_tos 4 (-1) 49) (i_g_u_periods : AR g_u_periods 4 0 4) : CtI l E yX3_periodsOf w_q_periodsOf ({ frames := 0, cells := 0, slots := 0, locals := 0 }) [(o_u, .inr (3, [.int f_u_told, .ref a_u_periods, .ref a_u_froms, .ref a_u_throughs, .ref a_u_tos, .ref a_u_bits])), (a_u_froms, aI E 4 g_u_froms), (a_u_tos, aI E 4 g_u_tos), (a_u_periods, aI E 4 g_u_periods)] [.ref o_u, .int p1, .int p2, .int p3] (fun r w => (0 ≤ r.toInt ∧ r.toInt ≤ 4) ∧ w = [(o_u, .inr (3, [.int f_u_told, .ref a_u_periods, .ref a_u_froms, .ref a_u_throughs, .ref a_u_tos, .ref a_u_bits])), (a_u_froms, aI E 4 g_u_froms), (a_u_tos, aI E 4 g_u_tos), (a_u_periods, aI E 4 g_u_periods)]) := by
  refine CtI.of (cc := cX3_periodsOf) (maxL := 6) (rt := (some .int)) (by decide) rfl (Nat.le_of_ble_eq_true rfl) ?_
  intro p e s m below meth c A B ls hl
  obtain ⟨hx, hb, hml, hr, hlk, hin, hts, hown, hK, hN, hZ, hA, hP, hD, hS⟩ := B
  replace hown : s.vm.findClass RX3 = some m.cls := hown
  have hto : ∀ w ∈ wo_q_periodsOf, w.before _ s = true := fun w h => hts w (List.mem_append_left _ h)
  replace hl : lv_has ls 6 [(0, .ref o_u), (1, .int p1), (2, .int p2), (3, .int p3)] := hl
  obtain ⟨H, hHe⟩ : ∃ H, H = s.heap := ⟨_, rfl⟩
  obtain ⟨locs, hle⟩ : ∃ l : List Loc, l = [] := ⟨_, rfl⟩
  replace hS : va_S A s.heap H locs := by rw [hHe, hle]; exact hS
  replace hP : va_P E.1 vwCl [(o_u, .inr (3, [.int f_u_told, .ref a_u_periods, .ref a_u_froms, .ref a_u_throughs, .ref a_u_tos, .ref a_u_bits])), (a_u_froms, aI E 4 g_u_froms), (a_u_tos, aI E 4 g_u_tos), (a_u_periods, aI E 4 g_u_periods)] H := by rw [hHe]; exact hP
  refine W_hl hHe hle ?_
  clear hHe hle
  refine lv_aload_n hx hb dX3_periodsOf_0 rfl (lv_at hl 0 rfl) ?_
  refine va_get (D := E.1) (ci := 3) (v := .int f_u_told) (own := RX3) (C := RX3) (T := TX3) (N := 6) hx hb hts i_q_periodsOf_X3 hown hK hP 0 rfl rfl 0 (by decide) (hto (.fieldLink RX3 27 "TimingHouse$Rules" "told" "I") (by decide +kernel)) (fun _ h9 => h9) rfl dX3_periodsOf_1 ?_
  refine lv_iconst (v := 1) hx hb dX3_periodsOf_4 (by decide) ?_
  have b_f_u_told := r_f_u_told.out
  refine lv_isub hx hb dX3_periodsOf_5 ?_
  refine lv_topi (fun x_1 ex_1 => ?_)
  have tx_1 : x_1.toInt = f_u_told.toInt - 1 := i3_subc rfl rfl ex_1 (by omega)
  refine lv_istore (lv' := [(4, .int x_1), (0, .ref o_u), (1, .int p1), (2, .int p2), (3, .int p3)]) hx hb dX3_periodsOf_6 hl (by decide) rfl (fun ls hl => ?_)
  obtain ⟨y_2, hy_2⟩ : ∃ y : Int32, y = x_1 := ⟨_, rfl⟩
  have b_y_2 : (-1) ≤ y_2.toInt ∧ y_2.toInt ≤ 3 := by rw [hy_2]; omega
  replace hl : lv_has ls 6 [(4, .int y_2), (0, .ref o_u), (1, .int p1), (2, .int p2), (3, .int p3)] := by rw [hy_2]; exact hl
  clear hy_2
  obtain ⟨d_3, hd_3⟩ : ∃ d : Nat, y_2.toInt - (-1) < (d : Int) := ⟨(y_2.toInt - (-1) + 1).toNat, by omega⟩
  induction d_3 generalizing y_2 H locs ls with
  | zero => exfalso; omega
  | succ d_3 ih_d_3 =>
    refine lv_iload hx hb dX3_periodsOf_8 (lv_at hl 0 rfl) ?_
    refine lv_if_lt (tgt := 93) hx hb dX3_periodsOf_10 (by decide) (fun c_4 => ?_) (fun c_4 => ?_)
    · have e_4 : y_2.toInt < 0 := i3_lt c_4
      refine lv_iconst (v := 1) hx hb dX3_periodsOf_93 (by decide) ?_
      exact ret_i hx hb hr hlk (hP.sub (ws' := [(o_u, .inr (3, [.int f_u_told, .ref a_u_periods, .ref a_u_froms, .ref a_u_throughs, .ref a_u_tos, .ref a_u_bits])), (a_u_froms, aI E 4 g_u_froms), (a_u_tos, aI E 4 g_u_tos), (a_u_periods, aI E 4 g_u_periods)]) [0, 1, 2, 3] rfl) (hD.sub (ws' := [(o_u, .inr (3, [.int f_u_told, .ref a_u_periods, .ref a_u_froms, .ref a_u_throughs, .ref a_u_tos, .ref a_u_bits])), (a_u_froms, aI E 4 g_u_froms), (a_u_tos, aI E 4 g_u_tos), (a_u_periods, aI E 4 g_u_periods)]) [0, 1, 2, 3] (by decide) rfl) hS rfl dX3_periodsOf_94 (Nat.le_of_ble_eq_true rfl) (Nat.le_of_ble_eq_true rfl) ⟨(by decide), rfl⟩
    · have e_4 : 0 ≤ y_2.toInt := i3_nlt c_4
      refine lv_iload_n hx hb dX3_periodsOf_13 rfl (lv_at hl 4 rfl) ?_
      refine lv_iload hx hb dX3_periodsOf_14 (lv_at hl 0 rfl) ?_
      refine lv_ishr hx hb dX3_periodsOf_16 ?_
      refine lv_topi (fun x_5 ex_5 => ?_)
      have bd_6 := i3_bd p3
      refine lv_iconst (v := 1) hx hb dX3_periodsOf_17 (by decide) ?_
      refine lv_iand hx hb dX3_periodsOf_18 ?_
      refine lv_topi (fun x_7 ex_7 => ?_)
      have bd_8 := i3_bd x_5
      have b_x_7 := i3_and1 ex_7
      refine lv_iconst (v := 1) hx hb dX3_periodsOf_19 (by decide) ?_
      refine lv_icmp_ne (tgt := 71) hx hb dX3_periodsOf_20 (by decide) (fun c_9 => ?_) (fun c_9 => ?_)
      · have e_9 : x_7.toInt ≠ 1 := i3_ne c_9
        refine lv_iconst (v := 0) hx hb dX3_periodsOf_71 (by decide) ?_
        refine lv_istore (lv' := [(5, .int 0), (4, .int y_2), (0, .ref o_u), (1, .int p1), (2, .int p2), (3, .int p3)]) hx hb dX3_periodsOf_72 hl (by decide) rfl (fun ls hl => ?_)
        refine lv_iload hx hb dX3_periodsOf_74 (lv_at hl 0 rfl) ?_
        refine lv_if_eq (tgt := 87) hx hb dX3_periodsOf_76 (by decide) (fun c_10 => ?_) (fun c_10 => ?_)
        · obtain ⟨x_11, ex_11⟩ : ∃ y : Int32, y = y_2 + (-1) := ⟨_, rfl⟩
          have tx_11 : x_11.toInt = y_2.toInt + (-1) := i3_addc rfl rfl ex_11 (by omega)
          refine lv_iinc (v := x_11) (lv' := [(4, .int x_11), (5, .int 0), (0, .ref o_u), (1, .int p1), (2, .int p2), (3, .int p3)]) hx hb dX3_periodsOf_87 hl (k := 1) rfl (by rw [ex_11]; rfl) (by decide) rfl (fun ls hl => ?_)
          refine lv_goto (tgt := 8) hx hb dX3_periodsOf_90 (by decide) ?_
          replace hl : lv_has ls 6 [(4, .int x_11), (0, .ref o_u), (1, .int p1), (2, .int p2), (3, .int p3)] := lv_sub hl [0, 2, 3, 4, 5] rfl
          apply ih_d_3 (y_2 := x_11) (H := H) (locs := locs) (ls := ls) <;> first | assumption | omega | decide
        · exact absurd c_10 (by decide)
      · have e_9 : x_7.toInt = 1 := i3_eq c_9
        refine lv_aload_n hx hb dX3_periodsOf_23 rfl (lv_at hl 1 rfl) ?_
        refine va_get (D := E.1) (ci := 3) (v := .ref a_u_froms) (own := RX3) (C := RX3) (T := TX3) (N := 6) hx hb hts i_q_periodsOf_X3 hown hK hP 0 rfl rfl 2 (by decide) (hto (.fieldLink RX3 15 "TimingHouse$Rules" "froms" "[I") (by decide +kernel)) (fun _ h9 => h9) rfl dX3_periodsOf_24 ?_
        refine lv_iload hx hb dX3_periodsOf_27 (lv_at hl 0 rfl) ?_
        refine ld_i hx hb hK hP 1 rfl (by omega) dX3_periodsOf_29 (fun x_12 ex_12 => ?_)
        have b_x_12 := AR.rd i_g_u_froms ex_12 (by omega)
        refine lv_iconst (v := (-1)) hx hb dX3_periodsOf_30 (by decide) ?_
        refine lv_icmp_eq (tgt := 45) hx hb dX3_periodsOf_31 (by decide) (fun c_13 => ?_) (fun c_13 => ?_)
        · have e_13 : x_12.toInt = (-1) := i3_eq c_13
          refine lv_aload_n hx hb dX3_periodsOf_45 rfl (lv_at hl 1 rfl) ?_
          refine va_get (D := E.1) (ci := 3) (v := .ref a_u_tos) (own := RX3) (C := RX3) (T := TX3) (N := 6) hx hb hts i_q_periodsOf_X3 hown hK hP 0 rfl rfl 4 (by decide) (hto (.fieldLink RX3 21 "TimingHouse$Rules" "tos" "[I") (by decide +kernel)) (fun _ h9 => h9) rfl dX3_periodsOf_46 ?_
          refine lv_iload hx hb dX3_periodsOf_49 (lv_at hl 0 rfl) ?_
          refine ld_i hx hb hK hP 2 rfl (by omega) dX3_periodsOf_51 (fun x_14 ex_14 => ?_)
          have b_x_14 := AR.rd i_g_u_tos ex_14 (by omega)
          refine lv_iconst (v := (-1)) hx hb dX3_periodsOf_52 (by decide) ?_
          refine lv_icmp_eq (tgt := 67) hx hb dX3_periodsOf_53 (by decide) (fun c_15 => ?_) (fun c_15 => ?_)
          · have e_15 : x_14.toInt = (-1) := i3_eq c_15
            refine lv_iconst (v := 1) hx hb dX3_periodsOf_67 (by decide) ?_
            refine lv_goto (tgt := 72) hx hb dX3_periodsOf_68 (by decide) ?_
            refine lv_istore (lv' := [(5, .int 1), (4, .int y_2), (0, .ref o_u), (1, .int p1), (2, .int p2), (3, .int p3)]) hx hb dX3_periodsOf_72 hl (by decide) rfl (fun ls hl => ?_)
            refine lv_iload hx hb dX3_periodsOf_74 (lv_at hl 0 rfl) ?_
            refine lv_if_eq (tgt := 87) hx hb dX3_periodsOf_76 (by decide) (fun c_16 => ?_) (fun c_16 => ?_)
            · exact absurd c_16 (by decide)
            · refine lv_aload_n hx hb dX3_periodsOf_79 rfl (lv_at hl 2 rfl) ?_
              refine va_get (D := E.1) (ci := 3) (v := .ref a_u_periods) (own := RX3) (C := RX3) (T := TX3) (N := 6) hx hb hts i_q_periodsOf_X3 hown hK hP 0 rfl rfl 1 (by decide) (hto (.fieldLink RX3 9 "TimingHouse$Rules" "periods" "[I") (by decide +kernel)) (fun _ h9 => h9) rfl dX3_periodsOf_80 ?_
              refine lv_iload hx hb dX3_periodsOf_83 (lv_at hl 1 rfl) ?_
              refine ld_i hx hb hK hP 3 rfl (by omega) dX3_periodsOf_85 (fun x_17 ex_17 => ?_)
              have b_x_17 := AR.rd i_g_u_periods ex_17 (by omega)
              exact ret_i hx hb hr hlk (hP.sub (ws' := [(o_u, .inr (3, [.int f_u_told, .ref a_u_periods, .ref a_u_froms, .ref a_u_throughs, .ref a_u_tos, .ref a_u_bits])), (a_u_froms, aI E 4 g_u_froms), (a_u_tos, aI E 4 g_u_tos), (a_u_periods, aI E 4 g_u_periods)]) [0, 1, 2, 3] rfl) (hD.sub (ws' := [(o_u, .inr (3, [.int f_u_told, .ref a_u_periods, .ref a_u_froms, .ref a_u_throughs, .ref a_u_tos, .ref a_u_bits])), (a_u_froms, aI E 4 g_u_froms), (a_u_tos, aI E 4 g_u_tos), (a_u_periods, aI E 4 g_u_periods)]) [0, 1, 2, 3] (by decide) rfl) hS rfl dX3_periodsOf_86 (Nat.le_of_ble_eq_true rfl) (Nat.le_of_ble_eq_true rfl) ⟨(by omega), rfl⟩
          · have e_15 : x_14.toInt ≠ (-1) := i3_ne c_15
            refine lv_aload_n hx hb dX3_periodsOf_56 rfl (lv_at hl 1 rfl) ?_
            refine va_get (D := E.1) (ci := 3) (v := .ref a_u_tos) (own := RX3) (C := RX3) (T := TX3) (N := 6) hx hb hts i_q_periodsOf_X3 hown hK hP 0 rfl rfl 4 (by decide) (hto (.fieldLink RX3 21 "TimingHouse$Rules" "tos" "[I") (by decide +kernel)) (fun _ h9 => h9) rfl dX3_periodsOf_57 ?_
            refine lv_iload hx hb dX3_periodsOf_60 (lv_at hl 0 rfl) ?_
            refine ld_i hx hb hK hP 2 rfl (by omega) dX3_periodsOf_62 (fun x_18 ex_18 => ?_)
            have hq_x_18 : x_14 = x_18 := ex_14.trans ex_18.symm
            subst hq_x_18
            refine lv_iload_n hx hb dX3_periodsOf_63 rfl (lv_at hl 3 rfl) ?_
            refine lv_icmp_ne (tgt := 71) hx hb dX3_periodsOf_64 (by decide) (fun c_19 => ?_) (fun c_19 => ?_)
            · have e_19 : x_14.toInt ≠ p2.toInt := i3_ne c_19
              refine lv_iconst (v := 0) hx hb dX3_periodsOf_71 (by decide) ?_
              refine lv_istore (lv' := [(5, .int 0), (4, .int y_2), (0, .ref o_u), (1, .int p1), (2, .int p2), (3, .int p3)]) hx hb dX3_periodsOf_72 hl (by decide) rfl (fun ls hl => ?_)
              refine lv_iload hx hb dX3_periodsOf_74 (lv_at hl 0 rfl) ?_
              refine lv_if_eq (tgt := 87) hx hb dX3_periodsOf_76 (by decide) (fun c_20 => ?_) (fun c_20 => ?_)
              · obtain ⟨x_21, ex_21⟩ : ∃ y : Int32, y = y_2 + (-1) := ⟨_, rfl⟩
                have tx_21 : x_21.toInt = y_2.toInt + (-1) := i3_addc rfl rfl ex_21 (by omega)
                refine lv_iinc (v := x_21) (lv' := [(4, .int x_21), (5, .int 0), (0, .ref o_u), (1, .int p1), (2, .int p2), (3, .int p3)]) hx hb dX3_periodsOf_87 hl (k := 1) rfl (by rw [ex_21]; rfl) (by decide) rfl (fun ls hl => ?_)
                refine lv_goto (tgt := 8) hx hb dX3_periodsOf_90 (by decide) ?_
                replace hl : lv_has ls 6 [(4, .int x_21), (0, .ref o_u), (1, .int p1), (2, .int p2), (3, .int p3)] := lv_sub hl [0, 2, 3, 4, 5] rfl
                apply ih_d_3 (y_2 := x_21) (H := H) (locs := locs) (ls := ls) <;> first | assumption | omega | decide
              · exact absurd c_20 (by decide)
            · have e_19 : x_14.toInt = p2.toInt := i3_eq c_19
              refine lv_iconst (v := 1) hx hb dX3_periodsOf_67 (by decide) ?_
              refine lv_goto (tgt := 72) hx hb dX3_periodsOf_68 (by decide) ?_
              refine lv_istore (lv' := [(5, .int 1), (4, .int y_2), (0, .ref o_u), (1, .int p1), (2, .int p2), (3, .int p3)]) hx hb dX3_periodsOf_72 hl (by decide) rfl (fun ls hl => ?_)
              refine lv_iload hx hb dX3_periodsOf_74 (lv_at hl 0 rfl) ?_
              refine lv_if_eq (tgt := 87) hx hb dX3_periodsOf_76 (by decide) (fun c_22 => ?_) (fun c_22 => ?_)
              · exact absurd c_22 (by decide)
              · refine lv_aload_n hx hb dX3_periodsOf_79 rfl (lv_at hl 2 rfl) ?_
                refine va_get (D := E.1) (ci := 3) (v := .ref a_u_periods) (own := RX3) (C := RX3) (T := TX3) (N := 6) hx hb hts i_q_periodsOf_X3 hown hK hP 0 rfl rfl 1 (by decide) (hto (.fieldLink RX3 9 "TimingHouse$Rules" "periods" "[I") (by decide +kernel)) (fun _ h9 => h9) rfl dX3_periodsOf_80 ?_
                refine lv_iload hx hb dX3_periodsOf_83 (lv_at hl 1 rfl) ?_
                refine ld_i hx hb hK hP 3 rfl (by omega) dX3_periodsOf_85 (fun x_23 ex_23 => ?_)
                have b_x_23 := AR.rd i_g_u_periods ex_23 (by omega)
                exact ret_i hx hb hr hlk (hP.sub (ws' := [(o_u, .inr (3, [.int f_u_told, .ref a_u_periods, .ref a_u_froms, .ref a_u_throughs, .ref a_u_tos, .ref a_u_bits])), (a_u_froms, aI E 4 g_u_froms), (a_u_tos, aI E 4 g_u_tos), (a_u_periods, aI E 4 g_u_periods)]) [0, 1, 2, 3] rfl) (hD.sub (ws' := [(o_u, .inr (3, [.int f_u_told, .ref a_u_periods, .ref a_u_froms, .ref a_u_throughs, .ref a_u_tos, .ref a_u_bits])), (a_u_froms, aI E 4 g_u_froms), (a_u_tos, aI E 4 g_u_tos), (a_u_periods, aI E 4 g_u_periods)]) [0, 1, 2, 3] (by decide) rfl) hS rfl dX3_periodsOf_86 (Nat.le_of_ble_eq_true rfl) (Nat.le_of_ble_eq_true rfl) ⟨(by omega), rfl⟩
        · have e_13 : x_12.toInt ≠ (-1) := i3_ne c_13
          refine lv_aload_n hx hb dX3_periodsOf_34 rfl (lv_at hl 1 rfl) ?_
          refine va_get (D := E.1) (ci := 3) (v := .ref a_u_froms) (own := RX3) (C := RX3) (T := TX3) (N := 6) hx hb hts i_q_periodsOf_X3 hown hK hP 0 rfl rfl 2 (by decide) (hto (.fieldLink RX3 15 "TimingHouse$Rules" "froms" "[I") (by decide +kernel)) (fun _ h9 => h9) rfl dX3_periodsOf_35 ?_
          refine lv_iload hx hb dX3_periodsOf_38 (lv_at hl 0 rfl) ?_
          refine ld_i hx hb hK hP 1 rfl (by omega) dX3_periodsOf_40 (fun x_24 ex_24 => ?_)
          have hq_x_24 : x_12 = x_24 := ex_12.trans ex_24.symm
          subst hq_x_24
          refine lv_iload_n hx hb dX3_periodsOf_41 rfl (lv_at hl 2 rfl) ?_
          refine lv_icmp_ne (tgt := 71) hx hb dX3_periodsOf_42 (by decide) (fun c_25 => ?_) (fun c_25 => ?_)
          · have e_25 : x_12.toInt ≠ p1.toInt := i3_ne c_25
            refine lv_iconst (v := 0) hx hb dX3_periodsOf_71 (by decide) ?_
            refine lv_istore (lv' := [(5, .int 0), (4, .int y_2), (0, .ref o_u), (1, .int p1), (2, .int p2), (3, .int p3)]) hx hb dX3_periodsOf_72 hl (by decide) rfl (fun ls hl => ?_)
            refine lv_iload hx hb dX3_periodsOf_74 (lv_at hl 0 rfl) ?_
            refine lv_if_eq (tgt := 87) hx hb dX3_periodsOf_76 (by decide) (fun c_26 => ?_) (fun c_26 => ?_)
            · obtain ⟨x_27, ex_27⟩ : ∃ y : Int32, y = y_2 + (-1) := ⟨_, rfl⟩
              have tx_27 : x_27.toInt = y_2.toInt + (-1) := i3_addc rfl rfl ex_27 (by omega)
              refine lv_iinc (v := x_27) (lv' := [(4, .int x_27), (5, .int 0), (0, .ref o_u), (1, .int p1), (2, .int p2), (3, .int p3)]) hx hb dX3_periodsOf_87 hl (k := 1) rfl (by rw [ex_27]; rfl) (by decide) rfl (fun ls hl => ?_)
              refine lv_goto (tgt := 8) hx hb dX3_periodsOf_90 (by decide) ?_
              replace hl : lv_has ls 6 [(4, .int x_27), (0, .ref o_u), (1, .int p1), (2, .int p2), (3, .int p3)] := lv_sub hl [0, 2, 3, 4, 5] rfl
              apply ih_d_3 (y_2 := x_27) (H := H) (locs := locs) (ls := ls) <;> first | assumption | omega | decide
            · exact absurd c_26 (by decide)
          · have e_25 : x_12.toInt = p1.toInt := i3_eq c_25
            refine lv_aload_n hx hb dX3_periodsOf_45 rfl (lv_at hl 1 rfl) ?_
            refine va_get (D := E.1) (ci := 3) (v := .ref a_u_tos) (own := RX3) (C := RX3) (T := TX3) (N := 6) hx hb hts i_q_periodsOf_X3 hown hK hP 0 rfl rfl 4 (by decide) (hto (.fieldLink RX3 21 "TimingHouse$Rules" "tos" "[I") (by decide +kernel)) (fun _ h9 => h9) rfl dX3_periodsOf_46 ?_
            refine lv_iload hx hb dX3_periodsOf_49 (lv_at hl 0 rfl) ?_
            refine ld_i hx hb hK hP 2 rfl (by omega) dX3_periodsOf_51 (fun x_28 ex_28 => ?_)
            have b_x_28 := AR.rd i_g_u_tos ex_28 (by omega)
            refine lv_iconst (v := (-1)) hx hb dX3_periodsOf_52 (by decide) ?_
            refine lv_icmp_eq (tgt := 67) hx hb dX3_periodsOf_53 (by decide) (fun c_29 => ?_) (fun c_29 => ?_)
            · have e_29 : x_28.toInt = (-1) := i3_eq c_29
              refine lv_iconst (v := 1) hx hb dX3_periodsOf_67 (by decide) ?_
              refine lv_goto (tgt := 72) hx hb dX3_periodsOf_68 (by decide) ?_
              refine lv_istore (lv' := [(5, .int 1), (4, .int y_2), (0, .ref o_u), (1, .int p1), (2, .int p2), (3, .int p3)]) hx hb dX3_periodsOf_72 hl (by decide) rfl (fun ls hl => ?_)
              refine lv_iload hx hb dX3_periodsOf_74 (lv_at hl 0 rfl) ?_
              refine lv_if_eq (tgt := 87) hx hb dX3_periodsOf_76 (by decide) (fun c_30 => ?_) (fun c_30 => ?_)
              · exact absurd c_30 (by decide)
              · refine lv_aload_n hx hb dX3_periodsOf_79 rfl (lv_at hl 2 rfl) ?_
                refine va_get (D := E.1) (ci := 3) (v := .ref a_u_periods) (own := RX3) (C := RX3) (T := TX3) (N := 6) hx hb hts i_q_periodsOf_X3 hown hK hP 0 rfl rfl 1 (by decide) (hto (.fieldLink RX3 9 "TimingHouse$Rules" "periods" "[I") (by decide +kernel)) (fun _ h9 => h9) rfl dX3_periodsOf_80 ?_
                refine lv_iload hx hb dX3_periodsOf_83 (lv_at hl 1 rfl) ?_
                refine ld_i hx hb hK hP 3 rfl (by omega) dX3_periodsOf_85 (fun x_31 ex_31 => ?_)
                have b_x_31 := AR.rd i_g_u_periods ex_31 (by omega)
                exact ret_i hx hb hr hlk (hP.sub (ws' := [(o_u, .inr (3, [.int f_u_told, .ref a_u_periods, .ref a_u_froms, .ref a_u_throughs, .ref a_u_tos, .ref a_u_bits])), (a_u_froms, aI E 4 g_u_froms), (a_u_tos, aI E 4 g_u_tos), (a_u_periods, aI E 4 g_u_periods)]) [0, 1, 2, 3] rfl) (hD.sub (ws' := [(o_u, .inr (3, [.int f_u_told, .ref a_u_periods, .ref a_u_froms, .ref a_u_throughs, .ref a_u_tos, .ref a_u_bits])), (a_u_froms, aI E 4 g_u_froms), (a_u_tos, aI E 4 g_u_tos), (a_u_periods, aI E 4 g_u_periods)]) [0, 1, 2, 3] (by decide) rfl) hS rfl dX3_periodsOf_86 (Nat.le_of_ble_eq_true rfl) (Nat.le_of_ble_eq_true rfl) ⟨(by omega), rfl⟩
            · have e_29 : x_28.toInt ≠ (-1) := i3_ne c_29
              refine lv_aload_n hx hb dX3_periodsOf_56 rfl (lv_at hl 1 rfl) ?_
              refine va_get (D := E.1) (ci := 3) (v := .ref a_u_tos) (own := RX3) (C := RX3) (T := TX3) (N := 6) hx hb hts i_q_periodsOf_X3 hown hK hP 0 rfl rfl 4 (by decide) (hto (.fieldLink RX3 21 "TimingHouse$Rules" "tos" "[I") (by decide +kernel)) (fun _ h9 => h9) rfl dX3_periodsOf_57 ?_
              refine lv_iload hx hb dX3_periodsOf_60 (lv_at hl 0 rfl) ?_
              refine ld_i hx hb hK hP 2 rfl (by omega) dX3_periodsOf_62 (fun x_32 ex_32 => ?_)
              have hq_x_32 : x_28 = x_32 := ex_28.trans ex_32.symm
              subst hq_x_32
              refine lv_iload_n hx hb dX3_periodsOf_63 rfl (lv_at hl 3 rfl) ?_
              refine lv_icmp_ne (tgt := 71) hx hb dX3_periodsOf_64 (by decide) (fun c_33 => ?_) (fun c_33 => ?_)
              · have e_33 : x_28.toInt ≠ p2.toInt := i3_ne c_33
                refine lv_iconst (v := 0) hx hb dX3_periodsOf_71 (by decide) ?_
                refine lv_istore (lv' := [(5, .int 0), (4, .int y_2), (0, .ref o_u), (1, .int p1), (2, .int p2), (3, .int p3)]) hx hb dX3_periodsOf_72 hl (by decide) rfl (fun ls hl => ?_)
                refine lv_iload hx hb dX3_periodsOf_74 (lv_at hl 0 rfl) ?_
                refine lv_if_eq (tgt := 87) hx hb dX3_periodsOf_76 (by decide) (fun c_34 => ?_) (fun c_34 => ?_)
                · obtain ⟨x_35, ex_35⟩ : ∃ y : Int32, y = y_2 + (-1) := ⟨_, rfl⟩
                  have tx_35 : x_35.toInt = y_2.toInt + (-1) := i3_addc rfl rfl ex_35 (by omega)
                  refine lv_iinc (v := x_35) (lv' := [(4, .int x_35), (5, .int 0), (0, .ref o_u), (1, .int p1), (2, .int p2), (3, .int p3)]) hx hb dX3_periodsOf_87 hl (k := 1) rfl (by rw [ex_35]; rfl) (by decide) rfl (fun ls hl => ?_)
                  refine lv_goto (tgt := 8) hx hb dX3_periodsOf_90 (by decide) ?_
                  replace hl : lv_has ls 6 [(4, .int x_35), (0, .ref o_u), (1, .int p1), (2, .int p2), (3, .int p3)] := lv_sub hl [0, 2, 3, 4, 5] rfl
                  apply ih_d_3 (y_2 := x_35) (H := H) (locs := locs) (ls := ls) <;> first | assumption | omega | decide
                · exact absurd c_34 (by decide)
              · have e_33 : x_28.toInt = p2.toInt := i3_eq c_33
                refine lv_iconst (v := 1) hx hb dX3_periodsOf_67 (by decide) ?_
                refine lv_goto (tgt := 72) hx hb dX3_periodsOf_68 (by decide) ?_
                refine lv_istore (lv' := [(5, .int 1), (4, .int y_2), (0, .ref o_u), (1, .int p1), (2, .int p2), (3, .int p3)]) hx hb dX3_periodsOf_72 hl (by decide) rfl (fun ls hl => ?_)
                refine lv_iload hx hb dX3_periodsOf_74 (lv_at hl 0 rfl) ?_
                refine lv_if_eq (tgt := 87) hx hb dX3_periodsOf_76 (by decide) (fun c_36 => ?_) (fun c_36 => ?_)
                · exact absurd c_36 (by decide)
                · refine lv_aload_n hx hb dX3_periodsOf_79 rfl (lv_at hl 2 rfl) ?_
                  refine va_get (D := E.1) (ci := 3) (v := .ref a_u_periods) (own := RX3) (C := RX3) (T := TX3) (N := 6) hx hb hts i_q_periodsOf_X3 hown hK hP 0 rfl rfl 1 (by decide) (hto (.fieldLink RX3 9 "TimingHouse$Rules" "periods" "[I") (by decide +kernel)) (fun _ h9 => h9) rfl dX3_periodsOf_80 ?_
                  refine lv_iload hx hb dX3_periodsOf_83 (lv_at hl 1 rfl) ?_
                  refine ld_i hx hb hK hP 3 rfl (by omega) dX3_periodsOf_85 (fun x_37 ex_37 => ?_)
                  have b_x_37 := AR.rd i_g_u_periods ex_37 (by omega)
                  exact ret_i hx hb hr hlk (hP.sub (ws' := [(o_u, .inr (3, [.int f_u_told, .ref a_u_periods, .ref a_u_froms, .ref a_u_throughs, .ref a_u_tos, .ref a_u_bits])), (a_u_froms, aI E 4 g_u_froms), (a_u_tos, aI E 4 g_u_tos), (a_u_periods, aI E 4 g_u_periods)]) [0, 1, 2, 3] rfl) (hD.sub (ws' := [(o_u, .inr (3, [.int f_u_told, .ref a_u_periods, .ref a_u_froms, .ref a_u_throughs, .ref a_u_tos, .ref a_u_bits])), (a_u_froms, aI E 4 g_u_froms), (a_u_tos, aI E 4 g_u_tos), (a_u_periods, aI E 4 g_u_periods)]) [0, 1, 2, 3] (by decide) rfl) hS rfl dX3_periodsOf_86 (Nat.le_of_ble_eq_true rfl) (Nat.le_of_ble_eq_true rfl) ⟨(by omega), rfl⟩
