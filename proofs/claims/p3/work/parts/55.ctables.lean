def b_X5has_15 (Q : Int32 → VS → Prop) (k0 : Int32) (σ : VS) : Prop := (Bo k0 ∧ Q k0 σ)
def b_X5has_14 (Q : Int32 → VS → Prop) (σ : VS) : Prop := b_X5has_15 Q 0 σ
def wp_X5has (Q : Int32 → VS → Prop) (p1 : Int32) (σ : VS) : Prop := ((p1.toInt < 0 → b_X5has_14 Q σ) ∧ (0 ≤ p1.toInt → ((8 ≤ p1.toInt → b_X5has_14 Q σ) ∧ (p1.toInt < 8 → b_X5has_15 Q 1 σ))))
theorem dX5_has_0 : decode cX5_has 0 = .ok (.iload_n 0, 1) := by decide +kernel
theorem dX5_has_1 : decode cX5_has 1 = .ok (.ifCond .lt 13, 3) := by decide +kernel
theorem dX5_has_4 : decode cX5_has 4 = .ok (.iload_n 0, 1) := by decide +kernel
theorem dX5_has_5 : decode cX5_has 5 = .ok (.bipush 8, 2) := by decide +kernel
theorem dX5_has_7 : decode cX5_has 7 = .ok (.if_icmp .ge 7, 3) := by decide +kernel
theorem dX5_has_10 : decode cX5_has 10 = .ok (.iconst 1, 1) := by decide +kernel
theorem dX5_has_11 : decode cX5_has 11 = .ok (.goto 4, 3) := by decide +kernel
theorem dX5_has_14 : decode cX5_has 14 = .ok (.iconst 0, 1) := by decide +kernel
theorem dX5_has_15 : decode cX5_has 15 = .ok (.ireturn, 1) := by decide +kernel
def wo_X5has : List Cond := [.code yX5_has cX5_has 1 (some .boolean)]
def wr_X5has : List Cond := (wfC ++ ([]))
def w_X5has : List Cond := wo_X5has ++ wr_X5has
theorem wg_X5has : GW w_X5has := GW_app (GW_of (by decide +kernel)) (GW_app (wg_fC) (GW_nil))
theorem in_X5has : ∀ w ∈ wfC, w ∈ w_X5has := fun _ h => List.mem_append_right _ (List.mem_append_left _ h)
set_option maxHeartbeats 4000000 in
set_option maxRecDepth 100000 in
theorem ct_X5has (l : Launch) (E : gE) (B : Nat → Nat) (Q : Int32 → VS → Prop) (p1 : Int32) (σ : VS) (hw : wp_X5has Q p1 σ) : CtI l E yX5_has w_X5has (({ frames := 0, cells := 0, slots := 0, locals := 0 } : Room)) (wc E B σ) [.int p1] (fun r w => ∃ σ' : VS, Q r σ' ∧ w = wc E B σ') := by
  refine VC_I (cc := cX5_has) (mL := 1) (rt := (some .boolean)) (lv0 := [(0, .int p1)]) rfl (by decide) rfl (Nat.le_of_ble_eq_true rfl) ?_
  intro p e s m below meth c A F
  replace F : Fx p s m _ meth c A E cX5_has 1 (some .boolean) RX5 w_X5has := F
  have J_15 : ∀ (k0 : Int32) (σ : VS), b_X5has_15 Q k0 σ → WB p l e (({ frames := 0, cells := 0, slots := 0, locals := 0 } : Room)) s m (#[.int p1]) below meth c (MQ below (va_Qi (fun r w => ∃ σ' : VS, Q r σ' ∧ w = wc E B σ') (AftU E A) A) (#[.int p1]) s (({ frames := 0, cells := 0, slots := 0, locals := 0 } : Room)).cells (({ frames := 0, cells := 0, slots := 0, locals := 0 } : Room)).slots A) A E (wc E B) 1 15 [] [.int k0] σ := by
    intro k0 σ hw
    unfold b_X5has_15 at hw
    exact R_iret (Qc := Q) F (nb_01 hw.1) dX5_has_15 hw.2
  have J_14 : ∀ (σ : VS), b_X5has_14 Q σ → WB p l e (({ frames := 0, cells := 0, slots := 0, locals := 0 } : Room)) s m (#[.int p1]) below meth c (MQ below (va_Qi (fun r w => ∃ σ' : VS, Q r σ' ∧ w = wc E B σ') (AftU E A) A) (#[.int p1]) s (({ frames := 0, cells := 0, slots := 0, locals := 0 } : Room)).cells (({ frames := 0, cells := 0, slots := 0, locals := 0 } : Room)).slots A) A E (wc E B) 1 14 [] [] σ := by
    intro σ hw
    unfold b_X5has_14 at hw
    refine R_iconst F 0 dX5_has_14 (by decide) ?_
    exact R_sub [] rfl (J_15 0 σ hw)
  unfold wp_X5has at hw
  refine R_iload_n F dX5_has_0 rfl 0 rfl ?_
  refine R_if_lt (tgt := 14) F dX5_has_1 (by decide) (fun hc => ?_) (fun hc => ?_)
  · replace hw := hw.1 hc
    exact R_sub [] rfl (J_14 σ hw)
  · replace hw := hw.2 hc
    refine R_iload_n F dX5_has_4 rfl 0 rfl ?_
    refine R_bipush F 8 dX5_has_5 (by decide) ?_
    refine R_icmp_ge (tgt := 14) F dX5_has_7 (by decide) (fun hc => ?_) (fun hc => ?_)
    · replace hw := hw.1 hc
      exact R_sub [] rfl (J_14 σ hw)
    · replace hw := hw.2 hc
      refine R_iconst F 1 dX5_has_10 (by decide) ?_
      refine R_goto (tgt := 15) F dX5_has_11 (by decide) ?_
      exact R_sub [] rfl (J_15 1 σ hw)
def b_X5hasRow_30 (Q : Int32 → VS → Prop) (k0 : Int32) (σ : VS) : Prop := (Bo k0 ∧ Q k0 σ)
def b_X5hasRow_29 (Q : Int32 → VS → Prop) (σ : VS) : Prop := b_X5hasRow_30 Q 0 σ
def wp_X5hasRow (Q : Int32 → VS → Prop) (p1 : Int32) (p2 : Int32) (p3 : Int32) (σ : VS) : Prop := wp_X5has (fun (r1 : Int32) (σ2 : VS) => ((r1.toInt = 0 → b_X5hasRow_29 Q σ2) ∧ (r1.toInt ≠ 0 → ((p2.toInt < 0 → b_X5hasRow_29 Q σ2) ∧ (0 ≤ p2.toInt → ((2 ≤ p2.toInt → b_X5hasRow_29 Q σ2) ∧ (p2.toInt < 2 → ((p3.toInt < 0 → b_X5hasRow_29 Q σ2) ∧ (0 ≤ p3.toInt → ((4 ≤ p3.toInt → b_X5hasRow_29 Q σ2) ∧ (p3.toInt < 4 → b_X5hasRow_30 Q 1 σ2))))))))))) p1 σ
theorem dX5_hasRow_0 : decode cX5_hasRow 0 = .ok (.iload_n 0, 1) := by decide +kernel
theorem dX5_hasRow_1 : decode cX5_hasRow 1 = .ok (.invokestatic 27, 3) := by decide +kernel
theorem dX5_hasRow_4 : decode cX5_hasRow 4 = .ok (.ifCond .eq 25, 3) := by decide +kernel
theorem dX5_hasRow_7 : decode cX5_hasRow 7 = .ok (.iload_n 1, 1) := by decide +kernel
theorem dX5_hasRow_8 : decode cX5_hasRow 8 = .ok (.ifCond .lt 21, 3) := by decide +kernel
theorem dX5_hasRow_11 : decode cX5_hasRow 11 = .ok (.iload_n 1, 1) := by decide +kernel
theorem dX5_hasRow_12 : decode cX5_hasRow 12 = .ok (.iconst 2, 1) := by decide +kernel
theorem dX5_hasRow_13 : decode cX5_hasRow 13 = .ok (.if_icmp .ge 16, 3) := by decide +kernel
theorem dX5_hasRow_16 : decode cX5_hasRow 16 = .ok (.iload_n 2, 1) := by decide +kernel
theorem dX5_hasRow_17 : decode cX5_hasRow 17 = .ok (.ifCond .lt 12, 3) := by decide +kernel
theorem dX5_hasRow_20 : decode cX5_hasRow 20 = .ok (.iload_n 2, 1) := by decide +kernel
theorem dX5_hasRow_21 : decode cX5_hasRow 21 = .ok (.iconst 4, 1) := by decide +kernel
theorem dX5_hasRow_22 : decode cX5_hasRow 22 = .ok (.if_icmp .ge 7, 3) := by decide +kernel
theorem dX5_hasRow_25 : decode cX5_hasRow 25 = .ok (.iconst 1, 1) := by decide +kernel
theorem dX5_hasRow_26 : decode cX5_hasRow 26 = .ok (.goto 4, 3) := by decide +kernel
theorem dX5_hasRow_29 : decode cX5_hasRow 29 = .ok (.iconst 0, 1) := by decide +kernel
theorem dX5_hasRow_30 : decode cX5_hasRow 30 = .ok (.ireturn, 1) := by decide +kernel
def wo_X5hasRow : List Cond := [.code yX5_hasRow cX5_hasRow 3 (some .boolean), .methodLink RX5 27 yX5_has, .static yX5_has, .initialized RX5]
def wr_X5hasRow : List Cond := (wfC ++ (w_X5has ++ ([])))
def w_X5hasRow : List Cond := wo_X5hasRow ++ wr_X5hasRow
theorem wg_X5hasRow : GW w_X5hasRow := GW_app (GW_of (by decide +kernel)) (GW_app (wg_fC) (GW_app (wg_X5has) (GW_nil)))
theorem in_X5hasRow : ∀ w ∈ wfC, w ∈ w_X5hasRow := fun _ h => List.mem_append_right _ (List.mem_append_left _ h)
theorem g_X5hasRow_X5has_27 : GoodIn w_X5hasRow (va_wsS RX5 27 yX5_has w_X5has) := goodIn_app (gi_left (goodIn_of _ (by decide +kernel))) (fun w h => ⟨List.mem_append_right _ (List.mem_append_right _ (List.mem_append_left _ h)), wg_X5has w h⟩)
set_option maxHeartbeats 4000000 in
set_option maxRecDepth 100000 in
theorem ct_X5hasRow (l : Launch) (E : gE) (B : Nat → Nat) (Q : Int32 → VS → Prop) (p1 : Int32) (p2 : Int32) (p3 : Int32) (σ : VS) (hw : wp_X5hasRow Q p1 p2 p3 σ) : CtI l E yX5_hasRow w_X5hasRow (({ frames := 1, cells := 0, slots := 0, locals := 20 } : Room)) (wc E B σ) [.int p1, .int p2, .int p3] (fun r w => ∃ σ' : VS, Q r σ' ∧ w = wc E B σ') := by
  refine VC_I (cc := cX5_hasRow) (mL := 3) (rt := (some .boolean)) (lv0 := [(0, .int p1), (1, .int p2), (2, .int p3)]) rfl (by decide) rfl (Nat.le_of_ble_eq_true rfl) ?_
  intro p e s m below meth c A F
  replace F : Fx p s m _ meth c A E cX5_hasRow 3 (some .boolean) RX5 w_X5hasRow := F
  have J_30 : ∀ (k0 : Int32) (σ : VS), b_X5hasRow_30 Q k0 σ → WB p l e (({ frames := 1, cells := 0, slots := 0, locals := 20 } : Room)) s m (#[.int p1, .int p2, .int p3]) below meth c (MQ below (va_Qi (fun r w => ∃ σ' : VS, Q r σ' ∧ w = wc E B σ') (AftU E A) A) (#[.int p1, .int p2, .int p3]) s (({ frames := 1, cells := 0, slots := 0, locals := 20 } : Room)).cells (({ frames := 1, cells := 0, slots := 0, locals := 20 } : Room)).slots A) A E (wc E B) 3 30 [] [.int k0] σ := by
    intro k0 σ hw
    unfold b_X5hasRow_30 at hw
    exact R_iret (Qc := Q) F (nb_01 hw.1) dX5_hasRow_30 hw.2
  have J_29 : ∀ (σ : VS), b_X5hasRow_29 Q σ → WB p l e (({ frames := 1, cells := 0, slots := 0, locals := 20 } : Room)) s m (#[.int p1, .int p2, .int p3]) below meth c (MQ below (va_Qi (fun r w => ∃ σ' : VS, Q r σ' ∧ w = wc E B σ') (AftU E A) A) (#[.int p1, .int p2, .int p3]) s (({ frames := 1, cells := 0, slots := 0, locals := 20 } : Room)).cells (({ frames := 1, cells := 0, slots := 0, locals := 20 } : Room)).slots A) A E (wc E B) 3 29 [] [] σ := by
    intro σ hw
    unfold b_X5hasRow_29 at hw
    refine R_iconst F 0 dX5_hasRow_29 (by decide) ?_
    exact R_sub [] rfl (J_30 0 σ hw)
  unfold wp_X5hasRow at hw
  refine R_iload_n F dX5_hasRow_0 rfl 0 rfl ?_
  refine R_callIS (As := [.int p1]) (C := RX10) (q0 := 0) (ci := 10) (b := 0) (N := 69) (T := TX10) (fs := fun _ => []) F (ct_X5has l E B _ p1 _ hw) (va_cwS 1 F.2.2.2.2.2.2.2.2.2.2 g_X5hasRow_X5has_27 rfl rfl rfl (by decide +kernel) ⟨Nat.le_of_ble_eq_true rfl, Nat.le_of_ble_eq_true rfl⟩) ⟨rfl, rfl⟩ rfl rfl (Nat.le_of_ble_eq_true rfl) dX5_hasRow_1 (fun r1 σ2 hw => ?_)
  refine R_if_eq (tgt := 29) F dX5_hasRow_4 (by decide) (fun hc => ?_) (fun hc => ?_)
  · replace hw := hw.1 hc
    exact R_sub [] rfl (J_29 σ2 hw)
  · replace hw := hw.2 hc
    refine R_iload_n F dX5_hasRow_7 rfl 1 rfl ?_
    refine R_if_lt (tgt := 29) F dX5_hasRow_8 (by decide) (fun hc => ?_) (fun hc => ?_)
    · replace hw := hw.1 hc
      exact R_sub [] rfl (J_29 σ2 hw)
    · replace hw := hw.2 hc
      refine R_iload_n F dX5_hasRow_11 rfl 1 rfl ?_
      refine R_iconst F 2 dX5_hasRow_12 (by decide) ?_
      refine R_icmp_ge (tgt := 29) F dX5_hasRow_13 (by decide) (fun hc => ?_) (fun hc => ?_)
      · replace hw := hw.1 hc
        exact R_sub [] rfl (J_29 σ2 hw)
      · replace hw := hw.2 hc
        refine R_iload_n F dX5_hasRow_16 rfl 2 rfl ?_
        refine R_if_lt (tgt := 29) F dX5_hasRow_17 (by decide) (fun hc => ?_) (fun hc => ?_)
        · replace hw := hw.1 hc
          exact R_sub [] rfl (J_29 σ2 hw)
        · replace hw := hw.2 hc
          refine R_iload_n F dX5_hasRow_20 rfl 2 rfl ?_
          refine R_iconst F 4 dX5_hasRow_21 (by decide) ?_
          refine R_icmp_ge (tgt := 29) F dX5_hasRow_22 (by decide) (fun hc => ?_) (fun hc => ?_)
          · replace hw := hw.1 hc
            exact R_sub [] rfl (J_29 σ2 hw)
          · replace hw := hw.2 hc
            refine R_iconst F 1 dX5_hasRow_25 (by decide) ?_
            refine R_goto (tgt := 30) F dX5_hasRow_26 (by decide) ?_
            exact R_sub [] rfl (J_30 1 σ2 hw)
def wp_X5rowPlace (Q : Int32 → VS → Prop) (p1 : Int32) (p2 : Int32) (p3 : Int32) (σ : VS) : Prop := Q ((((p1 * 2) + p2) * 4) + p3) σ
theorem dX5_rowPlace_0 : decode cX5_rowPlace 0 = .ok (.iload_n 0, 1) := by decide +kernel
theorem dX5_rowPlace_1 : decode cX5_rowPlace 1 = .ok (.iconst 2, 1) := by decide +kernel
theorem dX5_rowPlace_2 : decode cX5_rowPlace 2 = .ok (.imul, 1) := by decide +kernel
theorem dX5_rowPlace_3 : decode cX5_rowPlace 3 = .ok (.iload_n 1, 1) := by decide +kernel
theorem dX5_rowPlace_4 : decode cX5_rowPlace 4 = .ok (.iadd, 1) := by decide +kernel
theorem dX5_rowPlace_5 : decode cX5_rowPlace 5 = .ok (.iconst 4, 1) := by decide +kernel
theorem dX5_rowPlace_6 : decode cX5_rowPlace 6 = .ok (.imul, 1) := by decide +kernel
theorem dX5_rowPlace_7 : decode cX5_rowPlace 7 = .ok (.iload_n 2, 1) := by decide +kernel
theorem dX5_rowPlace_8 : decode cX5_rowPlace 8 = .ok (.iadd, 1) := by decide +kernel
theorem dX5_rowPlace_9 : decode cX5_rowPlace 9 = .ok (.ireturn, 1) := by decide +kernel
def wo_X5rowPlace : List Cond := [.code yX5_rowPlace cX5_rowPlace 3 (some .int)]
def wr_X5rowPlace : List Cond := (wfC ++ ([]))
def w_X5rowPlace : List Cond := wo_X5rowPlace ++ wr_X5rowPlace
theorem wg_X5rowPlace : GW w_X5rowPlace := GW_app (GW_of (by decide +kernel)) (GW_app (wg_fC) (GW_nil))
theorem in_X5rowPlace : ∀ w ∈ wfC, w ∈ w_X5rowPlace := fun _ h => List.mem_append_right _ (List.mem_append_left _ h)
set_option maxHeartbeats 4000000 in
set_option maxRecDepth 100000 in
theorem ct_X5rowPlace (l : Launch) (E : gE) (B : Nat → Nat) (Q : Int32 → VS → Prop) (p1 : Int32) (p2 : Int32) (p3 : Int32) (σ : VS) (hw : wp_X5rowPlace Q p1 p2 p3 σ) : CtI l E yX5_rowPlace w_X5rowPlace (({ frames := 0, cells := 0, slots := 0, locals := 0 } : Room)) (wc E B σ) [.int p1, .int p2, .int p3] (fun r w => ∃ σ' : VS, Q r σ' ∧ w = wc E B σ') := by
  refine VC_I (cc := cX5_rowPlace) (mL := 3) (rt := (some .int)) (lv0 := [(0, .int p1), (1, .int p2), (2, .int p3)]) rfl (by decide) rfl (Nat.le_of_ble_eq_true rfl) ?_
  intro p e s m below meth c A F
  replace F : Fx p s m _ meth c A E cX5_rowPlace 3 (some .int) RX5 w_X5rowPlace := F
  unfold wp_X5rowPlace at hw
  refine R_iload_n F dX5_rowPlace_0 rfl 0 rfl ?_
  refine R_iconst F 2 dX5_rowPlace_1 (by decide) ?_
  refine R_imul F dX5_rowPlace_2 ?_
  refine R_iload_n F dX5_rowPlace_3 rfl 1 rfl ?_
  refine R_iadd F dX5_rowPlace_4 ?_
  refine R_iconst F 4 dX5_rowPlace_5 (by decide) ?_
  refine R_imul F dX5_rowPlace_6 ?_
  refine R_iload_n F dX5_rowPlace_7 rfl 2 rfl ?_
  refine R_iadd F dX5_rowPlace_8 ?_
  exact R_iret (Qc := Q) F rfl dX5_rowPlace_9 hw
def b_X5lastNotAboveL_5 (X5 : Int32 → Int32 → VS → Prop) (Q : Int32 → VS → Prop) (l1 : Int32) (l2 : Int32) (σ : VS) : Prop := ((l2.toInt ≤ 0 → Q 0 σ) ∧ (0 < l2.toInt → (In l2 4 ∧ ((l1.toInt < (lm_load.getD l2.toNatClampNeg 0).toInt → X5 l1 (l2 + (-1)) σ) ∧ ((lm_load.getD l2.toNatClampNeg 0).toInt ≤ l1.toInt → Q l2 σ)))))
def wp_X5lastNotAboveL (Q : Int32 → VS → Prop) (p2 : Int32) (σ : VS) : Prop := ∀ (X5 : Int32 → Int32 → VS → Prop), (∀ (l1 : Int32) (l2 : Int32) (σ : VS), b_X5lastNotAboveL_5 X5 Q l1 l2 σ → X5 l1 l2 σ) → X5 p2 3 σ
theorem dX5_lastNotAbove_0 : decode cX5_lastNotAbove 0 = .ok (.aload_n 0, 1) := by decide +kernel
theorem dX5_lastNotAbove_1 : decode cX5_lastNotAbove 1 = .ok (.arraylength, 1) := by decide +kernel
theorem dX5_lastNotAbove_2 : decode cX5_lastNotAbove 2 = .ok (.iconst 1, 1) := by decide +kernel
theorem dX5_lastNotAbove_3 : decode cX5_lastNotAbove 3 = .ok (.isub, 1) := by decide +kernel
theorem dX5_lastNotAbove_4 : decode cX5_lastNotAbove 4 = .ok (.istore_n 2, 1) := by decide +kernel
theorem dX5_lastNotAbove_5 : decode cX5_lastNotAbove 5 = .ok (.iload_n 2, 1) := by decide +kernel
theorem dX5_lastNotAbove_6 : decode cX5_lastNotAbove 6 = .ok (.ifCond .le 18, 3) := by decide +kernel
theorem dX5_lastNotAbove_24 : decode cX5_lastNotAbove 24 = .ok (.iconst 0, 1) := by decide +kernel
theorem dX5_lastNotAbove_25 : decode cX5_lastNotAbove 25 = .ok (.ireturn, 1) := by decide +kernel
theorem dX5_lastNotAbove_9 : decode cX5_lastNotAbove 9 = .ok (.aload_n 0, 1) := by decide +kernel
theorem dX5_lastNotAbove_10 : decode cX5_lastNotAbove 10 = .ok (.iload_n 2, 1) := by decide +kernel
theorem dX5_lastNotAbove_11 : decode cX5_lastNotAbove 11 = .ok (.iaload, 1) := by decide +kernel
theorem dX5_lastNotAbove_12 : decode cX5_lastNotAbove 12 = .ok (.iload_n 1, 1) := by decide +kernel
theorem dX5_lastNotAbove_13 : decode cX5_lastNotAbove 13 = .ok (.if_icmp .gt 5, 3) := by decide +kernel
theorem dX5_lastNotAbove_18 : decode cX5_lastNotAbove 18 = .ok (.iinc 2 (-1), 3) := by decide +kernel
theorem dX5_lastNotAbove_21 : decode cX5_lastNotAbove 21 = .ok (.goto (-16), 3) := by decide +kernel
theorem dX5_lastNotAbove_16 : decode cX5_lastNotAbove 16 = .ok (.iload_n 2, 1) := by decide +kernel
theorem dX5_lastNotAbove_17 : decode cX5_lastNotAbove 17 = .ok (.ireturn, 1) := by decide +kernel
def wo_X5lastNotAboveL : List Cond := [.code yX5_lastNotAbove cX5_lastNotAbove 3 (some .int)]
def wr_X5lastNotAboveL : List Cond := (wfC ++ ([]))
def w_X5lastNotAboveL : List Cond := wo_X5lastNotAboveL ++ wr_X5lastNotAboveL
theorem wg_X5lastNotAboveL : GW w_X5lastNotAboveL := GW_app (GW_of (by decide +kernel)) (GW_app (wg_fC) (GW_nil))
theorem in_X5lastNotAboveL : ∀ w ∈ wfC, w ∈ w_X5lastNotAboveL := fun _ h => List.mem_append_right _ (List.mem_append_left _ h)
set_option maxHeartbeats 4000000 in
set_option maxRecDepth 100000 in
theorem ct_X5lastNotAboveL (l : Launch) (E : gE) (B : Nat → Nat) (Q : Int32 → VS → Prop) (p2 : Int32) (σ : VS) (hw : wp_X5lastNotAboveL Q p2 σ) : CtI l E yX5_lastNotAbove w_X5lastNotAboveL (({ frames := 0, cells := 0, slots := 0, locals := 0 } : Room)) (wc E B σ) [.ref E.2.2.2.2.1, .int p2] (fun r w => ∃ σ' : VS, Q r σ' ∧ w = wc E B σ') := by
  refine VC_I (cc := cX5_lastNotAbove) (mL := 3) (rt := (some .int)) (lv0 := [(0, .ref E.2.2.2.2.1), (1, .int p2)]) rfl (by decide) rfl (Nat.le_of_ble_eq_true rfl) ?_
  intro p e s m below meth c A F
  replace F : Fx p s m _ meth c A E cX5_lastNotAbove 3 (some .int) RX5 w_X5lastNotAboveL := F
  obtain ⟨X5, hX5⟩ : ∃ X : Int32 → Int32 → VS → Prop, X = fun l1 l2 σ => WB p l e (({ frames := 0, cells := 0, slots := 0, locals := 0 } : Room)) s m (#[.ref E.2.2.2.2.1, .int p2]) below meth c (MQ below (va_Qi (fun r w => ∃ σ' : VS, Q r σ' ∧ w = wc E B σ') (AftU E A) A) (#[.ref E.2.2.2.2.1, .int p2]) s (({ frames := 0, cells := 0, slots := 0, locals := 0 } : Room)).cells (({ frames := 0, cells := 0, slots := 0, locals := 0 } : Room)).slots A) A E (wc E B) 3 5 [(0, .ref E.2.2.2.2.1), (1, .int l1), (2, .int l2)] [] σ := ⟨_, rfl⟩
  have U_5 : ∀ (l1 : Int32) (l2 : Int32) (σ : VS), X5 l1 l2 σ → WB p l e (({ frames := 0, cells := 0, slots := 0, locals := 0 } : Room)) s m (#[.ref E.2.2.2.2.1, .int p2]) below meth c (MQ below (va_Qi (fun r w => ∃ σ' : VS, Q r σ' ∧ w = wc E B σ') (AftU E A) A) (#[.ref E.2.2.2.2.1, .int p2]) s (({ frames := 0, cells := 0, slots := 0, locals := 0 } : Room)).cells (({ frames := 0, cells := 0, slots := 0, locals := 0 } : Room)).slots A) A E (wc E B) 3 5 [(0, .ref E.2.2.2.2.1), (1, .int l1), (2, .int l2)] [] σ := by
    intro l1 l2 σ hw; rw [hX5] at hw; exact hw
  have C_5 : ∀ (l1 : Int32) (l2 : Int32) (σ : VS), b_X5lastNotAboveL_5 X5 Q l1 l2 σ → X5 l1 l2 σ := by
    intro l1 l2 σ hw
    unfold b_X5lastNotAboveL_5 at hw
    rw [hX5]
    show WB p l e (({ frames := 0, cells := 0, slots := 0, locals := 0 } : Room)) s m (#[.ref E.2.2.2.2.1, .int p2]) below meth c (MQ below (va_Qi (fun r w => ∃ σ' : VS, Q r σ' ∧ w = wc E B σ') (AftU E A) A) (#[.ref E.2.2.2.2.1, .int p2]) s (({ frames := 0, cells := 0, slots := 0, locals := 0 } : Room)).cells (({ frames := 0, cells := 0, slots := 0, locals := 0 } : Room)).slots A) A E (wc E B) 3 5 [(0, .ref E.2.2.2.2.1), (1, .int l1), (2, .int l2)] [] σ
    refine R_iload_n F dX5_lastNotAbove_5 rfl 2 rfl ?_
    refine R_if_le (tgt := 24) F dX5_lastNotAbove_6 (by decide) (fun hc => ?_) (fun hc => ?_)
    · replace hw := hw.1 hc
      refine R_iconst F 0 dX5_lastNotAbove_24 (by decide) ?_
      exact R_iret (Qc := Q) F rfl dX5_lastNotAbove_25 hw
    · replace hw := hw.2 hc
      refine R_aload_n F dX5_lastNotAbove_9 rfl 0 rfl ?_
      refine R_iload_n F dX5_lastNotAbove_10 rfl 2 rfl ?_
      refine R_gl_LOAD_MARKS F dX5_lastNotAbove_11 hw.1 ?_
      replace hw := hw.2
      refine R_iload_n F dX5_lastNotAbove_12 rfl 1 rfl ?_
      refine R_icmp_gt (tgt := 18) F dX5_lastNotAbove_13 (by decide) (fun hc => ?_) (fun hc => ?_)
      · replace hw := hw.1 hc
        refine R_iinc (q := 2) (v := (l2 + (-1))) (lv' := [(2, .int (l2 + (-1))), (0, .ref E.2.2.2.2.1), (1, .int l1)]) F dX5_lastNotAbove_18 rfl rfl (by decide) rfl ?_
        refine R_goto (tgt := 5) F dX5_lastNotAbove_21 (by decide) ?_
        exact R_sub [1, 2, 0] rfl (U_5 l1 (l2 + (-1)) σ hw)
      · replace hw := hw.2 hc
        refine R_iload_n F dX5_lastNotAbove_16 rfl 2 rfl ?_
        exact R_iret (Qc := Q) F rfl dX5_lastNotAbove_17 hw
  unfold wp_X5lastNotAboveL at hw
  replace hw := hw X5 C_5
  refine R_aload_n F dX5_lastNotAbove_0 rfl 0 rfl ?_
  refine R_gn_LOAD_MARKS F dX5_lastNotAbove_1 ?_
  refine R_iconst F 1 dX5_lastNotAbove_2 (by decide) ?_
  refine R_isub F dX5_lastNotAbove_3 ?_
  refine R_cst (y := 3) (by decide) ?_
  refine R_istore_n (lv' := [(2, .int 3), (0, .ref E.2.2.2.2.1), (1, .int p2)]) F dX5_lastNotAbove_4 rfl (by decide) rfl ?_
  exact R_sub [1, 2, 0] rfl (U_5 p2 3 σ hw)
def b_X5lastNotAboveS_5 (X5 : Int32 → Int32 → VS → Prop) (Q : Int32 → VS → Prop) (l1 : Int32) (l2 : Int32) (σ : VS) : Prop := ((l2.toInt ≤ 0 → Q 0 σ) ∧ (0 < l2.toInt → (In l2 3 ∧ ((l1.toInt < (lm_slope.getD l2.toNatClampNeg 0).toInt → X5 l1 (l2 + (-1)) σ) ∧ ((lm_slope.getD l2.toNatClampNeg 0).toInt ≤ l1.toInt → Q l2 σ)))))
def wp_X5lastNotAboveS (Q : Int32 → VS → Prop) (p2 : Int32) (σ : VS) : Prop := ∀ (X5 : Int32 → Int32 → VS → Prop), (∀ (l1 : Int32) (l2 : Int32) (σ : VS), b_X5lastNotAboveS_5 X5 Q l1 l2 σ → X5 l1 l2 σ) → X5 p2 2 σ
def wo_X5lastNotAboveS : List Cond := [.code yX5_lastNotAbove cX5_lastNotAbove 3 (some .int)]
def wr_X5lastNotAboveS : List Cond := (wfC ++ ([]))
def w_X5lastNotAboveS : List Cond := wo_X5lastNotAboveS ++ wr_X5lastNotAboveS
theorem wg_X5lastNotAboveS : GW w_X5lastNotAboveS := GW_app (GW_of (by decide +kernel)) (GW_app (wg_fC) (GW_nil))
theorem in_X5lastNotAboveS : ∀ w ∈ wfC, w ∈ w_X5lastNotAboveS := fun _ h => List.mem_append_right _ (List.mem_append_left _ h)
set_option maxHeartbeats 4000000 in
set_option maxRecDepth 100000 in
theorem ct_X5lastNotAboveS (l : Launch) (E : gE) (B : Nat → Nat) (Q : Int32 → VS → Prop) (p2 : Int32) (σ : VS) (hw : wp_X5lastNotAboveS Q p2 σ) : CtI l E yX5_lastNotAbove w_X5lastNotAboveS (({ frames := 0, cells := 0, slots := 0, locals := 0 } : Room)) (wc E B σ) [.ref E.2.2.2.2.2.1, .int p2] (fun r w => ∃ σ' : VS, Q r σ' ∧ w = wc E B σ') := by
  refine VC_I (cc := cX5_lastNotAbove) (mL := 3) (rt := (some .int)) (lv0 := [(0, .ref E.2.2.2.2.2.1), (1, .int p2)]) rfl (by decide) rfl (Nat.le_of_ble_eq_true rfl) ?_
  intro p e s m below meth c A F
  replace F : Fx p s m _ meth c A E cX5_lastNotAbove 3 (some .int) RX5 w_X5lastNotAboveS := F
  obtain ⟨X5, hX5⟩ : ∃ X : Int32 → Int32 → VS → Prop, X = fun l1 l2 σ => WB p l e (({ frames := 0, cells := 0, slots := 0, locals := 0 } : Room)) s m (#[.ref E.2.2.2.2.2.1, .int p2]) below meth c (MQ below (va_Qi (fun r w => ∃ σ' : VS, Q r σ' ∧ w = wc E B σ') (AftU E A) A) (#[.ref E.2.2.2.2.2.1, .int p2]) s (({ frames := 0, cells := 0, slots := 0, locals := 0 } : Room)).cells (({ frames := 0, cells := 0, slots := 0, locals := 0 } : Room)).slots A) A E (wc E B) 3 5 [(0, .ref E.2.2.2.2.2.1), (1, .int l1), (2, .int l2)] [] σ := ⟨_, rfl⟩
  have U_5 : ∀ (l1 : Int32) (l2 : Int32) (σ : VS), X5 l1 l2 σ → WB p l e (({ frames := 0, cells := 0, slots := 0, locals := 0 } : Room)) s m (#[.ref E.2.2.2.2.2.1, .int p2]) below meth c (MQ below (va_Qi (fun r w => ∃ σ' : VS, Q r σ' ∧ w = wc E B σ') (AftU E A) A) (#[.ref E.2.2.2.2.2.1, .int p2]) s (({ frames := 0, cells := 0, slots := 0, locals := 0 } : Room)).cells (({ frames := 0, cells := 0, slots := 0, locals := 0 } : Room)).slots A) A E (wc E B) 3 5 [(0, .ref E.2.2.2.2.2.1), (1, .int l1), (2, .int l2)] [] σ := by
    intro l1 l2 σ hw; rw [hX5] at hw; exact hw
  have C_5 : ∀ (l1 : Int32) (l2 : Int32) (σ : VS), b_X5lastNotAboveS_5 X5 Q l1 l2 σ → X5 l1 l2 σ := by
    intro l1 l2 σ hw
    unfold b_X5lastNotAboveS_5 at hw
    rw [hX5]
    show WB p l e (({ frames := 0, cells := 0, slots := 0, locals := 0 } : Room)) s m (#[.ref E.2.2.2.2.2.1, .int p2]) below meth c (MQ below (va_Qi (fun r w => ∃ σ' : VS, Q r σ' ∧ w = wc E B σ') (AftU E A) A) (#[.ref E.2.2.2.2.2.1, .int p2]) s (({ frames := 0, cells := 0, slots := 0, locals := 0 } : Room)).cells (({ frames := 0, cells := 0, slots := 0, locals := 0 } : Room)).slots A) A E (wc E B) 3 5 [(0, .ref E.2.2.2.2.2.1), (1, .int l1), (2, .int l2)] [] σ
    refine R_iload_n F dX5_lastNotAbove_5 rfl 2 rfl ?_
    refine R_if_le (tgt := 24) F dX5_lastNotAbove_6 (by decide) (fun hc => ?_) (fun hc => ?_)
    · replace hw := hw.1 hc
      refine R_iconst F 0 dX5_lastNotAbove_24 (by decide) ?_
      exact R_iret (Qc := Q) F rfl dX5_lastNotAbove_25 hw
    · replace hw := hw.2 hc
      refine R_aload_n F dX5_lastNotAbove_9 rfl 0 rfl ?_
      refine R_iload_n F dX5_lastNotAbove_10 rfl 2 rfl ?_
      refine R_gl_SLOPE_MARKS F dX5_lastNotAbove_11 hw.1 ?_
      replace hw := hw.2
      refine R_iload_n F dX5_lastNotAbove_12 rfl 1 rfl ?_
      refine R_icmp_gt (tgt := 18) F dX5_lastNotAbove_13 (by decide) (fun hc => ?_) (fun hc => ?_)
      · replace hw := hw.1 hc
        refine R_iinc (q := 2) (v := (l2 + (-1))) (lv' := [(2, .int (l2 + (-1))), (0, .ref E.2.2.2.2.2.1), (1, .int l1)]) F dX5_lastNotAbove_18 rfl rfl (by decide) rfl ?_
        refine R_goto (tgt := 5) F dX5_lastNotAbove_21 (by decide) ?_
        exact R_sub [1, 2, 0] rfl (U_5 l1 (l2 + (-1)) σ hw)
      · replace hw := hw.2 hc
        refine R_iload_n F dX5_lastNotAbove_16 rfl 2 rfl ?_
        exact R_iret (Qc := Q) F rfl dX5_lastNotAbove_17 hw
  unfold wp_X5lastNotAboveS at hw
  replace hw := hw X5 C_5
  refine R_aload_n F dX5_lastNotAbove_0 rfl 0 rfl ?_
  refine R_gn_SLOPE_MARKS F dX5_lastNotAbove_1 ?_
  refine R_iconst F 1 dX5_lastNotAbove_2 (by decide) ?_
  refine R_isub F dX5_lastNotAbove_3 ?_
  refine R_cst (y := 2) (by decide) ?_
  refine R_istore_n (lv' := [(2, .int 2), (0, .ref E.2.2.2.2.2.1), (1, .int p2)]) F dX5_lastNotAbove_4 rfl (by decide) rfl ?_
  exact R_sub [1, 2, 0] rfl (U_5 p2 2 σ hw)
def b_X5whyAbsent_28 (Q : Int32 → VS → Prop) (k0 : Int32) (σ : VS) : Prop := Q k0 σ
def wp_X5whyAbsent (Q : Int32 → VS → Prop) (p1 : Int32) (p2 : Int32) (σ : VS) : Prop := (In p1 64 ∧ (((rd σ 37 p1).toInt ≠ 0 → (In p1 64 ∧ (((rd σ 37 p1).toInt ≤ p2.toInt → b_X5whyAbsent_28 Q (-12) σ) ∧ (p2.toInt < (rd σ 37 p1).toInt → b_X5whyAbsent_28 Q 0 σ)))) ∧ ((rd σ 37 p1).toInt = 0 → Q (-11) σ)))
theorem dX5_whyAbsent_0 : decode cX5_whyAbsent 0 = .ok (.aload_n 0, 1) := by decide +kernel
theorem dX5_whyAbsent_1 : decode cX5_whyAbsent 1 = .ok (.getfield 15, 3) := by decide +kernel
theorem dX5_whyAbsent_4 : decode cX5_whyAbsent 4 = .ok (.iload_n 1, 1) := by decide +kernel
theorem dX5_whyAbsent_5 : decode cX5_whyAbsent 5 = .ok (.iaload, 1) := by decide +kernel
theorem dX5_whyAbsent_6 : decode cX5_whyAbsent 6 = .ok (.ifCond .ne 6, 3) := by decide +kernel
theorem dX5_whyAbsent_12 : decode cX5_whyAbsent 12 = .ok (.iload_n 2, 1) := by decide +kernel
theorem dX5_whyAbsent_13 : decode cX5_whyAbsent 13 = .ok (.aload_n 0, 1) := by decide +kernel
theorem dX5_whyAbsent_14 : decode cX5_whyAbsent 14 = .ok (.getfield 15, 3) := by decide +kernel
theorem dX5_whyAbsent_17 : decode cX5_whyAbsent 17 = .ok (.iload_n 1, 1) := by decide +kernel
theorem dX5_whyAbsent_18 : decode cX5_whyAbsent 18 = .ok (.iaload, 1) := by decide +kernel
theorem dX5_whyAbsent_19 : decode cX5_whyAbsent 19 = .ok (.if_icmp .ge 7, 3) := by decide +kernel
theorem dX5_whyAbsent_26 : decode cX5_whyAbsent 26 = .ok (.bipush (-12), 2) := by decide +kernel
theorem dX5_whyAbsent_22 : decode cX5_whyAbsent 22 = .ok (.iconst 0, 1) := by decide +kernel
theorem dX5_whyAbsent_23 : decode cX5_whyAbsent 23 = .ok (.goto 5, 3) := by decide +kernel
theorem dX5_whyAbsent_9 : decode cX5_whyAbsent 9 = .ok (.bipush (-11), 2) := by decide +kernel
theorem dX5_whyAbsent_11 : decode cX5_whyAbsent 11 = .ok (.ireturn, 1) := by decide +kernel
theorem dX5_whyAbsent_28 : decode cX5_whyAbsent 28 = .ok (.ireturn, 1) := by decide +kernel
def wo_X5whyAbsent : List Cond := [.code yX5_whyAbsent cX5_whyAbsent 3 (some .int)]
def wr_X5whyAbsent : List Cond := (wfC ++ ([]))
def w_X5whyAbsent : List Cond := wo_X5whyAbsent ++ wr_X5whyAbsent
theorem wg_X5whyAbsent : GW w_X5whyAbsent := GW_app (GW_of (by decide +kernel)) (GW_app (wg_fC) (GW_nil))
theorem in_X5whyAbsent : ∀ w ∈ wfC, w ∈ w_X5whyAbsent := fun _ h => List.mem_append_right _ (List.mem_append_left _ h)
set_option maxHeartbeats 4000000 in
set_option maxRecDepth 100000 in
theorem ct_X5whyAbsent (l : Launch) (E : gE) (B : Nat → Nat) (Q : Int32 → VS → Prop) (p1 : Int32) (p2 : Int32) (σ : VS) (hw : wp_X5whyAbsent Q p1 p2 σ) : CtI l E yX5_whyAbsent w_X5whyAbsent (({ frames := 0, cells := 0, slots := 0, locals := 0 } : Room)) (wc E B σ) [.ref (B 5), .int p1, .int p2] (fun r w => ∃ σ' : VS, Q r σ' ∧ w = wc E B σ') := by
  refine VC_I (cc := cX5_whyAbsent) (mL := 3) (rt := (some .int)) (lv0 := [(0, .ref (B 5)), (1, .int p1), (2, .int p2)]) rfl (by decide) rfl (Nat.le_of_ble_eq_true rfl) ?_
  intro p e s m below meth c A F
  replace F : Fx p s m _ meth c A E cX5_whyAbsent 3 (some .int) RX5 w_X5whyAbsent := F
  have J_28 : ∀ (k0 : Int32) (σ : VS), b_X5whyAbsent_28 Q k0 σ → WB p l e (({ frames := 0, cells := 0, slots := 0, locals := 0 } : Room)) s m (#[.ref (B 5), .int p1, .int p2]) below meth c (MQ below (va_Qi (fun r w => ∃ σ' : VS, Q r σ' ∧ w = wc E B σ') (AftU E A) A) (#[.ref (B 5), .int p1, .int p2]) s (({ frames := 0, cells := 0, slots := 0, locals := 0 } : Room)).cells (({ frames := 0, cells := 0, slots := 0, locals := 0 } : Room)).slots A) A E (wc E B) 3 28 [] [.int k0] σ := by
    intro k0 σ hw
    unfold b_X5whyAbsent_28 at hw
    exact R_iret (Qc := Q) F rfl dX5_whyAbsent_28 hw
  unfold wp_X5whyAbsent at hw
  refine R_aload_n F dX5_whyAbsent_0 rfl 0 rfl ?_
  refine gc_RX5_15_5 F in_X5whyAbsent dX5_whyAbsent_1 ?_
  refine R_iload_n F dX5_whyAbsent_4 rfl 1 rfl ?_
  refine R_ldi F qc_37 dX5_whyAbsent_5 hw.1 ?_
  replace hw := hw.2
  refine R_if_ne (tgt := 12) F dX5_whyAbsent_6 (by decide) (fun hc => ?_) (fun hc => ?_)
  · replace hw := hw.1 hc
    refine R_iload_n F dX5_whyAbsent_12 rfl 2 rfl ?_
    refine R_aload_n F dX5_whyAbsent_13 rfl 0 rfl ?_
    refine gc_RX5_15_5 F in_X5whyAbsent dX5_whyAbsent_14 ?_
    refine R_iload_n F dX5_whyAbsent_17 rfl 1 rfl ?_
    refine R_ldi F qc_37 dX5_whyAbsent_18 hw.1 ?_
    replace hw := hw.2
    refine R_icmp_ge (tgt := 26) F dX5_whyAbsent_19 (by decide) (fun hc => ?_) (fun hc => ?_)
    · replace hw := hw.1 hc
      refine R_bipush F (-12) dX5_whyAbsent_26 (by decide) ?_
      exact R_sub [] rfl (J_28 (-12) σ hw)
    · replace hw := hw.2 hc
      refine R_iconst F 0 dX5_whyAbsent_22 (by decide) ?_
      refine R_goto (tgt := 28) F dX5_whyAbsent_23 (by decide) ?_
      exact R_sub [] rfl (J_28 0 σ hw)
  · replace hw := hw.2 hc
    refine R_bipush F (-11) dX5_whyAbsent_9 (by decide) ?_
    exact R_iret (Qc := Q) F rfl dX5_whyAbsent_11 hw
def b_X5cutRow_10 (X10 : Int32 → Int32 → Int32 → Int32 → VS → Prop) (Q : Int32 → VS → Prop) (l1 : Int32) (l2 : Int32) (l3 : Int32) (l4 : Int32) (σ : VS) : Prop := ((l2.toInt ≤ l4.toInt → (In l1 64 ∧ Q l3 (sa σ 37 l1 l2))) ∧ (l4.toInt < l2.toInt → (In ((l1 * 3) + l4) 192 ∧ X10 l1 l2 l3 (l4 + 1) (sa σ 36 ((l1 * 3) + l4) 10))))
def wp_X5cutRow (Q : Int32 → VS → Prop) (p1 : Int32) (p2 : Int32) (σ : VS) : Prop := ∀ (X10 : Int32 → Int32 → Int32 → Int32 → VS → Prop), (∀ (l1 : Int32) (l2 : Int32) (l3 : Int32) (l4 : Int32) (σ : VS), b_X5cutRow_10 X10 Q l1 l2 l3 l4 σ → X10 l1 l2 l3 l4 σ) → (In p1 64 ∧ (∀ x1 : Int32, x1 = (rd σ 37 p1) → X10 p1 p2 x1 x1 σ))
theorem dX5_cutRow_0 : decode cX5_cutRow 0 = .ok (.aload_n 0, 1) := by decide +kernel
theorem dX5_cutRow_1 : decode cX5_cutRow 1 = .ok (.getfield 15, 3) := by decide +kernel
theorem dX5_cutRow_4 : decode cX5_cutRow 4 = .ok (.iload_n 1, 1) := by decide +kernel
theorem dX5_cutRow_5 : decode cX5_cutRow 5 = .ok (.iaload, 1) := by decide +kernel
theorem dX5_cutRow_6 : decode cX5_cutRow 6 = .ok (.istore_n 3, 1) := by decide +kernel
theorem dX5_cutRow_7 : decode cX5_cutRow 7 = .ok (.iload_n 3, 1) := by decide +kernel
theorem dX5_cutRow_8 : decode cX5_cutRow 8 = .ok (.istore 4, 2) := by decide +kernel
theorem dX5_cutRow_10 : decode cX5_cutRow 10 = .ok (.iload 4, 2) := by decide +kernel
theorem dX5_cutRow_12 : decode cX5_cutRow 12 = .ok (.iload_n 2, 1) := by decide +kernel
theorem dX5_cutRow_13 : decode cX5_cutRow 13 = .ok (.if_icmp .ge 22, 3) := by decide +kernel
theorem dX5_cutRow_35 : decode cX5_cutRow 35 = .ok (.aload_n 0, 1) := by decide +kernel
theorem dX5_cutRow_36 : decode cX5_cutRow 36 = .ok (.getfield 15, 3) := by decide +kernel
theorem dX5_cutRow_39 : decode cX5_cutRow 39 = .ok (.iload_n 1, 1) := by decide +kernel
theorem dX5_cutRow_40 : decode cX5_cutRow 40 = .ok (.iload_n 2, 1) := by decide +kernel
theorem dX5_cutRow_41 : decode cX5_cutRow 41 = .ok (.iastore, 1) := by decide +kernel
theorem dX5_cutRow_42 : decode cX5_cutRow 42 = .ok (.iload_n 3, 1) := by decide +kernel
theorem dX5_cutRow_43 : decode cX5_cutRow 43 = .ok (.ireturn, 1) := by decide +kernel
theorem dX5_cutRow_16 : decode cX5_cutRow 16 = .ok (.aload_n 0, 1) := by decide +kernel
theorem dX5_cutRow_17 : decode cX5_cutRow 17 = .ok (.getfield 9, 3) := by decide +kernel
theorem dX5_cutRow_20 : decode cX5_cutRow 20 = .ok (.iload_n 1, 1) := by decide +kernel
theorem dX5_cutRow_21 : decode cX5_cutRow 21 = .ok (.iconst 3, 1) := by decide +kernel
theorem dX5_cutRow_22 : decode cX5_cutRow 22 = .ok (.imul, 1) := by decide +kernel
theorem dX5_cutRow_23 : decode cX5_cutRow 23 = .ok (.iload 4, 2) := by decide +kernel
theorem dX5_cutRow_25 : decode cX5_cutRow 25 = .ok (.iadd, 1) := by decide +kernel
theorem dX5_cutRow_26 : decode cX5_cutRow 26 = .ok (.bipush 10, 2) := by decide +kernel
theorem dX5_cutRow_28 : decode cX5_cutRow 28 = .ok (.iastore, 1) := by decide +kernel
theorem dX5_cutRow_29 : decode cX5_cutRow 29 = .ok (.iinc 4 1, 3) := by decide +kernel
theorem dX5_cutRow_32 : decode cX5_cutRow 32 = .ok (.goto (-22), 3) := by decide +kernel
def wo_X5cutRow : List Cond := [.code yX5_cutRow cX5_cutRow 5 (some .int)]
def wr_X5cutRow : List Cond := (wfC ++ ([]))
def w_X5cutRow : List Cond := wo_X5cutRow ++ wr_X5cutRow
theorem wg_X5cutRow : GW w_X5cutRow := GW_app (GW_of (by decide +kernel)) (GW_app (wg_fC) (GW_nil))
theorem in_X5cutRow : ∀ w ∈ wfC, w ∈ w_X5cutRow := fun _ h => List.mem_append_right _ (List.mem_append_left _ h)
set_option maxHeartbeats 4000000 in
set_option maxRecDepth 100000 in
theorem ct_X5cutRow (l : Launch) (E : gE) (B : Nat → Nat) (Q : Int32 → VS → Prop) (p1 : Int32) (p2 : Int32) (σ : VS) (hw : wp_X5cutRow Q p1 p2 σ) : CtI l E yX5_cutRow w_X5cutRow (({ frames := 0, cells := 0, slots := 0, locals := 0 } : Room)) (wc E B σ) [.ref (B 5), .int p1, .int p2] (fun r w => ∃ σ' : VS, Q r σ' ∧ w = wc E B σ') := by
  refine VC_I (cc := cX5_cutRow) (mL := 5) (rt := (some .int)) (lv0 := [(0, .ref (B 5)), (1, .int p1), (2, .int p2)]) rfl (by decide) rfl (Nat.le_of_ble_eq_true rfl) ?_
  intro p e s m below meth c A F
  replace F : Fx p s m _ meth c A E cX5_cutRow 5 (some .int) RX5 w_X5cutRow := F
  obtain ⟨X10, hX10⟩ : ∃ X : Int32 → Int32 → Int32 → Int32 → VS → Prop, X = fun l1 l2 l3 l4 σ => WB p l e (({ frames := 0, cells := 0, slots := 0, locals := 0 } : Room)) s m (#[.ref (B 5), .int p1, .int p2]) below meth c (MQ below (va_Qi (fun r w => ∃ σ' : VS, Q r σ' ∧ w = wc E B σ') (AftU E A) A) (#[.ref (B 5), .int p1, .int p2]) s (({ frames := 0, cells := 0, slots := 0, locals := 0 } : Room)).cells (({ frames := 0, cells := 0, slots := 0, locals := 0 } : Room)).slots A) A E (wc E B) 5 10 [(0, .ref (B 5)), (1, .int l1), (2, .int l2), (3, .int l3), (4, .int l4)] [] σ := ⟨_, rfl⟩
  have U_10 : ∀ (l1 : Int32) (l2 : Int32) (l3 : Int32) (l4 : Int32) (σ : VS), X10 l1 l2 l3 l4 σ → WB p l e (({ frames := 0, cells := 0, slots := 0, locals := 0 } : Room)) s m (#[.ref (B 5), .int p1, .int p2]) below meth c (MQ below (va_Qi (fun r w => ∃ σ' : VS, Q r σ' ∧ w = wc E B σ') (AftU E A) A) (#[.ref (B 5), .int p1, .int p2]) s (({ frames := 0, cells := 0, slots := 0, locals := 0 } : Room)).cells (({ frames := 0, cells := 0, slots := 0, locals := 0 } : Room)).slots A) A E (wc E B) 5 10 [(0, .ref (B 5)), (1, .int l1), (2, .int l2), (3, .int l3), (4, .int l4)] [] σ := by
    intro l1 l2 l3 l4 σ hw; rw [hX10] at hw; exact hw
  have C_10 : ∀ (l1 : Int32) (l2 : Int32) (l3 : Int32) (l4 : Int32) (σ : VS), b_X5cutRow_10 X10 Q l1 l2 l3 l4 σ → X10 l1 l2 l3 l4 σ := by
    intro l1 l2 l3 l4 σ hw
    unfold b_X5cutRow_10 at hw
    rw [hX10]
    show WB p l e (({ frames := 0, cells := 0, slots := 0, locals := 0 } : Room)) s m (#[.ref (B 5), .int p1, .int p2]) below meth c (MQ below (va_Qi (fun r w => ∃ σ' : VS, Q r σ' ∧ w = wc E B σ') (AftU E A) A) (#[.ref (B 5), .int p1, .int p2]) s (({ frames := 0, cells := 0, slots := 0, locals := 0 } : Room)).cells (({ frames := 0, cells := 0, slots := 0, locals := 0 } : Room)).slots A) A E (wc E B) 5 10 [(0, .ref (B 5)), (1, .int l1), (2, .int l2), (3, .int l3), (4, .int l4)] [] σ
    refine R_iload F dX5_cutRow_10 4 rfl ?_
    refine R_iload_n F dX5_cutRow_12 rfl 2 rfl ?_
    refine R_icmp_ge (tgt := 35) F dX5_cutRow_13 (by decide) (fun hc => ?_) (fun hc => ?_)
    · replace hw := hw.1 hc
      refine R_aload_n F dX5_cutRow_35 rfl 0 rfl ?_
      refine gc_RX5_15_5 F in_X5cutRow dX5_cutRow_36 ?_
      refine R_iload_n F dX5_cutRow_39 rfl 1 rfl ?_
      refine R_iload_n F dX5_cutRow_40 rfl 2 rfl ?_
      have hi := hw.1
      replace hw := hw.2
      refine R_sti F qc_37 uc_37 dX5_cutRow_41 hi ?_
      refine R_iload_n F dX5_cutRow_42 rfl 3 rfl ?_
      exact R_iret (Qc := Q) F rfl dX5_cutRow_43 hw
    · replace hw := hw.2 hc
      refine R_aload_n F dX5_cutRow_16 rfl 0 rfl ?_
      refine gc_RX5_9_5 F in_X5cutRow dX5_cutRow_17 ?_
      refine R_iload_n F dX5_cutRow_20 rfl 1 rfl ?_
      refine R_iconst F 3 dX5_cutRow_21 (by decide) ?_
      refine R_imul F dX5_cutRow_22 ?_
      refine R_iload F dX5_cutRow_23 4 rfl ?_
      refine R_iadd F dX5_cutRow_25 ?_
      refine R_bipush F 10 dX5_cutRow_26 (by decide) ?_
      have hi := hw.1
      replace hw := hw.2
      refine R_sti F qc_36 uc_36 dX5_cutRow_28 hi ?_
      refine R_iinc (q := 4) (v := (l4 + 1)) (lv' := [(4, .int (l4 + 1)), (0, .ref (B 5)), (1, .int l1), (2, .int l2), (3, .int l3)]) F dX5_cutRow_29 rfl rfl (by decide) rfl ?_
      refine R_goto (tgt := 10) F dX5_cutRow_32 (by decide) ?_
      exact R_sub [1, 2, 3, 4, 0] rfl (U_10 l1 l2 l3 (l4 + 1) (sa σ 36 ((l1 * 3) + l4) 10) hw)
  unfold wp_X5cutRow at hw
  replace hw := hw X10 C_10
  refine R_aload_n F dX5_cutRow_0 rfl 0 rfl ?_
  refine gc_RX5_15_5 F in_X5cutRow dX5_cutRow_1 ?_
  refine R_iload_n F dX5_cutRow_4 rfl 1 rfl ?_
  refine R_ldi F qc_37 dX5_cutRow_5 hw.1 ?_
  replace hw := hw.2
  refine R_topi (fun x1 ex1 => ?_)
  replace hw := hw x1 ex1
  refine R_istore_n (lv' := [(3, .int x1), (0, .ref (B 5)), (1, .int p1), (2, .int p2)]) F dX5_cutRow_6 rfl (by decide) rfl ?_
  refine R_iload_n F dX5_cutRow_7 rfl 0 rfl ?_
  refine R_istore (lv' := [(4, .int x1), (3, .int x1), (0, .ref (B 5)), (1, .int p1), (2, .int p2)]) F dX5_cutRow_8 (by decide) rfl ?_
  exact R_sub [2, 3, 4, 1, 0] rfl (U_10 p1 p2 x1 x1 σ hw)
def b_X5weighRow_44 (Q : Int32 → VS → Prop) (k0 : Int32) (σ : VS) : Prop := Q k0 σ
def wp_X5weighRow (Q : Int32 → VS → Prop) (p1 : Int32) (p2 : Int32) (p3 : Int32) (p4 : Int32) (σ : VS) : Prop := (∀ x1 : Int32, x1 = ((p1 * 3) + p2) → (In x1 192 ∧ (∀ x2 : Int32, x2 = ((rd σ 36 x1) * (p4 - p3)) → ((p3.toInt ≤ 0 → b_X5weighRow_44 Q x2 σ) ∧ (0 < p3.toInt → (In (x1 + 1) 192 ∧ b_X5weighRow_44 Q (x2 + ((rd σ 36 (x1 + 1)) * p3)) σ))))))
theorem dX5_weighRow_0 : decode cX5_weighRow 0 = .ok (.iload_n 1, 1) := by decide +kernel
theorem dX5_weighRow_1 : decode cX5_weighRow 1 = .ok (.iconst 3, 1) := by decide +kernel
theorem dX5_weighRow_2 : decode cX5_weighRow 2 = .ok (.imul, 1) := by decide +kernel
theorem dX5_weighRow_3 : decode cX5_weighRow 3 = .ok (.iload_n 2, 1) := by decide +kernel
theorem dX5_weighRow_4 : decode cX5_weighRow 4 = .ok (.iadd, 1) := by decide +kernel
theorem dX5_weighRow_5 : decode cX5_weighRow 5 = .ok (.istore 5, 2) := by decide +kernel
theorem dX5_weighRow_7 : decode cX5_weighRow 7 = .ok (.aload_n 0, 1) := by decide +kernel
theorem dX5_weighRow_8 : decode cX5_weighRow 8 = .ok (.getfield 9, 3) := by decide +kernel
theorem dX5_weighRow_11 : decode cX5_weighRow 11 = .ok (.iload 5, 2) := by decide +kernel
theorem dX5_weighRow_13 : decode cX5_weighRow 13 = .ok (.iaload, 1) := by decide +kernel
theorem dX5_weighRow_14 : decode cX5_weighRow 14 = .ok (.iload 4, 2) := by decide +kernel
theorem dX5_weighRow_16 : decode cX5_weighRow 16 = .ok (.iload_n 3, 1) := by decide +kernel
theorem dX5_weighRow_17 : decode cX5_weighRow 17 = .ok (.isub, 1) := by decide +kernel
theorem dX5_weighRow_18 : decode cX5_weighRow 18 = .ok (.imul, 1) := by decide +kernel
theorem dX5_weighRow_19 : decode cX5_weighRow 19 = .ok (.istore 6, 2) := by decide +kernel
theorem dX5_weighRow_21 : decode cX5_weighRow 21 = .ok (.iload_n 3, 1) := by decide +kernel
theorem dX5_weighRow_22 : decode cX5_weighRow 22 = .ok (.ifCond .le 20, 3) := by decide +kernel
theorem dX5_weighRow_42 : decode cX5_weighRow 42 = .ok (.iload 6, 2) := by decide +kernel
theorem dX5_weighRow_25 : decode cX5_weighRow 25 = .ok (.iload 6, 2) := by decide +kernel
theorem dX5_weighRow_27 : decode cX5_weighRow 27 = .ok (.aload_n 0, 1) := by decide +kernel
theorem dX5_weighRow_28 : decode cX5_weighRow 28 = .ok (.getfield 9, 3) := by decide +kernel
theorem dX5_weighRow_31 : decode cX5_weighRow 31 = .ok (.iload 5, 2) := by decide +kernel
theorem dX5_weighRow_33 : decode cX5_weighRow 33 = .ok (.iconst 1, 1) := by decide +kernel
theorem dX5_weighRow_34 : decode cX5_weighRow 34 = .ok (.iadd, 1) := by decide +kernel
theorem dX5_weighRow_35 : decode cX5_weighRow 35 = .ok (.iaload, 1) := by decide +kernel
theorem dX5_weighRow_36 : decode cX5_weighRow 36 = .ok (.iload_n 3, 1) := by decide +kernel
theorem dX5_weighRow_37 : decode cX5_weighRow 37 = .ok (.imul, 1) := by decide +kernel
theorem dX5_weighRow_38 : decode cX5_weighRow 38 = .ok (.iadd, 1) := by decide +kernel
theorem dX5_weighRow_39 : decode cX5_weighRow 39 = .ok (.goto 5, 3) := by decide +kernel
theorem dX5_weighRow_44 : decode cX5_weighRow 44 = .ok (.ireturn, 1) := by decide +kernel
def wo_X5weighRow : List Cond := [.code yX5_weighRow cX5_weighRow 7 (some .int)]
def wr_X5weighRow : List Cond := (wfC ++ ([]))
def w_X5weighRow : List Cond := wo_X5weighRow ++ wr_X5weighRow
theorem wg_X5weighRow : GW w_X5weighRow := GW_app (GW_of (by decide +kernel)) (GW_app (wg_fC) (GW_nil))
theorem in_X5weighRow : ∀ w ∈ wfC, w ∈ w_X5weighRow := fun _ h => List.mem_append_right _ (List.mem_append_left _ h)
set_option maxHeartbeats 4000000 in
set_option maxRecDepth 100000 in
theorem ct_X5weighRow (l : Launch) (E : gE) (B : Nat → Nat) (Q : Int32 → VS → Prop) (p1 : Int32) (p2 : Int32) (p3 : Int32) (p4 : Int32) (σ : VS) (hw : wp_X5weighRow Q p1 p2 p3 p4 σ) : CtI l E yX5_weighRow w_X5weighRow (({ frames := 0, cells := 0, slots := 0, locals := 0 } : Room)) (wc E B σ) [.ref (B 5), .int p1, .int p2, .int p3, .int p4] (fun r w => ∃ σ' : VS, Q r σ' ∧ w = wc E B σ') := by
  refine VC_I (cc := cX5_weighRow) (mL := 7) (rt := (some .int)) (lv0 := [(0, .ref (B 5)), (1, .int p1), (2, .int p2), (3, .int p3), (4, .int p4)]) rfl (by decide) rfl (Nat.le_of_ble_eq_true rfl) ?_
  intro p e s m below meth c A F
  replace F : Fx p s m _ meth c A E cX5_weighRow 7 (some .int) RX5 w_X5weighRow := F
  have J_44 : ∀ (k0 : Int32) (σ : VS), b_X5weighRow_44 Q k0 σ → WB p l e (({ frames := 0, cells := 0, slots := 0, locals := 0 } : Room)) s m (#[.ref (B 5), .int p1, .int p2, .int p3, .int p4]) below meth c (MQ below (va_Qi (fun r w => ∃ σ' : VS, Q r σ' ∧ w = wc E B σ') (AftU E A) A) (#[.ref (B 5), .int p1, .int p2, .int p3, .int p4]) s (({ frames := 0, cells := 0, slots := 0, locals := 0 } : Room)).cells (({ frames := 0, cells := 0, slots := 0, locals := 0 } : Room)).slots A) A E (wc E B) 7 44 [] [.int k0] σ := by
    intro k0 σ hw
    unfold b_X5weighRow_44 at hw
    exact R_iret (Qc := Q) F rfl dX5_weighRow_44 hw
  unfold wp_X5weighRow at hw
  refine R_iload_n F dX5_weighRow_0 rfl 1 rfl ?_
  refine R_iconst F 3 dX5_weighRow_1 (by decide) ?_
  refine R_imul F dX5_weighRow_2 ?_
  refine R_iload_n F dX5_weighRow_3 rfl 2 rfl ?_
  refine R_iadd F dX5_weighRow_4 ?_
  refine R_topi (fun x1 ex1 => ?_)
  replace hw := hw x1 ex1
  refine R_istore (lv' := [(5, .int x1), (0, .ref (B 5)), (1, .int p1), (2, .int p2), (3, .int p3), (4, .int p4)]) F dX5_weighRow_5 (by decide) rfl ?_
  refine R_aload_n F dX5_weighRow_7 rfl 1 rfl ?_
  refine gc_RX5_9_5 F in_X5weighRow dX5_weighRow_8 ?_
  refine R_iload F dX5_weighRow_11 0 rfl ?_
  refine R_ldi F qc_36 dX5_weighRow_13 hw.1 ?_
  replace hw := hw.2
  refine R_iload F dX5_weighRow_14 5 rfl ?_
  refine R_iload_n F dX5_weighRow_16 rfl 4 rfl ?_
  refine R_isub F dX5_weighRow_17 ?_
  refine R_imul F dX5_weighRow_18 ?_
  refine R_topi (fun x2 ex2 => ?_)
  replace hw := hw x2 ex2
  refine R_istore (lv' := [(6, .int x2), (5, .int x1), (0, .ref (B 5)), (1, .int p1), (2, .int p2), (3, .int p3), (4, .int p4)]) F dX5_weighRow_19 (by decide) rfl ?_
  refine R_iload_n F dX5_weighRow_21 rfl 5 rfl ?_
  refine R_if_le (tgt := 42) F dX5_weighRow_22 (by decide) (fun hc => ?_) (fun hc => ?_)
  · replace hw := hw.1 hc
    refine R_iload F dX5_weighRow_42 0 rfl ?_
    exact R_sub [] rfl (J_44 x2 σ hw)
  · replace hw := hw.2 hc
    refine R_iload F dX5_weighRow_25 0 rfl ?_
    refine R_aload_n F dX5_weighRow_27 rfl 2 rfl ?_
    refine gc_RX5_9_5 F in_X5weighRow dX5_weighRow_28 ?_
    refine R_iload F dX5_weighRow_31 1 rfl ?_
    refine R_iconst F 1 dX5_weighRow_33 (by decide) ?_
    refine R_iadd F dX5_weighRow_34 ?_
    refine R_ldi F qc_36 dX5_weighRow_35 hw.1 ?_
    replace hw := hw.2
    refine R_iload_n F dX5_weighRow_36 rfl 5 rfl ?_
    refine R_imul F dX5_weighRow_37 ?_
    refine R_iadd F dX5_weighRow_38 ?_
    refine R_goto (tgt := 44) F dX5_weighRow_39 (by decide) ?_
    exact R_sub [] rfl (J_44 (x2 + ((rd σ 36 (x1 + 1)) * p3)) σ hw)
def b_X5lookUp_259 (Q : Int32 → VS → Prop) (k0 : Int32) (σ : VS) : Prop := Q k0 σ
def b_X5lookUp_229 (Q : Int32 → VS → Prop) (l5 : Int32) (l15 : Int32) (l16 : Int32) (l17 : Int32) (σ : VS) : Prop := (∀ x21 : Int32, x21 = (l15 * l16) → ((l5.toInt = 0 → (¬ x21 = 0 ∧ b_X5lookUp_259 Q (l17 / x21) σ)) ∧ (l5.toInt ≠ 0 → (¬ x21 = 0 ∧ b_X5lookUp_259 Q (((l17 + x21) - 1) / x21) σ))))
def b_X5lookUp_180 (Q : Int32 → VS → Prop) (l5 : Int32) (l9 : Int32) (l10 : Int32) (l11 : Int32) (l12 : Int32) (l15 : Int32) (k0 : Int32) (σ : VS) : Prop := wp_X5weighRow (fun (r15 : Int32) (σ16 : VS) => (∀ x17 : Int32, x17 = ((l15 - l10) * r15) → ((l10.toInt ≤ 0 → b_X5lookUp_229 Q l5 l15 k0 x17 σ16) ∧ (0 < l10.toInt → wp_X5weighRow (fun (r18 : Int32) (σ19 : VS) => (∀ x20 : Int32, x20 = (x17 + (l10 * r18)) → b_X5lookUp_229 Q l5 l15 k0 x20 σ19)) (l12 + 1) l9 l11 k0 σ16)))) l12 l9 l11 k0 σ
def b_X5lookUp_154 (Q : Int32 → VS → Prop) (l5 : Int32) (l9 : Int32) (l10 : Int32) (l11 : Int32) (l12 : Int32) (k0 : Int32) (σ : VS) : Prop := ((l11.toInt ≤ 0 → b_X5lookUp_180 Q l5 l9 l10 l11 l12 k0 1 σ) ∧ (0 < l11.toInt → (In (l9 + 1) 3 ∧ (In l9 3 ∧ b_X5lookUp_180 Q l5 l9 l10 l11 l12 k0 ((lm_slope.getD (l9 + 1).toNatClampNeg 0) - (lm_slope.getD l9.toNatClampNeg 0)) σ))))
def b_X5lookUp_122 (Q : Int32 → VS → Prop) (l5 : Int32) (l8 : Int32) (l9 : Int32) (l10 : Int32) (l11 : Int32) (l12 : Int32) (l14 : Int32) (σ : VS) : Prop := ((l14.toInt = 0 → ((l10.toInt ≤ 0 → b_X5lookUp_154 Q l5 l9 l10 l11 l12 1 σ) ∧ (0 < l10.toInt → (In (l8 + 1) 4 ∧ (In l8 4 ∧ b_X5lookUp_154 Q l5 l9 l10 l11 l12 ((lm_load.getD (l8 + 1).toNatClampNeg 0) - (lm_load.getD l8.toNatClampNeg 0)) σ))))) ∧ (l14.toInt ≠ 0 → Q l14 σ))
def b_X5lookUp_88 (Q : Int32 → VS → Prop) (l5 : Int32) (l8 : Int32) (l9 : Int32) (l10 : Int32) (l11 : Int32) (l12 : Int32) (k0 : Int32) (σ : VS) : Prop := wp_X5whyAbsent (fun (r11 : Int32) (σ12 : VS) => ((r11.toInt ≠ 0 → b_X5lookUp_122 Q l5 l8 l9 l10 l11 l12 r11 σ12) ∧ (r11.toInt = 0 → ((l10.toInt ≤ 0 → b_X5lookUp_122 Q l5 l8 l9 l10 l11 l12 r11 σ12) ∧ (0 < l10.toInt → wp_X5whyAbsent (fun (r13 : Int32) (σ14 : VS) => b_X5lookUp_122 Q l5 l8 l9 l10 l11 l12 r13 σ14) (l12 + 1) k0 σ12))))) l12 k0 σ
def wp_X5lookUp (Q : Int32 → VS → Prop) (p1 : Int32) (p2 : Int32) (p3 : Int32) (p4 : Int32) (p5 : Int32) (σ : VS) : Prop := (∀ x1 : Int32, x1 = (imin p3 64) → (∀ x2 : Int32, x2 = (imin p4 64) → wp_X5lastNotAboveL (fun (r3 : Int32) (σ4 : VS) => wp_X5lastNotAboveS (fun (r5 : Int32) (σ6 : VS) => (In r3 4 ∧ (∀ x7 : Int32, x7 = (x1 - (lm_load.getD r3.toNatClampNeg 0)) → (In r5 3 ∧ (∀ x8 : Int32, x8 = (x2 - (lm_slope.getD r5.toNatClampNeg 0)) → wp_X5rowPlace (fun (r9 : Int32) (σ10 : VS) => ((x8.toInt ≤ 0 → b_X5lookUp_88 Q p5 r3 r5 x7 x8 r9 r5 σ10) ∧ (0 < x8.toInt → b_X5lookUp_88 Q p5 r3 r5 x7 x8 r9 (r5 + 1) σ10))) p1 p2 r3 σ6))))) x2 σ4) x1 σ))
theorem dX5_lookUp_0 : decode cX5_lookUp 0 = .ok (.iload_n 3, 1) := by decide +kernel
theorem dX5_lookUp_1 : decode cX5_lookUp 1 = .ok (.getstatic 31, 3) := by decide +kernel
theorem dX5_lookUp_4 : decode cX5_lookUp 4 = .ok (.iconst 3, 1) := by decide +kernel
theorem dX5_lookUp_5 : decode cX5_lookUp 5 = .ok (.iaload, 1) := by decide +kernel
theorem dX5_lookUp_6 : decode cX5_lookUp 6 = .ok (.invokestatic 34, 3) := by decide +kernel
theorem dX5_lookUp_9 : decode cX5_lookUp 9 = .ok (.istore 6, 2) := by decide +kernel
theorem dX5_lookUp_11 : decode cX5_lookUp 11 = .ok (.iload 4, 2) := by decide +kernel
theorem dX5_lookUp_13 : decode cX5_lookUp 13 = .ok (.getstatic 40, 3) := by decide +kernel
theorem dX5_lookUp_16 : decode cX5_lookUp 16 = .ok (.iconst 2, 1) := by decide +kernel
theorem dX5_lookUp_17 : decode cX5_lookUp 17 = .ok (.iaload, 1) := by decide +kernel
theorem dX5_lookUp_18 : decode cX5_lookUp 18 = .ok (.invokestatic 34, 3) := by decide +kernel
theorem dX5_lookUp_21 : decode cX5_lookUp 21 = .ok (.istore 7, 2) := by decide +kernel
theorem dX5_lookUp_23 : decode cX5_lookUp 23 = .ok (.getstatic 31, 3) := by decide +kernel
theorem dX5_lookUp_26 : decode cX5_lookUp 26 = .ok (.iload 6, 2) := by decide +kernel
theorem dX5_lookUp_28 : decode cX5_lookUp 28 = .ok (.invokestatic 43, 3) := by decide +kernel
theorem dX5_lookUp_31 : decode cX5_lookUp 31 = .ok (.istore 8, 2) := by decide +kernel
theorem dX5_lookUp_33 : decode cX5_lookUp 33 = .ok (.getstatic 40, 3) := by decide +kernel
theorem dX5_lookUp_36 : decode cX5_lookUp 36 = .ok (.iload 7, 2) := by decide +kernel
theorem dX5_lookUp_38 : decode cX5_lookUp 38 = .ok (.invokestatic 43, 3) := by decide +kernel
theorem dX5_lookUp_41 : decode cX5_lookUp 41 = .ok (.istore 9, 2) := by decide +kernel
theorem dX5_lookUp_43 : decode cX5_lookUp 43 = .ok (.iload 6, 2) := by decide +kernel
theorem dX5_lookUp_45 : decode cX5_lookUp 45 = .ok (.getstatic 31, 3) := by decide +kernel
theorem dX5_lookUp_48 : decode cX5_lookUp 48 = .ok (.iload 8, 2) := by decide +kernel
theorem dX5_lookUp_50 : decode cX5_lookUp 50 = .ok (.iaload, 1) := by decide +kernel
theorem dX5_lookUp_51 : decode cX5_lookUp 51 = .ok (.isub, 1) := by decide +kernel
theorem dX5_lookUp_52 : decode cX5_lookUp 52 = .ok (.istore 10, 2) := by decide +kernel
theorem dX5_lookUp_54 : decode cX5_lookUp 54 = .ok (.iload 7, 2) := by decide +kernel
theorem dX5_lookUp_56 : decode cX5_lookUp 56 = .ok (.getstatic 40, 3) := by decide +kernel
theorem dX5_lookUp_59 : decode cX5_lookUp 59 = .ok (.iload 9, 2) := by decide +kernel
theorem dX5_lookUp_61 : decode cX5_lookUp 61 = .ok (.iaload, 1) := by decide +kernel
theorem dX5_lookUp_62 : decode cX5_lookUp 62 = .ok (.isub, 1) := by decide +kernel
theorem dX5_lookUp_63 : decode cX5_lookUp 63 = .ok (.istore 11, 2) := by decide +kernel
theorem dX5_lookUp_65 : decode cX5_lookUp 65 = .ok (.iload_n 1, 1) := by decide +kernel
theorem dX5_lookUp_66 : decode cX5_lookUp 66 = .ok (.iload_n 2, 1) := by decide +kernel
theorem dX5_lookUp_67 : decode cX5_lookUp 67 = .ok (.iload 8, 2) := by decide +kernel
theorem dX5_lookUp_69 : decode cX5_lookUp 69 = .ok (.invokestatic 47, 3) := by decide +kernel
theorem dX5_lookUp_72 : decode cX5_lookUp 72 = .ok (.istore 12, 2) := by decide +kernel
theorem dX5_lookUp_74 : decode cX5_lookUp 74 = .ok (.iload 11, 2) := by decide +kernel
theorem dX5_lookUp_76 : decode cX5_lookUp 76 = .ok (.ifCond .le 10, 3) := by decide +kernel
theorem dX5_lookUp_86 : decode cX5_lookUp 86 = .ok (.iload 9, 2) := by decide +kernel
theorem dX5_lookUp_79 : decode cX5_lookUp 79 = .ok (.iload 9, 2) := by decide +kernel
theorem dX5_lookUp_81 : decode cX5_lookUp 81 = .ok (.iconst 1, 1) := by decide +kernel
theorem dX5_lookUp_82 : decode cX5_lookUp 82 = .ok (.iadd, 1) := by decide +kernel
theorem dX5_lookUp_83 : decode cX5_lookUp 83 = .ok (.goto 5, 3) := by decide +kernel
theorem dX5_lookUp_88 : decode cX5_lookUp 88 = .ok (.istore 13, 2) := by decide +kernel
theorem dX5_lookUp_90 : decode cX5_lookUp 90 = .ok (.aload_n 0, 1) := by decide +kernel
theorem dX5_lookUp_91 : decode cX5_lookUp 91 = .ok (.iload 12, 2) := by decide +kernel
theorem dX5_lookUp_93 : decode cX5_lookUp 93 = .ok (.iload 13, 2) := by decide +kernel
theorem dX5_lookUp_95 : decode cX5_lookUp 95 = .ok (.invokevirtual 51, 3) := by decide +kernel
theorem dX5_lookUp_98 : decode cX5_lookUp 98 = .ok (.istore 14, 2) := by decide +kernel
theorem dX5_lookUp_100 : decode cX5_lookUp 100 = .ok (.iload 14, 2) := by decide +kernel
theorem dX5_lookUp_102 : decode cX5_lookUp 102 = .ok (.ifCond .ne 20, 3) := by decide +kernel
theorem dX5_lookUp_105 : decode cX5_lookUp 105 = .ok (.iload 10, 2) := by decide +kernel
theorem dX5_lookUp_107 : decode cX5_lookUp 107 = .ok (.ifCond .le 15, 3) := by decide +kernel
theorem dX5_lookUp_110 : decode cX5_lookUp 110 = .ok (.aload_n 0, 1) := by decide +kernel
theorem dX5_lookUp_111 : decode cX5_lookUp 111 = .ok (.iload 12, 2) := by decide +kernel
theorem dX5_lookUp_113 : decode cX5_lookUp 113 = .ok (.iconst 1, 1) := by decide +kernel
theorem dX5_lookUp_114 : decode cX5_lookUp 114 = .ok (.iadd, 1) := by decide +kernel
theorem dX5_lookUp_115 : decode cX5_lookUp 115 = .ok (.iload 13, 2) := by decide +kernel
theorem dX5_lookUp_117 : decode cX5_lookUp 117 = .ok (.invokevirtual 51, 3) := by decide +kernel
theorem dX5_lookUp_120 : decode cX5_lookUp 120 = .ok (.istore 14, 2) := by decide +kernel
theorem dX5_lookUp_122 : decode cX5_lookUp 122 = .ok (.iload 14, 2) := by decide +kernel
theorem dX5_lookUp_124 : decode cX5_lookUp 124 = .ok (.ifCond .eq 6, 3) := by decide +kernel
theorem dX5_lookUp_130 : decode cX5_lookUp 130 = .ok (.iload 10, 2) := by decide +kernel
theorem dX5_lookUp_132 : decode cX5_lookUp 132 = .ok (.ifCond .le 21, 3) := by decide +kernel
theorem dX5_lookUp_153 : decode cX5_lookUp 153 = .ok (.iconst 1, 1) := by decide +kernel
theorem dX5_lookUp_135 : decode cX5_lookUp 135 = .ok (.getstatic 31, 3) := by decide +kernel
theorem dX5_lookUp_138 : decode cX5_lookUp 138 = .ok (.iload 8, 2) := by decide +kernel
theorem dX5_lookUp_140 : decode cX5_lookUp 140 = .ok (.iconst 1, 1) := by decide +kernel
theorem dX5_lookUp_141 : decode cX5_lookUp 141 = .ok (.iadd, 1) := by decide +kernel
theorem dX5_lookUp_142 : decode cX5_lookUp 142 = .ok (.iaload, 1) := by decide +kernel
theorem dX5_lookUp_143 : decode cX5_lookUp 143 = .ok (.getstatic 31, 3) := by decide +kernel
theorem dX5_lookUp_146 : decode cX5_lookUp 146 = .ok (.iload 8, 2) := by decide +kernel
theorem dX5_lookUp_148 : decode cX5_lookUp 148 = .ok (.iaload, 1) := by decide +kernel
theorem dX5_lookUp_149 : decode cX5_lookUp 149 = .ok (.isub, 1) := by decide +kernel
theorem dX5_lookUp_150 : decode cX5_lookUp 150 = .ok (.goto 4, 3) := by decide +kernel
theorem dX5_lookUp_127 : decode cX5_lookUp 127 = .ok (.iload 14, 2) := by decide +kernel
theorem dX5_lookUp_129 : decode cX5_lookUp 129 = .ok (.ireturn, 1) := by decide +kernel
theorem dX5_lookUp_154 : decode cX5_lookUp 154 = .ok (.istore 15, 2) := by decide +kernel
theorem dX5_lookUp_156 : decode cX5_lookUp 156 = .ok (.iload 11, 2) := by decide +kernel
theorem dX5_lookUp_158 : decode cX5_lookUp 158 = .ok (.ifCond .le 21, 3) := by decide +kernel
theorem dX5_lookUp_179 : decode cX5_lookUp 179 = .ok (.iconst 1, 1) := by decide +kernel
theorem dX5_lookUp_161 : decode cX5_lookUp 161 = .ok (.getstatic 40, 3) := by decide +kernel
theorem dX5_lookUp_164 : decode cX5_lookUp 164 = .ok (.iload 9, 2) := by decide +kernel
theorem dX5_lookUp_166 : decode cX5_lookUp 166 = .ok (.iconst 1, 1) := by decide +kernel
theorem dX5_lookUp_167 : decode cX5_lookUp 167 = .ok (.iadd, 1) := by decide +kernel
theorem dX5_lookUp_168 : decode cX5_lookUp 168 = .ok (.iaload, 1) := by decide +kernel
theorem dX5_lookUp_169 : decode cX5_lookUp 169 = .ok (.getstatic 40, 3) := by decide +kernel
theorem dX5_lookUp_172 : decode cX5_lookUp 172 = .ok (.iload 9, 2) := by decide +kernel
theorem dX5_lookUp_174 : decode cX5_lookUp 174 = .ok (.iaload, 1) := by decide +kernel
theorem dX5_lookUp_175 : decode cX5_lookUp 175 = .ok (.isub, 1) := by decide +kernel
theorem dX5_lookUp_176 : decode cX5_lookUp 176 = .ok (.goto 4, 3) := by decide +kernel
theorem dX5_lookUp_180 : decode cX5_lookUp 180 = .ok (.istore 16, 2) := by decide +kernel
theorem dX5_lookUp_182 : decode cX5_lookUp 182 = .ok (.iload 15, 2) := by decide +kernel
theorem dX5_lookUp_184 : decode cX5_lookUp 184 = .ok (.iload 10, 2) := by decide +kernel
theorem dX5_lookUp_186 : decode cX5_lookUp 186 = .ok (.isub, 1) := by decide +kernel
theorem dX5_lookUp_187 : decode cX5_lookUp 187 = .ok (.aload_n 0, 1) := by decide +kernel
theorem dX5_lookUp_188 : decode cX5_lookUp 188 = .ok (.iload 12, 2) := by decide +kernel
theorem dX5_lookUp_190 : decode cX5_lookUp 190 = .ok (.iload 9, 2) := by decide +kernel
theorem dX5_lookUp_192 : decode cX5_lookUp 192 = .ok (.iload 11, 2) := by decide +kernel
theorem dX5_lookUp_194 : decode cX5_lookUp 194 = .ok (.iload 16, 2) := by decide +kernel
theorem dX5_lookUp_196 : decode cX5_lookUp 196 = .ok (.invokevirtual 54, 3) := by decide +kernel
theorem dX5_lookUp_199 : decode cX5_lookUp 199 = .ok (.imul, 1) := by decide +kernel
theorem dX5_lookUp_200 : decode cX5_lookUp 200 = .ok (.istore 17, 2) := by decide +kernel
theorem dX5_lookUp_202 : decode cX5_lookUp 202 = .ok (.iload 10, 2) := by decide +kernel
theorem dX5_lookUp_204 : decode cX5_lookUp 204 = .ok (.ifCond .le 25, 3) := by decide +kernel
theorem dX5_lookUp_207 : decode cX5_lookUp 207 = .ok (.iload 17, 2) := by decide +kernel
theorem dX5_lookUp_209 : decode cX5_lookUp 209 = .ok (.iload 10, 2) := by decide +kernel
theorem dX5_lookUp_211 : decode cX5_lookUp 211 = .ok (.aload_n 0, 1) := by decide +kernel
theorem dX5_lookUp_212 : decode cX5_lookUp 212 = .ok (.iload 12, 2) := by decide +kernel
theorem dX5_lookUp_214 : decode cX5_lookUp 214 = .ok (.iconst 1, 1) := by decide +kernel
theorem dX5_lookUp_215 : decode cX5_lookUp 215 = .ok (.iadd, 1) := by decide +kernel
theorem dX5_lookUp_216 : decode cX5_lookUp 216 = .ok (.iload 9, 2) := by decide +kernel
theorem dX5_lookUp_218 : decode cX5_lookUp 218 = .ok (.iload 11, 2) := by decide +kernel
theorem dX5_lookUp_220 : decode cX5_lookUp 220 = .ok (.iload 16, 2) := by decide +kernel
theorem dX5_lookUp_222 : decode cX5_lookUp 222 = .ok (.invokevirtual 54, 3) := by decide +kernel
theorem dX5_lookUp_225 : decode cX5_lookUp 225 = .ok (.imul, 1) := by decide +kernel
theorem dX5_lookUp_226 : decode cX5_lookUp 226 = .ok (.iadd, 1) := by decide +kernel
theorem dX5_lookUp_227 : decode cX5_lookUp 227 = .ok (.istore 17, 2) := by decide +kernel
theorem dX5_lookUp_229 : decode cX5_lookUp 229 = .ok (.iload 15, 2) := by decide +kernel
theorem dX5_lookUp_231 : decode cX5_lookUp 231 = .ok (.iload 16, 2) := by decide +kernel
theorem dX5_lookUp_233 : decode cX5_lookUp 233 = .ok (.imul, 1) := by decide +kernel
theorem dX5_lookUp_234 : decode cX5_lookUp 234 = .ok (.istore 18, 2) := by decide +kernel
theorem dX5_lookUp_236 : decode cX5_lookUp 236 = .ok (.iload 5, 2) := by decide +kernel
theorem dX5_lookUp_238 : decode cX5_lookUp 238 = .ok (.ifCond .eq 16, 3) := by decide +kernel
theorem dX5_lookUp_254 : decode cX5_lookUp 254 = .ok (.iload 17, 2) := by decide +kernel
theorem dX5_lookUp_256 : decode cX5_lookUp 256 = .ok (.iload 18, 2) := by decide +kernel
theorem dX5_lookUp_258 : decode cX5_lookUp 258 = .ok (.idiv, 1) := by decide +kernel
theorem dX5_lookUp_241 : decode cX5_lookUp 241 = .ok (.iload 17, 2) := by decide +kernel
theorem dX5_lookUp_243 : decode cX5_lookUp 243 = .ok (.iload 18, 2) := by decide +kernel
theorem dX5_lookUp_245 : decode cX5_lookUp 245 = .ok (.iadd, 1) := by decide +kernel
theorem dX5_lookUp_246 : decode cX5_lookUp 246 = .ok (.iconst 1, 1) := by decide +kernel
theorem dX5_lookUp_247 : decode cX5_lookUp 247 = .ok (.isub, 1) := by decide +kernel
theorem dX5_lookUp_248 : decode cX5_lookUp 248 = .ok (.iload 18, 2) := by decide +kernel
theorem dX5_lookUp_250 : decode cX5_lookUp 250 = .ok (.idiv, 1) := by decide +kernel
theorem dX5_lookUp_251 : decode cX5_lookUp 251 = .ok (.goto 8, 3) := by decide +kernel
theorem dX5_lookUp_259 : decode cX5_lookUp 259 = .ok (.ireturn, 1) := by decide +kernel
def wo_X5lookUp : List Cond := [.code yX5_lookUp cX5_lookUp 19 (some .int), .methodLink RX5 34 Lib.Math.min.name, .static Lib.Math.min.name, .initialized "java/lang/Math", .code Lib.Math.min.name Lib.Math.min.code 2 (some .int), .methodLink RX5 43 yX5_lastNotAbove, .static yX5_lastNotAbove, .initialized RX5, .methodLink RX5 47 yX5_rowPlace, .static yX5_rowPlace, .methodLink RX5 51 yX5_whyAbsent, .instanceMethod yX5_whyAbsent, .selects RX5 yX5_whyAbsent yX5_whyAbsent, .methodLink RX5 54 yX5_weighRow, .instanceMethod yX5_weighRow, .selects RX5 yX5_weighRow yX5_weighRow]
def wr_X5lookUp : List Cond := (wfC ++ (w_X5lastNotAboveL ++ (w_X5lastNotAboveS ++ (w_X5rowPlace ++ (w_X5whyAbsent ++ (w_X5weighRow ++ ([])))))))
def w_X5lookUp : List Cond := wo_X5lookUp ++ wr_X5lookUp
theorem wg_X5lookUp : GW w_X5lookUp := GW_app (GW_of (by decide +kernel)) (GW_app (wg_fC) (GW_app (wg_X5lastNotAboveL) (GW_app (wg_X5lastNotAboveS) (GW_app (wg_X5rowPlace) (GW_app (wg_X5whyAbsent) (GW_app (wg_X5weighRow) (GW_nil)))))))
theorem in_X5lookUp : ∀ w ∈ wfC, w ∈ w_X5lookUp := fun _ h => List.mem_append_right _ (List.mem_append_left _ h)
theorem g_X5lookUp_X5lastNotAboveL_43 : GoodIn w_X5lookUp (va_wsS RX5 43 yX5_lastNotAbove w_X5lastNotAboveL) := goodIn_app (gi_left (goodIn_of _ (by decide +kernel))) (fun w h => ⟨List.mem_append_right _ (List.mem_append_right _ (List.mem_append_left _ h)), wg_X5lastNotAboveL w h⟩)
theorem g_X5lookUp_X5lastNotAboveS_43 : GoodIn w_X5lookUp (va_wsS RX5 43 yX5_lastNotAbove w_X5lastNotAboveS) := goodIn_app (gi_left (goodIn_of _ (by decide +kernel))) (fun w h => ⟨List.mem_append_right _ (List.mem_append_right _ (List.mem_append_right _ (List.mem_append_left _ h))), wg_X5lastNotAboveS w h⟩)
theorem g_X5lookUp_X5rowPlace_47 : GoodIn w_X5lookUp (va_wsS RX5 47 yX5_rowPlace w_X5rowPlace) := goodIn_app (gi_left (goodIn_of _ (by decide +kernel))) (fun w h => ⟨List.mem_append_right _ (List.mem_append_right _ (List.mem_append_right _ (List.mem_append_right _ (List.mem_append_left _ h)))), wg_X5rowPlace w h⟩)
theorem g_X5lookUp_X5whyAbsent_51 : GoodIn w_X5lookUp (wsV RX5 51 RX5 yX5_whyAbsent w_X5whyAbsent) := goodIn_app (gi_left (goodIn_of _ (by decide +kernel))) (fun w h => ⟨List.mem_append_right _ (List.mem_append_right _ (List.mem_append_right _ (List.mem_append_right _ (List.mem_append_right _ (List.mem_append_left _ h))))), wg_X5whyAbsent w h⟩)
theorem g_X5lookUp_X5weighRow_54 : GoodIn w_X5lookUp (wsV RX5 54 RX5 yX5_weighRow w_X5weighRow) := goodIn_app (gi_left (goodIn_of _ (by decide +kernel))) (fun w h => ⟨List.mem_append_right _ (List.mem_append_right _ (List.mem_append_right _ (List.mem_append_right _ (List.mem_append_right _ (List.mem_append_right _ (List.mem_append_left _ h)))))), wg_X5weighRow w h⟩)
set_option maxHeartbeats 4000000 in
set_option maxRecDepth 100000 in
theorem ct_X5lookUp (l : Launch) (E : gE) (B : Nat → Nat) (Q : Int32 → VS → Prop) (p1 : Int32) (p2 : Int32) (p3 : Int32) (p4 : Int32) (p5 : Int32) (σ : VS) (hw : wp_X5lookUp Q p1 p2 p3 p4 p5 σ) : CtI l E yX5_lookUp w_X5lookUp (({ frames := 1, cells := 0, slots := 0, locals := 26 } : Room)) (wc E B σ) [.ref (B 5), .int p1, .int p2, .int p3, .int p4, .int p5] (fun r w => ∃ σ' : VS, Q r σ' ∧ w = wc E B σ') := by
  refine VC_I (cc := cX5_lookUp) (mL := 19) (rt := (some .int)) (lv0 := [(0, .ref (B 5)), (1, .int p1), (2, .int p2), (3, .int p3), (4, .int p4), (5, .int p5)]) rfl (by decide) rfl (Nat.le_of_ble_eq_true rfl) ?_
  intro p e s m below meth c A F
  replace F : Fx p s m _ meth c A E cX5_lookUp 19 (some .int) RX5 w_X5lookUp := F
  have J_259 : ∀ (k0 : Int32) (σ : VS), b_X5lookUp_259 Q k0 σ → WB p l e (({ frames := 1, cells := 0, slots := 0, locals := 26 } : Room)) s m (#[.ref (B 5), .int p1, .int p2, .int p3, .int p4, .int p5]) below meth c (MQ below (va_Qi (fun r w => ∃ σ' : VS, Q r σ' ∧ w = wc E B σ') (AftU E A) A) (#[.ref (B 5), .int p1, .int p2, .int p3, .int p4, .int p5]) s (({ frames := 1, cells := 0, slots := 0, locals := 26 } : Room)).cells (({ frames := 1, cells := 0, slots := 0, locals := 26 } : Room)).slots A) A E (wc E B) 19 259 [] [.int k0] σ := by
    intro k0 σ hw
    unfold b_X5lookUp_259 at hw
    exact R_iret (Qc := Q) F rfl dX5_lookUp_259 hw
  have J_229 : ∀ (l5 : Int32) (l15 : Int32) (l16 : Int32) (l17 : Int32) (σ : VS), b_X5lookUp_229 Q l5 l15 l16 l17 σ → WB p l e (({ frames := 1, cells := 0, slots := 0, locals := 26 } : Room)) s m (#[.ref (B 5), .int p1, .int p2, .int p3, .int p4, .int p5]) below meth c (MQ below (va_Qi (fun r w => ∃ σ' : VS, Q r σ' ∧ w = wc E B σ') (AftU E A) A) (#[.ref (B 5), .int p1, .int p2, .int p3, .int p4, .int p5]) s (({ frames := 1, cells := 0, slots := 0, locals := 26 } : Room)).cells (({ frames := 1, cells := 0, slots := 0, locals := 26 } : Room)).slots A) A E (wc E B) 19 229 [(5, .int l5), (15, .int l15), (16, .int l16), (17, .int l17)] [] σ := by
    intro l5 l15 l16 l17 σ hw
    unfold b_X5lookUp_229 at hw
    refine R_iload F dX5_lookUp_229 1 rfl ?_
    refine R_iload F dX5_lookUp_231 2 rfl ?_
    refine R_imul F dX5_lookUp_233 ?_
    refine R_topi (fun x21 ex21 => ?_)
    replace hw := hw x21 ex21
    refine R_istore (lv' := [(18, .int x21), (5, .int l5), (15, .int l15), (16, .int l16), (17, .int l17)]) F dX5_lookUp_234 (by decide) rfl ?_
    refine R_iload F dX5_lookUp_236 1 rfl ?_
    refine R_if_eq (tgt := 254) F dX5_lookUp_238 (by decide) (fun hc => ?_) (fun hc => ?_)
    · replace hw := hw.1 hc
      refine R_iload F dX5_lookUp_254 4 rfl ?_
      refine R_iload F dX5_lookUp_256 0 rfl ?_
      refine R_idiv F dX5_lookUp_258 hw.1 ?_
      replace hw := hw.2
      exact R_sub [] rfl (J_259 (l17 / x21) σ hw)
    · replace hw := hw.2 hc
      refine R_iload F dX5_lookUp_241 4 rfl ?_
      refine R_iload F dX5_lookUp_243 0 rfl ?_
      refine R_iadd F dX5_lookUp_245 ?_
      refine R_iconst F 1 dX5_lookUp_246 (by decide) ?_
      refine R_isub F dX5_lookUp_247 ?_
      refine R_iload F dX5_lookUp_248 0 rfl ?_
      refine R_idiv F dX5_lookUp_250 hw.1 ?_
      replace hw := hw.2
      refine R_goto (tgt := 259) F dX5_lookUp_251 (by decide) ?_
      exact R_sub [] rfl (J_259 (((l17 + x21) - 1) / x21) σ hw)
  have J_180 : ∀ (l5 : Int32) (l9 : Int32) (l10 : Int32) (l11 : Int32) (l12 : Int32) (l15 : Int32) (k0 : Int32) (σ : VS), b_X5lookUp_180 Q l5 l9 l10 l11 l12 l15 k0 σ → WB p l e (({ frames := 1, cells := 0, slots := 0, locals := 26 } : Room)) s m (#[.ref (B 5), .int p1, .int p2, .int p3, .int p4, .int p5]) below meth c (MQ below (va_Qi (fun r w => ∃ σ' : VS, Q r σ' ∧ w = wc E B σ') (AftU E A) A) (#[.ref (B 5), .int p1, .int p2, .int p3, .int p4, .int p5]) s (({ frames := 1, cells := 0, slots := 0, locals := 26 } : Room)).cells (({ frames := 1, cells := 0, slots := 0, locals := 26 } : Room)).slots A) A E (wc E B) 19 180 [(0, .ref (B 5)), (5, .int l5), (9, .int l9), (10, .int l10), (11, .int l11), (12, .int l12), (15, .int l15)] [.int k0] σ := by
    intro l5 l9 l10 l11 l12 l15 k0 σ hw
    unfold b_X5lookUp_180 at hw
    refine R_istore (lv' := [(16, .int k0), (0, .ref (B 5)), (5, .int l5), (9, .int l9), (10, .int l10), (11, .int l11), (12, .int l12), (15, .int l15)]) F dX5_lookUp_180 (by decide) rfl ?_
    refine R_iload F dX5_lookUp_182 7 rfl ?_
    refine R_iload F dX5_lookUp_184 4 rfl ?_
    refine R_isub F dX5_lookUp_186 ?_
    refine R_aload_n F dX5_lookUp_187 rfl 1 rfl ?_
    refine R_iload F dX5_lookUp_188 6 rfl ?_
    refine R_iload F dX5_lookUp_190 3 rfl ?_
    refine R_iload F dX5_lookUp_192 5 rfl ?_
    refine R_iload F dX5_lookUp_194 0 rfl ?_
    refine R_callI (As := [.int l12, .int l9, .int l11, .int k0]) (C := RX5) (q0 := 5) (ci := 5) (N := 5) (T := TX5) (fs := cf_5 B) F (ct_X5weighRow l E B _ l12 l9 l11 k0 _ hw) (cwV 4 F.2.2.2.2.2.2.2.2.2.2 g_X5lookUp_X5weighRow_54 rfl rfl rfl (by decide +kernel) ⟨Nat.le_of_ble_eq_true rfl, Nat.le_of_ble_eq_true rfl⟩) ⟨rfl, rfl⟩ rfl (fun _ => rfl) rfl rfl (Nat.le_of_ble_eq_true rfl) dX5_lookUp_196 (fun r15 σ16 hw => ?_)
    refine R_imul F dX5_lookUp_199 ?_
    refine R_topi (fun x17 ex17 => ?_)
    replace hw := hw x17 ex17
    refine R_istore (lv' := [(17, .int x17), (16, .int k0), (0, .ref (B 5)), (5, .int l5), (9, .int l9), (10, .int l10), (11, .int l11), (12, .int l12), (15, .int l15)]) F dX5_lookUp_200 (by decide) rfl ?_
    refine R_iload F dX5_lookUp_202 5 rfl ?_
    refine R_if_le (tgt := 229) F dX5_lookUp_204 (by decide) (fun hc => ?_) (fun hc => ?_)
    · replace hw := hw.1 hc
      exact R_sub [3, 8, 1, 0] rfl (J_229 l5 l15 k0 x17 σ16 hw)
    · replace hw := hw.2 hc
      refine R_iload F dX5_lookUp_207 0 rfl ?_
      refine R_iload F dX5_lookUp_209 5 rfl ?_
      refine R_aload_n F dX5_lookUp_211 rfl 2 rfl ?_
      refine R_iload F dX5_lookUp_212 7 rfl ?_
      refine R_iconst F 1 dX5_lookUp_214 (by decide) ?_
      refine R_iadd F dX5_lookUp_215 ?_
      refine R_iload F dX5_lookUp_216 4 rfl ?_
      refine R_iload F dX5_lookUp_218 6 rfl ?_
      refine R_iload F dX5_lookUp_220 1 rfl ?_
      refine R_callI (As := [.int (l12 + 1), .int l9, .int l11, .int k0]) (C := RX5) (q0 := 5) (ci := 5) (N := 5) (T := TX5) (fs := cf_5 B) F (ct_X5weighRow l E B _ (l12 + 1) l9 l11 k0 _ hw) (cwV 4 F.2.2.2.2.2.2.2.2.2.2 g_X5lookUp_X5weighRow_54 rfl rfl rfl (by decide +kernel) ⟨Nat.le_of_ble_eq_true rfl, Nat.le_of_ble_eq_true rfl⟩) ⟨rfl, rfl⟩ rfl (fun _ => rfl) rfl rfl (Nat.le_of_ble_eq_true rfl) dX5_lookUp_222 (fun r18 σ19 hw => ?_)
      refine R_imul F dX5_lookUp_225 ?_
      refine R_iadd F dX5_lookUp_226 ?_
      refine R_topi (fun x20 ex20 => ?_)
      replace hw := hw x20 ex20
      refine R_istore (lv' := [(17, .int x20), (16, .int k0), (0, .ref (B 5)), (5, .int l5), (9, .int l9), (10, .int l10), (11, .int l11), (12, .int l12), (15, .int l15)]) F dX5_lookUp_227 (by decide) rfl ?_
      exact R_sub [3, 8, 1, 0] rfl (J_229 l5 l15 k0 x20 σ19 hw)
  have J_154 : ∀ (l5 : Int32) (l9 : Int32) (l10 : Int32) (l11 : Int32) (l12 : Int32) (k0 : Int32) (σ : VS), b_X5lookUp_154 Q l5 l9 l10 l11 l12 k0 σ → WB p l e (({ frames := 1, cells := 0, slots := 0, locals := 26 } : Room)) s m (#[.ref (B 5), .int p1, .int p2, .int p3, .int p4, .int p5]) below meth c (MQ below (va_Qi (fun r w => ∃ σ' : VS, Q r σ' ∧ w = wc E B σ') (AftU E A) A) (#[.ref (B 5), .int p1, .int p2, .int p3, .int p4, .int p5]) s (({ frames := 1, cells := 0, slots := 0, locals := 26 } : Room)).cells (({ frames := 1, cells := 0, slots := 0, locals := 26 } : Room)).slots A) A E (wc E B) 19 154 [(0, .ref (B 5)), (5, .int l5), (9, .int l9), (10, .int l10), (11, .int l11), (12, .int l12)] [.int k0] σ := by
    intro l5 l9 l10 l11 l12 k0 σ hw
    unfold b_X5lookUp_154 at hw
    refine R_istore (lv' := [(15, .int k0), (0, .ref (B 5)), (5, .int l5), (9, .int l9), (10, .int l10), (11, .int l11), (12, .int l12)]) F dX5_lookUp_154 (by decide) rfl ?_
    refine R_iload F dX5_lookUp_156 5 rfl ?_
    refine R_if_le (tgt := 179) F dX5_lookUp_158 (by decide) (fun hc => ?_) (fun hc => ?_)
    · replace hw := hw.1 hc
      refine R_iconst F 1 dX5_lookUp_179 (by decide) ?_
      exact R_sub [1, 2, 3, 4, 5, 6, 0] rfl (J_180 l5 l9 l10 l11 l12 k0 1 σ hw)
    · replace hw := hw.2 hc
      refine R_gs_SLOPE_MARKS (ref := "TimingHouse$Tables") F (in_X5lookUp _ (List.mem_append_left _ (by decide +kernel))) (fun _ h9 => h9) dX5_lookUp_161 ?_
      refine R_iload F dX5_lookUp_164 3 rfl ?_
      refine R_iconst F 1 dX5_lookUp_166 (by decide) ?_
      refine R_iadd F dX5_lookUp_167 ?_
      refine R_gl_SLOPE_MARKS F dX5_lookUp_168 hw.1 ?_
      replace hw := hw.2
      refine R_gs_SLOPE_MARKS (ref := "TimingHouse$Tables") F (in_X5lookUp _ (List.mem_append_left _ (by decide +kernel))) (fun _ h9 => h9) dX5_lookUp_169 ?_
      refine R_iload F dX5_lookUp_172 3 rfl ?_
      refine R_gl_SLOPE_MARKS F dX5_lookUp_174 hw.1 ?_
      replace hw := hw.2
      refine R_isub F dX5_lookUp_175 ?_
      refine R_goto (tgt := 180) F dX5_lookUp_176 (by decide) ?_
      exact R_sub [1, 2, 3, 4, 5, 6, 0] rfl (J_180 l5 l9 l10 l11 l12 k0 ((lm_slope.getD (l9 + 1).toNatClampNeg 0) - (lm_slope.getD l9.toNatClampNeg 0)) σ hw)
  have J_122 : ∀ (l5 : Int32) (l8 : Int32) (l9 : Int32) (l10 : Int32) (l11 : Int32) (l12 : Int32) (l14 : Int32) (σ : VS), b_X5lookUp_122 Q l5 l8 l9 l10 l11 l12 l14 σ → WB p l e (({ frames := 1, cells := 0, slots := 0, locals := 26 } : Room)) s m (#[.ref (B 5), .int p1, .int p2, .int p3, .int p4, .int p5]) below meth c (MQ below (va_Qi (fun r w => ∃ σ' : VS, Q r σ' ∧ w = wc E B σ') (AftU E A) A) (#[.ref (B 5), .int p1, .int p2, .int p3, .int p4, .int p5]) s (({ frames := 1, cells := 0, slots := 0, locals := 26 } : Room)).cells (({ frames := 1, cells := 0, slots := 0, locals := 26 } : Room)).slots A) A E (wc E B) 19 122 [(0, .ref (B 5)), (5, .int l5), (8, .int l8), (9, .int l9), (10, .int l10), (11, .int l11), (12, .int l12), (14, .int l14)] [] σ := by
    intro l5 l8 l9 l10 l11 l12 l14 σ hw
    unfold b_X5lookUp_122 at hw
    refine R_iload F dX5_lookUp_122 7 rfl ?_
    refine R_if_eq (tgt := 130) F dX5_lookUp_124 (by decide) (fun hc => ?_) (fun hc => ?_)
    · replace hw := hw.1 hc
      refine R_iload F dX5_lookUp_130 4 rfl ?_
      refine R_if_le (tgt := 153) F dX5_lookUp_132 (by decide) (fun hc => ?_) (fun hc => ?_)
      · replace hw := hw.1 hc
        refine R_iconst F 1 dX5_lookUp_153 (by decide) ?_
        exact R_sub [0, 1, 3, 4, 5, 6] rfl (J_154 l5 l9 l10 l11 l12 1 σ hw)
      · replace hw := hw.2 hc
        refine R_gs_LOAD_MARKS (ref := "TimingHouse$Tables") F (in_X5lookUp _ (List.mem_append_left _ (by decide +kernel))) (fun _ h9 => h9) dX5_lookUp_135 ?_
        refine R_iload F dX5_lookUp_138 2 rfl ?_
        refine R_iconst F 1 dX5_lookUp_140 (by decide) ?_
        refine R_iadd F dX5_lookUp_141 ?_
        refine R_gl_LOAD_MARKS F dX5_lookUp_142 hw.1 ?_
        replace hw := hw.2
        refine R_gs_LOAD_MARKS (ref := "TimingHouse$Tables") F (in_X5lookUp _ (List.mem_append_left _ (by decide +kernel))) (fun _ h9 => h9) dX5_lookUp_143 ?_
        refine R_iload F dX5_lookUp_146 2 rfl ?_
        refine R_gl_LOAD_MARKS F dX5_lookUp_148 hw.1 ?_
        replace hw := hw.2
        refine R_isub F dX5_lookUp_149 ?_
        refine R_goto (tgt := 154) F dX5_lookUp_150 (by decide) ?_
        exact R_sub [0, 1, 3, 4, 5, 6] rfl (J_154 l5 l9 l10 l11 l12 ((lm_load.getD (l8 + 1).toNatClampNeg 0) - (lm_load.getD l8.toNatClampNeg 0)) σ hw)
    · replace hw := hw.2 hc
      refine R_iload F dX5_lookUp_127 7 rfl ?_
      exact R_iret (Qc := Q) F rfl dX5_lookUp_129 hw
  have J_88 : ∀ (l5 : Int32) (l8 : Int32) (l9 : Int32) (l10 : Int32) (l11 : Int32) (l12 : Int32) (k0 : Int32) (σ : VS), b_X5lookUp_88 Q l5 l8 l9 l10 l11 l12 k0 σ → WB p l e (({ frames := 1, cells := 0, slots := 0, locals := 26 } : Room)) s m (#[.ref (B 5), .int p1, .int p2, .int p3, .int p4, .int p5]) below meth c (MQ below (va_Qi (fun r w => ∃ σ' : VS, Q r σ' ∧ w = wc E B σ') (AftU E A) A) (#[.ref (B 5), .int p1, .int p2, .int p3, .int p4, .int p5]) s (({ frames := 1, cells := 0, slots := 0, locals := 26 } : Room)).cells (({ frames := 1, cells := 0, slots := 0, locals := 26 } : Room)).slots A) A E (wc E B) 19 88 [(0, .ref (B 5)), (5, .int l5), (8, .int l8), (9, .int l9), (10, .int l10), (11, .int l11), (12, .int l12)] [.int k0] σ := by
    intro l5 l8 l9 l10 l11 l12 k0 σ hw
    unfold b_X5lookUp_88 at hw
    refine R_istore (lv' := [(13, .int k0), (0, .ref (B 5)), (5, .int l5), (8, .int l8), (9, .int l9), (10, .int l10), (11, .int l11), (12, .int l12)]) F dX5_lookUp_88 (by decide) rfl ?_
    refine R_aload_n F dX5_lookUp_90 rfl 1 rfl ?_
    refine R_iload F dX5_lookUp_91 7 rfl ?_
    refine R_iload F dX5_lookUp_93 0 rfl ?_
    refine R_callI (As := [.int l12, .int k0]) (C := RX5) (q0 := 5) (ci := 5) (N := 5) (T := TX5) (fs := cf_5 B) F (ct_X5whyAbsent l E B _ l12 k0 _ hw) (cwV 2 F.2.2.2.2.2.2.2.2.2.2 g_X5lookUp_X5whyAbsent_51 rfl rfl rfl (by decide +kernel) ⟨Nat.le_of_ble_eq_true rfl, Nat.le_of_ble_eq_true rfl⟩) ⟨rfl, rfl⟩ rfl (fun _ => rfl) rfl rfl (Nat.le_of_ble_eq_true rfl) dX5_lookUp_95 (fun r11 σ12 hw => ?_)
    refine R_istore (lv' := [(14, .int r11), (13, .int k0), (0, .ref (B 5)), (5, .int l5), (8, .int l8), (9, .int l9), (10, .int l10), (11, .int l11), (12, .int l12)]) F dX5_lookUp_98 (by decide) rfl ?_
    refine R_iload F dX5_lookUp_100 0 rfl ?_
    refine R_if_ne (tgt := 122) F dX5_lookUp_102 (by decide) (fun hc => ?_) (fun hc => ?_)
    · replace hw := hw.1 hc
      exact R_sub [2, 3, 4, 5, 6, 7, 8, 0] rfl (J_122 l5 l8 l9 l10 l11 l12 r11 σ12 hw)
    · replace hw := hw.2 hc
      refine R_iload F dX5_lookUp_105 6 rfl ?_
      refine R_if_le (tgt := 122) F dX5_lookUp_107 (by decide) (fun hc => ?_) (fun hc => ?_)
      · replace hw := hw.1 hc
        exact R_sub [2, 3, 4, 5, 6, 7, 8, 0] rfl (J_122 l5 l8 l9 l10 l11 l12 r11 σ12 hw)
      · replace hw := hw.2 hc
        refine R_aload_n F dX5_lookUp_110 rfl 2 rfl ?_
        refine R_iload F dX5_lookUp_111 8 rfl ?_
        refine R_iconst F 1 dX5_lookUp_113 (by decide) ?_
        refine R_iadd F dX5_lookUp_114 ?_
        refine R_iload F dX5_lookUp_115 1 rfl ?_
        refine R_callI (As := [.int (l12 + 1), .int k0]) (C := RX5) (q0 := 5) (ci := 5) (N := 5) (T := TX5) (fs := cf_5 B) F (ct_X5whyAbsent l E B _ (l12 + 1) k0 _ hw) (cwV 2 F.2.2.2.2.2.2.2.2.2.2 g_X5lookUp_X5whyAbsent_51 rfl rfl rfl (by decide +kernel) ⟨Nat.le_of_ble_eq_true rfl, Nat.le_of_ble_eq_true rfl⟩) ⟨rfl, rfl⟩ rfl (fun _ => rfl) rfl rfl (Nat.le_of_ble_eq_true rfl) dX5_lookUp_117 (fun r13 σ14 hw => ?_)
        refine R_istore (lv' := [(14, .int r13), (13, .int k0), (0, .ref (B 5)), (5, .int l5), (8, .int l8), (9, .int l9), (10, .int l10), (11, .int l11), (12, .int l12)]) F dX5_lookUp_120 (by decide) rfl ?_
        exact R_sub [2, 3, 4, 5, 6, 7, 8, 0] rfl (J_122 l5 l8 l9 l10 l11 l12 r13 σ14 hw)
  unfold wp_X5lookUp at hw
  refine R_iload_n F dX5_lookUp_0 rfl 3 rfl ?_
  refine R_gs_LOAD_MARKS (ref := "TimingHouse$Tables") F (in_X5lookUp _ (List.mem_append_left _ (by decide +kernel))) (fun _ h9 => h9) dX5_lookUp_1 ?_
  refine R_iconst F 3 dX5_lookUp_4 (by decide) ?_
  refine R_gl_LOAD_MARKS F dX5_lookUp_5 (⟨by decide, by decide⟩ : In 3 4) ?_
  refine R_cst (y := 64) (by decide) ?_
  refine R_mmin F (List.mem_append_left _ (show Cond.methodLink RX5 34 Lib.Math.min.name ∈ wo_X5lookUp by decide +kernel)) (List.mem_append_left _ (show Cond.static Lib.Math.min.name ∈ wo_X5lookUp by decide +kernel)) (List.mem_append_left _ (show Cond.initialized "java/lang/Math" ∈ wo_X5lookUp by decide +kernel)) (List.mem_append_left _ (show Cond.code Lib.Math.min.name Lib.Math.min.code 2 (some .int) ∈ wo_X5lookUp by decide +kernel)) (Nat.le_of_ble_eq_true rfl) (Nat.le_of_ble_eq_true rfl) dX5_lookUp_6 ?_
  refine R_topi (fun x1 ex1 => ?_)
  replace hw := hw x1 ex1
  refine R_istore (lv' := [(6, .int x1), (0, .ref (B 5)), (1, .int p1), (2, .int p2), (3, .int p3), (4, .int p4), (5, .int p5)]) F dX5_lookUp_9 (by decide) rfl ?_
  refine R_iload F dX5_lookUp_11 5 rfl ?_
  refine R_gs_SLOPE_MARKS (ref := "TimingHouse$Tables") F (in_X5lookUp _ (List.mem_append_left _ (by decide +kernel))) (fun _ h9 => h9) dX5_lookUp_13 ?_
  refine R_iconst F 2 dX5_lookUp_16 (by decide) ?_
  refine R_gl_SLOPE_MARKS F dX5_lookUp_17 (⟨by decide, by decide⟩ : In 2 3) ?_
  refine R_cst (y := 64) (by decide) ?_
  refine R_mmin F (List.mem_append_left _ (show Cond.methodLink RX5 34 Lib.Math.min.name ∈ wo_X5lookUp by decide +kernel)) (List.mem_append_left _ (show Cond.static Lib.Math.min.name ∈ wo_X5lookUp by decide +kernel)) (List.mem_append_left _ (show Cond.initialized "java/lang/Math" ∈ wo_X5lookUp by decide +kernel)) (List.mem_append_left _ (show Cond.code Lib.Math.min.name Lib.Math.min.code 2 (some .int) ∈ wo_X5lookUp by decide +kernel)) (Nat.le_of_ble_eq_true rfl) (Nat.le_of_ble_eq_true rfl) dX5_lookUp_18 ?_
  refine R_topi (fun x2 ex2 => ?_)
  replace hw := hw x2 ex2
  refine R_istore (lv' := [(7, .int x2), (6, .int x1), (0, .ref (B 5)), (1, .int p1), (2, .int p2), (3, .int p3), (4, .int p4), (5, .int p5)]) F dX5_lookUp_21 (by decide) rfl ?_
  refine R_gs_LOAD_MARKS (ref := "TimingHouse$Tables") F (in_X5lookUp _ (List.mem_append_left _ (by decide +kernel))) (fun _ h9 => h9) dX5_lookUp_23 ?_
  refine R_iload F dX5_lookUp_26 1 rfl ?_
  refine R_callIS (As := [.ref E.2.2.2.2.1, .int x1]) (C := RX10) (q0 := 0) (ci := 10) (b := 0) (N := 69) (T := TX10) (fs := fun _ => []) F (ct_X5lastNotAboveL l E B _ x1 _ hw) (va_cwS 2 F.2.2.2.2.2.2.2.2.2.2 g_X5lookUp_X5lastNotAboveL_43 rfl rfl rfl (by decide +kernel) ⟨Nat.le_of_ble_eq_true rfl, Nat.le_of_ble_eq_true rfl⟩) ⟨rfl, rfl⟩ rfl rfl (Nat.le_of_ble_eq_true rfl) dX5_lookUp_28 (fun r3 σ4 hw => ?_)
  refine R_istore (lv' := [(8, .int r3), (7, .int x2), (6, .int x1), (0, .ref (B 5)), (1, .int p1), (2, .int p2), (3, .int p3), (4, .int p4), (5, .int p5)]) F dX5_lookUp_31 (by decide) rfl ?_
  refine R_gs_SLOPE_MARKS (ref := "TimingHouse$Tables") F (in_X5lookUp _ (List.mem_append_left _ (by decide +kernel))) (fun _ h9 => h9) dX5_lookUp_33 ?_
  refine R_iload F dX5_lookUp_36 1 rfl ?_
  refine R_callIS (As := [.ref E.2.2.2.2.2.1, .int x2]) (C := RX10) (q0 := 0) (ci := 10) (b := 0) (N := 69) (T := TX10) (fs := fun _ => []) F (ct_X5lastNotAboveS l E B _ x2 _ hw) (va_cwS 2 F.2.2.2.2.2.2.2.2.2.2 g_X5lookUp_X5lastNotAboveS_43 rfl rfl rfl (by decide +kernel) ⟨Nat.le_of_ble_eq_true rfl, Nat.le_of_ble_eq_true rfl⟩) ⟨rfl, rfl⟩ rfl rfl (Nat.le_of_ble_eq_true rfl) dX5_lookUp_38 (fun r5 σ6 hw => ?_)
  refine R_istore (lv' := [(9, .int r5), (8, .int r3), (7, .int x2), (6, .int x1), (0, .ref (B 5)), (1, .int p1), (2, .int p2), (3, .int p3), (4, .int p4), (5, .int p5)]) F dX5_lookUp_41 (by decide) rfl ?_
  refine R_iload F dX5_lookUp_43 3 rfl ?_
  refine R_gs_LOAD_MARKS (ref := "TimingHouse$Tables") F (in_X5lookUp _ (List.mem_append_left _ (by decide +kernel))) (fun _ h9 => h9) dX5_lookUp_45 ?_
  refine R_iload F dX5_lookUp_48 1 rfl ?_
  refine R_gl_LOAD_MARKS F dX5_lookUp_50 hw.1 ?_
  replace hw := hw.2
  refine R_isub F dX5_lookUp_51 ?_
  refine R_topi (fun x7 ex7 => ?_)
  replace hw := hw x7 ex7
  refine R_istore (lv' := [(10, .int x7), (9, .int r5), (8, .int r3), (7, .int x2), (6, .int x1), (0, .ref (B 5)), (1, .int p1), (2, .int p2), (3, .int p3), (4, .int p4), (5, .int p5)]) F dX5_lookUp_52 (by decide) rfl ?_
  refine R_iload F dX5_lookUp_54 3 rfl ?_
  refine R_gs_SLOPE_MARKS (ref := "TimingHouse$Tables") F (in_X5lookUp _ (List.mem_append_left _ (by decide +kernel))) (fun _ h9 => h9) dX5_lookUp_56 ?_
  refine R_iload F dX5_lookUp_59 1 rfl ?_
  refine R_gl_SLOPE_MARKS F dX5_lookUp_61 hw.1 ?_
  replace hw := hw.2
  refine R_isub F dX5_lookUp_62 ?_
  refine R_topi (fun x8 ex8 => ?_)
  replace hw := hw x8 ex8
  refine R_istore (lv' := [(11, .int x8), (10, .int x7), (9, .int r5), (8, .int r3), (7, .int x2), (6, .int x1), (0, .ref (B 5)), (1, .int p1), (2, .int p2), (3, .int p3), (4, .int p4), (5, .int p5)]) F dX5_lookUp_63 (by decide) rfl ?_
  refine R_iload_n F dX5_lookUp_65 rfl 7 rfl ?_
  refine R_iload_n F dX5_lookUp_66 rfl 8 rfl ?_
  refine R_iload F dX5_lookUp_67 3 rfl ?_
  refine R_callIS (As := [.int p1, .int p2, .int r3]) (C := RX10) (q0 := 0) (ci := 10) (b := 0) (N := 69) (T := TX10) (fs := fun _ => []) F (ct_X5rowPlace l E B _ p1 p2 r3 _ hw) (va_cwS 3 F.2.2.2.2.2.2.2.2.2.2 g_X5lookUp_X5rowPlace_47 rfl rfl rfl (by decide +kernel) ⟨Nat.le_of_ble_eq_true rfl, Nat.le_of_ble_eq_true rfl⟩) ⟨rfl, rfl⟩ rfl rfl (Nat.le_of_ble_eq_true rfl) dX5_lookUp_69 (fun r9 σ10 hw => ?_)
  refine R_istore (lv' := [(12, .int r9), (11, .int x8), (10, .int x7), (9, .int r5), (8, .int r3), (7, .int x2), (6, .int x1), (0, .ref (B 5)), (1, .int p1), (2, .int p2), (3, .int p3), (4, .int p4), (5, .int p5)]) F dX5_lookUp_72 (by decide) rfl ?_
  refine R_iload F dX5_lookUp_74 1 rfl ?_
  refine R_if_le (tgt := 86) F dX5_lookUp_76 (by decide) (fun hc => ?_) (fun hc => ?_)
  · replace hw := hw.1 hc
    refine R_iload F dX5_lookUp_86 3 rfl ?_
    exact R_sub [7, 12, 4, 3, 2, 1, 0] rfl (J_88 p5 r3 r5 x7 x8 r9 r5 σ10 hw)
  · replace hw := hw.2 hc
    refine R_iload F dX5_lookUp_79 3 rfl ?_
    refine R_iconst F 1 dX5_lookUp_81 (by decide) ?_
    refine R_iadd F dX5_lookUp_82 ?_
    refine R_goto (tgt := 88) F dX5_lookUp_83 (by decide) ?_
    exact R_sub [7, 12, 4, 3, 2, 1, 0] rfl (J_88 p5 r3 r5 x7 x8 r9 (r5 + 1) σ10 hw)
