def b_isRow_33 (Q : Int32 → VS → Prop) (k0 : Int32) (σ : VS) : Prop := (Bo k0 ∧ Q k0 σ)
def b_isRow_32 (Q : Int32 → VS → Prop) (σ : VS) : Prop := b_isRow_33 Q 0 σ
def wp_isRow (Q : Int32 → VS → Prop) (p1 : Int32) (p2 : Int32) (p3 : Int32) (σ : VS) : Prop := ((p1.toInt < 0 → b_isRow_32 Q σ) ∧ (0 ≤ p1.toInt → ((8 ≤ p1.toInt → b_isRow_32 Q σ) ∧ (p1.toInt < 8 → ((p2.toInt < 0 → b_isRow_32 Q σ) ∧ (0 ≤ p2.toInt → ((2 ≤ p2.toInt → b_isRow_32 Q σ) ∧ (p2.toInt < 2 → ((p3.toInt < 0 → b_isRow_32 Q σ) ∧ (0 ≤ p3.toInt → ((4 ≤ p3.toInt → b_isRow_32 Q σ) ∧ (p3.toInt < 4 → b_isRow_33 Q 1 σ))))))))))))
theorem dX10_isRow_0 : decode cX10_isRow 0 = .ok (.iload_n 0, 1) := by decide +kernel
theorem dX10_isRow_1 : decode cX10_isRow 1 = .ok (.ifCond .lt 31, 3) := by decide +kernel
theorem dX10_isRow_4 : decode cX10_isRow 4 = .ok (.iload_n 0, 1) := by decide +kernel
theorem dX10_isRow_5 : decode cX10_isRow 5 = .ok (.bipush 8, 2) := by decide +kernel
theorem dX10_isRow_7 : decode cX10_isRow 7 = .ok (.if_icmp .ge 25, 3) := by decide +kernel
theorem dX10_isRow_10 : decode cX10_isRow 10 = .ok (.iload_n 1, 1) := by decide +kernel
theorem dX10_isRow_11 : decode cX10_isRow 11 = .ok (.ifCond .lt 21, 3) := by decide +kernel
theorem dX10_isRow_14 : decode cX10_isRow 14 = .ok (.iload_n 1, 1) := by decide +kernel
theorem dX10_isRow_15 : decode cX10_isRow 15 = .ok (.iconst 2, 1) := by decide +kernel
theorem dX10_isRow_16 : decode cX10_isRow 16 = .ok (.if_icmp .ge 16, 3) := by decide +kernel
theorem dX10_isRow_19 : decode cX10_isRow 19 = .ok (.iload_n 2, 1) := by decide +kernel
theorem dX10_isRow_20 : decode cX10_isRow 20 = .ok (.ifCond .lt 12, 3) := by decide +kernel
theorem dX10_isRow_23 : decode cX10_isRow 23 = .ok (.iload_n 2, 1) := by decide +kernel
theorem dX10_isRow_24 : decode cX10_isRow 24 = .ok (.iconst 4, 1) := by decide +kernel
theorem dX10_isRow_25 : decode cX10_isRow 25 = .ok (.if_icmp .ge 7, 3) := by decide +kernel
theorem dX10_isRow_28 : decode cX10_isRow 28 = .ok (.iconst 1, 1) := by decide +kernel
theorem dX10_isRow_29 : decode cX10_isRow 29 = .ok (.goto 4, 3) := by decide +kernel
theorem dX10_isRow_32 : decode cX10_isRow 32 = .ok (.iconst 0, 1) := by decide +kernel
theorem dX10_isRow_33 : decode cX10_isRow 33 = .ok (.ireturn, 1) := by decide +kernel
def wo_isRow : List Cond := [.code yX10_isRow cX10_isRow 3 (some .boolean)]
def wr_isRow : List Cond := (wfX10 ++ ([]))
def w_isRow : List Cond := wo_isRow ++ wr_isRow
theorem wg_isRow : GW w_isRow := GW_app (GW_of (by decide +kernel)) (GW_app (wg_fX10) (GW_nil))
theorem in_isRow : ∀ w ∈ wfX10, w ∈ w_isRow := fun _ h => List.mem_append_right _ (List.mem_append_left _ h)
set_option maxHeartbeats 4000000 in
set_option maxRecDepth 100000 in
theorem ct_isRow (l : Launch) (E : gE) (B : Nat → Nat) (Q : Int32 → VS → Prop) (p1 : Int32) (p2 : Int32) (p3 : Int32) (σ : VS) (hw : wp_isRow Q p1 p2 p3 σ) : CtI l E yX10_isRow w_isRow (({ frames := 0, cells := 0, slots := 0, locals := 0 } : Room)) (wm E B σ) [.int p1, .int p2, .int p3] (fun r w => ∃ σ' : VS, Q r σ' ∧ w = wm E B σ') := by
  refine VC_I (cc := cX10_isRow) (mL := 3) (rt := (some .boolean)) (lv0 := [(0, .int p1), (1, .int p2), (2, .int p3)]) rfl (by decide) rfl (Nat.le_of_ble_eq_true rfl) ?_
  intro p e s m below meth c A F
  replace F : Fx p s m _ meth c A E cX10_isRow 3 (some .boolean) RX10 w_isRow := F
  have J_33 : ∀ (k0 : Int32) (σ : VS), b_isRow_33 Q k0 σ → WB p l e (({ frames := 0, cells := 0, slots := 0, locals := 0 } : Room)) s m (#[.int p1, .int p2, .int p3]) below meth c (MQ below (va_Qi (fun r w => ∃ σ' : VS, Q r σ' ∧ w = wm E B σ') (AftU E A) A) (#[.int p1, .int p2, .int p3]) s (({ frames := 0, cells := 0, slots := 0, locals := 0 } : Room)).cells (({ frames := 0, cells := 0, slots := 0, locals := 0 } : Room)).slots A) A E (wm E B) 3 33 [] [.int k0] σ := by
    intro k0 σ hw
    unfold b_isRow_33 at hw
    exact R_iret (Qc := Q) F (nb_01 hw.1) dX10_isRow_33 hw.2
  have J_32 : ∀ (σ : VS), b_isRow_32 Q σ → WB p l e (({ frames := 0, cells := 0, slots := 0, locals := 0 } : Room)) s m (#[.int p1, .int p2, .int p3]) below meth c (MQ below (va_Qi (fun r w => ∃ σ' : VS, Q r σ' ∧ w = wm E B σ') (AftU E A) A) (#[.int p1, .int p2, .int p3]) s (({ frames := 0, cells := 0, slots := 0, locals := 0 } : Room)).cells (({ frames := 0, cells := 0, slots := 0, locals := 0 } : Room)).slots A) A E (wm E B) 3 32 [] [] σ := by
    intro σ hw
    unfold b_isRow_32 at hw
    refine R_iconst F 0 dX10_isRow_32 (by decide) ?_
    exact R_sub [] rfl (J_33 0 σ hw)
  unfold wp_isRow at hw
  refine R_iload_n F dX10_isRow_0 rfl 0 rfl ?_
  refine R_if_lt (tgt := 32) F dX10_isRow_1 (by decide) (fun hc => ?_) (fun hc => ?_)
  · replace hw := hw.1 hc
    exact R_sub [] rfl (J_32 σ hw)
  · replace hw := hw.2 hc
    refine R_iload_n F dX10_isRow_4 rfl 0 rfl ?_
    refine R_bipush F 8 dX10_isRow_5 (by decide) ?_
    refine R_icmp_ge (tgt := 32) F dX10_isRow_7 (by decide) (fun hc => ?_) (fun hc => ?_)
    · replace hw := hw.1 hc
      exact R_sub [] rfl (J_32 σ hw)
    · replace hw := hw.2 hc
      refine R_iload_n F dX10_isRow_10 rfl 1 rfl ?_
      refine R_if_lt (tgt := 32) F dX10_isRow_11 (by decide) (fun hc => ?_) (fun hc => ?_)
      · replace hw := hw.1 hc
        exact R_sub [] rfl (J_32 σ hw)
      · replace hw := hw.2 hc
        refine R_iload_n F dX10_isRow_14 rfl 1 rfl ?_
        refine R_iconst F 2 dX10_isRow_15 (by decide) ?_
        refine R_icmp_ge (tgt := 32) F dX10_isRow_16 (by decide) (fun hc => ?_) (fun hc => ?_)
        · replace hw := hw.1 hc
          exact R_sub [] rfl (J_32 σ hw)
        · replace hw := hw.2 hc
          refine R_iload_n F dX10_isRow_19 rfl 2 rfl ?_
          refine R_if_lt (tgt := 32) F dX10_isRow_20 (by decide) (fun hc => ?_) (fun hc => ?_)
          · replace hw := hw.1 hc
            exact R_sub [] rfl (J_32 σ hw)
          · replace hw := hw.2 hc
            refine R_iload_n F dX10_isRow_23 rfl 2 rfl ?_
            refine R_iconst F 4 dX10_isRow_24 (by decide) ?_
            refine R_icmp_ge (tgt := 32) F dX10_isRow_25 (by decide) (fun hc => ?_) (fun hc => ?_)
            · replace hw := hw.1 hc
              exact R_sub [] rfl (J_32 σ hw)
            · replace hw := hw.2 hc
              refine R_iconst F 1 dX10_isRow_28 (by decide) ?_
              refine R_goto (tgt := 33) F dX10_isRow_29 (by decide) ?_
              exact R_sub [] rfl (J_33 1 σ hw)
def b_isCell_17 (Q : Int32 → VS → Prop) (k0 : Int32) (σ : VS) : Prop := (Bo k0 ∧ Q k0 σ)
def b_isCell_16 (Q : Int32 → VS → Prop) (σ : VS) : Prop := b_isCell_17 Q 0 σ
def wp_isCell (Q : Int32 → VS → Prop) (p1 : Int32) (σ : VS) : Prop := ((p1.toInt < 0 → b_isCell_16 Q σ) ∧ (0 ≤ p1.toInt → (((σ.1 1).toInt ≤ p1.toInt → b_isCell_16 Q σ) ∧ (p1.toInt < (σ.1 1).toInt → b_isCell_17 Q 1 σ))))
theorem dX10_isCell_0 : decode cX10_isCell 0 = .ok (.iload_n 1, 1) := by decide +kernel
theorem dX10_isCell_1 : decode cX10_isCell 1 = .ok (.ifCond .lt 15, 3) := by decide +kernel
theorem dX10_isCell_4 : decode cX10_isCell 4 = .ok (.iload_n 1, 1) := by decide +kernel
theorem dX10_isCell_5 : decode cX10_isCell 5 = .ok (.aload_n 0, 1) := by decide +kernel
theorem dX10_isCell_6 : decode cX10_isCell 6 = .ok (.getfield 7, 3) := by decide +kernel
theorem dX10_isCell_9 : decode cX10_isCell 9 = .ok (.if_icmp .ge 7, 3) := by decide +kernel
theorem dX10_isCell_12 : decode cX10_isCell 12 = .ok (.iconst 1, 1) := by decide +kernel
theorem dX10_isCell_13 : decode cX10_isCell 13 = .ok (.goto 4, 3) := by decide +kernel
theorem dX10_isCell_16 : decode cX10_isCell 16 = .ok (.iconst 0, 1) := by decide +kernel
theorem dX10_isCell_17 : decode cX10_isCell 17 = .ok (.ireturn, 1) := by decide +kernel
def wo_isCell : List Cond := [.code yX10_isCell cX10_isCell 2 (some .boolean)]
def wr_isCell : List Cond := (wfX10 ++ ([]))
def w_isCell : List Cond := wo_isCell ++ wr_isCell
theorem wg_isCell : GW w_isCell := GW_app (GW_of (by decide +kernel)) (GW_app (wg_fX10) (GW_nil))
theorem in_isCell : ∀ w ∈ wfX10, w ∈ w_isCell := fun _ h => List.mem_append_right _ (List.mem_append_left _ h)
set_option maxHeartbeats 4000000 in
set_option maxRecDepth 100000 in
theorem ct_isCell (l : Launch) (E : gE) (B : Nat → Nat) (Q : Int32 → VS → Prop) (p1 : Int32) (σ : VS) (hw : wp_isCell Q p1 σ) : CtI l E yX10_isCell w_isCell (({ frames := 0, cells := 0, slots := 0, locals := 0 } : Room)) (wm E B σ) [.ref (B 0), .int p1] (fun r w => ∃ σ' : VS, Q r σ' ∧ w = wm E B σ') := by
  refine VC_I (cc := cX10_isCell) (mL := 2) (rt := (some .boolean)) (lv0 := [(0, .ref (B 0)), (1, .int p1)]) rfl (by decide) rfl (Nat.le_of_ble_eq_true rfl) ?_
  intro p e s m below meth c A F
  replace F : Fx p s m _ meth c A E cX10_isCell 2 (some .boolean) RX10 w_isCell := F
  have J_17 : ∀ (k0 : Int32) (σ : VS), b_isCell_17 Q k0 σ → WB p l e (({ frames := 0, cells := 0, slots := 0, locals := 0 } : Room)) s m (#[.ref (B 0), .int p1]) below meth c (MQ below (va_Qi (fun r w => ∃ σ' : VS, Q r σ' ∧ w = wm E B σ') (AftU E A) A) (#[.ref (B 0), .int p1]) s (({ frames := 0, cells := 0, slots := 0, locals := 0 } : Room)).cells (({ frames := 0, cells := 0, slots := 0, locals := 0 } : Room)).slots A) A E (wm E B) 2 17 [] [.int k0] σ := by
    intro k0 σ hw
    unfold b_isCell_17 at hw
    exact R_iret (Qc := Q) F (nb_01 hw.1) dX10_isCell_17 hw.2
  have J_16 : ∀ (σ : VS), b_isCell_16 Q σ → WB p l e (({ frames := 0, cells := 0, slots := 0, locals := 0 } : Room)) s m (#[.ref (B 0), .int p1]) below meth c (MQ below (va_Qi (fun r w => ∃ σ' : VS, Q r σ' ∧ w = wm E B σ') (AftU E A) A) (#[.ref (B 0), .int p1]) s (({ frames := 0, cells := 0, slots := 0, locals := 0 } : Room)).cells (({ frames := 0, cells := 0, slots := 0, locals := 0 } : Room)).slots A) A E (wm E B) 2 16 [] [] σ := by
    intro σ hw
    unfold b_isCell_16 at hw
    refine R_iconst F 0 dX10_isCell_16 (by decide) ?_
    exact R_sub [] rfl (J_17 0 σ hw)
  unfold wp_isCell at hw
  refine R_iload_n F dX10_isCell_0 rfl 1 rfl ?_
  refine R_if_lt (tgt := 16) F dX10_isCell_1 (by decide) (fun hc => ?_) (fun hc => ?_)
  · replace hw := hw.1 hc
    exact R_sub [] rfl (J_16 σ hw)
  · replace hw := hw.2 hc
    refine R_iload_n F dX10_isCell_4 rfl 1 rfl ?_
    refine R_aload_n F dX10_isCell_5 rfl 0 rfl ?_
    refine gm_1 F in_isCell dX10_isCell_6 ?_
    refine R_icmp_ge (tgt := 16) F dX10_isCell_9 (by decide) (fun hc => ?_) (fun hc => ?_)
    · replace hw := hw.1 hc
      exact R_sub [] rfl (J_16 σ hw)
    · replace hw := hw.2 hc
      refine R_iconst F 1 dX10_isCell_12 (by decide) ?_
      refine R_goto (tgt := 17) F dX10_isCell_13 (by decide) ?_
      exact R_sub [] rfl (J_17 1 σ hw)
def b_isInput_27 (Q : Int32 → VS → Prop) (k0 : Int32) (σ : VS) : Prop := (Bo k0 ∧ Q k0 σ)
def b_isInput_26 (Q : Int32 → VS → Prop) (σ : VS) : Prop := b_isInput_27 Q 0 σ
def wp_isInput (Q : Int32 → VS → Prop) (p1 : Int32) (p2 : Int32) (σ : VS) : Prop := wp_isCell (fun (r1 : Int32) (σ2 : VS) => ((r1.toInt = 0 → b_isInput_26 Q σ2) ∧ (r1.toInt ≠ 0 → ((p2.toInt < 0 → b_isInput_26 Q σ2) ∧ (0 ≤ p2.toInt → (In p1 50 ∧ (((rd σ2 3 p1).toInt ≤ p2.toInt → b_isInput_26 Q σ2) ∧ (p2.toInt < (rd σ2 3 p1).toInt → b_isInput_27 Q 1 σ2)))))))) p1 σ
theorem dX10_isInput_0 : decode cX10_isInput 0 = .ok (.aload_n 0, 1) := by decide +kernel
theorem dX10_isInput_1 : decode cX10_isInput 1 = .ok (.iload_n 1, 1) := by decide +kernel
theorem dX10_isInput_2 : decode cX10_isInput 2 = .ok (.invokevirtual 10, 3) := by decide +kernel
theorem dX10_isInput_5 : decode cX10_isInput 5 = .ok (.ifCond .eq 21, 3) := by decide +kernel
theorem dX10_isInput_8 : decode cX10_isInput 8 = .ok (.iload_n 2, 1) := by decide +kernel
theorem dX10_isInput_9 : decode cX10_isInput 9 = .ok (.ifCond .lt 17, 3) := by decide +kernel
theorem dX10_isInput_12 : decode cX10_isInput 12 = .ok (.iload_n 2, 1) := by decide +kernel
theorem dX10_isInput_13 : decode cX10_isInput 13 = .ok (.aload_n 0, 1) := by decide +kernel
theorem dX10_isInput_14 : decode cX10_isInput 14 = .ok (.getfield 14, 3) := by decide +kernel
theorem dX10_isInput_17 : decode cX10_isInput 17 = .ok (.iload_n 1, 1) := by decide +kernel
theorem dX10_isInput_18 : decode cX10_isInput 18 = .ok (.iaload, 1) := by decide +kernel
theorem dX10_isInput_19 : decode cX10_isInput 19 = .ok (.if_icmp .ge 7, 3) := by decide +kernel
theorem dX10_isInput_22 : decode cX10_isInput 22 = .ok (.iconst 1, 1) := by decide +kernel
theorem dX10_isInput_23 : decode cX10_isInput 23 = .ok (.goto 4, 3) := by decide +kernel
theorem dX10_isInput_26 : decode cX10_isInput 26 = .ok (.iconst 0, 1) := by decide +kernel
theorem dX10_isInput_27 : decode cX10_isInput 27 = .ok (.ireturn, 1) := by decide +kernel
def wo_isInput : List Cond := [.code yX10_isInput cX10_isInput 3 (some .boolean), .methodLink RX10 10 yX10_isCell, .instanceMethod yX10_isCell, .selects RX10 yX10_isCell yX10_isCell, .initialized RX10]
def wr_isInput : List Cond := (wfX10 ++ (w_isCell ++ ([])))
def w_isInput : List Cond := wo_isInput ++ wr_isInput
theorem wg_isInput : GW w_isInput := GW_app (GW_of (by decide +kernel)) (GW_app (wg_fX10) (GW_app (wg_isCell) (GW_nil)))
theorem in_isInput : ∀ w ∈ wfX10, w ∈ w_isInput := fun _ h => List.mem_append_right _ (List.mem_append_left _ h)
theorem g_isInput_isCell_10 : GoodIn w_isInput (wsV RX10 10 RX10 yX10_isCell w_isCell) := goodIn_app (gi_left (goodIn_of _ (by decide +kernel))) (fun w h => ⟨List.mem_append_right _ (List.mem_append_right _ (List.mem_append_left _ h)), wg_isCell w h⟩)
set_option maxHeartbeats 4000000 in
set_option maxRecDepth 100000 in
theorem ct_isInput (l : Launch) (E : gE) (B : Nat → Nat) (Q : Int32 → VS → Prop) (p1 : Int32) (p2 : Int32) (σ : VS) (hw : wp_isInput Q p1 p2 σ) : CtI l E yX10_isInput w_isInput (({ frames := 1, cells := 0, slots := 0, locals := 21 } : Room)) (wm E B σ) [.ref (B 0), .int p1, .int p2] (fun r w => ∃ σ' : VS, Q r σ' ∧ w = wm E B σ') := by
  refine VC_I (cc := cX10_isInput) (mL := 3) (rt := (some .boolean)) (lv0 := [(0, .ref (B 0)), (1, .int p1), (2, .int p2)]) rfl (by decide) rfl (Nat.le_of_ble_eq_true rfl) ?_
  intro p e s m below meth c A F
  replace F : Fx p s m _ meth c A E cX10_isInput 3 (some .boolean) RX10 w_isInput := F
  have J_27 : ∀ (k0 : Int32) (σ : VS), b_isInput_27 Q k0 σ → WB p l e (({ frames := 1, cells := 0, slots := 0, locals := 21 } : Room)) s m (#[.ref (B 0), .int p1, .int p2]) below meth c (MQ below (va_Qi (fun r w => ∃ σ' : VS, Q r σ' ∧ w = wm E B σ') (AftU E A) A) (#[.ref (B 0), .int p1, .int p2]) s (({ frames := 1, cells := 0, slots := 0, locals := 21 } : Room)).cells (({ frames := 1, cells := 0, slots := 0, locals := 21 } : Room)).slots A) A E (wm E B) 3 27 [] [.int k0] σ := by
    intro k0 σ hw
    unfold b_isInput_27 at hw
    exact R_iret (Qc := Q) F (nb_01 hw.1) dX10_isInput_27 hw.2
  have J_26 : ∀ (σ : VS), b_isInput_26 Q σ → WB p l e (({ frames := 1, cells := 0, slots := 0, locals := 21 } : Room)) s m (#[.ref (B 0), .int p1, .int p2]) below meth c (MQ below (va_Qi (fun r w => ∃ σ' : VS, Q r σ' ∧ w = wm E B σ') (AftU E A) A) (#[.ref (B 0), .int p1, .int p2]) s (({ frames := 1, cells := 0, slots := 0, locals := 21 } : Room)).cells (({ frames := 1, cells := 0, slots := 0, locals := 21 } : Room)).slots A) A E (wm E B) 3 26 [] [] σ := by
    intro σ hw
    unfold b_isInput_26 at hw
    refine R_iconst F 0 dX10_isInput_26 (by decide) ?_
    exact R_sub [] rfl (J_27 0 σ hw)
  unfold wp_isInput at hw
  refine R_aload_n F dX10_isInput_0 rfl 0 rfl ?_
  refine R_iload_n F dX10_isInput_1 rfl 1 rfl ?_
  refine R_callI (As := [.int p1]) (C := RX10) (q0 := 0) (ci := 10) (N := 69) (T := TX10) (fs := mfl B) F (ct_isCell l E B _ p1 _ hw) (cwV 1 F.2.2.2.2.2.2.2.2.2.2 g_isInput_isCell_10 rfl rfl rfl (by decide +kernel) ⟨Nat.le_of_ble_eq_true rfl, Nat.le_of_ble_eq_true rfl⟩) ⟨rfl, rfl⟩ rfl (fun _ => rfl) rfl rfl (Nat.le_of_ble_eq_true rfl) dX10_isInput_2 (fun r1 σ2 hw => ?_)
  refine R_if_eq (tgt := 26) F dX10_isInput_5 (by decide) (fun hc => ?_) (fun hc => ?_)
  · replace hw := hw.1 hc
    exact R_sub [] rfl (J_26 σ2 hw)
  · replace hw := hw.2 hc
    refine R_iload_n F dX10_isInput_8 rfl 2 rfl ?_
    refine R_if_lt (tgt := 26) F dX10_isInput_9 (by decide) (fun hc => ?_) (fun hc => ?_)
    · replace hw := hw.1 hc
      exact R_sub [] rfl (J_26 σ2 hw)
    · replace hw := hw.2 hc
      refine R_iload_n F dX10_isInput_12 rfl 2 rfl ?_
      refine R_aload_n F dX10_isInput_13 rfl 0 rfl ?_
      refine gm_3 F in_isInput dX10_isInput_14 ?_
      refine R_iload_n F dX10_isInput_17 rfl 1 rfl ?_
      refine R_ldi F qm_3 dX10_isInput_18 hw.1 ?_
      replace hw := hw.2
      refine R_icmp_ge (tgt := 26) F dX10_isInput_19 (by decide) (fun hc => ?_) (fun hc => ?_)
      · replace hw := hw.1 hc
        exact R_sub [] rfl (J_26 σ2 hw)
      · replace hw := hw.2 hc
        refine R_iconst F 1 dX10_isInput_22 (by decide) ?_
        refine R_goto (tgt := 27) F dX10_isInput_23 (by decide) ?_
        exact R_sub [] rfl (J_27 1 σ2 hw)
def b_isGate_24 (Q : Int32 → VS → Prop) (k0 : Int32) (σ : VS) : Prop := (Bo k0 ∧ Q k0 σ)
def b_isGate_23 (Q : Int32 → VS → Prop) (σ : VS) : Prop := b_isGate_24 Q 0 σ
def wp_isGate (Q : Int32 → VS → Prop) (p1 : Int32) (σ : VS) : Prop := (In p1 50 ∧ (((rd σ 2 p1).toInt ≤ 0 → b_isGate_23 Q σ) ∧ (0 < (rd σ 2 p1).toInt → (In p1 50 ∧ ((4 ≤ (rd σ 2 p1).toInt → b_isGate_23 Q σ) ∧ ((rd σ 2 p1).toInt < 4 → b_isGate_24 Q 1 σ))))))
theorem dX10_isGate_0 : decode cX10_isGate 0 = .ok (.aload_n 0, 1) := by decide +kernel
theorem dX10_isGate_1 : decode cX10_isGate 1 = .ok (.getfield 18, 3) := by decide +kernel
theorem dX10_isGate_4 : decode cX10_isGate 4 = .ok (.iload_n 1, 1) := by decide +kernel
theorem dX10_isGate_5 : decode cX10_isGate 5 = .ok (.iaload, 1) := by decide +kernel
theorem dX10_isGate_6 : decode cX10_isGate 6 = .ok (.ifCond .le 17, 3) := by decide +kernel
theorem dX10_isGate_9 : decode cX10_isGate 9 = .ok (.aload_n 0, 1) := by decide +kernel
theorem dX10_isGate_10 : decode cX10_isGate 10 = .ok (.getfield 18, 3) := by decide +kernel
theorem dX10_isGate_13 : decode cX10_isGate 13 = .ok (.iload_n 1, 1) := by decide +kernel
theorem dX10_isGate_14 : decode cX10_isGate 14 = .ok (.iaload, 1) := by decide +kernel
theorem dX10_isGate_15 : decode cX10_isGate 15 = .ok (.iconst 4, 1) := by decide +kernel
theorem dX10_isGate_16 : decode cX10_isGate 16 = .ok (.if_icmp .ge 7, 3) := by decide +kernel
theorem dX10_isGate_19 : decode cX10_isGate 19 = .ok (.iconst 1, 1) := by decide +kernel
theorem dX10_isGate_20 : decode cX10_isGate 20 = .ok (.goto 4, 3) := by decide +kernel
theorem dX10_isGate_23 : decode cX10_isGate 23 = .ok (.iconst 0, 1) := by decide +kernel
theorem dX10_isGate_24 : decode cX10_isGate 24 = .ok (.ireturn, 1) := by decide +kernel
def wo_isGate : List Cond := [.code yX10_isGate cX10_isGate 2 (some .boolean)]
def wr_isGate : List Cond := (wfX10 ++ ([]))
def w_isGate : List Cond := wo_isGate ++ wr_isGate
theorem wg_isGate : GW w_isGate := GW_app (GW_of (by decide +kernel)) (GW_app (wg_fX10) (GW_nil))
theorem in_isGate : ∀ w ∈ wfX10, w ∈ w_isGate := fun _ h => List.mem_append_right _ (List.mem_append_left _ h)
set_option maxHeartbeats 4000000 in
set_option maxRecDepth 100000 in
theorem ct_isGate (l : Launch) (E : gE) (B : Nat → Nat) (Q : Int32 → VS → Prop) (p1 : Int32) (σ : VS) (hw : wp_isGate Q p1 σ) : CtI l E yX10_isGate w_isGate (({ frames := 0, cells := 0, slots := 0, locals := 0 } : Room)) (wm E B σ) [.ref (B 0), .int p1] (fun r w => ∃ σ' : VS, Q r σ' ∧ w = wm E B σ') := by
  refine VC_I (cc := cX10_isGate) (mL := 2) (rt := (some .boolean)) (lv0 := [(0, .ref (B 0)), (1, .int p1)]) rfl (by decide) rfl (Nat.le_of_ble_eq_true rfl) ?_
  intro p e s m below meth c A F
  replace F : Fx p s m _ meth c A E cX10_isGate 2 (some .boolean) RX10 w_isGate := F
  have J_24 : ∀ (k0 : Int32) (σ : VS), b_isGate_24 Q k0 σ → WB p l e (({ frames := 0, cells := 0, slots := 0, locals := 0 } : Room)) s m (#[.ref (B 0), .int p1]) below meth c (MQ below (va_Qi (fun r w => ∃ σ' : VS, Q r σ' ∧ w = wm E B σ') (AftU E A) A) (#[.ref (B 0), .int p1]) s (({ frames := 0, cells := 0, slots := 0, locals := 0 } : Room)).cells (({ frames := 0, cells := 0, slots := 0, locals := 0 } : Room)).slots A) A E (wm E B) 2 24 [] [.int k0] σ := by
    intro k0 σ hw
    unfold b_isGate_24 at hw
    exact R_iret (Qc := Q) F (nb_01 hw.1) dX10_isGate_24 hw.2
  have J_23 : ∀ (σ : VS), b_isGate_23 Q σ → WB p l e (({ frames := 0, cells := 0, slots := 0, locals := 0 } : Room)) s m (#[.ref (B 0), .int p1]) below meth c (MQ below (va_Qi (fun r w => ∃ σ' : VS, Q r σ' ∧ w = wm E B σ') (AftU E A) A) (#[.ref (B 0), .int p1]) s (({ frames := 0, cells := 0, slots := 0, locals := 0 } : Room)).cells (({ frames := 0, cells := 0, slots := 0, locals := 0 } : Room)).slots A) A E (wm E B) 2 23 [] [] σ := by
    intro σ hw
    unfold b_isGate_23 at hw
    refine R_iconst F 0 dX10_isGate_23 (by decide) ?_
    exact R_sub [] rfl (J_24 0 σ hw)
  unfold wp_isGate at hw
  refine R_aload_n F dX10_isGate_0 rfl 0 rfl ?_
  refine gm_2 F in_isGate dX10_isGate_1 ?_
  refine R_iload_n F dX10_isGate_4 rfl 1 rfl ?_
  refine R_ldi F qm_2 dX10_isGate_5 hw.1 ?_
  replace hw := hw.2
  refine R_if_le (tgt := 23) F dX10_isGate_6 (by decide) (fun hc => ?_) (fun hc => ?_)
  · replace hw := hw.1 hc
    exact R_sub [] rfl (J_23 σ hw)
  · replace hw := hw.2 hc
    refine R_aload_n F dX10_isGate_9 rfl 0 rfl ?_
    refine gm_2 F in_isGate dX10_isGate_10 ?_
    refine R_iload_n F dX10_isGate_13 rfl 1 rfl ?_
    refine R_ldi F qm_2 dX10_isGate_14 hw.1 ?_
    replace hw := hw.2
    refine R_iconst F 4 dX10_isGate_15 (by decide) ?_
    refine R_icmp_ge (tgt := 23) F dX10_isGate_16 (by decide) (fun hc => ?_) (fun hc => ?_)
    · replace hw := hw.1 hc
      exact R_sub [] rfl (J_23 σ hw)
    · replace hw := hw.2 hc
      refine R_iconst F 1 dX10_isGate_19 (by decide) ?_
      refine R_goto (tgt := 24) F dX10_isGate_20 (by decide) ?_
      exact R_sub [] rfl (J_24 1 σ hw)
def b_isTarget_15 (Q : Int32 → VS → Prop) (k0 : Int32) (σ : VS) : Prop := (Bo k0 ∧ Q k0 σ)
def wp_isTarget (Q : Int32 → VS → Prop) (p1 : Int32) (σ : VS) : Prop := (In p1 50 ∧ (((rd σ 2 p1).toInt ≤ 3 → b_isTarget_15 Q 0 σ) ∧ (3 < (rd σ 2 p1).toInt → b_isTarget_15 Q 1 σ)))
theorem dX10_isTarget_0 : decode cX10_isTarget 0 = .ok (.aload_n 0, 1) := by decide +kernel
theorem dX10_isTarget_1 : decode cX10_isTarget 1 = .ok (.getfield 18, 3) := by decide +kernel
theorem dX10_isTarget_4 : decode cX10_isTarget 4 = .ok (.iload_n 1, 1) := by decide +kernel
theorem dX10_isTarget_5 : decode cX10_isTarget 5 = .ok (.iaload, 1) := by decide +kernel
theorem dX10_isTarget_6 : decode cX10_isTarget 6 = .ok (.iconst 3, 1) := by decide +kernel
theorem dX10_isTarget_7 : decode cX10_isTarget 7 = .ok (.if_icmp .le 7, 3) := by decide +kernel
theorem dX10_isTarget_14 : decode cX10_isTarget 14 = .ok (.iconst 0, 1) := by decide +kernel
theorem dX10_isTarget_10 : decode cX10_isTarget 10 = .ok (.iconst 1, 1) := by decide +kernel
theorem dX10_isTarget_11 : decode cX10_isTarget 11 = .ok (.goto 4, 3) := by decide +kernel
theorem dX10_isTarget_15 : decode cX10_isTarget 15 = .ok (.ireturn, 1) := by decide +kernel
def wo_isTarget : List Cond := [.code yX10_isTarget cX10_isTarget 2 (some .boolean)]
def wr_isTarget : List Cond := (wfX10 ++ ([]))
def w_isTarget : List Cond := wo_isTarget ++ wr_isTarget
theorem wg_isTarget : GW w_isTarget := GW_app (GW_of (by decide +kernel)) (GW_app (wg_fX10) (GW_nil))
theorem in_isTarget : ∀ w ∈ wfX10, w ∈ w_isTarget := fun _ h => List.mem_append_right _ (List.mem_append_left _ h)
set_option maxHeartbeats 4000000 in
set_option maxRecDepth 100000 in
theorem ct_isTarget (l : Launch) (E : gE) (B : Nat → Nat) (Q : Int32 → VS → Prop) (p1 : Int32) (σ : VS) (hw : wp_isTarget Q p1 σ) : CtI l E yX10_isTarget w_isTarget (({ frames := 0, cells := 0, slots := 0, locals := 0 } : Room)) (wm E B σ) [.ref (B 0), .int p1] (fun r w => ∃ σ' : VS, Q r σ' ∧ w = wm E B σ') := by
  refine VC_I (cc := cX10_isTarget) (mL := 2) (rt := (some .boolean)) (lv0 := [(0, .ref (B 0)), (1, .int p1)]) rfl (by decide) rfl (Nat.le_of_ble_eq_true rfl) ?_
  intro p e s m below meth c A F
  replace F : Fx p s m _ meth c A E cX10_isTarget 2 (some .boolean) RX10 w_isTarget := F
  have J_15 : ∀ (k0 : Int32) (σ : VS), b_isTarget_15 Q k0 σ → WB p l e (({ frames := 0, cells := 0, slots := 0, locals := 0 } : Room)) s m (#[.ref (B 0), .int p1]) below meth c (MQ below (va_Qi (fun r w => ∃ σ' : VS, Q r σ' ∧ w = wm E B σ') (AftU E A) A) (#[.ref (B 0), .int p1]) s (({ frames := 0, cells := 0, slots := 0, locals := 0 } : Room)).cells (({ frames := 0, cells := 0, slots := 0, locals := 0 } : Room)).slots A) A E (wm E B) 2 15 [] [.int k0] σ := by
    intro k0 σ hw
    unfold b_isTarget_15 at hw
    exact R_iret (Qc := Q) F (nb_01 hw.1) dX10_isTarget_15 hw.2
  unfold wp_isTarget at hw
  refine R_aload_n F dX10_isTarget_0 rfl 0 rfl ?_
  refine gm_2 F in_isTarget dX10_isTarget_1 ?_
  refine R_iload_n F dX10_isTarget_4 rfl 1 rfl ?_
  refine R_ldi F qm_2 dX10_isTarget_5 hw.1 ?_
  replace hw := hw.2
  refine R_iconst F 3 dX10_isTarget_6 (by decide) ?_
  refine R_icmp_le (tgt := 14) F dX10_isTarget_7 (by decide) (fun hc => ?_) (fun hc => ?_)
  · replace hw := hw.1 hc
    refine R_iconst F 0 dX10_isTarget_14 (by decide) ?_
    exact R_sub [] rfl (J_15 0 σ hw)
  · replace hw := hw.2 hc
    refine R_iconst F 1 dX10_isTarget_10 (by decide) ?_
    refine R_goto (tgt := 15) F dX10_isTarget_11 (by decide) ?_
    exact R_sub [] rfl (J_15 1 σ hw)
def b_mayBe_18 (Q : Int32 → VS → Prop) (k0 : Int32) (σ : VS) : Prop := (Bo k0 ∧ Q k0 σ)
def b_mayBe_13 (Q : Int32 → VS → Prop) (σ : VS) : Prop := b_mayBe_18 Q 1 σ
def wp_mayBe (Q : Int32 → VS → Prop) (p1 : Int32) (σ : VS) : Prop := ((p1.toInt = (-1) → b_mayBe_13 Q σ) ∧ (p1.toInt ≠ (-1) → wp_isCell (fun (r1 : Int32) (σ2 : VS) => ((r1.toInt = 0 → b_mayBe_18 Q 0 σ2) ∧ (r1.toInt ≠ 0 → b_mayBe_13 Q σ2))) p1 σ))
theorem dX10_mayBe_0 : decode cX10_mayBe 0 = .ok (.iload_n 1, 1) := by decide +kernel
theorem dX10_mayBe_1 : decode cX10_mayBe 1 = .ok (.iconst (-1), 1) := by decide +kernel
theorem dX10_mayBe_2 : decode cX10_mayBe 2 = .ok (.if_icmp .eq 11, 3) := by decide +kernel
theorem dX10_mayBe_5 : decode cX10_mayBe 5 = .ok (.aload_n 0, 1) := by decide +kernel
theorem dX10_mayBe_6 : decode cX10_mayBe 6 = .ok (.iload_n 1, 1) := by decide +kernel
theorem dX10_mayBe_7 : decode cX10_mayBe 7 = .ok (.invokevirtual 10, 3) := by decide +kernel
theorem dX10_mayBe_10 : decode cX10_mayBe 10 = .ok (.ifCond .eq 7, 3) := by decide +kernel
theorem dX10_mayBe_17 : decode cX10_mayBe 17 = .ok (.iconst 0, 1) := by decide +kernel
theorem dX10_mayBe_13 : decode cX10_mayBe 13 = .ok (.iconst 1, 1) := by decide +kernel
theorem dX10_mayBe_14 : decode cX10_mayBe 14 = .ok (.goto 4, 3) := by decide +kernel
theorem dX10_mayBe_18 : decode cX10_mayBe 18 = .ok (.ireturn, 1) := by decide +kernel
def wo_mayBe : List Cond := [.code yX10_mayBe cX10_mayBe 2 (some .boolean), .methodLink RX10 10 yX10_isCell, .instanceMethod yX10_isCell, .selects RX10 yX10_isCell yX10_isCell, .initialized RX10]
def wr_mayBe : List Cond := (wfX10 ++ (w_isCell ++ ([])))
def w_mayBe : List Cond := wo_mayBe ++ wr_mayBe
theorem wg_mayBe : GW w_mayBe := GW_app (GW_of (by decide +kernel)) (GW_app (wg_fX10) (GW_app (wg_isCell) (GW_nil)))
theorem in_mayBe : ∀ w ∈ wfX10, w ∈ w_mayBe := fun _ h => List.mem_append_right _ (List.mem_append_left _ h)
theorem g_mayBe_isCell_10 : GoodIn w_mayBe (wsV RX10 10 RX10 yX10_isCell w_isCell) := goodIn_app (gi_left (goodIn_of _ (by decide +kernel))) (fun w h => ⟨List.mem_append_right _ (List.mem_append_right _ (List.mem_append_left _ h)), wg_isCell w h⟩)
set_option maxHeartbeats 4000000 in
set_option maxRecDepth 100000 in
theorem ct_mayBe (l : Launch) (E : gE) (B : Nat → Nat) (Q : Int32 → VS → Prop) (p1 : Int32) (σ : VS) (hw : wp_mayBe Q p1 σ) : CtI l E yX10_mayBe w_mayBe (({ frames := 1, cells := 0, slots := 0, locals := 21 } : Room)) (wm E B σ) [.ref (B 0), .int p1] (fun r w => ∃ σ' : VS, Q r σ' ∧ w = wm E B σ') := by
  refine VC_I (cc := cX10_mayBe) (mL := 2) (rt := (some .boolean)) (lv0 := [(0, .ref (B 0)), (1, .int p1)]) rfl (by decide) rfl (Nat.le_of_ble_eq_true rfl) ?_
  intro p e s m below meth c A F
  replace F : Fx p s m _ meth c A E cX10_mayBe 2 (some .boolean) RX10 w_mayBe := F
  have J_18 : ∀ (k0 : Int32) (σ : VS), b_mayBe_18 Q k0 σ → WB p l e (({ frames := 1, cells := 0, slots := 0, locals := 21 } : Room)) s m (#[.ref (B 0), .int p1]) below meth c (MQ below (va_Qi (fun r w => ∃ σ' : VS, Q r σ' ∧ w = wm E B σ') (AftU E A) A) (#[.ref (B 0), .int p1]) s (({ frames := 1, cells := 0, slots := 0, locals := 21 } : Room)).cells (({ frames := 1, cells := 0, slots := 0, locals := 21 } : Room)).slots A) A E (wm E B) 2 18 [] [.int k0] σ := by
    intro k0 σ hw
    unfold b_mayBe_18 at hw
    exact R_iret (Qc := Q) F (nb_01 hw.1) dX10_mayBe_18 hw.2
  have J_13 : ∀ (σ : VS), b_mayBe_13 Q σ → WB p l e (({ frames := 1, cells := 0, slots := 0, locals := 21 } : Room)) s m (#[.ref (B 0), .int p1]) below meth c (MQ below (va_Qi (fun r w => ∃ σ' : VS, Q r σ' ∧ w = wm E B σ') (AftU E A) A) (#[.ref (B 0), .int p1]) s (({ frames := 1, cells := 0, slots := 0, locals := 21 } : Room)).cells (({ frames := 1, cells := 0, slots := 0, locals := 21 } : Room)).slots A) A E (wm E B) 2 13 [] [] σ := by
    intro σ hw
    unfold b_mayBe_13 at hw
    refine R_iconst F 1 dX10_mayBe_13 (by decide) ?_
    refine R_goto (tgt := 18) F dX10_mayBe_14 (by decide) ?_
    exact R_sub [] rfl (J_18 1 σ hw)
  unfold wp_mayBe at hw
  refine R_iload_n F dX10_mayBe_0 rfl 1 rfl ?_
  refine R_iconst F (-1) dX10_mayBe_1 (by decide) ?_
  refine R_icmp_eq (tgt := 13) F dX10_mayBe_2 (by decide) (fun hc => ?_) (fun hc => ?_)
  · replace hw := hw.1 hc
    exact R_sub [] rfl (J_13 σ hw)
  · replace hw := hw.2 hc
    refine R_aload_n F dX10_mayBe_5 rfl 0 rfl ?_
    refine R_iload_n F dX10_mayBe_6 rfl 1 rfl ?_
    refine R_callI (As := [.int p1]) (C := RX10) (q0 := 0) (ci := 10) (N := 69) (T := TX10) (fs := mfl B) F (ct_isCell l E B _ p1 _ hw) (cwV 1 F.2.2.2.2.2.2.2.2.2.2 g_mayBe_isCell_10 rfl rfl rfl (by decide +kernel) ⟨Nat.le_of_ble_eq_true rfl, Nat.le_of_ble_eq_true rfl⟩) ⟨rfl, rfl⟩ rfl (fun _ => rfl) rfl rfl (Nat.le_of_ble_eq_true rfl) dX10_mayBe_7 (fun r1 σ2 hw => ?_)
    refine R_if_eq (tgt := 17) F dX10_mayBe_10 (by decide) (fun hc => ?_) (fun hc => ?_)
    · replace hw := hw.1 hc
      refine R_iconst F 0 dX10_mayBe_17 (by decide) ?_
      exact R_sub [] rfl (J_18 0 σ2 hw)
    · replace hw := hw.2 hc
      exact R_sub [] rfl (J_13 σ2 hw)
def b_isStart_33 (Q : Int32 → VS → Prop) (k0 : Int32) (σ : VS) : Prop := (Bo k0 ∧ Q k0 σ)
def b_isStart_32 (Q : Int32 → VS → Prop) (σ : VS) : Prop := b_isStart_33 Q 0 σ
def b_isStart_19 (Q : Int32 → VS → Prop) (l1 : Int32) (σ : VS) : Prop := (In l1 50 ∧ (((rd σ 35 l1).toInt ≠ 0 → b_isStart_32 Q σ) ∧ ((rd σ 35 l1).toInt = 0 → b_isStart_33 Q 1 σ)))
def wp_isStart (Q : Int32 → VS → Prop) (p1 : Int32) (σ : VS) : Prop := (In p1 50 ∧ (((rd σ 2 p1).toInt = 0 → b_isStart_19 Q p1 σ) ∧ ((rd σ 2 p1).toInt ≠ 0 → (In p1 50 ∧ (((rd σ 2 p1).toInt ≠ 4 → b_isStart_32 Q σ) ∧ ((rd σ 2 p1).toInt = 4 → b_isStart_19 Q p1 σ))))))
theorem dX10_isStart_0 : decode cX10_isStart 0 = .ok (.aload_n 0, 1) := by decide +kernel
theorem dX10_isStart_1 : decode cX10_isStart 1 = .ok (.getfield 18, 3) := by decide +kernel
theorem dX10_isStart_4 : decode cX10_isStart 4 = .ok (.iload_n 1, 1) := by decide +kernel
theorem dX10_isStart_5 : decode cX10_isStart 5 = .ok (.iaload, 1) := by decide +kernel
theorem dX10_isStart_6 : decode cX10_isStart 6 = .ok (.ifCond .eq 13, 3) := by decide +kernel
theorem dX10_isStart_9 : decode cX10_isStart 9 = .ok (.aload_n 0, 1) := by decide +kernel
theorem dX10_isStart_10 : decode cX10_isStart 10 = .ok (.getfield 18, 3) := by decide +kernel
theorem dX10_isStart_13 : decode cX10_isStart 13 = .ok (.iload_n 1, 1) := by decide +kernel
theorem dX10_isStart_14 : decode cX10_isStart 14 = .ok (.iaload, 1) := by decide +kernel
theorem dX10_isStart_15 : decode cX10_isStart 15 = .ok (.iconst 4, 1) := by decide +kernel
theorem dX10_isStart_16 : decode cX10_isStart 16 = .ok (.if_icmp .ne 16, 3) := by decide +kernel
theorem dX10_isStart_19 : decode cX10_isStart 19 = .ok (.aload_n 0, 1) := by decide +kernel
theorem dX10_isStart_20 : decode cX10_isStart 20 = .ok (.getfield 120, 3) := by decide +kernel
theorem dX10_isStart_23 : decode cX10_isStart 23 = .ok (.iload_n 1, 1) := by decide +kernel
theorem dX10_isStart_24 : decode cX10_isStart 24 = .ok (.iaload, 1) := by decide +kernel
theorem dX10_isStart_25 : decode cX10_isStart 25 = .ok (.ifCond .ne 7, 3) := by decide +kernel
theorem dX10_isStart_28 : decode cX10_isStart 28 = .ok (.iconst 1, 1) := by decide +kernel
theorem dX10_isStart_29 : decode cX10_isStart 29 = .ok (.goto 4, 3) := by decide +kernel
theorem dX10_isStart_32 : decode cX10_isStart 32 = .ok (.iconst 0, 1) := by decide +kernel
theorem dX10_isStart_33 : decode cX10_isStart 33 = .ok (.ireturn, 1) := by decide +kernel
def wo_isStart : List Cond := [.code yX10_isStart cX10_isStart 2 (some .boolean)]
def wr_isStart : List Cond := (wfX10 ++ ([]))
def w_isStart : List Cond := wo_isStart ++ wr_isStart
theorem wg_isStart : GW w_isStart := GW_app (GW_of (by decide +kernel)) (GW_app (wg_fX10) (GW_nil))
theorem in_isStart : ∀ w ∈ wfX10, w ∈ w_isStart := fun _ h => List.mem_append_right _ (List.mem_append_left _ h)
set_option maxHeartbeats 4000000 in
set_option maxRecDepth 100000 in
theorem ct_isStart (l : Launch) (E : gE) (B : Nat → Nat) (Q : Int32 → VS → Prop) (p1 : Int32) (σ : VS) (hw : wp_isStart Q p1 σ) : CtI l E yX10_isStart w_isStart (({ frames := 0, cells := 0, slots := 0, locals := 0 } : Room)) (wm E B σ) [.ref (B 0), .int p1] (fun r w => ∃ σ' : VS, Q r σ' ∧ w = wm E B σ') := by
  refine VC_I (cc := cX10_isStart) (mL := 2) (rt := (some .boolean)) (lv0 := [(0, .ref (B 0)), (1, .int p1)]) rfl (by decide) rfl (Nat.le_of_ble_eq_true rfl) ?_
  intro p e s m below meth c A F
  replace F : Fx p s m _ meth c A E cX10_isStart 2 (some .boolean) RX10 w_isStart := F
  have J_33 : ∀ (k0 : Int32) (σ : VS), b_isStart_33 Q k0 σ → WB p l e (({ frames := 0, cells := 0, slots := 0, locals := 0 } : Room)) s m (#[.ref (B 0), .int p1]) below meth c (MQ below (va_Qi (fun r w => ∃ σ' : VS, Q r σ' ∧ w = wm E B σ') (AftU E A) A) (#[.ref (B 0), .int p1]) s (({ frames := 0, cells := 0, slots := 0, locals := 0 } : Room)).cells (({ frames := 0, cells := 0, slots := 0, locals := 0 } : Room)).slots A) A E (wm E B) 2 33 [] [.int k0] σ := by
    intro k0 σ hw
    unfold b_isStart_33 at hw
    exact R_iret (Qc := Q) F (nb_01 hw.1) dX10_isStart_33 hw.2
  have J_32 : ∀ (σ : VS), b_isStart_32 Q σ → WB p l e (({ frames := 0, cells := 0, slots := 0, locals := 0 } : Room)) s m (#[.ref (B 0), .int p1]) below meth c (MQ below (va_Qi (fun r w => ∃ σ' : VS, Q r σ' ∧ w = wm E B σ') (AftU E A) A) (#[.ref (B 0), .int p1]) s (({ frames := 0, cells := 0, slots := 0, locals := 0 } : Room)).cells (({ frames := 0, cells := 0, slots := 0, locals := 0 } : Room)).slots A) A E (wm E B) 2 32 [] [] σ := by
    intro σ hw
    unfold b_isStart_32 at hw
    refine R_iconst F 0 dX10_isStart_32 (by decide) ?_
    exact R_sub [] rfl (J_33 0 σ hw)
  have J_19 : ∀ (l1 : Int32) (σ : VS), b_isStart_19 Q l1 σ → WB p l e (({ frames := 0, cells := 0, slots := 0, locals := 0 } : Room)) s m (#[.ref (B 0), .int p1]) below meth c (MQ below (va_Qi (fun r w => ∃ σ' : VS, Q r σ' ∧ w = wm E B σ') (AftU E A) A) (#[.ref (B 0), .int p1]) s (({ frames := 0, cells := 0, slots := 0, locals := 0 } : Room)).cells (({ frames := 0, cells := 0, slots := 0, locals := 0 } : Room)).slots A) A E (wm E B) 2 19 [(0, .ref (B 0)), (1, .int l1)] [] σ := by
    intro l1 σ hw
    unfold b_isStart_19 at hw
    refine R_aload_n F dX10_isStart_19 rfl 0 rfl ?_
    refine gm_35 F in_isStart dX10_isStart_20 ?_
    refine R_iload_n F dX10_isStart_23 rfl 1 rfl ?_
    refine R_ldi F qm_35 dX10_isStart_24 hw.1 ?_
    replace hw := hw.2
    refine R_if_ne (tgt := 32) F dX10_isStart_25 (by decide) (fun hc => ?_) (fun hc => ?_)
    · replace hw := hw.1 hc
      exact R_sub [] rfl (J_32 σ hw)
    · replace hw := hw.2 hc
      refine R_iconst F 1 dX10_isStart_28 (by decide) ?_
      refine R_goto (tgt := 33) F dX10_isStart_29 (by decide) ?_
      exact R_sub [] rfl (J_33 1 σ hw)
  unfold wp_isStart at hw
  refine R_aload_n F dX10_isStart_0 rfl 0 rfl ?_
  refine gm_2 F in_isStart dX10_isStart_1 ?_
  refine R_iload_n F dX10_isStart_4 rfl 1 rfl ?_
  refine R_ldi F qm_2 dX10_isStart_5 hw.1 ?_
  replace hw := hw.2
  refine R_if_eq (tgt := 19) F dX10_isStart_6 (by decide) (fun hc => ?_) (fun hc => ?_)
  · replace hw := hw.1 hc
    exact R_sub [0, 1] rfl (J_19 p1 σ hw)
  · replace hw := hw.2 hc
    refine R_aload_n F dX10_isStart_9 rfl 0 rfl ?_
    refine gm_2 F in_isStart dX10_isStart_10 ?_
    refine R_iload_n F dX10_isStart_13 rfl 1 rfl ?_
    refine R_ldi F qm_2 dX10_isStart_14 hw.1 ?_
    replace hw := hw.2
    refine R_iconst F 4 dX10_isStart_15 (by decide) ?_
    refine R_icmp_ne (tgt := 32) F dX10_isStart_16 (by decide) (fun hc => ?_) (fun hc => ?_)
    · replace hw := hw.1 hc
      exact R_sub [] rfl (J_32 σ hw)
    · replace hw := hw.2 hc
      exact R_sub [0, 1] rfl (J_19 p1 σ hw)
def b_isOpenTarget_32 (Q : Int32 → VS → Prop) (k0 : Int32) (σ : VS) : Prop := (Bo k0 ∧ Q k0 σ)
def b_isOpenTarget_31 (Q : Int32 → VS → Prop) (σ : VS) : Prop := b_isOpenTarget_32 Q 0 σ
def wp_isOpenTarget (Q : Int32 → VS → Prop) (p1 : Int32) (σ : VS) : Prop := (In (4 * p1) 200 ∧ (((rd σ 7 (4 * p1)).toInt < 0 → b_isOpenTarget_31 Q σ) ∧ (0 ≤ (rd σ 7 (4 * p1)).toInt → (In (4 * p1) 200 ∧ (In (rd σ 7 (4 * p1)) 50 ∧ (((rd σ 35 (rd σ 7 (4 * p1))).toInt = 0 → b_isOpenTarget_31 Q σ) ∧ ((rd σ 35 (rd σ 7 (4 * p1))).toInt ≠ 0 → b_isOpenTarget_32 Q 1 σ)))))))
theorem dX10_isOpenTarget_0 : decode cX10_isOpenTarget 0 = .ok (.aload_n 0, 1) := by decide +kernel
theorem dX10_isOpenTarget_1 : decode cX10_isOpenTarget 1 = .ok (.getfield 30, 3) := by decide +kernel
theorem dX10_isOpenTarget_4 : decode cX10_isOpenTarget 4 = .ok (.iconst 4, 1) := by decide +kernel
theorem dX10_isOpenTarget_5 : decode cX10_isOpenTarget 5 = .ok (.iload_n 1, 1) := by decide +kernel
theorem dX10_isOpenTarget_6 : decode cX10_isOpenTarget 6 = .ok (.imul, 1) := by decide +kernel
theorem dX10_isOpenTarget_7 : decode cX10_isOpenTarget 7 = .ok (.iaload, 1) := by decide +kernel
theorem dX10_isOpenTarget_8 : decode cX10_isOpenTarget 8 = .ok (.ifCond .lt 23, 3) := by decide +kernel
theorem dX10_isOpenTarget_11 : decode cX10_isOpenTarget 11 = .ok (.aload_n 0, 1) := by decide +kernel
theorem dX10_isOpenTarget_12 : decode cX10_isOpenTarget 12 = .ok (.getfield 120, 3) := by decide +kernel
theorem dX10_isOpenTarget_15 : decode cX10_isOpenTarget 15 = .ok (.aload_n 0, 1) := by decide +kernel
theorem dX10_isOpenTarget_16 : decode cX10_isOpenTarget 16 = .ok (.getfield 30, 3) := by decide +kernel
theorem dX10_isOpenTarget_19 : decode cX10_isOpenTarget 19 = .ok (.iconst 4, 1) := by decide +kernel
theorem dX10_isOpenTarget_20 : decode cX10_isOpenTarget 20 = .ok (.iload_n 1, 1) := by decide +kernel
theorem dX10_isOpenTarget_21 : decode cX10_isOpenTarget 21 = .ok (.imul, 1) := by decide +kernel
theorem dX10_isOpenTarget_22 : decode cX10_isOpenTarget 22 = .ok (.iaload, 1) := by decide +kernel
theorem dX10_isOpenTarget_23 : decode cX10_isOpenTarget 23 = .ok (.iaload, 1) := by decide +kernel
theorem dX10_isOpenTarget_24 : decode cX10_isOpenTarget 24 = .ok (.ifCond .eq 7, 3) := by decide +kernel
theorem dX10_isOpenTarget_27 : decode cX10_isOpenTarget 27 = .ok (.iconst 1, 1) := by decide +kernel
theorem dX10_isOpenTarget_28 : decode cX10_isOpenTarget 28 = .ok (.goto 4, 3) := by decide +kernel
theorem dX10_isOpenTarget_31 : decode cX10_isOpenTarget 31 = .ok (.iconst 0, 1) := by decide +kernel
theorem dX10_isOpenTarget_32 : decode cX10_isOpenTarget 32 = .ok (.ireturn, 1) := by decide +kernel
def wo_isOpenTarget : List Cond := [.code yX10_isOpenTarget cX10_isOpenTarget 2 (some .boolean)]
def wr_isOpenTarget : List Cond := (wfX10 ++ ([]))
def w_isOpenTarget : List Cond := wo_isOpenTarget ++ wr_isOpenTarget
theorem wg_isOpenTarget : GW w_isOpenTarget := GW_app (GW_of (by decide +kernel)) (GW_app (wg_fX10) (GW_nil))
theorem in_isOpenTarget : ∀ w ∈ wfX10, w ∈ w_isOpenTarget := fun _ h => List.mem_append_right _ (List.mem_append_left _ h)
set_option maxHeartbeats 4000000 in
set_option maxRecDepth 100000 in
theorem ct_isOpenTarget (l : Launch) (E : gE) (B : Nat → Nat) (Q : Int32 → VS → Prop) (p1 : Int32) (σ : VS) (hw : wp_isOpenTarget Q p1 σ) : CtI l E yX10_isOpenTarget w_isOpenTarget (({ frames := 0, cells := 0, slots := 0, locals := 0 } : Room)) (wm E B σ) [.ref (B 0), .int p1] (fun r w => ∃ σ' : VS, Q r σ' ∧ w = wm E B σ') := by
  refine VC_I (cc := cX10_isOpenTarget) (mL := 2) (rt := (some .boolean)) (lv0 := [(0, .ref (B 0)), (1, .int p1)]) rfl (by decide) rfl (Nat.le_of_ble_eq_true rfl) ?_
  intro p e s m below meth c A F
  replace F : Fx p s m _ meth c A E cX10_isOpenTarget 2 (some .boolean) RX10 w_isOpenTarget := F
  have J_32 : ∀ (k0 : Int32) (σ : VS), b_isOpenTarget_32 Q k0 σ → WB p l e (({ frames := 0, cells := 0, slots := 0, locals := 0 } : Room)) s m (#[.ref (B 0), .int p1]) below meth c (MQ below (va_Qi (fun r w => ∃ σ' : VS, Q r σ' ∧ w = wm E B σ') (AftU E A) A) (#[.ref (B 0), .int p1]) s (({ frames := 0, cells := 0, slots := 0, locals := 0 } : Room)).cells (({ frames := 0, cells := 0, slots := 0, locals := 0 } : Room)).slots A) A E (wm E B) 2 32 [] [.int k0] σ := by
    intro k0 σ hw
    unfold b_isOpenTarget_32 at hw
    exact R_iret (Qc := Q) F (nb_01 hw.1) dX10_isOpenTarget_32 hw.2
  have J_31 : ∀ (σ : VS), b_isOpenTarget_31 Q σ → WB p l e (({ frames := 0, cells := 0, slots := 0, locals := 0 } : Room)) s m (#[.ref (B 0), .int p1]) below meth c (MQ below (va_Qi (fun r w => ∃ σ' : VS, Q r σ' ∧ w = wm E B σ') (AftU E A) A) (#[.ref (B 0), .int p1]) s (({ frames := 0, cells := 0, slots := 0, locals := 0 } : Room)).cells (({ frames := 0, cells := 0, slots := 0, locals := 0 } : Room)).slots A) A E (wm E B) 2 31 [] [] σ := by
    intro σ hw
    unfold b_isOpenTarget_31 at hw
    refine R_iconst F 0 dX10_isOpenTarget_31 (by decide) ?_
    exact R_sub [] rfl (J_32 0 σ hw)
  unfold wp_isOpenTarget at hw
  refine R_aload_n F dX10_isOpenTarget_0 rfl 0 rfl ?_
  refine gm_7 F in_isOpenTarget dX10_isOpenTarget_1 ?_
  refine R_iconst F 4 dX10_isOpenTarget_4 (by decide) ?_
  refine R_iload_n F dX10_isOpenTarget_5 rfl 1 rfl ?_
  refine R_imul F dX10_isOpenTarget_6 ?_
  refine R_ldi F qm_7 dX10_isOpenTarget_7 hw.1 ?_
  replace hw := hw.2
  refine R_if_lt (tgt := 31) F dX10_isOpenTarget_8 (by decide) (fun hc => ?_) (fun hc => ?_)
  · replace hw := hw.1 hc
    exact R_sub [] rfl (J_31 σ hw)
  · replace hw := hw.2 hc
    refine R_aload_n F dX10_isOpenTarget_11 rfl 0 rfl ?_
    refine gm_35 F in_isOpenTarget dX10_isOpenTarget_12 ?_
    refine R_aload_n F dX10_isOpenTarget_15 rfl 0 rfl ?_
    refine gm_7 F in_isOpenTarget dX10_isOpenTarget_16 ?_
    refine R_iconst F 4 dX10_isOpenTarget_19 (by decide) ?_
    refine R_iload_n F dX10_isOpenTarget_20 rfl 1 rfl ?_
    refine R_imul F dX10_isOpenTarget_21 ?_
    refine R_ldi F qm_7 dX10_isOpenTarget_22 hw.1 ?_
    replace hw := hw.2
    refine R_ldi F qm_35 dX10_isOpenTarget_23 hw.1 ?_
    replace hw := hw.2
    refine R_if_eq (tgt := 31) F dX10_isOpenTarget_24 (by decide) (fun hc => ?_) (fun hc => ?_)
    · replace hw := hw.1 hc
      exact R_sub [] rfl (J_31 σ hw)
    · replace hw := hw.2 hc
      refine R_iconst F 1 dX10_isOpenTarget_27 (by decide) ?_
      refine R_goto (tgt := 32) F dX10_isOpenTarget_28 (by decide) ?_
      exact R_sub [] rfl (J_32 1 σ hw)
def b_metBy_30 (X4 : Int32 → Int32 → Int32 → VS → Prop) (Q : Int32 → VS → Prop) (l1 : Int32) (l3 : Int32) (k0 : Int32) (k1 : Int32) (σ : VS) : Prop := (∀ x1 : Int32, x1 = (k1 ||| k0) → X4 l1 x1 (l3 + 1) σ)
def b_metBy_4 (X4 : Int32 → Int32 → Int32 → VS → Prop) (Q : Int32 → VS → Prop) (l1 : Int32) (l2 : Int32) (l3 : Int32) (σ : VS) : Prop := (((σ.1 25).toInt ≤ l3.toInt → Q l2 σ) ∧ (l3.toInt < (σ.1 25).toInt → (In l3 4 ∧ (((rd σ 28 l3).toInt ≠ l1.toInt → b_metBy_30 X4 Q l1 l3 0 l2 σ) ∧ ((rd σ 28 l3).toInt = l1.toInt → b_metBy_30 X4 Q l1 l3 (1 <<< (l3 &&& 31)) l2 σ)))))
def wp_metBy (Q : Int32 → VS → Prop) (p1 : Int32) (σ : VS) : Prop := ∀ (X4 : Int32 → Int32 → Int32 → VS → Prop), (∀ (l1 : Int32) (l2 : Int32) (l3 : Int32) (σ : VS), b_metBy_4 X4 Q l1 l2 l3 σ → X4 l1 l2 l3 σ) → X4 p1 0 0 σ
theorem dX10_metBy_0 : decode cX10_metBy 0 = .ok (.iconst 0, 1) := by decide +kernel
theorem dX10_metBy_1 : decode cX10_metBy 1 = .ok (.istore_n 2, 1) := by decide +kernel
theorem dX10_metBy_2 : decode cX10_metBy 2 = .ok (.iconst 0, 1) := by decide +kernel
theorem dX10_metBy_3 : decode cX10_metBy 3 = .ok (.istore_n 3, 1) := by decide +kernel
theorem dX10_metBy_4 : decode cX10_metBy 4 = .ok (.iload_n 3, 1) := by decide +kernel
theorem dX10_metBy_5 : decode cX10_metBy 5 = .ok (.aload_n 0, 1) := by decide +kernel
theorem dX10_metBy_6 : decode cX10_metBy 6 = .ok (.getfield 222, 3) := by decide +kernel
theorem dX10_metBy_9 : decode cX10_metBy 9 = .ok (.if_icmp .ge 29, 3) := by decide +kernel
theorem dX10_metBy_38 : decode cX10_metBy 38 = .ok (.iload_n 2, 1) := by decide +kernel
theorem dX10_metBy_39 : decode cX10_metBy 39 = .ok (.ireturn, 1) := by decide +kernel
theorem dX10_metBy_12 : decode cX10_metBy 12 = .ok (.iload_n 2, 1) := by decide +kernel
theorem dX10_metBy_13 : decode cX10_metBy 13 = .ok (.aload_n 0, 1) := by decide +kernel
theorem dX10_metBy_14 : decode cX10_metBy 14 = .ok (.getfield 105, 3) := by decide +kernel
theorem dX10_metBy_17 : decode cX10_metBy 17 = .ok (.iload_n 3, 1) := by decide +kernel
theorem dX10_metBy_18 : decode cX10_metBy 18 = .ok (.iaload, 1) := by decide +kernel
theorem dX10_metBy_19 : decode cX10_metBy 19 = .ok (.iload_n 1, 1) := by decide +kernel
theorem dX10_metBy_20 : decode cX10_metBy 20 = .ok (.if_icmp .ne 9, 3) := by decide +kernel
theorem dX10_metBy_29 : decode cX10_metBy 29 = .ok (.iconst 0, 1) := by decide +kernel
theorem dX10_metBy_23 : decode cX10_metBy 23 = .ok (.iconst 1, 1) := by decide +kernel
theorem dX10_metBy_24 : decode cX10_metBy 24 = .ok (.iload_n 3, 1) := by decide +kernel
theorem dX10_metBy_25 : decode cX10_metBy 25 = .ok (.ishl, 1) := by decide +kernel
theorem dX10_metBy_26 : decode cX10_metBy 26 = .ok (.goto 4, 3) := by decide +kernel
theorem dX10_metBy_30 : decode cX10_metBy 30 = .ok (.ior, 1) := by decide +kernel
theorem dX10_metBy_31 : decode cX10_metBy 31 = .ok (.istore_n 2, 1) := by decide +kernel
theorem dX10_metBy_32 : decode cX10_metBy 32 = .ok (.iinc 3 1, 3) := by decide +kernel
theorem dX10_metBy_35 : decode cX10_metBy 35 = .ok (.goto (-31), 3) := by decide +kernel
def wo_metBy : List Cond := [.code yX10_metBy cX10_metBy 4 (some .int)]
def wr_metBy : List Cond := (wfX10 ++ ([]))
def w_metBy : List Cond := wo_metBy ++ wr_metBy
theorem wg_metBy : GW w_metBy := GW_app (GW_of (by decide +kernel)) (GW_app (wg_fX10) (GW_nil))
theorem in_metBy : ∀ w ∈ wfX10, w ∈ w_metBy := fun _ h => List.mem_append_right _ (List.mem_append_left _ h)
set_option maxHeartbeats 4000000 in
set_option maxRecDepth 100000 in
theorem ct_metBy (l : Launch) (E : gE) (B : Nat → Nat) (Q : Int32 → VS → Prop) (p1 : Int32) (σ : VS) (hw : wp_metBy Q p1 σ) : CtI l E yX10_metBy w_metBy (({ frames := 0, cells := 0, slots := 0, locals := 0 } : Room)) (wm E B σ) [.ref (B 0), .int p1] (fun r w => ∃ σ' : VS, Q r σ' ∧ w = wm E B σ') := by
  refine VC_I (cc := cX10_metBy) (mL := 4) (rt := (some .int)) (lv0 := [(0, .ref (B 0)), (1, .int p1)]) rfl (by decide) rfl (Nat.le_of_ble_eq_true rfl) ?_
  intro p e s m below meth c A F
  replace F : Fx p s m _ meth c A E cX10_metBy 4 (some .int) RX10 w_metBy := F
  obtain ⟨X4, hX4⟩ : ∃ X : Int32 → Int32 → Int32 → VS → Prop, X = fun l1 l2 l3 σ => WB p l e (({ frames := 0, cells := 0, slots := 0, locals := 0 } : Room)) s m (#[.ref (B 0), .int p1]) below meth c (MQ below (va_Qi (fun r w => ∃ σ' : VS, Q r σ' ∧ w = wm E B σ') (AftU E A) A) (#[.ref (B 0), .int p1]) s (({ frames := 0, cells := 0, slots := 0, locals := 0 } : Room)).cells (({ frames := 0, cells := 0, slots := 0, locals := 0 } : Room)).slots A) A E (wm E B) 4 4 [(0, .ref (B 0)), (1, .int l1), (2, .int l2), (3, .int l3)] [] σ := ⟨_, rfl⟩
  have U_4 : ∀ (l1 : Int32) (l2 : Int32) (l3 : Int32) (σ : VS), X4 l1 l2 l3 σ → WB p l e (({ frames := 0, cells := 0, slots := 0, locals := 0 } : Room)) s m (#[.ref (B 0), .int p1]) below meth c (MQ below (va_Qi (fun r w => ∃ σ' : VS, Q r σ' ∧ w = wm E B σ') (AftU E A) A) (#[.ref (B 0), .int p1]) s (({ frames := 0, cells := 0, slots := 0, locals := 0 } : Room)).cells (({ frames := 0, cells := 0, slots := 0, locals := 0 } : Room)).slots A) A E (wm E B) 4 4 [(0, .ref (B 0)), (1, .int l1), (2, .int l2), (3, .int l3)] [] σ := by
    intro l1 l2 l3 σ hw; rw [hX4] at hw; exact hw
  have J_30 : ∀ (l1 : Int32) (l3 : Int32) (k0 : Int32) (k1 : Int32) (σ : VS), b_metBy_30 X4 Q l1 l3 k0 k1 σ → WB p l e (({ frames := 0, cells := 0, slots := 0, locals := 0 } : Room)) s m (#[.ref (B 0), .int p1]) below meth c (MQ below (va_Qi (fun r w => ∃ σ' : VS, Q r σ' ∧ w = wm E B σ') (AftU E A) A) (#[.ref (B 0), .int p1]) s (({ frames := 0, cells := 0, slots := 0, locals := 0 } : Room)).cells (({ frames := 0, cells := 0, slots := 0, locals := 0 } : Room)).slots A) A E (wm E B) 4 30 [(0, .ref (B 0)), (1, .int l1), (3, .int l3)] [.int k0, .int k1] σ := by
    intro l1 l3 k0 k1 σ hw
    unfold b_metBy_30 at hw
    refine R_ior F dX10_metBy_30 ?_
    refine R_topi (fun x1 ex1 => ?_)
    replace hw := hw x1 ex1
    refine R_istore_n (lv' := [(2, .int x1), (0, .ref (B 0)), (1, .int l1), (3, .int l3)]) F dX10_metBy_31 rfl (by decide) rfl ?_
    refine R_iinc (q := 3) (v := (l3 + 1)) (lv' := [(3, .int (l3 + 1)), (2, .int x1), (0, .ref (B 0)), (1, .int l1)]) F dX10_metBy_32 rfl rfl (by decide) rfl ?_
    refine R_goto (tgt := 4) F dX10_metBy_35 (by decide) ?_
    exact R_sub [2, 3, 1, 0] rfl (U_4 l1 x1 (l3 + 1) σ hw)
  have C_4 : ∀ (l1 : Int32) (l2 : Int32) (l3 : Int32) (σ : VS), b_metBy_4 X4 Q l1 l2 l3 σ → X4 l1 l2 l3 σ := by
    intro l1 l2 l3 σ hw
    unfold b_metBy_4 at hw
    rw [hX4]
    show WB p l e (({ frames := 0, cells := 0, slots := 0, locals := 0 } : Room)) s m (#[.ref (B 0), .int p1]) below meth c (MQ below (va_Qi (fun r w => ∃ σ' : VS, Q r σ' ∧ w = wm E B σ') (AftU E A) A) (#[.ref (B 0), .int p1]) s (({ frames := 0, cells := 0, slots := 0, locals := 0 } : Room)).cells (({ frames := 0, cells := 0, slots := 0, locals := 0 } : Room)).slots A) A E (wm E B) 4 4 [(0, .ref (B 0)), (1, .int l1), (2, .int l2), (3, .int l3)] [] σ
    refine R_iload_n F dX10_metBy_4 rfl 3 rfl ?_
    refine R_aload_n F dX10_metBy_5 rfl 0 rfl ?_
    refine gm_25 F in_metBy dX10_metBy_6 ?_
    refine R_icmp_ge (tgt := 38) F dX10_metBy_9 (by decide) (fun hc => ?_) (fun hc => ?_)
    · replace hw := hw.1 hc
      refine R_iload_n F dX10_metBy_38 rfl 2 rfl ?_
      exact R_iret (Qc := Q) F rfl dX10_metBy_39 hw
    · replace hw := hw.2 hc
      refine R_iload_n F dX10_metBy_12 rfl 2 rfl ?_
      refine R_aload_n F dX10_metBy_13 rfl 0 rfl ?_
      refine gm_28 F in_metBy dX10_metBy_14 ?_
      refine R_iload_n F dX10_metBy_17 rfl 3 rfl ?_
      refine R_ldi F qm_28 dX10_metBy_18 hw.1 ?_
      replace hw := hw.2
      refine R_iload_n F dX10_metBy_19 rfl 1 rfl ?_
      refine R_icmp_ne (tgt := 29) F dX10_metBy_20 (by decide) (fun hc => ?_) (fun hc => ?_)
      · replace hw := hw.1 hc
        refine R_iconst F 0 dX10_metBy_29 (by decide) ?_
        exact R_sub [0, 1, 3] rfl (J_30 l1 l3 0 l2 σ hw)
      · replace hw := hw.2 hc
        refine R_iconst F 1 dX10_metBy_23 (by decide) ?_
        refine R_iload_n F dX10_metBy_24 rfl 3 rfl ?_
        refine R_ishl F dX10_metBy_25 ?_
        refine R_goto (tgt := 30) F dX10_metBy_26 (by decide) ?_
        exact R_sub [0, 1, 3] rfl (J_30 l1 l3 (1 <<< (l3 &&& 31)) l2 σ hw)
  unfold wp_metBy at hw
  replace hw := hw X4 C_4
  refine R_iconst F 0 dX10_metBy_0 (by decide) ?_
  refine R_istore_n (lv' := [(2, .int 0), (0, .ref (B 0)), (1, .int p1)]) F dX10_metBy_1 rfl (by decide) rfl ?_
  refine R_iconst F 0 dX10_metBy_2 (by decide) ?_
  refine R_istore_n (lv' := [(3, .int 0), (2, .int 0), (0, .ref (B 0)), (1, .int p1)]) F dX10_metBy_3 rfl (by decide) rfl ?_
  exact R_sub [2, 3, 1, 0] rfl (U_4 p1 0 0 σ hw)
def b_periodsOf_101 (X6 : Int32 → Int32 → Int32 → Int32 → Int32 → VS → Prop) (Q : Int32 → VS → Prop) (l1 : Int32) (l2 : Int32) (l3 : Int32) (l5 : Int32) (k0 : Int32) (σ : VS) : Prop := X6 l1 l2 l3 k0 (l5 + 1) σ
def b_periodsOf_82 (X6 : Int32 → Int32 → Int32 → Int32 → Int32 → VS → Prop) (Q : Int32 → VS → Prop) (l1 : Int32) (l2 : Int32) (l3 : Int32) (l4 : Int32) (l5 : Int32) (k0 : Int32) (σ : VS) : Prop := ((k0.toInt = 0 → b_periodsOf_101 X6 Q l1 l2 l3 l5 l4 σ) ∧ (k0.toInt ≠ 0 → (In l5 4 ∧ b_periodsOf_101 X6 Q l1 l2 l3 l5 (rd σ 26 l5) σ)))
def b_periodsOf_81 (X6 : Int32 → Int32 → Int32 → Int32 → Int32 → VS → Prop) (Q : Int32 → VS → Prop) (l1 : Int32) (l2 : Int32) (l3 : Int32) (l4 : Int32) (l5 : Int32) (σ : VS) : Prop := b_periodsOf_82 X6 Q l1 l2 l3 l4 l5 0 σ
def b_periodsOf_77 (X6 : Int32 → Int32 → Int32 → Int32 → Int32 → VS → Prop) (Q : Int32 → VS → Prop) (l1 : Int32) (l2 : Int32) (l3 : Int32) (l4 : Int32) (l5 : Int32) (σ : VS) : Prop := b_periodsOf_82 X6 Q l1 l2 l3 l4 l5 1 σ
def b_periodsOf_56 (X6 : Int32 → Int32 → Int32 → Int32 → Int32 → VS → Prop) (Q : Int32 → VS → Prop) (l1 : Int32) (l2 : Int32) (l3 : Int32) (l4 : Int32) (l5 : Int32) (σ : VS) : Prop := (In l5 4 ∧ (((rd σ 29 l5).toInt < 0 → b_periodsOf_77 X6 Q l1 l2 l3 l4 l5 σ) ∧ (0 ≤ (rd σ 29 l5).toInt → (In l5 4 ∧ (((rd σ 29 l5).toInt ≠ l2.toInt → b_periodsOf_81 X6 Q l1 l2 l3 l4 l5 σ) ∧ ((rd σ 29 l5).toInt = l2.toInt → b_periodsOf_77 X6 Q l1 l2 l3 l4 l5 σ))))))
def b_periodsOf_36 (X6 : Int32 → Int32 → Int32 → Int32 → Int32 → VS → Prop) (Q : Int32 → VS → Prop) (l1 : Int32) (l2 : Int32) (l3 : Int32) (l4 : Int32) (l5 : Int32) (σ : VS) : Prop := (In l5 4 ∧ (((rd σ 28 l5).toInt < 0 → b_periodsOf_56 X6 Q l1 l2 l3 l4 l5 σ) ∧ (0 ≤ (rd σ 28 l5).toInt → ((((l3 >>> (l5 &&& 31)) &&& 1).toInt ≠ 1 → b_periodsOf_81 X6 Q l1 l2 l3 l4 l5 σ) ∧ (((l3 >>> (l5 &&& 31)) &&& 1).toInt = 1 → b_periodsOf_56 X6 Q l1 l2 l3 l4 l5 σ)))))
def b_periodsOf_6 (X6 : Int32 → Int32 → Int32 → Int32 → Int32 → VS → Prop) (Q : Int32 → VS → Prop) (l1 : Int32) (l2 : Int32) (l3 : Int32) (l4 : Int32) (l5 : Int32) (σ : VS) : Prop := (((σ.1 25).toInt ≤ l5.toInt → Q l4 σ) ∧ (l5.toInt < (σ.1 25).toInt → (In l5 4 ∧ (((rd σ 27 l5).toInt < 0 → b_periodsOf_36 X6 Q l1 l2 l3 l4 l5 σ) ∧ (0 ≤ (rd σ 27 l5).toInt → (In l5 4 ∧ (((rd σ 27 l5).toInt ≠ l1.toInt → b_periodsOf_81 X6 Q l1 l2 l3 l4 l5 σ) ∧ ((rd σ 27 l5).toInt = l1.toInt → b_periodsOf_36 X6 Q l1 l2 l3 l4 l5 σ))))))))
def wp_periodsOf (Q : Int32 → VS → Prop) (p1 : Int32) (p2 : Int32) (p3 : Int32) (σ : VS) : Prop := ∀ (X6 : Int32 → Int32 → Int32 → Int32 → Int32 → VS → Prop), (∀ (l1 : Int32) (l2 : Int32) (l3 : Int32) (l4 : Int32) (l5 : Int32) (σ : VS), b_periodsOf_6 X6 Q l1 l2 l3 l4 l5 σ → X6 l1 l2 l3 l4 l5 σ) → X6 p1 p2 p3 1 0 σ
theorem dX10_periodsOf_0 : decode cX10_periodsOf 0 = .ok (.iconst 1, 1) := by decide +kernel
theorem dX10_periodsOf_1 : decode cX10_periodsOf 1 = .ok (.istore 4, 2) := by decide +kernel
theorem dX10_periodsOf_3 : decode cX10_periodsOf 3 = .ok (.iconst 0, 1) := by decide +kernel
theorem dX10_periodsOf_4 : decode cX10_periodsOf 4 = .ok (.istore 5, 2) := by decide +kernel
theorem dX10_periodsOf_6 : decode cX10_periodsOf 6 = .ok (.iload 5, 2) := by decide +kernel
theorem dX10_periodsOf_8 : decode cX10_periodsOf 8 = .ok (.aload_n 0, 1) := by decide +kernel
theorem dX10_periodsOf_9 : decode cX10_periodsOf 9 = .ok (.getfield 222, 3) := by decide +kernel
theorem dX10_periodsOf_12 : decode cX10_periodsOf 12 = .ok (.if_icmp .ge 97, 3) := by decide +kernel
theorem dX10_periodsOf_109 : decode cX10_periodsOf 109 = .ok (.iload 4, 2) := by decide +kernel
theorem dX10_periodsOf_111 : decode cX10_periodsOf 111 = .ok (.ireturn, 1) := by decide +kernel
theorem dX10_periodsOf_15 : decode cX10_periodsOf 15 = .ok (.aload_n 0, 1) := by decide +kernel
theorem dX10_periodsOf_16 : decode cX10_periodsOf 16 = .ok (.getfield 102, 3) := by decide +kernel
theorem dX10_periodsOf_19 : decode cX10_periodsOf 19 = .ok (.iload 5, 2) := by decide +kernel
theorem dX10_periodsOf_21 : decode cX10_periodsOf 21 = .ok (.iaload, 1) := by decide +kernel
theorem dX10_periodsOf_22 : decode cX10_periodsOf 22 = .ok (.ifCond .lt 14, 3) := by decide +kernel
theorem dX10_periodsOf_25 : decode cX10_periodsOf 25 = .ok (.aload_n 0, 1) := by decide +kernel
theorem dX10_periodsOf_26 : decode cX10_periodsOf 26 = .ok (.getfield 102, 3) := by decide +kernel
theorem dX10_periodsOf_29 : decode cX10_periodsOf 29 = .ok (.iload 5, 2) := by decide +kernel
theorem dX10_periodsOf_31 : decode cX10_periodsOf 31 = .ok (.iaload, 1) := by decide +kernel
theorem dX10_periodsOf_32 : decode cX10_periodsOf 32 = .ok (.iload_n 1, 1) := by decide +kernel
theorem dX10_periodsOf_33 : decode cX10_periodsOf 33 = .ok (.if_icmp .ne 48, 3) := by decide +kernel
theorem dX10_periodsOf_36 : decode cX10_periodsOf 36 = .ok (.aload_n 0, 1) := by decide +kernel
theorem dX10_periodsOf_37 : decode cX10_periodsOf 37 = .ok (.getfield 105, 3) := by decide +kernel
theorem dX10_periodsOf_40 : decode cX10_periodsOf 40 = .ok (.iload 5, 2) := by decide +kernel
theorem dX10_periodsOf_42 : decode cX10_periodsOf 42 = .ok (.iaload, 1) := by decide +kernel
theorem dX10_periodsOf_43 : decode cX10_periodsOf 43 = .ok (.ifCond .lt 13, 3) := by decide +kernel
theorem dX10_periodsOf_46 : decode cX10_periodsOf 46 = .ok (.iload_n 3, 1) := by decide +kernel
theorem dX10_periodsOf_47 : decode cX10_periodsOf 47 = .ok (.iload 5, 2) := by decide +kernel
theorem dX10_periodsOf_49 : decode cX10_periodsOf 49 = .ok (.ishr, 1) := by decide +kernel
theorem dX10_periodsOf_50 : decode cX10_periodsOf 50 = .ok (.iconst 1, 1) := by decide +kernel
theorem dX10_periodsOf_51 : decode cX10_periodsOf 51 = .ok (.iand, 1) := by decide +kernel
theorem dX10_periodsOf_52 : decode cX10_periodsOf 52 = .ok (.iconst 1, 1) := by decide +kernel
theorem dX10_periodsOf_53 : decode cX10_periodsOf 53 = .ok (.if_icmp .ne 28, 3) := by decide +kernel
theorem dX10_periodsOf_81 : decode cX10_periodsOf 81 = .ok (.iconst 0, 1) := by decide +kernel
theorem dX10_periodsOf_56 : decode cX10_periodsOf 56 = .ok (.aload_n 0, 1) := by decide +kernel
theorem dX10_periodsOf_57 : decode cX10_periodsOf 57 = .ok (.getfield 108, 3) := by decide +kernel
theorem dX10_periodsOf_60 : decode cX10_periodsOf 60 = .ok (.iload 5, 2) := by decide +kernel
theorem dX10_periodsOf_62 : decode cX10_periodsOf 62 = .ok (.iaload, 1) := by decide +kernel
theorem dX10_periodsOf_63 : decode cX10_periodsOf 63 = .ok (.ifCond .lt 14, 3) := by decide +kernel
theorem dX10_periodsOf_66 : decode cX10_periodsOf 66 = .ok (.aload_n 0, 1) := by decide +kernel
theorem dX10_periodsOf_67 : decode cX10_periodsOf 67 = .ok (.getfield 108, 3) := by decide +kernel
theorem dX10_periodsOf_70 : decode cX10_periodsOf 70 = .ok (.iload 5, 2) := by decide +kernel
theorem dX10_periodsOf_72 : decode cX10_periodsOf 72 = .ok (.iaload, 1) := by decide +kernel
theorem dX10_periodsOf_73 : decode cX10_periodsOf 73 = .ok (.iload_n 2, 1) := by decide +kernel
theorem dX10_periodsOf_74 : decode cX10_periodsOf 74 = .ok (.if_icmp .ne 7, 3) := by decide +kernel
theorem dX10_periodsOf_82 : decode cX10_periodsOf 82 = .ok (.istore 6, 2) := by decide +kernel
theorem dX10_periodsOf_84 : decode cX10_periodsOf 84 = .ok (.iload 6, 2) := by decide +kernel
theorem dX10_periodsOf_86 : decode cX10_periodsOf 86 = .ok (.ifCond .eq 13, 3) := by decide +kernel
theorem dX10_periodsOf_99 : decode cX10_periodsOf 99 = .ok (.iload 4, 2) := by decide +kernel
theorem dX10_periodsOf_89 : decode cX10_periodsOf 89 = .ok (.aload_n 0, 1) := by decide +kernel
theorem dX10_periodsOf_90 : decode cX10_periodsOf 90 = .ok (.getfield 99, 3) := by decide +kernel
theorem dX10_periodsOf_93 : decode cX10_periodsOf 93 = .ok (.iload 5, 2) := by decide +kernel
theorem dX10_periodsOf_95 : decode cX10_periodsOf 95 = .ok (.iaload, 1) := by decide +kernel
theorem dX10_periodsOf_96 : decode cX10_periodsOf 96 = .ok (.goto 5, 3) := by decide +kernel
theorem dX10_periodsOf_77 : decode cX10_periodsOf 77 = .ok (.iconst 1, 1) := by decide +kernel
theorem dX10_periodsOf_78 : decode cX10_periodsOf 78 = .ok (.goto 4, 3) := by decide +kernel
theorem dX10_periodsOf_101 : decode cX10_periodsOf 101 = .ok (.istore 4, 2) := by decide +kernel
theorem dX10_periodsOf_103 : decode cX10_periodsOf 103 = .ok (.iinc 5 1, 3) := by decide +kernel
theorem dX10_periodsOf_106 : decode cX10_periodsOf 106 = .ok (.goto (-100), 3) := by decide +kernel
def wo_periodsOf : List Cond := [.code yX10_periodsOf cX10_periodsOf 7 (some .int)]
def wr_periodsOf : List Cond := (wfX10 ++ ([]))
def w_periodsOf : List Cond := wo_periodsOf ++ wr_periodsOf
theorem wg_periodsOf : GW w_periodsOf := GW_app (GW_of (by decide +kernel)) (GW_app (wg_fX10) (GW_nil))
theorem in_periodsOf : ∀ w ∈ wfX10, w ∈ w_periodsOf := fun _ h => List.mem_append_right _ (List.mem_append_left _ h)
set_option maxHeartbeats 4000000 in
set_option maxRecDepth 100000 in
theorem ct_periodsOf (l : Launch) (E : gE) (B : Nat → Nat) (Q : Int32 → VS → Prop) (p1 : Int32) (p2 : Int32) (p3 : Int32) (σ : VS) (hw : wp_periodsOf Q p1 p2 p3 σ) : CtI l E yX10_periodsOf w_periodsOf (({ frames := 0, cells := 0, slots := 0, locals := 0 } : Room)) (wm E B σ) [.ref (B 0), .int p1, .int p2, .int p3] (fun r w => ∃ σ' : VS, Q r σ' ∧ w = wm E B σ') := by
  refine VC_I (cc := cX10_periodsOf) (mL := 7) (rt := (some .int)) (lv0 := [(0, .ref (B 0)), (1, .int p1), (2, .int p2), (3, .int p3)]) rfl (by decide) rfl (Nat.le_of_ble_eq_true rfl) ?_
  intro p e s m below meth c A F
  replace F : Fx p s m _ meth c A E cX10_periodsOf 7 (some .int) RX10 w_periodsOf := F
  obtain ⟨X6, hX6⟩ : ∃ X : Int32 → Int32 → Int32 → Int32 → Int32 → VS → Prop, X = fun l1 l2 l3 l4 l5 σ => WB p l e (({ frames := 0, cells := 0, slots := 0, locals := 0 } : Room)) s m (#[.ref (B 0), .int p1, .int p2, .int p3]) below meth c (MQ below (va_Qi (fun r w => ∃ σ' : VS, Q r σ' ∧ w = wm E B σ') (AftU E A) A) (#[.ref (B 0), .int p1, .int p2, .int p3]) s (({ frames := 0, cells := 0, slots := 0, locals := 0 } : Room)).cells (({ frames := 0, cells := 0, slots := 0, locals := 0 } : Room)).slots A) A E (wm E B) 7 6 [(0, .ref (B 0)), (1, .int l1), (2, .int l2), (3, .int l3), (4, .int l4), (5, .int l5)] [] σ := ⟨_, rfl⟩
  have U_6 : ∀ (l1 : Int32) (l2 : Int32) (l3 : Int32) (l4 : Int32) (l5 : Int32) (σ : VS), X6 l1 l2 l3 l4 l5 σ → WB p l e (({ frames := 0, cells := 0, slots := 0, locals := 0 } : Room)) s m (#[.ref (B 0), .int p1, .int p2, .int p3]) below meth c (MQ below (va_Qi (fun r w => ∃ σ' : VS, Q r σ' ∧ w = wm E B σ') (AftU E A) A) (#[.ref (B 0), .int p1, .int p2, .int p3]) s (({ frames := 0, cells := 0, slots := 0, locals := 0 } : Room)).cells (({ frames := 0, cells := 0, slots := 0, locals := 0 } : Room)).slots A) A E (wm E B) 7 6 [(0, .ref (B 0)), (1, .int l1), (2, .int l2), (3, .int l3), (4, .int l4), (5, .int l5)] [] σ := by
    intro l1 l2 l3 l4 l5 σ hw; rw [hX6] at hw; exact hw
  have J_101 : ∀ (l1 : Int32) (l2 : Int32) (l3 : Int32) (l5 : Int32) (k0 : Int32) (σ : VS), b_periodsOf_101 X6 Q l1 l2 l3 l5 k0 σ → WB p l e (({ frames := 0, cells := 0, slots := 0, locals := 0 } : Room)) s m (#[.ref (B 0), .int p1, .int p2, .int p3]) below meth c (MQ below (va_Qi (fun r w => ∃ σ' : VS, Q r σ' ∧ w = wm E B σ') (AftU E A) A) (#[.ref (B 0), .int p1, .int p2, .int p3]) s (({ frames := 0, cells := 0, slots := 0, locals := 0 } : Room)).cells (({ frames := 0, cells := 0, slots := 0, locals := 0 } : Room)).slots A) A E (wm E B) 7 101 [(0, .ref (B 0)), (1, .int l1), (2, .int l2), (3, .int l3), (5, .int l5)] [.int k0] σ := by
    intro l1 l2 l3 l5 k0 σ hw
    unfold b_periodsOf_101 at hw
    refine R_istore (lv' := [(4, .int k0), (0, .ref (B 0)), (1, .int l1), (2, .int l2), (3, .int l3), (5, .int l5)]) F dX10_periodsOf_101 (by decide) rfl ?_
    refine R_iinc (q := 5) (v := (l5 + 1)) (lv' := [(5, .int (l5 + 1)), (4, .int k0), (0, .ref (B 0)), (1, .int l1), (2, .int l2), (3, .int l3)]) F dX10_periodsOf_103 rfl rfl (by decide) rfl ?_
    refine R_goto (tgt := 6) F dX10_periodsOf_106 (by decide) ?_
    exact R_sub [2, 3, 4, 5, 1, 0] rfl (U_6 l1 l2 l3 k0 (l5 + 1) σ hw)
  have J_82 : ∀ (l1 : Int32) (l2 : Int32) (l3 : Int32) (l4 : Int32) (l5 : Int32) (k0 : Int32) (σ : VS), b_periodsOf_82 X6 Q l1 l2 l3 l4 l5 k0 σ → WB p l e (({ frames := 0, cells := 0, slots := 0, locals := 0 } : Room)) s m (#[.ref (B 0), .int p1, .int p2, .int p3]) below meth c (MQ below (va_Qi (fun r w => ∃ σ' : VS, Q r σ' ∧ w = wm E B σ') (AftU E A) A) (#[.ref (B 0), .int p1, .int p2, .int p3]) s (({ frames := 0, cells := 0, slots := 0, locals := 0 } : Room)).cells (({ frames := 0, cells := 0, slots := 0, locals := 0 } : Room)).slots A) A E (wm E B) 7 82 [(0, .ref (B 0)), (1, .int l1), (2, .int l2), (3, .int l3), (4, .int l4), (5, .int l5)] [.int k0] σ := by
    intro l1 l2 l3 l4 l5 k0 σ hw
    unfold b_periodsOf_82 at hw
    refine R_istore (lv' := [(6, .int k0), (0, .ref (B 0)), (1, .int l1), (2, .int l2), (3, .int l3), (4, .int l4), (5, .int l5)]) F dX10_periodsOf_82 (by decide) rfl ?_
    refine R_iload F dX10_periodsOf_84 0 rfl ?_
    refine R_if_eq (tgt := 99) F dX10_periodsOf_86 (by decide) (fun hc => ?_) (fun hc => ?_)
    · replace hw := hw.1 hc
      refine R_iload F dX10_periodsOf_99 5 rfl ?_
      exact R_sub [1, 2, 3, 4, 6] rfl (J_101 l1 l2 l3 l5 l4 σ hw)
    · replace hw := hw.2 hc
      refine R_aload_n F dX10_periodsOf_89 rfl 1 rfl ?_
      refine gm_26 F in_periodsOf dX10_periodsOf_90 ?_
      refine R_iload F dX10_periodsOf_93 6 rfl ?_
      refine R_ldi F qm_26 dX10_periodsOf_95 hw.1 ?_
      replace hw := hw.2
      refine R_goto (tgt := 101) F dX10_periodsOf_96 (by decide) ?_
      exact R_sub [1, 2, 3, 4, 6] rfl (J_101 l1 l2 l3 l5 (rd σ 26 l5) σ hw)
  have J_81 : ∀ (l1 : Int32) (l2 : Int32) (l3 : Int32) (l4 : Int32) (l5 : Int32) (σ : VS), b_periodsOf_81 X6 Q l1 l2 l3 l4 l5 σ → WB p l e (({ frames := 0, cells := 0, slots := 0, locals := 0 } : Room)) s m (#[.ref (B 0), .int p1, .int p2, .int p3]) below meth c (MQ below (va_Qi (fun r w => ∃ σ' : VS, Q r σ' ∧ w = wm E B σ') (AftU E A) A) (#[.ref (B 0), .int p1, .int p2, .int p3]) s (({ frames := 0, cells := 0, slots := 0, locals := 0 } : Room)).cells (({ frames := 0, cells := 0, slots := 0, locals := 0 } : Room)).slots A) A E (wm E B) 7 81 [(0, .ref (B 0)), (1, .int l1), (2, .int l2), (3, .int l3), (4, .int l4), (5, .int l5)] [] σ := by
    intro l1 l2 l3 l4 l5 σ hw
    unfold b_periodsOf_81 at hw
    refine R_iconst F 0 dX10_periodsOf_81 (by decide) ?_
    exact R_sub [0, 1, 2, 3, 4, 5] rfl (J_82 l1 l2 l3 l4 l5 0 σ hw)
  have J_77 : ∀ (l1 : Int32) (l2 : Int32) (l3 : Int32) (l4 : Int32) (l5 : Int32) (σ : VS), b_periodsOf_77 X6 Q l1 l2 l3 l4 l5 σ → WB p l e (({ frames := 0, cells := 0, slots := 0, locals := 0 } : Room)) s m (#[.ref (B 0), .int p1, .int p2, .int p3]) below meth c (MQ below (va_Qi (fun r w => ∃ σ' : VS, Q r σ' ∧ w = wm E B σ') (AftU E A) A) (#[.ref (B 0), .int p1, .int p2, .int p3]) s (({ frames := 0, cells := 0, slots := 0, locals := 0 } : Room)).cells (({ frames := 0, cells := 0, slots := 0, locals := 0 } : Room)).slots A) A E (wm E B) 7 77 [(0, .ref (B 0)), (1, .int l1), (2, .int l2), (3, .int l3), (4, .int l4), (5, .int l5)] [] σ := by
    intro l1 l2 l3 l4 l5 σ hw
    unfold b_periodsOf_77 at hw
    refine R_iconst F 1 dX10_periodsOf_77 (by decide) ?_
    refine R_goto (tgt := 82) F dX10_periodsOf_78 (by decide) ?_
    exact R_sub [0, 1, 2, 3, 4, 5] rfl (J_82 l1 l2 l3 l4 l5 1 σ hw)
  have J_56 : ∀ (l1 : Int32) (l2 : Int32) (l3 : Int32) (l4 : Int32) (l5 : Int32) (σ : VS), b_periodsOf_56 X6 Q l1 l2 l3 l4 l5 σ → WB p l e (({ frames := 0, cells := 0, slots := 0, locals := 0 } : Room)) s m (#[.ref (B 0), .int p1, .int p2, .int p3]) below meth c (MQ below (va_Qi (fun r w => ∃ σ' : VS, Q r σ' ∧ w = wm E B σ') (AftU E A) A) (#[.ref (B 0), .int p1, .int p2, .int p3]) s (({ frames := 0, cells := 0, slots := 0, locals := 0 } : Room)).cells (({ frames := 0, cells := 0, slots := 0, locals := 0 } : Room)).slots A) A E (wm E B) 7 56 [(0, .ref (B 0)), (1, .int l1), (2, .int l2), (3, .int l3), (4, .int l4), (5, .int l5)] [] σ := by
    intro l1 l2 l3 l4 l5 σ hw
    unfold b_periodsOf_56 at hw
    refine R_aload_n F dX10_periodsOf_56 rfl 0 rfl ?_
    refine gm_29 F in_periodsOf dX10_periodsOf_57 ?_
    refine R_iload F dX10_periodsOf_60 5 rfl ?_
    refine R_ldi F qm_29 dX10_periodsOf_62 hw.1 ?_
    replace hw := hw.2
    refine R_if_lt (tgt := 77) F dX10_periodsOf_63 (by decide) (fun hc => ?_) (fun hc => ?_)
    · replace hw := hw.1 hc
      exact R_sub [0, 1, 2, 3, 4, 5] rfl (J_77 l1 l2 l3 l4 l5 σ hw)
    · replace hw := hw.2 hc
      refine R_aload_n F dX10_periodsOf_66 rfl 0 rfl ?_
      refine gm_29 F in_periodsOf dX10_periodsOf_67 ?_
      refine R_iload F dX10_periodsOf_70 5 rfl ?_
      refine R_ldi F qm_29 dX10_periodsOf_72 hw.1 ?_
      replace hw := hw.2
      refine R_iload_n F dX10_periodsOf_73 rfl 2 rfl ?_
      refine R_icmp_ne (tgt := 81) F dX10_periodsOf_74 (by decide) (fun hc => ?_) (fun hc => ?_)
      · replace hw := hw.1 hc
        exact R_sub [0, 1, 2, 3, 4, 5] rfl (J_81 l1 l2 l3 l4 l5 σ hw)
      · replace hw := hw.2 hc
        exact R_sub [0, 1, 2, 3, 4, 5] rfl (J_77 l1 l2 l3 l4 l5 σ hw)
  have J_36 : ∀ (l1 : Int32) (l2 : Int32) (l3 : Int32) (l4 : Int32) (l5 : Int32) (σ : VS), b_periodsOf_36 X6 Q l1 l2 l3 l4 l5 σ → WB p l e (({ frames := 0, cells := 0, slots := 0, locals := 0 } : Room)) s m (#[.ref (B 0), .int p1, .int p2, .int p3]) below meth c (MQ below (va_Qi (fun r w => ∃ σ' : VS, Q r σ' ∧ w = wm E B σ') (AftU E A) A) (#[.ref (B 0), .int p1, .int p2, .int p3]) s (({ frames := 0, cells := 0, slots := 0, locals := 0 } : Room)).cells (({ frames := 0, cells := 0, slots := 0, locals := 0 } : Room)).slots A) A E (wm E B) 7 36 [(0, .ref (B 0)), (1, .int l1), (2, .int l2), (3, .int l3), (4, .int l4), (5, .int l5)] [] σ := by
    intro l1 l2 l3 l4 l5 σ hw
    unfold b_periodsOf_36 at hw
    refine R_aload_n F dX10_periodsOf_36 rfl 0 rfl ?_
    refine gm_28 F in_periodsOf dX10_periodsOf_37 ?_
    refine R_iload F dX10_periodsOf_40 5 rfl ?_
    refine R_ldi F qm_28 dX10_periodsOf_42 hw.1 ?_
    replace hw := hw.2
    refine R_if_lt (tgt := 56) F dX10_periodsOf_43 (by decide) (fun hc => ?_) (fun hc => ?_)
    · replace hw := hw.1 hc
      exact R_sub [0, 1, 2, 3, 4, 5] rfl (J_56 l1 l2 l3 l4 l5 σ hw)
    · replace hw := hw.2 hc
      refine R_iload_n F dX10_periodsOf_46 rfl 3 rfl ?_
      refine R_iload F dX10_periodsOf_47 5 rfl ?_
      refine R_ishr F dX10_periodsOf_49 ?_
      refine R_iconst F 1 dX10_periodsOf_50 (by decide) ?_
      refine R_iand F dX10_periodsOf_51 ?_
      refine R_iconst F 1 dX10_periodsOf_52 (by decide) ?_
      refine R_icmp_ne (tgt := 81) F dX10_periodsOf_53 (by decide) (fun hc => ?_) (fun hc => ?_)
      · replace hw := hw.1 hc
        exact R_sub [0, 1, 2, 3, 4, 5] rfl (J_81 l1 l2 l3 l4 l5 σ hw)
      · replace hw := hw.2 hc
        exact R_sub [0, 1, 2, 3, 4, 5] rfl (J_56 l1 l2 l3 l4 l5 σ hw)
  have C_6 : ∀ (l1 : Int32) (l2 : Int32) (l3 : Int32) (l4 : Int32) (l5 : Int32) (σ : VS), b_periodsOf_6 X6 Q l1 l2 l3 l4 l5 σ → X6 l1 l2 l3 l4 l5 σ := by
    intro l1 l2 l3 l4 l5 σ hw
    unfold b_periodsOf_6 at hw
    rw [hX6]
    show WB p l e (({ frames := 0, cells := 0, slots := 0, locals := 0 } : Room)) s m (#[.ref (B 0), .int p1, .int p2, .int p3]) below meth c (MQ below (va_Qi (fun r w => ∃ σ' : VS, Q r σ' ∧ w = wm E B σ') (AftU E A) A) (#[.ref (B 0), .int p1, .int p2, .int p3]) s (({ frames := 0, cells := 0, slots := 0, locals := 0 } : Room)).cells (({ frames := 0, cells := 0, slots := 0, locals := 0 } : Room)).slots A) A E (wm E B) 7 6 [(0, .ref (B 0)), (1, .int l1), (2, .int l2), (3, .int l3), (4, .int l4), (5, .int l5)] [] σ
    refine R_iload F dX10_periodsOf_6 5 rfl ?_
    refine R_aload_n F dX10_periodsOf_8 rfl 0 rfl ?_
    refine gm_25 F in_periodsOf dX10_periodsOf_9 ?_
    refine R_icmp_ge (tgt := 109) F dX10_periodsOf_12 (by decide) (fun hc => ?_) (fun hc => ?_)
    · replace hw := hw.1 hc
      refine R_iload F dX10_periodsOf_109 4 rfl ?_
      exact R_iret (Qc := Q) F rfl dX10_periodsOf_111 hw
    · replace hw := hw.2 hc
      refine R_aload_n F dX10_periodsOf_15 rfl 0 rfl ?_
      refine gm_27 F in_periodsOf dX10_periodsOf_16 ?_
      refine R_iload F dX10_periodsOf_19 5 rfl ?_
      refine R_ldi F qm_27 dX10_periodsOf_21 hw.1 ?_
      replace hw := hw.2
      refine R_if_lt (tgt := 36) F dX10_periodsOf_22 (by decide) (fun hc => ?_) (fun hc => ?_)
      · replace hw := hw.1 hc
        exact R_sub [0, 1, 2, 3, 4, 5] rfl (J_36 l1 l2 l3 l4 l5 σ hw)
      · replace hw := hw.2 hc
        refine R_aload_n F dX10_periodsOf_25 rfl 0 rfl ?_
        refine gm_27 F in_periodsOf dX10_periodsOf_26 ?_
        refine R_iload F dX10_periodsOf_29 5 rfl ?_
        refine R_ldi F qm_27 dX10_periodsOf_31 hw.1 ?_
        replace hw := hw.2
        refine R_iload_n F dX10_periodsOf_32 rfl 1 rfl ?_
        refine R_icmp_ne (tgt := 81) F dX10_periodsOf_33 (by decide) (fun hc => ?_) (fun hc => ?_)
        · replace hw := hw.1 hc
          exact R_sub [0, 1, 2, 3, 4, 5] rfl (J_81 l1 l2 l3 l4 l5 σ hw)
        · replace hw := hw.2 hc
          exact R_sub [0, 1, 2, 3, 4, 5] rfl (J_36 l1 l2 l3 l4 l5 σ hw)
  unfold wp_periodsOf at hw
  replace hw := hw X6 C_6
  refine R_iconst F 1 dX10_periodsOf_0 (by decide) ?_
  refine R_istore (lv' := [(4, .int 1), (0, .ref (B 0)), (1, .int p1), (2, .int p2), (3, .int p3)]) F dX10_periodsOf_1 (by decide) rfl ?_
  refine R_iconst F 0 dX10_periodsOf_3 (by decide) ?_
  refine R_istore (lv' := [(5, .int 0), (4, .int 1), (0, .ref (B 0)), (1, .int p1), (2, .int p2), (3, .int p3)]) F dX10_periodsOf_4 (by decide) rfl ?_
  exact R_sub [2, 3, 4, 5, 1, 0] rfl (U_6 p1 p2 p3 1 0 σ hw)
def b_loadAt_30 (Q : Int32 → VS → Prop) (k0 : Int32) (σ : VS) : Prop := Q k0 σ
def wp_loadAt (Q : Int32 → VS → Prop) (p1 : Int32) (σ : VS) : Prop := ((p1.toInt ≠ 0 → ((p1.toInt ≠ 1 → ((p1.toInt ≠ 2 → b_loadAt_30 Q 64 σ) ∧ (p1.toInt = 2 → b_loadAt_30 Q 24 σ))) ∧ (p1.toInt = 1 → b_loadAt_30 Q 8 σ))) ∧ (p1.toInt = 0 → b_loadAt_30 Q 0 σ))
theorem dX10_loadAt_0 : decode cX10_loadAt 0 = .ok (.iload_n 0, 1) := by decide +kernel
theorem dX10_loadAt_1 : decode cX10_loadAt 1 = .ok (.ifCond .ne 7, 3) := by decide +kernel
theorem dX10_loadAt_8 : decode cX10_loadAt 8 = .ok (.iload_n 0, 1) := by decide +kernel
theorem dX10_loadAt_9 : decode cX10_loadAt 9 = .ok (.iconst 1, 1) := by decide +kernel
theorem dX10_loadAt_10 : decode cX10_loadAt 10 = .ok (.if_icmp .ne 8, 3) := by decide +kernel
theorem dX10_loadAt_18 : decode cX10_loadAt 18 = .ok (.iload_n 0, 1) := by decide +kernel
theorem dX10_loadAt_19 : decode cX10_loadAt 19 = .ok (.iconst 2, 1) := by decide +kernel
theorem dX10_loadAt_20 : decode cX10_loadAt 20 = .ok (.if_icmp .ne 8, 3) := by decide +kernel
theorem dX10_loadAt_28 : decode cX10_loadAt 28 = .ok (.bipush 64, 2) := by decide +kernel
theorem dX10_loadAt_23 : decode cX10_loadAt 23 = .ok (.bipush 24, 2) := by decide +kernel
theorem dX10_loadAt_25 : decode cX10_loadAt 25 = .ok (.goto 5, 3) := by decide +kernel
theorem dX10_loadAt_13 : decode cX10_loadAt 13 = .ok (.bipush 8, 2) := by decide +kernel
theorem dX10_loadAt_15 : decode cX10_loadAt 15 = .ok (.goto 15, 3) := by decide +kernel
theorem dX10_loadAt_4 : decode cX10_loadAt 4 = .ok (.iconst 0, 1) := by decide +kernel
theorem dX10_loadAt_5 : decode cX10_loadAt 5 = .ok (.goto 25, 3) := by decide +kernel
theorem dX10_loadAt_30 : decode cX10_loadAt 30 = .ok (.ireturn, 1) := by decide +kernel
def wo_loadAt : List Cond := [.code yX10_loadAt cX10_loadAt 1 (some .int)]
def wr_loadAt : List Cond := (wfX10 ++ ([]))
def w_loadAt : List Cond := wo_loadAt ++ wr_loadAt
theorem wg_loadAt : GW w_loadAt := GW_app (GW_of (by decide +kernel)) (GW_app (wg_fX10) (GW_nil))
theorem in_loadAt : ∀ w ∈ wfX10, w ∈ w_loadAt := fun _ h => List.mem_append_right _ (List.mem_append_left _ h)
set_option maxHeartbeats 4000000 in
set_option maxRecDepth 100000 in
theorem ct_loadAt (l : Launch) (E : gE) (B : Nat → Nat) (Q : Int32 → VS → Prop) (p1 : Int32) (σ : VS) (hw : wp_loadAt Q p1 σ) : CtI l E yX10_loadAt w_loadAt (({ frames := 0, cells := 0, slots := 0, locals := 0 } : Room)) (wm E B σ) [.int p1] (fun r w => ∃ σ' : VS, Q r σ' ∧ w = wm E B σ') := by
  refine VC_I (cc := cX10_loadAt) (mL := 1) (rt := (some .int)) (lv0 := [(0, .int p1)]) rfl (by decide) rfl (Nat.le_of_ble_eq_true rfl) ?_
  intro p e s m below meth c A F
  replace F : Fx p s m _ meth c A E cX10_loadAt 1 (some .int) RX10 w_loadAt := F
  have J_30 : ∀ (k0 : Int32) (σ : VS), b_loadAt_30 Q k0 σ → WB p l e (({ frames := 0, cells := 0, slots := 0, locals := 0 } : Room)) s m (#[.int p1]) below meth c (MQ below (va_Qi (fun r w => ∃ σ' : VS, Q r σ' ∧ w = wm E B σ') (AftU E A) A) (#[.int p1]) s (({ frames := 0, cells := 0, slots := 0, locals := 0 } : Room)).cells (({ frames := 0, cells := 0, slots := 0, locals := 0 } : Room)).slots A) A E (wm E B) 1 30 [] [.int k0] σ := by
    intro k0 σ hw
    unfold b_loadAt_30 at hw
    exact R_iret (Qc := Q) F rfl dX10_loadAt_30 hw
  unfold wp_loadAt at hw
  refine R_iload_n F dX10_loadAt_0 rfl 0 rfl ?_
  refine R_if_ne (tgt := 8) F dX10_loadAt_1 (by decide) (fun hc => ?_) (fun hc => ?_)
  · replace hw := hw.1 hc
    refine R_iload_n F dX10_loadAt_8 rfl 0 rfl ?_
    refine R_iconst F 1 dX10_loadAt_9 (by decide) ?_
    refine R_icmp_ne (tgt := 18) F dX10_loadAt_10 (by decide) (fun hc => ?_) (fun hc => ?_)
    · replace hw := hw.1 hc
      refine R_iload_n F dX10_loadAt_18 rfl 0 rfl ?_
      refine R_iconst F 2 dX10_loadAt_19 (by decide) ?_
      refine R_icmp_ne (tgt := 28) F dX10_loadAt_20 (by decide) (fun hc => ?_) (fun hc => ?_)
      · replace hw := hw.1 hc
        refine R_bipush F 64 dX10_loadAt_28 (by decide) ?_
        exact R_sub [] rfl (J_30 64 σ hw)
      · replace hw := hw.2 hc
        refine R_bipush F 24 dX10_loadAt_23 (by decide) ?_
        refine R_goto (tgt := 30) F dX10_loadAt_25 (by decide) ?_
        exact R_sub [] rfl (J_30 24 σ hw)
    · replace hw := hw.2 hc
      refine R_bipush F 8 dX10_loadAt_13 (by decide) ?_
      refine R_goto (tgt := 30) F dX10_loadAt_15 (by decide) ?_
      exact R_sub [] rfl (J_30 8 σ hw)
  · replace hw := hw.2 hc
    refine R_iconst F 0 dX10_loadAt_4 (by decide) ?_
    refine R_goto (tgt := 30) F dX10_loadAt_5 (by decide) ?_
    exact R_sub [] rfl (J_30 0 σ hw)
def b_slopeAt_20 (Q : Int32 → VS → Prop) (k0 : Int32) (σ : VS) : Prop := Q k0 σ
def wp_slopeAt (Q : Int32 → VS → Prop) (p1 : Int32) (σ : VS) : Prop := ((p1.toInt ≠ 0 → ((p1.toInt ≠ 1 → b_slopeAt_20 Q 64 σ) ∧ (p1.toInt = 1 → b_slopeAt_20 Q 16 σ))) ∧ (p1.toInt = 0 → b_slopeAt_20 Q 0 σ))
theorem dX10_slopeAt_0 : decode cX10_slopeAt 0 = .ok (.iload_n 0, 1) := by decide +kernel
theorem dX10_slopeAt_1 : decode cX10_slopeAt 1 = .ok (.ifCond .ne 7, 3) := by decide +kernel
theorem dX10_slopeAt_8 : decode cX10_slopeAt 8 = .ok (.iload_n 0, 1) := by decide +kernel
theorem dX10_slopeAt_9 : decode cX10_slopeAt 9 = .ok (.iconst 1, 1) := by decide +kernel
theorem dX10_slopeAt_10 : decode cX10_slopeAt 10 = .ok (.if_icmp .ne 8, 3) := by decide +kernel
theorem dX10_slopeAt_18 : decode cX10_slopeAt 18 = .ok (.bipush 64, 2) := by decide +kernel
theorem dX10_slopeAt_13 : decode cX10_slopeAt 13 = .ok (.bipush 16, 2) := by decide +kernel
theorem dX10_slopeAt_15 : decode cX10_slopeAt 15 = .ok (.goto 5, 3) := by decide +kernel
theorem dX10_slopeAt_4 : decode cX10_slopeAt 4 = .ok (.iconst 0, 1) := by decide +kernel
theorem dX10_slopeAt_5 : decode cX10_slopeAt 5 = .ok (.goto 15, 3) := by decide +kernel
theorem dX10_slopeAt_20 : decode cX10_slopeAt 20 = .ok (.ireturn, 1) := by decide +kernel
def wo_slopeAt : List Cond := [.code yX10_slopeAt cX10_slopeAt 1 (some .int)]
def wr_slopeAt : List Cond := (wfX10 ++ ([]))
def w_slopeAt : List Cond := wo_slopeAt ++ wr_slopeAt
theorem wg_slopeAt : GW w_slopeAt := GW_app (GW_of (by decide +kernel)) (GW_app (wg_fX10) (GW_nil))
theorem in_slopeAt : ∀ w ∈ wfX10, w ∈ w_slopeAt := fun _ h => List.mem_append_right _ (List.mem_append_left _ h)
set_option maxHeartbeats 4000000 in
set_option maxRecDepth 100000 in
theorem ct_slopeAt (l : Launch) (E : gE) (B : Nat → Nat) (Q : Int32 → VS → Prop) (p1 : Int32) (σ : VS) (hw : wp_slopeAt Q p1 σ) : CtI l E yX10_slopeAt w_slopeAt (({ frames := 0, cells := 0, slots := 0, locals := 0 } : Room)) (wm E B σ) [.int p1] (fun r w => ∃ σ' : VS, Q r σ' ∧ w = wm E B σ') := by
  refine VC_I (cc := cX10_slopeAt) (mL := 1) (rt := (some .int)) (lv0 := [(0, .int p1)]) rfl (by decide) rfl (Nat.le_of_ble_eq_true rfl) ?_
  intro p e s m below meth c A F
  replace F : Fx p s m _ meth c A E cX10_slopeAt 1 (some .int) RX10 w_slopeAt := F
  have J_20 : ∀ (k0 : Int32) (σ : VS), b_slopeAt_20 Q k0 σ → WB p l e (({ frames := 0, cells := 0, slots := 0, locals := 0 } : Room)) s m (#[.int p1]) below meth c (MQ below (va_Qi (fun r w => ∃ σ' : VS, Q r σ' ∧ w = wm E B σ') (AftU E A) A) (#[.int p1]) s (({ frames := 0, cells := 0, slots := 0, locals := 0 } : Room)).cells (({ frames := 0, cells := 0, slots := 0, locals := 0 } : Room)).slots A) A E (wm E B) 1 20 [] [.int k0] σ := by
    intro k0 σ hw
    unfold b_slopeAt_20 at hw
    exact R_iret (Qc := Q) F rfl dX10_slopeAt_20 hw
  unfold wp_slopeAt at hw
  refine R_iload_n F dX10_slopeAt_0 rfl 0 rfl ?_
  refine R_if_ne (tgt := 8) F dX10_slopeAt_1 (by decide) (fun hc => ?_) (fun hc => ?_)
  · replace hw := hw.1 hc
    refine R_iload_n F dX10_slopeAt_8 rfl 0 rfl ?_
    refine R_iconst F 1 dX10_slopeAt_9 (by decide) ?_
    refine R_icmp_ne (tgt := 18) F dX10_slopeAt_10 (by decide) (fun hc => ?_) (fun hc => ?_)
    · replace hw := hw.1 hc
      refine R_bipush F 64 dX10_slopeAt_18 (by decide) ?_
      exact R_sub [] rfl (J_20 64 σ hw)
    · replace hw := hw.2 hc
      refine R_bipush F 16 dX10_slopeAt_13 (by decide) ?_
      refine R_goto (tgt := 20) F dX10_slopeAt_15 (by decide) ?_
      exact R_sub [] rfl (J_20 16 σ hw)
  · replace hw := hw.2 hc
    refine R_iconst F 0 dX10_slopeAt_4 (by decide) ?_
    refine R_goto (tgt := 20) F dX10_slopeAt_5 (by decide) ?_
    exact R_sub [] rfl (J_20 0 σ hw)
def b_number_63 (Q : Int64 → VS → Prop) (k0 : Int64) (σ : VS) : Prop := Q k0 σ
def b_number_41 (Q : Int64 → VS → Prop) (l1 : Int32) (l2 : Int32) (σ : VS) : Prop := (((σ.1 30).toInt = 0 → (In ((3 * l1) + l2) 192 ∧ b_number_63 Q (((rd σ 15 ((3 * l1) + l2))).toInt64) σ)) ∧ ((σ.1 30).toInt ≠ 0 → b_number_63 Q (0 : Int64) σ))
def b_number_38 (Q : Int64 → VS → Prop) (l1 : Int32) (l2 : Int32) (k0 : Int32) (σ : VS) : Prop := b_number_41 Q l1 l2 (sf σ 30 k0)
def wp_number (Q : Int64 → VS → Prop) (p1 : Int32) (p2 : Int32) (σ : VS) : Prop := (((σ.1 30).toInt ≠ 0 → b_number_41 Q p1 p2 σ) ∧ ((σ.1 30).toInt = 0 → (In p1 64 ∧ (((rd σ 16 p1).toInt ≠ 0 → (In p1 64 ∧ ((p2.toInt < (rd σ 16 p1).toInt → b_number_38 Q p1 p2 0 σ) ∧ ((rd σ 16 p1).toInt ≤ p2.toInt → b_number_38 Q p1 p2 (-12) σ)))) ∧ ((rd σ 16 p1).toInt = 0 → b_number_38 Q p1 p2 (-11) σ)))))
theorem dX10_number_0 : decode cX10_number 0 = .ok (.aload_n 0, 1) := by decide +kernel
theorem dX10_number_1 : decode cX10_number 1 = .ok (.getfield 225, 3) := by decide +kernel
theorem dX10_number_4 : decode cX10_number 4 = .ok (.ifCond .ne 37, 3) := by decide +kernel
theorem dX10_number_7 : decode cX10_number 7 = .ok (.aload_n 0, 1) := by decide +kernel
theorem dX10_number_8 : decode cX10_number 8 = .ok (.aload_n 0, 1) := by decide +kernel
theorem dX10_number_9 : decode cX10_number 9 = .ok (.getfield 81, 3) := by decide +kernel
theorem dX10_number_12 : decode cX10_number 12 = .ok (.iload_n 1, 1) := by decide +kernel
theorem dX10_number_13 : decode cX10_number 13 = .ok (.iaload, 1) := by decide +kernel
theorem dX10_number_14 : decode cX10_number 14 = .ok (.ifCond .ne 8, 3) := by decide +kernel
theorem dX10_number_22 : decode cX10_number 22 = .ok (.iload_n 2, 1) := by decide +kernel
theorem dX10_number_23 : decode cX10_number 23 = .ok (.aload_n 0, 1) := by decide +kernel
theorem dX10_number_24 : decode cX10_number 24 = .ok (.getfield 81, 3) := by decide +kernel
theorem dX10_number_27 : decode cX10_number 27 = .ok (.iload_n 1, 1) := by decide +kernel
theorem dX10_number_28 : decode cX10_number 28 = .ok (.iaload, 1) := by decide +kernel
theorem dX10_number_29 : decode cX10_number 29 = .ok (.if_icmp .lt 8, 3) := by decide +kernel
theorem dX10_number_37 : decode cX10_number 37 = .ok (.iconst 0, 1) := by decide +kernel
theorem dX10_number_32 : decode cX10_number 32 = .ok (.bipush (-12), 2) := by decide +kernel
theorem dX10_number_34 : decode cX10_number 34 = .ok (.goto 4, 3) := by decide +kernel
theorem dX10_number_17 : decode cX10_number 17 = .ok (.bipush (-11), 2) := by decide +kernel
theorem dX10_number_19 : decode cX10_number 19 = .ok (.goto 19, 3) := by decide +kernel
theorem dX10_number_41 : decode cX10_number 41 = .ok (.aload_n 0, 1) := by decide +kernel
theorem dX10_number_42 : decode cX10_number 42 = .ok (.getfield 225, 3) := by decide +kernel
theorem dX10_number_45 : decode cX10_number 45 = .ok (.ifCond .eq 7, 3) := by decide +kernel
theorem dX10_number_52 : decode cX10_number 52 = .ok (.aload_n 0, 1) := by decide +kernel
theorem dX10_number_53 : decode cX10_number 53 = .ok (.getfield 78, 3) := by decide +kernel
theorem dX10_number_56 : decode cX10_number 56 = .ok (.iconst 3, 1) := by decide +kernel
theorem dX10_number_57 : decode cX10_number 57 = .ok (.iload_n 1, 1) := by decide +kernel
theorem dX10_number_58 : decode cX10_number 58 = .ok (.imul, 1) := by decide +kernel
theorem dX10_number_59 : decode cX10_number 59 = .ok (.iload_n 2, 1) := by decide +kernel
theorem dX10_number_60 : decode cX10_number 60 = .ok (.iadd, 1) := by decide +kernel
theorem dX10_number_61 : decode cX10_number 61 = .ok (.iaload, 1) := by decide +kernel
theorem dX10_number_62 : decode cX10_number 62 = .ok (.i2l, 1) := by decide +kernel
theorem dX10_number_48 : decode cX10_number 48 = .ok (.lconst 0, 1) := by decide +kernel
theorem dX10_number_49 : decode cX10_number 49 = .ok (.goto 14, 3) := by decide +kernel
theorem dX10_number_38 : decode cX10_number 38 = .ok (.putfield 225, 3) := by decide +kernel
theorem dX10_number_63 : decode cX10_number 63 = .ok (.lreturn, 1) := by decide +kernel
def wo_number : List Cond := [.code yX10_number cX10_number 3 (some .long)]
def wr_number : List Cond := (wfX10 ++ ([]))
def w_number : List Cond := wo_number ++ wr_number
theorem wg_number : GW w_number := GW_app (GW_of (by decide +kernel)) (GW_app (wg_fX10) (GW_nil))
theorem in_number : ∀ w ∈ wfX10, w ∈ w_number := fun _ h => List.mem_append_right _ (List.mem_append_left _ h)
set_option maxHeartbeats 4000000 in
set_option maxRecDepth 100000 in
theorem ct_number (l : Launch) (E : gE) (B : Nat → Nat) (Q : Int64 → VS → Prop) (p1 : Int32) (p2 : Int32) (σ : VS) (hw : wp_number Q p1 p2 σ) : CtL l E yX10_number w_number (({ frames := 0, cells := 0, slots := 0, locals := 0 } : Room)) (wm E B σ) [.ref (B 0), .int p1, .int p2] (fun r w => ∃ σ' : VS, Q r σ' ∧ w = wm E B σ') := by
  refine VC_L (cc := cX10_number) (mL := 3) (rt := (some .long)) (lv0 := [(0, .ref (B 0)), (1, .int p1), (2, .int p2)]) rfl (by decide) rfl (Nat.le_of_ble_eq_true rfl) ?_
  intro p e s m below meth c A F
  replace F : Fx p s m _ meth c A E cX10_number 3 (some .long) RX10 w_number := F
  have J_63 : ∀ (k0 : Int64) (σ : VS), b_number_63 Q k0 σ → WB p l e (({ frames := 0, cells := 0, slots := 0, locals := 0 } : Room)) s m (#[.ref (B 0), .int p1, .int p2]) below meth c (MQ below (va_Ql (fun r w => ∃ σ' : VS, Q r σ' ∧ w = wm E B σ') (AftU E A) A) (#[.ref (B 0), .int p1, .int p2]) s (({ frames := 0, cells := 0, slots := 0, locals := 0 } : Room)).cells (({ frames := 0, cells := 0, slots := 0, locals := 0 } : Room)).slots A) A E (wm E B) 3 63 [] [.long k0] σ := by
    intro k0 σ hw
    unfold b_number_63 at hw
    exact R_lret (Qc := Q) F dX10_number_63 hw
  have J_41 : ∀ (l1 : Int32) (l2 : Int32) (σ : VS), b_number_41 Q l1 l2 σ → WB p l e (({ frames := 0, cells := 0, slots := 0, locals := 0 } : Room)) s m (#[.ref (B 0), .int p1, .int p2]) below meth c (MQ below (va_Ql (fun r w => ∃ σ' : VS, Q r σ' ∧ w = wm E B σ') (AftU E A) A) (#[.ref (B 0), .int p1, .int p2]) s (({ frames := 0, cells := 0, slots := 0, locals := 0 } : Room)).cells (({ frames := 0, cells := 0, slots := 0, locals := 0 } : Room)).slots A) A E (wm E B) 3 41 [(0, .ref (B 0)), (1, .int l1), (2, .int l2)] [] σ := by
    intro l1 l2 σ hw
    unfold b_number_41 at hw
    refine R_aload_n F dX10_number_41 rfl 0 rfl ?_
    refine gm_30 F in_number dX10_number_42 ?_
    refine R_if_eq (tgt := 52) F dX10_number_45 (by decide) (fun hc => ?_) (fun hc => ?_)
    · replace hw := hw.1 hc
      refine R_aload_n F dX10_number_52 rfl 0 rfl ?_
      refine gm_15 F in_number dX10_number_53 ?_
      refine R_iconst F 3 dX10_number_56 (by decide) ?_
      refine R_iload_n F dX10_number_57 rfl 1 rfl ?_
      refine R_imul F dX10_number_58 ?_
      refine R_iload_n F dX10_number_59 rfl 2 rfl ?_
      refine R_iadd F dX10_number_60 ?_
      refine R_ldi F qm_15 dX10_number_61 hw.1 ?_
      replace hw := hw.2
      refine R_i2l F dX10_number_62 ?_
      exact R_sub [] rfl (J_63 (((rd σ 15 ((3 * l1) + l2))).toInt64) σ hw)
    · replace hw := hw.2 hc
      refine R_lconst F 0 dX10_number_48 (by decide) ?_
      refine R_goto (tgt := 63) F dX10_number_49 (by decide) ?_
      exact R_sub [] rfl (J_63 (0 : Int64) σ hw)
  have J_38 : ∀ (l1 : Int32) (l2 : Int32) (k0 : Int32) (σ : VS), b_number_38 Q l1 l2 k0 σ → WB p l e (({ frames := 0, cells := 0, slots := 0, locals := 0 } : Room)) s m (#[.ref (B 0), .int p1, .int p2]) below meth c (MQ below (va_Ql (fun r w => ∃ σ' : VS, Q r σ' ∧ w = wm E B σ') (AftU E A) A) (#[.ref (B 0), .int p1, .int p2]) s (({ frames := 0, cells := 0, slots := 0, locals := 0 } : Room)).cells (({ frames := 0, cells := 0, slots := 0, locals := 0 } : Room)).slots A) A E (wm E B) 3 38 [(0, .ref (B 0)), (1, .int l1), (2, .int l2)] [.int k0, .ref (B 0)] σ := by
    intro l1 l2 k0 σ hw
    unfold b_number_38 at hw
    refine pm_30 F in_number dX10_number_38 ?_
    exact R_sub [0, 1, 2] rfl (J_41 l1 l2 (sf σ 30 k0) hw)
  unfold wp_number at hw
  refine R_aload_n F dX10_number_0 rfl 0 rfl ?_
  refine gm_30 F in_number dX10_number_1 ?_
  refine R_if_ne (tgt := 41) F dX10_number_4 (by decide) (fun hc => ?_) (fun hc => ?_)
  · replace hw := hw.1 hc
    exact R_sub [0, 1, 2] rfl (J_41 p1 p2 σ hw)
  · replace hw := hw.2 hc
    refine R_aload_n F dX10_number_7 rfl 0 rfl ?_
    refine R_aload_n F dX10_number_8 rfl 0 rfl ?_
    refine gm_16 F in_number dX10_number_9 ?_
    refine R_iload_n F dX10_number_12 rfl 1 rfl ?_
    refine R_ldi F qm_16 dX10_number_13 hw.1 ?_
    replace hw := hw.2
    refine R_if_ne (tgt := 22) F dX10_number_14 (by decide) (fun hc => ?_) (fun hc => ?_)
    · replace hw := hw.1 hc
      refine R_iload_n F dX10_number_22 rfl 2 rfl ?_
      refine R_aload_n F dX10_number_23 rfl 0 rfl ?_
      refine gm_16 F in_number dX10_number_24 ?_
      refine R_iload_n F dX10_number_27 rfl 1 rfl ?_
      refine R_ldi F qm_16 dX10_number_28 hw.1 ?_
      replace hw := hw.2
      refine R_icmp_lt (tgt := 37) F dX10_number_29 (by decide) (fun hc => ?_) (fun hc => ?_)
      · replace hw := hw.1 hc
        refine R_iconst F 0 dX10_number_37 (by decide) ?_
        exact R_sub [0, 1, 2] rfl (J_38 p1 p2 0 σ hw)
      · replace hw := hw.2 hc
        refine R_bipush F (-12) dX10_number_32 (by decide) ?_
        refine R_goto (tgt := 38) F dX10_number_34 (by decide) ?_
        exact R_sub [0, 1, 2] rfl (J_38 p1 p2 (-12) σ hw)
    · replace hw := hw.2 hc
      refine R_bipush F (-11) dX10_number_17 (by decide) ?_
      refine R_goto (tgt := 38) F dX10_number_19 (by decide) ?_
      exact R_sub [0, 1, 2] rfl (J_38 p1 p2 (-11) σ hw)
def b_load_85 (X23 : Int32 → Int32 → Int32 → VS → Prop) (X34 : Int32 → Int32 → Int32 → Int32 → VS → Prop) (Q : Int32 → VS → Prop) (l1 : Int32) (l2 : Int32) (l3 : Int32) (l4 : Int32) (σ : VS) : Prop := X34 l1 l2 l3 (l4 + 1) σ
def b_load_82 (X23 : Int32 → Int32 → Int32 → VS → Prop) (X34 : Int32 → Int32 → Int32 → Int32 → VS → Prop) (Q : Int32 → VS → Prop) (l1 : Int32) (l3 : Int32) (l4 : Int32) (k0 : Int32) (k1 : Int32) (k2 : Int32) (σ : VS) : Prop := (∀ x1 : Int32, x1 = (k2 + (k1 + k0)) → b_load_85 X23 X34 Q l1 x1 l3 l4 σ)
def b_load_34 (X23 : Int32 → Int32 → Int32 → VS → Prop) (X34 : Int32 → Int32 → Int32 → Int32 → VS → Prop) (Q : Int32 → VS → Prop) (l1 : Int32) (l2 : Int32) (l3 : Int32) (l4 : Int32) (σ : VS) : Prop := (In l3 50 ∧ (((rd σ 3 l3).toInt ≤ l4.toInt → X23 l1 l2 (l3 + 1) σ) ∧ (l4.toInt < (rd σ 3 l3).toInt → (In ((4 * l3) + l4) 200 ∧ (((rd σ 7 ((4 * l3) + l4)).toInt ≠ l1.toInt → b_load_85 X23 X34 Q l1 l2 l3 l4 σ) ∧ ((rd σ 7 ((4 * l3) + l4)).toInt = l1.toInt → (In l3 50 ∧ (((rd σ 2 l3).toInt ≠ 5 → (In l3 50 ∧ b_load_82 X23 X34 Q l1 l3 l4 (rd σ 5 l3) 1 l2 σ)) ∧ ((rd σ 2 l3).toInt = 5 → b_load_82 X23 X34 Q l1 l3 l4 0 1 l2 σ)))))))))
def b_load_23 (X23 : Int32 → Int32 → Int32 → VS → Prop) (X34 : Int32 → Int32 → Int32 → Int32 → VS → Prop) (Q : Int32 → VS → Prop) (l1 : Int32) (l2 : Int32) (l3 : Int32) (σ : VS) : Prop := (((σ.1 1).toInt ≤ l3.toInt → Q l2 σ) ∧ (l3.toInt < (σ.1 1).toInt → X34 l1 l2 l3 0 σ))
def b_load_20 (X23 : Int32 → Int32 → Int32 → VS → Prop) (X34 : Int32 → Int32 → Int32 → Int32 → VS → Prop) (Q : Int32 → VS → Prop) (l1 : Int32) (k0 : Int32) (σ : VS) : Prop := X23 l1 k0 0 σ
def wp_load (Q : Int32 → VS → Prop) (p1 : Int32) (σ : VS) : Prop := ∀ (X23 : Int32 → Int32 → Int32 → VS → Prop) (X34 : Int32 → Int32 → Int32 → Int32 → VS → Prop), (∀ (l1 : Int32) (l2 : Int32) (l3 : Int32) (σ : VS), b_load_23 X23 X34 Q l1 l2 l3 σ → X23 l1 l2 l3 σ) → (∀ (l1 : Int32) (l2 : Int32) (l3 : Int32) (l4 : Int32) (σ : VS), b_load_34 X23 X34 Q l1 l2 l3 l4 σ → X34 l1 l2 l3 l4 σ) → (In p1 50 ∧ (((rd σ 2 p1).toInt ≠ 5 → (In p1 50 ∧ b_load_20 X23 X34 Q p1 (rd σ 6 p1) σ)) ∧ ((rd σ 2 p1).toInt = 5 → b_load_20 X23 X34 Q p1 0 σ)))
theorem dX10_load_0 : decode cX10_load 0 = .ok (.aload_n 0, 1) := by decide +kernel
theorem dX10_load_1 : decode cX10_load 1 = .ok (.getfield 18, 3) := by decide +kernel
theorem dX10_load_4 : decode cX10_load 4 = .ok (.iload_n 1, 1) := by decide +kernel
theorem dX10_load_5 : decode cX10_load 5 = .ok (.iaload, 1) := by decide +kernel
theorem dX10_load_6 : decode cX10_load 6 = .ok (.iconst 5, 1) := by decide +kernel
theorem dX10_load_7 : decode cX10_load 7 = .ok (.if_icmp .ne 7, 3) := by decide +kernel
theorem dX10_load_14 : decode cX10_load 14 = .ok (.aload_n 0, 1) := by decide +kernel
theorem dX10_load_15 : decode cX10_load 15 = .ok (.getfield 27, 3) := by decide +kernel
theorem dX10_load_18 : decode cX10_load 18 = .ok (.iload_n 1, 1) := by decide +kernel
theorem dX10_load_19 : decode cX10_load 19 = .ok (.iaload, 1) := by decide +kernel
theorem dX10_load_10 : decode cX10_load 10 = .ok (.iconst 0, 1) := by decide +kernel
theorem dX10_load_11 : decode cX10_load 11 = .ok (.goto 9, 3) := by decide +kernel
theorem dX10_load_20 : decode cX10_load 20 = .ok (.istore_n 2, 1) := by decide +kernel
theorem dX10_load_21 : decode cX10_load 21 = .ok (.iconst 0, 1) := by decide +kernel
theorem dX10_load_22 : decode cX10_load 22 = .ok (.istore_n 3, 1) := by decide +kernel
theorem dX10_load_23 : decode cX10_load 23 = .ok (.iload_n 3, 1) := by decide +kernel
theorem dX10_load_24 : decode cX10_load 24 = .ok (.aload_n 0, 1) := by decide +kernel
theorem dX10_load_25 : decode cX10_load 25 = .ok (.getfield 7, 3) := by decide +kernel
theorem dX10_load_28 : decode cX10_load 28 = .ok (.if_icmp .ge 69, 3) := by decide +kernel
theorem dX10_load_97 : decode cX10_load 97 = .ok (.iload_n 2, 1) := by decide +kernel
theorem dX10_load_98 : decode cX10_load 98 = .ok (.ireturn, 1) := by decide +kernel
theorem dX10_load_31 : decode cX10_load 31 = .ok (.iconst 0, 1) := by decide +kernel
theorem dX10_load_32 : decode cX10_load 32 = .ok (.istore 4, 2) := by decide +kernel
theorem dX10_load_34 : decode cX10_load 34 = .ok (.iload 4, 2) := by decide +kernel
theorem dX10_load_36 : decode cX10_load 36 = .ok (.aload_n 0, 1) := by decide +kernel
theorem dX10_load_37 : decode cX10_load 37 = .ok (.getfield 14, 3) := by decide +kernel
theorem dX10_load_40 : decode cX10_load 40 = .ok (.iload_n 3, 1) := by decide +kernel
theorem dX10_load_41 : decode cX10_load 41 = .ok (.iaload, 1) := by decide +kernel
theorem dX10_load_42 : decode cX10_load 42 = .ok (.if_icmp .ge 49, 3) := by decide +kernel
theorem dX10_load_91 : decode cX10_load 91 = .ok (.iinc 3 1, 3) := by decide +kernel
theorem dX10_load_94 : decode cX10_load 94 = .ok (.goto (-71), 3) := by decide +kernel
theorem dX10_load_45 : decode cX10_load 45 = .ok (.aload_n 0, 1) := by decide +kernel
theorem dX10_load_46 : decode cX10_load 46 = .ok (.getfield 30, 3) := by decide +kernel
theorem dX10_load_49 : decode cX10_load 49 = .ok (.iconst 4, 1) := by decide +kernel
theorem dX10_load_50 : decode cX10_load 50 = .ok (.iload_n 3, 1) := by decide +kernel
theorem dX10_load_51 : decode cX10_load 51 = .ok (.imul, 1) := by decide +kernel
theorem dX10_load_52 : decode cX10_load 52 = .ok (.iload 4, 2) := by decide +kernel
theorem dX10_load_54 : decode cX10_load 54 = .ok (.iadd, 1) := by decide +kernel
theorem dX10_load_55 : decode cX10_load 55 = .ok (.iaload, 1) := by decide +kernel
theorem dX10_load_56 : decode cX10_load 56 = .ok (.iload_n 1, 1) := by decide +kernel
theorem dX10_load_57 : decode cX10_load 57 = .ok (.if_icmp .ne 28, 3) := by decide +kernel
theorem dX10_load_60 : decode cX10_load 60 = .ok (.iload_n 2, 1) := by decide +kernel
theorem dX10_load_61 : decode cX10_load 61 = .ok (.iconst 1, 1) := by decide +kernel
theorem dX10_load_62 : decode cX10_load 62 = .ok (.aload_n 0, 1) := by decide +kernel
theorem dX10_load_63 : decode cX10_load 63 = .ok (.getfield 18, 3) := by decide +kernel
theorem dX10_load_66 : decode cX10_load 66 = .ok (.iload_n 3, 1) := by decide +kernel
theorem dX10_load_67 : decode cX10_load 67 = .ok (.iaload, 1) := by decide +kernel
theorem dX10_load_68 : decode cX10_load 68 = .ok (.iconst 5, 1) := by decide +kernel
theorem dX10_load_69 : decode cX10_load 69 = .ok (.if_icmp .ne 7, 3) := by decide +kernel
theorem dX10_load_76 : decode cX10_load 76 = .ok (.aload_n 0, 1) := by decide +kernel
theorem dX10_load_77 : decode cX10_load 77 = .ok (.getfield 24, 3) := by decide +kernel
theorem dX10_load_80 : decode cX10_load 80 = .ok (.iload_n 3, 1) := by decide +kernel
theorem dX10_load_81 : decode cX10_load 81 = .ok (.iaload, 1) := by decide +kernel
theorem dX10_load_72 : decode cX10_load 72 = .ok (.iconst 0, 1) := by decide +kernel
theorem dX10_load_73 : decode cX10_load 73 = .ok (.goto 9, 3) := by decide +kernel
theorem dX10_load_85 : decode cX10_load 85 = .ok (.iinc 4 1, 3) := by decide +kernel
theorem dX10_load_88 : decode cX10_load 88 = .ok (.goto (-54), 3) := by decide +kernel
theorem dX10_load_82 : decode cX10_load 82 = .ok (.iadd, 1) := by decide +kernel
theorem dX10_load_83 : decode cX10_load 83 = .ok (.iadd, 1) := by decide +kernel
theorem dX10_load_84 : decode cX10_load 84 = .ok (.istore_n 2, 1) := by decide +kernel
def wo_load : List Cond := [.code yX10_load cX10_load 5 (some .int)]
def wr_load : List Cond := (wfX10 ++ ([]))
def w_load : List Cond := wo_load ++ wr_load
theorem wg_load : GW w_load := GW_app (GW_of (by decide +kernel)) (GW_app (wg_fX10) (GW_nil))
theorem in_load : ∀ w ∈ wfX10, w ∈ w_load := fun _ h => List.mem_append_right _ (List.mem_append_left _ h)
set_option maxHeartbeats 4000000 in
set_option maxRecDepth 100000 in
theorem ct_load (l : Launch) (E : gE) (B : Nat → Nat) (Q : Int32 → VS → Prop) (p1 : Int32) (σ : VS) (hw : wp_load Q p1 σ) : CtI l E yX10_load w_load (({ frames := 0, cells := 0, slots := 0, locals := 0 } : Room)) (wm E B σ) [.ref (B 0), .int p1] (fun r w => ∃ σ' : VS, Q r σ' ∧ w = wm E B σ') := by
  refine VC_I (cc := cX10_load) (mL := 5) (rt := (some .int)) (lv0 := [(0, .ref (B 0)), (1, .int p1)]) rfl (by decide) rfl (Nat.le_of_ble_eq_true rfl) ?_
  intro p e s m below meth c A F
  replace F : Fx p s m _ meth c A E cX10_load 5 (some .int) RX10 w_load := F
  obtain ⟨X23, hX23⟩ : ∃ X : Int32 → Int32 → Int32 → VS → Prop, X = fun l1 l2 l3 σ => WB p l e (({ frames := 0, cells := 0, slots := 0, locals := 0 } : Room)) s m (#[.ref (B 0), .int p1]) below meth c (MQ below (va_Qi (fun r w => ∃ σ' : VS, Q r σ' ∧ w = wm E B σ') (AftU E A) A) (#[.ref (B 0), .int p1]) s (({ frames := 0, cells := 0, slots := 0, locals := 0 } : Room)).cells (({ frames := 0, cells := 0, slots := 0, locals := 0 } : Room)).slots A) A E (wm E B) 5 23 [(0, .ref (B 0)), (1, .int l1), (2, .int l2), (3, .int l3)] [] σ := ⟨_, rfl⟩
  have U_23 : ∀ (l1 : Int32) (l2 : Int32) (l3 : Int32) (σ : VS), X23 l1 l2 l3 σ → WB p l e (({ frames := 0, cells := 0, slots := 0, locals := 0 } : Room)) s m (#[.ref (B 0), .int p1]) below meth c (MQ below (va_Qi (fun r w => ∃ σ' : VS, Q r σ' ∧ w = wm E B σ') (AftU E A) A) (#[.ref (B 0), .int p1]) s (({ frames := 0, cells := 0, slots := 0, locals := 0 } : Room)).cells (({ frames := 0, cells := 0, slots := 0, locals := 0 } : Room)).slots A) A E (wm E B) 5 23 [(0, .ref (B 0)), (1, .int l1), (2, .int l2), (3, .int l3)] [] σ := by
    intro l1 l2 l3 σ hw; rw [hX23] at hw; exact hw
  obtain ⟨X34, hX34⟩ : ∃ X : Int32 → Int32 → Int32 → Int32 → VS → Prop, X = fun l1 l2 l3 l4 σ => WB p l e (({ frames := 0, cells := 0, slots := 0, locals := 0 } : Room)) s m (#[.ref (B 0), .int p1]) below meth c (MQ below (va_Qi (fun r w => ∃ σ' : VS, Q r σ' ∧ w = wm E B σ') (AftU E A) A) (#[.ref (B 0), .int p1]) s (({ frames := 0, cells := 0, slots := 0, locals := 0 } : Room)).cells (({ frames := 0, cells := 0, slots := 0, locals := 0 } : Room)).slots A) A E (wm E B) 5 34 [(0, .ref (B 0)), (1, .int l1), (2, .int l2), (3, .int l3), (4, .int l4)] [] σ := ⟨_, rfl⟩
  have U_34 : ∀ (l1 : Int32) (l2 : Int32) (l3 : Int32) (l4 : Int32) (σ : VS), X34 l1 l2 l3 l4 σ → WB p l e (({ frames := 0, cells := 0, slots := 0, locals := 0 } : Room)) s m (#[.ref (B 0), .int p1]) below meth c (MQ below (va_Qi (fun r w => ∃ σ' : VS, Q r σ' ∧ w = wm E B σ') (AftU E A) A) (#[.ref (B 0), .int p1]) s (({ frames := 0, cells := 0, slots := 0, locals := 0 } : Room)).cells (({ frames := 0, cells := 0, slots := 0, locals := 0 } : Room)).slots A) A E (wm E B) 5 34 [(0, .ref (B 0)), (1, .int l1), (2, .int l2), (3, .int l3), (4, .int l4)] [] σ := by
    intro l1 l2 l3 l4 σ hw; rw [hX34] at hw; exact hw
  have J_85 : ∀ (l1 : Int32) (l2 : Int32) (l3 : Int32) (l4 : Int32) (σ : VS), b_load_85 X23 X34 Q l1 l2 l3 l4 σ → WB p l e (({ frames := 0, cells := 0, slots := 0, locals := 0 } : Room)) s m (#[.ref (B 0), .int p1]) below meth c (MQ below (va_Qi (fun r w => ∃ σ' : VS, Q r σ' ∧ w = wm E B σ') (AftU E A) A) (#[.ref (B 0), .int p1]) s (({ frames := 0, cells := 0, slots := 0, locals := 0 } : Room)).cells (({ frames := 0, cells := 0, slots := 0, locals := 0 } : Room)).slots A) A E (wm E B) 5 85 [(0, .ref (B 0)), (1, .int l1), (2, .int l2), (3, .int l3), (4, .int l4)] [] σ := by
    intro l1 l2 l3 l4 σ hw
    unfold b_load_85 at hw
    refine R_iinc (q := 4) (v := (l4 + 1)) (lv' := [(4, .int (l4 + 1)), (0, .ref (B 0)), (1, .int l1), (2, .int l2), (3, .int l3)]) F dX10_load_85 rfl rfl (by decide) rfl ?_
    refine R_goto (tgt := 34) F dX10_load_88 (by decide) ?_
    exact R_sub [1, 2, 3, 4, 0] rfl (U_34 l1 l2 l3 (l4 + 1) σ hw)
  have J_82 : ∀ (l1 : Int32) (l3 : Int32) (l4 : Int32) (k0 : Int32) (k1 : Int32) (k2 : Int32) (σ : VS), b_load_82 X23 X34 Q l1 l3 l4 k0 k1 k2 σ → WB p l e (({ frames := 0, cells := 0, slots := 0, locals := 0 } : Room)) s m (#[.ref (B 0), .int p1]) below meth c (MQ below (va_Qi (fun r w => ∃ σ' : VS, Q r σ' ∧ w = wm E B σ') (AftU E A) A) (#[.ref (B 0), .int p1]) s (({ frames := 0, cells := 0, slots := 0, locals := 0 } : Room)).cells (({ frames := 0, cells := 0, slots := 0, locals := 0 } : Room)).slots A) A E (wm E B) 5 82 [(0, .ref (B 0)), (1, .int l1), (3, .int l3), (4, .int l4)] [.int k0, .int k1, .int k2] σ := by
    intro l1 l3 l4 k0 k1 k2 σ hw
    unfold b_load_82 at hw
    refine R_iadd F dX10_load_82 ?_
    refine R_iadd F dX10_load_83 ?_
    refine R_topi (fun x1 ex1 => ?_)
    replace hw := hw x1 ex1
    refine R_istore_n (lv' := [(2, .int x1), (0, .ref (B 0)), (1, .int l1), (3, .int l3), (4, .int l4)]) F dX10_load_84 rfl (by decide) rfl ?_
    exact R_sub [1, 2, 0, 3, 4] rfl (J_85 l1 x1 l3 l4 σ hw)
  have J_20 : ∀ (l1 : Int32) (k0 : Int32) (σ : VS), b_load_20 X23 X34 Q l1 k0 σ → WB p l e (({ frames := 0, cells := 0, slots := 0, locals := 0 } : Room)) s m (#[.ref (B 0), .int p1]) below meth c (MQ below (va_Qi (fun r w => ∃ σ' : VS, Q r σ' ∧ w = wm E B σ') (AftU E A) A) (#[.ref (B 0), .int p1]) s (({ frames := 0, cells := 0, slots := 0, locals := 0 } : Room)).cells (({ frames := 0, cells := 0, slots := 0, locals := 0 } : Room)).slots A) A E (wm E B) 5 20 [(0, .ref (B 0)), (1, .int l1)] [.int k0] σ := by
    intro l1 k0 σ hw
    unfold b_load_20 at hw
    refine R_istore_n (lv' := [(2, .int k0), (0, .ref (B 0)), (1, .int l1)]) F dX10_load_20 rfl (by decide) rfl ?_
    refine R_iconst F 0 dX10_load_21 (by decide) ?_
    refine R_istore_n (lv' := [(3, .int 0), (2, .int k0), (0, .ref (B 0)), (1, .int l1)]) F dX10_load_22 rfl (by decide) rfl ?_
    exact R_sub [2, 3, 1, 0] rfl (U_23 l1 k0 0 σ hw)
  have C_23 : ∀ (l1 : Int32) (l2 : Int32) (l3 : Int32) (σ : VS), b_load_23 X23 X34 Q l1 l2 l3 σ → X23 l1 l2 l3 σ := by
    intro l1 l2 l3 σ hw
    unfold b_load_23 at hw
    rw [hX23]
    show WB p l e (({ frames := 0, cells := 0, slots := 0, locals := 0 } : Room)) s m (#[.ref (B 0), .int p1]) below meth c (MQ below (va_Qi (fun r w => ∃ σ' : VS, Q r σ' ∧ w = wm E B σ') (AftU E A) A) (#[.ref (B 0), .int p1]) s (({ frames := 0, cells := 0, slots := 0, locals := 0 } : Room)).cells (({ frames := 0, cells := 0, slots := 0, locals := 0 } : Room)).slots A) A E (wm E B) 5 23 [(0, .ref (B 0)), (1, .int l1), (2, .int l2), (3, .int l3)] [] σ
    refine R_iload_n F dX10_load_23 rfl 3 rfl ?_
    refine R_aload_n F dX10_load_24 rfl 0 rfl ?_
    refine gm_1 F in_load dX10_load_25 ?_
    refine R_icmp_ge (tgt := 97) F dX10_load_28 (by decide) (fun hc => ?_) (fun hc => ?_)
    · replace hw := hw.1 hc
      refine R_iload_n F dX10_load_97 rfl 2 rfl ?_
      exact R_iret (Qc := Q) F rfl dX10_load_98 hw
    · replace hw := hw.2 hc
      refine R_iconst F 0 dX10_load_31 (by decide) ?_
      refine R_istore (lv' := [(4, .int 0), (0, .ref (B 0)), (1, .int l1), (2, .int l2), (3, .int l3)]) F dX10_load_32 (by decide) rfl ?_
      exact R_sub [1, 2, 3, 4, 0] rfl (U_34 l1 l2 l3 0 σ hw)
  have C_34 : ∀ (l1 : Int32) (l2 : Int32) (l3 : Int32) (l4 : Int32) (σ : VS), b_load_34 X23 X34 Q l1 l2 l3 l4 σ → X34 l1 l2 l3 l4 σ := by
    intro l1 l2 l3 l4 σ hw
    unfold b_load_34 at hw
    rw [hX34]
    show WB p l e (({ frames := 0, cells := 0, slots := 0, locals := 0 } : Room)) s m (#[.ref (B 0), .int p1]) below meth c (MQ below (va_Qi (fun r w => ∃ σ' : VS, Q r σ' ∧ w = wm E B σ') (AftU E A) A) (#[.ref (B 0), .int p1]) s (({ frames := 0, cells := 0, slots := 0, locals := 0 } : Room)).cells (({ frames := 0, cells := 0, slots := 0, locals := 0 } : Room)).slots A) A E (wm E B) 5 34 [(0, .ref (B 0)), (1, .int l1), (2, .int l2), (3, .int l3), (4, .int l4)] [] σ
    refine R_iload F dX10_load_34 4 rfl ?_
    refine R_aload_n F dX10_load_36 rfl 0 rfl ?_
    refine gm_3 F in_load dX10_load_37 ?_
    refine R_iload_n F dX10_load_40 rfl 3 rfl ?_
    refine R_ldi F qm_3 dX10_load_41 hw.1 ?_
    replace hw := hw.2
    refine R_icmp_ge (tgt := 91) F dX10_load_42 (by decide) (fun hc => ?_) (fun hc => ?_)
    · replace hw := hw.1 hc
      refine R_iinc (q := 3) (v := (l3 + 1)) (lv' := [(3, .int (l3 + 1)), (0, .ref (B 0)), (1, .int l1), (2, .int l2), (4, .int l4)]) F dX10_load_91 rfl rfl (by decide) rfl ?_
      refine R_goto (tgt := 23) F dX10_load_94 (by decide) ?_
      exact R_sub [1, 2, 3, 0] rfl (U_23 l1 l2 (l3 + 1) σ hw)
    · replace hw := hw.2 hc
      refine R_aload_n F dX10_load_45 rfl 0 rfl ?_
      refine gm_7 F in_load dX10_load_46 ?_
      refine R_iconst F 4 dX10_load_49 (by decide) ?_
      refine R_iload_n F dX10_load_50 rfl 3 rfl ?_
      refine R_imul F dX10_load_51 ?_
      refine R_iload F dX10_load_52 4 rfl ?_
      refine R_iadd F dX10_load_54 ?_
      refine R_ldi F qm_7 dX10_load_55 hw.1 ?_
      replace hw := hw.2
      refine R_iload_n F dX10_load_56 rfl 1 rfl ?_
      refine R_icmp_ne (tgt := 85) F dX10_load_57 (by decide) (fun hc => ?_) (fun hc => ?_)
      · replace hw := hw.1 hc
        exact R_sub [0, 1, 2, 3, 4] rfl (J_85 l1 l2 l3 l4 σ hw)
      · replace hw := hw.2 hc
        refine R_iload_n F dX10_load_60 rfl 2 rfl ?_
        refine R_iconst F 1 dX10_load_61 (by decide) ?_
        refine R_aload_n F dX10_load_62 rfl 0 rfl ?_
        refine gm_2 F in_load dX10_load_63 ?_
        refine R_iload_n F dX10_load_66 rfl 3 rfl ?_
        refine R_ldi F qm_2 dX10_load_67 hw.1 ?_
        replace hw := hw.2
        refine R_iconst F 5 dX10_load_68 (by decide) ?_
        refine R_icmp_ne (tgt := 76) F dX10_load_69 (by decide) (fun hc => ?_) (fun hc => ?_)
        · replace hw := hw.1 hc
          refine R_aload_n F dX10_load_76 rfl 0 rfl ?_
          refine gm_5 F in_load dX10_load_77 ?_
          refine R_iload_n F dX10_load_80 rfl 3 rfl ?_
          refine R_ldi F qm_5 dX10_load_81 hw.1 ?_
          replace hw := hw.2
          exact R_sub [0, 1, 3, 4] rfl (J_82 l1 l3 l4 (rd σ 5 l3) 1 l2 σ hw)
        · replace hw := hw.2 hc
          refine R_iconst F 0 dX10_load_72 (by decide) ?_
          refine R_goto (tgt := 82) F dX10_load_73 (by decide) ?_
          exact R_sub [0, 1, 3, 4] rfl (J_82 l1 l3 l4 0 1 l2 σ hw)
  unfold wp_load at hw
  replace hw := hw X23 X34 C_23 C_34
  refine R_aload_n F dX10_load_0 rfl 0 rfl ?_
  refine gm_2 F in_load dX10_load_1 ?_
  refine R_iload_n F dX10_load_4 rfl 1 rfl ?_
  refine R_ldi F qm_2 dX10_load_5 hw.1 ?_
  replace hw := hw.2
  refine R_iconst F 5 dX10_load_6 (by decide) ?_
  refine R_icmp_ne (tgt := 14) F dX10_load_7 (by decide) (fun hc => ?_) (fun hc => ?_)
  · replace hw := hw.1 hc
    refine R_aload_n F dX10_load_14 rfl 0 rfl ?_
    refine gm_6 F in_load dX10_load_15 ?_
    refine R_iload_n F dX10_load_18 rfl 1 rfl ?_
    refine R_ldi F qm_6 dX10_load_19 hw.1 ?_
    replace hw := hw.2
    exact R_sub [0, 1] rfl (J_20 p1 (rd σ 6 p1) σ hw)
  · replace hw := hw.2 hc
    refine R_iconst F 0 dX10_load_10 (by decide) ?_
    refine R_goto (tgt := 20) F dX10_load_11 (by decide) ?_
    exact R_sub [0, 1] rfl (J_20 p1 0 σ hw)
def b_worstOf_79 (X10 : Int32 → Int32 → Int32 → VS → Prop) (Q : Int32 → VS → Prop) (l1 : Int32) (l2 : Int32) (l3 : Int32) (σ : VS) : Prop := X10 l1 l2 (l3 + (-1)) σ
def b_worstOf_77 (X10 : Int32 → Int32 → Int32 → VS → Prop) (Q : Int32 → VS → Prop) (l1 : Int32) (l3 : Int32) (σ : VS) : Prop := b_worstOf_79 X10 Q l1 l3 l3 σ
def b_worstOf_74 (X10 : Int32 → Int32 → Int32 → VS → Prop) (Q : Int32 → VS → Prop) (l1 : Int32) (l2 : Int32) (l3 : Int32) (k0 : Int32) (k1 : Int32) (σ : VS) : Prop := ((k0.toInt < k1.toInt → b_worstOf_79 X10 Q l1 l2 l3 σ) ∧ (k1.toInt ≤ k0.toInt → b_worstOf_77 X10 Q l1 l3 σ))
def b_worstOf_45 (X10 : Int32 → Int32 → Int32 → VS → Prop) (Q : Int32 → VS → Prop) (l1 : Int32) (l2 : Int32) (l3 : Int32) (k0 : Int32) (σ : VS) : Prop := ((l2.toInt = (-5) → b_worstOf_77 X10 Q l1 l3 σ) ∧ (l2.toInt ≠ (-5) → ((l1.toInt = 0 → (In l2 50 ∧ b_worstOf_74 X10 Q l1 l2 l3 (rd σ 46 l2) k0 σ)) ∧ (l1.toInt ≠ 0 → (In l2 50 ∧ b_worstOf_74 X10 Q l1 l2 l3 (rd σ 47 l2) k0 σ)))))
def b_worstOf_10 (X10 : Int32 → Int32 → Int32 → VS → Prop) (Q : Int32 → VS → Prop) (l1 : Int32) (l2 : Int32) (l3 : Int32) (σ : VS) : Prop := ((l3.toInt < 0 → Q l2 σ) ∧ (0 ≤ l3.toInt → (In l3 50 ∧ (((rd σ 45 l3).toInt ≠ 0 → ((l1.toInt = 0 → (In l3 50 ∧ b_worstOf_45 X10 Q l1 l2 l3 (rd σ 46 l3) σ)) ∧ (l1.toInt ≠ 0 → (In l3 50 ∧ b_worstOf_45 X10 Q l1 l2 l3 (rd σ 47 l3) σ)))) ∧ ((rd σ 45 l3).toInt = 0 → b_worstOf_79 X10 Q l1 l2 l3 σ)))))
def wp_worstOf (Q : Int32 → VS → Prop) (p1 : Int32) (σ : VS) : Prop := ∀ (X10 : Int32 → Int32 → Int32 → VS → Prop), (∀ (l1 : Int32) (l2 : Int32) (l3 : Int32) (σ : VS), b_worstOf_10 X10 Q l1 l2 l3 σ → X10 l1 l2 l3 σ) → (∀ x1 : Int32, x1 = ((σ.1 1) - 1) → X10 p1 (-5) x1 σ)
theorem dX10_worstOf_0 : decode cX10_worstOf 0 = .ok (.bipush (-5), 2) := by decide +kernel
theorem dX10_worstOf_2 : decode cX10_worstOf 2 = .ok (.istore_n 2, 1) := by decide +kernel
theorem dX10_worstOf_3 : decode cX10_worstOf 3 = .ok (.aload_n 0, 1) := by decide +kernel
theorem dX10_worstOf_4 : decode cX10_worstOf 4 = .ok (.getfield 7, 3) := by decide +kernel
theorem dX10_worstOf_7 : decode cX10_worstOf 7 = .ok (.iconst 1, 1) := by decide +kernel
theorem dX10_worstOf_8 : decode cX10_worstOf 8 = .ok (.isub, 1) := by decide +kernel
theorem dX10_worstOf_9 : decode cX10_worstOf 9 = .ok (.istore_n 3, 1) := by decide +kernel
theorem dX10_worstOf_10 : decode cX10_worstOf 10 = .ok (.iload_n 3, 1) := by decide +kernel
theorem dX10_worstOf_11 : decode cX10_worstOf 11 = .ok (.ifCond .lt 74, 3) := by decide +kernel
theorem dX10_worstOf_85 : decode cX10_worstOf 85 = .ok (.iload_n 2, 1) := by decide +kernel
theorem dX10_worstOf_86 : decode cX10_worstOf 86 = .ok (.ireturn, 1) := by decide +kernel
theorem dX10_worstOf_14 : decode cX10_worstOf 14 = .ok (.aload_n 0, 1) := by decide +kernel
theorem dX10_worstOf_15 : decode cX10_worstOf 15 = .ok (.getfield 150, 3) := by decide +kernel
theorem dX10_worstOf_18 : decode cX10_worstOf 18 = .ok (.iload_n 3, 1) := by decide +kernel
theorem dX10_worstOf_19 : decode cX10_worstOf 19 = .ok (.iaload, 1) := by decide +kernel
theorem dX10_worstOf_20 : decode cX10_worstOf 20 = .ok (.ifCond .ne 6, 3) := by decide +kernel
theorem dX10_worstOf_26 : decode cX10_worstOf 26 = .ok (.iload_n 1, 1) := by decide +kernel
theorem dX10_worstOf_27 : decode cX10_worstOf 27 = .ok (.ifCond .eq 12, 3) := by decide +kernel
theorem dX10_worstOf_39 : decode cX10_worstOf 39 = .ok (.aload_n 0, 1) := by decide +kernel
theorem dX10_worstOf_40 : decode cX10_worstOf 40 = .ok (.getfield 153, 3) := by decide +kernel
theorem dX10_worstOf_43 : decode cX10_worstOf 43 = .ok (.iload_n 3, 1) := by decide +kernel
theorem dX10_worstOf_44 : decode cX10_worstOf 44 = .ok (.iaload, 1) := by decide +kernel
theorem dX10_worstOf_30 : decode cX10_worstOf 30 = .ok (.aload_n 0, 1) := by decide +kernel
theorem dX10_worstOf_31 : decode cX10_worstOf 31 = .ok (.getfield 156, 3) := by decide +kernel
theorem dX10_worstOf_34 : decode cX10_worstOf 34 = .ok (.iload_n 3, 1) := by decide +kernel
theorem dX10_worstOf_35 : decode cX10_worstOf 35 = .ok (.iaload, 1) := by decide +kernel
theorem dX10_worstOf_36 : decode cX10_worstOf 36 = .ok (.goto 9, 3) := by decide +kernel
theorem dX10_worstOf_23 : decode cX10_worstOf 23 = .ok (.goto 56, 3) := by decide +kernel
theorem dX10_worstOf_45 : decode cX10_worstOf 45 = .ok (.istore 4, 2) := by decide +kernel
theorem dX10_worstOf_47 : decode cX10_worstOf 47 = .ok (.iload_n 2, 1) := by decide +kernel
theorem dX10_worstOf_48 : decode cX10_worstOf 48 = .ok (.bipush (-5), 2) := by decide +kernel
theorem dX10_worstOf_50 : decode cX10_worstOf 50 = .ok (.if_icmp .eq 27, 3) := by decide +kernel
theorem dX10_worstOf_53 : decode cX10_worstOf 53 = .ok (.iload 4, 2) := by decide +kernel
theorem dX10_worstOf_55 : decode cX10_worstOf 55 = .ok (.iload_n 1, 1) := by decide +kernel
theorem dX10_worstOf_56 : decode cX10_worstOf 56 = .ok (.ifCond .eq 12, 3) := by decide +kernel
theorem dX10_worstOf_68 : decode cX10_worstOf 68 = .ok (.aload_n 0, 1) := by decide +kernel
theorem dX10_worstOf_69 : decode cX10_worstOf 69 = .ok (.getfield 153, 3) := by decide +kernel
theorem dX10_worstOf_72 : decode cX10_worstOf 72 = .ok (.iload_n 2, 1) := by decide +kernel
theorem dX10_worstOf_73 : decode cX10_worstOf 73 = .ok (.iaload, 1) := by decide +kernel
theorem dX10_worstOf_59 : decode cX10_worstOf 59 = .ok (.aload_n 0, 1) := by decide +kernel
theorem dX10_worstOf_60 : decode cX10_worstOf 60 = .ok (.getfield 156, 3) := by decide +kernel
theorem dX10_worstOf_63 : decode cX10_worstOf 63 = .ok (.iload_n 2, 1) := by decide +kernel
theorem dX10_worstOf_64 : decode cX10_worstOf 64 = .ok (.iaload, 1) := by decide +kernel
theorem dX10_worstOf_65 : decode cX10_worstOf 65 = .ok (.goto 9, 3) := by decide +kernel
theorem dX10_worstOf_79 : decode cX10_worstOf 79 = .ok (.iinc 3 (-1), 3) := by decide +kernel
theorem dX10_worstOf_82 : decode cX10_worstOf 82 = .ok (.goto (-72), 3) := by decide +kernel
theorem dX10_worstOf_77 : decode cX10_worstOf 77 = .ok (.iload_n 3, 1) := by decide +kernel
theorem dX10_worstOf_78 : decode cX10_worstOf 78 = .ok (.istore_n 2, 1) := by decide +kernel
theorem dX10_worstOf_74 : decode cX10_worstOf 74 = .ok (.if_icmp .gt 5, 3) := by decide +kernel
def wo_worstOf : List Cond := [.code yX10_worstOf cX10_worstOf 5 (some .int)]
def wr_worstOf : List Cond := (wfX10 ++ ([]))
def w_worstOf : List Cond := wo_worstOf ++ wr_worstOf
theorem wg_worstOf : GW w_worstOf := GW_app (GW_of (by decide +kernel)) (GW_app (wg_fX10) (GW_nil))
theorem in_worstOf : ∀ w ∈ wfX10, w ∈ w_worstOf := fun _ h => List.mem_append_right _ (List.mem_append_left _ h)
set_option maxHeartbeats 4000000 in
set_option maxRecDepth 100000 in
theorem ct_worstOf (l : Launch) (E : gE) (B : Nat → Nat) (Q : Int32 → VS → Prop) (p1 : Int32) (σ : VS) (hw : wp_worstOf Q p1 σ) : CtI l E yX10_worstOf w_worstOf (({ frames := 0, cells := 0, slots := 0, locals := 0 } : Room)) (wm E B σ) [.ref (B 0), .int p1] (fun r w => ∃ σ' : VS, Q r σ' ∧ w = wm E B σ') := by
  refine VC_I (cc := cX10_worstOf) (mL := 5) (rt := (some .int)) (lv0 := [(0, .ref (B 0)), (1, .int p1)]) rfl (by decide) rfl (Nat.le_of_ble_eq_true rfl) ?_
  intro p e s m below meth c A F
  replace F : Fx p s m _ meth c A E cX10_worstOf 5 (some .int) RX10 w_worstOf := F
  obtain ⟨X10, hX10⟩ : ∃ X : Int32 → Int32 → Int32 → VS → Prop, X = fun l1 l2 l3 σ => WB p l e (({ frames := 0, cells := 0, slots := 0, locals := 0 } : Room)) s m (#[.ref (B 0), .int p1]) below meth c (MQ below (va_Qi (fun r w => ∃ σ' : VS, Q r σ' ∧ w = wm E B σ') (AftU E A) A) (#[.ref (B 0), .int p1]) s (({ frames := 0, cells := 0, slots := 0, locals := 0 } : Room)).cells (({ frames := 0, cells := 0, slots := 0, locals := 0 } : Room)).slots A) A E (wm E B) 5 10 [(0, .ref (B 0)), (1, .int l1), (2, .int l2), (3, .int l3)] [] σ := ⟨_, rfl⟩
  have U_10 : ∀ (l1 : Int32) (l2 : Int32) (l3 : Int32) (σ : VS), X10 l1 l2 l3 σ → WB p l e (({ frames := 0, cells := 0, slots := 0, locals := 0 } : Room)) s m (#[.ref (B 0), .int p1]) below meth c (MQ below (va_Qi (fun r w => ∃ σ' : VS, Q r σ' ∧ w = wm E B σ') (AftU E A) A) (#[.ref (B 0), .int p1]) s (({ frames := 0, cells := 0, slots := 0, locals := 0 } : Room)).cells (({ frames := 0, cells := 0, slots := 0, locals := 0 } : Room)).slots A) A E (wm E B) 5 10 [(0, .ref (B 0)), (1, .int l1), (2, .int l2), (3, .int l3)] [] σ := by
    intro l1 l2 l3 σ hw; rw [hX10] at hw; exact hw
  have J_79 : ∀ (l1 : Int32) (l2 : Int32) (l3 : Int32) (σ : VS), b_worstOf_79 X10 Q l1 l2 l3 σ → WB p l e (({ frames := 0, cells := 0, slots := 0, locals := 0 } : Room)) s m (#[.ref (B 0), .int p1]) below meth c (MQ below (va_Qi (fun r w => ∃ σ' : VS, Q r σ' ∧ w = wm E B σ') (AftU E A) A) (#[.ref (B 0), .int p1]) s (({ frames := 0, cells := 0, slots := 0, locals := 0 } : Room)).cells (({ frames := 0, cells := 0, slots := 0, locals := 0 } : Room)).slots A) A E (wm E B) 5 79 [(0, .ref (B 0)), (1, .int l1), (2, .int l2), (3, .int l3)] [] σ := by
    intro l1 l2 l3 σ hw
    unfold b_worstOf_79 at hw
    refine R_iinc (q := 3) (v := (l3 + (-1))) (lv' := [(3, .int (l3 + (-1))), (0, .ref (B 0)), (1, .int l1), (2, .int l2)]) F dX10_worstOf_79 rfl rfl (by decide) rfl ?_
    refine R_goto (tgt := 10) F dX10_worstOf_82 (by decide) ?_
    exact R_sub [1, 2, 3, 0] rfl (U_10 l1 l2 (l3 + (-1)) σ hw)
  have J_77 : ∀ (l1 : Int32) (l3 : Int32) (σ : VS), b_worstOf_77 X10 Q l1 l3 σ → WB p l e (({ frames := 0, cells := 0, slots := 0, locals := 0 } : Room)) s m (#[.ref (B 0), .int p1]) below meth c (MQ below (va_Qi (fun r w => ∃ σ' : VS, Q r σ' ∧ w = wm E B σ') (AftU E A) A) (#[.ref (B 0), .int p1]) s (({ frames := 0, cells := 0, slots := 0, locals := 0 } : Room)).cells (({ frames := 0, cells := 0, slots := 0, locals := 0 } : Room)).slots A) A E (wm E B) 5 77 [(0, .ref (B 0)), (1, .int l1), (3, .int l3)] [] σ := by
    intro l1 l3 σ hw
    unfold b_worstOf_77 at hw
    refine R_iload_n F dX10_worstOf_77 rfl 2 rfl ?_
    refine R_istore_n (lv' := [(2, .int l3), (0, .ref (B 0)), (1, .int l1), (3, .int l3)]) F dX10_worstOf_78 rfl (by decide) rfl ?_
    exact R_sub [1, 2, 0, 3] rfl (J_79 l1 l3 l3 σ hw)
  have J_74 : ∀ (l1 : Int32) (l2 : Int32) (l3 : Int32) (k0 : Int32) (k1 : Int32) (σ : VS), b_worstOf_74 X10 Q l1 l2 l3 k0 k1 σ → WB p l e (({ frames := 0, cells := 0, slots := 0, locals := 0 } : Room)) s m (#[.ref (B 0), .int p1]) below meth c (MQ below (va_Qi (fun r w => ∃ σ' : VS, Q r σ' ∧ w = wm E B σ') (AftU E A) A) (#[.ref (B 0), .int p1]) s (({ frames := 0, cells := 0, slots := 0, locals := 0 } : Room)).cells (({ frames := 0, cells := 0, slots := 0, locals := 0 } : Room)).slots A) A E (wm E B) 5 74 [(0, .ref (B 0)), (1, .int l1), (2, .int l2), (3, .int l3)] [.int k0, .int k1] σ := by
    intro l1 l2 l3 k0 k1 σ hw
    unfold b_worstOf_74 at hw
    refine R_icmp_gt (tgt := 79) F dX10_worstOf_74 (by decide) (fun hc => ?_) (fun hc => ?_)
    · replace hw := hw.1 hc
      exact R_sub [0, 1, 2, 3] rfl (J_79 l1 l2 l3 σ hw)
    · replace hw := hw.2 hc
      exact R_sub [0, 1, 3] rfl (J_77 l1 l3 σ hw)
  have J_45 : ∀ (l1 : Int32) (l2 : Int32) (l3 : Int32) (k0 : Int32) (σ : VS), b_worstOf_45 X10 Q l1 l2 l3 k0 σ → WB p l e (({ frames := 0, cells := 0, slots := 0, locals := 0 } : Room)) s m (#[.ref (B 0), .int p1]) below meth c (MQ below (va_Qi (fun r w => ∃ σ' : VS, Q r σ' ∧ w = wm E B σ') (AftU E A) A) (#[.ref (B 0), .int p1]) s (({ frames := 0, cells := 0, slots := 0, locals := 0 } : Room)).cells (({ frames := 0, cells := 0, slots := 0, locals := 0 } : Room)).slots A) A E (wm E B) 5 45 [(0, .ref (B 0)), (1, .int l1), (2, .int l2), (3, .int l3)] [.int k0] σ := by
    intro l1 l2 l3 k0 σ hw
    unfold b_worstOf_45 at hw
    refine R_istore (lv' := [(4, .int k0), (0, .ref (B 0)), (1, .int l1), (2, .int l2), (3, .int l3)]) F dX10_worstOf_45 (by decide) rfl ?_
    refine R_iload_n F dX10_worstOf_47 rfl 3 rfl ?_
    refine R_bipush F (-5) dX10_worstOf_48 (by decide) ?_
    refine R_icmp_eq (tgt := 77) F dX10_worstOf_50 (by decide) (fun hc => ?_) (fun hc => ?_)
    · replace hw := hw.1 hc
      exact R_sub [1, 2, 4] rfl (J_77 l1 l3 σ hw)
    · replace hw := hw.2 hc
      refine R_iload F dX10_worstOf_53 0 rfl ?_
      refine R_iload_n F dX10_worstOf_55 rfl 2 rfl ?_
      refine R_if_eq (tgt := 68) F dX10_worstOf_56 (by decide) (fun hc => ?_) (fun hc => ?_)
      · replace hw := hw.1 hc
        refine R_aload_n F dX10_worstOf_68 rfl 1 rfl ?_
        refine gm_46 F in_worstOf dX10_worstOf_69 ?_
        refine R_iload_n F dX10_worstOf_72 rfl 3 rfl ?_
        refine R_ldi F qm_46 dX10_worstOf_73 hw.1 ?_
        replace hw := hw.2
        exact R_sub [1, 2, 3, 4] rfl (J_74 l1 l2 l3 (rd σ 46 l2) k0 σ hw)
      · replace hw := hw.2 hc
        refine R_aload_n F dX10_worstOf_59 rfl 1 rfl ?_
        refine gm_47 F in_worstOf dX10_worstOf_60 ?_
        refine R_iload_n F dX10_worstOf_63 rfl 3 rfl ?_
        refine R_ldi F qm_47 dX10_worstOf_64 hw.1 ?_
        replace hw := hw.2
        refine R_goto (tgt := 74) F dX10_worstOf_65 (by decide) ?_
        exact R_sub [1, 2, 3, 4] rfl (J_74 l1 l2 l3 (rd σ 47 l2) k0 σ hw)
  have C_10 : ∀ (l1 : Int32) (l2 : Int32) (l3 : Int32) (σ : VS), b_worstOf_10 X10 Q l1 l2 l3 σ → X10 l1 l2 l3 σ := by
    intro l1 l2 l3 σ hw
    unfold b_worstOf_10 at hw
    rw [hX10]
    show WB p l e (({ frames := 0, cells := 0, slots := 0, locals := 0 } : Room)) s m (#[.ref (B 0), .int p1]) below meth c (MQ below (va_Qi (fun r w => ∃ σ' : VS, Q r σ' ∧ w = wm E B σ') (AftU E A) A) (#[.ref (B 0), .int p1]) s (({ frames := 0, cells := 0, slots := 0, locals := 0 } : Room)).cells (({ frames := 0, cells := 0, slots := 0, locals := 0 } : Room)).slots A) A E (wm E B) 5 10 [(0, .ref (B 0)), (1, .int l1), (2, .int l2), (3, .int l3)] [] σ
    refine R_iload_n F dX10_worstOf_10 rfl 3 rfl ?_
    refine R_if_lt (tgt := 85) F dX10_worstOf_11 (by decide) (fun hc => ?_) (fun hc => ?_)
    · replace hw := hw.1 hc
      refine R_iload_n F dX10_worstOf_85 rfl 2 rfl ?_
      exact R_iret (Qc := Q) F rfl dX10_worstOf_86 hw
    · replace hw := hw.2 hc
      refine R_aload_n F dX10_worstOf_14 rfl 0 rfl ?_
      refine gm_45 F in_worstOf dX10_worstOf_15 ?_
      refine R_iload_n F dX10_worstOf_18 rfl 3 rfl ?_
      refine R_ldi F qm_45 dX10_worstOf_19 hw.1 ?_
      replace hw := hw.2
      refine R_if_ne (tgt := 26) F dX10_worstOf_20 (by decide) (fun hc => ?_) (fun hc => ?_)
      · replace hw := hw.1 hc
        refine R_iload_n F dX10_worstOf_26 rfl 1 rfl ?_
        refine R_if_eq (tgt := 39) F dX10_worstOf_27 (by decide) (fun hc => ?_) (fun hc => ?_)
        · replace hw := hw.1 hc
          refine R_aload_n F dX10_worstOf_39 rfl 0 rfl ?_
          refine gm_46 F in_worstOf dX10_worstOf_40 ?_
          refine R_iload_n F dX10_worstOf_43 rfl 3 rfl ?_
          refine R_ldi F qm_46 dX10_worstOf_44 hw.1 ?_
          replace hw := hw.2
          exact R_sub [0, 1, 2, 3] rfl (J_45 l1 l2 l3 (rd σ 46 l3) σ hw)
        · replace hw := hw.2 hc
          refine R_aload_n F dX10_worstOf_30 rfl 0 rfl ?_
          refine gm_47 F in_worstOf dX10_worstOf_31 ?_
          refine R_iload_n F dX10_worstOf_34 rfl 3 rfl ?_
          refine R_ldi F qm_47 dX10_worstOf_35 hw.1 ?_
          replace hw := hw.2
          refine R_goto (tgt := 45) F dX10_worstOf_36 (by decide) ?_
          exact R_sub [0, 1, 2, 3] rfl (J_45 l1 l2 l3 (rd σ 47 l3) σ hw)
      · replace hw := hw.2 hc
        refine R_goto (tgt := 79) F dX10_worstOf_23 (by decide) ?_
        exact R_sub [0, 1, 2, 3] rfl (J_79 l1 l2 l3 σ hw)
  unfold wp_worstOf at hw
  replace hw := hw X10 C_10
  refine R_bipush F (-5) dX10_worstOf_0 (by decide) ?_
  refine R_istore_n (lv' := [(2, .int (-5)), (0, .ref (B 0)), (1, .int p1)]) F dX10_worstOf_2 rfl (by decide) rfl ?_
  refine R_aload_n F dX10_worstOf_3 rfl 1 rfl ?_
  refine gm_1 F in_worstOf dX10_worstOf_4 ?_
  refine R_iconst F 1 dX10_worstOf_7 (by decide) ?_
  refine R_isub F dX10_worstOf_8 ?_
  refine R_topi (fun x1 ex1 => ?_)
  replace hw := hw x1 ex1
  refine R_istore_n (lv' := [(3, .int x1), (2, .int (-5)), (0, .ref (B 0)), (1, .int p1)]) F dX10_worstOf_9 rfl (by decide) rfl ?_
  exact R_sub [2, 3, 1, 0] rfl (U_10 p1 (-5) x1 σ hw)
