def b_X8putStepS_60 (Q : VS → Prop) (σ : VS) : Prop := Q σ
def wp_X8putStepS (Q : VS → Prop) (p1 : Int32) (p2 : Int32) (p3 : Int32) (p4 : Int32) (σ : VS) : Prop := ((51 ≤ (σ.1 16).toInt → b_X8putStepS_60 Q σ) ∧ ((σ.1 16).toInt < 51 → (In (σ.1 16) 51 ∧ (In ((sa σ 55 (σ.1 16) p1).1 16) 51 ∧ (In ((sa (sa σ 55 (σ.1 16) p1) 56 ((sa σ 55 (σ.1 16) p1).1 16) p2).1 16) 51 ∧ (In ((sa (sa (sa σ 55 (σ.1 16) p1) 56 ((sa σ 55 (σ.1 16) p1).1 16) p2) 57 ((sa (sa σ 55 (σ.1 16) p1) 56 ((sa σ 55 (σ.1 16) p1).1 16) p2).1 16) p3).1 16) 51 ∧ b_X8putStepS_60 Q (sf (sa (sa (sa (sa σ 55 (σ.1 16) p1) 56 ((sa σ 55 (σ.1 16) p1).1 16) p2) 57 ((sa (sa σ 55 (σ.1 16) p1) 56 ((sa σ 55 (σ.1 16) p1).1 16) p2).1 16) p3) 58 ((sa (sa (sa σ 55 (σ.1 16) p1) 56 ((sa σ 55 (σ.1 16) p1).1 16) p2) 57 ((sa (sa σ 55 (σ.1 16) p1) 56 ((sa σ 55 (σ.1 16) p1).1 16) p2).1 16) p3).1 16) p4) 16 (((sa (sa (sa (sa σ 55 (σ.1 16) p1) 56 ((sa σ 55 (σ.1 16) p1).1 16) p2) 57 ((sa (sa σ 55 (σ.1 16) p1) 56 ((sa σ 55 (σ.1 16) p1).1 16) p2).1 16) p3) 58 ((sa (sa (sa σ 55 (σ.1 16) p1) 56 ((sa σ 55 (σ.1 16) p1).1 16) p2) 57 ((sa (sa σ 55 (σ.1 16) p1) 56 ((sa σ 55 (σ.1 16) p1).1 16) p2).1 16) p3).1 16) p4).1 16) + 1))))))))
theorem dX8_putStep_0 : decode cX8_putStep 0 = .ok (.aload_n 0, 1) := by decide +kernel
theorem dX8_putStep_1 : decode cX8_putStep 1 = .ok (.getfield 24, 3) := by decide +kernel
theorem dX8_putStep_4 : decode cX8_putStep 4 = .ok (.bipush 51, 2) := by decide +kernel
theorem dX8_putStep_6 : decode cX8_putStep 6 = .ok (.if_icmp .ge 54, 3) := by decide +kernel
theorem dX8_putStep_9 : decode cX8_putStep 9 = .ok (.aload_n 0, 1) := by decide +kernel
theorem dX8_putStep_10 : decode cX8_putStep 10 = .ok (.getfield 9, 3) := by decide +kernel
theorem dX8_putStep_13 : decode cX8_putStep 13 = .ok (.aload_n 0, 1) := by decide +kernel
theorem dX8_putStep_14 : decode cX8_putStep 14 = .ok (.getfield 24, 3) := by decide +kernel
theorem dX8_putStep_17 : decode cX8_putStep 17 = .ok (.iload_n 1, 1) := by decide +kernel
theorem dX8_putStep_18 : decode cX8_putStep 18 = .ok (.iastore, 1) := by decide +kernel
theorem dX8_putStep_19 : decode cX8_putStep 19 = .ok (.aload_n 0, 1) := by decide +kernel
theorem dX8_putStep_20 : decode cX8_putStep 20 = .ok (.getfield 15, 3) := by decide +kernel
theorem dX8_putStep_23 : decode cX8_putStep 23 = .ok (.aload_n 0, 1) := by decide +kernel
theorem dX8_putStep_24 : decode cX8_putStep 24 = .ok (.getfield 24, 3) := by decide +kernel
theorem dX8_putStep_27 : decode cX8_putStep 27 = .ok (.iload_n 2, 1) := by decide +kernel
theorem dX8_putStep_28 : decode cX8_putStep 28 = .ok (.iastore, 1) := by decide +kernel
theorem dX8_putStep_29 : decode cX8_putStep 29 = .ok (.aload_n 0, 1) := by decide +kernel
theorem dX8_putStep_30 : decode cX8_putStep 30 = .ok (.getfield 18, 3) := by decide +kernel
theorem dX8_putStep_33 : decode cX8_putStep 33 = .ok (.aload_n 0, 1) := by decide +kernel
theorem dX8_putStep_34 : decode cX8_putStep 34 = .ok (.getfield 24, 3) := by decide +kernel
theorem dX8_putStep_37 : decode cX8_putStep 37 = .ok (.iload_n 3, 1) := by decide +kernel
theorem dX8_putStep_38 : decode cX8_putStep 38 = .ok (.iastore, 1) := by decide +kernel
theorem dX8_putStep_39 : decode cX8_putStep 39 = .ok (.aload_n 0, 1) := by decide +kernel
theorem dX8_putStep_40 : decode cX8_putStep 40 = .ok (.getfield 21, 3) := by decide +kernel
theorem dX8_putStep_43 : decode cX8_putStep 43 = .ok (.aload_n 0, 1) := by decide +kernel
theorem dX8_putStep_44 : decode cX8_putStep 44 = .ok (.getfield 24, 3) := by decide +kernel
theorem dX8_putStep_47 : decode cX8_putStep 47 = .ok (.iload 4, 2) := by decide +kernel
theorem dX8_putStep_49 : decode cX8_putStep 49 = .ok (.iastore, 1) := by decide +kernel
theorem dX8_putStep_50 : decode cX8_putStep 50 = .ok (.aload_n 0, 1) := by decide +kernel
theorem dX8_putStep_51 : decode cX8_putStep 51 = .ok (.dup, 1) := by decide +kernel
theorem dX8_putStep_52 : decode cX8_putStep 52 = .ok (.getfield 24, 3) := by decide +kernel
theorem dX8_putStep_55 : decode cX8_putStep 55 = .ok (.iconst 1, 1) := by decide +kernel
theorem dX8_putStep_56 : decode cX8_putStep 56 = .ok (.iadd, 1) := by decide +kernel
theorem dX8_putStep_57 : decode cX8_putStep 57 = .ok (.putfield 24, 3) := by decide +kernel
theorem dX8_putStep_60 : decode cX8_putStep 60 = .ok (.return_, 1) := by decide +kernel
def wo_X8putStepS : List Cond := [.code yX8_putStep cX8_putStep 5 none]
def wr_X8putStepS : List Cond := (wfC ++ ([]))
def w_X8putStepS : List Cond := wo_X8putStepS ++ wr_X8putStepS
theorem wg_X8putStepS : GW w_X8putStepS := GW_app (GW_of (by decide +kernel)) (GW_app (wg_fC) (GW_nil))
theorem in_X8putStepS : ∀ w ∈ wfC, w ∈ w_X8putStepS := fun _ h => List.mem_append_right _ (List.mem_append_left _ h)
set_option maxHeartbeats 4000000 in
set_option maxRecDepth 100000 in
theorem ct_X8putStepS (l : Launch) (E : gE) (B : Nat → Nat) (Q : VS → Prop) (p1 : Int32) (p2 : Int32) (p3 : Int32) (p4 : Int32) (σ : VS) (hw : wp_X8putStepS Q p1 p2 p3 p4 σ) : CtV l E yX8_putStep w_X8putStepS (({ frames := 0, cells := 0, slots := 0, locals := 0 } : Room)) (wc E B σ) [.ref (B 9), .int p1, .int p2, .int p3, .int p4] (fun w => ∃ σ' : VS, Q σ' ∧ w = wc E B σ') := by
  refine VC_V (cc := cX8_putStep) (mL := 5) (rt := none) (lv0 := [(0, .ref (B 9)), (1, .int p1), (2, .int p2), (3, .int p3), (4, .int p4)]) rfl (by decide) rfl (Nat.le_of_ble_eq_true rfl) ?_
  intro p e s m below meth c A F
  replace F : Fx p s m _ meth c A E cX8_putStep 5 none RX8 w_X8putStepS := F
  have J_60 : ∀ (σ : VS), b_X8putStepS_60 Q σ → WB p l e (({ frames := 0, cells := 0, slots := 0, locals := 0 } : Room)) s m (#[.ref (B 9), .int p1, .int p2, .int p3, .int p4]) below meth c (MQ below (va_Qv (fun w => ∃ σ' : VS, Q σ' ∧ w = wc E B σ') (AftU E A) A) (#[.ref (B 9), .int p1, .int p2, .int p3, .int p4]) s (({ frames := 0, cells := 0, slots := 0, locals := 0 } : Room)).cells (({ frames := 0, cells := 0, slots := 0, locals := 0 } : Room)).slots A) A E (wc E B) 5 60 [] [] σ := by
    intro σ hw
    unfold b_X8putStepS_60 at hw
    exact R_vret (Qc := Q) F dX8_putStep_60 hw
  unfold wp_X8putStepS at hw
  refine R_aload_n F dX8_putStep_0 rfl 0 rfl ?_
  refine gc_RX8_24_9 F in_X8putStepS dX8_putStep_1 ?_
  refine R_bipush F 51 dX8_putStep_4 (by decide) ?_
  refine R_icmp_ge (tgt := 60) F dX8_putStep_6 (by decide) (fun hc => ?_) (fun hc => ?_)
  · replace hw := hw.1 hc
    exact R_sub [] rfl (J_60 σ hw)
  · replace hw := hw.2 hc
    refine R_aload_n F dX8_putStep_9 rfl 0 rfl ?_
    refine gc_RX8_9_9 F in_X8putStepS dX8_putStep_10 ?_
    refine R_aload_n F dX8_putStep_13 rfl 0 rfl ?_
    refine gc_RX8_24_9 F in_X8putStepS dX8_putStep_14 ?_
    refine R_iload_n F dX8_putStep_17 rfl 1 rfl ?_
    have hi := hw.1
    replace hw := hw.2
    refine R_sti F qc_55 uc_55 dX8_putStep_18 hi ?_
    refine R_aload_n F dX8_putStep_19 rfl 0 rfl ?_
    refine gc_RX8_15_9 F in_X8putStepS dX8_putStep_20 ?_
    refine R_aload_n F dX8_putStep_23 rfl 0 rfl ?_
    refine gc_RX8_24_9 F in_X8putStepS dX8_putStep_24 ?_
    refine R_iload_n F dX8_putStep_27 rfl 2 rfl ?_
    have hi := hw.1
    replace hw := hw.2
    refine R_sti F qc_56 uc_56 dX8_putStep_28 hi ?_
    refine R_aload_n F dX8_putStep_29 rfl 0 rfl ?_
    refine gc_RX8_18_9 F in_X8putStepS dX8_putStep_30 ?_
    refine R_aload_n F dX8_putStep_33 rfl 0 rfl ?_
    refine gc_RX8_24_9 F in_X8putStepS dX8_putStep_34 ?_
    refine R_iload_n F dX8_putStep_37 rfl 3 rfl ?_
    have hi := hw.1
    replace hw := hw.2
    refine R_sti F qc_57 uc_57 dX8_putStep_38 hi ?_
    refine R_aload_n F dX8_putStep_39 rfl 0 rfl ?_
    refine gc_RX8_21_9 F in_X8putStepS dX8_putStep_40 ?_
    refine R_aload_n F dX8_putStep_43 rfl 0 rfl ?_
    refine gc_RX8_24_9 F in_X8putStepS dX8_putStep_44 ?_
    refine R_iload F dX8_putStep_47 4 rfl ?_
    have hi := hw.1
    replace hw := hw.2
    refine R_sti F qc_58 uc_58 dX8_putStep_49 hi ?_
    refine R_aload_n F dX8_putStep_50 rfl 0 rfl ?_
    refine R_dup F dX8_putStep_51 rfl ?_
    refine gc_RX8_24_9 F in_X8putStepS dX8_putStep_52 ?_
    refine R_iconst F 1 dX8_putStep_55 (by decide) ?_
    refine R_iadd F dX8_putStep_56 ?_
    refine pc_RX8_24_9 F in_X8putStepS dX8_putStep_57 ?_
    exact R_sub [] rfl (J_60 (sf (sa (sa (sa (sa σ 55 (σ.1 16) p1) 56 ((sa σ 55 (σ.1 16) p1).1 16) p2) 57 ((sa (sa σ 55 (σ.1 16) p1) 56 ((sa σ 55 (σ.1 16) p1).1 16) p2).1 16) p3) 58 ((sa (sa (sa σ 55 (σ.1 16) p1) 56 ((sa σ 55 (σ.1 16) p1).1 16) p2) 57 ((sa (sa σ 55 (σ.1 16) p1) 56 ((sa σ 55 (σ.1 16) p1).1 16) p2).1 16) p3).1 16) p4) 16 (((sa (sa (sa (sa σ 55 (σ.1 16) p1) 56 ((sa σ 55 (σ.1 16) p1).1 16) p2) 57 ((sa (sa σ 55 (σ.1 16) p1) 56 ((sa σ 55 (σ.1 16) p1).1 16) p2).1 16) p3) 58 ((sa (sa (sa σ 55 (σ.1 16) p1) 56 ((sa σ 55 (σ.1 16) p1).1 16) p2) 57 ((sa (sa σ 55 (σ.1 16) p1) 56 ((sa σ 55 (σ.1 16) p1).1 16) p2).1 16) p3).1 16) p4).1 16) + 1)) hw)
def b_X8putStepT_60 (Q : VS → Prop) (σ : VS) : Prop := Q σ
def wp_X8putStepT (Q : VS → Prop) (p1 : Int32) (p2 : Int32) (p3 : Int32) (p4 : Int32) (σ : VS) : Prop := ((51 ≤ (σ.1 19).toInt → b_X8putStepT_60 Q σ) ∧ ((σ.1 19).toInt < 51 → (In (σ.1 19) 51 ∧ (In ((sa σ 59 (σ.1 19) p1).1 19) 51 ∧ (In ((sa (sa σ 59 (σ.1 19) p1) 60 ((sa σ 59 (σ.1 19) p1).1 19) p2).1 19) 51 ∧ (In ((sa (sa (sa σ 59 (σ.1 19) p1) 60 ((sa σ 59 (σ.1 19) p1).1 19) p2) 61 ((sa (sa σ 59 (σ.1 19) p1) 60 ((sa σ 59 (σ.1 19) p1).1 19) p2).1 19) p3).1 19) 51 ∧ b_X8putStepT_60 Q (sf (sa (sa (sa (sa σ 59 (σ.1 19) p1) 60 ((sa σ 59 (σ.1 19) p1).1 19) p2) 61 ((sa (sa σ 59 (σ.1 19) p1) 60 ((sa σ 59 (σ.1 19) p1).1 19) p2).1 19) p3) 62 ((sa (sa (sa σ 59 (σ.1 19) p1) 60 ((sa σ 59 (σ.1 19) p1).1 19) p2) 61 ((sa (sa σ 59 (σ.1 19) p1) 60 ((sa σ 59 (σ.1 19) p1).1 19) p2).1 19) p3).1 19) p4) 19 (((sa (sa (sa (sa σ 59 (σ.1 19) p1) 60 ((sa σ 59 (σ.1 19) p1).1 19) p2) 61 ((sa (sa σ 59 (σ.1 19) p1) 60 ((sa σ 59 (σ.1 19) p1).1 19) p2).1 19) p3) 62 ((sa (sa (sa σ 59 (σ.1 19) p1) 60 ((sa σ 59 (σ.1 19) p1).1 19) p2) 61 ((sa (sa σ 59 (σ.1 19) p1) 60 ((sa σ 59 (σ.1 19) p1).1 19) p2).1 19) p3).1 19) p4).1 19) + 1))))))))
def wo_X8putStepT : List Cond := [.code yX8_putStep cX8_putStep 5 none]
def wr_X8putStepT : List Cond := (wfC ++ ([]))
def w_X8putStepT : List Cond := wo_X8putStepT ++ wr_X8putStepT
theorem wg_X8putStepT : GW w_X8putStepT := GW_app (GW_of (by decide +kernel)) (GW_app (wg_fC) (GW_nil))
theorem in_X8putStepT : ∀ w ∈ wfC, w ∈ w_X8putStepT := fun _ h => List.mem_append_right _ (List.mem_append_left _ h)
set_option maxHeartbeats 4000000 in
set_option maxRecDepth 100000 in
theorem ct_X8putStepT (l : Launch) (E : gE) (B : Nat → Nat) (Q : VS → Prop) (p1 : Int32) (p2 : Int32) (p3 : Int32) (p4 : Int32) (σ : VS) (hw : wp_X8putStepT Q p1 p2 p3 p4 σ) : CtV l E yX8_putStep w_X8putStepT (({ frames := 0, cells := 0, slots := 0, locals := 0 } : Room)) (wc E B σ) [.ref (B 10), .int p1, .int p2, .int p3, .int p4] (fun w => ∃ σ' : VS, Q σ' ∧ w = wc E B σ') := by
  refine VC_V (cc := cX8_putStep) (mL := 5) (rt := none) (lv0 := [(0, .ref (B 10)), (1, .int p1), (2, .int p2), (3, .int p3), (4, .int p4)]) rfl (by decide) rfl (Nat.le_of_ble_eq_true rfl) ?_
  intro p e s m below meth c A F
  replace F : Fx p s m _ meth c A E cX8_putStep 5 none RX8 w_X8putStepT := F
  have J_60 : ∀ (σ : VS), b_X8putStepT_60 Q σ → WB p l e (({ frames := 0, cells := 0, slots := 0, locals := 0 } : Room)) s m (#[.ref (B 10), .int p1, .int p2, .int p3, .int p4]) below meth c (MQ below (va_Qv (fun w => ∃ σ' : VS, Q σ' ∧ w = wc E B σ') (AftU E A) A) (#[.ref (B 10), .int p1, .int p2, .int p3, .int p4]) s (({ frames := 0, cells := 0, slots := 0, locals := 0 } : Room)).cells (({ frames := 0, cells := 0, slots := 0, locals := 0 } : Room)).slots A) A E (wc E B) 5 60 [] [] σ := by
    intro σ hw
    unfold b_X8putStepT_60 at hw
    exact R_vret (Qc := Q) F dX8_putStep_60 hw
  unfold wp_X8putStepT at hw
  refine R_aload_n F dX8_putStep_0 rfl 0 rfl ?_
  refine gc_RX8_24_10 F in_X8putStepT dX8_putStep_1 ?_
  refine R_bipush F 51 dX8_putStep_4 (by decide) ?_
  refine R_icmp_ge (tgt := 60) F dX8_putStep_6 (by decide) (fun hc => ?_) (fun hc => ?_)
  · replace hw := hw.1 hc
    exact R_sub [] rfl (J_60 σ hw)
  · replace hw := hw.2 hc
    refine R_aload_n F dX8_putStep_9 rfl 0 rfl ?_
    refine gc_RX8_9_10 F in_X8putStepT dX8_putStep_10 ?_
    refine R_aload_n F dX8_putStep_13 rfl 0 rfl ?_
    refine gc_RX8_24_10 F in_X8putStepT dX8_putStep_14 ?_
    refine R_iload_n F dX8_putStep_17 rfl 1 rfl ?_
    have hi := hw.1
    replace hw := hw.2
    refine R_sti F qc_59 uc_59 dX8_putStep_18 hi ?_
    refine R_aload_n F dX8_putStep_19 rfl 0 rfl ?_
    refine gc_RX8_15_10 F in_X8putStepT dX8_putStep_20 ?_
    refine R_aload_n F dX8_putStep_23 rfl 0 rfl ?_
    refine gc_RX8_24_10 F in_X8putStepT dX8_putStep_24 ?_
    refine R_iload_n F dX8_putStep_27 rfl 2 rfl ?_
    have hi := hw.1
    replace hw := hw.2
    refine R_sti F qc_60 uc_60 dX8_putStep_28 hi ?_
    refine R_aload_n F dX8_putStep_29 rfl 0 rfl ?_
    refine gc_RX8_18_10 F in_X8putStepT dX8_putStep_30 ?_
    refine R_aload_n F dX8_putStep_33 rfl 0 rfl ?_
    refine gc_RX8_24_10 F in_X8putStepT dX8_putStep_34 ?_
    refine R_iload_n F dX8_putStep_37 rfl 3 rfl ?_
    have hi := hw.1
    replace hw := hw.2
    refine R_sti F qc_61 uc_61 dX8_putStep_38 hi ?_
    refine R_aload_n F dX8_putStep_39 rfl 0 rfl ?_
    refine gc_RX8_21_10 F in_X8putStepT dX8_putStep_40 ?_
    refine R_aload_n F dX8_putStep_43 rfl 0 rfl ?_
    refine gc_RX8_24_10 F in_X8putStepT dX8_putStep_44 ?_
    refine R_iload F dX8_putStep_47 4 rfl ?_
    have hi := hw.1
    replace hw := hw.2
    refine R_sti F qc_62 uc_62 dX8_putStep_49 hi ?_
    refine R_aload_n F dX8_putStep_50 rfl 0 rfl ?_
    refine R_dup F dX8_putStep_51 rfl ?_
    refine gc_RX8_24_10 F in_X8putStepT dX8_putStep_52 ?_
    refine R_iconst F 1 dX8_putStep_55 (by decide) ?_
    refine R_iadd F dX8_putStep_56 ?_
    refine pc_RX8_24_10 F in_X8putStepT dX8_putStep_57 ?_
    exact R_sub [] rfl (J_60 (sf (sa (sa (sa (sa σ 59 (σ.1 19) p1) 60 ((sa σ 59 (σ.1 19) p1).1 19) p2) 61 ((sa (sa σ 59 (σ.1 19) p1) 60 ((sa σ 59 (σ.1 19) p1).1 19) p2).1 19) p3) 62 ((sa (sa (sa σ 59 (σ.1 19) p1) 60 ((sa σ 59 (σ.1 19) p1).1 19) p2) 61 ((sa (sa σ 59 (σ.1 19) p1) 60 ((sa σ 59 (σ.1 19) p1).1 19) p2).1 19) p3).1 19) p4) 19 (((sa (sa (sa (sa σ 59 (σ.1 19) p1) 60 ((sa σ 59 (σ.1 19) p1).1 19) p2) 61 ((sa (sa σ 59 (σ.1 19) p1) 60 ((sa σ 59 (σ.1 19) p1).1 19) p2).1 19) p3) 62 ((sa (sa (sa σ 59 (σ.1 19) p1) 60 ((sa σ 59 (σ.1 19) p1).1 19) p2) 61 ((sa (sa σ 59 (σ.1 19) p1) 60 ((sa σ 59 (σ.1 19) p1).1 19) p2).1 19) p3).1 19) p4).1 19) + 1)) hw)
def b_X7onwardBy_80 (Q : Int32 → VS → Prop) (k0 : Int32) (σ : VS) : Prop := Q k0 σ
def b_X7onwardBy_50 (Q : Int32 → VS → Prop) (k0 : Int32) (σ : VS) : Prop := Q k0 σ
def wp_X7onwardBy (Q : Int32 → VS → Prop) (p1 : Int32) (p2 : Int32) (σ : VS) : Prop := (∀ x1 : Int32, x1 = (p1 / 4) → (In x1 50 ∧ (∀ x2 : Int32, x2 = (p2 ||| (rd σ 35 x1)) → ((x1.toInt ≠ (σ.1 13).toInt → wp_X1isGate (fun (r3 : Int32) (σ4 : VS) => ((r3.toInt = 0 → b_X7onwardBy_80 Q 0 σ4) ∧ (r3.toInt ≠ 0 → (In ((x1 * (σ4.1 11)) + x2) 800 ∧ b_X7onwardBy_80 Q (rd σ4 53 ((x1 * (σ4.1 11)) + x2)) σ4)))) x1 σ) ∧ (x1.toInt = (σ.1 13).toInt → wp_X3periodsOf (fun (r5 : Int32) (σ6 : VS) => ((r5.toInt ≤ 0 → b_X7onwardBy_50 Q 0 σ6) ∧ (0 < r5.toInt → b_X7onwardBy_50 Q 1 σ6))) (σ.1 12) (σ.1 13) x2 σ)))))
theorem dX7_onwardBy_0 : decode cX7_onwardBy 0 = .ok (.iload_n 1, 1) := by decide +kernel
theorem dX7_onwardBy_1 : decode cX7_onwardBy 1 = .ok (.iconst 4, 1) := by decide +kernel
theorem dX7_onwardBy_2 : decode cX7_onwardBy 2 = .ok (.idiv, 1) := by decide +kernel
theorem dX7_onwardBy_3 : decode cX7_onwardBy 3 = .ok (.istore_n 3, 1) := by decide +kernel
theorem dX7_onwardBy_4 : decode cX7_onwardBy 4 = .ok (.iload_n 2, 1) := by decide +kernel
theorem dX7_onwardBy_5 : decode cX7_onwardBy 5 = .ok (.aload_n 0, 1) := by decide +kernel
theorem dX7_onwardBy_6 : decode cX7_onwardBy 6 = .ok (.getfield 31, 3) := by decide +kernel
theorem dX7_onwardBy_9 : decode cX7_onwardBy 9 = .ok (.getfield 105, 3) := by decide +kernel
theorem dX7_onwardBy_12 : decode cX7_onwardBy 12 = .ok (.iload_n 3, 1) := by decide +kernel
theorem dX7_onwardBy_13 : decode cX7_onwardBy 13 = .ok (.iaload, 1) := by decide +kernel
theorem dX7_onwardBy_14 : decode cX7_onwardBy 14 = .ok (.ior, 1) := by decide +kernel
theorem dX7_onwardBy_15 : decode cX7_onwardBy 15 = .ok (.istore 4, 2) := by decide +kernel
theorem dX7_onwardBy_17 : decode cX7_onwardBy 17 = .ok (.iload_n 3, 1) := by decide +kernel
theorem dX7_onwardBy_18 : decode cX7_onwardBy 18 = .ok (.aload_n 0, 1) := by decide +kernel
theorem dX7_onwardBy_19 : decode cX7_onwardBy 19 = .ok (.getfield 48, 3) := by decide +kernel
theorem dX7_onwardBy_22 : decode cX7_onwardBy 22 = .ok (.if_icmp .ne 29, 3) := by decide +kernel
theorem dX7_onwardBy_51 : decode cX7_onwardBy 51 = .ok (.aload_n 0, 1) := by decide +kernel
theorem dX7_onwardBy_52 : decode cX7_onwardBy 52 = .ok (.getfield 23, 3) := by decide +kernel
theorem dX7_onwardBy_55 : decode cX7_onwardBy 55 = .ok (.iload_n 3, 1) := by decide +kernel
theorem dX7_onwardBy_56 : decode cX7_onwardBy 56 = .ok (.invokevirtual 126, 3) := by decide +kernel
theorem dX7_onwardBy_59 : decode cX7_onwardBy 59 = .ok (.ifCond .eq 20, 3) := by decide +kernel
theorem dX7_onwardBy_79 : decode cX7_onwardBy 79 = .ok (.iconst 0, 1) := by decide +kernel
theorem dX7_onwardBy_62 : decode cX7_onwardBy 62 = .ok (.aload_n 0, 1) := by decide +kernel
theorem dX7_onwardBy_63 : decode cX7_onwardBy 63 = .ok (.getfield 15, 3) := by decide +kernel
theorem dX7_onwardBy_66 : decode cX7_onwardBy 66 = .ok (.iload_n 3, 1) := by decide +kernel
theorem dX7_onwardBy_67 : decode cX7_onwardBy 67 = .ok (.aload_n 0, 1) := by decide +kernel
theorem dX7_onwardBy_68 : decode cX7_onwardBy 68 = .ok (.getfield 9, 3) := by decide +kernel
theorem dX7_onwardBy_71 : decode cX7_onwardBy 71 = .ok (.imul, 1) := by decide +kernel
theorem dX7_onwardBy_72 : decode cX7_onwardBy 72 = .ok (.iload 4, 2) := by decide +kernel
theorem dX7_onwardBy_74 : decode cX7_onwardBy 74 = .ok (.iadd, 1) := by decide +kernel
theorem dX7_onwardBy_75 : decode cX7_onwardBy 75 = .ok (.iaload, 1) := by decide +kernel
theorem dX7_onwardBy_76 : decode cX7_onwardBy 76 = .ok (.goto 4, 3) := by decide +kernel
theorem dX7_onwardBy_25 : decode cX7_onwardBy 25 = .ok (.aload_n 0, 1) := by decide +kernel
theorem dX7_onwardBy_26 : decode cX7_onwardBy 26 = .ok (.getfield 31, 3) := by decide +kernel
theorem dX7_onwardBy_29 : decode cX7_onwardBy 29 = .ok (.aload_n 0, 1) := by decide +kernel
theorem dX7_onwardBy_30 : decode cX7_onwardBy 30 = .ok (.getfield 92, 3) := by decide +kernel
theorem dX7_onwardBy_33 : decode cX7_onwardBy 33 = .ok (.aload_n 0, 1) := by decide +kernel
theorem dX7_onwardBy_34 : decode cX7_onwardBy 34 = .ok (.getfield 48, 3) := by decide +kernel
theorem dX7_onwardBy_37 : decode cX7_onwardBy 37 = .ok (.iload 4, 2) := by decide +kernel
theorem dX7_onwardBy_39 : decode cX7_onwardBy 39 = .ok (.invokevirtual 122, 3) := by decide +kernel
theorem dX7_onwardBy_42 : decode cX7_onwardBy 42 = .ok (.ifCond .le 7, 3) := by decide +kernel
theorem dX7_onwardBy_49 : decode cX7_onwardBy 49 = .ok (.iconst 0, 1) := by decide +kernel
theorem dX7_onwardBy_45 : decode cX7_onwardBy 45 = .ok (.iconst 1, 1) := by decide +kernel
theorem dX7_onwardBy_46 : decode cX7_onwardBy 46 = .ok (.goto 4, 3) := by decide +kernel
theorem dX7_onwardBy_80 : decode cX7_onwardBy 80 = .ok (.ireturn, 1) := by decide +kernel
theorem dX7_onwardBy_50 : decode cX7_onwardBy 50 = .ok (.ireturn, 1) := by decide +kernel
def wo_X7onwardBy : List Cond := [.code yX7_onwardBy cX7_onwardBy 5 (some .int), .methodLink RX7 126 yX1_isGate, .instanceMethod yX1_isGate, .selects RX1 yX1_isGate yX1_isGate, .initialized RX1, .methodLink RX7 122 yX3_periodsOf, .instanceMethod yX3_periodsOf, .selects RX3 yX3_periodsOf yX3_periodsOf, .initialized RX3]
def wr_X7onwardBy : List Cond := (wfC ++ (w_X1isGate ++ (w_X3periodsOf ++ ([]))))
def w_X7onwardBy : List Cond := wo_X7onwardBy ++ wr_X7onwardBy
theorem wg_X7onwardBy : GW w_X7onwardBy := GW_app (GW_of (by decide +kernel)) (GW_app (wg_fC) (GW_app (wg_X1isGate) (GW_app (wg_X3periodsOf) (GW_nil))))
theorem in_X7onwardBy : ∀ w ∈ wfC, w ∈ w_X7onwardBy := fun _ h => List.mem_append_right _ (List.mem_append_left _ h)
theorem g_X7onwardBy_X1isGate_126 : GoodIn w_X7onwardBy (wsV RX7 126 RX1 yX1_isGate w_X1isGate) := goodIn_app (gi_left (goodIn_of _ (by decide +kernel))) (fun w h => ⟨List.mem_append_right _ (List.mem_append_right _ (List.mem_append_left _ h)), wg_X1isGate w h⟩)
theorem g_X7onwardBy_X3periodsOf_122 : GoodIn w_X7onwardBy (wsV RX7 122 RX3 yX3_periodsOf w_X3periodsOf) := goodIn_app (gi_left (goodIn_of _ (by decide +kernel))) (fun w h => ⟨List.mem_append_right _ (List.mem_append_right _ (List.mem_append_right _ (List.mem_append_left _ h))), wg_X3periodsOf w h⟩)
set_option maxHeartbeats 4000000 in
set_option maxRecDepth 100000 in
theorem ct_X7onwardBy (l : Launch) (E : gE) (B : Nat → Nat) (Q : Int32 → VS → Prop) (p1 : Int32) (p2 : Int32) (σ : VS) (hw : wp_X7onwardBy Q p1 p2 σ) : CtI l E yX7_onwardBy w_X7onwardBy (({ frames := 2, cells := 0, slots := 0, locals := 41 } : Room)) (wc E B σ) [.ref (B 8), .int p1, .int p2] (fun r w => ∃ σ' : VS, Q r σ' ∧ w = wc E B σ') := by
  refine VC_I (cc := cX7_onwardBy) (mL := 5) (rt := (some .int)) (lv0 := [(0, .ref (B 8)), (1, .int p1), (2, .int p2)]) rfl (by decide) rfl (Nat.le_of_ble_eq_true rfl) ?_
  intro p e s m below meth c A F
  replace F : Fx p s m _ meth c A E cX7_onwardBy 5 (some .int) RX7 w_X7onwardBy := F
  have J_80 : ∀ (k0 : Int32) (σ : VS), b_X7onwardBy_80 Q k0 σ → WB p l e (({ frames := 2, cells := 0, slots := 0, locals := 41 } : Room)) s m (#[.ref (B 8), .int p1, .int p2]) below meth c (MQ below (va_Qi (fun r w => ∃ σ' : VS, Q r σ' ∧ w = wc E B σ') (AftU E A) A) (#[.ref (B 8), .int p1, .int p2]) s (({ frames := 2, cells := 0, slots := 0, locals := 41 } : Room)).cells (({ frames := 2, cells := 0, slots := 0, locals := 41 } : Room)).slots A) A E (wc E B) 5 80 [] [.int k0] σ := by
    intro k0 σ hw
    unfold b_X7onwardBy_80 at hw
    exact R_iret (Qc := Q) F rfl dX7_onwardBy_80 hw
  have J_50 : ∀ (k0 : Int32) (σ : VS), b_X7onwardBy_50 Q k0 σ → WB p l e (({ frames := 2, cells := 0, slots := 0, locals := 41 } : Room)) s m (#[.ref (B 8), .int p1, .int p2]) below meth c (MQ below (va_Qi (fun r w => ∃ σ' : VS, Q r σ' ∧ w = wc E B σ') (AftU E A) A) (#[.ref (B 8), .int p1, .int p2]) s (({ frames := 2, cells := 0, slots := 0, locals := 41 } : Room)).cells (({ frames := 2, cells := 0, slots := 0, locals := 41 } : Room)).slots A) A E (wc E B) 5 50 [] [.int k0] σ := by
    intro k0 σ hw
    unfold b_X7onwardBy_50 at hw
    exact R_iret (Qc := Q) F rfl dX7_onwardBy_50 hw
  unfold wp_X7onwardBy at hw
  refine R_iload_n F dX7_onwardBy_0 rfl 1 rfl ?_
  refine R_iconst F 4 dX7_onwardBy_1 (by decide) ?_
  refine R_idiv F dX7_onwardBy_2 (by decide) ?_
  refine R_topi (fun x1 ex1 => ?_)
  replace hw := hw x1 ex1
  refine R_istore_n (lv' := [(3, .int x1), (0, .ref (B 8)), (1, .int p1), (2, .int p2)]) F dX7_onwardBy_3 rfl (by decide) rfl ?_
  refine R_iload_n F dX7_onwardBy_4 rfl 3 rfl ?_
  refine R_aload_n F dX7_onwardBy_5 rfl 1 rfl ?_
  refine gc_RX7_31_8 F in_X7onwardBy dX7_onwardBy_6 ?_
  refine gc_RX7_105_4 F in_X7onwardBy dX7_onwardBy_9 ?_
  refine R_iload_n F dX7_onwardBy_12 rfl 0 rfl ?_
  refine R_ldi F qc_35 dX7_onwardBy_13 hw.1 ?_
  replace hw := hw.2
  refine R_ior F dX7_onwardBy_14 ?_
  refine R_topi (fun x2 ex2 => ?_)
  replace hw := hw x2 ex2
  refine R_istore (lv' := [(4, .int x2), (3, .int x1), (0, .ref (B 8)), (1, .int p1), (2, .int p2)]) F dX7_onwardBy_15 (by decide) rfl ?_
  refine R_iload_n F dX7_onwardBy_17 rfl 1 rfl ?_
  refine R_aload_n F dX7_onwardBy_18 rfl 2 rfl ?_
  refine gc_RX7_48_8 F in_X7onwardBy dX7_onwardBy_19 ?_
  refine R_icmp_ne (tgt := 51) F dX7_onwardBy_22 (by decide) (fun hc => ?_) (fun hc => ?_)
  · replace hw := hw.1 hc
    refine R_aload_n F dX7_onwardBy_51 rfl 2 rfl ?_
    refine gc_RX7_23_8 F in_X7onwardBy dX7_onwardBy_52 ?_
    refine R_iload_n F dX7_onwardBy_55 rfl 1 rfl ?_
    refine R_callI (As := [.int x1]) (C := RX1) (q0 := 1) (ci := 1) (N := 13) (T := TX1) (fs := cf_1 B) F (ct_X1isGate l E B _ x1 _ hw) (cwV 1 F.2.2.2.2.2.2.2.2.2.2 g_X7onwardBy_X1isGate_126 rfl rfl rfl (by decide +kernel) ⟨Nat.le_of_ble_eq_true rfl, Nat.le_of_ble_eq_true rfl⟩) ⟨rfl, rfl⟩ rfl (fun _ => rfl) rfl rfl (Nat.le_of_ble_eq_true rfl) dX7_onwardBy_56 (fun r3 σ4 hw => ?_)
    refine R_if_eq (tgt := 79) F dX7_onwardBy_59 (by decide) (fun hc => ?_) (fun hc => ?_)
    · replace hw := hw.1 hc
      refine R_iconst F 0 dX7_onwardBy_79 (by decide) ?_
      exact R_sub [] rfl (J_80 0 σ4 hw)
    · replace hw := hw.2 hc
      refine R_aload_n F dX7_onwardBy_62 rfl 2 rfl ?_
      refine gc_RX7_15_8 F in_X7onwardBy dX7_onwardBy_63 ?_
      refine R_iload_n F dX7_onwardBy_66 rfl 1 rfl ?_
      refine R_aload_n F dX7_onwardBy_67 rfl 2 rfl ?_
      refine gc_RX7_9_8 F in_X7onwardBy dX7_onwardBy_68 ?_
      refine R_imul F dX7_onwardBy_71 ?_
      refine R_iload F dX7_onwardBy_72 0 rfl ?_
      refine R_iadd F dX7_onwardBy_74 ?_
      refine R_ldi F qc_53 dX7_onwardBy_75 hw.1 ?_
      replace hw := hw.2
      refine R_goto (tgt := 80) F dX7_onwardBy_76 (by decide) ?_
      exact R_sub [] rfl (J_80 (rd σ4 53 ((x1 * (σ4.1 11)) + x2)) σ4 hw)
  · replace hw := hw.2 hc
    refine R_aload_n F dX7_onwardBy_25 rfl 2 rfl ?_
    refine gc_RX7_31_8 F in_X7onwardBy dX7_onwardBy_26 ?_
    refine R_aload_n F dX7_onwardBy_29 rfl 2 rfl ?_
    refine gc_RX7_92_8 F in_X7onwardBy dX7_onwardBy_30 ?_
    refine R_aload_n F dX7_onwardBy_33 rfl 2 rfl ?_
    refine gc_RX7_48_8 F in_X7onwardBy dX7_onwardBy_34 ?_
    refine R_iload F dX7_onwardBy_37 0 rfl ?_
    refine R_callI (As := [.int (σ.1 12), .int (σ.1 13), .int x2]) (C := RX3) (q0 := 4) (ci := 3) (N := 6) (T := TX3) (fs := cf_4 B) F (ct_X3periodsOf l E B _ (σ.1 12) (σ.1 13) x2 _ hw) (cwV 3 F.2.2.2.2.2.2.2.2.2.2 g_X7onwardBy_X3periodsOf_122 rfl rfl rfl (by decide +kernel) ⟨Nat.le_of_ble_eq_true rfl, Nat.le_of_ble_eq_true rfl⟩) ⟨rfl, rfl⟩ rfl (fun _ => rfl) rfl rfl (Nat.le_of_ble_eq_true rfl) dX7_onwardBy_39 (fun r5 σ6 hw => ?_)
    refine R_if_le (tgt := 49) F dX7_onwardBy_42 (by decide) (fun hc => ?_) (fun hc => ?_)
    · replace hw := hw.1 hc
      refine R_iconst F 0 dX7_onwardBy_49 (by decide) ?_
      exact R_sub [] rfl (J_50 0 σ6 hw)
    · replace hw := hw.2 hc
      refine R_iconst F 1 dX7_onwardBy_45 (by decide) ?_
      refine R_goto (tgt := 50) F dX7_onwardBy_46 (by decide) ?_
      exact R_sub [] rfl (J_50 1 σ6 hw)
def b_X7sumOnward_13 (X13 : Int32 → Int32 → Int32 → Int32 → VS → Prop) (Q : Int32 → VS → Prop) (l1 : Int32) (l2 : Int32) (l3 : Int32) (l4 : Int32) (σ : VS) : Prop := (In (l1 + 1) 51 ∧ (((rd σ 18 (l1 + 1)).toInt ≤ l4.toInt → Q l3 σ) ∧ (l4.toInt < (rd σ 18 (l1 + 1)).toInt → (In l4 200 ∧ wp_X7onwardBy (fun (r2 : Int32) (σ3 : VS) => (∀ x4 : Int32, x4 = (imin 1000 (l3 + r2)) → X13 l1 l2 x4 (l4 + 1) σ3)) (rd σ 17 l4) l2 σ))))
def wp_X7sumOnward (Q : Int32 → VS → Prop) (p1 : Int32) (p2 : Int32) (σ : VS) : Prop := ∀ (X13 : Int32 → Int32 → Int32 → Int32 → VS → Prop), (∀ (l1 : Int32) (l2 : Int32) (l3 : Int32) (l4 : Int32) (σ : VS), b_X7sumOnward_13 X13 Q l1 l2 l3 l4 σ → X13 l1 l2 l3 l4 σ) → (In p1 51 ∧ (∀ x1 : Int32, x1 = (rd σ 18 p1) → X13 p1 p2 0 x1 σ))
theorem dX7_sumOnward_0 : decode cX7_sumOnward 0 = .ok (.iconst 0, 1) := by decide +kernel
theorem dX7_sumOnward_1 : decode cX7_sumOnward 1 = .ok (.istore_n 3, 1) := by decide +kernel
theorem dX7_sumOnward_2 : decode cX7_sumOnward 2 = .ok (.aload_n 0, 1) := by decide +kernel
theorem dX7_sumOnward_3 : decode cX7_sumOnward 3 = .ok (.getfield 23, 3) := by decide +kernel
theorem dX7_sumOnward_6 : decode cX7_sumOnward 6 = .ok (.getfield 108, 3) := by decide +kernel
theorem dX7_sumOnward_9 : decode cX7_sumOnward 9 = .ok (.iload_n 1, 1) := by decide +kernel
theorem dX7_sumOnward_10 : decode cX7_sumOnward 10 = .ok (.iaload, 1) := by decide +kernel
theorem dX7_sumOnward_11 : decode cX7_sumOnward 11 = .ok (.istore 4, 2) := by decide +kernel
theorem dX7_sumOnward_13 : decode cX7_sumOnward 13 = .ok (.iload 4, 2) := by decide +kernel
theorem dX7_sumOnward_15 : decode cX7_sumOnward 15 = .ok (.aload_n 0, 1) := by decide +kernel
theorem dX7_sumOnward_16 : decode cX7_sumOnward 16 = .ok (.getfield 23, 3) := by decide +kernel
theorem dX7_sumOnward_19 : decode cX7_sumOnward 19 = .ok (.getfield 108, 3) := by decide +kernel
theorem dX7_sumOnward_22 : decode cX7_sumOnward 22 = .ok (.iload_n 1, 1) := by decide +kernel
theorem dX7_sumOnward_23 : decode cX7_sumOnward 23 = .ok (.iconst 1, 1) := by decide +kernel
theorem dX7_sumOnward_24 : decode cX7_sumOnward 24 = .ok (.iadd, 1) := by decide +kernel
theorem dX7_sumOnward_25 : decode cX7_sumOnward 25 = .ok (.iaload, 1) := by decide +kernel
theorem dX7_sumOnward_26 : decode cX7_sumOnward 26 = .ok (.if_icmp .ge 33, 3) := by decide +kernel
theorem dX7_sumOnward_59 : decode cX7_sumOnward 59 = .ok (.iload_n 3, 1) := by decide +kernel
theorem dX7_sumOnward_60 : decode cX7_sumOnward 60 = .ok (.ireturn, 1) := by decide +kernel
theorem dX7_sumOnward_29 : decode cX7_sumOnward 29 = .ok (.sipush 1000, 3) := by decide +kernel
theorem dX7_sumOnward_32 : decode cX7_sumOnward 32 = .ok (.iload_n 3, 1) := by decide +kernel
theorem dX7_sumOnward_33 : decode cX7_sumOnward 33 = .ok (.aload_n 0, 1) := by decide +kernel
theorem dX7_sumOnward_34 : decode cX7_sumOnward 34 = .ok (.aload_n 0, 1) := by decide +kernel
theorem dX7_sumOnward_35 : decode cX7_sumOnward 35 = .ok (.getfield 23, 3) := by decide +kernel
theorem dX7_sumOnward_38 : decode cX7_sumOnward 38 = .ok (.getfield 111, 3) := by decide +kernel
theorem dX7_sumOnward_41 : decode cX7_sumOnward 41 = .ok (.iload 4, 2) := by decide +kernel
theorem dX7_sumOnward_43 : decode cX7_sumOnward 43 = .ok (.iaload, 1) := by decide +kernel
theorem dX7_sumOnward_44 : decode cX7_sumOnward 44 = .ok (.iload_n 2, 1) := by decide +kernel
theorem dX7_sumOnward_45 : decode cX7_sumOnward 45 = .ok (.invokevirtual 114, 3) := by decide +kernel
theorem dX7_sumOnward_48 : decode cX7_sumOnward 48 = .ok (.iadd, 1) := by decide +kernel
theorem dX7_sumOnward_49 : decode cX7_sumOnward 49 = .ok (.invokestatic 117, 3) := by decide +kernel
theorem dX7_sumOnward_52 : decode cX7_sumOnward 52 = .ok (.istore_n 3, 1) := by decide +kernel
theorem dX7_sumOnward_53 : decode cX7_sumOnward 53 = .ok (.iinc 4 1, 3) := by decide +kernel
theorem dX7_sumOnward_56 : decode cX7_sumOnward 56 = .ok (.goto (-43), 3) := by decide +kernel
def wo_X7sumOnward : List Cond := [.code yX7_sumOnward cX7_sumOnward 5 (some .int), .methodLink RX7 114 yX7_onwardBy, .instanceMethod yX7_onwardBy, .selects RX7 yX7_onwardBy yX7_onwardBy, .initialized RX7, .methodLink RX7 117 Lib.Math.min.name, .static Lib.Math.min.name, .initialized "java/lang/Math", .code Lib.Math.min.name Lib.Math.min.code 2 (some .int)]
def wr_X7sumOnward : List Cond := (wfC ++ (w_X7onwardBy ++ ([])))
def w_X7sumOnward : List Cond := wo_X7sumOnward ++ wr_X7sumOnward
theorem wg_X7sumOnward : GW w_X7sumOnward := GW_app (GW_of (by decide +kernel)) (GW_app (wg_fC) (GW_app (wg_X7onwardBy) (GW_nil)))
theorem in_X7sumOnward : ∀ w ∈ wfC, w ∈ w_X7sumOnward := fun _ h => List.mem_append_right _ (List.mem_append_left _ h)
theorem g_X7sumOnward_X7onwardBy_114 : GoodIn w_X7sumOnward (wsV RX7 114 RX7 yX7_onwardBy w_X7onwardBy) := goodIn_app (gi_left (goodIn_of _ (by decide +kernel))) (fun w h => ⟨List.mem_append_right _ (List.mem_append_right _ (List.mem_append_left _ h)), wg_X7onwardBy w h⟩)
set_option maxHeartbeats 4000000 in
set_option maxRecDepth 100000 in
theorem ct_X7sumOnward (l : Launch) (E : gE) (B : Nat → Nat) (Q : Int32 → VS → Prop) (p1 : Int32) (p2 : Int32) (σ : VS) (hw : wp_X7sumOnward Q p1 p2 σ) : CtI l E yX7_sumOnward w_X7sumOnward (({ frames := 3, cells := 0, slots := 0, locals := 65 } : Room)) (wc E B σ) [.ref (B 8), .int p1, .int p2] (fun r w => ∃ σ' : VS, Q r σ' ∧ w = wc E B σ') := by
  refine VC_I (cc := cX7_sumOnward) (mL := 5) (rt := (some .int)) (lv0 := [(0, .ref (B 8)), (1, .int p1), (2, .int p2)]) rfl (by decide) rfl (Nat.le_of_ble_eq_true rfl) ?_
  intro p e s m below meth c A F
  replace F : Fx p s m _ meth c A E cX7_sumOnward 5 (some .int) RX7 w_X7sumOnward := F
  obtain ⟨X13, hX13⟩ : ∃ X : Int32 → Int32 → Int32 → Int32 → VS → Prop, X = fun l1 l2 l3 l4 σ => WB p l e (({ frames := 3, cells := 0, slots := 0, locals := 65 } : Room)) s m (#[.ref (B 8), .int p1, .int p2]) below meth c (MQ below (va_Qi (fun r w => ∃ σ' : VS, Q r σ' ∧ w = wc E B σ') (AftU E A) A) (#[.ref (B 8), .int p1, .int p2]) s (({ frames := 3, cells := 0, slots := 0, locals := 65 } : Room)).cells (({ frames := 3, cells := 0, slots := 0, locals := 65 } : Room)).slots A) A E (wc E B) 5 13 [(0, .ref (B 8)), (1, .int l1), (2, .int l2), (3, .int l3), (4, .int l4)] [] σ := ⟨_, rfl⟩
  have U_13 : ∀ (l1 : Int32) (l2 : Int32) (l3 : Int32) (l4 : Int32) (σ : VS), X13 l1 l2 l3 l4 σ → WB p l e (({ frames := 3, cells := 0, slots := 0, locals := 65 } : Room)) s m (#[.ref (B 8), .int p1, .int p2]) below meth c (MQ below (va_Qi (fun r w => ∃ σ' : VS, Q r σ' ∧ w = wc E B σ') (AftU E A) A) (#[.ref (B 8), .int p1, .int p2]) s (({ frames := 3, cells := 0, slots := 0, locals := 65 } : Room)).cells (({ frames := 3, cells := 0, slots := 0, locals := 65 } : Room)).slots A) A E (wc E B) 5 13 [(0, .ref (B 8)), (1, .int l1), (2, .int l2), (3, .int l3), (4, .int l4)] [] σ := by
    intro l1 l2 l3 l4 σ hw; rw [hX13] at hw; exact hw
  have C_13 : ∀ (l1 : Int32) (l2 : Int32) (l3 : Int32) (l4 : Int32) (σ : VS), b_X7sumOnward_13 X13 Q l1 l2 l3 l4 σ → X13 l1 l2 l3 l4 σ := by
    intro l1 l2 l3 l4 σ hw
    unfold b_X7sumOnward_13 at hw
    rw [hX13]
    show WB p l e (({ frames := 3, cells := 0, slots := 0, locals := 65 } : Room)) s m (#[.ref (B 8), .int p1, .int p2]) below meth c (MQ below (va_Qi (fun r w => ∃ σ' : VS, Q r σ' ∧ w = wc E B σ') (AftU E A) A) (#[.ref (B 8), .int p1, .int p2]) s (({ frames := 3, cells := 0, slots := 0, locals := 65 } : Room)).cells (({ frames := 3, cells := 0, slots := 0, locals := 65 } : Room)).slots A) A E (wc E B) 5 13 [(0, .ref (B 8)), (1, .int l1), (2, .int l2), (3, .int l3), (4, .int l4)] [] σ
    refine R_iload F dX7_sumOnward_13 4 rfl ?_
    refine R_aload_n F dX7_sumOnward_15 rfl 0 rfl ?_
    refine gc_RX7_23_8 F in_X7sumOnward dX7_sumOnward_16 ?_
    refine gc_RX7_108_1 F in_X7sumOnward dX7_sumOnward_19 ?_
    refine R_iload_n F dX7_sumOnward_22 rfl 1 rfl ?_
    refine R_iconst F 1 dX7_sumOnward_23 (by decide) ?_
    refine R_iadd F dX7_sumOnward_24 ?_
    refine R_ldi F qc_18 dX7_sumOnward_25 hw.1 ?_
    replace hw := hw.2
    refine R_icmp_ge (tgt := 59) F dX7_sumOnward_26 (by decide) (fun hc => ?_) (fun hc => ?_)
    · replace hw := hw.1 hc
      refine R_iload_n F dX7_sumOnward_59 rfl 3 rfl ?_
      exact R_iret (Qc := Q) F rfl dX7_sumOnward_60 hw
    · replace hw := hw.2 hc
      refine R_sipush F 1000 dX7_sumOnward_29 (by decide) ?_
      refine R_iload_n F dX7_sumOnward_32 rfl 3 rfl ?_
      refine R_aload_n F dX7_sumOnward_33 rfl 0 rfl ?_
      refine R_aload_n F dX7_sumOnward_34 rfl 0 rfl ?_
      refine gc_RX7_23_8 F in_X7sumOnward dX7_sumOnward_35 ?_
      refine gc_RX7_111_1 F in_X7sumOnward dX7_sumOnward_38 ?_
      refine R_iload F dX7_sumOnward_41 4 rfl ?_
      refine R_ldi F qc_17 dX7_sumOnward_43 hw.1 ?_
      replace hw := hw.2
      refine R_iload_n F dX7_sumOnward_44 rfl 2 rfl ?_
      refine R_callI (As := [.int (rd σ 17 l4), .int l2]) (C := RX7) (q0 := 8) (ci := 7) (N := 12) (T := TX7) (fs := cf_8 B) F (ct_X7onwardBy l E B _ (rd σ 17 l4) l2 _ hw) (cwV 2 F.2.2.2.2.2.2.2.2.2.2 g_X7sumOnward_X7onwardBy_114 rfl rfl rfl (by decide +kernel) ⟨Nat.le_of_ble_eq_true rfl, Nat.le_of_ble_eq_true rfl⟩) ⟨rfl, rfl⟩ rfl (fun _ => rfl) rfl rfl (Nat.le_of_ble_eq_true rfl) dX7_sumOnward_45 (fun r2 σ3 hw => ?_)
      refine R_iadd F dX7_sumOnward_48 ?_
      refine R_mmin F (List.mem_append_left _ (show Cond.methodLink RX7 117 Lib.Math.min.name ∈ wo_X7sumOnward by decide +kernel)) (List.mem_append_left _ (show Cond.static Lib.Math.min.name ∈ wo_X7sumOnward by decide +kernel)) (List.mem_append_left _ (show Cond.initialized "java/lang/Math" ∈ wo_X7sumOnward by decide +kernel)) (List.mem_append_left _ (show Cond.code Lib.Math.min.name Lib.Math.min.code 2 (some .int) ∈ wo_X7sumOnward by decide +kernel)) (Nat.le_of_ble_eq_true rfl) (Nat.le_of_ble_eq_true rfl) dX7_sumOnward_49 ?_
      refine R_topi (fun x4 ex4 => ?_)
      replace hw := hw x4 ex4
      refine R_istore_n (lv' := [(3, .int x4), (0, .ref (B 8)), (1, .int l1), (2, .int l2), (4, .int l4)]) F dX7_sumOnward_52 rfl (by decide) rfl ?_
      refine R_iinc (q := 4) (v := (l4 + 1)) (lv' := [(4, .int (l4 + 1)), (3, .int x4), (0, .ref (B 8)), (1, .int l1), (2, .int l2)]) F dX7_sumOnward_53 rfl rfl (by decide) rfl ?_
      refine R_goto (tgt := 13) F dX7_sumOnward_56 (by decide) ?_
      exact R_sub [2, 3, 4, 1, 0] rfl (U_13 l1 l2 x4 (l4 + 1) σ3 hw)
  unfold wp_X7sumOnward at hw
  replace hw := hw X13 C_13
  refine R_iconst F 0 dX7_sumOnward_0 (by decide) ?_
  refine R_istore_n (lv' := [(3, .int 0), (0, .ref (B 8)), (1, .int p1), (2, .int p2)]) F dX7_sumOnward_1 rfl (by decide) rfl ?_
  refine R_aload_n F dX7_sumOnward_2 rfl 1 rfl ?_
  refine gc_RX7_23_8 F in_X7sumOnward dX7_sumOnward_3 ?_
  refine gc_RX7_108_1 F in_X7sumOnward dX7_sumOnward_6 ?_
  refine R_iload_n F dX7_sumOnward_9 rfl 2 rfl ?_
  refine R_ldi F qc_18 dX7_sumOnward_10 hw.1 ?_
  replace hw := hw.2
  refine R_topi (fun x1 ex1 => ?_)
  replace hw := hw x1 ex1
  refine R_istore (lv' := [(4, .int x1), (3, .int 0), (0, .ref (B 8)), (1, .int p1), (2, .int p2)]) F dX7_sumOnward_11 (by decide) rfl ?_
  exact R_sub [2, 3, 4, 1, 0] rfl (U_13 p1 p2 0 x1 σ hw)
def b_X7aimFrom_21 (X15 : Int32 → VS → Prop) (X21 : Int32 → Int32 → VS → Prop) (Q : Int32 → VS → Prop) (l2 : Int32) (l3 : Int32) (σ : VS) : Prop := (((σ.1 11).toInt ≤ l3.toInt → X15 (l2 + (-1)) σ) ∧ (l3.toInt < (σ.1 11).toInt → (In l2 50 ∧ (In l2 50 ∧ wp_X7sumOnward (fun (r4 : Int32) (σ5 : VS) => (In (((rd σ 19 l2) * (σ.1 11)) + l3) 800 ∧ X21 l2 (l3 + 1) (sa σ5 53 (((rd σ 19 l2) * (σ.1 11)) + l3) r4))) (rd σ 19 l2) l3 σ))))
def b_X7aimFrom_15 (X15 : Int32 → VS → Prop) (X21 : Int32 → Int32 → VS → Prop) (Q : Int32 → VS → Prop) (l2 : Int32) (σ : VS) : Prop := ((l2.toInt < 0 → (In (σ.1 12) 50 ∧ wp_X7sumOnward (fun (r2 : Int32) (σ3 : VS) => Q r2 σ3) (σ.1 12) (rd σ 35 (σ.1 12)) σ)) ∧ (0 ≤ l2.toInt → X21 l2 0 σ))
def wp_X7aimFrom (Q : Int32 → VS → Prop) (p1 : Int32) (σ : VS) : Prop := ∀ (X15 : Int32 → VS → Prop) (X21 : Int32 → Int32 → VS → Prop), (∀ (l2 : Int32) (σ : VS), b_X7aimFrom_15 X15 X21 Q l2 σ → X15 l2 σ) → (∀ (l2 : Int32) (l3 : Int32) (σ : VS), b_X7aimFrom_21 X15 X21 Q l2 l3 σ → X21 l2 l3 σ) → (∀ x1 : Int32, x1 = (((sf σ 12 p1).1 3) - 1) → X15 x1 (sf σ 12 p1))
theorem dX7_aimFrom_0 : decode cX7_aimFrom 0 = .ok (.aload_n 0, 1) := by decide +kernel
theorem dX7_aimFrom_1 : decode cX7_aimFrom 1 = .ok (.iload_n 1, 1) := by decide +kernel
theorem dX7_aimFrom_2 : decode cX7_aimFrom 2 = .ok (.putfield 92, 3) := by decide +kernel
theorem dX7_aimFrom_5 : decode cX7_aimFrom 5 = .ok (.aload_n 0, 1) := by decide +kernel
theorem dX7_aimFrom_6 : decode cX7_aimFrom 6 = .ok (.getfield 23, 3) := by decide +kernel
theorem dX7_aimFrom_9 : decode cX7_aimFrom 9 = .ok (.getfield 95, 3) := by decide +kernel
theorem dX7_aimFrom_12 : decode cX7_aimFrom 12 = .ok (.iconst 1, 1) := by decide +kernel
theorem dX7_aimFrom_13 : decode cX7_aimFrom 13 = .ok (.isub, 1) := by decide +kernel
theorem dX7_aimFrom_14 : decode cX7_aimFrom 14 = .ok (.istore_n 2, 1) := by decide +kernel
theorem dX7_aimFrom_15 : decode cX7_aimFrom 15 = .ok (.iload_n 2, 1) := by decide +kernel
theorem dX7_aimFrom_16 : decode cX7_aimFrom 16 = .ok (.ifCond .lt 60, 3) := by decide +kernel
theorem dX7_aimFrom_76 : decode cX7_aimFrom 76 = .ok (.aload_n 0, 1) := by decide +kernel
theorem dX7_aimFrom_77 : decode cX7_aimFrom 77 = .ok (.aload_n 0, 1) := by decide +kernel
theorem dX7_aimFrom_78 : decode cX7_aimFrom 78 = .ok (.getfield 92, 3) := by decide +kernel
theorem dX7_aimFrom_81 : decode cX7_aimFrom 81 = .ok (.aload_n 0, 1) := by decide +kernel
theorem dX7_aimFrom_82 : decode cX7_aimFrom 82 = .ok (.getfield 31, 3) := by decide +kernel
theorem dX7_aimFrom_85 : decode cX7_aimFrom 85 = .ok (.getfield 105, 3) := by decide +kernel
theorem dX7_aimFrom_88 : decode cX7_aimFrom 88 = .ok (.aload_n 0, 1) := by decide +kernel
theorem dX7_aimFrom_89 : decode cX7_aimFrom 89 = .ok (.getfield 92, 3) := by decide +kernel
theorem dX7_aimFrom_92 : decode cX7_aimFrom 92 = .ok (.iaload, 1) := by decide +kernel
theorem dX7_aimFrom_93 : decode cX7_aimFrom 93 = .ok (.invokevirtual 101, 3) := by decide +kernel
theorem dX7_aimFrom_96 : decode cX7_aimFrom 96 = .ok (.ireturn, 1) := by decide +kernel
theorem dX7_aimFrom_19 : decode cX7_aimFrom 19 = .ok (.iconst 0, 1) := by decide +kernel
theorem dX7_aimFrom_20 : decode cX7_aimFrom 20 = .ok (.istore_n 3, 1) := by decide +kernel
theorem dX7_aimFrom_21 : decode cX7_aimFrom 21 = .ok (.iload_n 3, 1) := by decide +kernel
theorem dX7_aimFrom_22 : decode cX7_aimFrom 22 = .ok (.aload_n 0, 1) := by decide +kernel
theorem dX7_aimFrom_23 : decode cX7_aimFrom 23 = .ok (.getfield 9, 3) := by decide +kernel
theorem dX7_aimFrom_26 : decode cX7_aimFrom 26 = .ok (.if_icmp .ge 44, 3) := by decide +kernel
theorem dX7_aimFrom_70 : decode cX7_aimFrom 70 = .ok (.iinc 2 (-1), 3) := by decide +kernel
theorem dX7_aimFrom_73 : decode cX7_aimFrom 73 = .ok (.goto (-58), 3) := by decide +kernel
theorem dX7_aimFrom_29 : decode cX7_aimFrom 29 = .ok (.aload_n 0, 1) := by decide +kernel
theorem dX7_aimFrom_30 : decode cX7_aimFrom 30 = .ok (.getfield 15, 3) := by decide +kernel
theorem dX7_aimFrom_33 : decode cX7_aimFrom 33 = .ok (.aload_n 0, 1) := by decide +kernel
theorem dX7_aimFrom_34 : decode cX7_aimFrom 34 = .ok (.getfield 23, 3) := by decide +kernel
theorem dX7_aimFrom_37 : decode cX7_aimFrom 37 = .ok (.getfield 98, 3) := by decide +kernel
theorem dX7_aimFrom_40 : decode cX7_aimFrom 40 = .ok (.iload_n 2, 1) := by decide +kernel
theorem dX7_aimFrom_41 : decode cX7_aimFrom 41 = .ok (.iaload, 1) := by decide +kernel
theorem dX7_aimFrom_42 : decode cX7_aimFrom 42 = .ok (.aload_n 0, 1) := by decide +kernel
theorem dX7_aimFrom_43 : decode cX7_aimFrom 43 = .ok (.getfield 9, 3) := by decide +kernel
theorem dX7_aimFrom_46 : decode cX7_aimFrom 46 = .ok (.imul, 1) := by decide +kernel
theorem dX7_aimFrom_47 : decode cX7_aimFrom 47 = .ok (.iload_n 3, 1) := by decide +kernel
theorem dX7_aimFrom_48 : decode cX7_aimFrom 48 = .ok (.iadd, 1) := by decide +kernel
theorem dX7_aimFrom_49 : decode cX7_aimFrom 49 = .ok (.aload_n 0, 1) := by decide +kernel
theorem dX7_aimFrom_50 : decode cX7_aimFrom 50 = .ok (.aload_n 0, 1) := by decide +kernel
theorem dX7_aimFrom_51 : decode cX7_aimFrom 51 = .ok (.getfield 23, 3) := by decide +kernel
theorem dX7_aimFrom_54 : decode cX7_aimFrom 54 = .ok (.getfield 98, 3) := by decide +kernel
theorem dX7_aimFrom_57 : decode cX7_aimFrom 57 = .ok (.iload_n 2, 1) := by decide +kernel
theorem dX7_aimFrom_58 : decode cX7_aimFrom 58 = .ok (.iaload, 1) := by decide +kernel
theorem dX7_aimFrom_59 : decode cX7_aimFrom 59 = .ok (.iload_n 3, 1) := by decide +kernel
theorem dX7_aimFrom_60 : decode cX7_aimFrom 60 = .ok (.invokevirtual 101, 3) := by decide +kernel
theorem dX7_aimFrom_63 : decode cX7_aimFrom 63 = .ok (.iastore, 1) := by decide +kernel
theorem dX7_aimFrom_64 : decode cX7_aimFrom 64 = .ok (.iinc 3 1, 3) := by decide +kernel
theorem dX7_aimFrom_67 : decode cX7_aimFrom 67 = .ok (.goto (-46), 3) := by decide +kernel
def wo_X7aimFrom : List Cond := [.code yX7_aimFrom cX7_aimFrom 4 (some .int), .methodLink RX7 101 yX7_sumOnward, .instanceMethod yX7_sumOnward, .selects RX7 yX7_sumOnward yX7_sumOnward, .initialized RX7]
def wr_X7aimFrom : List Cond := (wfC ++ (w_X7sumOnward ++ ([])))
def w_X7aimFrom : List Cond := wo_X7aimFrom ++ wr_X7aimFrom
theorem wg_X7aimFrom : GW w_X7aimFrom := GW_app (GW_of (by decide +kernel)) (GW_app (wg_fC) (GW_app (wg_X7sumOnward) (GW_nil)))
theorem in_X7aimFrom : ∀ w ∈ wfC, w ∈ w_X7aimFrom := fun _ h => List.mem_append_right _ (List.mem_append_left _ h)
theorem g_X7aimFrom_X7sumOnward_101 : GoodIn w_X7aimFrom (wsV RX7 101 RX7 yX7_sumOnward w_X7sumOnward) := goodIn_app (gi_left (goodIn_of _ (by decide +kernel))) (fun w h => ⟨List.mem_append_right _ (List.mem_append_right _ (List.mem_append_left _ h)), wg_X7sumOnward w h⟩)
set_option maxHeartbeats 4000000 in
set_option maxRecDepth 100000 in
theorem ct_X7aimFrom (l : Launch) (E : gE) (B : Nat → Nat) (Q : Int32 → VS → Prop) (p1 : Int32) (σ : VS) (hw : wp_X7aimFrom Q p1 σ) : CtI l E yX7_aimFrom w_X7aimFrom (({ frames := 4, cells := 0, slots := 0, locals := 89 } : Room)) (wc E B σ) [.ref (B 8), .int p1] (fun r w => ∃ σ' : VS, Q r σ' ∧ w = wc E B σ') := by
  refine VC_I (cc := cX7_aimFrom) (mL := 4) (rt := (some .int)) (lv0 := [(0, .ref (B 8)), (1, .int p1)]) rfl (by decide) rfl (Nat.le_of_ble_eq_true rfl) ?_
  intro p e s m below meth c A F
  replace F : Fx p s m _ meth c A E cX7_aimFrom 4 (some .int) RX7 w_X7aimFrom := F
  obtain ⟨X15, hX15⟩ : ∃ X : Int32 → VS → Prop, X = fun l2 σ => WB p l e (({ frames := 4, cells := 0, slots := 0, locals := 89 } : Room)) s m (#[.ref (B 8), .int p1]) below meth c (MQ below (va_Qi (fun r w => ∃ σ' : VS, Q r σ' ∧ w = wc E B σ') (AftU E A) A) (#[.ref (B 8), .int p1]) s (({ frames := 4, cells := 0, slots := 0, locals := 89 } : Room)).cells (({ frames := 4, cells := 0, slots := 0, locals := 89 } : Room)).slots A) A E (wc E B) 4 15 [(0, .ref (B 8)), (2, .int l2)] [] σ := ⟨_, rfl⟩
  have U_15 : ∀ (l2 : Int32) (σ : VS), X15 l2 σ → WB p l e (({ frames := 4, cells := 0, slots := 0, locals := 89 } : Room)) s m (#[.ref (B 8), .int p1]) below meth c (MQ below (va_Qi (fun r w => ∃ σ' : VS, Q r σ' ∧ w = wc E B σ') (AftU E A) A) (#[.ref (B 8), .int p1]) s (({ frames := 4, cells := 0, slots := 0, locals := 89 } : Room)).cells (({ frames := 4, cells := 0, slots := 0, locals := 89 } : Room)).slots A) A E (wc E B) 4 15 [(0, .ref (B 8)), (2, .int l2)] [] σ := by
    intro l2 σ hw; rw [hX15] at hw; exact hw
  obtain ⟨X21, hX21⟩ : ∃ X : Int32 → Int32 → VS → Prop, X = fun l2 l3 σ => WB p l e (({ frames := 4, cells := 0, slots := 0, locals := 89 } : Room)) s m (#[.ref (B 8), .int p1]) below meth c (MQ below (va_Qi (fun r w => ∃ σ' : VS, Q r σ' ∧ w = wc E B σ') (AftU E A) A) (#[.ref (B 8), .int p1]) s (({ frames := 4, cells := 0, slots := 0, locals := 89 } : Room)).cells (({ frames := 4, cells := 0, slots := 0, locals := 89 } : Room)).slots A) A E (wc E B) 4 21 [(0, .ref (B 8)), (2, .int l2), (3, .int l3)] [] σ := ⟨_, rfl⟩
  have U_21 : ∀ (l2 : Int32) (l3 : Int32) (σ : VS), X21 l2 l3 σ → WB p l e (({ frames := 4, cells := 0, slots := 0, locals := 89 } : Room)) s m (#[.ref (B 8), .int p1]) below meth c (MQ below (va_Qi (fun r w => ∃ σ' : VS, Q r σ' ∧ w = wc E B σ') (AftU E A) A) (#[.ref (B 8), .int p1]) s (({ frames := 4, cells := 0, slots := 0, locals := 89 } : Room)).cells (({ frames := 4, cells := 0, slots := 0, locals := 89 } : Room)).slots A) A E (wc E B) 4 21 [(0, .ref (B 8)), (2, .int l2), (3, .int l3)] [] σ := by
    intro l2 l3 σ hw; rw [hX21] at hw; exact hw
  have C_15 : ∀ (l2 : Int32) (σ : VS), b_X7aimFrom_15 X15 X21 Q l2 σ → X15 l2 σ := by
    intro l2 σ hw
    unfold b_X7aimFrom_15 at hw
    rw [hX15]
    show WB p l e (({ frames := 4, cells := 0, slots := 0, locals := 89 } : Room)) s m (#[.ref (B 8), .int p1]) below meth c (MQ below (va_Qi (fun r w => ∃ σ' : VS, Q r σ' ∧ w = wc E B σ') (AftU E A) A) (#[.ref (B 8), .int p1]) s (({ frames := 4, cells := 0, slots := 0, locals := 89 } : Room)).cells (({ frames := 4, cells := 0, slots := 0, locals := 89 } : Room)).slots A) A E (wc E B) 4 15 [(0, .ref (B 8)), (2, .int l2)] [] σ
    refine R_iload_n F dX7_aimFrom_15 rfl 1 rfl ?_
    refine R_if_lt (tgt := 76) F dX7_aimFrom_16 (by decide) (fun hc => ?_) (fun hc => ?_)
    · replace hw := hw.1 hc
      refine R_aload_n F dX7_aimFrom_76 rfl 0 rfl ?_
      refine R_aload_n F dX7_aimFrom_77 rfl 0 rfl ?_
      refine gc_RX7_92_8 F in_X7aimFrom dX7_aimFrom_78 ?_
      refine R_aload_n F dX7_aimFrom_81 rfl 0 rfl ?_
      refine gc_RX7_31_8 F in_X7aimFrom dX7_aimFrom_82 ?_
      refine gc_RX7_105_4 F in_X7aimFrom dX7_aimFrom_85 ?_
      refine R_aload_n F dX7_aimFrom_88 rfl 0 rfl ?_
      refine gc_RX7_92_8 F in_X7aimFrom dX7_aimFrom_89 ?_
      refine R_ldi F qc_35 dX7_aimFrom_92 hw.1 ?_
      replace hw := hw.2
      refine R_callI (As := [.int (σ.1 12), .int (rd σ 35 (σ.1 12))]) (C := RX7) (q0 := 8) (ci := 7) (N := 12) (T := TX7) (fs := cf_8 B) F (ct_X7sumOnward l E B _ (σ.1 12) (rd σ 35 (σ.1 12)) _ hw) (cwV 2 F.2.2.2.2.2.2.2.2.2.2 g_X7aimFrom_X7sumOnward_101 rfl rfl rfl (by decide +kernel) ⟨Nat.le_of_ble_eq_true rfl, Nat.le_of_ble_eq_true rfl⟩) ⟨rfl, rfl⟩ rfl (fun _ => rfl) rfl rfl (Nat.le_of_ble_eq_true rfl) dX7_aimFrom_93 (fun r2 σ3 hw => ?_)
      exact R_iret (Qc := Q) F rfl dX7_aimFrom_96 hw
    · replace hw := hw.2 hc
      refine R_iconst F 0 dX7_aimFrom_19 (by decide) ?_
      refine R_istore_n (lv' := [(3, .int 0), (0, .ref (B 8)), (2, .int l2)]) F dX7_aimFrom_20 rfl (by decide) rfl ?_
      exact R_sub [1, 2, 0] rfl (U_21 l2 0 σ hw)
  have C_21 : ∀ (l2 : Int32) (l3 : Int32) (σ : VS), b_X7aimFrom_21 X15 X21 Q l2 l3 σ → X21 l2 l3 σ := by
    intro l2 l3 σ hw
    unfold b_X7aimFrom_21 at hw
    rw [hX21]
    show WB p l e (({ frames := 4, cells := 0, slots := 0, locals := 89 } : Room)) s m (#[.ref (B 8), .int p1]) below meth c (MQ below (va_Qi (fun r w => ∃ σ' : VS, Q r σ' ∧ w = wc E B σ') (AftU E A) A) (#[.ref (B 8), .int p1]) s (({ frames := 4, cells := 0, slots := 0, locals := 89 } : Room)).cells (({ frames := 4, cells := 0, slots := 0, locals := 89 } : Room)).slots A) A E (wc E B) 4 21 [(0, .ref (B 8)), (2, .int l2), (3, .int l3)] [] σ
    refine R_iload_n F dX7_aimFrom_21 rfl 2 rfl ?_
    refine R_aload_n F dX7_aimFrom_22 rfl 0 rfl ?_
    refine gc_RX7_9_8 F in_X7aimFrom dX7_aimFrom_23 ?_
    refine R_icmp_ge (tgt := 70) F dX7_aimFrom_26 (by decide) (fun hc => ?_) (fun hc => ?_)
    · replace hw := hw.1 hc
      refine R_iinc (q := 1) (v := (l2 + (-1))) (lv' := [(2, .int (l2 + (-1))), (0, .ref (B 8)), (3, .int l3)]) F dX7_aimFrom_70 rfl rfl (by decide) rfl ?_
      refine R_goto (tgt := 15) F dX7_aimFrom_73 (by decide) ?_
      exact R_sub [1, 0] rfl (U_15 (l2 + (-1)) σ hw)
    · replace hw := hw.2 hc
      refine R_aload_n F dX7_aimFrom_29 rfl 0 rfl ?_
      refine gc_RX7_15_8 F in_X7aimFrom dX7_aimFrom_30 ?_
      refine R_aload_n F dX7_aimFrom_33 rfl 0 rfl ?_
      refine gc_RX7_23_8 F in_X7aimFrom dX7_aimFrom_34 ?_
      refine gc_RX7_98_1 F in_X7aimFrom dX7_aimFrom_37 ?_
      refine R_iload_n F dX7_aimFrom_40 rfl 1 rfl ?_
      refine R_ldi F qc_19 dX7_aimFrom_41 hw.1 ?_
      replace hw := hw.2
      refine R_aload_n F dX7_aimFrom_42 rfl 0 rfl ?_
      refine gc_RX7_9_8 F in_X7aimFrom dX7_aimFrom_43 ?_
      refine R_imul F dX7_aimFrom_46 ?_
      refine R_iload_n F dX7_aimFrom_47 rfl 2 rfl ?_
      refine R_iadd F dX7_aimFrom_48 ?_
      refine R_aload_n F dX7_aimFrom_49 rfl 0 rfl ?_
      refine R_aload_n F dX7_aimFrom_50 rfl 0 rfl ?_
      refine gc_RX7_23_8 F in_X7aimFrom dX7_aimFrom_51 ?_
      refine gc_RX7_98_1 F in_X7aimFrom dX7_aimFrom_54 ?_
      refine R_iload_n F dX7_aimFrom_57 rfl 1 rfl ?_
      refine R_ldi F qc_19 dX7_aimFrom_58 hw.1 ?_
      replace hw := hw.2
      refine R_iload_n F dX7_aimFrom_59 rfl 2 rfl ?_
      refine R_callI (As := [.int (rd σ 19 l2), .int l3]) (C := RX7) (q0 := 8) (ci := 7) (N := 12) (T := TX7) (fs := cf_8 B) F (ct_X7sumOnward l E B _ (rd σ 19 l2) l3 _ hw) (cwV 2 F.2.2.2.2.2.2.2.2.2.2 g_X7aimFrom_X7sumOnward_101 rfl rfl rfl (by decide +kernel) ⟨Nat.le_of_ble_eq_true rfl, Nat.le_of_ble_eq_true rfl⟩) ⟨rfl, rfl⟩ rfl (fun _ => rfl) rfl rfl (Nat.le_of_ble_eq_true rfl) dX7_aimFrom_60 (fun r4 σ5 hw => ?_)
      have hi := hw.1
      replace hw := hw.2
      refine R_sti F qc_53 uc_53 dX7_aimFrom_63 hi ?_
      refine R_iinc (q := 2) (v := (l3 + 1)) (lv' := [(3, .int (l3 + 1)), (0, .ref (B 8)), (2, .int l2)]) F dX7_aimFrom_64 rfl rfl (by decide) rfl ?_
      refine R_goto (tgt := 21) F dX7_aimFrom_67 (by decide) ?_
      exact R_sub [1, 2, 0] rfl (U_21 l2 (l3 + 1) (sa σ5 53 (((rd σ 19 l2) * (σ.1 11)) + l3) r4) hw)
  unfold wp_X7aimFrom at hw
  replace hw := hw X15 X21 C_15 C_21
  refine R_aload_n F dX7_aimFrom_0 rfl 0 rfl ?_
  refine R_iload_n F dX7_aimFrom_1 rfl 1 rfl ?_
  refine pc_RX7_92_8 F in_X7aimFrom dX7_aimFrom_2 ?_
  refine R_aload_n F dX7_aimFrom_5 rfl 0 rfl ?_
  refine gc_RX7_23_8 F in_X7aimFrom dX7_aimFrom_6 ?_
  refine gc_RX7_95_1 F in_X7aimFrom dX7_aimFrom_9 ?_
  refine R_iconst F 1 dX7_aimFrom_12 (by decide) ?_
  refine R_isub F dX7_aimFrom_13 ?_
  refine R_topi (fun x1 ex1 => ?_)
  replace hw := hw x1 ex1
  refine R_istore_n (lv' := [(2, .int x1), (0, .ref (B 8)), (1, .int p1)]) F dX7_aimFrom_14 rfl (by decide) rfl ?_
  exact R_sub [1, 0] rfl (U_15 x1 (sf σ 12 p1) hw)
def b_X7chooseWire_10 (X10 : Int32 → Int32 → Int32 → VS → Prop) (Q : Int32 → VS → Prop) (l1 : Int32) (l2 : Int32) (l3 : Int32) (σ : VS) : Prop := (In (l1 + 1) 51 ∧ (((rd σ 18 (l1 + 1)).toInt ≤ l3.toInt → Q (-5) σ) ∧ (l3.toInt < (rd σ 18 (l1 + 1)).toInt → (In l3 200 ∧ wp_X7onwardBy (fun (r2 : Int32) (σ3 : VS) => ((r2.toInt ≤ (σ3.1 14).toInt → X10 l1 l2 (l3 + 1) (sf σ3 14 ((σ3.1 14) - r2))) ∧ ((σ3.1 14).toInt < r2.toInt → (In l3 200 ∧ Q (rd σ3 17 l3) σ3)))) (rd σ 17 l3) l2 σ))))
def wp_X7chooseWire (Q : Int32 → VS → Prop) (p1 : Int32) (p2 : Int32) (σ : VS) : Prop := ∀ (X10 : Int32 → Int32 → Int32 → VS → Prop), (∀ (l1 : Int32) (l2 : Int32) (l3 : Int32) (σ : VS), b_X7chooseWire_10 X10 Q l1 l2 l3 σ → X10 l1 l2 l3 σ) → (In p1 51 ∧ (∀ x1 : Int32, x1 = (rd σ 18 p1) → X10 p1 p2 x1 σ))
theorem dX7_chooseWire_0 : decode cX7_chooseWire 0 = .ok (.aload_n 0, 1) := by decide +kernel
theorem dX7_chooseWire_1 : decode cX7_chooseWire 1 = .ok (.getfield 23, 3) := by decide +kernel
theorem dX7_chooseWire_4 : decode cX7_chooseWire 4 = .ok (.getfield 108, 3) := by decide +kernel
theorem dX7_chooseWire_7 : decode cX7_chooseWire 7 = .ok (.iload_n 1, 1) := by decide +kernel
theorem dX7_chooseWire_8 : decode cX7_chooseWire 8 = .ok (.iaload, 1) := by decide +kernel
theorem dX7_chooseWire_9 : decode cX7_chooseWire 9 = .ok (.istore_n 3, 1) := by decide +kernel
theorem dX7_chooseWire_10 : decode cX7_chooseWire 10 = .ok (.iload_n 3, 1) := by decide +kernel
theorem dX7_chooseWire_11 : decode cX7_chooseWire 11 = .ok (.aload_n 0, 1) := by decide +kernel
theorem dX7_chooseWire_12 : decode cX7_chooseWire 12 = .ok (.getfield 23, 3) := by decide +kernel
theorem dX7_chooseWire_15 : decode cX7_chooseWire 15 = .ok (.getfield 108, 3) := by decide +kernel
theorem dX7_chooseWire_18 : decode cX7_chooseWire 18 = .ok (.iload_n 1, 1) := by decide +kernel
theorem dX7_chooseWire_19 : decode cX7_chooseWire 19 = .ok (.iconst 1, 1) := by decide +kernel
theorem dX7_chooseWire_20 : decode cX7_chooseWire 20 = .ok (.iadd, 1) := by decide +kernel
theorem dX7_chooseWire_21 : decode cX7_chooseWire 21 = .ok (.iaload, 1) := by decide +kernel
theorem dX7_chooseWire_22 : decode cX7_chooseWire 22 = .ok (.if_icmp .ge 55, 3) := by decide +kernel
theorem dX7_chooseWire_77 : decode cX7_chooseWire 77 = .ok (.bipush (-5), 2) := by decide +kernel
theorem dX7_chooseWire_79 : decode cX7_chooseWire 79 = .ok (.ireturn, 1) := by decide +kernel
theorem dX7_chooseWire_25 : decode cX7_chooseWire 25 = .ok (.aload_n 0, 1) := by decide +kernel
theorem dX7_chooseWire_26 : decode cX7_chooseWire 26 = .ok (.aload_n 0, 1) := by decide +kernel
theorem dX7_chooseWire_27 : decode cX7_chooseWire 27 = .ok (.getfield 23, 3) := by decide +kernel
theorem dX7_chooseWire_30 : decode cX7_chooseWire 30 = .ok (.getfield 111, 3) := by decide +kernel
theorem dX7_chooseWire_33 : decode cX7_chooseWire 33 = .ok (.iload_n 3, 1) := by decide +kernel
theorem dX7_chooseWire_34 : decode cX7_chooseWire 34 = .ok (.iaload, 1) := by decide +kernel
theorem dX7_chooseWire_35 : decode cX7_chooseWire 35 = .ok (.iload_n 2, 1) := by decide +kernel
theorem dX7_chooseWire_36 : decode cX7_chooseWire 36 = .ok (.invokevirtual 114, 3) := by decide +kernel
theorem dX7_chooseWire_39 : decode cX7_chooseWire 39 = .ok (.istore 4, 2) := by decide +kernel
theorem dX7_chooseWire_41 : decode cX7_chooseWire 41 = .ok (.aload_n 0, 1) := by decide +kernel
theorem dX7_chooseWire_42 : decode cX7_chooseWire 42 = .ok (.getfield 137, 3) := by decide +kernel
theorem dX7_chooseWire_45 : decode cX7_chooseWire 45 = .ok (.iload 4, 2) := by decide +kernel
theorem dX7_chooseWire_47 : decode cX7_chooseWire 47 = .ok (.if_icmp .ge 13, 3) := by decide +kernel
theorem dX7_chooseWire_60 : decode cX7_chooseWire 60 = .ok (.aload_n 0, 1) := by decide +kernel
theorem dX7_chooseWire_61 : decode cX7_chooseWire 61 = .ok (.dup, 1) := by decide +kernel
theorem dX7_chooseWire_62 : decode cX7_chooseWire 62 = .ok (.getfield 137, 3) := by decide +kernel
theorem dX7_chooseWire_65 : decode cX7_chooseWire 65 = .ok (.iload 4, 2) := by decide +kernel
theorem dX7_chooseWire_67 : decode cX7_chooseWire 67 = .ok (.isub, 1) := by decide +kernel
theorem dX7_chooseWire_68 : decode cX7_chooseWire 68 = .ok (.putfield 137, 3) := by decide +kernel
theorem dX7_chooseWire_71 : decode cX7_chooseWire 71 = .ok (.iinc 3 1, 3) := by decide +kernel
theorem dX7_chooseWire_74 : decode cX7_chooseWire 74 = .ok (.goto (-64), 3) := by decide +kernel
theorem dX7_chooseWire_50 : decode cX7_chooseWire 50 = .ok (.aload_n 0, 1) := by decide +kernel
theorem dX7_chooseWire_51 : decode cX7_chooseWire 51 = .ok (.getfield 23, 3) := by decide +kernel
theorem dX7_chooseWire_54 : decode cX7_chooseWire 54 = .ok (.getfield 111, 3) := by decide +kernel
theorem dX7_chooseWire_57 : decode cX7_chooseWire 57 = .ok (.iload_n 3, 1) := by decide +kernel
theorem dX7_chooseWire_58 : decode cX7_chooseWire 58 = .ok (.iaload, 1) := by decide +kernel
theorem dX7_chooseWire_59 : decode cX7_chooseWire 59 = .ok (.ireturn, 1) := by decide +kernel
def wo_X7chooseWire : List Cond := [.code yX7_chooseWire cX7_chooseWire 5 (some .int), .methodLink RX7 114 yX7_onwardBy, .instanceMethod yX7_onwardBy, .selects RX7 yX7_onwardBy yX7_onwardBy, .initialized RX7]
def wr_X7chooseWire : List Cond := (wfC ++ (w_X7onwardBy ++ ([])))
def w_X7chooseWire : List Cond := wo_X7chooseWire ++ wr_X7chooseWire
theorem wg_X7chooseWire : GW w_X7chooseWire := GW_app (GW_of (by decide +kernel)) (GW_app (wg_fC) (GW_app (wg_X7onwardBy) (GW_nil)))
theorem in_X7chooseWire : ∀ w ∈ wfC, w ∈ w_X7chooseWire := fun _ h => List.mem_append_right _ (List.mem_append_left _ h)
theorem g_X7chooseWire_X7onwardBy_114 : GoodIn w_X7chooseWire (wsV RX7 114 RX7 yX7_onwardBy w_X7onwardBy) := goodIn_app (gi_left (goodIn_of _ (by decide +kernel))) (fun w h => ⟨List.mem_append_right _ (List.mem_append_right _ (List.mem_append_left _ h)), wg_X7onwardBy w h⟩)
set_option maxHeartbeats 4000000 in
set_option maxRecDepth 100000 in
theorem ct_X7chooseWire (l : Launch) (E : gE) (B : Nat → Nat) (Q : Int32 → VS → Prop) (p1 : Int32) (p2 : Int32) (σ : VS) (hw : wp_X7chooseWire Q p1 p2 σ) : CtI l E yX7_chooseWire w_X7chooseWire (({ frames := 3, cells := 0, slots := 0, locals := 65 } : Room)) (wc E B σ) [.ref (B 8), .int p1, .int p2] (fun r w => ∃ σ' : VS, Q r σ' ∧ w = wc E B σ') := by
  refine VC_I (cc := cX7_chooseWire) (mL := 5) (rt := (some .int)) (lv0 := [(0, .ref (B 8)), (1, .int p1), (2, .int p2)]) rfl (by decide) rfl (Nat.le_of_ble_eq_true rfl) ?_
  intro p e s m below meth c A F
  replace F : Fx p s m _ meth c A E cX7_chooseWire 5 (some .int) RX7 w_X7chooseWire := F
  obtain ⟨X10, hX10⟩ : ∃ X : Int32 → Int32 → Int32 → VS → Prop, X = fun l1 l2 l3 σ => WB p l e (({ frames := 3, cells := 0, slots := 0, locals := 65 } : Room)) s m (#[.ref (B 8), .int p1, .int p2]) below meth c (MQ below (va_Qi (fun r w => ∃ σ' : VS, Q r σ' ∧ w = wc E B σ') (AftU E A) A) (#[.ref (B 8), .int p1, .int p2]) s (({ frames := 3, cells := 0, slots := 0, locals := 65 } : Room)).cells (({ frames := 3, cells := 0, slots := 0, locals := 65 } : Room)).slots A) A E (wc E B) 5 10 [(0, .ref (B 8)), (1, .int l1), (2, .int l2), (3, .int l3)] [] σ := ⟨_, rfl⟩
  have U_10 : ∀ (l1 : Int32) (l2 : Int32) (l3 : Int32) (σ : VS), X10 l1 l2 l3 σ → WB p l e (({ frames := 3, cells := 0, slots := 0, locals := 65 } : Room)) s m (#[.ref (B 8), .int p1, .int p2]) below meth c (MQ below (va_Qi (fun r w => ∃ σ' : VS, Q r σ' ∧ w = wc E B σ') (AftU E A) A) (#[.ref (B 8), .int p1, .int p2]) s (({ frames := 3, cells := 0, slots := 0, locals := 65 } : Room)).cells (({ frames := 3, cells := 0, slots := 0, locals := 65 } : Room)).slots A) A E (wc E B) 5 10 [(0, .ref (B 8)), (1, .int l1), (2, .int l2), (3, .int l3)] [] σ := by
    intro l1 l2 l3 σ hw; rw [hX10] at hw; exact hw
  have C_10 : ∀ (l1 : Int32) (l2 : Int32) (l3 : Int32) (σ : VS), b_X7chooseWire_10 X10 Q l1 l2 l3 σ → X10 l1 l2 l3 σ := by
    intro l1 l2 l3 σ hw
    unfold b_X7chooseWire_10 at hw
    rw [hX10]
    show WB p l e (({ frames := 3, cells := 0, slots := 0, locals := 65 } : Room)) s m (#[.ref (B 8), .int p1, .int p2]) below meth c (MQ below (va_Qi (fun r w => ∃ σ' : VS, Q r σ' ∧ w = wc E B σ') (AftU E A) A) (#[.ref (B 8), .int p1, .int p2]) s (({ frames := 3, cells := 0, slots := 0, locals := 65 } : Room)).cells (({ frames := 3, cells := 0, slots := 0, locals := 65 } : Room)).slots A) A E (wc E B) 5 10 [(0, .ref (B 8)), (1, .int l1), (2, .int l2), (3, .int l3)] [] σ
    refine R_iload_n F dX7_chooseWire_10 rfl 3 rfl ?_
    refine R_aload_n F dX7_chooseWire_11 rfl 0 rfl ?_
    refine gc_RX7_23_8 F in_X7chooseWire dX7_chooseWire_12 ?_
    refine gc_RX7_108_1 F in_X7chooseWire dX7_chooseWire_15 ?_
    refine R_iload_n F dX7_chooseWire_18 rfl 1 rfl ?_
    refine R_iconst F 1 dX7_chooseWire_19 (by decide) ?_
    refine R_iadd F dX7_chooseWire_20 ?_
    refine R_ldi F qc_18 dX7_chooseWire_21 hw.1 ?_
    replace hw := hw.2
    refine R_icmp_ge (tgt := 77) F dX7_chooseWire_22 (by decide) (fun hc => ?_) (fun hc => ?_)
    · replace hw := hw.1 hc
      refine R_bipush F (-5) dX7_chooseWire_77 (by decide) ?_
      exact R_iret (Qc := Q) F rfl dX7_chooseWire_79 hw
    · replace hw := hw.2 hc
      refine R_aload_n F dX7_chooseWire_25 rfl 0 rfl ?_
      refine R_aload_n F dX7_chooseWire_26 rfl 0 rfl ?_
      refine gc_RX7_23_8 F in_X7chooseWire dX7_chooseWire_27 ?_
      refine gc_RX7_111_1 F in_X7chooseWire dX7_chooseWire_30 ?_
      refine R_iload_n F dX7_chooseWire_33 rfl 3 rfl ?_
      refine R_ldi F qc_17 dX7_chooseWire_34 hw.1 ?_
      replace hw := hw.2
      refine R_iload_n F dX7_chooseWire_35 rfl 2 rfl ?_
      refine R_callI (As := [.int (rd σ 17 l3), .int l2]) (C := RX7) (q0 := 8) (ci := 7) (N := 12) (T := TX7) (fs := cf_8 B) F (ct_X7onwardBy l E B _ (rd σ 17 l3) l2 _ hw) (cwV 2 F.2.2.2.2.2.2.2.2.2.2 g_X7chooseWire_X7onwardBy_114 rfl rfl rfl (by decide +kernel) ⟨Nat.le_of_ble_eq_true rfl, Nat.le_of_ble_eq_true rfl⟩) ⟨rfl, rfl⟩ rfl (fun _ => rfl) rfl rfl (Nat.le_of_ble_eq_true rfl) dX7_chooseWire_36 (fun r2 σ3 hw => ?_)
      refine R_istore (lv' := [(4, .int r2), (0, .ref (B 8)), (1, .int l1), (2, .int l2), (3, .int l3)]) F dX7_chooseWire_39 (by decide) rfl ?_
      refine R_aload_n F dX7_chooseWire_41 rfl 1 rfl ?_
      refine gc_RX7_137_8 F in_X7chooseWire dX7_chooseWire_42 ?_
      refine R_iload F dX7_chooseWire_45 0 rfl ?_
      refine R_icmp_ge (tgt := 60) F dX7_chooseWire_47 (by decide) (fun hc => ?_) (fun hc => ?_)
      · replace hw := hw.1 hc
        refine R_aload_n F dX7_chooseWire_60 rfl 1 rfl ?_
        refine R_dup F dX7_chooseWire_61 rfl ?_
        refine gc_RX7_137_8 F in_X7chooseWire dX7_chooseWire_62 ?_
        refine R_iload F dX7_chooseWire_65 0 rfl ?_
        refine R_isub F dX7_chooseWire_67 ?_
        refine pc_RX7_137_8 F in_X7chooseWire dX7_chooseWire_68 ?_
        refine R_iinc (q := 4) (v := (l3 + 1)) (lv' := [(3, .int (l3 + 1)), (4, .int r2), (0, .ref (B 8)), (1, .int l1), (2, .int l2)]) F dX7_chooseWire_71 rfl rfl (by decide) rfl ?_
        refine R_goto (tgt := 10) F dX7_chooseWire_74 (by decide) ?_
        exact R_sub [2, 3, 4, 0] rfl (U_10 l1 l2 (l3 + 1) (sf σ3 14 ((σ3.1 14) - r2)) hw)
      · replace hw := hw.2 hc
        refine R_aload_n F dX7_chooseWire_50 rfl 1 rfl ?_
        refine gc_RX7_23_8 F in_X7chooseWire dX7_chooseWire_51 ?_
        refine gc_RX7_111_1 F in_X7chooseWire dX7_chooseWire_54 ?_
        refine R_iload_n F dX7_chooseWire_57 rfl 4 rfl ?_
        refine R_ldi F qc_17 dX7_chooseWire_58 hw.1 ?_
        replace hw := hw.2
        exact R_iret (Qc := Q) F rfl dX7_chooseWire_59 hw
  unfold wp_X7chooseWire at hw
  replace hw := hw X10 C_10
  refine R_aload_n F dX7_chooseWire_0 rfl 0 rfl ?_
  refine gc_RX7_23_8 F in_X7chooseWire dX7_chooseWire_1 ?_
  refine gc_RX7_108_1 F in_X7chooseWire dX7_chooseWire_4 ?_
  refine R_iload_n F dX7_chooseWire_7 rfl 1 rfl ?_
  refine R_ldi F qc_18 dX7_chooseWire_8 hw.1 ?_
  replace hw := hw.2
  refine R_topi (fun x1 ex1 => ?_)
  replace hw := hw x1 ex1
  refine R_istore_n (lv' := [(3, .int x1), (0, .ref (B 8)), (1, .int p1), (2, .int p2)]) F dX7_chooseWire_9 rfl (by decide) rfl ?_
  exact R_sub [1, 2, 3, 0] rfl (U_10 p1 p2 x1 σ hw)
def b_X7sortKeys_95 (X9 : Int32 → Int32 → VS → Prop) (X23 : Int32 → Int32 → Int32 → Int32 → VS → Prop) (X45 : Int32 → Int32 → Int32 → Int32 → Int64 → Int32 → VS → Prop) (Q : VS → Prop) (l2 : Int32) (l3 : Int32) (l4 : Int32) (l5 : Int32) (l6 : Int64) (l8 : Int32) (σ : VS) : Prop := (In l8 1000 ∧ X23 l2 l3 l4 (l5 + 1) (slj σ 54 l8 l6))
def b_X7sortKeys_45 (X9 : Int32 → Int32 → VS → Prop) (X23 : Int32 → Int32 → Int32 → Int32 → VS → Prop) (X45 : Int32 → Int32 → Int32 → Int32 → Int64 → Int32 → VS → Prop) (Q : VS → Prop) (l2 : Int32) (l3 : Int32) (l4 : Int32) (l5 : Int32) (l6 : Int64) (l8 : Int32) (σ : VS) : Prop := ((l8.toInt < l4.toInt → b_X7sortKeys_95 X9 X23 X45 Q l2 l3 l4 l5 l6 l8 σ) ∧ (l4.toInt ≤ l8.toInt → (In (l8 - l4) 1000 ∧ (((lg_cmp (rdj σ 54 (l8 - l4)) l6).toInt ≤ 0 → b_X7sortKeys_95 X9 X23 X45 Q l2 l3 l4 l5 l6 l8 σ) ∧ (0 < (lg_cmp (rdj σ 54 (l8 - l4)) l6).toInt → (In (l8 - l4) 1000 ∧ (In l8 1000 ∧ (∀ x3 : Int32, x3 = (l8 - l4) → X45 l2 l3 l4 l5 l6 x3 (slj σ 54 l8 (rdj σ 54 (l8 - l4)))))))))))
def b_X7sortKeys_23 (X9 : Int32 → Int32 → VS → Prop) (X23 : Int32 → Int32 → Int32 → Int32 → VS → Prop) (X45 : Int32 → Int32 → Int32 → Int32 → Int64 → Int32 → VS → Prop) (Q : VS → Prop) (l2 : Int32) (l3 : Int32) (l4 : Int32) (l5 : Int32) (σ : VS) : Prop := (((σ.1 15).toInt ≤ l5.toInt → X9 l2 (l3 + 1) σ) ∧ (l5.toInt < (σ.1 15).toInt → (In l5 1000 ∧ (∀ x2 : Int64, x2 = (rdj σ 54 l5) → X45 l2 l3 l4 l5 x2 l5 σ))))
def b_X7sortKeys_9 (X9 : Int32 → Int32 → VS → Prop) (X23 : Int32 → Int32 → Int32 → Int32 → VS → Prop) (X45 : Int32 → Int32 → Int32 → Int32 → Int64 → Int32 → VS → Prop) (Q : VS → Prop) (l2 : Int32) (l3 : Int32) (σ : VS) : Prop := ((l2.toInt ≤ l3.toInt → Q σ) ∧ (l3.toInt < l2.toInt → (In l3 8 ∧ (∀ x1 : Int32, x1 = (lm_gaps.getD l3.toNatClampNeg 0) → X23 l2 l3 x1 x1 σ))))
def wp_X7sortKeys (Q : VS → Prop) (σ : VS) : Prop := ∀ (X9 : Int32 → Int32 → VS → Prop) (X23 : Int32 → Int32 → Int32 → Int32 → VS → Prop) (X45 : Int32 → Int32 → Int32 → Int32 → Int64 → Int32 → VS → Prop), (∀ (l2 : Int32) (l3 : Int32) (σ : VS), b_X7sortKeys_9 X9 X23 X45 Q l2 l3 σ → X9 l2 l3 σ) → (∀ (l2 : Int32) (l3 : Int32) (l4 : Int32) (l5 : Int32) (σ : VS), b_X7sortKeys_23 X9 X23 X45 Q l2 l3 l4 l5 σ → X23 l2 l3 l4 l5 σ) → (∀ (l2 : Int32) (l3 : Int32) (l4 : Int32) (l5 : Int32) (l6 : Int64) (l8 : Int32) (σ : VS), b_X7sortKeys_45 X9 X23 X45 Q l2 l3 l4 l5 l6 l8 σ → X45 l2 l3 l4 l5 l6 l8 σ) → X9 8 0 σ
theorem dX7_sortKeys_0 : decode cX7_sortKeys 0 = .ok (.getstatic 89, 3) := by decide +kernel
theorem dX7_sortKeys_3 : decode cX7_sortKeys 3 = .ok (.astore_n 1, 1) := by decide +kernel
theorem dX7_sortKeys_4 : decode cX7_sortKeys 4 = .ok (.aload_n 1, 1) := by decide +kernel
theorem dX7_sortKeys_5 : decode cX7_sortKeys 5 = .ok (.arraylength, 1) := by decide +kernel
theorem dX7_sortKeys_6 : decode cX7_sortKeys 6 = .ok (.istore_n 2, 1) := by decide +kernel
theorem dX7_sortKeys_7 : decode cX7_sortKeys 7 = .ok (.iconst 0, 1) := by decide +kernel
theorem dX7_sortKeys_8 : decode cX7_sortKeys 8 = .ok (.istore_n 3, 1) := by decide +kernel
theorem dX7_sortKeys_9 : decode cX7_sortKeys 9 = .ok (.iload_n 3, 1) := by decide +kernel
theorem dX7_sortKeys_10 : decode cX7_sortKeys 10 = .ok (.iload_n 2, 1) := by decide +kernel
theorem dX7_sortKeys_11 : decode cX7_sortKeys 11 = .ok (.if_icmp .ge 105, 3) := by decide +kernel
theorem dX7_sortKeys_116 : decode cX7_sortKeys 116 = .ok (.return_, 1) := by decide +kernel
theorem dX7_sortKeys_14 : decode cX7_sortKeys 14 = .ok (.aload_n 1, 1) := by decide +kernel
theorem dX7_sortKeys_15 : decode cX7_sortKeys 15 = .ok (.iload_n 3, 1) := by decide +kernel
theorem dX7_sortKeys_16 : decode cX7_sortKeys 16 = .ok (.iaload, 1) := by decide +kernel
theorem dX7_sortKeys_17 : decode cX7_sortKeys 17 = .ok (.istore 4, 2) := by decide +kernel
theorem dX7_sortKeys_19 : decode cX7_sortKeys 19 = .ok (.iload 4, 2) := by decide +kernel
theorem dX7_sortKeys_21 : decode cX7_sortKeys 21 = .ok (.istore 5, 2) := by decide +kernel
theorem dX7_sortKeys_23 : decode cX7_sortKeys 23 = .ok (.iload 5, 2) := by decide +kernel
theorem dX7_sortKeys_25 : decode cX7_sortKeys 25 = .ok (.aload_n 0, 1) := by decide +kernel
theorem dX7_sortKeys_26 : decode cX7_sortKeys 26 = .ok (.getfield 58, 3) := by decide +kernel
theorem dX7_sortKeys_29 : decode cX7_sortKeys 29 = .ok (.if_icmp .ge 81, 3) := by decide +kernel
theorem dX7_sortKeys_110 : decode cX7_sortKeys 110 = .ok (.iinc 3 1, 3) := by decide +kernel
theorem dX7_sortKeys_113 : decode cX7_sortKeys 113 = .ok (.goto (-104), 3) := by decide +kernel
theorem dX7_sortKeys_32 : decode cX7_sortKeys 32 = .ok (.aload_n 0, 1) := by decide +kernel
theorem dX7_sortKeys_33 : decode cX7_sortKeys 33 = .ok (.getfield 19, 3) := by decide +kernel
theorem dX7_sortKeys_36 : decode cX7_sortKeys 36 = .ok (.iload 5, 2) := by decide +kernel
theorem dX7_sortKeys_38 : decode cX7_sortKeys 38 = .ok (.laload, 1) := by decide +kernel
theorem dX7_sortKeys_39 : decode cX7_sortKeys 39 = .ok (.lstore 6, 2) := by decide +kernel
theorem dX7_sortKeys_41 : decode cX7_sortKeys 41 = .ok (.iload 5, 2) := by decide +kernel
theorem dX7_sortKeys_43 : decode cX7_sortKeys 43 = .ok (.istore 8, 2) := by decide +kernel
theorem dX7_sortKeys_45 : decode cX7_sortKeys 45 = .ok (.iload 8, 2) := by decide +kernel
theorem dX7_sortKeys_47 : decode cX7_sortKeys 47 = .ok (.iload 4, 2) := by decide +kernel
theorem dX7_sortKeys_49 : decode cX7_sortKeys 49 = .ok (.if_icmp .lt 46, 3) := by decide +kernel
theorem dX7_sortKeys_52 : decode cX7_sortKeys 52 = .ok (.aload_n 0, 1) := by decide +kernel
theorem dX7_sortKeys_53 : decode cX7_sortKeys 53 = .ok (.getfield 19, 3) := by decide +kernel
theorem dX7_sortKeys_56 : decode cX7_sortKeys 56 = .ok (.iload 8, 2) := by decide +kernel
theorem dX7_sortKeys_58 : decode cX7_sortKeys 58 = .ok (.iload 4, 2) := by decide +kernel
theorem dX7_sortKeys_60 : decode cX7_sortKeys 60 = .ok (.isub, 1) := by decide +kernel
theorem dX7_sortKeys_61 : decode cX7_sortKeys 61 = .ok (.laload, 1) := by decide +kernel
theorem dX7_sortKeys_62 : decode cX7_sortKeys 62 = .ok (.lload 6, 2) := by decide +kernel
theorem dX7_sortKeys_64 : decode cX7_sortKeys 64 = .ok (.lcmp, 1) := by decide +kernel
theorem dX7_sortKeys_65 : decode cX7_sortKeys 65 = .ok (.ifCond .le 30, 3) := by decide +kernel
theorem dX7_sortKeys_68 : decode cX7_sortKeys 68 = .ok (.aload_n 0, 1) := by decide +kernel
theorem dX7_sortKeys_69 : decode cX7_sortKeys 69 = .ok (.getfield 19, 3) := by decide +kernel
theorem dX7_sortKeys_72 : decode cX7_sortKeys 72 = .ok (.iload 8, 2) := by decide +kernel
theorem dX7_sortKeys_74 : decode cX7_sortKeys 74 = .ok (.aload_n 0, 1) := by decide +kernel
theorem dX7_sortKeys_75 : decode cX7_sortKeys 75 = .ok (.getfield 19, 3) := by decide +kernel
theorem dX7_sortKeys_78 : decode cX7_sortKeys 78 = .ok (.iload 8, 2) := by decide +kernel
theorem dX7_sortKeys_80 : decode cX7_sortKeys 80 = .ok (.iload 4, 2) := by decide +kernel
theorem dX7_sortKeys_82 : decode cX7_sortKeys 82 = .ok (.isub, 1) := by decide +kernel
theorem dX7_sortKeys_83 : decode cX7_sortKeys 83 = .ok (.laload, 1) := by decide +kernel
theorem dX7_sortKeys_84 : decode cX7_sortKeys 84 = .ok (.lastore, 1) := by decide +kernel
theorem dX7_sortKeys_85 : decode cX7_sortKeys 85 = .ok (.iload 8, 2) := by decide +kernel
theorem dX7_sortKeys_87 : decode cX7_sortKeys 87 = .ok (.iload 4, 2) := by decide +kernel
theorem dX7_sortKeys_89 : decode cX7_sortKeys 89 = .ok (.isub, 1) := by decide +kernel
theorem dX7_sortKeys_90 : decode cX7_sortKeys 90 = .ok (.istore 8, 2) := by decide +kernel
theorem dX7_sortKeys_92 : decode cX7_sortKeys 92 = .ok (.goto (-47), 3) := by decide +kernel
theorem dX7_sortKeys_95 : decode cX7_sortKeys 95 = .ok (.aload_n 0, 1) := by decide +kernel
theorem dX7_sortKeys_96 : decode cX7_sortKeys 96 = .ok (.getfield 19, 3) := by decide +kernel
theorem dX7_sortKeys_99 : decode cX7_sortKeys 99 = .ok (.iload 8, 2) := by decide +kernel
theorem dX7_sortKeys_101 : decode cX7_sortKeys 101 = .ok (.lload 6, 2) := by decide +kernel
theorem dX7_sortKeys_103 : decode cX7_sortKeys 103 = .ok (.lastore, 1) := by decide +kernel
theorem dX7_sortKeys_104 : decode cX7_sortKeys 104 = .ok (.iinc 5 1, 3) := by decide +kernel
theorem dX7_sortKeys_107 : decode cX7_sortKeys 107 = .ok (.goto (-84), 3) := by decide +kernel
def wo_X7sortKeys : List Cond := [.code yX7_sortKeys cX7_sortKeys 9 none]
def wr_X7sortKeys : List Cond := (wfC ++ ([]))
def w_X7sortKeys : List Cond := wo_X7sortKeys ++ wr_X7sortKeys
theorem wg_X7sortKeys : GW w_X7sortKeys := GW_app (GW_of (by decide +kernel)) (GW_app (wg_fC) (GW_nil))
theorem in_X7sortKeys : ∀ w ∈ wfC, w ∈ w_X7sortKeys := fun _ h => List.mem_append_right _ (List.mem_append_left _ h)
set_option maxHeartbeats 4000000 in
set_option maxRecDepth 100000 in
theorem ct_X7sortKeys (l : Launch) (E : gE) (B : Nat → Nat) (Q : VS → Prop) (σ : VS) (hw : wp_X7sortKeys Q σ) : CtV l E yX7_sortKeys w_X7sortKeys (({ frames := 0, cells := 0, slots := 0, locals := 0 } : Room)) (wc E B σ) [.ref (B 8)] (fun w => ∃ σ' : VS, Q σ' ∧ w = wc E B σ') := by
  refine VC_V (cc := cX7_sortKeys) (mL := 9) (rt := none) (lv0 := [(0, .ref (B 8))]) rfl (by decide) rfl (Nat.le_of_ble_eq_true rfl) ?_
  intro p e s m below meth c A F
  replace F : Fx p s m _ meth c A E cX7_sortKeys 9 none RX7 w_X7sortKeys := F
  obtain ⟨X9, hX9⟩ : ∃ X : Int32 → Int32 → VS → Prop, X = fun l2 l3 σ => WB p l e (({ frames := 0, cells := 0, slots := 0, locals := 0 } : Room)) s m (#[.ref (B 8)]) below meth c (MQ below (va_Qv (fun w => ∃ σ' : VS, Q σ' ∧ w = wc E B σ') (AftU E A) A) (#[.ref (B 8)]) s (({ frames := 0, cells := 0, slots := 0, locals := 0 } : Room)).cells (({ frames := 0, cells := 0, slots := 0, locals := 0 } : Room)).slots A) A E (wc E B) 9 9 [(0, .ref (B 8)), (1, .ref E.2.2.2.2.2.2), (2, .int l2), (3, .int l3)] [] σ := ⟨_, rfl⟩
  have U_9 : ∀ (l2 : Int32) (l3 : Int32) (σ : VS), X9 l2 l3 σ → WB p l e (({ frames := 0, cells := 0, slots := 0, locals := 0 } : Room)) s m (#[.ref (B 8)]) below meth c (MQ below (va_Qv (fun w => ∃ σ' : VS, Q σ' ∧ w = wc E B σ') (AftU E A) A) (#[.ref (B 8)]) s (({ frames := 0, cells := 0, slots := 0, locals := 0 } : Room)).cells (({ frames := 0, cells := 0, slots := 0, locals := 0 } : Room)).slots A) A E (wc E B) 9 9 [(0, .ref (B 8)), (1, .ref E.2.2.2.2.2.2), (2, .int l2), (3, .int l3)] [] σ := by
    intro l2 l3 σ hw; rw [hX9] at hw; exact hw
  obtain ⟨X23, hX23⟩ : ∃ X : Int32 → Int32 → Int32 → Int32 → VS → Prop, X = fun l2 l3 l4 l5 σ => WB p l e (({ frames := 0, cells := 0, slots := 0, locals := 0 } : Room)) s m (#[.ref (B 8)]) below meth c (MQ below (va_Qv (fun w => ∃ σ' : VS, Q σ' ∧ w = wc E B σ') (AftU E A) A) (#[.ref (B 8)]) s (({ frames := 0, cells := 0, slots := 0, locals := 0 } : Room)).cells (({ frames := 0, cells := 0, slots := 0, locals := 0 } : Room)).slots A) A E (wc E B) 9 23 [(0, .ref (B 8)), (1, .ref E.2.2.2.2.2.2), (2, .int l2), (3, .int l3), (4, .int l4), (5, .int l5)] [] σ := ⟨_, rfl⟩
  have U_23 : ∀ (l2 : Int32) (l3 : Int32) (l4 : Int32) (l5 : Int32) (σ : VS), X23 l2 l3 l4 l5 σ → WB p l e (({ frames := 0, cells := 0, slots := 0, locals := 0 } : Room)) s m (#[.ref (B 8)]) below meth c (MQ below (va_Qv (fun w => ∃ σ' : VS, Q σ' ∧ w = wc E B σ') (AftU E A) A) (#[.ref (B 8)]) s (({ frames := 0, cells := 0, slots := 0, locals := 0 } : Room)).cells (({ frames := 0, cells := 0, slots := 0, locals := 0 } : Room)).slots A) A E (wc E B) 9 23 [(0, .ref (B 8)), (1, .ref E.2.2.2.2.2.2), (2, .int l2), (3, .int l3), (4, .int l4), (5, .int l5)] [] σ := by
    intro l2 l3 l4 l5 σ hw; rw [hX23] at hw; exact hw
  obtain ⟨X45, hX45⟩ : ∃ X : Int32 → Int32 → Int32 → Int32 → Int64 → Int32 → VS → Prop, X = fun l2 l3 l4 l5 l6 l8 σ => WB p l e (({ frames := 0, cells := 0, slots := 0, locals := 0 } : Room)) s m (#[.ref (B 8)]) below meth c (MQ below (va_Qv (fun w => ∃ σ' : VS, Q σ' ∧ w = wc E B σ') (AftU E A) A) (#[.ref (B 8)]) s (({ frames := 0, cells := 0, slots := 0, locals := 0 } : Room)).cells (({ frames := 0, cells := 0, slots := 0, locals := 0 } : Room)).slots A) A E (wc E B) 9 45 [(0, .ref (B 8)), (1, .ref E.2.2.2.2.2.2), (2, .int l2), (3, .int l3), (4, .int l4), (5, .int l5), (6, .long l6), (8, .int l8)] [] σ := ⟨_, rfl⟩
  have U_45 : ∀ (l2 : Int32) (l3 : Int32) (l4 : Int32) (l5 : Int32) (l6 : Int64) (l8 : Int32) (σ : VS), X45 l2 l3 l4 l5 l6 l8 σ → WB p l e (({ frames := 0, cells := 0, slots := 0, locals := 0 } : Room)) s m (#[.ref (B 8)]) below meth c (MQ below (va_Qv (fun w => ∃ σ' : VS, Q σ' ∧ w = wc E B σ') (AftU E A) A) (#[.ref (B 8)]) s (({ frames := 0, cells := 0, slots := 0, locals := 0 } : Room)).cells (({ frames := 0, cells := 0, slots := 0, locals := 0 } : Room)).slots A) A E (wc E B) 9 45 [(0, .ref (B 8)), (1, .ref E.2.2.2.2.2.2), (2, .int l2), (3, .int l3), (4, .int l4), (5, .int l5), (6, .long l6), (8, .int l8)] [] σ := by
    intro l2 l3 l4 l5 l6 l8 σ hw; rw [hX45] at hw; exact hw
  have J_95 : ∀ (l2 : Int32) (l3 : Int32) (l4 : Int32) (l5 : Int32) (l6 : Int64) (l8 : Int32) (σ : VS), b_X7sortKeys_95 X9 X23 X45 Q l2 l3 l4 l5 l6 l8 σ → WB p l e (({ frames := 0, cells := 0, slots := 0, locals := 0 } : Room)) s m (#[.ref (B 8)]) below meth c (MQ below (va_Qv (fun w => ∃ σ' : VS, Q σ' ∧ w = wc E B σ') (AftU E A) A) (#[.ref (B 8)]) s (({ frames := 0, cells := 0, slots := 0, locals := 0 } : Room)).cells (({ frames := 0, cells := 0, slots := 0, locals := 0 } : Room)).slots A) A E (wc E B) 9 95 [(0, .ref (B 8)), (1, .ref E.2.2.2.2.2.2), (2, .int l2), (3, .int l3), (4, .int l4), (5, .int l5), (6, .long l6), (8, .int l8)] [] σ := by
    intro l2 l3 l4 l5 l6 l8 σ hw
    unfold b_X7sortKeys_95 at hw
    refine R_aload_n F dX7_sortKeys_95 rfl 0 rfl ?_
    refine gc_RX7_19_8 F in_X7sortKeys dX7_sortKeys_96 ?_
    refine R_iload F dX7_sortKeys_99 7 rfl ?_
    refine R_lload F dX7_sortKeys_101 6 rfl ?_
    have hi := hw.1
    replace hw := hw.2
    refine R_stj F qc_54 uc_54 dX7_sortKeys_103 hi ?_
    refine R_iinc (q := 5) (v := (l5 + 1)) (lv' := [(5, .int (l5 + 1)), (0, .ref (B 8)), (1, .ref E.2.2.2.2.2.2), (2, .int l2), (3, .int l3), (4, .int l4), (6, .long l6), (8, .int l8)]) F dX7_sortKeys_104 rfl rfl (by decide) rfl ?_
    refine R_goto (tgt := 23) F dX7_sortKeys_107 (by decide) ?_
    exact R_sub [1, 2, 3, 4, 5, 0] rfl (U_23 l2 l3 l4 (l5 + 1) (slj σ 54 l8 l6) hw)
  have C_9 : ∀ (l2 : Int32) (l3 : Int32) (σ : VS), b_X7sortKeys_9 X9 X23 X45 Q l2 l3 σ → X9 l2 l3 σ := by
    intro l2 l3 σ hw
    unfold b_X7sortKeys_9 at hw
    rw [hX9]
    show WB p l e (({ frames := 0, cells := 0, slots := 0, locals := 0 } : Room)) s m (#[.ref (B 8)]) below meth c (MQ below (va_Qv (fun w => ∃ σ' : VS, Q σ' ∧ w = wc E B σ') (AftU E A) A) (#[.ref (B 8)]) s (({ frames := 0, cells := 0, slots := 0, locals := 0 } : Room)).cells (({ frames := 0, cells := 0, slots := 0, locals := 0 } : Room)).slots A) A E (wc E B) 9 9 [(0, .ref (B 8)), (1, .ref E.2.2.2.2.2.2), (2, .int l2), (3, .int l3)] [] σ
    refine R_iload_n F dX7_sortKeys_9 rfl 3 rfl ?_
    refine R_iload_n F dX7_sortKeys_10 rfl 2 rfl ?_
    refine R_icmp_ge (tgt := 116) F dX7_sortKeys_11 (by decide) (fun hc => ?_) (fun hc => ?_)
    · replace hw := hw.1 hc
      exact R_vret (Qc := Q) F dX7_sortKeys_116 hw
    · replace hw := hw.2 hc
      refine R_aload_n F dX7_sortKeys_14 rfl 1 rfl ?_
      refine R_iload_n F dX7_sortKeys_15 rfl 3 rfl ?_
      refine R_gl_GAPS F dX7_sortKeys_16 hw.1 ?_
      replace hw := hw.2
      refine R_topi (fun x1 ex1 => ?_)
      replace hw := hw x1 ex1
      refine R_istore (lv' := [(4, .int x1), (0, .ref (B 8)), (1, .ref E.2.2.2.2.2.2), (2, .int l2), (3, .int l3)]) F dX7_sortKeys_17 (by decide) rfl ?_
      refine R_iload F dX7_sortKeys_19 0 rfl ?_
      refine R_istore (lv' := [(5, .int x1), (4, .int x1), (0, .ref (B 8)), (1, .ref E.2.2.2.2.2.2), (2, .int l2), (3, .int l3)]) F dX7_sortKeys_21 (by decide) rfl ?_
      exact R_sub [2, 3, 4, 5, 1, 0] rfl (U_23 l2 l3 x1 x1 σ hw)
  have C_23 : ∀ (l2 : Int32) (l3 : Int32) (l4 : Int32) (l5 : Int32) (σ : VS), b_X7sortKeys_23 X9 X23 X45 Q l2 l3 l4 l5 σ → X23 l2 l3 l4 l5 σ := by
    intro l2 l3 l4 l5 σ hw
    unfold b_X7sortKeys_23 at hw
    rw [hX23]
    show WB p l e (({ frames := 0, cells := 0, slots := 0, locals := 0 } : Room)) s m (#[.ref (B 8)]) below meth c (MQ below (va_Qv (fun w => ∃ σ' : VS, Q σ' ∧ w = wc E B σ') (AftU E A) A) (#[.ref (B 8)]) s (({ frames := 0, cells := 0, slots := 0, locals := 0 } : Room)).cells (({ frames := 0, cells := 0, slots := 0, locals := 0 } : Room)).slots A) A E (wc E B) 9 23 [(0, .ref (B 8)), (1, .ref E.2.2.2.2.2.2), (2, .int l2), (3, .int l3), (4, .int l4), (5, .int l5)] [] σ
    refine R_iload F dX7_sortKeys_23 5 rfl ?_
    refine R_aload_n F dX7_sortKeys_25 rfl 0 rfl ?_
    refine gc_RX7_58_8 F in_X7sortKeys dX7_sortKeys_26 ?_
    refine R_icmp_ge (tgt := 110) F dX7_sortKeys_29 (by decide) (fun hc => ?_) (fun hc => ?_)
    · replace hw := hw.1 hc
      refine R_iinc (q := 3) (v := (l3 + 1)) (lv' := [(3, .int (l3 + 1)), (0, .ref (B 8)), (1, .ref E.2.2.2.2.2.2), (2, .int l2), (4, .int l4), (5, .int l5)]) F dX7_sortKeys_110 rfl rfl (by decide) rfl ?_
      refine R_goto (tgt := 9) F dX7_sortKeys_113 (by decide) ?_
      exact R_sub [1, 2, 3, 0] rfl (U_9 l2 (l3 + 1) σ hw)
    · replace hw := hw.2 hc
      refine R_aload_n F dX7_sortKeys_32 rfl 0 rfl ?_
      refine gc_RX7_19_8 F in_X7sortKeys dX7_sortKeys_33 ?_
      refine R_iload F dX7_sortKeys_36 5 rfl ?_
      refine R_ldj F qc_54 dX7_sortKeys_38 hw.1 ?_
      replace hw := hw.2
      refine R_topl (fun x2 ex2 => ?_)
      replace hw := hw x2 ex2
      refine R_lstore (lv' := [(6, .long x2), (0, .ref (B 8)), (1, .ref E.2.2.2.2.2.2), (2, .int l2), (3, .int l3), (4, .int l4), (5, .int l5)]) F dX7_sortKeys_39 (by decide) rfl ?_
      refine R_iload F dX7_sortKeys_41 6 rfl ?_
      refine R_istore (lv' := [(8, .int l5), (6, .long x2), (0, .ref (B 8)), (1, .ref E.2.2.2.2.2.2), (2, .int l2), (3, .int l3), (4, .int l4), (5, .int l5)]) F dX7_sortKeys_43 (by decide) rfl ?_
      exact R_sub [2, 3, 4, 5, 6, 7, 1, 0] rfl (U_45 l2 l3 l4 l5 x2 l5 σ hw)
  have C_45 : ∀ (l2 : Int32) (l3 : Int32) (l4 : Int32) (l5 : Int32) (l6 : Int64) (l8 : Int32) (σ : VS), b_X7sortKeys_45 X9 X23 X45 Q l2 l3 l4 l5 l6 l8 σ → X45 l2 l3 l4 l5 l6 l8 σ := by
    intro l2 l3 l4 l5 l6 l8 σ hw
    unfold b_X7sortKeys_45 at hw
    rw [hX45]
    show WB p l e (({ frames := 0, cells := 0, slots := 0, locals := 0 } : Room)) s m (#[.ref (B 8)]) below meth c (MQ below (va_Qv (fun w => ∃ σ' : VS, Q σ' ∧ w = wc E B σ') (AftU E A) A) (#[.ref (B 8)]) s (({ frames := 0, cells := 0, slots := 0, locals := 0 } : Room)).cells (({ frames := 0, cells := 0, slots := 0, locals := 0 } : Room)).slots A) A E (wc E B) 9 45 [(0, .ref (B 8)), (1, .ref E.2.2.2.2.2.2), (2, .int l2), (3, .int l3), (4, .int l4), (5, .int l5), (6, .long l6), (8, .int l8)] [] σ
    refine R_iload F dX7_sortKeys_45 7 rfl ?_
    refine R_iload F dX7_sortKeys_47 4 rfl ?_
    refine R_icmp_lt (tgt := 95) F dX7_sortKeys_49 (by decide) (fun hc => ?_) (fun hc => ?_)
    · replace hw := hw.1 hc
      exact R_sub [0, 1, 2, 3, 4, 5, 6, 7] rfl (J_95 l2 l3 l4 l5 l6 l8 σ hw)
    · replace hw := hw.2 hc
      refine R_aload_n F dX7_sortKeys_52 rfl 0 rfl ?_
      refine gc_RX7_19_8 F in_X7sortKeys dX7_sortKeys_53 ?_
      refine R_iload F dX7_sortKeys_56 7 rfl ?_
      refine R_iload F dX7_sortKeys_58 4 rfl ?_
      refine R_isub F dX7_sortKeys_60 ?_
      refine R_ldj F qc_54 dX7_sortKeys_61 hw.1 ?_
      replace hw := hw.2
      refine R_lload F dX7_sortKeys_62 6 rfl ?_
      refine R_lcmp F dX7_sortKeys_64 ?_
      refine R_if_le (tgt := 95) F dX7_sortKeys_65 (by decide) (fun hc => ?_) (fun hc => ?_)
      · replace hw := hw.1 hc
        exact R_sub [0, 1, 2, 3, 4, 5, 6, 7] rfl (J_95 l2 l3 l4 l5 l6 l8 σ hw)
      · replace hw := hw.2 hc
        refine R_aload_n F dX7_sortKeys_68 rfl 0 rfl ?_
        refine gc_RX7_19_8 F in_X7sortKeys dX7_sortKeys_69 ?_
        refine R_iload F dX7_sortKeys_72 7 rfl ?_
        refine R_aload_n F dX7_sortKeys_74 rfl 0 rfl ?_
        refine gc_RX7_19_8 F in_X7sortKeys dX7_sortKeys_75 ?_
        refine R_iload F dX7_sortKeys_78 7 rfl ?_
        refine R_iload F dX7_sortKeys_80 4 rfl ?_
        refine R_isub F dX7_sortKeys_82 ?_
        refine R_ldj F qc_54 dX7_sortKeys_83 hw.1 ?_
        replace hw := hw.2
        have hi := hw.1
        replace hw := hw.2
        refine R_stj F qc_54 uc_54 dX7_sortKeys_84 hi ?_
        refine R_iload F dX7_sortKeys_85 7 rfl ?_
        refine R_iload F dX7_sortKeys_87 4 rfl ?_
        refine R_isub F dX7_sortKeys_89 ?_
        refine R_topi (fun x3 ex3 => ?_)
        replace hw := hw x3 ex3
        refine R_istore (lv' := [(8, .int x3), (0, .ref (B 8)), (1, .ref E.2.2.2.2.2.2), (2, .int l2), (3, .int l3), (4, .int l4), (5, .int l5), (6, .long l6)]) F dX7_sortKeys_90 (by decide) rfl ?_
        refine R_goto (tgt := 45) F dX7_sortKeys_92 (by decide) ?_
        exact R_sub [1, 2, 3, 4, 5, 6, 7, 0] rfl (U_45 l2 l3 l4 l5 l6 x3 (slj σ 54 l8 (rdj σ 54 (l8 - l4))) hw)
  unfold wp_X7sortKeys at hw
  replace hw := hw X9 X23 X45 C_9 C_23 C_45
  refine R_gs_GAPS (ref := "TimingHouse$Tracer") F (in_X7sortKeys _ (List.mem_append_left _ (by decide +kernel))) (fun _ h9 => h9) dX7_sortKeys_0 ?_
  refine R_astore_n (lv' := [(1, .ref E.2.2.2.2.2.2), (0, .ref (B 8))]) F dX7_sortKeys_3 rfl (by decide) rfl ?_
  refine R_aload_n F dX7_sortKeys_4 rfl 0 rfl ?_
  refine R_gn_GAPS F dX7_sortKeys_5 ?_
  refine R_istore_n (lv' := [(2, .int 8), (1, .ref E.2.2.2.2.2.2), (0, .ref (B 8))]) F dX7_sortKeys_6 rfl (by decide) rfl ?_
  refine R_iconst F 0 dX7_sortKeys_7 (by decide) ?_
  refine R_istore_n (lv' := [(3, .int 0), (2, .int 8), (1, .ref E.2.2.2.2.2.2), (0, .ref (B 8))]) F dX7_sortKeys_8 rfl (by decide) rfl ?_
  exact R_sub [3, 2, 1, 0] rfl (U_9 8 0 σ hw)
def b_X7layS_240 (X85 : Int32 → Int32 → Int32 → Int32 → Int32 → Int32 → VS → Prop) (Q : VS → Prop) (l4 : Int32) (l5 : Int32) (l6 : Int32) (l7 : Int32) (σ : VS) : Prop := wp_X8putStepS (fun (σ7 : VS) => wp_X3periodsOf (fun (r8 : Int32) (σ9 : VS) => wp_X2slackRoom (fun (r10 : Int32) (σ11 : VS) => wp_X2holdRoom (fun (r12 : Int32) (σ13 : VS) => Q (sf σ13 18 (l6 + r12))) ((sf σ11 17 (((r8 * (σ9.1 4)) + r10) - l5)).1 12) ((sf σ11 17 (((r8 * (σ9.1 4)) + r10) - l5)).1 13) (sf σ11 17 (((r8 * (σ9.1 4)) + r10) - l5))) (σ9.1 12) (σ9.1 13) σ9) (σ7.1 12) (σ7.1 13) l7 σ7) (σ.1 13) 0 l4 l5 σ
def b_X7layS_178 (X85 : Int32 → Int32 → Int32 → Int32 → Int32 → Int32 → VS → Prop) (Q : VS → Prop) (l5 : Int32) (l6 : Int32) (l7 : Int32) (l8 : Int32) (l9 : Int32) (l10 : Int32) (k0 : Int32) (σ : VS) : Prop := (In ((l8 * 2) + k0) 400 ∧ (∀ x18 : Int32, x18 = (l5 + (rd σ 41 ((l8 * 2) + k0))) → (In ((l8 * 2) + k0) 400 ∧ (∀ x19 : Int32, x19 = (l6 + (rd σ 42 ((l8 * 2) + k0))) → wp_X8putStepS (fun (σ21 : VS) => X85 k0 x18 x19 l7 l8 (l9 + 1) σ21) l10 (l8 - l8 / 4 * 4) k0 x18 σ))))
def b_X7layS_109 (X85 : Int32 → Int32 → Int32 → Int32 → Int32 → Int32 → VS → Prop) (Q : VS → Prop) (l4 : Int32) (l5 : Int32) (l6 : Int32) (l7 : Int32) (l9 : Int32) (k0 : Int32) (σ : VS) : Prop := wp_X7chooseWire (fun (r14 : Int32) (σ15 : VS) => ((0 ≤ r14.toInt → (∀ x16 : Int32, x16 = (r14 / 4) → (In x16 50 ∧ (∀ x17 : Int32, x17 = (l7 ||| (rd σ15 35 x16)) → ((x16.toInt ≠ (σ15.1 13).toInt → (In x16 50 ∧ (((rd σ15 11 x16).toInt ≠ 2 → b_X7layS_178 X85 Q l5 l6 x17 r14 l9 x16 l4 σ15) ∧ ((rd σ15 11 x16).toInt = 2 → b_X7layS_178 X85 Q l5 l6 x17 r14 l9 x16 (1 - l4) σ15)))) ∧ (x16.toInt = (σ15.1 13).toInt → b_X7layS_240 X85 Q l4 l5 l6 x17 σ15)))))) ∧ (r14.toInt < 0 → Q σ15))) k0 l7 σ
def b_X7layS_85 (X85 : Int32 → Int32 → Int32 → Int32 → Int32 → Int32 → VS → Prop) (Q : VS → Prop) (l4 : Int32) (l5 : Int32) (l6 : Int32) (l7 : Int32) (l8 : Int32) (l9 : Int32) (σ : VS) : Prop := ((51 ≤ l9.toInt → b_X7layS_240 X85 Q l4 l5 l6 l7 σ) ∧ (l9.toInt < 51 → ((0 ≤ l8.toInt → b_X7layS_109 X85 Q l4 l5 l6 l7 l9 (l8 / 4) σ) ∧ (l8.toInt < 0 → b_X7layS_109 X85 Q l4 l5 l6 l7 l9 (σ.1 12) σ))))
def wp_X7layS (Q : VS → Prop) (p1 : Int32) (p2 : Int32) (σ : VS) : Prop := ∀ (X85 : Int32 → Int32 → Int32 → Int32 → Int32 → Int32 → VS → Prop), (∀ (l4 : Int32) (l5 : Int32) (l6 : Int32) (l7 : Int32) (l8 : Int32) (l9 : Int32) (σ : VS), b_X7layS_85 X85 Q l4 l5 l6 l7 l8 l9 σ → X85 l4 l5 l6 l7 l8 l9 σ) → (In (((σ.1 12) * 2) + p1) 100 ∧ (∀ x1 : Int32, x1 = (rd σ 45 (((σ.1 12) * 2) + p1)) → (In (((σ.1 12) * 2) + p1) 100 ∧ (∀ x2 : Int32, x2 = (rd σ 46 (((σ.1 12) * 2) + p1)) → (In (σ.1 12) 50 ∧ (∀ x3 : Int32, x3 = (rd σ 35 (σ.1 12)) → wp_X8putStepS (fun (σ5 : VS) => X85 p1 x1 x2 x3 (-5) 0 σ5) ((sf (sf σ 14 p2) 16 0).1 12) (-1) p1 x1 (sf (sf σ 14 p2) 16 0)))))))
theorem dX7_lay_0 : decode cX7_lay 0 = .ok (.iload_n 1, 1) := by decide +kernel
theorem dX7_lay_1 : decode cX7_lay 1 = .ok (.istore 4, 2) := by decide +kernel
theorem dX7_lay_3 : decode cX7_lay 3 = .ok (.aload_n 0, 1) := by decide +kernel
theorem dX7_lay_4 : decode cX7_lay 4 = .ok (.getfield 35, 3) := by decide +kernel
theorem dX7_lay_7 : decode cX7_lay 7 = .ok (.getfield 129, 3) := by decide +kernel
theorem dX7_lay_10 : decode cX7_lay 10 = .ok (.aload_n 0, 1) := by decide +kernel
theorem dX7_lay_11 : decode cX7_lay 11 = .ok (.getfield 92, 3) := by decide +kernel
theorem dX7_lay_14 : decode cX7_lay 14 = .ok (.iconst 2, 1) := by decide +kernel
theorem dX7_lay_15 : decode cX7_lay 15 = .ok (.imul, 1) := by decide +kernel
theorem dX7_lay_16 : decode cX7_lay 16 = .ok (.iload 4, 2) := by decide +kernel
theorem dX7_lay_18 : decode cX7_lay 18 = .ok (.iadd, 1) := by decide +kernel
theorem dX7_lay_19 : decode cX7_lay 19 = .ok (.iaload, 1) := by decide +kernel
theorem dX7_lay_20 : decode cX7_lay 20 = .ok (.istore 5, 2) := by decide +kernel
theorem dX7_lay_22 : decode cX7_lay 22 = .ok (.aload_n 0, 1) := by decide +kernel
theorem dX7_lay_23 : decode cX7_lay 23 = .ok (.getfield 35, 3) := by decide +kernel
theorem dX7_lay_26 : decode cX7_lay 26 = .ok (.getfield 134, 3) := by decide +kernel
theorem dX7_lay_29 : decode cX7_lay 29 = .ok (.aload_n 0, 1) := by decide +kernel
theorem dX7_lay_30 : decode cX7_lay 30 = .ok (.getfield 92, 3) := by decide +kernel
theorem dX7_lay_33 : decode cX7_lay 33 = .ok (.iconst 2, 1) := by decide +kernel
theorem dX7_lay_34 : decode cX7_lay 34 = .ok (.imul, 1) := by decide +kernel
theorem dX7_lay_35 : decode cX7_lay 35 = .ok (.iload 4, 2) := by decide +kernel
theorem dX7_lay_37 : decode cX7_lay 37 = .ok (.iadd, 1) := by decide +kernel
theorem dX7_lay_38 : decode cX7_lay 38 = .ok (.iaload, 1) := by decide +kernel
theorem dX7_lay_39 : decode cX7_lay 39 = .ok (.istore 6, 2) := by decide +kernel
theorem dX7_lay_41 : decode cX7_lay 41 = .ok (.aload_n 0, 1) := by decide +kernel
theorem dX7_lay_42 : decode cX7_lay 42 = .ok (.getfield 31, 3) := by decide +kernel
theorem dX7_lay_45 : decode cX7_lay 45 = .ok (.getfield 105, 3) := by decide +kernel
theorem dX7_lay_48 : decode cX7_lay 48 = .ok (.aload_n 0, 1) := by decide +kernel
theorem dX7_lay_49 : decode cX7_lay 49 = .ok (.getfield 92, 3) := by decide +kernel
theorem dX7_lay_52 : decode cX7_lay 52 = .ok (.iaload, 1) := by decide +kernel
theorem dX7_lay_53 : decode cX7_lay 53 = .ok (.istore 7, 2) := by decide +kernel
theorem dX7_lay_55 : decode cX7_lay 55 = .ok (.bipush (-5), 2) := by decide +kernel
theorem dX7_lay_57 : decode cX7_lay 57 = .ok (.istore 8, 2) := by decide +kernel
theorem dX7_lay_59 : decode cX7_lay 59 = .ok (.aload_n 0, 1) := by decide +kernel
theorem dX7_lay_60 : decode cX7_lay 60 = .ok (.iload_n 2, 1) := by decide +kernel
theorem dX7_lay_61 : decode cX7_lay 61 = .ok (.putfield 137, 3) := by decide +kernel
theorem dX7_lay_64 : decode cX7_lay 64 = .ok (.aload_n 3, 1) := by decide +kernel
theorem dX7_lay_65 : decode cX7_lay 65 = .ok (.iconst 0, 1) := by decide +kernel
theorem dX7_lay_66 : decode cX7_lay 66 = .ok (.putfield 140, 3) := by decide +kernel
theorem dX7_lay_69 : decode cX7_lay 69 = .ok (.aload_n 3, 1) := by decide +kernel
theorem dX7_lay_70 : decode cX7_lay 70 = .ok (.aload_n 0, 1) := by decide +kernel
theorem dX7_lay_71 : decode cX7_lay 71 = .ok (.getfield 92, 3) := by decide +kernel
theorem dX7_lay_74 : decode cX7_lay 74 = .ok (.iconst (-1), 1) := by decide +kernel
theorem dX7_lay_75 : decode cX7_lay 75 = .ok (.iload 4, 2) := by decide +kernel
theorem dX7_lay_77 : decode cX7_lay 77 = .ok (.iload 5, 2) := by decide +kernel
theorem dX7_lay_79 : decode cX7_lay 79 = .ok (.invokevirtual 143, 3) := by decide +kernel
theorem dX7_lay_82 : decode cX7_lay 82 = .ok (.iconst 0, 1) := by decide +kernel
theorem dX7_lay_83 : decode cX7_lay 83 = .ok (.istore 9, 2) := by decide +kernel
theorem dX7_lay_85 : decode cX7_lay 85 = .ok (.iload 9, 2) := by decide +kernel
theorem dX7_lay_87 : decode cX7_lay 87 = .ok (.bipush 51, 2) := by decide +kernel
theorem dX7_lay_89 : decode cX7_lay 89 = .ok (.if_icmp .ge 151, 3) := by decide +kernel
theorem dX7_lay_92 : decode cX7_lay 92 = .ok (.aload_n 0, 1) := by decide +kernel
theorem dX7_lay_93 : decode cX7_lay 93 = .ok (.iload 8, 2) := by decide +kernel
theorem dX7_lay_95 : decode cX7_lay 95 = .ok (.ifCond .ge 10, 3) := by decide +kernel
theorem dX7_lay_105 : decode cX7_lay 105 = .ok (.iload 8, 2) := by decide +kernel
theorem dX7_lay_107 : decode cX7_lay 107 = .ok (.iconst 4, 1) := by decide +kernel
theorem dX7_lay_108 : decode cX7_lay 108 = .ok (.idiv, 1) := by decide +kernel
theorem dX7_lay_98 : decode cX7_lay 98 = .ok (.aload_n 0, 1) := by decide +kernel
theorem dX7_lay_99 : decode cX7_lay 99 = .ok (.getfield 92, 3) := by decide +kernel
theorem dX7_lay_102 : decode cX7_lay 102 = .ok (.goto 7, 3) := by decide +kernel
theorem dX7_lay_240 : decode cX7_lay 240 = .ok (.aload_n 3, 1) := by decide +kernel
theorem dX7_lay_241 : decode cX7_lay 241 = .ok (.aload_n 0, 1) := by decide +kernel
theorem dX7_lay_242 : decode cX7_lay 242 = .ok (.getfield 48, 3) := by decide +kernel
theorem dX7_lay_245 : decode cX7_lay 245 = .ok (.iconst 0, 1) := by decide +kernel
theorem dX7_lay_246 : decode cX7_lay 246 = .ok (.iload 4, 2) := by decide +kernel
theorem dX7_lay_248 : decode cX7_lay 248 = .ok (.iload 5, 2) := by decide +kernel
theorem dX7_lay_250 : decode cX7_lay 250 = .ok (.invokevirtual 143, 3) := by decide +kernel
theorem dX7_lay_253 : decode cX7_lay 253 = .ok (.aload_n 3, 1) := by decide +kernel
theorem dX7_lay_254 : decode cX7_lay 254 = .ok (.aload_n 0, 1) := by decide +kernel
theorem dX7_lay_255 : decode cX7_lay 255 = .ok (.getfield 31, 3) := by decide +kernel
theorem dX7_lay_258 : decode cX7_lay 258 = .ok (.aload_n 0, 1) := by decide +kernel
theorem dX7_lay_259 : decode cX7_lay 259 = .ok (.getfield 92, 3) := by decide +kernel
theorem dX7_lay_262 : decode cX7_lay 262 = .ok (.aload_n 0, 1) := by decide +kernel
theorem dX7_lay_263 : decode cX7_lay 263 = .ok (.getfield 48, 3) := by decide +kernel
theorem dX7_lay_266 : decode cX7_lay 266 = .ok (.iload 7, 2) := by decide +kernel
theorem dX7_lay_268 : decode cX7_lay 268 = .ok (.invokevirtual 122, 3) := by decide +kernel
theorem dX7_lay_271 : decode cX7_lay 271 = .ok (.aload_n 0, 1) := by decide +kernel
theorem dX7_lay_272 : decode cX7_lay 272 = .ok (.getfield 27, 3) := by decide +kernel
theorem dX7_lay_275 : decode cX7_lay 275 = .ok (.getfield 159, 3) := by decide +kernel
theorem dX7_lay_278 : decode cX7_lay 278 = .ok (.imul, 1) := by decide +kernel
theorem dX7_lay_279 : decode cX7_lay 279 = .ok (.aload_n 0, 1) := by decide +kernel
theorem dX7_lay_280 : decode cX7_lay 280 = .ok (.getfield 39, 3) := by decide +kernel
theorem dX7_lay_283 : decode cX7_lay 283 = .ok (.aload_n 0, 1) := by decide +kernel
theorem dX7_lay_284 : decode cX7_lay 284 = .ok (.getfield 92, 3) := by decide +kernel
theorem dX7_lay_287 : decode cX7_lay 287 = .ok (.aload_n 0, 1) := by decide +kernel
theorem dX7_lay_288 : decode cX7_lay 288 = .ok (.getfield 48, 3) := by decide +kernel
theorem dX7_lay_291 : decode cX7_lay 291 = .ok (.invokevirtual 162, 3) := by decide +kernel
theorem dX7_lay_294 : decode cX7_lay 294 = .ok (.iadd, 1) := by decide +kernel
theorem dX7_lay_295 : decode cX7_lay 295 = .ok (.iload 5, 2) := by decide +kernel
theorem dX7_lay_297 : decode cX7_lay 297 = .ok (.isub, 1) := by decide +kernel
theorem dX7_lay_298 : decode cX7_lay 298 = .ok (.putfield 84, 3) := by decide +kernel
theorem dX7_lay_301 : decode cX7_lay 301 = .ok (.aload_n 3, 1) := by decide +kernel
theorem dX7_lay_302 : decode cX7_lay 302 = .ok (.iload 6, 2) := by decide +kernel
theorem dX7_lay_304 : decode cX7_lay 304 = .ok (.aload_n 0, 1) := by decide +kernel
theorem dX7_lay_305 : decode cX7_lay 305 = .ok (.getfield 39, 3) := by decide +kernel
theorem dX7_lay_308 : decode cX7_lay 308 = .ok (.aload_n 0, 1) := by decide +kernel
theorem dX7_lay_309 : decode cX7_lay 309 = .ok (.getfield 92, 3) := by decide +kernel
theorem dX7_lay_312 : decode cX7_lay 312 = .ok (.aload_n 0, 1) := by decide +kernel
theorem dX7_lay_313 : decode cX7_lay 313 = .ok (.getfield 48, 3) := by decide +kernel
theorem dX7_lay_316 : decode cX7_lay 316 = .ok (.invokevirtual 167, 3) := by decide +kernel
theorem dX7_lay_319 : decode cX7_lay 319 = .ok (.iadd, 1) := by decide +kernel
theorem dX7_lay_320 : decode cX7_lay 320 = .ok (.putfield 170, 3) := by decide +kernel
theorem dX7_lay_323 : decode cX7_lay 323 = .ok (.return_, 1) := by decide +kernel
theorem dX7_lay_109 : decode cX7_lay 109 = .ok (.iload 7, 2) := by decide +kernel
theorem dX7_lay_111 : decode cX7_lay 111 = .ok (.invokevirtual 147, 3) := by decide +kernel
theorem dX7_lay_114 : decode cX7_lay 114 = .ok (.istore 8, 2) := by decide +kernel
theorem dX7_lay_116 : decode cX7_lay 116 = .ok (.iload 8, 2) := by decide +kernel
theorem dX7_lay_118 : decode cX7_lay 118 = .ok (.ifCond .ge 4, 3) := by decide +kernel
theorem dX7_lay_122 : decode cX7_lay 122 = .ok (.iload 8, 2) := by decide +kernel
theorem dX7_lay_124 : decode cX7_lay 124 = .ok (.iconst 4, 1) := by decide +kernel
theorem dX7_lay_125 : decode cX7_lay 125 = .ok (.idiv, 1) := by decide +kernel
theorem dX7_lay_126 : decode cX7_lay 126 = .ok (.istore 10, 2) := by decide +kernel
theorem dX7_lay_128 : decode cX7_lay 128 = .ok (.iload 7, 2) := by decide +kernel
theorem dX7_lay_130 : decode cX7_lay 130 = .ok (.aload_n 0, 1) := by decide +kernel
theorem dX7_lay_131 : decode cX7_lay 131 = .ok (.getfield 31, 3) := by decide +kernel
theorem dX7_lay_134 : decode cX7_lay 134 = .ok (.getfield 105, 3) := by decide +kernel
theorem dX7_lay_137 : decode cX7_lay 137 = .ok (.iload 10, 2) := by decide +kernel
theorem dX7_lay_139 : decode cX7_lay 139 = .ok (.iaload, 1) := by decide +kernel
theorem dX7_lay_140 : decode cX7_lay 140 = .ok (.ior, 1) := by decide +kernel
theorem dX7_lay_141 : decode cX7_lay 141 = .ok (.istore 7, 2) := by decide +kernel
theorem dX7_lay_143 : decode cX7_lay 143 = .ok (.iload 10, 2) := by decide +kernel
theorem dX7_lay_145 : decode cX7_lay 145 = .ok (.aload_n 0, 1) := by decide +kernel
theorem dX7_lay_146 : decode cX7_lay 146 = .ok (.getfield 48, 3) := by decide +kernel
theorem dX7_lay_149 : decode cX7_lay 149 = .ok (.if_icmp .ne 6, 3) := by decide +kernel
theorem dX7_lay_155 : decode cX7_lay 155 = .ok (.aload_n 0, 1) := by decide +kernel
theorem dX7_lay_156 : decode cX7_lay 156 = .ok (.getfield 23, 3) := by decide +kernel
theorem dX7_lay_159 : decode cX7_lay 159 = .ok (.getfield 150, 3) := by decide +kernel
theorem dX7_lay_162 : decode cX7_lay 162 = .ok (.iload 10, 2) := by decide +kernel
theorem dX7_lay_164 : decode cX7_lay 164 = .ok (.iaload, 1) := by decide +kernel
theorem dX7_lay_165 : decode cX7_lay 165 = .ok (.iconst 2, 1) := by decide +kernel
theorem dX7_lay_166 : decode cX7_lay 166 = .ok (.if_icmp .ne 10, 3) := by decide +kernel
theorem dX7_lay_176 : decode cX7_lay 176 = .ok (.iload 4, 2) := by decide +kernel
theorem dX7_lay_169 : decode cX7_lay 169 = .ok (.iconst 1, 1) := by decide +kernel
theorem dX7_lay_170 : decode cX7_lay 170 = .ok (.iload 4, 2) := by decide +kernel
theorem dX7_lay_172 : decode cX7_lay 172 = .ok (.isub, 1) := by decide +kernel
theorem dX7_lay_173 : decode cX7_lay 173 = .ok (.goto 5, 3) := by decide +kernel
theorem dX7_lay_152 : decode cX7_lay 152 = .ok (.goto 88, 3) := by decide +kernel
theorem dX7_lay_121 : decode cX7_lay 121 = .ok (.return_, 1) := by decide +kernel
theorem dX7_lay_178 : decode cX7_lay 178 = .ok (.istore 4, 2) := by decide +kernel
theorem dX7_lay_180 : decode cX7_lay 180 = .ok (.iload 5, 2) := by decide +kernel
theorem dX7_lay_182 : decode cX7_lay 182 = .ok (.aload_n 0, 1) := by decide +kernel
theorem dX7_lay_183 : decode cX7_lay 183 = .ok (.getfield 35, 3) := by decide +kernel
theorem dX7_lay_186 : decode cX7_lay 186 = .ok (.getfield 153, 3) := by decide +kernel
theorem dX7_lay_189 : decode cX7_lay 189 = .ok (.iload 8, 2) := by decide +kernel
theorem dX7_lay_191 : decode cX7_lay 191 = .ok (.iconst 2, 1) := by decide +kernel
theorem dX7_lay_192 : decode cX7_lay 192 = .ok (.imul, 1) := by decide +kernel
theorem dX7_lay_193 : decode cX7_lay 193 = .ok (.iload 4, 2) := by decide +kernel
theorem dX7_lay_195 : decode cX7_lay 195 = .ok (.iadd, 1) := by decide +kernel
theorem dX7_lay_196 : decode cX7_lay 196 = .ok (.iaload, 1) := by decide +kernel
theorem dX7_lay_197 : decode cX7_lay 197 = .ok (.iadd, 1) := by decide +kernel
theorem dX7_lay_198 : decode cX7_lay 198 = .ok (.istore 5, 2) := by decide +kernel
theorem dX7_lay_200 : decode cX7_lay 200 = .ok (.iload 6, 2) := by decide +kernel
theorem dX7_lay_202 : decode cX7_lay 202 = .ok (.aload_n 0, 1) := by decide +kernel
theorem dX7_lay_203 : decode cX7_lay 203 = .ok (.getfield 35, 3) := by decide +kernel
theorem dX7_lay_206 : decode cX7_lay 206 = .ok (.getfield 156, 3) := by decide +kernel
theorem dX7_lay_209 : decode cX7_lay 209 = .ok (.iload 8, 2) := by decide +kernel
theorem dX7_lay_211 : decode cX7_lay 211 = .ok (.iconst 2, 1) := by decide +kernel
theorem dX7_lay_212 : decode cX7_lay 212 = .ok (.imul, 1) := by decide +kernel
theorem dX7_lay_213 : decode cX7_lay 213 = .ok (.iload 4, 2) := by decide +kernel
theorem dX7_lay_215 : decode cX7_lay 215 = .ok (.iadd, 1) := by decide +kernel
theorem dX7_lay_216 : decode cX7_lay 216 = .ok (.iaload, 1) := by decide +kernel
theorem dX7_lay_217 : decode cX7_lay 217 = .ok (.iadd, 1) := by decide +kernel
theorem dX7_lay_218 : decode cX7_lay 218 = .ok (.istore 6, 2) := by decide +kernel
theorem dX7_lay_220 : decode cX7_lay 220 = .ok (.aload_n 3, 1) := by decide +kernel
theorem dX7_lay_221 : decode cX7_lay 221 = .ok (.iload 10, 2) := by decide +kernel
theorem dX7_lay_223 : decode cX7_lay 223 = .ok (.iload 8, 2) := by decide +kernel
theorem dX7_lay_225 : decode cX7_lay 225 = .ok (.iconst 4, 1) := by decide +kernel
theorem dX7_lay_226 : decode cX7_lay 226 = .ok (.irem, 1) := by decide +kernel
theorem dX7_lay_227 : decode cX7_lay 227 = .ok (.iload 4, 2) := by decide +kernel
theorem dX7_lay_229 : decode cX7_lay 229 = .ok (.iload 5, 2) := by decide +kernel
theorem dX7_lay_231 : decode cX7_lay 231 = .ok (.invokevirtual 143, 3) := by decide +kernel
theorem dX7_lay_234 : decode cX7_lay 234 = .ok (.iinc 9 1, 3) := by decide +kernel
theorem dX7_lay_237 : decode cX7_lay 237 = .ok (.goto (-152), 3) := by decide +kernel
def wo_X7layS : List Cond := [.code yX7_lay cX7_lay 11 none, .methodLink RX7 143 yX8_putStep, .instanceMethod yX8_putStep, .selects RX8 yX8_putStep yX8_putStep, .initialized RX8, .methodLink RX7 122 yX3_periodsOf, .instanceMethod yX3_periodsOf, .selects RX3 yX3_periodsOf yX3_periodsOf, .initialized RX3, .methodLink RX7 162 yX2_slackRoom, .instanceMethod yX2_slackRoom, .selects RX2 yX2_slackRoom yX2_slackRoom, .initialized RX2, .methodLink RX7 167 yX2_holdRoom, .instanceMethod yX2_holdRoom, .selects RX2 yX2_holdRoom yX2_holdRoom, .methodLink RX7 147 yX7_chooseWire, .instanceMethod yX7_chooseWire, .selects RX7 yX7_chooseWire yX7_chooseWire, .initialized RX7]
def wr_X7layS : List Cond := (wfC ++ (w_X8putStepS ++ (w_X3periodsOf ++ (w_X2slackRoom ++ (w_X2holdRoom ++ (w_X7chooseWire ++ ([])))))))
def w_X7layS : List Cond := wo_X7layS ++ wr_X7layS
theorem wg_X7layS : GW w_X7layS := GW_app (GW_of (by decide +kernel)) (GW_app (wg_fC) (GW_app (wg_X8putStepS) (GW_app (wg_X3periodsOf) (GW_app (wg_X2slackRoom) (GW_app (wg_X2holdRoom) (GW_app (wg_X7chooseWire) (GW_nil)))))))
theorem in_X7layS : ∀ w ∈ wfC, w ∈ w_X7layS := fun _ h => List.mem_append_right _ (List.mem_append_left _ h)
theorem g_X7layS_X8putStepS_143 : GoodIn w_X7layS (wsV RX7 143 RX8 yX8_putStep w_X8putStepS) := goodIn_app (gi_left (goodIn_of _ (by decide +kernel))) (fun w h => ⟨List.mem_append_right _ (List.mem_append_right _ (List.mem_append_left _ h)), wg_X8putStepS w h⟩)
theorem g_X7layS_X3periodsOf_122 : GoodIn w_X7layS (wsV RX7 122 RX3 yX3_periodsOf w_X3periodsOf) := goodIn_app (gi_left (goodIn_of _ (by decide +kernel))) (fun w h => ⟨List.mem_append_right _ (List.mem_append_right _ (List.mem_append_right _ (List.mem_append_left _ h))), wg_X3periodsOf w h⟩)
theorem g_X7layS_X2slackRoom_162 : GoodIn w_X7layS (wsV RX7 162 RX2 yX2_slackRoom w_X2slackRoom) := goodIn_app (gi_left (goodIn_of _ (by decide +kernel))) (fun w h => ⟨List.mem_append_right _ (List.mem_append_right _ (List.mem_append_right _ (List.mem_append_right _ (List.mem_append_left _ h)))), wg_X2slackRoom w h⟩)
theorem g_X7layS_X2holdRoom_167 : GoodIn w_X7layS (wsV RX7 167 RX2 yX2_holdRoom w_X2holdRoom) := goodIn_app (gi_left (goodIn_of _ (by decide +kernel))) (fun w h => ⟨List.mem_append_right _ (List.mem_append_right _ (List.mem_append_right _ (List.mem_append_right _ (List.mem_append_right _ (List.mem_append_left _ h))))), wg_X2holdRoom w h⟩)
theorem g_X7layS_X7chooseWire_147 : GoodIn w_X7layS (wsV RX7 147 RX7 yX7_chooseWire w_X7chooseWire) := goodIn_app (gi_left (goodIn_of _ (by decide +kernel))) (fun w h => ⟨List.mem_append_right _ (List.mem_append_right _ (List.mem_append_right _ (List.mem_append_right _ (List.mem_append_right _ (List.mem_append_right _ (List.mem_append_left _ h)))))), wg_X7chooseWire w h⟩)
set_option maxHeartbeats 4000000 in
set_option maxRecDepth 100000 in
theorem ct_X7layS (l : Launch) (E : gE) (B : Nat → Nat) (Q : VS → Prop) (p1 : Int32) (p2 : Int32) (σ : VS) (hw : wp_X7layS Q p1 p2 σ) : CtV l E yX7_lay w_X7layS (({ frames := 4, cells := 0, slots := 0, locals := 89 } : Room)) (wc E B σ) [.ref (B 8), .int p1, .int p2, .ref (B 9)] (fun w => ∃ σ' : VS, Q σ' ∧ w = wc E B σ') := by
  refine VC_V (cc := cX7_lay) (mL := 11) (rt := none) (lv0 := [(0, .ref (B 8)), (1, .int p1), (2, .int p2), (3, .ref (B 9))]) rfl (by decide) rfl (Nat.le_of_ble_eq_true rfl) ?_
  intro p e s m below meth c A F
  replace F : Fx p s m _ meth c A E cX7_lay 11 none RX7 w_X7layS := F
  obtain ⟨X85, hX85⟩ : ∃ X : Int32 → Int32 → Int32 → Int32 → Int32 → Int32 → VS → Prop, X = fun l4 l5 l6 l7 l8 l9 σ => WB p l e (({ frames := 4, cells := 0, slots := 0, locals := 89 } : Room)) s m (#[.ref (B 8), .int p1, .int p2, .ref (B 9)]) below meth c (MQ below (va_Qv (fun w => ∃ σ' : VS, Q σ' ∧ w = wc E B σ') (AftU E A) A) (#[.ref (B 8), .int p1, .int p2, .ref (B 9)]) s (({ frames := 4, cells := 0, slots := 0, locals := 89 } : Room)).cells (({ frames := 4, cells := 0, slots := 0, locals := 89 } : Room)).slots A) A E (wc E B) 11 85 [(0, .ref (B 8)), (3, .ref (B 9)), (4, .int l4), (5, .int l5), (6, .int l6), (7, .int l7), (8, .int l8), (9, .int l9)] [] σ := ⟨_, rfl⟩
  have U_85 : ∀ (l4 : Int32) (l5 : Int32) (l6 : Int32) (l7 : Int32) (l8 : Int32) (l9 : Int32) (σ : VS), X85 l4 l5 l6 l7 l8 l9 σ → WB p l e (({ frames := 4, cells := 0, slots := 0, locals := 89 } : Room)) s m (#[.ref (B 8), .int p1, .int p2, .ref (B 9)]) below meth c (MQ below (va_Qv (fun w => ∃ σ' : VS, Q σ' ∧ w = wc E B σ') (AftU E A) A) (#[.ref (B 8), .int p1, .int p2, .ref (B 9)]) s (({ frames := 4, cells := 0, slots := 0, locals := 89 } : Room)).cells (({ frames := 4, cells := 0, slots := 0, locals := 89 } : Room)).slots A) A E (wc E B) 11 85 [(0, .ref (B 8)), (3, .ref (B 9)), (4, .int l4), (5, .int l5), (6, .int l6), (7, .int l7), (8, .int l8), (9, .int l9)] [] σ := by
    intro l4 l5 l6 l7 l8 l9 σ hw; rw [hX85] at hw; exact hw
  have J_240 : ∀ (l4 : Int32) (l5 : Int32) (l6 : Int32) (l7 : Int32) (σ : VS), b_X7layS_240 X85 Q l4 l5 l6 l7 σ → WB p l e (({ frames := 4, cells := 0, slots := 0, locals := 89 } : Room)) s m (#[.ref (B 8), .int p1, .int p2, .ref (B 9)]) below meth c (MQ below (va_Qv (fun w => ∃ σ' : VS, Q σ' ∧ w = wc E B σ') (AftU E A) A) (#[.ref (B 8), .int p1, .int p2, .ref (B 9)]) s (({ frames := 4, cells := 0, slots := 0, locals := 89 } : Room)).cells (({ frames := 4, cells := 0, slots := 0, locals := 89 } : Room)).slots A) A E (wc E B) 11 240 [(0, .ref (B 8)), (3, .ref (B 9)), (4, .int l4), (5, .int l5), (6, .int l6), (7, .int l7)] [] σ := by
    intro l4 l5 l6 l7 σ hw
    unfold b_X7layS_240 at hw
    refine R_aload_n F dX7_lay_240 rfl 1 rfl ?_
    refine R_aload_n F dX7_lay_241 rfl 0 rfl ?_
    refine gc_RX7_48_8 F in_X7layS dX7_lay_242 ?_
    refine R_iconst F 0 dX7_lay_245 (by decide) ?_
    refine R_iload F dX7_lay_246 2 rfl ?_
    refine R_iload F dX7_lay_248 3 rfl ?_
    refine R_callV (As := [.int (σ.1 13), .int 0, .int l4, .int l5]) (C := RX8) (q0 := 9) (ci := 8) (N := 7) (T := TX8) (fs := cf_9 B) F (ct_X8putStepS l E B _ (σ.1 13) 0 l4 l5 _ hw) (cwV 4 F.2.2.2.2.2.2.2.2.2.2 g_X7layS_X8putStepS_143 rfl rfl rfl (by decide +kernel) ⟨Nat.le_of_ble_eq_true rfl, Nat.le_of_ble_eq_true rfl⟩) ⟨rfl, rfl⟩ rfl (fun _ => rfl) rfl rfl (Nat.le_of_ble_eq_true rfl) dX7_lay_250 (fun σ7 hw => ?_)
    refine R_aload_n F dX7_lay_253 rfl 1 rfl ?_
    refine R_aload_n F dX7_lay_254 rfl 0 rfl ?_
    refine gc_RX7_31_8 F in_X7layS dX7_lay_255 ?_
    refine R_aload_n F dX7_lay_258 rfl 0 rfl ?_
    refine gc_RX7_92_8 F in_X7layS dX7_lay_259 ?_
    refine R_aload_n F dX7_lay_262 rfl 0 rfl ?_
    refine gc_RX7_48_8 F in_X7layS dX7_lay_263 ?_
    refine R_iload F dX7_lay_266 5 rfl ?_
    refine R_callI (As := [.int (σ7.1 12), .int (σ7.1 13), .int l7]) (C := RX3) (q0 := 4) (ci := 3) (N := 6) (T := TX3) (fs := cf_4 B) F (ct_X3periodsOf l E B _ (σ7.1 12) (σ7.1 13) l7 _ hw) (cwV 3 F.2.2.2.2.2.2.2.2.2.2 g_X7layS_X3periodsOf_122 rfl rfl rfl (by decide +kernel) ⟨Nat.le_of_ble_eq_true rfl, Nat.le_of_ble_eq_true rfl⟩) ⟨rfl, rfl⟩ rfl (fun _ => rfl) rfl rfl (Nat.le_of_ble_eq_true rfl) dX7_lay_268 (fun r8 σ9 hw => ?_)
    refine R_aload_n F dX7_lay_271 rfl 0 rfl ?_
    refine gc_RX7_27_8 F in_X7layS dX7_lay_272 ?_
    refine gc_RX7_159_3 F in_X7layS dX7_lay_275 ?_
    refine R_imul F dX7_lay_278 ?_
    refine R_aload_n F dX7_lay_279 rfl 0 rfl ?_
    refine gc_RX7_39_8 F in_X7layS dX7_lay_280 ?_
    refine R_aload_n F dX7_lay_283 rfl 0 rfl ?_
    refine gc_RX7_92_8 F in_X7layS dX7_lay_284 ?_
    refine R_aload_n F dX7_lay_287 rfl 0 rfl ?_
    refine gc_RX7_48_8 F in_X7layS dX7_lay_288 ?_
    refine R_callI (As := [.int (σ9.1 12), .int (σ9.1 13)]) (C := RX2) (q0 := 7) (ci := 2) (N := 13) (T := TX2) (fs := cf_7 B) F (ct_X2slackRoom l E B _ (σ9.1 12) (σ9.1 13) _ hw) (cwV 2 F.2.2.2.2.2.2.2.2.2.2 g_X7layS_X2slackRoom_162 rfl rfl rfl (by decide +kernel) ⟨Nat.le_of_ble_eq_true rfl, Nat.le_of_ble_eq_true rfl⟩) ⟨rfl, rfl⟩ rfl (fun _ => rfl) rfl rfl (Nat.le_of_ble_eq_true rfl) dX7_lay_291 (fun r10 σ11 hw => ?_)
    refine R_iadd F dX7_lay_294 ?_
    refine R_iload F dX7_lay_295 3 rfl ?_
    refine R_isub F dX7_lay_297 ?_
    refine pc_RX7_84_9 F in_X7layS dX7_lay_298 ?_
    refine R_aload_n F dX7_lay_301 rfl 1 rfl ?_
    refine R_iload F dX7_lay_302 4 rfl ?_
    refine R_aload_n F dX7_lay_304 rfl 0 rfl ?_
    refine gc_RX7_39_8 F in_X7layS dX7_lay_305 ?_
    refine R_aload_n F dX7_lay_308 rfl 0 rfl ?_
    refine gc_RX7_92_8 F in_X7layS dX7_lay_309 ?_
    refine R_aload_n F dX7_lay_312 rfl 0 rfl ?_
    refine gc_RX7_48_8 F in_X7layS dX7_lay_313 ?_
    refine R_callI (As := [.int ((sf σ11 17 (((r8 * (σ9.1 4)) + r10) - l5)).1 12), .int ((sf σ11 17 (((r8 * (σ9.1 4)) + r10) - l5)).1 13)]) (C := RX2) (q0 := 7) (ci := 2) (N := 13) (T := TX2) (fs := cf_7 B) F (ct_X2holdRoom l E B _ ((sf σ11 17 (((r8 * (σ9.1 4)) + r10) - l5)).1 12) ((sf σ11 17 (((r8 * (σ9.1 4)) + r10) - l5)).1 13) _ hw) (cwV 2 F.2.2.2.2.2.2.2.2.2.2 g_X7layS_X2holdRoom_167 rfl rfl rfl (by decide +kernel) ⟨Nat.le_of_ble_eq_true rfl, Nat.le_of_ble_eq_true rfl⟩) ⟨rfl, rfl⟩ rfl (fun _ => rfl) rfl rfl (Nat.le_of_ble_eq_true rfl) dX7_lay_316 (fun r12 σ13 hw => ?_)
    refine R_iadd F dX7_lay_319 ?_
    refine pc_RX7_170_9 F in_X7layS dX7_lay_320 ?_
    exact R_vret (Qc := Q) F dX7_lay_323 hw
  have J_178 : ∀ (l5 : Int32) (l6 : Int32) (l7 : Int32) (l8 : Int32) (l9 : Int32) (l10 : Int32) (k0 : Int32) (σ : VS), b_X7layS_178 X85 Q l5 l6 l7 l8 l9 l10 k0 σ → WB p l e (({ frames := 4, cells := 0, slots := 0, locals := 89 } : Room)) s m (#[.ref (B 8), .int p1, .int p2, .ref (B 9)]) below meth c (MQ below (va_Qv (fun w => ∃ σ' : VS, Q σ' ∧ w = wc E B σ') (AftU E A) A) (#[.ref (B 8), .int p1, .int p2, .ref (B 9)]) s (({ frames := 4, cells := 0, slots := 0, locals := 89 } : Room)).cells (({ frames := 4, cells := 0, slots := 0, locals := 89 } : Room)).slots A) A E (wc E B) 11 178 [(0, .ref (B 8)), (3, .ref (B 9)), (5, .int l5), (6, .int l6), (7, .int l7), (8, .int l8), (9, .int l9), (10, .int l10)] [.int k0] σ := by
    intro l5 l6 l7 l8 l9 l10 k0 σ hw
    unfold b_X7layS_178 at hw
    refine R_istore (lv' := [(4, .int k0), (0, .ref (B 8)), (3, .ref (B 9)), (5, .int l5), (6, .int l6), (7, .int l7), (8, .int l8), (9, .int l9), (10, .int l10)]) F dX7_lay_178 (by decide) rfl ?_
    refine R_iload F dX7_lay_180 3 rfl ?_
    refine R_aload_n F dX7_lay_182 rfl 1 rfl ?_
    refine gc_RX7_35_8 F in_X7layS dX7_lay_183 ?_
    refine gc_RX7_153_6 F in_X7layS dX7_lay_186 ?_
    refine R_iload F dX7_lay_189 6 rfl ?_
    refine R_iconst F 2 dX7_lay_191 (by decide) ?_
    refine R_imul F dX7_lay_192 ?_
    refine R_iload F dX7_lay_193 0 rfl ?_
    refine R_iadd F dX7_lay_195 ?_
    refine R_ldi F qc_41 dX7_lay_196 hw.1 ?_
    replace hw := hw.2
    refine R_iadd F dX7_lay_197 ?_
    refine R_topi (fun x18 ex18 => ?_)
    replace hw := hw x18 ex18
    refine R_istore (lv' := [(5, .int x18), (4, .int k0), (0, .ref (B 8)), (3, .ref (B 9)), (6, .int l6), (7, .int l7), (8, .int l8), (9, .int l9), (10, .int l10)]) F dX7_lay_198 (by decide) rfl ?_
    refine R_iload F dX7_lay_200 4 rfl ?_
    refine R_aload_n F dX7_lay_202 rfl 2 rfl ?_
    refine gc_RX7_35_8 F in_X7layS dX7_lay_203 ?_
    refine gc_RX7_156_6 F in_X7layS dX7_lay_206 ?_
    refine R_iload F dX7_lay_209 6 rfl ?_
    refine R_iconst F 2 dX7_lay_211 (by decide) ?_
    refine R_imul F dX7_lay_212 ?_
    refine R_iload F dX7_lay_213 1 rfl ?_
    refine R_iadd F dX7_lay_215 ?_
    refine R_ldi F qc_42 dX7_lay_216 hw.1 ?_
    replace hw := hw.2
    refine R_iadd F dX7_lay_217 ?_
    refine R_topi (fun x19 ex19 => ?_)
    replace hw := hw x19 ex19
    refine R_istore (lv' := [(6, .int x19), (5, .int x18), (4, .int k0), (0, .ref (B 8)), (3, .ref (B 9)), (7, .int l7), (8, .int l8), (9, .int l9), (10, .int l10)]) F dX7_lay_218 (by decide) rfl ?_
    refine R_aload_n F dX7_lay_220 rfl 4 rfl ?_
    refine R_iload F dX7_lay_221 8 rfl ?_
    refine R_iload F dX7_lay_223 6 rfl ?_
    refine R_iconst F 4 dX7_lay_225 (by decide) ?_
    refine R_irem F dX7_lay_226 (by decide) ?_
    refine R_iload F dX7_lay_227 2 rfl ?_
    refine R_iload F dX7_lay_229 1 rfl ?_
    refine R_callV (As := [.int l10, .int (l8 - l8 / 4 * 4), .int k0, .int x18]) (C := RX8) (q0 := 9) (ci := 8) (N := 7) (T := TX8) (fs := cf_9 B) F (ct_X8putStepS l E B _ l10 (l8 - l8 / 4 * 4) k0 x18 _ hw) (cwV 4 F.2.2.2.2.2.2.2.2.2.2 g_X7layS_X8putStepS_143 rfl rfl rfl (by decide +kernel) ⟨Nat.le_of_ble_eq_true rfl, Nat.le_of_ble_eq_true rfl⟩) ⟨rfl, rfl⟩ rfl (fun _ => rfl) rfl rfl (Nat.le_of_ble_eq_true rfl) dX7_lay_231 (fun σ21 hw => ?_)
    refine R_iinc (q := 7) (v := (l9 + 1)) (lv' := [(9, .int (l9 + 1)), (6, .int x19), (5, .int x18), (4, .int k0), (0, .ref (B 8)), (3, .ref (B 9)), (7, .int l7), (8, .int l8), (10, .int l10)]) F dX7_lay_234 rfl rfl (by decide) rfl ?_
    refine R_goto (tgt := 85) F dX7_lay_237 (by decide) ?_
    exact R_sub [4, 5, 3, 2, 1, 6, 7, 0] rfl (U_85 k0 x18 x19 l7 l8 (l9 + 1) σ21 hw)
  have J_109 : ∀ (l4 : Int32) (l5 : Int32) (l6 : Int32) (l7 : Int32) (l9 : Int32) (k0 : Int32) (σ : VS), b_X7layS_109 X85 Q l4 l5 l6 l7 l9 k0 σ → WB p l e (({ frames := 4, cells := 0, slots := 0, locals := 89 } : Room)) s m (#[.ref (B 8), .int p1, .int p2, .ref (B 9)]) below meth c (MQ below (va_Qv (fun w => ∃ σ' : VS, Q σ' ∧ w = wc E B σ') (AftU E A) A) (#[.ref (B 8), .int p1, .int p2, .ref (B 9)]) s (({ frames := 4, cells := 0, slots := 0, locals := 89 } : Room)).cells (({ frames := 4, cells := 0, slots := 0, locals := 89 } : Room)).slots A) A E (wc E B) 11 109 [(0, .ref (B 8)), (3, .ref (B 9)), (4, .int l4), (5, .int l5), (6, .int l6), (7, .int l7), (9, .int l9)] [.int k0, .ref (B 8)] σ := by
    intro l4 l5 l6 l7 l9 k0 σ hw
    unfold b_X7layS_109 at hw
    refine R_iload F dX7_lay_109 5 rfl ?_
    refine R_callI (As := [.int k0, .int l7]) (C := RX7) (q0 := 8) (ci := 7) (N := 12) (T := TX7) (fs := cf_8 B) F (ct_X7chooseWire l E B _ k0 l7 _ hw) (cwV 2 F.2.2.2.2.2.2.2.2.2.2 g_X7layS_X7chooseWire_147 rfl rfl rfl (by decide +kernel) ⟨Nat.le_of_ble_eq_true rfl, Nat.le_of_ble_eq_true rfl⟩) ⟨rfl, rfl⟩ rfl (fun _ => rfl) rfl rfl (Nat.le_of_ble_eq_true rfl) dX7_lay_111 (fun r14 σ15 hw => ?_)
    refine R_istore (lv' := [(8, .int r14), (0, .ref (B 8)), (3, .ref (B 9)), (4, .int l4), (5, .int l5), (6, .int l6), (7, .int l7), (9, .int l9)]) F dX7_lay_114 (by decide) rfl ?_
    refine R_iload F dX7_lay_116 0 rfl ?_
    refine R_if_ge (tgt := 122) F dX7_lay_118 (by decide) (fun hc => ?_) (fun hc => ?_)
    · replace hw := hw.1 hc
      refine R_iload F dX7_lay_122 0 rfl ?_
      refine R_iconst F 4 dX7_lay_124 (by decide) ?_
      refine R_idiv F dX7_lay_125 (by decide) ?_
      refine R_topi (fun x16 ex16 => ?_)
      replace hw := hw x16 ex16
      refine R_istore (lv' := [(10, .int x16), (8, .int r14), (0, .ref (B 8)), (3, .ref (B 9)), (4, .int l4), (5, .int l5), (6, .int l6), (7, .int l7), (9, .int l9)]) F dX7_lay_126 (by decide) rfl ?_
      refine R_iload F dX7_lay_128 7 rfl ?_
      refine R_aload_n F dX7_lay_130 rfl 2 rfl ?_
      refine gc_RX7_31_8 F in_X7layS dX7_lay_131 ?_
      refine gc_RX7_105_4 F in_X7layS dX7_lay_134 ?_
      refine R_iload F dX7_lay_137 0 rfl ?_
      refine R_ldi F qc_35 dX7_lay_139 hw.1 ?_
      replace hw := hw.2
      refine R_ior F dX7_lay_140 ?_
      refine R_topi (fun x17 ex17 => ?_)
      replace hw := hw x17 ex17
      refine R_istore (lv' := [(7, .int x17), (10, .int x16), (8, .int r14), (0, .ref (B 8)), (3, .ref (B 9)), (4, .int l4), (5, .int l5), (6, .int l6), (9, .int l9)]) F dX7_lay_141 (by decide) rfl ?_
      refine R_iload F dX7_lay_143 1 rfl ?_
      refine R_aload_n F dX7_lay_145 rfl 3 rfl ?_
      refine gc_RX7_48_8 F in_X7layS dX7_lay_146 ?_
      refine R_icmp_ne (tgt := 155) F dX7_lay_149 (by decide) (fun hc => ?_) (fun hc => ?_)
      · replace hw := hw.1 hc
        refine R_aload_n F dX7_lay_155 rfl 3 rfl ?_
        refine gc_RX7_23_8 F in_X7layS dX7_lay_156 ?_
        refine gc_RX7_150_1 F in_X7layS dX7_lay_159 ?_
        refine R_iload F dX7_lay_162 1 rfl ?_
        refine R_ldi F qc_11 dX7_lay_164 hw.1 ?_
        replace hw := hw.2
        refine R_iconst F 2 dX7_lay_165 (by decide) ?_
        refine R_icmp_ne (tgt := 176) F dX7_lay_166 (by decide) (fun hc => ?_) (fun hc => ?_)
        · replace hw := hw.1 hc
          refine R_iload F dX7_lay_176 5 rfl ?_
          exact R_sub [3, 4, 6, 7, 0, 2, 8, 1] rfl (J_178 l5 l6 x17 r14 l9 x16 l4 σ15 hw)
        · replace hw := hw.2 hc
          refine R_iconst F 1 dX7_lay_169 (by decide) ?_
          refine R_iload F dX7_lay_170 5 rfl ?_
          refine R_isub F dX7_lay_172 ?_
          refine R_goto (tgt := 178) F dX7_lay_173 (by decide) ?_
          exact R_sub [3, 4, 6, 7, 0, 2, 8, 1] rfl (J_178 l5 l6 x17 r14 l9 x16 (1 - l4) σ15 hw)
      · replace hw := hw.2 hc
        refine R_goto (tgt := 240) F dX7_lay_152 (by decide) ?_
        exact R_sub [3, 4, 5, 6, 7, 0] rfl (J_240 l4 l5 l6 x17 σ15 hw)
    · replace hw := hw.2 hc
      exact R_vret (Qc := Q) F dX7_lay_121 hw
  have C_85 : ∀ (l4 : Int32) (l5 : Int32) (l6 : Int32) (l7 : Int32) (l8 : Int32) (l9 : Int32) (σ : VS), b_X7layS_85 X85 Q l4 l5 l6 l7 l8 l9 σ → X85 l4 l5 l6 l7 l8 l9 σ := by
    intro l4 l5 l6 l7 l8 l9 σ hw
    unfold b_X7layS_85 at hw
    rw [hX85]
    show WB p l e (({ frames := 4, cells := 0, slots := 0, locals := 89 } : Room)) s m (#[.ref (B 8), .int p1, .int p2, .ref (B 9)]) below meth c (MQ below (va_Qv (fun w => ∃ σ' : VS, Q σ' ∧ w = wc E B σ') (AftU E A) A) (#[.ref (B 8), .int p1, .int p2, .ref (B 9)]) s (({ frames := 4, cells := 0, slots := 0, locals := 89 } : Room)).cells (({ frames := 4, cells := 0, slots := 0, locals := 89 } : Room)).slots A) A E (wc E B) 11 85 [(0, .ref (B 8)), (3, .ref (B 9)), (4, .int l4), (5, .int l5), (6, .int l6), (7, .int l7), (8, .int l8), (9, .int l9)] [] σ
    refine R_iload F dX7_lay_85 7 rfl ?_
    refine R_bipush F 51 dX7_lay_87 (by decide) ?_
    refine R_icmp_ge (tgt := 240) F dX7_lay_89 (by decide) (fun hc => ?_) (fun hc => ?_)
    · replace hw := hw.1 hc
      exact R_sub [0, 1, 2, 3, 4, 5] rfl (J_240 l4 l5 l6 l7 σ hw)
    · replace hw := hw.2 hc
      refine R_aload_n F dX7_lay_92 rfl 0 rfl ?_
      refine R_iload F dX7_lay_93 6 rfl ?_
      refine R_if_ge (tgt := 105) F dX7_lay_95 (by decide) (fun hc => ?_) (fun hc => ?_)
      · replace hw := hw.1 hc
        refine R_iload F dX7_lay_105 6 rfl ?_
        refine R_iconst F 4 dX7_lay_107 (by decide) ?_
        refine R_idiv F dX7_lay_108 (by decide) ?_
        exact R_sub [0, 1, 2, 3, 4, 5, 7] rfl (J_109 l4 l5 l6 l7 l9 (l8 / 4) σ hw)
      · replace hw := hw.2 hc
        refine R_aload_n F dX7_lay_98 rfl 0 rfl ?_
        refine gc_RX7_92_8 F in_X7layS dX7_lay_99 ?_
        refine R_goto (tgt := 109) F dX7_lay_102 (by decide) ?_
        exact R_sub [0, 1, 2, 3, 4, 5, 7] rfl (J_109 l4 l5 l6 l7 l9 (σ.1 12) σ hw)
  unfold wp_X7layS at hw
  replace hw := hw X85 C_85
  refine R_iload_n F dX7_lay_0 rfl 1 rfl ?_
  refine R_istore (lv' := [(4, .int p1), (0, .ref (B 8)), (1, .int p1), (2, .int p2), (3, .ref (B 9))]) F dX7_lay_1 (by decide) rfl ?_
  refine R_aload_n F dX7_lay_3 rfl 1 rfl ?_
  refine gc_RX7_35_8 F in_X7layS dX7_lay_4 ?_
  refine gc_RX7_129_6 F in_X7layS dX7_lay_7 ?_
  refine R_aload_n F dX7_lay_10 rfl 1 rfl ?_
  refine gc_RX7_92_8 F in_X7layS dX7_lay_11 ?_
  refine R_iconst F 2 dX7_lay_14 (by decide) ?_
  refine R_imul F dX7_lay_15 ?_
  refine R_iload F dX7_lay_16 0 rfl ?_
  refine R_iadd F dX7_lay_18 ?_
  refine R_ldi F qc_45 dX7_lay_19 hw.1 ?_
  replace hw := hw.2
  refine R_topi (fun x1 ex1 => ?_)
  replace hw := hw x1 ex1
  refine R_istore (lv' := [(5, .int x1), (4, .int p1), (0, .ref (B 8)), (1, .int p1), (2, .int p2), (3, .ref (B 9))]) F dX7_lay_20 (by decide) rfl ?_
  refine R_aload_n F dX7_lay_22 rfl 2 rfl ?_
  refine gc_RX7_35_8 F in_X7layS dX7_lay_23 ?_
  refine gc_RX7_134_6 F in_X7layS dX7_lay_26 ?_
  refine R_aload_n F dX7_lay_29 rfl 2 rfl ?_
  refine gc_RX7_92_8 F in_X7layS dX7_lay_30 ?_
  refine R_iconst F 2 dX7_lay_33 (by decide) ?_
  refine R_imul F dX7_lay_34 ?_
  refine R_iload F dX7_lay_35 1 rfl ?_
  refine R_iadd F dX7_lay_37 ?_
  refine R_ldi F qc_46 dX7_lay_38 hw.1 ?_
  replace hw := hw.2
  refine R_topi (fun x2 ex2 => ?_)
  replace hw := hw x2 ex2
  refine R_istore (lv' := [(6, .int x2), (5, .int x1), (4, .int p1), (0, .ref (B 8)), (1, .int p1), (2, .int p2), (3, .ref (B 9))]) F dX7_lay_39 (by decide) rfl ?_
  refine R_aload_n F dX7_lay_41 rfl 3 rfl ?_
  refine gc_RX7_31_8 F in_X7layS dX7_lay_42 ?_
  refine gc_RX7_105_4 F in_X7layS dX7_lay_45 ?_
  refine R_aload_n F dX7_lay_48 rfl 3 rfl ?_
  refine gc_RX7_92_8 F in_X7layS dX7_lay_49 ?_
  refine R_ldi F qc_35 dX7_lay_52 hw.1 ?_
  replace hw := hw.2
  refine R_topi (fun x3 ex3 => ?_)
  replace hw := hw x3 ex3
  refine R_istore (lv' := [(7, .int x3), (6, .int x2), (5, .int x1), (4, .int p1), (0, .ref (B 8)), (1, .int p1), (2, .int p2), (3, .ref (B 9))]) F dX7_lay_53 (by decide) rfl ?_
  refine R_bipush F (-5) dX7_lay_55 (by decide) ?_
  refine R_istore (lv' := [(8, .int (-5)), (7, .int x3), (6, .int x2), (5, .int x1), (4, .int p1), (0, .ref (B 8)), (1, .int p1), (2, .int p2), (3, .ref (B 9))]) F dX7_lay_57 (by decide) rfl ?_
  refine R_aload_n F dX7_lay_59 rfl 5 rfl ?_
  refine R_iload_n F dX7_lay_60 rfl 7 rfl ?_
  refine pc_RX7_137_8 F in_X7layS dX7_lay_61 ?_
  refine R_aload_n F dX7_lay_64 rfl 8 rfl ?_
  refine R_iconst F 0 dX7_lay_65 (by decide) ?_
  refine pc_RX7_140_9 F in_X7layS dX7_lay_66 ?_
  refine R_aload_n F dX7_lay_69 rfl 8 rfl ?_
  refine R_aload_n F dX7_lay_70 rfl 5 rfl ?_
  refine gc_RX7_92_8 F in_X7layS dX7_lay_71 ?_
  refine R_iconst F (-1) dX7_lay_74 (by decide) ?_
  refine R_iload F dX7_lay_75 4 rfl ?_
  refine R_iload F dX7_lay_77 3 rfl ?_
  refine R_callV (As := [.int ((sf (sf σ 14 p2) 16 0).1 12), .int (-1), .int p1, .int x1]) (C := RX8) (q0 := 9) (ci := 8) (N := 7) (T := TX8) (fs := cf_9 B) F (ct_X8putStepS l E B _ ((sf (sf σ 14 p2) 16 0).1 12) (-1) p1 x1 _ hw) (cwV 4 F.2.2.2.2.2.2.2.2.2.2 g_X7layS_X8putStepS_143 rfl rfl rfl (by decide +kernel) ⟨Nat.le_of_ble_eq_true rfl, Nat.le_of_ble_eq_true rfl⟩) ⟨rfl, rfl⟩ rfl (fun _ => rfl) rfl rfl (Nat.le_of_ble_eq_true rfl) dX7_lay_79 (fun σ5 hw => ?_)
  refine R_iconst F 0 dX7_lay_82 (by decide) ?_
  refine R_istore (lv' := [(9, .int 0), (8, .int (-5)), (7, .int x3), (6, .int x2), (5, .int x1), (4, .int p1), (0, .ref (B 8)), (1, .int p1), (2, .int p2), (3, .ref (B 9))]) F dX7_lay_83 (by decide) rfl ?_
  exact R_sub [6, 9, 5, 4, 3, 2, 1, 0] rfl (U_85 p1 x1 x2 x3 (-5) 0 σ5 hw)
def b_X7layT_240 (X85 : Int32 → Int32 → Int32 → Int32 → Int32 → Int32 → VS → Prop) (Q : VS → Prop) (l4 : Int32) (l5 : Int32) (l6 : Int32) (l7 : Int32) (σ : VS) : Prop := wp_X8putStepT (fun (σ7 : VS) => wp_X3periodsOf (fun (r8 : Int32) (σ9 : VS) => wp_X2slackRoom (fun (r10 : Int32) (σ11 : VS) => wp_X2holdRoom (fun (r12 : Int32) (σ13 : VS) => Q (sf σ13 21 (l6 + r12))) ((sf σ11 20 (((r8 * (σ9.1 4)) + r10) - l5)).1 12) ((sf σ11 20 (((r8 * (σ9.1 4)) + r10) - l5)).1 13) (sf σ11 20 (((r8 * (σ9.1 4)) + r10) - l5))) (σ9.1 12) (σ9.1 13) σ9) (σ7.1 12) (σ7.1 13) l7 σ7) (σ.1 13) 0 l4 l5 σ
def b_X7layT_178 (X85 : Int32 → Int32 → Int32 → Int32 → Int32 → Int32 → VS → Prop) (Q : VS → Prop) (l5 : Int32) (l6 : Int32) (l7 : Int32) (l8 : Int32) (l9 : Int32) (l10 : Int32) (k0 : Int32) (σ : VS) : Prop := (In ((l8 * 2) + k0) 400 ∧ (∀ x18 : Int32, x18 = (l5 + (rd σ 41 ((l8 * 2) + k0))) → (In ((l8 * 2) + k0) 400 ∧ (∀ x19 : Int32, x19 = (l6 + (rd σ 42 ((l8 * 2) + k0))) → wp_X8putStepT (fun (σ21 : VS) => X85 k0 x18 x19 l7 l8 (l9 + 1) σ21) l10 (l8 - l8 / 4 * 4) k0 x18 σ))))
def b_X7layT_109 (X85 : Int32 → Int32 → Int32 → Int32 → Int32 → Int32 → VS → Prop) (Q : VS → Prop) (l4 : Int32) (l5 : Int32) (l6 : Int32) (l7 : Int32) (l9 : Int32) (k0 : Int32) (σ : VS) : Prop := wp_X7chooseWire (fun (r14 : Int32) (σ15 : VS) => ((0 ≤ r14.toInt → (∀ x16 : Int32, x16 = (r14 / 4) → (In x16 50 ∧ (∀ x17 : Int32, x17 = (l7 ||| (rd σ15 35 x16)) → ((x16.toInt ≠ (σ15.1 13).toInt → (In x16 50 ∧ (((rd σ15 11 x16).toInt ≠ 2 → b_X7layT_178 X85 Q l5 l6 x17 r14 l9 x16 l4 σ15) ∧ ((rd σ15 11 x16).toInt = 2 → b_X7layT_178 X85 Q l5 l6 x17 r14 l9 x16 (1 - l4) σ15)))) ∧ (x16.toInt = (σ15.1 13).toInt → b_X7layT_240 X85 Q l4 l5 l6 x17 σ15)))))) ∧ (r14.toInt < 0 → Q σ15))) k0 l7 σ
def b_X7layT_85 (X85 : Int32 → Int32 → Int32 → Int32 → Int32 → Int32 → VS → Prop) (Q : VS → Prop) (l4 : Int32) (l5 : Int32) (l6 : Int32) (l7 : Int32) (l8 : Int32) (l9 : Int32) (σ : VS) : Prop := ((51 ≤ l9.toInt → b_X7layT_240 X85 Q l4 l5 l6 l7 σ) ∧ (l9.toInt < 51 → ((0 ≤ l8.toInt → b_X7layT_109 X85 Q l4 l5 l6 l7 l9 (l8 / 4) σ) ∧ (l8.toInt < 0 → b_X7layT_109 X85 Q l4 l5 l6 l7 l9 (σ.1 12) σ))))
def wp_X7layT (Q : VS → Prop) (p1 : Int32) (p2 : Int32) (σ : VS) : Prop := ∀ (X85 : Int32 → Int32 → Int32 → Int32 → Int32 → Int32 → VS → Prop), (∀ (l4 : Int32) (l5 : Int32) (l6 : Int32) (l7 : Int32) (l8 : Int32) (l9 : Int32) (σ : VS), b_X7layT_85 X85 Q l4 l5 l6 l7 l8 l9 σ → X85 l4 l5 l6 l7 l8 l9 σ) → (In (((σ.1 12) * 2) + p1) 100 ∧ (∀ x1 : Int32, x1 = (rd σ 45 (((σ.1 12) * 2) + p1)) → (In (((σ.1 12) * 2) + p1) 100 ∧ (∀ x2 : Int32, x2 = (rd σ 46 (((σ.1 12) * 2) + p1)) → (In (σ.1 12) 50 ∧ (∀ x3 : Int32, x3 = (rd σ 35 (σ.1 12)) → wp_X8putStepT (fun (σ5 : VS) => X85 p1 x1 x2 x3 (-5) 0 σ5) ((sf (sf σ 14 p2) 19 0).1 12) (-1) p1 x1 (sf (sf σ 14 p2) 19 0)))))))
def wo_X7layT : List Cond := [.code yX7_lay cX7_lay 11 none, .methodLink RX7 143 yX8_putStep, .instanceMethod yX8_putStep, .selects RX8 yX8_putStep yX8_putStep, .initialized RX8, .methodLink RX7 122 yX3_periodsOf, .instanceMethod yX3_periodsOf, .selects RX3 yX3_periodsOf yX3_periodsOf, .initialized RX3, .methodLink RX7 162 yX2_slackRoom, .instanceMethod yX2_slackRoom, .selects RX2 yX2_slackRoom yX2_slackRoom, .initialized RX2, .methodLink RX7 167 yX2_holdRoom, .instanceMethod yX2_holdRoom, .selects RX2 yX2_holdRoom yX2_holdRoom, .methodLink RX7 147 yX7_chooseWire, .instanceMethod yX7_chooseWire, .selects RX7 yX7_chooseWire yX7_chooseWire, .initialized RX7]
def wr_X7layT : List Cond := (wfC ++ (w_X8putStepT ++ (w_X3periodsOf ++ (w_X2slackRoom ++ (w_X2holdRoom ++ (w_X7chooseWire ++ ([])))))))
def w_X7layT : List Cond := wo_X7layT ++ wr_X7layT
theorem wg_X7layT : GW w_X7layT := GW_app (GW_of (by decide +kernel)) (GW_app (wg_fC) (GW_app (wg_X8putStepT) (GW_app (wg_X3periodsOf) (GW_app (wg_X2slackRoom) (GW_app (wg_X2holdRoom) (GW_app (wg_X7chooseWire) (GW_nil)))))))
theorem in_X7layT : ∀ w ∈ wfC, w ∈ w_X7layT := fun _ h => List.mem_append_right _ (List.mem_append_left _ h)
theorem g_X7layT_X8putStepT_143 : GoodIn w_X7layT (wsV RX7 143 RX8 yX8_putStep w_X8putStepT) := goodIn_app (gi_left (goodIn_of _ (by decide +kernel))) (fun w h => ⟨List.mem_append_right _ (List.mem_append_right _ (List.mem_append_left _ h)), wg_X8putStepT w h⟩)
theorem g_X7layT_X3periodsOf_122 : GoodIn w_X7layT (wsV RX7 122 RX3 yX3_periodsOf w_X3periodsOf) := goodIn_app (gi_left (goodIn_of _ (by decide +kernel))) (fun w h => ⟨List.mem_append_right _ (List.mem_append_right _ (List.mem_append_right _ (List.mem_append_left _ h))), wg_X3periodsOf w h⟩)
theorem g_X7layT_X2slackRoom_162 : GoodIn w_X7layT (wsV RX7 162 RX2 yX2_slackRoom w_X2slackRoom) := goodIn_app (gi_left (goodIn_of _ (by decide +kernel))) (fun w h => ⟨List.mem_append_right _ (List.mem_append_right _ (List.mem_append_right _ (List.mem_append_right _ (List.mem_append_left _ h)))), wg_X2slackRoom w h⟩)
theorem g_X7layT_X2holdRoom_167 : GoodIn w_X7layT (wsV RX7 167 RX2 yX2_holdRoom w_X2holdRoom) := goodIn_app (gi_left (goodIn_of _ (by decide +kernel))) (fun w h => ⟨List.mem_append_right _ (List.mem_append_right _ (List.mem_append_right _ (List.mem_append_right _ (List.mem_append_right _ (List.mem_append_left _ h))))), wg_X2holdRoom w h⟩)
theorem g_X7layT_X7chooseWire_147 : GoodIn w_X7layT (wsV RX7 147 RX7 yX7_chooseWire w_X7chooseWire) := goodIn_app (gi_left (goodIn_of _ (by decide +kernel))) (fun w h => ⟨List.mem_append_right _ (List.mem_append_right _ (List.mem_append_right _ (List.mem_append_right _ (List.mem_append_right _ (List.mem_append_right _ (List.mem_append_left _ h)))))), wg_X7chooseWire w h⟩)
set_option maxHeartbeats 4000000 in
set_option maxRecDepth 100000 in
theorem ct_X7layT (l : Launch) (E : gE) (B : Nat → Nat) (Q : VS → Prop) (p1 : Int32) (p2 : Int32) (σ : VS) (hw : wp_X7layT Q p1 p2 σ) : CtV l E yX7_lay w_X7layT (({ frames := 4, cells := 0, slots := 0, locals := 89 } : Room)) (wc E B σ) [.ref (B 8), .int p1, .int p2, .ref (B 10)] (fun w => ∃ σ' : VS, Q σ' ∧ w = wc E B σ') := by
  refine VC_V (cc := cX7_lay) (mL := 11) (rt := none) (lv0 := [(0, .ref (B 8)), (1, .int p1), (2, .int p2), (3, .ref (B 10))]) rfl (by decide) rfl (Nat.le_of_ble_eq_true rfl) ?_
  intro p e s m below meth c A F
  replace F : Fx p s m _ meth c A E cX7_lay 11 none RX7 w_X7layT := F
  obtain ⟨X85, hX85⟩ : ∃ X : Int32 → Int32 → Int32 → Int32 → Int32 → Int32 → VS → Prop, X = fun l4 l5 l6 l7 l8 l9 σ => WB p l e (({ frames := 4, cells := 0, slots := 0, locals := 89 } : Room)) s m (#[.ref (B 8), .int p1, .int p2, .ref (B 10)]) below meth c (MQ below (va_Qv (fun w => ∃ σ' : VS, Q σ' ∧ w = wc E B σ') (AftU E A) A) (#[.ref (B 8), .int p1, .int p2, .ref (B 10)]) s (({ frames := 4, cells := 0, slots := 0, locals := 89 } : Room)).cells (({ frames := 4, cells := 0, slots := 0, locals := 89 } : Room)).slots A) A E (wc E B) 11 85 [(0, .ref (B 8)), (3, .ref (B 10)), (4, .int l4), (5, .int l5), (6, .int l6), (7, .int l7), (8, .int l8), (9, .int l9)] [] σ := ⟨_, rfl⟩
  have U_85 : ∀ (l4 : Int32) (l5 : Int32) (l6 : Int32) (l7 : Int32) (l8 : Int32) (l9 : Int32) (σ : VS), X85 l4 l5 l6 l7 l8 l9 σ → WB p l e (({ frames := 4, cells := 0, slots := 0, locals := 89 } : Room)) s m (#[.ref (B 8), .int p1, .int p2, .ref (B 10)]) below meth c (MQ below (va_Qv (fun w => ∃ σ' : VS, Q σ' ∧ w = wc E B σ') (AftU E A) A) (#[.ref (B 8), .int p1, .int p2, .ref (B 10)]) s (({ frames := 4, cells := 0, slots := 0, locals := 89 } : Room)).cells (({ frames := 4, cells := 0, slots := 0, locals := 89 } : Room)).slots A) A E (wc E B) 11 85 [(0, .ref (B 8)), (3, .ref (B 10)), (4, .int l4), (5, .int l5), (6, .int l6), (7, .int l7), (8, .int l8), (9, .int l9)] [] σ := by
    intro l4 l5 l6 l7 l8 l9 σ hw; rw [hX85] at hw; exact hw
  have J_240 : ∀ (l4 : Int32) (l5 : Int32) (l6 : Int32) (l7 : Int32) (σ : VS), b_X7layT_240 X85 Q l4 l5 l6 l7 σ → WB p l e (({ frames := 4, cells := 0, slots := 0, locals := 89 } : Room)) s m (#[.ref (B 8), .int p1, .int p2, .ref (B 10)]) below meth c (MQ below (va_Qv (fun w => ∃ σ' : VS, Q σ' ∧ w = wc E B σ') (AftU E A) A) (#[.ref (B 8), .int p1, .int p2, .ref (B 10)]) s (({ frames := 4, cells := 0, slots := 0, locals := 89 } : Room)).cells (({ frames := 4, cells := 0, slots := 0, locals := 89 } : Room)).slots A) A E (wc E B) 11 240 [(0, .ref (B 8)), (3, .ref (B 10)), (4, .int l4), (5, .int l5), (6, .int l6), (7, .int l7)] [] σ := by
    intro l4 l5 l6 l7 σ hw
    unfold b_X7layT_240 at hw
    refine R_aload_n F dX7_lay_240 rfl 1 rfl ?_
    refine R_aload_n F dX7_lay_241 rfl 0 rfl ?_
    refine gc_RX7_48_8 F in_X7layT dX7_lay_242 ?_
    refine R_iconst F 0 dX7_lay_245 (by decide) ?_
    refine R_iload F dX7_lay_246 2 rfl ?_
    refine R_iload F dX7_lay_248 3 rfl ?_
    refine R_callV (As := [.int (σ.1 13), .int 0, .int l4, .int l5]) (C := RX8) (q0 := 10) (ci := 8) (N := 7) (T := TX8) (fs := cf_10 B) F (ct_X8putStepT l E B _ (σ.1 13) 0 l4 l5 _ hw) (cwV 4 F.2.2.2.2.2.2.2.2.2.2 g_X7layT_X8putStepT_143 rfl rfl rfl (by decide +kernel) ⟨Nat.le_of_ble_eq_true rfl, Nat.le_of_ble_eq_true rfl⟩) ⟨rfl, rfl⟩ rfl (fun _ => rfl) rfl rfl (Nat.le_of_ble_eq_true rfl) dX7_lay_250 (fun σ7 hw => ?_)
    refine R_aload_n F dX7_lay_253 rfl 1 rfl ?_
    refine R_aload_n F dX7_lay_254 rfl 0 rfl ?_
    refine gc_RX7_31_8 F in_X7layT dX7_lay_255 ?_
    refine R_aload_n F dX7_lay_258 rfl 0 rfl ?_
    refine gc_RX7_92_8 F in_X7layT dX7_lay_259 ?_
    refine R_aload_n F dX7_lay_262 rfl 0 rfl ?_
    refine gc_RX7_48_8 F in_X7layT dX7_lay_263 ?_
    refine R_iload F dX7_lay_266 5 rfl ?_
    refine R_callI (As := [.int (σ7.1 12), .int (σ7.1 13), .int l7]) (C := RX3) (q0 := 4) (ci := 3) (N := 6) (T := TX3) (fs := cf_4 B) F (ct_X3periodsOf l E B _ (σ7.1 12) (σ7.1 13) l7 _ hw) (cwV 3 F.2.2.2.2.2.2.2.2.2.2 g_X7layT_X3periodsOf_122 rfl rfl rfl (by decide +kernel) ⟨Nat.le_of_ble_eq_true rfl, Nat.le_of_ble_eq_true rfl⟩) ⟨rfl, rfl⟩ rfl (fun _ => rfl) rfl rfl (Nat.le_of_ble_eq_true rfl) dX7_lay_268 (fun r8 σ9 hw => ?_)
    refine R_aload_n F dX7_lay_271 rfl 0 rfl ?_
    refine gc_RX7_27_8 F in_X7layT dX7_lay_272 ?_
    refine gc_RX7_159_3 F in_X7layT dX7_lay_275 ?_
    refine R_imul F dX7_lay_278 ?_
    refine R_aload_n F dX7_lay_279 rfl 0 rfl ?_
    refine gc_RX7_39_8 F in_X7layT dX7_lay_280 ?_
    refine R_aload_n F dX7_lay_283 rfl 0 rfl ?_
    refine gc_RX7_92_8 F in_X7layT dX7_lay_284 ?_
    refine R_aload_n F dX7_lay_287 rfl 0 rfl ?_
    refine gc_RX7_48_8 F in_X7layT dX7_lay_288 ?_
    refine R_callI (As := [.int (σ9.1 12), .int (σ9.1 13)]) (C := RX2) (q0 := 7) (ci := 2) (N := 13) (T := TX2) (fs := cf_7 B) F (ct_X2slackRoom l E B _ (σ9.1 12) (σ9.1 13) _ hw) (cwV 2 F.2.2.2.2.2.2.2.2.2.2 g_X7layT_X2slackRoom_162 rfl rfl rfl (by decide +kernel) ⟨Nat.le_of_ble_eq_true rfl, Nat.le_of_ble_eq_true rfl⟩) ⟨rfl, rfl⟩ rfl (fun _ => rfl) rfl rfl (Nat.le_of_ble_eq_true rfl) dX7_lay_291 (fun r10 σ11 hw => ?_)
    refine R_iadd F dX7_lay_294 ?_
    refine R_iload F dX7_lay_295 3 rfl ?_
    refine R_isub F dX7_lay_297 ?_
    refine pc_RX7_84_10 F in_X7layT dX7_lay_298 ?_
    refine R_aload_n F dX7_lay_301 rfl 1 rfl ?_
    refine R_iload F dX7_lay_302 4 rfl ?_
    refine R_aload_n F dX7_lay_304 rfl 0 rfl ?_
    refine gc_RX7_39_8 F in_X7layT dX7_lay_305 ?_
    refine R_aload_n F dX7_lay_308 rfl 0 rfl ?_
    refine gc_RX7_92_8 F in_X7layT dX7_lay_309 ?_
    refine R_aload_n F dX7_lay_312 rfl 0 rfl ?_
    refine gc_RX7_48_8 F in_X7layT dX7_lay_313 ?_
    refine R_callI (As := [.int ((sf σ11 20 (((r8 * (σ9.1 4)) + r10) - l5)).1 12), .int ((sf σ11 20 (((r8 * (σ9.1 4)) + r10) - l5)).1 13)]) (C := RX2) (q0 := 7) (ci := 2) (N := 13) (T := TX2) (fs := cf_7 B) F (ct_X2holdRoom l E B _ ((sf σ11 20 (((r8 * (σ9.1 4)) + r10) - l5)).1 12) ((sf σ11 20 (((r8 * (σ9.1 4)) + r10) - l5)).1 13) _ hw) (cwV 2 F.2.2.2.2.2.2.2.2.2.2 g_X7layT_X2holdRoom_167 rfl rfl rfl (by decide +kernel) ⟨Nat.le_of_ble_eq_true rfl, Nat.le_of_ble_eq_true rfl⟩) ⟨rfl, rfl⟩ rfl (fun _ => rfl) rfl rfl (Nat.le_of_ble_eq_true rfl) dX7_lay_316 (fun r12 σ13 hw => ?_)
    refine R_iadd F dX7_lay_319 ?_
    refine pc_RX7_170_10 F in_X7layT dX7_lay_320 ?_
    exact R_vret (Qc := Q) F dX7_lay_323 hw
  have J_178 : ∀ (l5 : Int32) (l6 : Int32) (l7 : Int32) (l8 : Int32) (l9 : Int32) (l10 : Int32) (k0 : Int32) (σ : VS), b_X7layT_178 X85 Q l5 l6 l7 l8 l9 l10 k0 σ → WB p l e (({ frames := 4, cells := 0, slots := 0, locals := 89 } : Room)) s m (#[.ref (B 8), .int p1, .int p2, .ref (B 10)]) below meth c (MQ below (va_Qv (fun w => ∃ σ' : VS, Q σ' ∧ w = wc E B σ') (AftU E A) A) (#[.ref (B 8), .int p1, .int p2, .ref (B 10)]) s (({ frames := 4, cells := 0, slots := 0, locals := 89 } : Room)).cells (({ frames := 4, cells := 0, slots := 0, locals := 89 } : Room)).slots A) A E (wc E B) 11 178 [(0, .ref (B 8)), (3, .ref (B 10)), (5, .int l5), (6, .int l6), (7, .int l7), (8, .int l8), (9, .int l9), (10, .int l10)] [.int k0] σ := by
    intro l5 l6 l7 l8 l9 l10 k0 σ hw
    unfold b_X7layT_178 at hw
    refine R_istore (lv' := [(4, .int k0), (0, .ref (B 8)), (3, .ref (B 10)), (5, .int l5), (6, .int l6), (7, .int l7), (8, .int l8), (9, .int l9), (10, .int l10)]) F dX7_lay_178 (by decide) rfl ?_
    refine R_iload F dX7_lay_180 3 rfl ?_
    refine R_aload_n F dX7_lay_182 rfl 1 rfl ?_
    refine gc_RX7_35_8 F in_X7layT dX7_lay_183 ?_
    refine gc_RX7_153_6 F in_X7layT dX7_lay_186 ?_
    refine R_iload F dX7_lay_189 6 rfl ?_
    refine R_iconst F 2 dX7_lay_191 (by decide) ?_
    refine R_imul F dX7_lay_192 ?_
    refine R_iload F dX7_lay_193 0 rfl ?_
    refine R_iadd F dX7_lay_195 ?_
    refine R_ldi F qc_41 dX7_lay_196 hw.1 ?_
    replace hw := hw.2
    refine R_iadd F dX7_lay_197 ?_
    refine R_topi (fun x18 ex18 => ?_)
    replace hw := hw x18 ex18
    refine R_istore (lv' := [(5, .int x18), (4, .int k0), (0, .ref (B 8)), (3, .ref (B 10)), (6, .int l6), (7, .int l7), (8, .int l8), (9, .int l9), (10, .int l10)]) F dX7_lay_198 (by decide) rfl ?_
    refine R_iload F dX7_lay_200 4 rfl ?_
    refine R_aload_n F dX7_lay_202 rfl 2 rfl ?_
    refine gc_RX7_35_8 F in_X7layT dX7_lay_203 ?_
    refine gc_RX7_156_6 F in_X7layT dX7_lay_206 ?_
    refine R_iload F dX7_lay_209 6 rfl ?_
    refine R_iconst F 2 dX7_lay_211 (by decide) ?_
    refine R_imul F dX7_lay_212 ?_
    refine R_iload F dX7_lay_213 1 rfl ?_
    refine R_iadd F dX7_lay_215 ?_
    refine R_ldi F qc_42 dX7_lay_216 hw.1 ?_
    replace hw := hw.2
    refine R_iadd F dX7_lay_217 ?_
    refine R_topi (fun x19 ex19 => ?_)
    replace hw := hw x19 ex19
    refine R_istore (lv' := [(6, .int x19), (5, .int x18), (4, .int k0), (0, .ref (B 8)), (3, .ref (B 10)), (7, .int l7), (8, .int l8), (9, .int l9), (10, .int l10)]) F dX7_lay_218 (by decide) rfl ?_
    refine R_aload_n F dX7_lay_220 rfl 4 rfl ?_
    refine R_iload F dX7_lay_221 8 rfl ?_
    refine R_iload F dX7_lay_223 6 rfl ?_
    refine R_iconst F 4 dX7_lay_225 (by decide) ?_
    refine R_irem F dX7_lay_226 (by decide) ?_
    refine R_iload F dX7_lay_227 2 rfl ?_
    refine R_iload F dX7_lay_229 1 rfl ?_
    refine R_callV (As := [.int l10, .int (l8 - l8 / 4 * 4), .int k0, .int x18]) (C := RX8) (q0 := 10) (ci := 8) (N := 7) (T := TX8) (fs := cf_10 B) F (ct_X8putStepT l E B _ l10 (l8 - l8 / 4 * 4) k0 x18 _ hw) (cwV 4 F.2.2.2.2.2.2.2.2.2.2 g_X7layT_X8putStepT_143 rfl rfl rfl (by decide +kernel) ⟨Nat.le_of_ble_eq_true rfl, Nat.le_of_ble_eq_true rfl⟩) ⟨rfl, rfl⟩ rfl (fun _ => rfl) rfl rfl (Nat.le_of_ble_eq_true rfl) dX7_lay_231 (fun σ21 hw => ?_)
    refine R_iinc (q := 7) (v := (l9 + 1)) (lv' := [(9, .int (l9 + 1)), (6, .int x19), (5, .int x18), (4, .int k0), (0, .ref (B 8)), (3, .ref (B 10)), (7, .int l7), (8, .int l8), (10, .int l10)]) F dX7_lay_234 rfl rfl (by decide) rfl ?_
    refine R_goto (tgt := 85) F dX7_lay_237 (by decide) ?_
    exact R_sub [4, 5, 3, 2, 1, 6, 7, 0] rfl (U_85 k0 x18 x19 l7 l8 (l9 + 1) σ21 hw)
  have J_109 : ∀ (l4 : Int32) (l5 : Int32) (l6 : Int32) (l7 : Int32) (l9 : Int32) (k0 : Int32) (σ : VS), b_X7layT_109 X85 Q l4 l5 l6 l7 l9 k0 σ → WB p l e (({ frames := 4, cells := 0, slots := 0, locals := 89 } : Room)) s m (#[.ref (B 8), .int p1, .int p2, .ref (B 10)]) below meth c (MQ below (va_Qv (fun w => ∃ σ' : VS, Q σ' ∧ w = wc E B σ') (AftU E A) A) (#[.ref (B 8), .int p1, .int p2, .ref (B 10)]) s (({ frames := 4, cells := 0, slots := 0, locals := 89 } : Room)).cells (({ frames := 4, cells := 0, slots := 0, locals := 89 } : Room)).slots A) A E (wc E B) 11 109 [(0, .ref (B 8)), (3, .ref (B 10)), (4, .int l4), (5, .int l5), (6, .int l6), (7, .int l7), (9, .int l9)] [.int k0, .ref (B 8)] σ := by
    intro l4 l5 l6 l7 l9 k0 σ hw
    unfold b_X7layT_109 at hw
    refine R_iload F dX7_lay_109 5 rfl ?_
    refine R_callI (As := [.int k0, .int l7]) (C := RX7) (q0 := 8) (ci := 7) (N := 12) (T := TX7) (fs := cf_8 B) F (ct_X7chooseWire l E B _ k0 l7 _ hw) (cwV 2 F.2.2.2.2.2.2.2.2.2.2 g_X7layT_X7chooseWire_147 rfl rfl rfl (by decide +kernel) ⟨Nat.le_of_ble_eq_true rfl, Nat.le_of_ble_eq_true rfl⟩) ⟨rfl, rfl⟩ rfl (fun _ => rfl) rfl rfl (Nat.le_of_ble_eq_true rfl) dX7_lay_111 (fun r14 σ15 hw => ?_)
    refine R_istore (lv' := [(8, .int r14), (0, .ref (B 8)), (3, .ref (B 10)), (4, .int l4), (5, .int l5), (6, .int l6), (7, .int l7), (9, .int l9)]) F dX7_lay_114 (by decide) rfl ?_
    refine R_iload F dX7_lay_116 0 rfl ?_
    refine R_if_ge (tgt := 122) F dX7_lay_118 (by decide) (fun hc => ?_) (fun hc => ?_)
    · replace hw := hw.1 hc
      refine R_iload F dX7_lay_122 0 rfl ?_
      refine R_iconst F 4 dX7_lay_124 (by decide) ?_
      refine R_idiv F dX7_lay_125 (by decide) ?_
      refine R_topi (fun x16 ex16 => ?_)
      replace hw := hw x16 ex16
      refine R_istore (lv' := [(10, .int x16), (8, .int r14), (0, .ref (B 8)), (3, .ref (B 10)), (4, .int l4), (5, .int l5), (6, .int l6), (7, .int l7), (9, .int l9)]) F dX7_lay_126 (by decide) rfl ?_
      refine R_iload F dX7_lay_128 7 rfl ?_
      refine R_aload_n F dX7_lay_130 rfl 2 rfl ?_
      refine gc_RX7_31_8 F in_X7layT dX7_lay_131 ?_
      refine gc_RX7_105_4 F in_X7layT dX7_lay_134 ?_
      refine R_iload F dX7_lay_137 0 rfl ?_
      refine R_ldi F qc_35 dX7_lay_139 hw.1 ?_
      replace hw := hw.2
      refine R_ior F dX7_lay_140 ?_
      refine R_topi (fun x17 ex17 => ?_)
      replace hw := hw x17 ex17
      refine R_istore (lv' := [(7, .int x17), (10, .int x16), (8, .int r14), (0, .ref (B 8)), (3, .ref (B 10)), (4, .int l4), (5, .int l5), (6, .int l6), (9, .int l9)]) F dX7_lay_141 (by decide) rfl ?_
      refine R_iload F dX7_lay_143 1 rfl ?_
      refine R_aload_n F dX7_lay_145 rfl 3 rfl ?_
      refine gc_RX7_48_8 F in_X7layT dX7_lay_146 ?_
      refine R_icmp_ne (tgt := 155) F dX7_lay_149 (by decide) (fun hc => ?_) (fun hc => ?_)
      · replace hw := hw.1 hc
        refine R_aload_n F dX7_lay_155 rfl 3 rfl ?_
        refine gc_RX7_23_8 F in_X7layT dX7_lay_156 ?_
        refine gc_RX7_150_1 F in_X7layT dX7_lay_159 ?_
        refine R_iload F dX7_lay_162 1 rfl ?_
        refine R_ldi F qc_11 dX7_lay_164 hw.1 ?_
        replace hw := hw.2
        refine R_iconst F 2 dX7_lay_165 (by decide) ?_
        refine R_icmp_ne (tgt := 176) F dX7_lay_166 (by decide) (fun hc => ?_) (fun hc => ?_)
        · replace hw := hw.1 hc
          refine R_iload F dX7_lay_176 5 rfl ?_
          exact R_sub [3, 4, 6, 7, 0, 2, 8, 1] rfl (J_178 l5 l6 x17 r14 l9 x16 l4 σ15 hw)
        · replace hw := hw.2 hc
          refine R_iconst F 1 dX7_lay_169 (by decide) ?_
          refine R_iload F dX7_lay_170 5 rfl ?_
          refine R_isub F dX7_lay_172 ?_
          refine R_goto (tgt := 178) F dX7_lay_173 (by decide) ?_
          exact R_sub [3, 4, 6, 7, 0, 2, 8, 1] rfl (J_178 l5 l6 x17 r14 l9 x16 (1 - l4) σ15 hw)
      · replace hw := hw.2 hc
        refine R_goto (tgt := 240) F dX7_lay_152 (by decide) ?_
        exact R_sub [3, 4, 5, 6, 7, 0] rfl (J_240 l4 l5 l6 x17 σ15 hw)
    · replace hw := hw.2 hc
      exact R_vret (Qc := Q) F dX7_lay_121 hw
  have C_85 : ∀ (l4 : Int32) (l5 : Int32) (l6 : Int32) (l7 : Int32) (l8 : Int32) (l9 : Int32) (σ : VS), b_X7layT_85 X85 Q l4 l5 l6 l7 l8 l9 σ → X85 l4 l5 l6 l7 l8 l9 σ := by
    intro l4 l5 l6 l7 l8 l9 σ hw
    unfold b_X7layT_85 at hw
    rw [hX85]
    show WB p l e (({ frames := 4, cells := 0, slots := 0, locals := 89 } : Room)) s m (#[.ref (B 8), .int p1, .int p2, .ref (B 10)]) below meth c (MQ below (va_Qv (fun w => ∃ σ' : VS, Q σ' ∧ w = wc E B σ') (AftU E A) A) (#[.ref (B 8), .int p1, .int p2, .ref (B 10)]) s (({ frames := 4, cells := 0, slots := 0, locals := 89 } : Room)).cells (({ frames := 4, cells := 0, slots := 0, locals := 89 } : Room)).slots A) A E (wc E B) 11 85 [(0, .ref (B 8)), (3, .ref (B 10)), (4, .int l4), (5, .int l5), (6, .int l6), (7, .int l7), (8, .int l8), (9, .int l9)] [] σ
    refine R_iload F dX7_lay_85 7 rfl ?_
    refine R_bipush F 51 dX7_lay_87 (by decide) ?_
    refine R_icmp_ge (tgt := 240) F dX7_lay_89 (by decide) (fun hc => ?_) (fun hc => ?_)
    · replace hw := hw.1 hc
      exact R_sub [0, 1, 2, 3, 4, 5] rfl (J_240 l4 l5 l6 l7 σ hw)
    · replace hw := hw.2 hc
      refine R_aload_n F dX7_lay_92 rfl 0 rfl ?_
      refine R_iload F dX7_lay_93 6 rfl ?_
      refine R_if_ge (tgt := 105) F dX7_lay_95 (by decide) (fun hc => ?_) (fun hc => ?_)
      · replace hw := hw.1 hc
        refine R_iload F dX7_lay_105 6 rfl ?_
        refine R_iconst F 4 dX7_lay_107 (by decide) ?_
        refine R_idiv F dX7_lay_108 (by decide) ?_
        exact R_sub [0, 1, 2, 3, 4, 5, 7] rfl (J_109 l4 l5 l6 l7 l9 (l8 / 4) σ hw)
      · replace hw := hw.2 hc
        refine R_aload_n F dX7_lay_98 rfl 0 rfl ?_
        refine gc_RX7_92_8 F in_X7layT dX7_lay_99 ?_
        refine R_goto (tgt := 109) F dX7_lay_102 (by decide) ?_
        exact R_sub [0, 1, 2, 3, 4, 5, 7] rfl (J_109 l4 l5 l6 l7 l9 (σ.1 12) σ hw)
  unfold wp_X7layT at hw
  replace hw := hw X85 C_85
  refine R_iload_n F dX7_lay_0 rfl 1 rfl ?_
  refine R_istore (lv' := [(4, .int p1), (0, .ref (B 8)), (1, .int p1), (2, .int p2), (3, .ref (B 10))]) F dX7_lay_1 (by decide) rfl ?_
  refine R_aload_n F dX7_lay_3 rfl 1 rfl ?_
  refine gc_RX7_35_8 F in_X7layT dX7_lay_4 ?_
  refine gc_RX7_129_6 F in_X7layT dX7_lay_7 ?_
  refine R_aload_n F dX7_lay_10 rfl 1 rfl ?_
  refine gc_RX7_92_8 F in_X7layT dX7_lay_11 ?_
  refine R_iconst F 2 dX7_lay_14 (by decide) ?_
  refine R_imul F dX7_lay_15 ?_
  refine R_iload F dX7_lay_16 0 rfl ?_
  refine R_iadd F dX7_lay_18 ?_
  refine R_ldi F qc_45 dX7_lay_19 hw.1 ?_
  replace hw := hw.2
  refine R_topi (fun x1 ex1 => ?_)
  replace hw := hw x1 ex1
  refine R_istore (lv' := [(5, .int x1), (4, .int p1), (0, .ref (B 8)), (1, .int p1), (2, .int p2), (3, .ref (B 10))]) F dX7_lay_20 (by decide) rfl ?_
  refine R_aload_n F dX7_lay_22 rfl 2 rfl ?_
  refine gc_RX7_35_8 F in_X7layT dX7_lay_23 ?_
  refine gc_RX7_134_6 F in_X7layT dX7_lay_26 ?_
  refine R_aload_n F dX7_lay_29 rfl 2 rfl ?_
  refine gc_RX7_92_8 F in_X7layT dX7_lay_30 ?_
  refine R_iconst F 2 dX7_lay_33 (by decide) ?_
  refine R_imul F dX7_lay_34 ?_
  refine R_iload F dX7_lay_35 1 rfl ?_
  refine R_iadd F dX7_lay_37 ?_
  refine R_ldi F qc_46 dX7_lay_38 hw.1 ?_
  replace hw := hw.2
  refine R_topi (fun x2 ex2 => ?_)
  replace hw := hw x2 ex2
  refine R_istore (lv' := [(6, .int x2), (5, .int x1), (4, .int p1), (0, .ref (B 8)), (1, .int p1), (2, .int p2), (3, .ref (B 10))]) F dX7_lay_39 (by decide) rfl ?_
  refine R_aload_n F dX7_lay_41 rfl 3 rfl ?_
  refine gc_RX7_31_8 F in_X7layT dX7_lay_42 ?_
  refine gc_RX7_105_4 F in_X7layT dX7_lay_45 ?_
  refine R_aload_n F dX7_lay_48 rfl 3 rfl ?_
  refine gc_RX7_92_8 F in_X7layT dX7_lay_49 ?_
  refine R_ldi F qc_35 dX7_lay_52 hw.1 ?_
  replace hw := hw.2
  refine R_topi (fun x3 ex3 => ?_)
  replace hw := hw x3 ex3
  refine R_istore (lv' := [(7, .int x3), (6, .int x2), (5, .int x1), (4, .int p1), (0, .ref (B 8)), (1, .int p1), (2, .int p2), (3, .ref (B 10))]) F dX7_lay_53 (by decide) rfl ?_
  refine R_bipush F (-5) dX7_lay_55 (by decide) ?_
  refine R_istore (lv' := [(8, .int (-5)), (7, .int x3), (6, .int x2), (5, .int x1), (4, .int p1), (0, .ref (B 8)), (1, .int p1), (2, .int p2), (3, .ref (B 10))]) F dX7_lay_57 (by decide) rfl ?_
  refine R_aload_n F dX7_lay_59 rfl 5 rfl ?_
  refine R_iload_n F dX7_lay_60 rfl 7 rfl ?_
  refine pc_RX7_137_8 F in_X7layT dX7_lay_61 ?_
  refine R_aload_n F dX7_lay_64 rfl 8 rfl ?_
  refine R_iconst F 0 dX7_lay_65 (by decide) ?_
  refine pc_RX7_140_10 F in_X7layT dX7_lay_66 ?_
  refine R_aload_n F dX7_lay_69 rfl 8 rfl ?_
  refine R_aload_n F dX7_lay_70 rfl 5 rfl ?_
  refine gc_RX7_92_8 F in_X7layT dX7_lay_71 ?_
  refine R_iconst F (-1) dX7_lay_74 (by decide) ?_
  refine R_iload F dX7_lay_75 4 rfl ?_
  refine R_iload F dX7_lay_77 3 rfl ?_
  refine R_callV (As := [.int ((sf (sf σ 14 p2) 19 0).1 12), .int (-1), .int p1, .int x1]) (C := RX8) (q0 := 10) (ci := 8) (N := 7) (T := TX8) (fs := cf_10 B) F (ct_X8putStepT l E B _ ((sf (sf σ 14 p2) 19 0).1 12) (-1) p1 x1 _ hw) (cwV 4 F.2.2.2.2.2.2.2.2.2.2 g_X7layT_X8putStepT_143 rfl rfl rfl (by decide +kernel) ⟨Nat.le_of_ble_eq_true rfl, Nat.le_of_ble_eq_true rfl⟩) ⟨rfl, rfl⟩ rfl (fun _ => rfl) rfl rfl (Nat.le_of_ble_eq_true rfl) dX7_lay_79 (fun σ5 hw => ?_)
  refine R_iconst F 0 dX7_lay_82 (by decide) ?_
  refine R_istore (lv' := [(9, .int 0), (8, .int (-5)), (7, .int x3), (6, .int x2), (5, .int x1), (4, .int p1), (0, .ref (B 8)), (1, .int p1), (2, .int p2), (3, .ref (B 10))]) F dX7_lay_83 (by decide) rfl ?_
  exact R_sub [6, 9, 5, 4, 3, 2, 1, 0] rfl (U_85 p1 x1 x2 x3 (-5) 0 σ5 hw)
def b_X7keyAllS_112 (X7 : Int32 → VS → Prop) (X42 : Int32 → Int32 → Int32 → VS → Prop) (Q : VS → Prop) (l2 : Int32) (σ : VS) : Prop := X7 (l2 + 1) σ
def b_X7keyAllS_42 (X7 : Int32 → VS → Prop) (X42 : Int32 → Int32 → Int32 → VS → Prop) (Q : VS → Prop) (l2 : Int32) (l3 : Int32) (l4 : Int32) (σ : VS) : Prop := (((2 * l3).toInt ≤ l4.toInt → b_X7keyAllS_112 X7 X42 Q l2 σ) ∧ (l4.toInt < (2 * l3).toInt → ((1000 ≤ (σ.1 15).toInt → b_X7keyAllS_112 X7 X42 Q l2 σ) ∧ ((σ.1 15).toInt < 1000 → (¬ l3 = 0 ∧ (¬ l3 = 0 ∧ wp_X7layS (fun (σ6 : VS) => (In (σ6.1 15) 1000 ∧ X42 l2 l3 (l4 + 1) (sf (slj σ6 54 (σ6.1 15) (((((σ6.1 17)).toInt64) <<< ((10 : Int32).toInt64 &&& 63)) + (((σ6.1 15)).toInt64))) 15 (((slj σ6 54 (σ6.1 15) (((((σ6.1 17)).toInt64) <<< ((10 : Int32).toInt64 &&& 63)) + (((σ6.1 15)).toInt64))).1 15) + 1)))) (l4 / l3) (l4 - l4 / l3 * l3) σ))))))
def b_X7keyAllS_38 (X7 : Int32 → VS → Prop) (X42 : Int32 → Int32 → Int32 → VS → Prop) (Q : VS → Prop) (l2 : Int32) (k0 : Int32) (σ : VS) : Prop := X42 l2 k0 0 σ
def b_X7keyAllS_7 (X7 : Int32 → VS → Prop) (X42 : Int32 → Int32 → Int32 → VS → Prop) (Q : VS → Prop) (l2 : Int32) (σ : VS) : Prop := (((σ.1 2).toInt ≤ l2.toInt → Q σ) ∧ (l2.toInt < (σ.1 2).toInt → wp_X1isStart (fun (r1 : Int32) (σ2 : VS) => ((r1.toInt = 0 → b_X7keyAllS_38 X7 X42 Q l2 0 σ2) ∧ (r1.toInt ≠ 0 → wp_X7aimFrom (fun (r3 : Int32) (σ4 : VS) => b_X7keyAllS_38 X7 X42 Q l2 r3 σ4) l2 σ2))) l2 σ))
def wp_X7keyAllS (Q : VS → Prop) (σ : VS) : Prop := ∀ (X7 : Int32 → VS → Prop) (X42 : Int32 → Int32 → Int32 → VS → Prop), (∀ (l2 : Int32) (σ : VS), b_X7keyAllS_7 X7 X42 Q l2 σ → X7 l2 σ) → (∀ (l2 : Int32) (l3 : Int32) (l4 : Int32) (σ : VS), b_X7keyAllS_42 X7 X42 Q l2 l3 l4 σ → X42 l2 l3 l4 σ) → X7 0 (sf σ 15 0)
theorem dX7_keyAll_0 : decode cX7_keyAll 0 = .ok (.aload_n 0, 1) := by decide +kernel
theorem dX7_keyAll_1 : decode cX7_keyAll 1 = .ok (.iconst 0, 1) := by decide +kernel
theorem dX7_keyAll_2 : decode cX7_keyAll 2 = .ok (.putfield 58, 3) := by decide +kernel
theorem dX7_keyAll_5 : decode cX7_keyAll 5 = .ok (.iconst 0, 1) := by decide +kernel
theorem dX7_keyAll_6 : decode cX7_keyAll 6 = .ok (.istore_n 2, 1) := by decide +kernel
theorem dX7_keyAll_7 : decode cX7_keyAll 7 = .ok (.iload_n 2, 1) := by decide +kernel
theorem dX7_keyAll_8 : decode cX7_keyAll 8 = .ok (.aload_n 0, 1) := by decide +kernel
theorem dX7_keyAll_9 : decode cX7_keyAll 9 = .ok (.getfield 23, 3) := by decide +kernel
theorem dX7_keyAll_12 : decode cX7_keyAll 12 = .ok (.getfield 67, 3) := by decide +kernel
theorem dX7_keyAll_15 : decode cX7_keyAll 15 = .ok (.if_icmp .ge 103, 3) := by decide +kernel
theorem dX7_keyAll_118 : decode cX7_keyAll 118 = .ok (.return_, 1) := by decide +kernel
theorem dX7_keyAll_18 : decode cX7_keyAll 18 = .ok (.aload_n 0, 1) := by decide +kernel
theorem dX7_keyAll_19 : decode cX7_keyAll 19 = .ok (.getfield 23, 3) := by decide +kernel
theorem dX7_keyAll_22 : decode cX7_keyAll 22 = .ok (.iload_n 2, 1) := by decide +kernel
theorem dX7_keyAll_23 : decode cX7_keyAll 23 = .ok (.invokevirtual 72, 3) := by decide +kernel
theorem dX7_keyAll_26 : decode cX7_keyAll 26 = .ok (.ifCond .eq 11, 3) := by decide +kernel
theorem dX7_keyAll_37 : decode cX7_keyAll 37 = .ok (.iconst 0, 1) := by decide +kernel
theorem dX7_keyAll_29 : decode cX7_keyAll 29 = .ok (.aload_n 0, 1) := by decide +kernel
theorem dX7_keyAll_30 : decode cX7_keyAll 30 = .ok (.iload_n 2, 1) := by decide +kernel
theorem dX7_keyAll_31 : decode cX7_keyAll 31 = .ok (.invokevirtual 76, 3) := by decide +kernel
theorem dX7_keyAll_34 : decode cX7_keyAll 34 = .ok (.goto 4, 3) := by decide +kernel
theorem dX7_keyAll_38 : decode cX7_keyAll 38 = .ok (.istore_n 3, 1) := by decide +kernel
theorem dX7_keyAll_39 : decode cX7_keyAll 39 = .ok (.iconst 0, 1) := by decide +kernel
theorem dX7_keyAll_40 : decode cX7_keyAll 40 = .ok (.istore 4, 2) := by decide +kernel
theorem dX7_keyAll_42 : decode cX7_keyAll 42 = .ok (.iload 4, 2) := by decide +kernel
theorem dX7_keyAll_44 : decode cX7_keyAll 44 = .ok (.iconst 2, 1) := by decide +kernel
theorem dX7_keyAll_45 : decode cX7_keyAll 45 = .ok (.iload_n 3, 1) := by decide +kernel
theorem dX7_keyAll_46 : decode cX7_keyAll 46 = .ok (.imul, 1) := by decide +kernel
theorem dX7_keyAll_47 : decode cX7_keyAll 47 = .ok (.if_icmp .ge 65, 3) := by decide +kernel
theorem dX7_keyAll_50 : decode cX7_keyAll 50 = .ok (.aload_n 0, 1) := by decide +kernel
theorem dX7_keyAll_51 : decode cX7_keyAll 51 = .ok (.getfield 58, 3) := by decide +kernel
theorem dX7_keyAll_54 : decode cX7_keyAll 54 = .ok (.sipush 1000, 3) := by decide +kernel
theorem dX7_keyAll_57 : decode cX7_keyAll 57 = .ok (.if_icmp .ge 55, 3) := by decide +kernel
theorem dX7_keyAll_60 : decode cX7_keyAll 60 = .ok (.aload_n 0, 1) := by decide +kernel
theorem dX7_keyAll_61 : decode cX7_keyAll 61 = .ok (.iload 4, 2) := by decide +kernel
theorem dX7_keyAll_63 : decode cX7_keyAll 63 = .ok (.iload_n 3, 1) := by decide +kernel
theorem dX7_keyAll_64 : decode cX7_keyAll 64 = .ok (.idiv, 1) := by decide +kernel
theorem dX7_keyAll_65 : decode cX7_keyAll 65 = .ok (.iload 4, 2) := by decide +kernel
theorem dX7_keyAll_67 : decode cX7_keyAll 67 = .ok (.iload_n 3, 1) := by decide +kernel
theorem dX7_keyAll_68 : decode cX7_keyAll 68 = .ok (.irem, 1) := by decide +kernel
theorem dX7_keyAll_69 : decode cX7_keyAll 69 = .ok (.aload_n 1, 1) := by decide +kernel
theorem dX7_keyAll_70 : decode cX7_keyAll 70 = .ok (.invokevirtual 80, 3) := by decide +kernel
theorem dX7_keyAll_73 : decode cX7_keyAll 73 = .ok (.aload_n 0, 1) := by decide +kernel
theorem dX7_keyAll_74 : decode cX7_keyAll 74 = .ok (.getfield 19, 3) := by decide +kernel
theorem dX7_keyAll_77 : decode cX7_keyAll 77 = .ok (.aload_n 0, 1) := by decide +kernel
theorem dX7_keyAll_78 : decode cX7_keyAll 78 = .ok (.getfield 58, 3) := by decide +kernel
theorem dX7_keyAll_81 : decode cX7_keyAll 81 = .ok (.aload_n 1, 1) := by decide +kernel
theorem dX7_keyAll_82 : decode cX7_keyAll 82 = .ok (.getfield 84, 3) := by decide +kernel
theorem dX7_keyAll_85 : decode cX7_keyAll 85 = .ok (.i2l, 1) := by decide +kernel
theorem dX7_keyAll_86 : decode cX7_keyAll 86 = .ok (.bipush 10, 2) := by decide +kernel
theorem dX7_keyAll_88 : decode cX7_keyAll 88 = .ok (.lshl, 1) := by decide +kernel
theorem dX7_keyAll_89 : decode cX7_keyAll 89 = .ok (.aload_n 0, 1) := by decide +kernel
theorem dX7_keyAll_90 : decode cX7_keyAll 90 = .ok (.getfield 58, 3) := by decide +kernel
theorem dX7_keyAll_93 : decode cX7_keyAll 93 = .ok (.i2l, 1) := by decide +kernel
theorem dX7_keyAll_94 : decode cX7_keyAll 94 = .ok (.ladd, 1) := by decide +kernel
theorem dX7_keyAll_95 : decode cX7_keyAll 95 = .ok (.lastore, 1) := by decide +kernel
theorem dX7_keyAll_96 : decode cX7_keyAll 96 = .ok (.aload_n 0, 1) := by decide +kernel
theorem dX7_keyAll_97 : decode cX7_keyAll 97 = .ok (.dup, 1) := by decide +kernel
theorem dX7_keyAll_98 : decode cX7_keyAll 98 = .ok (.getfield 58, 3) := by decide +kernel
theorem dX7_keyAll_101 : decode cX7_keyAll 101 = .ok (.iconst 1, 1) := by decide +kernel
theorem dX7_keyAll_102 : decode cX7_keyAll 102 = .ok (.iadd, 1) := by decide +kernel
theorem dX7_keyAll_103 : decode cX7_keyAll 103 = .ok (.putfield 58, 3) := by decide +kernel
theorem dX7_keyAll_106 : decode cX7_keyAll 106 = .ok (.iinc 4 1, 3) := by decide +kernel
theorem dX7_keyAll_109 : decode cX7_keyAll 109 = .ok (.goto (-67), 3) := by decide +kernel
theorem dX7_keyAll_112 : decode cX7_keyAll 112 = .ok (.iinc 2 1, 3) := by decide +kernel
theorem dX7_keyAll_115 : decode cX7_keyAll 115 = .ok (.goto (-108), 3) := by decide +kernel
def wo_X7keyAllS : List Cond := [.code yX7_keyAll cX7_keyAll 5 none, .methodLink RX7 72 yX1_isStart, .instanceMethod yX1_isStart, .selects RX1 yX1_isStart yX1_isStart, .initialized RX1, .methodLink RX7 76 yX7_aimFrom, .instanceMethod yX7_aimFrom, .selects RX7 yX7_aimFrom yX7_aimFrom, .initialized RX7, .methodLink RX7 80 yX7_lay, .instanceMethod yX7_lay, .selects RX7 yX7_lay yX7_lay]
def wr_X7keyAllS : List Cond := (wfC ++ (w_X1isStart ++ (w_X7aimFrom ++ (w_X7layS ++ ([])))))
def w_X7keyAllS : List Cond := wo_X7keyAllS ++ wr_X7keyAllS
theorem wg_X7keyAllS : GW w_X7keyAllS := GW_app (GW_of (by decide +kernel)) (GW_app (wg_fC) (GW_app (wg_X1isStart) (GW_app (wg_X7aimFrom) (GW_app (wg_X7layS) (GW_nil)))))
theorem in_X7keyAllS : ∀ w ∈ wfC, w ∈ w_X7keyAllS := fun _ h => List.mem_append_right _ (List.mem_append_left _ h)
theorem g_X7keyAllS_X1isStart_72 : GoodIn w_X7keyAllS (wsV RX7 72 RX1 yX1_isStart w_X1isStart) := goodIn_app (gi_left (goodIn_of _ (by decide +kernel))) (fun w h => ⟨List.mem_append_right _ (List.mem_append_right _ (List.mem_append_left _ h)), wg_X1isStart w h⟩)
theorem g_X7keyAllS_X7aimFrom_76 : GoodIn w_X7keyAllS (wsV RX7 76 RX7 yX7_aimFrom w_X7aimFrom) := goodIn_app (gi_left (goodIn_of _ (by decide +kernel))) (fun w h => ⟨List.mem_append_right _ (List.mem_append_right _ (List.mem_append_right _ (List.mem_append_left _ h))), wg_X7aimFrom w h⟩)
theorem g_X7keyAllS_X7layS_80 : GoodIn w_X7keyAllS (wsV RX7 80 RX7 yX7_lay w_X7layS) := goodIn_app (gi_left (goodIn_of _ (by decide +kernel))) (fun w h => ⟨List.mem_append_right _ (List.mem_append_right _ (List.mem_append_right _ (List.mem_append_right _ (List.mem_append_left _ h)))), wg_X7layS w h⟩)
set_option maxHeartbeats 4000000 in
set_option maxRecDepth 100000 in
theorem ct_X7keyAllS (l : Launch) (E : gE) (B : Nat → Nat) (Q : VS → Prop) (σ : VS) (hw : wp_X7keyAllS Q σ) : CtV l E yX7_keyAll w_X7keyAllS (({ frames := 5, cells := 0, slots := 0, locals := 119 } : Room)) (wc E B σ) [.ref (B 8), .ref (B 9)] (fun w => ∃ σ' : VS, Q σ' ∧ w = wc E B σ') := by
  refine VC_V (cc := cX7_keyAll) (mL := 5) (rt := none) (lv0 := [(0, .ref (B 8)), (1, .ref (B 9))]) rfl (by decide) rfl (Nat.le_of_ble_eq_true rfl) ?_
  intro p e s m below meth c A F
  replace F : Fx p s m _ meth c A E cX7_keyAll 5 none RX7 w_X7keyAllS := F
  obtain ⟨X7, hX7⟩ : ∃ X : Int32 → VS → Prop, X = fun l2 σ => WB p l e (({ frames := 5, cells := 0, slots := 0, locals := 119 } : Room)) s m (#[.ref (B 8), .ref (B 9)]) below meth c (MQ below (va_Qv (fun w => ∃ σ' : VS, Q σ' ∧ w = wc E B σ') (AftU E A) A) (#[.ref (B 8), .ref (B 9)]) s (({ frames := 5, cells := 0, slots := 0, locals := 119 } : Room)).cells (({ frames := 5, cells := 0, slots := 0, locals := 119 } : Room)).slots A) A E (wc E B) 5 7 [(0, .ref (B 8)), (1, .ref (B 9)), (2, .int l2)] [] σ := ⟨_, rfl⟩
  have U_7 : ∀ (l2 : Int32) (σ : VS), X7 l2 σ → WB p l e (({ frames := 5, cells := 0, slots := 0, locals := 119 } : Room)) s m (#[.ref (B 8), .ref (B 9)]) below meth c (MQ below (va_Qv (fun w => ∃ σ' : VS, Q σ' ∧ w = wc E B σ') (AftU E A) A) (#[.ref (B 8), .ref (B 9)]) s (({ frames := 5, cells := 0, slots := 0, locals := 119 } : Room)).cells (({ frames := 5, cells := 0, slots := 0, locals := 119 } : Room)).slots A) A E (wc E B) 5 7 [(0, .ref (B 8)), (1, .ref (B 9)), (2, .int l2)] [] σ := by
    intro l2 σ hw; rw [hX7] at hw; exact hw
  obtain ⟨X42, hX42⟩ : ∃ X : Int32 → Int32 → Int32 → VS → Prop, X = fun l2 l3 l4 σ => WB p l e (({ frames := 5, cells := 0, slots := 0, locals := 119 } : Room)) s m (#[.ref (B 8), .ref (B 9)]) below meth c (MQ below (va_Qv (fun w => ∃ σ' : VS, Q σ' ∧ w = wc E B σ') (AftU E A) A) (#[.ref (B 8), .ref (B 9)]) s (({ frames := 5, cells := 0, slots := 0, locals := 119 } : Room)).cells (({ frames := 5, cells := 0, slots := 0, locals := 119 } : Room)).slots A) A E (wc E B) 5 42 [(0, .ref (B 8)), (1, .ref (B 9)), (2, .int l2), (3, .int l3), (4, .int l4)] [] σ := ⟨_, rfl⟩
  have U_42 : ∀ (l2 : Int32) (l3 : Int32) (l4 : Int32) (σ : VS), X42 l2 l3 l4 σ → WB p l e (({ frames := 5, cells := 0, slots := 0, locals := 119 } : Room)) s m (#[.ref (B 8), .ref (B 9)]) below meth c (MQ below (va_Qv (fun w => ∃ σ' : VS, Q σ' ∧ w = wc E B σ') (AftU E A) A) (#[.ref (B 8), .ref (B 9)]) s (({ frames := 5, cells := 0, slots := 0, locals := 119 } : Room)).cells (({ frames := 5, cells := 0, slots := 0, locals := 119 } : Room)).slots A) A E (wc E B) 5 42 [(0, .ref (B 8)), (1, .ref (B 9)), (2, .int l2), (3, .int l3), (4, .int l4)] [] σ := by
    intro l2 l3 l4 σ hw; rw [hX42] at hw; exact hw
  have J_112 : ∀ (l2 : Int32) (σ : VS), b_X7keyAllS_112 X7 X42 Q l2 σ → WB p l e (({ frames := 5, cells := 0, slots := 0, locals := 119 } : Room)) s m (#[.ref (B 8), .ref (B 9)]) below meth c (MQ below (va_Qv (fun w => ∃ σ' : VS, Q σ' ∧ w = wc E B σ') (AftU E A) A) (#[.ref (B 8), .ref (B 9)]) s (({ frames := 5, cells := 0, slots := 0, locals := 119 } : Room)).cells (({ frames := 5, cells := 0, slots := 0, locals := 119 } : Room)).slots A) A E (wc E B) 5 112 [(0, .ref (B 8)), (1, .ref (B 9)), (2, .int l2)] [] σ := by
    intro l2 σ hw
    unfold b_X7keyAllS_112 at hw
    refine R_iinc (q := 2) (v := (l2 + 1)) (lv' := [(2, .int (l2 + 1)), (0, .ref (B 8)), (1, .ref (B 9))]) F dX7_keyAll_112 rfl rfl (by decide) rfl ?_
    refine R_goto (tgt := 7) F dX7_keyAll_115 (by decide) ?_
    exact R_sub [1, 2, 0] rfl (U_7 (l2 + 1) σ hw)
  have J_38 : ∀ (l2 : Int32) (k0 : Int32) (σ : VS), b_X7keyAllS_38 X7 X42 Q l2 k0 σ → WB p l e (({ frames := 5, cells := 0, slots := 0, locals := 119 } : Room)) s m (#[.ref (B 8), .ref (B 9)]) below meth c (MQ below (va_Qv (fun w => ∃ σ' : VS, Q σ' ∧ w = wc E B σ') (AftU E A) A) (#[.ref (B 8), .ref (B 9)]) s (({ frames := 5, cells := 0, slots := 0, locals := 119 } : Room)).cells (({ frames := 5, cells := 0, slots := 0, locals := 119 } : Room)).slots A) A E (wc E B) 5 38 [(0, .ref (B 8)), (1, .ref (B 9)), (2, .int l2)] [.int k0] σ := by
    intro l2 k0 σ hw
    unfold b_X7keyAllS_38 at hw
    refine R_istore_n (lv' := [(3, .int k0), (0, .ref (B 8)), (1, .ref (B 9)), (2, .int l2)]) F dX7_keyAll_38 rfl (by decide) rfl ?_
    refine R_iconst F 0 dX7_keyAll_39 (by decide) ?_
    refine R_istore (lv' := [(4, .int 0), (3, .int k0), (0, .ref (B 8)), (1, .ref (B 9)), (2, .int l2)]) F dX7_keyAll_40 (by decide) rfl ?_
    exact R_sub [2, 3, 4, 1, 0] rfl (U_42 l2 k0 0 σ hw)
  have C_7 : ∀ (l2 : Int32) (σ : VS), b_X7keyAllS_7 X7 X42 Q l2 σ → X7 l2 σ := by
    intro l2 σ hw
    unfold b_X7keyAllS_7 at hw
    rw [hX7]
    show WB p l e (({ frames := 5, cells := 0, slots := 0, locals := 119 } : Room)) s m (#[.ref (B 8), .ref (B 9)]) below meth c (MQ below (va_Qv (fun w => ∃ σ' : VS, Q σ' ∧ w = wc E B σ') (AftU E A) A) (#[.ref (B 8), .ref (B 9)]) s (({ frames := 5, cells := 0, slots := 0, locals := 119 } : Room)).cells (({ frames := 5, cells := 0, slots := 0, locals := 119 } : Room)).slots A) A E (wc E B) 5 7 [(0, .ref (B 8)), (1, .ref (B 9)), (2, .int l2)] [] σ
    refine R_iload_n F dX7_keyAll_7 rfl 2 rfl ?_
    refine R_aload_n F dX7_keyAll_8 rfl 0 rfl ?_
    refine gc_RX7_23_8 F in_X7keyAllS dX7_keyAll_9 ?_
    refine gc_RX7_67_1 F in_X7keyAllS dX7_keyAll_12 ?_
    refine R_icmp_ge (tgt := 118) F dX7_keyAll_15 (by decide) (fun hc => ?_) (fun hc => ?_)
    · replace hw := hw.1 hc
      exact R_vret (Qc := Q) F dX7_keyAll_118 hw
    · replace hw := hw.2 hc
      refine R_aload_n F dX7_keyAll_18 rfl 0 rfl ?_
      refine gc_RX7_23_8 F in_X7keyAllS dX7_keyAll_19 ?_
      refine R_iload_n F dX7_keyAll_22 rfl 2 rfl ?_
      refine R_callI (As := [.int l2]) (C := RX1) (q0 := 1) (ci := 1) (N := 13) (T := TX1) (fs := cf_1 B) F (ct_X1isStart l E B _ l2 _ hw) (cwV 1 F.2.2.2.2.2.2.2.2.2.2 g_X7keyAllS_X1isStart_72 rfl rfl rfl (by decide +kernel) ⟨Nat.le_of_ble_eq_true rfl, Nat.le_of_ble_eq_true rfl⟩) ⟨rfl, rfl⟩ rfl (fun _ => rfl) rfl rfl (Nat.le_of_ble_eq_true rfl) dX7_keyAll_23 (fun r1 σ2 hw => ?_)
      refine R_if_eq (tgt := 37) F dX7_keyAll_26 (by decide) (fun hc => ?_) (fun hc => ?_)
      · replace hw := hw.1 hc
        refine R_iconst F 0 dX7_keyAll_37 (by decide) ?_
        exact R_sub [0, 1, 2] rfl (J_38 l2 0 σ2 hw)
      · replace hw := hw.2 hc
        refine R_aload_n F dX7_keyAll_29 rfl 0 rfl ?_
        refine R_iload_n F dX7_keyAll_30 rfl 2 rfl ?_
        refine R_callI (As := [.int l2]) (C := RX7) (q0 := 8) (ci := 7) (N := 12) (T := TX7) (fs := cf_8 B) F (ct_X7aimFrom l E B _ l2 _ hw) (cwV 1 F.2.2.2.2.2.2.2.2.2.2 g_X7keyAllS_X7aimFrom_76 rfl rfl rfl (by decide +kernel) ⟨Nat.le_of_ble_eq_true rfl, Nat.le_of_ble_eq_true rfl⟩) ⟨rfl, rfl⟩ rfl (fun _ => rfl) rfl rfl (Nat.le_of_ble_eq_true rfl) dX7_keyAll_31 (fun r3 σ4 hw => ?_)
        refine R_goto (tgt := 38) F dX7_keyAll_34 (by decide) ?_
        exact R_sub [0, 1, 2] rfl (J_38 l2 r3 σ4 hw)
  have C_42 : ∀ (l2 : Int32) (l3 : Int32) (l4 : Int32) (σ : VS), b_X7keyAllS_42 X7 X42 Q l2 l3 l4 σ → X42 l2 l3 l4 σ := by
    intro l2 l3 l4 σ hw
    unfold b_X7keyAllS_42 at hw
    rw [hX42]
    show WB p l e (({ frames := 5, cells := 0, slots := 0, locals := 119 } : Room)) s m (#[.ref (B 8), .ref (B 9)]) below meth c (MQ below (va_Qv (fun w => ∃ σ' : VS, Q σ' ∧ w = wc E B σ') (AftU E A) A) (#[.ref (B 8), .ref (B 9)]) s (({ frames := 5, cells := 0, slots := 0, locals := 119 } : Room)).cells (({ frames := 5, cells := 0, slots := 0, locals := 119 } : Room)).slots A) A E (wc E B) 5 42 [(0, .ref (B 8)), (1, .ref (B 9)), (2, .int l2), (3, .int l3), (4, .int l4)] [] σ
    refine R_iload F dX7_keyAll_42 4 rfl ?_
    refine R_iconst F 2 dX7_keyAll_44 (by decide) ?_
    refine R_iload_n F dX7_keyAll_45 rfl 3 rfl ?_
    refine R_imul F dX7_keyAll_46 ?_
    refine R_icmp_ge (tgt := 112) F dX7_keyAll_47 (by decide) (fun hc => ?_) (fun hc => ?_)
    · replace hw := hw.1 hc
      exact R_sub [0, 1, 2] rfl (J_112 l2 σ hw)
    · replace hw := hw.2 hc
      refine R_aload_n F dX7_keyAll_50 rfl 0 rfl ?_
      refine gc_RX7_58_8 F in_X7keyAllS dX7_keyAll_51 ?_
      refine R_sipush F 1000 dX7_keyAll_54 (by decide) ?_
      refine R_icmp_ge (tgt := 112) F dX7_keyAll_57 (by decide) (fun hc => ?_) (fun hc => ?_)
      · replace hw := hw.1 hc
        exact R_sub [0, 1, 2] rfl (J_112 l2 σ hw)
      · replace hw := hw.2 hc
        refine R_aload_n F dX7_keyAll_60 rfl 0 rfl ?_
        refine R_iload F dX7_keyAll_61 4 rfl ?_
        refine R_iload_n F dX7_keyAll_63 rfl 3 rfl ?_
        refine R_idiv F dX7_keyAll_64 hw.1 ?_
        replace hw := hw.2
        refine R_iload F dX7_keyAll_65 4 rfl ?_
        refine R_iload_n F dX7_keyAll_67 rfl 3 rfl ?_
        refine R_irem F dX7_keyAll_68 hw.1 ?_
        replace hw := hw.2
        refine R_aload_n F dX7_keyAll_69 rfl 1 rfl ?_
        refine R_callV (As := [.int (l4 / l3), .int (l4 - l4 / l3 * l3), .ref (B 9)]) (C := RX7) (q0 := 8) (ci := 7) (N := 12) (T := TX7) (fs := cf_8 B) F (ct_X7layS l E B _ (l4 / l3) (l4 - l4 / l3 * l3) _ hw) (cwV 3 F.2.2.2.2.2.2.2.2.2.2 g_X7keyAllS_X7layS_80 rfl rfl rfl (by decide +kernel) ⟨Nat.le_of_ble_eq_true rfl, Nat.le_of_ble_eq_true rfl⟩) ⟨rfl, rfl⟩ rfl (fun _ => rfl) rfl rfl (Nat.le_of_ble_eq_true rfl) dX7_keyAll_70 (fun σ6 hw => ?_)
        refine R_aload_n F dX7_keyAll_73 rfl 0 rfl ?_
        refine gc_RX7_19_8 F in_X7keyAllS dX7_keyAll_74 ?_
        refine R_aload_n F dX7_keyAll_77 rfl 0 rfl ?_
        refine gc_RX7_58_8 F in_X7keyAllS dX7_keyAll_78 ?_
        refine R_aload_n F dX7_keyAll_81 rfl 1 rfl ?_
        refine gc_RX7_84_9 F in_X7keyAllS dX7_keyAll_82 ?_
        refine R_i2l F dX7_keyAll_85 ?_
        refine R_bipush F 10 dX7_keyAll_86 (by decide) ?_
        refine R_lshl F dX7_keyAll_88 ?_
        refine R_aload_n F dX7_keyAll_89 rfl 0 rfl ?_
        refine gc_RX7_58_8 F in_X7keyAllS dX7_keyAll_90 ?_
        refine R_i2l F dX7_keyAll_93 ?_
        refine R_ladd F dX7_keyAll_94 ?_
        have hi := hw.1
        replace hw := hw.2
        refine R_stj F qc_54 uc_54 dX7_keyAll_95 hi ?_
        refine R_aload_n F dX7_keyAll_96 rfl 0 rfl ?_
        refine R_dup F dX7_keyAll_97 rfl ?_
        refine gc_RX7_58_8 F in_X7keyAllS dX7_keyAll_98 ?_
        refine R_iconst F 1 dX7_keyAll_101 (by decide) ?_
        refine R_iadd F dX7_keyAll_102 ?_
        refine pc_RX7_58_8 F in_X7keyAllS dX7_keyAll_103 ?_
        refine R_iinc (q := 4) (v := (l4 + 1)) (lv' := [(4, .int (l4 + 1)), (0, .ref (B 8)), (1, .ref (B 9)), (2, .int l2), (3, .int l3)]) F dX7_keyAll_106 rfl rfl (by decide) rfl ?_
        refine R_goto (tgt := 42) F dX7_keyAll_109 (by decide) ?_
        exact R_sub [1, 2, 3, 4, 0] rfl (U_42 l2 l3 (l4 + 1) (sf (slj σ6 54 (σ6.1 15) (((((σ6.1 17)).toInt64) <<< ((10 : Int32).toInt64 &&& 63)) + (((σ6.1 15)).toInt64))) 15 (((slj σ6 54 (σ6.1 15) (((((σ6.1 17)).toInt64) <<< ((10 : Int32).toInt64 &&& 63)) + (((σ6.1 15)).toInt64))).1 15) + 1)) hw)
  unfold wp_X7keyAllS at hw
  replace hw := hw X7 X42 C_7 C_42
  refine R_aload_n F dX7_keyAll_0 rfl 0 rfl ?_
  refine R_iconst F 0 dX7_keyAll_1 (by decide) ?_
  refine pc_RX7_58_8 F in_X7keyAllS dX7_keyAll_2 ?_
  refine R_iconst F 0 dX7_keyAll_5 (by decide) ?_
  refine R_istore_n (lv' := [(2, .int 0), (0, .ref (B 8)), (1, .ref (B 9))]) F dX7_keyAll_6 rfl (by decide) rfl ?_
  exact R_sub [1, 2, 0] rfl (U_7 0 (sf σ 15 0) hw)
def b_X7keyAllT_112 (X7 : Int32 → VS → Prop) (X42 : Int32 → Int32 → Int32 → VS → Prop) (Q : VS → Prop) (l2 : Int32) (σ : VS) : Prop := X7 (l2 + 1) σ
def b_X7keyAllT_42 (X7 : Int32 → VS → Prop) (X42 : Int32 → Int32 → Int32 → VS → Prop) (Q : VS → Prop) (l2 : Int32) (l3 : Int32) (l4 : Int32) (σ : VS) : Prop := (((2 * l3).toInt ≤ l4.toInt → b_X7keyAllT_112 X7 X42 Q l2 σ) ∧ (l4.toInt < (2 * l3).toInt → ((1000 ≤ (σ.1 15).toInt → b_X7keyAllT_112 X7 X42 Q l2 σ) ∧ ((σ.1 15).toInt < 1000 → (¬ l3 = 0 ∧ (¬ l3 = 0 ∧ wp_X7layT (fun (σ6 : VS) => (In (σ6.1 15) 1000 ∧ X42 l2 l3 (l4 + 1) (sf (slj σ6 54 (σ6.1 15) (((((σ6.1 20)).toInt64) <<< ((10 : Int32).toInt64 &&& 63)) + (((σ6.1 15)).toInt64))) 15 (((slj σ6 54 (σ6.1 15) (((((σ6.1 20)).toInt64) <<< ((10 : Int32).toInt64 &&& 63)) + (((σ6.1 15)).toInt64))).1 15) + 1)))) (l4 / l3) (l4 - l4 / l3 * l3) σ))))))
def b_X7keyAllT_38 (X7 : Int32 → VS → Prop) (X42 : Int32 → Int32 → Int32 → VS → Prop) (Q : VS → Prop) (l2 : Int32) (k0 : Int32) (σ : VS) : Prop := X42 l2 k0 0 σ
def b_X7keyAllT_7 (X7 : Int32 → VS → Prop) (X42 : Int32 → Int32 → Int32 → VS → Prop) (Q : VS → Prop) (l2 : Int32) (σ : VS) : Prop := (((σ.1 2).toInt ≤ l2.toInt → Q σ) ∧ (l2.toInt < (σ.1 2).toInt → wp_X1isStart (fun (r1 : Int32) (σ2 : VS) => ((r1.toInt = 0 → b_X7keyAllT_38 X7 X42 Q l2 0 σ2) ∧ (r1.toInt ≠ 0 → wp_X7aimFrom (fun (r3 : Int32) (σ4 : VS) => b_X7keyAllT_38 X7 X42 Q l2 r3 σ4) l2 σ2))) l2 σ))
def wp_X7keyAllT (Q : VS → Prop) (σ : VS) : Prop := ∀ (X7 : Int32 → VS → Prop) (X42 : Int32 → Int32 → Int32 → VS → Prop), (∀ (l2 : Int32) (σ : VS), b_X7keyAllT_7 X7 X42 Q l2 σ → X7 l2 σ) → (∀ (l2 : Int32) (l3 : Int32) (l4 : Int32) (σ : VS), b_X7keyAllT_42 X7 X42 Q l2 l3 l4 σ → X42 l2 l3 l4 σ) → X7 0 (sf σ 15 0)
def wo_X7keyAllT : List Cond := [.code yX7_keyAll cX7_keyAll 5 none, .methodLink RX7 72 yX1_isStart, .instanceMethod yX1_isStart, .selects RX1 yX1_isStart yX1_isStart, .initialized RX1, .methodLink RX7 76 yX7_aimFrom, .instanceMethod yX7_aimFrom, .selects RX7 yX7_aimFrom yX7_aimFrom, .initialized RX7, .methodLink RX7 80 yX7_lay, .instanceMethod yX7_lay, .selects RX7 yX7_lay yX7_lay]
def wr_X7keyAllT : List Cond := (wfC ++ (w_X1isStart ++ (w_X7aimFrom ++ (w_X7layT ++ ([])))))
def w_X7keyAllT : List Cond := wo_X7keyAllT ++ wr_X7keyAllT
theorem wg_X7keyAllT : GW w_X7keyAllT := GW_app (GW_of (by decide +kernel)) (GW_app (wg_fC) (GW_app (wg_X1isStart) (GW_app (wg_X7aimFrom) (GW_app (wg_X7layT) (GW_nil)))))
theorem in_X7keyAllT : ∀ w ∈ wfC, w ∈ w_X7keyAllT := fun _ h => List.mem_append_right _ (List.mem_append_left _ h)
theorem g_X7keyAllT_X1isStart_72 : GoodIn w_X7keyAllT (wsV RX7 72 RX1 yX1_isStart w_X1isStart) := goodIn_app (gi_left (goodIn_of _ (by decide +kernel))) (fun w h => ⟨List.mem_append_right _ (List.mem_append_right _ (List.mem_append_left _ h)), wg_X1isStart w h⟩)
theorem g_X7keyAllT_X7aimFrom_76 : GoodIn w_X7keyAllT (wsV RX7 76 RX7 yX7_aimFrom w_X7aimFrom) := goodIn_app (gi_left (goodIn_of _ (by decide +kernel))) (fun w h => ⟨List.mem_append_right _ (List.mem_append_right _ (List.mem_append_right _ (List.mem_append_left _ h))), wg_X7aimFrom w h⟩)
theorem g_X7keyAllT_X7layT_80 : GoodIn w_X7keyAllT (wsV RX7 80 RX7 yX7_lay w_X7layT) := goodIn_app (gi_left (goodIn_of _ (by decide +kernel))) (fun w h => ⟨List.mem_append_right _ (List.mem_append_right _ (List.mem_append_right _ (List.mem_append_right _ (List.mem_append_left _ h)))), wg_X7layT w h⟩)
set_option maxHeartbeats 4000000 in
set_option maxRecDepth 100000 in
theorem ct_X7keyAllT (l : Launch) (E : gE) (B : Nat → Nat) (Q : VS → Prop) (σ : VS) (hw : wp_X7keyAllT Q σ) : CtV l E yX7_keyAll w_X7keyAllT (({ frames := 5, cells := 0, slots := 0, locals := 119 } : Room)) (wc E B σ) [.ref (B 8), .ref (B 10)] (fun w => ∃ σ' : VS, Q σ' ∧ w = wc E B σ') := by
  refine VC_V (cc := cX7_keyAll) (mL := 5) (rt := none) (lv0 := [(0, .ref (B 8)), (1, .ref (B 10))]) rfl (by decide) rfl (Nat.le_of_ble_eq_true rfl) ?_
  intro p e s m below meth c A F
  replace F : Fx p s m _ meth c A E cX7_keyAll 5 none RX7 w_X7keyAllT := F
  obtain ⟨X7, hX7⟩ : ∃ X : Int32 → VS → Prop, X = fun l2 σ => WB p l e (({ frames := 5, cells := 0, slots := 0, locals := 119 } : Room)) s m (#[.ref (B 8), .ref (B 10)]) below meth c (MQ below (va_Qv (fun w => ∃ σ' : VS, Q σ' ∧ w = wc E B σ') (AftU E A) A) (#[.ref (B 8), .ref (B 10)]) s (({ frames := 5, cells := 0, slots := 0, locals := 119 } : Room)).cells (({ frames := 5, cells := 0, slots := 0, locals := 119 } : Room)).slots A) A E (wc E B) 5 7 [(0, .ref (B 8)), (1, .ref (B 10)), (2, .int l2)] [] σ := ⟨_, rfl⟩
  have U_7 : ∀ (l2 : Int32) (σ : VS), X7 l2 σ → WB p l e (({ frames := 5, cells := 0, slots := 0, locals := 119 } : Room)) s m (#[.ref (B 8), .ref (B 10)]) below meth c (MQ below (va_Qv (fun w => ∃ σ' : VS, Q σ' ∧ w = wc E B σ') (AftU E A) A) (#[.ref (B 8), .ref (B 10)]) s (({ frames := 5, cells := 0, slots := 0, locals := 119 } : Room)).cells (({ frames := 5, cells := 0, slots := 0, locals := 119 } : Room)).slots A) A E (wc E B) 5 7 [(0, .ref (B 8)), (1, .ref (B 10)), (2, .int l2)] [] σ := by
    intro l2 σ hw; rw [hX7] at hw; exact hw
  obtain ⟨X42, hX42⟩ : ∃ X : Int32 → Int32 → Int32 → VS → Prop, X = fun l2 l3 l4 σ => WB p l e (({ frames := 5, cells := 0, slots := 0, locals := 119 } : Room)) s m (#[.ref (B 8), .ref (B 10)]) below meth c (MQ below (va_Qv (fun w => ∃ σ' : VS, Q σ' ∧ w = wc E B σ') (AftU E A) A) (#[.ref (B 8), .ref (B 10)]) s (({ frames := 5, cells := 0, slots := 0, locals := 119 } : Room)).cells (({ frames := 5, cells := 0, slots := 0, locals := 119 } : Room)).slots A) A E (wc E B) 5 42 [(0, .ref (B 8)), (1, .ref (B 10)), (2, .int l2), (3, .int l3), (4, .int l4)] [] σ := ⟨_, rfl⟩
  have U_42 : ∀ (l2 : Int32) (l3 : Int32) (l4 : Int32) (σ : VS), X42 l2 l3 l4 σ → WB p l e (({ frames := 5, cells := 0, slots := 0, locals := 119 } : Room)) s m (#[.ref (B 8), .ref (B 10)]) below meth c (MQ below (va_Qv (fun w => ∃ σ' : VS, Q σ' ∧ w = wc E B σ') (AftU E A) A) (#[.ref (B 8), .ref (B 10)]) s (({ frames := 5, cells := 0, slots := 0, locals := 119 } : Room)).cells (({ frames := 5, cells := 0, slots := 0, locals := 119 } : Room)).slots A) A E (wc E B) 5 42 [(0, .ref (B 8)), (1, .ref (B 10)), (2, .int l2), (3, .int l3), (4, .int l4)] [] σ := by
    intro l2 l3 l4 σ hw; rw [hX42] at hw; exact hw
  have J_112 : ∀ (l2 : Int32) (σ : VS), b_X7keyAllT_112 X7 X42 Q l2 σ → WB p l e (({ frames := 5, cells := 0, slots := 0, locals := 119 } : Room)) s m (#[.ref (B 8), .ref (B 10)]) below meth c (MQ below (va_Qv (fun w => ∃ σ' : VS, Q σ' ∧ w = wc E B σ') (AftU E A) A) (#[.ref (B 8), .ref (B 10)]) s (({ frames := 5, cells := 0, slots := 0, locals := 119 } : Room)).cells (({ frames := 5, cells := 0, slots := 0, locals := 119 } : Room)).slots A) A E (wc E B) 5 112 [(0, .ref (B 8)), (1, .ref (B 10)), (2, .int l2)] [] σ := by
    intro l2 σ hw
    unfold b_X7keyAllT_112 at hw
    refine R_iinc (q := 2) (v := (l2 + 1)) (lv' := [(2, .int (l2 + 1)), (0, .ref (B 8)), (1, .ref (B 10))]) F dX7_keyAll_112 rfl rfl (by decide) rfl ?_
    refine R_goto (tgt := 7) F dX7_keyAll_115 (by decide) ?_
    exact R_sub [1, 2, 0] rfl (U_7 (l2 + 1) σ hw)
  have J_38 : ∀ (l2 : Int32) (k0 : Int32) (σ : VS), b_X7keyAllT_38 X7 X42 Q l2 k0 σ → WB p l e (({ frames := 5, cells := 0, slots := 0, locals := 119 } : Room)) s m (#[.ref (B 8), .ref (B 10)]) below meth c (MQ below (va_Qv (fun w => ∃ σ' : VS, Q σ' ∧ w = wc E B σ') (AftU E A) A) (#[.ref (B 8), .ref (B 10)]) s (({ frames := 5, cells := 0, slots := 0, locals := 119 } : Room)).cells (({ frames := 5, cells := 0, slots := 0, locals := 119 } : Room)).slots A) A E (wc E B) 5 38 [(0, .ref (B 8)), (1, .ref (B 10)), (2, .int l2)] [.int k0] σ := by
    intro l2 k0 σ hw
    unfold b_X7keyAllT_38 at hw
    refine R_istore_n (lv' := [(3, .int k0), (0, .ref (B 8)), (1, .ref (B 10)), (2, .int l2)]) F dX7_keyAll_38 rfl (by decide) rfl ?_
    refine R_iconst F 0 dX7_keyAll_39 (by decide) ?_
    refine R_istore (lv' := [(4, .int 0), (3, .int k0), (0, .ref (B 8)), (1, .ref (B 10)), (2, .int l2)]) F dX7_keyAll_40 (by decide) rfl ?_
    exact R_sub [2, 3, 4, 1, 0] rfl (U_42 l2 k0 0 σ hw)
  have C_7 : ∀ (l2 : Int32) (σ : VS), b_X7keyAllT_7 X7 X42 Q l2 σ → X7 l2 σ := by
    intro l2 σ hw
    unfold b_X7keyAllT_7 at hw
    rw [hX7]
    show WB p l e (({ frames := 5, cells := 0, slots := 0, locals := 119 } : Room)) s m (#[.ref (B 8), .ref (B 10)]) below meth c (MQ below (va_Qv (fun w => ∃ σ' : VS, Q σ' ∧ w = wc E B σ') (AftU E A) A) (#[.ref (B 8), .ref (B 10)]) s (({ frames := 5, cells := 0, slots := 0, locals := 119 } : Room)).cells (({ frames := 5, cells := 0, slots := 0, locals := 119 } : Room)).slots A) A E (wc E B) 5 7 [(0, .ref (B 8)), (1, .ref (B 10)), (2, .int l2)] [] σ
    refine R_iload_n F dX7_keyAll_7 rfl 2 rfl ?_
    refine R_aload_n F dX7_keyAll_8 rfl 0 rfl ?_
    refine gc_RX7_23_8 F in_X7keyAllT dX7_keyAll_9 ?_
    refine gc_RX7_67_1 F in_X7keyAllT dX7_keyAll_12 ?_
    refine R_icmp_ge (tgt := 118) F dX7_keyAll_15 (by decide) (fun hc => ?_) (fun hc => ?_)
    · replace hw := hw.1 hc
      exact R_vret (Qc := Q) F dX7_keyAll_118 hw
    · replace hw := hw.2 hc
      refine R_aload_n F dX7_keyAll_18 rfl 0 rfl ?_
      refine gc_RX7_23_8 F in_X7keyAllT dX7_keyAll_19 ?_
      refine R_iload_n F dX7_keyAll_22 rfl 2 rfl ?_
      refine R_callI (As := [.int l2]) (C := RX1) (q0 := 1) (ci := 1) (N := 13) (T := TX1) (fs := cf_1 B) F (ct_X1isStart l E B _ l2 _ hw) (cwV 1 F.2.2.2.2.2.2.2.2.2.2 g_X7keyAllT_X1isStart_72 rfl rfl rfl (by decide +kernel) ⟨Nat.le_of_ble_eq_true rfl, Nat.le_of_ble_eq_true rfl⟩) ⟨rfl, rfl⟩ rfl (fun _ => rfl) rfl rfl (Nat.le_of_ble_eq_true rfl) dX7_keyAll_23 (fun r1 σ2 hw => ?_)
      refine R_if_eq (tgt := 37) F dX7_keyAll_26 (by decide) (fun hc => ?_) (fun hc => ?_)
      · replace hw := hw.1 hc
        refine R_iconst F 0 dX7_keyAll_37 (by decide) ?_
        exact R_sub [0, 1, 2] rfl (J_38 l2 0 σ2 hw)
      · replace hw := hw.2 hc
        refine R_aload_n F dX7_keyAll_29 rfl 0 rfl ?_
        refine R_iload_n F dX7_keyAll_30 rfl 2 rfl ?_
        refine R_callI (As := [.int l2]) (C := RX7) (q0 := 8) (ci := 7) (N := 12) (T := TX7) (fs := cf_8 B) F (ct_X7aimFrom l E B _ l2 _ hw) (cwV 1 F.2.2.2.2.2.2.2.2.2.2 g_X7keyAllT_X7aimFrom_76 rfl rfl rfl (by decide +kernel) ⟨Nat.le_of_ble_eq_true rfl, Nat.le_of_ble_eq_true rfl⟩) ⟨rfl, rfl⟩ rfl (fun _ => rfl) rfl rfl (Nat.le_of_ble_eq_true rfl) dX7_keyAll_31 (fun r3 σ4 hw => ?_)
        refine R_goto (tgt := 38) F dX7_keyAll_34 (by decide) ?_
        exact R_sub [0, 1, 2] rfl (J_38 l2 r3 σ4 hw)
  have C_42 : ∀ (l2 : Int32) (l3 : Int32) (l4 : Int32) (σ : VS), b_X7keyAllT_42 X7 X42 Q l2 l3 l4 σ → X42 l2 l3 l4 σ := by
    intro l2 l3 l4 σ hw
    unfold b_X7keyAllT_42 at hw
    rw [hX42]
    show WB p l e (({ frames := 5, cells := 0, slots := 0, locals := 119 } : Room)) s m (#[.ref (B 8), .ref (B 10)]) below meth c (MQ below (va_Qv (fun w => ∃ σ' : VS, Q σ' ∧ w = wc E B σ') (AftU E A) A) (#[.ref (B 8), .ref (B 10)]) s (({ frames := 5, cells := 0, slots := 0, locals := 119 } : Room)).cells (({ frames := 5, cells := 0, slots := 0, locals := 119 } : Room)).slots A) A E (wc E B) 5 42 [(0, .ref (B 8)), (1, .ref (B 10)), (2, .int l2), (3, .int l3), (4, .int l4)] [] σ
    refine R_iload F dX7_keyAll_42 4 rfl ?_
    refine R_iconst F 2 dX7_keyAll_44 (by decide) ?_
    refine R_iload_n F dX7_keyAll_45 rfl 3 rfl ?_
    refine R_imul F dX7_keyAll_46 ?_
    refine R_icmp_ge (tgt := 112) F dX7_keyAll_47 (by decide) (fun hc => ?_) (fun hc => ?_)
    · replace hw := hw.1 hc
      exact R_sub [0, 1, 2] rfl (J_112 l2 σ hw)
    · replace hw := hw.2 hc
      refine R_aload_n F dX7_keyAll_50 rfl 0 rfl ?_
      refine gc_RX7_58_8 F in_X7keyAllT dX7_keyAll_51 ?_
      refine R_sipush F 1000 dX7_keyAll_54 (by decide) ?_
      refine R_icmp_ge (tgt := 112) F dX7_keyAll_57 (by decide) (fun hc => ?_) (fun hc => ?_)
      · replace hw := hw.1 hc
        exact R_sub [0, 1, 2] rfl (J_112 l2 σ hw)
      · replace hw := hw.2 hc
        refine R_aload_n F dX7_keyAll_60 rfl 0 rfl ?_
        refine R_iload F dX7_keyAll_61 4 rfl ?_
        refine R_iload_n F dX7_keyAll_63 rfl 3 rfl ?_
        refine R_idiv F dX7_keyAll_64 hw.1 ?_
        replace hw := hw.2
        refine R_iload F dX7_keyAll_65 4 rfl ?_
        refine R_iload_n F dX7_keyAll_67 rfl 3 rfl ?_
        refine R_irem F dX7_keyAll_68 hw.1 ?_
        replace hw := hw.2
        refine R_aload_n F dX7_keyAll_69 rfl 1 rfl ?_
        refine R_callV (As := [.int (l4 / l3), .int (l4 - l4 / l3 * l3), .ref (B 10)]) (C := RX7) (q0 := 8) (ci := 7) (N := 12) (T := TX7) (fs := cf_8 B) F (ct_X7layT l E B _ (l4 / l3) (l4 - l4 / l3 * l3) _ hw) (cwV 3 F.2.2.2.2.2.2.2.2.2.2 g_X7keyAllT_X7layT_80 rfl rfl rfl (by decide +kernel) ⟨Nat.le_of_ble_eq_true rfl, Nat.le_of_ble_eq_true rfl⟩) ⟨rfl, rfl⟩ rfl (fun _ => rfl) rfl rfl (Nat.le_of_ble_eq_true rfl) dX7_keyAll_70 (fun σ6 hw => ?_)
        refine R_aload_n F dX7_keyAll_73 rfl 0 rfl ?_
        refine gc_RX7_19_8 F in_X7keyAllT dX7_keyAll_74 ?_
        refine R_aload_n F dX7_keyAll_77 rfl 0 rfl ?_
        refine gc_RX7_58_8 F in_X7keyAllT dX7_keyAll_78 ?_
        refine R_aload_n F dX7_keyAll_81 rfl 1 rfl ?_
        refine gc_RX7_84_10 F in_X7keyAllT dX7_keyAll_82 ?_
        refine R_i2l F dX7_keyAll_85 ?_
        refine R_bipush F 10 dX7_keyAll_86 (by decide) ?_
        refine R_lshl F dX7_keyAll_88 ?_
        refine R_aload_n F dX7_keyAll_89 rfl 0 rfl ?_
        refine gc_RX7_58_8 F in_X7keyAllT dX7_keyAll_90 ?_
        refine R_i2l F dX7_keyAll_93 ?_
        refine R_ladd F dX7_keyAll_94 ?_
        have hi := hw.1
        replace hw := hw.2
        refine R_stj F qc_54 uc_54 dX7_keyAll_95 hi ?_
        refine R_aload_n F dX7_keyAll_96 rfl 0 rfl ?_
        refine R_dup F dX7_keyAll_97 rfl ?_
        refine gc_RX7_58_8 F in_X7keyAllT dX7_keyAll_98 ?_
        refine R_iconst F 1 dX7_keyAll_101 (by decide) ?_
        refine R_iadd F dX7_keyAll_102 ?_
        refine pc_RX7_58_8 F in_X7keyAllT dX7_keyAll_103 ?_
        refine R_iinc (q := 4) (v := (l4 + 1)) (lv' := [(4, .int (l4 + 1)), (0, .ref (B 8)), (1, .ref (B 10)), (2, .int l2), (3, .int l3)]) F dX7_keyAll_106 rfl rfl (by decide) rfl ?_
        refine R_goto (tgt := 42) F dX7_keyAll_109 (by decide) ?_
        exact R_sub [1, 2, 3, 4, 0] rfl (U_42 l2 l3 (l4 + 1) (sf (slj σ6 54 (σ6.1 15) (((((σ6.1 20)).toInt64) <<< ((10 : Int32).toInt64 &&& 63)) + (((σ6.1 15)).toInt64))) 15 (((slj σ6 54 (σ6.1 15) (((((σ6.1 20)).toInt64) <<< ((10 : Int32).toInt64 &&& 63)) + (((σ6.1 15)).toInt64))).1 15) + 1)) hw)
  unfold wp_X7keyAllT at hw
  replace hw := hw X7 X42 C_7 C_42
  refine R_aload_n F dX7_keyAll_0 rfl 0 rfl ?_
  refine R_iconst F 0 dX7_keyAll_1 (by decide) ?_
  refine pc_RX7_58_8 F in_X7keyAllT dX7_keyAll_2 ?_
  refine R_iconst F 0 dX7_keyAll_5 (by decide) ?_
  refine R_istore_n (lv' := [(2, .int 0), (0, .ref (B 8)), (1, .ref (B 10))]) F dX7_keyAll_6 rfl (by decide) rfl ?_
  exact R_sub [1, 2, 0] rfl (U_7 0 (sf σ 15 0) hw)
def b_X7layNumberS_39 (X5 : Int32 → Int32 → VS → Prop) (Q : VS → Prop) (l3 : Int32) (l4 : Int32) (k0 : Int32) (σ : VS) : Prop := (((2 * k0).toInt ≤ l3.toInt → (∀ x5 : Int32, x5 = (l3 - (2 * k0)) → X5 x5 (l4 + 1) σ)) ∧ (l3.toInt < (2 * k0).toInt → (¬ k0 = 0 ∧ (¬ k0 = 0 ∧ wp_X7layS (fun (σ7 : VS) => Q σ7) (l3 / k0) (l3 - l3 / k0 * k0) σ))))
def b_X7layNumberS_5 (X5 : Int32 → Int32 → VS → Prop) (Q : VS → Prop) (l3 : Int32) (l4 : Int32) (σ : VS) : Prop := (((σ.1 2).toInt ≤ l4.toInt → Q σ) ∧ (l4.toInt < (σ.1 2).toInt → wp_X1isStart (fun (r1 : Int32) (σ2 : VS) => ((r1.toInt = 0 → b_X7layNumberS_39 X5 Q l3 l4 0 σ2) ∧ (r1.toInt ≠ 0 → wp_X7aimFrom (fun (r3 : Int32) (σ4 : VS) => b_X7layNumberS_39 X5 Q l3 l4 r3 σ4) l4 σ2))) l4 σ))
def wp_X7layNumberS (Q : VS → Prop) (p1 : Int32) (σ : VS) : Prop := ∀ (X5 : Int32 → Int32 → VS → Prop), (∀ (l3 : Int32) (l4 : Int32) (σ : VS), b_X7layNumberS_5 X5 Q l3 l4 σ → X5 l3 l4 σ) → X5 p1 0 σ
theorem dX7_layNumber_0 : decode cX7_layNumber 0 = .ok (.iload_n 1, 1) := by decide +kernel
theorem dX7_layNumber_1 : decode cX7_layNumber 1 = .ok (.istore_n 3, 1) := by decide +kernel
theorem dX7_layNumber_2 : decode cX7_layNumber 2 = .ok (.iconst 0, 1) := by decide +kernel
theorem dX7_layNumber_3 : decode cX7_layNumber 3 = .ok (.istore 4, 2) := by decide +kernel
theorem dX7_layNumber_5 : decode cX7_layNumber 5 = .ok (.iload 4, 2) := by decide +kernel
theorem dX7_layNumber_7 : decode cX7_layNumber 7 = .ok (.aload_n 0, 1) := by decide +kernel
theorem dX7_layNumber_8 : decode cX7_layNumber 8 = .ok (.getfield 23, 3) := by decide +kernel
theorem dX7_layNumber_11 : decode cX7_layNumber 11 = .ok (.getfield 67, 3) := by decide +kernel
theorem dX7_layNumber_14 : decode cX7_layNumber 14 = .ok (.if_icmp .ge 62, 3) := by decide +kernel
theorem dX7_layNumber_76 : decode cX7_layNumber 76 = .ok (.return_, 1) := by decide +kernel
theorem dX7_layNumber_17 : decode cX7_layNumber 17 = .ok (.aload_n 0, 1) := by decide +kernel
theorem dX7_layNumber_18 : decode cX7_layNumber 18 = .ok (.getfield 23, 3) := by decide +kernel
theorem dX7_layNumber_21 : decode cX7_layNumber 21 = .ok (.iload 4, 2) := by decide +kernel
theorem dX7_layNumber_23 : decode cX7_layNumber 23 = .ok (.invokevirtual 72, 3) := by decide +kernel
theorem dX7_layNumber_26 : decode cX7_layNumber 26 = .ok (.ifCond .eq 12, 3) := by decide +kernel
theorem dX7_layNumber_38 : decode cX7_layNumber 38 = .ok (.iconst 0, 1) := by decide +kernel
theorem dX7_layNumber_29 : decode cX7_layNumber 29 = .ok (.aload_n 0, 1) := by decide +kernel
theorem dX7_layNumber_30 : decode cX7_layNumber 30 = .ok (.iload 4, 2) := by decide +kernel
theorem dX7_layNumber_32 : decode cX7_layNumber 32 = .ok (.invokevirtual 76, 3) := by decide +kernel
theorem dX7_layNumber_35 : decode cX7_layNumber 35 = .ok (.goto 4, 3) := by decide +kernel
theorem dX7_layNumber_39 : decode cX7_layNumber 39 = .ok (.istore 5, 2) := by decide +kernel
theorem dX7_layNumber_41 : decode cX7_layNumber 41 = .ok (.iload_n 3, 1) := by decide +kernel
theorem dX7_layNumber_42 : decode cX7_layNumber 42 = .ok (.iconst 2, 1) := by decide +kernel
theorem dX7_layNumber_43 : decode cX7_layNumber 43 = .ok (.iload 5, 2) := by decide +kernel
theorem dX7_layNumber_45 : decode cX7_layNumber 45 = .ok (.imul, 1) := by decide +kernel
theorem dX7_layNumber_46 : decode cX7_layNumber 46 = .ok (.if_icmp .ge 17, 3) := by decide +kernel
theorem dX7_layNumber_63 : decode cX7_layNumber 63 = .ok (.iload_n 3, 1) := by decide +kernel
theorem dX7_layNumber_64 : decode cX7_layNumber 64 = .ok (.iconst 2, 1) := by decide +kernel
theorem dX7_layNumber_65 : decode cX7_layNumber 65 = .ok (.iload 5, 2) := by decide +kernel
theorem dX7_layNumber_67 : decode cX7_layNumber 67 = .ok (.imul, 1) := by decide +kernel
theorem dX7_layNumber_68 : decode cX7_layNumber 68 = .ok (.isub, 1) := by decide +kernel
theorem dX7_layNumber_69 : decode cX7_layNumber 69 = .ok (.istore_n 3, 1) := by decide +kernel
theorem dX7_layNumber_70 : decode cX7_layNumber 70 = .ok (.iinc 4 1, 3) := by decide +kernel
theorem dX7_layNumber_73 : decode cX7_layNumber 73 = .ok (.goto (-68), 3) := by decide +kernel
theorem dX7_layNumber_49 : decode cX7_layNumber 49 = .ok (.aload_n 0, 1) := by decide +kernel
theorem dX7_layNumber_50 : decode cX7_layNumber 50 = .ok (.iload_n 3, 1) := by decide +kernel
theorem dX7_layNumber_51 : decode cX7_layNumber 51 = .ok (.iload 5, 2) := by decide +kernel
theorem dX7_layNumber_53 : decode cX7_layNumber 53 = .ok (.idiv, 1) := by decide +kernel
theorem dX7_layNumber_54 : decode cX7_layNumber 54 = .ok (.iload_n 3, 1) := by decide +kernel
theorem dX7_layNumber_55 : decode cX7_layNumber 55 = .ok (.iload 5, 2) := by decide +kernel
theorem dX7_layNumber_57 : decode cX7_layNumber 57 = .ok (.irem, 1) := by decide +kernel
theorem dX7_layNumber_58 : decode cX7_layNumber 58 = .ok (.aload_n 2, 1) := by decide +kernel
theorem dX7_layNumber_59 : decode cX7_layNumber 59 = .ok (.invokevirtual 80, 3) := by decide +kernel
theorem dX7_layNumber_62 : decode cX7_layNumber 62 = .ok (.return_, 1) := by decide +kernel
def wo_X7layNumberS : List Cond := [.code yX7_layNumber cX7_layNumber 6 none, .methodLink RX7 72 yX1_isStart, .instanceMethod yX1_isStart, .selects RX1 yX1_isStart yX1_isStart, .initialized RX1, .methodLink RX7 76 yX7_aimFrom, .instanceMethod yX7_aimFrom, .selects RX7 yX7_aimFrom yX7_aimFrom, .initialized RX7, .methodLink RX7 80 yX7_lay, .instanceMethod yX7_lay, .selects RX7 yX7_lay yX7_lay]
def wr_X7layNumberS : List Cond := (wfC ++ (w_X1isStart ++ (w_X7aimFrom ++ (w_X7layS ++ ([])))))
def w_X7layNumberS : List Cond := wo_X7layNumberS ++ wr_X7layNumberS
theorem wg_X7layNumberS : GW w_X7layNumberS := GW_app (GW_of (by decide +kernel)) (GW_app (wg_fC) (GW_app (wg_X1isStart) (GW_app (wg_X7aimFrom) (GW_app (wg_X7layS) (GW_nil)))))
theorem in_X7layNumberS : ∀ w ∈ wfC, w ∈ w_X7layNumberS := fun _ h => List.mem_append_right _ (List.mem_append_left _ h)
theorem g_X7layNumberS_X1isStart_72 : GoodIn w_X7layNumberS (wsV RX7 72 RX1 yX1_isStart w_X1isStart) := goodIn_app (gi_left (goodIn_of _ (by decide +kernel))) (fun w h => ⟨List.mem_append_right _ (List.mem_append_right _ (List.mem_append_left _ h)), wg_X1isStart w h⟩)
theorem g_X7layNumberS_X7aimFrom_76 : GoodIn w_X7layNumberS (wsV RX7 76 RX7 yX7_aimFrom w_X7aimFrom) := goodIn_app (gi_left (goodIn_of _ (by decide +kernel))) (fun w h => ⟨List.mem_append_right _ (List.mem_append_right _ (List.mem_append_right _ (List.mem_append_left _ h))), wg_X7aimFrom w h⟩)
theorem g_X7layNumberS_X7layS_80 : GoodIn w_X7layNumberS (wsV RX7 80 RX7 yX7_lay w_X7layS) := goodIn_app (gi_left (goodIn_of _ (by decide +kernel))) (fun w h => ⟨List.mem_append_right _ (List.mem_append_right _ (List.mem_append_right _ (List.mem_append_right _ (List.mem_append_left _ h)))), wg_X7layS w h⟩)
set_option maxHeartbeats 4000000 in
set_option maxRecDepth 100000 in
theorem ct_X7layNumberS (l : Launch) (E : gE) (B : Nat → Nat) (Q : VS → Prop) (p1 : Int32) (σ : VS) (hw : wp_X7layNumberS Q p1 σ) : CtV l E yX7_layNumber w_X7layNumberS (({ frames := 5, cells := 0, slots := 0, locals := 119 } : Room)) (wc E B σ) [.ref (B 8), .int p1, .ref (B 9)] (fun w => ∃ σ' : VS, Q σ' ∧ w = wc E B σ') := by
  refine VC_V (cc := cX7_layNumber) (mL := 6) (rt := none) (lv0 := [(0, .ref (B 8)), (1, .int p1), (2, .ref (B 9))]) rfl (by decide) rfl (Nat.le_of_ble_eq_true rfl) ?_
  intro p e s m below meth c A F
  replace F : Fx p s m _ meth c A E cX7_layNumber 6 none RX7 w_X7layNumberS := F
  obtain ⟨X5, hX5⟩ : ∃ X : Int32 → Int32 → VS → Prop, X = fun l3 l4 σ => WB p l e (({ frames := 5, cells := 0, slots := 0, locals := 119 } : Room)) s m (#[.ref (B 8), .int p1, .ref (B 9)]) below meth c (MQ below (va_Qv (fun w => ∃ σ' : VS, Q σ' ∧ w = wc E B σ') (AftU E A) A) (#[.ref (B 8), .int p1, .ref (B 9)]) s (({ frames := 5, cells := 0, slots := 0, locals := 119 } : Room)).cells (({ frames := 5, cells := 0, slots := 0, locals := 119 } : Room)).slots A) A E (wc E B) 6 5 [(0, .ref (B 8)), (2, .ref (B 9)), (3, .int l3), (4, .int l4)] [] σ := ⟨_, rfl⟩
  have U_5 : ∀ (l3 : Int32) (l4 : Int32) (σ : VS), X5 l3 l4 σ → WB p l e (({ frames := 5, cells := 0, slots := 0, locals := 119 } : Room)) s m (#[.ref (B 8), .int p1, .ref (B 9)]) below meth c (MQ below (va_Qv (fun w => ∃ σ' : VS, Q σ' ∧ w = wc E B σ') (AftU E A) A) (#[.ref (B 8), .int p1, .ref (B 9)]) s (({ frames := 5, cells := 0, slots := 0, locals := 119 } : Room)).cells (({ frames := 5, cells := 0, slots := 0, locals := 119 } : Room)).slots A) A E (wc E B) 6 5 [(0, .ref (B 8)), (2, .ref (B 9)), (3, .int l3), (4, .int l4)] [] σ := by
    intro l3 l4 σ hw; rw [hX5] at hw; exact hw
  have J_39 : ∀ (l3 : Int32) (l4 : Int32) (k0 : Int32) (σ : VS), b_X7layNumberS_39 X5 Q l3 l4 k0 σ → WB p l e (({ frames := 5, cells := 0, slots := 0, locals := 119 } : Room)) s m (#[.ref (B 8), .int p1, .ref (B 9)]) below meth c (MQ below (va_Qv (fun w => ∃ σ' : VS, Q σ' ∧ w = wc E B σ') (AftU E A) A) (#[.ref (B 8), .int p1, .ref (B 9)]) s (({ frames := 5, cells := 0, slots := 0, locals := 119 } : Room)).cells (({ frames := 5, cells := 0, slots := 0, locals := 119 } : Room)).slots A) A E (wc E B) 6 39 [(0, .ref (B 8)), (2, .ref (B 9)), (3, .int l3), (4, .int l4)] [.int k0] σ := by
    intro l3 l4 k0 σ hw
    unfold b_X7layNumberS_39 at hw
    refine R_istore (lv' := [(5, .int k0), (0, .ref (B 8)), (2, .ref (B 9)), (3, .int l3), (4, .int l4)]) F dX7_layNumber_39 (by decide) rfl ?_
    refine R_iload_n F dX7_layNumber_41 rfl 3 rfl ?_
    refine R_iconst F 2 dX7_layNumber_42 (by decide) ?_
    refine R_iload F dX7_layNumber_43 0 rfl ?_
    refine R_imul F dX7_layNumber_45 ?_
    refine R_icmp_ge (tgt := 63) F dX7_layNumber_46 (by decide) (fun hc => ?_) (fun hc => ?_)
    · replace hw := hw.1 hc
      refine R_iload_n F dX7_layNumber_63 rfl 3 rfl ?_
      refine R_iconst F 2 dX7_layNumber_64 (by decide) ?_
      refine R_iload F dX7_layNumber_65 0 rfl ?_
      refine R_imul F dX7_layNumber_67 ?_
      refine R_isub F dX7_layNumber_68 ?_
      refine R_topi (fun x5 ex5 => ?_)
      replace hw := hw x5 ex5
      refine R_istore_n (lv' := [(3, .int x5), (5, .int k0), (0, .ref (B 8)), (2, .ref (B 9)), (4, .int l4)]) F dX7_layNumber_69 rfl (by decide) rfl ?_
      refine R_iinc (q := 4) (v := (l4 + 1)) (lv' := [(4, .int (l4 + 1)), (3, .int x5), (5, .int k0), (0, .ref (B 8)), (2, .ref (B 9))]) F dX7_layNumber_70 rfl rfl (by decide) rfl ?_
      refine R_goto (tgt := 5) F dX7_layNumber_73 (by decide) ?_
      exact R_sub [3, 4, 1, 0] rfl (U_5 x5 (l4 + 1) σ hw)
    · replace hw := hw.2 hc
      refine R_aload_n F dX7_layNumber_49 rfl 1 rfl ?_
      refine R_iload_n F dX7_layNumber_50 rfl 3 rfl ?_
      refine R_iload F dX7_layNumber_51 0 rfl ?_
      refine R_idiv F dX7_layNumber_53 hw.1 ?_
      replace hw := hw.2
      refine R_iload_n F dX7_layNumber_54 rfl 3 rfl ?_
      refine R_iload F dX7_layNumber_55 0 rfl ?_
      refine R_irem F dX7_layNumber_57 hw.1 ?_
      replace hw := hw.2
      refine R_aload_n F dX7_layNumber_58 rfl 2 rfl ?_
      refine R_callV (As := [.int (l3 / k0), .int (l3 - l3 / k0 * k0), .ref (B 9)]) (C := RX7) (q0 := 8) (ci := 7) (N := 12) (T := TX7) (fs := cf_8 B) F (ct_X7layS l E B _ (l3 / k0) (l3 - l3 / k0 * k0) _ hw) (cwV 3 F.2.2.2.2.2.2.2.2.2.2 g_X7layNumberS_X7layS_80 rfl rfl rfl (by decide +kernel) ⟨Nat.le_of_ble_eq_true rfl, Nat.le_of_ble_eq_true rfl⟩) ⟨rfl, rfl⟩ rfl (fun _ => rfl) rfl rfl (Nat.le_of_ble_eq_true rfl) dX7_layNumber_59 (fun σ7 hw => ?_)
      exact R_vret (Qc := Q) F dX7_layNumber_62 hw
  have C_5 : ∀ (l3 : Int32) (l4 : Int32) (σ : VS), b_X7layNumberS_5 X5 Q l3 l4 σ → X5 l3 l4 σ := by
    intro l3 l4 σ hw
    unfold b_X7layNumberS_5 at hw
    rw [hX5]
    show WB p l e (({ frames := 5, cells := 0, slots := 0, locals := 119 } : Room)) s m (#[.ref (B 8), .int p1, .ref (B 9)]) below meth c (MQ below (va_Qv (fun w => ∃ σ' : VS, Q σ' ∧ w = wc E B σ') (AftU E A) A) (#[.ref (B 8), .int p1, .ref (B 9)]) s (({ frames := 5, cells := 0, slots := 0, locals := 119 } : Room)).cells (({ frames := 5, cells := 0, slots := 0, locals := 119 } : Room)).slots A) A E (wc E B) 6 5 [(0, .ref (B 8)), (2, .ref (B 9)), (3, .int l3), (4, .int l4)] [] σ
    refine R_iload F dX7_layNumber_5 3 rfl ?_
    refine R_aload_n F dX7_layNumber_7 rfl 0 rfl ?_
    refine gc_RX7_23_8 F in_X7layNumberS dX7_layNumber_8 ?_
    refine gc_RX7_67_1 F in_X7layNumberS dX7_layNumber_11 ?_
    refine R_icmp_ge (tgt := 76) F dX7_layNumber_14 (by decide) (fun hc => ?_) (fun hc => ?_)
    · replace hw := hw.1 hc
      exact R_vret (Qc := Q) F dX7_layNumber_76 hw
    · replace hw := hw.2 hc
      refine R_aload_n F dX7_layNumber_17 rfl 0 rfl ?_
      refine gc_RX7_23_8 F in_X7layNumberS dX7_layNumber_18 ?_
      refine R_iload F dX7_layNumber_21 3 rfl ?_
      refine R_callI (As := [.int l4]) (C := RX1) (q0 := 1) (ci := 1) (N := 13) (T := TX1) (fs := cf_1 B) F (ct_X1isStart l E B _ l4 _ hw) (cwV 1 F.2.2.2.2.2.2.2.2.2.2 g_X7layNumberS_X1isStart_72 rfl rfl rfl (by decide +kernel) ⟨Nat.le_of_ble_eq_true rfl, Nat.le_of_ble_eq_true rfl⟩) ⟨rfl, rfl⟩ rfl (fun _ => rfl) rfl rfl (Nat.le_of_ble_eq_true rfl) dX7_layNumber_23 (fun r1 σ2 hw => ?_)
      refine R_if_eq (tgt := 38) F dX7_layNumber_26 (by decide) (fun hc => ?_) (fun hc => ?_)
      · replace hw := hw.1 hc
        refine R_iconst F 0 dX7_layNumber_38 (by decide) ?_
        exact R_sub [0, 1, 2, 3] rfl (J_39 l3 l4 0 σ2 hw)
      · replace hw := hw.2 hc
        refine R_aload_n F dX7_layNumber_29 rfl 0 rfl ?_
        refine R_iload F dX7_layNumber_30 3 rfl ?_
        refine R_callI (As := [.int l4]) (C := RX7) (q0 := 8) (ci := 7) (N := 12) (T := TX7) (fs := cf_8 B) F (ct_X7aimFrom l E B _ l4 _ hw) (cwV 1 F.2.2.2.2.2.2.2.2.2.2 g_X7layNumberS_X7aimFrom_76 rfl rfl rfl (by decide +kernel) ⟨Nat.le_of_ble_eq_true rfl, Nat.le_of_ble_eq_true rfl⟩) ⟨rfl, rfl⟩ rfl (fun _ => rfl) rfl rfl (Nat.le_of_ble_eq_true rfl) dX7_layNumber_32 (fun r3 σ4 hw => ?_)
        refine R_goto (tgt := 39) F dX7_layNumber_35 (by decide) ?_
        exact R_sub [0, 1, 2, 3] rfl (J_39 l3 l4 r3 σ4 hw)
  unfold wp_X7layNumberS at hw
  replace hw := hw X5 C_5
  refine R_iload_n F dX7_layNumber_0 rfl 1 rfl ?_
  refine R_istore_n (lv' := [(3, .int p1), (0, .ref (B 8)), (1, .int p1), (2, .ref (B 9))]) F dX7_layNumber_1 rfl (by decide) rfl ?_
  refine R_iconst F 0 dX7_layNumber_2 (by decide) ?_
  refine R_istore (lv' := [(4, .int 0), (3, .int p1), (0, .ref (B 8)), (1, .int p1), (2, .ref (B 9))]) F dX7_layNumber_3 (by decide) rfl ?_
  exact R_sub [2, 4, 1, 0] rfl (U_5 p1 0 σ hw)
def b_X7layNumberT_39 (X5 : Int32 → Int32 → VS → Prop) (Q : VS → Prop) (l3 : Int32) (l4 : Int32) (k0 : Int32) (σ : VS) : Prop := (((2 * k0).toInt ≤ l3.toInt → (∀ x5 : Int32, x5 = (l3 - (2 * k0)) → X5 x5 (l4 + 1) σ)) ∧ (l3.toInt < (2 * k0).toInt → (¬ k0 = 0 ∧ (¬ k0 = 0 ∧ wp_X7layT (fun (σ7 : VS) => Q σ7) (l3 / k0) (l3 - l3 / k0 * k0) σ))))
def b_X7layNumberT_5 (X5 : Int32 → Int32 → VS → Prop) (Q : VS → Prop) (l3 : Int32) (l4 : Int32) (σ : VS) : Prop := (((σ.1 2).toInt ≤ l4.toInt → Q σ) ∧ (l4.toInt < (σ.1 2).toInt → wp_X1isStart (fun (r1 : Int32) (σ2 : VS) => ((r1.toInt = 0 → b_X7layNumberT_39 X5 Q l3 l4 0 σ2) ∧ (r1.toInt ≠ 0 → wp_X7aimFrom (fun (r3 : Int32) (σ4 : VS) => b_X7layNumberT_39 X5 Q l3 l4 r3 σ4) l4 σ2))) l4 σ))
def wp_X7layNumberT (Q : VS → Prop) (p1 : Int32) (σ : VS) : Prop := ∀ (X5 : Int32 → Int32 → VS → Prop), (∀ (l3 : Int32) (l4 : Int32) (σ : VS), b_X7layNumberT_5 X5 Q l3 l4 σ → X5 l3 l4 σ) → X5 p1 0 σ
def wo_X7layNumberT : List Cond := [.code yX7_layNumber cX7_layNumber 6 none, .methodLink RX7 72 yX1_isStart, .instanceMethod yX1_isStart, .selects RX1 yX1_isStart yX1_isStart, .initialized RX1, .methodLink RX7 76 yX7_aimFrom, .instanceMethod yX7_aimFrom, .selects RX7 yX7_aimFrom yX7_aimFrom, .initialized RX7, .methodLink RX7 80 yX7_lay, .instanceMethod yX7_lay, .selects RX7 yX7_lay yX7_lay]
def wr_X7layNumberT : List Cond := (wfC ++ (w_X1isStart ++ (w_X7aimFrom ++ (w_X7layT ++ ([])))))
def w_X7layNumberT : List Cond := wo_X7layNumberT ++ wr_X7layNumberT
theorem wg_X7layNumberT : GW w_X7layNumberT := GW_app (GW_of (by decide +kernel)) (GW_app (wg_fC) (GW_app (wg_X1isStart) (GW_app (wg_X7aimFrom) (GW_app (wg_X7layT) (GW_nil)))))
theorem in_X7layNumberT : ∀ w ∈ wfC, w ∈ w_X7layNumberT := fun _ h => List.mem_append_right _ (List.mem_append_left _ h)
theorem g_X7layNumberT_X1isStart_72 : GoodIn w_X7layNumberT (wsV RX7 72 RX1 yX1_isStart w_X1isStart) := goodIn_app (gi_left (goodIn_of _ (by decide +kernel))) (fun w h => ⟨List.mem_append_right _ (List.mem_append_right _ (List.mem_append_left _ h)), wg_X1isStart w h⟩)
theorem g_X7layNumberT_X7aimFrom_76 : GoodIn w_X7layNumberT (wsV RX7 76 RX7 yX7_aimFrom w_X7aimFrom) := goodIn_app (gi_left (goodIn_of _ (by decide +kernel))) (fun w h => ⟨List.mem_append_right _ (List.mem_append_right _ (List.mem_append_right _ (List.mem_append_left _ h))), wg_X7aimFrom w h⟩)
theorem g_X7layNumberT_X7layT_80 : GoodIn w_X7layNumberT (wsV RX7 80 RX7 yX7_lay w_X7layT) := goodIn_app (gi_left (goodIn_of _ (by decide +kernel))) (fun w h => ⟨List.mem_append_right _ (List.mem_append_right _ (List.mem_append_right _ (List.mem_append_right _ (List.mem_append_left _ h)))), wg_X7layT w h⟩)
set_option maxHeartbeats 4000000 in
set_option maxRecDepth 100000 in
theorem ct_X7layNumberT (l : Launch) (E : gE) (B : Nat → Nat) (Q : VS → Prop) (p1 : Int32) (σ : VS) (hw : wp_X7layNumberT Q p1 σ) : CtV l E yX7_layNumber w_X7layNumberT (({ frames := 5, cells := 0, slots := 0, locals := 119 } : Room)) (wc E B σ) [.ref (B 8), .int p1, .ref (B 10)] (fun w => ∃ σ' : VS, Q σ' ∧ w = wc E B σ') := by
  refine VC_V (cc := cX7_layNumber) (mL := 6) (rt := none) (lv0 := [(0, .ref (B 8)), (1, .int p1), (2, .ref (B 10))]) rfl (by decide) rfl (Nat.le_of_ble_eq_true rfl) ?_
  intro p e s m below meth c A F
  replace F : Fx p s m _ meth c A E cX7_layNumber 6 none RX7 w_X7layNumberT := F
  obtain ⟨X5, hX5⟩ : ∃ X : Int32 → Int32 → VS → Prop, X = fun l3 l4 σ => WB p l e (({ frames := 5, cells := 0, slots := 0, locals := 119 } : Room)) s m (#[.ref (B 8), .int p1, .ref (B 10)]) below meth c (MQ below (va_Qv (fun w => ∃ σ' : VS, Q σ' ∧ w = wc E B σ') (AftU E A) A) (#[.ref (B 8), .int p1, .ref (B 10)]) s (({ frames := 5, cells := 0, slots := 0, locals := 119 } : Room)).cells (({ frames := 5, cells := 0, slots := 0, locals := 119 } : Room)).slots A) A E (wc E B) 6 5 [(0, .ref (B 8)), (2, .ref (B 10)), (3, .int l3), (4, .int l4)] [] σ := ⟨_, rfl⟩
  have U_5 : ∀ (l3 : Int32) (l4 : Int32) (σ : VS), X5 l3 l4 σ → WB p l e (({ frames := 5, cells := 0, slots := 0, locals := 119 } : Room)) s m (#[.ref (B 8), .int p1, .ref (B 10)]) below meth c (MQ below (va_Qv (fun w => ∃ σ' : VS, Q σ' ∧ w = wc E B σ') (AftU E A) A) (#[.ref (B 8), .int p1, .ref (B 10)]) s (({ frames := 5, cells := 0, slots := 0, locals := 119 } : Room)).cells (({ frames := 5, cells := 0, slots := 0, locals := 119 } : Room)).slots A) A E (wc E B) 6 5 [(0, .ref (B 8)), (2, .ref (B 10)), (3, .int l3), (4, .int l4)] [] σ := by
    intro l3 l4 σ hw; rw [hX5] at hw; exact hw
  have J_39 : ∀ (l3 : Int32) (l4 : Int32) (k0 : Int32) (σ : VS), b_X7layNumberT_39 X5 Q l3 l4 k0 σ → WB p l e (({ frames := 5, cells := 0, slots := 0, locals := 119 } : Room)) s m (#[.ref (B 8), .int p1, .ref (B 10)]) below meth c (MQ below (va_Qv (fun w => ∃ σ' : VS, Q σ' ∧ w = wc E B σ') (AftU E A) A) (#[.ref (B 8), .int p1, .ref (B 10)]) s (({ frames := 5, cells := 0, slots := 0, locals := 119 } : Room)).cells (({ frames := 5, cells := 0, slots := 0, locals := 119 } : Room)).slots A) A E (wc E B) 6 39 [(0, .ref (B 8)), (2, .ref (B 10)), (3, .int l3), (4, .int l4)] [.int k0] σ := by
    intro l3 l4 k0 σ hw
    unfold b_X7layNumberT_39 at hw
    refine R_istore (lv' := [(5, .int k0), (0, .ref (B 8)), (2, .ref (B 10)), (3, .int l3), (4, .int l4)]) F dX7_layNumber_39 (by decide) rfl ?_
    refine R_iload_n F dX7_layNumber_41 rfl 3 rfl ?_
    refine R_iconst F 2 dX7_layNumber_42 (by decide) ?_
    refine R_iload F dX7_layNumber_43 0 rfl ?_
    refine R_imul F dX7_layNumber_45 ?_
    refine R_icmp_ge (tgt := 63) F dX7_layNumber_46 (by decide) (fun hc => ?_) (fun hc => ?_)
    · replace hw := hw.1 hc
      refine R_iload_n F dX7_layNumber_63 rfl 3 rfl ?_
      refine R_iconst F 2 dX7_layNumber_64 (by decide) ?_
      refine R_iload F dX7_layNumber_65 0 rfl ?_
      refine R_imul F dX7_layNumber_67 ?_
      refine R_isub F dX7_layNumber_68 ?_
      refine R_topi (fun x5 ex5 => ?_)
      replace hw := hw x5 ex5
      refine R_istore_n (lv' := [(3, .int x5), (5, .int k0), (0, .ref (B 8)), (2, .ref (B 10)), (4, .int l4)]) F dX7_layNumber_69 rfl (by decide) rfl ?_
      refine R_iinc (q := 4) (v := (l4 + 1)) (lv' := [(4, .int (l4 + 1)), (3, .int x5), (5, .int k0), (0, .ref (B 8)), (2, .ref (B 10))]) F dX7_layNumber_70 rfl rfl (by decide) rfl ?_
      refine R_goto (tgt := 5) F dX7_layNumber_73 (by decide) ?_
      exact R_sub [3, 4, 1, 0] rfl (U_5 x5 (l4 + 1) σ hw)
    · replace hw := hw.2 hc
      refine R_aload_n F dX7_layNumber_49 rfl 1 rfl ?_
      refine R_iload_n F dX7_layNumber_50 rfl 3 rfl ?_
      refine R_iload F dX7_layNumber_51 0 rfl ?_
      refine R_idiv F dX7_layNumber_53 hw.1 ?_
      replace hw := hw.2
      refine R_iload_n F dX7_layNumber_54 rfl 3 rfl ?_
      refine R_iload F dX7_layNumber_55 0 rfl ?_
      refine R_irem F dX7_layNumber_57 hw.1 ?_
      replace hw := hw.2
      refine R_aload_n F dX7_layNumber_58 rfl 2 rfl ?_
      refine R_callV (As := [.int (l3 / k0), .int (l3 - l3 / k0 * k0), .ref (B 10)]) (C := RX7) (q0 := 8) (ci := 7) (N := 12) (T := TX7) (fs := cf_8 B) F (ct_X7layT l E B _ (l3 / k0) (l3 - l3 / k0 * k0) _ hw) (cwV 3 F.2.2.2.2.2.2.2.2.2.2 g_X7layNumberT_X7layT_80 rfl rfl rfl (by decide +kernel) ⟨Nat.le_of_ble_eq_true rfl, Nat.le_of_ble_eq_true rfl⟩) ⟨rfl, rfl⟩ rfl (fun _ => rfl) rfl rfl (Nat.le_of_ble_eq_true rfl) dX7_layNumber_59 (fun σ7 hw => ?_)
      exact R_vret (Qc := Q) F dX7_layNumber_62 hw
  have C_5 : ∀ (l3 : Int32) (l4 : Int32) (σ : VS), b_X7layNumberT_5 X5 Q l3 l4 σ → X5 l3 l4 σ := by
    intro l3 l4 σ hw
    unfold b_X7layNumberT_5 at hw
    rw [hX5]
    show WB p l e (({ frames := 5, cells := 0, slots := 0, locals := 119 } : Room)) s m (#[.ref (B 8), .int p1, .ref (B 10)]) below meth c (MQ below (va_Qv (fun w => ∃ σ' : VS, Q σ' ∧ w = wc E B σ') (AftU E A) A) (#[.ref (B 8), .int p1, .ref (B 10)]) s (({ frames := 5, cells := 0, slots := 0, locals := 119 } : Room)).cells (({ frames := 5, cells := 0, slots := 0, locals := 119 } : Room)).slots A) A E (wc E B) 6 5 [(0, .ref (B 8)), (2, .ref (B 10)), (3, .int l3), (4, .int l4)] [] σ
    refine R_iload F dX7_layNumber_5 3 rfl ?_
    refine R_aload_n F dX7_layNumber_7 rfl 0 rfl ?_
    refine gc_RX7_23_8 F in_X7layNumberT dX7_layNumber_8 ?_
    refine gc_RX7_67_1 F in_X7layNumberT dX7_layNumber_11 ?_
    refine R_icmp_ge (tgt := 76) F dX7_layNumber_14 (by decide) (fun hc => ?_) (fun hc => ?_)
    · replace hw := hw.1 hc
      exact R_vret (Qc := Q) F dX7_layNumber_76 hw
    · replace hw := hw.2 hc
      refine R_aload_n F dX7_layNumber_17 rfl 0 rfl ?_
      refine gc_RX7_23_8 F in_X7layNumberT dX7_layNumber_18 ?_
      refine R_iload F dX7_layNumber_21 3 rfl ?_
      refine R_callI (As := [.int l4]) (C := RX1) (q0 := 1) (ci := 1) (N := 13) (T := TX1) (fs := cf_1 B) F (ct_X1isStart l E B _ l4 _ hw) (cwV 1 F.2.2.2.2.2.2.2.2.2.2 g_X7layNumberT_X1isStart_72 rfl rfl rfl (by decide +kernel) ⟨Nat.le_of_ble_eq_true rfl, Nat.le_of_ble_eq_true rfl⟩) ⟨rfl, rfl⟩ rfl (fun _ => rfl) rfl rfl (Nat.le_of_ble_eq_true rfl) dX7_layNumber_23 (fun r1 σ2 hw => ?_)
      refine R_if_eq (tgt := 38) F dX7_layNumber_26 (by decide) (fun hc => ?_) (fun hc => ?_)
      · replace hw := hw.1 hc
        refine R_iconst F 0 dX7_layNumber_38 (by decide) ?_
        exact R_sub [0, 1, 2, 3] rfl (J_39 l3 l4 0 σ2 hw)
      · replace hw := hw.2 hc
        refine R_aload_n F dX7_layNumber_29 rfl 0 rfl ?_
        refine R_iload F dX7_layNumber_30 3 rfl ?_
        refine R_callI (As := [.int l4]) (C := RX7) (q0 := 8) (ci := 7) (N := 12) (T := TX7) (fs := cf_8 B) F (ct_X7aimFrom l E B _ l4 _ hw) (cwV 1 F.2.2.2.2.2.2.2.2.2.2 g_X7layNumberT_X7aimFrom_76 rfl rfl rfl (by decide +kernel) ⟨Nat.le_of_ble_eq_true rfl, Nat.le_of_ble_eq_true rfl⟩) ⟨rfl, rfl⟩ rfl (fun _ => rfl) rfl rfl (Nat.le_of_ble_eq_true rfl) dX7_layNumber_32 (fun r3 σ4 hw => ?_)
        refine R_goto (tgt := 39) F dX7_layNumber_35 (by decide) ?_
        exact R_sub [0, 1, 2, 3] rfl (J_39 l3 l4 r3 σ4 hw)
  unfold wp_X7layNumberT at hw
  replace hw := hw X5 C_5
  refine R_iload_n F dX7_layNumber_0 rfl 1 rfl ?_
  refine R_istore_n (lv' := [(3, .int p1), (0, .ref (B 8)), (1, .int p1), (2, .ref (B 10))]) F dX7_layNumber_1 rfl (by decide) rfl ?_
  refine R_iconst F 0 dX7_layNumber_2 (by decide) ?_
  refine R_istore (lv' := [(4, .int 0), (3, .int p1), (0, .ref (B 8)), (1, .int p1), (2, .ref (B 10))]) F dX7_layNumber_3 (by decide) rfl ?_
  exact R_sub [2, 4, 1, 0] rfl (U_5 p1 0 σ hw)
def b_X7traceS_53 (Q : VS → Prop) (σ : VS) : Prop := Q σ
def wp_X7traceS (Q : VS → Prop) (p1 : Int32) (p2 : Int32) (σ : VS) : Prop := wp_X3masks (fun (r1 : Int32) (σ2 : VS) => wp_X7keyAllS (fun (σ4 : VS) => wp_X7sortKeys (fun (σ6 : VS) => ((p2.toInt < 0 → b_X7traceS_53 Q σ6) ∧ (0 ≤ p2.toInt → (((σ6.1 15).toInt ≤ p2.toInt → b_X7traceS_53 Q σ6) ∧ (p2.toInt < (σ6.1 15).toInt → (In p2 1000 ∧ wp_X7layNumberS (fun (σ8 : VS) => b_X7traceS_53 Q σ8) ((((rdj σ6 54 p2) &&& (1023 : Int64))).toInt32) σ6)))))) σ4) (sf (sf σ2 11 r1) 13 p1)) σ
theorem dX7_trace_0 : decode cX7_trace 0 = .ok (.aload_n 0, 1) := by decide +kernel
theorem dX7_trace_1 : decode cX7_trace 1 = .ok (.aload_n 0, 1) := by decide +kernel
theorem dX7_trace_2 : decode cX7_trace 2 = .ok (.getfield 31, 3) := by decide +kernel
theorem dX7_trace_5 : decode cX7_trace 5 = .ok (.invokevirtual 43, 3) := by decide +kernel
theorem dX7_trace_8 : decode cX7_trace 8 = .ok (.putfield 9, 3) := by decide +kernel
theorem dX7_trace_11 : decode cX7_trace 11 = .ok (.aload_n 0, 1) := by decide +kernel
theorem dX7_trace_12 : decode cX7_trace 12 = .ok (.iload_n 1, 1) := by decide +kernel
theorem dX7_trace_13 : decode cX7_trace 13 = .ok (.putfield 48, 3) := by decide +kernel
theorem dX7_trace_16 : decode cX7_trace 16 = .ok (.aload_n 0, 1) := by decide +kernel
theorem dX7_trace_17 : decode cX7_trace 17 = .ok (.aload_n 3, 1) := by decide +kernel
theorem dX7_trace_18 : decode cX7_trace 18 = .ok (.invokevirtual 51, 3) := by decide +kernel
theorem dX7_trace_21 : decode cX7_trace 21 = .ok (.aload_n 0, 1) := by decide +kernel
theorem dX7_trace_22 : decode cX7_trace 22 = .ok (.invokevirtual 55, 3) := by decide +kernel
theorem dX7_trace_25 : decode cX7_trace 25 = .ok (.iload_n 2, 1) := by decide +kernel
theorem dX7_trace_26 : decode cX7_trace 26 = .ok (.ifCond .lt 27, 3) := by decide +kernel
theorem dX7_trace_29 : decode cX7_trace 29 = .ok (.iload_n 2, 1) := by decide +kernel
theorem dX7_trace_30 : decode cX7_trace 30 = .ok (.aload_n 0, 1) := by decide +kernel
theorem dX7_trace_31 : decode cX7_trace 31 = .ok (.getfield 58, 3) := by decide +kernel
theorem dX7_trace_34 : decode cX7_trace 34 = .ok (.if_icmp .ge 19, 3) := by decide +kernel
theorem dX7_trace_37 : decode cX7_trace 37 = .ok (.aload_n 0, 1) := by decide +kernel
theorem dX7_trace_38 : decode cX7_trace 38 = .ok (.aload_n 0, 1) := by decide +kernel
theorem dX7_trace_39 : decode cX7_trace 39 = .ok (.getfield 19, 3) := by decide +kernel
theorem dX7_trace_42 : decode cX7_trace 42 = .ok (.iload_n 2, 1) := by decide +kernel
theorem dX7_trace_43 : decode cX7_trace 43 = .ok (.laload, 1) := by decide +kernel
theorem dX7_trace_44 : decode cX7_trace 44 = .ok (.ldc2_w 61, 3) := by decide +kernel
theorem dX7_trace_47 : decode cX7_trace 47 = .ok (.land, 1) := by decide +kernel
theorem dX7_trace_48 : decode cX7_trace 48 = .ok (.l2i, 1) := by decide +kernel
theorem dX7_trace_49 : decode cX7_trace 49 = .ok (.aload_n 3, 1) := by decide +kernel
theorem dX7_trace_50 : decode cX7_trace 50 = .ok (.invokevirtual 63, 3) := by decide +kernel
theorem dX7_trace_53 : decode cX7_trace 53 = .ok (.return_, 1) := by decide +kernel
def wo_X7traceS : List Cond := [.code yX7_trace cX7_trace 4 none, .methodLink RX7 43 yX3_masks, .instanceMethod yX3_masks, .selects RX3 yX3_masks yX3_masks, .initialized RX3, .methodLink RX7 51 yX7_keyAll, .instanceMethod yX7_keyAll, .selects RX7 yX7_keyAll yX7_keyAll, .initialized RX7, .methodLink RX7 55 yX7_sortKeys, .instanceMethod yX7_sortKeys, .selects RX7 yX7_sortKeys yX7_sortKeys, .constantLong RX7 61 1023, .methodLink RX7 63 yX7_layNumber, .instanceMethod yX7_layNumber, .selects RX7 yX7_layNumber yX7_layNumber]
def wr_X7traceS : List Cond := (wfC ++ (w_X3masks ++ (w_X7keyAllS ++ (w_X7sortKeys ++ (w_X7layNumberS ++ ([]))))))
def w_X7traceS : List Cond := wo_X7traceS ++ wr_X7traceS
theorem wg_X7traceS : GW w_X7traceS := GW_app (GW_of (by decide +kernel)) (GW_app (wg_fC) (GW_app (wg_X3masks) (GW_app (wg_X7keyAllS) (GW_app (wg_X7sortKeys) (GW_app (wg_X7layNumberS) (GW_nil))))))
theorem in_X7traceS : ∀ w ∈ wfC, w ∈ w_X7traceS := fun _ h => List.mem_append_right _ (List.mem_append_left _ h)
theorem g_X7traceS_X3masks_43 : GoodIn w_X7traceS (wsV RX7 43 RX3 yX3_masks w_X3masks) := goodIn_app (gi_left (goodIn_of _ (by decide +kernel))) (fun w h => ⟨List.mem_append_right _ (List.mem_append_right _ (List.mem_append_left _ h)), wg_X3masks w h⟩)
theorem g_X7traceS_X7keyAllS_51 : GoodIn w_X7traceS (wsV RX7 51 RX7 yX7_keyAll w_X7keyAllS) := goodIn_app (gi_left (goodIn_of _ (by decide +kernel))) (fun w h => ⟨List.mem_append_right _ (List.mem_append_right _ (List.mem_append_right _ (List.mem_append_left _ h))), wg_X7keyAllS w h⟩)
theorem g_X7traceS_X7sortKeys_55 : GoodIn w_X7traceS (wsV RX7 55 RX7 yX7_sortKeys w_X7sortKeys) := goodIn_app (gi_left (goodIn_of _ (by decide +kernel))) (fun w h => ⟨List.mem_append_right _ (List.mem_append_right _ (List.mem_append_right _ (List.mem_append_right _ (List.mem_append_left _ h)))), wg_X7sortKeys w h⟩)
theorem g_X7traceS_X7layNumberS_63 : GoodIn w_X7traceS (wsV RX7 63 RX7 yX7_layNumber w_X7layNumberS) := goodIn_app (gi_left (goodIn_of _ (by decide +kernel))) (fun w h => ⟨List.mem_append_right _ (List.mem_append_right _ (List.mem_append_right _ (List.mem_append_right _ (List.mem_append_right _ (List.mem_append_left _ h))))), wg_X7layNumberS w h⟩)
set_option maxHeartbeats 4000000 in
set_option maxRecDepth 100000 in
theorem ct_X7traceS (l : Launch) (E : gE) (B : Nat → Nat) (Q : VS → Prop) (p1 : Int32) (p2 : Int32) (σ : VS) (hw : wp_X7traceS Q p1 p2 σ) : CtV l E yX7_trace w_X7traceS (({ frames := 6, cells := 0, slots := 0, locals := 144 } : Room)) (wc E B σ) [.ref (B 8), .int p1, .int p2, .ref (B 9)] (fun w => ∃ σ' : VS, Q σ' ∧ w = wc E B σ') := by
  refine VC_V (cc := cX7_trace) (mL := 4) (rt := none) (lv0 := [(0, .ref (B 8)), (1, .int p1), (2, .int p2), (3, .ref (B 9))]) rfl (by decide) rfl (Nat.le_of_ble_eq_true rfl) ?_
  intro p e s m below meth c A F
  replace F : Fx p s m _ meth c A E cX7_trace 4 none RX7 w_X7traceS := F
  have J_53 : ∀ (σ : VS), b_X7traceS_53 Q σ → WB p l e (({ frames := 6, cells := 0, slots := 0, locals := 144 } : Room)) s m (#[.ref (B 8), .int p1, .int p2, .ref (B 9)]) below meth c (MQ below (va_Qv (fun w => ∃ σ' : VS, Q σ' ∧ w = wc E B σ') (AftU E A) A) (#[.ref (B 8), .int p1, .int p2, .ref (B 9)]) s (({ frames := 6, cells := 0, slots := 0, locals := 144 } : Room)).cells (({ frames := 6, cells := 0, slots := 0, locals := 144 } : Room)).slots A) A E (wc E B) 4 53 [] [] σ := by
    intro σ hw
    unfold b_X7traceS_53 at hw
    exact R_vret (Qc := Q) F dX7_trace_53 hw
  unfold wp_X7traceS at hw
  refine R_aload_n F dX7_trace_0 rfl 0 rfl ?_
  refine R_aload_n F dX7_trace_1 rfl 0 rfl ?_
  refine gc_RX7_31_8 F in_X7traceS dX7_trace_2 ?_
  refine R_callI (As := []) (C := RX3) (q0 := 4) (ci := 3) (N := 6) (T := TX3) (fs := cf_4 B) F (ct_X3masks l E B _ _ hw) (cwV 0 F.2.2.2.2.2.2.2.2.2.2 g_X7traceS_X3masks_43 rfl rfl rfl (by decide +kernel) ⟨Nat.le_of_ble_eq_true rfl, Nat.le_of_ble_eq_true rfl⟩) ⟨rfl, rfl⟩ rfl (fun _ => rfl) rfl rfl (Nat.le_of_ble_eq_true rfl) dX7_trace_5 (fun r1 σ2 hw => ?_)
  refine pc_RX7_9_8 F in_X7traceS dX7_trace_8 ?_
  refine R_aload_n F dX7_trace_11 rfl 0 rfl ?_
  refine R_iload_n F dX7_trace_12 rfl 1 rfl ?_
  refine pc_RX7_48_8 F in_X7traceS dX7_trace_13 ?_
  refine R_aload_n F dX7_trace_16 rfl 0 rfl ?_
  refine R_aload_n F dX7_trace_17 rfl 3 rfl ?_
  refine R_callV (As := [.ref (B 9)]) (C := RX7) (q0 := 8) (ci := 7) (N := 12) (T := TX7) (fs := cf_8 B) F (ct_X7keyAllS l E B _ _ hw) (cwV 1 F.2.2.2.2.2.2.2.2.2.2 g_X7traceS_X7keyAllS_51 rfl rfl rfl (by decide +kernel) ⟨Nat.le_of_ble_eq_true rfl, Nat.le_of_ble_eq_true rfl⟩) ⟨rfl, rfl⟩ rfl (fun _ => rfl) rfl rfl (Nat.le_of_ble_eq_true rfl) dX7_trace_18 (fun σ4 hw => ?_)
  refine R_aload_n F dX7_trace_21 rfl 0 rfl ?_
  refine R_callV (As := []) (C := RX7) (q0 := 8) (ci := 7) (N := 12) (T := TX7) (fs := cf_8 B) F (ct_X7sortKeys l E B _ _ hw) (cwV 0 F.2.2.2.2.2.2.2.2.2.2 g_X7traceS_X7sortKeys_55 rfl rfl rfl (by decide +kernel) ⟨Nat.le_of_ble_eq_true rfl, Nat.le_of_ble_eq_true rfl⟩) ⟨rfl, rfl⟩ rfl (fun _ => rfl) rfl rfl (Nat.le_of_ble_eq_true rfl) dX7_trace_22 (fun σ6 hw => ?_)
  refine R_iload_n F dX7_trace_25 rfl 2 rfl ?_
  refine R_if_lt (tgt := 53) F dX7_trace_26 (by decide) (fun hc => ?_) (fun hc => ?_)
  · replace hw := hw.1 hc
    exact R_sub [] rfl (J_53 σ6 hw)
  · replace hw := hw.2 hc
    refine R_iload_n F dX7_trace_29 rfl 2 rfl ?_
    refine R_aload_n F dX7_trace_30 rfl 0 rfl ?_
    refine gc_RX7_58_8 F in_X7traceS dX7_trace_31 ?_
    refine R_icmp_ge (tgt := 53) F dX7_trace_34 (by decide) (fun hc => ?_) (fun hc => ?_)
    · replace hw := hw.1 hc
      exact R_sub [] rfl (J_53 σ6 hw)
    · replace hw := hw.2 hc
      refine R_aload_n F dX7_trace_37 rfl 0 rfl ?_
      refine R_aload_n F dX7_trace_38 rfl 0 rfl ?_
      refine gc_RX7_19_8 F in_X7traceS dX7_trace_39 ?_
      refine R_iload_n F dX7_trace_42 rfl 2 rfl ?_
      refine R_ldj F qc_54 dX7_trace_43 hw.1 ?_
      replace hw := hw.2
      refine R_ldc2 F 1023 (List.mem_append_left _ (show Cond.constantLong RX7 61 1023 ∈ wo_X7traceS by decide +kernel)) dX7_trace_44 ?_
      refine R_land F dX7_trace_47 ?_
      refine R_l2i F dX7_trace_48 ?_
      refine R_aload_n F dX7_trace_49 rfl 3 rfl ?_
      refine R_callV (As := [.int (((rdj σ6 54 p2) &&& (1023 : Int64))).toInt32, .ref (B 9)]) (C := RX7) (q0 := 8) (ci := 7) (N := 12) (T := TX7) (fs := cf_8 B) F (ct_X7layNumberS l E B _ ((((rdj σ6 54 p2) &&& (1023 : Int64))).toInt32) _ hw) (cwV 2 F.2.2.2.2.2.2.2.2.2.2 g_X7traceS_X7layNumberS_63 rfl rfl rfl (by decide +kernel) ⟨Nat.le_of_ble_eq_true rfl, Nat.le_of_ble_eq_true rfl⟩) ⟨rfl, rfl⟩ rfl (fun _ => rfl) rfl rfl (Nat.le_of_ble_eq_true rfl) dX7_trace_50 (fun σ8 hw => ?_)
      exact R_sub [] rfl (J_53 σ8 hw)
def b_X7traceT_53 (Q : VS → Prop) (σ : VS) : Prop := Q σ
def wp_X7traceT (Q : VS → Prop) (p1 : Int32) (p2 : Int32) (σ : VS) : Prop := wp_X3masks (fun (r1 : Int32) (σ2 : VS) => wp_X7keyAllT (fun (σ4 : VS) => wp_X7sortKeys (fun (σ6 : VS) => ((p2.toInt < 0 → b_X7traceT_53 Q σ6) ∧ (0 ≤ p2.toInt → (((σ6.1 15).toInt ≤ p2.toInt → b_X7traceT_53 Q σ6) ∧ (p2.toInt < (σ6.1 15).toInt → (In p2 1000 ∧ wp_X7layNumberT (fun (σ8 : VS) => b_X7traceT_53 Q σ8) ((((rdj σ6 54 p2) &&& (1023 : Int64))).toInt32) σ6)))))) σ4) (sf (sf σ2 11 r1) 13 p1)) σ
def wo_X7traceT : List Cond := [.code yX7_trace cX7_trace 4 none, .methodLink RX7 43 yX3_masks, .instanceMethod yX3_masks, .selects RX3 yX3_masks yX3_masks, .initialized RX3, .methodLink RX7 51 yX7_keyAll, .instanceMethod yX7_keyAll, .selects RX7 yX7_keyAll yX7_keyAll, .initialized RX7, .methodLink RX7 55 yX7_sortKeys, .instanceMethod yX7_sortKeys, .selects RX7 yX7_sortKeys yX7_sortKeys, .constantLong RX7 61 1023, .methodLink RX7 63 yX7_layNumber, .instanceMethod yX7_layNumber, .selects RX7 yX7_layNumber yX7_layNumber]
def wr_X7traceT : List Cond := (wfC ++ (w_X3masks ++ (w_X7keyAllT ++ (w_X7sortKeys ++ (w_X7layNumberT ++ ([]))))))
def w_X7traceT : List Cond := wo_X7traceT ++ wr_X7traceT
theorem wg_X7traceT : GW w_X7traceT := GW_app (GW_of (by decide +kernel)) (GW_app (wg_fC) (GW_app (wg_X3masks) (GW_app (wg_X7keyAllT) (GW_app (wg_X7sortKeys) (GW_app (wg_X7layNumberT) (GW_nil))))))
theorem in_X7traceT : ∀ w ∈ wfC, w ∈ w_X7traceT := fun _ h => List.mem_append_right _ (List.mem_append_left _ h)
theorem g_X7traceT_X3masks_43 : GoodIn w_X7traceT (wsV RX7 43 RX3 yX3_masks w_X3masks) := goodIn_app (gi_left (goodIn_of _ (by decide +kernel))) (fun w h => ⟨List.mem_append_right _ (List.mem_append_right _ (List.mem_append_left _ h)), wg_X3masks w h⟩)
theorem g_X7traceT_X7keyAllT_51 : GoodIn w_X7traceT (wsV RX7 51 RX7 yX7_keyAll w_X7keyAllT) := goodIn_app (gi_left (goodIn_of _ (by decide +kernel))) (fun w h => ⟨List.mem_append_right _ (List.mem_append_right _ (List.mem_append_right _ (List.mem_append_left _ h))), wg_X7keyAllT w h⟩)
theorem g_X7traceT_X7sortKeys_55 : GoodIn w_X7traceT (wsV RX7 55 RX7 yX7_sortKeys w_X7sortKeys) := goodIn_app (gi_left (goodIn_of _ (by decide +kernel))) (fun w h => ⟨List.mem_append_right _ (List.mem_append_right _ (List.mem_append_right _ (List.mem_append_right _ (List.mem_append_left _ h)))), wg_X7sortKeys w h⟩)
theorem g_X7traceT_X7layNumberT_63 : GoodIn w_X7traceT (wsV RX7 63 RX7 yX7_layNumber w_X7layNumberT) := goodIn_app (gi_left (goodIn_of _ (by decide +kernel))) (fun w h => ⟨List.mem_append_right _ (List.mem_append_right _ (List.mem_append_right _ (List.mem_append_right _ (List.mem_append_right _ (List.mem_append_left _ h))))), wg_X7layNumberT w h⟩)
set_option maxHeartbeats 4000000 in
set_option maxRecDepth 100000 in
theorem ct_X7traceT (l : Launch) (E : gE) (B : Nat → Nat) (Q : VS → Prop) (p1 : Int32) (p2 : Int32) (σ : VS) (hw : wp_X7traceT Q p1 p2 σ) : CtV l E yX7_trace w_X7traceT (({ frames := 6, cells := 0, slots := 0, locals := 144 } : Room)) (wc E B σ) [.ref (B 8), .int p1, .int p2, .ref (B 10)] (fun w => ∃ σ' : VS, Q σ' ∧ w = wc E B σ') := by
  refine VC_V (cc := cX7_trace) (mL := 4) (rt := none) (lv0 := [(0, .ref (B 8)), (1, .int p1), (2, .int p2), (3, .ref (B 10))]) rfl (by decide) rfl (Nat.le_of_ble_eq_true rfl) ?_
  intro p e s m below meth c A F
  replace F : Fx p s m _ meth c A E cX7_trace 4 none RX7 w_X7traceT := F
  have J_53 : ∀ (σ : VS), b_X7traceT_53 Q σ → WB p l e (({ frames := 6, cells := 0, slots := 0, locals := 144 } : Room)) s m (#[.ref (B 8), .int p1, .int p2, .ref (B 10)]) below meth c (MQ below (va_Qv (fun w => ∃ σ' : VS, Q σ' ∧ w = wc E B σ') (AftU E A) A) (#[.ref (B 8), .int p1, .int p2, .ref (B 10)]) s (({ frames := 6, cells := 0, slots := 0, locals := 144 } : Room)).cells (({ frames := 6, cells := 0, slots := 0, locals := 144 } : Room)).slots A) A E (wc E B) 4 53 [] [] σ := by
    intro σ hw
    unfold b_X7traceT_53 at hw
    exact R_vret (Qc := Q) F dX7_trace_53 hw
  unfold wp_X7traceT at hw
  refine R_aload_n F dX7_trace_0 rfl 0 rfl ?_
  refine R_aload_n F dX7_trace_1 rfl 0 rfl ?_
  refine gc_RX7_31_8 F in_X7traceT dX7_trace_2 ?_
  refine R_callI (As := []) (C := RX3) (q0 := 4) (ci := 3) (N := 6) (T := TX3) (fs := cf_4 B) F (ct_X3masks l E B _ _ hw) (cwV 0 F.2.2.2.2.2.2.2.2.2.2 g_X7traceT_X3masks_43 rfl rfl rfl (by decide +kernel) ⟨Nat.le_of_ble_eq_true rfl, Nat.le_of_ble_eq_true rfl⟩) ⟨rfl, rfl⟩ rfl (fun _ => rfl) rfl rfl (Nat.le_of_ble_eq_true rfl) dX7_trace_5 (fun r1 σ2 hw => ?_)
  refine pc_RX7_9_8 F in_X7traceT dX7_trace_8 ?_
  refine R_aload_n F dX7_trace_11 rfl 0 rfl ?_
  refine R_iload_n F dX7_trace_12 rfl 1 rfl ?_
  refine pc_RX7_48_8 F in_X7traceT dX7_trace_13 ?_
  refine R_aload_n F dX7_trace_16 rfl 0 rfl ?_
  refine R_aload_n F dX7_trace_17 rfl 3 rfl ?_
  refine R_callV (As := [.ref (B 10)]) (C := RX7) (q0 := 8) (ci := 7) (N := 12) (T := TX7) (fs := cf_8 B) F (ct_X7keyAllT l E B _ _ hw) (cwV 1 F.2.2.2.2.2.2.2.2.2.2 g_X7traceT_X7keyAllT_51 rfl rfl rfl (by decide +kernel) ⟨Nat.le_of_ble_eq_true rfl, Nat.le_of_ble_eq_true rfl⟩) ⟨rfl, rfl⟩ rfl (fun _ => rfl) rfl rfl (Nat.le_of_ble_eq_true rfl) dX7_trace_18 (fun σ4 hw => ?_)
  refine R_aload_n F dX7_trace_21 rfl 0 rfl ?_
  refine R_callV (As := []) (C := RX7) (q0 := 8) (ci := 7) (N := 12) (T := TX7) (fs := cf_8 B) F (ct_X7sortKeys l E B _ _ hw) (cwV 0 F.2.2.2.2.2.2.2.2.2.2 g_X7traceT_X7sortKeys_55 rfl rfl rfl (by decide +kernel) ⟨Nat.le_of_ble_eq_true rfl, Nat.le_of_ble_eq_true rfl⟩) ⟨rfl, rfl⟩ rfl (fun _ => rfl) rfl rfl (Nat.le_of_ble_eq_true rfl) dX7_trace_22 (fun σ6 hw => ?_)
  refine R_iload_n F dX7_trace_25 rfl 2 rfl ?_
  refine R_if_lt (tgt := 53) F dX7_trace_26 (by decide) (fun hc => ?_) (fun hc => ?_)
  · replace hw := hw.1 hc
    exact R_sub [] rfl (J_53 σ6 hw)
  · replace hw := hw.2 hc
    refine R_iload_n F dX7_trace_29 rfl 2 rfl ?_
    refine R_aload_n F dX7_trace_30 rfl 0 rfl ?_
    refine gc_RX7_58_8 F in_X7traceT dX7_trace_31 ?_
    refine R_icmp_ge (tgt := 53) F dX7_trace_34 (by decide) (fun hc => ?_) (fun hc => ?_)
    · replace hw := hw.1 hc
      exact R_sub [] rfl (J_53 σ6 hw)
    · replace hw := hw.2 hc
      refine R_aload_n F dX7_trace_37 rfl 0 rfl ?_
      refine R_aload_n F dX7_trace_38 rfl 0 rfl ?_
      refine gc_RX7_19_8 F in_X7traceT dX7_trace_39 ?_
      refine R_iload_n F dX7_trace_42 rfl 2 rfl ?_
      refine R_ldj F qc_54 dX7_trace_43 hw.1 ?_
      replace hw := hw.2
      refine R_ldc2 F 1023 (List.mem_append_left _ (show Cond.constantLong RX7 61 1023 ∈ wo_X7traceT by decide +kernel)) dX7_trace_44 ?_
      refine R_land F dX7_trace_47 ?_
      refine R_l2i F dX7_trace_48 ?_
      refine R_aload_n F dX7_trace_49 rfl 3 rfl ?_
      refine R_callV (As := [.int (((rdj σ6 54 p2) &&& (1023 : Int64))).toInt32, .ref (B 10)]) (C := RX7) (q0 := 8) (ci := 7) (N := 12) (T := TX7) (fs := cf_8 B) F (ct_X7layNumberT l E B _ ((((rdj σ6 54 p2) &&& (1023 : Int64))).toInt32) _ hw) (cwV 2 F.2.2.2.2.2.2.2.2.2.2 g_X7traceT_X7layNumberT_63 rfl rfl rfl (by decide +kernel) ⟨Nat.le_of_ble_eq_true rfl, Nat.le_of_ble_eq_true rfl⟩) ⟨rfl, rfl⟩ rfl (fun _ => rfl) rfl rfl (Nat.le_of_ble_eq_true rfl) dX7_trace_50 (fun σ8 hw => ?_)
      exact R_sub [] rfl (J_53 σ8 hw)
