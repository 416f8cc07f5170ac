def b_X1isGateKind_14 (Q : Int32 → VS → Prop) (k0 : Int32) (σ : VS) : Prop := (Bo k0 ∧ Q k0 σ)
def b_X1isGateKind_13 (Q : Int32 → VS → Prop) (σ : VS) : Prop := b_X1isGateKind_14 Q 0 σ
def wp_X1isGateKind (Q : Int32 → VS → Prop) (p1 : Int32) (σ : VS) : Prop := ((p1.toInt ≤ 0 → b_X1isGateKind_13 Q σ) ∧ (0 < p1.toInt → ((4 ≤ p1.toInt → b_X1isGateKind_13 Q σ) ∧ (p1.toInt < 4 → b_X1isGateKind_14 Q 1 σ))))
theorem dX1_isGateKind_0 : decode cX1_isGateKind 0 = .ok (.iload_n 0, 1) := by decide +kernel
theorem dX1_isGateKind_1 : decode cX1_isGateKind 1 = .ok (.ifCond .le 12, 3) := by decide +kernel
theorem dX1_isGateKind_4 : decode cX1_isGateKind 4 = .ok (.iload_n 0, 1) := by decide +kernel
theorem dX1_isGateKind_5 : decode cX1_isGateKind 5 = .ok (.iconst 4, 1) := by decide +kernel
theorem dX1_isGateKind_6 : decode cX1_isGateKind 6 = .ok (.if_icmp .ge 7, 3) := by decide +kernel
theorem dX1_isGateKind_9 : decode cX1_isGateKind 9 = .ok (.iconst 1, 1) := by decide +kernel
theorem dX1_isGateKind_10 : decode cX1_isGateKind 10 = .ok (.goto 4, 3) := by decide +kernel
theorem dX1_isGateKind_13 : decode cX1_isGateKind 13 = .ok (.iconst 0, 1) := by decide +kernel
theorem dX1_isGateKind_14 : decode cX1_isGateKind 14 = .ok (.ireturn, 1) := by decide +kernel
def wo_X1isGateKind : List Cond := [.code yX1_isGateKind cX1_isGateKind 1 (some .boolean)]
def wr_X1isGateKind : List Cond := (wfC ++ ([]))
def w_X1isGateKind : List Cond := wo_X1isGateKind ++ wr_X1isGateKind
theorem wg_X1isGateKind : GW w_X1isGateKind := GW_app (GW_of (by decide +kernel)) (GW_app (wg_fC) (GW_nil))
theorem in_X1isGateKind : ∀ w ∈ wfC, w ∈ w_X1isGateKind := fun _ h => List.mem_append_right _ (List.mem_append_left _ h)
set_option maxHeartbeats 4000000 in
set_option maxRecDepth 100000 in
theorem ct_X1isGateKind (l : Launch) (E : gE) (B : Nat → Nat) (Q : Int32 → VS → Prop) (p1 : Int32) (σ : VS) (hw : wp_X1isGateKind Q p1 σ) : CtI l E yX1_isGateKind w_X1isGateKind (({ frames := 0, cells := 0, slots := 0, locals := 0 } : Room)) (wc E B σ) [.int p1] (fun r w => ∃ σ' : VS, Q r σ' ∧ w = wc E B σ') := by
  refine VC_I (cc := cX1_isGateKind) (mL := 1) (rt := (some .boolean)) (lv0 := [(0, .int p1)]) rfl (by decide) rfl (Nat.le_of_ble_eq_true rfl) ?_
  intro p e s m below meth c A F
  replace F : Fx p s m _ meth c A E cX1_isGateKind 1 (some .boolean) RX1 w_X1isGateKind := F
  have J_14 : ∀ (k0 : Int32) (σ : VS), b_X1isGateKind_14 Q k0 σ → WB p l e (({ frames := 0, cells := 0, slots := 0, locals := 0 } : Room)) s m (#[.int p1]) below meth c (MQ below (va_Qi (fun r w => ∃ σ' : VS, Q r σ' ∧ w = wc E B σ') (AftU E A) A) (#[.int p1]) s (({ frames := 0, cells := 0, slots := 0, locals := 0 } : Room)).cells (({ frames := 0, cells := 0, slots := 0, locals := 0 } : Room)).slots A) A E (wc E B) 1 14 [] [.int k0] σ := by
    intro k0 σ hw
    unfold b_X1isGateKind_14 at hw
    exact R_iret (Qc := Q) F (nb_01 hw.1) dX1_isGateKind_14 hw.2
  have J_13 : ∀ (σ : VS), b_X1isGateKind_13 Q σ → WB p l e (({ frames := 0, cells := 0, slots := 0, locals := 0 } : Room)) s m (#[.int p1]) below meth c (MQ below (va_Qi (fun r w => ∃ σ' : VS, Q r σ' ∧ w = wc E B σ') (AftU E A) A) (#[.int p1]) s (({ frames := 0, cells := 0, slots := 0, locals := 0 } : Room)).cells (({ frames := 0, cells := 0, slots := 0, locals := 0 } : Room)).slots A) A E (wc E B) 1 13 [] [] σ := by
    intro σ hw
    unfold b_X1isGateKind_13 at hw
    refine R_iconst F 0 dX1_isGateKind_13 (by decide) ?_
    exact R_sub [] rfl (J_14 0 σ hw)
  unfold wp_X1isGateKind at hw
  refine R_iload_n F dX1_isGateKind_0 rfl 0 rfl ?_
  refine R_if_le (tgt := 13) F dX1_isGateKind_1 (by decide) (fun hc => ?_) (fun hc => ?_)
  · replace hw := hw.1 hc
    exact R_sub [] rfl (J_13 σ hw)
  · replace hw := hw.2 hc
    refine R_iload_n F dX1_isGateKind_4 rfl 0 rfl ?_
    refine R_iconst F 4 dX1_isGateKind_5 (by decide) ?_
    refine R_icmp_ge (tgt := 13) F dX1_isGateKind_6 (by decide) (fun hc => ?_) (fun hc => ?_)
    · replace hw := hw.1 hc
      exact R_sub [] rfl (J_13 σ hw)
    · replace hw := hw.2 hc
      refine R_iconst F 1 dX1_isGateKind_9 (by decide) ?_
      refine R_goto (tgt := 14) F dX1_isGateKind_10 (by decide) ?_
      exact R_sub [] rfl (J_14 1 σ hw)
def b_X1has_17 (Q : Int32 → VS → Prop) (k0 : Int32) (σ : VS) : Prop := (Bo k0 ∧ Q k0 σ)
def b_X1has_16 (Q : Int32 → VS → Prop) (σ : VS) : Prop := b_X1has_17 Q 0 σ
def wp_X1has (Q : Int32 → VS → Prop) (p1 : Int32) (σ : VS) : Prop := ((p1.toInt < 0 → b_X1has_16 Q σ) ∧ (0 ≤ p1.toInt → (((σ.1 2).toInt ≤ p1.toInt → b_X1has_16 Q σ) ∧ (p1.toInt < (σ.1 2).toInt → b_X1has_17 Q 1 σ))))
theorem dX1_has_0 : decode cX1_has 0 = .ok (.iload_n 1, 1) := by decide +kernel
theorem dX1_has_1 : decode cX1_has 1 = .ok (.ifCond .lt 15, 3) := by decide +kernel
theorem dX1_has_4 : decode cX1_has 4 = .ok (.iload_n 1, 1) := by decide +kernel
theorem dX1_has_5 : decode cX1_has 5 = .ok (.aload_n 0, 1) := by decide +kernel
theorem dX1_has_6 : decode cX1_has 6 = .ok (.getfield 52, 3) := by decide +kernel
theorem dX1_has_9 : decode cX1_has 9 = .ok (.if_icmp .ge 7, 3) := by decide +kernel
theorem dX1_has_12 : decode cX1_has 12 = .ok (.iconst 1, 1) := by decide +kernel
theorem dX1_has_13 : decode cX1_has 13 = .ok (.goto 4, 3) := by decide +kernel
theorem dX1_has_16 : decode cX1_has 16 = .ok (.iconst 0, 1) := by decide +kernel
theorem dX1_has_17 : decode cX1_has 17 = .ok (.ireturn, 1) := by decide +kernel
def wo_X1has : List Cond := [.code yX1_has cX1_has 2 (some .boolean)]
def wr_X1has : List Cond := (wfC ++ ([]))
def w_X1has : List Cond := wo_X1has ++ wr_X1has
theorem wg_X1has : GW w_X1has := GW_app (GW_of (by decide +kernel)) (GW_app (wg_fC) (GW_nil))
theorem in_X1has : ∀ w ∈ wfC, w ∈ w_X1has := fun _ h => List.mem_append_right _ (List.mem_append_left _ h)
set_option maxHeartbeats 4000000 in
set_option maxRecDepth 100000 in
theorem ct_X1has (l : Launch) (E : gE) (B : Nat → Nat) (Q : Int32 → VS → Prop) (p1 : Int32) (σ : VS) (hw : wp_X1has Q p1 σ) : CtI l E yX1_has w_X1has (({ frames := 0, cells := 0, slots := 0, locals := 0 } : Room)) (wc E B σ) [.ref (B 1), .int p1] (fun r w => ∃ σ' : VS, Q r σ' ∧ w = wc E B σ') := by
  refine VC_I (cc := cX1_has) (mL := 2) (rt := (some .boolean)) (lv0 := [(0, .ref (B 1)), (1, .int p1)]) rfl (by decide) rfl (Nat.le_of_ble_eq_true rfl) ?_
  intro p e s m below meth c A F
  replace F : Fx p s m _ meth c A E cX1_has 2 (some .boolean) RX1 w_X1has := F
  have J_17 : ∀ (k0 : Int32) (σ : VS), b_X1has_17 Q k0 σ → WB p l e (({ frames := 0, cells := 0, slots := 0, locals := 0 } : Room)) s m (#[.ref (B 1), .int p1]) below meth c (MQ below (va_Qi (fun r w => ∃ σ' : VS, Q r σ' ∧ w = wc E B σ') (AftU E A) A) (#[.ref (B 1), .int p1]) s (({ frames := 0, cells := 0, slots := 0, locals := 0 } : Room)).cells (({ frames := 0, cells := 0, slots := 0, locals := 0 } : Room)).slots A) A E (wc E B) 2 17 [] [.int k0] σ := by
    intro k0 σ hw
    unfold b_X1has_17 at hw
    exact R_iret (Qc := Q) F (nb_01 hw.1) dX1_has_17 hw.2
  have J_16 : ∀ (σ : VS), b_X1has_16 Q σ → WB p l e (({ frames := 0, cells := 0, slots := 0, locals := 0 } : Room)) s m (#[.ref (B 1), .int p1]) below meth c (MQ below (va_Qi (fun r w => ∃ σ' : VS, Q r σ' ∧ w = wc E B σ') (AftU E A) A) (#[.ref (B 1), .int p1]) s (({ frames := 0, cells := 0, slots := 0, locals := 0 } : Room)).cells (({ frames := 0, cells := 0, slots := 0, locals := 0 } : Room)).slots A) A E (wc E B) 2 16 [] [] σ := by
    intro σ hw
    unfold b_X1has_16 at hw
    refine R_iconst F 0 dX1_has_16 (by decide) ?_
    exact R_sub [] rfl (J_17 0 σ hw)
  unfold wp_X1has at hw
  refine R_iload_n F dX1_has_0 rfl 1 rfl ?_
  refine R_if_lt (tgt := 16) F dX1_has_1 (by decide) (fun hc => ?_) (fun hc => ?_)
  · replace hw := hw.1 hc
    exact R_sub [] rfl (J_16 σ hw)
  · replace hw := hw.2 hc
    refine R_iload_n F dX1_has_4 rfl 1 rfl ?_
    refine R_aload_n F dX1_has_5 rfl 0 rfl ?_
    refine gc_RX1_52_1 F in_X1has dX1_has_6 ?_
    refine R_icmp_ge (tgt := 16) F dX1_has_9 (by decide) (fun hc => ?_) (fun hc => ?_)
    · replace hw := hw.1 hc
      exact R_sub [] rfl (J_16 σ hw)
    · replace hw := hw.2 hc
      refine R_iconst F 1 dX1_has_12 (by decide) ?_
      refine R_goto (tgt := 17) F dX1_has_13 (by decide) ?_
      exact R_sub [] rfl (J_17 1 σ hw)
def b_X1hasInput_27 (Q : Int32 → VS → Prop) (k0 : Int32) (σ : VS) : Prop := (Bo k0 ∧ Q k0 σ)
def b_X1hasInput_26 (Q : Int32 → VS → Prop) (σ : VS) : Prop := b_X1hasInput_27 Q 0 σ
def wp_X1hasInput (Q : Int32 → VS → Prop) (p1 : Int32) (p2 : Int32) (σ : VS) : Prop := wp_X1has (fun (r1 : Int32) (σ2 : VS) => ((r1.toInt = 0 → b_X1hasInput_26 Q σ2) ∧ (r1.toInt ≠ 0 → ((p2.toInt < 0 → b_X1hasInput_26 Q σ2) ∧ (0 ≤ p2.toInt → (In p1 50 ∧ (((rd σ2 12 p1).toInt ≤ p2.toInt → b_X1hasInput_26 Q σ2) ∧ (p2.toInt < (rd σ2 12 p1).toInt → b_X1hasInput_27 Q 1 σ2)))))))) p1 σ
theorem dX1_hasInput_0 : decode cX1_hasInput 0 = .ok (.aload_n 0, 1) := by decide +kernel
theorem dX1_hasInput_1 : decode cX1_hasInput 1 = .ok (.iload_n 1, 1) := by decide +kernel
theorem dX1_hasInput_2 : decode cX1_hasInput 2 = .ok (.invokevirtual 56, 3) := by decide +kernel
theorem dX1_hasInput_5 : decode cX1_hasInput 5 = .ok (.ifCond .eq 21, 3) := by decide +kernel
theorem dX1_hasInput_8 : decode cX1_hasInput 8 = .ok (.iload_n 2, 1) := by decide +kernel
theorem dX1_hasInput_9 : decode cX1_hasInput 9 = .ok (.ifCond .lt 17, 3) := by decide +kernel
theorem dX1_hasInput_12 : decode cX1_hasInput 12 = .ok (.iload_n 2, 1) := by decide +kernel
theorem dX1_hasInput_13 : decode cX1_hasInput 13 = .ok (.aload_n 0, 1) := by decide +kernel
theorem dX1_hasInput_14 : decode cX1_hasInput 14 = .ok (.getfield 15, 3) := by decide +kernel
theorem dX1_hasInput_17 : decode cX1_hasInput 17 = .ok (.iload_n 1, 1) := by decide +kernel
theorem dX1_hasInput_18 : decode cX1_hasInput 18 = .ok (.iaload, 1) := by decide +kernel
theorem dX1_hasInput_19 : decode cX1_hasInput 19 = .ok (.if_icmp .ge 7, 3) := by decide +kernel
theorem dX1_hasInput_22 : decode cX1_hasInput 22 = .ok (.iconst 1, 1) := by decide +kernel
theorem dX1_hasInput_23 : decode cX1_hasInput 23 = .ok (.goto 4, 3) := by decide +kernel
theorem dX1_hasInput_26 : decode cX1_hasInput 26 = .ok (.iconst 0, 1) := by decide +kernel
theorem dX1_hasInput_27 : decode cX1_hasInput 27 = .ok (.ireturn, 1) := by decide +kernel
def wo_X1hasInput : List Cond := [.code yX1_hasInput cX1_hasInput 3 (some .boolean), .methodLink RX1 56 yX1_has, .instanceMethod yX1_has, .selects RX1 yX1_has yX1_has, .initialized RX1]
def wr_X1hasInput : List Cond := (wfC ++ (w_X1has ++ ([])))
def w_X1hasInput : List Cond := wo_X1hasInput ++ wr_X1hasInput
theorem wg_X1hasInput : GW w_X1hasInput := GW_app (GW_of (by decide +kernel)) (GW_app (wg_fC) (GW_app (wg_X1has) (GW_nil)))
theorem in_X1hasInput : ∀ w ∈ wfC, w ∈ w_X1hasInput := fun _ h => List.mem_append_right _ (List.mem_append_left _ h)
theorem g_X1hasInput_X1has_56 : GoodIn w_X1hasInput (wsV RX1 56 RX1 yX1_has w_X1has) := goodIn_app (gi_left (goodIn_of _ (by decide +kernel))) (fun w h => ⟨List.mem_append_right _ (List.mem_append_right _ (List.mem_append_left _ h)), wg_X1has w h⟩)
set_option maxHeartbeats 4000000 in
set_option maxRecDepth 100000 in
theorem ct_X1hasInput (l : Launch) (E : gE) (B : Nat → Nat) (Q : Int32 → VS → Prop) (p1 : Int32) (p2 : Int32) (σ : VS) (hw : wp_X1hasInput Q p1 p2 σ) : CtI l E yX1_hasInput w_X1hasInput (({ frames := 1, cells := 0, slots := 0, locals := 21 } : Room)) (wc E B σ) [.ref (B 1), .int p1, .int p2] (fun r w => ∃ σ' : VS, Q r σ' ∧ w = wc E B σ') := by
  refine VC_I (cc := cX1_hasInput) (mL := 3) (rt := (some .boolean)) (lv0 := [(0, .ref (B 1)), (1, .int p1), (2, .int p2)]) rfl (by decide) rfl (Nat.le_of_ble_eq_true rfl) ?_
  intro p e s m below meth c A F
  replace F : Fx p s m _ meth c A E cX1_hasInput 3 (some .boolean) RX1 w_X1hasInput := F
  have J_27 : ∀ (k0 : Int32) (σ : VS), b_X1hasInput_27 Q k0 σ → WB p l e (({ frames := 1, cells := 0, slots := 0, locals := 21 } : Room)) s m (#[.ref (B 1), .int p1, .int p2]) below meth c (MQ below (va_Qi (fun r w => ∃ σ' : VS, Q r σ' ∧ w = wc E B σ') (AftU E A) A) (#[.ref (B 1), .int p1, .int p2]) s (({ frames := 1, cells := 0, slots := 0, locals := 21 } : Room)).cells (({ frames := 1, cells := 0, slots := 0, locals := 21 } : Room)).slots A) A E (wc E B) 3 27 [] [.int k0] σ := by
    intro k0 σ hw
    unfold b_X1hasInput_27 at hw
    exact R_iret (Qc := Q) F (nb_01 hw.1) dX1_hasInput_27 hw.2
  have J_26 : ∀ (σ : VS), b_X1hasInput_26 Q σ → WB p l e (({ frames := 1, cells := 0, slots := 0, locals := 21 } : Room)) s m (#[.ref (B 1), .int p1, .int p2]) below meth c (MQ below (va_Qi (fun r w => ∃ σ' : VS, Q r σ' ∧ w = wc E B σ') (AftU E A) A) (#[.ref (B 1), .int p1, .int p2]) s (({ frames := 1, cells := 0, slots := 0, locals := 21 } : Room)).cells (({ frames := 1, cells := 0, slots := 0, locals := 21 } : Room)).slots A) A E (wc E B) 3 26 [] [] σ := by
    intro σ hw
    unfold b_X1hasInput_26 at hw
    refine R_iconst F 0 dX1_hasInput_26 (by decide) ?_
    exact R_sub [] rfl (J_27 0 σ hw)
  unfold wp_X1hasInput at hw
  refine R_aload_n F dX1_hasInput_0 rfl 0 rfl ?_
  refine R_iload_n F dX1_hasInput_1 rfl 1 rfl ?_
  refine R_callI (As := [.int p1]) (C := RX1) (q0 := 1) (ci := 1) (N := 13) (T := TX1) (fs := cf_1 B) F (ct_X1has l E B _ p1 _ hw) (cwV 1 F.2.2.2.2.2.2.2.2.2.2 g_X1hasInput_X1has_56 rfl rfl rfl (by decide +kernel) ⟨Nat.le_of_ble_eq_true rfl, Nat.le_of_ble_eq_true rfl⟩) ⟨rfl, rfl⟩ rfl (fun _ => rfl) rfl rfl (Nat.le_of_ble_eq_true rfl) dX1_hasInput_2 (fun r1 σ2 hw => ?_)
  refine R_if_eq (tgt := 26) F dX1_hasInput_5 (by decide) (fun hc => ?_) (fun hc => ?_)
  · replace hw := hw.1 hc
    exact R_sub [] rfl (J_26 σ2 hw)
  · replace hw := hw.2 hc
    refine R_iload_n F dX1_hasInput_8 rfl 2 rfl ?_
    refine R_if_lt (tgt := 26) F dX1_hasInput_9 (by decide) (fun hc => ?_) (fun hc => ?_)
    · replace hw := hw.1 hc
      exact R_sub [] rfl (J_26 σ2 hw)
    · replace hw := hw.2 hc
      refine R_iload_n F dX1_hasInput_12 rfl 2 rfl ?_
      refine R_aload_n F dX1_hasInput_13 rfl 0 rfl ?_
      refine gc_RX1_15_1 F in_X1hasInput dX1_hasInput_14 ?_
      refine R_iload_n F dX1_hasInput_17 rfl 1 rfl ?_
      refine R_ldi F qc_12 dX1_hasInput_18 hw.1 ?_
      replace hw := hw.2
      refine R_icmp_ge (tgt := 26) F dX1_hasInput_19 (by decide) (fun hc => ?_) (fun hc => ?_)
      · replace hw := hw.1 hc
        exact R_sub [] rfl (J_26 σ2 hw)
      · replace hw := hw.2 hc
        refine R_iconst F 1 dX1_hasInput_22 (by decide) ?_
        refine R_goto (tgt := 27) F dX1_hasInput_23 (by decide) ?_
        exact R_sub [] rfl (J_27 1 σ2 hw)
def b_X1hasSize_24 (Q : Int32 → VS → Prop) (k0 : Int32) (σ : VS) : Prop := (Bo k0 ∧ Q k0 σ)
def b_X1hasSize_23 (Q : Int32 → VS → Prop) (σ : VS) : Prop := b_X1hasSize_24 Q 0 σ
def wp_X1hasSize (Q : Int32 → VS → Prop) (p1 : Int32) (σ : VS) : Prop := (In p1 50 ∧ (((rd σ 11 p1).toInt = 0 → b_X1hasSize_23 Q σ) ∧ ((rd σ 11 p1).toInt ≠ 0 → (In p1 50 ∧ (((rd σ 11 p1).toInt = 5 → b_X1hasSize_23 Q σ) ∧ ((rd σ 11 p1).toInt ≠ 5 → b_X1hasSize_24 Q 1 σ))))))
theorem dX1_hasSize_0 : decode cX1_hasSize 0 = .ok (.aload_n 0, 1) := by decide +kernel
theorem dX1_hasSize_1 : decode cX1_hasSize 1 = .ok (.getfield 9, 3) := by decide +kernel
theorem dX1_hasSize_4 : decode cX1_hasSize 4 = .ok (.iload_n 1, 1) := by decide +kernel
theorem dX1_hasSize_5 : decode cX1_hasSize 5 = .ok (.iaload, 1) := by decide +kernel
theorem dX1_hasSize_6 : decode cX1_hasSize 6 = .ok (.ifCond .eq 17, 3) := by decide +kernel
theorem dX1_hasSize_9 : decode cX1_hasSize 9 = .ok (.aload_n 0, 1) := by decide +kernel
theorem dX1_hasSize_10 : decode cX1_hasSize 10 = .ok (.getfield 9, 3) := by decide +kernel
theorem dX1_hasSize_13 : decode cX1_hasSize 13 = .ok (.iload_n 1, 1) := by decide +kernel
theorem dX1_hasSize_14 : decode cX1_hasSize 14 = .ok (.iaload, 1) := by decide +kernel
theorem dX1_hasSize_15 : decode cX1_hasSize 15 = .ok (.iconst 5, 1) := by decide +kernel
theorem dX1_hasSize_16 : decode cX1_hasSize 16 = .ok (.if_icmp .eq 7, 3) := by decide +kernel
theorem dX1_hasSize_19 : decode cX1_hasSize 19 = .ok (.iconst 1, 1) := by decide +kernel
theorem dX1_hasSize_20 : decode cX1_hasSize 20 = .ok (.goto 4, 3) := by decide +kernel
theorem dX1_hasSize_23 : decode cX1_hasSize 23 = .ok (.iconst 0, 1) := by decide +kernel
theorem dX1_hasSize_24 : decode cX1_hasSize 24 = .ok (.ireturn, 1) := by decide +kernel
def wo_X1hasSize : List Cond := [.code yX1_hasSize cX1_hasSize 2 (some .boolean)]
def wr_X1hasSize : List Cond := (wfC ++ ([]))
def w_X1hasSize : List Cond := wo_X1hasSize ++ wr_X1hasSize
theorem wg_X1hasSize : GW w_X1hasSize := GW_app (GW_of (by decide +kernel)) (GW_app (wg_fC) (GW_nil))
theorem in_X1hasSize : ∀ w ∈ wfC, w ∈ w_X1hasSize := fun _ h => List.mem_append_right _ (List.mem_append_left _ h)
set_option maxHeartbeats 4000000 in
set_option maxRecDepth 100000 in
theorem ct_X1hasSize (l : Launch) (E : gE) (B : Nat → Nat) (Q : Int32 → VS → Prop) (p1 : Int32) (σ : VS) (hw : wp_X1hasSize Q p1 σ) : CtI l E yX1_hasSize w_X1hasSize (({ frames := 0, cells := 0, slots := 0, locals := 0 } : Room)) (wc E B σ) [.ref (B 1), .int p1] (fun r w => ∃ σ' : VS, Q r σ' ∧ w = wc E B σ') := by
  refine VC_I (cc := cX1_hasSize) (mL := 2) (rt := (some .boolean)) (lv0 := [(0, .ref (B 1)), (1, .int p1)]) rfl (by decide) rfl (Nat.le_of_ble_eq_true rfl) ?_
  intro p e s m below meth c A F
  replace F : Fx p s m _ meth c A E cX1_hasSize 2 (some .boolean) RX1 w_X1hasSize := F
  have J_24 : ∀ (k0 : Int32) (σ : VS), b_X1hasSize_24 Q k0 σ → WB p l e (({ frames := 0, cells := 0, slots := 0, locals := 0 } : Room)) s m (#[.ref (B 1), .int p1]) below meth c (MQ below (va_Qi (fun r w => ∃ σ' : VS, Q r σ' ∧ w = wc E B σ') (AftU E A) A) (#[.ref (B 1), .int p1]) s (({ frames := 0, cells := 0, slots := 0, locals := 0 } : Room)).cells (({ frames := 0, cells := 0, slots := 0, locals := 0 } : Room)).slots A) A E (wc E B) 2 24 [] [.int k0] σ := by
    intro k0 σ hw
    unfold b_X1hasSize_24 at hw
    exact R_iret (Qc := Q) F (nb_01 hw.1) dX1_hasSize_24 hw.2
  have J_23 : ∀ (σ : VS), b_X1hasSize_23 Q σ → WB p l e (({ frames := 0, cells := 0, slots := 0, locals := 0 } : Room)) s m (#[.ref (B 1), .int p1]) below meth c (MQ below (va_Qi (fun r w => ∃ σ' : VS, Q r σ' ∧ w = wc E B σ') (AftU E A) A) (#[.ref (B 1), .int p1]) s (({ frames := 0, cells := 0, slots := 0, locals := 0 } : Room)).cells (({ frames := 0, cells := 0, slots := 0, locals := 0 } : Room)).slots A) A E (wc E B) 2 23 [] [] σ := by
    intro σ hw
    unfold b_X1hasSize_23 at hw
    refine R_iconst F 0 dX1_hasSize_23 (by decide) ?_
    exact R_sub [] rfl (J_24 0 σ hw)
  unfold wp_X1hasSize at hw
  refine R_aload_n F dX1_hasSize_0 rfl 0 rfl ?_
  refine gc_RX1_9_1 F in_X1hasSize dX1_hasSize_1 ?_
  refine R_iload_n F dX1_hasSize_4 rfl 1 rfl ?_
  refine R_ldi F qc_11 dX1_hasSize_5 hw.1 ?_
  replace hw := hw.2
  refine R_if_eq (tgt := 23) F dX1_hasSize_6 (by decide) (fun hc => ?_) (fun hc => ?_)
  · replace hw := hw.1 hc
    exact R_sub [] rfl (J_23 σ hw)
  · replace hw := hw.2 hc
    refine R_aload_n F dX1_hasSize_9 rfl 0 rfl ?_
    refine gc_RX1_9_1 F in_X1hasSize dX1_hasSize_10 ?_
    refine R_iload_n F dX1_hasSize_13 rfl 1 rfl ?_
    refine R_ldi F qc_11 dX1_hasSize_14 hw.1 ?_
    replace hw := hw.2
    refine R_iconst F 5 dX1_hasSize_15 (by decide) ?_
    refine R_icmp_eq (tgt := 23) F dX1_hasSize_16 (by decide) (fun hc => ?_) (fun hc => ?_)
    · replace hw := hw.1 hc
      exact R_sub [] rfl (J_23 σ hw)
    · replace hw := hw.2 hc
      refine R_iconst F 1 dX1_hasSize_19 (by decide) ?_
      refine R_goto (tgt := 24) F dX1_hasSize_20 (by decide) ?_
      exact R_sub [] rfl (J_24 1 σ hw)
def wp_X1isGate (Q : Int32 → VS → Prop) (p1 : Int32) (σ : VS) : Prop := (In p1 50 ∧ wp_X1isGateKind (fun (r1 : Int32) (σ2 : VS) => (Bo r1 ∧ Q r1 σ2)) (rd σ 11 p1) σ)
theorem dX1_isGate_0 : decode cX1_isGate 0 = .ok (.aload_n 0, 1) := by decide +kernel
theorem dX1_isGate_1 : decode cX1_isGate 1 = .ok (.getfield 9, 3) := by decide +kernel
theorem dX1_isGate_4 : decode cX1_isGate 4 = .ok (.iload_n 1, 1) := by decide +kernel
theorem dX1_isGate_5 : decode cX1_isGate 5 = .ok (.iaload, 1) := by decide +kernel
theorem dX1_isGate_6 : decode cX1_isGate 6 = .ok (.invokestatic 60, 3) := by decide +kernel
theorem dX1_isGate_9 : decode cX1_isGate 9 = .ok (.ireturn, 1) := by decide +kernel
def wo_X1isGate : List Cond := [.code yX1_isGate cX1_isGate 2 (some .boolean), .methodLink RX1 60 yX1_isGateKind, .static yX1_isGateKind, .initialized RX1]
def wr_X1isGate : List Cond := (wfC ++ (w_X1isGateKind ++ ([])))
def w_X1isGate : List Cond := wo_X1isGate ++ wr_X1isGate
theorem wg_X1isGate : GW w_X1isGate := GW_app (GW_of (by decide +kernel)) (GW_app (wg_fC) (GW_app (wg_X1isGateKind) (GW_nil)))
theorem in_X1isGate : ∀ w ∈ wfC, w ∈ w_X1isGate := fun _ h => List.mem_append_right _ (List.mem_append_left _ h)
theorem g_X1isGate_X1isGateKind_60 : GoodIn w_X1isGate (va_wsS RX1 60 yX1_isGateKind w_X1isGateKind) := goodIn_app (gi_left (goodIn_of _ (by decide +kernel))) (fun w h => ⟨List.mem_append_right _ (List.mem_append_right _ (List.mem_append_left _ h)), wg_X1isGateKind w h⟩)
set_option maxHeartbeats 4000000 in
set_option maxRecDepth 100000 in
theorem ct_X1isGate (l : Launch) (E : gE) (B : Nat → Nat) (Q : Int32 → VS → Prop) (p1 : Int32) (σ : VS) (hw : wp_X1isGate Q p1 σ) : CtI l E yX1_isGate w_X1isGate (({ frames := 1, cells := 0, slots := 0, locals := 20 } : Room)) (wc E B σ) [.ref (B 1), .int p1] (fun r w => ∃ σ' : VS, Q r σ' ∧ w = wc E B σ') := by
  refine VC_I (cc := cX1_isGate) (mL := 2) (rt := (some .boolean)) (lv0 := [(0, .ref (B 1)), (1, .int p1)]) rfl (by decide) rfl (Nat.le_of_ble_eq_true rfl) ?_
  intro p e s m below meth c A F
  replace F : Fx p s m _ meth c A E cX1_isGate 2 (some .boolean) RX1 w_X1isGate := F
  unfold wp_X1isGate at hw
  refine R_aload_n F dX1_isGate_0 rfl 0 rfl ?_
  refine gc_RX1_9_1 F in_X1isGate dX1_isGate_1 ?_
  refine R_iload_n F dX1_isGate_4 rfl 1 rfl ?_
  refine R_ldi F qc_11 dX1_isGate_5 hw.1 ?_
  replace hw := hw.2
  refine R_callIS (As := [.int (rd σ 11 p1)]) (C := RX10) (q0 := 0) (ci := 10) (b := 0) (N := 69) (T := TX10) (fs := fun _ => []) F (ct_X1isGateKind l E B _ (rd σ 11 p1) _ hw) (va_cwS 1 F.2.2.2.2.2.2.2.2.2.2 g_X1isGate_X1isGateKind_60 rfl rfl rfl (by decide +kernel) ⟨Nat.le_of_ble_eq_true rfl, Nat.le_of_ble_eq_true rfl⟩) ⟨rfl, rfl⟩ rfl rfl (Nat.le_of_ble_eq_true rfl) dX1_isGate_6 (fun r1 σ2 hw => ?_)
  exact R_iret (Qc := Q) F (nb_01 hw.1) dX1_isGate_9 hw.2
def b_X1isStart_24 (Q : Int32 → VS → Prop) (k0 : Int32) (σ : VS) : Prop := (Bo k0 ∧ Q k0 σ)
def b_X1isStart_19 (Q : Int32 → VS → Prop) (σ : VS) : Prop := b_X1isStart_24 Q 1 σ
def wp_X1isStart (Q : Int32 → VS → Prop) (p1 : Int32) (σ : VS) : Prop := (In p1 50 ∧ (((rd σ 11 p1).toInt = 0 → b_X1isStart_19 Q σ) ∧ ((rd σ 11 p1).toInt ≠ 0 → (In p1 50 ∧ (((rd σ 11 p1).toInt ≠ 4 → b_X1isStart_24 Q 0 σ) ∧ ((rd σ 11 p1).toInt = 4 → b_X1isStart_19 Q σ))))))
theorem dX1_isStart_0 : decode cX1_isStart 0 = .ok (.aload_n 0, 1) := by decide +kernel
theorem dX1_isStart_1 : decode cX1_isStart 1 = .ok (.getfield 9, 3) := by decide +kernel
theorem dX1_isStart_4 : decode cX1_isStart 4 = .ok (.iload_n 1, 1) := by decide +kernel
theorem dX1_isStart_5 : decode cX1_isStart 5 = .ok (.iaload, 1) := by decide +kernel
theorem dX1_isStart_6 : decode cX1_isStart 6 = .ok (.ifCond .eq 13, 3) := by decide +kernel
theorem dX1_isStart_9 : decode cX1_isStart 9 = .ok (.aload_n 0, 1) := by decide +kernel
theorem dX1_isStart_10 : decode cX1_isStart 10 = .ok (.getfield 9, 3) := by decide +kernel
theorem dX1_isStart_13 : decode cX1_isStart 13 = .ok (.iload_n 1, 1) := by decide +kernel
theorem dX1_isStart_14 : decode cX1_isStart 14 = .ok (.iaload, 1) := by decide +kernel
theorem dX1_isStart_15 : decode cX1_isStart 15 = .ok (.iconst 4, 1) := by decide +kernel
theorem dX1_isStart_16 : decode cX1_isStart 16 = .ok (.if_icmp .ne 7, 3) := by decide +kernel
theorem dX1_isStart_23 : decode cX1_isStart 23 = .ok (.iconst 0, 1) := by decide +kernel
theorem dX1_isStart_19 : decode cX1_isStart 19 = .ok (.iconst 1, 1) := by decide +kernel
theorem dX1_isStart_20 : decode cX1_isStart 20 = .ok (.goto 4, 3) := by decide +kernel
theorem dX1_isStart_24 : decode cX1_isStart 24 = .ok (.ireturn, 1) := by decide +kernel
def wo_X1isStart : List Cond := [.code yX1_isStart cX1_isStart 2 (some .boolean)]
def wr_X1isStart : List Cond := (wfC ++ ([]))
def w_X1isStart : List Cond := wo_X1isStart ++ wr_X1isStart
theorem wg_X1isStart : GW w_X1isStart := GW_app (GW_of (by decide +kernel)) (GW_app (wg_fC) (GW_nil))
theorem in_X1isStart : ∀ w ∈ wfC, w ∈ w_X1isStart := fun _ h => List.mem_append_right _ (List.mem_append_left _ h)
set_option maxHeartbeats 4000000 in
set_option maxRecDepth 100000 in
theorem ct_X1isStart (l : Launch) (E : gE) (B : Nat → Nat) (Q : Int32 → VS → Prop) (p1 : Int32) (σ : VS) (hw : wp_X1isStart Q p1 σ) : CtI l E yX1_isStart w_X1isStart (({ frames := 0, cells := 0, slots := 0, locals := 0 } : Room)) (wc E B σ) [.ref (B 1), .int p1] (fun r w => ∃ σ' : VS, Q r σ' ∧ w = wc E B σ') := by
  refine VC_I (cc := cX1_isStart) (mL := 2) (rt := (some .boolean)) (lv0 := [(0, .ref (B 1)), (1, .int p1)]) rfl (by decide) rfl (Nat.le_of_ble_eq_true rfl) ?_
  intro p e s m below meth c A F
  replace F : Fx p s m _ meth c A E cX1_isStart 2 (some .boolean) RX1 w_X1isStart := F
  have J_24 : ∀ (k0 : Int32) (σ : VS), b_X1isStart_24 Q k0 σ → WB p l e (({ frames := 0, cells := 0, slots := 0, locals := 0 } : Room)) s m (#[.ref (B 1), .int p1]) below meth c (MQ below (va_Qi (fun r w => ∃ σ' : VS, Q r σ' ∧ w = wc E B σ') (AftU E A) A) (#[.ref (B 1), .int p1]) s (({ frames := 0, cells := 0, slots := 0, locals := 0 } : Room)).cells (({ frames := 0, cells := 0, slots := 0, locals := 0 } : Room)).slots A) A E (wc E B) 2 24 [] [.int k0] σ := by
    intro k0 σ hw
    unfold b_X1isStart_24 at hw
    exact R_iret (Qc := Q) F (nb_01 hw.1) dX1_isStart_24 hw.2
  have J_19 : ∀ (σ : VS), b_X1isStart_19 Q σ → WB p l e (({ frames := 0, cells := 0, slots := 0, locals := 0 } : Room)) s m (#[.ref (B 1), .int p1]) below meth c (MQ below (va_Qi (fun r w => ∃ σ' : VS, Q r σ' ∧ w = wc E B σ') (AftU E A) A) (#[.ref (B 1), .int p1]) s (({ frames := 0, cells := 0, slots := 0, locals := 0 } : Room)).cells (({ frames := 0, cells := 0, slots := 0, locals := 0 } : Room)).slots A) A E (wc E B) 2 19 [] [] σ := by
    intro σ hw
    unfold b_X1isStart_19 at hw
    refine R_iconst F 1 dX1_isStart_19 (by decide) ?_
    refine R_goto (tgt := 24) F dX1_isStart_20 (by decide) ?_
    exact R_sub [] rfl (J_24 1 σ hw)
  unfold wp_X1isStart at hw
  refine R_aload_n F dX1_isStart_0 rfl 0 rfl ?_
  refine gc_RX1_9_1 F in_X1isStart dX1_isStart_1 ?_
  refine R_iload_n F dX1_isStart_4 rfl 1 rfl ?_
  refine R_ldi F qc_11 dX1_isStart_5 hw.1 ?_
  replace hw := hw.2
  refine R_if_eq (tgt := 19) F dX1_isStart_6 (by decide) (fun hc => ?_) (fun hc => ?_)
  · replace hw := hw.1 hc
    exact R_sub [] rfl (J_19 σ hw)
  · replace hw := hw.2 hc
    refine R_aload_n F dX1_isStart_9 rfl 0 rfl ?_
    refine gc_RX1_9_1 F in_X1isStart dX1_isStart_10 ?_
    refine R_iload_n F dX1_isStart_13 rfl 1 rfl ?_
    refine R_ldi F qc_11 dX1_isStart_14 hw.1 ?_
    replace hw := hw.2
    refine R_iconst F 4 dX1_isStart_15 (by decide) ?_
    refine R_icmp_ne (tgt := 23) F dX1_isStart_16 (by decide) (fun hc => ?_) (fun hc => ?_)
    · replace hw := hw.1 hc
      refine R_iconst F 0 dX1_isStart_23 (by decide) ?_
      exact R_sub [] rfl (J_24 0 σ hw)
    · replace hw := hw.2 hc
      exact R_sub [] rfl (J_19 σ hw)
def b_X1isTarget_25 (Q : Int32 → VS → Prop) (k0 : Int32) (σ : VS) : Prop := (Bo k0 ∧ Q k0 σ)
def b_X1isTarget_20 (Q : Int32 → VS → Prop) (σ : VS) : Prop := b_X1isTarget_25 Q 1 σ
def wp_X1isTarget (Q : Int32 → VS → Prop) (p1 : Int32) (σ : VS) : Prop := (In p1 50 ∧ (((rd σ 11 p1).toInt = 4 → b_X1isTarget_20 Q σ) ∧ ((rd σ 11 p1).toInt ≠ 4 → (In p1 50 ∧ (((rd σ 11 p1).toInt ≠ 5 → b_X1isTarget_25 Q 0 σ) ∧ ((rd σ 11 p1).toInt = 5 → b_X1isTarget_20 Q σ))))))
theorem dX1_isTarget_0 : decode cX1_isTarget 0 = .ok (.aload_n 0, 1) := by decide +kernel
theorem dX1_isTarget_1 : decode cX1_isTarget 1 = .ok (.getfield 9, 3) := by decide +kernel
theorem dX1_isTarget_4 : decode cX1_isTarget 4 = .ok (.iload_n 1, 1) := by decide +kernel
theorem dX1_isTarget_5 : decode cX1_isTarget 5 = .ok (.iaload, 1) := by decide +kernel
theorem dX1_isTarget_6 : decode cX1_isTarget 6 = .ok (.iconst 4, 1) := by decide +kernel
theorem dX1_isTarget_7 : decode cX1_isTarget 7 = .ok (.if_icmp .eq 13, 3) := by decide +kernel
theorem dX1_isTarget_10 : decode cX1_isTarget 10 = .ok (.aload_n 0, 1) := by decide +kernel
theorem dX1_isTarget_11 : decode cX1_isTarget 11 = .ok (.getfield 9, 3) := by decide +kernel
theorem dX1_isTarget_14 : decode cX1_isTarget 14 = .ok (.iload_n 1, 1) := by decide +kernel
theorem dX1_isTarget_15 : decode cX1_isTarget 15 = .ok (.iaload, 1) := by decide +kernel
theorem dX1_isTarget_16 : decode cX1_isTarget 16 = .ok (.iconst 5, 1) := by decide +kernel
theorem dX1_isTarget_17 : decode cX1_isTarget 17 = .ok (.if_icmp .ne 7, 3) := by decide +kernel
theorem dX1_isTarget_24 : decode cX1_isTarget 24 = .ok (.iconst 0, 1) := by decide +kernel
theorem dX1_isTarget_20 : decode cX1_isTarget 20 = .ok (.iconst 1, 1) := by decide +kernel
theorem dX1_isTarget_21 : decode cX1_isTarget 21 = .ok (.goto 4, 3) := by decide +kernel
theorem dX1_isTarget_25 : decode cX1_isTarget 25 = .ok (.ireturn, 1) := by decide +kernel
def wo_X1isTarget : List Cond := [.code yX1_isTarget cX1_isTarget 2 (some .boolean)]
def wr_X1isTarget : List Cond := (wfC ++ ([]))
def w_X1isTarget : List Cond := wo_X1isTarget ++ wr_X1isTarget
theorem wg_X1isTarget : GW w_X1isTarget := GW_app (GW_of (by decide +kernel)) (GW_app (wg_fC) (GW_nil))
theorem in_X1isTarget : ∀ w ∈ wfC, w ∈ w_X1isTarget := fun _ h => List.mem_append_right _ (List.mem_append_left _ h)
set_option maxHeartbeats 4000000 in
set_option maxRecDepth 100000 in
theorem ct_X1isTarget (l : Launch) (E : gE) (B : Nat → Nat) (Q : Int32 → VS → Prop) (p1 : Int32) (σ : VS) (hw : wp_X1isTarget Q p1 σ) : CtI l E yX1_isTarget w_X1isTarget (({ frames := 0, cells := 0, slots := 0, locals := 0 } : Room)) (wc E B σ) [.ref (B 1), .int p1] (fun r w => ∃ σ' : VS, Q r σ' ∧ w = wc E B σ') := by
  refine VC_I (cc := cX1_isTarget) (mL := 2) (rt := (some .boolean)) (lv0 := [(0, .ref (B 1)), (1, .int p1)]) rfl (by decide) rfl (Nat.le_of_ble_eq_true rfl) ?_
  intro p e s m below meth c A F
  replace F : Fx p s m _ meth c A E cX1_isTarget 2 (some .boolean) RX1 w_X1isTarget := F
  have J_25 : ∀ (k0 : Int32) (σ : VS), b_X1isTarget_25 Q k0 σ → WB p l e (({ frames := 0, cells := 0, slots := 0, locals := 0 } : Room)) s m (#[.ref (B 1), .int p1]) below meth c (MQ below (va_Qi (fun r w => ∃ σ' : VS, Q r σ' ∧ w = wc E B σ') (AftU E A) A) (#[.ref (B 1), .int p1]) s (({ frames := 0, cells := 0, slots := 0, locals := 0 } : Room)).cells (({ frames := 0, cells := 0, slots := 0, locals := 0 } : Room)).slots A) A E (wc E B) 2 25 [] [.int k0] σ := by
    intro k0 σ hw
    unfold b_X1isTarget_25 at hw
    exact R_iret (Qc := Q) F (nb_01 hw.1) dX1_isTarget_25 hw.2
  have J_20 : ∀ (σ : VS), b_X1isTarget_20 Q σ → WB p l e (({ frames := 0, cells := 0, slots := 0, locals := 0 } : Room)) s m (#[.ref (B 1), .int p1]) below meth c (MQ below (va_Qi (fun r w => ∃ σ' : VS, Q r σ' ∧ w = wc E B σ') (AftU E A) A) (#[.ref (B 1), .int p1]) s (({ frames := 0, cells := 0, slots := 0, locals := 0 } : Room)).cells (({ frames := 0, cells := 0, slots := 0, locals := 0 } : Room)).slots A) A E (wc E B) 2 20 [] [] σ := by
    intro σ hw
    unfold b_X1isTarget_20 at hw
    refine R_iconst F 1 dX1_isTarget_20 (by decide) ?_
    refine R_goto (tgt := 25) F dX1_isTarget_21 (by decide) ?_
    exact R_sub [] rfl (J_25 1 σ hw)
  unfold wp_X1isTarget at hw
  refine R_aload_n F dX1_isTarget_0 rfl 0 rfl ?_
  refine gc_RX1_9_1 F in_X1isTarget dX1_isTarget_1 ?_
  refine R_iload_n F dX1_isTarget_4 rfl 1 rfl ?_
  refine R_ldi F qc_11 dX1_isTarget_5 hw.1 ?_
  replace hw := hw.2
  refine R_iconst F 4 dX1_isTarget_6 (by decide) ?_
  refine R_icmp_eq (tgt := 20) F dX1_isTarget_7 (by decide) (fun hc => ?_) (fun hc => ?_)
  · replace hw := hw.1 hc
    exact R_sub [] rfl (J_20 σ hw)
  · replace hw := hw.2 hc
    refine R_aload_n F dX1_isTarget_10 rfl 0 rfl ?_
    refine gc_RX1_9_1 F in_X1isTarget dX1_isTarget_11 ?_
    refine R_iload_n F dX1_isTarget_14 rfl 1 rfl ?_
    refine R_ldi F qc_11 dX1_isTarget_15 hw.1 ?_
    replace hw := hw.2
    refine R_iconst F 5 dX1_isTarget_16 (by decide) ?_
    refine R_icmp_ne (tgt := 24) F dX1_isTarget_17 (by decide) (fun hc => ?_) (fun hc => ?_)
    · replace hw := hw.1 hc
      refine R_iconst F 0 dX1_isTarget_24 (by decide) ?_
      exact R_sub [] rfl (J_25 0 σ hw)
    · replace hw := hw.2 hc
      exact R_sub [] rfl (J_20 σ hw)
def b_X1loadOf_14 (X14 : Int32 → Int32 → Int32 → VS → Prop) (Q : Int32 → VS → Prop) (l1 : Int32) (l2 : Int32) (l3 : Int32) (σ : VS) : Prop := (In (l1 + 1) 51 ∧ (((rd σ 18 (l1 + 1)).toInt ≤ l3.toInt → Q l2 σ) ∧ (l3.toInt < (rd σ 18 (l1 + 1)).toInt → (In l3 200 ∧ (In ((rd σ 17 l3) / 4) 50 ∧ (∀ x3 : Int32, x3 = (l2 + (1 + (rd σ 14 ((rd σ 17 l3) / 4)))) → X14 l1 x3 (l3 + 1) σ))))))
def wp_X1loadOf (Q : Int32 → VS → Prop) (p1 : Int32) (σ : VS) : Prop := ∀ (X14 : Int32 → Int32 → Int32 → VS → Prop), (∀ (l1 : Int32) (l2 : Int32) (l3 : Int32) (σ : VS), b_X1loadOf_14 X14 Q l1 l2 l3 σ → X14 l1 l2 l3 σ) → (In p1 50 ∧ (∀ x1 : Int32, x1 = (rd σ 15 p1) → (In p1 51 ∧ (∀ x2 : Int32, x2 = (rd σ 18 p1) → X14 p1 x1 x2 σ))))
theorem dX1_loadOf_0 : decode cX1_loadOf 0 = .ok (.aload_n 0, 1) := by decide +kernel
theorem dX1_loadOf_1 : decode cX1_loadOf 1 = .ok (.getfield 24, 3) := by decide +kernel
theorem dX1_loadOf_4 : decode cX1_loadOf 4 = .ok (.iload_n 1, 1) := by decide +kernel
theorem dX1_loadOf_5 : decode cX1_loadOf 5 = .ok (.iaload, 1) := by decide +kernel
theorem dX1_loadOf_6 : decode cX1_loadOf 6 = .ok (.istore_n 2, 1) := by decide +kernel
theorem dX1_loadOf_7 : decode cX1_loadOf 7 = .ok (.aload_n 0, 1) := by decide +kernel
theorem dX1_loadOf_8 : decode cX1_loadOf 8 = .ok (.getfield 33, 3) := by decide +kernel
theorem dX1_loadOf_11 : decode cX1_loadOf 11 = .ok (.iload_n 1, 1) := by decide +kernel
theorem dX1_loadOf_12 : decode cX1_loadOf 12 = .ok (.iaload, 1) := by decide +kernel
theorem dX1_loadOf_13 : decode cX1_loadOf 13 = .ok (.istore_n 3, 1) := by decide +kernel
theorem dX1_loadOf_14 : decode cX1_loadOf 14 = .ok (.iload_n 3, 1) := by decide +kernel
theorem dX1_loadOf_15 : decode cX1_loadOf 15 = .ok (.aload_n 0, 1) := by decide +kernel
theorem dX1_loadOf_16 : decode cX1_loadOf 16 = .ok (.getfield 33, 3) := by decide +kernel
theorem dX1_loadOf_19 : decode cX1_loadOf 19 = .ok (.iload_n 1, 1) := by decide +kernel
theorem dX1_loadOf_20 : decode cX1_loadOf 20 = .ok (.iconst 1, 1) := by decide +kernel
theorem dX1_loadOf_21 : decode cX1_loadOf 21 = .ok (.iadd, 1) := by decide +kernel
theorem dX1_loadOf_22 : decode cX1_loadOf 22 = .ok (.iaload, 1) := by decide +kernel
theorem dX1_loadOf_23 : decode cX1_loadOf 23 = .ok (.if_icmp .ge 27, 3) := by decide +kernel
theorem dX1_loadOf_50 : decode cX1_loadOf 50 = .ok (.iload_n 2, 1) := by decide +kernel
theorem dX1_loadOf_51 : decode cX1_loadOf 51 = .ok (.ireturn, 1) := by decide +kernel
theorem dX1_loadOf_26 : decode cX1_loadOf 26 = .ok (.iload_n 2, 1) := by decide +kernel
theorem dX1_loadOf_27 : decode cX1_loadOf 27 = .ok (.iconst 1, 1) := by decide +kernel
theorem dX1_loadOf_28 : decode cX1_loadOf 28 = .ok (.aload_n 0, 1) := by decide +kernel
theorem dX1_loadOf_29 : decode cX1_loadOf 29 = .ok (.getfield 21, 3) := by decide +kernel
theorem dX1_loadOf_32 : decode cX1_loadOf 32 = .ok (.aload_n 0, 1) := by decide +kernel
theorem dX1_loadOf_33 : decode cX1_loadOf 33 = .ok (.getfield 30, 3) := by decide +kernel
theorem dX1_loadOf_36 : decode cX1_loadOf 36 = .ok (.iload_n 3, 1) := by decide +kernel
theorem dX1_loadOf_37 : decode cX1_loadOf 37 = .ok (.iaload, 1) := by decide +kernel
theorem dX1_loadOf_38 : decode cX1_loadOf 38 = .ok (.iconst 4, 1) := by decide +kernel
theorem dX1_loadOf_39 : decode cX1_loadOf 39 = .ok (.idiv, 1) := by decide +kernel
theorem dX1_loadOf_40 : decode cX1_loadOf 40 = .ok (.iaload, 1) := by decide +kernel
theorem dX1_loadOf_41 : decode cX1_loadOf 41 = .ok (.iadd, 1) := by decide +kernel
theorem dX1_loadOf_42 : decode cX1_loadOf 42 = .ok (.iadd, 1) := by decide +kernel
theorem dX1_loadOf_43 : decode cX1_loadOf 43 = .ok (.istore_n 2, 1) := by decide +kernel
theorem dX1_loadOf_44 : decode cX1_loadOf 44 = .ok (.iinc 3 1, 3) := by decide +kernel
theorem dX1_loadOf_47 : decode cX1_loadOf 47 = .ok (.goto (-33), 3) := by decide +kernel
def wo_X1loadOf : List Cond := [.code yX1_loadOf cX1_loadOf 4 (some .int)]
def wr_X1loadOf : List Cond := (wfC ++ ([]))
def w_X1loadOf : List Cond := wo_X1loadOf ++ wr_X1loadOf
theorem wg_X1loadOf : GW w_X1loadOf := GW_app (GW_of (by decide +kernel)) (GW_app (wg_fC) (GW_nil))
theorem in_X1loadOf : ∀ w ∈ wfC, w ∈ w_X1loadOf := fun _ h => List.mem_append_right _ (List.mem_append_left _ h)
set_option maxHeartbeats 4000000 in
set_option maxRecDepth 100000 in
theorem ct_X1loadOf (l : Launch) (E : gE) (B : Nat → Nat) (Q : Int32 → VS → Prop) (p1 : Int32) (σ : VS) (hw : wp_X1loadOf Q p1 σ) : CtI l E yX1_loadOf w_X1loadOf (({ frames := 0, cells := 0, slots := 0, locals := 0 } : Room)) (wc E B σ) [.ref (B 1), .int p1] (fun r w => ∃ σ' : VS, Q r σ' ∧ w = wc E B σ') := by
  refine VC_I (cc := cX1_loadOf) (mL := 4) (rt := (some .int)) (lv0 := [(0, .ref (B 1)), (1, .int p1)]) rfl (by decide) rfl (Nat.le_of_ble_eq_true rfl) ?_
  intro p e s m below meth c A F
  replace F : Fx p s m _ meth c A E cX1_loadOf 4 (some .int) RX1 w_X1loadOf := F
  obtain ⟨X14, hX14⟩ : ∃ X : Int32 → Int32 → Int32 → VS → Prop, X = fun l1 l2 l3 σ => WB p l e (({ frames := 0, cells := 0, slots := 0, locals := 0 } : Room)) s m (#[.ref (B 1), .int p1]) below meth c (MQ below (va_Qi (fun r w => ∃ σ' : VS, Q r σ' ∧ w = wc E B σ') (AftU E A) A) (#[.ref (B 1), .int p1]) s (({ frames := 0, cells := 0, slots := 0, locals := 0 } : Room)).cells (({ frames := 0, cells := 0, slots := 0, locals := 0 } : Room)).slots A) A E (wc E B) 4 14 [(0, .ref (B 1)), (1, .int l1), (2, .int l2), (3, .int l3)] [] σ := ⟨_, rfl⟩
  have U_14 : ∀ (l1 : Int32) (l2 : Int32) (l3 : Int32) (σ : VS), X14 l1 l2 l3 σ → WB p l e (({ frames := 0, cells := 0, slots := 0, locals := 0 } : Room)) s m (#[.ref (B 1), .int p1]) below meth c (MQ below (va_Qi (fun r w => ∃ σ' : VS, Q r σ' ∧ w = wc E B σ') (AftU E A) A) (#[.ref (B 1), .int p1]) s (({ frames := 0, cells := 0, slots := 0, locals := 0 } : Room)).cells (({ frames := 0, cells := 0, slots := 0, locals := 0 } : Room)).slots A) A E (wc E B) 4 14 [(0, .ref (B 1)), (1, .int l1), (2, .int l2), (3, .int l3)] [] σ := by
    intro l1 l2 l3 σ hw; rw [hX14] at hw; exact hw
  have C_14 : ∀ (l1 : Int32) (l2 : Int32) (l3 : Int32) (σ : VS), b_X1loadOf_14 X14 Q l1 l2 l3 σ → X14 l1 l2 l3 σ := by
    intro l1 l2 l3 σ hw
    unfold b_X1loadOf_14 at hw
    rw [hX14]
    show WB p l e (({ frames := 0, cells := 0, slots := 0, locals := 0 } : Room)) s m (#[.ref (B 1), .int p1]) below meth c (MQ below (va_Qi (fun r w => ∃ σ' : VS, Q r σ' ∧ w = wc E B σ') (AftU E A) A) (#[.ref (B 1), .int p1]) s (({ frames := 0, cells := 0, slots := 0, locals := 0 } : Room)).cells (({ frames := 0, cells := 0, slots := 0, locals := 0 } : Room)).slots A) A E (wc E B) 4 14 [(0, .ref (B 1)), (1, .int l1), (2, .int l2), (3, .int l3)] [] σ
    refine R_iload_n F dX1_loadOf_14 rfl 3 rfl ?_
    refine R_aload_n F dX1_loadOf_15 rfl 0 rfl ?_
    refine gc_RX1_33_1 F in_X1loadOf dX1_loadOf_16 ?_
    refine R_iload_n F dX1_loadOf_19 rfl 1 rfl ?_
    refine R_iconst F 1 dX1_loadOf_20 (by decide) ?_
    refine R_iadd F dX1_loadOf_21 ?_
    refine R_ldi F qc_18 dX1_loadOf_22 hw.1 ?_
    replace hw := hw.2
    refine R_icmp_ge (tgt := 50) F dX1_loadOf_23 (by decide) (fun hc => ?_) (fun hc => ?_)
    · replace hw := hw.1 hc
      refine R_iload_n F dX1_loadOf_50 rfl 2 rfl ?_
      exact R_iret (Qc := Q) F rfl dX1_loadOf_51 hw
    · replace hw := hw.2 hc
      refine R_iload_n F dX1_loadOf_26 rfl 2 rfl ?_
      refine R_iconst F 1 dX1_loadOf_27 (by decide) ?_
      refine R_aload_n F dX1_loadOf_28 rfl 0 rfl ?_
      refine gc_RX1_21_1 F in_X1loadOf dX1_loadOf_29 ?_
      refine R_aload_n F dX1_loadOf_32 rfl 0 rfl ?_
      refine gc_RX1_30_1 F in_X1loadOf dX1_loadOf_33 ?_
      refine R_iload_n F dX1_loadOf_36 rfl 3 rfl ?_
      refine R_ldi F qc_17 dX1_loadOf_37 hw.1 ?_
      replace hw := hw.2
      refine R_iconst F 4 dX1_loadOf_38 (by decide) ?_
      refine R_idiv F dX1_loadOf_39 (by decide) ?_
      refine R_ldi F qc_14 dX1_loadOf_40 hw.1 ?_
      replace hw := hw.2
      refine R_iadd F dX1_loadOf_41 ?_
      refine R_iadd F dX1_loadOf_42 ?_
      refine R_topi (fun x3 ex3 => ?_)
      replace hw := hw x3 ex3
      refine R_istore_n (lv' := [(2, .int x3), (0, .ref (B 1)), (1, .int l1), (3, .int l3)]) F dX1_loadOf_43 rfl (by decide) rfl ?_
      refine R_iinc (q := 3) (v := (l3 + 1)) (lv' := [(3, .int (l3 + 1)), (2, .int x3), (0, .ref (B 1)), (1, .int l1)]) F dX1_loadOf_44 rfl rfl (by decide) rfl ?_
      refine R_goto (tgt := 14) F dX1_loadOf_47 (by decide) ?_
      exact R_sub [2, 3, 1, 0] rfl (U_14 l1 x3 (l3 + 1) σ hw)
  unfold wp_X1loadOf at hw
  replace hw := hw X14 C_14
  refine R_aload_n F dX1_loadOf_0 rfl 0 rfl ?_
  refine gc_RX1_24_1 F in_X1loadOf dX1_loadOf_1 ?_
  refine R_iload_n F dX1_loadOf_4 rfl 1 rfl ?_
  refine R_ldi F qc_15 dX1_loadOf_5 hw.1 ?_
  replace hw := hw.2
  refine R_topi (fun x1 ex1 => ?_)
  replace hw := hw x1 ex1
  refine R_istore_n (lv' := [(2, .int x1), (0, .ref (B 1)), (1, .int p1)]) F dX1_loadOf_6 rfl (by decide) rfl ?_
  refine R_aload_n F dX1_loadOf_7 rfl 1 rfl ?_
  refine gc_RX1_33_1 F in_X1loadOf dX1_loadOf_8 ?_
  refine R_iload_n F dX1_loadOf_11 rfl 2 rfl ?_
  refine R_ldi F qc_18 dX1_loadOf_12 hw.1 ?_
  replace hw := hw.2
  refine R_topi (fun x2 ex2 => ?_)
  replace hw := hw x2 ex2
  refine R_istore_n (lv' := [(3, .int x2), (2, .int x1), (0, .ref (B 1)), (1, .int p1)]) F dX1_loadOf_13 rfl (by decide) rfl ?_
  exact R_sub [2, 3, 1, 0] rfl (U_14 p1 x1 x2 σ hw)
def b_X1wouldRing_124 (X20 : Int32 → Int32 → Int32 → VS → Prop) (X52 : Int32 → Int32 → VS → Prop) (X74 : Int32 → Int32 → Int32 → Int32 → VS → Prop) (Q : Int32 → VS → Prop) (l1 : Int32) (l3 : Int32) (l4 : Int32) (l5 : Int32) (σ : VS) : Prop := X74 l1 l3 l4 (l5 + 1) σ
def b_X1wouldRing_74 (X20 : Int32 → Int32 → Int32 → VS → Prop) (X52 : Int32 → Int32 → VS → Prop) (X74 : Int32 → Int32 → Int32 → Int32 → VS → Prop) (Q : Int32 → VS → Prop) (l1 : Int32) (l3 : Int32) (l4 : Int32) (l5 : Int32) (σ : VS) : Prop := (In l4 50 ∧ ((((l4 * 4) + (rd σ 12 l4)).toInt ≤ l5.toInt → X52 l1 (l3 + 1) σ) ∧ (l5.toInt < ((l4 * 4) + (rd σ 12 l4)).toInt → (In l5 200 ∧ (((rd σ 16 l5).toInt < 0 → b_X1wouldRing_124 X20 X52 X74 Q l1 l3 l4 l5 σ) ∧ (0 ≤ (rd σ 16 l5).toInt → (In l5 200 ∧ (In (rd σ 16 l5) 50 ∧ (((rd σ 21 (rd σ 16 l5)).toInt = 0 → b_X1wouldRing_124 X20 X52 X74 Q l1 l3 l4 l5 σ) ∧ ((rd σ 21 (rd σ 16 l5)).toInt ≠ 0 → (In l4 50 ∧ b_X1wouldRing_124 X20 X52 X74 Q l1 l3 l4 l5 (sa σ 21 l4 1))))))))))))
def b_X1wouldRing_52 (X20 : Int32 → Int32 → Int32 → VS → Prop) (X52 : Int32 → Int32 → VS → Prop) (X74 : Int32 → Int32 → Int32 → Int32 → VS → Prop) (Q : Int32 → VS → Prop) (l1 : Int32) (l3 : Int32) (σ : VS) : Prop := (((σ.1 3).toInt ≤ l3.toInt → (In l1 50 ∧ (Bo (rd σ 21 l1) ∧ Q (rd σ 21 l1) σ))) ∧ (l3.toInt < (σ.1 3).toInt → (In l3 50 ∧ (∀ x5 : Int32, x5 = (rd σ 19 l3) → (∀ x6 : Int32, x6 = (x5 * 4) → X74 l1 l3 x5 x6 σ)))))
def b_X1wouldRing_43 (X20 : Int32 → Int32 → Int32 → VS → Prop) (X52 : Int32 → Int32 → VS → Prop) (X74 : Int32 → Int32 → Int32 → Int32 → VS → Prop) (Q : Int32 → VS → Prop) (l1 : Int32) (l2 : Int32) (l3 : Int32) (k0 : Int32) (k1 : Int32) (σ : VS) : Prop := (In k1 50 ∧ (Bo k0 ∧ X20 l1 l2 (l3 + 1) (sa σ 21 k1 k0)))
def b_X1wouldRing_20 (X20 : Int32 → Int32 → Int32 → VS → Prop) (X52 : Int32 → Int32 → VS → Prop) (X74 : Int32 → Int32 → Int32 → Int32 → VS → Prop) (Q : Int32 → VS → Prop) (l1 : Int32) (l2 : Int32) (l3 : Int32) (σ : VS) : Prop := (((σ.1 2).toInt ≤ l3.toInt → X52 l1 0 σ) ∧ (l3.toInt < (σ.1 2).toInt → ((l3.toInt ≠ l2.toInt → b_X1wouldRing_43 X20 X52 X74 Q l1 l2 l3 0 l3 σ) ∧ (l3.toInt = l2.toInt → b_X1wouldRing_43 X20 X52 X74 Q l1 l2 l3 1 l3 σ))))
def b_X1wouldRing_16 (X20 : Int32 → Int32 → Int32 → VS → Prop) (X52 : Int32 → Int32 → VS → Prop) (X74 : Int32 → Int32 → Int32 → Int32 → VS → Prop) (Q : Int32 → VS → Prop) (σ : VS) : Prop := Q 0 σ
def wp_X1wouldRing (Q : Int32 → VS → Prop) (p1 : Int32) (p2 : Int32) (σ : VS) : Prop := ∀ (X20 : Int32 → Int32 → Int32 → VS → Prop) (X52 : Int32 → Int32 → VS → Prop) (X74 : Int32 → Int32 → Int32 → Int32 → VS → Prop), (∀ (l1 : Int32) (l2 : Int32) (l3 : Int32) (σ : VS), b_X1wouldRing_20 X20 X52 X74 Q l1 l2 l3 σ → X20 l1 l2 l3 σ) → (∀ (l1 : Int32) (l3 : Int32) (σ : VS), b_X1wouldRing_52 X20 X52 X74 Q l1 l3 σ → X52 l1 l3 σ) → (∀ (l1 : Int32) (l3 : Int32) (l4 : Int32) (l5 : Int32) (σ : VS), b_X1wouldRing_74 X20 X52 X74 Q l1 l3 l4 l5 σ → X74 l1 l3 l4 l5 σ) → wp_X1isGate (fun (r1 : Int32) (σ2 : VS) => ((r1.toInt = 0 → b_X1wouldRing_16 X20 X52 X74 Q σ2) ∧ (r1.toInt ≠ 0 → wp_X1isGate (fun (r3 : Int32) (σ4 : VS) => ((r3.toInt ≠ 0 → X20 p1 p2 0 σ4) ∧ (r3.toInt = 0 → b_X1wouldRing_16 X20 X52 X74 Q σ4))) p2 σ2))) p1 σ
theorem dX1_wouldRing_0 : decode cX1_wouldRing 0 = .ok (.aload_n 0, 1) := by decide +kernel
theorem dX1_wouldRing_1 : decode cX1_wouldRing 1 = .ok (.iload_n 1, 1) := by decide +kernel
theorem dX1_wouldRing_2 : decode cX1_wouldRing 2 = .ok (.invokevirtual 66, 3) := by decide +kernel
theorem dX1_wouldRing_5 : decode cX1_wouldRing 5 = .ok (.ifCond .eq 11, 3) := by decide +kernel
theorem dX1_wouldRing_8 : decode cX1_wouldRing 8 = .ok (.aload_n 0, 1) := by decide +kernel
theorem dX1_wouldRing_9 : decode cX1_wouldRing 9 = .ok (.iload_n 2, 1) := by decide +kernel
theorem dX1_wouldRing_10 : decode cX1_wouldRing 10 = .ok (.invokevirtual 66, 3) := by decide +kernel
theorem dX1_wouldRing_13 : decode cX1_wouldRing 13 = .ok (.ifCond .ne 5, 3) := by decide +kernel
theorem dX1_wouldRing_18 : decode cX1_wouldRing 18 = .ok (.iconst 0, 1) := by decide +kernel
theorem dX1_wouldRing_19 : decode cX1_wouldRing 19 = .ok (.istore_n 3, 1) := by decide +kernel
theorem dX1_wouldRing_16 : decode cX1_wouldRing 16 = .ok (.iconst 0, 1) := by decide +kernel
theorem dX1_wouldRing_17 : decode cX1_wouldRing 17 = .ok (.ireturn, 1) := by decide +kernel
theorem dX1_wouldRing_20 : decode cX1_wouldRing 20 = .ok (.iload_n 3, 1) := by decide +kernel
theorem dX1_wouldRing_21 : decode cX1_wouldRing 21 = .ok (.aload_n 0, 1) := by decide +kernel
theorem dX1_wouldRing_22 : decode cX1_wouldRing 22 = .ok (.getfield 52, 3) := by decide +kernel
theorem dX1_wouldRing_25 : decode cX1_wouldRing 25 = .ok (.if_icmp .ge 25, 3) := by decide +kernel
theorem dX1_wouldRing_50 : decode cX1_wouldRing 50 = .ok (.iconst 0, 1) := by decide +kernel
theorem dX1_wouldRing_51 : decode cX1_wouldRing 51 = .ok (.istore_n 3, 1) := by decide +kernel
theorem dX1_wouldRing_28 : decode cX1_wouldRing 28 = .ok (.aload_n 0, 1) := by decide +kernel
theorem dX1_wouldRing_29 : decode cX1_wouldRing 29 = .ok (.getfield 42, 3) := by decide +kernel
theorem dX1_wouldRing_32 : decode cX1_wouldRing 32 = .ok (.iload_n 3, 1) := by decide +kernel
theorem dX1_wouldRing_33 : decode cX1_wouldRing 33 = .ok (.iload_n 3, 1) := by decide +kernel
theorem dX1_wouldRing_34 : decode cX1_wouldRing 34 = .ok (.iload_n 2, 1) := by decide +kernel
theorem dX1_wouldRing_35 : decode cX1_wouldRing 35 = .ok (.if_icmp .ne 7, 3) := by decide +kernel
theorem dX1_wouldRing_42 : decode cX1_wouldRing 42 = .ok (.iconst 0, 1) := by decide +kernel
theorem dX1_wouldRing_38 : decode cX1_wouldRing 38 = .ok (.iconst 1, 1) := by decide +kernel
theorem dX1_wouldRing_39 : decode cX1_wouldRing 39 = .ok (.goto 4, 3) := by decide +kernel
theorem dX1_wouldRing_52 : decode cX1_wouldRing 52 = .ok (.iload_n 3, 1) := by decide +kernel
theorem dX1_wouldRing_53 : decode cX1_wouldRing 53 = .ok (.aload_n 0, 1) := by decide +kernel
theorem dX1_wouldRing_54 : decode cX1_wouldRing 54 = .ok (.getfield 69, 3) := by decide +kernel
theorem dX1_wouldRing_57 : decode cX1_wouldRing 57 = .ok (.if_icmp .ge 79, 3) := by decide +kernel
theorem dX1_wouldRing_136 : decode cX1_wouldRing 136 = .ok (.aload_n 0, 1) := by decide +kernel
theorem dX1_wouldRing_137 : decode cX1_wouldRing 137 = .ok (.getfield 42, 3) := by decide +kernel
theorem dX1_wouldRing_140 : decode cX1_wouldRing 140 = .ok (.iload_n 1, 1) := by decide +kernel
theorem dX1_wouldRing_141 : decode cX1_wouldRing 141 = .ok (.baload, 1) := by decide +kernel
theorem dX1_wouldRing_142 : decode cX1_wouldRing 142 = .ok (.ireturn, 1) := by decide +kernel
theorem dX1_wouldRing_60 : decode cX1_wouldRing 60 = .ok (.aload_n 0, 1) := by decide +kernel
theorem dX1_wouldRing_61 : decode cX1_wouldRing 61 = .ok (.getfield 36, 3) := by decide +kernel
theorem dX1_wouldRing_64 : decode cX1_wouldRing 64 = .ok (.iload_n 3, 1) := by decide +kernel
theorem dX1_wouldRing_65 : decode cX1_wouldRing 65 = .ok (.iaload, 1) := by decide +kernel
theorem dX1_wouldRing_66 : decode cX1_wouldRing 66 = .ok (.istore 4, 2) := by decide +kernel
theorem dX1_wouldRing_68 : decode cX1_wouldRing 68 = .ok (.iload 4, 2) := by decide +kernel
theorem dX1_wouldRing_70 : decode cX1_wouldRing 70 = .ok (.iconst 4, 1) := by decide +kernel
theorem dX1_wouldRing_71 : decode cX1_wouldRing 71 = .ok (.imul, 1) := by decide +kernel
theorem dX1_wouldRing_72 : decode cX1_wouldRing 72 = .ok (.istore 5, 2) := by decide +kernel
theorem dX1_wouldRing_43 : decode cX1_wouldRing 43 = .ok (.bastore, 1) := by decide +kernel
theorem dX1_wouldRing_44 : decode cX1_wouldRing 44 = .ok (.iinc 3 1, 3) := by decide +kernel
theorem dX1_wouldRing_47 : decode cX1_wouldRing 47 = .ok (.goto (-27), 3) := by decide +kernel
theorem dX1_wouldRing_74 : decode cX1_wouldRing 74 = .ok (.iload 5, 2) := by decide +kernel
theorem dX1_wouldRing_76 : decode cX1_wouldRing 76 = .ok (.iload 4, 2) := by decide +kernel
theorem dX1_wouldRing_78 : decode cX1_wouldRing 78 = .ok (.iconst 4, 1) := by decide +kernel
theorem dX1_wouldRing_79 : decode cX1_wouldRing 79 = .ok (.imul, 1) := by decide +kernel
theorem dX1_wouldRing_80 : decode cX1_wouldRing 80 = .ok (.aload_n 0, 1) := by decide +kernel
theorem dX1_wouldRing_81 : decode cX1_wouldRing 81 = .ok (.getfield 15, 3) := by decide +kernel
theorem dX1_wouldRing_84 : decode cX1_wouldRing 84 = .ok (.iload 4, 2) := by decide +kernel
theorem dX1_wouldRing_86 : decode cX1_wouldRing 86 = .ok (.iaload, 1) := by decide +kernel
theorem dX1_wouldRing_87 : decode cX1_wouldRing 87 = .ok (.iadd, 1) := by decide +kernel
theorem dX1_wouldRing_88 : decode cX1_wouldRing 88 = .ok (.if_icmp .ge 42, 3) := by decide +kernel
theorem dX1_wouldRing_130 : decode cX1_wouldRing 130 = .ok (.iinc 3 1, 3) := by decide +kernel
theorem dX1_wouldRing_133 : decode cX1_wouldRing 133 = .ok (.goto (-81), 3) := by decide +kernel
theorem dX1_wouldRing_91 : decode cX1_wouldRing 91 = .ok (.aload_n 0, 1) := by decide +kernel
theorem dX1_wouldRing_92 : decode cX1_wouldRing 92 = .ok (.getfield 27, 3) := by decide +kernel
theorem dX1_wouldRing_95 : decode cX1_wouldRing 95 = .ok (.iload 5, 2) := by decide +kernel
theorem dX1_wouldRing_97 : decode cX1_wouldRing 97 = .ok (.iaload, 1) := by decide +kernel
theorem dX1_wouldRing_98 : decode cX1_wouldRing 98 = .ok (.ifCond .lt 26, 3) := by decide +kernel
theorem dX1_wouldRing_101 : decode cX1_wouldRing 101 = .ok (.aload_n 0, 1) := by decide +kernel
theorem dX1_wouldRing_102 : decode cX1_wouldRing 102 = .ok (.getfield 42, 3) := by decide +kernel
theorem dX1_wouldRing_105 : decode cX1_wouldRing 105 = .ok (.aload_n 0, 1) := by decide +kernel
theorem dX1_wouldRing_106 : decode cX1_wouldRing 106 = .ok (.getfield 27, 3) := by decide +kernel
theorem dX1_wouldRing_109 : decode cX1_wouldRing 109 = .ok (.iload 5, 2) := by decide +kernel
theorem dX1_wouldRing_111 : decode cX1_wouldRing 111 = .ok (.iaload, 1) := by decide +kernel
theorem dX1_wouldRing_112 : decode cX1_wouldRing 112 = .ok (.baload, 1) := by decide +kernel
theorem dX1_wouldRing_113 : decode cX1_wouldRing 113 = .ok (.ifCond .eq 11, 3) := by decide +kernel
theorem dX1_wouldRing_116 : decode cX1_wouldRing 116 = .ok (.aload_n 0, 1) := by decide +kernel
theorem dX1_wouldRing_117 : decode cX1_wouldRing 117 = .ok (.getfield 42, 3) := by decide +kernel
theorem dX1_wouldRing_120 : decode cX1_wouldRing 120 = .ok (.iload 4, 2) := by decide +kernel
theorem dX1_wouldRing_122 : decode cX1_wouldRing 122 = .ok (.iconst 1, 1) := by decide +kernel
theorem dX1_wouldRing_123 : decode cX1_wouldRing 123 = .ok (.bastore, 1) := by decide +kernel
theorem dX1_wouldRing_124 : decode cX1_wouldRing 124 = .ok (.iinc 5 1, 3) := by decide +kernel
theorem dX1_wouldRing_127 : decode cX1_wouldRing 127 = .ok (.goto (-53), 3) := by decide +kernel
def wo_X1wouldRing : List Cond := [.code yX1_wouldRing cX1_wouldRing 6 (some .boolean), .methodLink RX1 66 yX1_isGate, .instanceMethod yX1_isGate, .selects RX1 yX1_isGate yX1_isGate, .initialized RX1]
def wr_X1wouldRing : List Cond := (wfC ++ (w_X1isGate ++ ([])))
def w_X1wouldRing : List Cond := wo_X1wouldRing ++ wr_X1wouldRing
theorem wg_X1wouldRing : GW w_X1wouldRing := GW_app (GW_of (by decide +kernel)) (GW_app (wg_fC) (GW_app (wg_X1isGate) (GW_nil)))
theorem in_X1wouldRing : ∀ w ∈ wfC, w ∈ w_X1wouldRing := fun _ h => List.mem_append_right _ (List.mem_append_left _ h)
theorem g_X1wouldRing_X1isGate_66 : GoodIn w_X1wouldRing (wsV RX1 66 RX1 yX1_isGate w_X1isGate) := goodIn_app (gi_left (goodIn_of _ (by decide +kernel))) (fun w h => ⟨List.mem_append_right _ (List.mem_append_right _ (List.mem_append_left _ h)), wg_X1isGate w h⟩)
set_option maxHeartbeats 4000000 in
set_option maxRecDepth 100000 in
theorem ct_X1wouldRing (l : Launch) (E : gE) (B : Nat → Nat) (Q : Int32 → VS → Prop) (p1 : Int32) (p2 : Int32) (σ : VS) (hw : wp_X1wouldRing Q p1 p2 σ) : CtI l E yX1_wouldRing w_X1wouldRing (({ frames := 2, cells := 0, slots := 0, locals := 41 } : Room)) (wc E B σ) [.ref (B 1), .int p1, .int p2] (fun r w => ∃ σ' : VS, Q r σ' ∧ w = wc E B σ') := by
  refine VC_I (cc := cX1_wouldRing) (mL := 6) (rt := (some .boolean)) (lv0 := [(0, .ref (B 1)), (1, .int p1), (2, .int p2)]) rfl (by decide) rfl (Nat.le_of_ble_eq_true rfl) ?_
  intro p e s m below meth c A F
  replace F : Fx p s m _ meth c A E cX1_wouldRing 6 (some .boolean) RX1 w_X1wouldRing := F
  obtain ⟨X20, hX20⟩ : ∃ X : Int32 → Int32 → Int32 → VS → Prop, X = fun l1 l2 l3 σ => WB p l e (({ frames := 2, cells := 0, slots := 0, locals := 41 } : Room)) s m (#[.ref (B 1), .int p1, .int p2]) below meth c (MQ below (va_Qi (fun r w => ∃ σ' : VS, Q r σ' ∧ w = wc E B σ') (AftU E A) A) (#[.ref (B 1), .int p1, .int p2]) s (({ frames := 2, cells := 0, slots := 0, locals := 41 } : Room)).cells (({ frames := 2, cells := 0, slots := 0, locals := 41 } : Room)).slots A) A E (wc E B) 6 20 [(0, .ref (B 1)), (1, .int l1), (2, .int l2), (3, .int l3)] [] σ := ⟨_, rfl⟩
  have U_20 : ∀ (l1 : Int32) (l2 : Int32) (l3 : Int32) (σ : VS), X20 l1 l2 l3 σ → WB p l e (({ frames := 2, cells := 0, slots := 0, locals := 41 } : Room)) s m (#[.ref (B 1), .int p1, .int p2]) below meth c (MQ below (va_Qi (fun r w => ∃ σ' : VS, Q r σ' ∧ w = wc E B σ') (AftU E A) A) (#[.ref (B 1), .int p1, .int p2]) s (({ frames := 2, cells := 0, slots := 0, locals := 41 } : Room)).cells (({ frames := 2, cells := 0, slots := 0, locals := 41 } : Room)).slots A) A E (wc E B) 6 20 [(0, .ref (B 1)), (1, .int l1), (2, .int l2), (3, .int l3)] [] σ := by
    intro l1 l2 l3 σ hw; rw [hX20] at hw; exact hw
  obtain ⟨X52, hX52⟩ : ∃ X : Int32 → Int32 → VS → Prop, X = fun l1 l3 σ => WB p l e (({ frames := 2, cells := 0, slots := 0, locals := 41 } : Room)) s m (#[.ref (B 1), .int p1, .int p2]) below meth c (MQ below (va_Qi (fun r w => ∃ σ' : VS, Q r σ' ∧ w = wc E B σ') (AftU E A) A) (#[.ref (B 1), .int p1, .int p2]) s (({ frames := 2, cells := 0, slots := 0, locals := 41 } : Room)).cells (({ frames := 2, cells := 0, slots := 0, locals := 41 } : Room)).slots A) A E (wc E B) 6 52 [(0, .ref (B 1)), (1, .int l1), (3, .int l3)] [] σ := ⟨_, rfl⟩
  have U_52 : ∀ (l1 : Int32) (l3 : Int32) (σ : VS), X52 l1 l3 σ → WB p l e (({ frames := 2, cells := 0, slots := 0, locals := 41 } : Room)) s m (#[.ref (B 1), .int p1, .int p2]) below meth c (MQ below (va_Qi (fun r w => ∃ σ' : VS, Q r σ' ∧ w = wc E B σ') (AftU E A) A) (#[.ref (B 1), .int p1, .int p2]) s (({ frames := 2, cells := 0, slots := 0, locals := 41 } : Room)).cells (({ frames := 2, cells := 0, slots := 0, locals := 41 } : Room)).slots A) A E (wc E B) 6 52 [(0, .ref (B 1)), (1, .int l1), (3, .int l3)] [] σ := by
    intro l1 l3 σ hw; rw [hX52] at hw; exact hw
  obtain ⟨X74, hX74⟩ : ∃ X : Int32 → Int32 → Int32 → Int32 → VS → Prop, X = fun l1 l3 l4 l5 σ => WB p l e (({ frames := 2, cells := 0, slots := 0, locals := 41 } : Room)) s m (#[.ref (B 1), .int p1, .int p2]) below meth c (MQ below (va_Qi (fun r w => ∃ σ' : VS, Q r σ' ∧ w = wc E B σ') (AftU E A) A) (#[.ref (B 1), .int p1, .int p2]) s (({ frames := 2, cells := 0, slots := 0, locals := 41 } : Room)).cells (({ frames := 2, cells := 0, slots := 0, locals := 41 } : Room)).slots A) A E (wc E B) 6 74 [(0, .ref (B 1)), (1, .int l1), (3, .int l3), (4, .int l4), (5, .int l5)] [] σ := ⟨_, rfl⟩
  have U_74 : ∀ (l1 : Int32) (l3 : Int32) (l4 : Int32) (l5 : Int32) (σ : VS), X74 l1 l3 l4 l5 σ → WB p l e (({ frames := 2, cells := 0, slots := 0, locals := 41 } : Room)) s m (#[.ref (B 1), .int p1, .int p2]) below meth c (MQ below (va_Qi (fun r w => ∃ σ' : VS, Q r σ' ∧ w = wc E B σ') (AftU E A) A) (#[.ref (B 1), .int p1, .int p2]) s (({ frames := 2, cells := 0, slots := 0, locals := 41 } : Room)).cells (({ frames := 2, cells := 0, slots := 0, locals := 41 } : Room)).slots A) A E (wc E B) 6 74 [(0, .ref (B 1)), (1, .int l1), (3, .int l3), (4, .int l4), (5, .int l5)] [] σ := by
    intro l1 l3 l4 l5 σ hw; rw [hX74] at hw; exact hw
  have J_124 : ∀ (l1 : Int32) (l3 : Int32) (l4 : Int32) (l5 : Int32) (σ : VS), b_X1wouldRing_124 X20 X52 X74 Q l1 l3 l4 l5 σ → WB p l e (({ frames := 2, cells := 0, slots := 0, locals := 41 } : Room)) s m (#[.ref (B 1), .int p1, .int p2]) below meth c (MQ below (va_Qi (fun r w => ∃ σ' : VS, Q r σ' ∧ w = wc E B σ') (AftU E A) A) (#[.ref (B 1), .int p1, .int p2]) s (({ frames := 2, cells := 0, slots := 0, locals := 41 } : Room)).cells (({ frames := 2, cells := 0, slots := 0, locals := 41 } : Room)).slots A) A E (wc E B) 6 124 [(0, .ref (B 1)), (1, .int l1), (3, .int l3), (4, .int l4), (5, .int l5)] [] σ := by
    intro l1 l3 l4 l5 σ hw
    unfold b_X1wouldRing_124 at hw
    refine R_iinc (q := 4) (v := (l5 + 1)) (lv' := [(5, .int (l5 + 1)), (0, .ref (B 1)), (1, .int l1), (3, .int l3), (4, .int l4)]) F dX1_wouldRing_124 rfl rfl (by decide) rfl ?_
    refine R_goto (tgt := 74) F dX1_wouldRing_127 (by decide) ?_
    exact R_sub [1, 2, 3, 4, 0] rfl (U_74 l1 l3 l4 (l5 + 1) σ hw)
  have J_43 : ∀ (l1 : Int32) (l2 : Int32) (l3 : Int32) (k0 : Int32) (k1 : Int32) (σ : VS), b_X1wouldRing_43 X20 X52 X74 Q l1 l2 l3 k0 k1 σ → WB p l e (({ frames := 2, cells := 0, slots := 0, locals := 41 } : Room)) s m (#[.ref (B 1), .int p1, .int p2]) below meth c (MQ below (va_Qi (fun r w => ∃ σ' : VS, Q r σ' ∧ w = wc E B σ') (AftU E A) A) (#[.ref (B 1), .int p1, .int p2]) s (({ frames := 2, cells := 0, slots := 0, locals := 41 } : Room)).cells (({ frames := 2, cells := 0, slots := 0, locals := 41 } : Room)).slots A) A E (wc E B) 6 43 [(0, .ref (B 1)), (1, .int l1), (2, .int l2), (3, .int l3)] [.int k0, .int k1, .ref (B 21)] σ := by
    intro l1 l2 l3 k0 k1 σ hw
    unfold b_X1wouldRing_43 at hw
    have hi := hw.1
    replace hw := hw.2
    have hbo := hw.1
    replace hw := hw.2
    refine R_stz F qc_21 uc_21 dX1_wouldRing_43 hi hbo ?_
    refine R_iinc (q := 3) (v := (l3 + 1)) (lv' := [(3, .int (l3 + 1)), (0, .ref (B 1)), (1, .int l1), (2, .int l2)]) F dX1_wouldRing_44 rfl rfl (by decide) rfl ?_
    refine R_goto (tgt := 20) F dX1_wouldRing_47 (by decide) ?_
    exact R_sub [1, 2, 3, 0] rfl (U_20 l1 l2 (l3 + 1) (sa σ 21 k1 k0) hw)
  have J_16 : ∀ (σ : VS), b_X1wouldRing_16 X20 X52 X74 Q σ → WB p l e (({ frames := 2, cells := 0, slots := 0, locals := 41 } : Room)) s m (#[.ref (B 1), .int p1, .int p2]) below meth c (MQ below (va_Qi (fun r w => ∃ σ' : VS, Q r σ' ∧ w = wc E B σ') (AftU E A) A) (#[.ref (B 1), .int p1, .int p2]) s (({ frames := 2, cells := 0, slots := 0, locals := 41 } : Room)).cells (({ frames := 2, cells := 0, slots := 0, locals := 41 } : Room)).slots A) A E (wc E B) 6 16 [] [] σ := by
    intro σ hw
    unfold b_X1wouldRing_16 at hw
    refine R_iconst F 0 dX1_wouldRing_16 (by decide) ?_
    exact R_iret (Qc := Q) F rfl dX1_wouldRing_17 hw
  have C_20 : ∀ (l1 : Int32) (l2 : Int32) (l3 : Int32) (σ : VS), b_X1wouldRing_20 X20 X52 X74 Q l1 l2 l3 σ → X20 l1 l2 l3 σ := by
    intro l1 l2 l3 σ hw
    unfold b_X1wouldRing_20 at hw
    rw [hX20]
    show WB p l e (({ frames := 2, cells := 0, slots := 0, locals := 41 } : Room)) s m (#[.ref (B 1), .int p1, .int p2]) below meth c (MQ below (va_Qi (fun r w => ∃ σ' : VS, Q r σ' ∧ w = wc E B σ') (AftU E A) A) (#[.ref (B 1), .int p1, .int p2]) s (({ frames := 2, cells := 0, slots := 0, locals := 41 } : Room)).cells (({ frames := 2, cells := 0, slots := 0, locals := 41 } : Room)).slots A) A E (wc E B) 6 20 [(0, .ref (B 1)), (1, .int l1), (2, .int l2), (3, .int l3)] [] σ
    refine R_iload_n F dX1_wouldRing_20 rfl 3 rfl ?_
    refine R_aload_n F dX1_wouldRing_21 rfl 0 rfl ?_
    refine gc_RX1_52_1 F in_X1wouldRing dX1_wouldRing_22 ?_
    refine R_icmp_ge (tgt := 50) F dX1_wouldRing_25 (by decide) (fun hc => ?_) (fun hc => ?_)
    · replace hw := hw.1 hc
      refine R_iconst F 0 dX1_wouldRing_50 (by decide) ?_
      refine R_istore_n (lv' := [(3, .int 0), (0, .ref (B 1)), (1, .int l1), (2, .int l2)]) F dX1_wouldRing_51 rfl (by decide) rfl ?_
      exact R_sub [1, 2, 0] rfl (U_52 l1 0 σ hw)
    · replace hw := hw.2 hc
      refine R_aload_n F dX1_wouldRing_28 rfl 0 rfl ?_
      refine gc_RX1_42_1 F in_X1wouldRing dX1_wouldRing_29 ?_
      refine R_iload_n F dX1_wouldRing_32 rfl 3 rfl ?_
      refine R_iload_n F dX1_wouldRing_33 rfl 3 rfl ?_
      refine R_iload_n F dX1_wouldRing_34 rfl 2 rfl ?_
      refine R_icmp_ne (tgt := 42) F dX1_wouldRing_35 (by decide) (fun hc => ?_) (fun hc => ?_)
      · replace hw := hw.1 hc
        refine R_iconst F 0 dX1_wouldRing_42 (by decide) ?_
        exact R_sub [0, 1, 2, 3] rfl (J_43 l1 l2 l3 0 l3 σ hw)
      · replace hw := hw.2 hc
        refine R_iconst F 1 dX1_wouldRing_38 (by decide) ?_
        refine R_goto (tgt := 43) F dX1_wouldRing_39 (by decide) ?_
        exact R_sub [0, 1, 2, 3] rfl (J_43 l1 l2 l3 1 l3 σ hw)
  have C_52 : ∀ (l1 : Int32) (l3 : Int32) (σ : VS), b_X1wouldRing_52 X20 X52 X74 Q l1 l3 σ → X52 l1 l3 σ := by
    intro l1 l3 σ hw
    unfold b_X1wouldRing_52 at hw
    rw [hX52]
    show WB p l e (({ frames := 2, cells := 0, slots := 0, locals := 41 } : Room)) s m (#[.ref (B 1), .int p1, .int p2]) below meth c (MQ below (va_Qi (fun r w => ∃ σ' : VS, Q r σ' ∧ w = wc E B σ') (AftU E A) A) (#[.ref (B 1), .int p1, .int p2]) s (({ frames := 2, cells := 0, slots := 0, locals := 41 } : Room)).cells (({ frames := 2, cells := 0, slots := 0, locals := 41 } : Room)).slots A) A E (wc E B) 6 52 [(0, .ref (B 1)), (1, .int l1), (3, .int l3)] [] σ
    refine R_iload_n F dX1_wouldRing_52 rfl 2 rfl ?_
    refine R_aload_n F dX1_wouldRing_53 rfl 0 rfl ?_
    refine gc_RX1_69_1 F in_X1wouldRing dX1_wouldRing_54 ?_
    refine R_icmp_ge (tgt := 136) F dX1_wouldRing_57 (by decide) (fun hc => ?_) (fun hc => ?_)
    · replace hw := hw.1 hc
      refine R_aload_n F dX1_wouldRing_136 rfl 0 rfl ?_
      refine gc_RX1_42_1 F in_X1wouldRing dX1_wouldRing_137 ?_
      refine R_iload_n F dX1_wouldRing_140 rfl 1 rfl ?_
      refine R_ldz F qc_21 dX1_wouldRing_141 hw.1 ?_
      replace hw := hw.2
      exact R_iret (Qc := Q) F (nb_01 hw.1) dX1_wouldRing_142 hw.2
    · replace hw := hw.2 hc
      refine R_aload_n F dX1_wouldRing_60 rfl 0 rfl ?_
      refine gc_RX1_36_1 F in_X1wouldRing dX1_wouldRing_61 ?_
      refine R_iload_n F dX1_wouldRing_64 rfl 2 rfl ?_
      refine R_ldi F qc_19 dX1_wouldRing_65 hw.1 ?_
      replace hw := hw.2
      refine R_topi (fun x5 ex5 => ?_)
      replace hw := hw x5 ex5
      refine R_istore (lv' := [(4, .int x5), (0, .ref (B 1)), (1, .int l1), (3, .int l3)]) F dX1_wouldRing_66 (by decide) rfl ?_
      refine R_iload F dX1_wouldRing_68 0 rfl ?_
      refine R_iconst F 4 dX1_wouldRing_70 (by decide) ?_
      refine R_imul F dX1_wouldRing_71 ?_
      refine R_topi (fun x6 ex6 => ?_)
      replace hw := hw x6 ex6
      refine R_istore (lv' := [(5, .int x6), (4, .int x5), (0, .ref (B 1)), (1, .int l1), (3, .int l3)]) F dX1_wouldRing_72 (by decide) rfl ?_
      exact R_sub [2, 3, 4, 1, 0] rfl (U_74 l1 l3 x5 x6 σ hw)
  have C_74 : ∀ (l1 : Int32) (l3 : Int32) (l4 : Int32) (l5 : Int32) (σ : VS), b_X1wouldRing_74 X20 X52 X74 Q l1 l3 l4 l5 σ → X74 l1 l3 l4 l5 σ := by
    intro l1 l3 l4 l5 σ hw
    unfold b_X1wouldRing_74 at hw
    rw [hX74]
    show WB p l e (({ frames := 2, cells := 0, slots := 0, locals := 41 } : Room)) s m (#[.ref (B 1), .int p1, .int p2]) below meth c (MQ below (va_Qi (fun r w => ∃ σ' : VS, Q r σ' ∧ w = wc E B σ') (AftU E A) A) (#[.ref (B 1), .int p1, .int p2]) s (({ frames := 2, cells := 0, slots := 0, locals := 41 } : Room)).cells (({ frames := 2, cells := 0, slots := 0, locals := 41 } : Room)).slots A) A E (wc E B) 6 74 [(0, .ref (B 1)), (1, .int l1), (3, .int l3), (4, .int l4), (5, .int l5)] [] σ
    refine R_iload F dX1_wouldRing_74 4 rfl ?_
    refine R_iload F dX1_wouldRing_76 3 rfl ?_
    refine R_iconst F 4 dX1_wouldRing_78 (by decide) ?_
    refine R_imul F dX1_wouldRing_79 ?_
    refine R_aload_n F dX1_wouldRing_80 rfl 0 rfl ?_
    refine gc_RX1_15_1 F in_X1wouldRing dX1_wouldRing_81 ?_
    refine R_iload F dX1_wouldRing_84 3 rfl ?_
    refine R_ldi F qc_12 dX1_wouldRing_86 hw.1 ?_
    replace hw := hw.2
    refine R_iadd F dX1_wouldRing_87 ?_
    refine R_icmp_ge (tgt := 130) F dX1_wouldRing_88 (by decide) (fun hc => ?_) (fun hc => ?_)
    · replace hw := hw.1 hc
      refine R_iinc (q := 2) (v := (l3 + 1)) (lv' := [(3, .int (l3 + 1)), (0, .ref (B 1)), (1, .int l1), (4, .int l4), (5, .int l5)]) F dX1_wouldRing_130 rfl rfl (by decide) rfl ?_
      refine R_goto (tgt := 52) F dX1_wouldRing_133 (by decide) ?_
      exact R_sub [1, 2, 0] rfl (U_52 l1 (l3 + 1) σ hw)
    · replace hw := hw.2 hc
      refine R_aload_n F dX1_wouldRing_91 rfl 0 rfl ?_
      refine gc_RX1_27_1 F in_X1wouldRing dX1_wouldRing_92 ?_
      refine R_iload F dX1_wouldRing_95 4 rfl ?_
      refine R_ldi F qc_16 dX1_wouldRing_97 hw.1 ?_
      replace hw := hw.2
      refine R_if_lt (tgt := 124) F dX1_wouldRing_98 (by decide) (fun hc => ?_) (fun hc => ?_)
      · replace hw := hw.1 hc
        exact R_sub [0, 1, 2, 3, 4] rfl (J_124 l1 l3 l4 l5 σ hw)
      · replace hw := hw.2 hc
        refine R_aload_n F dX1_wouldRing_101 rfl 0 rfl ?_
        refine gc_RX1_42_1 F in_X1wouldRing dX1_wouldRing_102 ?_
        refine R_aload_n F dX1_wouldRing_105 rfl 0 rfl ?_
        refine gc_RX1_27_1 F in_X1wouldRing dX1_wouldRing_106 ?_
        refine R_iload F dX1_wouldRing_109 4 rfl ?_
        refine R_ldi F qc_16 dX1_wouldRing_111 hw.1 ?_
        replace hw := hw.2
        refine R_ldz F qc_21 dX1_wouldRing_112 hw.1 ?_
        replace hw := hw.2
        refine R_if_eq (tgt := 124) F dX1_wouldRing_113 (by decide) (fun hc => ?_) (fun hc => ?_)
        · replace hw := hw.1 hc
          exact R_sub [0, 1, 2, 3, 4] rfl (J_124 l1 l3 l4 l5 σ hw)
        · replace hw := hw.2 hc
          refine R_aload_n F dX1_wouldRing_116 rfl 0 rfl ?_
          refine gc_RX1_42_1 F in_X1wouldRing dX1_wouldRing_117 ?_
          refine R_iload F dX1_wouldRing_120 3 rfl ?_
          refine R_iconst F 1 dX1_wouldRing_122 (by decide) ?_
          have hi := hw.1
          replace hw := hw.2
          refine R_stz F qc_21 uc_21 dX1_wouldRing_123 hi (⟨by decide, by decide⟩ : Bo 1) ?_
          exact R_sub [0, 1, 2, 3, 4] rfl (J_124 l1 l3 l4 l5 (sa σ 21 l4 1) hw)
  unfold wp_X1wouldRing at hw
  replace hw := hw X20 X52 X74 C_20 C_52 C_74
  refine R_aload_n F dX1_wouldRing_0 rfl 0 rfl ?_
  refine R_iload_n F dX1_wouldRing_1 rfl 1 rfl ?_
  refine R_callI (As := [.int p1]) (C := RX1) (q0 := 1) (ci := 1) (N := 13) (T := TX1) (fs := cf_1 B) F (ct_X1isGate l E B _ p1 _ hw) (cwV 1 F.2.2.2.2.2.2.2.2.2.2 g_X1wouldRing_X1isGate_66 rfl rfl rfl (by decide +kernel) ⟨Nat.le_of_ble_eq_true rfl, Nat.le_of_ble_eq_true rfl⟩) ⟨rfl, rfl⟩ rfl (fun _ => rfl) rfl rfl (Nat.le_of_ble_eq_true rfl) dX1_wouldRing_2 (fun r1 σ2 hw => ?_)
  refine R_if_eq (tgt := 16) F dX1_wouldRing_5 (by decide) (fun hc => ?_) (fun hc => ?_)
  · replace hw := hw.1 hc
    exact R_sub [] rfl (J_16 σ2 hw)
  · replace hw := hw.2 hc
    refine R_aload_n F dX1_wouldRing_8 rfl 0 rfl ?_
    refine R_iload_n F dX1_wouldRing_9 rfl 2 rfl ?_
    refine R_callI (As := [.int p2]) (C := RX1) (q0 := 1) (ci := 1) (N := 13) (T := TX1) (fs := cf_1 B) F (ct_X1isGate l E B _ p2 _ hw) (cwV 1 F.2.2.2.2.2.2.2.2.2.2 g_X1wouldRing_X1isGate_66 rfl rfl rfl (by decide +kernel) ⟨Nat.le_of_ble_eq_true rfl, Nat.le_of_ble_eq_true rfl⟩) ⟨rfl, rfl⟩ rfl (fun _ => rfl) rfl rfl (Nat.le_of_ble_eq_true rfl) dX1_wouldRing_10 (fun r3 σ4 hw => ?_)
    refine R_if_ne (tgt := 18) F dX1_wouldRing_13 (by decide) (fun hc => ?_) (fun hc => ?_)
    · replace hw := hw.1 hc
      refine R_iconst F 0 dX1_wouldRing_18 (by decide) ?_
      refine R_istore_n (lv' := [(3, .int 0), (0, .ref (B 1)), (1, .int p1), (2, .int p2)]) F dX1_wouldRing_19 rfl (by decide) rfl ?_
      exact R_sub [1, 2, 3, 0] rfl (U_20 p1 p2 0 σ4 hw)
    · replace hw := hw.2 hc
      exact R_sub [] rfl (J_16 σ4 hw)
def b_X1gatesTakenBy_45 (X6 : Int32 → Int32 → Int32 → VS → Prop) (Q : Int32 → VS → Prop) (l1 : Int32) (l2 : Int32) (l3 : Int32) (σ : VS) : Prop := X6 l1 l2 (l3 + 1) σ
def b_X1gatesTakenBy_6 (X6 : Int32 → Int32 → Int32 → VS → Prop) (Q : Int32 → VS → Prop) (l1 : Int32) (l2 : Int32) (l3 : Int32) (σ : VS) : Prop := (In l1 50 ∧ ((((l1 * 4) + (rd σ 12 l1)).toInt ≤ l3.toInt → Q l2 σ) ∧ (l3.toInt < ((l1 * 4) + (rd σ 12 l1)).toInt → (In l3 200 ∧ (((rd σ 16 l3).toInt < 0 → b_X1gatesTakenBy_45 X6 Q l1 l2 l3 σ) ∧ (0 ≤ (rd σ 16 l3).toInt → (In l3 200 ∧ wp_X1isGate (fun (r2 : Int32) (σ3 : VS) => ((r2.toInt = 0 → b_X1gatesTakenBy_45 X6 Q l1 l2 l3 σ3) ∧ (r2.toInt ≠ 0 → b_X1gatesTakenBy_45 X6 Q l1 (l2 + 1) l3 σ3))) (rd σ 16 l3) σ)))))))
def wp_X1gatesTakenBy (Q : Int32 → VS → Prop) (p1 : Int32) (σ : VS) : Prop := ∀ (X6 : Int32 → Int32 → Int32 → VS → Prop), (∀ (l1 : Int32) (l2 : Int32) (l3 : Int32) (σ : VS), b_X1gatesTakenBy_6 X6 Q l1 l2 l3 σ → X6 l1 l2 l3 σ) → (∀ x1 : Int32, x1 = (p1 * 4) → X6 p1 0 x1 σ)
theorem dX1_gatesTakenBy_0 : decode cX1_gatesTakenBy 0 = .ok (.iconst 0, 1) := by decide +kernel
theorem dX1_gatesTakenBy_1 : decode cX1_gatesTakenBy 1 = .ok (.istore_n 2, 1) := by decide +kernel
theorem dX1_gatesTakenBy_2 : decode cX1_gatesTakenBy 2 = .ok (.iload_n 1, 1) := by decide +kernel
theorem dX1_gatesTakenBy_3 : decode cX1_gatesTakenBy 3 = .ok (.iconst 4, 1) := by decide +kernel
theorem dX1_gatesTakenBy_4 : decode cX1_gatesTakenBy 4 = .ok (.imul, 1) := by decide +kernel
theorem dX1_gatesTakenBy_5 : decode cX1_gatesTakenBy 5 = .ok (.istore_n 3, 1) := by decide +kernel
theorem dX1_gatesTakenBy_6 : decode cX1_gatesTakenBy 6 = .ok (.iload_n 3, 1) := by decide +kernel
theorem dX1_gatesTakenBy_7 : decode cX1_gatesTakenBy 7 = .ok (.iload_n 1, 1) := by decide +kernel
theorem dX1_gatesTakenBy_8 : decode cX1_gatesTakenBy 8 = .ok (.iconst 4, 1) := by decide +kernel
theorem dX1_gatesTakenBy_9 : decode cX1_gatesTakenBy 9 = .ok (.imul, 1) := by decide +kernel
theorem dX1_gatesTakenBy_10 : decode cX1_gatesTakenBy 10 = .ok (.aload_n 0, 1) := by decide +kernel
theorem dX1_gatesTakenBy_11 : decode cX1_gatesTakenBy 11 = .ok (.getfield 15, 3) := by decide +kernel
theorem dX1_gatesTakenBy_14 : decode cX1_gatesTakenBy 14 = .ok (.iload_n 1, 1) := by decide +kernel
theorem dX1_gatesTakenBy_15 : decode cX1_gatesTakenBy 15 = .ok (.iaload, 1) := by decide +kernel
theorem dX1_gatesTakenBy_16 : decode cX1_gatesTakenBy 16 = .ok (.iadd, 1) := by decide +kernel
theorem dX1_gatesTakenBy_17 : decode cX1_gatesTakenBy 17 = .ok (.if_icmp .ge 34, 3) := by decide +kernel
theorem dX1_gatesTakenBy_51 : decode cX1_gatesTakenBy 51 = .ok (.iload_n 2, 1) := by decide +kernel
theorem dX1_gatesTakenBy_52 : decode cX1_gatesTakenBy 52 = .ok (.ireturn, 1) := by decide +kernel
theorem dX1_gatesTakenBy_20 : decode cX1_gatesTakenBy 20 = .ok (.aload_n 0, 1) := by decide +kernel
theorem dX1_gatesTakenBy_21 : decode cX1_gatesTakenBy 21 = .ok (.getfield 27, 3) := by decide +kernel
theorem dX1_gatesTakenBy_24 : decode cX1_gatesTakenBy 24 = .ok (.iload_n 3, 1) := by decide +kernel
theorem dX1_gatesTakenBy_25 : decode cX1_gatesTakenBy 25 = .ok (.iaload, 1) := by decide +kernel
theorem dX1_gatesTakenBy_26 : decode cX1_gatesTakenBy 26 = .ok (.ifCond .lt 19, 3) := by decide +kernel
theorem dX1_gatesTakenBy_29 : decode cX1_gatesTakenBy 29 = .ok (.aload_n 0, 1) := by decide +kernel
theorem dX1_gatesTakenBy_30 : decode cX1_gatesTakenBy 30 = .ok (.aload_n 0, 1) := by decide +kernel
theorem dX1_gatesTakenBy_31 : decode cX1_gatesTakenBy 31 = .ok (.getfield 27, 3) := by decide +kernel
theorem dX1_gatesTakenBy_34 : decode cX1_gatesTakenBy 34 = .ok (.iload_n 3, 1) := by decide +kernel
theorem dX1_gatesTakenBy_35 : decode cX1_gatesTakenBy 35 = .ok (.iaload, 1) := by decide +kernel
theorem dX1_gatesTakenBy_36 : decode cX1_gatesTakenBy 36 = .ok (.invokevirtual 66, 3) := by decide +kernel
theorem dX1_gatesTakenBy_39 : decode cX1_gatesTakenBy 39 = .ok (.ifCond .eq 6, 3) := by decide +kernel
theorem dX1_gatesTakenBy_42 : decode cX1_gatesTakenBy 42 = .ok (.iinc 2 1, 3) := by decide +kernel
theorem dX1_gatesTakenBy_45 : decode cX1_gatesTakenBy 45 = .ok (.iinc 3 1, 3) := by decide +kernel
theorem dX1_gatesTakenBy_48 : decode cX1_gatesTakenBy 48 = .ok (.goto (-42), 3) := by decide +kernel
def wo_X1gatesTakenBy : List Cond := [.code yX1_gatesTakenBy cX1_gatesTakenBy 4 (some .int), .methodLink RX1 66 yX1_isGate, .instanceMethod yX1_isGate, .selects RX1 yX1_isGate yX1_isGate, .initialized RX1]
def wr_X1gatesTakenBy : List Cond := (wfC ++ (w_X1isGate ++ ([])))
def w_X1gatesTakenBy : List Cond := wo_X1gatesTakenBy ++ wr_X1gatesTakenBy
theorem wg_X1gatesTakenBy : GW w_X1gatesTakenBy := GW_app (GW_of (by decide +kernel)) (GW_app (wg_fC) (GW_app (wg_X1isGate) (GW_nil)))
theorem in_X1gatesTakenBy : ∀ w ∈ wfC, w ∈ w_X1gatesTakenBy := fun _ h => List.mem_append_right _ (List.mem_append_left _ h)
theorem g_X1gatesTakenBy_X1isGate_66 : GoodIn w_X1gatesTakenBy (wsV RX1 66 RX1 yX1_isGate w_X1isGate) := goodIn_app (gi_left (goodIn_of _ (by decide +kernel))) (fun w h => ⟨List.mem_append_right _ (List.mem_append_right _ (List.mem_append_left _ h)), wg_X1isGate w h⟩)
set_option maxHeartbeats 4000000 in
set_option maxRecDepth 100000 in
theorem ct_X1gatesTakenBy (l : Launch) (E : gE) (B : Nat → Nat) (Q : Int32 → VS → Prop) (p1 : Int32) (σ : VS) (hw : wp_X1gatesTakenBy Q p1 σ) : CtI l E yX1_gatesTakenBy w_X1gatesTakenBy (({ frames := 2, cells := 0, slots := 0, locals := 41 } : Room)) (wc E B σ) [.ref (B 1), .int p1] (fun r w => ∃ σ' : VS, Q r σ' ∧ w = wc E B σ') := by
  refine VC_I (cc := cX1_gatesTakenBy) (mL := 4) (rt := (some .int)) (lv0 := [(0, .ref (B 1)), (1, .int p1)]) rfl (by decide) rfl (Nat.le_of_ble_eq_true rfl) ?_
  intro p e s m below meth c A F
  replace F : Fx p s m _ meth c A E cX1_gatesTakenBy 4 (some .int) RX1 w_X1gatesTakenBy := F
  obtain ⟨X6, hX6⟩ : ∃ X : Int32 → Int32 → Int32 → VS → Prop, X = fun l1 l2 l3 σ => WB p l e (({ frames := 2, cells := 0, slots := 0, locals := 41 } : Room)) s m (#[.ref (B 1), .int p1]) below meth c (MQ below (va_Qi (fun r w => ∃ σ' : VS, Q r σ' ∧ w = wc E B σ') (AftU E A) A) (#[.ref (B 1), .int p1]) s (({ frames := 2, cells := 0, slots := 0, locals := 41 } : Room)).cells (({ frames := 2, cells := 0, slots := 0, locals := 41 } : Room)).slots A) A E (wc E B) 4 6 [(0, .ref (B 1)), (1, .int l1), (2, .int l2), (3, .int l3)] [] σ := ⟨_, rfl⟩
  have U_6 : ∀ (l1 : Int32) (l2 : Int32) (l3 : Int32) (σ : VS), X6 l1 l2 l3 σ → WB p l e (({ frames := 2, cells := 0, slots := 0, locals := 41 } : Room)) s m (#[.ref (B 1), .int p1]) below meth c (MQ below (va_Qi (fun r w => ∃ σ' : VS, Q r σ' ∧ w = wc E B σ') (AftU E A) A) (#[.ref (B 1), .int p1]) s (({ frames := 2, cells := 0, slots := 0, locals := 41 } : Room)).cells (({ frames := 2, cells := 0, slots := 0, locals := 41 } : Room)).slots A) A E (wc E B) 4 6 [(0, .ref (B 1)), (1, .int l1), (2, .int l2), (3, .int l3)] [] σ := by
    intro l1 l2 l3 σ hw; rw [hX6] at hw; exact hw
  have J_45 : ∀ (l1 : Int32) (l2 : Int32) (l3 : Int32) (σ : VS), b_X1gatesTakenBy_45 X6 Q l1 l2 l3 σ → WB p l e (({ frames := 2, cells := 0, slots := 0, locals := 41 } : Room)) s m (#[.ref (B 1), .int p1]) below meth c (MQ below (va_Qi (fun r w => ∃ σ' : VS, Q r σ' ∧ w = wc E B σ') (AftU E A) A) (#[.ref (B 1), .int p1]) s (({ frames := 2, cells := 0, slots := 0, locals := 41 } : Room)).cells (({ frames := 2, cells := 0, slots := 0, locals := 41 } : Room)).slots A) A E (wc E B) 4 45 [(0, .ref (B 1)), (1, .int l1), (2, .int l2), (3, .int l3)] [] σ := by
    intro l1 l2 l3 σ hw
    unfold b_X1gatesTakenBy_45 at hw
    refine R_iinc (q := 3) (v := (l3 + 1)) (lv' := [(3, .int (l3 + 1)), (0, .ref (B 1)), (1, .int l1), (2, .int l2)]) F dX1_gatesTakenBy_45 rfl rfl (by decide) rfl ?_
    refine R_goto (tgt := 6) F dX1_gatesTakenBy_48 (by decide) ?_
    exact R_sub [1, 2, 3, 0] rfl (U_6 l1 l2 (l3 + 1) σ hw)
  have C_6 : ∀ (l1 : Int32) (l2 : Int32) (l3 : Int32) (σ : VS), b_X1gatesTakenBy_6 X6 Q l1 l2 l3 σ → X6 l1 l2 l3 σ := by
    intro l1 l2 l3 σ hw
    unfold b_X1gatesTakenBy_6 at hw
    rw [hX6]
    show WB p l e (({ frames := 2, cells := 0, slots := 0, locals := 41 } : Room)) s m (#[.ref (B 1), .int p1]) below meth c (MQ below (va_Qi (fun r w => ∃ σ' : VS, Q r σ' ∧ w = wc E B σ') (AftU E A) A) (#[.ref (B 1), .int p1]) s (({ frames := 2, cells := 0, slots := 0, locals := 41 } : Room)).cells (({ frames := 2, cells := 0, slots := 0, locals := 41 } : Room)).slots A) A E (wc E B) 4 6 [(0, .ref (B 1)), (1, .int l1), (2, .int l2), (3, .int l3)] [] σ
    refine R_iload_n F dX1_gatesTakenBy_6 rfl 3 rfl ?_
    refine R_iload_n F dX1_gatesTakenBy_7 rfl 1 rfl ?_
    refine R_iconst F 4 dX1_gatesTakenBy_8 (by decide) ?_
    refine R_imul F dX1_gatesTakenBy_9 ?_
    refine R_aload_n F dX1_gatesTakenBy_10 rfl 0 rfl ?_
    refine gc_RX1_15_1 F in_X1gatesTakenBy dX1_gatesTakenBy_11 ?_
    refine R_iload_n F dX1_gatesTakenBy_14 rfl 1 rfl ?_
    refine R_ldi F qc_12 dX1_gatesTakenBy_15 hw.1 ?_
    replace hw := hw.2
    refine R_iadd F dX1_gatesTakenBy_16 ?_
    refine R_icmp_ge (tgt := 51) F dX1_gatesTakenBy_17 (by decide) (fun hc => ?_) (fun hc => ?_)
    · replace hw := hw.1 hc
      refine R_iload_n F dX1_gatesTakenBy_51 rfl 2 rfl ?_
      exact R_iret (Qc := Q) F rfl dX1_gatesTakenBy_52 hw
    · replace hw := hw.2 hc
      refine R_aload_n F dX1_gatesTakenBy_20 rfl 0 rfl ?_
      refine gc_RX1_27_1 F in_X1gatesTakenBy dX1_gatesTakenBy_21 ?_
      refine R_iload_n F dX1_gatesTakenBy_24 rfl 3 rfl ?_
      refine R_ldi F qc_16 dX1_gatesTakenBy_25 hw.1 ?_
      replace hw := hw.2
      refine R_if_lt (tgt := 45) F dX1_gatesTakenBy_26 (by decide) (fun hc => ?_) (fun hc => ?_)
      · replace hw := hw.1 hc
        exact R_sub [0, 1, 2, 3] rfl (J_45 l1 l2 l3 σ hw)
      · replace hw := hw.2 hc
        refine R_aload_n F dX1_gatesTakenBy_29 rfl 0 rfl ?_
        refine R_aload_n F dX1_gatesTakenBy_30 rfl 0 rfl ?_
        refine gc_RX1_27_1 F in_X1gatesTakenBy dX1_gatesTakenBy_31 ?_
        refine R_iload_n F dX1_gatesTakenBy_34 rfl 3 rfl ?_
        refine R_ldi F qc_16 dX1_gatesTakenBy_35 hw.1 ?_
        replace hw := hw.2
        refine R_callI (As := [.int (rd σ 16 l3)]) (C := RX1) (q0 := 1) (ci := 1) (N := 13) (T := TX1) (fs := cf_1 B) F (ct_X1isGate l E B _ (rd σ 16 l3) _ hw) (cwV 1 F.2.2.2.2.2.2.2.2.2.2 g_X1gatesTakenBy_X1isGate_66 rfl rfl rfl (by decide +kernel) ⟨Nat.le_of_ble_eq_true rfl, Nat.le_of_ble_eq_true rfl⟩) ⟨rfl, rfl⟩ rfl (fun _ => rfl) rfl rfl (Nat.le_of_ble_eq_true rfl) dX1_gatesTakenBy_36 (fun r2 σ3 hw => ?_)
        refine R_if_eq (tgt := 45) F dX1_gatesTakenBy_39 (by decide) (fun hc => ?_) (fun hc => ?_)
        · replace hw := hw.1 hc
          exact R_sub [0, 1, 2, 3] rfl (J_45 l1 l2 l3 σ3 hw)
        · replace hw := hw.2 hc
          refine R_iinc (q := 2) (v := (l2 + 1)) (lv' := [(2, .int (l2 + 1)), (0, .ref (B 1)), (1, .int l1), (3, .int l3)]) F dX1_gatesTakenBy_42 rfl rfl (by decide) rfl ?_
          exact R_sub [1, 2, 0, 3] rfl (J_45 l1 (l2 + 1) l3 σ3 hw)
  unfold wp_X1gatesTakenBy at hw
  replace hw := hw X6 C_6
  refine R_iconst F 0 dX1_gatesTakenBy_0 (by decide) ?_
  refine R_istore_n (lv' := [(2, .int 0), (0, .ref (B 1)), (1, .int p1)]) F dX1_gatesTakenBy_1 rfl (by decide) rfl ?_
  refine R_iload_n F dX1_gatesTakenBy_2 rfl 2 rfl ?_
  refine R_iconst F 4 dX1_gatesTakenBy_3 (by decide) ?_
  refine R_imul F dX1_gatesTakenBy_4 ?_
  refine R_topi (fun x1 ex1 => ?_)
  replace hw := hw x1 ex1
  refine R_istore_n (lv' := [(3, .int x1), (2, .int 0), (0, .ref (B 1)), (1, .int p1)]) F dX1_gatesTakenBy_5 rfl (by decide) rfl ?_
  exact R_sub [2, 3, 1, 0] rfl (U_6 p1 0 x1 σ hw)
def b_X1listTakers_151 (X10 : Int32 → VS → Prop) (X59 : Int32 → VS → Prop) (X108 : Int32 → VS → Prop) (Q : VS → Prop) (l1 : Int32) (σ : VS) : Prop := X108 (l1 + 1) σ
def b_X1listTakers_108 (X10 : Int32 → VS → Prop) (X59 : Int32 → VS → Prop) (X108 : Int32 → VS → Prop) (Q : VS → Prop) (l1 : Int32) (σ : VS) : Prop := ((((σ.1 2) * 4).toInt ≤ l1.toInt → Q σ) ∧ (l1.toInt < ((σ.1 2) * 4).toInt → (In l1 200 ∧ (∀ x1 : Int32, x1 = (rd σ 16 l1) → ((x1.toInt < 0 → b_X1listTakers_151 X10 X59 X108 Q l1 σ) ∧ (0 ≤ x1.toInt → (In x1 50 ∧ (In (rd σ 20 x1) 200 ∧ (In x1 50 ∧ (In x1 50 ∧ b_X1listTakers_151 X10 X59 X108 Q l1 (sa (sa σ 17 (rd σ 20 x1) l1) 20 x1 ((rd (sa σ 17 (rd σ 20 x1) l1) 20 x1) + 1))))))))))))
def b_X1listTakers_59 (X10 : Int32 → VS → Prop) (X59 : Int32 → VS → Prop) (X108 : Int32 → VS → Prop) (Q : VS → Prop) (l1 : Int32) (σ : VS) : Prop := (((σ.1 2).toInt ≤ l1.toInt → X108 0 σ) ∧ (l1.toInt < (σ.1 2).toInt → (In l1 51 ∧ (In l1 50 ∧ (In (l1 + 1) 51 ∧ (In l1 51 ∧ (In l1 50 ∧ X59 (l1 + 1) (sa (sa σ 18 (l1 + 1) ((rd σ 18 l1) + (rd σ 20 l1))) 20 l1 (rd (sa σ 18 (l1 + 1) ((rd σ 18 l1) + (rd σ 20 l1))) 18 l1)))))))))
def b_X1listTakers_44 (X10 : Int32 → VS → Prop) (X59 : Int32 → VS → Prop) (X108 : Int32 → VS → Prop) (Q : VS → Prop) (l1 : Int32) (σ : VS) : Prop := X10 (l1 + 1) σ
def b_X1listTakers_10 (X10 : Int32 → VS → Prop) (X59 : Int32 → VS → Prop) (X108 : Int32 → VS → Prop) (Q : VS → Prop) (l1 : Int32) (σ : VS) : Prop := ((((σ.1 2) * 4).toInt ≤ l1.toInt → X59 0 (sa σ 18 0 0)) ∧ (l1.toInt < ((σ.1 2) * 4).toInt → (In l1 200 ∧ (((rd σ 16 l1).toInt < 0 → b_X1listTakers_44 X10 X59 X108 Q l1 σ) ∧ (0 ≤ (rd σ 16 l1).toInt → (In l1 200 ∧ (In (rd σ 16 l1) 50 ∧ (In (rd σ 16 l1) 50 ∧ b_X1listTakers_44 X10 X59 X108 Q l1 (sa σ 20 (rd σ 16 l1) ((rd σ 20 (rd σ 16 l1)) + 1))))))))))
def wp_X1listTakers (Q : VS → Prop) (σ : VS) : Prop := ∀ (X10 : Int32 → VS → Prop) (X59 : Int32 → VS → Prop) (X108 : Int32 → VS → Prop), (∀ (l1 : Int32) (σ : VS), b_X1listTakers_10 X10 X59 X108 Q l1 σ → X10 l1 σ) → (∀ (l1 : Int32) (σ : VS), b_X1listTakers_59 X10 X59 X108 Q l1 σ → X59 l1 σ) → (∀ (l1 : Int32) (σ : VS), b_X1listTakers_108 X10 X59 X108 Q l1 σ → X108 l1 σ) → X10 0 (sfl σ 20 0)
theorem dX1_listTakers_0 : decode cX1_listTakers 0 = .ok (.aload_n 0, 1) := by decide +kernel
theorem dX1_listTakers_1 : decode cX1_listTakers 1 = .ok (.getfield 39, 3) := by decide +kernel
theorem dX1_listTakers_4 : decode cX1_listTakers 4 = .ok (.iconst 0, 1) := by decide +kernel
theorem dX1_listTakers_5 : decode cX1_listTakers 5 = .ok (.invokestatic 46, 3) := by decide +kernel
theorem dX1_listTakers_8 : decode cX1_listTakers 8 = .ok (.iconst 0, 1) := by decide +kernel
theorem dX1_listTakers_9 : decode cX1_listTakers 9 = .ok (.istore_n 1, 1) := by decide +kernel
theorem dX1_listTakers_10 : decode cX1_listTakers 10 = .ok (.iload_n 1, 1) := by decide +kernel
theorem dX1_listTakers_11 : decode cX1_listTakers 11 = .ok (.aload_n 0, 1) := by decide +kernel
theorem dX1_listTakers_12 : decode cX1_listTakers 12 = .ok (.getfield 52, 3) := by decide +kernel
theorem dX1_listTakers_15 : decode cX1_listTakers 15 = .ok (.iconst 4, 1) := by decide +kernel
theorem dX1_listTakers_16 : decode cX1_listTakers 16 = .ok (.imul, 1) := by decide +kernel
theorem dX1_listTakers_17 : decode cX1_listTakers 17 = .ok (.if_icmp .ge 33, 3) := by decide +kernel
theorem dX1_listTakers_50 : decode cX1_listTakers 50 = .ok (.aload_n 0, 1) := by decide +kernel
theorem dX1_listTakers_51 : decode cX1_listTakers 51 = .ok (.getfield 33, 3) := by decide +kernel
theorem dX1_listTakers_54 : decode cX1_listTakers 54 = .ok (.iconst 0, 1) := by decide +kernel
theorem dX1_listTakers_55 : decode cX1_listTakers 55 = .ok (.iconst 0, 1) := by decide +kernel
theorem dX1_listTakers_56 : decode cX1_listTakers 56 = .ok (.iastore, 1) := by decide +kernel
theorem dX1_listTakers_57 : decode cX1_listTakers 57 = .ok (.iconst 0, 1) := by decide +kernel
theorem dX1_listTakers_58 : decode cX1_listTakers 58 = .ok (.istore_n 1, 1) := by decide +kernel
theorem dX1_listTakers_20 : decode cX1_listTakers 20 = .ok (.aload_n 0, 1) := by decide +kernel
theorem dX1_listTakers_21 : decode cX1_listTakers 21 = .ok (.getfield 27, 3) := by decide +kernel
theorem dX1_listTakers_24 : decode cX1_listTakers 24 = .ok (.iload_n 1, 1) := by decide +kernel
theorem dX1_listTakers_25 : decode cX1_listTakers 25 = .ok (.iaload, 1) := by decide +kernel
theorem dX1_listTakers_26 : decode cX1_listTakers 26 = .ok (.ifCond .lt 18, 3) := by decide +kernel
theorem dX1_listTakers_29 : decode cX1_listTakers 29 = .ok (.aload_n 0, 1) := by decide +kernel
theorem dX1_listTakers_30 : decode cX1_listTakers 30 = .ok (.getfield 39, 3) := by decide +kernel
theorem dX1_listTakers_33 : decode cX1_listTakers 33 = .ok (.aload_n 0, 1) := by decide +kernel
theorem dX1_listTakers_34 : decode cX1_listTakers 34 = .ok (.getfield 27, 3) := by decide +kernel
theorem dX1_listTakers_37 : decode cX1_listTakers 37 = .ok (.iload_n 1, 1) := by decide +kernel
theorem dX1_listTakers_38 : decode cX1_listTakers 38 = .ok (.iaload, 1) := by decide +kernel
theorem dX1_listTakers_39 : decode cX1_listTakers 39 = .ok (.dup2, 1) := by decide +kernel
theorem dX1_listTakers_40 : decode cX1_listTakers 40 = .ok (.iaload, 1) := by decide +kernel
theorem dX1_listTakers_41 : decode cX1_listTakers 41 = .ok (.iconst 1, 1) := by decide +kernel
theorem dX1_listTakers_42 : decode cX1_listTakers 42 = .ok (.iadd, 1) := by decide +kernel
theorem dX1_listTakers_43 : decode cX1_listTakers 43 = .ok (.iastore, 1) := by decide +kernel
theorem dX1_listTakers_59 : decode cX1_listTakers 59 = .ok (.iload_n 1, 1) := by decide +kernel
theorem dX1_listTakers_60 : decode cX1_listTakers 60 = .ok (.aload_n 0, 1) := by decide +kernel
theorem dX1_listTakers_61 : decode cX1_listTakers 61 = .ok (.getfield 52, 3) := by decide +kernel
theorem dX1_listTakers_64 : decode cX1_listTakers 64 = .ok (.if_icmp .ge 42, 3) := by decide +kernel
theorem dX1_listTakers_106 : decode cX1_listTakers 106 = .ok (.iconst 0, 1) := by decide +kernel
theorem dX1_listTakers_107 : decode cX1_listTakers 107 = .ok (.istore_n 1, 1) := by decide +kernel
theorem dX1_listTakers_67 : decode cX1_listTakers 67 = .ok (.aload_n 0, 1) := by decide +kernel
theorem dX1_listTakers_68 : decode cX1_listTakers 68 = .ok (.getfield 33, 3) := by decide +kernel
theorem dX1_listTakers_71 : decode cX1_listTakers 71 = .ok (.iload_n 1, 1) := by decide +kernel
theorem dX1_listTakers_72 : decode cX1_listTakers 72 = .ok (.iconst 1, 1) := by decide +kernel
theorem dX1_listTakers_73 : decode cX1_listTakers 73 = .ok (.iadd, 1) := by decide +kernel
theorem dX1_listTakers_74 : decode cX1_listTakers 74 = .ok (.aload_n 0, 1) := by decide +kernel
theorem dX1_listTakers_75 : decode cX1_listTakers 75 = .ok (.getfield 33, 3) := by decide +kernel
theorem dX1_listTakers_78 : decode cX1_listTakers 78 = .ok (.iload_n 1, 1) := by decide +kernel
theorem dX1_listTakers_79 : decode cX1_listTakers 79 = .ok (.iaload, 1) := by decide +kernel
theorem dX1_listTakers_80 : decode cX1_listTakers 80 = .ok (.aload_n 0, 1) := by decide +kernel
theorem dX1_listTakers_81 : decode cX1_listTakers 81 = .ok (.getfield 39, 3) := by decide +kernel
theorem dX1_listTakers_84 : decode cX1_listTakers 84 = .ok (.iload_n 1, 1) := by decide +kernel
theorem dX1_listTakers_85 : decode cX1_listTakers 85 = .ok (.iaload, 1) := by decide +kernel
theorem dX1_listTakers_86 : decode cX1_listTakers 86 = .ok (.iadd, 1) := by decide +kernel
theorem dX1_listTakers_87 : decode cX1_listTakers 87 = .ok (.iastore, 1) := by decide +kernel
theorem dX1_listTakers_88 : decode cX1_listTakers 88 = .ok (.aload_n 0, 1) := by decide +kernel
theorem dX1_listTakers_89 : decode cX1_listTakers 89 = .ok (.getfield 39, 3) := by decide +kernel
theorem dX1_listTakers_92 : decode cX1_listTakers 92 = .ok (.iload_n 1, 1) := by decide +kernel
theorem dX1_listTakers_93 : decode cX1_listTakers 93 = .ok (.aload_n 0, 1) := by decide +kernel
theorem dX1_listTakers_94 : decode cX1_listTakers 94 = .ok (.getfield 33, 3) := by decide +kernel
theorem dX1_listTakers_97 : decode cX1_listTakers 97 = .ok (.iload_n 1, 1) := by decide +kernel
theorem dX1_listTakers_98 : decode cX1_listTakers 98 = .ok (.iaload, 1) := by decide +kernel
theorem dX1_listTakers_99 : decode cX1_listTakers 99 = .ok (.iastore, 1) := by decide +kernel
theorem dX1_listTakers_100 : decode cX1_listTakers 100 = .ok (.iinc 1 1, 3) := by decide +kernel
theorem dX1_listTakers_103 : decode cX1_listTakers 103 = .ok (.goto (-44), 3) := by decide +kernel
theorem dX1_listTakers_44 : decode cX1_listTakers 44 = .ok (.iinc 1 1, 3) := by decide +kernel
theorem dX1_listTakers_47 : decode cX1_listTakers 47 = .ok (.goto (-37), 3) := by decide +kernel
theorem dX1_listTakers_108 : decode cX1_listTakers 108 = .ok (.iload_n 1, 1) := by decide +kernel
theorem dX1_listTakers_109 : decode cX1_listTakers 109 = .ok (.aload_n 0, 1) := by decide +kernel
theorem dX1_listTakers_110 : decode cX1_listTakers 110 = .ok (.getfield 52, 3) := by decide +kernel
theorem dX1_listTakers_113 : decode cX1_listTakers 113 = .ok (.iconst 4, 1) := by decide +kernel
theorem dX1_listTakers_114 : decode cX1_listTakers 114 = .ok (.imul, 1) := by decide +kernel
theorem dX1_listTakers_115 : decode cX1_listTakers 115 = .ok (.if_icmp .ge 42, 3) := by decide +kernel
theorem dX1_listTakers_157 : decode cX1_listTakers 157 = .ok (.return_, 1) := by decide +kernel
theorem dX1_listTakers_118 : decode cX1_listTakers 118 = .ok (.aload_n 0, 1) := by decide +kernel
theorem dX1_listTakers_119 : decode cX1_listTakers 119 = .ok (.getfield 27, 3) := by decide +kernel
theorem dX1_listTakers_122 : decode cX1_listTakers 122 = .ok (.iload_n 1, 1) := by decide +kernel
theorem dX1_listTakers_123 : decode cX1_listTakers 123 = .ok (.iaload, 1) := by decide +kernel
theorem dX1_listTakers_124 : decode cX1_listTakers 124 = .ok (.istore_n 2, 1) := by decide +kernel
theorem dX1_listTakers_125 : decode cX1_listTakers 125 = .ok (.iload_n 2, 1) := by decide +kernel
theorem dX1_listTakers_126 : decode cX1_listTakers 126 = .ok (.ifCond .lt 25, 3) := by decide +kernel
theorem dX1_listTakers_129 : decode cX1_listTakers 129 = .ok (.aload_n 0, 1) := by decide +kernel
theorem dX1_listTakers_130 : decode cX1_listTakers 130 = .ok (.getfield 30, 3) := by decide +kernel
theorem dX1_listTakers_133 : decode cX1_listTakers 133 = .ok (.aload_n 0, 1) := by decide +kernel
theorem dX1_listTakers_134 : decode cX1_listTakers 134 = .ok (.getfield 39, 3) := by decide +kernel
theorem dX1_listTakers_137 : decode cX1_listTakers 137 = .ok (.iload_n 2, 1) := by decide +kernel
theorem dX1_listTakers_138 : decode cX1_listTakers 138 = .ok (.iaload, 1) := by decide +kernel
theorem dX1_listTakers_139 : decode cX1_listTakers 139 = .ok (.iload_n 1, 1) := by decide +kernel
theorem dX1_listTakers_140 : decode cX1_listTakers 140 = .ok (.iastore, 1) := by decide +kernel
theorem dX1_listTakers_141 : decode cX1_listTakers 141 = .ok (.aload_n 0, 1) := by decide +kernel
theorem dX1_listTakers_142 : decode cX1_listTakers 142 = .ok (.getfield 39, 3) := by decide +kernel
theorem dX1_listTakers_145 : decode cX1_listTakers 145 = .ok (.iload_n 2, 1) := by decide +kernel
theorem dX1_listTakers_146 : decode cX1_listTakers 146 = .ok (.dup2, 1) := by decide +kernel
theorem dX1_listTakers_147 : decode cX1_listTakers 147 = .ok (.iaload, 1) := by decide +kernel
theorem dX1_listTakers_148 : decode cX1_listTakers 148 = .ok (.iconst 1, 1) := by decide +kernel
theorem dX1_listTakers_149 : decode cX1_listTakers 149 = .ok (.iadd, 1) := by decide +kernel
theorem dX1_listTakers_150 : decode cX1_listTakers 150 = .ok (.iastore, 1) := by decide +kernel
theorem dX1_listTakers_151 : decode cX1_listTakers 151 = .ok (.iinc 1 1, 3) := by decide +kernel
theorem dX1_listTakers_154 : decode cX1_listTakers 154 = .ok (.goto (-46), 3) := by decide +kernel
def wo_X1listTakers : List Cond := [.code yX1_listTakers cX1_listTakers 3 none, .methodLink RX1 46 yJ7_fill_53178, .static yJ7_fill_53178, .initialized RJ7]
def wr_X1listTakers : List Cond := (wfC ++ (w_k_fill ++ ([])))
def w_X1listTakers : List Cond := wo_X1listTakers ++ wr_X1listTakers
theorem wg_X1listTakers : GW w_X1listTakers := GW_app (GW_of (by decide +kernel)) (GW_app (wg_fC) (GW_app (wg_k_fill) (GW_nil)))
theorem in_X1listTakers : ∀ w ∈ wfC, w ∈ w_X1listTakers := fun _ h => List.mem_append_right _ (List.mem_append_left _ h)
theorem g_X1listTakers_k_fill_46 : GoodIn w_X1listTakers (va_wsS RX1 46 yJ7_fill_53178 w_k_fill) := goodIn_app (gi_left (goodIn_of _ (by decide +kernel))) (fun w h => ⟨List.mem_append_right _ (List.mem_append_right _ (List.mem_append_left _ h)), wg_k_fill w h⟩)
set_option maxHeartbeats 4000000 in
set_option maxRecDepth 100000 in
theorem ct_X1listTakers (l : Launch) (E : gE) (B : Nat → Nat) (Q : VS → Prop) (σ : VS) (hw : wp_X1listTakers Q σ) : CtV l E yX1_listTakers w_X1listTakers (({ frames := 1, cells := 0, slots := 0, locals := 23 } : Room)) (wc E B σ) [.ref (B 1)] (fun w => ∃ σ' : VS, Q σ' ∧ w = wc E B σ') := by
  refine VC_V (cc := cX1_listTakers) (mL := 3) (rt := none) (lv0 := [(0, .ref (B 1))]) rfl (by decide) rfl (Nat.le_of_ble_eq_true rfl) ?_
  intro p e s m below meth c A F
  replace F : Fx p s m _ meth c A E cX1_listTakers 3 none RX1 w_X1listTakers := F
  obtain ⟨X10, hX10⟩ : ∃ X : Int32 → VS → Prop, X = fun l1 σ => WB p l e (({ frames := 1, cells := 0, slots := 0, locals := 23 } : Room)) s m (#[.ref (B 1)]) below meth c (MQ below (va_Qv (fun w => ∃ σ' : VS, Q σ' ∧ w = wc E B σ') (AftU E A) A) (#[.ref (B 1)]) s (({ frames := 1, cells := 0, slots := 0, locals := 23 } : Room)).cells (({ frames := 1, cells := 0, slots := 0, locals := 23 } : Room)).slots A) A E (wc E B) 3 10 [(0, .ref (B 1)), (1, .int l1)] [] σ := ⟨_, rfl⟩
  have U_10 : ∀ (l1 : Int32) (σ : VS), X10 l1 σ → WB p l e (({ frames := 1, cells := 0, slots := 0, locals := 23 } : Room)) s m (#[.ref (B 1)]) below meth c (MQ below (va_Qv (fun w => ∃ σ' : VS, Q σ' ∧ w = wc E B σ') (AftU E A) A) (#[.ref (B 1)]) s (({ frames := 1, cells := 0, slots := 0, locals := 23 } : Room)).cells (({ frames := 1, cells := 0, slots := 0, locals := 23 } : Room)).slots A) A E (wc E B) 3 10 [(0, .ref (B 1)), (1, .int l1)] [] σ := by
    intro l1 σ hw; rw [hX10] at hw; exact hw
  obtain ⟨X59, hX59⟩ : ∃ X : Int32 → VS → Prop, X = fun l1 σ => WB p l e (({ frames := 1, cells := 0, slots := 0, locals := 23 } : Room)) s m (#[.ref (B 1)]) below meth c (MQ below (va_Qv (fun w => ∃ σ' : VS, Q σ' ∧ w = wc E B σ') (AftU E A) A) (#[.ref (B 1)]) s (({ frames := 1, cells := 0, slots := 0, locals := 23 } : Room)).cells (({ frames := 1, cells := 0, slots := 0, locals := 23 } : Room)).slots A) A E (wc E B) 3 59 [(0, .ref (B 1)), (1, .int l1)] [] σ := ⟨_, rfl⟩
  have U_59 : ∀ (l1 : Int32) (σ : VS), X59 l1 σ → WB p l e (({ frames := 1, cells := 0, slots := 0, locals := 23 } : Room)) s m (#[.ref (B 1)]) below meth c (MQ below (va_Qv (fun w => ∃ σ' : VS, Q σ' ∧ w = wc E B σ') (AftU E A) A) (#[.ref (B 1)]) s (({ frames := 1, cells := 0, slots := 0, locals := 23 } : Room)).cells (({ frames := 1, cells := 0, slots := 0, locals := 23 } : Room)).slots A) A E (wc E B) 3 59 [(0, .ref (B 1)), (1, .int l1)] [] σ := by
    intro l1 σ hw; rw [hX59] at hw; exact hw
  obtain ⟨X108, hX108⟩ : ∃ X : Int32 → VS → Prop, X = fun l1 σ => WB p l e (({ frames := 1, cells := 0, slots := 0, locals := 23 } : Room)) s m (#[.ref (B 1)]) below meth c (MQ below (va_Qv (fun w => ∃ σ' : VS, Q σ' ∧ w = wc E B σ') (AftU E A) A) (#[.ref (B 1)]) s (({ frames := 1, cells := 0, slots := 0, locals := 23 } : Room)).cells (({ frames := 1, cells := 0, slots := 0, locals := 23 } : Room)).slots A) A E (wc E B) 3 108 [(0, .ref (B 1)), (1, .int l1)] [] σ := ⟨_, rfl⟩
  have U_108 : ∀ (l1 : Int32) (σ : VS), X108 l1 σ → WB p l e (({ frames := 1, cells := 0, slots := 0, locals := 23 } : Room)) s m (#[.ref (B 1)]) below meth c (MQ below (va_Qv (fun w => ∃ σ' : VS, Q σ' ∧ w = wc E B σ') (AftU E A) A) (#[.ref (B 1)]) s (({ frames := 1, cells := 0, slots := 0, locals := 23 } : Room)).cells (({ frames := 1, cells := 0, slots := 0, locals := 23 } : Room)).slots A) A E (wc E B) 3 108 [(0, .ref (B 1)), (1, .int l1)] [] σ := by
    intro l1 σ hw; rw [hX108] at hw; exact hw
  have J_151 : ∀ (l1 : Int32) (σ : VS), b_X1listTakers_151 X10 X59 X108 Q l1 σ → WB p l e (({ frames := 1, cells := 0, slots := 0, locals := 23 } : Room)) s m (#[.ref (B 1)]) below meth c (MQ below (va_Qv (fun w => ∃ σ' : VS, Q σ' ∧ w = wc E B σ') (AftU E A) A) (#[.ref (B 1)]) s (({ frames := 1, cells := 0, slots := 0, locals := 23 } : Room)).cells (({ frames := 1, cells := 0, slots := 0, locals := 23 } : Room)).slots A) A E (wc E B) 3 151 [(0, .ref (B 1)), (1, .int l1)] [] σ := by
    intro l1 σ hw
    unfold b_X1listTakers_151 at hw
    refine R_iinc (q := 1) (v := (l1 + 1)) (lv' := [(1, .int (l1 + 1)), (0, .ref (B 1))]) F dX1_listTakers_151 rfl rfl (by decide) rfl ?_
    refine R_goto (tgt := 108) F dX1_listTakers_154 (by decide) ?_
    exact R_sub [1, 0] rfl (U_108 (l1 + 1) σ hw)
  have J_44 : ∀ (l1 : Int32) (σ : VS), b_X1listTakers_44 X10 X59 X108 Q l1 σ → WB p l e (({ frames := 1, cells := 0, slots := 0, locals := 23 } : Room)) s m (#[.ref (B 1)]) below meth c (MQ below (va_Qv (fun w => ∃ σ' : VS, Q σ' ∧ w = wc E B σ') (AftU E A) A) (#[.ref (B 1)]) s (({ frames := 1, cells := 0, slots := 0, locals := 23 } : Room)).cells (({ frames := 1, cells := 0, slots := 0, locals := 23 } : Room)).slots A) A E (wc E B) 3 44 [(0, .ref (B 1)), (1, .int l1)] [] σ := by
    intro l1 σ hw
    unfold b_X1listTakers_44 at hw
    refine R_iinc (q := 1) (v := (l1 + 1)) (lv' := [(1, .int (l1 + 1)), (0, .ref (B 1))]) F dX1_listTakers_44 rfl rfl (by decide) rfl ?_
    refine R_goto (tgt := 10) F dX1_listTakers_47 (by decide) ?_
    exact R_sub [1, 0] rfl (U_10 (l1 + 1) σ hw)
  have C_10 : ∀ (l1 : Int32) (σ : VS), b_X1listTakers_10 X10 X59 X108 Q l1 σ → X10 l1 σ := by
    intro l1 σ hw
    unfold b_X1listTakers_10 at hw
    rw [hX10]
    show WB p l e (({ frames := 1, cells := 0, slots := 0, locals := 23 } : Room)) s m (#[.ref (B 1)]) below meth c (MQ below (va_Qv (fun w => ∃ σ' : VS, Q σ' ∧ w = wc E B σ') (AftU E A) A) (#[.ref (B 1)]) s (({ frames := 1, cells := 0, slots := 0, locals := 23 } : Room)).cells (({ frames := 1, cells := 0, slots := 0, locals := 23 } : Room)).slots A) A E (wc E B) 3 10 [(0, .ref (B 1)), (1, .int l1)] [] σ
    refine R_iload_n F dX1_listTakers_10 rfl 1 rfl ?_
    refine R_aload_n F dX1_listTakers_11 rfl 0 rfl ?_
    refine gc_RX1_52_1 F in_X1listTakers dX1_listTakers_12 ?_
    refine R_iconst F 4 dX1_listTakers_15 (by decide) ?_
    refine R_imul F dX1_listTakers_16 ?_
    refine R_icmp_ge (tgt := 50) F dX1_listTakers_17 (by decide) (fun hc => ?_) (fun hc => ?_)
    · replace hw := hw.1 hc
      refine R_aload_n F dX1_listTakers_50 rfl 0 rfl ?_
      refine gc_RX1_33_1 F in_X1listTakers dX1_listTakers_51 ?_
      refine R_iconst F 0 dX1_listTakers_54 (by decide) ?_
      refine R_iconst F 0 dX1_listTakers_55 (by decide) ?_
      refine R_sti F qc_18 uc_18 dX1_listTakers_56 (⟨by decide, by decide⟩ : In 0 51) ?_
      refine R_iconst F 0 dX1_listTakers_57 (by decide) ?_
      refine R_istore_n (lv' := [(1, .int 0), (0, .ref (B 1))]) F dX1_listTakers_58 rfl (by decide) rfl ?_
      exact R_sub [1, 0] rfl (U_59 0 (sa σ 18 0 0) hw)
    · replace hw := hw.2 hc
      refine R_aload_n F dX1_listTakers_20 rfl 0 rfl ?_
      refine gc_RX1_27_1 F in_X1listTakers dX1_listTakers_21 ?_
      refine R_iload_n F dX1_listTakers_24 rfl 1 rfl ?_
      refine R_ldi F qc_16 dX1_listTakers_25 hw.1 ?_
      replace hw := hw.2
      refine R_if_lt (tgt := 44) F dX1_listTakers_26 (by decide) (fun hc => ?_) (fun hc => ?_)
      · replace hw := hw.1 hc
        exact R_sub [0, 1] rfl (J_44 l1 σ hw)
      · replace hw := hw.2 hc
        refine R_aload_n F dX1_listTakers_29 rfl 0 rfl ?_
        refine gc_RX1_39_1 F in_X1listTakers dX1_listTakers_30 ?_
        refine R_aload_n F dX1_listTakers_33 rfl 0 rfl ?_
        refine gc_RX1_27_1 F in_X1listTakers dX1_listTakers_34 ?_
        refine R_iload_n F dX1_listTakers_37 rfl 1 rfl ?_
        refine R_ldi F qc_16 dX1_listTakers_38 hw.1 ?_
        replace hw := hw.2
        refine R_dup2 F dX1_listTakers_39 rfl rfl ?_
        refine R_ldi F qc_20 dX1_listTakers_40 hw.1 ?_
        replace hw := hw.2
        refine R_iconst F 1 dX1_listTakers_41 (by decide) ?_
        refine R_iadd F dX1_listTakers_42 ?_
        have hi := hw.1
        replace hw := hw.2
        refine R_sti F qc_20 uc_20 dX1_listTakers_43 hi ?_
        exact R_sub [0, 1] rfl (J_44 l1 (sa σ 20 (rd σ 16 l1) ((rd σ 20 (rd σ 16 l1)) + 1)) hw)
  have C_59 : ∀ (l1 : Int32) (σ : VS), b_X1listTakers_59 X10 X59 X108 Q l1 σ → X59 l1 σ := by
    intro l1 σ hw
    unfold b_X1listTakers_59 at hw
    rw [hX59]
    show WB p l e (({ frames := 1, cells := 0, slots := 0, locals := 23 } : Room)) s m (#[.ref (B 1)]) below meth c (MQ below (va_Qv (fun w => ∃ σ' : VS, Q σ' ∧ w = wc E B σ') (AftU E A) A) (#[.ref (B 1)]) s (({ frames := 1, cells := 0, slots := 0, locals := 23 } : Room)).cells (({ frames := 1, cells := 0, slots := 0, locals := 23 } : Room)).slots A) A E (wc E B) 3 59 [(0, .ref (B 1)), (1, .int l1)] [] σ
    refine R_iload_n F dX1_listTakers_59 rfl 1 rfl ?_
    refine R_aload_n F dX1_listTakers_60 rfl 0 rfl ?_
    refine gc_RX1_52_1 F in_X1listTakers dX1_listTakers_61 ?_
    refine R_icmp_ge (tgt := 106) F dX1_listTakers_64 (by decide) (fun hc => ?_) (fun hc => ?_)
    · replace hw := hw.1 hc
      refine R_iconst F 0 dX1_listTakers_106 (by decide) ?_
      refine R_istore_n (lv' := [(1, .int 0), (0, .ref (B 1))]) F dX1_listTakers_107 rfl (by decide) rfl ?_
      exact R_sub [1, 0] rfl (U_108 0 σ hw)
    · replace hw := hw.2 hc
      refine R_aload_n F dX1_listTakers_67 rfl 0 rfl ?_
      refine gc_RX1_33_1 F in_X1listTakers dX1_listTakers_68 ?_
      refine R_iload_n F dX1_listTakers_71 rfl 1 rfl ?_
      refine R_iconst F 1 dX1_listTakers_72 (by decide) ?_
      refine R_iadd F dX1_listTakers_73 ?_
      refine R_aload_n F dX1_listTakers_74 rfl 0 rfl ?_
      refine gc_RX1_33_1 F in_X1listTakers dX1_listTakers_75 ?_
      refine R_iload_n F dX1_listTakers_78 rfl 1 rfl ?_
      refine R_ldi F qc_18 dX1_listTakers_79 hw.1 ?_
      replace hw := hw.2
      refine R_aload_n F dX1_listTakers_80 rfl 0 rfl ?_
      refine gc_RX1_39_1 F in_X1listTakers dX1_listTakers_81 ?_
      refine R_iload_n F dX1_listTakers_84 rfl 1 rfl ?_
      refine R_ldi F qc_20 dX1_listTakers_85 hw.1 ?_
      replace hw := hw.2
      refine R_iadd F dX1_listTakers_86 ?_
      have hi := hw.1
      replace hw := hw.2
      refine R_sti F qc_18 uc_18 dX1_listTakers_87 hi ?_
      refine R_aload_n F dX1_listTakers_88 rfl 0 rfl ?_
      refine gc_RX1_39_1 F in_X1listTakers dX1_listTakers_89 ?_
      refine R_iload_n F dX1_listTakers_92 rfl 1 rfl ?_
      refine R_aload_n F dX1_listTakers_93 rfl 0 rfl ?_
      refine gc_RX1_33_1 F in_X1listTakers dX1_listTakers_94 ?_
      refine R_iload_n F dX1_listTakers_97 rfl 1 rfl ?_
      refine R_ldi F qc_18 dX1_listTakers_98 hw.1 ?_
      replace hw := hw.2
      have hi := hw.1
      replace hw := hw.2
      refine R_sti F qc_20 uc_20 dX1_listTakers_99 hi ?_
      refine R_iinc (q := 1) (v := (l1 + 1)) (lv' := [(1, .int (l1 + 1)), (0, .ref (B 1))]) F dX1_listTakers_100 rfl rfl (by decide) rfl ?_
      refine R_goto (tgt := 59) F dX1_listTakers_103 (by decide) ?_
      exact R_sub [1, 0] rfl (U_59 (l1 + 1) (sa (sa σ 18 (l1 + 1) ((rd σ 18 l1) + (rd σ 20 l1))) 20 l1 (rd (sa σ 18 (l1 + 1) ((rd σ 18 l1) + (rd σ 20 l1))) 18 l1)) hw)
  have C_108 : ∀ (l1 : Int32) (σ : VS), b_X1listTakers_108 X10 X59 X108 Q l1 σ → X108 l1 σ := by
    intro l1 σ hw
    unfold b_X1listTakers_108 at hw
    rw [hX108]
    show WB p l e (({ frames := 1, cells := 0, slots := 0, locals := 23 } : Room)) s m (#[.ref (B 1)]) below meth c (MQ below (va_Qv (fun w => ∃ σ' : VS, Q σ' ∧ w = wc E B σ') (AftU E A) A) (#[.ref (B 1)]) s (({ frames := 1, cells := 0, slots := 0, locals := 23 } : Room)).cells (({ frames := 1, cells := 0, slots := 0, locals := 23 } : Room)).slots A) A E (wc E B) 3 108 [(0, .ref (B 1)), (1, .int l1)] [] σ
    refine R_iload_n F dX1_listTakers_108 rfl 1 rfl ?_
    refine R_aload_n F dX1_listTakers_109 rfl 0 rfl ?_
    refine gc_RX1_52_1 F in_X1listTakers dX1_listTakers_110 ?_
    refine R_iconst F 4 dX1_listTakers_113 (by decide) ?_
    refine R_imul F dX1_listTakers_114 ?_
    refine R_icmp_ge (tgt := 157) F dX1_listTakers_115 (by decide) (fun hc => ?_) (fun hc => ?_)
    · replace hw := hw.1 hc
      exact R_vret (Qc := Q) F dX1_listTakers_157 hw
    · replace hw := hw.2 hc
      refine R_aload_n F dX1_listTakers_118 rfl 0 rfl ?_
      refine gc_RX1_27_1 F in_X1listTakers dX1_listTakers_119 ?_
      refine R_iload_n F dX1_listTakers_122 rfl 1 rfl ?_
      refine R_ldi F qc_16 dX1_listTakers_123 hw.1 ?_
      replace hw := hw.2
      refine R_topi (fun x1 ex1 => ?_)
      replace hw := hw x1 ex1
      refine R_istore_n (lv' := [(2, .int x1), (0, .ref (B 1)), (1, .int l1)]) F dX1_listTakers_124 rfl (by decide) rfl ?_
      refine R_iload_n F dX1_listTakers_125 rfl 0 rfl ?_
      refine R_if_lt (tgt := 151) F dX1_listTakers_126 (by decide) (fun hc => ?_) (fun hc => ?_)
      · replace hw := hw.1 hc
        exact R_sub [1, 2] rfl (J_151 l1 σ hw)
      · replace hw := hw.2 hc
        refine R_aload_n F dX1_listTakers_129 rfl 1 rfl ?_
        refine gc_RX1_30_1 F in_X1listTakers dX1_listTakers_130 ?_
        refine R_aload_n F dX1_listTakers_133 rfl 1 rfl ?_
        refine gc_RX1_39_1 F in_X1listTakers dX1_listTakers_134 ?_
        refine R_iload_n F dX1_listTakers_137 rfl 0 rfl ?_
        refine R_ldi F qc_20 dX1_listTakers_138 hw.1 ?_
        replace hw := hw.2
        refine R_iload_n F dX1_listTakers_139 rfl 2 rfl ?_
        have hi := hw.1
        replace hw := hw.2
        refine R_sti F qc_17 uc_17 dX1_listTakers_140 hi ?_
        refine R_aload_n F dX1_listTakers_141 rfl 1 rfl ?_
        refine gc_RX1_39_1 F in_X1listTakers dX1_listTakers_142 ?_
        refine R_iload_n F dX1_listTakers_145 rfl 0 rfl ?_
        refine R_dup2 F dX1_listTakers_146 rfl rfl ?_
        refine R_ldi F qc_20 dX1_listTakers_147 hw.1 ?_
        replace hw := hw.2
        refine R_iconst F 1 dX1_listTakers_148 (by decide) ?_
        refine R_iadd F dX1_listTakers_149 ?_
        have hi := hw.1
        replace hw := hw.2
        refine R_sti F qc_20 uc_20 dX1_listTakers_150 hi ?_
        exact R_sub [1, 2] rfl (J_151 l1 (sa (sa σ 17 (rd σ 20 x1) l1) 20 x1 ((rd (sa σ 17 (rd σ 20 x1) l1) 20 x1) + 1)) hw)
  unfold wp_X1listTakers at hw
  replace hw := hw X10 X59 X108 C_10 C_59 C_108
  refine R_aload_n F dX1_listTakers_0 rfl 0 rfl ?_
  refine gc_RX1_39_1 F in_X1listTakers dX1_listTakers_1 ?_
  refine R_iconst F 0 dX1_listTakers_4 (by decide) ?_
  refine fc_20 F (va_cwS 2 F.2.2.2.2.2.2.2.2.2.2 g_X1listTakers_k_fill_46 rfl rfl rfl (by decide +kernel) ⟨Nat.le_of_ble_eq_true rfl, Nat.le_of_ble_eq_true rfl⟩) (Nat.le_of_ble_eq_true rfl) dX1_listTakers_5 ?_
  refine R_iconst F 0 dX1_listTakers_8 (by decide) ?_
  refine R_istore_n (lv' := [(1, .int 0), (0, .ref (B 1))]) F dX1_listTakers_9 rfl (by decide) rfl ?_
  exact R_sub [1, 0] rfl (U_10 0 (sfl σ 20 0) hw)
def b_X1orderGates_184 (X7 : Int32 → VS → Prop) (X71 : Int32 → VS → Prop) (X99 : Int32 → Int32 → Int32 → VS → Prop) (Q : VS → Prop) (σ : VS) : Prop := Q σ
def b_X1orderGates_172 (X7 : Int32 → VS → Prop) (X71 : Int32 → VS → Prop) (X99 : Int32 → Int32 → Int32 → VS → Prop) (Q : VS → Prop) (l1 : Int32) (l2 : Int32) (l3 : Int32) (σ : VS) : Prop := X99 l1 l2 (l3 + 1) σ
def b_X1orderGates_99 (X7 : Int32 → VS → Prop) (X71 : Int32 → VS → Prop) (X99 : Int32 → Int32 → Int32 → VS → Prop) (Q : VS → Prop) (l1 : Int32) (l2 : Int32) (l3 : Int32) (σ : VS) : Prop := (In (l2 + 1) 51 ∧ (((rd σ 18 (l2 + 1)).toInt ≤ l3.toInt → X71 (l1 + 1) σ) ∧ (l3.toInt < (rd σ 18 (l2 + 1)).toInt → (In l3 200 ∧ (∀ x7 : Int32, x7 = ((rd σ 17 l3) / 4) → (In x7 50 ∧ (In x7 50 ∧ wp_X1isGate (fun (r8 : Int32) (σ9 : VS) => ((r8.toInt = 0 → b_X1orderGates_172 X7 X71 X99 Q l1 l2 l3 σ9) ∧ (r8.toInt ≠ 0 → (In x7 50 ∧ (((rd σ9 20 x7).toInt ≠ 0 → b_X1orderGates_172 X7 X71 X99 Q l1 l2 l3 σ9) ∧ ((rd σ9 20 x7).toInt = 0 → (In (σ9.1 3) 50 ∧ b_X1orderGates_172 X7 X71 X99 Q l1 l2 l3 (sf (sa σ9 19 (σ9.1 3) x7) 3 (((sa σ9 19 (σ9.1 3) x7).1 3) + 1))))))))) x7 (sa σ 20 x7 ((rd σ 20 x7) - 1)))))))))
def b_X1orderGates_71 (X7 : Int32 → VS → Prop) (X71 : Int32 → VS → Prop) (X99 : Int32 → Int32 → Int32 → VS → Prop) (Q : VS → Prop) (l1 : Int32) (σ : VS) : Prop := (((σ.1 3).toInt ≤ l1.toInt → b_X1orderGates_184 X7 X71 X99 Q σ) ∧ (l1.toInt < (σ.1 3).toInt → ((50 ≤ l1.toInt → b_X1orderGates_184 X7 X71 X99 Q σ) ∧ (l1.toInt < 50 → (In l1 50 ∧ (∀ x5 : Int32, x5 = (rd σ 19 l1) → (In x5 51 ∧ (∀ x6 : Int32, x6 = (rd σ 18 x5) → X99 l1 x5 x6 σ))))))))
def b_X1orderGates_63 (X7 : Int32 → VS → Prop) (X71 : Int32 → VS → Prop) (X99 : Int32 → Int32 → Int32 → VS → Prop) (Q : VS → Prop) (l1 : Int32) (σ : VS) : Prop := X7 (l1 + 1) σ
def b_X1orderGates_7 (X7 : Int32 → VS → Prop) (X71 : Int32 → VS → Prop) (X99 : Int32 → Int32 → Int32 → VS → Prop) (Q : VS → Prop) (l1 : Int32) (σ : VS) : Prop := (((σ.1 2).toInt ≤ l1.toInt → X71 0 σ) ∧ (l1.toInt < (σ.1 2).toInt → wp_X1gatesTakenBy (fun (r1 : Int32) (σ2 : VS) => (In l1 50 ∧ wp_X1isGate (fun (r3 : Int32) (σ4 : VS) => ((r3.toInt = 0 → b_X1orderGates_63 X7 X71 X99 Q l1 σ4) ∧ (r3.toInt ≠ 0 → (In l1 50 ∧ (((rd σ4 20 l1).toInt ≠ 0 → b_X1orderGates_63 X7 X71 X99 Q l1 σ4) ∧ ((rd σ4 20 l1).toInt = 0 → (In (σ4.1 3) 50 ∧ b_X1orderGates_63 X7 X71 X99 Q l1 (sf (sa σ4 19 (σ4.1 3) l1) 3 (((sa σ4 19 (σ4.1 3) l1).1 3) + 1))))))))) l1 (sa σ2 20 l1 r1))) l1 σ))
def wp_X1orderGates (Q : VS → Prop) (σ : VS) : Prop := ∀ (X7 : Int32 → VS → Prop) (X71 : Int32 → VS → Prop) (X99 : Int32 → Int32 → Int32 → VS → Prop), (∀ (l1 : Int32) (σ : VS), b_X1orderGates_7 X7 X71 X99 Q l1 σ → X7 l1 σ) → (∀ (l1 : Int32) (σ : VS), b_X1orderGates_71 X7 X71 X99 Q l1 σ → X71 l1 σ) → (∀ (l1 : Int32) (l2 : Int32) (l3 : Int32) (σ : VS), b_X1orderGates_99 X7 X71 X99 Q l1 l2 l3 σ → X99 l1 l2 l3 σ) → X7 0 (sf σ 3 0)
theorem dX1_orderGates_0 : decode cX1_orderGates 0 = .ok (.aload_n 0, 1) := by decide +kernel
theorem dX1_orderGates_1 : decode cX1_orderGates 1 = .ok (.iconst 0, 1) := by decide +kernel
theorem dX1_orderGates_2 : decode cX1_orderGates 2 = .ok (.putfield 69, 3) := by decide +kernel
theorem dX1_orderGates_5 : decode cX1_orderGates 5 = .ok (.iconst 0, 1) := by decide +kernel
theorem dX1_orderGates_6 : decode cX1_orderGates 6 = .ok (.istore_n 1, 1) := by decide +kernel
theorem dX1_orderGates_7 : decode cX1_orderGates 7 = .ok (.iload_n 1, 1) := by decide +kernel
theorem dX1_orderGates_8 : decode cX1_orderGates 8 = .ok (.aload_n 0, 1) := by decide +kernel
theorem dX1_orderGates_9 : decode cX1_orderGates 9 = .ok (.getfield 52, 3) := by decide +kernel
theorem dX1_orderGates_12 : decode cX1_orderGates 12 = .ok (.if_icmp .ge 57, 3) := by decide +kernel
theorem dX1_orderGates_69 : decode cX1_orderGates 69 = .ok (.iconst 0, 1) := by decide +kernel
theorem dX1_orderGates_70 : decode cX1_orderGates 70 = .ok (.istore_n 1, 1) := by decide +kernel
theorem dX1_orderGates_15 : decode cX1_orderGates 15 = .ok (.aload_n 0, 1) := by decide +kernel
theorem dX1_orderGates_16 : decode cX1_orderGates 16 = .ok (.getfield 39, 3) := by decide +kernel
theorem dX1_orderGates_19 : decode cX1_orderGates 19 = .ok (.iload_n 1, 1) := by decide +kernel
theorem dX1_orderGates_20 : decode cX1_orderGates 20 = .ok (.aload_n 0, 1) := by decide +kernel
theorem dX1_orderGates_21 : decode cX1_orderGates 21 = .ok (.iload_n 1, 1) := by decide +kernel
theorem dX1_orderGates_22 : decode cX1_orderGates 22 = .ok (.invokevirtual 78, 3) := by decide +kernel
theorem dX1_orderGates_25 : decode cX1_orderGates 25 = .ok (.iastore, 1) := by decide +kernel
theorem dX1_orderGates_26 : decode cX1_orderGates 26 = .ok (.aload_n 0, 1) := by decide +kernel
theorem dX1_orderGates_27 : decode cX1_orderGates 27 = .ok (.iload_n 1, 1) := by decide +kernel
theorem dX1_orderGates_28 : decode cX1_orderGates 28 = .ok (.invokevirtual 66, 3) := by decide +kernel
theorem dX1_orderGates_31 : decode cX1_orderGates 31 = .ok (.ifCond .eq 32, 3) := by decide +kernel
theorem dX1_orderGates_34 : decode cX1_orderGates 34 = .ok (.aload_n 0, 1) := by decide +kernel
theorem dX1_orderGates_35 : decode cX1_orderGates 35 = .ok (.getfield 39, 3) := by decide +kernel
theorem dX1_orderGates_38 : decode cX1_orderGates 38 = .ok (.iload_n 1, 1) := by decide +kernel
theorem dX1_orderGates_39 : decode cX1_orderGates 39 = .ok (.iaload, 1) := by decide +kernel
theorem dX1_orderGates_40 : decode cX1_orderGates 40 = .ok (.ifCond .ne 23, 3) := by decide +kernel
theorem dX1_orderGates_43 : decode cX1_orderGates 43 = .ok (.aload_n 0, 1) := by decide +kernel
theorem dX1_orderGates_44 : decode cX1_orderGates 44 = .ok (.getfield 36, 3) := by decide +kernel
theorem dX1_orderGates_47 : decode cX1_orderGates 47 = .ok (.aload_n 0, 1) := by decide +kernel
theorem dX1_orderGates_48 : decode cX1_orderGates 48 = .ok (.getfield 69, 3) := by decide +kernel
theorem dX1_orderGates_51 : decode cX1_orderGates 51 = .ok (.iload_n 1, 1) := by decide +kernel
theorem dX1_orderGates_52 : decode cX1_orderGates 52 = .ok (.iastore, 1) := by decide +kernel
theorem dX1_orderGates_53 : decode cX1_orderGates 53 = .ok (.aload_n 0, 1) := by decide +kernel
theorem dX1_orderGates_54 : decode cX1_orderGates 54 = .ok (.dup, 1) := by decide +kernel
theorem dX1_orderGates_55 : decode cX1_orderGates 55 = .ok (.getfield 69, 3) := by decide +kernel
theorem dX1_orderGates_58 : decode cX1_orderGates 58 = .ok (.iconst 1, 1) := by decide +kernel
theorem dX1_orderGates_59 : decode cX1_orderGates 59 = .ok (.iadd, 1) := by decide +kernel
theorem dX1_orderGates_60 : decode cX1_orderGates 60 = .ok (.putfield 69, 3) := by decide +kernel
theorem dX1_orderGates_71 : decode cX1_orderGates 71 = .ok (.iload_n 1, 1) := by decide +kernel
theorem dX1_orderGates_72 : decode cX1_orderGates 72 = .ok (.aload_n 0, 1) := by decide +kernel
theorem dX1_orderGates_73 : decode cX1_orderGates 73 = .ok (.getfield 69, 3) := by decide +kernel
theorem dX1_orderGates_76 : decode cX1_orderGates 76 = .ok (.if_icmp .ge 108, 3) := by decide +kernel
theorem dX1_orderGates_79 : decode cX1_orderGates 79 = .ok (.iload_n 1, 1) := by decide +kernel
theorem dX1_orderGates_80 : decode cX1_orderGates 80 = .ok (.bipush 50, 2) := by decide +kernel
theorem dX1_orderGates_82 : decode cX1_orderGates 82 = .ok (.if_icmp .ge 102, 3) := by decide +kernel
theorem dX1_orderGates_85 : decode cX1_orderGates 85 = .ok (.aload_n 0, 1) := by decide +kernel
theorem dX1_orderGates_86 : decode cX1_orderGates 86 = .ok (.getfield 36, 3) := by decide +kernel
theorem dX1_orderGates_89 : decode cX1_orderGates 89 = .ok (.iload_n 1, 1) := by decide +kernel
theorem dX1_orderGates_90 : decode cX1_orderGates 90 = .ok (.iaload, 1) := by decide +kernel
theorem dX1_orderGates_91 : decode cX1_orderGates 91 = .ok (.istore_n 2, 1) := by decide +kernel
theorem dX1_orderGates_92 : decode cX1_orderGates 92 = .ok (.aload_n 0, 1) := by decide +kernel
theorem dX1_orderGates_93 : decode cX1_orderGates 93 = .ok (.getfield 33, 3) := by decide +kernel
theorem dX1_orderGates_96 : decode cX1_orderGates 96 = .ok (.iload_n 2, 1) := by decide +kernel
theorem dX1_orderGates_97 : decode cX1_orderGates 97 = .ok (.iaload, 1) := by decide +kernel
theorem dX1_orderGates_98 : decode cX1_orderGates 98 = .ok (.istore_n 3, 1) := by decide +kernel
theorem dX1_orderGates_63 : decode cX1_orderGates 63 = .ok (.iinc 1 1, 3) := by decide +kernel
theorem dX1_orderGates_66 : decode cX1_orderGates 66 = .ok (.goto (-59), 3) := by decide +kernel
theorem dX1_orderGates_184 : decode cX1_orderGates 184 = .ok (.return_, 1) := by decide +kernel
theorem dX1_orderGates_99 : decode cX1_orderGates 99 = .ok (.iload_n 3, 1) := by decide +kernel
theorem dX1_orderGates_100 : decode cX1_orderGates 100 = .ok (.aload_n 0, 1) := by decide +kernel
theorem dX1_orderGates_101 : decode cX1_orderGates 101 = .ok (.getfield 33, 3) := by decide +kernel
theorem dX1_orderGates_104 : decode cX1_orderGates 104 = .ok (.iload_n 2, 1) := by decide +kernel
theorem dX1_orderGates_105 : decode cX1_orderGates 105 = .ok (.iconst 1, 1) := by decide +kernel
theorem dX1_orderGates_106 : decode cX1_orderGates 106 = .ok (.iadd, 1) := by decide +kernel
theorem dX1_orderGates_107 : decode cX1_orderGates 107 = .ok (.iaload, 1) := by decide +kernel
theorem dX1_orderGates_108 : decode cX1_orderGates 108 = .ok (.if_icmp .ge 70, 3) := by decide +kernel
theorem dX1_orderGates_178 : decode cX1_orderGates 178 = .ok (.iinc 1 1, 3) := by decide +kernel
theorem dX1_orderGates_181 : decode cX1_orderGates 181 = .ok (.goto (-110), 3) := by decide +kernel
theorem dX1_orderGates_111 : decode cX1_orderGates 111 = .ok (.aload_n 0, 1) := by decide +kernel
theorem dX1_orderGates_112 : decode cX1_orderGates 112 = .ok (.getfield 30, 3) := by decide +kernel
theorem dX1_orderGates_115 : decode cX1_orderGates 115 = .ok (.iload_n 3, 1) := by decide +kernel
theorem dX1_orderGates_116 : decode cX1_orderGates 116 = .ok (.iaload, 1) := by decide +kernel
theorem dX1_orderGates_117 : decode cX1_orderGates 117 = .ok (.iconst 4, 1) := by decide +kernel
theorem dX1_orderGates_118 : decode cX1_orderGates 118 = .ok (.idiv, 1) := by decide +kernel
theorem dX1_orderGates_119 : decode cX1_orderGates 119 = .ok (.istore 4, 2) := by decide +kernel
theorem dX1_orderGates_121 : decode cX1_orderGates 121 = .ok (.aload_n 0, 1) := by decide +kernel
theorem dX1_orderGates_122 : decode cX1_orderGates 122 = .ok (.getfield 39, 3) := by decide +kernel
theorem dX1_orderGates_125 : decode cX1_orderGates 125 = .ok (.iload 4, 2) := by decide +kernel
theorem dX1_orderGates_127 : decode cX1_orderGates 127 = .ok (.dup2, 1) := by decide +kernel
theorem dX1_orderGates_128 : decode cX1_orderGates 128 = .ok (.iaload, 1) := by decide +kernel
theorem dX1_orderGates_129 : decode cX1_orderGates 129 = .ok (.iconst 1, 1) := by decide +kernel
theorem dX1_orderGates_130 : decode cX1_orderGates 130 = .ok (.isub, 1) := by decide +kernel
theorem dX1_orderGates_131 : decode cX1_orderGates 131 = .ok (.iastore, 1) := by decide +kernel
theorem dX1_orderGates_132 : decode cX1_orderGates 132 = .ok (.aload_n 0, 1) := by decide +kernel
theorem dX1_orderGates_133 : decode cX1_orderGates 133 = .ok (.iload 4, 2) := by decide +kernel
theorem dX1_orderGates_135 : decode cX1_orderGates 135 = .ok (.invokevirtual 66, 3) := by decide +kernel
theorem dX1_orderGates_138 : decode cX1_orderGates 138 = .ok (.ifCond .eq 34, 3) := by decide +kernel
theorem dX1_orderGates_141 : decode cX1_orderGates 141 = .ok (.aload_n 0, 1) := by decide +kernel
theorem dX1_orderGates_142 : decode cX1_orderGates 142 = .ok (.getfield 39, 3) := by decide +kernel
theorem dX1_orderGates_145 : decode cX1_orderGates 145 = .ok (.iload 4, 2) := by decide +kernel
theorem dX1_orderGates_147 : decode cX1_orderGates 147 = .ok (.iaload, 1) := by decide +kernel
theorem dX1_orderGates_148 : decode cX1_orderGates 148 = .ok (.ifCond .ne 24, 3) := by decide +kernel
theorem dX1_orderGates_151 : decode cX1_orderGates 151 = .ok (.aload_n 0, 1) := by decide +kernel
theorem dX1_orderGates_152 : decode cX1_orderGates 152 = .ok (.getfield 36, 3) := by decide +kernel
theorem dX1_orderGates_155 : decode cX1_orderGates 155 = .ok (.aload_n 0, 1) := by decide +kernel
theorem dX1_orderGates_156 : decode cX1_orderGates 156 = .ok (.getfield 69, 3) := by decide +kernel
theorem dX1_orderGates_159 : decode cX1_orderGates 159 = .ok (.iload 4, 2) := by decide +kernel
theorem dX1_orderGates_161 : decode cX1_orderGates 161 = .ok (.iastore, 1) := by decide +kernel
theorem dX1_orderGates_162 : decode cX1_orderGates 162 = .ok (.aload_n 0, 1) := by decide +kernel
theorem dX1_orderGates_163 : decode cX1_orderGates 163 = .ok (.dup, 1) := by decide +kernel
theorem dX1_orderGates_164 : decode cX1_orderGates 164 = .ok (.getfield 69, 3) := by decide +kernel
theorem dX1_orderGates_167 : decode cX1_orderGates 167 = .ok (.iconst 1, 1) := by decide +kernel
theorem dX1_orderGates_168 : decode cX1_orderGates 168 = .ok (.iadd, 1) := by decide +kernel
theorem dX1_orderGates_169 : decode cX1_orderGates 169 = .ok (.putfield 69, 3) := by decide +kernel
theorem dX1_orderGates_172 : decode cX1_orderGates 172 = .ok (.iinc 3 1, 3) := by decide +kernel
theorem dX1_orderGates_175 : decode cX1_orderGates 175 = .ok (.goto (-76), 3) := by decide +kernel
def wo_X1orderGates : List Cond := [.code yX1_orderGates cX1_orderGates 5 none, .methodLink RX1 78 yX1_gatesTakenBy, .instanceMethod yX1_gatesTakenBy, .selects RX1 yX1_gatesTakenBy yX1_gatesTakenBy, .initialized RX1, .methodLink RX1 66 yX1_isGate, .instanceMethod yX1_isGate, .selects RX1 yX1_isGate yX1_isGate]
def wr_X1orderGates : List Cond := (wfC ++ (w_X1gatesTakenBy ++ (w_X1isGate ++ ([]))))
def w_X1orderGates : List Cond := wo_X1orderGates ++ wr_X1orderGates
theorem wg_X1orderGates : GW w_X1orderGates := GW_app (GW_of (by decide +kernel)) (GW_app (wg_fC) (GW_app (wg_X1gatesTakenBy) (GW_app (wg_X1isGate) (GW_nil))))
theorem in_X1orderGates : ∀ w ∈ wfC, w ∈ w_X1orderGates := fun _ h => List.mem_append_right _ (List.mem_append_left _ h)
theorem g_X1orderGates_X1gatesTakenBy_78 : GoodIn w_X1orderGates (wsV RX1 78 RX1 yX1_gatesTakenBy w_X1gatesTakenBy) := goodIn_app (gi_left (goodIn_of _ (by decide +kernel))) (fun w h => ⟨List.mem_append_right _ (List.mem_append_right _ (List.mem_append_left _ h)), wg_X1gatesTakenBy w h⟩)
theorem g_X1orderGates_X1isGate_66 : GoodIn w_X1orderGates (wsV RX1 66 RX1 yX1_isGate w_X1isGate) := goodIn_app (gi_left (goodIn_of _ (by decide +kernel))) (fun w h => ⟨List.mem_append_right _ (List.mem_append_right _ (List.mem_append_right _ (List.mem_append_left _ h))), wg_X1isGate w h⟩)
set_option maxHeartbeats 4000000 in
set_option maxRecDepth 100000 in
theorem ct_X1orderGates (l : Launch) (E : gE) (B : Nat → Nat) (Q : VS → Prop) (σ : VS) (hw : wp_X1orderGates Q σ) : CtV l E yX1_orderGates w_X1orderGates (({ frames := 3, cells := 0, slots := 0, locals := 64 } : Room)) (wc E B σ) [.ref (B 1)] (fun w => ∃ σ' : VS, Q σ' ∧ w = wc E B σ') := by
  refine VC_V (cc := cX1_orderGates) (mL := 5) (rt := none) (lv0 := [(0, .ref (B 1))]) rfl (by decide) rfl (Nat.le_of_ble_eq_true rfl) ?_
  intro p e s m below meth c A F
  replace F : Fx p s m _ meth c A E cX1_orderGates 5 none RX1 w_X1orderGates := F
  obtain ⟨X7, hX7⟩ : ∃ X : Int32 → VS → Prop, X = fun l1 σ => WB p l e (({ frames := 3, cells := 0, slots := 0, locals := 64 } : Room)) s m (#[.ref (B 1)]) below meth c (MQ below (va_Qv (fun w => ∃ σ' : VS, Q σ' ∧ w = wc E B σ') (AftU E A) A) (#[.ref (B 1)]) s (({ frames := 3, cells := 0, slots := 0, locals := 64 } : Room)).cells (({ frames := 3, cells := 0, slots := 0, locals := 64 } : Room)).slots A) A E (wc E B) 5 7 [(0, .ref (B 1)), (1, .int l1)] [] σ := ⟨_, rfl⟩
  have U_7 : ∀ (l1 : Int32) (σ : VS), X7 l1 σ → WB p l e (({ frames := 3, cells := 0, slots := 0, locals := 64 } : Room)) s m (#[.ref (B 1)]) below meth c (MQ below (va_Qv (fun w => ∃ σ' : VS, Q σ' ∧ w = wc E B σ') (AftU E A) A) (#[.ref (B 1)]) s (({ frames := 3, cells := 0, slots := 0, locals := 64 } : Room)).cells (({ frames := 3, cells := 0, slots := 0, locals := 64 } : Room)).slots A) A E (wc E B) 5 7 [(0, .ref (B 1)), (1, .int l1)] [] σ := by
    intro l1 σ hw; rw [hX7] at hw; exact hw
  obtain ⟨X71, hX71⟩ : ∃ X : Int32 → VS → Prop, X = fun l1 σ => WB p l e (({ frames := 3, cells := 0, slots := 0, locals := 64 } : Room)) s m (#[.ref (B 1)]) below meth c (MQ below (va_Qv (fun w => ∃ σ' : VS, Q σ' ∧ w = wc E B σ') (AftU E A) A) (#[.ref (B 1)]) s (({ frames := 3, cells := 0, slots := 0, locals := 64 } : Room)).cells (({ frames := 3, cells := 0, slots := 0, locals := 64 } : Room)).slots A) A E (wc E B) 5 71 [(0, .ref (B 1)), (1, .int l1)] [] σ := ⟨_, rfl⟩
  have U_71 : ∀ (l1 : Int32) (σ : VS), X71 l1 σ → WB p l e (({ frames := 3, cells := 0, slots := 0, locals := 64 } : Room)) s m (#[.ref (B 1)]) below meth c (MQ below (va_Qv (fun w => ∃ σ' : VS, Q σ' ∧ w = wc E B σ') (AftU E A) A) (#[.ref (B 1)]) s (({ frames := 3, cells := 0, slots := 0, locals := 64 } : Room)).cells (({ frames := 3, cells := 0, slots := 0, locals := 64 } : Room)).slots A) A E (wc E B) 5 71 [(0, .ref (B 1)), (1, .int l1)] [] σ := by
    intro l1 σ hw; rw [hX71] at hw; exact hw
  obtain ⟨X99, hX99⟩ : ∃ X : Int32 → Int32 → Int32 → VS → Prop, X = fun l1 l2 l3 σ => WB p l e (({ frames := 3, cells := 0, slots := 0, locals := 64 } : Room)) s m (#[.ref (B 1)]) below meth c (MQ below (va_Qv (fun w => ∃ σ' : VS, Q σ' ∧ w = wc E B σ') (AftU E A) A) (#[.ref (B 1)]) s (({ frames := 3, cells := 0, slots := 0, locals := 64 } : Room)).cells (({ frames := 3, cells := 0, slots := 0, locals := 64 } : Room)).slots A) A E (wc E B) 5 99 [(0, .ref (B 1)), (1, .int l1), (2, .int l2), (3, .int l3)] [] σ := ⟨_, rfl⟩
  have U_99 : ∀ (l1 : Int32) (l2 : Int32) (l3 : Int32) (σ : VS), X99 l1 l2 l3 σ → WB p l e (({ frames := 3, cells := 0, slots := 0, locals := 64 } : Room)) s m (#[.ref (B 1)]) below meth c (MQ below (va_Qv (fun w => ∃ σ' : VS, Q σ' ∧ w = wc E B σ') (AftU E A) A) (#[.ref (B 1)]) s (({ frames := 3, cells := 0, slots := 0, locals := 64 } : Room)).cells (({ frames := 3, cells := 0, slots := 0, locals := 64 } : Room)).slots A) A E (wc E B) 5 99 [(0, .ref (B 1)), (1, .int l1), (2, .int l2), (3, .int l3)] [] σ := by
    intro l1 l2 l3 σ hw; rw [hX99] at hw; exact hw
  have J_184 : ∀ (σ : VS), b_X1orderGates_184 X7 X71 X99 Q σ → WB p l e (({ frames := 3, cells := 0, slots := 0, locals := 64 } : Room)) s m (#[.ref (B 1)]) below meth c (MQ below (va_Qv (fun w => ∃ σ' : VS, Q σ' ∧ w = wc E B σ') (AftU E A) A) (#[.ref (B 1)]) s (({ frames := 3, cells := 0, slots := 0, locals := 64 } : Room)).cells (({ frames := 3, cells := 0, slots := 0, locals := 64 } : Room)).slots A) A E (wc E B) 5 184 [] [] σ := by
    intro σ hw
    unfold b_X1orderGates_184 at hw
    exact R_vret (Qc := Q) F dX1_orderGates_184 hw
  have J_172 : ∀ (l1 : Int32) (l2 : Int32) (l3 : Int32) (σ : VS), b_X1orderGates_172 X7 X71 X99 Q l1 l2 l3 σ → WB p l e (({ frames := 3, cells := 0, slots := 0, locals := 64 } : Room)) s m (#[.ref (B 1)]) below meth c (MQ below (va_Qv (fun w => ∃ σ' : VS, Q σ' ∧ w = wc E B σ') (AftU E A) A) (#[.ref (B 1)]) s (({ frames := 3, cells := 0, slots := 0, locals := 64 } : Room)).cells (({ frames := 3, cells := 0, slots := 0, locals := 64 } : Room)).slots A) A E (wc E B) 5 172 [(0, .ref (B 1)), (1, .int l1), (2, .int l2), (3, .int l3)] [] σ := by
    intro l1 l2 l3 σ hw
    unfold b_X1orderGates_172 at hw
    refine R_iinc (q := 3) (v := (l3 + 1)) (lv' := [(3, .int (l3 + 1)), (0, .ref (B 1)), (1, .int l1), (2, .int l2)]) F dX1_orderGates_172 rfl rfl (by decide) rfl ?_
    refine R_goto (tgt := 99) F dX1_orderGates_175 (by decide) ?_
    exact R_sub [1, 2, 3, 0] rfl (U_99 l1 l2 (l3 + 1) σ hw)
  have J_63 : ∀ (l1 : Int32) (σ : VS), b_X1orderGates_63 X7 X71 X99 Q l1 σ → WB p l e (({ frames := 3, cells := 0, slots := 0, locals := 64 } : Room)) s m (#[.ref (B 1)]) below meth c (MQ below (va_Qv (fun w => ∃ σ' : VS, Q σ' ∧ w = wc E B σ') (AftU E A) A) (#[.ref (B 1)]) s (({ frames := 3, cells := 0, slots := 0, locals := 64 } : Room)).cells (({ frames := 3, cells := 0, slots := 0, locals := 64 } : Room)).slots A) A E (wc E B) 5 63 [(0, .ref (B 1)), (1, .int l1)] [] σ := by
    intro l1 σ hw
    unfold b_X1orderGates_63 at hw
    refine R_iinc (q := 1) (v := (l1 + 1)) (lv' := [(1, .int (l1 + 1)), (0, .ref (B 1))]) F dX1_orderGates_63 rfl rfl (by decide) rfl ?_
    refine R_goto (tgt := 7) F dX1_orderGates_66 (by decide) ?_
    exact R_sub [1, 0] rfl (U_7 (l1 + 1) σ hw)
  have C_7 : ∀ (l1 : Int32) (σ : VS), b_X1orderGates_7 X7 X71 X99 Q l1 σ → X7 l1 σ := by
    intro l1 σ hw
    unfold b_X1orderGates_7 at hw
    rw [hX7]
    show WB p l e (({ frames := 3, cells := 0, slots := 0, locals := 64 } : Room)) s m (#[.ref (B 1)]) below meth c (MQ below (va_Qv (fun w => ∃ σ' : VS, Q σ' ∧ w = wc E B σ') (AftU E A) A) (#[.ref (B 1)]) s (({ frames := 3, cells := 0, slots := 0, locals := 64 } : Room)).cells (({ frames := 3, cells := 0, slots := 0, locals := 64 } : Room)).slots A) A E (wc E B) 5 7 [(0, .ref (B 1)), (1, .int l1)] [] σ
    refine R_iload_n F dX1_orderGates_7 rfl 1 rfl ?_
    refine R_aload_n F dX1_orderGates_8 rfl 0 rfl ?_
    refine gc_RX1_52_1 F in_X1orderGates dX1_orderGates_9 ?_
    refine R_icmp_ge (tgt := 69) F dX1_orderGates_12 (by decide) (fun hc => ?_) (fun hc => ?_)
    · replace hw := hw.1 hc
      refine R_iconst F 0 dX1_orderGates_69 (by decide) ?_
      refine R_istore_n (lv' := [(1, .int 0), (0, .ref (B 1))]) F dX1_orderGates_70 rfl (by decide) rfl ?_
      exact R_sub [1, 0] rfl (U_71 0 σ hw)
    · replace hw := hw.2 hc
      refine R_aload_n F dX1_orderGates_15 rfl 0 rfl ?_
      refine gc_RX1_39_1 F in_X1orderGates dX1_orderGates_16 ?_
      refine R_iload_n F dX1_orderGates_19 rfl 1 rfl ?_
      refine R_aload_n F dX1_orderGates_20 rfl 0 rfl ?_
      refine R_iload_n F dX1_orderGates_21 rfl 1 rfl ?_
      refine R_callI (As := [.int l1]) (C := RX1) (q0 := 1) (ci := 1) (N := 13) (T := TX1) (fs := cf_1 B) F (ct_X1gatesTakenBy l E B _ l1 _ hw) (cwV 1 F.2.2.2.2.2.2.2.2.2.2 g_X1orderGates_X1gatesTakenBy_78 rfl rfl rfl (by decide +kernel) ⟨Nat.le_of_ble_eq_true rfl, Nat.le_of_ble_eq_true rfl⟩) ⟨rfl, rfl⟩ rfl (fun _ => rfl) rfl rfl (Nat.le_of_ble_eq_true rfl) dX1_orderGates_22 (fun r1 σ2 hw => ?_)
      have hi := hw.1
      replace hw := hw.2
      refine R_sti F qc_20 uc_20 dX1_orderGates_25 hi ?_
      refine R_aload_n F dX1_orderGates_26 rfl 0 rfl ?_
      refine R_iload_n F dX1_orderGates_27 rfl 1 rfl ?_
      refine R_callI (As := [.int l1]) (C := RX1) (q0 := 1) (ci := 1) (N := 13) (T := TX1) (fs := cf_1 B) F (ct_X1isGate l E B _ l1 _ hw) (cwV 1 F.2.2.2.2.2.2.2.2.2.2 g_X1orderGates_X1isGate_66 rfl rfl rfl (by decide +kernel) ⟨Nat.le_of_ble_eq_true rfl, Nat.le_of_ble_eq_true rfl⟩) ⟨rfl, rfl⟩ rfl (fun _ => rfl) rfl rfl (Nat.le_of_ble_eq_true rfl) dX1_orderGates_28 (fun r3 σ4 hw => ?_)
      refine R_if_eq (tgt := 63) F dX1_orderGates_31 (by decide) (fun hc => ?_) (fun hc => ?_)
      · replace hw := hw.1 hc
        exact R_sub [0, 1] rfl (J_63 l1 σ4 hw)
      · replace hw := hw.2 hc
        refine R_aload_n F dX1_orderGates_34 rfl 0 rfl ?_
        refine gc_RX1_39_1 F in_X1orderGates dX1_orderGates_35 ?_
        refine R_iload_n F dX1_orderGates_38 rfl 1 rfl ?_
        refine R_ldi F qc_20 dX1_orderGates_39 hw.1 ?_
        replace hw := hw.2
        refine R_if_ne (tgt := 63) F dX1_orderGates_40 (by decide) (fun hc => ?_) (fun hc => ?_)
        · replace hw := hw.1 hc
          exact R_sub [0, 1] rfl (J_63 l1 σ4 hw)
        · replace hw := hw.2 hc
          refine R_aload_n F dX1_orderGates_43 rfl 0 rfl ?_
          refine gc_RX1_36_1 F in_X1orderGates dX1_orderGates_44 ?_
          refine R_aload_n F dX1_orderGates_47 rfl 0 rfl ?_
          refine gc_RX1_69_1 F in_X1orderGates dX1_orderGates_48 ?_
          refine R_iload_n F dX1_orderGates_51 rfl 1 rfl ?_
          have hi := hw.1
          replace hw := hw.2
          refine R_sti F qc_19 uc_19 dX1_orderGates_52 hi ?_
          refine R_aload_n F dX1_orderGates_53 rfl 0 rfl ?_
          refine R_dup F dX1_orderGates_54 rfl ?_
          refine gc_RX1_69_1 F in_X1orderGates dX1_orderGates_55 ?_
          refine R_iconst F 1 dX1_orderGates_58 (by decide) ?_
          refine R_iadd F dX1_orderGates_59 ?_
          refine pc_RX1_69_1 F in_X1orderGates dX1_orderGates_60 ?_
          exact R_sub [0, 1] rfl (J_63 l1 (sf (sa σ4 19 (σ4.1 3) l1) 3 (((sa σ4 19 (σ4.1 3) l1).1 3) + 1)) hw)
  have C_71 : ∀ (l1 : Int32) (σ : VS), b_X1orderGates_71 X7 X71 X99 Q l1 σ → X71 l1 σ := by
    intro l1 σ hw
    unfold b_X1orderGates_71 at hw
    rw [hX71]
    show WB p l e (({ frames := 3, cells := 0, slots := 0, locals := 64 } : Room)) s m (#[.ref (B 1)]) below meth c (MQ below (va_Qv (fun w => ∃ σ' : VS, Q σ' ∧ w = wc E B σ') (AftU E A) A) (#[.ref (B 1)]) s (({ frames := 3, cells := 0, slots := 0, locals := 64 } : Room)).cells (({ frames := 3, cells := 0, slots := 0, locals := 64 } : Room)).slots A) A E (wc E B) 5 71 [(0, .ref (B 1)), (1, .int l1)] [] σ
    refine R_iload_n F dX1_orderGates_71 rfl 1 rfl ?_
    refine R_aload_n F dX1_orderGates_72 rfl 0 rfl ?_
    refine gc_RX1_69_1 F in_X1orderGates dX1_orderGates_73 ?_
    refine R_icmp_ge (tgt := 184) F dX1_orderGates_76 (by decide) (fun hc => ?_) (fun hc => ?_)
    · replace hw := hw.1 hc
      exact R_sub [] rfl (J_184 σ hw)
    · replace hw := hw.2 hc
      refine R_iload_n F dX1_orderGates_79 rfl 1 rfl ?_
      refine R_bipush F 50 dX1_orderGates_80 (by decide) ?_
      refine R_icmp_ge (tgt := 184) F dX1_orderGates_82 (by decide) (fun hc => ?_) (fun hc => ?_)
      · replace hw := hw.1 hc
        exact R_sub [] rfl (J_184 σ hw)
      · replace hw := hw.2 hc
        refine R_aload_n F dX1_orderGates_85 rfl 0 rfl ?_
        refine gc_RX1_36_1 F in_X1orderGates dX1_orderGates_86 ?_
        refine R_iload_n F dX1_orderGates_89 rfl 1 rfl ?_
        refine R_ldi F qc_19 dX1_orderGates_90 hw.1 ?_
        replace hw := hw.2
        refine R_topi (fun x5 ex5 => ?_)
        replace hw := hw x5 ex5
        refine R_istore_n (lv' := [(2, .int x5), (0, .ref (B 1)), (1, .int l1)]) F dX1_orderGates_91 rfl (by decide) rfl ?_
        refine R_aload_n F dX1_orderGates_92 rfl 1 rfl ?_
        refine gc_RX1_33_1 F in_X1orderGates dX1_orderGates_93 ?_
        refine R_iload_n F dX1_orderGates_96 rfl 0 rfl ?_
        refine R_ldi F qc_18 dX1_orderGates_97 hw.1 ?_
        replace hw := hw.2
        refine R_topi (fun x6 ex6 => ?_)
        replace hw := hw x6 ex6
        refine R_istore_n (lv' := [(3, .int x6), (2, .int x5), (0, .ref (B 1)), (1, .int l1)]) F dX1_orderGates_98 rfl (by decide) rfl ?_
        exact R_sub [2, 3, 1, 0] rfl (U_99 l1 x5 x6 σ hw)
  have C_99 : ∀ (l1 : Int32) (l2 : Int32) (l3 : Int32) (σ : VS), b_X1orderGates_99 X7 X71 X99 Q l1 l2 l3 σ → X99 l1 l2 l3 σ := by
    intro l1 l2 l3 σ hw
    unfold b_X1orderGates_99 at hw
    rw [hX99]
    show WB p l e (({ frames := 3, cells := 0, slots := 0, locals := 64 } : Room)) s m (#[.ref (B 1)]) below meth c (MQ below (va_Qv (fun w => ∃ σ' : VS, Q σ' ∧ w = wc E B σ') (AftU E A) A) (#[.ref (B 1)]) s (({ frames := 3, cells := 0, slots := 0, locals := 64 } : Room)).cells (({ frames := 3, cells := 0, slots := 0, locals := 64 } : Room)).slots A) A E (wc E B) 5 99 [(0, .ref (B 1)), (1, .int l1), (2, .int l2), (3, .int l3)] [] σ
    refine R_iload_n F dX1_orderGates_99 rfl 3 rfl ?_
    refine R_aload_n F dX1_orderGates_100 rfl 0 rfl ?_
    refine gc_RX1_33_1 F in_X1orderGates dX1_orderGates_101 ?_
    refine R_iload_n F dX1_orderGates_104 rfl 2 rfl ?_
    refine R_iconst F 1 dX1_orderGates_105 (by decide) ?_
    refine R_iadd F dX1_orderGates_106 ?_
    refine R_ldi F qc_18 dX1_orderGates_107 hw.1 ?_
    replace hw := hw.2
    refine R_icmp_ge (tgt := 178) F dX1_orderGates_108 (by decide) (fun hc => ?_) (fun hc => ?_)
    · replace hw := hw.1 hc
      refine R_iinc (q := 1) (v := (l1 + 1)) (lv' := [(1, .int (l1 + 1)), (0, .ref (B 1)), (2, .int l2), (3, .int l3)]) F dX1_orderGates_178 rfl rfl (by decide) rfl ?_
      refine R_goto (tgt := 71) F dX1_orderGates_181 (by decide) ?_
      exact R_sub [1, 0] rfl (U_71 (l1 + 1) σ hw)
    · replace hw := hw.2 hc
      refine R_aload_n F dX1_orderGates_111 rfl 0 rfl ?_
      refine gc_RX1_30_1 F in_X1orderGates dX1_orderGates_112 ?_
      refine R_iload_n F dX1_orderGates_115 rfl 3 rfl ?_
      refine R_ldi F qc_17 dX1_orderGates_116 hw.1 ?_
      replace hw := hw.2
      refine R_iconst F 4 dX1_orderGates_117 (by decide) ?_
      refine R_idiv F dX1_orderGates_118 (by decide) ?_
      refine R_topi (fun x7 ex7 => ?_)
      replace hw := hw x7 ex7
      refine R_istore (lv' := [(4, .int x7), (0, .ref (B 1)), (1, .int l1), (2, .int l2), (3, .int l3)]) F dX1_orderGates_119 (by decide) rfl ?_
      refine R_aload_n F dX1_orderGates_121 rfl 1 rfl ?_
      refine gc_RX1_39_1 F in_X1orderGates dX1_orderGates_122 ?_
      refine R_iload F dX1_orderGates_125 0 rfl ?_
      refine R_dup2 F dX1_orderGates_127 rfl rfl ?_
      refine R_ldi F qc_20 dX1_orderGates_128 hw.1 ?_
      replace hw := hw.2
      refine R_iconst F 1 dX1_orderGates_129 (by decide) ?_
      refine R_isub F dX1_orderGates_130 ?_
      have hi := hw.1
      replace hw := hw.2
      refine R_sti F qc_20 uc_20 dX1_orderGates_131 hi ?_
      refine R_aload_n F dX1_orderGates_132 rfl 1 rfl ?_
      refine R_iload F dX1_orderGates_133 0 rfl ?_
      refine R_callI (As := [.int x7]) (C := RX1) (q0 := 1) (ci := 1) (N := 13) (T := TX1) (fs := cf_1 B) F (ct_X1isGate l E B _ x7 _ hw) (cwV 1 F.2.2.2.2.2.2.2.2.2.2 g_X1orderGates_X1isGate_66 rfl rfl rfl (by decide +kernel) ⟨Nat.le_of_ble_eq_true rfl, Nat.le_of_ble_eq_true rfl⟩) ⟨rfl, rfl⟩ rfl (fun _ => rfl) rfl rfl (Nat.le_of_ble_eq_true rfl) dX1_orderGates_135 (fun r8 σ9 hw => ?_)
      refine R_if_eq (tgt := 172) F dX1_orderGates_138 (by decide) (fun hc => ?_) (fun hc => ?_)
      · replace hw := hw.1 hc
        exact R_sub [1, 2, 3, 4] rfl (J_172 l1 l2 l3 σ9 hw)
      · replace hw := hw.2 hc
        refine R_aload_n F dX1_orderGates_141 rfl 1 rfl ?_
        refine gc_RX1_39_1 F in_X1orderGates dX1_orderGates_142 ?_
        refine R_iload F dX1_orderGates_145 0 rfl ?_
        refine R_ldi F qc_20 dX1_orderGates_147 hw.1 ?_
        replace hw := hw.2
        refine R_if_ne (tgt := 172) F dX1_orderGates_148 (by decide) (fun hc => ?_) (fun hc => ?_)
        · replace hw := hw.1 hc
          exact R_sub [1, 2, 3, 4] rfl (J_172 l1 l2 l3 σ9 hw)
        · replace hw := hw.2 hc
          refine R_aload_n F dX1_orderGates_151 rfl 1 rfl ?_
          refine gc_RX1_36_1 F in_X1orderGates dX1_orderGates_152 ?_
          refine R_aload_n F dX1_orderGates_155 rfl 1 rfl ?_
          refine gc_RX1_69_1 F in_X1orderGates dX1_orderGates_156 ?_
          refine R_iload F dX1_orderGates_159 0 rfl ?_
          have hi := hw.1
          replace hw := hw.2
          refine R_sti F qc_19 uc_19 dX1_orderGates_161 hi ?_
          refine R_aload_n F dX1_orderGates_162 rfl 1 rfl ?_
          refine R_dup F dX1_orderGates_163 rfl ?_
          refine gc_RX1_69_1 F in_X1orderGates dX1_orderGates_164 ?_
          refine R_iconst F 1 dX1_orderGates_167 (by decide) ?_
          refine R_iadd F dX1_orderGates_168 ?_
          refine pc_RX1_69_1 F in_X1orderGates dX1_orderGates_169 ?_
          exact R_sub [1, 2, 3, 4] rfl (J_172 l1 l2 l3 (sf (sa σ9 19 (σ9.1 3) x7) 3 (((sa σ9 19 (σ9.1 3) x7).1 3) + 1)) hw)
  unfold wp_X1orderGates at hw
  replace hw := hw X7 X71 X99 C_7 C_71 C_99
  refine R_aload_n F dX1_orderGates_0 rfl 0 rfl ?_
  refine R_iconst F 0 dX1_orderGates_1 (by decide) ?_
  refine pc_RX1_69_1 F in_X1orderGates dX1_orderGates_2 ?_
  refine R_iconst F 0 dX1_orderGates_5 (by decide) ?_
  refine R_istore_n (lv' := [(1, .int 0), (0, .ref (B 1))]) F dX1_orderGates_6 rfl (by decide) rfl ?_
  exact R_sub [1, 0] rfl (U_7 0 (sf σ 3 0) hw)
def wp_X1arrange (Q : VS → Prop) (σ : VS) : Prop := wp_X1listTakers (fun (σ2 : VS) => wp_X1orderGates (fun (σ4 : VS) => Q σ4) σ2) σ
theorem dX1_arrange_0 : decode cX1_arrange 0 = .ok (.aload_n 0, 1) := by decide +kernel
theorem dX1_arrange_1 : decode cX1_arrange 1 = .ok (.invokevirtual 72, 3) := by decide +kernel
theorem dX1_arrange_4 : decode cX1_arrange 4 = .ok (.aload_n 0, 1) := by decide +kernel
theorem dX1_arrange_5 : decode cX1_arrange 5 = .ok (.invokevirtual 75, 3) := by decide +kernel
theorem dX1_arrange_8 : decode cX1_arrange 8 = .ok (.return_, 1) := by decide +kernel
def wo_X1arrange : List Cond := [.code yX1_arrange cX1_arrange 1 none, .methodLink RX1 72 yX1_listTakers, .instanceMethod yX1_listTakers, .selects RX1 yX1_listTakers yX1_listTakers, .initialized RX1, .methodLink RX1 75 yX1_orderGates, .instanceMethod yX1_orderGates, .selects RX1 yX1_orderGates yX1_orderGates]
def wr_X1arrange : List Cond := (wfC ++ (w_X1listTakers ++ (w_X1orderGates ++ ([]))))
def w_X1arrange : List Cond := wo_X1arrange ++ wr_X1arrange
theorem wg_X1arrange : GW w_X1arrange := GW_app (GW_of (by decide +kernel)) (GW_app (wg_fC) (GW_app (wg_X1listTakers) (GW_app (wg_X1orderGates) (GW_nil))))
theorem in_X1arrange : ∀ w ∈ wfC, w ∈ w_X1arrange := fun _ h => List.mem_append_right _ (List.mem_append_left _ h)
theorem g_X1arrange_X1listTakers_72 : GoodIn w_X1arrange (wsV RX1 72 RX1 yX1_listTakers w_X1listTakers) := goodIn_app (gi_left (goodIn_of _ (by decide +kernel))) (fun w h => ⟨List.mem_append_right _ (List.mem_append_right _ (List.mem_append_left _ h)), wg_X1listTakers w h⟩)
theorem g_X1arrange_X1orderGates_75 : GoodIn w_X1arrange (wsV RX1 75 RX1 yX1_orderGates w_X1orderGates) := goodIn_app (gi_left (goodIn_of _ (by decide +kernel))) (fun w h => ⟨List.mem_append_right _ (List.mem_append_right _ (List.mem_append_right _ (List.mem_append_left _ h))), wg_X1orderGates w h⟩)
set_option maxHeartbeats 4000000 in
set_option maxRecDepth 100000 in
theorem ct_X1arrange (l : Launch) (E : gE) (B : Nat → Nat) (Q : VS → Prop) (σ : VS) (hw : wp_X1arrange Q σ) : CtV l E yX1_arrange w_X1arrange (({ frames := 4, cells := 0, slots := 0, locals := 88 } : Room)) (wc E B σ) [.ref (B 1)] (fun w => ∃ σ' : VS, Q σ' ∧ w = wc E B σ') := by
  refine VC_V (cc := cX1_arrange) (mL := 1) (rt := none) (lv0 := [(0, .ref (B 1))]) rfl (by decide) rfl (Nat.le_of_ble_eq_true rfl) ?_
  intro p e s m below meth c A F
  replace F : Fx p s m _ meth c A E cX1_arrange 1 none RX1 w_X1arrange := F
  unfold wp_X1arrange at hw
  refine R_aload_n F dX1_arrange_0 rfl 0 rfl ?_
  refine R_callV (As := []) (C := RX1) (q0 := 1) (ci := 1) (N := 13) (T := TX1) (fs := cf_1 B) F (ct_X1listTakers l E B _ _ hw) (cwV 0 F.2.2.2.2.2.2.2.2.2.2 g_X1arrange_X1listTakers_72 rfl rfl rfl (by decide +kernel) ⟨Nat.le_of_ble_eq_true rfl, Nat.le_of_ble_eq_true rfl⟩) ⟨rfl, rfl⟩ rfl (fun _ => rfl) rfl rfl (Nat.le_of_ble_eq_true rfl) dX1_arrange_1 (fun σ2 hw => ?_)
  refine R_aload_n F dX1_arrange_4 rfl 0 rfl ?_
  refine R_callV (As := []) (C := RX1) (q0 := 1) (ci := 1) (N := 13) (T := TX1) (fs := cf_1 B) F (ct_X1orderGates l E B _ _ hw) (cwV 0 F.2.2.2.2.2.2.2.2.2.2 g_X1arrange_X1orderGates_75 rfl rfl rfl (by decide +kernel) ⟨Nat.le_of_ble_eq_true rfl, Nat.le_of_ble_eq_true rfl⟩) ⟨rfl, rfl⟩ rfl (fun _ => rfl) rfl rfl (Nat.le_of_ble_eq_true rfl) dX1_arrange_5 (fun σ4 hw => ?_)
  exact R_vret (Qc := Q) F dX1_arrange_8 hw
def wp_X1addCell (Q : Int32 → VS → Prop) (p1 : Int32) (p2 : Int32) (p3 : Int32) (σ : VS) : Prop := (∀ x1 : Int32, x1 = (σ.1 2) → (In x1 50 ∧ (In x1 50 ∧ (In x1 50 ∧ wp_X1arrange (fun (σ3 : VS) => Q x1 σ3) (sa (sa (sa (sf σ 2 ((σ.1 2) + 1)) 11 x1 p1) 12 x1 p2) 13 x1 p3)))))
theorem dX1_addCell_0 : decode cX1_addCell 0 = .ok (.aload_n 0, 1) := by decide +kernel
theorem dX1_addCell_1 : decode cX1_addCell 1 = .ok (.getfield 52, 3) := by decide +kernel
theorem dX1_addCell_4 : decode cX1_addCell 4 = .ok (.istore 4, 2) := by decide +kernel
theorem dX1_addCell_6 : decode cX1_addCell 6 = .ok (.aload_n 0, 1) := by decide +kernel
theorem dX1_addCell_7 : decode cX1_addCell 7 = .ok (.dup, 1) := by decide +kernel
theorem dX1_addCell_8 : decode cX1_addCell 8 = .ok (.getfield 52, 3) := by decide +kernel
theorem dX1_addCell_11 : decode cX1_addCell 11 = .ok (.iconst 1, 1) := by decide +kernel
theorem dX1_addCell_12 : decode cX1_addCell 12 = .ok (.iadd, 1) := by decide +kernel
theorem dX1_addCell_13 : decode cX1_addCell 13 = .ok (.putfield 52, 3) := by decide +kernel
theorem dX1_addCell_16 : decode cX1_addCell 16 = .ok (.aload_n 0, 1) := by decide +kernel
theorem dX1_addCell_17 : decode cX1_addCell 17 = .ok (.getfield 9, 3) := by decide +kernel
theorem dX1_addCell_20 : decode cX1_addCell 20 = .ok (.iload 4, 2) := by decide +kernel
theorem dX1_addCell_22 : decode cX1_addCell 22 = .ok (.iload_n 1, 1) := by decide +kernel
theorem dX1_addCell_23 : decode cX1_addCell 23 = .ok (.iastore, 1) := by decide +kernel
theorem dX1_addCell_24 : decode cX1_addCell 24 = .ok (.aload_n 0, 1) := by decide +kernel
theorem dX1_addCell_25 : decode cX1_addCell 25 = .ok (.getfield 15, 3) := by decide +kernel
theorem dX1_addCell_28 : decode cX1_addCell 28 = .ok (.iload 4, 2) := by decide +kernel
theorem dX1_addCell_30 : decode cX1_addCell 30 = .ok (.iload_n 2, 1) := by decide +kernel
theorem dX1_addCell_31 : decode cX1_addCell 31 = .ok (.iastore, 1) := by decide +kernel
theorem dX1_addCell_32 : decode cX1_addCell 32 = .ok (.aload_n 0, 1) := by decide +kernel
theorem dX1_addCell_33 : decode cX1_addCell 33 = .ok (.getfield 18, 3) := by decide +kernel
theorem dX1_addCell_36 : decode cX1_addCell 36 = .ok (.iload 4, 2) := by decide +kernel
theorem dX1_addCell_38 : decode cX1_addCell 38 = .ok (.iload_n 3, 1) := by decide +kernel
theorem dX1_addCell_39 : decode cX1_addCell 39 = .ok (.iastore, 1) := by decide +kernel
theorem dX1_addCell_40 : decode cX1_addCell 40 = .ok (.aload_n 0, 1) := by decide +kernel
theorem dX1_addCell_41 : decode cX1_addCell 41 = .ok (.invokevirtual 63, 3) := by decide +kernel
theorem dX1_addCell_44 : decode cX1_addCell 44 = .ok (.iload 4, 2) := by decide +kernel
theorem dX1_addCell_46 : decode cX1_addCell 46 = .ok (.ireturn, 1) := by decide +kernel
def wo_X1addCell : List Cond := [.code yX1_addCell cX1_addCell 5 (some .int), .methodLink RX1 63 yX1_arrange, .instanceMethod yX1_arrange, .selects RX1 yX1_arrange yX1_arrange, .initialized RX1]
def wr_X1addCell : List Cond := (wfC ++ (w_X1arrange ++ ([])))
def w_X1addCell : List Cond := wo_X1addCell ++ wr_X1addCell
theorem wg_X1addCell : GW w_X1addCell := GW_app (GW_of (by decide +kernel)) (GW_app (wg_fC) (GW_app (wg_X1arrange) (GW_nil)))
theorem in_X1addCell : ∀ w ∈ wfC, w ∈ w_X1addCell := fun _ h => List.mem_append_right _ (List.mem_append_left _ h)
theorem g_X1addCell_X1arrange_63 : GoodIn w_X1addCell (wsV RX1 63 RX1 yX1_arrange w_X1arrange) := goodIn_app (gi_left (goodIn_of _ (by decide +kernel))) (fun w h => ⟨List.mem_append_right _ (List.mem_append_right _ (List.mem_append_left _ h)), wg_X1arrange w h⟩)
set_option maxHeartbeats 4000000 in
set_option maxRecDepth 100000 in
theorem ct_X1addCell (l : Launch) (E : gE) (B : Nat → Nat) (Q : Int32 → VS → Prop) (p1 : Int32) (p2 : Int32) (p3 : Int32) (σ : VS) (hw : wp_X1addCell Q p1 p2 p3 σ) : CtI l E yX1_addCell w_X1addCell (({ frames := 5, cells := 0, slots := 0, locals := 108 } : Room)) (wc E B σ) [.ref (B 1), .int p1, .int p2, .int p3] (fun r w => ∃ σ' : VS, Q r σ' ∧ w = wc E B σ') := by
  refine VC_I (cc := cX1_addCell) (mL := 5) (rt := (some .int)) (lv0 := [(0, .ref (B 1)), (1, .int p1), (2, .int p2), (3, .int p3)]) rfl (by decide) rfl (Nat.le_of_ble_eq_true rfl) ?_
  intro p e s m below meth c A F
  replace F : Fx p s m _ meth c A E cX1_addCell 5 (some .int) RX1 w_X1addCell := F
  unfold wp_X1addCell at hw
  refine R_aload_n F dX1_addCell_0 rfl 0 rfl ?_
  refine gc_RX1_52_1 F in_X1addCell dX1_addCell_1 ?_
  refine R_topi (fun x1 ex1 => ?_)
  replace hw := hw x1 ex1
  refine R_istore (lv' := [(4, .int x1), (0, .ref (B 1)), (1, .int p1), (2, .int p2), (3, .int p3)]) F dX1_addCell_4 (by decide) rfl ?_
  refine R_aload_n F dX1_addCell_6 rfl 1 rfl ?_
  refine R_dup F dX1_addCell_7 rfl ?_
  refine gc_RX1_52_1 F in_X1addCell dX1_addCell_8 ?_
  refine R_iconst F 1 dX1_addCell_11 (by decide) ?_
  refine R_iadd F dX1_addCell_12 ?_
  refine pc_RX1_52_1 F in_X1addCell dX1_addCell_13 ?_
  refine R_aload_n F dX1_addCell_16 rfl 1 rfl ?_
  refine gc_RX1_9_1 F in_X1addCell dX1_addCell_17 ?_
  refine R_iload F dX1_addCell_20 0 rfl ?_
  refine R_iload_n F dX1_addCell_22 rfl 2 rfl ?_
  have hi := hw.1
  replace hw := hw.2
  refine R_sti F qc_11 uc_11 dX1_addCell_23 hi ?_
  refine R_aload_n F dX1_addCell_24 rfl 1 rfl ?_
  refine gc_RX1_15_1 F in_X1addCell dX1_addCell_25 ?_
  refine R_iload F dX1_addCell_28 0 rfl ?_
  refine R_iload_n F dX1_addCell_30 rfl 3 rfl ?_
  have hi := hw.1
  replace hw := hw.2
  refine R_sti F qc_12 uc_12 dX1_addCell_31 hi ?_
  refine R_aload_n F dX1_addCell_32 rfl 1 rfl ?_
  refine gc_RX1_18_1 F in_X1addCell dX1_addCell_33 ?_
  refine R_iload F dX1_addCell_36 0 rfl ?_
  refine R_iload_n F dX1_addCell_38 rfl 4 rfl ?_
  have hi := hw.1
  replace hw := hw.2
  refine R_sti F qc_13 uc_13 dX1_addCell_39 hi ?_
  refine R_aload_n F dX1_addCell_40 rfl 1 rfl ?_
  refine R_callV (As := []) (C := RX1) (q0 := 1) (ci := 1) (N := 13) (T := TX1) (fs := cf_1 B) F (ct_X1arrange l E B _ _ hw) (cwV 0 F.2.2.2.2.2.2.2.2.2.2 g_X1addCell_X1arrange_63 rfl rfl rfl (by decide +kernel) ⟨Nat.le_of_ble_eq_true rfl, Nat.le_of_ble_eq_true rfl⟩) ⟨rfl, rfl⟩ rfl (fun _ => rfl) rfl rfl (Nat.le_of_ble_eq_true rfl) dX1_addCell_41 (fun σ3 hw => ?_)
  refine R_iload F dX1_addCell_44 0 rfl ?_
  exact R_iret (Qc := Q) F rfl dX1_addCell_46 hw
def wp_X1connect (Q : Int32 → VS → Prop) (p1 : Int32) (p2 : Int32) (σ : VS) : Prop := (In p2 200 ∧ (∀ x1 : Int32, x1 = (rd σ 16 p2) → (In p2 200 ∧ wp_X1arrange (fun (σ3 : VS) => Q x1 σ3) (sa σ 16 p2 p1))))
theorem dX1_connect_0 : decode cX1_connect 0 = .ok (.aload_n 0, 1) := by decide +kernel
theorem dX1_connect_1 : decode cX1_connect 1 = .ok (.getfield 27, 3) := by decide +kernel
theorem dX1_connect_4 : decode cX1_connect 4 = .ok (.iload_n 2, 1) := by decide +kernel
theorem dX1_connect_5 : decode cX1_connect 5 = .ok (.iaload, 1) := by decide +kernel
theorem dX1_connect_6 : decode cX1_connect 6 = .ok (.istore_n 3, 1) := by decide +kernel
theorem dX1_connect_7 : decode cX1_connect 7 = .ok (.aload_n 0, 1) := by decide +kernel
theorem dX1_connect_8 : decode cX1_connect 8 = .ok (.getfield 27, 3) := by decide +kernel
theorem dX1_connect_11 : decode cX1_connect 11 = .ok (.iload_n 2, 1) := by decide +kernel
theorem dX1_connect_12 : decode cX1_connect 12 = .ok (.iload_n 1, 1) := by decide +kernel
theorem dX1_connect_13 : decode cX1_connect 13 = .ok (.iastore, 1) := by decide +kernel
theorem dX1_connect_14 : decode cX1_connect 14 = .ok (.aload_n 0, 1) := by decide +kernel
theorem dX1_connect_15 : decode cX1_connect 15 = .ok (.invokevirtual 63, 3) := by decide +kernel
theorem dX1_connect_18 : decode cX1_connect 18 = .ok (.iload_n 3, 1) := by decide +kernel
theorem dX1_connect_19 : decode cX1_connect 19 = .ok (.ireturn, 1) := by decide +kernel
def wo_X1connect : List Cond := [.code yX1_connect cX1_connect 4 (some .int), .methodLink RX1 63 yX1_arrange, .instanceMethod yX1_arrange, .selects RX1 yX1_arrange yX1_arrange, .initialized RX1]
def wr_X1connect : List Cond := (wfC ++ (w_X1arrange ++ ([])))
def w_X1connect : List Cond := wo_X1connect ++ wr_X1connect
theorem wg_X1connect : GW w_X1connect := GW_app (GW_of (by decide +kernel)) (GW_app (wg_fC) (GW_app (wg_X1arrange) (GW_nil)))
theorem in_X1connect : ∀ w ∈ wfC, w ∈ w_X1connect := fun _ h => List.mem_append_right _ (List.mem_append_left _ h)
theorem g_X1connect_X1arrange_63 : GoodIn w_X1connect (wsV RX1 63 RX1 yX1_arrange w_X1arrange) := goodIn_app (gi_left (goodIn_of _ (by decide +kernel))) (fun w h => ⟨List.mem_append_right _ (List.mem_append_right _ (List.mem_append_left _ h)), wg_X1arrange w h⟩)
set_option maxHeartbeats 4000000 in
set_option maxRecDepth 100000 in
theorem ct_X1connect (l : Launch) (E : gE) (B : Nat → Nat) (Q : Int32 → VS → Prop) (p1 : Int32) (p2 : Int32) (σ : VS) (hw : wp_X1connect Q p1 p2 σ) : CtI l E yX1_connect w_X1connect (({ frames := 5, cells := 0, slots := 0, locals := 108 } : Room)) (wc E B σ) [.ref (B 1), .int p1, .int p2] (fun r w => ∃ σ' : VS, Q r σ' ∧ w = wc E B σ') := by
  refine VC_I (cc := cX1_connect) (mL := 4) (rt := (some .int)) (lv0 := [(0, .ref (B 1)), (1, .int p1), (2, .int p2)]) rfl (by decide) rfl (Nat.le_of_ble_eq_true rfl) ?_
  intro p e s m below meth c A F
  replace F : Fx p s m _ meth c A E cX1_connect 4 (some .int) RX1 w_X1connect := F
  unfold wp_X1connect at hw
  refine R_aload_n F dX1_connect_0 rfl 0 rfl ?_
  refine gc_RX1_27_1 F in_X1connect dX1_connect_1 ?_
  refine R_iload_n F dX1_connect_4 rfl 2 rfl ?_
  refine R_ldi F qc_16 dX1_connect_5 hw.1 ?_
  replace hw := hw.2
  refine R_topi (fun x1 ex1 => ?_)
  replace hw := hw x1 ex1
  refine R_istore_n (lv' := [(3, .int x1), (0, .ref (B 1)), (1, .int p1), (2, .int p2)]) F dX1_connect_6 rfl (by decide) rfl ?_
  refine R_aload_n F dX1_connect_7 rfl 1 rfl ?_
  refine gc_RX1_27_1 F in_X1connect dX1_connect_8 ?_
  refine R_iload_n F dX1_connect_11 rfl 3 rfl ?_
  refine R_iload_n F dX1_connect_12 rfl 2 rfl ?_
  have hi := hw.1
  replace hw := hw.2
  refine R_sti F qc_16 uc_16 dX1_connect_13 hi ?_
  refine R_aload_n F dX1_connect_14 rfl 1 rfl ?_
  refine R_callV (As := []) (C := RX1) (q0 := 1) (ci := 1) (N := 13) (T := TX1) (fs := cf_1 B) F (ct_X1arrange l E B _ _ hw) (cwV 0 F.2.2.2.2.2.2.2.2.2.2 g_X1connect_X1arrange_63 rfl rfl rfl (by decide +kernel) ⟨Nat.le_of_ble_eq_true rfl, Nat.le_of_ble_eq_true rfl⟩) ⟨rfl, rfl⟩ rfl (fun _ => rfl) rfl rfl (Nat.le_of_ble_eq_true rfl) dX1_connect_15 (fun σ3 hw => ?_)
  refine R_iload_n F dX1_connect_18 rfl 0 rfl ?_
  exact R_iret (Qc := Q) F rfl dX1_connect_19 hw
