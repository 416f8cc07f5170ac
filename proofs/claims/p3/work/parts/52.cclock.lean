def b_X0hasOrRoot_18 (Q : Int32 → VS → Prop) (k0 : Int32) (σ : VS) : Prop := (Bo k0 ∧ Q k0 σ)
def b_X0hasOrRoot_17 (Q : Int32 → VS → Prop) (σ : VS) : Prop := b_X0hasOrRoot_18 Q 0 σ
def wp_X0hasOrRoot (Q : Int32 → VS → Prop) (p1 : Int32) (σ : VS) : Prop := ((p1.toInt < (-1) → b_X0hasOrRoot_17 Q σ) ∧ ((-1) ≤ p1.toInt → (((σ.1 5).toInt ≤ p1.toInt → b_X0hasOrRoot_17 Q σ) ∧ (p1.toInt < (σ.1 5).toInt → b_X0hasOrRoot_18 Q 1 σ))))
theorem dX0_hasOrRoot_0 : decode cX0_hasOrRoot 0 = .ok (.iload_n 1, 1) := by decide +kernel
theorem dX0_hasOrRoot_1 : decode cX0_hasOrRoot 1 = .ok (.iconst (-1), 1) := by decide +kernel
theorem dX0_hasOrRoot_2 : decode cX0_hasOrRoot 2 = .ok (.if_icmp .lt 15, 3) := by decide +kernel
theorem dX0_hasOrRoot_5 : decode cX0_hasOrRoot 5 = .ok (.iload_n 1, 1) := by decide +kernel
theorem dX0_hasOrRoot_6 : decode cX0_hasOrRoot 6 = .ok (.aload_n 0, 1) := by decide +kernel
theorem dX0_hasOrRoot_7 : decode cX0_hasOrRoot 7 = .ok (.getfield 25, 3) := by decide +kernel
theorem dX0_hasOrRoot_10 : decode cX0_hasOrRoot 10 = .ok (.if_icmp .ge 7, 3) := by decide +kernel
theorem dX0_hasOrRoot_13 : decode cX0_hasOrRoot 13 = .ok (.iconst 1, 1) := by decide +kernel
theorem dX0_hasOrRoot_14 : decode cX0_hasOrRoot 14 = .ok (.goto 4, 3) := by decide +kernel
theorem dX0_hasOrRoot_17 : decode cX0_hasOrRoot 17 = .ok (.iconst 0, 1) := by decide +kernel
theorem dX0_hasOrRoot_18 : decode cX0_hasOrRoot 18 = .ok (.ireturn, 1) := by decide +kernel
def wo_X0hasOrRoot : List Cond := [.code yX0_hasOrRoot cX0_hasOrRoot 2 (some .boolean)]
def wr_X0hasOrRoot : List Cond := (wfC ++ ([]))
def w_X0hasOrRoot : List Cond := wo_X0hasOrRoot ++ wr_X0hasOrRoot
theorem wg_X0hasOrRoot : GW w_X0hasOrRoot := GW_app (GW_of (by decide +kernel)) (GW_app (wg_fC) (GW_nil))
theorem in_X0hasOrRoot : ∀ w ∈ wfC, w ∈ w_X0hasOrRoot := fun _ h => List.mem_append_right _ (List.mem_append_left _ h)
set_option maxHeartbeats 4000000 in
set_option maxRecDepth 100000 in
theorem ct_X0hasOrRoot (l : Launch) (E : gE) (B : Nat → Nat) (Q : Int32 → VS → Prop) (p1 : Int32) (σ : VS) (hw : wp_X0hasOrRoot Q p1 σ) : CtI l E yX0_hasOrRoot w_X0hasOrRoot (({ frames := 0, cells := 0, slots := 0, locals := 0 } : Room)) (wc E B σ) [.ref (B 3), .int p1] (fun r w => ∃ σ' : VS, Q r σ' ∧ w = wc E B σ') := by
  refine VC_I (cc := cX0_hasOrRoot) (mL := 2) (rt := (some .boolean)) (lv0 := [(0, .ref (B 3)), (1, .int p1)]) rfl (by decide) rfl (Nat.le_of_ble_eq_true rfl) ?_
  intro p e s m below meth c A F
  replace F : Fx p s m _ meth c A E cX0_hasOrRoot 2 (some .boolean) RX0 w_X0hasOrRoot := F
  have J_18 : ∀ (k0 : Int32) (σ : VS), b_X0hasOrRoot_18 Q k0 σ → WB p l e (({ frames := 0, cells := 0, slots := 0, locals := 0 } : Room)) s m (#[.ref (B 3), .int p1]) below meth c (MQ below (va_Qi (fun r w => ∃ σ' : VS, Q r σ' ∧ w = wc E B σ') (AftU E A) A) (#[.ref (B 3), .int p1]) s (({ frames := 0, cells := 0, slots := 0, locals := 0 } : Room)).cells (({ frames := 0, cells := 0, slots := 0, locals := 0 } : Room)).slots A) A E (wc E B) 2 18 [] [.int k0] σ := by
    intro k0 σ hw
    unfold b_X0hasOrRoot_18 at hw
    exact R_iret (Qc := Q) F (nb_01 hw.1) dX0_hasOrRoot_18 hw.2
  have J_17 : ∀ (σ : VS), b_X0hasOrRoot_17 Q σ → WB p l e (({ frames := 0, cells := 0, slots := 0, locals := 0 } : Room)) s m (#[.ref (B 3), .int p1]) below meth c (MQ below (va_Qi (fun r w => ∃ σ' : VS, Q r σ' ∧ w = wc E B σ') (AftU E A) A) (#[.ref (B 3), .int p1]) s (({ frames := 0, cells := 0, slots := 0, locals := 0 } : Room)).cells (({ frames := 0, cells := 0, slots := 0, locals := 0 } : Room)).slots A) A E (wc E B) 2 17 [] [] σ := by
    intro σ hw
    unfold b_X0hasOrRoot_17 at hw
    refine R_iconst F 0 dX0_hasOrRoot_17 (by decide) ?_
    exact R_sub [] rfl (J_18 0 σ hw)
  unfold wp_X0hasOrRoot at hw
  refine R_iload_n F dX0_hasOrRoot_0 rfl 1 rfl ?_
  refine R_iconst F (-1) dX0_hasOrRoot_1 (by decide) ?_
  refine R_icmp_lt (tgt := 17) F dX0_hasOrRoot_2 (by decide) (fun hc => ?_) (fun hc => ?_)
  · replace hw := hw.1 hc
    exact R_sub [] rfl (J_17 σ hw)
  · replace hw := hw.2 hc
    refine R_iload_n F dX0_hasOrRoot_5 rfl 1 rfl ?_
    refine R_aload_n F dX0_hasOrRoot_6 rfl 0 rfl ?_
    refine gc_RX0_25_3 F in_X0hasOrRoot dX0_hasOrRoot_7 ?_
    refine R_icmp_ge (tgt := 17) F dX0_hasOrRoot_10 (by decide) (fun hc => ?_) (fun hc => ?_)
    · replace hw := hw.1 hc
      exact R_sub [] rfl (J_17 σ hw)
    · replace hw := hw.2 hc
      refine R_iconst F 1 dX0_hasOrRoot_13 (by decide) ?_
      refine R_goto (tgt := 18) F dX0_hasOrRoot_14 (by decide) ?_
      exact R_sub [] rfl (J_18 1 σ hw)
def b_X0earlyOf_14 (Q : Int32 → VS → Prop) (k0 : Int32) (σ : VS) : Prop := Q k0 σ
def wp_X0earlyOf (Q : Int32 → VS → Prop) (p1 : Int32) (σ : VS) : Prop := ((0 ≤ p1.toInt → (In p1 20 ∧ b_X0earlyOf_14 Q (rd σ 29 p1) σ)) ∧ (p1.toInt < 0 → b_X0earlyOf_14 Q 0 σ))
theorem dX0_earlyOf_0 : decode cX0_earlyOf 0 = .ok (.iload_n 1, 1) := by decide +kernel
theorem dX0_earlyOf_1 : decode cX0_earlyOf 1 = .ok (.ifCond .ge 7, 3) := by decide +kernel
theorem dX0_earlyOf_8 : decode cX0_earlyOf 8 = .ok (.aload_n 0, 1) := by decide +kernel
theorem dX0_earlyOf_9 : decode cX0_earlyOf 9 = .ok (.getfield 19, 3) := by decide +kernel
theorem dX0_earlyOf_12 : decode cX0_earlyOf 12 = .ok (.iload_n 1, 1) := by decide +kernel
theorem dX0_earlyOf_13 : decode cX0_earlyOf 13 = .ok (.iaload, 1) := by decide +kernel
theorem dX0_earlyOf_4 : decode cX0_earlyOf 4 = .ok (.iconst 0, 1) := by decide +kernel
theorem dX0_earlyOf_5 : decode cX0_earlyOf 5 = .ok (.goto 9, 3) := by decide +kernel
theorem dX0_earlyOf_14 : decode cX0_earlyOf 14 = .ok (.ireturn, 1) := by decide +kernel
def wo_X0earlyOf : List Cond := [.code yX0_earlyOf cX0_earlyOf 2 (some .int)]
def wr_X0earlyOf : List Cond := (wfC ++ ([]))
def w_X0earlyOf : List Cond := wo_X0earlyOf ++ wr_X0earlyOf
theorem wg_X0earlyOf : GW w_X0earlyOf := GW_app (GW_of (by decide +kernel)) (GW_app (wg_fC) (GW_nil))
theorem in_X0earlyOf : ∀ w ∈ wfC, w ∈ w_X0earlyOf := fun _ h => List.mem_append_right _ (List.mem_append_left _ h)
set_option maxHeartbeats 4000000 in
set_option maxRecDepth 100000 in
theorem ct_X0earlyOf (l : Launch) (E : gE) (B : Nat → Nat) (Q : Int32 → VS → Prop) (p1 : Int32) (σ : VS) (hw : wp_X0earlyOf Q p1 σ) : CtI l E yX0_earlyOf w_X0earlyOf (({ frames := 0, cells := 0, slots := 0, locals := 0 } : Room)) (wc E B σ) [.ref (B 3), .int p1] (fun r w => ∃ σ' : VS, Q r σ' ∧ w = wc E B σ') := by
  refine VC_I (cc := cX0_earlyOf) (mL := 2) (rt := (some .int)) (lv0 := [(0, .ref (B 3)), (1, .int p1)]) rfl (by decide) rfl (Nat.le_of_ble_eq_true rfl) ?_
  intro p e s m below meth c A F
  replace F : Fx p s m _ meth c A E cX0_earlyOf 2 (some .int) RX0 w_X0earlyOf := F
  have J_14 : ∀ (k0 : Int32) (σ : VS), b_X0earlyOf_14 Q k0 σ → WB p l e (({ frames := 0, cells := 0, slots := 0, locals := 0 } : Room)) s m (#[.ref (B 3), .int p1]) below meth c (MQ below (va_Qi (fun r w => ∃ σ' : VS, Q r σ' ∧ w = wc E B σ') (AftU E A) A) (#[.ref (B 3), .int p1]) s (({ frames := 0, cells := 0, slots := 0, locals := 0 } : Room)).cells (({ frames := 0, cells := 0, slots := 0, locals := 0 } : Room)).slots A) A E (wc E B) 2 14 [] [.int k0] σ := by
    intro k0 σ hw
    unfold b_X0earlyOf_14 at hw
    exact R_iret (Qc := Q) F rfl dX0_earlyOf_14 hw
  unfold wp_X0earlyOf at hw
  refine R_iload_n F dX0_earlyOf_0 rfl 1 rfl ?_
  refine R_if_ge (tgt := 8) F dX0_earlyOf_1 (by decide) (fun hc => ?_) (fun hc => ?_)
  · replace hw := hw.1 hc
    refine R_aload_n F dX0_earlyOf_8 rfl 0 rfl ?_
    refine gc_RX0_19_3 F in_X0earlyOf dX0_earlyOf_9 ?_
    refine R_iload_n F dX0_earlyOf_12 rfl 1 rfl ?_
    refine R_ldi F qc_29 dX0_earlyOf_13 hw.1 ?_
    replace hw := hw.2
    exact R_sub [] rfl (J_14 (rd σ 29 p1) σ hw)
  · replace hw := hw.2 hc
    refine R_iconst F 0 dX0_earlyOf_4 (by decide) ?_
    refine R_goto (tgt := 14) F dX0_earlyOf_5 (by decide) ?_
    exact R_sub [] rfl (J_14 0 σ hw)
def b_X0lateOf_14 (Q : Int32 → VS → Prop) (k0 : Int32) (σ : VS) : Prop := Q k0 σ
def wp_X0lateOf (Q : Int32 → VS → Prop) (p1 : Int32) (σ : VS) : Prop := ((0 ≤ p1.toInt → (In p1 20 ∧ b_X0lateOf_14 Q (rd σ 30 p1) σ)) ∧ (p1.toInt < 0 → b_X0lateOf_14 Q 0 σ))
theorem dX0_lateOf_0 : decode cX0_lateOf 0 = .ok (.iload_n 1, 1) := by decide +kernel
theorem dX0_lateOf_1 : decode cX0_lateOf 1 = .ok (.ifCond .ge 7, 3) := by decide +kernel
theorem dX0_lateOf_8 : decode cX0_lateOf 8 = .ok (.aload_n 0, 1) := by decide +kernel
theorem dX0_lateOf_9 : decode cX0_lateOf 9 = .ok (.getfield 22, 3) := by decide +kernel
theorem dX0_lateOf_12 : decode cX0_lateOf 12 = .ok (.iload_n 1, 1) := by decide +kernel
theorem dX0_lateOf_13 : decode cX0_lateOf 13 = .ok (.iaload, 1) := by decide +kernel
theorem dX0_lateOf_4 : decode cX0_lateOf 4 = .ok (.iconst 0, 1) := by decide +kernel
theorem dX0_lateOf_5 : decode cX0_lateOf 5 = .ok (.goto 9, 3) := by decide +kernel
theorem dX0_lateOf_14 : decode cX0_lateOf 14 = .ok (.ireturn, 1) := by decide +kernel
def wo_X0lateOf : List Cond := [.code yX0_lateOf cX0_lateOf 2 (some .int)]
def wr_X0lateOf : List Cond := (wfC ++ ([]))
def w_X0lateOf : List Cond := wo_X0lateOf ++ wr_X0lateOf
theorem wg_X0lateOf : GW w_X0lateOf := GW_app (GW_of (by decide +kernel)) (GW_app (wg_fC) (GW_nil))
theorem in_X0lateOf : ∀ w ∈ wfC, w ∈ w_X0lateOf := fun _ h => List.mem_append_right _ (List.mem_append_left _ h)
set_option maxHeartbeats 4000000 in
set_option maxRecDepth 100000 in
theorem ct_X0lateOf (l : Launch) (E : gE) (B : Nat → Nat) (Q : Int32 → VS → Prop) (p1 : Int32) (σ : VS) (hw : wp_X0lateOf Q p1 σ) : CtI l E yX0_lateOf w_X0lateOf (({ frames := 0, cells := 0, slots := 0, locals := 0 } : Room)) (wc E B σ) [.ref (B 3), .int p1] (fun r w => ∃ σ' : VS, Q r σ' ∧ w = wc E B σ') := by
  refine VC_I (cc := cX0_lateOf) (mL := 2) (rt := (some .int)) (lv0 := [(0, .ref (B 3)), (1, .int p1)]) rfl (by decide) rfl (Nat.le_of_ble_eq_true rfl) ?_
  intro p e s m below meth c A F
  replace F : Fx p s m _ meth c A E cX0_lateOf 2 (some .int) RX0 w_X0lateOf := F
  have J_14 : ∀ (k0 : Int32) (σ : VS), b_X0lateOf_14 Q k0 σ → WB p l e (({ frames := 0, cells := 0, slots := 0, locals := 0 } : Room)) s m (#[.ref (B 3), .int p1]) below meth c (MQ below (va_Qi (fun r w => ∃ σ' : VS, Q r σ' ∧ w = wc E B σ') (AftU E A) A) (#[.ref (B 3), .int p1]) s (({ frames := 0, cells := 0, slots := 0, locals := 0 } : Room)).cells (({ frames := 0, cells := 0, slots := 0, locals := 0 } : Room)).slots A) A E (wc E B) 2 14 [] [.int k0] σ := by
    intro k0 σ hw
    unfold b_X0lateOf_14 at hw
    exact R_iret (Qc := Q) F rfl dX0_lateOf_14 hw
  unfold wp_X0lateOf at hw
  refine R_iload_n F dX0_lateOf_0 rfl 1 rfl ?_
  refine R_if_ge (tgt := 8) F dX0_lateOf_1 (by decide) (fun hc => ?_) (fun hc => ?_)
  · replace hw := hw.1 hc
    refine R_aload_n F dX0_lateOf_8 rfl 0 rfl ?_
    refine gc_RX0_22_3 F in_X0lateOf dX0_lateOf_9 ?_
    refine R_iload_n F dX0_lateOf_12 rfl 1 rfl ?_
    refine R_ldi F qc_30 dX0_lateOf_13 hw.1 ?_
    replace hw := hw.2
    exact R_sub [] rfl (J_14 (rd σ 30 p1) σ hw)
  · replace hw := hw.2 hc
    refine R_iconst F 0 dX0_lateOf_4 (by decide) ?_
    refine R_goto (tgt := 14) F dX0_lateOf_5 (by decide) ?_
    exact R_sub [] rfl (J_14 0 σ hw)
def b_X0sharedOf_73 (X8 : Int32 → Int32 → Int32 → VS → Prop) (Q : Int32 → VS → Prop) (k0 : Int32) (σ : VS) : Prop := Q k0 σ
def b_X0sharedOf_52 (X8 : Int32 → Int32 → Int32 → VS → Prop) (Q : Int32 → VS → Prop) (l3 : Int32) (σ : VS) : Prop := ((0 ≤ l3.toInt → (In l3 20 ∧ (In l3 20 ∧ b_X0sharedOf_73 X8 Q ((rd σ 30 l3) - (rd σ 29 l3)) σ))) ∧ (l3.toInt < 0 → b_X0sharedOf_73 X8 Q 0 σ))
def b_X0sharedOf_46 (X8 : Int32 → Int32 → Int32 → VS → Prop) (Q : Int32 → VS → Prop) (l3 : Int32) (l4 : Int32) (l5 : Int32) (σ : VS) : Prop := X8 l3 l4 (l5 + 1) σ
def b_X0sharedOf_8 (X8 : Int32 → Int32 → Int32 → VS → Prop) (Q : Int32 → VS → Prop) (l3 : Int32) (l4 : Int32) (l5 : Int32) (σ : VS) : Prop := ((40 ≤ l5.toInt → b_X0sharedOf_52 X8 Q l3 σ) ∧ (l5.toInt < 40 → ((l3.toInt = l4.toInt → b_X0sharedOf_52 X8 Q l3 σ) ∧ (l3.toInt ≠ l4.toInt → ((l3.toInt ≤ l4.toInt → (In l4 20 ∧ (∀ x1 : Int32, x1 = (rd σ 28 l4) → b_X0sharedOf_46 X8 Q l3 x1 l5 σ))) ∧ (l4.toInt < l3.toInt → (In l3 20 ∧ (∀ x2 : Int32, x2 = (rd σ 28 l3) → b_X0sharedOf_46 X8 Q x2 l4 l5 σ))))))))
def wp_X0sharedOf (Q : Int32 → VS → Prop) (p1 : Int32) (p2 : Int32) (σ : VS) : Prop := ∀ (X8 : Int32 → Int32 → Int32 → VS → Prop), (∀ (l3 : Int32) (l4 : Int32) (l5 : Int32) (σ : VS), b_X0sharedOf_8 X8 Q l3 l4 l5 σ → X8 l3 l4 l5 σ) → X8 p1 p2 0 σ
theorem dX0_sharedOf_0 : decode cX0_sharedOf 0 = .ok (.iload_n 1, 1) := by decide +kernel
theorem dX0_sharedOf_1 : decode cX0_sharedOf 1 = .ok (.istore_n 3, 1) := by decide +kernel
theorem dX0_sharedOf_2 : decode cX0_sharedOf 2 = .ok (.iload_n 2, 1) := by decide +kernel
theorem dX0_sharedOf_3 : decode cX0_sharedOf 3 = .ok (.istore 4, 2) := by decide +kernel
theorem dX0_sharedOf_5 : decode cX0_sharedOf 5 = .ok (.iconst 0, 1) := by decide +kernel
theorem dX0_sharedOf_6 : decode cX0_sharedOf 6 = .ok (.istore 5, 2) := by decide +kernel
theorem dX0_sharedOf_8 : decode cX0_sharedOf 8 = .ok (.iload 5, 2) := by decide +kernel
theorem dX0_sharedOf_10 : decode cX0_sharedOf 10 = .ok (.bipush 40, 2) := by decide +kernel
theorem dX0_sharedOf_12 : decode cX0_sharedOf 12 = .ok (.if_icmp .ge 40, 3) := by decide +kernel
theorem dX0_sharedOf_15 : decode cX0_sharedOf 15 = .ok (.iload_n 3, 1) := by decide +kernel
theorem dX0_sharedOf_16 : decode cX0_sharedOf 16 = .ok (.iload 4, 2) := by decide +kernel
theorem dX0_sharedOf_18 : decode cX0_sharedOf 18 = .ok (.if_icmp .eq 34, 3) := by decide +kernel
theorem dX0_sharedOf_21 : decode cX0_sharedOf 21 = .ok (.iload_n 3, 1) := by decide +kernel
theorem dX0_sharedOf_22 : decode cX0_sharedOf 22 = .ok (.iload 4, 2) := by decide +kernel
theorem dX0_sharedOf_24 : decode cX0_sharedOf 24 = .ok (.if_icmp .le 13, 3) := by decide +kernel
theorem dX0_sharedOf_37 : decode cX0_sharedOf 37 = .ok (.aload_n 0, 1) := by decide +kernel
theorem dX0_sharedOf_38 : decode cX0_sharedOf 38 = .ok (.getfield 15, 3) := by decide +kernel
theorem dX0_sharedOf_41 : decode cX0_sharedOf 41 = .ok (.iload 4, 2) := by decide +kernel
theorem dX0_sharedOf_43 : decode cX0_sharedOf 43 = .ok (.iaload, 1) := by decide +kernel
theorem dX0_sharedOf_44 : decode cX0_sharedOf 44 = .ok (.istore 4, 2) := by decide +kernel
theorem dX0_sharedOf_27 : decode cX0_sharedOf 27 = .ok (.aload_n 0, 1) := by decide +kernel
theorem dX0_sharedOf_28 : decode cX0_sharedOf 28 = .ok (.getfield 15, 3) := by decide +kernel
theorem dX0_sharedOf_31 : decode cX0_sharedOf 31 = .ok (.iload_n 3, 1) := by decide +kernel
theorem dX0_sharedOf_32 : decode cX0_sharedOf 32 = .ok (.iaload, 1) := by decide +kernel
theorem dX0_sharedOf_33 : decode cX0_sharedOf 33 = .ok (.istore_n 3, 1) := by decide +kernel
theorem dX0_sharedOf_34 : decode cX0_sharedOf 34 = .ok (.goto 12, 3) := by decide +kernel
theorem dX0_sharedOf_52 : decode cX0_sharedOf 52 = .ok (.iload_n 3, 1) := by decide +kernel
theorem dX0_sharedOf_53 : decode cX0_sharedOf 53 = .ok (.ifCond .ge 7, 3) := by decide +kernel
theorem dX0_sharedOf_60 : decode cX0_sharedOf 60 = .ok (.aload_n 0, 1) := by decide +kernel
theorem dX0_sharedOf_61 : decode cX0_sharedOf 61 = .ok (.getfield 22, 3) := by decide +kernel
theorem dX0_sharedOf_64 : decode cX0_sharedOf 64 = .ok (.iload_n 3, 1) := by decide +kernel
theorem dX0_sharedOf_65 : decode cX0_sharedOf 65 = .ok (.iaload, 1) := by decide +kernel
theorem dX0_sharedOf_66 : decode cX0_sharedOf 66 = .ok (.aload_n 0, 1) := by decide +kernel
theorem dX0_sharedOf_67 : decode cX0_sharedOf 67 = .ok (.getfield 19, 3) := by decide +kernel
theorem dX0_sharedOf_70 : decode cX0_sharedOf 70 = .ok (.iload_n 3, 1) := by decide +kernel
theorem dX0_sharedOf_71 : decode cX0_sharedOf 71 = .ok (.iaload, 1) := by decide +kernel
theorem dX0_sharedOf_72 : decode cX0_sharedOf 72 = .ok (.isub, 1) := by decide +kernel
theorem dX0_sharedOf_56 : decode cX0_sharedOf 56 = .ok (.iconst 0, 1) := by decide +kernel
theorem dX0_sharedOf_57 : decode cX0_sharedOf 57 = .ok (.goto 16, 3) := by decide +kernel
theorem dX0_sharedOf_46 : decode cX0_sharedOf 46 = .ok (.iinc 5 1, 3) := by decide +kernel
theorem dX0_sharedOf_49 : decode cX0_sharedOf 49 = .ok (.goto (-41), 3) := by decide +kernel
theorem dX0_sharedOf_73 : decode cX0_sharedOf 73 = .ok (.ireturn, 1) := by decide +kernel
def wo_X0sharedOf : List Cond := [.code yX0_sharedOf cX0_sharedOf 6 (some .int)]
def wr_X0sharedOf : List Cond := (wfC ++ ([]))
def w_X0sharedOf : List Cond := wo_X0sharedOf ++ wr_X0sharedOf
theorem wg_X0sharedOf : GW w_X0sharedOf := GW_app (GW_of (by decide +kernel)) (GW_app (wg_fC) (GW_nil))
theorem in_X0sharedOf : ∀ w ∈ wfC, w ∈ w_X0sharedOf := fun _ h => List.mem_append_right _ (List.mem_append_left _ h)
set_option maxHeartbeats 4000000 in
set_option maxRecDepth 100000 in
theorem ct_X0sharedOf (l : Launch) (E : gE) (B : Nat → Nat) (Q : Int32 → VS → Prop) (p1 : Int32) (p2 : Int32) (σ : VS) (hw : wp_X0sharedOf Q p1 p2 σ) : CtI l E yX0_sharedOf w_X0sharedOf (({ frames := 0, cells := 0, slots := 0, locals := 0 } : Room)) (wc E B σ) [.ref (B 3), .int p1, .int p2] (fun r w => ∃ σ' : VS, Q r σ' ∧ w = wc E B σ') := by
  refine VC_I (cc := cX0_sharedOf) (mL := 6) (rt := (some .int)) (lv0 := [(0, .ref (B 3)), (1, .int p1), (2, .int p2)]) rfl (by decide) rfl (Nat.le_of_ble_eq_true rfl) ?_
  intro p e s m below meth c A F
  replace F : Fx p s m _ meth c A E cX0_sharedOf 6 (some .int) RX0 w_X0sharedOf := F
  obtain ⟨X8, hX8⟩ : ∃ X : Int32 → Int32 → Int32 → VS → Prop, X = fun l3 l4 l5 σ => WB p l e (({ frames := 0, cells := 0, slots := 0, locals := 0 } : Room)) s m (#[.ref (B 3), .int p1, .int p2]) below meth c (MQ below (va_Qi (fun r w => ∃ σ' : VS, Q r σ' ∧ w = wc E B σ') (AftU E A) A) (#[.ref (B 3), .int p1, .int p2]) s (({ frames := 0, cells := 0, slots := 0, locals := 0 } : Room)).cells (({ frames := 0, cells := 0, slots := 0, locals := 0 } : Room)).slots A) A E (wc E B) 6 8 [(0, .ref (B 3)), (3, .int l3), (4, .int l4), (5, .int l5)] [] σ := ⟨_, rfl⟩
  have U_8 : ∀ (l3 : Int32) (l4 : Int32) (l5 : Int32) (σ : VS), X8 l3 l4 l5 σ → WB p l e (({ frames := 0, cells := 0, slots := 0, locals := 0 } : Room)) s m (#[.ref (B 3), .int p1, .int p2]) below meth c (MQ below (va_Qi (fun r w => ∃ σ' : VS, Q r σ' ∧ w = wc E B σ') (AftU E A) A) (#[.ref (B 3), .int p1, .int p2]) s (({ frames := 0, cells := 0, slots := 0, locals := 0 } : Room)).cells (({ frames := 0, cells := 0, slots := 0, locals := 0 } : Room)).slots A) A E (wc E B) 6 8 [(0, .ref (B 3)), (3, .int l3), (4, .int l4), (5, .int l5)] [] σ := by
    intro l3 l4 l5 σ hw; rw [hX8] at hw; exact hw
  have J_73 : ∀ (k0 : Int32) (σ : VS), b_X0sharedOf_73 X8 Q k0 σ → WB p l e (({ frames := 0, cells := 0, slots := 0, locals := 0 } : Room)) s m (#[.ref (B 3), .int p1, .int p2]) below meth c (MQ below (va_Qi (fun r w => ∃ σ' : VS, Q r σ' ∧ w = wc E B σ') (AftU E A) A) (#[.ref (B 3), .int p1, .int p2]) s (({ frames := 0, cells := 0, slots := 0, locals := 0 } : Room)).cells (({ frames := 0, cells := 0, slots := 0, locals := 0 } : Room)).slots A) A E (wc E B) 6 73 [] [.int k0] σ := by
    intro k0 σ hw
    unfold b_X0sharedOf_73 at hw
    exact R_iret (Qc := Q) F rfl dX0_sharedOf_73 hw
  have J_52 : ∀ (l3 : Int32) (σ : VS), b_X0sharedOf_52 X8 Q l3 σ → WB p l e (({ frames := 0, cells := 0, slots := 0, locals := 0 } : Room)) s m (#[.ref (B 3), .int p1, .int p2]) below meth c (MQ below (va_Qi (fun r w => ∃ σ' : VS, Q r σ' ∧ w = wc E B σ') (AftU E A) A) (#[.ref (B 3), .int p1, .int p2]) s (({ frames := 0, cells := 0, slots := 0, locals := 0 } : Room)).cells (({ frames := 0, cells := 0, slots := 0, locals := 0 } : Room)).slots A) A E (wc E B) 6 52 [(0, .ref (B 3)), (3, .int l3)] [] σ := by
    intro l3 σ hw
    unfold b_X0sharedOf_52 at hw
    refine R_iload_n F dX0_sharedOf_52 rfl 1 rfl ?_
    refine R_if_ge (tgt := 60) F dX0_sharedOf_53 (by decide) (fun hc => ?_) (fun hc => ?_)
    · replace hw := hw.1 hc
      refine R_aload_n F dX0_sharedOf_60 rfl 0 rfl ?_
      refine gc_RX0_22_3 F in_X0sharedOf dX0_sharedOf_61 ?_
      refine R_iload_n F dX0_sharedOf_64 rfl 1 rfl ?_
      refine R_ldi F qc_30 dX0_sharedOf_65 hw.1 ?_
      replace hw := hw.2
      refine R_aload_n F dX0_sharedOf_66 rfl 0 rfl ?_
      refine gc_RX0_19_3 F in_X0sharedOf dX0_sharedOf_67 ?_
      refine R_iload_n F dX0_sharedOf_70 rfl 1 rfl ?_
      refine R_ldi F qc_29 dX0_sharedOf_71 hw.1 ?_
      replace hw := hw.2
      refine R_isub F dX0_sharedOf_72 ?_
      exact R_sub [] rfl (J_73 ((rd σ 30 l3) - (rd σ 29 l3)) σ hw)
    · replace hw := hw.2 hc
      refine R_iconst F 0 dX0_sharedOf_56 (by decide) ?_
      refine R_goto (tgt := 73) F dX0_sharedOf_57 (by decide) ?_
      exact R_sub [] rfl (J_73 0 σ hw)
  have J_46 : ∀ (l3 : Int32) (l4 : Int32) (l5 : Int32) (σ : VS), b_X0sharedOf_46 X8 Q l3 l4 l5 σ → WB p l e (({ frames := 0, cells := 0, slots := 0, locals := 0 } : Room)) s m (#[.ref (B 3), .int p1, .int p2]) below meth c (MQ below (va_Qi (fun r w => ∃ σ' : VS, Q r σ' ∧ w = wc E B σ') (AftU E A) A) (#[.ref (B 3), .int p1, .int p2]) s (({ frames := 0, cells := 0, slots := 0, locals := 0 } : Room)).cells (({ frames := 0, cells := 0, slots := 0, locals := 0 } : Room)).slots A) A E (wc E B) 6 46 [(0, .ref (B 3)), (3, .int l3), (4, .int l4), (5, .int l5)] [] σ := by
    intro l3 l4 l5 σ hw
    unfold b_X0sharedOf_46 at hw
    refine R_iinc (q := 3) (v := (l5 + 1)) (lv' := [(5, .int (l5 + 1)), (0, .ref (B 3)), (3, .int l3), (4, .int l4)]) F dX0_sharedOf_46 rfl rfl (by decide) rfl ?_
    refine R_goto (tgt := 8) F dX0_sharedOf_49 (by decide) ?_
    exact R_sub [1, 2, 3, 0] rfl (U_8 l3 l4 (l5 + 1) σ hw)
  have C_8 : ∀ (l3 : Int32) (l4 : Int32) (l5 : Int32) (σ : VS), b_X0sharedOf_8 X8 Q l3 l4 l5 σ → X8 l3 l4 l5 σ := by
    intro l3 l4 l5 σ hw
    unfold b_X0sharedOf_8 at hw
    rw [hX8]
    show WB p l e (({ frames := 0, cells := 0, slots := 0, locals := 0 } : Room)) s m (#[.ref (B 3), .int p1, .int p2]) below meth c (MQ below (va_Qi (fun r w => ∃ σ' : VS, Q r σ' ∧ w = wc E B σ') (AftU E A) A) (#[.ref (B 3), .int p1, .int p2]) s (({ frames := 0, cells := 0, slots := 0, locals := 0 } : Room)).cells (({ frames := 0, cells := 0, slots := 0, locals := 0 } : Room)).slots A) A E (wc E B) 6 8 [(0, .ref (B 3)), (3, .int l3), (4, .int l4), (5, .int l5)] [] σ
    refine R_iload F dX0_sharedOf_8 3 rfl ?_
    refine R_bipush F 40 dX0_sharedOf_10 (by decide) ?_
    refine R_icmp_ge (tgt := 52) F dX0_sharedOf_12 (by decide) (fun hc => ?_) (fun hc => ?_)
    · replace hw := hw.1 hc
      exact R_sub [0, 1] rfl (J_52 l3 σ hw)
    · replace hw := hw.2 hc
      refine R_iload_n F dX0_sharedOf_15 rfl 1 rfl ?_
      refine R_iload F dX0_sharedOf_16 2 rfl ?_
      refine R_icmp_eq (tgt := 52) F dX0_sharedOf_18 (by decide) (fun hc => ?_) (fun hc => ?_)
      · replace hw := hw.1 hc
        exact R_sub [0, 1] rfl (J_52 l3 σ hw)
      · replace hw := hw.2 hc
        refine R_iload_n F dX0_sharedOf_21 rfl 1 rfl ?_
        refine R_iload F dX0_sharedOf_22 2 rfl ?_
        refine R_icmp_le (tgt := 37) F dX0_sharedOf_24 (by decide) (fun hc => ?_) (fun hc => ?_)
        · replace hw := hw.1 hc
          refine R_aload_n F dX0_sharedOf_37 rfl 0 rfl ?_
          refine gc_RX0_15_3 F in_X0sharedOf dX0_sharedOf_38 ?_
          refine R_iload F dX0_sharedOf_41 2 rfl ?_
          refine R_ldi F qc_28 dX0_sharedOf_43 hw.1 ?_
          replace hw := hw.2
          refine R_topi (fun x1 ex1 => ?_)
          replace hw := hw x1 ex1
          refine R_istore (lv' := [(4, .int x1), (0, .ref (B 3)), (3, .int l3), (5, .int l5)]) F dX0_sharedOf_44 (by decide) rfl ?_
          exact R_sub [1, 2, 0, 3] rfl (J_46 l3 x1 l5 σ hw)
        · replace hw := hw.2 hc
          refine R_aload_n F dX0_sharedOf_27 rfl 0 rfl ?_
          refine gc_RX0_15_3 F in_X0sharedOf dX0_sharedOf_28 ?_
          refine R_iload_n F dX0_sharedOf_31 rfl 1 rfl ?_
          refine R_ldi F qc_28 dX0_sharedOf_32 hw.1 ?_
          replace hw := hw.2
          refine R_topi (fun x2 ex2 => ?_)
          replace hw := hw x2 ex2
          refine R_istore_n (lv' := [(3, .int x2), (0, .ref (B 3)), (4, .int l4), (5, .int l5)]) F dX0_sharedOf_33 rfl (by decide) rfl ?_
          refine R_goto (tgt := 46) F dX0_sharedOf_34 (by decide) ?_
          exact R_sub [1, 0, 2, 3] rfl (J_46 x2 l4 l5 σ hw)
  unfold wp_X0sharedOf at hw
  replace hw := hw X8 C_8
  refine R_iload_n F dX0_sharedOf_0 rfl 1 rfl ?_
  refine R_istore_n (lv' := [(3, .int p1), (0, .ref (B 3)), (1, .int p1), (2, .int p2)]) F dX0_sharedOf_1 rfl (by decide) rfl ?_
  refine R_iload_n F dX0_sharedOf_2 rfl 3 rfl ?_
  refine R_istore (lv' := [(4, .int p2), (3, .int p1), (0, .ref (B 3)), (1, .int p1), (2, .int p2)]) F dX0_sharedOf_3 (by decide) rfl ?_
  refine R_iconst F 0 dX0_sharedOf_5 (by decide) ?_
  refine R_istore (lv' := [(5, .int 0), (4, .int p2), (3, .int p1), (0, .ref (B 3)), (1, .int p1), (2, .int p2)]) F dX0_sharedOf_6 (by decide) rfl ?_
  exact R_sub [3, 2, 1, 0] rfl (U_8 p1 p2 0 σ hw)
def wp_X0addNode (Q : Int32 → VS → Prop) (p1 : Int32) (p2 : Int32) (p3 : Int32) (σ : VS) : Prop := (∀ x1 : Int32, x1 = (σ.1 5) → (In x1 20 ∧ wp_X0earlyOf (fun (r2 : Int32) (σ3 : VS) => (In x1 20 ∧ wp_X0lateOf (fun (r4 : Int32) (σ5 : VS) => (In x1 20 ∧ Q x1 (sa σ5 30 x1 (r4 + p3)))) p1 (sa σ3 29 x1 (r2 + p2)))) p1 (sa (sf σ 5 ((σ.1 5) + 1)) 28 x1 p1)))
theorem dX0_addNode_0 : decode cX0_addNode 0 = .ok (.aload_n 0, 1) := by decide +kernel
theorem dX0_addNode_1 : decode cX0_addNode 1 = .ok (.getfield 25, 3) := by decide +kernel
theorem dX0_addNode_4 : decode cX0_addNode 4 = .ok (.istore 4, 2) := by decide +kernel
theorem dX0_addNode_6 : decode cX0_addNode 6 = .ok (.aload_n 0, 1) := by decide +kernel
theorem dX0_addNode_7 : decode cX0_addNode 7 = .ok (.dup, 1) := by decide +kernel
theorem dX0_addNode_8 : decode cX0_addNode 8 = .ok (.getfield 25, 3) := by decide +kernel
theorem dX0_addNode_11 : decode cX0_addNode 11 = .ok (.iconst 1, 1) := by decide +kernel
theorem dX0_addNode_12 : decode cX0_addNode 12 = .ok (.iadd, 1) := by decide +kernel
theorem dX0_addNode_13 : decode cX0_addNode 13 = .ok (.putfield 25, 3) := by decide +kernel
theorem dX0_addNode_16 : decode cX0_addNode 16 = .ok (.aload_n 0, 1) := by decide +kernel
theorem dX0_addNode_17 : decode cX0_addNode 17 = .ok (.getfield 15, 3) := by decide +kernel
theorem dX0_addNode_20 : decode cX0_addNode 20 = .ok (.iload 4, 2) := by decide +kernel
theorem dX0_addNode_22 : decode cX0_addNode 22 = .ok (.iload_n 1, 1) := by decide +kernel
theorem dX0_addNode_23 : decode cX0_addNode 23 = .ok (.iastore, 1) := by decide +kernel
theorem dX0_addNode_24 : decode cX0_addNode 24 = .ok (.aload_n 0, 1) := by decide +kernel
theorem dX0_addNode_25 : decode cX0_addNode 25 = .ok (.getfield 19, 3) := by decide +kernel
theorem dX0_addNode_28 : decode cX0_addNode 28 = .ok (.iload 4, 2) := by decide +kernel
theorem dX0_addNode_30 : decode cX0_addNode 30 = .ok (.aload_n 0, 1) := by decide +kernel
theorem dX0_addNode_31 : decode cX0_addNode 31 = .ok (.iload_n 1, 1) := by decide +kernel
theorem dX0_addNode_32 : decode cX0_addNode 32 = .ok (.invokevirtual 28, 3) := by decide +kernel
theorem dX0_addNode_35 : decode cX0_addNode 35 = .ok (.iload_n 2, 1) := by decide +kernel
theorem dX0_addNode_36 : decode cX0_addNode 36 = .ok (.iadd, 1) := by decide +kernel
theorem dX0_addNode_37 : decode cX0_addNode 37 = .ok (.iastore, 1) := by decide +kernel
theorem dX0_addNode_38 : decode cX0_addNode 38 = .ok (.aload_n 0, 1) := by decide +kernel
theorem dX0_addNode_39 : decode cX0_addNode 39 = .ok (.getfield 22, 3) := by decide +kernel
theorem dX0_addNode_42 : decode cX0_addNode 42 = .ok (.iload 4, 2) := by decide +kernel
theorem dX0_addNode_44 : decode cX0_addNode 44 = .ok (.aload_n 0, 1) := by decide +kernel
theorem dX0_addNode_45 : decode cX0_addNode 45 = .ok (.iload_n 1, 1) := by decide +kernel
theorem dX0_addNode_46 : decode cX0_addNode 46 = .ok (.invokevirtual 32, 3) := by decide +kernel
theorem dX0_addNode_49 : decode cX0_addNode 49 = .ok (.iload_n 3, 1) := by decide +kernel
theorem dX0_addNode_50 : decode cX0_addNode 50 = .ok (.iadd, 1) := by decide +kernel
theorem dX0_addNode_51 : decode cX0_addNode 51 = .ok (.iastore, 1) := by decide +kernel
theorem dX0_addNode_52 : decode cX0_addNode 52 = .ok (.iload 4, 2) := by decide +kernel
theorem dX0_addNode_54 : decode cX0_addNode 54 = .ok (.ireturn, 1) := by decide +kernel
def wo_X0addNode : List Cond := [.code yX0_addNode cX0_addNode 5 (some .int), .methodLink RX0 28 yX0_earlyOf, .instanceMethod yX0_earlyOf, .selects RX0 yX0_earlyOf yX0_earlyOf, .initialized RX0, .methodLink RX0 32 yX0_lateOf, .instanceMethod yX0_lateOf, .selects RX0 yX0_lateOf yX0_lateOf]
def wr_X0addNode : List Cond := (wfC ++ (w_X0earlyOf ++ (w_X0lateOf ++ ([]))))
def w_X0addNode : List Cond := wo_X0addNode ++ wr_X0addNode
theorem wg_X0addNode : GW w_X0addNode := GW_app (GW_of (by decide +kernel)) (GW_app (wg_fC) (GW_app (wg_X0earlyOf) (GW_app (wg_X0lateOf) (GW_nil))))
theorem in_X0addNode : ∀ w ∈ wfC, w ∈ w_X0addNode := fun _ h => List.mem_append_right _ (List.mem_append_left _ h)
theorem g_X0addNode_X0earlyOf_28 : GoodIn w_X0addNode (wsV RX0 28 RX0 yX0_earlyOf w_X0earlyOf) := goodIn_app (gi_left (goodIn_of _ (by decide +kernel))) (fun w h => ⟨List.mem_append_right _ (List.mem_append_right _ (List.mem_append_left _ h)), wg_X0earlyOf w h⟩)
theorem g_X0addNode_X0lateOf_32 : GoodIn w_X0addNode (wsV RX0 32 RX0 yX0_lateOf w_X0lateOf) := goodIn_app (gi_left (goodIn_of _ (by decide +kernel))) (fun w h => ⟨List.mem_append_right _ (List.mem_append_right _ (List.mem_append_right _ (List.mem_append_left _ h))), wg_X0lateOf w h⟩)
set_option maxHeartbeats 4000000 in
set_option maxRecDepth 100000 in
theorem ct_X0addNode (l : Launch) (E : gE) (B : Nat → Nat) (Q : Int32 → VS → Prop) (p1 : Int32) (p2 : Int32) (p3 : Int32) (σ : VS) (hw : wp_X0addNode Q p1 p2 p3 σ) : CtI l E yX0_addNode w_X0addNode (({ frames := 1, cells := 0, slots := 0, locals := 21 } : Room)) (wc E B σ) [.ref (B 3), .int p1, .int p2, .int p3] (fun r w => ∃ σ' : VS, Q r σ' ∧ w = wc E B σ') := by
  refine VC_I (cc := cX0_addNode) (mL := 5) (rt := (some .int)) (lv0 := [(0, .ref (B 3)), (1, .int p1), (2, .int p2), (3, .int p3)]) rfl (by decide) rfl (Nat.le_of_ble_eq_true rfl) ?_
  intro p e s m below meth c A F
  replace F : Fx p s m _ meth c A E cX0_addNode 5 (some .int) RX0 w_X0addNode := F
  unfold wp_X0addNode at hw
  refine R_aload_n F dX0_addNode_0 rfl 0 rfl ?_
  refine gc_RX0_25_3 F in_X0addNode dX0_addNode_1 ?_
  refine R_topi (fun x1 ex1 => ?_)
  replace hw := hw x1 ex1
  refine R_istore (lv' := [(4, .int x1), (0, .ref (B 3)), (1, .int p1), (2, .int p2), (3, .int p3)]) F dX0_addNode_4 (by decide) rfl ?_
  refine R_aload_n F dX0_addNode_6 rfl 1 rfl ?_
  refine R_dup F dX0_addNode_7 rfl ?_
  refine gc_RX0_25_3 F in_X0addNode dX0_addNode_8 ?_
  refine R_iconst F 1 dX0_addNode_11 (by decide) ?_
  refine R_iadd F dX0_addNode_12 ?_
  refine pc_RX0_25_3 F in_X0addNode dX0_addNode_13 ?_
  refine R_aload_n F dX0_addNode_16 rfl 1 rfl ?_
  refine gc_RX0_15_3 F in_X0addNode dX0_addNode_17 ?_
  refine R_iload F dX0_addNode_20 0 rfl ?_
  refine R_iload_n F dX0_addNode_22 rfl 2 rfl ?_
  have hi := hw.1
  replace hw := hw.2
  refine R_sti F qc_28 uc_28 dX0_addNode_23 hi ?_
  refine R_aload_n F dX0_addNode_24 rfl 1 rfl ?_
  refine gc_RX0_19_3 F in_X0addNode dX0_addNode_25 ?_
  refine R_iload F dX0_addNode_28 0 rfl ?_
  refine R_aload_n F dX0_addNode_30 rfl 1 rfl ?_
  refine R_iload_n F dX0_addNode_31 rfl 2 rfl ?_
  refine R_callI (As := [.int p1]) (C := RX0) (q0 := 3) (ci := 0) (N := 5) (T := TX0) (fs := cf_3 B) F (ct_X0earlyOf l E B _ p1 _ hw) (cwV 1 F.2.2.2.2.2.2.2.2.2.2 g_X0addNode_X0earlyOf_28 rfl rfl rfl (by decide +kernel) ⟨Nat.le_of_ble_eq_true rfl, Nat.le_of_ble_eq_true rfl⟩) ⟨rfl, rfl⟩ rfl (fun _ => rfl) rfl rfl (Nat.le_of_ble_eq_true rfl) dX0_addNode_32 (fun r2 σ3 hw => ?_)
  refine R_iload_n F dX0_addNode_35 rfl 3 rfl ?_
  refine R_iadd F dX0_addNode_36 ?_
  have hi := hw.1
  replace hw := hw.2
  refine R_sti F qc_29 uc_29 dX0_addNode_37 hi ?_
  refine R_aload_n F dX0_addNode_38 rfl 1 rfl ?_
  refine gc_RX0_22_3 F in_X0addNode dX0_addNode_39 ?_
  refine R_iload F dX0_addNode_42 0 rfl ?_
  refine R_aload_n F dX0_addNode_44 rfl 1 rfl ?_
  refine R_iload_n F dX0_addNode_45 rfl 2 rfl ?_
  refine R_callI (As := [.int p1]) (C := RX0) (q0 := 3) (ci := 0) (N := 5) (T := TX0) (fs := cf_3 B) F (ct_X0lateOf l E B _ p1 _ hw) (cwV 1 F.2.2.2.2.2.2.2.2.2.2 g_X0addNode_X0lateOf_32 rfl rfl rfl (by decide +kernel) ⟨Nat.le_of_ble_eq_true rfl, Nat.le_of_ble_eq_true rfl⟩) ⟨rfl, rfl⟩ rfl (fun _ => rfl) rfl rfl (Nat.le_of_ble_eq_true rfl) dX0_addNode_46 (fun r4 σ5 hw => ?_)
  refine R_iload_n F dX0_addNode_49 rfl 4 rfl ?_
  refine R_iadd F dX0_addNode_50 ?_
  have hi := hw.1
  replace hw := hw.2
  refine R_sti F qc_30 uc_30 dX0_addNode_51 hi ?_
  refine R_iload F dX0_addNode_52 0 rfl ?_
  exact R_iret (Qc := Q) F rfl dX0_addNode_54 hw
