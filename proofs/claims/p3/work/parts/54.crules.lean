def wp_X3masks (Q : Int32 → VS → Prop) (σ : VS) : Prop := Q (1 <<< ((σ.1 6) &&& 31)) σ
theorem dX3_masks_0 : decode cX3_masks 0 = .ok (.iconst 1, 1) := by decide +kernel
theorem dX3_masks_1 : decode cX3_masks 1 = .ok (.aload_n 0, 1) := by decide +kernel
theorem dX3_masks_2 : decode cX3_masks 2 = .ok (.getfield 27, 3) := by decide +kernel
theorem dX3_masks_5 : decode cX3_masks 5 = .ok (.ishl, 1) := by decide +kernel
theorem dX3_masks_6 : decode cX3_masks 6 = .ok (.ireturn, 1) := by decide +kernel
def wo_X3masks : List Cond := [.code yX3_masks cX3_masks 1 (some .int)]
def wr_X3masks : List Cond := (wfC ++ ([]))
def w_X3masks : List Cond := wo_X3masks ++ wr_X3masks
theorem wg_X3masks : GW w_X3masks := GW_app (GW_of (by decide +kernel)) (GW_app (wg_fC) (GW_nil))
theorem in_X3masks : ∀ w ∈ wfC, w ∈ w_X3masks := fun _ h => List.mem_append_right _ (List.mem_append_left _ h)
set_option maxHeartbeats 4000000 in
set_option maxRecDepth 100000 in
theorem ct_X3masks (l : Launch) (E : gE) (B : Nat → Nat) (Q : Int32 → VS → Prop) (σ : VS) (hw : wp_X3masks Q σ) : CtI l E yX3_masks w_X3masks (({ frames := 0, cells := 0, slots := 0, locals := 0 } : Room)) (wc E B σ) [.ref (B 4)] (fun r w => ∃ σ' : VS, Q r σ' ∧ w = wc E B σ') := by
  refine VC_I (cc := cX3_masks) (mL := 1) (rt := (some .int)) (lv0 := [(0, .ref (B 4))]) rfl (by decide) rfl (Nat.le_of_ble_eq_true rfl) ?_
  intro p e s m below meth c A F
  replace F : Fx p s m _ meth c A E cX3_masks 1 (some .int) RX3 w_X3masks := F
  unfold wp_X3masks at hw
  refine R_iconst F 1 dX3_masks_0 (by decide) ?_
  refine R_aload_n F dX3_masks_1 rfl 0 rfl ?_
  refine gc_RX3_27_4 F in_X3masks dX3_masks_2 ?_
  refine R_ishl F dX3_masks_5 ?_
  exact R_iret (Qc := Q) F rfl dX3_masks_6 hw
def b_X3periodsOf_72 (X8 : Int32 → Int32 → Int32 → Int32 → VS → Prop) (Q : Int32 → VS → Prop) (l1 : Int32) (l2 : Int32) (l3 : Int32) (l4 : Int32) (k0 : Int32) (σ : VS) : Prop := ((k0.toInt = 0 → X8 l1 l2 l3 (l4 + (-1)) σ) ∧ (k0.toInt ≠ 0 → (In l4 4 ∧ Q (rd σ 31 l4) σ)))
def b_X3periodsOf_71 (X8 : Int32 → Int32 → Int32 → Int32 → VS → Prop) (Q : Int32 → VS → Prop) (l1 : Int32) (l2 : Int32) (l3 : Int32) (l4 : Int32) (σ : VS) : Prop := b_X3periodsOf_72 X8 Q l1 l2 l3 l4 0 σ
def b_X3periodsOf_67 (X8 : Int32 → Int32 → Int32 → Int32 → VS → Prop) (Q : Int32 → VS → Prop) (l1 : Int32) (l2 : Int32) (l3 : Int32) (l4 : Int32) (σ : VS) : Prop := b_X3periodsOf_72 X8 Q l1 l2 l3 l4 1 σ
def b_X3periodsOf_45 (X8 : Int32 → Int32 → Int32 → Int32 → VS → Prop) (Q : Int32 → VS → Prop) (l1 : Int32) (l2 : Int32) (l3 : Int32) (l4 : Int32) (σ : VS) : Prop := (In l4 4 ∧ (((rd σ 34 l4).toInt = (-1) → b_X3periodsOf_67 X8 Q l1 l2 l3 l4 σ) ∧ ((rd σ 34 l4).toInt ≠ (-1) → (In l4 4 ∧ (((rd σ 34 l4).toInt ≠ l2.toInt → b_X3periodsOf_71 X8 Q l1 l2 l3 l4 σ) ∧ ((rd σ 34 l4).toInt = l2.toInt → b_X3periodsOf_67 X8 Q l1 l2 l3 l4 σ))))))
def b_X3periodsOf_8 (X8 : Int32 → Int32 → Int32 → Int32 → VS → Prop) (Q : Int32 → VS → Prop) (l1 : Int32) (l2 : Int32) (l3 : Int32) (l4 : Int32) (σ : VS) : Prop := ((l4.toInt < 0 → Q 1 σ) ∧ (0 ≤ l4.toInt → ((((l3 >>> (l4 &&& 31)) &&& 1).toInt ≠ 1 → b_X3periodsOf_71 X8 Q l1 l2 l3 l4 σ) ∧ (((l3 >>> (l4 &&& 31)) &&& 1).toInt = 1 → (In l4 4 ∧ (((rd σ 32 l4).toInt = (-1) → b_X3periodsOf_45 X8 Q l1 l2 l3 l4 σ) ∧ ((rd σ 32 l4).toInt ≠ (-1) → (In l4 4 ∧ (((rd σ 32 l4).toInt ≠ l1.toInt → b_X3periodsOf_71 X8 Q l1 l2 l3 l4 σ) ∧ ((rd σ 32 l4).toInt = l1.toInt → b_X3periodsOf_45 X8 Q l1 l2 l3 l4 σ))))))))))
def wp_X3periodsOf (Q : Int32 → VS → Prop) (p1 : Int32) (p2 : Int32) (p3 : Int32) (σ : VS) : Prop := ∀ (X8 : Int32 → Int32 → Int32 → Int32 → VS → Prop), (∀ (l1 : Int32) (l2 : Int32) (l3 : Int32) (l4 : Int32) (σ : VS), b_X3periodsOf_8 X8 Q l1 l2 l3 l4 σ → X8 l1 l2 l3 l4 σ) → (∀ x1 : Int32, x1 = ((σ.1 6) - 1) → X8 p1 p2 p3 x1 σ)
theorem dX3_periodsOf_0 : decode cX3_periodsOf 0 = .ok (.aload_n 0, 1) := by decide +kernel
theorem dX3_periodsOf_1 : decode cX3_periodsOf 1 = .ok (.getfield 27, 3) := by decide +kernel
theorem dX3_periodsOf_4 : decode cX3_periodsOf 4 = .ok (.iconst 1, 1) := by decide +kernel
theorem dX3_periodsOf_5 : decode cX3_periodsOf 5 = .ok (.isub, 1) := by decide +kernel
theorem dX3_periodsOf_6 : decode cX3_periodsOf 6 = .ok (.istore 4, 2) := by decide +kernel
theorem dX3_periodsOf_8 : decode cX3_periodsOf 8 = .ok (.iload 4, 2) := by decide +kernel
theorem dX3_periodsOf_10 : decode cX3_periodsOf 10 = .ok (.ifCond .lt 83, 3) := by decide +kernel
theorem dX3_periodsOf_93 : decode cX3_periodsOf 93 = .ok (.iconst 1, 1) := by decide +kernel
theorem dX3_periodsOf_94 : decode cX3_periodsOf 94 = .ok (.ireturn, 1) := by decide +kernel
theorem dX3_periodsOf_13 : decode cX3_periodsOf 13 = .ok (.iload_n 3, 1) := by decide +kernel
theorem dX3_periodsOf_14 : decode cX3_periodsOf 14 = .ok (.iload 4, 2) := by decide +kernel
theorem dX3_periodsOf_16 : decode cX3_periodsOf 16 = .ok (.ishr, 1) := by decide +kernel
theorem dX3_periodsOf_17 : decode cX3_periodsOf 17 = .ok (.iconst 1, 1) := by decide +kernel
theorem dX3_periodsOf_18 : decode cX3_periodsOf 18 = .ok (.iand, 1) := by decide +kernel
theorem dX3_periodsOf_19 : decode cX3_periodsOf 19 = .ok (.iconst 1, 1) := by decide +kernel
theorem dX3_periodsOf_20 : decode cX3_periodsOf 20 = .ok (.if_icmp .ne 51, 3) := by decide +kernel
theorem dX3_periodsOf_23 : decode cX3_periodsOf 23 = .ok (.aload_n 0, 1) := by decide +kernel
theorem dX3_periodsOf_24 : decode cX3_periodsOf 24 = .ok (.getfield 15, 3) := by decide +kernel
theorem dX3_periodsOf_27 : decode cX3_periodsOf 27 = .ok (.iload 4, 2) := by decide +kernel
theorem dX3_periodsOf_29 : decode cX3_periodsOf 29 = .ok (.iaload, 1) := by decide +kernel
theorem dX3_periodsOf_30 : decode cX3_periodsOf 30 = .ok (.iconst (-1), 1) := by decide +kernel
theorem dX3_periodsOf_31 : decode cX3_periodsOf 31 = .ok (.if_icmp .eq 14, 3) := by decide +kernel
theorem dX3_periodsOf_34 : decode cX3_periodsOf 34 = .ok (.aload_n 0, 1) := by decide +kernel
theorem dX3_periodsOf_35 : decode cX3_periodsOf 35 = .ok (.getfield 15, 3) := by decide +kernel
theorem dX3_periodsOf_38 : decode cX3_periodsOf 38 = .ok (.iload 4, 2) := by decide +kernel
theorem dX3_periodsOf_40 : decode cX3_periodsOf 40 = .ok (.iaload, 1) := by decide +kernel
theorem dX3_periodsOf_41 : decode cX3_periodsOf 41 = .ok (.iload_n 1, 1) := by decide +kernel
theorem dX3_periodsOf_42 : decode cX3_periodsOf 42 = .ok (.if_icmp .ne 29, 3) := by decide +kernel
theorem dX3_periodsOf_71 : decode cX3_periodsOf 71 = .ok (.iconst 0, 1) := by decide +kernel
theorem dX3_periodsOf_45 : decode cX3_periodsOf 45 = .ok (.aload_n 0, 1) := by decide +kernel
theorem dX3_periodsOf_46 : decode cX3_periodsOf 46 = .ok (.getfield 21, 3) := by decide +kernel
theorem dX3_periodsOf_49 : decode cX3_periodsOf 49 = .ok (.iload 4, 2) := by decide +kernel
theorem dX3_periodsOf_51 : decode cX3_periodsOf 51 = .ok (.iaload, 1) := by decide +kernel
theorem dX3_periodsOf_52 : decode cX3_periodsOf 52 = .ok (.iconst (-1), 1) := by decide +kernel
theorem dX3_periodsOf_53 : decode cX3_periodsOf 53 = .ok (.if_icmp .eq 14, 3) := by decide +kernel
theorem dX3_periodsOf_56 : decode cX3_periodsOf 56 = .ok (.aload_n 0, 1) := by decide +kernel
theorem dX3_periodsOf_57 : decode cX3_periodsOf 57 = .ok (.getfield 21, 3) := by decide +kernel
theorem dX3_periodsOf_60 : decode cX3_periodsOf 60 = .ok (.iload 4, 2) := by decide +kernel
theorem dX3_periodsOf_62 : decode cX3_periodsOf 62 = .ok (.iaload, 1) := by decide +kernel
theorem dX3_periodsOf_63 : decode cX3_periodsOf 63 = .ok (.iload_n 2, 1) := by decide +kernel
theorem dX3_periodsOf_64 : decode cX3_periodsOf 64 = .ok (.if_icmp .ne 7, 3) := by decide +kernel
theorem dX3_periodsOf_72 : decode cX3_periodsOf 72 = .ok (.istore 5, 2) := by decide +kernel
theorem dX3_periodsOf_74 : decode cX3_periodsOf 74 = .ok (.iload 5, 2) := by decide +kernel
theorem dX3_periodsOf_76 : decode cX3_periodsOf 76 = .ok (.ifCond .eq 11, 3) := by decide +kernel
theorem dX3_periodsOf_87 : decode cX3_periodsOf 87 = .ok (.iinc 4 (-1), 3) := by decide +kernel
theorem dX3_periodsOf_90 : decode cX3_periodsOf 90 = .ok (.goto (-82), 3) := by decide +kernel
theorem dX3_periodsOf_79 : decode cX3_periodsOf 79 = .ok (.aload_n 0, 1) := by decide +kernel
theorem dX3_periodsOf_80 : decode cX3_periodsOf 80 = .ok (.getfield 9, 3) := by decide +kernel
theorem dX3_periodsOf_83 : decode cX3_periodsOf 83 = .ok (.iload 4, 2) := by decide +kernel
theorem dX3_periodsOf_85 : decode cX3_periodsOf 85 = .ok (.iaload, 1) := by decide +kernel
theorem dX3_periodsOf_86 : decode cX3_periodsOf 86 = .ok (.ireturn, 1) := by decide +kernel
theorem dX3_periodsOf_67 : decode cX3_periodsOf 67 = .ok (.iconst 1, 1) := by decide +kernel
theorem dX3_periodsOf_68 : decode cX3_periodsOf 68 = .ok (.goto 4, 3) := by decide +kernel
def wo_X3periodsOf : List Cond := [.code yX3_periodsOf cX3_periodsOf 6 (some .int)]
def wr_X3periodsOf : List Cond := (wfC ++ ([]))
def w_X3periodsOf : List Cond := wo_X3periodsOf ++ wr_X3periodsOf
theorem wg_X3periodsOf : GW w_X3periodsOf := GW_app (GW_of (by decide +kernel)) (GW_app (wg_fC) (GW_nil))
theorem in_X3periodsOf : ∀ w ∈ wfC, w ∈ w_X3periodsOf := fun _ h => List.mem_append_right _ (List.mem_append_left _ h)
set_option maxHeartbeats 4000000 in
set_option maxRecDepth 100000 in
theorem ct_X3periodsOf (l : Launch) (E : gE) (B : Nat → Nat) (Q : Int32 → VS → Prop) (p1 : Int32) (p2 : Int32) (p3 : Int32) (σ : VS) (hw : wp_X3periodsOf Q p1 p2 p3 σ) : CtI l E yX3_periodsOf w_X3periodsOf (({ frames := 0, cells := 0, slots := 0, locals := 0 } : Room)) (wc E B σ) [.ref (B 4), .int p1, .int p2, .int p3] (fun r w => ∃ σ' : VS, Q r σ' ∧ w = wc E B σ') := by
  refine VC_I (cc := cX3_periodsOf) (mL := 6) (rt := (some .int)) (lv0 := [(0, .ref (B 4)), (1, .int p1), (2, .int p2), (3, .int p3)]) rfl (by decide) rfl (Nat.le_of_ble_eq_true rfl) ?_
  intro p e s m below meth c A F
  replace F : Fx p s m _ meth c A E cX3_periodsOf 6 (some .int) RX3 w_X3periodsOf := F
  obtain ⟨X8, hX8⟩ : ∃ X : Int32 → Int32 → Int32 → Int32 → VS → Prop, X = fun l1 l2 l3 l4 σ => WB p l e (({ frames := 0, cells := 0, slots := 0, locals := 0 } : Room)) s m (#[.ref (B 4), .int p1, .int p2, .int p3]) below meth c (MQ below (va_Qi (fun r w => ∃ σ' : VS, Q r σ' ∧ w = wc E B σ') (AftU E A) A) (#[.ref (B 4), .int p1, .int p2, .int p3]) s (({ frames := 0, cells := 0, slots := 0, locals := 0 } : Room)).cells (({ frames := 0, cells := 0, slots := 0, locals := 0 } : Room)).slots A) A E (wc E B) 6 8 [(0, .ref (B 4)), (1, .int l1), (2, .int l2), (3, .int l3), (4, .int l4)] [] σ := ⟨_, rfl⟩
  have U_8 : ∀ (l1 : Int32) (l2 : Int32) (l3 : Int32) (l4 : Int32) (σ : VS), X8 l1 l2 l3 l4 σ → WB p l e (({ frames := 0, cells := 0, slots := 0, locals := 0 } : Room)) s m (#[.ref (B 4), .int p1, .int p2, .int p3]) below meth c (MQ below (va_Qi (fun r w => ∃ σ' : VS, Q r σ' ∧ w = wc E B σ') (AftU E A) A) (#[.ref (B 4), .int p1, .int p2, .int p3]) s (({ frames := 0, cells := 0, slots := 0, locals := 0 } : Room)).cells (({ frames := 0, cells := 0, slots := 0, locals := 0 } : Room)).slots A) A E (wc E B) 6 8 [(0, .ref (B 4)), (1, .int l1), (2, .int l2), (3, .int l3), (4, .int l4)] [] σ := by
    intro l1 l2 l3 l4 σ hw; rw [hX8] at hw; exact hw
  have J_72 : ∀ (l1 : Int32) (l2 : Int32) (l3 : Int32) (l4 : Int32) (k0 : Int32) (σ : VS), b_X3periodsOf_72 X8 Q l1 l2 l3 l4 k0 σ → WB p l e (({ frames := 0, cells := 0, slots := 0, locals := 0 } : Room)) s m (#[.ref (B 4), .int p1, .int p2, .int p3]) below meth c (MQ below (va_Qi (fun r w => ∃ σ' : VS, Q r σ' ∧ w = wc E B σ') (AftU E A) A) (#[.ref (B 4), .int p1, .int p2, .int p3]) s (({ frames := 0, cells := 0, slots := 0, locals := 0 } : Room)).cells (({ frames := 0, cells := 0, slots := 0, locals := 0 } : Room)).slots A) A E (wc E B) 6 72 [(0, .ref (B 4)), (1, .int l1), (2, .int l2), (3, .int l3), (4, .int l4)] [.int k0] σ := by
    intro l1 l2 l3 l4 k0 σ hw
    unfold b_X3periodsOf_72 at hw
    refine R_istore (lv' := [(5, .int k0), (0, .ref (B 4)), (1, .int l1), (2, .int l2), (3, .int l3), (4, .int l4)]) F dX3_periodsOf_72 (by decide) rfl ?_
    refine R_iload F dX3_periodsOf_74 0 rfl ?_
    refine R_if_eq (tgt := 87) F dX3_periodsOf_76 (by decide) (fun hc => ?_) (fun hc => ?_)
    · replace hw := hw.1 hc
      refine R_iinc (q := 5) (v := (l4 + (-1))) (lv' := [(4, .int (l4 + (-1))), (5, .int k0), (0, .ref (B 4)), (1, .int l1), (2, .int l2), (3, .int l3)]) F dX3_periodsOf_87 rfl rfl (by decide) rfl ?_
      refine R_goto (tgt := 8) F dX3_periodsOf_90 (by decide) ?_
      exact R_sub [2, 3, 4, 5, 0] rfl (U_8 l1 l2 l3 (l4 + (-1)) σ hw)
    · replace hw := hw.2 hc
      refine R_aload_n F dX3_periodsOf_79 rfl 1 rfl ?_
      refine gc_RX3_9_4 F in_X3periodsOf dX3_periodsOf_80 ?_
      refine R_iload F dX3_periodsOf_83 5 rfl ?_
      refine R_ldi F qc_31 dX3_periodsOf_85 hw.1 ?_
      replace hw := hw.2
      exact R_iret (Qc := Q) F rfl dX3_periodsOf_86 hw
  have J_71 : ∀ (l1 : Int32) (l2 : Int32) (l3 : Int32) (l4 : Int32) (σ : VS), b_X3periodsOf_71 X8 Q l1 l2 l3 l4 σ → WB p l e (({ frames := 0, cells := 0, slots := 0, locals := 0 } : Room)) s m (#[.ref (B 4), .int p1, .int p2, .int p3]) below meth c (MQ below (va_Qi (fun r w => ∃ σ' : VS, Q r σ' ∧ w = wc E B σ') (AftU E A) A) (#[.ref (B 4), .int p1, .int p2, .int p3]) s (({ frames := 0, cells := 0, slots := 0, locals := 0 } : Room)).cells (({ frames := 0, cells := 0, slots := 0, locals := 0 } : Room)).slots A) A E (wc E B) 6 71 [(0, .ref (B 4)), (1, .int l1), (2, .int l2), (3, .int l3), (4, .int l4)] [] σ := by
    intro l1 l2 l3 l4 σ hw
    unfold b_X3periodsOf_71 at hw
    refine R_iconst F 0 dX3_periodsOf_71 (by decide) ?_
    exact R_sub [0, 1, 2, 3, 4] rfl (J_72 l1 l2 l3 l4 0 σ hw)
  have J_67 : ∀ (l1 : Int32) (l2 : Int32) (l3 : Int32) (l4 : Int32) (σ : VS), b_X3periodsOf_67 X8 Q l1 l2 l3 l4 σ → WB p l e (({ frames := 0, cells := 0, slots := 0, locals := 0 } : Room)) s m (#[.ref (B 4), .int p1, .int p2, .int p3]) below meth c (MQ below (va_Qi (fun r w => ∃ σ' : VS, Q r σ' ∧ w = wc E B σ') (AftU E A) A) (#[.ref (B 4), .int p1, .int p2, .int p3]) s (({ frames := 0, cells := 0, slots := 0, locals := 0 } : Room)).cells (({ frames := 0, cells := 0, slots := 0, locals := 0 } : Room)).slots A) A E (wc E B) 6 67 [(0, .ref (B 4)), (1, .int l1), (2, .int l2), (3, .int l3), (4, .int l4)] [] σ := by
    intro l1 l2 l3 l4 σ hw
    unfold b_X3periodsOf_67 at hw
    refine R_iconst F 1 dX3_periodsOf_67 (by decide) ?_
    refine R_goto (tgt := 72) F dX3_periodsOf_68 (by decide) ?_
    exact R_sub [0, 1, 2, 3, 4] rfl (J_72 l1 l2 l3 l4 1 σ hw)
  have J_45 : ∀ (l1 : Int32) (l2 : Int32) (l3 : Int32) (l4 : Int32) (σ : VS), b_X3periodsOf_45 X8 Q l1 l2 l3 l4 σ → WB p l e (({ frames := 0, cells := 0, slots := 0, locals := 0 } : Room)) s m (#[.ref (B 4), .int p1, .int p2, .int p3]) below meth c (MQ below (va_Qi (fun r w => ∃ σ' : VS, Q r σ' ∧ w = wc E B σ') (AftU E A) A) (#[.ref (B 4), .int p1, .int p2, .int p3]) s (({ frames := 0, cells := 0, slots := 0, locals := 0 } : Room)).cells (({ frames := 0, cells := 0, slots := 0, locals := 0 } : Room)).slots A) A E (wc E B) 6 45 [(0, .ref (B 4)), (1, .int l1), (2, .int l2), (3, .int l3), (4, .int l4)] [] σ := by
    intro l1 l2 l3 l4 σ hw
    unfold b_X3periodsOf_45 at hw
    refine R_aload_n F dX3_periodsOf_45 rfl 0 rfl ?_
    refine gc_RX3_21_4 F in_X3periodsOf dX3_periodsOf_46 ?_
    refine R_iload F dX3_periodsOf_49 4 rfl ?_
    refine R_ldi F qc_34 dX3_periodsOf_51 hw.1 ?_
    replace hw := hw.2
    refine R_iconst F (-1) dX3_periodsOf_52 (by decide) ?_
    refine R_icmp_eq (tgt := 67) F dX3_periodsOf_53 (by decide) (fun hc => ?_) (fun hc => ?_)
    · replace hw := hw.1 hc
      exact R_sub [0, 1, 2, 3, 4] rfl (J_67 l1 l2 l3 l4 σ hw)
    · replace hw := hw.2 hc
      refine R_aload_n F dX3_periodsOf_56 rfl 0 rfl ?_
      refine gc_RX3_21_4 F in_X3periodsOf dX3_periodsOf_57 ?_
      refine R_iload F dX3_periodsOf_60 4 rfl ?_
      refine R_ldi F qc_34 dX3_periodsOf_62 hw.1 ?_
      replace hw := hw.2
      refine R_iload_n F dX3_periodsOf_63 rfl 2 rfl ?_
      refine R_icmp_ne (tgt := 71) F dX3_periodsOf_64 (by decide) (fun hc => ?_) (fun hc => ?_)
      · replace hw := hw.1 hc
        exact R_sub [0, 1, 2, 3, 4] rfl (J_71 l1 l2 l3 l4 σ hw)
      · replace hw := hw.2 hc
        exact R_sub [0, 1, 2, 3, 4] rfl (J_67 l1 l2 l3 l4 σ hw)
  have C_8 : ∀ (l1 : Int32) (l2 : Int32) (l3 : Int32) (l4 : Int32) (σ : VS), b_X3periodsOf_8 X8 Q l1 l2 l3 l4 σ → X8 l1 l2 l3 l4 σ := by
    intro l1 l2 l3 l4 σ hw
    unfold b_X3periodsOf_8 at hw
    rw [hX8]
    show WB p l e (({ frames := 0, cells := 0, slots := 0, locals := 0 } : Room)) s m (#[.ref (B 4), .int p1, .int p2, .int p3]) below meth c (MQ below (va_Qi (fun r w => ∃ σ' : VS, Q r σ' ∧ w = wc E B σ') (AftU E A) A) (#[.ref (B 4), .int p1, .int p2, .int p3]) s (({ frames := 0, cells := 0, slots := 0, locals := 0 } : Room)).cells (({ frames := 0, cells := 0, slots := 0, locals := 0 } : Room)).slots A) A E (wc E B) 6 8 [(0, .ref (B 4)), (1, .int l1), (2, .int l2), (3, .int l3), (4, .int l4)] [] σ
    refine R_iload F dX3_periodsOf_8 4 rfl ?_
    refine R_if_lt (tgt := 93) F dX3_periodsOf_10 (by decide) (fun hc => ?_) (fun hc => ?_)
    · replace hw := hw.1 hc
      refine R_iconst F 1 dX3_periodsOf_93 (by decide) ?_
      exact R_iret (Qc := Q) F rfl dX3_periodsOf_94 hw
    · replace hw := hw.2 hc
      refine R_iload_n F dX3_periodsOf_13 rfl 3 rfl ?_
      refine R_iload F dX3_periodsOf_14 4 rfl ?_
      refine R_ishr F dX3_periodsOf_16 ?_
      refine R_iconst F 1 dX3_periodsOf_17 (by decide) ?_
      refine R_iand F dX3_periodsOf_18 ?_
      refine R_iconst F 1 dX3_periodsOf_19 (by decide) ?_
      refine R_icmp_ne (tgt := 71) F dX3_periodsOf_20 (by decide) (fun hc => ?_) (fun hc => ?_)
      · replace hw := hw.1 hc
        exact R_sub [0, 1, 2, 3, 4] rfl (J_71 l1 l2 l3 l4 σ hw)
      · replace hw := hw.2 hc
        refine R_aload_n F dX3_periodsOf_23 rfl 0 rfl ?_
        refine gc_RX3_15_4 F in_X3periodsOf dX3_periodsOf_24 ?_
        refine R_iload F dX3_periodsOf_27 4 rfl ?_
        refine R_ldi F qc_32 dX3_periodsOf_29 hw.1 ?_
        replace hw := hw.2
        refine R_iconst F (-1) dX3_periodsOf_30 (by decide) ?_
        refine R_icmp_eq (tgt := 45) F dX3_periodsOf_31 (by decide) (fun hc => ?_) (fun hc => ?_)
        · replace hw := hw.1 hc
          exact R_sub [0, 1, 2, 3, 4] rfl (J_45 l1 l2 l3 l4 σ hw)
        · replace hw := hw.2 hc
          refine R_aload_n F dX3_periodsOf_34 rfl 0 rfl ?_
          refine gc_RX3_15_4 F in_X3periodsOf dX3_periodsOf_35 ?_
          refine R_iload F dX3_periodsOf_38 4 rfl ?_
          refine R_ldi F qc_32 dX3_periodsOf_40 hw.1 ?_
          replace hw := hw.2
          refine R_iload_n F dX3_periodsOf_41 rfl 1 rfl ?_
          refine R_icmp_ne (tgt := 71) F dX3_periodsOf_42 (by decide) (fun hc => ?_) (fun hc => ?_)
          · replace hw := hw.1 hc
            exact R_sub [0, 1, 2, 3, 4] rfl (J_71 l1 l2 l3 l4 σ hw)
          · replace hw := hw.2 hc
            exact R_sub [0, 1, 2, 3, 4] rfl (J_45 l1 l2 l3 l4 σ hw)
  unfold wp_X3periodsOf at hw
  replace hw := hw X8 C_8
  refine R_aload_n F dX3_periodsOf_0 rfl 0 rfl ?_
  refine gc_RX3_27_4 F in_X3periodsOf dX3_periodsOf_1 ?_
  refine R_iconst F 1 dX3_periodsOf_4 (by decide) ?_
  refine R_isub F dX3_periodsOf_5 ?_
  refine R_topi (fun x1 ex1 => ?_)
  replace hw := hw x1 ex1
  refine R_istore (lv' := [(4, .int x1), (0, .ref (B 4)), (1, .int p1), (2, .int p2), (3, .int p3)]) F dX3_periodsOf_6 (by decide) rfl ?_
  exact R_sub [1, 2, 3, 4, 0] rfl (U_8 p1 p2 p3 x1 σ hw)
def b_X3spreadBits_57 (X2 : Int32 → VS → Prop) (X17 : Int32 → Int32 → VS → Prop) (Q : VS → Prop) (l1 : Int32) (l2 : Int32) (σ : VS) : Prop := X17 l1 (l2 + 1) σ
def b_X3spreadBits_45 (X2 : Int32 → VS → Prop) (X17 : Int32 → Int32 → VS → Prop) (Q : VS → Prop) (l1 : Int32) (l2 : Int32) (σ : VS) : Prop := (In l1 50 ∧ (In l1 50 ∧ b_X3spreadBits_57 X2 X17 Q l1 l2 (sa σ 35 l1 ((rd σ 35 l1) ||| (1 <<< (l2 &&& 31))))))
def b_X3spreadBits_17 (X2 : Int32 → VS → Prop) (X17 : Int32 → Int32 → VS → Prop) (Q : VS → Prop) (l1 : Int32) (l2 : Int32) (σ : VS) : Prop := (((σ.1 6).toInt ≤ l2.toInt → X2 (l1 + 1) σ) ∧ (l2.toInt < (σ.1 6).toInt → (In l2 4 ∧ (((rd σ 33 l2).toInt = (-1) → b_X3spreadBits_45 X2 X17 Q l1 l2 σ) ∧ ((rd σ 33 l2).toInt ≠ (-1) → (In l2 4 ∧ (((rd σ 33 l2).toInt ≠ l1.toInt → b_X3spreadBits_57 X2 X17 Q l1 l2 σ) ∧ ((rd σ 33 l2).toInt = l1.toInt → b_X3spreadBits_45 X2 X17 Q l1 l2 σ))))))))
def b_X3spreadBits_2 (X2 : Int32 → VS → Prop) (X17 : Int32 → Int32 → VS → Prop) (Q : VS → Prop) (l1 : Int32) (σ : VS) : Prop := ((50 ≤ l1.toInt → Q σ) ∧ (l1.toInt < 50 → (In l1 50 ∧ X17 l1 0 (sa σ 35 l1 0))))
def wp_X3spreadBits (Q : VS → Prop) (σ : VS) : Prop := ∀ (X2 : Int32 → VS → Prop) (X17 : Int32 → Int32 → VS → Prop), (∀ (l1 : Int32) (σ : VS), b_X3spreadBits_2 X2 X17 Q l1 σ → X2 l1 σ) → (∀ (l1 : Int32) (l2 : Int32) (σ : VS), b_X3spreadBits_17 X2 X17 Q l1 l2 σ → X17 l1 l2 σ) → X2 0 σ
theorem dX3_spreadBits_0 : decode cX3_spreadBits 0 = .ok (.iconst 0, 1) := by decide +kernel
theorem dX3_spreadBits_1 : decode cX3_spreadBits 1 = .ok (.istore_n 1, 1) := by decide +kernel
theorem dX3_spreadBits_2 : decode cX3_spreadBits 2 = .ok (.iload_n 1, 1) := by decide +kernel
theorem dX3_spreadBits_3 : decode cX3_spreadBits 3 = .ok (.bipush 50, 2) := by decide +kernel
theorem dX3_spreadBits_5 : decode cX3_spreadBits 5 = .ok (.if_icmp .ge 64, 3) := by decide +kernel
theorem dX3_spreadBits_69 : decode cX3_spreadBits 69 = .ok (.return_, 1) := by decide +kernel
theorem dX3_spreadBits_8 : decode cX3_spreadBits 8 = .ok (.aload_n 0, 1) := by decide +kernel
theorem dX3_spreadBits_9 : decode cX3_spreadBits 9 = .ok (.getfield 24, 3) := by decide +kernel
theorem dX3_spreadBits_12 : decode cX3_spreadBits 12 = .ok (.iload_n 1, 1) := by decide +kernel
theorem dX3_spreadBits_13 : decode cX3_spreadBits 13 = .ok (.iconst 0, 1) := by decide +kernel
theorem dX3_spreadBits_14 : decode cX3_spreadBits 14 = .ok (.iastore, 1) := by decide +kernel
theorem dX3_spreadBits_15 : decode cX3_spreadBits 15 = .ok (.iconst 0, 1) := by decide +kernel
theorem dX3_spreadBits_16 : decode cX3_spreadBits 16 = .ok (.istore_n 2, 1) := by decide +kernel
theorem dX3_spreadBits_17 : decode cX3_spreadBits 17 = .ok (.iload_n 2, 1) := by decide +kernel
theorem dX3_spreadBits_18 : decode cX3_spreadBits 18 = .ok (.aload_n 0, 1) := by decide +kernel
theorem dX3_spreadBits_19 : decode cX3_spreadBits 19 = .ok (.getfield 27, 3) := by decide +kernel
theorem dX3_spreadBits_22 : decode cX3_spreadBits 22 = .ok (.if_icmp .ge 41, 3) := by decide +kernel
theorem dX3_spreadBits_63 : decode cX3_spreadBits 63 = .ok (.iinc 1 1, 3) := by decide +kernel
theorem dX3_spreadBits_66 : decode cX3_spreadBits 66 = .ok (.goto (-64), 3) := by decide +kernel
theorem dX3_spreadBits_25 : decode cX3_spreadBits 25 = .ok (.aload_n 0, 1) := by decide +kernel
theorem dX3_spreadBits_26 : decode cX3_spreadBits 26 = .ok (.getfield 18, 3) := by decide +kernel
theorem dX3_spreadBits_29 : decode cX3_spreadBits 29 = .ok (.iload_n 2, 1) := by decide +kernel
theorem dX3_spreadBits_30 : decode cX3_spreadBits 30 = .ok (.iaload, 1) := by decide +kernel
theorem dX3_spreadBits_31 : decode cX3_spreadBits 31 = .ok (.iconst (-1), 1) := by decide +kernel
theorem dX3_spreadBits_32 : decode cX3_spreadBits 32 = .ok (.if_icmp .eq 13, 3) := by decide +kernel
theorem dX3_spreadBits_35 : decode cX3_spreadBits 35 = .ok (.aload_n 0, 1) := by decide +kernel
theorem dX3_spreadBits_36 : decode cX3_spreadBits 36 = .ok (.getfield 18, 3) := by decide +kernel
theorem dX3_spreadBits_39 : decode cX3_spreadBits 39 = .ok (.iload_n 2, 1) := by decide +kernel
theorem dX3_spreadBits_40 : decode cX3_spreadBits 40 = .ok (.iaload, 1) := by decide +kernel
theorem dX3_spreadBits_41 : decode cX3_spreadBits 41 = .ok (.iload_n 1, 1) := by decide +kernel
theorem dX3_spreadBits_42 : decode cX3_spreadBits 42 = .ok (.if_icmp .ne 15, 3) := by decide +kernel
theorem dX3_spreadBits_45 : decode cX3_spreadBits 45 = .ok (.aload_n 0, 1) := by decide +kernel
theorem dX3_spreadBits_46 : decode cX3_spreadBits 46 = .ok (.getfield 24, 3) := by decide +kernel
theorem dX3_spreadBits_49 : decode cX3_spreadBits 49 = .ok (.iload_n 1, 1) := by decide +kernel
theorem dX3_spreadBits_50 : decode cX3_spreadBits 50 = .ok (.dup2, 1) := by decide +kernel
theorem dX3_spreadBits_51 : decode cX3_spreadBits 51 = .ok (.iaload, 1) := by decide +kernel
theorem dX3_spreadBits_52 : decode cX3_spreadBits 52 = .ok (.iconst 1, 1) := by decide +kernel
theorem dX3_spreadBits_53 : decode cX3_spreadBits 53 = .ok (.iload_n 2, 1) := by decide +kernel
theorem dX3_spreadBits_54 : decode cX3_spreadBits 54 = .ok (.ishl, 1) := by decide +kernel
theorem dX3_spreadBits_55 : decode cX3_spreadBits 55 = .ok (.ior, 1) := by decide +kernel
theorem dX3_spreadBits_56 : decode cX3_spreadBits 56 = .ok (.iastore, 1) := by decide +kernel
theorem dX3_spreadBits_57 : decode cX3_spreadBits 57 = .ok (.iinc 2 1, 3) := by decide +kernel
theorem dX3_spreadBits_60 : decode cX3_spreadBits 60 = .ok (.goto (-43), 3) := by decide +kernel
def wo_X3spreadBits : List Cond := [.code yX3_spreadBits cX3_spreadBits 3 none]
def wr_X3spreadBits : List Cond := (wfC ++ ([]))
def w_X3spreadBits : List Cond := wo_X3spreadBits ++ wr_X3spreadBits
theorem wg_X3spreadBits : GW w_X3spreadBits := GW_app (GW_of (by decide +kernel)) (GW_app (wg_fC) (GW_nil))
theorem in_X3spreadBits : ∀ w ∈ wfC, w ∈ w_X3spreadBits := fun _ h => List.mem_append_right _ (List.mem_append_left _ h)
set_option maxHeartbeats 4000000 in
set_option maxRecDepth 100000 in
theorem ct_X3spreadBits (l : Launch) (E : gE) (B : Nat → Nat) (Q : VS → Prop) (σ : VS) (hw : wp_X3spreadBits Q σ) : CtV l E yX3_spreadBits w_X3spreadBits (({ frames := 0, cells := 0, slots := 0, locals := 0 } : Room)) (wc E B σ) [.ref (B 4)] (fun w => ∃ σ' : VS, Q σ' ∧ w = wc E B σ') := by
  refine VC_V (cc := cX3_spreadBits) (mL := 3) (rt := none) (lv0 := [(0, .ref (B 4))]) rfl (by decide) rfl (Nat.le_of_ble_eq_true rfl) ?_
  intro p e s m below meth c A F
  replace F : Fx p s m _ meth c A E cX3_spreadBits 3 none RX3 w_X3spreadBits := F
  obtain ⟨X2, hX2⟩ : ∃ X : Int32 → VS → Prop, X = fun l1 σ => WB p l e (({ frames := 0, cells := 0, slots := 0, locals := 0 } : Room)) s m (#[.ref (B 4)]) below meth c (MQ below (va_Qv (fun w => ∃ σ' : VS, Q σ' ∧ w = wc E B σ') (AftU E A) A) (#[.ref (B 4)]) s (({ frames := 0, cells := 0, slots := 0, locals := 0 } : Room)).cells (({ frames := 0, cells := 0, slots := 0, locals := 0 } : Room)).slots A) A E (wc E B) 3 2 [(0, .ref (B 4)), (1, .int l1)] [] σ := ⟨_, rfl⟩
  have U_2 : ∀ (l1 : Int32) (σ : VS), X2 l1 σ → WB p l e (({ frames := 0, cells := 0, slots := 0, locals := 0 } : Room)) s m (#[.ref (B 4)]) below meth c (MQ below (va_Qv (fun w => ∃ σ' : VS, Q σ' ∧ w = wc E B σ') (AftU E A) A) (#[.ref (B 4)]) s (({ frames := 0, cells := 0, slots := 0, locals := 0 } : Room)).cells (({ frames := 0, cells := 0, slots := 0, locals := 0 } : Room)).slots A) A E (wc E B) 3 2 [(0, .ref (B 4)), (1, .int l1)] [] σ := by
    intro l1 σ hw; rw [hX2] at hw; exact hw
  obtain ⟨X17, hX17⟩ : ∃ X : Int32 → Int32 → VS → Prop, X = fun l1 l2 σ => WB p l e (({ frames := 0, cells := 0, slots := 0, locals := 0 } : Room)) s m (#[.ref (B 4)]) below meth c (MQ below (va_Qv (fun w => ∃ σ' : VS, Q σ' ∧ w = wc E B σ') (AftU E A) A) (#[.ref (B 4)]) s (({ frames := 0, cells := 0, slots := 0, locals := 0 } : Room)).cells (({ frames := 0, cells := 0, slots := 0, locals := 0 } : Room)).slots A) A E (wc E B) 3 17 [(0, .ref (B 4)), (1, .int l1), (2, .int l2)] [] σ := ⟨_, rfl⟩
  have U_17 : ∀ (l1 : Int32) (l2 : Int32) (σ : VS), X17 l1 l2 σ → WB p l e (({ frames := 0, cells := 0, slots := 0, locals := 0 } : Room)) s m (#[.ref (B 4)]) below meth c (MQ below (va_Qv (fun w => ∃ σ' : VS, Q σ' ∧ w = wc E B σ') (AftU E A) A) (#[.ref (B 4)]) s (({ frames := 0, cells := 0, slots := 0, locals := 0 } : Room)).cells (({ frames := 0, cells := 0, slots := 0, locals := 0 } : Room)).slots A) A E (wc E B) 3 17 [(0, .ref (B 4)), (1, .int l1), (2, .int l2)] [] σ := by
    intro l1 l2 σ hw; rw [hX17] at hw; exact hw
  have J_57 : ∀ (l1 : Int32) (l2 : Int32) (σ : VS), b_X3spreadBits_57 X2 X17 Q l1 l2 σ → WB p l e (({ frames := 0, cells := 0, slots := 0, locals := 0 } : Room)) s m (#[.ref (B 4)]) below meth c (MQ below (va_Qv (fun w => ∃ σ' : VS, Q σ' ∧ w = wc E B σ') (AftU E A) A) (#[.ref (B 4)]) s (({ frames := 0, cells := 0, slots := 0, locals := 0 } : Room)).cells (({ frames := 0, cells := 0, slots := 0, locals := 0 } : Room)).slots A) A E (wc E B) 3 57 [(0, .ref (B 4)), (1, .int l1), (2, .int l2)] [] σ := by
    intro l1 l2 σ hw
    unfold b_X3spreadBits_57 at hw
    refine R_iinc (q := 2) (v := (l2 + 1)) (lv' := [(2, .int (l2 + 1)), (0, .ref (B 4)), (1, .int l1)]) F dX3_spreadBits_57 rfl rfl (by decide) rfl ?_
    refine R_goto (tgt := 17) F dX3_spreadBits_60 (by decide) ?_
    exact R_sub [1, 2, 0] rfl (U_17 l1 (l2 + 1) σ hw)
  have J_45 : ∀ (l1 : Int32) (l2 : Int32) (σ : VS), b_X3spreadBits_45 X2 X17 Q l1 l2 σ → WB p l e (({ frames := 0, cells := 0, slots := 0, locals := 0 } : Room)) s m (#[.ref (B 4)]) below meth c (MQ below (va_Qv (fun w => ∃ σ' : VS, Q σ' ∧ w = wc E B σ') (AftU E A) A) (#[.ref (B 4)]) s (({ frames := 0, cells := 0, slots := 0, locals := 0 } : Room)).cells (({ frames := 0, cells := 0, slots := 0, locals := 0 } : Room)).slots A) A E (wc E B) 3 45 [(0, .ref (B 4)), (1, .int l1), (2, .int l2)] [] σ := by
    intro l1 l2 σ hw
    unfold b_X3spreadBits_45 at hw
    refine R_aload_n F dX3_spreadBits_45 rfl 0 rfl ?_
    refine gc_RX3_24_4 F in_X3spreadBits dX3_spreadBits_46 ?_
    refine R_iload_n F dX3_spreadBits_49 rfl 1 rfl ?_
    refine R_dup2 F dX3_spreadBits_50 rfl rfl ?_
    refine R_ldi F qc_35 dX3_spreadBits_51 hw.1 ?_
    replace hw := hw.2
    refine R_iconst F 1 dX3_spreadBits_52 (by decide) ?_
    refine R_iload_n F dX3_spreadBits_53 rfl 2 rfl ?_
    refine R_ishl F dX3_spreadBits_54 ?_
    refine R_ior F dX3_spreadBits_55 ?_
    have hi := hw.1
    replace hw := hw.2
    refine R_sti F qc_35 uc_35 dX3_spreadBits_56 hi ?_
    exact R_sub [0, 1, 2] rfl (J_57 l1 l2 (sa σ 35 l1 ((rd σ 35 l1) ||| (1 <<< (l2 &&& 31)))) hw)
  have C_2 : ∀ (l1 : Int32) (σ : VS), b_X3spreadBits_2 X2 X17 Q l1 σ → X2 l1 σ := by
    intro l1 σ hw
    unfold b_X3spreadBits_2 at hw
    rw [hX2]
    show WB p l e (({ frames := 0, cells := 0, slots := 0, locals := 0 } : Room)) s m (#[.ref (B 4)]) below meth c (MQ below (va_Qv (fun w => ∃ σ' : VS, Q σ' ∧ w = wc E B σ') (AftU E A) A) (#[.ref (B 4)]) s (({ frames := 0, cells := 0, slots := 0, locals := 0 } : Room)).cells (({ frames := 0, cells := 0, slots := 0, locals := 0 } : Room)).slots A) A E (wc E B) 3 2 [(0, .ref (B 4)), (1, .int l1)] [] σ
    refine R_iload_n F dX3_spreadBits_2 rfl 1 rfl ?_
    refine R_bipush F 50 dX3_spreadBits_3 (by decide) ?_
    refine R_icmp_ge (tgt := 69) F dX3_spreadBits_5 (by decide) (fun hc => ?_) (fun hc => ?_)
    · replace hw := hw.1 hc
      exact R_vret (Qc := Q) F dX3_spreadBits_69 hw
    · replace hw := hw.2 hc
      refine R_aload_n F dX3_spreadBits_8 rfl 0 rfl ?_
      refine gc_RX3_24_4 F in_X3spreadBits dX3_spreadBits_9 ?_
      refine R_iload_n F dX3_spreadBits_12 rfl 1 rfl ?_
      refine R_iconst F 0 dX3_spreadBits_13 (by decide) ?_
      have hi := hw.1
      replace hw := hw.2
      refine R_sti F qc_35 uc_35 dX3_spreadBits_14 hi ?_
      refine R_iconst F 0 dX3_spreadBits_15 (by decide) ?_
      refine R_istore_n (lv' := [(2, .int 0), (0, .ref (B 4)), (1, .int l1)]) F dX3_spreadBits_16 rfl (by decide) rfl ?_
      exact R_sub [1, 2, 0] rfl (U_17 l1 0 (sa σ 35 l1 0) hw)
  have C_17 : ∀ (l1 : Int32) (l2 : Int32) (σ : VS), b_X3spreadBits_17 X2 X17 Q l1 l2 σ → X17 l1 l2 σ := by
    intro l1 l2 σ hw
    unfold b_X3spreadBits_17 at hw
    rw [hX17]
    show WB p l e (({ frames := 0, cells := 0, slots := 0, locals := 0 } : Room)) s m (#[.ref (B 4)]) below meth c (MQ below (va_Qv (fun w => ∃ σ' : VS, Q σ' ∧ w = wc E B σ') (AftU E A) A) (#[.ref (B 4)]) s (({ frames := 0, cells := 0, slots := 0, locals := 0 } : Room)).cells (({ frames := 0, cells := 0, slots := 0, locals := 0 } : Room)).slots A) A E (wc E B) 3 17 [(0, .ref (B 4)), (1, .int l1), (2, .int l2)] [] σ
    refine R_iload_n F dX3_spreadBits_17 rfl 2 rfl ?_
    refine R_aload_n F dX3_spreadBits_18 rfl 0 rfl ?_
    refine gc_RX3_27_4 F in_X3spreadBits dX3_spreadBits_19 ?_
    refine R_icmp_ge (tgt := 63) F dX3_spreadBits_22 (by decide) (fun hc => ?_) (fun hc => ?_)
    · replace hw := hw.1 hc
      refine R_iinc (q := 1) (v := (l1 + 1)) (lv' := [(1, .int (l1 + 1)), (0, .ref (B 4)), (2, .int l2)]) F dX3_spreadBits_63 rfl rfl (by decide) rfl ?_
      refine R_goto (tgt := 2) F dX3_spreadBits_66 (by decide) ?_
      exact R_sub [1, 0] rfl (U_2 (l1 + 1) σ hw)
    · replace hw := hw.2 hc
      refine R_aload_n F dX3_spreadBits_25 rfl 0 rfl ?_
      refine gc_RX3_18_4 F in_X3spreadBits dX3_spreadBits_26 ?_
      refine R_iload_n F dX3_spreadBits_29 rfl 2 rfl ?_
      refine R_ldi F qc_33 dX3_spreadBits_30 hw.1 ?_
      replace hw := hw.2
      refine R_iconst F (-1) dX3_spreadBits_31 (by decide) ?_
      refine R_icmp_eq (tgt := 45) F dX3_spreadBits_32 (by decide) (fun hc => ?_) (fun hc => ?_)
      · replace hw := hw.1 hc
        exact R_sub [0, 1, 2] rfl (J_45 l1 l2 σ hw)
      · replace hw := hw.2 hc
        refine R_aload_n F dX3_spreadBits_35 rfl 0 rfl ?_
        refine gc_RX3_18_4 F in_X3spreadBits dX3_spreadBits_36 ?_
        refine R_iload_n F dX3_spreadBits_39 rfl 2 rfl ?_
        refine R_ldi F qc_33 dX3_spreadBits_40 hw.1 ?_
        replace hw := hw.2
        refine R_iload_n F dX3_spreadBits_41 rfl 1 rfl ?_
        refine R_icmp_ne (tgt := 57) F dX3_spreadBits_42 (by decide) (fun hc => ?_) (fun hc => ?_)
        · replace hw := hw.1 hc
          exact R_sub [0, 1, 2] rfl (J_57 l1 l2 σ hw)
        · replace hw := hw.2 hc
          exact R_sub [0, 1, 2] rfl (J_45 l1 l2 σ hw)
  unfold wp_X3spreadBits at hw
  replace hw := hw X2 X17 C_2 C_17
  refine R_iconst F 0 dX3_spreadBits_0 (by decide) ?_
  refine R_istore_n (lv' := [(1, .int 0), (0, .ref (B 4))]) F dX3_spreadBits_1 rfl (by decide) rfl ?_
  exact R_sub [1, 0] rfl (U_2 0 σ hw)
def wp_X3addRule (Q : Int32 → VS → Prop) (p1 : Int32) (p2 : Int32) (p3 : Int32) (p4 : Int32) (σ : VS) : Prop := (∀ x1 : Int32, x1 = (σ.1 6) → (In x1 4 ∧ (In x1 4 ∧ (In x1 4 ∧ (In x1 4 ∧ wp_X3spreadBits (fun (σ3 : VS) => Q x1 σ3) (sa (sa (sa (sa (sf σ 6 ((σ.1 6) + 1)) 31 x1 p1) 32 x1 p2) 33 x1 p3) 34 x1 p4))))))
theorem dX3_addRule_0 : decode cX3_addRule 0 = .ok (.aload_n 0, 1) := by decide +kernel
theorem dX3_addRule_1 : decode cX3_addRule 1 = .ok (.getfield 27, 3) := by decide +kernel
theorem dX3_addRule_4 : decode cX3_addRule 4 = .ok (.istore 5, 2) := by decide +kernel
theorem dX3_addRule_6 : decode cX3_addRule 6 = .ok (.aload_n 0, 1) := by decide +kernel
theorem dX3_addRule_7 : decode cX3_addRule 7 = .ok (.dup, 1) := by decide +kernel
theorem dX3_addRule_8 : decode cX3_addRule 8 = .ok (.getfield 27, 3) := by decide +kernel
theorem dX3_addRule_11 : decode cX3_addRule 11 = .ok (.iconst 1, 1) := by decide +kernel
theorem dX3_addRule_12 : decode cX3_addRule 12 = .ok (.iadd, 1) := by decide +kernel
theorem dX3_addRule_13 : decode cX3_addRule 13 = .ok (.putfield 27, 3) := by decide +kernel
theorem dX3_addRule_16 : decode cX3_addRule 16 = .ok (.aload_n 0, 1) := by decide +kernel
theorem dX3_addRule_17 : decode cX3_addRule 17 = .ok (.getfield 9, 3) := by decide +kernel
theorem dX3_addRule_20 : decode cX3_addRule 20 = .ok (.iload 5, 2) := by decide +kernel
theorem dX3_addRule_22 : decode cX3_addRule 22 = .ok (.iload_n 1, 1) := by decide +kernel
theorem dX3_addRule_23 : decode cX3_addRule 23 = .ok (.iastore, 1) := by decide +kernel
theorem dX3_addRule_24 : decode cX3_addRule 24 = .ok (.aload_n 0, 1) := by decide +kernel
theorem dX3_addRule_25 : decode cX3_addRule 25 = .ok (.getfield 15, 3) := by decide +kernel
theorem dX3_addRule_28 : decode cX3_addRule 28 = .ok (.iload 5, 2) := by decide +kernel
theorem dX3_addRule_30 : decode cX3_addRule 30 = .ok (.iload_n 2, 1) := by decide +kernel
theorem dX3_addRule_31 : decode cX3_addRule 31 = .ok (.iastore, 1) := by decide +kernel
theorem dX3_addRule_32 : decode cX3_addRule 32 = .ok (.aload_n 0, 1) := by decide +kernel
theorem dX3_addRule_33 : decode cX3_addRule 33 = .ok (.getfield 18, 3) := by decide +kernel
theorem dX3_addRule_36 : decode cX3_addRule 36 = .ok (.iload 5, 2) := by decide +kernel
theorem dX3_addRule_38 : decode cX3_addRule 38 = .ok (.iload_n 3, 1) := by decide +kernel
theorem dX3_addRule_39 : decode cX3_addRule 39 = .ok (.iastore, 1) := by decide +kernel
theorem dX3_addRule_40 : decode cX3_addRule 40 = .ok (.aload_n 0, 1) := by decide +kernel
theorem dX3_addRule_41 : decode cX3_addRule 41 = .ok (.getfield 21, 3) := by decide +kernel
theorem dX3_addRule_44 : decode cX3_addRule 44 = .ok (.iload 5, 2) := by decide +kernel
theorem dX3_addRule_46 : decode cX3_addRule 46 = .ok (.iload 4, 2) := by decide +kernel
theorem dX3_addRule_48 : decode cX3_addRule 48 = .ok (.iastore, 1) := by decide +kernel
theorem dX3_addRule_49 : decode cX3_addRule 49 = .ok (.aload_n 0, 1) := by decide +kernel
theorem dX3_addRule_50 : decode cX3_addRule 50 = .ok (.invokevirtual 31, 3) := by decide +kernel
theorem dX3_addRule_53 : decode cX3_addRule 53 = .ok (.iload 5, 2) := by decide +kernel
theorem dX3_addRule_55 : decode cX3_addRule 55 = .ok (.ireturn, 1) := by decide +kernel
def wo_X3addRule : List Cond := [.code yX3_addRule cX3_addRule 6 (some .int), .methodLink RX3 31 yX3_spreadBits, .instanceMethod yX3_spreadBits, .selects RX3 yX3_spreadBits yX3_spreadBits, .initialized RX3]
def wr_X3addRule : List Cond := (wfC ++ (w_X3spreadBits ++ ([])))
def w_X3addRule : List Cond := wo_X3addRule ++ wr_X3addRule
theorem wg_X3addRule : GW w_X3addRule := GW_app (GW_of (by decide +kernel)) (GW_app (wg_fC) (GW_app (wg_X3spreadBits) (GW_nil)))
theorem in_X3addRule : ∀ w ∈ wfC, w ∈ w_X3addRule := fun _ h => List.mem_append_right _ (List.mem_append_left _ h)
theorem g_X3addRule_X3spreadBits_31 : GoodIn w_X3addRule (wsV RX3 31 RX3 yX3_spreadBits w_X3spreadBits) := goodIn_app (gi_left (goodIn_of _ (by decide +kernel))) (fun w h => ⟨List.mem_append_right _ (List.mem_append_right _ (List.mem_append_left _ h)), wg_X3spreadBits w h⟩)
set_option maxHeartbeats 4000000 in
set_option maxRecDepth 100000 in
theorem ct_X3addRule (l : Launch) (E : gE) (B : Nat → Nat) (Q : Int32 → VS → Prop) (p1 : Int32) (p2 : Int32) (p3 : Int32) (p4 : Int32) (σ : VS) (hw : wp_X3addRule Q p1 p2 p3 p4 σ) : CtI l E yX3_addRule w_X3addRule (({ frames := 1, cells := 0, slots := 0, locals := 22 } : Room)) (wc E B σ) [.ref (B 4), .int p1, .int p2, .int p3, .int p4] (fun r w => ∃ σ' : VS, Q r σ' ∧ w = wc E B σ') := by
  refine VC_I (cc := cX3_addRule) (mL := 6) (rt := (some .int)) (lv0 := [(0, .ref (B 4)), (1, .int p1), (2, .int p2), (3, .int p3), (4, .int p4)]) rfl (by decide) rfl (Nat.le_of_ble_eq_true rfl) ?_
  intro p e s m below meth c A F
  replace F : Fx p s m _ meth c A E cX3_addRule 6 (some .int) RX3 w_X3addRule := F
  unfold wp_X3addRule at hw
  refine R_aload_n F dX3_addRule_0 rfl 0 rfl ?_
  refine gc_RX3_27_4 F in_X3addRule dX3_addRule_1 ?_
  refine R_topi (fun x1 ex1 => ?_)
  replace hw := hw x1 ex1
  refine R_istore (lv' := [(5, .int x1), (0, .ref (B 4)), (1, .int p1), (2, .int p2), (3, .int p3), (4, .int p4)]) F dX3_addRule_4 (by decide) rfl ?_
  refine R_aload_n F dX3_addRule_6 rfl 1 rfl ?_
  refine R_dup F dX3_addRule_7 rfl ?_
  refine gc_RX3_27_4 F in_X3addRule dX3_addRule_8 ?_
  refine R_iconst F 1 dX3_addRule_11 (by decide) ?_
  refine R_iadd F dX3_addRule_12 ?_
  refine pc_RX3_27_4 F in_X3addRule dX3_addRule_13 ?_
  refine R_aload_n F dX3_addRule_16 rfl 1 rfl ?_
  refine gc_RX3_9_4 F in_X3addRule dX3_addRule_17 ?_
  refine R_iload F dX3_addRule_20 0 rfl ?_
  refine R_iload_n F dX3_addRule_22 rfl 2 rfl ?_
  have hi := hw.1
  replace hw := hw.2
  refine R_sti F qc_31 uc_31 dX3_addRule_23 hi ?_
  refine R_aload_n F dX3_addRule_24 rfl 1 rfl ?_
  refine gc_RX3_15_4 F in_X3addRule dX3_addRule_25 ?_
  refine R_iload F dX3_addRule_28 0 rfl ?_
  refine R_iload_n F dX3_addRule_30 rfl 3 rfl ?_
  have hi := hw.1
  replace hw := hw.2
  refine R_sti F qc_32 uc_32 dX3_addRule_31 hi ?_
  refine R_aload_n F dX3_addRule_32 rfl 1 rfl ?_
  refine gc_RX3_18_4 F in_X3addRule dX3_addRule_33 ?_
  refine R_iload F dX3_addRule_36 0 rfl ?_
  refine R_iload_n F dX3_addRule_38 rfl 4 rfl ?_
  have hi := hw.1
  replace hw := hw.2
  refine R_sti F qc_33 uc_33 dX3_addRule_39 hi ?_
  refine R_aload_n F dX3_addRule_40 rfl 1 rfl ?_
  refine gc_RX3_21_4 F in_X3addRule dX3_addRule_41 ?_
  refine R_iload F dX3_addRule_44 0 rfl ?_
  refine R_iload F dX3_addRule_46 5 rfl ?_
  have hi := hw.1
  replace hw := hw.2
  refine R_sti F qc_34 uc_34 dX3_addRule_48 hi ?_
  refine R_aload_n F dX3_addRule_49 rfl 1 rfl ?_
  refine R_callV (As := []) (C := RX3) (q0 := 4) (ci := 3) (N := 6) (T := TX3) (fs := cf_4 B) F (ct_X3spreadBits l E B _ _ hw) (cwV 0 F.2.2.2.2.2.2.2.2.2.2 g_X3addRule_X3spreadBits_31 rfl rfl rfl (by decide +kernel) ⟨Nat.le_of_ble_eq_true rfl, Nat.le_of_ble_eq_true rfl⟩) ⟨rfl, rfl⟩ rfl (fun _ => rfl) rfl rfl (Nat.le_of_ble_eq_true rfl) dX3_addRule_50 (fun σ3 hw => ?_)
  refine R_iload F dX3_addRule_53 0 rfl ?_
  exact R_iret (Qc := Q) F rfl dX3_addRule_55 hw
def wp_X3dropLatest (Q : Int32 → VS → Prop) (σ : VS) : Prop := wp_X3spreadBits (fun (σ2 : VS) => Q (σ2.1 6) σ2) (sf σ 6 ((σ.1 6) - 1))
theorem dX3_dropLatest_0 : decode cX3_dropLatest 0 = .ok (.aload_n 0, 1) := by decide +kernel
theorem dX3_dropLatest_1 : decode cX3_dropLatest 1 = .ok (.dup, 1) := by decide +kernel
theorem dX3_dropLatest_2 : decode cX3_dropLatest 2 = .ok (.getfield 27, 3) := by decide +kernel
theorem dX3_dropLatest_5 : decode cX3_dropLatest 5 = .ok (.iconst 1, 1) := by decide +kernel
theorem dX3_dropLatest_6 : decode cX3_dropLatest 6 = .ok (.isub, 1) := by decide +kernel
theorem dX3_dropLatest_7 : decode cX3_dropLatest 7 = .ok (.putfield 27, 3) := by decide +kernel
theorem dX3_dropLatest_10 : decode cX3_dropLatest 10 = .ok (.aload_n 0, 1) := by decide +kernel
theorem dX3_dropLatest_11 : decode cX3_dropLatest 11 = .ok (.invokevirtual 31, 3) := by decide +kernel
theorem dX3_dropLatest_14 : decode cX3_dropLatest 14 = .ok (.aload_n 0, 1) := by decide +kernel
theorem dX3_dropLatest_15 : decode cX3_dropLatest 15 = .ok (.getfield 27, 3) := by decide +kernel
theorem dX3_dropLatest_18 : decode cX3_dropLatest 18 = .ok (.ireturn, 1) := by decide +kernel
def wo_X3dropLatest : List Cond := [.code yX3_dropLatest cX3_dropLatest 1 (some .int), .methodLink RX3 31 yX3_spreadBits, .instanceMethod yX3_spreadBits, .selects RX3 yX3_spreadBits yX3_spreadBits, .initialized RX3]
def wr_X3dropLatest : List Cond := (wfC ++ (w_X3spreadBits ++ ([])))
def w_X3dropLatest : List Cond := wo_X3dropLatest ++ wr_X3dropLatest
theorem wg_X3dropLatest : GW w_X3dropLatest := GW_app (GW_of (by decide +kernel)) (GW_app (wg_fC) (GW_app (wg_X3spreadBits) (GW_nil)))
theorem in_X3dropLatest : ∀ w ∈ wfC, w ∈ w_X3dropLatest := fun _ h => List.mem_append_right _ (List.mem_append_left _ h)
theorem g_X3dropLatest_X3spreadBits_31 : GoodIn w_X3dropLatest (wsV RX3 31 RX3 yX3_spreadBits w_X3spreadBits) := goodIn_app (gi_left (goodIn_of _ (by decide +kernel))) (fun w h => ⟨List.mem_append_right _ (List.mem_append_right _ (List.mem_append_left _ h)), wg_X3spreadBits w h⟩)
set_option maxHeartbeats 4000000 in
set_option maxRecDepth 100000 in
theorem ct_X3dropLatest (l : Launch) (E : gE) (B : Nat → Nat) (Q : Int32 → VS → Prop) (σ : VS) (hw : wp_X3dropLatest Q σ) : CtI l E yX3_dropLatest w_X3dropLatest (({ frames := 1, cells := 0, slots := 0, locals := 22 } : Room)) (wc E B σ) [.ref (B 4)] (fun r w => ∃ σ' : VS, Q r σ' ∧ w = wc E B σ') := by
  refine VC_I (cc := cX3_dropLatest) (mL := 1) (rt := (some .int)) (lv0 := [(0, .ref (B 4))]) rfl (by decide) rfl (Nat.le_of_ble_eq_true rfl) ?_
  intro p e s m below meth c A F
  replace F : Fx p s m _ meth c A E cX3_dropLatest 1 (some .int) RX3 w_X3dropLatest := F
  unfold wp_X3dropLatest at hw
  refine R_aload_n F dX3_dropLatest_0 rfl 0 rfl ?_
  refine R_dup F dX3_dropLatest_1 rfl ?_
  refine gc_RX3_27_4 F in_X3dropLatest dX3_dropLatest_2 ?_
  refine R_iconst F 1 dX3_dropLatest_5 (by decide) ?_
  refine R_isub F dX3_dropLatest_6 ?_
  refine pc_RX3_27_4 F in_X3dropLatest dX3_dropLatest_7 ?_
  refine R_aload_n F dX3_dropLatest_10 rfl 0 rfl ?_
  refine R_callV (As := []) (C := RX3) (q0 := 4) (ci := 3) (N := 6) (T := TX3) (fs := cf_4 B) F (ct_X3spreadBits l E B _ _ hw) (cwV 0 F.2.2.2.2.2.2.2.2.2.2 g_X3dropLatest_X3spreadBits_31 rfl rfl rfl (by decide +kernel) ⟨Nat.le_of_ble_eq_true rfl, Nat.le_of_ble_eq_true rfl⟩) ⟨rfl, rfl⟩ rfl (fun _ => rfl) rfl rfl (Nat.le_of_ble_eq_true rfl) dX3_dropLatest_11 (fun σ2 hw => ?_)
  refine R_aload_n F dX3_dropLatest_14 rfl 0 rfl ?_
  refine gc_RX3_27_4 F in_X3dropLatest dX3_dropLatest_15 ?_
  exact R_iret (Qc := Q) F rfl dX3_dropLatest_18 hw
