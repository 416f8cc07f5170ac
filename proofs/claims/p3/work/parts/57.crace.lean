def b_X2leastOfS_40 (X5 : Int32 → Int32 → VS → Prop) (Q : Int32 → VS → Prop) (l2 : Int32) (l3 : Int32) (σ : VS) : Prop := X5 l2 (l3 + 1) σ
def b_X2leastOfS_38 (X5 : Int32 → Int32 → VS → Prop) (Q : Int32 → VS → Prop) (l3 : Int32) (σ : VS) : Prop := b_X2leastOfS_40 X5 Q l3 l3 σ
def b_X2leastOfS_5 (X5 : Int32 → Int32 → VS → Prop) (Q : Int32 → VS → Prop) (l2 : Int32) (l3 : Int32) (σ : VS) : Prop := (((σ.1 2).toInt ≤ l3.toInt → Q l2 σ) ∧ (l3.toInt < (σ.1 2).toInt → (In l3 50 ∧ (((rd σ 50 l3).toInt ≤ 0 → b_X2leastOfS_40 X5 Q l2 l3 σ) ∧ (0 < (rd σ 50 l3).toInt → ((l2.toInt < 0 → b_X2leastOfS_38 X5 Q l3 σ) ∧ (0 ≤ l2.toInt → (In l3 50 ∧ (In l2 50 ∧ (((rd σ 51 l2).toInt ≤ (rd σ 51 l3).toInt → b_X2leastOfS_40 X5 Q l2 l3 σ) ∧ ((rd σ 51 l3).toInt < (rd σ 51 l2).toInt → b_X2leastOfS_38 X5 Q l3 σ)))))))))))
def wp_X2leastOfS (Q : Int32 → VS → Prop) (σ : VS) : Prop := ∀ (X5 : Int32 → Int32 → VS → Prop), (∀ (l2 : Int32) (l3 : Int32) (σ : VS), b_X2leastOfS_5 X5 Q l2 l3 σ → X5 l2 l3 σ) → X5 (-5) 0 σ
theorem dX2_leastOf_0 : decode cX2_leastOf 0 = .ok (.bipush (-5), 2) := by decide +kernel
theorem dX2_leastOf_2 : decode cX2_leastOf 2 = .ok (.istore_n 2, 1) := by decide +kernel
theorem dX2_leastOf_3 : decode cX2_leastOf 3 = .ok (.iconst 0, 1) := by decide +kernel
theorem dX2_leastOf_4 : decode cX2_leastOf 4 = .ok (.istore_n 3, 1) := by decide +kernel
theorem dX2_leastOf_5 : decode cX2_leastOf 5 = .ok (.iload_n 3, 1) := by decide +kernel
theorem dX2_leastOf_6 : decode cX2_leastOf 6 = .ok (.aload_n 0, 1) := by decide +kernel
theorem dX2_leastOf_7 : decode cX2_leastOf 7 = .ok (.getfield 37, 3) := by decide +kernel
theorem dX2_leastOf_10 : decode cX2_leastOf 10 = .ok (.getfield 69, 3) := by decide +kernel
theorem dX2_leastOf_13 : decode cX2_leastOf 13 = .ok (.if_icmp .ge 33, 3) := by decide +kernel
theorem dX2_leastOf_46 : decode cX2_leastOf 46 = .ok (.iload_n 2, 1) := by decide +kernel
theorem dX2_leastOf_47 : decode cX2_leastOf 47 = .ok (.ireturn, 1) := by decide +kernel
theorem dX2_leastOf_16 : decode cX2_leastOf 16 = .ok (.aload_n 0, 1) := by decide +kernel
theorem dX2_leastOf_17 : decode cX2_leastOf 17 = .ok (.getfield 25, 3) := by decide +kernel
theorem dX2_leastOf_20 : decode cX2_leastOf 20 = .ok (.iload_n 3, 1) := by decide +kernel
theorem dX2_leastOf_21 : decode cX2_leastOf 21 = .ok (.iaload, 1) := by decide +kernel
theorem dX2_leastOf_22 : decode cX2_leastOf 22 = .ok (.ifCond .le 18, 3) := by decide +kernel
theorem dX2_leastOf_25 : decode cX2_leastOf 25 = .ok (.iload_n 2, 1) := by decide +kernel
theorem dX2_leastOf_26 : decode cX2_leastOf 26 = .ok (.ifCond .lt 12, 3) := by decide +kernel
theorem dX2_leastOf_29 : decode cX2_leastOf 29 = .ok (.aload_n 1, 1) := by decide +kernel
theorem dX2_leastOf_30 : decode cX2_leastOf 30 = .ok (.iload_n 3, 1) := by decide +kernel
theorem dX2_leastOf_31 : decode cX2_leastOf 31 = .ok (.iaload, 1) := by decide +kernel
theorem dX2_leastOf_32 : decode cX2_leastOf 32 = .ok (.aload_n 1, 1) := by decide +kernel
theorem dX2_leastOf_33 : decode cX2_leastOf 33 = .ok (.iload_n 2, 1) := by decide +kernel
theorem dX2_leastOf_34 : decode cX2_leastOf 34 = .ok (.iaload, 1) := by decide +kernel
theorem dX2_leastOf_35 : decode cX2_leastOf 35 = .ok (.if_icmp .ge 5, 3) := by decide +kernel
theorem dX2_leastOf_40 : decode cX2_leastOf 40 = .ok (.iinc 3 1, 3) := by decide +kernel
theorem dX2_leastOf_43 : decode cX2_leastOf 43 = .ok (.goto (-38), 3) := by decide +kernel
theorem dX2_leastOf_38 : decode cX2_leastOf 38 = .ok (.iload_n 3, 1) := by decide +kernel
theorem dX2_leastOf_39 : decode cX2_leastOf 39 = .ok (.istore_n 2, 1) := by decide +kernel
def wo_X2leastOfS : List Cond := [.code yX2_leastOf cX2_leastOf 4 (some .int)]
def wr_X2leastOfS : List Cond := (wfC ++ ([]))
def w_X2leastOfS : List Cond := wo_X2leastOfS ++ wr_X2leastOfS
theorem wg_X2leastOfS : GW w_X2leastOfS := GW_app (GW_of (by decide +kernel)) (GW_app (wg_fC) (GW_nil))
theorem in_X2leastOfS : ∀ w ∈ wfC, w ∈ w_X2leastOfS := fun _ h => List.mem_append_right _ (List.mem_append_left _ h)
set_option maxHeartbeats 4000000 in
set_option maxRecDepth 100000 in
theorem ct_X2leastOfS (l : Launch) (E : gE) (B : Nat → Nat) (Q : Int32 → VS → Prop) (σ : VS) (hw : wp_X2leastOfS Q σ) : CtI l E yX2_leastOf w_X2leastOfS (({ frames := 0, cells := 0, slots := 0, locals := 0 } : Room)) (wc E B σ) [.ref (B 7), .ref (B 51)] (fun r w => ∃ σ' : VS, Q r σ' ∧ w = wc E B σ') := by
  refine VC_I (cc := cX2_leastOf) (mL := 4) (rt := (some .int)) (lv0 := [(0, .ref (B 7)), (1, .ref (B 51))]) rfl (by decide) rfl (Nat.le_of_ble_eq_true rfl) ?_
  intro p e s m below meth c A F
  replace F : Fx p s m _ meth c A E cX2_leastOf 4 (some .int) RX2 w_X2leastOfS := F
  obtain ⟨X5, hX5⟩ : ∃ X : Int32 → Int32 → VS → Prop, X = fun l2 l3 σ => WB p l e (({ frames := 0, cells := 0, slots := 0, locals := 0 } : Room)) s m (#[.ref (B 7), .ref (B 51)]) below meth c (MQ below (va_Qi (fun r w => ∃ σ' : VS, Q r σ' ∧ w = wc E B σ') (AftU E A) A) (#[.ref (B 7), .ref (B 51)]) s (({ frames := 0, cells := 0, slots := 0, locals := 0 } : Room)).cells (({ frames := 0, cells := 0, slots := 0, locals := 0 } : Room)).slots A) A E (wc E B) 4 5 [(0, .ref (B 7)), (1, .ref (B 51)), (2, .int l2), (3, .int l3)] [] σ := ⟨_, rfl⟩
  have U_5 : ∀ (l2 : Int32) (l3 : Int32) (σ : VS), X5 l2 l3 σ → WB p l e (({ frames := 0, cells := 0, slots := 0, locals := 0 } : Room)) s m (#[.ref (B 7), .ref (B 51)]) below meth c (MQ below (va_Qi (fun r w => ∃ σ' : VS, Q r σ' ∧ w = wc E B σ') (AftU E A) A) (#[.ref (B 7), .ref (B 51)]) s (({ frames := 0, cells := 0, slots := 0, locals := 0 } : Room)).cells (({ frames := 0, cells := 0, slots := 0, locals := 0 } : Room)).slots A) A E (wc E B) 4 5 [(0, .ref (B 7)), (1, .ref (B 51)), (2, .int l2), (3, .int l3)] [] σ := by
    intro l2 l3 σ hw; rw [hX5] at hw; exact hw
  have J_40 : ∀ (l2 : Int32) (l3 : Int32) (σ : VS), b_X2leastOfS_40 X5 Q l2 l3 σ → WB p l e (({ frames := 0, cells := 0, slots := 0, locals := 0 } : Room)) s m (#[.ref (B 7), .ref (B 51)]) below meth c (MQ below (va_Qi (fun r w => ∃ σ' : VS, Q r σ' ∧ w = wc E B σ') (AftU E A) A) (#[.ref (B 7), .ref (B 51)]) s (({ frames := 0, cells := 0, slots := 0, locals := 0 } : Room)).cells (({ frames := 0, cells := 0, slots := 0, locals := 0 } : Room)).slots A) A E (wc E B) 4 40 [(0, .ref (B 7)), (1, .ref (B 51)), (2, .int l2), (3, .int l3)] [] σ := by
    intro l2 l3 σ hw
    unfold b_X2leastOfS_40 at hw
    refine R_iinc (q := 3) (v := (l3 + 1)) (lv' := [(3, .int (l3 + 1)), (0, .ref (B 7)), (1, .ref (B 51)), (2, .int l2)]) F dX2_leastOf_40 rfl rfl (by decide) rfl ?_
    refine R_goto (tgt := 5) F dX2_leastOf_43 (by decide) ?_
    exact R_sub [1, 2, 3, 0] rfl (U_5 l2 (l3 + 1) σ hw)
  have J_38 : ∀ (l3 : Int32) (σ : VS), b_X2leastOfS_38 X5 Q l3 σ → WB p l e (({ frames := 0, cells := 0, slots := 0, locals := 0 } : Room)) s m (#[.ref (B 7), .ref (B 51)]) below meth c (MQ below (va_Qi (fun r w => ∃ σ' : VS, Q r σ' ∧ w = wc E B σ') (AftU E A) A) (#[.ref (B 7), .ref (B 51)]) s (({ frames := 0, cells := 0, slots := 0, locals := 0 } : Room)).cells (({ frames := 0, cells := 0, slots := 0, locals := 0 } : Room)).slots A) A E (wc E B) 4 38 [(0, .ref (B 7)), (1, .ref (B 51)), (3, .int l3)] [] σ := by
    intro l3 σ hw
    unfold b_X2leastOfS_38 at hw
    refine R_iload_n F dX2_leastOf_38 rfl 2 rfl ?_
    refine R_istore_n (lv' := [(2, .int l3), (0, .ref (B 7)), (1, .ref (B 51)), (3, .int l3)]) F dX2_leastOf_39 rfl (by decide) rfl ?_
    exact R_sub [1, 2, 0, 3] rfl (J_40 l3 l3 σ hw)
  have C_5 : ∀ (l2 : Int32) (l3 : Int32) (σ : VS), b_X2leastOfS_5 X5 Q l2 l3 σ → X5 l2 l3 σ := by
    intro l2 l3 σ hw
    unfold b_X2leastOfS_5 at hw
    rw [hX5]
    show WB p l e (({ frames := 0, cells := 0, slots := 0, locals := 0 } : Room)) s m (#[.ref (B 7), .ref (B 51)]) below meth c (MQ below (va_Qi (fun r w => ∃ σ' : VS, Q r σ' ∧ w = wc E B σ') (AftU E A) A) (#[.ref (B 7), .ref (B 51)]) s (({ frames := 0, cells := 0, slots := 0, locals := 0 } : Room)).cells (({ frames := 0, cells := 0, slots := 0, locals := 0 } : Room)).slots A) A E (wc E B) 4 5 [(0, .ref (B 7)), (1, .ref (B 51)), (2, .int l2), (3, .int l3)] [] σ
    refine R_iload_n F dX2_leastOf_5 rfl 3 rfl ?_
    refine R_aload_n F dX2_leastOf_6 rfl 0 rfl ?_
    refine gc_RX2_37_7 F in_X2leastOfS dX2_leastOf_7 ?_
    refine gc_RX2_69_1 F in_X2leastOfS dX2_leastOf_10 ?_
    refine R_icmp_ge (tgt := 46) F dX2_leastOf_13 (by decide) (fun hc => ?_) (fun hc => ?_)
    · replace hw := hw.1 hc
      refine R_iload_n F dX2_leastOf_46 rfl 2 rfl ?_
      exact R_iret (Qc := Q) F rfl dX2_leastOf_47 hw
    · replace hw := hw.2 hc
      refine R_aload_n F dX2_leastOf_16 rfl 0 rfl ?_
      refine gc_RX2_25_7 F in_X2leastOfS dX2_leastOf_17 ?_
      refine R_iload_n F dX2_leastOf_20 rfl 3 rfl ?_
      refine R_ldi F qc_50 dX2_leastOf_21 hw.1 ?_
      replace hw := hw.2
      refine R_if_le (tgt := 40) F dX2_leastOf_22 (by decide) (fun hc => ?_) (fun hc => ?_)
      · replace hw := hw.1 hc
        exact R_sub [0, 1, 2, 3] rfl (J_40 l2 l3 σ hw)
      · replace hw := hw.2 hc
        refine R_iload_n F dX2_leastOf_25 rfl 2 rfl ?_
        refine R_if_lt (tgt := 38) F dX2_leastOf_26 (by decide) (fun hc => ?_) (fun hc => ?_)
        · replace hw := hw.1 hc
          exact R_sub [0, 1, 3] rfl (J_38 l3 σ hw)
        · replace hw := hw.2 hc
          refine R_aload_n F dX2_leastOf_29 rfl 1 rfl ?_
          refine R_iload_n F dX2_leastOf_30 rfl 3 rfl ?_
          refine R_ldi F qc_51 dX2_leastOf_31 hw.1 ?_
          replace hw := hw.2
          refine R_aload_n F dX2_leastOf_32 rfl 1 rfl ?_
          refine R_iload_n F dX2_leastOf_33 rfl 2 rfl ?_
          refine R_ldi F qc_51 dX2_leastOf_34 hw.1 ?_
          replace hw := hw.2
          refine R_icmp_ge (tgt := 40) F dX2_leastOf_35 (by decide) (fun hc => ?_) (fun hc => ?_)
          · replace hw := hw.1 hc
            exact R_sub [0, 1, 2, 3] rfl (J_40 l2 l3 σ hw)
          · replace hw := hw.2 hc
            exact R_sub [0, 1, 3] rfl (J_38 l3 σ hw)
  unfold wp_X2leastOfS at hw
  replace hw := hw X5 C_5
  refine R_bipush F (-5) dX2_leastOf_0 (by decide) ?_
  refine R_istore_n (lv' := [(2, .int (-5)), (0, .ref (B 7)), (1, .ref (B 51))]) F dX2_leastOf_2 rfl (by decide) rfl ?_
  refine R_iconst F 0 dX2_leastOf_3 (by decide) ?_
  refine R_istore_n (lv' := [(3, .int 0), (2, .int (-5)), (0, .ref (B 7)), (1, .ref (B 51))]) F dX2_leastOf_4 rfl (by decide) rfl ?_
  exact R_sub [2, 3, 1, 0] rfl (U_5 (-5) 0 σ hw)
def b_X2leastOfH_40 (X5 : Int32 → Int32 → VS → Prop) (Q : Int32 → VS → Prop) (l2 : Int32) (l3 : Int32) (σ : VS) : Prop := X5 l2 (l3 + 1) σ
def b_X2leastOfH_38 (X5 : Int32 → Int32 → VS → Prop) (Q : Int32 → VS → Prop) (l3 : Int32) (σ : VS) : Prop := b_X2leastOfH_40 X5 Q l3 l3 σ
def b_X2leastOfH_5 (X5 : Int32 → Int32 → VS → Prop) (Q : Int32 → VS → Prop) (l2 : Int32) (l3 : Int32) (σ : VS) : Prop := (((σ.1 2).toInt ≤ l3.toInt → Q l2 σ) ∧ (l3.toInt < (σ.1 2).toInt → (In l3 50 ∧ (((rd σ 50 l3).toInt ≤ 0 → b_X2leastOfH_40 X5 Q l2 l3 σ) ∧ (0 < (rd σ 50 l3).toInt → ((l2.toInt < 0 → b_X2leastOfH_38 X5 Q l3 σ) ∧ (0 ≤ l2.toInt → (In l3 50 ∧ (In l2 50 ∧ (((rd σ 52 l2).toInt ≤ (rd σ 52 l3).toInt → b_X2leastOfH_40 X5 Q l2 l3 σ) ∧ ((rd σ 52 l3).toInt < (rd σ 52 l2).toInt → b_X2leastOfH_38 X5 Q l3 σ)))))))))))
def wp_X2leastOfH (Q : Int32 → VS → Prop) (σ : VS) : Prop := ∀ (X5 : Int32 → Int32 → VS → Prop), (∀ (l2 : Int32) (l3 : Int32) (σ : VS), b_X2leastOfH_5 X5 Q l2 l3 σ → X5 l2 l3 σ) → X5 (-5) 0 σ
def wo_X2leastOfH : List Cond := [.code yX2_leastOf cX2_leastOf 4 (some .int)]
def wr_X2leastOfH : List Cond := (wfC ++ ([]))
def w_X2leastOfH : List Cond := wo_X2leastOfH ++ wr_X2leastOfH
theorem wg_X2leastOfH : GW w_X2leastOfH := GW_app (GW_of (by decide +kernel)) (GW_app (wg_fC) (GW_nil))
theorem in_X2leastOfH : ∀ w ∈ wfC, w ∈ w_X2leastOfH := fun _ h => List.mem_append_right _ (List.mem_append_left _ h)
set_option maxHeartbeats 4000000 in
set_option maxRecDepth 100000 in
theorem ct_X2leastOfH (l : Launch) (E : gE) (B : Nat → Nat) (Q : Int32 → VS → Prop) (σ : VS) (hw : wp_X2leastOfH Q σ) : CtI l E yX2_leastOf w_X2leastOfH (({ frames := 0, cells := 0, slots := 0, locals := 0 } : Room)) (wc E B σ) [.ref (B 7), .ref (B 52)] (fun r w => ∃ σ' : VS, Q r σ' ∧ w = wc E B σ') := by
  refine VC_I (cc := cX2_leastOf) (mL := 4) (rt := (some .int)) (lv0 := [(0, .ref (B 7)), (1, .ref (B 52))]) rfl (by decide) rfl (Nat.le_of_ble_eq_true rfl) ?_
  intro p e s m below meth c A F
  replace F : Fx p s m _ meth c A E cX2_leastOf 4 (some .int) RX2 w_X2leastOfH := F
  obtain ⟨X5, hX5⟩ : ∃ X : Int32 → Int32 → VS → Prop, X = fun l2 l3 σ => WB p l e (({ frames := 0, cells := 0, slots := 0, locals := 0 } : Room)) s m (#[.ref (B 7), .ref (B 52)]) below meth c (MQ below (va_Qi (fun r w => ∃ σ' : VS, Q r σ' ∧ w = wc E B σ') (AftU E A) A) (#[.ref (B 7), .ref (B 52)]) s (({ frames := 0, cells := 0, slots := 0, locals := 0 } : Room)).cells (({ frames := 0, cells := 0, slots := 0, locals := 0 } : Room)).slots A) A E (wc E B) 4 5 [(0, .ref (B 7)), (1, .ref (B 52)), (2, .int l2), (3, .int l3)] [] σ := ⟨_, rfl⟩
  have U_5 : ∀ (l2 : Int32) (l3 : Int32) (σ : VS), X5 l2 l3 σ → WB p l e (({ frames := 0, cells := 0, slots := 0, locals := 0 } : Room)) s m (#[.ref (B 7), .ref (B 52)]) below meth c (MQ below (va_Qi (fun r w => ∃ σ' : VS, Q r σ' ∧ w = wc E B σ') (AftU E A) A) (#[.ref (B 7), .ref (B 52)]) s (({ frames := 0, cells := 0, slots := 0, locals := 0 } : Room)).cells (({ frames := 0, cells := 0, slots := 0, locals := 0 } : Room)).slots A) A E (wc E B) 4 5 [(0, .ref (B 7)), (1, .ref (B 52)), (2, .int l2), (3, .int l3)] [] σ := by
    intro l2 l3 σ hw; rw [hX5] at hw; exact hw
  have J_40 : ∀ (l2 : Int32) (l3 : Int32) (σ : VS), b_X2leastOfH_40 X5 Q l2 l3 σ → WB p l e (({ frames := 0, cells := 0, slots := 0, locals := 0 } : Room)) s m (#[.ref (B 7), .ref (B 52)]) below meth c (MQ below (va_Qi (fun r w => ∃ σ' : VS, Q r σ' ∧ w = wc E B σ') (AftU E A) A) (#[.ref (B 7), .ref (B 52)]) s (({ frames := 0, cells := 0, slots := 0, locals := 0 } : Room)).cells (({ frames := 0, cells := 0, slots := 0, locals := 0 } : Room)).slots A) A E (wc E B) 4 40 [(0, .ref (B 7)), (1, .ref (B 52)), (2, .int l2), (3, .int l3)] [] σ := by
    intro l2 l3 σ hw
    unfold b_X2leastOfH_40 at hw
    refine R_iinc (q := 3) (v := (l3 + 1)) (lv' := [(3, .int (l3 + 1)), (0, .ref (B 7)), (1, .ref (B 52)), (2, .int l2)]) F dX2_leastOf_40 rfl rfl (by decide) rfl ?_
    refine R_goto (tgt := 5) F dX2_leastOf_43 (by decide) ?_
    exact R_sub [1, 2, 3, 0] rfl (U_5 l2 (l3 + 1) σ hw)
  have J_38 : ∀ (l3 : Int32) (σ : VS), b_X2leastOfH_38 X5 Q l3 σ → WB p l e (({ frames := 0, cells := 0, slots := 0, locals := 0 } : Room)) s m (#[.ref (B 7), .ref (B 52)]) below meth c (MQ below (va_Qi (fun r w => ∃ σ' : VS, Q r σ' ∧ w = wc E B σ') (AftU E A) A) (#[.ref (B 7), .ref (B 52)]) s (({ frames := 0, cells := 0, slots := 0, locals := 0 } : Room)).cells (({ frames := 0, cells := 0, slots := 0, locals := 0 } : Room)).slots A) A E (wc E B) 4 38 [(0, .ref (B 7)), (1, .ref (B 52)), (3, .int l3)] [] σ := by
    intro l3 σ hw
    unfold b_X2leastOfH_38 at hw
    refine R_iload_n F dX2_leastOf_38 rfl 2 rfl ?_
    refine R_istore_n (lv' := [(2, .int l3), (0, .ref (B 7)), (1, .ref (B 52)), (3, .int l3)]) F dX2_leastOf_39 rfl (by decide) rfl ?_
    exact R_sub [1, 2, 0, 3] rfl (J_40 l3 l3 σ hw)
  have C_5 : ∀ (l2 : Int32) (l3 : Int32) (σ : VS), b_X2leastOfH_5 X5 Q l2 l3 σ → X5 l2 l3 σ := by
    intro l2 l3 σ hw
    unfold b_X2leastOfH_5 at hw
    rw [hX5]
    show WB p l e (({ frames := 0, cells := 0, slots := 0, locals := 0 } : Room)) s m (#[.ref (B 7), .ref (B 52)]) below meth c (MQ below (va_Qi (fun r w => ∃ σ' : VS, Q r σ' ∧ w = wc E B σ') (AftU E A) A) (#[.ref (B 7), .ref (B 52)]) s (({ frames := 0, cells := 0, slots := 0, locals := 0 } : Room)).cells (({ frames := 0, cells := 0, slots := 0, locals := 0 } : Room)).slots A) A E (wc E B) 4 5 [(0, .ref (B 7)), (1, .ref (B 52)), (2, .int l2), (3, .int l3)] [] σ
    refine R_iload_n F dX2_leastOf_5 rfl 3 rfl ?_
    refine R_aload_n F dX2_leastOf_6 rfl 0 rfl ?_
    refine gc_RX2_37_7 F in_X2leastOfH dX2_leastOf_7 ?_
    refine gc_RX2_69_1 F in_X2leastOfH dX2_leastOf_10 ?_
    refine R_icmp_ge (tgt := 46) F dX2_leastOf_13 (by decide) (fun hc => ?_) (fun hc => ?_)
    · replace hw := hw.1 hc
      refine R_iload_n F dX2_leastOf_46 rfl 2 rfl ?_
      exact R_iret (Qc := Q) F rfl dX2_leastOf_47 hw
    · replace hw := hw.2 hc
      refine R_aload_n F dX2_leastOf_16 rfl 0 rfl ?_
      refine gc_RX2_25_7 F in_X2leastOfH dX2_leastOf_17 ?_
      refine R_iload_n F dX2_leastOf_20 rfl 3 rfl ?_
      refine R_ldi F qc_50 dX2_leastOf_21 hw.1 ?_
      replace hw := hw.2
      refine R_if_le (tgt := 40) F dX2_leastOf_22 (by decide) (fun hc => ?_) (fun hc => ?_)
      · replace hw := hw.1 hc
        exact R_sub [0, 1, 2, 3] rfl (J_40 l2 l3 σ hw)
      · replace hw := hw.2 hc
        refine R_iload_n F dX2_leastOf_25 rfl 2 rfl ?_
        refine R_if_lt (tgt := 38) F dX2_leastOf_26 (by decide) (fun hc => ?_) (fun hc => ?_)
        · replace hw := hw.1 hc
          exact R_sub [0, 1, 3] rfl (J_38 l3 σ hw)
        · replace hw := hw.2 hc
          refine R_aload_n F dX2_leastOf_29 rfl 1 rfl ?_
          refine R_iload_n F dX2_leastOf_30 rfl 3 rfl ?_
          refine R_ldi F qc_52 dX2_leastOf_31 hw.1 ?_
          replace hw := hw.2
          refine R_aload_n F dX2_leastOf_32 rfl 1 rfl ?_
          refine R_iload_n F dX2_leastOf_33 rfl 2 rfl ?_
          refine R_ldi F qc_52 dX2_leastOf_34 hw.1 ?_
          replace hw := hw.2
          refine R_icmp_ge (tgt := 40) F dX2_leastOf_35 (by decide) (fun hc => ?_) (fun hc => ?_)
          · replace hw := hw.1 hc
            exact R_sub [0, 1, 2, 3] rfl (J_40 l2 l3 σ hw)
          · replace hw := hw.2 hc
            exact R_sub [0, 1, 3] rfl (J_38 l3 σ hw)
  unfold wp_X2leastOfH at hw
  replace hw := hw X5 C_5
  refine R_bipush F (-5) dX2_leastOf_0 (by decide) ?_
  refine R_istore_n (lv' := [(2, .int (-5)), (0, .ref (B 7)), (1, .ref (B 52))]) F dX2_leastOf_2 rfl (by decide) rfl ?_
  refine R_iconst F 0 dX2_leastOf_3 (by decide) ?_
  refine R_istore_n (lv' := [(3, .int 0), (2, .int (-5)), (0, .ref (B 7)), (1, .ref (B 52))]) F dX2_leastOf_4 rfl (by decide) rfl ?_
  exact R_sub [2, 3, 1, 0] rfl (U_5 (-5) 0 σ hw)
def b_X2isAnyTold_16 (Q : Int32 → VS → Prop) (k0 : Int32) (σ : VS) : Prop := (Bo k0 ∧ Q k0 σ)
def wp_X2isAnyTold (Q : Int32 → VS → Prop) (σ : VS) : Prop := wp_X2leastOfS (fun (r1 : Int32) (σ2 : VS) => ((r1.toInt < 0 → b_X2isAnyTold_16 Q 0 σ2) ∧ (0 ≤ r1.toInt → b_X2isAnyTold_16 Q 1 σ2))) σ
theorem dX2_isAnyTold_0 : decode cX2_isAnyTold 0 = .ok (.aload_n 0, 1) := by decide +kernel
theorem dX2_isAnyTold_1 : decode cX2_isAnyTold 1 = .ok (.aload_n 0, 1) := by decide +kernel
theorem dX2_isAnyTold_2 : decode cX2_isAnyTold 2 = .ok (.getfield 28, 3) := by decide +kernel
theorem dX2_isAnyTold_5 : decode cX2_isAnyTold 5 = .ok (.invokevirtual 100, 3) := by decide +kernel
theorem dX2_isAnyTold_8 : decode cX2_isAnyTold 8 = .ok (.ifCond .lt 7, 3) := by decide +kernel
theorem dX2_isAnyTold_15 : decode cX2_isAnyTold 15 = .ok (.iconst 0, 1) := by decide +kernel
theorem dX2_isAnyTold_11 : decode cX2_isAnyTold 11 = .ok (.iconst 1, 1) := by decide +kernel
theorem dX2_isAnyTold_12 : decode cX2_isAnyTold 12 = .ok (.goto 4, 3) := by decide +kernel
theorem dX2_isAnyTold_16 : decode cX2_isAnyTold 16 = .ok (.ireturn, 1) := by decide +kernel
def wo_X2isAnyTold : List Cond := [.code yX2_isAnyTold cX2_isAnyTold 1 (some .boolean), .methodLink RX2 100 yX2_leastOf, .instanceMethod yX2_leastOf, .selects RX2 yX2_leastOf yX2_leastOf, .initialized RX2]
def wr_X2isAnyTold : List Cond := (wfC ++ (w_X2leastOfS ++ ([])))
def w_X2isAnyTold : List Cond := wo_X2isAnyTold ++ wr_X2isAnyTold
theorem wg_X2isAnyTold : GW w_X2isAnyTold := GW_app (GW_of (by decide +kernel)) (GW_app (wg_fC) (GW_app (wg_X2leastOfS) (GW_nil)))
theorem in_X2isAnyTold : ∀ w ∈ wfC, w ∈ w_X2isAnyTold := fun _ h => List.mem_append_right _ (List.mem_append_left _ h)
theorem g_X2isAnyTold_X2leastOfS_100 : GoodIn w_X2isAnyTold (wsV RX2 100 RX2 yX2_leastOf w_X2leastOfS) := goodIn_app (gi_left (goodIn_of _ (by decide +kernel))) (fun w h => ⟨List.mem_append_right _ (List.mem_append_right _ (List.mem_append_left _ h)), wg_X2leastOfS w h⟩)
set_option maxHeartbeats 4000000 in
set_option maxRecDepth 100000 in
theorem ct_X2isAnyTold (l : Launch) (E : gE) (B : Nat → Nat) (Q : Int32 → VS → Prop) (σ : VS) (hw : wp_X2isAnyTold Q σ) : CtI l E yX2_isAnyTold w_X2isAnyTold (({ frames := 1, cells := 0, slots := 0, locals := 23 } : Room)) (wc E B σ) [.ref (B 7)] (fun r w => ∃ σ' : VS, Q r σ' ∧ w = wc E B σ') := by
  refine VC_I (cc := cX2_isAnyTold) (mL := 1) (rt := (some .boolean)) (lv0 := [(0, .ref (B 7))]) rfl (by decide) rfl (Nat.le_of_ble_eq_true rfl) ?_
  intro p e s m below meth c A F
  replace F : Fx p s m _ meth c A E cX2_isAnyTold 1 (some .boolean) RX2 w_X2isAnyTold := F
  have J_16 : ∀ (k0 : Int32) (σ : VS), b_X2isAnyTold_16 Q k0 σ → WB p l e (({ frames := 1, cells := 0, slots := 0, locals := 23 } : Room)) s m (#[.ref (B 7)]) below meth c (MQ below (va_Qi (fun r w => ∃ σ' : VS, Q r σ' ∧ w = wc E B σ') (AftU E A) A) (#[.ref (B 7)]) s (({ frames := 1, cells := 0, slots := 0, locals := 23 } : Room)).cells (({ frames := 1, cells := 0, slots := 0, locals := 23 } : Room)).slots A) A E (wc E B) 1 16 [] [.int k0] σ := by
    intro k0 σ hw
    unfold b_X2isAnyTold_16 at hw
    exact R_iret (Qc := Q) F (nb_01 hw.1) dX2_isAnyTold_16 hw.2
  unfold wp_X2isAnyTold at hw
  refine R_aload_n F dX2_isAnyTold_0 rfl 0 rfl ?_
  refine R_aload_n F dX2_isAnyTold_1 rfl 0 rfl ?_
  refine gc_RX2_28_7 F in_X2isAnyTold dX2_isAnyTold_2 ?_
  refine R_callI (As := [.ref (B 51)]) (C := RX2) (q0 := 7) (ci := 2) (N := 13) (T := TX2) (fs := cf_7 B) F (ct_X2leastOfS l E B _ _ hw) (cwV 1 F.2.2.2.2.2.2.2.2.2.2 g_X2isAnyTold_X2leastOfS_100 rfl rfl rfl (by decide +kernel) ⟨Nat.le_of_ble_eq_true rfl, Nat.le_of_ble_eq_true rfl⟩) ⟨rfl, rfl⟩ rfl (fun _ => rfl) rfl rfl (Nat.le_of_ble_eq_true rfl) dX2_isAnyTold_5 (fun r1 σ2 hw => ?_)
  refine R_if_lt (tgt := 15) F dX2_isAnyTold_8 (by decide) (fun hc => ?_) (fun hc => ?_)
  · replace hw := hw.1 hc
    refine R_iconst F 0 dX2_isAnyTold_15 (by decide) ?_
    exact R_sub [] rfl (J_16 0 σ2 hw)
  · replace hw := hw.2 hc
    refine R_iconst F 1 dX2_isAnyTold_11 (by decide) ?_
    refine R_goto (tgt := 16) F dX2_isAnyTold_12 (by decide) ?_
    exact R_sub [] rfl (J_16 1 σ2 hw)
def b_X2leastSlack_24 (Q : Int32 → VS → Prop) (k0 : Int32) (σ : VS) : Prop := Q k0 σ
def wp_X2leastSlack (Q : Int32 → VS → Prop) (σ : VS) : Prop := wp_X2leastOfS (fun (r1 : Int32) (σ2 : VS) => ((0 ≤ r1.toInt → (In r1 50 ∧ b_X2leastSlack_24 Q (rd σ2 51 r1) σ2)) ∧ (r1.toInt < 0 → b_X2leastSlack_24 Q 1000000000 σ2))) σ
theorem dX2_leastSlack_0 : decode cX2_leastSlack 0 = .ok (.aload_n 0, 1) := by decide +kernel
theorem dX2_leastSlack_1 : decode cX2_leastSlack 1 = .ok (.aload_n 0, 1) := by decide +kernel
theorem dX2_leastSlack_2 : decode cX2_leastSlack 2 = .ok (.getfield 28, 3) := by decide +kernel
theorem dX2_leastSlack_5 : decode cX2_leastSlack 5 = .ok (.invokevirtual 100, 3) := by decide +kernel
theorem dX2_leastSlack_8 : decode cX2_leastSlack 8 = .ok (.istore_n 1, 1) := by decide +kernel
theorem dX2_leastSlack_9 : decode cX2_leastSlack 9 = .ok (.iload_n 1, 1) := by decide +kernel
theorem dX2_leastSlack_10 : decode cX2_leastSlack 10 = .ok (.ifCond .ge 8, 3) := by decide +kernel
theorem dX2_leastSlack_18 : decode cX2_leastSlack 18 = .ok (.aload_n 0, 1) := by decide +kernel
theorem dX2_leastSlack_19 : decode cX2_leastSlack 19 = .ok (.getfield 28, 3) := by decide +kernel
theorem dX2_leastSlack_22 : decode cX2_leastSlack 22 = .ok (.iload_n 1, 1) := by decide +kernel
theorem dX2_leastSlack_23 : decode cX2_leastSlack 23 = .ok (.iaload, 1) := by decide +kernel
theorem dX2_leastSlack_13 : decode cX2_leastSlack 13 = .ok (.ldc 68, 2) := by decide +kernel
theorem dX2_leastSlack_15 : decode cX2_leastSlack 15 = .ok (.goto 9, 3) := by decide +kernel
theorem dX2_leastSlack_24 : decode cX2_leastSlack 24 = .ok (.ireturn, 1) := by decide +kernel
def wo_X2leastSlack : List Cond := [.code yX2_leastSlack cX2_leastSlack 2 (some .int), .methodLink RX2 100 yX2_leastOf, .instanceMethod yX2_leastOf, .selects RX2 yX2_leastOf yX2_leastOf, .initialized RX2, .constant RX2 68 1000000000]
def wr_X2leastSlack : List Cond := (wfC ++ (w_X2leastOfS ++ ([])))
def w_X2leastSlack : List Cond := wo_X2leastSlack ++ wr_X2leastSlack
theorem wg_X2leastSlack : GW w_X2leastSlack := GW_app (GW_of (by decide +kernel)) (GW_app (wg_fC) (GW_app (wg_X2leastOfS) (GW_nil)))
theorem in_X2leastSlack : ∀ w ∈ wfC, w ∈ w_X2leastSlack := fun _ h => List.mem_append_right _ (List.mem_append_left _ h)
theorem g_X2leastSlack_X2leastOfS_100 : GoodIn w_X2leastSlack (wsV RX2 100 RX2 yX2_leastOf w_X2leastOfS) := goodIn_app (gi_left (goodIn_of _ (by decide +kernel))) (fun w h => ⟨List.mem_append_right _ (List.mem_append_right _ (List.mem_append_left _ h)), wg_X2leastOfS w h⟩)
set_option maxHeartbeats 4000000 in
set_option maxRecDepth 100000 in
theorem ct_X2leastSlack (l : Launch) (E : gE) (B : Nat → Nat) (Q : Int32 → VS → Prop) (σ : VS) (hw : wp_X2leastSlack Q σ) : CtI l E yX2_leastSlack w_X2leastSlack (({ frames := 1, cells := 0, slots := 0, locals := 23 } : Room)) (wc E B σ) [.ref (B 7)] (fun r w => ∃ σ' : VS, Q r σ' ∧ w = wc E B σ') := by
  refine VC_I (cc := cX2_leastSlack) (mL := 2) (rt := (some .int)) (lv0 := [(0, .ref (B 7))]) rfl (by decide) rfl (Nat.le_of_ble_eq_true rfl) ?_
  intro p e s m below meth c A F
  replace F : Fx p s m _ meth c A E cX2_leastSlack 2 (some .int) RX2 w_X2leastSlack := F
  have J_24 : ∀ (k0 : Int32) (σ : VS), b_X2leastSlack_24 Q k0 σ → WB p l e (({ frames := 1, cells := 0, slots := 0, locals := 23 } : Room)) s m (#[.ref (B 7)]) below meth c (MQ below (va_Qi (fun r w => ∃ σ' : VS, Q r σ' ∧ w = wc E B σ') (AftU E A) A) (#[.ref (B 7)]) s (({ frames := 1, cells := 0, slots := 0, locals := 23 } : Room)).cells (({ frames := 1, cells := 0, slots := 0, locals := 23 } : Room)).slots A) A E (wc E B) 2 24 [] [.int k0] σ := by
    intro k0 σ hw
    unfold b_X2leastSlack_24 at hw
    exact R_iret (Qc := Q) F rfl dX2_leastSlack_24 hw
  unfold wp_X2leastSlack at hw
  refine R_aload_n F dX2_leastSlack_0 rfl 0 rfl ?_
  refine R_aload_n F dX2_leastSlack_1 rfl 0 rfl ?_
  refine gc_RX2_28_7 F in_X2leastSlack dX2_leastSlack_2 ?_
  refine R_callI (As := [.ref (B 51)]) (C := RX2) (q0 := 7) (ci := 2) (N := 13) (T := TX2) (fs := cf_7 B) F (ct_X2leastOfS l E B _ _ hw) (cwV 1 F.2.2.2.2.2.2.2.2.2.2 g_X2leastSlack_X2leastOfS_100 rfl rfl rfl (by decide +kernel) ⟨Nat.le_of_ble_eq_true rfl, Nat.le_of_ble_eq_true rfl⟩) ⟨rfl, rfl⟩ rfl (fun _ => rfl) rfl rfl (Nat.le_of_ble_eq_true rfl) dX2_leastSlack_5 (fun r1 σ2 hw => ?_)
  refine R_istore_n (lv' := [(1, .int r1), (0, .ref (B 7))]) F dX2_leastSlack_8 rfl (by decide) rfl ?_
  refine R_iload_n F dX2_leastSlack_9 rfl 0 rfl ?_
  refine R_if_ge (tgt := 18) F dX2_leastSlack_10 (by decide) (fun hc => ?_) (fun hc => ?_)
  · replace hw := hw.1 hc
    refine R_aload_n F dX2_leastSlack_18 rfl 1 rfl ?_
    refine gc_RX2_28_7 F in_X2leastSlack dX2_leastSlack_19 ?_
    refine R_iload_n F dX2_leastSlack_22 rfl 0 rfl ?_
    refine R_ldi F qc_51 dX2_leastSlack_23 hw.1 ?_
    replace hw := hw.2
    exact R_sub [] rfl (J_24 (rd σ2 51 r1) σ2 hw)
  · replace hw := hw.2 hc
    refine R_ldc F 1000000000 (List.mem_append_left _ (show Cond.constant RX2 68 1000000000 ∈ wo_X2leastSlack by decide +kernel)) dX2_leastSlack_13 ?_
    refine R_goto (tgt := 24) F dX2_leastSlack_15 (by decide) ?_
    exact R_sub [] rfl (J_24 1000000000 σ2 hw)
def b_X2leastHold_24 (Q : Int32 → VS → Prop) (k0 : Int32) (σ : VS) : Prop := Q k0 σ
def wp_X2leastHold (Q : Int32 → VS → Prop) (σ : VS) : Prop := wp_X2leastOfH (fun (r1 : Int32) (σ2 : VS) => ((0 ≤ r1.toInt → (In r1 50 ∧ b_X2leastHold_24 Q (rd σ2 52 r1) σ2)) ∧ (r1.toInt < 0 → b_X2leastHold_24 Q 1000000000 σ2))) σ
theorem dX2_leastHold_0 : decode cX2_leastHold 0 = .ok (.aload_n 0, 1) := by decide +kernel
theorem dX2_leastHold_1 : decode cX2_leastHold 1 = .ok (.aload_n 0, 1) := by decide +kernel
theorem dX2_leastHold_2 : decode cX2_leastHold 2 = .ok (.getfield 31, 3) := by decide +kernel
theorem dX2_leastHold_5 : decode cX2_leastHold 5 = .ok (.invokevirtual 100, 3) := by decide +kernel
theorem dX2_leastHold_8 : decode cX2_leastHold 8 = .ok (.istore_n 1, 1) := by decide +kernel
theorem dX2_leastHold_9 : decode cX2_leastHold 9 = .ok (.iload_n 1, 1) := by decide +kernel
theorem dX2_leastHold_10 : decode cX2_leastHold 10 = .ok (.ifCond .ge 8, 3) := by decide +kernel
theorem dX2_leastHold_18 : decode cX2_leastHold 18 = .ok (.aload_n 0, 1) := by decide +kernel
theorem dX2_leastHold_19 : decode cX2_leastHold 19 = .ok (.getfield 31, 3) := by decide +kernel
theorem dX2_leastHold_22 : decode cX2_leastHold 22 = .ok (.iload_n 1, 1) := by decide +kernel
theorem dX2_leastHold_23 : decode cX2_leastHold 23 = .ok (.iaload, 1) := by decide +kernel
theorem dX2_leastHold_13 : decode cX2_leastHold 13 = .ok (.ldc 68, 2) := by decide +kernel
theorem dX2_leastHold_15 : decode cX2_leastHold 15 = .ok (.goto 9, 3) := by decide +kernel
theorem dX2_leastHold_24 : decode cX2_leastHold 24 = .ok (.ireturn, 1) := by decide +kernel
def wo_X2leastHold : List Cond := [.code yX2_leastHold cX2_leastHold 2 (some .int), .methodLink RX2 100 yX2_leastOf, .instanceMethod yX2_leastOf, .selects RX2 yX2_leastOf yX2_leastOf, .initialized RX2, .constant RX2 68 1000000000]
def wr_X2leastHold : List Cond := (wfC ++ (w_X2leastOfH ++ ([])))
def w_X2leastHold : List Cond := wo_X2leastHold ++ wr_X2leastHold
theorem wg_X2leastHold : GW w_X2leastHold := GW_app (GW_of (by decide +kernel)) (GW_app (wg_fC) (GW_app (wg_X2leastOfH) (GW_nil)))
theorem in_X2leastHold : ∀ w ∈ wfC, w ∈ w_X2leastHold := fun _ h => List.mem_append_right _ (List.mem_append_left _ h)
theorem g_X2leastHold_X2leastOfH_100 : GoodIn w_X2leastHold (wsV RX2 100 RX2 yX2_leastOf w_X2leastOfH) := goodIn_app (gi_left (goodIn_of _ (by decide +kernel))) (fun w h => ⟨List.mem_append_right _ (List.mem_append_right _ (List.mem_append_left _ h)), wg_X2leastOfH w h⟩)
set_option maxHeartbeats 4000000 in
set_option maxRecDepth 100000 in
theorem ct_X2leastHold (l : Launch) (E : gE) (B : Nat → Nat) (Q : Int32 → VS → Prop) (σ : VS) (hw : wp_X2leastHold Q σ) : CtI l E yX2_leastHold w_X2leastHold (({ frames := 1, cells := 0, slots := 0, locals := 23 } : Room)) (wc E B σ) [.ref (B 7)] (fun r w => ∃ σ' : VS, Q r σ' ∧ w = wc E B σ') := by
  refine VC_I (cc := cX2_leastHold) (mL := 2) (rt := (some .int)) (lv0 := [(0, .ref (B 7))]) rfl (by decide) rfl (Nat.le_of_ble_eq_true rfl) ?_
  intro p e s m below meth c A F
  replace F : Fx p s m _ meth c A E cX2_leastHold 2 (some .int) RX2 w_X2leastHold := F
  have J_24 : ∀ (k0 : Int32) (σ : VS), b_X2leastHold_24 Q k0 σ → WB p l e (({ frames := 1, cells := 0, slots := 0, locals := 23 } : Room)) s m (#[.ref (B 7)]) below meth c (MQ below (va_Qi (fun r w => ∃ σ' : VS, Q r σ' ∧ w = wc E B σ') (AftU E A) A) (#[.ref (B 7)]) s (({ frames := 1, cells := 0, slots := 0, locals := 23 } : Room)).cells (({ frames := 1, cells := 0, slots := 0, locals := 23 } : Room)).slots A) A E (wc E B) 2 24 [] [.int k0] σ := by
    intro k0 σ hw
    unfold b_X2leastHold_24 at hw
    exact R_iret (Qc := Q) F rfl dX2_leastHold_24 hw
  unfold wp_X2leastHold at hw
  refine R_aload_n F dX2_leastHold_0 rfl 0 rfl ?_
  refine R_aload_n F dX2_leastHold_1 rfl 0 rfl ?_
  refine gc_RX2_31_7 F in_X2leastHold dX2_leastHold_2 ?_
  refine R_callI (As := [.ref (B 52)]) (C := RX2) (q0 := 7) (ci := 2) (N := 13) (T := TX2) (fs := cf_7 B) F (ct_X2leastOfH l E B _ _ hw) (cwV 1 F.2.2.2.2.2.2.2.2.2.2 g_X2leastHold_X2leastOfH_100 rfl rfl rfl (by decide +kernel) ⟨Nat.le_of_ble_eq_true rfl, Nat.le_of_ble_eq_true rfl⟩) ⟨rfl, rfl⟩ rfl (fun _ => rfl) rfl rfl (Nat.le_of_ble_eq_true rfl) dX2_leastHold_5 (fun r1 σ2 hw => ?_)
  refine R_istore_n (lv' := [(1, .int r1), (0, .ref (B 7))]) F dX2_leastHold_8 rfl (by decide) rfl ?_
  refine R_iload_n F dX2_leastHold_9 rfl 0 rfl ?_
  refine R_if_ge (tgt := 18) F dX2_leastHold_10 (by decide) (fun hc => ?_) (fun hc => ?_)
  · replace hw := hw.1 hc
    refine R_aload_n F dX2_leastHold_18 rfl 1 rfl ?_
    refine gc_RX2_31_7 F in_X2leastHold dX2_leastHold_19 ?_
    refine R_iload_n F dX2_leastHold_22 rfl 0 rfl ?_
    refine R_ldi F qc_52 dX2_leastHold_23 hw.1 ?_
    replace hw := hw.2
    exact R_sub [] rfl (J_24 (rd σ2 52 r1) σ2 hw)
  · replace hw := hw.2 hc
    refine R_ldc F 1000000000 (List.mem_append_left _ (show Cond.constant RX2 68 1000000000 ∈ wo_X2leastHold by decide +kernel)) dX2_leastHold_13 ?_
    refine R_goto (tgt := 24) F dX2_leastHold_15 (by decide) ?_
    exact R_sub [] rfl (J_24 1000000000 σ2 hw)
def b_X2sharedOf_26 (Q : Int32 → VS → Prop) (σ : VS) : Prop := Q 0 σ
def wp_X2sharedOf (Q : Int32 → VS → Prop) (p1 : Int32) (p2 : Int32) (σ : VS) : Prop := (In p1 50 ∧ (((rd σ 11 p1).toInt ≠ 4 → b_X2sharedOf_26 Q σ) ∧ ((rd σ 11 p1).toInt = 4 → (In p2 50 ∧ (((rd σ 11 p2).toInt = 4 → (In p1 50 ∧ (In p2 50 ∧ wp_X0sharedOf (fun (r1 : Int32) (σ2 : VS) => Q r1 σ2) (rd σ 25 p1) (rd σ 25 p2) σ))) ∧ ((rd σ 11 p2).toInt ≠ 4 → b_X2sharedOf_26 Q σ))))))
theorem dX2_sharedOf_0 : decode cX2_sharedOf 0 = .ok (.aload_n 0, 1) := by decide +kernel
theorem dX2_sharedOf_1 : decode cX2_sharedOf 1 = .ok (.getfield 37, 3) := by decide +kernel
theorem dX2_sharedOf_4 : decode cX2_sharedOf 4 = .ok (.getfield 104, 3) := by decide +kernel
theorem dX2_sharedOf_7 : decode cX2_sharedOf 7 = .ok (.iload_n 1, 1) := by decide +kernel
theorem dX2_sharedOf_8 : decode cX2_sharedOf 8 = .ok (.iaload, 1) := by decide +kernel
theorem dX2_sharedOf_9 : decode cX2_sharedOf 9 = .ok (.iconst 4, 1) := by decide +kernel
theorem dX2_sharedOf_10 : decode cX2_sharedOf 10 = .ok (.if_icmp .ne 16, 3) := by decide +kernel
theorem dX2_sharedOf_13 : decode cX2_sharedOf 13 = .ok (.aload_n 0, 1) := by decide +kernel
theorem dX2_sharedOf_14 : decode cX2_sharedOf 14 = .ok (.getfield 37, 3) := by decide +kernel
theorem dX2_sharedOf_17 : decode cX2_sharedOf 17 = .ok (.getfield 104, 3) := by decide +kernel
theorem dX2_sharedOf_20 : decode cX2_sharedOf 20 = .ok (.iload_n 2, 1) := by decide +kernel
theorem dX2_sharedOf_21 : decode cX2_sharedOf 21 = .ok (.iaload, 1) := by decide +kernel
theorem dX2_sharedOf_22 : decode cX2_sharedOf 22 = .ok (.iconst 4, 1) := by decide +kernel
theorem dX2_sharedOf_23 : decode cX2_sharedOf 23 = .ok (.if_icmp .eq 5, 3) := by decide +kernel
theorem dX2_sharedOf_28 : decode cX2_sharedOf 28 = .ok (.aload_n 0, 1) := by decide +kernel
theorem dX2_sharedOf_29 : decode cX2_sharedOf 29 = .ok (.getfield 45, 3) := by decide +kernel
theorem dX2_sharedOf_32 : decode cX2_sharedOf 32 = .ok (.aload_n 0, 1) := by decide +kernel
theorem dX2_sharedOf_33 : decode cX2_sharedOf 33 = .ok (.getfield 41, 3) := by decide +kernel
theorem dX2_sharedOf_36 : decode cX2_sharedOf 36 = .ok (.getfield 107, 3) := by decide +kernel
theorem dX2_sharedOf_39 : decode cX2_sharedOf 39 = .ok (.iload_n 1, 1) := by decide +kernel
theorem dX2_sharedOf_40 : decode cX2_sharedOf 40 = .ok (.iaload, 1) := by decide +kernel
theorem dX2_sharedOf_41 : decode cX2_sharedOf 41 = .ok (.aload_n 0, 1) := by decide +kernel
theorem dX2_sharedOf_42 : decode cX2_sharedOf 42 = .ok (.getfield 41, 3) := by decide +kernel
theorem dX2_sharedOf_45 : decode cX2_sharedOf 45 = .ok (.getfield 107, 3) := by decide +kernel
theorem dX2_sharedOf_48 : decode cX2_sharedOf 48 = .ok (.iload_n 2, 1) := by decide +kernel
theorem dX2_sharedOf_49 : decode cX2_sharedOf 49 = .ok (.iaload, 1) := by decide +kernel
theorem dX2_sharedOf_50 : decode cX2_sharedOf 50 = .ok (.invokevirtual 112, 3) := by decide +kernel
theorem dX2_sharedOf_53 : decode cX2_sharedOf 53 = .ok (.ireturn, 1) := by decide +kernel
theorem dX2_sharedOf_26 : decode cX2_sharedOf 26 = .ok (.iconst 0, 1) := by decide +kernel
theorem dX2_sharedOf_27 : decode cX2_sharedOf 27 = .ok (.ireturn, 1) := by decide +kernel
def wo_X2sharedOf : List Cond := [.code yX2_sharedOf cX2_sharedOf 3 (some .int), .methodLink RX2 112 yX0_sharedOf, .instanceMethod yX0_sharedOf, .selects RX0 yX0_sharedOf yX0_sharedOf, .initialized RX0]
def wr_X2sharedOf : List Cond := (wfC ++ (w_X0sharedOf ++ ([])))
def w_X2sharedOf : List Cond := wo_X2sharedOf ++ wr_X2sharedOf
theorem wg_X2sharedOf : GW w_X2sharedOf := GW_app (GW_of (by decide +kernel)) (GW_app (wg_fC) (GW_app (wg_X0sharedOf) (GW_nil)))
theorem in_X2sharedOf : ∀ w ∈ wfC, w ∈ w_X2sharedOf := fun _ h => List.mem_append_right _ (List.mem_append_left _ h)
theorem g_X2sharedOf_X0sharedOf_112 : GoodIn w_X2sharedOf (wsV RX2 112 RX0 yX0_sharedOf w_X0sharedOf) := goodIn_app (gi_left (goodIn_of _ (by decide +kernel))) (fun w h => ⟨List.mem_append_right _ (List.mem_append_right _ (List.mem_append_left _ h)), wg_X0sharedOf w h⟩)
set_option maxHeartbeats 4000000 in
set_option maxRecDepth 100000 in
theorem ct_X2sharedOf (l : Launch) (E : gE) (B : Nat → Nat) (Q : Int32 → VS → Prop) (p1 : Int32) (p2 : Int32) (σ : VS) (hw : wp_X2sharedOf Q p1 p2 σ) : CtI l E yX2_sharedOf w_X2sharedOf (({ frames := 1, cells := 0, slots := 0, locals := 25 } : Room)) (wc E B σ) [.ref (B 7), .int p1, .int p2] (fun r w => ∃ σ' : VS, Q r σ' ∧ w = wc E B σ') := by
  refine VC_I (cc := cX2_sharedOf) (mL := 3) (rt := (some .int)) (lv0 := [(0, .ref (B 7)), (1, .int p1), (2, .int p2)]) rfl (by decide) rfl (Nat.le_of_ble_eq_true rfl) ?_
  intro p e s m below meth c A F
  replace F : Fx p s m _ meth c A E cX2_sharedOf 3 (some .int) RX2 w_X2sharedOf := F
  have J_26 : ∀ (σ : VS), b_X2sharedOf_26 Q σ → WB p l e (({ frames := 1, cells := 0, slots := 0, locals := 25 } : Room)) s m (#[.ref (B 7), .int p1, .int p2]) below meth c (MQ below (va_Qi (fun r w => ∃ σ' : VS, Q r σ' ∧ w = wc E B σ') (AftU E A) A) (#[.ref (B 7), .int p1, .int p2]) s (({ frames := 1, cells := 0, slots := 0, locals := 25 } : Room)).cells (({ frames := 1, cells := 0, slots := 0, locals := 25 } : Room)).slots A) A E (wc E B) 3 26 [] [] σ := by
    intro σ hw
    unfold b_X2sharedOf_26 at hw
    refine R_iconst F 0 dX2_sharedOf_26 (by decide) ?_
    exact R_iret (Qc := Q) F rfl dX2_sharedOf_27 hw
  unfold wp_X2sharedOf at hw
  refine R_aload_n F dX2_sharedOf_0 rfl 0 rfl ?_
  refine gc_RX2_37_7 F in_X2sharedOf dX2_sharedOf_1 ?_
  refine gc_RX2_104_1 F in_X2sharedOf dX2_sharedOf_4 ?_
  refine R_iload_n F dX2_sharedOf_7 rfl 1 rfl ?_
  refine R_ldi F qc_11 dX2_sharedOf_8 hw.1 ?_
  replace hw := hw.2
  refine R_iconst F 4 dX2_sharedOf_9 (by decide) ?_
  refine R_icmp_ne (tgt := 26) F dX2_sharedOf_10 (by decide) (fun hc => ?_) (fun hc => ?_)
  · replace hw := hw.1 hc
    exact R_sub [] rfl (J_26 σ hw)
  · replace hw := hw.2 hc
    refine R_aload_n F dX2_sharedOf_13 rfl 0 rfl ?_
    refine gc_RX2_37_7 F in_X2sharedOf dX2_sharedOf_14 ?_
    refine gc_RX2_104_1 F in_X2sharedOf dX2_sharedOf_17 ?_
    refine R_iload_n F dX2_sharedOf_20 rfl 2 rfl ?_
    refine R_ldi F qc_11 dX2_sharedOf_21 hw.1 ?_
    replace hw := hw.2
    refine R_iconst F 4 dX2_sharedOf_22 (by decide) ?_
    refine R_icmp_eq (tgt := 28) F dX2_sharedOf_23 (by decide) (fun hc => ?_) (fun hc => ?_)
    · replace hw := hw.1 hc
      refine R_aload_n F dX2_sharedOf_28 rfl 0 rfl ?_
      refine gc_RX2_45_7 F in_X2sharedOf dX2_sharedOf_29 ?_
      refine R_aload_n F dX2_sharedOf_32 rfl 0 rfl ?_
      refine gc_RX2_41_7 F in_X2sharedOf dX2_sharedOf_33 ?_
      refine gc_RX2_107_2 F in_X2sharedOf dX2_sharedOf_36 ?_
      refine R_iload_n F dX2_sharedOf_39 rfl 1 rfl ?_
      refine R_ldi F qc_25 dX2_sharedOf_40 hw.1 ?_
      replace hw := hw.2
      refine R_aload_n F dX2_sharedOf_41 rfl 0 rfl ?_
      refine gc_RX2_41_7 F in_X2sharedOf dX2_sharedOf_42 ?_
      refine gc_RX2_107_2 F in_X2sharedOf dX2_sharedOf_45 ?_
      refine R_iload_n F dX2_sharedOf_48 rfl 2 rfl ?_
      refine R_ldi F qc_25 dX2_sharedOf_49 hw.1 ?_
      replace hw := hw.2
      refine R_callI (As := [.int (rd σ 25 p1), .int (rd σ 25 p2)]) (C := RX0) (q0 := 3) (ci := 0) (N := 5) (T := TX0) (fs := cf_3 B) F (ct_X0sharedOf l E B _ (rd σ 25 p1) (rd σ 25 p2) _ hw) (cwV 2 F.2.2.2.2.2.2.2.2.2.2 g_X2sharedOf_X0sharedOf_112 rfl rfl rfl (by decide +kernel) ⟨Nat.le_of_ble_eq_true rfl, Nat.le_of_ble_eq_true rfl⟩) ⟨rfl, rfl⟩ rfl (fun _ => rfl) rfl rfl (Nat.le_of_ble_eq_true rfl) dX2_sharedOf_50 (fun r1 σ2 hw => ?_)
      exact R_iret (Qc := Q) F rfl dX2_sharedOf_53 hw
    · replace hw := hw.2 hc
      exact R_sub [] rfl (J_26 σ hw)
def wp_X2slackRoom (Q : Int32 → VS → Prop) (p1 : Int32) (p2 : Int32) (σ : VS) : Prop := (In p2 50 ∧ wp_X0earlyOf (fun (r1 : Int32) (σ2 : VS) => (In p2 50 ∧ wp_X2sharedOf (fun (r3 : Int32) (σ4 : VS) => Q ((r1 - (rd σ2 26 p2)) + r3) σ4) p1 p2 σ2)) (rd σ 25 p2) σ)
theorem dX2_slackRoom_0 : decode cX2_slackRoom 0 = .ok (.aload_n 0, 1) := by decide +kernel
theorem dX2_slackRoom_1 : decode cX2_slackRoom 1 = .ok (.getfield 45, 3) := by decide +kernel
theorem dX2_slackRoom_4 : decode cX2_slackRoom 4 = .ok (.aload_n 0, 1) := by decide +kernel
theorem dX2_slackRoom_5 : decode cX2_slackRoom 5 = .ok (.getfield 41, 3) := by decide +kernel
theorem dX2_slackRoom_8 : decode cX2_slackRoom 8 = .ok (.getfield 107, 3) := by decide +kernel
theorem dX2_slackRoom_11 : decode cX2_slackRoom 11 = .ok (.iload_n 2, 1) := by decide +kernel
theorem dX2_slackRoom_12 : decode cX2_slackRoom 12 = .ok (.iaload, 1) := by decide +kernel
theorem dX2_slackRoom_13 : decode cX2_slackRoom 13 = .ok (.invokevirtual 118, 3) := by decide +kernel
theorem dX2_slackRoom_16 : decode cX2_slackRoom 16 = .ok (.aload_n 0, 1) := by decide +kernel
theorem dX2_slackRoom_17 : decode cX2_slackRoom 17 = .ok (.getfield 41, 3) := by decide +kernel
theorem dX2_slackRoom_20 : decode cX2_slackRoom 20 = .ok (.getfield 122, 3) := by decide +kernel
theorem dX2_slackRoom_23 : decode cX2_slackRoom 23 = .ok (.iload_n 2, 1) := by decide +kernel
theorem dX2_slackRoom_24 : decode cX2_slackRoom 24 = .ok (.iaload, 1) := by decide +kernel
theorem dX2_slackRoom_25 : decode cX2_slackRoom 25 = .ok (.isub, 1) := by decide +kernel
theorem dX2_slackRoom_26 : decode cX2_slackRoom 26 = .ok (.aload_n 0, 1) := by decide +kernel
theorem dX2_slackRoom_27 : decode cX2_slackRoom 27 = .ok (.iload_n 1, 1) := by decide +kernel
theorem dX2_slackRoom_28 : decode cX2_slackRoom 28 = .ok (.iload_n 2, 1) := by decide +kernel
theorem dX2_slackRoom_29 : decode cX2_slackRoom 29 = .ok (.invokevirtual 125, 3) := by decide +kernel
theorem dX2_slackRoom_32 : decode cX2_slackRoom 32 = .ok (.iadd, 1) := by decide +kernel
theorem dX2_slackRoom_33 : decode cX2_slackRoom 33 = .ok (.ireturn, 1) := by decide +kernel
def wo_X2slackRoom : List Cond := [.code yX2_slackRoom cX2_slackRoom 3 (some .int), .methodLink RX2 118 yX0_earlyOf, .instanceMethod yX0_earlyOf, .selects RX0 yX0_earlyOf yX0_earlyOf, .initialized RX0, .methodLink RX2 125 yX2_sharedOf, .instanceMethod yX2_sharedOf, .selects RX2 yX2_sharedOf yX2_sharedOf, .initialized RX2]
def wr_X2slackRoom : List Cond := (wfC ++ (w_X0earlyOf ++ (w_X2sharedOf ++ ([]))))
def w_X2slackRoom : List Cond := wo_X2slackRoom ++ wr_X2slackRoom
theorem wg_X2slackRoom : GW w_X2slackRoom := GW_app (GW_of (by decide +kernel)) (GW_app (wg_fC) (GW_app (wg_X0earlyOf) (GW_app (wg_X2sharedOf) (GW_nil))))
theorem in_X2slackRoom : ∀ w ∈ wfC, w ∈ w_X2slackRoom := fun _ h => List.mem_append_right _ (List.mem_append_left _ h)
theorem g_X2slackRoom_X0earlyOf_118 : GoodIn w_X2slackRoom (wsV RX2 118 RX0 yX0_earlyOf w_X0earlyOf) := goodIn_app (gi_left (goodIn_of _ (by decide +kernel))) (fun w h => ⟨List.mem_append_right _ (List.mem_append_right _ (List.mem_append_left _ h)), wg_X0earlyOf w h⟩)
theorem g_X2slackRoom_X2sharedOf_125 : GoodIn w_X2slackRoom (wsV RX2 125 RX2 yX2_sharedOf w_X2sharedOf) := goodIn_app (gi_left (goodIn_of _ (by decide +kernel))) (fun w h => ⟨List.mem_append_right _ (List.mem_append_right _ (List.mem_append_right _ (List.mem_append_left _ h))), wg_X2sharedOf w h⟩)
set_option maxHeartbeats 4000000 in
set_option maxRecDepth 100000 in
theorem ct_X2slackRoom (l : Launch) (E : gE) (B : Nat → Nat) (Q : Int32 → VS → Prop) (p1 : Int32) (p2 : Int32) (σ : VS) (hw : wp_X2slackRoom Q p1 p2 σ) : CtI l E yX2_slackRoom w_X2slackRoom (({ frames := 2, cells := 0, slots := 0, locals := 47 } : Room)) (wc E B σ) [.ref (B 7), .int p1, .int p2] (fun r w => ∃ σ' : VS, Q r σ' ∧ w = wc E B σ') := by
  refine VC_I (cc := cX2_slackRoom) (mL := 3) (rt := (some .int)) (lv0 := [(0, .ref (B 7)), (1, .int p1), (2, .int p2)]) rfl (by decide) rfl (Nat.le_of_ble_eq_true rfl) ?_
  intro p e s m below meth c A F
  replace F : Fx p s m _ meth c A E cX2_slackRoom 3 (some .int) RX2 w_X2slackRoom := F
  unfold wp_X2slackRoom at hw
  refine R_aload_n F dX2_slackRoom_0 rfl 0 rfl ?_
  refine gc_RX2_45_7 F in_X2slackRoom dX2_slackRoom_1 ?_
  refine R_aload_n F dX2_slackRoom_4 rfl 0 rfl ?_
  refine gc_RX2_41_7 F in_X2slackRoom dX2_slackRoom_5 ?_
  refine gc_RX2_107_2 F in_X2slackRoom dX2_slackRoom_8 ?_
  refine R_iload_n F dX2_slackRoom_11 rfl 2 rfl ?_
  refine R_ldi F qc_25 dX2_slackRoom_12 hw.1 ?_
  replace hw := hw.2
  refine R_callI (As := [.int (rd σ 25 p2)]) (C := RX0) (q0 := 3) (ci := 0) (N := 5) (T := TX0) (fs := cf_3 B) F (ct_X0earlyOf l E B _ (rd σ 25 p2) _ hw) (cwV 1 F.2.2.2.2.2.2.2.2.2.2 g_X2slackRoom_X0earlyOf_118 rfl rfl rfl (by decide +kernel) ⟨Nat.le_of_ble_eq_true rfl, Nat.le_of_ble_eq_true rfl⟩) ⟨rfl, rfl⟩ rfl (fun _ => rfl) rfl rfl (Nat.le_of_ble_eq_true rfl) dX2_slackRoom_13 (fun r1 σ2 hw => ?_)
  refine R_aload_n F dX2_slackRoom_16 rfl 0 rfl ?_
  refine gc_RX2_41_7 F in_X2slackRoom dX2_slackRoom_17 ?_
  refine gc_RX2_122_2 F in_X2slackRoom dX2_slackRoom_20 ?_
  refine R_iload_n F dX2_slackRoom_23 rfl 2 rfl ?_
  refine R_ldi F qc_26 dX2_slackRoom_24 hw.1 ?_
  replace hw := hw.2
  refine R_isub F dX2_slackRoom_25 ?_
  refine R_aload_n F dX2_slackRoom_26 rfl 0 rfl ?_
  refine R_iload_n F dX2_slackRoom_27 rfl 1 rfl ?_
  refine R_iload_n F dX2_slackRoom_28 rfl 2 rfl ?_
  refine R_callI (As := [.int p1, .int p2]) (C := RX2) (q0 := 7) (ci := 2) (N := 13) (T := TX2) (fs := cf_7 B) F (ct_X2sharedOf l E B _ p1 p2 _ hw) (cwV 2 F.2.2.2.2.2.2.2.2.2.2 g_X2slackRoom_X2sharedOf_125 rfl rfl rfl (by decide +kernel) ⟨Nat.le_of_ble_eq_true rfl, Nat.le_of_ble_eq_true rfl⟩) ⟨rfl, rfl⟩ rfl (fun _ => rfl) rfl rfl (Nat.le_of_ble_eq_true rfl) dX2_slackRoom_29 (fun r3 σ4 hw => ?_)
  refine R_iadd F dX2_slackRoom_32 ?_
  exact R_iret (Qc := Q) F rfl dX2_slackRoom_33 hw
def wp_X2holdRoom (Q : Int32 → VS → Prop) (p1 : Int32) (p2 : Int32) (σ : VS) : Prop := wp_X2sharedOf (fun (r1 : Int32) (σ2 : VS) => (In p2 50 ∧ wp_X0lateOf (fun (r3 : Int32) (σ4 : VS) => (In p2 50 ∧ Q ((r1 - r3) - (rd σ4 27 p2)) σ4)) (rd σ2 25 p2) σ2)) p1 p2 σ
theorem dX2_holdRoom_0 : decode cX2_holdRoom 0 = .ok (.aload_n 0, 1) := by decide +kernel
theorem dX2_holdRoom_1 : decode cX2_holdRoom 1 = .ok (.iload_n 1, 1) := by decide +kernel
theorem dX2_holdRoom_2 : decode cX2_holdRoom 2 = .ok (.iload_n 2, 1) := by decide +kernel
theorem dX2_holdRoom_3 : decode cX2_holdRoom 3 = .ok (.invokevirtual 125, 3) := by decide +kernel
theorem dX2_holdRoom_6 : decode cX2_holdRoom 6 = .ok (.aload_n 0, 1) := by decide +kernel
theorem dX2_holdRoom_7 : decode cX2_holdRoom 7 = .ok (.getfield 45, 3) := by decide +kernel
theorem dX2_holdRoom_10 : decode cX2_holdRoom 10 = .ok (.aload_n 0, 1) := by decide +kernel
theorem dX2_holdRoom_11 : decode cX2_holdRoom 11 = .ok (.getfield 41, 3) := by decide +kernel
theorem dX2_holdRoom_14 : decode cX2_holdRoom 14 = .ok (.getfield 107, 3) := by decide +kernel
theorem dX2_holdRoom_17 : decode cX2_holdRoom 17 = .ok (.iload_n 2, 1) := by decide +kernel
theorem dX2_holdRoom_18 : decode cX2_holdRoom 18 = .ok (.iaload, 1) := by decide +kernel
theorem dX2_holdRoom_19 : decode cX2_holdRoom 19 = .ok (.invokevirtual 126, 3) := by decide +kernel
theorem dX2_holdRoom_22 : decode cX2_holdRoom 22 = .ok (.isub, 1) := by decide +kernel
theorem dX2_holdRoom_23 : decode cX2_holdRoom 23 = .ok (.aload_n 0, 1) := by decide +kernel
theorem dX2_holdRoom_24 : decode cX2_holdRoom 24 = .ok (.getfield 41, 3) := by decide +kernel
theorem dX2_holdRoom_27 : decode cX2_holdRoom 27 = .ok (.getfield 129, 3) := by decide +kernel
theorem dX2_holdRoom_30 : decode cX2_holdRoom 30 = .ok (.iload_n 2, 1) := by decide +kernel
theorem dX2_holdRoom_31 : decode cX2_holdRoom 31 = .ok (.iaload, 1) := by decide +kernel
theorem dX2_holdRoom_32 : decode cX2_holdRoom 32 = .ok (.isub, 1) := by decide +kernel
theorem dX2_holdRoom_33 : decode cX2_holdRoom 33 = .ok (.ireturn, 1) := by decide +kernel
def wo_X2holdRoom : List Cond := [.code yX2_holdRoom cX2_holdRoom 3 (some .int), .methodLink RX2 125 yX2_sharedOf, .instanceMethod yX2_sharedOf, .selects RX2 yX2_sharedOf yX2_sharedOf, .initialized RX2, .methodLink RX2 126 yX0_lateOf, .instanceMethod yX0_lateOf, .selects RX0 yX0_lateOf yX0_lateOf, .initialized RX0]
def wr_X2holdRoom : List Cond := (wfC ++ (w_X2sharedOf ++ (w_X0lateOf ++ ([]))))
def w_X2holdRoom : List Cond := wo_X2holdRoom ++ wr_X2holdRoom
theorem wg_X2holdRoom : GW w_X2holdRoom := GW_app (GW_of (by decide +kernel)) (GW_app (wg_fC) (GW_app (wg_X2sharedOf) (GW_app (wg_X0lateOf) (GW_nil))))
theorem in_X2holdRoom : ∀ w ∈ wfC, w ∈ w_X2holdRoom := fun _ h => List.mem_append_right _ (List.mem_append_left _ h)
theorem g_X2holdRoom_X2sharedOf_125 : GoodIn w_X2holdRoom (wsV RX2 125 RX2 yX2_sharedOf w_X2sharedOf) := goodIn_app (gi_left (goodIn_of _ (by decide +kernel))) (fun w h => ⟨List.mem_append_right _ (List.mem_append_right _ (List.mem_append_left _ h)), wg_X2sharedOf w h⟩)
theorem g_X2holdRoom_X0lateOf_126 : GoodIn w_X2holdRoom (wsV RX2 126 RX0 yX0_lateOf w_X0lateOf) := goodIn_app (gi_left (goodIn_of _ (by decide +kernel))) (fun w h => ⟨List.mem_append_right _ (List.mem_append_right _ (List.mem_append_right _ (List.mem_append_left _ h))), wg_X0lateOf w h⟩)
set_option maxHeartbeats 4000000 in
set_option maxRecDepth 100000 in
theorem ct_X2holdRoom (l : Launch) (E : gE) (B : Nat → Nat) (Q : Int32 → VS → Prop) (p1 : Int32) (p2 : Int32) (σ : VS) (hw : wp_X2holdRoom Q p1 p2 σ) : CtI l E yX2_holdRoom w_X2holdRoom (({ frames := 2, cells := 0, slots := 0, locals := 47 } : Room)) (wc E B σ) [.ref (B 7), .int p1, .int p2] (fun r w => ∃ σ' : VS, Q r σ' ∧ w = wc E B σ') := by
  refine VC_I (cc := cX2_holdRoom) (mL := 3) (rt := (some .int)) (lv0 := [(0, .ref (B 7)), (1, .int p1), (2, .int p2)]) rfl (by decide) rfl (Nat.le_of_ble_eq_true rfl) ?_
  intro p e s m below meth c A F
  replace F : Fx p s m _ meth c A E cX2_holdRoom 3 (some .int) RX2 w_X2holdRoom := F
  unfold wp_X2holdRoom at hw
  refine R_aload_n F dX2_holdRoom_0 rfl 0 rfl ?_
  refine R_iload_n F dX2_holdRoom_1 rfl 1 rfl ?_
  refine R_iload_n F dX2_holdRoom_2 rfl 2 rfl ?_
  refine R_callI (As := [.int p1, .int p2]) (C := RX2) (q0 := 7) (ci := 2) (N := 13) (T := TX2) (fs := cf_7 B) F (ct_X2sharedOf l E B _ p1 p2 _ hw) (cwV 2 F.2.2.2.2.2.2.2.2.2.2 g_X2holdRoom_X2sharedOf_125 rfl rfl rfl (by decide +kernel) ⟨Nat.le_of_ble_eq_true rfl, Nat.le_of_ble_eq_true rfl⟩) ⟨rfl, rfl⟩ rfl (fun _ => rfl) rfl rfl (Nat.le_of_ble_eq_true rfl) dX2_holdRoom_3 (fun r1 σ2 hw => ?_)
  refine R_aload_n F dX2_holdRoom_6 rfl 0 rfl ?_
  refine gc_RX2_45_7 F in_X2holdRoom dX2_holdRoom_7 ?_
  refine R_aload_n F dX2_holdRoom_10 rfl 0 rfl ?_
  refine gc_RX2_41_7 F in_X2holdRoom dX2_holdRoom_11 ?_
  refine gc_RX2_107_2 F in_X2holdRoom dX2_holdRoom_14 ?_
  refine R_iload_n F dX2_holdRoom_17 rfl 2 rfl ?_
  refine R_ldi F qc_25 dX2_holdRoom_18 hw.1 ?_
  replace hw := hw.2
  refine R_callI (As := [.int (rd σ2 25 p2)]) (C := RX0) (q0 := 3) (ci := 0) (N := 5) (T := TX0) (fs := cf_3 B) F (ct_X0lateOf l E B _ (rd σ2 25 p2) _ hw) (cwV 1 F.2.2.2.2.2.2.2.2.2.2 g_X2holdRoom_X0lateOf_126 rfl rfl rfl (by decide +kernel) ⟨Nat.le_of_ble_eq_true rfl, Nat.le_of_ble_eq_true rfl⟩) ⟨rfl, rfl⟩ rfl (fun _ => rfl) rfl rfl (Nat.le_of_ble_eq_true rfl) dX2_holdRoom_19 (fun r3 σ4 hw => ?_)
  refine R_isub F dX2_holdRoom_22 ?_
  refine R_aload_n F dX2_holdRoom_23 rfl 0 rfl ?_
  refine gc_RX2_41_7 F in_X2holdRoom dX2_holdRoom_24 ?_
  refine gc_RX2_129_2 F in_X2holdRoom dX2_holdRoom_27 ?_
  refine R_iload_n F dX2_holdRoom_30 rfl 2 rfl ?_
  refine R_ldi F qc_27 dX2_holdRoom_31 hw.1 ?_
  replace hw := hw.2
  refine R_isub F dX2_holdRoom_32 ?_
  exact R_iret (Qc := Q) F rfl dX2_holdRoom_33 hw
def b_X2merge_59 (Q : VS → Prop) (l1 : Int32) (l2 : Int32) (k0 : Int32) (k1 : Int32) (σ : VS) : Prop := (In k1 1600 ∧ (In l1 1600 ∧ (In l1 1600 ∧ Q (sa (sa σ 49 k1 k0) 47 l1 (imin 1000 ((rd (sa σ 49 k1 k0) 47 l1) + l2))))))
def b_X2merge_28 (Q : VS → Prop) (l1 : Int32) (l2 : Int32) (l4 : Int32) (k0 : Int32) (k1 : Int32) (σ : VS) : Prop := (In k1 1600 ∧ (In l1 1600 ∧ (((rd (sa σ 48 k1 k0) 47 l1).toInt ≠ 0 → (In l1 1600 ∧ b_X2merge_59 Q l1 l2 (imin (rd (sa σ 48 k1 k0) 49 l1) l4) l1 (sa σ 48 k1 k0))) ∧ ((rd (sa σ 48 k1 k0) 47 l1).toInt = 0 → b_X2merge_59 Q l1 l2 l4 l1 (sa σ 48 k1 k0)))))
def wp_X2merge (Q : VS → Prop) (p1 : Int32) (p2 : Int32) (p3 : Int32) (p4 : Int32) (σ : VS) : Prop := (In p1 1600 ∧ (((rd σ 47 p1).toInt ≠ 0 → (In p1 1600 ∧ b_X2merge_28 Q p1 p2 p4 (imax (rd σ 48 p1) p3) p1 σ)) ∧ ((rd σ 47 p1).toInt = 0 → b_X2merge_28 Q p1 p2 p4 p3 p1 σ)))
theorem dX2_merge_0 : decode cX2_merge 0 = .ok (.aload_n 0, 1) := by decide +kernel
theorem dX2_merge_1 : decode cX2_merge 1 = .ok (.getfield 19, 3) := by decide +kernel
theorem dX2_merge_4 : decode cX2_merge 4 = .ok (.iload_n 1, 1) := by decide +kernel
theorem dX2_merge_5 : decode cX2_merge 5 = .ok (.aload_n 0, 1) := by decide +kernel
theorem dX2_merge_6 : decode cX2_merge 6 = .ok (.getfield 15, 3) := by decide +kernel
theorem dX2_merge_9 : decode cX2_merge 9 = .ok (.iload_n 1, 1) := by decide +kernel
theorem dX2_merge_10 : decode cX2_merge 10 = .ok (.iaload, 1) := by decide +kernel
theorem dX2_merge_11 : decode cX2_merge 11 = .ok (.ifCond .ne 7, 3) := by decide +kernel
theorem dX2_merge_18 : decode cX2_merge 18 = .ok (.aload_n 0, 1) := by decide +kernel
theorem dX2_merge_19 : decode cX2_merge 19 = .ok (.getfield 19, 3) := by decide +kernel
theorem dX2_merge_22 : decode cX2_merge 22 = .ok (.iload_n 1, 1) := by decide +kernel
theorem dX2_merge_23 : decode cX2_merge 23 = .ok (.iaload, 1) := by decide +kernel
theorem dX2_merge_24 : decode cX2_merge 24 = .ok (.iload_n 3, 1) := by decide +kernel
theorem dX2_merge_25 : decode cX2_merge 25 = .ok (.invokestatic 163, 3) := by decide +kernel
theorem dX2_merge_14 : decode cX2_merge 14 = .ok (.iload_n 3, 1) := by decide +kernel
theorem dX2_merge_15 : decode cX2_merge 15 = .ok (.goto 13, 3) := by decide +kernel
theorem dX2_merge_28 : decode cX2_merge 28 = .ok (.iastore, 1) := by decide +kernel
theorem dX2_merge_29 : decode cX2_merge 29 = .ok (.aload_n 0, 1) := by decide +kernel
theorem dX2_merge_30 : decode cX2_merge 30 = .ok (.getfield 22, 3) := by decide +kernel
theorem dX2_merge_33 : decode cX2_merge 33 = .ok (.iload_n 1, 1) := by decide +kernel
theorem dX2_merge_34 : decode cX2_merge 34 = .ok (.aload_n 0, 1) := by decide +kernel
theorem dX2_merge_35 : decode cX2_merge 35 = .ok (.getfield 15, 3) := by decide +kernel
theorem dX2_merge_38 : decode cX2_merge 38 = .ok (.iload_n 1, 1) := by decide +kernel
theorem dX2_merge_39 : decode cX2_merge 39 = .ok (.iaload, 1) := by decide +kernel
theorem dX2_merge_40 : decode cX2_merge 40 = .ok (.ifCond .ne 8, 3) := by decide +kernel
theorem dX2_merge_48 : decode cX2_merge 48 = .ok (.aload_n 0, 1) := by decide +kernel
theorem dX2_merge_49 : decode cX2_merge 49 = .ok (.getfield 22, 3) := by decide +kernel
theorem dX2_merge_52 : decode cX2_merge 52 = .ok (.iload_n 1, 1) := by decide +kernel
theorem dX2_merge_53 : decode cX2_merge 53 = .ok (.iaload, 1) := by decide +kernel
theorem dX2_merge_54 : decode cX2_merge 54 = .ok (.iload 4, 2) := by decide +kernel
theorem dX2_merge_56 : decode cX2_merge 56 = .ok (.invokestatic 168, 3) := by decide +kernel
theorem dX2_merge_43 : decode cX2_merge 43 = .ok (.iload 4, 2) := by decide +kernel
theorem dX2_merge_45 : decode cX2_merge 45 = .ok (.goto 14, 3) := by decide +kernel
theorem dX2_merge_59 : decode cX2_merge 59 = .ok (.iastore, 1) := by decide +kernel
theorem dX2_merge_60 : decode cX2_merge 60 = .ok (.aload_n 0, 1) := by decide +kernel
theorem dX2_merge_61 : decode cX2_merge 61 = .ok (.getfield 15, 3) := by decide +kernel
theorem dX2_merge_64 : decode cX2_merge 64 = .ok (.iload_n 1, 1) := by decide +kernel
theorem dX2_merge_65 : decode cX2_merge 65 = .ok (.sipush 1000, 3) := by decide +kernel
theorem dX2_merge_68 : decode cX2_merge 68 = .ok (.aload_n 0, 1) := by decide +kernel
theorem dX2_merge_69 : decode cX2_merge 69 = .ok (.getfield 15, 3) := by decide +kernel
theorem dX2_merge_72 : decode cX2_merge 72 = .ok (.iload_n 1, 1) := by decide +kernel
theorem dX2_merge_73 : decode cX2_merge 73 = .ok (.iaload, 1) := by decide +kernel
theorem dX2_merge_74 : decode cX2_merge 74 = .ok (.iload_n 2, 1) := by decide +kernel
theorem dX2_merge_75 : decode cX2_merge 75 = .ok (.iadd, 1) := by decide +kernel
theorem dX2_merge_76 : decode cX2_merge 76 = .ok (.invokestatic 168, 3) := by decide +kernel
theorem dX2_merge_79 : decode cX2_merge 79 = .ok (.iastore, 1) := by decide +kernel
theorem dX2_merge_80 : decode cX2_merge 80 = .ok (.return_, 1) := by decide +kernel
def wo_X2merge : List Cond := [.code yX2_merge cX2_merge 5 none, .methodLink RX2 163 Lib.Math.max.name, .static Lib.Math.max.name, .initialized "java/lang/Math", .code Lib.Math.max.name Lib.Math.max.code 2 (some .int), .methodLink RX2 168 Lib.Math.min.name, .static Lib.Math.min.name, .code Lib.Math.min.name Lib.Math.min.code 2 (some .int)]
def wr_X2merge : List Cond := (wfC ++ ([]))
def w_X2merge : List Cond := wo_X2merge ++ wr_X2merge
theorem wg_X2merge : GW w_X2merge := GW_app (GW_of (by decide +kernel)) (GW_app (wg_fC) (GW_nil))
theorem in_X2merge : ∀ w ∈ wfC, w ∈ w_X2merge := fun _ h => List.mem_append_right _ (List.mem_append_left _ h)
set_option maxHeartbeats 4000000 in
set_option maxRecDepth 100000 in
theorem ct_X2merge (l : Launch) (E : gE) (B : Nat → Nat) (Q : VS → Prop) (p1 : Int32) (p2 : Int32) (p3 : Int32) (p4 : Int32) (σ : VS) (hw : wp_X2merge Q p1 p2 p3 p4 σ) : CtV l E yX2_merge w_X2merge (({ frames := 1, cells := 0, slots := 0, locals := 21 } : Room)) (wc E B σ) [.ref (B 7), .int p1, .int p2, .int p3, .int p4] (fun w => ∃ σ' : VS, Q σ' ∧ w = wc E B σ') := by
  refine VC_V (cc := cX2_merge) (mL := 5) (rt := none) (lv0 := [(0, .ref (B 7)), (1, .int p1), (2, .int p2), (3, .int p3), (4, .int p4)]) rfl (by decide) rfl (Nat.le_of_ble_eq_true rfl) ?_
  intro p e s m below meth c A F
  replace F : Fx p s m _ meth c A E cX2_merge 5 none RX2 w_X2merge := F
  have J_59 : ∀ (l1 : Int32) (l2 : Int32) (k0 : Int32) (k1 : Int32) (σ : VS), b_X2merge_59 Q l1 l2 k0 k1 σ → WB p l e (({ frames := 1, cells := 0, slots := 0, locals := 21 } : Room)) s m (#[.ref (B 7), .int p1, .int p2, .int p3, .int p4]) below meth c (MQ below (va_Qv (fun w => ∃ σ' : VS, Q σ' ∧ w = wc E B σ') (AftU E A) A) (#[.ref (B 7), .int p1, .int p2, .int p3, .int p4]) s (({ frames := 1, cells := 0, slots := 0, locals := 21 } : Room)).cells (({ frames := 1, cells := 0, slots := 0, locals := 21 } : Room)).slots A) A E (wc E B) 5 59 [(0, .ref (B 7)), (1, .int l1), (2, .int l2)] [.int k0, .int k1, .ref (B 49)] σ := by
    intro l1 l2 k0 k1 σ hw
    unfold b_X2merge_59 at hw
    have hi := hw.1
    replace hw := hw.2
    refine R_sti F qc_49 uc_49 dX2_merge_59 hi ?_
    refine R_aload_n F dX2_merge_60 rfl 0 rfl ?_
    refine gc_RX2_15_7 F in_X2merge dX2_merge_61 ?_
    refine R_iload_n F dX2_merge_64 rfl 1 rfl ?_
    refine R_sipush F 1000 dX2_merge_65 (by decide) ?_
    refine R_aload_n F dX2_merge_68 rfl 0 rfl ?_
    refine gc_RX2_15_7 F in_X2merge dX2_merge_69 ?_
    refine R_iload_n F dX2_merge_72 rfl 1 rfl ?_
    refine R_ldi F qc_47 dX2_merge_73 hw.1 ?_
    replace hw := hw.2
    refine R_iload_n F dX2_merge_74 rfl 2 rfl ?_
    refine R_iadd F dX2_merge_75 ?_
    refine R_mmin F (List.mem_append_left _ (show Cond.methodLink RX2 168 Lib.Math.min.name ∈ wo_X2merge by decide +kernel)) (List.mem_append_left _ (show Cond.static Lib.Math.min.name ∈ wo_X2merge by decide +kernel)) (List.mem_append_left _ (show Cond.initialized "java/lang/Math" ∈ wo_X2merge by decide +kernel)) (List.mem_append_left _ (show Cond.code Lib.Math.min.name Lib.Math.min.code 2 (some .int) ∈ wo_X2merge by decide +kernel)) (Nat.le_of_ble_eq_true rfl) (Nat.le_of_ble_eq_true rfl) dX2_merge_76 ?_
    have hi := hw.1
    replace hw := hw.2
    refine R_sti F qc_47 uc_47 dX2_merge_79 hi ?_
    exact R_vret (Qc := Q) F dX2_merge_80 hw
  have J_28 : ∀ (l1 : Int32) (l2 : Int32) (l4 : Int32) (k0 : Int32) (k1 : Int32) (σ : VS), b_X2merge_28 Q l1 l2 l4 k0 k1 σ → WB p l e (({ frames := 1, cells := 0, slots := 0, locals := 21 } : Room)) s m (#[.ref (B 7), .int p1, .int p2, .int p3, .int p4]) below meth c (MQ below (va_Qv (fun w => ∃ σ' : VS, Q σ' ∧ w = wc E B σ') (AftU E A) A) (#[.ref (B 7), .int p1, .int p2, .int p3, .int p4]) s (({ frames := 1, cells := 0, slots := 0, locals := 21 } : Room)).cells (({ frames := 1, cells := 0, slots := 0, locals := 21 } : Room)).slots A) A E (wc E B) 5 28 [(0, .ref (B 7)), (1, .int l1), (2, .int l2), (4, .int l4)] [.int k0, .int k1, .ref (B 48)] σ := by
    intro l1 l2 l4 k0 k1 σ hw
    unfold b_X2merge_28 at hw
    have hi := hw.1
    replace hw := hw.2
    refine R_sti F qc_48 uc_48 dX2_merge_28 hi ?_
    refine R_aload_n F dX2_merge_29 rfl 0 rfl ?_
    refine gc_RX2_22_7 F in_X2merge dX2_merge_30 ?_
    refine R_iload_n F dX2_merge_33 rfl 1 rfl ?_
    refine R_aload_n F dX2_merge_34 rfl 0 rfl ?_
    refine gc_RX2_15_7 F in_X2merge dX2_merge_35 ?_
    refine R_iload_n F dX2_merge_38 rfl 1 rfl ?_
    refine R_ldi F qc_47 dX2_merge_39 hw.1 ?_
    replace hw := hw.2
    refine R_if_ne (tgt := 48) F dX2_merge_40 (by decide) (fun hc => ?_) (fun hc => ?_)
    · replace hw := hw.1 hc
      refine R_aload_n F dX2_merge_48 rfl 0 rfl ?_
      refine gc_RX2_22_7 F in_X2merge dX2_merge_49 ?_
      refine R_iload_n F dX2_merge_52 rfl 1 rfl ?_
      refine R_ldi F qc_49 dX2_merge_53 hw.1 ?_
      replace hw := hw.2
      refine R_iload F dX2_merge_54 3 rfl ?_
      refine R_mmin F (List.mem_append_left _ (show Cond.methodLink RX2 168 Lib.Math.min.name ∈ wo_X2merge by decide +kernel)) (List.mem_append_left _ (show Cond.static Lib.Math.min.name ∈ wo_X2merge by decide +kernel)) (List.mem_append_left _ (show Cond.initialized "java/lang/Math" ∈ wo_X2merge by decide +kernel)) (List.mem_append_left _ (show Cond.code Lib.Math.min.name Lib.Math.min.code 2 (some .int) ∈ wo_X2merge by decide +kernel)) (Nat.le_of_ble_eq_true rfl) (Nat.le_of_ble_eq_true rfl) dX2_merge_56 ?_
      exact R_sub [0, 1, 2] rfl (J_59 l1 l2 (imin (rd (sa σ 48 k1 k0) 49 l1) l4) l1 (sa σ 48 k1 k0) hw)
    · replace hw := hw.2 hc
      refine R_iload F dX2_merge_43 3 rfl ?_
      refine R_goto (tgt := 59) F dX2_merge_45 (by decide) ?_
      exact R_sub [0, 1, 2] rfl (J_59 l1 l2 l4 l1 (sa σ 48 k1 k0) hw)
  unfold wp_X2merge at hw
  refine R_aload_n F dX2_merge_0 rfl 0 rfl ?_
  refine gc_RX2_19_7 F in_X2merge dX2_merge_1 ?_
  refine R_iload_n F dX2_merge_4 rfl 1 rfl ?_
  refine R_aload_n F dX2_merge_5 rfl 0 rfl ?_
  refine gc_RX2_15_7 F in_X2merge dX2_merge_6 ?_
  refine R_iload_n F dX2_merge_9 rfl 1 rfl ?_
  refine R_ldi F qc_47 dX2_merge_10 hw.1 ?_
  replace hw := hw.2
  refine R_if_ne (tgt := 18) F dX2_merge_11 (by decide) (fun hc => ?_) (fun hc => ?_)
  · replace hw := hw.1 hc
    refine R_aload_n F dX2_merge_18 rfl 0 rfl ?_
    refine gc_RX2_19_7 F in_X2merge dX2_merge_19 ?_
    refine R_iload_n F dX2_merge_22 rfl 1 rfl ?_
    refine R_ldi F qc_48 dX2_merge_23 hw.1 ?_
    replace hw := hw.2
    refine R_iload_n F dX2_merge_24 rfl 3 rfl ?_
    refine R_mmax F (List.mem_append_left _ (show Cond.methodLink RX2 163 Lib.Math.max.name ∈ wo_X2merge by decide +kernel)) (List.mem_append_left _ (show Cond.static Lib.Math.max.name ∈ wo_X2merge by decide +kernel)) (List.mem_append_left _ (show Cond.initialized "java/lang/Math" ∈ wo_X2merge by decide +kernel)) (List.mem_append_left _ (show Cond.code Lib.Math.max.name Lib.Math.max.code 2 (some .int) ∈ wo_X2merge by decide +kernel)) (Nat.le_of_ble_eq_true rfl) (Nat.le_of_ble_eq_true rfl) dX2_merge_25 ?_
    exact R_sub [0, 1, 2, 4] rfl (J_28 p1 p2 p4 (imax (rd σ 48 p1) p3) p1 σ hw)
  · replace hw := hw.2 hc
    refine R_iload_n F dX2_merge_14 rfl 3 rfl ?_
    refine R_goto (tgt := 28) F dX2_merge_15 (by decide) ?_
    exact R_sub [0, 1, 2, 4] rfl (J_28 p1 p2 p4 p3 p1 σ hw)
def b_X2isSpreadTo_8 (X8 : Int32 → Int32 → VS → Prop) (Q : Int32 → VS → Prop) (l1 : Int32) (l2 : Int32) (σ : VS) : Prop := (((σ.1 9).toInt ≤ l2.toInt → Q 0 σ) ∧ (l2.toInt < (σ.1 9).toInt → (In (((l1 * 2) * (σ.1 9)) + l2) 1600 ∧ (((rd σ 47 (((l1 * 2) * (σ.1 9)) + l2)).toInt ≤ 0 → X8 l1 (l2 + 1) σ) ∧ (0 < (rd σ 47 (((l1 * 2) * (σ.1 9)) + l2)).toInt → Q 1 σ)))))
def wp_X2isSpreadTo (Q : Int32 → VS → Prop) (p1 : Int32) (σ : VS) : Prop := ∀ (X8 : Int32 → Int32 → VS → Prop), (∀ (l1 : Int32) (l2 : Int32) (σ : VS), b_X2isSpreadTo_8 X8 Q l1 l2 σ → X8 l1 l2 σ) → ((0 ≤ p1.toInt → X8 p1 0 σ) ∧ (p1.toInt < 0 → Q 0 σ))
theorem dX2_isSpreadTo_0 : decode cX2_isSpreadTo 0 = .ok (.iload_n 1, 1) := by decide +kernel
theorem dX2_isSpreadTo_1 : decode cX2_isSpreadTo 1 = .ok (.ifCond .ge 5, 3) := by decide +kernel
theorem dX2_isSpreadTo_6 : decode cX2_isSpreadTo 6 = .ok (.iconst 0, 1) := by decide +kernel
theorem dX2_isSpreadTo_7 : decode cX2_isSpreadTo 7 = .ok (.istore_n 2, 1) := by decide +kernel
theorem dX2_isSpreadTo_4 : decode cX2_isSpreadTo 4 = .ok (.iconst 0, 1) := by decide +kernel
theorem dX2_isSpreadTo_5 : decode cX2_isSpreadTo 5 = .ok (.ireturn, 1) := by decide +kernel
theorem dX2_isSpreadTo_8 : decode cX2_isSpreadTo 8 = .ok (.iload_n 2, 1) := by decide +kernel
theorem dX2_isSpreadTo_9 : decode cX2_isSpreadTo 9 = .ok (.aload_n 0, 1) := by decide +kernel
theorem dX2_isSpreadTo_10 : decode cX2_isSpreadTo 10 = .ok (.getfield 9, 3) := by decide +kernel
theorem dX2_isSpreadTo_13 : decode cX2_isSpreadTo 13 = .ok (.if_icmp .ge 29, 3) := by decide +kernel
theorem dX2_isSpreadTo_42 : decode cX2_isSpreadTo 42 = .ok (.iconst 0, 1) := by decide +kernel
theorem dX2_isSpreadTo_43 : decode cX2_isSpreadTo 43 = .ok (.ireturn, 1) := by decide +kernel
theorem dX2_isSpreadTo_16 : decode cX2_isSpreadTo 16 = .ok (.aload_n 0, 1) := by decide +kernel
theorem dX2_isSpreadTo_17 : decode cX2_isSpreadTo 17 = .ok (.getfield 15, 3) := by decide +kernel
theorem dX2_isSpreadTo_20 : decode cX2_isSpreadTo 20 = .ok (.iload_n 1, 1) := by decide +kernel
theorem dX2_isSpreadTo_21 : decode cX2_isSpreadTo 21 = .ok (.iconst 2, 1) := by decide +kernel
theorem dX2_isSpreadTo_22 : decode cX2_isSpreadTo 22 = .ok (.imul, 1) := by decide +kernel
theorem dX2_isSpreadTo_23 : decode cX2_isSpreadTo 23 = .ok (.aload_n 0, 1) := by decide +kernel
theorem dX2_isSpreadTo_24 : decode cX2_isSpreadTo 24 = .ok (.getfield 9, 3) := by decide +kernel
theorem dX2_isSpreadTo_27 : decode cX2_isSpreadTo 27 = .ok (.imul, 1) := by decide +kernel
theorem dX2_isSpreadTo_28 : decode cX2_isSpreadTo 28 = .ok (.iload_n 2, 1) := by decide +kernel
theorem dX2_isSpreadTo_29 : decode cX2_isSpreadTo 29 = .ok (.iadd, 1) := by decide +kernel
theorem dX2_isSpreadTo_30 : decode cX2_isSpreadTo 30 = .ok (.iaload, 1) := by decide +kernel
theorem dX2_isSpreadTo_31 : decode cX2_isSpreadTo 31 = .ok (.ifCond .le 5, 3) := by decide +kernel
theorem dX2_isSpreadTo_36 : decode cX2_isSpreadTo 36 = .ok (.iinc 2 1, 3) := by decide +kernel
theorem dX2_isSpreadTo_39 : decode cX2_isSpreadTo 39 = .ok (.goto (-31), 3) := by decide +kernel
theorem dX2_isSpreadTo_34 : decode cX2_isSpreadTo 34 = .ok (.iconst 1, 1) := by decide +kernel
theorem dX2_isSpreadTo_35 : decode cX2_isSpreadTo 35 = .ok (.ireturn, 1) := by decide +kernel
def wo_X2isSpreadTo : List Cond := [.code yX2_isSpreadTo cX2_isSpreadTo 3 (some .boolean)]
def wr_X2isSpreadTo : List Cond := (wfC ++ ([]))
def w_X2isSpreadTo : List Cond := wo_X2isSpreadTo ++ wr_X2isSpreadTo
theorem wg_X2isSpreadTo : GW w_X2isSpreadTo := GW_app (GW_of (by decide +kernel)) (GW_app (wg_fC) (GW_nil))
theorem in_X2isSpreadTo : ∀ w ∈ wfC, w ∈ w_X2isSpreadTo := fun _ h => List.mem_append_right _ (List.mem_append_left _ h)
set_option maxHeartbeats 4000000 in
set_option maxRecDepth 100000 in
theorem ct_X2isSpreadTo (l : Launch) (E : gE) (B : Nat → Nat) (Q : Int32 → VS → Prop) (p1 : Int32) (σ : VS) (hw : wp_X2isSpreadTo Q p1 σ) : CtI l E yX2_isSpreadTo w_X2isSpreadTo (({ frames := 0, cells := 0, slots := 0, locals := 0 } : Room)) (wc E B σ) [.ref (B 7), .int p1] (fun r w => ∃ σ' : VS, Q r σ' ∧ w = wc E B σ') := by
  refine VC_I (cc := cX2_isSpreadTo) (mL := 3) (rt := (some .boolean)) (lv0 := [(0, .ref (B 7)), (1, .int p1)]) rfl (by decide) rfl (Nat.le_of_ble_eq_true rfl) ?_
  intro p e s m below meth c A F
  replace F : Fx p s m _ meth c A E cX2_isSpreadTo 3 (some .boolean) RX2 w_X2isSpreadTo := F
  obtain ⟨X8, hX8⟩ : ∃ X : Int32 → Int32 → VS → Prop, X = fun l1 l2 σ => WB p l e (({ frames := 0, cells := 0, slots := 0, locals := 0 } : Room)) s m (#[.ref (B 7), .int p1]) below meth c (MQ below (va_Qi (fun r w => ∃ σ' : VS, Q r σ' ∧ w = wc E B σ') (AftU E A) A) (#[.ref (B 7), .int p1]) s (({ frames := 0, cells := 0, slots := 0, locals := 0 } : Room)).cells (({ frames := 0, cells := 0, slots := 0, locals := 0 } : Room)).slots A) A E (wc E B) 3 8 [(0, .ref (B 7)), (1, .int l1), (2, .int l2)] [] σ := ⟨_, rfl⟩
  have U_8 : ∀ (l1 : Int32) (l2 : Int32) (σ : VS), X8 l1 l2 σ → WB p l e (({ frames := 0, cells := 0, slots := 0, locals := 0 } : Room)) s m (#[.ref (B 7), .int p1]) below meth c (MQ below (va_Qi (fun r w => ∃ σ' : VS, Q r σ' ∧ w = wc E B σ') (AftU E A) A) (#[.ref (B 7), .int p1]) s (({ frames := 0, cells := 0, slots := 0, locals := 0 } : Room)).cells (({ frames := 0, cells := 0, slots := 0, locals := 0 } : Room)).slots A) A E (wc E B) 3 8 [(0, .ref (B 7)), (1, .int l1), (2, .int l2)] [] σ := by
    intro l1 l2 σ hw; rw [hX8] at hw; exact hw
  have C_8 : ∀ (l1 : Int32) (l2 : Int32) (σ : VS), b_X2isSpreadTo_8 X8 Q l1 l2 σ → X8 l1 l2 σ := by
    intro l1 l2 σ hw
    unfold b_X2isSpreadTo_8 at hw
    rw [hX8]
    show WB p l e (({ frames := 0, cells := 0, slots := 0, locals := 0 } : Room)) s m (#[.ref (B 7), .int p1]) below meth c (MQ below (va_Qi (fun r w => ∃ σ' : VS, Q r σ' ∧ w = wc E B σ') (AftU E A) A) (#[.ref (B 7), .int p1]) s (({ frames := 0, cells := 0, slots := 0, locals := 0 } : Room)).cells (({ frames := 0, cells := 0, slots := 0, locals := 0 } : Room)).slots A) A E (wc E B) 3 8 [(0, .ref (B 7)), (1, .int l1), (2, .int l2)] [] σ
    refine R_iload_n F dX2_isSpreadTo_8 rfl 2 rfl ?_
    refine R_aload_n F dX2_isSpreadTo_9 rfl 0 rfl ?_
    refine gc_RX2_9_7 F in_X2isSpreadTo dX2_isSpreadTo_10 ?_
    refine R_icmp_ge (tgt := 42) F dX2_isSpreadTo_13 (by decide) (fun hc => ?_) (fun hc => ?_)
    · replace hw := hw.1 hc
      refine R_iconst F 0 dX2_isSpreadTo_42 (by decide) ?_
      exact R_iret (Qc := Q) F rfl dX2_isSpreadTo_43 hw
    · replace hw := hw.2 hc
      refine R_aload_n F dX2_isSpreadTo_16 rfl 0 rfl ?_
      refine gc_RX2_15_7 F in_X2isSpreadTo dX2_isSpreadTo_17 ?_
      refine R_iload_n F dX2_isSpreadTo_20 rfl 1 rfl ?_
      refine R_iconst F 2 dX2_isSpreadTo_21 (by decide) ?_
      refine R_imul F dX2_isSpreadTo_22 ?_
      refine R_aload_n F dX2_isSpreadTo_23 rfl 0 rfl ?_
      refine gc_RX2_9_7 F in_X2isSpreadTo dX2_isSpreadTo_24 ?_
      refine R_imul F dX2_isSpreadTo_27 ?_
      refine R_iload_n F dX2_isSpreadTo_28 rfl 2 rfl ?_
      refine R_iadd F dX2_isSpreadTo_29 ?_
      refine R_ldi F qc_47 dX2_isSpreadTo_30 hw.1 ?_
      replace hw := hw.2
      refine R_if_le (tgt := 36) F dX2_isSpreadTo_31 (by decide) (fun hc => ?_) (fun hc => ?_)
      · replace hw := hw.1 hc
        refine R_iinc (q := 2) (v := (l2 + 1)) (lv' := [(2, .int (l2 + 1)), (0, .ref (B 7)), (1, .int l1)]) F dX2_isSpreadTo_36 rfl rfl (by decide) rfl ?_
        refine R_goto (tgt := 8) F dX2_isSpreadTo_39 (by decide) ?_
        exact R_sub [1, 2, 0] rfl (U_8 l1 (l2 + 1) σ hw)
      · replace hw := hw.2 hc
        refine R_iconst F 1 dX2_isSpreadTo_34 (by decide) ?_
        exact R_iret (Qc := Q) F rfl dX2_isSpreadTo_35 hw
  unfold wp_X2isSpreadTo at hw
  replace hw := hw X8 C_8
  refine R_iload_n F dX2_isSpreadTo_0 rfl 1 rfl ?_
  refine R_if_ge (tgt := 6) F dX2_isSpreadTo_1 (by decide) (fun hc => ?_) (fun hc => ?_)
  · replace hw := hw.1 hc
    refine R_iconst F 0 dX2_isSpreadTo_6 (by decide) ?_
    refine R_istore_n (lv' := [(2, .int 0), (0, .ref (B 7)), (1, .int p1)]) F dX2_isSpreadTo_7 rfl (by decide) rfl ?_
    exact R_sub [1, 2, 0] rfl (U_8 p1 0 σ hw)
  · replace hw := hw.2 hc
    refine R_iconst F 0 dX2_isSpreadTo_4 (by decide) ?_
    exact R_iret (Qc := Q) F rfl dX2_isSpreadTo_5 hw
def b_X2passArc_160 (X88 : Int32 → Int32 → Int32 → Int32 → Int32 → Int32 → VS → Prop) (Q : VS → Prop) (l3 : Int32) (l4 : Int32) (l5 : Int32) (l6 : Int32) (l7 : Int32) (l8 : Int32) (σ : VS) : Prop := X88 l3 l4 l5 l6 l7 (l8 + 1) σ
def b_X2passArc_88 (X88 : Int32 → Int32 → Int32 → Int32 → Int32 → Int32 → VS → Prop) (Q : VS → Prop) (l3 : Int32) (l4 : Int32) (l5 : Int32) (l6 : Int32) (l7 : Int32) (l8 : Int32) (σ : VS) : Prop := (((σ.1 9).toInt ≤ l8.toInt → Q σ) ∧ (l8.toInt < (σ.1 9).toInt → (∀ x6 : Int32, x6 = (l4 + l8) → (In x6 1600 ∧ (((rd σ 47 x6).toInt ≤ 0 → b_X2passArc_160 X88 Q l3 l4 l5 l6 l7 l8 σ) ∧ (0 < (rd σ 47 x6).toInt → (In l3 50 ∧ (In x6 1600 ∧ (In x6 1600 ∧ (In x6 1600 ∧ wp_X2merge (fun (σ8 : VS) => b_X2passArc_160 X88 Q l3 l4 l5 l6 l7 l8 σ8) (l5 + (l8 ||| (rd σ 35 l3))) (rd σ 47 x6) ((rd σ 48 x6) + l6) ((rd σ 49 x6) + l7) σ))))))))))
def b_X2passArc_35 (X88 : Int32 → Int32 → Int32 → Int32 → Int32 → Int32 → VS → Prop) (Q : VS → Prop) (l1 : Int32) (l2 : Int32) (l3 : Int32) (k0 : Int32) (k1 : Int32) (σ : VS) : Prop := (∀ x2 : Int32, x2 = ((k1 + k0) * (σ.1 9)) → (∀ x3 : Int32, x3 = (((l3 * 2) + l2) * (σ.1 9)) → (In ((l1 * 2) + l2) 400 ∧ (∀ x4 : Int32, x4 = (rd σ 41 ((l1 * 2) + l2)) → (In ((l1 * 2) + l2) 400 ∧ (∀ x5 : Int32, x5 = (rd σ 42 ((l1 * 2) + l2)) → X88 l3 x2 x3 x4 x5 0 σ))))))
def wp_X2passArc (Q : VS → Prop) (p1 : Int32) (p2 : Int32) (σ : VS) : Prop := ∀ (X88 : Int32 → Int32 → Int32 → Int32 → Int32 → Int32 → VS → Prop), (∀ (l3 : Int32) (l4 : Int32) (l5 : Int32) (l6 : Int32) (l7 : Int32) (l8 : Int32) (σ : VS), b_X2passArc_88 X88 Q l3 l4 l5 l6 l7 l8 σ → X88 l3 l4 l5 l6 l7 l8 σ) → (∀ x1 : Int32, x1 = (p1 / 4) → (In p1 200 ∧ (In x1 50 ∧ (((rd σ 11 x1).toInt ≠ 2 → b_X2passArc_35 X88 Q p1 p2 x1 p2 ((rd σ 16 p1) * 2) σ) ∧ ((rd σ 11 x1).toInt = 2 → b_X2passArc_35 X88 Q p1 p2 x1 (1 - p2) ((rd σ 16 p1) * 2) σ)))))
theorem dX2_passArc_0 : decode cX2_passArc 0 = .ok (.iload_n 1, 1) := by decide +kernel
theorem dX2_passArc_1 : decode cX2_passArc 1 = .ok (.iconst 4, 1) := by decide +kernel
theorem dX2_passArc_2 : decode cX2_passArc 2 = .ok (.idiv, 1) := by decide +kernel
theorem dX2_passArc_3 : decode cX2_passArc 3 = .ok (.istore_n 3, 1) := by decide +kernel
theorem dX2_passArc_4 : decode cX2_passArc 4 = .ok (.aload_n 0, 1) := by decide +kernel
theorem dX2_passArc_5 : decode cX2_passArc 5 = .ok (.getfield 37, 3) := by decide +kernel
theorem dX2_passArc_8 : decode cX2_passArc 8 = .ok (.getfield 90, 3) := by decide +kernel
theorem dX2_passArc_11 : decode cX2_passArc 11 = .ok (.iload_n 1, 1) := by decide +kernel
theorem dX2_passArc_12 : decode cX2_passArc 12 = .ok (.iaload, 1) := by decide +kernel
theorem dX2_passArc_13 : decode cX2_passArc 13 = .ok (.iconst 2, 1) := by decide +kernel
theorem dX2_passArc_14 : decode cX2_passArc 14 = .ok (.imul, 1) := by decide +kernel
theorem dX2_passArc_15 : decode cX2_passArc 15 = .ok (.aload_n 0, 1) := by decide +kernel
theorem dX2_passArc_16 : decode cX2_passArc 16 = .ok (.getfield 37, 3) := by decide +kernel
theorem dX2_passArc_19 : decode cX2_passArc 19 = .ok (.getfield 104, 3) := by decide +kernel
theorem dX2_passArc_22 : decode cX2_passArc 22 = .ok (.iload_n 3, 1) := by decide +kernel
theorem dX2_passArc_23 : decode cX2_passArc 23 = .ok (.iaload, 1) := by decide +kernel
theorem dX2_passArc_24 : decode cX2_passArc 24 = .ok (.iconst 2, 1) := by decide +kernel
theorem dX2_passArc_25 : decode cX2_passArc 25 = .ok (.if_icmp .ne 9, 3) := by decide +kernel
theorem dX2_passArc_34 : decode cX2_passArc 34 = .ok (.iload_n 2, 1) := by decide +kernel
theorem dX2_passArc_28 : decode cX2_passArc 28 = .ok (.iconst 1, 1) := by decide +kernel
theorem dX2_passArc_29 : decode cX2_passArc 29 = .ok (.iload_n 2, 1) := by decide +kernel
theorem dX2_passArc_30 : decode cX2_passArc 30 = .ok (.isub, 1) := by decide +kernel
theorem dX2_passArc_31 : decode cX2_passArc 31 = .ok (.goto 4, 3) := by decide +kernel
theorem dX2_passArc_35 : decode cX2_passArc 35 = .ok (.iadd, 1) := by decide +kernel
theorem dX2_passArc_36 : decode cX2_passArc 36 = .ok (.aload_n 0, 1) := by decide +kernel
theorem dX2_passArc_37 : decode cX2_passArc 37 = .ok (.getfield 9, 3) := by decide +kernel
theorem dX2_passArc_40 : decode cX2_passArc 40 = .ok (.imul, 1) := by decide +kernel
theorem dX2_passArc_41 : decode cX2_passArc 41 = .ok (.istore 4, 2) := by decide +kernel
theorem dX2_passArc_43 : decode cX2_passArc 43 = .ok (.iload_n 3, 1) := by decide +kernel
theorem dX2_passArc_44 : decode cX2_passArc 44 = .ok (.iconst 2, 1) := by decide +kernel
theorem dX2_passArc_45 : decode cX2_passArc 45 = .ok (.imul, 1) := by decide +kernel
theorem dX2_passArc_46 : decode cX2_passArc 46 = .ok (.iload_n 2, 1) := by decide +kernel
theorem dX2_passArc_47 : decode cX2_passArc 47 = .ok (.iadd, 1) := by decide +kernel
theorem dX2_passArc_48 : decode cX2_passArc 48 = .ok (.aload_n 0, 1) := by decide +kernel
theorem dX2_passArc_49 : decode cX2_passArc 49 = .ok (.getfield 9, 3) := by decide +kernel
theorem dX2_passArc_52 : decode cX2_passArc 52 = .ok (.imul, 1) := by decide +kernel
theorem dX2_passArc_53 : decode cX2_passArc 53 = .ok (.istore 5, 2) := by decide +kernel
theorem dX2_passArc_55 : decode cX2_passArc 55 = .ok (.aload_n 0, 1) := by decide +kernel
theorem dX2_passArc_56 : decode cX2_passArc 56 = .ok (.getfield 53, 3) := by decide +kernel
theorem dX2_passArc_59 : decode cX2_passArc 59 = .ok (.getfield 157, 3) := by decide +kernel
theorem dX2_passArc_62 : decode cX2_passArc 62 = .ok (.iload_n 1, 1) := by decide +kernel
theorem dX2_passArc_63 : decode cX2_passArc 63 = .ok (.iconst 2, 1) := by decide +kernel
theorem dX2_passArc_64 : decode cX2_passArc 64 = .ok (.imul, 1) := by decide +kernel
theorem dX2_passArc_65 : decode cX2_passArc 65 = .ok (.iload_n 2, 1) := by decide +kernel
theorem dX2_passArc_66 : decode cX2_passArc 66 = .ok (.iadd, 1) := by decide +kernel
theorem dX2_passArc_67 : decode cX2_passArc 67 = .ok (.iaload, 1) := by decide +kernel
theorem dX2_passArc_68 : decode cX2_passArc 68 = .ok (.istore 6, 2) := by decide +kernel
theorem dX2_passArc_70 : decode cX2_passArc 70 = .ok (.aload_n 0, 1) := by decide +kernel
theorem dX2_passArc_71 : decode cX2_passArc 71 = .ok (.getfield 53, 3) := by decide +kernel
theorem dX2_passArc_74 : decode cX2_passArc 74 = .ok (.getfield 160, 3) := by decide +kernel
theorem dX2_passArc_77 : decode cX2_passArc 77 = .ok (.iload_n 1, 1) := by decide +kernel
theorem dX2_passArc_78 : decode cX2_passArc 78 = .ok (.iconst 2, 1) := by decide +kernel
theorem dX2_passArc_79 : decode cX2_passArc 79 = .ok (.imul, 1) := by decide +kernel
theorem dX2_passArc_80 : decode cX2_passArc 80 = .ok (.iload_n 2, 1) := by decide +kernel
theorem dX2_passArc_81 : decode cX2_passArc 81 = .ok (.iadd, 1) := by decide +kernel
theorem dX2_passArc_82 : decode cX2_passArc 82 = .ok (.iaload, 1) := by decide +kernel
theorem dX2_passArc_83 : decode cX2_passArc 83 = .ok (.istore 7, 2) := by decide +kernel
theorem dX2_passArc_85 : decode cX2_passArc 85 = .ok (.iconst 0, 1) := by decide +kernel
theorem dX2_passArc_86 : decode cX2_passArc 86 = .ok (.istore 8, 2) := by decide +kernel
theorem dX2_passArc_88 : decode cX2_passArc 88 = .ok (.iload 8, 2) := by decide +kernel
theorem dX2_passArc_90 : decode cX2_passArc 90 = .ok (.aload_n 0, 1) := by decide +kernel
theorem dX2_passArc_91 : decode cX2_passArc 91 = .ok (.getfield 9, 3) := by decide +kernel
theorem dX2_passArc_94 : decode cX2_passArc 94 = .ok (.if_icmp .ge 72, 3) := by decide +kernel
theorem dX2_passArc_166 : decode cX2_passArc 166 = .ok (.return_, 1) := by decide +kernel
theorem dX2_passArc_97 : decode cX2_passArc 97 = .ok (.iload 4, 2) := by decide +kernel
theorem dX2_passArc_99 : decode cX2_passArc 99 = .ok (.iload 8, 2) := by decide +kernel
theorem dX2_passArc_101 : decode cX2_passArc 101 = .ok (.iadd, 1) := by decide +kernel
theorem dX2_passArc_102 : decode cX2_passArc 102 = .ok (.istore 9, 2) := by decide +kernel
theorem dX2_passArc_104 : decode cX2_passArc 104 = .ok (.aload_n 0, 1) := by decide +kernel
theorem dX2_passArc_105 : decode cX2_passArc 105 = .ok (.getfield 15, 3) := by decide +kernel
theorem dX2_passArc_108 : decode cX2_passArc 108 = .ok (.iload 9, 2) := by decide +kernel
theorem dX2_passArc_110 : decode cX2_passArc 110 = .ok (.iaload, 1) := by decide +kernel
theorem dX2_passArc_111 : decode cX2_passArc 111 = .ok (.ifCond .le 49, 3) := by decide +kernel
theorem dX2_passArc_114 : decode cX2_passArc 114 = .ok (.aload_n 0, 1) := by decide +kernel
theorem dX2_passArc_115 : decode cX2_passArc 115 = .ok (.iload 5, 2) := by decide +kernel
theorem dX2_passArc_117 : decode cX2_passArc 117 = .ok (.iload 8, 2) := by decide +kernel
theorem dX2_passArc_119 : decode cX2_passArc 119 = .ok (.aload_n 0, 1) := by decide +kernel
theorem dX2_passArc_120 : decode cX2_passArc 120 = .ok (.getfield 49, 3) := by decide +kernel
theorem dX2_passArc_123 : decode cX2_passArc 123 = .ok (.getfield 132, 3) := by decide +kernel
theorem dX2_passArc_126 : decode cX2_passArc 126 = .ok (.iload_n 3, 1) := by decide +kernel
theorem dX2_passArc_127 : decode cX2_passArc 127 = .ok (.iaload, 1) := by decide +kernel
theorem dX2_passArc_128 : decode cX2_passArc 128 = .ok (.ior, 1) := by decide +kernel
theorem dX2_passArc_129 : decode cX2_passArc 129 = .ok (.iadd, 1) := by decide +kernel
theorem dX2_passArc_130 : decode cX2_passArc 130 = .ok (.aload_n 0, 1) := by decide +kernel
theorem dX2_passArc_131 : decode cX2_passArc 131 = .ok (.getfield 15, 3) := by decide +kernel
theorem dX2_passArc_134 : decode cX2_passArc 134 = .ok (.iload 9, 2) := by decide +kernel
theorem dX2_passArc_136 : decode cX2_passArc 136 = .ok (.iaload, 1) := by decide +kernel
theorem dX2_passArc_137 : decode cX2_passArc 137 = .ok (.aload_n 0, 1) := by decide +kernel
theorem dX2_passArc_138 : decode cX2_passArc 138 = .ok (.getfield 19, 3) := by decide +kernel
theorem dX2_passArc_141 : decode cX2_passArc 141 = .ok (.iload 9, 2) := by decide +kernel
theorem dX2_passArc_143 : decode cX2_passArc 143 = .ok (.iaload, 1) := by decide +kernel
theorem dX2_passArc_144 : decode cX2_passArc 144 = .ok (.iload 6, 2) := by decide +kernel
theorem dX2_passArc_146 : decode cX2_passArc 146 = .ok (.iadd, 1) := by decide +kernel
theorem dX2_passArc_147 : decode cX2_passArc 147 = .ok (.aload_n 0, 1) := by decide +kernel
theorem dX2_passArc_148 : decode cX2_passArc 148 = .ok (.getfield 22, 3) := by decide +kernel
theorem dX2_passArc_151 : decode cX2_passArc 151 = .ok (.iload 9, 2) := by decide +kernel
theorem dX2_passArc_153 : decode cX2_passArc 153 = .ok (.iaload, 1) := by decide +kernel
theorem dX2_passArc_154 : decode cX2_passArc 154 = .ok (.iload 7, 2) := by decide +kernel
theorem dX2_passArc_156 : decode cX2_passArc 156 = .ok (.iadd, 1) := by decide +kernel
theorem dX2_passArc_157 : decode cX2_passArc 157 = .ok (.invokevirtual 141, 3) := by decide +kernel
theorem dX2_passArc_160 : decode cX2_passArc 160 = .ok (.iinc 8 1, 3) := by decide +kernel
theorem dX2_passArc_163 : decode cX2_passArc 163 = .ok (.goto (-75), 3) := by decide +kernel
def wo_X2passArc : List Cond := [.code yX2_passArc cX2_passArc 10 none, .methodLink RX2 141 yX2_merge, .instanceMethod yX2_merge, .selects RX2 yX2_merge yX2_merge, .initialized RX2]
def wr_X2passArc : List Cond := (wfC ++ (w_X2merge ++ ([])))
def w_X2passArc : List Cond := wo_X2passArc ++ wr_X2passArc
theorem wg_X2passArc : GW w_X2passArc := GW_app (GW_of (by decide +kernel)) (GW_app (wg_fC) (GW_app (wg_X2merge) (GW_nil)))
theorem in_X2passArc : ∀ w ∈ wfC, w ∈ w_X2passArc := fun _ h => List.mem_append_right _ (List.mem_append_left _ h)
theorem g_X2passArc_X2merge_141 : GoodIn w_X2passArc (wsV RX2 141 RX2 yX2_merge w_X2merge) := goodIn_app (gi_left (goodIn_of _ (by decide +kernel))) (fun w h => ⟨List.mem_append_right _ (List.mem_append_right _ (List.mem_append_left _ h)), wg_X2merge w h⟩)
set_option maxHeartbeats 4000000 in
set_option maxRecDepth 100000 in
theorem ct_X2passArc (l : Launch) (E : gE) (B : Nat → Nat) (Q : VS → Prop) (p1 : Int32) (p2 : Int32) (σ : VS) (hw : wp_X2passArc Q p1 p2 σ) : CtV l E yX2_passArc w_X2passArc (({ frames := 2, cells := 0, slots := 0, locals := 45 } : Room)) (wc E B σ) [.ref (B 7), .int p1, .int p2] (fun w => ∃ σ' : VS, Q σ' ∧ w = wc E B σ') := by
  refine VC_V (cc := cX2_passArc) (mL := 10) (rt := none) (lv0 := [(0, .ref (B 7)), (1, .int p1), (2, .int p2)]) rfl (by decide) rfl (Nat.le_of_ble_eq_true rfl) ?_
  intro p e s m below meth c A F
  replace F : Fx p s m _ meth c A E cX2_passArc 10 none RX2 w_X2passArc := F
  obtain ⟨X88, hX88⟩ : ∃ X : Int32 → Int32 → Int32 → Int32 → Int32 → Int32 → VS → Prop, X = fun l3 l4 l5 l6 l7 l8 σ => WB p l e (({ frames := 2, cells := 0, slots := 0, locals := 45 } : Room)) s m (#[.ref (B 7), .int p1, .int p2]) below meth c (MQ below (va_Qv (fun w => ∃ σ' : VS, Q σ' ∧ w = wc E B σ') (AftU E A) A) (#[.ref (B 7), .int p1, .int p2]) s (({ frames := 2, cells := 0, slots := 0, locals := 45 } : Room)).cells (({ frames := 2, cells := 0, slots := 0, locals := 45 } : Room)).slots A) A E (wc E B) 10 88 [(0, .ref (B 7)), (3, .int l3), (4, .int l4), (5, .int l5), (6, .int l6), (7, .int l7), (8, .int l8)] [] σ := ⟨_, rfl⟩
  have U_88 : ∀ (l3 : Int32) (l4 : Int32) (l5 : Int32) (l6 : Int32) (l7 : Int32) (l8 : Int32) (σ : VS), X88 l3 l4 l5 l6 l7 l8 σ → WB p l e (({ frames := 2, cells := 0, slots := 0, locals := 45 } : Room)) s m (#[.ref (B 7), .int p1, .int p2]) below meth c (MQ below (va_Qv (fun w => ∃ σ' : VS, Q σ' ∧ w = wc E B σ') (AftU E A) A) (#[.ref (B 7), .int p1, .int p2]) s (({ frames := 2, cells := 0, slots := 0, locals := 45 } : Room)).cells (({ frames := 2, cells := 0, slots := 0, locals := 45 } : Room)).slots A) A E (wc E B) 10 88 [(0, .ref (B 7)), (3, .int l3), (4, .int l4), (5, .int l5), (6, .int l6), (7, .int l7), (8, .int l8)] [] σ := by
    intro l3 l4 l5 l6 l7 l8 σ hw; rw [hX88] at hw; exact hw
  have J_160 : ∀ (l3 : Int32) (l4 : Int32) (l5 : Int32) (l6 : Int32) (l7 : Int32) (l8 : Int32) (σ : VS), b_X2passArc_160 X88 Q l3 l4 l5 l6 l7 l8 σ → WB p l e (({ frames := 2, cells := 0, slots := 0, locals := 45 } : Room)) s m (#[.ref (B 7), .int p1, .int p2]) below meth c (MQ below (va_Qv (fun w => ∃ σ' : VS, Q σ' ∧ w = wc E B σ') (AftU E A) A) (#[.ref (B 7), .int p1, .int p2]) s (({ frames := 2, cells := 0, slots := 0, locals := 45 } : Room)).cells (({ frames := 2, cells := 0, slots := 0, locals := 45 } : Room)).slots A) A E (wc E B) 10 160 [(0, .ref (B 7)), (3, .int l3), (4, .int l4), (5, .int l5), (6, .int l6), (7, .int l7), (8, .int l8)] [] σ := by
    intro l3 l4 l5 l6 l7 l8 σ hw
    unfold b_X2passArc_160 at hw
    refine R_iinc (q := 6) (v := (l8 + 1)) (lv' := [(8, .int (l8 + 1)), (0, .ref (B 7)), (3, .int l3), (4, .int l4), (5, .int l5), (6, .int l6), (7, .int l7)]) F dX2_passArc_160 rfl rfl (by decide) rfl ?_
    refine R_goto (tgt := 88) F dX2_passArc_163 (by decide) ?_
    exact R_sub [1, 2, 3, 4, 5, 6, 0] rfl (U_88 l3 l4 l5 l6 l7 (l8 + 1) σ hw)
  have J_35 : ∀ (l1 : Int32) (l2 : Int32) (l3 : Int32) (k0 : Int32) (k1 : Int32) (σ : VS), b_X2passArc_35 X88 Q l1 l2 l3 k0 k1 σ → WB p l e (({ frames := 2, cells := 0, slots := 0, locals := 45 } : Room)) s m (#[.ref (B 7), .int p1, .int p2]) below meth c (MQ below (va_Qv (fun w => ∃ σ' : VS, Q σ' ∧ w = wc E B σ') (AftU E A) A) (#[.ref (B 7), .int p1, .int p2]) s (({ frames := 2, cells := 0, slots := 0, locals := 45 } : Room)).cells (({ frames := 2, cells := 0, slots := 0, locals := 45 } : Room)).slots A) A E (wc E B) 10 35 [(0, .ref (B 7)), (1, .int l1), (2, .int l2), (3, .int l3)] [.int k0, .int k1] σ := by
    intro l1 l2 l3 k0 k1 σ hw
    unfold b_X2passArc_35 at hw
    refine R_iadd F dX2_passArc_35 ?_
    refine R_aload_n F dX2_passArc_36 rfl 0 rfl ?_
    refine gc_RX2_9_7 F in_X2passArc dX2_passArc_37 ?_
    refine R_imul F dX2_passArc_40 ?_
    refine R_topi (fun x2 ex2 => ?_)
    replace hw := hw x2 ex2
    refine R_istore (lv' := [(4, .int x2), (0, .ref (B 7)), (1, .int l1), (2, .int l2), (3, .int l3)]) F dX2_passArc_41 (by decide) rfl ?_
    refine R_iload_n F dX2_passArc_43 rfl 4 rfl ?_
    refine R_iconst F 2 dX2_passArc_44 (by decide) ?_
    refine R_imul F dX2_passArc_45 ?_
    refine R_iload_n F dX2_passArc_46 rfl 3 rfl ?_
    refine R_iadd F dX2_passArc_47 ?_
    refine R_aload_n F dX2_passArc_48 rfl 1 rfl ?_
    refine gc_RX2_9_7 F in_X2passArc dX2_passArc_49 ?_
    refine R_imul F dX2_passArc_52 ?_
    refine R_topi (fun x3 ex3 => ?_)
    replace hw := hw x3 ex3
    refine R_istore (lv' := [(5, .int x3), (4, .int x2), (0, .ref (B 7)), (1, .int l1), (2, .int l2), (3, .int l3)]) F dX2_passArc_53 (by decide) rfl ?_
    refine R_aload_n F dX2_passArc_55 rfl 2 rfl ?_
    refine gc_RX2_53_7 F in_X2passArc dX2_passArc_56 ?_
    refine gc_RX2_157_6 F in_X2passArc dX2_passArc_59 ?_
    refine R_iload_n F dX2_passArc_62 rfl 3 rfl ?_
    refine R_iconst F 2 dX2_passArc_63 (by decide) ?_
    refine R_imul F dX2_passArc_64 ?_
    refine R_iload_n F dX2_passArc_65 rfl 4 rfl ?_
    refine R_iadd F dX2_passArc_66 ?_
    refine R_ldi F qc_41 dX2_passArc_67 hw.1 ?_
    replace hw := hw.2
    refine R_topi (fun x4 ex4 => ?_)
    replace hw := hw x4 ex4
    refine R_istore (lv' := [(6, .int x4), (5, .int x3), (4, .int x2), (0, .ref (B 7)), (1, .int l1), (2, .int l2), (3, .int l3)]) F dX2_passArc_68 (by decide) rfl ?_
    refine R_aload_n F dX2_passArc_70 rfl 3 rfl ?_
    refine gc_RX2_53_7 F in_X2passArc dX2_passArc_71 ?_
    refine gc_RX2_160_6 F in_X2passArc dX2_passArc_74 ?_
    refine R_iload_n F dX2_passArc_77 rfl 4 rfl ?_
    refine R_iconst F 2 dX2_passArc_78 (by decide) ?_
    refine R_imul F dX2_passArc_79 ?_
    refine R_iload_n F dX2_passArc_80 rfl 5 rfl ?_
    refine R_iadd F dX2_passArc_81 ?_
    refine R_ldi F qc_42 dX2_passArc_82 hw.1 ?_
    replace hw := hw.2
    refine R_topi (fun x5 ex5 => ?_)
    replace hw := hw x5 ex5
    refine R_istore (lv' := [(7, .int x5), (6, .int x4), (5, .int x3), (4, .int x2), (0, .ref (B 7)), (1, .int l1), (2, .int l2), (3, .int l3)]) F dX2_passArc_83 (by decide) rfl ?_
    refine R_iconst F 0 dX2_passArc_85 (by decide) ?_
    refine R_istore (lv' := [(8, .int 0), (7, .int x5), (6, .int x4), (5, .int x3), (4, .int x2), (0, .ref (B 7)), (1, .int l1), (2, .int l2), (3, .int l3)]) F dX2_passArc_86 (by decide) rfl ?_
    exact R_sub [5, 8, 4, 3, 2, 1, 0] rfl (U_88 l3 x2 x3 x4 x5 0 σ hw)
  have C_88 : ∀ (l3 : Int32) (l4 : Int32) (l5 : Int32) (l6 : Int32) (l7 : Int32) (l8 : Int32) (σ : VS), b_X2passArc_88 X88 Q l3 l4 l5 l6 l7 l8 σ → X88 l3 l4 l5 l6 l7 l8 σ := by
    intro l3 l4 l5 l6 l7 l8 σ hw
    unfold b_X2passArc_88 at hw
    rw [hX88]
    show WB p l e (({ frames := 2, cells := 0, slots := 0, locals := 45 } : Room)) s m (#[.ref (B 7), .int p1, .int p2]) below meth c (MQ below (va_Qv (fun w => ∃ σ' : VS, Q σ' ∧ w = wc E B σ') (AftU E A) A) (#[.ref (B 7), .int p1, .int p2]) s (({ frames := 2, cells := 0, slots := 0, locals := 45 } : Room)).cells (({ frames := 2, cells := 0, slots := 0, locals := 45 } : Room)).slots A) A E (wc E B) 10 88 [(0, .ref (B 7)), (3, .int l3), (4, .int l4), (5, .int l5), (6, .int l6), (7, .int l7), (8, .int l8)] [] σ
    refine R_iload F dX2_passArc_88 6 rfl ?_
    refine R_aload_n F dX2_passArc_90 rfl 0 rfl ?_
    refine gc_RX2_9_7 F in_X2passArc dX2_passArc_91 ?_
    refine R_icmp_ge (tgt := 166) F dX2_passArc_94 (by decide) (fun hc => ?_) (fun hc => ?_)
    · replace hw := hw.1 hc
      exact R_vret (Qc := Q) F dX2_passArc_166 hw
    · replace hw := hw.2 hc
      refine R_iload F dX2_passArc_97 2 rfl ?_
      refine R_iload F dX2_passArc_99 6 rfl ?_
      refine R_iadd F dX2_passArc_101 ?_
      refine R_topi (fun x6 ex6 => ?_)
      replace hw := hw x6 ex6
      refine R_istore (lv' := [(9, .int x6), (0, .ref (B 7)), (3, .int l3), (4, .int l4), (5, .int l5), (6, .int l6), (7, .int l7), (8, .int l8)]) F dX2_passArc_102 (by decide) rfl ?_
      refine R_aload_n F dX2_passArc_104 rfl 1 rfl ?_
      refine gc_RX2_15_7 F in_X2passArc dX2_passArc_105 ?_
      refine R_iload F dX2_passArc_108 0 rfl ?_
      refine R_ldi F qc_47 dX2_passArc_110 hw.1 ?_
      replace hw := hw.2
      refine R_if_le (tgt := 160) F dX2_passArc_111 (by decide) (fun hc => ?_) (fun hc => ?_)
      · replace hw := hw.1 hc
        exact R_sub [1, 2, 3, 4, 5, 6, 7] rfl (J_160 l3 l4 l5 l6 l7 l8 σ hw)
      · replace hw := hw.2 hc
        refine R_aload_n F dX2_passArc_114 rfl 1 rfl ?_
        refine R_iload F dX2_passArc_115 4 rfl ?_
        refine R_iload F dX2_passArc_117 7 rfl ?_
        refine R_aload_n F dX2_passArc_119 rfl 1 rfl ?_
        refine gc_RX2_49_7 F in_X2passArc dX2_passArc_120 ?_
        refine gc_RX2_132_4 F in_X2passArc dX2_passArc_123 ?_
        refine R_iload_n F dX2_passArc_126 rfl 2 rfl ?_
        refine R_ldi F qc_35 dX2_passArc_127 hw.1 ?_
        replace hw := hw.2
        refine R_ior F dX2_passArc_128 ?_
        refine R_iadd F dX2_passArc_129 ?_
        refine R_aload_n F dX2_passArc_130 rfl 1 rfl ?_
        refine gc_RX2_15_7 F in_X2passArc dX2_passArc_131 ?_
        refine R_iload F dX2_passArc_134 0 rfl ?_
        refine R_ldi F qc_47 dX2_passArc_136 hw.1 ?_
        replace hw := hw.2
        refine R_aload_n F dX2_passArc_137 rfl 1 rfl ?_
        refine gc_RX2_19_7 F in_X2passArc dX2_passArc_138 ?_
        refine R_iload F dX2_passArc_141 0 rfl ?_
        refine R_ldi F qc_48 dX2_passArc_143 hw.1 ?_
        replace hw := hw.2
        refine R_iload F dX2_passArc_144 5 rfl ?_
        refine R_iadd F dX2_passArc_146 ?_
        refine R_aload_n F dX2_passArc_147 rfl 1 rfl ?_
        refine gc_RX2_22_7 F in_X2passArc dX2_passArc_148 ?_
        refine R_iload F dX2_passArc_151 0 rfl ?_
        refine R_ldi F qc_49 dX2_passArc_153 hw.1 ?_
        replace hw := hw.2
        refine R_iload F dX2_passArc_154 6 rfl ?_
        refine R_iadd F dX2_passArc_156 ?_
        refine R_callV (As := [.int (l5 + (l8 ||| (rd σ 35 l3))), .int (rd σ 47 x6), .int ((rd σ 48 x6) + l6), .int ((rd σ 49 x6) + l7)]) (C := RX2) (q0 := 7) (ci := 2) (N := 13) (T := TX2) (fs := cf_7 B) F (ct_X2merge l E B _ (l5 + (l8 ||| (rd σ 35 l3))) (rd σ 47 x6) ((rd σ 48 x6) + l6) ((rd σ 49 x6) + l7) _ hw) (cwV 4 F.2.2.2.2.2.2.2.2.2.2 g_X2passArc_X2merge_141 rfl rfl rfl (by decide +kernel) ⟨Nat.le_of_ble_eq_true rfl, Nat.le_of_ble_eq_true rfl⟩) ⟨rfl, rfl⟩ rfl (fun _ => rfl) rfl rfl (Nat.le_of_ble_eq_true rfl) dX2_passArc_157 (fun σ8 hw => ?_)
        exact R_sub [1, 2, 3, 4, 5, 6, 7] rfl (J_160 l3 l4 l5 l6 l7 l8 σ8 hw)
  unfold wp_X2passArc at hw
  replace hw := hw X88 C_88
  refine R_iload_n F dX2_passArc_0 rfl 1 rfl ?_
  refine R_iconst F 4 dX2_passArc_1 (by decide) ?_
  refine R_idiv F dX2_passArc_2 (by decide) ?_
  refine R_topi (fun x1 ex1 => ?_)
  replace hw := hw x1 ex1
  refine R_istore_n (lv' := [(3, .int x1), (0, .ref (B 7)), (1, .int p1), (2, .int p2)]) F dX2_passArc_3 rfl (by decide) rfl ?_
  refine R_aload_n F dX2_passArc_4 rfl 1 rfl ?_
  refine gc_RX2_37_7 F in_X2passArc dX2_passArc_5 ?_
  refine gc_RX2_90_1 F in_X2passArc dX2_passArc_8 ?_
  refine R_iload_n F dX2_passArc_11 rfl 2 rfl ?_
  refine R_ldi F qc_16 dX2_passArc_12 hw.1 ?_
  replace hw := hw.2
  refine R_iconst F 2 dX2_passArc_13 (by decide) ?_
  refine R_imul F dX2_passArc_14 ?_
  refine R_aload_n F dX2_passArc_15 rfl 1 rfl ?_
  refine gc_RX2_37_7 F in_X2passArc dX2_passArc_16 ?_
  refine gc_RX2_104_1 F in_X2passArc dX2_passArc_19 ?_
  refine R_iload_n F dX2_passArc_22 rfl 0 rfl ?_
  refine R_ldi F qc_11 dX2_passArc_23 hw.1 ?_
  replace hw := hw.2
  refine R_iconst F 2 dX2_passArc_24 (by decide) ?_
  refine R_icmp_ne (tgt := 34) F dX2_passArc_25 (by decide) (fun hc => ?_) (fun hc => ?_)
  · replace hw := hw.1 hc
    refine R_iload_n F dX2_passArc_34 rfl 3 rfl ?_
    exact R_sub [1, 2, 3, 0] rfl (J_35 p1 p2 x1 p2 ((rd σ 16 p1) * 2) σ hw)
  · replace hw := hw.2 hc
    refine R_iconst F 1 dX2_passArc_28 (by decide) ?_
    refine R_iload_n F dX2_passArc_29 rfl 3 rfl ?_
    refine R_isub F dX2_passArc_30 ?_
    refine R_goto (tgt := 35) F dX2_passArc_31 (by decide) ?_
    exact R_sub [1, 2, 3, 0] rfl (J_35 p1 p2 x1 (1 - p2) ((rd σ 16 p1) * 2) σ hw)
def b_X2spreadFrom_180 (X2 : Int32 → Int32 → VS → Prop) (X37 : Int32 → Int32 → VS → Prop) (X93 : Int32 → VS → Prop) (X119 : Int32 → Int32 → Int32 → VS → Prop) (Q : VS → Prop) (l2 : Int32) (l3 : Int32) (l4 : Int32) (σ : VS) : Prop := X119 l2 l3 (l4 + 1) σ
def b_X2spreadFrom_119 (X2 : Int32 → Int32 → VS → Prop) (X37 : Int32 → Int32 → VS → Prop) (X93 : Int32 → VS → Prop) (X119 : Int32 → Int32 → Int32 → VS → Prop) (Q : VS → Prop) (l2 : Int32) (l3 : Int32) (l4 : Int32) (σ : VS) : Prop := (In l3 50 ∧ ((((l3 * 4) + (rd σ 12 l3)).toInt ≤ l4.toInt → X93 (l2 + 1) σ) ∧ (l4.toInt < ((l3 * 4) + (rd σ 12 l3)).toInt → (In l3 50 ∧ (((rd σ 40 l3).toInt ≠ 0 → b_X2spreadFrom_180 X2 X37 X93 X119 Q l2 l3 l4 σ) ∧ ((rd σ 40 l3).toInt = 0 → (In l4 200 ∧ wp_X2isSpreadTo (fun (r6 : Int32) (σ7 : VS) => ((r6.toInt = 0 → b_X2spreadFrom_180 X2 X37 X93 X119 Q l2 l3 l4 σ7) ∧ (r6.toInt ≠ 0 → wp_X2passArc (fun (σ9 : VS) => wp_X2passArc (fun (σ11 : VS) => b_X2spreadFrom_180 X2 X37 X93 X119 Q l2 l3 l4 σ11) l4 1 σ9) l4 0 σ7))) (rd σ 16 l4) σ)))))))
def b_X2spreadFrom_93 (X2 : Int32 → Int32 → VS → Prop) (X37 : Int32 → Int32 → VS → Prop) (X93 : Int32 → VS → Prop) (X119 : Int32 → Int32 → Int32 → VS → Prop) (Q : VS → Prop) (l2 : Int32) (σ : VS) : Prop := (((σ.1 3).toInt ≤ l2.toInt → Q σ) ∧ (l2.toInt < (σ.1 3).toInt → (In l2 50 ∧ (∀ x4 : Int32, x4 = (rd σ 19 l2) → (∀ x5 : Int32, x5 = (x4 * 4) → X119 l2 x4 x5 σ)))))
def b_X2spreadFrom_37 (X2 : Int32 → Int32 → VS → Prop) (X37 : Int32 → Int32 → VS → Prop) (X93 : Int32 → VS → Prop) (X119 : Int32 → Int32 → Int32 → VS → Prop) (Q : VS → Prop) (l1 : Int32) (l2 : Int32) (σ : VS) : Prop := ((((l1 * 2) + 2).toInt ≤ l2.toInt → X93 0 σ) ∧ (l2.toInt < ((l1 * 2) + 2).toInt → (In l1 50 ∧ (In l2 100 ∧ (In l2 100 ∧ wp_X2merge (fun (σ3 : VS) => X37 l1 (l2 + 1) σ3) ((l2 * (σ.1 9)) + (rd σ 35 l1)) 1 (rd σ 45 l2) (rd σ 46 l2) σ)))))
def b_X2spreadFrom_2 (X2 : Int32 → Int32 → VS → Prop) (X37 : Int32 → Int32 → VS → Prop) (X93 : Int32 → VS → Prop) (X119 : Int32 → Int32 → Int32 → VS → Prop) (Q : VS → Prop) (l1 : Int32) (l2 : Int32) (σ : VS) : Prop := (((((σ.1 2) * 2) * (σ.1 9)).toInt ≤ l2.toInt → (∀ x1 : Int32, x1 = (l1 * 2) → X37 l1 x1 σ)) ∧ (l2.toInt < (((σ.1 2) * 2) * (σ.1 9)).toInt → (In l2 1600 ∧ X2 l1 (l2 + 1) (sa σ 47 l2 0))))
def wp_X2spreadFrom (Q : VS → Prop) (p1 : Int32) (σ : VS) : Prop := ∀ (X2 : Int32 → Int32 → VS → Prop) (X37 : Int32 → Int32 → VS → Prop) (X93 : Int32 → VS → Prop) (X119 : Int32 → Int32 → Int32 → VS → Prop), (∀ (l1 : Int32) (l2 : Int32) (σ : VS), b_X2spreadFrom_2 X2 X37 X93 X119 Q l1 l2 σ → X2 l1 l2 σ) → (∀ (l1 : Int32) (l2 : Int32) (σ : VS), b_X2spreadFrom_37 X2 X37 X93 X119 Q l1 l2 σ → X37 l1 l2 σ) → (∀ (l2 : Int32) (σ : VS), b_X2spreadFrom_93 X2 X37 X93 X119 Q l2 σ → X93 l2 σ) → (∀ (l2 : Int32) (l3 : Int32) (l4 : Int32) (σ : VS), b_X2spreadFrom_119 X2 X37 X93 X119 Q l2 l3 l4 σ → X119 l2 l3 l4 σ) → X2 p1 0 σ
theorem dX2_spreadFrom_0 : decode cX2_spreadFrom 0 = .ok (.iconst 0, 1) := by decide +kernel
theorem dX2_spreadFrom_1 : decode cX2_spreadFrom 1 = .ok (.istore_n 2, 1) := by decide +kernel
theorem dX2_spreadFrom_2 : decode cX2_spreadFrom 2 = .ok (.iload_n 2, 1) := by decide +kernel
theorem dX2_spreadFrom_3 : decode cX2_spreadFrom 3 = .ok (.aload_n 0, 1) := by decide +kernel
theorem dX2_spreadFrom_4 : decode cX2_spreadFrom 4 = .ok (.getfield 37, 3) := by decide +kernel
theorem dX2_spreadFrom_7 : decode cX2_spreadFrom 7 = .ok (.getfield 69, 3) := by decide +kernel
theorem dX2_spreadFrom_10 : decode cX2_spreadFrom 10 = .ok (.iconst 2, 1) := by decide +kernel
theorem dX2_spreadFrom_11 : decode cX2_spreadFrom 11 = .ok (.imul, 1) := by decide +kernel
theorem dX2_spreadFrom_12 : decode cX2_spreadFrom 12 = .ok (.aload_n 0, 1) := by decide +kernel
theorem dX2_spreadFrom_13 : decode cX2_spreadFrom 13 = .ok (.getfield 9, 3) := by decide +kernel
theorem dX2_spreadFrom_16 : decode cX2_spreadFrom 16 = .ok (.imul, 1) := by decide +kernel
theorem dX2_spreadFrom_17 : decode cX2_spreadFrom 17 = .ok (.if_icmp .ge 16, 3) := by decide +kernel
theorem dX2_spreadFrom_33 : decode cX2_spreadFrom 33 = .ok (.iload_n 1, 1) := by decide +kernel
theorem dX2_spreadFrom_34 : decode cX2_spreadFrom 34 = .ok (.iconst 2, 1) := by decide +kernel
theorem dX2_spreadFrom_35 : decode cX2_spreadFrom 35 = .ok (.imul, 1) := by decide +kernel
theorem dX2_spreadFrom_36 : decode cX2_spreadFrom 36 = .ok (.istore_n 2, 1) := by decide +kernel
theorem dX2_spreadFrom_20 : decode cX2_spreadFrom 20 = .ok (.aload_n 0, 1) := by decide +kernel
theorem dX2_spreadFrom_21 : decode cX2_spreadFrom 21 = .ok (.getfield 15, 3) := by decide +kernel
theorem dX2_spreadFrom_24 : decode cX2_spreadFrom 24 = .ok (.iload_n 2, 1) := by decide +kernel
theorem dX2_spreadFrom_25 : decode cX2_spreadFrom 25 = .ok (.iconst 0, 1) := by decide +kernel
theorem dX2_spreadFrom_26 : decode cX2_spreadFrom 26 = .ok (.iastore, 1) := by decide +kernel
theorem dX2_spreadFrom_27 : decode cX2_spreadFrom 27 = .ok (.iinc 2 1, 3) := by decide +kernel
theorem dX2_spreadFrom_30 : decode cX2_spreadFrom 30 = .ok (.goto (-28), 3) := by decide +kernel
theorem dX2_spreadFrom_37 : decode cX2_spreadFrom 37 = .ok (.iload_n 2, 1) := by decide +kernel
theorem dX2_spreadFrom_38 : decode cX2_spreadFrom 38 = .ok (.iload_n 1, 1) := by decide +kernel
theorem dX2_spreadFrom_39 : decode cX2_spreadFrom 39 = .ok (.iconst 2, 1) := by decide +kernel
theorem dX2_spreadFrom_40 : decode cX2_spreadFrom 40 = .ok (.imul, 1) := by decide +kernel
theorem dX2_spreadFrom_41 : decode cX2_spreadFrom 41 = .ok (.iconst 2, 1) := by decide +kernel
theorem dX2_spreadFrom_42 : decode cX2_spreadFrom 42 = .ok (.iadd, 1) := by decide +kernel
theorem dX2_spreadFrom_43 : decode cX2_spreadFrom 43 = .ok (.if_icmp .ge 48, 3) := by decide +kernel
theorem dX2_spreadFrom_91 : decode cX2_spreadFrom 91 = .ok (.iconst 0, 1) := by decide +kernel
theorem dX2_spreadFrom_92 : decode cX2_spreadFrom 92 = .ok (.istore_n 2, 1) := by decide +kernel
theorem dX2_spreadFrom_46 : decode cX2_spreadFrom 46 = .ok (.aload_n 0, 1) := by decide +kernel
theorem dX2_spreadFrom_47 : decode cX2_spreadFrom 47 = .ok (.iload_n 2, 1) := by decide +kernel
theorem dX2_spreadFrom_48 : decode cX2_spreadFrom 48 = .ok (.aload_n 0, 1) := by decide +kernel
theorem dX2_spreadFrom_49 : decode cX2_spreadFrom 49 = .ok (.getfield 9, 3) := by decide +kernel
theorem dX2_spreadFrom_52 : decode cX2_spreadFrom 52 = .ok (.imul, 1) := by decide +kernel
theorem dX2_spreadFrom_53 : decode cX2_spreadFrom 53 = .ok (.aload_n 0, 1) := by decide +kernel
theorem dX2_spreadFrom_54 : decode cX2_spreadFrom 54 = .ok (.getfield 49, 3) := by decide +kernel
theorem dX2_spreadFrom_57 : decode cX2_spreadFrom 57 = .ok (.getfield 132, 3) := by decide +kernel
theorem dX2_spreadFrom_60 : decode cX2_spreadFrom 60 = .ok (.iload_n 1, 1) := by decide +kernel
theorem dX2_spreadFrom_61 : decode cX2_spreadFrom 61 = .ok (.iaload, 1) := by decide +kernel
theorem dX2_spreadFrom_62 : decode cX2_spreadFrom 62 = .ok (.iadd, 1) := by decide +kernel
theorem dX2_spreadFrom_63 : decode cX2_spreadFrom 63 = .ok (.iconst 1, 1) := by decide +kernel
theorem dX2_spreadFrom_64 : decode cX2_spreadFrom 64 = .ok (.aload_n 0, 1) := by decide +kernel
theorem dX2_spreadFrom_65 : decode cX2_spreadFrom 65 = .ok (.getfield 53, 3) := by decide +kernel
theorem dX2_spreadFrom_68 : decode cX2_spreadFrom 68 = .ok (.getfield 135, 3) := by decide +kernel
theorem dX2_spreadFrom_71 : decode cX2_spreadFrom 71 = .ok (.iload_n 2, 1) := by decide +kernel
theorem dX2_spreadFrom_72 : decode cX2_spreadFrom 72 = .ok (.iaload, 1) := by decide +kernel
theorem dX2_spreadFrom_73 : decode cX2_spreadFrom 73 = .ok (.aload_n 0, 1) := by decide +kernel
theorem dX2_spreadFrom_74 : decode cX2_spreadFrom 74 = .ok (.getfield 53, 3) := by decide +kernel
theorem dX2_spreadFrom_77 : decode cX2_spreadFrom 77 = .ok (.getfield 138, 3) := by decide +kernel
theorem dX2_spreadFrom_80 : decode cX2_spreadFrom 80 = .ok (.iload_n 2, 1) := by decide +kernel
theorem dX2_spreadFrom_81 : decode cX2_spreadFrom 81 = .ok (.iaload, 1) := by decide +kernel
theorem dX2_spreadFrom_82 : decode cX2_spreadFrom 82 = .ok (.invokevirtual 141, 3) := by decide +kernel
theorem dX2_spreadFrom_85 : decode cX2_spreadFrom 85 = .ok (.iinc 2 1, 3) := by decide +kernel
theorem dX2_spreadFrom_88 : decode cX2_spreadFrom 88 = .ok (.goto (-51), 3) := by decide +kernel
theorem dX2_spreadFrom_93 : decode cX2_spreadFrom 93 = .ok (.iload_n 2, 1) := by decide +kernel
theorem dX2_spreadFrom_94 : decode cX2_spreadFrom 94 = .ok (.aload_n 0, 1) := by decide +kernel
theorem dX2_spreadFrom_95 : decode cX2_spreadFrom 95 = .ok (.getfield 37, 3) := by decide +kernel
theorem dX2_spreadFrom_98 : decode cX2_spreadFrom 98 = .ok (.getfield 145, 3) := by decide +kernel
theorem dX2_spreadFrom_101 : decode cX2_spreadFrom 101 = .ok (.if_icmp .ge 91, 3) := by decide +kernel
theorem dX2_spreadFrom_192 : decode cX2_spreadFrom 192 = .ok (.return_, 1) := by decide +kernel
theorem dX2_spreadFrom_104 : decode cX2_spreadFrom 104 = .ok (.aload_n 0, 1) := by decide +kernel
theorem dX2_spreadFrom_105 : decode cX2_spreadFrom 105 = .ok (.getfield 37, 3) := by decide +kernel
theorem dX2_spreadFrom_108 : decode cX2_spreadFrom 108 = .ok (.getfield 148, 3) := by decide +kernel
theorem dX2_spreadFrom_111 : decode cX2_spreadFrom 111 = .ok (.iload_n 2, 1) := by decide +kernel
theorem dX2_spreadFrom_112 : decode cX2_spreadFrom 112 = .ok (.iaload, 1) := by decide +kernel
theorem dX2_spreadFrom_113 : decode cX2_spreadFrom 113 = .ok (.istore_n 3, 1) := by decide +kernel
theorem dX2_spreadFrom_114 : decode cX2_spreadFrom 114 = .ok (.iload_n 3, 1) := by decide +kernel
theorem dX2_spreadFrom_115 : decode cX2_spreadFrom 115 = .ok (.iconst 4, 1) := by decide +kernel
theorem dX2_spreadFrom_116 : decode cX2_spreadFrom 116 = .ok (.imul, 1) := by decide +kernel
theorem dX2_spreadFrom_117 : decode cX2_spreadFrom 117 = .ok (.istore 4, 2) := by decide +kernel
theorem dX2_spreadFrom_119 : decode cX2_spreadFrom 119 = .ok (.iload 4, 2) := by decide +kernel
theorem dX2_spreadFrom_121 : decode cX2_spreadFrom 121 = .ok (.iload_n 3, 1) := by decide +kernel
theorem dX2_spreadFrom_122 : decode cX2_spreadFrom 122 = .ok (.iconst 4, 1) := by decide +kernel
theorem dX2_spreadFrom_123 : decode cX2_spreadFrom 123 = .ok (.imul, 1) := by decide +kernel
theorem dX2_spreadFrom_124 : decode cX2_spreadFrom 124 = .ok (.aload_n 0, 1) := by decide +kernel
theorem dX2_spreadFrom_125 : decode cX2_spreadFrom 125 = .ok (.getfield 37, 3) := by decide +kernel
theorem dX2_spreadFrom_128 : decode cX2_spreadFrom 128 = .ok (.getfield 151, 3) := by decide +kernel
theorem dX2_spreadFrom_131 : decode cX2_spreadFrom 131 = .ok (.iload_n 3, 1) := by decide +kernel
theorem dX2_spreadFrom_132 : decode cX2_spreadFrom 132 = .ok (.iaload, 1) := by decide +kernel
theorem dX2_spreadFrom_133 : decode cX2_spreadFrom 133 = .ok (.iadd, 1) := by decide +kernel
theorem dX2_spreadFrom_134 : decode cX2_spreadFrom 134 = .ok (.if_icmp .ge 52, 3) := by decide +kernel
theorem dX2_spreadFrom_186 : decode cX2_spreadFrom 186 = .ok (.iinc 2 1, 3) := by decide +kernel
theorem dX2_spreadFrom_189 : decode cX2_spreadFrom 189 = .ok (.goto (-96), 3) := by decide +kernel
theorem dX2_spreadFrom_137 : decode cX2_spreadFrom 137 = .ok (.aload_n 0, 1) := by decide +kernel
theorem dX2_spreadFrom_138 : decode cX2_spreadFrom 138 = .ok (.getfield 53, 3) := by decide +kernel
theorem dX2_spreadFrom_141 : decode cX2_spreadFrom 141 = .ok (.getfield 78, 3) := by decide +kernel
theorem dX2_spreadFrom_144 : decode cX2_spreadFrom 144 = .ok (.iload_n 3, 1) := by decide +kernel
theorem dX2_spreadFrom_145 : decode cX2_spreadFrom 145 = .ok (.iaload, 1) := by decide +kernel
theorem dX2_spreadFrom_146 : decode cX2_spreadFrom 146 = .ok (.ifCond .ne 34, 3) := by decide +kernel
theorem dX2_spreadFrom_149 : decode cX2_spreadFrom 149 = .ok (.aload_n 0, 1) := by decide +kernel
theorem dX2_spreadFrom_150 : decode cX2_spreadFrom 150 = .ok (.aload_n 0, 1) := by decide +kernel
theorem dX2_spreadFrom_151 : decode cX2_spreadFrom 151 = .ok (.getfield 37, 3) := by decide +kernel
theorem dX2_spreadFrom_154 : decode cX2_spreadFrom 154 = .ok (.getfield 90, 3) := by decide +kernel
theorem dX2_spreadFrom_157 : decode cX2_spreadFrom 157 = .ok (.iload 4, 2) := by decide +kernel
theorem dX2_spreadFrom_159 : decode cX2_spreadFrom 159 = .ok (.iaload, 1) := by decide +kernel
theorem dX2_spreadFrom_160 : decode cX2_spreadFrom 160 = .ok (.invokevirtual 93, 3) := by decide +kernel
theorem dX2_spreadFrom_163 : decode cX2_spreadFrom 163 = .ok (.ifCond .eq 17, 3) := by decide +kernel
theorem dX2_spreadFrom_166 : decode cX2_spreadFrom 166 = .ok (.aload_n 0, 1) := by decide +kernel
theorem dX2_spreadFrom_167 : decode cX2_spreadFrom 167 = .ok (.iload 4, 2) := by decide +kernel
theorem dX2_spreadFrom_169 : decode cX2_spreadFrom 169 = .ok (.iconst 0, 1) := by decide +kernel
theorem dX2_spreadFrom_170 : decode cX2_spreadFrom 170 = .ok (.invokevirtual 154, 3) := by decide +kernel
theorem dX2_spreadFrom_173 : decode cX2_spreadFrom 173 = .ok (.aload_n 0, 1) := by decide +kernel
theorem dX2_spreadFrom_174 : decode cX2_spreadFrom 174 = .ok (.iload 4, 2) := by decide +kernel
theorem dX2_spreadFrom_176 : decode cX2_spreadFrom 176 = .ok (.iconst 1, 1) := by decide +kernel
theorem dX2_spreadFrom_177 : decode cX2_spreadFrom 177 = .ok (.invokevirtual 154, 3) := by decide +kernel
theorem dX2_spreadFrom_180 : decode cX2_spreadFrom 180 = .ok (.iinc 4 1, 3) := by decide +kernel
theorem dX2_spreadFrom_183 : decode cX2_spreadFrom 183 = .ok (.goto (-64), 3) := by decide +kernel
def wo_X2spreadFrom : List Cond := [.code yX2_spreadFrom cX2_spreadFrom 5 none, .methodLink RX2 141 yX2_merge, .instanceMethod yX2_merge, .selects RX2 yX2_merge yX2_merge, .initialized RX2, .methodLink RX2 93 yX2_isSpreadTo, .instanceMethod yX2_isSpreadTo, .selects RX2 yX2_isSpreadTo yX2_isSpreadTo, .methodLink RX2 154 yX2_passArc, .instanceMethod yX2_passArc, .selects RX2 yX2_passArc yX2_passArc]
def wr_X2spreadFrom : List Cond := (wfC ++ (w_X2merge ++ (w_X2isSpreadTo ++ (w_X2passArc ++ ([])))))
def w_X2spreadFrom : List Cond := wo_X2spreadFrom ++ wr_X2spreadFrom
theorem wg_X2spreadFrom : GW w_X2spreadFrom := GW_app (GW_of (by decide +kernel)) (GW_app (wg_fC) (GW_app (wg_X2merge) (GW_app (wg_X2isSpreadTo) (GW_app (wg_X2passArc) (GW_nil)))))
theorem in_X2spreadFrom : ∀ w ∈ wfC, w ∈ w_X2spreadFrom := fun _ h => List.mem_append_right _ (List.mem_append_left _ h)
theorem g_X2spreadFrom_X2merge_141 : GoodIn w_X2spreadFrom (wsV RX2 141 RX2 yX2_merge w_X2merge) := goodIn_app (gi_left (goodIn_of _ (by decide +kernel))) (fun w h => ⟨List.mem_append_right _ (List.mem_append_right _ (List.mem_append_left _ h)), wg_X2merge w h⟩)
theorem g_X2spreadFrom_X2isSpreadTo_93 : GoodIn w_X2spreadFrom (wsV RX2 93 RX2 yX2_isSpreadTo w_X2isSpreadTo) := goodIn_app (gi_left (goodIn_of _ (by decide +kernel))) (fun w h => ⟨List.mem_append_right _ (List.mem_append_right _ (List.mem_append_right _ (List.mem_append_left _ h))), wg_X2isSpreadTo w h⟩)
theorem g_X2spreadFrom_X2passArc_154 : GoodIn w_X2spreadFrom (wsV RX2 154 RX2 yX2_passArc w_X2passArc) := goodIn_app (gi_left (goodIn_of _ (by decide +kernel))) (fun w h => ⟨List.mem_append_right _ (List.mem_append_right _ (List.mem_append_right _ (List.mem_append_right _ (List.mem_append_left _ h)))), wg_X2passArc w h⟩)
set_option maxHeartbeats 4000000 in
set_option maxRecDepth 100000 in
theorem ct_X2spreadFrom (l : Launch) (E : gE) (B : Nat → Nat) (Q : VS → Prop) (p1 : Int32) (σ : VS) (hw : wp_X2spreadFrom Q p1 σ) : CtV l E yX2_spreadFrom w_X2spreadFrom (({ frames := 3, cells := 0, slots := 0, locals := 74 } : Room)) (wc E B σ) [.ref (B 7), .int p1] (fun w => ∃ σ' : VS, Q σ' ∧ w = wc E B σ') := by
  refine VC_V (cc := cX2_spreadFrom) (mL := 5) (rt := none) (lv0 := [(0, .ref (B 7)), (1, .int p1)]) rfl (by decide) rfl (Nat.le_of_ble_eq_true rfl) ?_
  intro p e s m below meth c A F
  replace F : Fx p s m _ meth c A E cX2_spreadFrom 5 none RX2 w_X2spreadFrom := F
  obtain ⟨X2, hX2⟩ : ∃ X : Int32 → Int32 → VS → Prop, X = fun l1 l2 σ => WB p l e (({ frames := 3, cells := 0, slots := 0, locals := 74 } : Room)) s m (#[.ref (B 7), .int p1]) below meth c (MQ below (va_Qv (fun w => ∃ σ' : VS, Q σ' ∧ w = wc E B σ') (AftU E A) A) (#[.ref (B 7), .int p1]) s (({ frames := 3, cells := 0, slots := 0, locals := 74 } : Room)).cells (({ frames := 3, cells := 0, slots := 0, locals := 74 } : Room)).slots A) A E (wc E B) 5 2 [(0, .ref (B 7)), (1, .int l1), (2, .int l2)] [] σ := ⟨_, rfl⟩
  have U_2 : ∀ (l1 : Int32) (l2 : Int32) (σ : VS), X2 l1 l2 σ → WB p l e (({ frames := 3, cells := 0, slots := 0, locals := 74 } : Room)) s m (#[.ref (B 7), .int p1]) below meth c (MQ below (va_Qv (fun w => ∃ σ' : VS, Q σ' ∧ w = wc E B σ') (AftU E A) A) (#[.ref (B 7), .int p1]) s (({ frames := 3, cells := 0, slots := 0, locals := 74 } : Room)).cells (({ frames := 3, cells := 0, slots := 0, locals := 74 } : Room)).slots A) A E (wc E B) 5 2 [(0, .ref (B 7)), (1, .int l1), (2, .int l2)] [] σ := by
    intro l1 l2 σ hw; rw [hX2] at hw; exact hw
  obtain ⟨X37, hX37⟩ : ∃ X : Int32 → Int32 → VS → Prop, X = fun l1 l2 σ => WB p l e (({ frames := 3, cells := 0, slots := 0, locals := 74 } : Room)) s m (#[.ref (B 7), .int p1]) below meth c (MQ below (va_Qv (fun w => ∃ σ' : VS, Q σ' ∧ w = wc E B σ') (AftU E A) A) (#[.ref (B 7), .int p1]) s (({ frames := 3, cells := 0, slots := 0, locals := 74 } : Room)).cells (({ frames := 3, cells := 0, slots := 0, locals := 74 } : Room)).slots A) A E (wc E B) 5 37 [(0, .ref (B 7)), (1, .int l1), (2, .int l2)] [] σ := ⟨_, rfl⟩
  have U_37 : ∀ (l1 : Int32) (l2 : Int32) (σ : VS), X37 l1 l2 σ → WB p l e (({ frames := 3, cells := 0, slots := 0, locals := 74 } : Room)) s m (#[.ref (B 7), .int p1]) below meth c (MQ below (va_Qv (fun w => ∃ σ' : VS, Q σ' ∧ w = wc E B σ') (AftU E A) A) (#[.ref (B 7), .int p1]) s (({ frames := 3, cells := 0, slots := 0, locals := 74 } : Room)).cells (({ frames := 3, cells := 0, slots := 0, locals := 74 } : Room)).slots A) A E (wc E B) 5 37 [(0, .ref (B 7)), (1, .int l1), (2, .int l2)] [] σ := by
    intro l1 l2 σ hw; rw [hX37] at hw; exact hw
  obtain ⟨X93, hX93⟩ : ∃ X : Int32 → VS → Prop, X = fun l2 σ => WB p l e (({ frames := 3, cells := 0, slots := 0, locals := 74 } : Room)) s m (#[.ref (B 7), .int p1]) below meth c (MQ below (va_Qv (fun w => ∃ σ' : VS, Q σ' ∧ w = wc E B σ') (AftU E A) A) (#[.ref (B 7), .int p1]) s (({ frames := 3, cells := 0, slots := 0, locals := 74 } : Room)).cells (({ frames := 3, cells := 0, slots := 0, locals := 74 } : Room)).slots A) A E (wc E B) 5 93 [(0, .ref (B 7)), (2, .int l2)] [] σ := ⟨_, rfl⟩
  have U_93 : ∀ (l2 : Int32) (σ : VS), X93 l2 σ → WB p l e (({ frames := 3, cells := 0, slots := 0, locals := 74 } : Room)) s m (#[.ref (B 7), .int p1]) below meth c (MQ below (va_Qv (fun w => ∃ σ' : VS, Q σ' ∧ w = wc E B σ') (AftU E A) A) (#[.ref (B 7), .int p1]) s (({ frames := 3, cells := 0, slots := 0, locals := 74 } : Room)).cells (({ frames := 3, cells := 0, slots := 0, locals := 74 } : Room)).slots A) A E (wc E B) 5 93 [(0, .ref (B 7)), (2, .int l2)] [] σ := by
    intro l2 σ hw; rw [hX93] at hw; exact hw
  obtain ⟨X119, hX119⟩ : ∃ X : Int32 → Int32 → Int32 → VS → Prop, X = fun l2 l3 l4 σ => WB p l e (({ frames := 3, cells := 0, slots := 0, locals := 74 } : Room)) s m (#[.ref (B 7), .int p1]) below meth c (MQ below (va_Qv (fun w => ∃ σ' : VS, Q σ' ∧ w = wc E B σ') (AftU E A) A) (#[.ref (B 7), .int p1]) s (({ frames := 3, cells := 0, slots := 0, locals := 74 } : Room)).cells (({ frames := 3, cells := 0, slots := 0, locals := 74 } : Room)).slots A) A E (wc E B) 5 119 [(0, .ref (B 7)), (2, .int l2), (3, .int l3), (4, .int l4)] [] σ := ⟨_, rfl⟩
  have U_119 : ∀ (l2 : Int32) (l3 : Int32) (l4 : Int32) (σ : VS), X119 l2 l3 l4 σ → WB p l e (({ frames := 3, cells := 0, slots := 0, locals := 74 } : Room)) s m (#[.ref (B 7), .int p1]) below meth c (MQ below (va_Qv (fun w => ∃ σ' : VS, Q σ' ∧ w = wc E B σ') (AftU E A) A) (#[.ref (B 7), .int p1]) s (({ frames := 3, cells := 0, slots := 0, locals := 74 } : Room)).cells (({ frames := 3, cells := 0, slots := 0, locals := 74 } : Room)).slots A) A E (wc E B) 5 119 [(0, .ref (B 7)), (2, .int l2), (3, .int l3), (4, .int l4)] [] σ := by
    intro l2 l3 l4 σ hw; rw [hX119] at hw; exact hw
  have J_180 : ∀ (l2 : Int32) (l3 : Int32) (l4 : Int32) (σ : VS), b_X2spreadFrom_180 X2 X37 X93 X119 Q l2 l3 l4 σ → WB p l e (({ frames := 3, cells := 0, slots := 0, locals := 74 } : Room)) s m (#[.ref (B 7), .int p1]) below meth c (MQ below (va_Qv (fun w => ∃ σ' : VS, Q σ' ∧ w = wc E B σ') (AftU E A) A) (#[.ref (B 7), .int p1]) s (({ frames := 3, cells := 0, slots := 0, locals := 74 } : Room)).cells (({ frames := 3, cells := 0, slots := 0, locals := 74 } : Room)).slots A) A E (wc E B) 5 180 [(0, .ref (B 7)), (2, .int l2), (3, .int l3), (4, .int l4)] [] σ := by
    intro l2 l3 l4 σ hw
    unfold b_X2spreadFrom_180 at hw
    refine R_iinc (q := 3) (v := (l4 + 1)) (lv' := [(4, .int (l4 + 1)), (0, .ref (B 7)), (2, .int l2), (3, .int l3)]) F dX2_spreadFrom_180 rfl rfl (by decide) rfl ?_
    refine R_goto (tgt := 119) F dX2_spreadFrom_183 (by decide) ?_
    exact R_sub [1, 2, 3, 0] rfl (U_119 l2 l3 (l4 + 1) σ hw)
  have C_2 : ∀ (l1 : Int32) (l2 : Int32) (σ : VS), b_X2spreadFrom_2 X2 X37 X93 X119 Q l1 l2 σ → X2 l1 l2 σ := by
    intro l1 l2 σ hw
    unfold b_X2spreadFrom_2 at hw
    rw [hX2]
    show WB p l e (({ frames := 3, cells := 0, slots := 0, locals := 74 } : Room)) s m (#[.ref (B 7), .int p1]) below meth c (MQ below (va_Qv (fun w => ∃ σ' : VS, Q σ' ∧ w = wc E B σ') (AftU E A) A) (#[.ref (B 7), .int p1]) s (({ frames := 3, cells := 0, slots := 0, locals := 74 } : Room)).cells (({ frames := 3, cells := 0, slots := 0, locals := 74 } : Room)).slots A) A E (wc E B) 5 2 [(0, .ref (B 7)), (1, .int l1), (2, .int l2)] [] σ
    refine R_iload_n F dX2_spreadFrom_2 rfl 2 rfl ?_
    refine R_aload_n F dX2_spreadFrom_3 rfl 0 rfl ?_
    refine gc_RX2_37_7 F in_X2spreadFrom dX2_spreadFrom_4 ?_
    refine gc_RX2_69_1 F in_X2spreadFrom dX2_spreadFrom_7 ?_
    refine R_iconst F 2 dX2_spreadFrom_10 (by decide) ?_
    refine R_imul F dX2_spreadFrom_11 ?_
    refine R_aload_n F dX2_spreadFrom_12 rfl 0 rfl ?_
    refine gc_RX2_9_7 F in_X2spreadFrom dX2_spreadFrom_13 ?_
    refine R_imul F dX2_spreadFrom_16 ?_
    refine R_icmp_ge (tgt := 33) F dX2_spreadFrom_17 (by decide) (fun hc => ?_) (fun hc => ?_)
    · replace hw := hw.1 hc
      refine R_iload_n F dX2_spreadFrom_33 rfl 1 rfl ?_
      refine R_iconst F 2 dX2_spreadFrom_34 (by decide) ?_
      refine R_imul F dX2_spreadFrom_35 ?_
      refine R_topi (fun x1 ex1 => ?_)
      replace hw := hw x1 ex1
      refine R_istore_n (lv' := [(2, .int x1), (0, .ref (B 7)), (1, .int l1)]) F dX2_spreadFrom_36 rfl (by decide) rfl ?_
      exact R_sub [1, 2, 0] rfl (U_37 l1 x1 σ hw)
    · replace hw := hw.2 hc
      refine R_aload_n F dX2_spreadFrom_20 rfl 0 rfl ?_
      refine gc_RX2_15_7 F in_X2spreadFrom dX2_spreadFrom_21 ?_
      refine R_iload_n F dX2_spreadFrom_24 rfl 2 rfl ?_
      refine R_iconst F 0 dX2_spreadFrom_25 (by decide) ?_
      have hi := hw.1
      replace hw := hw.2
      refine R_sti F qc_47 uc_47 dX2_spreadFrom_26 hi ?_
      refine R_iinc (q := 2) (v := (l2 + 1)) (lv' := [(2, .int (l2 + 1)), (0, .ref (B 7)), (1, .int l1)]) F dX2_spreadFrom_27 rfl rfl (by decide) rfl ?_
      refine R_goto (tgt := 2) F dX2_spreadFrom_30 (by decide) ?_
      exact R_sub [1, 2, 0] rfl (U_2 l1 (l2 + 1) (sa σ 47 l2 0) hw)
  have C_37 : ∀ (l1 : Int32) (l2 : Int32) (σ : VS), b_X2spreadFrom_37 X2 X37 X93 X119 Q l1 l2 σ → X37 l1 l2 σ := by
    intro l1 l2 σ hw
    unfold b_X2spreadFrom_37 at hw
    rw [hX37]
    show WB p l e (({ frames := 3, cells := 0, slots := 0, locals := 74 } : Room)) s m (#[.ref (B 7), .int p1]) below meth c (MQ below (va_Qv (fun w => ∃ σ' : VS, Q σ' ∧ w = wc E B σ') (AftU E A) A) (#[.ref (B 7), .int p1]) s (({ frames := 3, cells := 0, slots := 0, locals := 74 } : Room)).cells (({ frames := 3, cells := 0, slots := 0, locals := 74 } : Room)).slots A) A E (wc E B) 5 37 [(0, .ref (B 7)), (1, .int l1), (2, .int l2)] [] σ
    refine R_iload_n F dX2_spreadFrom_37 rfl 2 rfl ?_
    refine R_iload_n F dX2_spreadFrom_38 rfl 1 rfl ?_
    refine R_iconst F 2 dX2_spreadFrom_39 (by decide) ?_
    refine R_imul F dX2_spreadFrom_40 ?_
    refine R_iconst F 2 dX2_spreadFrom_41 (by decide) ?_
    refine R_iadd F dX2_spreadFrom_42 ?_
    refine R_icmp_ge (tgt := 91) F dX2_spreadFrom_43 (by decide) (fun hc => ?_) (fun hc => ?_)
    · replace hw := hw.1 hc
      refine R_iconst F 0 dX2_spreadFrom_91 (by decide) ?_
      refine R_istore_n (lv' := [(2, .int 0), (0, .ref (B 7)), (1, .int l1)]) F dX2_spreadFrom_92 rfl (by decide) rfl ?_
      exact R_sub [1, 0] rfl (U_93 0 σ hw)
    · replace hw := hw.2 hc
      refine R_aload_n F dX2_spreadFrom_46 rfl 0 rfl ?_
      refine R_iload_n F dX2_spreadFrom_47 rfl 2 rfl ?_
      refine R_aload_n F dX2_spreadFrom_48 rfl 0 rfl ?_
      refine gc_RX2_9_7 F in_X2spreadFrom dX2_spreadFrom_49 ?_
      refine R_imul F dX2_spreadFrom_52 ?_
      refine R_aload_n F dX2_spreadFrom_53 rfl 0 rfl ?_
      refine gc_RX2_49_7 F in_X2spreadFrom dX2_spreadFrom_54 ?_
      refine gc_RX2_132_4 F in_X2spreadFrom dX2_spreadFrom_57 ?_
      refine R_iload_n F dX2_spreadFrom_60 rfl 1 rfl ?_
      refine R_ldi F qc_35 dX2_spreadFrom_61 hw.1 ?_
      replace hw := hw.2
      refine R_iadd F dX2_spreadFrom_62 ?_
      refine R_iconst F 1 dX2_spreadFrom_63 (by decide) ?_
      refine R_aload_n F dX2_spreadFrom_64 rfl 0 rfl ?_
      refine gc_RX2_53_7 F in_X2spreadFrom dX2_spreadFrom_65 ?_
      refine gc_RX2_135_6 F in_X2spreadFrom dX2_spreadFrom_68 ?_
      refine R_iload_n F dX2_spreadFrom_71 rfl 2 rfl ?_
      refine R_ldi F qc_45 dX2_spreadFrom_72 hw.1 ?_
      replace hw := hw.2
      refine R_aload_n F dX2_spreadFrom_73 rfl 0 rfl ?_
      refine gc_RX2_53_7 F in_X2spreadFrom dX2_spreadFrom_74 ?_
      refine gc_RX2_138_6 F in_X2spreadFrom dX2_spreadFrom_77 ?_
      refine R_iload_n F dX2_spreadFrom_80 rfl 2 rfl ?_
      refine R_ldi F qc_46 dX2_spreadFrom_81 hw.1 ?_
      replace hw := hw.2
      refine R_callV (As := [.int ((l2 * (σ.1 9)) + (rd σ 35 l1)), .int 1, .int (rd σ 45 l2), .int (rd σ 46 l2)]) (C := RX2) (q0 := 7) (ci := 2) (N := 13) (T := TX2) (fs := cf_7 B) F (ct_X2merge l E B _ ((l2 * (σ.1 9)) + (rd σ 35 l1)) 1 (rd σ 45 l2) (rd σ 46 l2) _ hw) (cwV 4 F.2.2.2.2.2.2.2.2.2.2 g_X2spreadFrom_X2merge_141 rfl rfl rfl (by decide +kernel) ⟨Nat.le_of_ble_eq_true rfl, Nat.le_of_ble_eq_true rfl⟩) ⟨rfl, rfl⟩ rfl (fun _ => rfl) rfl rfl (Nat.le_of_ble_eq_true rfl) dX2_spreadFrom_82 (fun σ3 hw => ?_)
      refine R_iinc (q := 2) (v := (l2 + 1)) (lv' := [(2, .int (l2 + 1)), (0, .ref (B 7)), (1, .int l1)]) F dX2_spreadFrom_85 rfl rfl (by decide) rfl ?_
      refine R_goto (tgt := 37) F dX2_spreadFrom_88 (by decide) ?_
      exact R_sub [1, 2, 0] rfl (U_37 l1 (l2 + 1) σ3 hw)
  have C_93 : ∀ (l2 : Int32) (σ : VS), b_X2spreadFrom_93 X2 X37 X93 X119 Q l2 σ → X93 l2 σ := by
    intro l2 σ hw
    unfold b_X2spreadFrom_93 at hw
    rw [hX93]
    show WB p l e (({ frames := 3, cells := 0, slots := 0, locals := 74 } : Room)) s m (#[.ref (B 7), .int p1]) below meth c (MQ below (va_Qv (fun w => ∃ σ' : VS, Q σ' ∧ w = wc E B σ') (AftU E A) A) (#[.ref (B 7), .int p1]) s (({ frames := 3, cells := 0, slots := 0, locals := 74 } : Room)).cells (({ frames := 3, cells := 0, slots := 0, locals := 74 } : Room)).slots A) A E (wc E B) 5 93 [(0, .ref (B 7)), (2, .int l2)] [] σ
    refine R_iload_n F dX2_spreadFrom_93 rfl 1 rfl ?_
    refine R_aload_n F dX2_spreadFrom_94 rfl 0 rfl ?_
    refine gc_RX2_37_7 F in_X2spreadFrom dX2_spreadFrom_95 ?_
    refine gc_RX2_145_1 F in_X2spreadFrom dX2_spreadFrom_98 ?_
    refine R_icmp_ge (tgt := 192) F dX2_spreadFrom_101 (by decide) (fun hc => ?_) (fun hc => ?_)
    · replace hw := hw.1 hc
      exact R_vret (Qc := Q) F dX2_spreadFrom_192 hw
    · replace hw := hw.2 hc
      refine R_aload_n F dX2_spreadFrom_104 rfl 0 rfl ?_
      refine gc_RX2_37_7 F in_X2spreadFrom dX2_spreadFrom_105 ?_
      refine gc_RX2_148_1 F in_X2spreadFrom dX2_spreadFrom_108 ?_
      refine R_iload_n F dX2_spreadFrom_111 rfl 1 rfl ?_
      refine R_ldi F qc_19 dX2_spreadFrom_112 hw.1 ?_
      replace hw := hw.2
      refine R_topi (fun x4 ex4 => ?_)
      replace hw := hw x4 ex4
      refine R_istore_n (lv' := [(3, .int x4), (0, .ref (B 7)), (2, .int l2)]) F dX2_spreadFrom_113 rfl (by decide) rfl ?_
      refine R_iload_n F dX2_spreadFrom_114 rfl 0 rfl ?_
      refine R_iconst F 4 dX2_spreadFrom_115 (by decide) ?_
      refine R_imul F dX2_spreadFrom_116 ?_
      refine R_topi (fun x5 ex5 => ?_)
      replace hw := hw x5 ex5
      refine R_istore (lv' := [(4, .int x5), (3, .int x4), (0, .ref (B 7)), (2, .int l2)]) F dX2_spreadFrom_117 (by decide) rfl ?_
      exact R_sub [2, 3, 1, 0] rfl (U_119 l2 x4 x5 σ hw)
  have C_119 : ∀ (l2 : Int32) (l3 : Int32) (l4 : Int32) (σ : VS), b_X2spreadFrom_119 X2 X37 X93 X119 Q l2 l3 l4 σ → X119 l2 l3 l4 σ := by
    intro l2 l3 l4 σ hw
    unfold b_X2spreadFrom_119 at hw
    rw [hX119]
    show WB p l e (({ frames := 3, cells := 0, slots := 0, locals := 74 } : Room)) s m (#[.ref (B 7), .int p1]) below meth c (MQ below (va_Qv (fun w => ∃ σ' : VS, Q σ' ∧ w = wc E B σ') (AftU E A) A) (#[.ref (B 7), .int p1]) s (({ frames := 3, cells := 0, slots := 0, locals := 74 } : Room)).cells (({ frames := 3, cells := 0, slots := 0, locals := 74 } : Room)).slots A) A E (wc E B) 5 119 [(0, .ref (B 7)), (2, .int l2), (3, .int l3), (4, .int l4)] [] σ
    refine R_iload F dX2_spreadFrom_119 3 rfl ?_
    refine R_iload_n F dX2_spreadFrom_121 rfl 2 rfl ?_
    refine R_iconst F 4 dX2_spreadFrom_122 (by decide) ?_
    refine R_imul F dX2_spreadFrom_123 ?_
    refine R_aload_n F dX2_spreadFrom_124 rfl 0 rfl ?_
    refine gc_RX2_37_7 F in_X2spreadFrom dX2_spreadFrom_125 ?_
    refine gc_RX2_151_1 F in_X2spreadFrom dX2_spreadFrom_128 ?_
    refine R_iload_n F dX2_spreadFrom_131 rfl 2 rfl ?_
    refine R_ldi F qc_12 dX2_spreadFrom_132 hw.1 ?_
    replace hw := hw.2
    refine R_iadd F dX2_spreadFrom_133 ?_
    refine R_icmp_ge (tgt := 186) F dX2_spreadFrom_134 (by decide) (fun hc => ?_) (fun hc => ?_)
    · replace hw := hw.1 hc
      refine R_iinc (q := 1) (v := (l2 + 1)) (lv' := [(2, .int (l2 + 1)), (0, .ref (B 7)), (3, .int l3), (4, .int l4)]) F dX2_spreadFrom_186 rfl rfl (by decide) rfl ?_
      refine R_goto (tgt := 93) F dX2_spreadFrom_189 (by decide) ?_
      exact R_sub [1, 0] rfl (U_93 (l2 + 1) σ hw)
    · replace hw := hw.2 hc
      refine R_aload_n F dX2_spreadFrom_137 rfl 0 rfl ?_
      refine gc_RX2_53_7 F in_X2spreadFrom dX2_spreadFrom_138 ?_
      refine gc_RX2_78_6 F in_X2spreadFrom dX2_spreadFrom_141 ?_
      refine R_iload_n F dX2_spreadFrom_144 rfl 2 rfl ?_
      refine R_ldi F qc_40 dX2_spreadFrom_145 hw.1 ?_
      replace hw := hw.2
      refine R_if_ne (tgt := 180) F dX2_spreadFrom_146 (by decide) (fun hc => ?_) (fun hc => ?_)
      · replace hw := hw.1 hc
        exact R_sub [0, 1, 2, 3] rfl (J_180 l2 l3 l4 σ hw)
      · replace hw := hw.2 hc
        refine R_aload_n F dX2_spreadFrom_149 rfl 0 rfl ?_
        refine R_aload_n F dX2_spreadFrom_150 rfl 0 rfl ?_
        refine gc_RX2_37_7 F in_X2spreadFrom dX2_spreadFrom_151 ?_
        refine gc_RX2_90_1 F in_X2spreadFrom dX2_spreadFrom_154 ?_
        refine R_iload F dX2_spreadFrom_157 3 rfl ?_
        refine R_ldi F qc_16 dX2_spreadFrom_159 hw.1 ?_
        replace hw := hw.2
        refine R_callI (As := [.int (rd σ 16 l4)]) (C := RX2) (q0 := 7) (ci := 2) (N := 13) (T := TX2) (fs := cf_7 B) F (ct_X2isSpreadTo l E B _ (rd σ 16 l4) _ hw) (cwV 1 F.2.2.2.2.2.2.2.2.2.2 g_X2spreadFrom_X2isSpreadTo_93 rfl rfl rfl (by decide +kernel) ⟨Nat.le_of_ble_eq_true rfl, Nat.le_of_ble_eq_true rfl⟩) ⟨rfl, rfl⟩ rfl (fun _ => rfl) rfl rfl (Nat.le_of_ble_eq_true rfl) dX2_spreadFrom_160 (fun r6 σ7 hw => ?_)
        refine R_if_eq (tgt := 180) F dX2_spreadFrom_163 (by decide) (fun hc => ?_) (fun hc => ?_)
        · replace hw := hw.1 hc
          exact R_sub [0, 1, 2, 3] rfl (J_180 l2 l3 l4 σ7 hw)
        · replace hw := hw.2 hc
          refine R_aload_n F dX2_spreadFrom_166 rfl 0 rfl ?_
          refine R_iload F dX2_spreadFrom_167 3 rfl ?_
          refine R_iconst F 0 dX2_spreadFrom_169 (by decide) ?_
          refine R_callV (As := [.int l4, .int 0]) (C := RX2) (q0 := 7) (ci := 2) (N := 13) (T := TX2) (fs := cf_7 B) F (ct_X2passArc l E B _ l4 0 _ hw) (cwV 2 F.2.2.2.2.2.2.2.2.2.2 g_X2spreadFrom_X2passArc_154 rfl rfl rfl (by decide +kernel) ⟨Nat.le_of_ble_eq_true rfl, Nat.le_of_ble_eq_true rfl⟩) ⟨rfl, rfl⟩ rfl (fun _ => rfl) rfl rfl (Nat.le_of_ble_eq_true rfl) dX2_spreadFrom_170 (fun σ9 hw => ?_)
          refine R_aload_n F dX2_spreadFrom_173 rfl 0 rfl ?_
          refine R_iload F dX2_spreadFrom_174 3 rfl ?_
          refine R_iconst F 1 dX2_spreadFrom_176 (by decide) ?_
          refine R_callV (As := [.int l4, .int 1]) (C := RX2) (q0 := 7) (ci := 2) (N := 13) (T := TX2) (fs := cf_7 B) F (ct_X2passArc l E B _ l4 1 _ hw) (cwV 2 F.2.2.2.2.2.2.2.2.2.2 g_X2spreadFrom_X2passArc_154 rfl rfl rfl (by decide +kernel) ⟨Nat.le_of_ble_eq_true rfl, Nat.le_of_ble_eq_true rfl⟩) ⟨rfl, rfl⟩ rfl (fun _ => rfl) rfl rfl (Nat.le_of_ble_eq_true rfl) dX2_spreadFrom_177 (fun σ11 hw => ?_)
          exact R_sub [0, 1, 2, 3] rfl (J_180 l2 l3 l4 σ11 hw)
  unfold wp_X2spreadFrom at hw
  replace hw := hw X2 X37 X93 X119 C_2 C_37 C_93 C_119
  refine R_iconst F 0 dX2_spreadFrom_0 (by decide) ?_
  refine R_istore_n (lv' := [(2, .int 0), (0, .ref (B 7)), (1, .int p1)]) F dX2_spreadFrom_1 rfl (by decide) rfl ?_
  exact R_sub [1, 2, 0] rfl (U_2 p1 0 σ hw)
def b_X2finish_219 (X38 : Int32 → Int32 → Int32 → Int32 → Int32 → Int32 → VS → Prop) (Q : VS → Prop) (l1 : Int32) (l2 : Int32) (l3 : Int32) (l4 : Int32) (l5 : Int32) (l6 : Int32) (σ : VS) : Prop := X38 l1 l2 l3 l4 l5 (l6 + 1) σ
def b_X2finish_213 (X38 : Int32 → Int32 → Int32 → Int32 → Int32 → Int32 → VS → Prop) (Q : VS → Prop) (l1 : Int32) (l2 : Int32) (l3 : Int32) (l4 : Int32) (l5 : Int32) (l6 : Int32) (k0 : Int32) (k1 : Int32) (σ : VS) : Prop := b_X2finish_219 X38 Q l1 l2 l3 l4 l5 l6 (sf σ 10 (imax k1 k0))
def b_X2finish_38 (X38 : Int32 → Int32 → Int32 → Int32 → Int32 → Int32 → VS → Prop) (Q : VS → Prop) (l1 : Int32) (l2 : Int32) (l3 : Int32) (l4 : Int32) (l5 : Int32) (l6 : Int32) (σ : VS) : Prop := (((2 * (σ.1 9)).toInt ≤ l6.toInt → Q σ) ∧ (l6.toInt < (2 * (σ.1 9)).toInt → (∀ x6 : Int32, x6 = (l3 + l6) → (¬ (σ.1 9) = 0 ∧ (In l2 50 ∧ wp_X3periodsOf (fun (r7 : Int32) (σ8 : VS) => (In x6 1600 ∧ (((rd σ8 47 x6).toInt ≤ 0 → b_X2finish_219 X38 Q l1 l2 l3 l4 l5 l6 σ8) ∧ (0 < (rd σ8 47 x6).toInt → ((r7.toInt ≤ 0 → b_X2finish_219 X38 Q l1 l2 l3 l4 l5 l6 σ8) ∧ (0 < r7.toInt → (In x6 1600 ∧ (∀ x9 : Int32, x9 = (l4 - (rd σ8 48 x6)) → (In l2 50 ∧ (In x6 1600 ∧ (In l2 50 ∧ (In l2 50 ∧ (In l2 50 ∧ (In l2 50 ∧ (In x6 1600 ∧ (In l2 50 ∧ ((0 ≤ x9.toInt → b_X2finish_213 X38 Q l1 l2 l3 l4 l5 l6 1 ((sa (sa (sa σ8 50 l2 (imin 1000 ((rd σ8 50 l2) + (rd σ8 47 x6)))) 51 l2 (imin (rd (sa σ8 50 l2 (imin 1000 ((rd σ8 50 l2) + (rd σ8 47 x6)))) 51 l2) ((r7 * ((sa σ8 50 l2 (imin 1000 ((rd σ8 50 l2) + (rd σ8 47 x6)))).1 4)) + x9))) 52 l2 (imin (rd (sa (sa σ8 50 l2 (imin 1000 ((rd σ8 50 l2) + (rd σ8 47 x6)))) 51 l2 (imin (rd (sa σ8 50 l2 (imin 1000 ((rd σ8 50 l2) + (rd σ8 47 x6)))) 51 l2) ((r7 * ((sa σ8 50 l2 (imin 1000 ((rd σ8 50 l2) + (rd σ8 47 x6)))).1 4)) + x9))) 52 l2) ((rd (sa (sa σ8 50 l2 (imin 1000 ((rd σ8 50 l2) + (rd σ8 47 x6)))) 51 l2 (imin (rd (sa σ8 50 l2 (imin 1000 ((rd σ8 50 l2) + (rd σ8 47 x6)))) 51 l2) ((r7 * ((sa σ8 50 l2 (imin 1000 ((rd σ8 50 l2) + (rd σ8 47 x6)))).1 4)) + x9))) 49 x6) + l5))).1 10) (sa (sa (sa σ8 50 l2 (imin 1000 ((rd σ8 50 l2) + (rd σ8 47 x6)))) 51 l2 (imin (rd (sa σ8 50 l2 (imin 1000 ((rd σ8 50 l2) + (rd σ8 47 x6)))) 51 l2) ((r7 * ((sa σ8 50 l2 (imin 1000 ((rd σ8 50 l2) + (rd σ8 47 x6)))).1 4)) + x9))) 52 l2 (imin (rd (sa (sa σ8 50 l2 (imin 1000 ((rd σ8 50 l2) + (rd σ8 47 x6)))) 51 l2 (imin (rd (sa σ8 50 l2 (imin 1000 ((rd σ8 50 l2) + (rd σ8 47 x6)))) 51 l2) ((r7 * ((sa σ8 50 l2 (imin 1000 ((rd σ8 50 l2) + (rd σ8 47 x6)))).1 4)) + x9))) 52 l2) ((rd (sa (sa σ8 50 l2 (imin 1000 ((rd σ8 50 l2) + (rd σ8 47 x6)))) 51 l2 (imin (rd (sa σ8 50 l2 (imin 1000 ((rd σ8 50 l2) + (rd σ8 47 x6)))) 51 l2) ((r7 * ((sa σ8 50 l2 (imin 1000 ((rd σ8 50 l2) + (rd σ8 47 x6)))).1 4)) + x9))) 49 x6) + l5)))) ∧ (x9.toInt < 0 → (¬ r7 = 0 ∧ b_X2finish_213 X38 Q l1 l2 l3 l4 l5 l6 (((r7 - 1) - x9) / r7) ((sa (sa (sa σ8 50 l2 (imin 1000 ((rd σ8 50 l2) + (rd σ8 47 x6)))) 51 l2 (imin (rd (sa σ8 50 l2 (imin 1000 ((rd σ8 50 l2) + (rd σ8 47 x6)))) 51 l2) ((r7 * ((sa σ8 50 l2 (imin 1000 ((rd σ8 50 l2) + (rd σ8 47 x6)))).1 4)) + x9))) 52 l2 (imin (rd (sa (sa σ8 50 l2 (imin 1000 ((rd σ8 50 l2) + (rd σ8 47 x6)))) 51 l2 (imin (rd (sa σ8 50 l2 (imin 1000 ((rd σ8 50 l2) + (rd σ8 47 x6)))) 51 l2) ((r7 * ((sa σ8 50 l2 (imin 1000 ((rd σ8 50 l2) + (rd σ8 47 x6)))).1 4)) + x9))) 52 l2) ((rd (sa (sa σ8 50 l2 (imin 1000 ((rd σ8 50 l2) + (rd σ8 47 x6)))) 51 l2 (imin (rd (sa σ8 50 l2 (imin 1000 ((rd σ8 50 l2) + (rd σ8 47 x6)))) 51 l2) ((r7 * ((sa σ8 50 l2 (imin 1000 ((rd σ8 50 l2) + (rd σ8 47 x6)))).1 4)) + x9))) 49 x6) + l5))).1 10) (sa (sa (sa σ8 50 l2 (imin 1000 ((rd σ8 50 l2) + (rd σ8 47 x6)))) 51 l2 (imin (rd (sa σ8 50 l2 (imin 1000 ((rd σ8 50 l2) + (rd σ8 47 x6)))) 51 l2) ((r7 * ((sa σ8 50 l2 (imin 1000 ((rd σ8 50 l2) + (rd σ8 47 x6)))).1 4)) + x9))) 52 l2 (imin (rd (sa (sa σ8 50 l2 (imin 1000 ((rd σ8 50 l2) + (rd σ8 47 x6)))) 51 l2 (imin (rd (sa σ8 50 l2 (imin 1000 ((rd σ8 50 l2) + (rd σ8 47 x6)))) 51 l2) ((r7 * ((sa σ8 50 l2 (imin 1000 ((rd σ8 50 l2) + (rd σ8 47 x6)))).1 4)) + x9))) 52 l2) ((rd (sa (sa σ8 50 l2 (imin 1000 ((rd σ8 50 l2) + (rd σ8 47 x6)))) 51 l2 (imin (rd (sa σ8 50 l2 (imin 1000 ((rd σ8 50 l2) + (rd σ8 47 x6)))) 51 l2) ((r7 * ((sa σ8 50 l2 (imin 1000 ((rd σ8 50 l2) + (rd σ8 47 x6)))).1 4)) + x9))) 49 x6) + l5)))))))))))))))))))))) l1 l2 ((l6 - l6 / (σ.1 9) * (σ.1 9)) ||| (rd σ 35 l2)) σ)))))
def wp_X2finish (Q : VS → Prop) (p1 : Int32) (p2 : Int32) (σ : VS) : Prop := ∀ (X38 : Int32 → Int32 → Int32 → Int32 → Int32 → Int32 → VS → Prop), (∀ (l1 : Int32) (l2 : Int32) (l3 : Int32) (l4 : Int32) (l5 : Int32) (l6 : Int32) (σ : VS), b_X2finish_38 X38 Q l1 l2 l3 l4 l5 l6 σ → X38 l1 l2 l3 l4 l5 l6 σ) → (In (p2 * 4) 200 ∧ (∀ x1 : Int32, x1 = (((rd σ 16 (p2 * 4)) * 2) * (σ.1 9)) → wp_X2slackRoom (fun (r2 : Int32) (σ3 : VS) => wp_X2holdRoom (fun (r4 : Int32) (σ5 : VS) => X38 p1 p2 x1 r2 r4 0 σ5) p1 p2 σ3) p1 p2 σ))
theorem dX2_finish_0 : decode cX2_finish 0 = .ok (.aload_n 0, 1) := by decide +kernel
theorem dX2_finish_1 : decode cX2_finish 1 = .ok (.getfield 37, 3) := by decide +kernel
theorem dX2_finish_4 : decode cX2_finish 4 = .ok (.getfield 90, 3) := by decide +kernel
theorem dX2_finish_7 : decode cX2_finish 7 = .ok (.iload_n 2, 1) := by decide +kernel
theorem dX2_finish_8 : decode cX2_finish 8 = .ok (.iconst 4, 1) := by decide +kernel
theorem dX2_finish_9 : decode cX2_finish 9 = .ok (.imul, 1) := by decide +kernel
theorem dX2_finish_10 : decode cX2_finish 10 = .ok (.iaload, 1) := by decide +kernel
theorem dX2_finish_11 : decode cX2_finish 11 = .ok (.iconst 2, 1) := by decide +kernel
theorem dX2_finish_12 : decode cX2_finish 12 = .ok (.imul, 1) := by decide +kernel
theorem dX2_finish_13 : decode cX2_finish 13 = .ok (.aload_n 0, 1) := by decide +kernel
theorem dX2_finish_14 : decode cX2_finish 14 = .ok (.getfield 9, 3) := by decide +kernel
theorem dX2_finish_17 : decode cX2_finish 17 = .ok (.imul, 1) := by decide +kernel
theorem dX2_finish_18 : decode cX2_finish 18 = .ok (.istore_n 3, 1) := by decide +kernel
theorem dX2_finish_19 : decode cX2_finish 19 = .ok (.aload_n 0, 1) := by decide +kernel
theorem dX2_finish_20 : decode cX2_finish 20 = .ok (.iload_n 1, 1) := by decide +kernel
theorem dX2_finish_21 : decode cX2_finish 21 = .ok (.iload_n 2, 1) := by decide +kernel
theorem dX2_finish_22 : decode cX2_finish 22 = .ok (.invokevirtual 171, 3) := by decide +kernel
theorem dX2_finish_25 : decode cX2_finish 25 = .ok (.istore 4, 2) := by decide +kernel
theorem dX2_finish_27 : decode cX2_finish 27 = .ok (.aload_n 0, 1) := by decide +kernel
theorem dX2_finish_28 : decode cX2_finish 28 = .ok (.iload_n 1, 1) := by decide +kernel
theorem dX2_finish_29 : decode cX2_finish 29 = .ok (.iload_n 2, 1) := by decide +kernel
theorem dX2_finish_30 : decode cX2_finish 30 = .ok (.invokevirtual 174, 3) := by decide +kernel
theorem dX2_finish_33 : decode cX2_finish 33 = .ok (.istore 5, 2) := by decide +kernel
theorem dX2_finish_35 : decode cX2_finish 35 = .ok (.iconst 0, 1) := by decide +kernel
theorem dX2_finish_36 : decode cX2_finish 36 = .ok (.istore 6, 2) := by decide +kernel
theorem dX2_finish_38 : decode cX2_finish 38 = .ok (.iload 6, 2) := by decide +kernel
theorem dX2_finish_40 : decode cX2_finish 40 = .ok (.iconst 2, 1) := by decide +kernel
theorem dX2_finish_41 : decode cX2_finish 41 = .ok (.aload_n 0, 1) := by decide +kernel
theorem dX2_finish_42 : decode cX2_finish 42 = .ok (.getfield 9, 3) := by decide +kernel
theorem dX2_finish_45 : decode cX2_finish 45 = .ok (.imul, 1) := by decide +kernel
theorem dX2_finish_46 : decode cX2_finish 46 = .ok (.if_icmp .ge 179, 3) := by decide +kernel
theorem dX2_finish_225 : decode cX2_finish 225 = .ok (.return_, 1) := by decide +kernel
theorem dX2_finish_49 : decode cX2_finish 49 = .ok (.iload_n 3, 1) := by decide +kernel
theorem dX2_finish_50 : decode cX2_finish 50 = .ok (.iload 6, 2) := by decide +kernel
theorem dX2_finish_52 : decode cX2_finish 52 = .ok (.iadd, 1) := by decide +kernel
theorem dX2_finish_53 : decode cX2_finish 53 = .ok (.istore 7, 2) := by decide +kernel
theorem dX2_finish_55 : decode cX2_finish 55 = .ok (.aload_n 0, 1) := by decide +kernel
theorem dX2_finish_56 : decode cX2_finish 56 = .ok (.getfield 49, 3) := by decide +kernel
theorem dX2_finish_59 : decode cX2_finish 59 = .ok (.iload_n 1, 1) := by decide +kernel
theorem dX2_finish_60 : decode cX2_finish 60 = .ok (.iload_n 2, 1) := by decide +kernel
theorem dX2_finish_61 : decode cX2_finish 61 = .ok (.iload 6, 2) := by decide +kernel
theorem dX2_finish_63 : decode cX2_finish 63 = .ok (.aload_n 0, 1) := by decide +kernel
theorem dX2_finish_64 : decode cX2_finish 64 = .ok (.getfield 9, 3) := by decide +kernel
theorem dX2_finish_67 : decode cX2_finish 67 = .ok (.irem, 1) := by decide +kernel
theorem dX2_finish_68 : decode cX2_finish 68 = .ok (.aload_n 0, 1) := by decide +kernel
theorem dX2_finish_69 : decode cX2_finish 69 = .ok (.getfield 49, 3) := by decide +kernel
theorem dX2_finish_72 : decode cX2_finish 72 = .ok (.getfield 132, 3) := by decide +kernel
theorem dX2_finish_75 : decode cX2_finish 75 = .ok (.iload_n 2, 1) := by decide +kernel
theorem dX2_finish_76 : decode cX2_finish 76 = .ok (.iaload, 1) := by decide +kernel
theorem dX2_finish_77 : decode cX2_finish 77 = .ok (.ior, 1) := by decide +kernel
theorem dX2_finish_78 : decode cX2_finish 78 = .ok (.invokevirtual 177, 3) := by decide +kernel
theorem dX2_finish_81 : decode cX2_finish 81 = .ok (.istore 8, 2) := by decide +kernel
theorem dX2_finish_83 : decode cX2_finish 83 = .ok (.aload_n 0, 1) := by decide +kernel
theorem dX2_finish_84 : decode cX2_finish 84 = .ok (.getfield 15, 3) := by decide +kernel
theorem dX2_finish_87 : decode cX2_finish 87 = .ok (.iload 7, 2) := by decide +kernel
theorem dX2_finish_89 : decode cX2_finish 89 = .ok (.iaload, 1) := by decide +kernel
theorem dX2_finish_90 : decode cX2_finish 90 = .ok (.ifCond .le 129, 3) := by decide +kernel
theorem dX2_finish_93 : decode cX2_finish 93 = .ok (.iload 8, 2) := by decide +kernel
theorem dX2_finish_95 : decode cX2_finish 95 = .ok (.ifCond .le 124, 3) := by decide +kernel
theorem dX2_finish_98 : decode cX2_finish 98 = .ok (.iload 4, 2) := by decide +kernel
theorem dX2_finish_100 : decode cX2_finish 100 = .ok (.aload_n 0, 1) := by decide +kernel
theorem dX2_finish_101 : decode cX2_finish 101 = .ok (.getfield 19, 3) := by decide +kernel
theorem dX2_finish_104 : decode cX2_finish 104 = .ok (.iload 7, 2) := by decide +kernel
theorem dX2_finish_106 : decode cX2_finish 106 = .ok (.iaload, 1) := by decide +kernel
theorem dX2_finish_107 : decode cX2_finish 107 = .ok (.isub, 1) := by decide +kernel
theorem dX2_finish_108 : decode cX2_finish 108 = .ok (.istore 9, 2) := by decide +kernel
theorem dX2_finish_110 : decode cX2_finish 110 = .ok (.aload_n 0, 1) := by decide +kernel
theorem dX2_finish_111 : decode cX2_finish 111 = .ok (.getfield 25, 3) := by decide +kernel
theorem dX2_finish_114 : decode cX2_finish 114 = .ok (.iload_n 2, 1) := by decide +kernel
theorem dX2_finish_115 : decode cX2_finish 115 = .ok (.sipush 1000, 3) := by decide +kernel
theorem dX2_finish_118 : decode cX2_finish 118 = .ok (.aload_n 0, 1) := by decide +kernel
theorem dX2_finish_119 : decode cX2_finish 119 = .ok (.getfield 25, 3) := by decide +kernel
theorem dX2_finish_122 : decode cX2_finish 122 = .ok (.iload_n 2, 1) := by decide +kernel
theorem dX2_finish_123 : decode cX2_finish 123 = .ok (.iaload, 1) := by decide +kernel
theorem dX2_finish_124 : decode cX2_finish 124 = .ok (.aload_n 0, 1) := by decide +kernel
theorem dX2_finish_125 : decode cX2_finish 125 = .ok (.getfield 15, 3) := by decide +kernel
theorem dX2_finish_128 : decode cX2_finish 128 = .ok (.iload 7, 2) := by decide +kernel
theorem dX2_finish_130 : decode cX2_finish 130 = .ok (.iaload, 1) := by decide +kernel
theorem dX2_finish_131 : decode cX2_finish 131 = .ok (.iadd, 1) := by decide +kernel
theorem dX2_finish_132 : decode cX2_finish 132 = .ok (.invokestatic 168, 3) := by decide +kernel
theorem dX2_finish_135 : decode cX2_finish 135 = .ok (.iastore, 1) := by decide +kernel
theorem dX2_finish_136 : decode cX2_finish 136 = .ok (.aload_n 0, 1) := by decide +kernel
theorem dX2_finish_137 : decode cX2_finish 137 = .ok (.getfield 28, 3) := by decide +kernel
theorem dX2_finish_140 : decode cX2_finish 140 = .ok (.iload_n 2, 1) := by decide +kernel
theorem dX2_finish_141 : decode cX2_finish 141 = .ok (.aload_n 0, 1) := by decide +kernel
theorem dX2_finish_142 : decode cX2_finish 142 = .ok (.getfield 28, 3) := by decide +kernel
theorem dX2_finish_145 : decode cX2_finish 145 = .ok (.iload_n 2, 1) := by decide +kernel
theorem dX2_finish_146 : decode cX2_finish 146 = .ok (.iaload, 1) := by decide +kernel
theorem dX2_finish_147 : decode cX2_finish 147 = .ok (.iload 8, 2) := by decide +kernel
theorem dX2_finish_149 : decode cX2_finish 149 = .ok (.aload_n 0, 1) := by decide +kernel
theorem dX2_finish_150 : decode cX2_finish 150 = .ok (.getfield 45, 3) := by decide +kernel
theorem dX2_finish_153 : decode cX2_finish 153 = .ok (.getfield 181, 3) := by decide +kernel
theorem dX2_finish_156 : decode cX2_finish 156 = .ok (.imul, 1) := by decide +kernel
theorem dX2_finish_157 : decode cX2_finish 157 = .ok (.iload 9, 2) := by decide +kernel
theorem dX2_finish_159 : decode cX2_finish 159 = .ok (.iadd, 1) := by decide +kernel
theorem dX2_finish_160 : decode cX2_finish 160 = .ok (.invokestatic 168, 3) := by decide +kernel
theorem dX2_finish_163 : decode cX2_finish 163 = .ok (.iastore, 1) := by decide +kernel
theorem dX2_finish_164 : decode cX2_finish 164 = .ok (.aload_n 0, 1) := by decide +kernel
theorem dX2_finish_165 : decode cX2_finish 165 = .ok (.getfield 31, 3) := by decide +kernel
theorem dX2_finish_168 : decode cX2_finish 168 = .ok (.iload_n 2, 1) := by decide +kernel
theorem dX2_finish_169 : decode cX2_finish 169 = .ok (.aload_n 0, 1) := by decide +kernel
theorem dX2_finish_170 : decode cX2_finish 170 = .ok (.getfield 31, 3) := by decide +kernel
theorem dX2_finish_173 : decode cX2_finish 173 = .ok (.iload_n 2, 1) := by decide +kernel
theorem dX2_finish_174 : decode cX2_finish 174 = .ok (.iaload, 1) := by decide +kernel
theorem dX2_finish_175 : decode cX2_finish 175 = .ok (.aload_n 0, 1) := by decide +kernel
theorem dX2_finish_176 : decode cX2_finish 176 = .ok (.getfield 22, 3) := by decide +kernel
theorem dX2_finish_179 : decode cX2_finish 179 = .ok (.iload 7, 2) := by decide +kernel
theorem dX2_finish_181 : decode cX2_finish 181 = .ok (.iaload, 1) := by decide +kernel
theorem dX2_finish_182 : decode cX2_finish 182 = .ok (.iload 5, 2) := by decide +kernel
theorem dX2_finish_184 : decode cX2_finish 184 = .ok (.iadd, 1) := by decide +kernel
theorem dX2_finish_185 : decode cX2_finish 185 = .ok (.invokestatic 168, 3) := by decide +kernel
theorem dX2_finish_188 : decode cX2_finish 188 = .ok (.iastore, 1) := by decide +kernel
theorem dX2_finish_189 : decode cX2_finish 189 = .ok (.aload_n 0, 1) := by decide +kernel
theorem dX2_finish_190 : decode cX2_finish 190 = .ok (.aload_n 0, 1) := by decide +kernel
theorem dX2_finish_191 : decode cX2_finish 191 = .ok (.getfield 34, 3) := by decide +kernel
theorem dX2_finish_194 : decode cX2_finish 194 = .ok (.iload 9, 2) := by decide +kernel
theorem dX2_finish_196 : decode cX2_finish 196 = .ok (.ifCond .ge 16, 3) := by decide +kernel
theorem dX2_finish_212 : decode cX2_finish 212 = .ok (.iconst 1, 1) := by decide +kernel
theorem dX2_finish_199 : decode cX2_finish 199 = .ok (.iload 8, 2) := by decide +kernel
theorem dX2_finish_201 : decode cX2_finish 201 = .ok (.iconst 1, 1) := by decide +kernel
theorem dX2_finish_202 : decode cX2_finish 202 = .ok (.isub, 1) := by decide +kernel
theorem dX2_finish_203 : decode cX2_finish 203 = .ok (.iload 9, 2) := by decide +kernel
theorem dX2_finish_205 : decode cX2_finish 205 = .ok (.isub, 1) := by decide +kernel
theorem dX2_finish_206 : decode cX2_finish 206 = .ok (.iload 8, 2) := by decide +kernel
theorem dX2_finish_208 : decode cX2_finish 208 = .ok (.idiv, 1) := by decide +kernel
theorem dX2_finish_209 : decode cX2_finish 209 = .ok (.goto 4, 3) := by decide +kernel
theorem dX2_finish_219 : decode cX2_finish 219 = .ok (.iinc 6 1, 3) := by decide +kernel
theorem dX2_finish_222 : decode cX2_finish 222 = .ok (.goto (-184), 3) := by decide +kernel
theorem dX2_finish_213 : decode cX2_finish 213 = .ok (.invokestatic 163, 3) := by decide +kernel
theorem dX2_finish_216 : decode cX2_finish 216 = .ok (.putfield 34, 3) := by decide +kernel
def wo_X2finish : List Cond := [.code yX2_finish cX2_finish 10 none, .methodLink RX2 171 yX2_slackRoom, .instanceMethod yX2_slackRoom, .selects RX2 yX2_slackRoom yX2_slackRoom, .initialized RX2, .methodLink RX2 174 yX2_holdRoom, .instanceMethod yX2_holdRoom, .selects RX2 yX2_holdRoom yX2_holdRoom, .methodLink RX2 177 yX3_periodsOf, .instanceMethod yX3_periodsOf, .selects RX3 yX3_periodsOf yX3_periodsOf, .initialized RX3, .methodLink RX2 168 Lib.Math.min.name, .static Lib.Math.min.name, .initialized "java/lang/Math", .code Lib.Math.min.name Lib.Math.min.code 2 (some .int), .methodLink RX2 163 Lib.Math.max.name, .static Lib.Math.max.name, .code Lib.Math.max.name Lib.Math.max.code 2 (some .int)]
def wr_X2finish : List Cond := (wfC ++ (w_X2slackRoom ++ (w_X2holdRoom ++ (w_X3periodsOf ++ ([])))))
def w_X2finish : List Cond := wo_X2finish ++ wr_X2finish
theorem wg_X2finish : GW w_X2finish := GW_app (GW_of (by decide +kernel)) (GW_app (wg_fC) (GW_app (wg_X2slackRoom) (GW_app (wg_X2holdRoom) (GW_app (wg_X3periodsOf) (GW_nil)))))
theorem in_X2finish : ∀ w ∈ wfC, w ∈ w_X2finish := fun _ h => List.mem_append_right _ (List.mem_append_left _ h)
theorem g_X2finish_X2slackRoom_171 : GoodIn w_X2finish (wsV RX2 171 RX2 yX2_slackRoom w_X2slackRoom) := goodIn_app (gi_left (goodIn_of _ (by decide +kernel))) (fun w h => ⟨List.mem_append_right _ (List.mem_append_right _ (List.mem_append_left _ h)), wg_X2slackRoom w h⟩)
theorem g_X2finish_X2holdRoom_174 : GoodIn w_X2finish (wsV RX2 174 RX2 yX2_holdRoom w_X2holdRoom) := goodIn_app (gi_left (goodIn_of _ (by decide +kernel))) (fun w h => ⟨List.mem_append_right _ (List.mem_append_right _ (List.mem_append_right _ (List.mem_append_left _ h))), wg_X2holdRoom w h⟩)
theorem g_X2finish_X3periodsOf_177 : GoodIn w_X2finish (wsV RX2 177 RX3 yX3_periodsOf w_X3periodsOf) := goodIn_app (gi_left (goodIn_of _ (by decide +kernel))) (fun w h => ⟨List.mem_append_right _ (List.mem_append_right _ (List.mem_append_right _ (List.mem_append_right _ (List.mem_append_left _ h)))), wg_X3periodsOf w h⟩)
set_option maxHeartbeats 4000000 in
set_option maxRecDepth 100000 in
theorem ct_X2finish (l : Launch) (E : gE) (B : Nat → Nat) (Q : VS → Prop) (p1 : Int32) (p2 : Int32) (σ : VS) (hw : wp_X2finish Q p1 p2 σ) : CtV l E yX2_finish w_X2finish (({ frames := 3, cells := 0, slots := 0, locals := 69 } : Room)) (wc E B σ) [.ref (B 7), .int p1, .int p2] (fun w => ∃ σ' : VS, Q σ' ∧ w = wc E B σ') := by
  refine VC_V (cc := cX2_finish) (mL := 10) (rt := none) (lv0 := [(0, .ref (B 7)), (1, .int p1), (2, .int p2)]) rfl (by decide) rfl (Nat.le_of_ble_eq_true rfl) ?_
  intro p e s m below meth c A F
  replace F : Fx p s m _ meth c A E cX2_finish 10 none RX2 w_X2finish := F
  obtain ⟨X38, hX38⟩ : ∃ X : Int32 → Int32 → Int32 → Int32 → Int32 → Int32 → VS → Prop, X = fun l1 l2 l3 l4 l5 l6 σ => WB p l e (({ frames := 3, cells := 0, slots := 0, locals := 69 } : Room)) s m (#[.ref (B 7), .int p1, .int p2]) below meth c (MQ below (va_Qv (fun w => ∃ σ' : VS, Q σ' ∧ w = wc E B σ') (AftU E A) A) (#[.ref (B 7), .int p1, .int p2]) s (({ frames := 3, cells := 0, slots := 0, locals := 69 } : Room)).cells (({ frames := 3, cells := 0, slots := 0, locals := 69 } : Room)).slots A) A E (wc E B) 10 38 [(0, .ref (B 7)), (1, .int l1), (2, .int l2), (3, .int l3), (4, .int l4), (5, .int l5), (6, .int l6)] [] σ := ⟨_, rfl⟩
  have U_38 : ∀ (l1 : Int32) (l2 : Int32) (l3 : Int32) (l4 : Int32) (l5 : Int32) (l6 : Int32) (σ : VS), X38 l1 l2 l3 l4 l5 l6 σ → WB p l e (({ frames := 3, cells := 0, slots := 0, locals := 69 } : Room)) s m (#[.ref (B 7), .int p1, .int p2]) below meth c (MQ below (va_Qv (fun w => ∃ σ' : VS, Q σ' ∧ w = wc E B σ') (AftU E A) A) (#[.ref (B 7), .int p1, .int p2]) s (({ frames := 3, cells := 0, slots := 0, locals := 69 } : Room)).cells (({ frames := 3, cells := 0, slots := 0, locals := 69 } : Room)).slots A) A E (wc E B) 10 38 [(0, .ref (B 7)), (1, .int l1), (2, .int l2), (3, .int l3), (4, .int l4), (5, .int l5), (6, .int l6)] [] σ := by
    intro l1 l2 l3 l4 l5 l6 σ hw; rw [hX38] at hw; exact hw
  have J_219 : ∀ (l1 : Int32) (l2 : Int32) (l3 : Int32) (l4 : Int32) (l5 : Int32) (l6 : Int32) (σ : VS), b_X2finish_219 X38 Q l1 l2 l3 l4 l5 l6 σ → WB p l e (({ frames := 3, cells := 0, slots := 0, locals := 69 } : Room)) s m (#[.ref (B 7), .int p1, .int p2]) below meth c (MQ below (va_Qv (fun w => ∃ σ' : VS, Q σ' ∧ w = wc E B σ') (AftU E A) A) (#[.ref (B 7), .int p1, .int p2]) s (({ frames := 3, cells := 0, slots := 0, locals := 69 } : Room)).cells (({ frames := 3, cells := 0, slots := 0, locals := 69 } : Room)).slots A) A E (wc E B) 10 219 [(0, .ref (B 7)), (1, .int l1), (2, .int l2), (3, .int l3), (4, .int l4), (5, .int l5), (6, .int l6)] [] σ := by
    intro l1 l2 l3 l4 l5 l6 σ hw
    unfold b_X2finish_219 at hw
    refine R_iinc (q := 6) (v := (l6 + 1)) (lv' := [(6, .int (l6 + 1)), (0, .ref (B 7)), (1, .int l1), (2, .int l2), (3, .int l3), (4, .int l4), (5, .int l5)]) F dX2_finish_219 rfl rfl (by decide) rfl ?_
    refine R_goto (tgt := 38) F dX2_finish_222 (by decide) ?_
    exact R_sub [1, 2, 3, 4, 5, 6, 0] rfl (U_38 l1 l2 l3 l4 l5 (l6 + 1) σ hw)
  have J_213 : ∀ (l1 : Int32) (l2 : Int32) (l3 : Int32) (l4 : Int32) (l5 : Int32) (l6 : Int32) (k0 : Int32) (k1 : Int32) (σ : VS), b_X2finish_213 X38 Q l1 l2 l3 l4 l5 l6 k0 k1 σ → WB p l e (({ frames := 3, cells := 0, slots := 0, locals := 69 } : Room)) s m (#[.ref (B 7), .int p1, .int p2]) below meth c (MQ below (va_Qv (fun w => ∃ σ' : VS, Q σ' ∧ w = wc E B σ') (AftU E A) A) (#[.ref (B 7), .int p1, .int p2]) s (({ frames := 3, cells := 0, slots := 0, locals := 69 } : Room)).cells (({ frames := 3, cells := 0, slots := 0, locals := 69 } : Room)).slots A) A E (wc E B) 10 213 [(0, .ref (B 7)), (1, .int l1), (2, .int l2), (3, .int l3), (4, .int l4), (5, .int l5), (6, .int l6)] [.int k0, .int k1, .ref (B 7)] σ := by
    intro l1 l2 l3 l4 l5 l6 k0 k1 σ hw
    unfold b_X2finish_213 at hw
    refine R_mmax F (List.mem_append_left _ (show Cond.methodLink RX2 163 Lib.Math.max.name ∈ wo_X2finish by decide +kernel)) (List.mem_append_left _ (show Cond.static Lib.Math.max.name ∈ wo_X2finish by decide +kernel)) (List.mem_append_left _ (show Cond.initialized "java/lang/Math" ∈ wo_X2finish by decide +kernel)) (List.mem_append_left _ (show Cond.code Lib.Math.max.name Lib.Math.max.code 2 (some .int) ∈ wo_X2finish by decide +kernel)) (Nat.le_of_ble_eq_true rfl) (Nat.le_of_ble_eq_true rfl) dX2_finish_213 ?_
    refine pc_RX2_34_7 F in_X2finish dX2_finish_216 ?_
    exact R_sub [0, 1, 2, 3, 4, 5, 6] rfl (J_219 l1 l2 l3 l4 l5 l6 (sf σ 10 (imax k1 k0)) hw)
  have C_38 : ∀ (l1 : Int32) (l2 : Int32) (l3 : Int32) (l4 : Int32) (l5 : Int32) (l6 : Int32) (σ : VS), b_X2finish_38 X38 Q l1 l2 l3 l4 l5 l6 σ → X38 l1 l2 l3 l4 l5 l6 σ := by
    intro l1 l2 l3 l4 l5 l6 σ hw
    unfold b_X2finish_38 at hw
    rw [hX38]
    show WB p l e (({ frames := 3, cells := 0, slots := 0, locals := 69 } : Room)) s m (#[.ref (B 7), .int p1, .int p2]) below meth c (MQ below (va_Qv (fun w => ∃ σ' : VS, Q σ' ∧ w = wc E B σ') (AftU E A) A) (#[.ref (B 7), .int p1, .int p2]) s (({ frames := 3, cells := 0, slots := 0, locals := 69 } : Room)).cells (({ frames := 3, cells := 0, slots := 0, locals := 69 } : Room)).slots A) A E (wc E B) 10 38 [(0, .ref (B 7)), (1, .int l1), (2, .int l2), (3, .int l3), (4, .int l4), (5, .int l5), (6, .int l6)] [] σ
    refine R_iload F dX2_finish_38 6 rfl ?_
    refine R_iconst F 2 dX2_finish_40 (by decide) ?_
    refine R_aload_n F dX2_finish_41 rfl 0 rfl ?_
    refine gc_RX2_9_7 F in_X2finish dX2_finish_42 ?_
    refine R_imul F dX2_finish_45 ?_
    refine R_icmp_ge (tgt := 225) F dX2_finish_46 (by decide) (fun hc => ?_) (fun hc => ?_)
    · replace hw := hw.1 hc
      exact R_vret (Qc := Q) F dX2_finish_225 hw
    · replace hw := hw.2 hc
      refine R_iload_n F dX2_finish_49 rfl 3 rfl ?_
      refine R_iload F dX2_finish_50 6 rfl ?_
      refine R_iadd F dX2_finish_52 ?_
      refine R_topi (fun x6 ex6 => ?_)
      replace hw := hw x6 ex6
      refine R_istore (lv' := [(7, .int x6), (0, .ref (B 7)), (1, .int l1), (2, .int l2), (3, .int l3), (4, .int l4), (5, .int l5), (6, .int l6)]) F dX2_finish_53 (by decide) rfl ?_
      refine R_aload_n F dX2_finish_55 rfl 1 rfl ?_
      refine gc_RX2_49_7 F in_X2finish dX2_finish_56 ?_
      refine R_iload_n F dX2_finish_59 rfl 2 rfl ?_
      refine R_iload_n F dX2_finish_60 rfl 3 rfl ?_
      refine R_iload F dX2_finish_61 7 rfl ?_
      refine R_aload_n F dX2_finish_63 rfl 1 rfl ?_
      refine gc_RX2_9_7 F in_X2finish dX2_finish_64 ?_
      refine R_irem F dX2_finish_67 hw.1 ?_
      replace hw := hw.2
      refine R_aload_n F dX2_finish_68 rfl 1 rfl ?_
      refine gc_RX2_49_7 F in_X2finish dX2_finish_69 ?_
      refine gc_RX2_132_4 F in_X2finish dX2_finish_72 ?_
      refine R_iload_n F dX2_finish_75 rfl 3 rfl ?_
      refine R_ldi F qc_35 dX2_finish_76 hw.1 ?_
      replace hw := hw.2
      refine R_ior F dX2_finish_77 ?_
      refine R_callI (As := [.int l1, .int l2, .int ((l6 - l6 / (σ.1 9) * (σ.1 9)) ||| (rd σ 35 l2))]) (C := RX3) (q0 := 4) (ci := 3) (N := 6) (T := TX3) (fs := cf_4 B) F (ct_X3periodsOf l E B _ l1 l2 ((l6 - l6 / (σ.1 9) * (σ.1 9)) ||| (rd σ 35 l2)) _ hw) (cwV 3 F.2.2.2.2.2.2.2.2.2.2 g_X2finish_X3periodsOf_177 rfl rfl rfl (by decide +kernel) ⟨Nat.le_of_ble_eq_true rfl, Nat.le_of_ble_eq_true rfl⟩) ⟨rfl, rfl⟩ rfl (fun _ => rfl) rfl rfl (Nat.le_of_ble_eq_true rfl) dX2_finish_78 (fun r7 σ8 hw => ?_)
      refine R_istore (lv' := [(8, .int r7), (7, .int x6), (0, .ref (B 7)), (1, .int l1), (2, .int l2), (3, .int l3), (4, .int l4), (5, .int l5), (6, .int l6)]) F dX2_finish_81 (by decide) rfl ?_
      refine R_aload_n F dX2_finish_83 rfl 2 rfl ?_
      refine gc_RX2_15_7 F in_X2finish dX2_finish_84 ?_
      refine R_iload F dX2_finish_87 1 rfl ?_
      refine R_ldi F qc_47 dX2_finish_89 hw.1 ?_
      replace hw := hw.2
      refine R_if_le (tgt := 219) F dX2_finish_90 (by decide) (fun hc => ?_) (fun hc => ?_)
      · replace hw := hw.1 hc
        exact R_sub [2, 3, 4, 5, 6, 7, 8] rfl (J_219 l1 l2 l3 l4 l5 l6 σ8 hw)
      · replace hw := hw.2 hc
        refine R_iload F dX2_finish_93 0 rfl ?_
        refine R_if_le (tgt := 219) F dX2_finish_95 (by decide) (fun hc => ?_) (fun hc => ?_)
        · replace hw := hw.1 hc
          exact R_sub [2, 3, 4, 5, 6, 7, 8] rfl (J_219 l1 l2 l3 l4 l5 l6 σ8 hw)
        · replace hw := hw.2 hc
          refine R_iload F dX2_finish_98 6 rfl ?_
          refine R_aload_n F dX2_finish_100 rfl 2 rfl ?_
          refine gc_RX2_19_7 F in_X2finish dX2_finish_101 ?_
          refine R_iload F dX2_finish_104 1 rfl ?_
          refine R_ldi F qc_48 dX2_finish_106 hw.1 ?_
          replace hw := hw.2
          refine R_isub F dX2_finish_107 ?_
          refine R_topi (fun x9 ex9 => ?_)
          replace hw := hw x9 ex9
          refine R_istore (lv' := [(9, .int x9), (8, .int r7), (7, .int x6), (0, .ref (B 7)), (1, .int l1), (2, .int l2), (3, .int l3), (4, .int l4), (5, .int l5), (6, .int l6)]) F dX2_finish_108 (by decide) rfl ?_
          refine R_aload_n F dX2_finish_110 rfl 3 rfl ?_
          refine gc_RX2_25_7 F in_X2finish dX2_finish_111 ?_
          refine R_iload_n F dX2_finish_114 rfl 5 rfl ?_
          refine R_sipush F 1000 dX2_finish_115 (by decide) ?_
          refine R_aload_n F dX2_finish_118 rfl 3 rfl ?_
          refine gc_RX2_25_7 F in_X2finish dX2_finish_119 ?_
          refine R_iload_n F dX2_finish_122 rfl 5 rfl ?_
          refine R_ldi F qc_50 dX2_finish_123 hw.1 ?_
          replace hw := hw.2
          refine R_aload_n F dX2_finish_124 rfl 3 rfl ?_
          refine gc_RX2_15_7 F in_X2finish dX2_finish_125 ?_
          refine R_iload F dX2_finish_128 2 rfl ?_
          refine R_ldi F qc_47 dX2_finish_130 hw.1 ?_
          replace hw := hw.2
          refine R_iadd F dX2_finish_131 ?_
          refine R_mmin F (List.mem_append_left _ (show Cond.methodLink RX2 168 Lib.Math.min.name ∈ wo_X2finish by decide +kernel)) (List.mem_append_left _ (show Cond.static Lib.Math.min.name ∈ wo_X2finish by decide +kernel)) (List.mem_append_left _ (show Cond.initialized "java/lang/Math" ∈ wo_X2finish by decide +kernel)) (List.mem_append_left _ (show Cond.code Lib.Math.min.name Lib.Math.min.code 2 (some .int) ∈ wo_X2finish by decide +kernel)) (Nat.le_of_ble_eq_true rfl) (Nat.le_of_ble_eq_true rfl) dX2_finish_132 ?_
          have hi := hw.1
          replace hw := hw.2
          refine R_sti F qc_50 uc_50 dX2_finish_135 hi ?_
          refine R_aload_n F dX2_finish_136 rfl 3 rfl ?_
          refine gc_RX2_28_7 F in_X2finish dX2_finish_137 ?_
          refine R_iload_n F dX2_finish_140 rfl 5 rfl ?_
          refine R_aload_n F dX2_finish_141 rfl 3 rfl ?_
          refine gc_RX2_28_7 F in_X2finish dX2_finish_142 ?_
          refine R_iload_n F dX2_finish_145 rfl 5 rfl ?_
          refine R_ldi F qc_51 dX2_finish_146 hw.1 ?_
          replace hw := hw.2
          refine R_iload F dX2_finish_147 1 rfl ?_
          refine R_aload_n F dX2_finish_149 rfl 3 rfl ?_
          refine gc_RX2_45_7 F in_X2finish dX2_finish_150 ?_
          refine gc_RX2_181_3 F in_X2finish dX2_finish_153 ?_
          refine R_imul F dX2_finish_156 ?_
          refine R_iload F dX2_finish_157 0 rfl ?_
          refine R_iadd F dX2_finish_159 ?_
          refine R_mmin F (List.mem_append_left _ (show Cond.methodLink RX2 168 Lib.Math.min.name ∈ wo_X2finish by decide +kernel)) (List.mem_append_left _ (show Cond.static Lib.Math.min.name ∈ wo_X2finish by decide +kernel)) (List.mem_append_left _ (show Cond.initialized "java/lang/Math" ∈ wo_X2finish by decide +kernel)) (List.mem_append_left _ (show Cond.code Lib.Math.min.name Lib.Math.min.code 2 (some .int) ∈ wo_X2finish by decide +kernel)) (Nat.le_of_ble_eq_true rfl) (Nat.le_of_ble_eq_true rfl) dX2_finish_160 ?_
          have hi := hw.1
          replace hw := hw.2
          refine R_sti F qc_51 uc_51 dX2_finish_163 hi ?_
          refine R_aload_n F dX2_finish_164 rfl 3 rfl ?_
          refine gc_RX2_31_7 F in_X2finish dX2_finish_165 ?_
          refine R_iload_n F dX2_finish_168 rfl 5 rfl ?_
          refine R_aload_n F dX2_finish_169 rfl 3 rfl ?_
          refine gc_RX2_31_7 F in_X2finish dX2_finish_170 ?_
          refine R_iload_n F dX2_finish_173 rfl 5 rfl ?_
          refine R_ldi F qc_52 dX2_finish_174 hw.1 ?_
          replace hw := hw.2
          refine R_aload_n F dX2_finish_175 rfl 3 rfl ?_
          refine gc_RX2_22_7 F in_X2finish dX2_finish_176 ?_
          refine R_iload F dX2_finish_179 2 rfl ?_
          refine R_ldi F qc_49 dX2_finish_181 hw.1 ?_
          replace hw := hw.2
          refine R_iload F dX2_finish_182 8 rfl ?_
          refine R_iadd F dX2_finish_184 ?_
          refine R_mmin F (List.mem_append_left _ (show Cond.methodLink RX2 168 Lib.Math.min.name ∈ wo_X2finish by decide +kernel)) (List.mem_append_left _ (show Cond.static Lib.Math.min.name ∈ wo_X2finish by decide +kernel)) (List.mem_append_left _ (show Cond.initialized "java/lang/Math" ∈ wo_X2finish by decide +kernel)) (List.mem_append_left _ (show Cond.code Lib.Math.min.name Lib.Math.min.code 2 (some .int) ∈ wo_X2finish by decide +kernel)) (Nat.le_of_ble_eq_true rfl) (Nat.le_of_ble_eq_true rfl) dX2_finish_185 ?_
          have hi := hw.1
          replace hw := hw.2
          refine R_sti F qc_52 uc_52 dX2_finish_188 hi ?_
          refine R_aload_n F dX2_finish_189 rfl 3 rfl ?_
          refine R_aload_n F dX2_finish_190 rfl 3 rfl ?_
          refine gc_RX2_34_7 F in_X2finish dX2_finish_191 ?_
          refine R_iload F dX2_finish_194 0 rfl ?_
          refine R_if_ge (tgt := 212) F dX2_finish_196 (by decide) (fun hc => ?_) (fun hc => ?_)
          · replace hw := hw.1 hc
            refine R_iconst F 1 dX2_finish_212 (by decide) ?_
            exact R_sub [3, 4, 5, 6, 7, 8, 9] rfl (J_213 l1 l2 l3 l4 l5 l6 1 ((sa (sa (sa σ8 50 l2 (imin 1000 ((rd σ8 50 l2) + (rd σ8 47 x6)))) 51 l2 (imin (rd (sa σ8 50 l2 (imin 1000 ((rd σ8 50 l2) + (rd σ8 47 x6)))) 51 l2) ((r7 * ((sa σ8 50 l2 (imin 1000 ((rd σ8 50 l2) + (rd σ8 47 x6)))).1 4)) + x9))) 52 l2 (imin (rd (sa (sa σ8 50 l2 (imin 1000 ((rd σ8 50 l2) + (rd σ8 47 x6)))) 51 l2 (imin (rd (sa σ8 50 l2 (imin 1000 ((rd σ8 50 l2) + (rd σ8 47 x6)))) 51 l2) ((r7 * ((sa σ8 50 l2 (imin 1000 ((rd σ8 50 l2) + (rd σ8 47 x6)))).1 4)) + x9))) 52 l2) ((rd (sa (sa σ8 50 l2 (imin 1000 ((rd σ8 50 l2) + (rd σ8 47 x6)))) 51 l2 (imin (rd (sa σ8 50 l2 (imin 1000 ((rd σ8 50 l2) + (rd σ8 47 x6)))) 51 l2) ((r7 * ((sa σ8 50 l2 (imin 1000 ((rd σ8 50 l2) + (rd σ8 47 x6)))).1 4)) + x9))) 49 x6) + l5))).1 10) (sa (sa (sa σ8 50 l2 (imin 1000 ((rd σ8 50 l2) + (rd σ8 47 x6)))) 51 l2 (imin (rd (sa σ8 50 l2 (imin 1000 ((rd σ8 50 l2) + (rd σ8 47 x6)))) 51 l2) ((r7 * ((sa σ8 50 l2 (imin 1000 ((rd σ8 50 l2) + (rd σ8 47 x6)))).1 4)) + x9))) 52 l2 (imin (rd (sa (sa σ8 50 l2 (imin 1000 ((rd σ8 50 l2) + (rd σ8 47 x6)))) 51 l2 (imin (rd (sa σ8 50 l2 (imin 1000 ((rd σ8 50 l2) + (rd σ8 47 x6)))) 51 l2) ((r7 * ((sa σ8 50 l2 (imin 1000 ((rd σ8 50 l2) + (rd σ8 47 x6)))).1 4)) + x9))) 52 l2) ((rd (sa (sa σ8 50 l2 (imin 1000 ((rd σ8 50 l2) + (rd σ8 47 x6)))) 51 l2 (imin (rd (sa σ8 50 l2 (imin 1000 ((rd σ8 50 l2) + (rd σ8 47 x6)))) 51 l2) ((r7 * ((sa σ8 50 l2 (imin 1000 ((rd σ8 50 l2) + (rd σ8 47 x6)))).1 4)) + x9))) 49 x6) + l5))) hw)
          · replace hw := hw.2 hc
            refine R_iload F dX2_finish_199 1 rfl ?_
            refine R_iconst F 1 dX2_finish_201 (by decide) ?_
            refine R_isub F dX2_finish_202 ?_
            refine R_iload F dX2_finish_203 0 rfl ?_
            refine R_isub F dX2_finish_205 ?_
            refine R_iload F dX2_finish_206 1 rfl ?_
            refine R_idiv F dX2_finish_208 hw.1 ?_
            replace hw := hw.2
            refine R_goto (tgt := 213) F dX2_finish_209 (by decide) ?_
            exact R_sub [3, 4, 5, 6, 7, 8, 9] rfl (J_213 l1 l2 l3 l4 l5 l6 (((r7 - 1) - x9) / r7) ((sa (sa (sa σ8 50 l2 (imin 1000 ((rd σ8 50 l2) + (rd σ8 47 x6)))) 51 l2 (imin (rd (sa σ8 50 l2 (imin 1000 ((rd σ8 50 l2) + (rd σ8 47 x6)))) 51 l2) ((r7 * ((sa σ8 50 l2 (imin 1000 ((rd σ8 50 l2) + (rd σ8 47 x6)))).1 4)) + x9))) 52 l2 (imin (rd (sa (sa σ8 50 l2 (imin 1000 ((rd σ8 50 l2) + (rd σ8 47 x6)))) 51 l2 (imin (rd (sa σ8 50 l2 (imin 1000 ((rd σ8 50 l2) + (rd σ8 47 x6)))) 51 l2) ((r7 * ((sa σ8 50 l2 (imin 1000 ((rd σ8 50 l2) + (rd σ8 47 x6)))).1 4)) + x9))) 52 l2) ((rd (sa (sa σ8 50 l2 (imin 1000 ((rd σ8 50 l2) + (rd σ8 47 x6)))) 51 l2 (imin (rd (sa σ8 50 l2 (imin 1000 ((rd σ8 50 l2) + (rd σ8 47 x6)))) 51 l2) ((r7 * ((sa σ8 50 l2 (imin 1000 ((rd σ8 50 l2) + (rd σ8 47 x6)))).1 4)) + x9))) 49 x6) + l5))).1 10) (sa (sa (sa σ8 50 l2 (imin 1000 ((rd σ8 50 l2) + (rd σ8 47 x6)))) 51 l2 (imin (rd (sa σ8 50 l2 (imin 1000 ((rd σ8 50 l2) + (rd σ8 47 x6)))) 51 l2) ((r7 * ((sa σ8 50 l2 (imin 1000 ((rd σ8 50 l2) + (rd σ8 47 x6)))).1 4)) + x9))) 52 l2 (imin (rd (sa (sa σ8 50 l2 (imin 1000 ((rd σ8 50 l2) + (rd σ8 47 x6)))) 51 l2 (imin (rd (sa σ8 50 l2 (imin 1000 ((rd σ8 50 l2) + (rd σ8 47 x6)))) 51 l2) ((r7 * ((sa σ8 50 l2 (imin 1000 ((rd σ8 50 l2) + (rd σ8 47 x6)))).1 4)) + x9))) 52 l2) ((rd (sa (sa σ8 50 l2 (imin 1000 ((rd σ8 50 l2) + (rd σ8 47 x6)))) 51 l2 (imin (rd (sa σ8 50 l2 (imin 1000 ((rd σ8 50 l2) + (rd σ8 47 x6)))) 51 l2) ((r7 * ((sa σ8 50 l2 (imin 1000 ((rd σ8 50 l2) + (rd σ8 47 x6)))).1 4)) + x9))) 49 x6) + l5))) hw)
  unfold wp_X2finish at hw
  replace hw := hw X38 C_38
  refine R_aload_n F dX2_finish_0 rfl 0 rfl ?_
  refine gc_RX2_37_7 F in_X2finish dX2_finish_1 ?_
  refine gc_RX2_90_1 F in_X2finish dX2_finish_4 ?_
  refine R_iload_n F dX2_finish_7 rfl 2 rfl ?_
  refine R_iconst F 4 dX2_finish_8 (by decide) ?_
  refine R_imul F dX2_finish_9 ?_
  refine R_ldi F qc_16 dX2_finish_10 hw.1 ?_
  replace hw := hw.2
  refine R_iconst F 2 dX2_finish_11 (by decide) ?_
  refine R_imul F dX2_finish_12 ?_
  refine R_aload_n F dX2_finish_13 rfl 0 rfl ?_
  refine gc_RX2_9_7 F in_X2finish dX2_finish_14 ?_
  refine R_imul F dX2_finish_17 ?_
  refine R_topi (fun x1 ex1 => ?_)
  replace hw := hw x1 ex1
  refine R_istore_n (lv' := [(3, .int x1), (0, .ref (B 7)), (1, .int p1), (2, .int p2)]) F dX2_finish_18 rfl (by decide) rfl ?_
  refine R_aload_n F dX2_finish_19 rfl 1 rfl ?_
  refine R_iload_n F dX2_finish_20 rfl 2 rfl ?_
  refine R_iload_n F dX2_finish_21 rfl 3 rfl ?_
  refine R_callI (As := [.int p1, .int p2]) (C := RX2) (q0 := 7) (ci := 2) (N := 13) (T := TX2) (fs := cf_7 B) F (ct_X2slackRoom l E B _ p1 p2 _ hw) (cwV 2 F.2.2.2.2.2.2.2.2.2.2 g_X2finish_X2slackRoom_171 rfl rfl rfl (by decide +kernel) ⟨Nat.le_of_ble_eq_true rfl, Nat.le_of_ble_eq_true rfl⟩) ⟨rfl, rfl⟩ rfl (fun _ => rfl) rfl rfl (Nat.le_of_ble_eq_true rfl) dX2_finish_22 (fun r2 σ3 hw => ?_)
  refine R_istore (lv' := [(4, .int r2), (3, .int x1), (0, .ref (B 7)), (1, .int p1), (2, .int p2)]) F dX2_finish_25 (by decide) rfl ?_
  refine R_aload_n F dX2_finish_27 rfl 2 rfl ?_
  refine R_iload_n F dX2_finish_28 rfl 3 rfl ?_
  refine R_iload_n F dX2_finish_29 rfl 4 rfl ?_
  refine R_callI (As := [.int p1, .int p2]) (C := RX2) (q0 := 7) (ci := 2) (N := 13) (T := TX2) (fs := cf_7 B) F (ct_X2holdRoom l E B _ p1 p2 _ hw) (cwV 2 F.2.2.2.2.2.2.2.2.2.2 g_X2finish_X2holdRoom_174 rfl rfl rfl (by decide +kernel) ⟨Nat.le_of_ble_eq_true rfl, Nat.le_of_ble_eq_true rfl⟩) ⟨rfl, rfl⟩ rfl (fun _ => rfl) rfl rfl (Nat.le_of_ble_eq_true rfl) dX2_finish_30 (fun r4 σ5 hw => ?_)
  refine R_istore (lv' := [(5, .int r4), (4, .int r2), (3, .int x1), (0, .ref (B 7)), (1, .int p1), (2, .int p2)]) F dX2_finish_33 (by decide) rfl ?_
  refine R_iconst F 0 dX2_finish_35 (by decide) ?_
  refine R_istore (lv' := [(6, .int 0), (5, .int r4), (4, .int r2), (3, .int x1), (0, .ref (B 7)), (1, .int p1), (2, .int p2)]) F dX2_finish_36 (by decide) rfl ?_
  exact R_sub [4, 5, 6, 3, 2, 1, 0] rfl (U_38 p1 p2 x1 r2 r4 0 σ5 hw)
def b_X2run_137 (X44 : Int32 → VS → Prop) (X85 : Int32 → Int32 → VS → Prop) (Q : VS → Prop) (l1 : Int32) (σ : VS) : Prop := X44 (l1 + 1) σ
def b_X2run_131 (X44 : Int32 → VS → Prop) (X85 : Int32 → Int32 → VS → Prop) (Q : VS → Prop) (l1 : Int32) (l2 : Int32) (σ : VS) : Prop := X85 l1 (l2 + 1) σ
def b_X2run_85 (X44 : Int32 → VS → Prop) (X85 : Int32 → Int32 → VS → Prop) (Q : VS → Prop) (l1 : Int32) (l2 : Int32) (σ : VS) : Prop := (((σ.1 2).toInt ≤ l2.toInt → b_X2run_137 X44 X85 Q l1 σ) ∧ (l2.toInt < (σ.1 2).toInt → wp_X1isTarget (fun (r7 : Int32) (σ8 : VS) => ((r7.toInt = 0 → b_X2run_131 X44 X85 Q l1 l2 σ8) ∧ (r7.toInt ≠ 0 → (In (l2 * 4) 200 ∧ wp_X2isSpreadTo (fun (r9 : Int32) (σ10 : VS) => ((r9.toInt = 0 → b_X2run_131 X44 X85 Q l1 l2 σ10) ∧ (r9.toInt ≠ 0 → wp_X2finish (fun (σ12 : VS) => b_X2run_131 X44 X85 Q l1 l2 σ12) l1 l2 σ10))) (rd σ8 16 (l2 * 4)) σ8)))) l2 σ))
def b_X2run_44 (X44 : Int32 → VS → Prop) (X85 : Int32 → Int32 → VS → Prop) (Q : VS → Prop) (l1 : Int32) (σ : VS) : Prop := (((σ.1 2).toInt ≤ l1.toInt → Q σ) ∧ (l1.toInt < (σ.1 2).toInt → wp_X1isStart (fun (r3 : Int32) (σ4 : VS) => ((r3.toInt = 0 → b_X2run_137 X44 X85 Q l1 σ4) ∧ (r3.toInt ≠ 0 → (In l1 50 ∧ (((rd σ4 40 l1).toInt ≠ 0 → b_X2run_137 X44 X85 Q l1 σ4) ∧ ((rd σ4 40 l1).toInt = 0 → wp_X2spreadFrom (fun (σ6 : VS) => X85 l1 0 σ6) l1 σ4)))))) l1 σ))
def wp_X2run (Q : VS → Prop) (σ : VS) : Prop := ∀ (X44 : Int32 → VS → Prop) (X85 : Int32 → Int32 → VS → Prop), (∀ (l1 : Int32) (σ : VS), b_X2run_44 X44 X85 Q l1 σ → X44 l1 σ) → (∀ (l1 : Int32) (l2 : Int32) (σ : VS), b_X2run_85 X44 X85 Q l1 l2 σ → X85 l1 l2 σ) → wp_X3masks (fun (r1 : Int32) (σ2 : VS) => X44 0 (sfl (sfl (sfl (sf (sf σ2 9 r1) 10 1) 50 0) 51 1000000000) 52 1000000000)) σ
theorem dX2_run_0 : decode cX2_run 0 = .ok (.aload_n 0, 1) := by decide +kernel
theorem dX2_run_1 : decode cX2_run 1 = .ok (.aload_n 0, 1) := by decide +kernel
theorem dX2_run_2 : decode cX2_run 2 = .ok (.getfield 49, 3) := by decide +kernel
theorem dX2_run_5 : decode cX2_run 5 = .ok (.invokevirtual 57, 3) := by decide +kernel
theorem dX2_run_8 : decode cX2_run 8 = .ok (.putfield 9, 3) := by decide +kernel
theorem dX2_run_11 : decode cX2_run 11 = .ok (.aload_n 0, 1) := by decide +kernel
theorem dX2_run_12 : decode cX2_run 12 = .ok (.iconst 1, 1) := by decide +kernel
theorem dX2_run_13 : decode cX2_run 13 = .ok (.putfield 34, 3) := by decide +kernel
theorem dX2_run_16 : decode cX2_run 16 = .ok (.aload_n 0, 1) := by decide +kernel
theorem dX2_run_17 : decode cX2_run 17 = .ok (.getfield 25, 3) := by decide +kernel
theorem dX2_run_20 : decode cX2_run 20 = .ok (.iconst 0, 1) := by decide +kernel
theorem dX2_run_21 : decode cX2_run 21 = .ok (.invokestatic 62, 3) := by decide +kernel
theorem dX2_run_24 : decode cX2_run 24 = .ok (.aload_n 0, 1) := by decide +kernel
theorem dX2_run_25 : decode cX2_run 25 = .ok (.getfield 28, 3) := by decide +kernel
theorem dX2_run_28 : decode cX2_run 28 = .ok (.ldc 68, 2) := by decide +kernel
theorem dX2_run_30 : decode cX2_run 30 = .ok (.invokestatic 62, 3) := by decide +kernel
theorem dX2_run_33 : decode cX2_run 33 = .ok (.aload_n 0, 1) := by decide +kernel
theorem dX2_run_34 : decode cX2_run 34 = .ok (.getfield 31, 3) := by decide +kernel
theorem dX2_run_37 : decode cX2_run 37 = .ok (.ldc 68, 2) := by decide +kernel
theorem dX2_run_39 : decode cX2_run 39 = .ok (.invokestatic 62, 3) := by decide +kernel
theorem dX2_run_42 : decode cX2_run 42 = .ok (.iconst 0, 1) := by decide +kernel
theorem dX2_run_43 : decode cX2_run 43 = .ok (.istore_n 1, 1) := by decide +kernel
theorem dX2_run_44 : decode cX2_run 44 = .ok (.iload_n 1, 1) := by decide +kernel
theorem dX2_run_45 : decode cX2_run 45 = .ok (.aload_n 0, 1) := by decide +kernel
theorem dX2_run_46 : decode cX2_run 46 = .ok (.getfield 37, 3) := by decide +kernel
theorem dX2_run_49 : decode cX2_run 49 = .ok (.getfield 69, 3) := by decide +kernel
theorem dX2_run_52 : decode cX2_run 52 = .ok (.if_icmp .ge 91, 3) := by decide +kernel
theorem dX2_run_143 : decode cX2_run 143 = .ok (.return_, 1) := by decide +kernel
theorem dX2_run_55 : decode cX2_run 55 = .ok (.aload_n 0, 1) := by decide +kernel
theorem dX2_run_56 : decode cX2_run 56 = .ok (.getfield 37, 3) := by decide +kernel
theorem dX2_run_59 : decode cX2_run 59 = .ok (.iload_n 1, 1) := by decide +kernel
theorem dX2_run_60 : decode cX2_run 60 = .ok (.invokevirtual 74, 3) := by decide +kernel
theorem dX2_run_63 : decode cX2_run 63 = .ok (.ifCond .eq 74, 3) := by decide +kernel
theorem dX2_run_66 : decode cX2_run 66 = .ok (.aload_n 0, 1) := by decide +kernel
theorem dX2_run_67 : decode cX2_run 67 = .ok (.getfield 53, 3) := by decide +kernel
theorem dX2_run_70 : decode cX2_run 70 = .ok (.getfield 78, 3) := by decide +kernel
theorem dX2_run_73 : decode cX2_run 73 = .ok (.iload_n 1, 1) := by decide +kernel
theorem dX2_run_74 : decode cX2_run 74 = .ok (.iaload, 1) := by decide +kernel
theorem dX2_run_75 : decode cX2_run 75 = .ok (.ifCond .ne 62, 3) := by decide +kernel
theorem dX2_run_78 : decode cX2_run 78 = .ok (.aload_n 0, 1) := by decide +kernel
theorem dX2_run_79 : decode cX2_run 79 = .ok (.iload_n 1, 1) := by decide +kernel
theorem dX2_run_80 : decode cX2_run 80 = .ok (.invokevirtual 83, 3) := by decide +kernel
theorem dX2_run_83 : decode cX2_run 83 = .ok (.iconst 0, 1) := by decide +kernel
theorem dX2_run_84 : decode cX2_run 84 = .ok (.istore_n 2, 1) := by decide +kernel
theorem dX2_run_137 : decode cX2_run 137 = .ok (.iinc 1 1, 3) := by decide +kernel
theorem dX2_run_140 : decode cX2_run 140 = .ok (.goto (-96), 3) := by decide +kernel
theorem dX2_run_85 : decode cX2_run 85 = .ok (.iload_n 2, 1) := by decide +kernel
theorem dX2_run_86 : decode cX2_run 86 = .ok (.aload_n 0, 1) := by decide +kernel
theorem dX2_run_87 : decode cX2_run 87 = .ok (.getfield 37, 3) := by decide +kernel
theorem dX2_run_90 : decode cX2_run 90 = .ok (.getfield 69, 3) := by decide +kernel
theorem dX2_run_93 : decode cX2_run 93 = .ok (.if_icmp .ge 44, 3) := by decide +kernel
theorem dX2_run_96 : decode cX2_run 96 = .ok (.aload_n 0, 1) := by decide +kernel
theorem dX2_run_97 : decode cX2_run 97 = .ok (.getfield 37, 3) := by decide +kernel
theorem dX2_run_100 : decode cX2_run 100 = .ok (.iload_n 2, 1) := by decide +kernel
theorem dX2_run_101 : decode cX2_run 101 = .ok (.invokevirtual 87, 3) := by decide +kernel
theorem dX2_run_104 : decode cX2_run 104 = .ok (.ifCond .eq 27, 3) := by decide +kernel
theorem dX2_run_107 : decode cX2_run 107 = .ok (.aload_n 0, 1) := by decide +kernel
theorem dX2_run_108 : decode cX2_run 108 = .ok (.aload_n 0, 1) := by decide +kernel
theorem dX2_run_109 : decode cX2_run 109 = .ok (.getfield 37, 3) := by decide +kernel
theorem dX2_run_112 : decode cX2_run 112 = .ok (.getfield 90, 3) := by decide +kernel
theorem dX2_run_115 : decode cX2_run 115 = .ok (.iload_n 2, 1) := by decide +kernel
theorem dX2_run_116 : decode cX2_run 116 = .ok (.iconst 4, 1) := by decide +kernel
theorem dX2_run_117 : decode cX2_run 117 = .ok (.imul, 1) := by decide +kernel
theorem dX2_run_118 : decode cX2_run 118 = .ok (.iaload, 1) := by decide +kernel
theorem dX2_run_119 : decode cX2_run 119 = .ok (.invokevirtual 93, 3) := by decide +kernel
theorem dX2_run_122 : decode cX2_run 122 = .ok (.ifCond .eq 9, 3) := by decide +kernel
theorem dX2_run_125 : decode cX2_run 125 = .ok (.aload_n 0, 1) := by decide +kernel
theorem dX2_run_126 : decode cX2_run 126 = .ok (.iload_n 1, 1) := by decide +kernel
theorem dX2_run_127 : decode cX2_run 127 = .ok (.iload_n 2, 1) := by decide +kernel
theorem dX2_run_128 : decode cX2_run 128 = .ok (.invokevirtual 96, 3) := by decide +kernel
theorem dX2_run_131 : decode cX2_run 131 = .ok (.iinc 2 1, 3) := by decide +kernel
theorem dX2_run_134 : decode cX2_run 134 = .ok (.goto (-49), 3) := by decide +kernel
def wo_X2run : List Cond := [.code yX2_run cX2_run 3 none, .methodLink RX2 57 yX3_masks, .instanceMethod yX3_masks, .selects RX3 yX3_masks yX3_masks, .initialized RX3, .methodLink RX2 62 yJ7_fill_53178, .static yJ7_fill_53178, .initialized RJ7, .constant RX2 68 1000000000, .methodLink RX2 74 yX1_isStart, .instanceMethod yX1_isStart, .selects RX1 yX1_isStart yX1_isStart, .initialized RX1, .methodLink RX2 83 yX2_spreadFrom, .instanceMethod yX2_spreadFrom, .selects RX2 yX2_spreadFrom yX2_spreadFrom, .initialized RX2, .methodLink RX2 87 yX1_isTarget, .instanceMethod yX1_isTarget, .selects RX1 yX1_isTarget yX1_isTarget, .methodLink RX2 93 yX2_isSpreadTo, .instanceMethod yX2_isSpreadTo, .selects RX2 yX2_isSpreadTo yX2_isSpreadTo, .methodLink RX2 96 yX2_finish, .instanceMethod yX2_finish, .selects RX2 yX2_finish yX2_finish]
def wr_X2run : List Cond := (wfC ++ (w_X3masks ++ (w_k_fill ++ (w_X1isStart ++ (w_X2spreadFrom ++ (w_X1isTarget ++ (w_X2isSpreadTo ++ (w_X2finish ++ ([])))))))))
def w_X2run : List Cond := wo_X2run ++ wr_X2run
theorem wg_X2run : GW w_X2run := GW_app (GW_of (by decide +kernel)) (GW_app (wg_fC) (GW_app (wg_X3masks) (GW_app (wg_k_fill) (GW_app (wg_X1isStart) (GW_app (wg_X2spreadFrom) (GW_app (wg_X1isTarget) (GW_app (wg_X2isSpreadTo) (GW_app (wg_X2finish) (GW_nil)))))))))
theorem in_X2run : ∀ w ∈ wfC, w ∈ w_X2run := fun _ h => List.mem_append_right _ (List.mem_append_left _ h)
theorem g_X2run_X3masks_57 : GoodIn w_X2run (wsV RX2 57 RX3 yX3_masks w_X3masks) := goodIn_app (gi_left (goodIn_of _ (by decide +kernel))) (fun w h => ⟨List.mem_append_right _ (List.mem_append_right _ (List.mem_append_left _ h)), wg_X3masks w h⟩)
theorem g_X2run_k_fill_62 : GoodIn w_X2run (va_wsS RX2 62 yJ7_fill_53178 w_k_fill) := goodIn_app (gi_left (goodIn_of _ (by decide +kernel))) (fun w h => ⟨List.mem_append_right _ (List.mem_append_right _ (List.mem_append_right _ (List.mem_append_left _ h))), wg_k_fill w h⟩)
theorem g_X2run_X1isStart_74 : GoodIn w_X2run (wsV RX2 74 RX1 yX1_isStart w_X1isStart) := goodIn_app (gi_left (goodIn_of _ (by decide +kernel))) (fun w h => ⟨List.mem_append_right _ (List.mem_append_right _ (List.mem_append_right _ (List.mem_append_right _ (List.mem_append_left _ h)))), wg_X1isStart w h⟩)
theorem g_X2run_X2spreadFrom_83 : GoodIn w_X2run (wsV RX2 83 RX2 yX2_spreadFrom w_X2spreadFrom) := goodIn_app (gi_left (goodIn_of _ (by decide +kernel))) (fun w h => ⟨List.mem_append_right _ (List.mem_append_right _ (List.mem_append_right _ (List.mem_append_right _ (List.mem_append_right _ (List.mem_append_left _ h))))), wg_X2spreadFrom w h⟩)
theorem g_X2run_X1isTarget_87 : GoodIn w_X2run (wsV RX2 87 RX1 yX1_isTarget w_X1isTarget) := goodIn_app (gi_left (goodIn_of _ (by decide +kernel))) (fun w h => ⟨List.mem_append_right _ (List.mem_append_right _ (List.mem_append_right _ (List.mem_append_right _ (List.mem_append_right _ (List.mem_append_right _ (List.mem_append_left _ h)))))), wg_X1isTarget w h⟩)
theorem g_X2run_X2isSpreadTo_93 : GoodIn w_X2run (wsV RX2 93 RX2 yX2_isSpreadTo w_X2isSpreadTo) := goodIn_app (gi_left (goodIn_of _ (by decide +kernel))) (fun w h => ⟨List.mem_append_right _ (List.mem_append_right _ (List.mem_append_right _ (List.mem_append_right _ (List.mem_append_right _ (List.mem_append_right _ (List.mem_append_right _ (List.mem_append_left _ h))))))), wg_X2isSpreadTo w h⟩)
theorem g_X2run_X2finish_96 : GoodIn w_X2run (wsV RX2 96 RX2 yX2_finish w_X2finish) := goodIn_app (gi_left (goodIn_of _ (by decide +kernel))) (fun w h => ⟨List.mem_append_right _ (List.mem_append_right _ (List.mem_append_right _ (List.mem_append_right _ (List.mem_append_right _ (List.mem_append_right _ (List.mem_append_right _ (List.mem_append_right _ (List.mem_append_left _ h)))))))), wg_X2finish w h⟩)
set_option maxHeartbeats 4000000 in
set_option maxRecDepth 100000 in
theorem ct_X2run (l : Launch) (E : gE) (B : Nat → Nat) (Q : VS → Prop) (σ : VS) (hw : wp_X2run Q σ) : CtV l E yX2_run w_X2run (({ frames := 4, cells := 0, slots := 0, locals := 98 } : Room)) (wc E B σ) [.ref (B 7)] (fun w => ∃ σ' : VS, Q σ' ∧ w = wc E B σ') := by
  refine VC_V (cc := cX2_run) (mL := 3) (rt := none) (lv0 := [(0, .ref (B 7))]) rfl (by decide) rfl (Nat.le_of_ble_eq_true rfl) ?_
  intro p e s m below meth c A F
  replace F : Fx p s m _ meth c A E cX2_run 3 none RX2 w_X2run := F
  obtain ⟨X44, hX44⟩ : ∃ X : Int32 → VS → Prop, X = fun l1 σ => WB p l e (({ frames := 4, cells := 0, slots := 0, locals := 98 } : Room)) s m (#[.ref (B 7)]) below meth c (MQ below (va_Qv (fun w => ∃ σ' : VS, Q σ' ∧ w = wc E B σ') (AftU E A) A) (#[.ref (B 7)]) s (({ frames := 4, cells := 0, slots := 0, locals := 98 } : Room)).cells (({ frames := 4, cells := 0, slots := 0, locals := 98 } : Room)).slots A) A E (wc E B) 3 44 [(0, .ref (B 7)), (1, .int l1)] [] σ := ⟨_, rfl⟩
  have U_44 : ∀ (l1 : Int32) (σ : VS), X44 l1 σ → WB p l e (({ frames := 4, cells := 0, slots := 0, locals := 98 } : Room)) s m (#[.ref (B 7)]) below meth c (MQ below (va_Qv (fun w => ∃ σ' : VS, Q σ' ∧ w = wc E B σ') (AftU E A) A) (#[.ref (B 7)]) s (({ frames := 4, cells := 0, slots := 0, locals := 98 } : Room)).cells (({ frames := 4, cells := 0, slots := 0, locals := 98 } : Room)).slots A) A E (wc E B) 3 44 [(0, .ref (B 7)), (1, .int l1)] [] σ := by
    intro l1 σ hw; rw [hX44] at hw; exact hw
  obtain ⟨X85, hX85⟩ : ∃ X : Int32 → Int32 → VS → Prop, X = fun l1 l2 σ => WB p l e (({ frames := 4, cells := 0, slots := 0, locals := 98 } : Room)) s m (#[.ref (B 7)]) below meth c (MQ below (va_Qv (fun w => ∃ σ' : VS, Q σ' ∧ w = wc E B σ') (AftU E A) A) (#[.ref (B 7)]) s (({ frames := 4, cells := 0, slots := 0, locals := 98 } : Room)).cells (({ frames := 4, cells := 0, slots := 0, locals := 98 } : Room)).slots A) A E (wc E B) 3 85 [(0, .ref (B 7)), (1, .int l1), (2, .int l2)] [] σ := ⟨_, rfl⟩
  have U_85 : ∀ (l1 : Int32) (l2 : Int32) (σ : VS), X85 l1 l2 σ → WB p l e (({ frames := 4, cells := 0, slots := 0, locals := 98 } : Room)) s m (#[.ref (B 7)]) below meth c (MQ below (va_Qv (fun w => ∃ σ' : VS, Q σ' ∧ w = wc E B σ') (AftU E A) A) (#[.ref (B 7)]) s (({ frames := 4, cells := 0, slots := 0, locals := 98 } : Room)).cells (({ frames := 4, cells := 0, slots := 0, locals := 98 } : Room)).slots A) A E (wc E B) 3 85 [(0, .ref (B 7)), (1, .int l1), (2, .int l2)] [] σ := by
    intro l1 l2 σ hw; rw [hX85] at hw; exact hw
  have J_137 : ∀ (l1 : Int32) (σ : VS), b_X2run_137 X44 X85 Q l1 σ → WB p l e (({ frames := 4, cells := 0, slots := 0, locals := 98 } : Room)) s m (#[.ref (B 7)]) below meth c (MQ below (va_Qv (fun w => ∃ σ' : VS, Q σ' ∧ w = wc E B σ') (AftU E A) A) (#[.ref (B 7)]) s (({ frames := 4, cells := 0, slots := 0, locals := 98 } : Room)).cells (({ frames := 4, cells := 0, slots := 0, locals := 98 } : Room)).slots A) A E (wc E B) 3 137 [(0, .ref (B 7)), (1, .int l1)] [] σ := by
    intro l1 σ hw
    unfold b_X2run_137 at hw
    refine R_iinc (q := 1) (v := (l1 + 1)) (lv' := [(1, .int (l1 + 1)), (0, .ref (B 7))]) F dX2_run_137 rfl rfl (by decide) rfl ?_
    refine R_goto (tgt := 44) F dX2_run_140 (by decide) ?_
    exact R_sub [1, 0] rfl (U_44 (l1 + 1) σ hw)
  have J_131 : ∀ (l1 : Int32) (l2 : Int32) (σ : VS), b_X2run_131 X44 X85 Q l1 l2 σ → WB p l e (({ frames := 4, cells := 0, slots := 0, locals := 98 } : Room)) s m (#[.ref (B 7)]) below meth c (MQ below (va_Qv (fun w => ∃ σ' : VS, Q σ' ∧ w = wc E B σ') (AftU E A) A) (#[.ref (B 7)]) s (({ frames := 4, cells := 0, slots := 0, locals := 98 } : Room)).cells (({ frames := 4, cells := 0, slots := 0, locals := 98 } : Room)).slots A) A E (wc E B) 3 131 [(0, .ref (B 7)), (1, .int l1), (2, .int l2)] [] σ := by
    intro l1 l2 σ hw
    unfold b_X2run_131 at hw
    refine R_iinc (q := 2) (v := (l2 + 1)) (lv' := [(2, .int (l2 + 1)), (0, .ref (B 7)), (1, .int l1)]) F dX2_run_131 rfl rfl (by decide) rfl ?_
    refine R_goto (tgt := 85) F dX2_run_134 (by decide) ?_
    exact R_sub [1, 2, 0] rfl (U_85 l1 (l2 + 1) σ hw)
  have C_44 : ∀ (l1 : Int32) (σ : VS), b_X2run_44 X44 X85 Q l1 σ → X44 l1 σ := by
    intro l1 σ hw
    unfold b_X2run_44 at hw
    rw [hX44]
    show WB p l e (({ frames := 4, cells := 0, slots := 0, locals := 98 } : Room)) s m (#[.ref (B 7)]) below meth c (MQ below (va_Qv (fun w => ∃ σ' : VS, Q σ' ∧ w = wc E B σ') (AftU E A) A) (#[.ref (B 7)]) s (({ frames := 4, cells := 0, slots := 0, locals := 98 } : Room)).cells (({ frames := 4, cells := 0, slots := 0, locals := 98 } : Room)).slots A) A E (wc E B) 3 44 [(0, .ref (B 7)), (1, .int l1)] [] σ
    refine R_iload_n F dX2_run_44 rfl 1 rfl ?_
    refine R_aload_n F dX2_run_45 rfl 0 rfl ?_
    refine gc_RX2_37_7 F in_X2run dX2_run_46 ?_
    refine gc_RX2_69_1 F in_X2run dX2_run_49 ?_
    refine R_icmp_ge (tgt := 143) F dX2_run_52 (by decide) (fun hc => ?_) (fun hc => ?_)
    · replace hw := hw.1 hc
      exact R_vret (Qc := Q) F dX2_run_143 hw
    · replace hw := hw.2 hc
      refine R_aload_n F dX2_run_55 rfl 0 rfl ?_
      refine gc_RX2_37_7 F in_X2run dX2_run_56 ?_
      refine R_iload_n F dX2_run_59 rfl 1 rfl ?_
      refine R_callI (As := [.int l1]) (C := RX1) (q0 := 1) (ci := 1) (N := 13) (T := TX1) (fs := cf_1 B) F (ct_X1isStart l E B _ l1 _ hw) (cwV 1 F.2.2.2.2.2.2.2.2.2.2 g_X2run_X1isStart_74 rfl rfl rfl (by decide +kernel) ⟨Nat.le_of_ble_eq_true rfl, Nat.le_of_ble_eq_true rfl⟩) ⟨rfl, rfl⟩ rfl (fun _ => rfl) rfl rfl (Nat.le_of_ble_eq_true rfl) dX2_run_60 (fun r3 σ4 hw => ?_)
      refine R_if_eq (tgt := 137) F dX2_run_63 (by decide) (fun hc => ?_) (fun hc => ?_)
      · replace hw := hw.1 hc
        exact R_sub [0, 1] rfl (J_137 l1 σ4 hw)
      · replace hw := hw.2 hc
        refine R_aload_n F dX2_run_66 rfl 0 rfl ?_
        refine gc_RX2_53_7 F in_X2run dX2_run_67 ?_
        refine gc_RX2_78_6 F in_X2run dX2_run_70 ?_
        refine R_iload_n F dX2_run_73 rfl 1 rfl ?_
        refine R_ldi F qc_40 dX2_run_74 hw.1 ?_
        replace hw := hw.2
        refine R_if_ne (tgt := 137) F dX2_run_75 (by decide) (fun hc => ?_) (fun hc => ?_)
        · replace hw := hw.1 hc
          exact R_sub [0, 1] rfl (J_137 l1 σ4 hw)
        · replace hw := hw.2 hc
          refine R_aload_n F dX2_run_78 rfl 0 rfl ?_
          refine R_iload_n F dX2_run_79 rfl 1 rfl ?_
          refine R_callV (As := [.int l1]) (C := RX2) (q0 := 7) (ci := 2) (N := 13) (T := TX2) (fs := cf_7 B) F (ct_X2spreadFrom l E B _ l1 _ hw) (cwV 1 F.2.2.2.2.2.2.2.2.2.2 g_X2run_X2spreadFrom_83 rfl rfl rfl (by decide +kernel) ⟨Nat.le_of_ble_eq_true rfl, Nat.le_of_ble_eq_true rfl⟩) ⟨rfl, rfl⟩ rfl (fun _ => rfl) rfl rfl (Nat.le_of_ble_eq_true rfl) dX2_run_80 (fun σ6 hw => ?_)
          refine R_iconst F 0 dX2_run_83 (by decide) ?_
          refine R_istore_n (lv' := [(2, .int 0), (0, .ref (B 7)), (1, .int l1)]) F dX2_run_84 rfl (by decide) rfl ?_
          exact R_sub [1, 2, 0] rfl (U_85 l1 0 σ6 hw)
  have C_85 : ∀ (l1 : Int32) (l2 : Int32) (σ : VS), b_X2run_85 X44 X85 Q l1 l2 σ → X85 l1 l2 σ := by
    intro l1 l2 σ hw
    unfold b_X2run_85 at hw
    rw [hX85]
    show WB p l e (({ frames := 4, cells := 0, slots := 0, locals := 98 } : Room)) s m (#[.ref (B 7)]) below meth c (MQ below (va_Qv (fun w => ∃ σ' : VS, Q σ' ∧ w = wc E B σ') (AftU E A) A) (#[.ref (B 7)]) s (({ frames := 4, cells := 0, slots := 0, locals := 98 } : Room)).cells (({ frames := 4, cells := 0, slots := 0, locals := 98 } : Room)).slots A) A E (wc E B) 3 85 [(0, .ref (B 7)), (1, .int l1), (2, .int l2)] [] σ
    refine R_iload_n F dX2_run_85 rfl 2 rfl ?_
    refine R_aload_n F dX2_run_86 rfl 0 rfl ?_
    refine gc_RX2_37_7 F in_X2run dX2_run_87 ?_
    refine gc_RX2_69_1 F in_X2run dX2_run_90 ?_
    refine R_icmp_ge (tgt := 137) F dX2_run_93 (by decide) (fun hc => ?_) (fun hc => ?_)
    · replace hw := hw.1 hc
      exact R_sub [0, 1] rfl (J_137 l1 σ hw)
    · replace hw := hw.2 hc
      refine R_aload_n F dX2_run_96 rfl 0 rfl ?_
      refine gc_RX2_37_7 F in_X2run dX2_run_97 ?_
      refine R_iload_n F dX2_run_100 rfl 2 rfl ?_
      refine R_callI (As := [.int l2]) (C := RX1) (q0 := 1) (ci := 1) (N := 13) (T := TX1) (fs := cf_1 B) F (ct_X1isTarget l E B _ l2 _ hw) (cwV 1 F.2.2.2.2.2.2.2.2.2.2 g_X2run_X1isTarget_87 rfl rfl rfl (by decide +kernel) ⟨Nat.le_of_ble_eq_true rfl, Nat.le_of_ble_eq_true rfl⟩) ⟨rfl, rfl⟩ rfl (fun _ => rfl) rfl rfl (Nat.le_of_ble_eq_true rfl) dX2_run_101 (fun r7 σ8 hw => ?_)
      refine R_if_eq (tgt := 131) F dX2_run_104 (by decide) (fun hc => ?_) (fun hc => ?_)
      · replace hw := hw.1 hc
        exact R_sub [0, 1, 2] rfl (J_131 l1 l2 σ8 hw)
      · replace hw := hw.2 hc
        refine R_aload_n F dX2_run_107 rfl 0 rfl ?_
        refine R_aload_n F dX2_run_108 rfl 0 rfl ?_
        refine gc_RX2_37_7 F in_X2run dX2_run_109 ?_
        refine gc_RX2_90_1 F in_X2run dX2_run_112 ?_
        refine R_iload_n F dX2_run_115 rfl 2 rfl ?_
        refine R_iconst F 4 dX2_run_116 (by decide) ?_
        refine R_imul F dX2_run_117 ?_
        refine R_ldi F qc_16 dX2_run_118 hw.1 ?_
        replace hw := hw.2
        refine R_callI (As := [.int (rd σ8 16 (l2 * 4))]) (C := RX2) (q0 := 7) (ci := 2) (N := 13) (T := TX2) (fs := cf_7 B) F (ct_X2isSpreadTo l E B _ (rd σ8 16 (l2 * 4)) _ hw) (cwV 1 F.2.2.2.2.2.2.2.2.2.2 g_X2run_X2isSpreadTo_93 rfl rfl rfl (by decide +kernel) ⟨Nat.le_of_ble_eq_true rfl, Nat.le_of_ble_eq_true rfl⟩) ⟨rfl, rfl⟩ rfl (fun _ => rfl) rfl rfl (Nat.le_of_ble_eq_true rfl) dX2_run_119 (fun r9 σ10 hw => ?_)
        refine R_if_eq (tgt := 131) F dX2_run_122 (by decide) (fun hc => ?_) (fun hc => ?_)
        · replace hw := hw.1 hc
          exact R_sub [0, 1, 2] rfl (J_131 l1 l2 σ10 hw)
        · replace hw := hw.2 hc
          refine R_aload_n F dX2_run_125 rfl 0 rfl ?_
          refine R_iload_n F dX2_run_126 rfl 1 rfl ?_
          refine R_iload_n F dX2_run_127 rfl 2 rfl ?_
          refine R_callV (As := [.int l1, .int l2]) (C := RX2) (q0 := 7) (ci := 2) (N := 13) (T := TX2) (fs := cf_7 B) F (ct_X2finish l E B _ l1 l2 _ hw) (cwV 2 F.2.2.2.2.2.2.2.2.2.2 g_X2run_X2finish_96 rfl rfl rfl (by decide +kernel) ⟨Nat.le_of_ble_eq_true rfl, Nat.le_of_ble_eq_true rfl⟩) ⟨rfl, rfl⟩ rfl (fun _ => rfl) rfl rfl (Nat.le_of_ble_eq_true rfl) dX2_run_128 (fun σ12 hw => ?_)
          exact R_sub [0, 1, 2] rfl (J_131 l1 l2 σ12 hw)
  unfold wp_X2run at hw
  replace hw := hw X44 X85 C_44 C_85
  refine R_aload_n F dX2_run_0 rfl 0 rfl ?_
  refine R_aload_n F dX2_run_1 rfl 0 rfl ?_
  refine gc_RX2_49_7 F in_X2run dX2_run_2 ?_
  refine R_callI (As := []) (C := RX3) (q0 := 4) (ci := 3) (N := 6) (T := TX3) (fs := cf_4 B) F (ct_X3masks l E B _ _ hw) (cwV 0 F.2.2.2.2.2.2.2.2.2.2 g_X2run_X3masks_57 rfl rfl rfl (by decide +kernel) ⟨Nat.le_of_ble_eq_true rfl, Nat.le_of_ble_eq_true rfl⟩) ⟨rfl, rfl⟩ rfl (fun _ => rfl) rfl rfl (Nat.le_of_ble_eq_true rfl) dX2_run_5 (fun r1 σ2 hw => ?_)
  refine pc_RX2_9_7 F in_X2run dX2_run_8 ?_
  refine R_aload_n F dX2_run_11 rfl 0 rfl ?_
  refine R_iconst F 1 dX2_run_12 (by decide) ?_
  refine pc_RX2_34_7 F in_X2run dX2_run_13 ?_
  refine R_aload_n F dX2_run_16 rfl 0 rfl ?_
  refine gc_RX2_25_7 F in_X2run dX2_run_17 ?_
  refine R_iconst F 0 dX2_run_20 (by decide) ?_
  refine fc_50 F (va_cwS 2 F.2.2.2.2.2.2.2.2.2.2 g_X2run_k_fill_62 rfl rfl rfl (by decide +kernel) ⟨Nat.le_of_ble_eq_true rfl, Nat.le_of_ble_eq_true rfl⟩) (Nat.le_of_ble_eq_true rfl) dX2_run_21 ?_
  refine R_aload_n F dX2_run_24 rfl 0 rfl ?_
  refine gc_RX2_28_7 F in_X2run dX2_run_25 ?_
  refine R_ldc F 1000000000 (List.mem_append_left _ (show Cond.constant RX2 68 1000000000 ∈ wo_X2run by decide +kernel)) dX2_run_28 ?_
  refine fc_51 F (va_cwS 2 F.2.2.2.2.2.2.2.2.2.2 g_X2run_k_fill_62 rfl rfl rfl (by decide +kernel) ⟨Nat.le_of_ble_eq_true rfl, Nat.le_of_ble_eq_true rfl⟩) (Nat.le_of_ble_eq_true rfl) dX2_run_30 ?_
  refine R_aload_n F dX2_run_33 rfl 0 rfl ?_
  refine gc_RX2_31_7 F in_X2run dX2_run_34 ?_
  refine R_ldc F 1000000000 (List.mem_append_left _ (show Cond.constant RX2 68 1000000000 ∈ wo_X2run by decide +kernel)) dX2_run_37 ?_
  refine fc_52 F (va_cwS 2 F.2.2.2.2.2.2.2.2.2.2 g_X2run_k_fill_62 rfl rfl rfl (by decide +kernel) ⟨Nat.le_of_ble_eq_true rfl, Nat.le_of_ble_eq_true rfl⟩) (Nat.le_of_ble_eq_true rfl) dX2_run_39 ?_
  refine R_iconst F 0 dX2_run_42 (by decide) ?_
  refine R_istore_n (lv' := [(1, .int 0), (0, .ref (B 7))]) F dX2_run_43 rfl (by decide) rfl ?_
  exact R_sub [1, 0] rfl (U_44 0 (sfl (sfl (sfl (sf (sf σ2 9 r1) 10 1) 50 0) 51 1000000000) 52 1000000000) hw)
