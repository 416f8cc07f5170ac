def b_X6isInputReached_28 (Q : Int32 → VS → Prop) (k0 : Int32) (σ : VS) : Prop := (Bo k0 ∧ Q k0 σ)
def b_X6isInputReached_27 (Q : Int32 → VS → Prop) (σ : VS) : Prop := b_X6isInputReached_28 Q 0 σ
def wp_X6isInputReached (Q : Int32 → VS → Prop) (p1 : Int32) (σ : VS) : Prop := (In p1 200 ∧ (∀ x1 : Int32, x1 = (rd σ 16 p1) → ((x1.toInt < 0 → b_X6isInputReached_27 Q σ) ∧ (0 ≤ x1.toInt → (In x1 50 ∧ (((rd σ 39 x1).toInt = 0 → b_X6isInputReached_27 Q σ) ∧ ((rd σ 39 x1).toInt ≠ 0 → b_X6isInputReached_28 Q 1 σ)))))))
theorem dX6_isInputReached_0 : decode cX6_isInputReached 0 = .ok (.aload_n 0, 1) := by decide +kernel
theorem dX6_isInputReached_1 : decode cX6_isInputReached 1 = .ok (.getfield 37, 3) := by decide +kernel
theorem dX6_isInputReached_4 : decode cX6_isInputReached 4 = .ok (.getfield 82, 3) := by decide +kernel
theorem dX6_isInputReached_7 : decode cX6_isInputReached 7 = .ok (.iload_n 1, 1) := by decide +kernel
theorem dX6_isInputReached_8 : decode cX6_isInputReached 8 = .ok (.iaload, 1) := by decide +kernel
theorem dX6_isInputReached_9 : decode cX6_isInputReached 9 = .ok (.istore_n 2, 1) := by decide +kernel
theorem dX6_isInputReached_10 : decode cX6_isInputReached 10 = .ok (.iload_n 2, 1) := by decide +kernel
theorem dX6_isInputReached_11 : decode cX6_isInputReached 11 = .ok (.ifCond .lt 16, 3) := by decide +kernel
theorem dX6_isInputReached_14 : decode cX6_isInputReached 14 = .ok (.aload_n 0, 1) := by decide +kernel
theorem dX6_isInputReached_15 : decode cX6_isInputReached 15 = .ok (.getfield 9, 3) := by decide +kernel
theorem dX6_isInputReached_18 : decode cX6_isInputReached 18 = .ok (.iload_n 2, 1) := by decide +kernel
theorem dX6_isInputReached_19 : decode cX6_isInputReached 19 = .ok (.baload, 1) := by decide +kernel
theorem dX6_isInputReached_20 : decode cX6_isInputReached 20 = .ok (.ifCond .eq 7, 3) := by decide +kernel
theorem dX6_isInputReached_23 : decode cX6_isInputReached 23 = .ok (.iconst 1, 1) := by decide +kernel
theorem dX6_isInputReached_24 : decode cX6_isInputReached 24 = .ok (.goto 4, 3) := by decide +kernel
theorem dX6_isInputReached_27 : decode cX6_isInputReached 27 = .ok (.iconst 0, 1) := by decide +kernel
theorem dX6_isInputReached_28 : decode cX6_isInputReached 28 = .ok (.ireturn, 1) := by decide +kernel
def wo_X6isInputReached : List Cond := [.code yX6_isInputReached cX6_isInputReached 3 (some .boolean)]
def wr_X6isInputReached : List Cond := (wfC ++ ([]))
def w_X6isInputReached : List Cond := wo_X6isInputReached ++ wr_X6isInputReached
theorem wg_X6isInputReached : GW w_X6isInputReached := GW_app (GW_of (by decide +kernel)) (GW_app (wg_fC) (GW_nil))
theorem in_X6isInputReached : ∀ w ∈ wfC, w ∈ w_X6isInputReached := fun _ h => List.mem_append_right _ (List.mem_append_left _ h)
set_option maxHeartbeats 4000000 in
set_option maxRecDepth 100000 in
theorem ct_X6isInputReached (l : Launch) (E : gE) (B : Nat → Nat) (Q : Int32 → VS → Prop) (p1 : Int32) (σ : VS) (hw : wp_X6isInputReached Q p1 σ) : CtI l E yX6_isInputReached w_X6isInputReached (({ frames := 0, cells := 0, slots := 0, locals := 0 } : Room)) (wc E B σ) [.ref (B 6), .int p1] (fun r w => ∃ σ' : VS, Q r σ' ∧ w = wc E B σ') := by
  refine VC_I (cc := cX6_isInputReached) (mL := 3) (rt := (some .boolean)) (lv0 := [(0, .ref (B 6)), (1, .int p1)]) rfl (by decide) rfl (Nat.le_of_ble_eq_true rfl) ?_
  intro p e s m below meth c A F
  replace F : Fx p s m _ meth c A E cX6_isInputReached 3 (some .boolean) RX6 w_X6isInputReached := F
  have J_28 : ∀ (k0 : Int32) (σ : VS), b_X6isInputReached_28 Q k0 σ → WB p l e (({ frames := 0, cells := 0, slots := 0, locals := 0 } : Room)) s m (#[.ref (B 6), .int p1]) below meth c (MQ below (va_Qi (fun r w => ∃ σ' : VS, Q r σ' ∧ w = wc E B σ') (AftU E A) A) (#[.ref (B 6), .int p1]) s (({ frames := 0, cells := 0, slots := 0, locals := 0 } : Room)).cells (({ frames := 0, cells := 0, slots := 0, locals := 0 } : Room)).slots A) A E (wc E B) 3 28 [] [.int k0] σ := by
    intro k0 σ hw
    unfold b_X6isInputReached_28 at hw
    exact R_iret (Qc := Q) F (nb_01 hw.1) dX6_isInputReached_28 hw.2
  have J_27 : ∀ (σ : VS), b_X6isInputReached_27 Q σ → WB p l e (({ frames := 0, cells := 0, slots := 0, locals := 0 } : Room)) s m (#[.ref (B 6), .int p1]) below meth c (MQ below (va_Qi (fun r w => ∃ σ' : VS, Q r σ' ∧ w = wc E B σ') (AftU E A) A) (#[.ref (B 6), .int p1]) s (({ frames := 0, cells := 0, slots := 0, locals := 0 } : Room)).cells (({ frames := 0, cells := 0, slots := 0, locals := 0 } : Room)).slots A) A E (wc E B) 3 27 [] [] σ := by
    intro σ hw
    unfold b_X6isInputReached_27 at hw
    refine R_iconst F 0 dX6_isInputReached_27 (by decide) ?_
    exact R_sub [] rfl (J_28 0 σ hw)
  unfold wp_X6isInputReached at hw
  refine R_aload_n F dX6_isInputReached_0 rfl 0 rfl ?_
  refine gc_RX6_37_6 F in_X6isInputReached dX6_isInputReached_1 ?_
  refine gc_RX6_82_1 F in_X6isInputReached dX6_isInputReached_4 ?_
  refine R_iload_n F dX6_isInputReached_7 rfl 1 rfl ?_
  refine R_ldi F qc_16 dX6_isInputReached_8 hw.1 ?_
  replace hw := hw.2
  refine R_topi (fun x1 ex1 => ?_)
  replace hw := hw x1 ex1
  refine R_istore_n (lv' := [(2, .int x1), (0, .ref (B 6)), (1, .int p1)]) F dX6_isInputReached_9 rfl (by decide) rfl ?_
  refine R_iload_n F dX6_isInputReached_10 rfl 0 rfl ?_
  refine R_if_lt (tgt := 27) F dX6_isInputReached_11 (by decide) (fun hc => ?_) (fun hc => ?_)
  · replace hw := hw.1 hc
    exact R_sub [] rfl (J_27 σ hw)
  · replace hw := hw.2 hc
    refine R_aload_n F dX6_isInputReached_14 rfl 1 rfl ?_
    refine gc_RX6_9_6 F in_X6isInputReached dX6_isInputReached_15 ?_
    refine R_iload_n F dX6_isInputReached_18 rfl 0 rfl ?_
    refine R_ldz F qc_39 dX6_isInputReached_19 hw.1 ?_
    replace hw := hw.2
    refine R_if_eq (tgt := 27) F dX6_isInputReached_20 (by decide) (fun hc => ?_) (fun hc => ?_)
    · replace hw := hw.1 hc
      exact R_sub [] rfl (J_27 σ hw)
    · replace hw := hw.2 hc
      refine R_iconst F 1 dX6_isInputReached_23 (by decide) ?_
      refine R_goto (tgt := 28) F dX6_isInputReached_24 (by decide) ?_
      exact R_sub [] rfl (J_28 1 σ hw)
def b_X6isInputOpen_28 (Q : Int32 → VS → Prop) (k0 : Int32) (σ : VS) : Prop := (Bo k0 ∧ Q k0 σ)
def b_X6isInputOpen_27 (Q : Int32 → VS → Prop) (σ : VS) : Prop := b_X6isInputOpen_28 Q 0 σ
def wp_X6isInputOpen (Q : Int32 → VS → Prop) (p1 : Int32) (σ : VS) : Prop := (In p1 200 ∧ (∀ x1 : Int32, x1 = (rd σ 16 p1) → ((x1.toInt < 0 → b_X6isInputOpen_27 Q σ) ∧ (0 ≤ x1.toInt → (In x1 50 ∧ (((rd σ 40 x1).toInt = 0 → b_X6isInputOpen_27 Q σ) ∧ ((rd σ 40 x1).toInt ≠ 0 → b_X6isInputOpen_28 Q 1 σ)))))))
theorem dX6_isInputOpen_0 : decode cX6_isInputOpen 0 = .ok (.aload_n 0, 1) := by decide +kernel
theorem dX6_isInputOpen_1 : decode cX6_isInputOpen 1 = .ok (.getfield 37, 3) := by decide +kernel
theorem dX6_isInputOpen_4 : decode cX6_isInputOpen 4 = .ok (.getfield 82, 3) := by decide +kernel
theorem dX6_isInputOpen_7 : decode cX6_isInputOpen 7 = .ok (.iload_n 1, 1) := by decide +kernel
theorem dX6_isInputOpen_8 : decode cX6_isInputOpen 8 = .ok (.iaload, 1) := by decide +kernel
theorem dX6_isInputOpen_9 : decode cX6_isInputOpen 9 = .ok (.istore_n 2, 1) := by decide +kernel
theorem dX6_isInputOpen_10 : decode cX6_isInputOpen 10 = .ok (.iload_n 2, 1) := by decide +kernel
theorem dX6_isInputOpen_11 : decode cX6_isInputOpen 11 = .ok (.ifCond .lt 16, 3) := by decide +kernel
theorem dX6_isInputOpen_14 : decode cX6_isInputOpen 14 = .ok (.aload_n 0, 1) := by decide +kernel
theorem dX6_isInputOpen_15 : decode cX6_isInputOpen 15 = .ok (.getfield 15, 3) := by decide +kernel
theorem dX6_isInputOpen_18 : decode cX6_isInputOpen 18 = .ok (.iload_n 2, 1) := by decide +kernel
theorem dX6_isInputOpen_19 : decode cX6_isInputOpen 19 = .ok (.iaload, 1) := by decide +kernel
theorem dX6_isInputOpen_20 : decode cX6_isInputOpen 20 = .ok (.ifCond .eq 7, 3) := by decide +kernel
theorem dX6_isInputOpen_23 : decode cX6_isInputOpen 23 = .ok (.iconst 1, 1) := by decide +kernel
theorem dX6_isInputOpen_24 : decode cX6_isInputOpen 24 = .ok (.goto 4, 3) := by decide +kernel
theorem dX6_isInputOpen_27 : decode cX6_isInputOpen 27 = .ok (.iconst 0, 1) := by decide +kernel
theorem dX6_isInputOpen_28 : decode cX6_isInputOpen 28 = .ok (.ireturn, 1) := by decide +kernel
def wo_X6isInputOpen : List Cond := [.code yX6_isInputOpen cX6_isInputOpen 3 (some .boolean)]
def wr_X6isInputOpen : List Cond := (wfC ++ ([]))
def w_X6isInputOpen : List Cond := wo_X6isInputOpen ++ wr_X6isInputOpen
theorem wg_X6isInputOpen : GW w_X6isInputOpen := GW_app (GW_of (by decide +kernel)) (GW_app (wg_fC) (GW_nil))
theorem in_X6isInputOpen : ∀ w ∈ wfC, w ∈ w_X6isInputOpen := fun _ h => List.mem_append_right _ (List.mem_append_left _ h)
set_option maxHeartbeats 4000000 in
set_option maxRecDepth 100000 in
theorem ct_X6isInputOpen (l : Launch) (E : gE) (B : Nat → Nat) (Q : Int32 → VS → Prop) (p1 : Int32) (σ : VS) (hw : wp_X6isInputOpen Q p1 σ) : CtI l E yX6_isInputOpen w_X6isInputOpen (({ frames := 0, cells := 0, slots := 0, locals := 0 } : Room)) (wc E B σ) [.ref (B 6), .int p1] (fun r w => ∃ σ' : VS, Q r σ' ∧ w = wc E B σ') := by
  refine VC_I (cc := cX6_isInputOpen) (mL := 3) (rt := (some .boolean)) (lv0 := [(0, .ref (B 6)), (1, .int p1)]) rfl (by decide) rfl (Nat.le_of_ble_eq_true rfl) ?_
  intro p e s m below meth c A F
  replace F : Fx p s m _ meth c A E cX6_isInputOpen 3 (some .boolean) RX6 w_X6isInputOpen := F
  have J_28 : ∀ (k0 : Int32) (σ : VS), b_X6isInputOpen_28 Q k0 σ → WB p l e (({ frames := 0, cells := 0, slots := 0, locals := 0 } : Room)) s m (#[.ref (B 6), .int p1]) below meth c (MQ below (va_Qi (fun r w => ∃ σ' : VS, Q r σ' ∧ w = wc E B σ') (AftU E A) A) (#[.ref (B 6), .int p1]) s (({ frames := 0, cells := 0, slots := 0, locals := 0 } : Room)).cells (({ frames := 0, cells := 0, slots := 0, locals := 0 } : Room)).slots A) A E (wc E B) 3 28 [] [.int k0] σ := by
    intro k0 σ hw
    unfold b_X6isInputOpen_28 at hw
    exact R_iret (Qc := Q) F (nb_01 hw.1) dX6_isInputOpen_28 hw.2
  have J_27 : ∀ (σ : VS), b_X6isInputOpen_27 Q σ → WB p l e (({ frames := 0, cells := 0, slots := 0, locals := 0 } : Room)) s m (#[.ref (B 6), .int p1]) below meth c (MQ below (va_Qi (fun r w => ∃ σ' : VS, Q r σ' ∧ w = wc E B σ') (AftU E A) A) (#[.ref (B 6), .int p1]) s (({ frames := 0, cells := 0, slots := 0, locals := 0 } : Room)).cells (({ frames := 0, cells := 0, slots := 0, locals := 0 } : Room)).slots A) A E (wc E B) 3 27 [] [] σ := by
    intro σ hw
    unfold b_X6isInputOpen_27 at hw
    refine R_iconst F 0 dX6_isInputOpen_27 (by decide) ?_
    exact R_sub [] rfl (J_28 0 σ hw)
  unfold wp_X6isInputOpen at hw
  refine R_aload_n F dX6_isInputOpen_0 rfl 0 rfl ?_
  refine gc_RX6_37_6 F in_X6isInputOpen dX6_isInputOpen_1 ?_
  refine gc_RX6_82_1 F in_X6isInputOpen dX6_isInputOpen_4 ?_
  refine R_iload_n F dX6_isInputOpen_7 rfl 1 rfl ?_
  refine R_ldi F qc_16 dX6_isInputOpen_8 hw.1 ?_
  replace hw := hw.2
  refine R_topi (fun x1 ex1 => ?_)
  replace hw := hw x1 ex1
  refine R_istore_n (lv' := [(2, .int x1), (0, .ref (B 6)), (1, .int p1)]) F dX6_isInputOpen_9 rfl (by decide) rfl ?_
  refine R_iload_n F dX6_isInputOpen_10 rfl 0 rfl ?_
  refine R_if_lt (tgt := 27) F dX6_isInputOpen_11 (by decide) (fun hc => ?_) (fun hc => ?_)
  · replace hw := hw.1 hc
    exact R_sub [] rfl (J_27 σ hw)
  · replace hw := hw.2 hc
    refine R_aload_n F dX6_isInputOpen_14 rfl 1 rfl ?_
    refine gc_RX6_15_6 F in_X6isInputOpen dX6_isInputOpen_15 ?_
    refine R_iload_n F dX6_isInputOpen_18 rfl 0 rfl ?_
    refine R_ldi F qc_40 dX6_isInputOpen_19 hw.1 ?_
    replace hw := hw.2
    refine R_if_eq (tgt := 27) F dX6_isInputOpen_20 (by decide) (fun hc => ?_) (fun hc => ?_)
    · replace hw := hw.1 hc
      exact R_sub [] rfl (J_27 σ hw)
    · replace hw := hw.2 hc
      refine R_iconst F 1 dX6_isInputOpen_23 (by decide) ?_
      refine R_goto (tgt := 28) F dX6_isInputOpen_24 (by decide) ?_
      exact R_sub [] rfl (J_28 1 σ hw)
def b_X6isReached_29 (Q : Int32 → VS → Prop) (k0 : Int32) (σ : VS) : Prop := (Bo k0 ∧ Q k0 σ)
def wp_X6isReached (Q : Int32 → VS → Prop) (p1 : Int32) (σ : VS) : Prop := (In p1 50 ∧ (((rd σ 11 p1).toInt ≠ 5 → (In p1 50 ∧ b_X6isReached_29 Q (rd σ 39 p1) σ)) ∧ ((rd σ 11 p1).toInt = 5 → wp_X6isInputReached (fun (r1 : Int32) (σ2 : VS) => b_X6isReached_29 Q r1 σ2) (p1 * 4) σ)))
theorem dX6_isReached_0 : decode cX6_isReached 0 = .ok (.aload_n 0, 1) := by decide +kernel
theorem dX6_isReached_1 : decode cX6_isReached 1 = .ok (.getfield 37, 3) := by decide +kernel
theorem dX6_isReached_4 : decode cX6_isReached 4 = .ok (.getfield 63, 3) := by decide +kernel
theorem dX6_isReached_7 : decode cX6_isReached 7 = .ok (.iload_n 1, 1) := by decide +kernel
theorem dX6_isReached_8 : decode cX6_isReached 8 = .ok (.iaload, 1) := by decide +kernel
theorem dX6_isReached_9 : decode cX6_isReached 9 = .ok (.iconst 5, 1) := by decide +kernel
theorem dX6_isReached_10 : decode cX6_isReached 10 = .ok (.if_icmp .ne 13, 3) := by decide +kernel
theorem dX6_isReached_23 : decode cX6_isReached 23 = .ok (.aload_n 0, 1) := by decide +kernel
theorem dX6_isReached_24 : decode cX6_isReached 24 = .ok (.getfield 9, 3) := by decide +kernel
theorem dX6_isReached_27 : decode cX6_isReached 27 = .ok (.iload_n 1, 1) := by decide +kernel
theorem dX6_isReached_28 : decode cX6_isReached 28 = .ok (.baload, 1) := by decide +kernel
theorem dX6_isReached_13 : decode cX6_isReached 13 = .ok (.aload_n 0, 1) := by decide +kernel
theorem dX6_isReached_14 : decode cX6_isReached 14 = .ok (.iload_n 1, 1) := by decide +kernel
theorem dX6_isReached_15 : decode cX6_isReached 15 = .ok (.iconst 4, 1) := by decide +kernel
theorem dX6_isReached_16 : decode cX6_isReached 16 = .ok (.imul, 1) := by decide +kernel
theorem dX6_isReached_17 : decode cX6_isReached 17 = .ok (.invokevirtual 85, 3) := by decide +kernel
theorem dX6_isReached_20 : decode cX6_isReached 20 = .ok (.goto 9, 3) := by decide +kernel
theorem dX6_isReached_29 : decode cX6_isReached 29 = .ok (.ireturn, 1) := by decide +kernel
def wo_X6isReached : List Cond := [.code yX6_isReached cX6_isReached 2 (some .boolean), .methodLink RX6 85 yX6_isInputReached, .instanceMethod yX6_isInputReached, .selects RX6 yX6_isInputReached yX6_isInputReached, .initialized RX6]
def wr_X6isReached : List Cond := (wfC ++ (w_X6isInputReached ++ ([])))
def w_X6isReached : List Cond := wo_X6isReached ++ wr_X6isReached
theorem wg_X6isReached : GW w_X6isReached := GW_app (GW_of (by decide +kernel)) (GW_app (wg_fC) (GW_app (wg_X6isInputReached) (GW_nil)))
theorem in_X6isReached : ∀ w ∈ wfC, w ∈ w_X6isReached := fun _ h => List.mem_append_right _ (List.mem_append_left _ h)
theorem g_X6isReached_X6isInputReached_85 : GoodIn w_X6isReached (wsV RX6 85 RX6 yX6_isInputReached w_X6isInputReached) := goodIn_app (gi_left (goodIn_of _ (by decide +kernel))) (fun w h => ⟨List.mem_append_right _ (List.mem_append_right _ (List.mem_append_left _ h)), wg_X6isInputReached w h⟩)
set_option maxHeartbeats 4000000 in
set_option maxRecDepth 100000 in
theorem ct_X6isReached (l : Launch) (E : gE) (B : Nat → Nat) (Q : Int32 → VS → Prop) (p1 : Int32) (σ : VS) (hw : wp_X6isReached Q p1 σ) : CtI l E yX6_isReached w_X6isReached (({ frames := 1, cells := 0, slots := 0, locals := 22 } : Room)) (wc E B σ) [.ref (B 6), .int p1] (fun r w => ∃ σ' : VS, Q r σ' ∧ w = wc E B σ') := by
  refine VC_I (cc := cX6_isReached) (mL := 2) (rt := (some .boolean)) (lv0 := [(0, .ref (B 6)), (1, .int p1)]) rfl (by decide) rfl (Nat.le_of_ble_eq_true rfl) ?_
  intro p e s m below meth c A F
  replace F : Fx p s m _ meth c A E cX6_isReached 2 (some .boolean) RX6 w_X6isReached := F
  have J_29 : ∀ (k0 : Int32) (σ : VS), b_X6isReached_29 Q k0 σ → WB p l e (({ frames := 1, cells := 0, slots := 0, locals := 22 } : Room)) s m (#[.ref (B 6), .int p1]) below meth c (MQ below (va_Qi (fun r w => ∃ σ' : VS, Q r σ' ∧ w = wc E B σ') (AftU E A) A) (#[.ref (B 6), .int p1]) s (({ frames := 1, cells := 0, slots := 0, locals := 22 } : Room)).cells (({ frames := 1, cells := 0, slots := 0, locals := 22 } : Room)).slots A) A E (wc E B) 2 29 [] [.int k0] σ := by
    intro k0 σ hw
    unfold b_X6isReached_29 at hw
    exact R_iret (Qc := Q) F (nb_01 hw.1) dX6_isReached_29 hw.2
  unfold wp_X6isReached at hw
  refine R_aload_n F dX6_isReached_0 rfl 0 rfl ?_
  refine gc_RX6_37_6 F in_X6isReached dX6_isReached_1 ?_
  refine gc_RX6_63_1 F in_X6isReached dX6_isReached_4 ?_
  refine R_iload_n F dX6_isReached_7 rfl 1 rfl ?_
  refine R_ldi F qc_11 dX6_isReached_8 hw.1 ?_
  replace hw := hw.2
  refine R_iconst F 5 dX6_isReached_9 (by decide) ?_
  refine R_icmp_ne (tgt := 23) F dX6_isReached_10 (by decide) (fun hc => ?_) (fun hc => ?_)
  · replace hw := hw.1 hc
    refine R_aload_n F dX6_isReached_23 rfl 0 rfl ?_
    refine gc_RX6_9_6 F in_X6isReached dX6_isReached_24 ?_
    refine R_iload_n F dX6_isReached_27 rfl 1 rfl ?_
    refine R_ldz F qc_39 dX6_isReached_28 hw.1 ?_
    replace hw := hw.2
    exact R_sub [] rfl (J_29 (rd σ 39 p1) σ hw)
  · replace hw := hw.2 hc
    refine R_aload_n F dX6_isReached_13 rfl 0 rfl ?_
    refine R_iload_n F dX6_isReached_14 rfl 1 rfl ?_
    refine R_iconst F 4 dX6_isReached_15 (by decide) ?_
    refine R_imul F dX6_isReached_16 ?_
    refine R_callI (As := [.int (p1 * 4)]) (C := RX6) (q0 := 6) (ci := 6) (N := 12) (T := TX6) (fs := cf_6 B) F (ct_X6isInputReached l E B _ (p1 * 4) _ hw) (cwV 1 F.2.2.2.2.2.2.2.2.2.2 g_X6isReached_X6isInputReached_85 rfl rfl rfl (by decide +kernel) ⟨Nat.le_of_ble_eq_true rfl, Nat.le_of_ble_eq_true rfl⟩) ⟨rfl, rfl⟩ rfl (fun _ => rfl) rfl rfl (Nat.le_of_ble_eq_true rfl) dX6_isReached_17 (fun r1 σ2 hw => ?_)
    refine R_goto (tgt := 29) F dX6_isReached_20 (by decide) ?_
    exact R_sub [] rfl (J_29 r1 σ2 hw)
def b_X6whyOpen_28 (Q : Int32 → VS → Prop) (k0 : Int32) (σ : VS) : Prop := Q k0 σ
def wp_X6whyOpen (Q : Int32 → VS → Prop) (p1 : Int32) (σ : VS) : Prop := (In p1 50 ∧ (((rd σ 11 p1).toInt ≠ 5 → (In p1 50 ∧ Q (rd σ 40 p1) σ)) ∧ ((rd σ 11 p1).toInt = 5 → wp_X6isInputOpen (fun (r1 : Int32) (σ2 : VS) => ((r1.toInt = 0 → b_X6whyOpen_28 Q 0 σ2) ∧ (r1.toInt ≠ 0 → b_X6whyOpen_28 Q 1 σ2))) (p1 * 4) σ)))
theorem dX6_whyOpen_0 : decode cX6_whyOpen 0 = .ok (.aload_n 0, 1) := by decide +kernel
theorem dX6_whyOpen_1 : decode cX6_whyOpen 1 = .ok (.getfield 37, 3) := by decide +kernel
theorem dX6_whyOpen_4 : decode cX6_whyOpen 4 = .ok (.getfield 63, 3) := by decide +kernel
theorem dX6_whyOpen_7 : decode cX6_whyOpen 7 = .ok (.iload_n 1, 1) := by decide +kernel
theorem dX6_whyOpen_8 : decode cX6_whyOpen 8 = .ok (.iaload, 1) := by decide +kernel
theorem dX6_whyOpen_9 : decode cX6_whyOpen 9 = .ok (.iconst 5, 1) := by decide +kernel
theorem dX6_whyOpen_10 : decode cX6_whyOpen 10 = .ok (.if_icmp .ne 19, 3) := by decide +kernel
theorem dX6_whyOpen_29 : decode cX6_whyOpen 29 = .ok (.aload_n 0, 1) := by decide +kernel
theorem dX6_whyOpen_30 : decode cX6_whyOpen 30 = .ok (.getfield 15, 3) := by decide +kernel
theorem dX6_whyOpen_33 : decode cX6_whyOpen 33 = .ok (.iload_n 1, 1) := by decide +kernel
theorem dX6_whyOpen_34 : decode cX6_whyOpen 34 = .ok (.iaload, 1) := by decide +kernel
theorem dX6_whyOpen_35 : decode cX6_whyOpen 35 = .ok (.ireturn, 1) := by decide +kernel
theorem dX6_whyOpen_13 : decode cX6_whyOpen 13 = .ok (.aload_n 0, 1) := by decide +kernel
theorem dX6_whyOpen_14 : decode cX6_whyOpen 14 = .ok (.iload_n 1, 1) := by decide +kernel
theorem dX6_whyOpen_15 : decode cX6_whyOpen 15 = .ok (.iconst 4, 1) := by decide +kernel
theorem dX6_whyOpen_16 : decode cX6_whyOpen 16 = .ok (.imul, 1) := by decide +kernel
theorem dX6_whyOpen_17 : decode cX6_whyOpen 17 = .ok (.invokevirtual 88, 3) := by decide +kernel
theorem dX6_whyOpen_20 : decode cX6_whyOpen 20 = .ok (.ifCond .eq 7, 3) := by decide +kernel
theorem dX6_whyOpen_27 : decode cX6_whyOpen 27 = .ok (.iconst 0, 1) := by decide +kernel
theorem dX6_whyOpen_23 : decode cX6_whyOpen 23 = .ok (.iconst 1, 1) := by decide +kernel
theorem dX6_whyOpen_24 : decode cX6_whyOpen 24 = .ok (.goto 4, 3) := by decide +kernel
theorem dX6_whyOpen_28 : decode cX6_whyOpen 28 = .ok (.ireturn, 1) := by decide +kernel
def wo_X6whyOpen : List Cond := [.code yX6_whyOpen cX6_whyOpen 2 (some .int), .methodLink RX6 88 yX6_isInputOpen, .instanceMethod yX6_isInputOpen, .selects RX6 yX6_isInputOpen yX6_isInputOpen, .initialized RX6]
def wr_X6whyOpen : List Cond := (wfC ++ (w_X6isInputOpen ++ ([])))
def w_X6whyOpen : List Cond := wo_X6whyOpen ++ wr_X6whyOpen
theorem wg_X6whyOpen : GW w_X6whyOpen := GW_app (GW_of (by decide +kernel)) (GW_app (wg_fC) (GW_app (wg_X6isInputOpen) (GW_nil)))
theorem in_X6whyOpen : ∀ w ∈ wfC, w ∈ w_X6whyOpen := fun _ h => List.mem_append_right _ (List.mem_append_left _ h)
theorem g_X6whyOpen_X6isInputOpen_88 : GoodIn w_X6whyOpen (wsV RX6 88 RX6 yX6_isInputOpen w_X6isInputOpen) := goodIn_app (gi_left (goodIn_of _ (by decide +kernel))) (fun w h => ⟨List.mem_append_right _ (List.mem_append_right _ (List.mem_append_left _ h)), wg_X6isInputOpen w h⟩)
set_option maxHeartbeats 4000000 in
set_option maxRecDepth 100000 in
theorem ct_X6whyOpen (l : Launch) (E : gE) (B : Nat → Nat) (Q : Int32 → VS → Prop) (p1 : Int32) (σ : VS) (hw : wp_X6whyOpen Q p1 σ) : CtI l E yX6_whyOpen w_X6whyOpen (({ frames := 1, cells := 0, slots := 0, locals := 22 } : Room)) (wc E B σ) [.ref (B 6), .int p1] (fun r w => ∃ σ' : VS, Q r σ' ∧ w = wc E B σ') := by
  refine VC_I (cc := cX6_whyOpen) (mL := 2) (rt := (some .int)) (lv0 := [(0, .ref (B 6)), (1, .int p1)]) rfl (by decide) rfl (Nat.le_of_ble_eq_true rfl) ?_
  intro p e s m below meth c A F
  replace F : Fx p s m _ meth c A E cX6_whyOpen 2 (some .int) RX6 w_X6whyOpen := F
  have J_28 : ∀ (k0 : Int32) (σ : VS), b_X6whyOpen_28 Q k0 σ → WB p l e (({ frames := 1, cells := 0, slots := 0, locals := 22 } : Room)) s m (#[.ref (B 6), .int p1]) below meth c (MQ below (va_Qi (fun r w => ∃ σ' : VS, Q r σ' ∧ w = wc E B σ') (AftU E A) A) (#[.ref (B 6), .int p1]) s (({ frames := 1, cells := 0, slots := 0, locals := 22 } : Room)).cells (({ frames := 1, cells := 0, slots := 0, locals := 22 } : Room)).slots A) A E (wc E B) 2 28 [] [.int k0] σ := by
    intro k0 σ hw
    unfold b_X6whyOpen_28 at hw
    exact R_iret (Qc := Q) F rfl dX6_whyOpen_28 hw
  unfold wp_X6whyOpen at hw
  refine R_aload_n F dX6_whyOpen_0 rfl 0 rfl ?_
  refine gc_RX6_37_6 F in_X6whyOpen dX6_whyOpen_1 ?_
  refine gc_RX6_63_1 F in_X6whyOpen dX6_whyOpen_4 ?_
  refine R_iload_n F dX6_whyOpen_7 rfl 1 rfl ?_
  refine R_ldi F qc_11 dX6_whyOpen_8 hw.1 ?_
  replace hw := hw.2
  refine R_iconst F 5 dX6_whyOpen_9 (by decide) ?_
  refine R_icmp_ne (tgt := 29) F dX6_whyOpen_10 (by decide) (fun hc => ?_) (fun hc => ?_)
  · replace hw := hw.1 hc
    refine R_aload_n F dX6_whyOpen_29 rfl 0 rfl ?_
    refine gc_RX6_15_6 F in_X6whyOpen dX6_whyOpen_30 ?_
    refine R_iload_n F dX6_whyOpen_33 rfl 1 rfl ?_
    refine R_ldi F qc_40 dX6_whyOpen_34 hw.1 ?_
    replace hw := hw.2
    exact R_iret (Qc := Q) F rfl dX6_whyOpen_35 hw
  · replace hw := hw.2 hc
    refine R_aload_n F dX6_whyOpen_13 rfl 0 rfl ?_
    refine R_iload_n F dX6_whyOpen_14 rfl 1 rfl ?_
    refine R_iconst F 4 dX6_whyOpen_15 (by decide) ?_
    refine R_imul F dX6_whyOpen_16 ?_
    refine R_callI (As := [.int (p1 * 4)]) (C := RX6) (q0 := 6) (ci := 6) (N := 12) (T := TX6) (fs := cf_6 B) F (ct_X6isInputOpen l E B _ (p1 * 4) _ hw) (cwV 1 F.2.2.2.2.2.2.2.2.2.2 g_X6whyOpen_X6isInputOpen_88 rfl rfl rfl (by decide +kernel) ⟨Nat.le_of_ble_eq_true rfl, Nat.le_of_ble_eq_true rfl⟩) ⟨rfl, rfl⟩ rfl (fun _ => rfl) rfl rfl (Nat.le_of_ble_eq_true rfl) dX6_whyOpen_17 (fun r1 σ2 hw => ?_)
    refine R_if_eq (tgt := 27) F dX6_whyOpen_20 (by decide) (fun hc => ?_) (fun hc => ?_)
    · replace hw := hw.1 hc
      refine R_iconst F 0 dX6_whyOpen_27 (by decide) ?_
      exact R_sub [] rfl (J_28 0 σ2 hw)
    · replace hw := hw.2 hc
      refine R_iconst F 1 dX6_whyOpen_23 (by decide) ?_
      refine R_goto (tgt := 28) F dX6_whyOpen_24 (by decide) ?_
      exact R_sub [] rfl (J_28 1 σ2 hw)
def b_X6timePort_4 (X4 : Int32 → Int32 → VS → Prop) (Q : VS → Prop) (l1 : Int32) (l2 : Int32) (σ : VS) : Prop := ((((l1 * 2) + 2).toInt ≤ l2.toInt → Q σ) ∧ (l2.toInt < ((l1 * 2) + 2).toInt → (In l1 50 ∧ (In l2 100 ∧ (In l1 50 ∧ (In l2 100 ∧ (In l1 50 ∧ (In l2 100 ∧ (In l1 50 ∧ (In l2 100 ∧ X4 l1 (l2 + 1) (sa (sa (sa (sa σ 43 l2 (rd σ 24 l1)) 44 l2 (rd (sa σ 43 l2 (rd σ 24 l1)) 24 l1)) 45 l2 (rd (sa (sa σ 43 l2 (rd σ 24 l1)) 44 l2 (rd (sa σ 43 l2 (rd σ 24 l1)) 24 l1)) 23 l1)) 46 l2 (rd (sa (sa (sa σ 43 l2 (rd σ 24 l1)) 44 l2 (rd (sa σ 43 l2 (rd σ 24 l1)) 24 l1)) 45 l2 (rd (sa (sa σ 43 l2 (rd σ 24 l1)) 44 l2 (rd (sa σ 43 l2 (rd σ 24 l1)) 24 l1)) 23 l1)) 22 l1))))))))))))
def wp_X6timePort (Q : VS → Prop) (p1 : Int32) (σ : VS) : Prop := ∀ (X4 : Int32 → Int32 → VS → Prop), (∀ (l1 : Int32) (l2 : Int32) (σ : VS), b_X6timePort_4 X4 Q l1 l2 σ → X4 l1 l2 σ) → (∀ x1 : Int32, x1 = (p1 * 2) → X4 p1 x1 σ)
theorem dX6_timePort_0 : decode cX6_timePort 0 = .ok (.iload_n 1, 1) := by decide +kernel
theorem dX6_timePort_1 : decode cX6_timePort 1 = .ok (.iconst 2, 1) := by decide +kernel
theorem dX6_timePort_2 : decode cX6_timePort 2 = .ok (.imul, 1) := by decide +kernel
theorem dX6_timePort_3 : decode cX6_timePort 3 = .ok (.istore_n 2, 1) := by decide +kernel
theorem dX6_timePort_4 : decode cX6_timePort 4 = .ok (.iload_n 2, 1) := by decide +kernel
theorem dX6_timePort_5 : decode cX6_timePort 5 = .ok (.iload_n 1, 1) := by decide +kernel
theorem dX6_timePort_6 : decode cX6_timePort 6 = .ok (.iconst 2, 1) := by decide +kernel
theorem dX6_timePort_7 : decode cX6_timePort 7 = .ok (.imul, 1) := by decide +kernel
theorem dX6_timePort_8 : decode cX6_timePort 8 = .ok (.iconst 2, 1) := by decide +kernel
theorem dX6_timePort_9 : decode cX6_timePort 9 = .ok (.iadd, 1) := by decide +kernel
theorem dX6_timePort_10 : decode cX6_timePort 10 = .ok (.if_icmp .ge 69, 3) := by decide +kernel
theorem dX6_timePort_79 : decode cX6_timePort 79 = .ok (.return_, 1) := by decide +kernel
theorem dX6_timePort_13 : decode cX6_timePort 13 = .ok (.aload_n 0, 1) := by decide +kernel
theorem dX6_timePort_14 : decode cX6_timePort 14 = .ok (.getfield 25, 3) := by decide +kernel
theorem dX6_timePort_17 : decode cX6_timePort 17 = .ok (.iload_n 2, 1) := by decide +kernel
theorem dX6_timePort_18 : decode cX6_timePort 18 = .ok (.aload_n 0, 1) := by decide +kernel
theorem dX6_timePort_19 : decode cX6_timePort 19 = .ok (.getfield 41, 3) := by decide +kernel
theorem dX6_timePort_22 : decode cX6_timePort 22 = .ok (.getfield 91, 3) := by decide +kernel
theorem dX6_timePort_25 : decode cX6_timePort 25 = .ok (.iload_n 1, 1) := by decide +kernel
theorem dX6_timePort_26 : decode cX6_timePort 26 = .ok (.iaload, 1) := by decide +kernel
theorem dX6_timePort_27 : decode cX6_timePort 27 = .ok (.iastore, 1) := by decide +kernel
theorem dX6_timePort_28 : decode cX6_timePort 28 = .ok (.aload_n 0, 1) := by decide +kernel
theorem dX6_timePort_29 : decode cX6_timePort 29 = .ok (.getfield 28, 3) := by decide +kernel
theorem dX6_timePort_32 : decode cX6_timePort 32 = .ok (.iload_n 2, 1) := by decide +kernel
theorem dX6_timePort_33 : decode cX6_timePort 33 = .ok (.aload_n 0, 1) := by decide +kernel
theorem dX6_timePort_34 : decode cX6_timePort 34 = .ok (.getfield 41, 3) := by decide +kernel
theorem dX6_timePort_37 : decode cX6_timePort 37 = .ok (.getfield 91, 3) := by decide +kernel
theorem dX6_timePort_40 : decode cX6_timePort 40 = .ok (.iload_n 1, 1) := by decide +kernel
theorem dX6_timePort_41 : decode cX6_timePort 41 = .ok (.iaload, 1) := by decide +kernel
theorem dX6_timePort_42 : decode cX6_timePort 42 = .ok (.iastore, 1) := by decide +kernel
theorem dX6_timePort_43 : decode cX6_timePort 43 = .ok (.aload_n 0, 1) := by decide +kernel
theorem dX6_timePort_44 : decode cX6_timePort 44 = .ok (.getfield 31, 3) := by decide +kernel
theorem dX6_timePort_47 : decode cX6_timePort 47 = .ok (.iload_n 2, 1) := by decide +kernel
theorem dX6_timePort_48 : decode cX6_timePort 48 = .ok (.aload_n 0, 1) := by decide +kernel
theorem dX6_timePort_49 : decode cX6_timePort 49 = .ok (.getfield 41, 3) := by decide +kernel
theorem dX6_timePort_52 : decode cX6_timePort 52 = .ok (.getfield 96, 3) := by decide +kernel
theorem dX6_timePort_55 : decode cX6_timePort 55 = .ok (.iload_n 1, 1) := by decide +kernel
theorem dX6_timePort_56 : decode cX6_timePort 56 = .ok (.iaload, 1) := by decide +kernel
theorem dX6_timePort_57 : decode cX6_timePort 57 = .ok (.iastore, 1) := by decide +kernel
theorem dX6_timePort_58 : decode cX6_timePort 58 = .ok (.aload_n 0, 1) := by decide +kernel
theorem dX6_timePort_59 : decode cX6_timePort 59 = .ok (.getfield 34, 3) := by decide +kernel
theorem dX6_timePort_62 : decode cX6_timePort 62 = .ok (.iload_n 2, 1) := by decide +kernel
theorem dX6_timePort_63 : decode cX6_timePort 63 = .ok (.aload_n 0, 1) := by decide +kernel
theorem dX6_timePort_64 : decode cX6_timePort 64 = .ok (.getfield 41, 3) := by decide +kernel
theorem dX6_timePort_67 : decode cX6_timePort 67 = .ok (.getfield 99, 3) := by decide +kernel
theorem dX6_timePort_70 : decode cX6_timePort 70 = .ok (.iload_n 1, 1) := by decide +kernel
theorem dX6_timePort_71 : decode cX6_timePort 71 = .ok (.iaload, 1) := by decide +kernel
theorem dX6_timePort_72 : decode cX6_timePort 72 = .ok (.iastore, 1) := by decide +kernel
theorem dX6_timePort_73 : decode cX6_timePort 73 = .ok (.iinc 2 1, 3) := by decide +kernel
theorem dX6_timePort_76 : decode cX6_timePort 76 = .ok (.goto (-72), 3) := by decide +kernel
def wo_X6timePort : List Cond := [.code yX6_timePort cX6_timePort 3 none]
def wr_X6timePort : List Cond := (wfC ++ ([]))
def w_X6timePort : List Cond := wo_X6timePort ++ wr_X6timePort
theorem wg_X6timePort : GW w_X6timePort := GW_app (GW_of (by decide +kernel)) (GW_app (wg_fC) (GW_nil))
theorem in_X6timePort : ∀ w ∈ wfC, w ∈ w_X6timePort := fun _ h => List.mem_append_right _ (List.mem_append_left _ h)
set_option maxHeartbeats 4000000 in
set_option maxRecDepth 100000 in
theorem ct_X6timePort (l : Launch) (E : gE) (B : Nat → Nat) (Q : VS → Prop) (p1 : Int32) (σ : VS) (hw : wp_X6timePort Q p1 σ) : CtV l E yX6_timePort w_X6timePort (({ frames := 0, cells := 0, slots := 0, locals := 0 } : Room)) (wc E B σ) [.ref (B 6), .int p1] (fun w => ∃ σ' : VS, Q σ' ∧ w = wc E B σ') := by
  refine VC_V (cc := cX6_timePort) (mL := 3) (rt := none) (lv0 := [(0, .ref (B 6)), (1, .int p1)]) rfl (by decide) rfl (Nat.le_of_ble_eq_true rfl) ?_
  intro p e s m below meth c A F
  replace F : Fx p s m _ meth c A E cX6_timePort 3 none RX6 w_X6timePort := F
  obtain ⟨X4, hX4⟩ : ∃ X : Int32 → Int32 → VS → Prop, X = fun l1 l2 σ => WB p l e (({ frames := 0, cells := 0, slots := 0, locals := 0 } : Room)) s m (#[.ref (B 6), .int p1]) below meth c (MQ below (va_Qv (fun w => ∃ σ' : VS, Q σ' ∧ w = wc E B σ') (AftU E A) A) (#[.ref (B 6), .int p1]) s (({ frames := 0, cells := 0, slots := 0, locals := 0 } : Room)).cells (({ frames := 0, cells := 0, slots := 0, locals := 0 } : Room)).slots A) A E (wc E B) 3 4 [(0, .ref (B 6)), (1, .int l1), (2, .int l2)] [] σ := ⟨_, rfl⟩
  have U_4 : ∀ (l1 : Int32) (l2 : Int32) (σ : VS), X4 l1 l2 σ → WB p l e (({ frames := 0, cells := 0, slots := 0, locals := 0 } : Room)) s m (#[.ref (B 6), .int p1]) below meth c (MQ below (va_Qv (fun w => ∃ σ' : VS, Q σ' ∧ w = wc E B σ') (AftU E A) A) (#[.ref (B 6), .int p1]) s (({ frames := 0, cells := 0, slots := 0, locals := 0 } : Room)).cells (({ frames := 0, cells := 0, slots := 0, locals := 0 } : Room)).slots A) A E (wc E B) 3 4 [(0, .ref (B 6)), (1, .int l1), (2, .int l2)] [] σ := by
    intro l1 l2 σ hw; rw [hX4] at hw; exact hw
  have C_4 : ∀ (l1 : Int32) (l2 : Int32) (σ : VS), b_X6timePort_4 X4 Q l1 l2 σ → X4 l1 l2 σ := by
    intro l1 l2 σ hw
    unfold b_X6timePort_4 at hw
    rw [hX4]
    show WB p l e (({ frames := 0, cells := 0, slots := 0, locals := 0 } : Room)) s m (#[.ref (B 6), .int p1]) below meth c (MQ below (va_Qv (fun w => ∃ σ' : VS, Q σ' ∧ w = wc E B σ') (AftU E A) A) (#[.ref (B 6), .int p1]) s (({ frames := 0, cells := 0, slots := 0, locals := 0 } : Room)).cells (({ frames := 0, cells := 0, slots := 0, locals := 0 } : Room)).slots A) A E (wc E B) 3 4 [(0, .ref (B 6)), (1, .int l1), (2, .int l2)] [] σ
    refine R_iload_n F dX6_timePort_4 rfl 2 rfl ?_
    refine R_iload_n F dX6_timePort_5 rfl 1 rfl ?_
    refine R_iconst F 2 dX6_timePort_6 (by decide) ?_
    refine R_imul F dX6_timePort_7 ?_
    refine R_iconst F 2 dX6_timePort_8 (by decide) ?_
    refine R_iadd F dX6_timePort_9 ?_
    refine R_icmp_ge (tgt := 79) F dX6_timePort_10 (by decide) (fun hc => ?_) (fun hc => ?_)
    · replace hw := hw.1 hc
      exact R_vret (Qc := Q) F dX6_timePort_79 hw
    · replace hw := hw.2 hc
      refine R_aload_n F dX6_timePort_13 rfl 0 rfl ?_
      refine gc_RX6_25_6 F in_X6timePort dX6_timePort_14 ?_
      refine R_iload_n F dX6_timePort_17 rfl 2 rfl ?_
      refine R_aload_n F dX6_timePort_18 rfl 0 rfl ?_
      refine gc_RX6_41_6 F in_X6timePort dX6_timePort_19 ?_
      refine gc_RX6_91_2 F in_X6timePort dX6_timePort_22 ?_
      refine R_iload_n F dX6_timePort_25 rfl 1 rfl ?_
      refine R_ldi F qc_24 dX6_timePort_26 hw.1 ?_
      replace hw := hw.2
      have hi := hw.1
      replace hw := hw.2
      refine R_sti F qc_43 uc_43 dX6_timePort_27 hi ?_
      refine R_aload_n F dX6_timePort_28 rfl 0 rfl ?_
      refine gc_RX6_28_6 F in_X6timePort dX6_timePort_29 ?_
      refine R_iload_n F dX6_timePort_32 rfl 2 rfl ?_
      refine R_aload_n F dX6_timePort_33 rfl 0 rfl ?_
      refine gc_RX6_41_6 F in_X6timePort dX6_timePort_34 ?_
      refine gc_RX6_91_2 F in_X6timePort dX6_timePort_37 ?_
      refine R_iload_n F dX6_timePort_40 rfl 1 rfl ?_
      refine R_ldi F qc_24 dX6_timePort_41 hw.1 ?_
      replace hw := hw.2
      have hi := hw.1
      replace hw := hw.2
      refine R_sti F qc_44 uc_44 dX6_timePort_42 hi ?_
      refine R_aload_n F dX6_timePort_43 rfl 0 rfl ?_
      refine gc_RX6_31_6 F in_X6timePort dX6_timePort_44 ?_
      refine R_iload_n F dX6_timePort_47 rfl 2 rfl ?_
      refine R_aload_n F dX6_timePort_48 rfl 0 rfl ?_
      refine gc_RX6_41_6 F in_X6timePort dX6_timePort_49 ?_
      refine gc_RX6_96_2 F in_X6timePort dX6_timePort_52 ?_
      refine R_iload_n F dX6_timePort_55 rfl 1 rfl ?_
      refine R_ldi F qc_23 dX6_timePort_56 hw.1 ?_
      replace hw := hw.2
      have hi := hw.1
      replace hw := hw.2
      refine R_sti F qc_45 uc_45 dX6_timePort_57 hi ?_
      refine R_aload_n F dX6_timePort_58 rfl 0 rfl ?_
      refine gc_RX6_34_6 F in_X6timePort dX6_timePort_59 ?_
      refine R_iload_n F dX6_timePort_62 rfl 2 rfl ?_
      refine R_aload_n F dX6_timePort_63 rfl 0 rfl ?_
      refine gc_RX6_41_6 F in_X6timePort dX6_timePort_64 ?_
      refine gc_RX6_99_2 F in_X6timePort dX6_timePort_67 ?_
      refine R_iload_n F dX6_timePort_70 rfl 1 rfl ?_
      refine R_ldi F qc_22 dX6_timePort_71 hw.1 ?_
      replace hw := hw.2
      have hi := hw.1
      replace hw := hw.2
      refine R_sti F qc_46 uc_46 dX6_timePort_72 hi ?_
      refine R_iinc (q := 2) (v := (l2 + 1)) (lv' := [(2, .int (l2 + 1)), (0, .ref (B 6)), (1, .int l1)]) F dX6_timePort_73 rfl rfl (by decide) rfl ?_
      refine R_goto (tgt := 4) F dX6_timePort_76 (by decide) ?_
      exact R_sub [1, 2, 0] rfl (U_4 l1 (l2 + 1) (sa (sa (sa (sa σ 43 l2 (rd σ 24 l1)) 44 l2 (rd (sa σ 43 l2 (rd σ 24 l1)) 24 l1)) 45 l2 (rd (sa (sa σ 43 l2 (rd σ 24 l1)) 44 l2 (rd (sa σ 43 l2 (rd σ 24 l1)) 24 l1)) 23 l1)) 46 l2 (rd (sa (sa (sa σ 43 l2 (rd σ 24 l1)) 44 l2 (rd (sa σ 43 l2 (rd σ 24 l1)) 24 l1)) 45 l2 (rd (sa (sa σ 43 l2 (rd σ 24 l1)) 44 l2 (rd (sa σ 43 l2 (rd σ 24 l1)) 24 l1)) 23 l1)) 22 l1)) hw)
  unfold wp_X6timePort at hw
  replace hw := hw X4 C_4
  refine R_iload_n F dX6_timePort_0 rfl 1 rfl ?_
  refine R_iconst F 2 dX6_timePort_1 (by decide) ?_
  refine R_imul F dX6_timePort_2 ?_
  refine R_topi (fun x1 ex1 => ?_)
  replace hw := hw x1 ex1
  refine R_istore_n (lv' := [(2, .int x1), (0, .ref (B 6)), (1, .int p1)]) F dX6_timePort_3 rfl (by decide) rfl ?_
  exact R_sub [1, 2, 0] rfl (U_4 p1 x1 σ hw)
def wp_X6clearPlace (Q : VS → Prop) (p1 : Int32) (σ : VS) : Prop := (In p1 100 ∧ (In p1 100 ∧ (In p1 100 ∧ (In p1 100 ∧ Q (sa (sa (sa (sa σ 43 p1 0) 44 p1 1000000000) 45 p1 0) 46 p1 1000000000)))))
theorem dX6_clearPlace_0 : decode cX6_clearPlace 0 = .ok (.aload_n 0, 1) := by decide +kernel
theorem dX6_clearPlace_1 : decode cX6_clearPlace 1 = .ok (.getfield 25, 3) := by decide +kernel
theorem dX6_clearPlace_4 : decode cX6_clearPlace 4 = .ok (.iload_n 1, 1) := by decide +kernel
theorem dX6_clearPlace_5 : decode cX6_clearPlace 5 = .ok (.iconst 0, 1) := by decide +kernel
theorem dX6_clearPlace_6 : decode cX6_clearPlace 6 = .ok (.iastore, 1) := by decide +kernel
theorem dX6_clearPlace_7 : decode cX6_clearPlace 7 = .ok (.aload_n 0, 1) := by decide +kernel
theorem dX6_clearPlace_8 : decode cX6_clearPlace 8 = .ok (.getfield 28, 3) := by decide +kernel
theorem dX6_clearPlace_11 : decode cX6_clearPlace 11 = .ok (.iload_n 1, 1) := by decide +kernel
theorem dX6_clearPlace_12 : decode cX6_clearPlace 12 = .ok (.ldc 134, 2) := by decide +kernel
theorem dX6_clearPlace_14 : decode cX6_clearPlace 14 = .ok (.iastore, 1) := by decide +kernel
theorem dX6_clearPlace_15 : decode cX6_clearPlace 15 = .ok (.aload_n 0, 1) := by decide +kernel
theorem dX6_clearPlace_16 : decode cX6_clearPlace 16 = .ok (.getfield 31, 3) := by decide +kernel
theorem dX6_clearPlace_19 : decode cX6_clearPlace 19 = .ok (.iload_n 1, 1) := by decide +kernel
theorem dX6_clearPlace_20 : decode cX6_clearPlace 20 = .ok (.iconst 0, 1) := by decide +kernel
theorem dX6_clearPlace_21 : decode cX6_clearPlace 21 = .ok (.iastore, 1) := by decide +kernel
theorem dX6_clearPlace_22 : decode cX6_clearPlace 22 = .ok (.aload_n 0, 1) := by decide +kernel
theorem dX6_clearPlace_23 : decode cX6_clearPlace 23 = .ok (.getfield 34, 3) := by decide +kernel
theorem dX6_clearPlace_26 : decode cX6_clearPlace 26 = .ok (.iload_n 1, 1) := by decide +kernel
theorem dX6_clearPlace_27 : decode cX6_clearPlace 27 = .ok (.ldc 134, 2) := by decide +kernel
theorem dX6_clearPlace_29 : decode cX6_clearPlace 29 = .ok (.iastore, 1) := by decide +kernel
theorem dX6_clearPlace_30 : decode cX6_clearPlace 30 = .ok (.return_, 1) := by decide +kernel
def wo_X6clearPlace : List Cond := [.code yX6_clearPlace cX6_clearPlace 2 none, .constant RX6 134 1000000000]
def wr_X6clearPlace : List Cond := (wfC ++ ([]))
def w_X6clearPlace : List Cond := wo_X6clearPlace ++ wr_X6clearPlace
theorem wg_X6clearPlace : GW w_X6clearPlace := GW_app (GW_of (by decide +kernel)) (GW_app (wg_fC) (GW_nil))
theorem in_X6clearPlace : ∀ w ∈ wfC, w ∈ w_X6clearPlace := fun _ h => List.mem_append_right _ (List.mem_append_left _ h)
set_option maxHeartbeats 4000000 in
set_option maxRecDepth 100000 in
theorem ct_X6clearPlace (l : Launch) (E : gE) (B : Nat → Nat) (Q : VS → Prop) (p1 : Int32) (σ : VS) (hw : wp_X6clearPlace Q p1 σ) : CtV l E yX6_clearPlace w_X6clearPlace (({ frames := 0, cells := 0, slots := 0, locals := 0 } : Room)) (wc E B σ) [.ref (B 6), .int p1] (fun w => ∃ σ' : VS, Q σ' ∧ w = wc E B σ') := by
  refine VC_V (cc := cX6_clearPlace) (mL := 2) (rt := none) (lv0 := [(0, .ref (B 6)), (1, .int p1)]) rfl (by decide) rfl (Nat.le_of_ble_eq_true rfl) ?_
  intro p e s m below meth c A F
  replace F : Fx p s m _ meth c A E cX6_clearPlace 2 none RX6 w_X6clearPlace := F
  unfold wp_X6clearPlace at hw
  refine R_aload_n F dX6_clearPlace_0 rfl 0 rfl ?_
  refine gc_RX6_25_6 F in_X6clearPlace dX6_clearPlace_1 ?_
  refine R_iload_n F dX6_clearPlace_4 rfl 1 rfl ?_
  refine R_iconst F 0 dX6_clearPlace_5 (by decide) ?_
  have hi := hw.1
  replace hw := hw.2
  refine R_sti F qc_43 uc_43 dX6_clearPlace_6 hi ?_
  refine R_aload_n F dX6_clearPlace_7 rfl 0 rfl ?_
  refine gc_RX6_28_6 F in_X6clearPlace dX6_clearPlace_8 ?_
  refine R_iload_n F dX6_clearPlace_11 rfl 1 rfl ?_
  refine R_ldc F 1000000000 (List.mem_append_left _ (show Cond.constant RX6 134 1000000000 ∈ wo_X6clearPlace by decide +kernel)) dX6_clearPlace_12 ?_
  have hi := hw.1
  replace hw := hw.2
  refine R_sti F qc_44 uc_44 dX6_clearPlace_14 hi ?_
  refine R_aload_n F dX6_clearPlace_15 rfl 0 rfl ?_
  refine gc_RX6_31_6 F in_X6clearPlace dX6_clearPlace_16 ?_
  refine R_iload_n F dX6_clearPlace_19 rfl 1 rfl ?_
  refine R_iconst F 0 dX6_clearPlace_20 (by decide) ?_
  have hi := hw.1
  replace hw := hw.2
  refine R_sti F qc_45 uc_45 dX6_clearPlace_21 hi ?_
  refine R_aload_n F dX6_clearPlace_22 rfl 0 rfl ?_
  refine gc_RX6_34_6 F in_X6clearPlace dX6_clearPlace_23 ?_
  refine R_iload_n F dX6_clearPlace_26 rfl 1 rfl ?_
  refine R_ldc F 1000000000 (List.mem_append_left _ (show Cond.constant RX6 134 1000000000 ∈ wo_X6clearPlace by decide +kernel)) dX6_clearPlace_27 ?_
  have hi := hw.1
  replace hw := hw.2
  refine R_sti F qc_46 uc_46 dX6_clearPlace_29 hi ?_
  exact R_vret (Qc := Q) F dX6_clearPlace_30 hw
def b_X6timeArc_167 (Q : Int32 → VS → Prop) (l1 : Int32) (l2 : Int32) (l6 : Int32) (l11 : Int32) (l12 : Int32) (l13 : Int32) (l14 : Int32) (k0 : Int32) (σ : VS) : Prop := (In ((l1 * 2) + l2) 400 ∧ (In ((l1 * 2) + l2) 400 ∧ (∀ x14 : Int32, x14 = ((l6 * 2) + l2) → (In x14 100 ∧ (In x14 100 ∧ (In x14 100 ∧ (In x14 100 ∧ Q 0 (sa (sa (sa (sa σ 41 ((l1 * 2) + l2) ((((l11 * (1000 + (σ.1 7))) + 999) / 1000) + k0)) 42 ((l1 * 2) + l2) (((l13 * (1000 - ((sa σ 41 ((l1 * 2) + l2) ((((l11 * (1000 + (σ.1 7))) + 999) / 1000) + k0)).1 8))) / 1000) + k0)) 43 x14 (imax (rd (sa (sa σ 41 ((l1 * 2) + l2) ((((l11 * (1000 + (σ.1 7))) + 999) / 1000) + k0)) 42 ((l1 * 2) + l2) (((l13 * (1000 - ((sa σ 41 ((l1 * 2) + l2) ((((l11 * (1000 + (σ.1 7))) + 999) / 1000) + k0)).1 8))) / 1000) + k0)) 43 x14) l12)) 44 x14 (imin (rd (sa (sa (sa σ 41 ((l1 * 2) + l2) ((((l11 * (1000 + (σ.1 7))) + 999) / 1000) + k0)) 42 ((l1 * 2) + l2) (((l13 * (1000 - ((sa σ 41 ((l1 * 2) + l2) ((((l11 * (1000 + (σ.1 7))) + 999) / 1000) + k0)).1 8))) / 1000) + k0)) 43 x14 (imax (rd (sa (sa σ 41 ((l1 * 2) + l2) ((((l11 * (1000 + (σ.1 7))) + 999) / 1000) + k0)) 42 ((l1 * 2) + l2) (((l13 * (1000 - ((sa σ 41 ((l1 * 2) + l2) ((((l11 * (1000 + (σ.1 7))) + 999) / 1000) + k0)).1 8))) / 1000) + k0)) 43 x14) l12)) 44 x14) l14)))))))))
def wp_X6timeArc (Q : Int32 → VS → Prop) (p1 : Int32) (p2 : Int32) (p3 : Int32) (p4 : Int32) (p5 : Int32) (σ : VS) : Prop := (∀ x1 : Int32, x1 = (p1 / 4) → (In x1 50 ∧ (∀ x2 : Int32, x2 = (rd σ 13 x1) → (In x1 50 ∧ (∀ x3 : Int32, x3 = (1 + (rd σ 14 x1)) → (¬ x3 = 0 ∧ (∀ x4 : Int32, x4 = (((p3 + x3) - 1) / x3) → (¬ x3 = 0 ∧ (∀ x5 : Int32, x5 = (p3 / x3) → wp_X5lookUp (fun (r6 : Int32) (σ7 : VS) => ((0 ≤ r6.toInt → wp_X5lookUp (fun (r8 : Int32) (σ9 : VS) => ((0 ≤ r8.toInt → wp_X5lookUp (fun (r10 : Int32) (σ11 : VS) => ((0 ≤ r10.toInt → wp_X5lookUp (fun (r12 : Int32) (σ13 : VS) => ((0 ≤ r12.toInt → ((p2.toInt ≠ 1 → b_X6timeArc_167 Q p1 p2 x1 r6 r8 r10 r12 0 σ13) ∧ (p2.toInt = 1 → (In x2 8 ∧ b_X6timeArc_167 Q p1 p2 x1 r6 r8 r10 r12 (rd σ13 38 x2) σ13)))) ∧ (r12.toInt < 0 → Q r12 σ13))) x2 1 x5 p5 0 σ11) ∧ (r10.toInt < 0 → Q r10 σ11))) x2 0 x5 p5 0 σ9) ∧ (r8.toInt < 0 → Q r8 σ9))) x2 1 x4 p4 1 σ7) ∧ (r6.toInt < 0 → Q r6 σ7))) x2 0 x4 p4 1 σ)))))))))
theorem dX6_timeArc_0 : decode cX6_timeArc 0 = .ok (.iload_n 1, 1) := by decide +kernel
theorem dX6_timeArc_1 : decode cX6_timeArc 1 = .ok (.iconst 4, 1) := by decide +kernel
theorem dX6_timeArc_2 : decode cX6_timeArc 2 = .ok (.idiv, 1) := by decide +kernel
theorem dX6_timeArc_3 : decode cX6_timeArc 3 = .ok (.istore 6, 2) := by decide +kernel
theorem dX6_timeArc_5 : decode cX6_timeArc 5 = .ok (.aload_n 0, 1) := by decide +kernel
theorem dX6_timeArc_6 : decode cX6_timeArc 6 = .ok (.getfield 37, 3) := by decide +kernel
theorem dX6_timeArc_9 : decode cX6_timeArc 9 = .ok (.getfield 135, 3) := by decide +kernel
theorem dX6_timeArc_12 : decode cX6_timeArc 12 = .ok (.iload 6, 2) := by decide +kernel
theorem dX6_timeArc_14 : decode cX6_timeArc 14 = .ok (.iaload, 1) := by decide +kernel
theorem dX6_timeArc_15 : decode cX6_timeArc 15 = .ok (.istore 7, 2) := by decide +kernel
theorem dX6_timeArc_17 : decode cX6_timeArc 17 = .ok (.iconst 1, 1) := by decide +kernel
theorem dX6_timeArc_18 : decode cX6_timeArc 18 = .ok (.aload_n 0, 1) := by decide +kernel
theorem dX6_timeArc_19 : decode cX6_timeArc 19 = .ok (.getfield 37, 3) := by decide +kernel
theorem dX6_timeArc_22 : decode cX6_timeArc 22 = .ok (.getfield 137, 3) := by decide +kernel
theorem dX6_timeArc_25 : decode cX6_timeArc 25 = .ok (.iload 6, 2) := by decide +kernel
theorem dX6_timeArc_27 : decode cX6_timeArc 27 = .ok (.iaload, 1) := by decide +kernel
theorem dX6_timeArc_28 : decode cX6_timeArc 28 = .ok (.iadd, 1) := by decide +kernel
theorem dX6_timeArc_29 : decode cX6_timeArc 29 = .ok (.istore 8, 2) := by decide +kernel
theorem dX6_timeArc_31 : decode cX6_timeArc 31 = .ok (.iload_n 3, 1) := by decide +kernel
theorem dX6_timeArc_32 : decode cX6_timeArc 32 = .ok (.iload 8, 2) := by decide +kernel
theorem dX6_timeArc_34 : decode cX6_timeArc 34 = .ok (.iadd, 1) := by decide +kernel
theorem dX6_timeArc_35 : decode cX6_timeArc 35 = .ok (.iconst 1, 1) := by decide +kernel
theorem dX6_timeArc_36 : decode cX6_timeArc 36 = .ok (.isub, 1) := by decide +kernel
theorem dX6_timeArc_37 : decode cX6_timeArc 37 = .ok (.iload 8, 2) := by decide +kernel
theorem dX6_timeArc_39 : decode cX6_timeArc 39 = .ok (.idiv, 1) := by decide +kernel
theorem dX6_timeArc_40 : decode cX6_timeArc 40 = .ok (.istore 9, 2) := by decide +kernel
theorem dX6_timeArc_42 : decode cX6_timeArc 42 = .ok (.iload_n 3, 1) := by decide +kernel
theorem dX6_timeArc_43 : decode cX6_timeArc 43 = .ok (.iload 8, 2) := by decide +kernel
theorem dX6_timeArc_45 : decode cX6_timeArc 45 = .ok (.idiv, 1) := by decide +kernel
theorem dX6_timeArc_46 : decode cX6_timeArc 46 = .ok (.istore 10, 2) := by decide +kernel
theorem dX6_timeArc_48 : decode cX6_timeArc 48 = .ok (.aload_n 0, 1) := by decide +kernel
theorem dX6_timeArc_49 : decode cX6_timeArc 49 = .ok (.getfield 49, 3) := by decide +kernel
theorem dX6_timeArc_52 : decode cX6_timeArc 52 = .ok (.iload 7, 2) := by decide +kernel
theorem dX6_timeArc_54 : decode cX6_timeArc 54 = .ok (.iconst 0, 1) := by decide +kernel
theorem dX6_timeArc_55 : decode cX6_timeArc 55 = .ok (.iload 9, 2) := by decide +kernel
theorem dX6_timeArc_57 : decode cX6_timeArc 57 = .ok (.iload 4, 2) := by decide +kernel
theorem dX6_timeArc_59 : decode cX6_timeArc 59 = .ok (.iconst 1, 1) := by decide +kernel
theorem dX6_timeArc_60 : decode cX6_timeArc 60 = .ok (.invokevirtual 140, 3) := by decide +kernel
theorem dX6_timeArc_63 : decode cX6_timeArc 63 = .ok (.istore 11, 2) := by decide +kernel
theorem dX6_timeArc_65 : decode cX6_timeArc 65 = .ok (.iload 11, 2) := by decide +kernel
theorem dX6_timeArc_67 : decode cX6_timeArc 67 = .ok (.ifCond .ge 6, 3) := by decide +kernel
theorem dX6_timeArc_73 : decode cX6_timeArc 73 = .ok (.aload_n 0, 1) := by decide +kernel
theorem dX6_timeArc_74 : decode cX6_timeArc 74 = .ok (.getfield 49, 3) := by decide +kernel
theorem dX6_timeArc_77 : decode cX6_timeArc 77 = .ok (.iload 7, 2) := by decide +kernel
theorem dX6_timeArc_79 : decode cX6_timeArc 79 = .ok (.iconst 1, 1) := by decide +kernel
theorem dX6_timeArc_80 : decode cX6_timeArc 80 = .ok (.iload 9, 2) := by decide +kernel
theorem dX6_timeArc_82 : decode cX6_timeArc 82 = .ok (.iload 4, 2) := by decide +kernel
theorem dX6_timeArc_84 : decode cX6_timeArc 84 = .ok (.iconst 1, 1) := by decide +kernel
theorem dX6_timeArc_85 : decode cX6_timeArc 85 = .ok (.invokevirtual 140, 3) := by decide +kernel
theorem dX6_timeArc_88 : decode cX6_timeArc 88 = .ok (.istore 12, 2) := by decide +kernel
theorem dX6_timeArc_90 : decode cX6_timeArc 90 = .ok (.iload 12, 2) := by decide +kernel
theorem dX6_timeArc_92 : decode cX6_timeArc 92 = .ok (.ifCond .ge 6, 3) := by decide +kernel
theorem dX6_timeArc_98 : decode cX6_timeArc 98 = .ok (.aload_n 0, 1) := by decide +kernel
theorem dX6_timeArc_99 : decode cX6_timeArc 99 = .ok (.getfield 49, 3) := by decide +kernel
theorem dX6_timeArc_102 : decode cX6_timeArc 102 = .ok (.iload 7, 2) := by decide +kernel
theorem dX6_timeArc_104 : decode cX6_timeArc 104 = .ok (.iconst 0, 1) := by decide +kernel
theorem dX6_timeArc_105 : decode cX6_timeArc 105 = .ok (.iload 10, 2) := by decide +kernel
theorem dX6_timeArc_107 : decode cX6_timeArc 107 = .ok (.iload 5, 2) := by decide +kernel
theorem dX6_timeArc_109 : decode cX6_timeArc 109 = .ok (.iconst 0, 1) := by decide +kernel
theorem dX6_timeArc_110 : decode cX6_timeArc 110 = .ok (.invokevirtual 140, 3) := by decide +kernel
theorem dX6_timeArc_113 : decode cX6_timeArc 113 = .ok (.istore 13, 2) := by decide +kernel
theorem dX6_timeArc_115 : decode cX6_timeArc 115 = .ok (.iload 13, 2) := by decide +kernel
theorem dX6_timeArc_117 : decode cX6_timeArc 117 = .ok (.ifCond .ge 6, 3) := by decide +kernel
theorem dX6_timeArc_123 : decode cX6_timeArc 123 = .ok (.aload_n 0, 1) := by decide +kernel
theorem dX6_timeArc_124 : decode cX6_timeArc 124 = .ok (.getfield 49, 3) := by decide +kernel
theorem dX6_timeArc_127 : decode cX6_timeArc 127 = .ok (.iload 7, 2) := by decide +kernel
theorem dX6_timeArc_129 : decode cX6_timeArc 129 = .ok (.iconst 1, 1) := by decide +kernel
theorem dX6_timeArc_130 : decode cX6_timeArc 130 = .ok (.iload 10, 2) := by decide +kernel
theorem dX6_timeArc_132 : decode cX6_timeArc 132 = .ok (.iload 5, 2) := by decide +kernel
theorem dX6_timeArc_134 : decode cX6_timeArc 134 = .ok (.iconst 0, 1) := by decide +kernel
theorem dX6_timeArc_135 : decode cX6_timeArc 135 = .ok (.invokevirtual 140, 3) := by decide +kernel
theorem dX6_timeArc_138 : decode cX6_timeArc 138 = .ok (.istore 14, 2) := by decide +kernel
theorem dX6_timeArc_140 : decode cX6_timeArc 140 = .ok (.iload 14, 2) := by decide +kernel
theorem dX6_timeArc_142 : decode cX6_timeArc 142 = .ok (.ifCond .ge 6, 3) := by decide +kernel
theorem dX6_timeArc_148 : decode cX6_timeArc 148 = .ok (.iload_n 2, 1) := by decide +kernel
theorem dX6_timeArc_149 : decode cX6_timeArc 149 = .ok (.iconst 1, 1) := by decide +kernel
theorem dX6_timeArc_150 : decode cX6_timeArc 150 = .ok (.if_icmp .ne 16, 3) := by decide +kernel
theorem dX6_timeArc_166 : decode cX6_timeArc 166 = .ok (.iconst 0, 1) := by decide +kernel
theorem dX6_timeArc_153 : decode cX6_timeArc 153 = .ok (.aload_n 0, 1) := by decide +kernel
theorem dX6_timeArc_154 : decode cX6_timeArc 154 = .ok (.getfield 49, 3) := by decide +kernel
theorem dX6_timeArc_157 : decode cX6_timeArc 157 = .ok (.getfield 146, 3) := by decide +kernel
theorem dX6_timeArc_160 : decode cX6_timeArc 160 = .ok (.iload 7, 2) := by decide +kernel
theorem dX6_timeArc_162 : decode cX6_timeArc 162 = .ok (.iaload, 1) := by decide +kernel
theorem dX6_timeArc_163 : decode cX6_timeArc 163 = .ok (.goto 4, 3) := by decide +kernel
theorem dX6_timeArc_145 : decode cX6_timeArc 145 = .ok (.iload 14, 2) := by decide +kernel
theorem dX6_timeArc_147 : decode cX6_timeArc 147 = .ok (.ireturn, 1) := by decide +kernel
theorem dX6_timeArc_120 : decode cX6_timeArc 120 = .ok (.iload 13, 2) := by decide +kernel
theorem dX6_timeArc_122 : decode cX6_timeArc 122 = .ok (.ireturn, 1) := by decide +kernel
theorem dX6_timeArc_95 : decode cX6_timeArc 95 = .ok (.iload 12, 2) := by decide +kernel
theorem dX6_timeArc_97 : decode cX6_timeArc 97 = .ok (.ireturn, 1) := by decide +kernel
theorem dX6_timeArc_70 : decode cX6_timeArc 70 = .ok (.iload 11, 2) := by decide +kernel
theorem dX6_timeArc_72 : decode cX6_timeArc 72 = .ok (.ireturn, 1) := by decide +kernel
theorem dX6_timeArc_167 : decode cX6_timeArc 167 = .ok (.istore 15, 2) := by decide +kernel
theorem dX6_timeArc_169 : decode cX6_timeArc 169 = .ok (.aload_n 0, 1) := by decide +kernel
theorem dX6_timeArc_170 : decode cX6_timeArc 170 = .ok (.getfield 19, 3) := by decide +kernel
theorem dX6_timeArc_173 : decode cX6_timeArc 173 = .ok (.iload_n 1, 1) := by decide +kernel
theorem dX6_timeArc_174 : decode cX6_timeArc 174 = .ok (.iconst 2, 1) := by decide +kernel
theorem dX6_timeArc_175 : decode cX6_timeArc 175 = .ok (.imul, 1) := by decide +kernel
theorem dX6_timeArc_176 : decode cX6_timeArc 176 = .ok (.iload_n 2, 1) := by decide +kernel
theorem dX6_timeArc_177 : decode cX6_timeArc 177 = .ok (.iadd, 1) := by decide +kernel
theorem dX6_timeArc_178 : decode cX6_timeArc 178 = .ok (.iload 11, 2) := by decide +kernel
theorem dX6_timeArc_180 : decode cX6_timeArc 180 = .ok (.sipush 1000, 3) := by decide +kernel
theorem dX6_timeArc_183 : decode cX6_timeArc 183 = .ok (.aload_n 0, 1) := by decide +kernel
theorem dX6_timeArc_184 : decode cX6_timeArc 184 = .ok (.getfield 49, 3) := by decide +kernel
theorem dX6_timeArc_187 : decode cX6_timeArc 187 = .ok (.getfield 149, 3) := by decide +kernel
theorem dX6_timeArc_190 : decode cX6_timeArc 190 = .ok (.iadd, 1) := by decide +kernel
theorem dX6_timeArc_191 : decode cX6_timeArc 191 = .ok (.imul, 1) := by decide +kernel
theorem dX6_timeArc_192 : decode cX6_timeArc 192 = .ok (.sipush 999, 3) := by decide +kernel
theorem dX6_timeArc_195 : decode cX6_timeArc 195 = .ok (.iadd, 1) := by decide +kernel
theorem dX6_timeArc_196 : decode cX6_timeArc 196 = .ok (.sipush 1000, 3) := by decide +kernel
theorem dX6_timeArc_199 : decode cX6_timeArc 199 = .ok (.idiv, 1) := by decide +kernel
theorem dX6_timeArc_200 : decode cX6_timeArc 200 = .ok (.iload 15, 2) := by decide +kernel
theorem dX6_timeArc_202 : decode cX6_timeArc 202 = .ok (.iadd, 1) := by decide +kernel
theorem dX6_timeArc_203 : decode cX6_timeArc 203 = .ok (.iastore, 1) := by decide +kernel
theorem dX6_timeArc_204 : decode cX6_timeArc 204 = .ok (.aload_n 0, 1) := by decide +kernel
theorem dX6_timeArc_205 : decode cX6_timeArc 205 = .ok (.getfield 22, 3) := by decide +kernel
theorem dX6_timeArc_208 : decode cX6_timeArc 208 = .ok (.iload_n 1, 1) := by decide +kernel
theorem dX6_timeArc_209 : decode cX6_timeArc 209 = .ok (.iconst 2, 1) := by decide +kernel
theorem dX6_timeArc_210 : decode cX6_timeArc 210 = .ok (.imul, 1) := by decide +kernel
theorem dX6_timeArc_211 : decode cX6_timeArc 211 = .ok (.iload_n 2, 1) := by decide +kernel
theorem dX6_timeArc_212 : decode cX6_timeArc 212 = .ok (.iadd, 1) := by decide +kernel
theorem dX6_timeArc_213 : decode cX6_timeArc 213 = .ok (.iload 13, 2) := by decide +kernel
theorem dX6_timeArc_215 : decode cX6_timeArc 215 = .ok (.sipush 1000, 3) := by decide +kernel
theorem dX6_timeArc_218 : decode cX6_timeArc 218 = .ok (.aload_n 0, 1) := by decide +kernel
theorem dX6_timeArc_219 : decode cX6_timeArc 219 = .ok (.getfield 49, 3) := by decide +kernel
theorem dX6_timeArc_222 : decode cX6_timeArc 222 = .ok (.getfield 152, 3) := by decide +kernel
theorem dX6_timeArc_225 : decode cX6_timeArc 225 = .ok (.isub, 1) := by decide +kernel
theorem dX6_timeArc_226 : decode cX6_timeArc 226 = .ok (.imul, 1) := by decide +kernel
theorem dX6_timeArc_227 : decode cX6_timeArc 227 = .ok (.sipush 1000, 3) := by decide +kernel
theorem dX6_timeArc_230 : decode cX6_timeArc 230 = .ok (.idiv, 1) := by decide +kernel
theorem dX6_timeArc_231 : decode cX6_timeArc 231 = .ok (.iload 15, 2) := by decide +kernel
theorem dX6_timeArc_233 : decode cX6_timeArc 233 = .ok (.iadd, 1) := by decide +kernel
theorem dX6_timeArc_234 : decode cX6_timeArc 234 = .ok (.iastore, 1) := by decide +kernel
theorem dX6_timeArc_235 : decode cX6_timeArc 235 = .ok (.iload 6, 2) := by decide +kernel
theorem dX6_timeArc_237 : decode cX6_timeArc 237 = .ok (.iconst 2, 1) := by decide +kernel
theorem dX6_timeArc_238 : decode cX6_timeArc 238 = .ok (.imul, 1) := by decide +kernel
theorem dX6_timeArc_239 : decode cX6_timeArc 239 = .ok (.iload_n 2, 1) := by decide +kernel
theorem dX6_timeArc_240 : decode cX6_timeArc 240 = .ok (.iadd, 1) := by decide +kernel
theorem dX6_timeArc_241 : decode cX6_timeArc 241 = .ok (.istore 16, 2) := by decide +kernel
theorem dX6_timeArc_243 : decode cX6_timeArc 243 = .ok (.aload_n 0, 1) := by decide +kernel
theorem dX6_timeArc_244 : decode cX6_timeArc 244 = .ok (.getfield 25, 3) := by decide +kernel
theorem dX6_timeArc_247 : decode cX6_timeArc 247 = .ok (.iload 16, 2) := by decide +kernel
theorem dX6_timeArc_249 : decode cX6_timeArc 249 = .ok (.aload_n 0, 1) := by decide +kernel
theorem dX6_timeArc_250 : decode cX6_timeArc 250 = .ok (.getfield 25, 3) := by decide +kernel
theorem dX6_timeArc_253 : decode cX6_timeArc 253 = .ok (.iload 16, 2) := by decide +kernel
theorem dX6_timeArc_255 : decode cX6_timeArc 255 = .ok (.iaload, 1) := by decide +kernel
theorem dX6_timeArc_256 : decode cX6_timeArc 256 = .ok (.iload 12, 2) := by decide +kernel
theorem dX6_timeArc_258 : decode cX6_timeArc 258 = .ok (.invokestatic 155, 3) := by decide +kernel
theorem dX6_timeArc_261 : decode cX6_timeArc 261 = .ok (.iastore, 1) := by decide +kernel
theorem dX6_timeArc_262 : decode cX6_timeArc 262 = .ok (.aload_n 0, 1) := by decide +kernel
theorem dX6_timeArc_263 : decode cX6_timeArc 263 = .ok (.getfield 28, 3) := by decide +kernel
theorem dX6_timeArc_266 : decode cX6_timeArc 266 = .ok (.iload 16, 2) := by decide +kernel
theorem dX6_timeArc_268 : decode cX6_timeArc 268 = .ok (.aload_n 0, 1) := by decide +kernel
theorem dX6_timeArc_269 : decode cX6_timeArc 269 = .ok (.getfield 28, 3) := by decide +kernel
theorem dX6_timeArc_272 : decode cX6_timeArc 272 = .ok (.iload 16, 2) := by decide +kernel
theorem dX6_timeArc_274 : decode cX6_timeArc 274 = .ok (.iaload, 1) := by decide +kernel
theorem dX6_timeArc_275 : decode cX6_timeArc 275 = .ok (.iload 14, 2) := by decide +kernel
theorem dX6_timeArc_277 : decode cX6_timeArc 277 = .ok (.invokestatic 161, 3) := by decide +kernel
theorem dX6_timeArc_280 : decode cX6_timeArc 280 = .ok (.iastore, 1) := by decide +kernel
theorem dX6_timeArc_281 : decode cX6_timeArc 281 = .ok (.iconst 0, 1) := by decide +kernel
theorem dX6_timeArc_282 : decode cX6_timeArc 282 = .ok (.ireturn, 1) := by decide +kernel
def wo_X6timeArc : List Cond := [.code yX6_timeArc cX6_timeArc 17 (some .int), .methodLink RX6 140 yX5_lookUp, .instanceMethod yX5_lookUp, .selects RX5 yX5_lookUp yX5_lookUp, .initialized RX5, .methodLink RX6 155 Lib.Math.max.name, .static Lib.Math.max.name, .initialized "java/lang/Math", .code Lib.Math.max.name Lib.Math.max.code 2 (some .int), .methodLink RX6 161 Lib.Math.min.name, .static Lib.Math.min.name, .code Lib.Math.min.name Lib.Math.min.code 2 (some .int)]
def wr_X6timeArc : List Cond := (wfC ++ (w_X5lookUp ++ ([])))
def w_X6timeArc : List Cond := wo_X6timeArc ++ wr_X6timeArc
theorem wg_X6timeArc : GW w_X6timeArc := GW_app (GW_of (by decide +kernel)) (GW_app (wg_fC) (GW_app (wg_X5lookUp) (GW_nil)))
theorem in_X6timeArc : ∀ w ∈ wfC, w ∈ w_X6timeArc := fun _ h => List.mem_append_right _ (List.mem_append_left _ h)
theorem g_X6timeArc_X5lookUp_140 : GoodIn w_X6timeArc (wsV RX6 140 RX5 yX5_lookUp w_X5lookUp) := goodIn_app (gi_left (goodIn_of _ (by decide +kernel))) (fun w h => ⟨List.mem_append_right _ (List.mem_append_right _ (List.mem_append_left _ h)), wg_X5lookUp w h⟩)
set_option maxHeartbeats 4000000 in
set_option maxRecDepth 100000 in
theorem ct_X6timeArc (l : Launch) (E : gE) (B : Nat → Nat) (Q : Int32 → VS → Prop) (p1 : Int32) (p2 : Int32) (p3 : Int32) (p4 : Int32) (p5 : Int32) (σ : VS) (hw : wp_X6timeArc Q p1 p2 p3 p4 p5 σ) : CtI l E yX6_timeArc w_X6timeArc (({ frames := 2, cells := 0, slots := 0, locals := 64 } : Room)) (wc E B σ) [.ref (B 6), .int p1, .int p2, .int p3, .int p4, .int p5] (fun r w => ∃ σ' : VS, Q r σ' ∧ w = wc E B σ') := by
  refine VC_I (cc := cX6_timeArc) (mL := 17) (rt := (some .int)) (lv0 := [(0, .ref (B 6)), (1, .int p1), (2, .int p2), (3, .int p3), (4, .int p4), (5, .int p5)]) rfl (by decide) rfl (Nat.le_of_ble_eq_true rfl) ?_
  intro p e s m below meth c A F
  replace F : Fx p s m _ meth c A E cX6_timeArc 17 (some .int) RX6 w_X6timeArc := F
  have J_167 : ∀ (l1 : Int32) (l2 : Int32) (l6 : Int32) (l11 : Int32) (l12 : Int32) (l13 : Int32) (l14 : Int32) (k0 : Int32) (σ : VS), b_X6timeArc_167 Q l1 l2 l6 l11 l12 l13 l14 k0 σ → WB p l e (({ frames := 2, cells := 0, slots := 0, locals := 64 } : Room)) s m (#[.ref (B 6), .int p1, .int p2, .int p3, .int p4, .int p5]) below meth c (MQ below (va_Qi (fun r w => ∃ σ' : VS, Q r σ' ∧ w = wc E B σ') (AftU E A) A) (#[.ref (B 6), .int p1, .int p2, .int p3, .int p4, .int p5]) s (({ frames := 2, cells := 0, slots := 0, locals := 64 } : Room)).cells (({ frames := 2, cells := 0, slots := 0, locals := 64 } : Room)).slots A) A E (wc E B) 17 167 [(0, .ref (B 6)), (1, .int l1), (2, .int l2), (6, .int l6), (11, .int l11), (12, .int l12), (13, .int l13), (14, .int l14)] [.int k0] σ := by
    intro l1 l2 l6 l11 l12 l13 l14 k0 σ hw
    unfold b_X6timeArc_167 at hw
    refine R_istore (lv' := [(15, .int k0), (0, .ref (B 6)), (1, .int l1), (2, .int l2), (6, .int l6), (11, .int l11), (12, .int l12), (13, .int l13), (14, .int l14)]) F dX6_timeArc_167 (by decide) rfl ?_
    refine R_aload_n F dX6_timeArc_169 rfl 1 rfl ?_
    refine gc_RX6_19_6 F in_X6timeArc dX6_timeArc_170 ?_
    refine R_iload_n F dX6_timeArc_173 rfl 2 rfl ?_
    refine R_iconst F 2 dX6_timeArc_174 (by decide) ?_
    refine R_imul F dX6_timeArc_175 ?_
    refine R_iload_n F dX6_timeArc_176 rfl 3 rfl ?_
    refine R_iadd F dX6_timeArc_177 ?_
    refine R_iload F dX6_timeArc_178 5 rfl ?_
    refine R_sipush F 1000 dX6_timeArc_180 (by decide) ?_
    refine R_aload_n F dX6_timeArc_183 rfl 1 rfl ?_
    refine gc_RX6_49_6 F in_X6timeArc dX6_timeArc_184 ?_
    refine gc_RX6_149_5 F in_X6timeArc dX6_timeArc_187 ?_
    refine R_iadd F dX6_timeArc_190 ?_
    refine R_imul F dX6_timeArc_191 ?_
    refine R_sipush F 999 dX6_timeArc_192 (by decide) ?_
    refine R_iadd F dX6_timeArc_195 ?_
    refine R_sipush F 1000 dX6_timeArc_196 (by decide) ?_
    refine R_idiv F dX6_timeArc_199 (by decide) ?_
    refine R_iload F dX6_timeArc_200 0 rfl ?_
    refine R_iadd F dX6_timeArc_202 ?_
    have hi := hw.1
    replace hw := hw.2
    refine R_sti F qc_41 uc_41 dX6_timeArc_203 hi ?_
    refine R_aload_n F dX6_timeArc_204 rfl 1 rfl ?_
    refine gc_RX6_22_6 F in_X6timeArc dX6_timeArc_205 ?_
    refine R_iload_n F dX6_timeArc_208 rfl 2 rfl ?_
    refine R_iconst F 2 dX6_timeArc_209 (by decide) ?_
    refine R_imul F dX6_timeArc_210 ?_
    refine R_iload_n F dX6_timeArc_211 rfl 3 rfl ?_
    refine R_iadd F dX6_timeArc_212 ?_
    refine R_iload F dX6_timeArc_213 7 rfl ?_
    refine R_sipush F 1000 dX6_timeArc_215 (by decide) ?_
    refine R_aload_n F dX6_timeArc_218 rfl 1 rfl ?_
    refine gc_RX6_49_6 F in_X6timeArc dX6_timeArc_219 ?_
    refine gc_RX6_152_5 F in_X6timeArc dX6_timeArc_222 ?_
    refine R_isub F dX6_timeArc_225 ?_
    refine R_imul F dX6_timeArc_226 ?_
    refine R_sipush F 1000 dX6_timeArc_227 (by decide) ?_
    refine R_idiv F dX6_timeArc_230 (by decide) ?_
    refine R_iload F dX6_timeArc_231 0 rfl ?_
    refine R_iadd F dX6_timeArc_233 ?_
    have hi := hw.1
    replace hw := hw.2
    refine R_sti F qc_42 uc_42 dX6_timeArc_234 hi ?_
    refine R_iload F dX6_timeArc_235 4 rfl ?_
    refine R_iconst F 2 dX6_timeArc_237 (by decide) ?_
    refine R_imul F dX6_timeArc_238 ?_
    refine R_iload_n F dX6_timeArc_239 rfl 3 rfl ?_
    refine R_iadd F dX6_timeArc_240 ?_
    refine R_topi (fun x14 ex14 => ?_)
    replace hw := hw x14 ex14
    refine R_istore (lv' := [(16, .int x14), (15, .int k0), (0, .ref (B 6)), (1, .int l1), (2, .int l2), (6, .int l6), (11, .int l11), (12, .int l12), (13, .int l13), (14, .int l14)]) F dX6_timeArc_241 (by decide) rfl ?_
    refine R_aload_n F dX6_timeArc_243 rfl 2 rfl ?_
    refine gc_RX6_25_6 F in_X6timeArc dX6_timeArc_244 ?_
    refine R_iload F dX6_timeArc_247 0 rfl ?_
    refine R_aload_n F dX6_timeArc_249 rfl 2 rfl ?_
    refine gc_RX6_25_6 F in_X6timeArc dX6_timeArc_250 ?_
    refine R_iload F dX6_timeArc_253 0 rfl ?_
    refine R_ldi F qc_43 dX6_timeArc_255 hw.1 ?_
    replace hw := hw.2
    refine R_iload F dX6_timeArc_256 7 rfl ?_
    refine R_mmax F (List.mem_append_left _ (show Cond.methodLink RX6 155 Lib.Math.max.name ∈ wo_X6timeArc by decide +kernel)) (List.mem_append_left _ (show Cond.static Lib.Math.max.name ∈ wo_X6timeArc by decide +kernel)) (List.mem_append_left _ (show Cond.initialized "java/lang/Math" ∈ wo_X6timeArc by decide +kernel)) (List.mem_append_left _ (show Cond.code Lib.Math.max.name Lib.Math.max.code 2 (some .int) ∈ wo_X6timeArc by decide +kernel)) (Nat.le_of_ble_eq_true rfl) (Nat.le_of_ble_eq_true rfl) dX6_timeArc_258 ?_
    have hi := hw.1
    replace hw := hw.2
    refine R_sti F qc_43 uc_43 dX6_timeArc_261 hi ?_
    refine R_aload_n F dX6_timeArc_262 rfl 2 rfl ?_
    refine gc_RX6_28_6 F in_X6timeArc dX6_timeArc_263 ?_
    refine R_iload F dX6_timeArc_266 0 rfl ?_
    refine R_aload_n F dX6_timeArc_268 rfl 2 rfl ?_
    refine gc_RX6_28_6 F in_X6timeArc dX6_timeArc_269 ?_
    refine R_iload F dX6_timeArc_272 0 rfl ?_
    refine R_ldi F qc_44 dX6_timeArc_274 hw.1 ?_
    replace hw := hw.2
    refine R_iload F dX6_timeArc_275 9 rfl ?_
    refine R_mmin F (List.mem_append_left _ (show Cond.methodLink RX6 161 Lib.Math.min.name ∈ wo_X6timeArc by decide +kernel)) (List.mem_append_left _ (show Cond.static Lib.Math.min.name ∈ wo_X6timeArc by decide +kernel)) (List.mem_append_left _ (show Cond.initialized "java/lang/Math" ∈ wo_X6timeArc by decide +kernel)) (List.mem_append_left _ (show Cond.code Lib.Math.min.name Lib.Math.min.code 2 (some .int) ∈ wo_X6timeArc by decide +kernel)) (Nat.le_of_ble_eq_true rfl) (Nat.le_of_ble_eq_true rfl) dX6_timeArc_277 ?_
    have hi := hw.1
    replace hw := hw.2
    refine R_sti F qc_44 uc_44 dX6_timeArc_280 hi ?_
    refine R_iconst F 0 dX6_timeArc_281 (by decide) ?_
    exact R_iret (Qc := Q) F rfl dX6_timeArc_282 hw
  unfold wp_X6timeArc at hw
  refine R_iload_n F dX6_timeArc_0 rfl 1 rfl ?_
  refine R_iconst F 4 dX6_timeArc_1 (by decide) ?_
  refine R_idiv F dX6_timeArc_2 (by decide) ?_
  refine R_topi (fun x1 ex1 => ?_)
  replace hw := hw x1 ex1
  refine R_istore (lv' := [(6, .int x1), (0, .ref (B 6)), (1, .int p1), (2, .int p2), (3, .int p3), (4, .int p4), (5, .int p5)]) F dX6_timeArc_3 (by decide) rfl ?_
  refine R_aload_n F dX6_timeArc_5 rfl 1 rfl ?_
  refine gc_RX6_37_6 F in_X6timeArc dX6_timeArc_6 ?_
  refine gc_RX6_135_1 F in_X6timeArc dX6_timeArc_9 ?_
  refine R_iload F dX6_timeArc_12 0 rfl ?_
  refine R_ldi F qc_13 dX6_timeArc_14 hw.1 ?_
  replace hw := hw.2
  refine R_topi (fun x2 ex2 => ?_)
  replace hw := hw x2 ex2
  refine R_istore (lv' := [(7, .int x2), (6, .int x1), (0, .ref (B 6)), (1, .int p1), (2, .int p2), (3, .int p3), (4, .int p4), (5, .int p5)]) F dX6_timeArc_15 (by decide) rfl ?_
  refine R_iconst F 1 dX6_timeArc_17 (by decide) ?_
  refine R_aload_n F dX6_timeArc_18 rfl 2 rfl ?_
  refine gc_RX6_37_6 F in_X6timeArc dX6_timeArc_19 ?_
  refine gc_RX6_137_1 F in_X6timeArc dX6_timeArc_22 ?_
  refine R_iload F dX6_timeArc_25 1 rfl ?_
  refine R_ldi F qc_14 dX6_timeArc_27 hw.1 ?_
  replace hw := hw.2
  refine R_iadd F dX6_timeArc_28 ?_
  refine R_topi (fun x3 ex3 => ?_)
  replace hw := hw x3 ex3
  refine R_istore (lv' := [(8, .int x3), (7, .int x2), (6, .int x1), (0, .ref (B 6)), (1, .int p1), (2, .int p2), (3, .int p3), (4, .int p4), (5, .int p5)]) F dX6_timeArc_29 (by decide) rfl ?_
  refine R_iload_n F dX6_timeArc_31 rfl 6 rfl ?_
  refine R_iload F dX6_timeArc_32 0 rfl ?_
  refine R_iadd F dX6_timeArc_34 ?_
  refine R_iconst F 1 dX6_timeArc_35 (by decide) ?_
  refine R_isub F dX6_timeArc_36 ?_
  refine R_iload F dX6_timeArc_37 0 rfl ?_
  refine R_idiv F dX6_timeArc_39 hw.1 ?_
  replace hw := hw.2
  refine R_topi (fun x4 ex4 => ?_)
  replace hw := hw x4 ex4
  refine R_istore (lv' := [(9, .int x4), (8, .int x3), (7, .int x2), (6, .int x1), (0, .ref (B 6)), (1, .int p1), (2, .int p2), (3, .int p3), (4, .int p4), (5, .int p5)]) F dX6_timeArc_40 (by decide) rfl ?_
  refine R_iload_n F dX6_timeArc_42 rfl 7 rfl ?_
  refine R_iload F dX6_timeArc_43 1 rfl ?_
  refine R_idiv F dX6_timeArc_45 hw.1 ?_
  replace hw := hw.2
  refine R_topi (fun x5 ex5 => ?_)
  replace hw := hw x5 ex5
  refine R_istore (lv' := [(10, .int x5), (9, .int x4), (8, .int x3), (7, .int x2), (6, .int x1), (0, .ref (B 6)), (1, .int p1), (2, .int p2), (3, .int p3), (4, .int p4), (5, .int p5)]) F dX6_timeArc_46 (by decide) rfl ?_
  refine R_aload_n F dX6_timeArc_48 rfl 5 rfl ?_
  refine gc_RX6_49_6 F in_X6timeArc dX6_timeArc_49 ?_
  refine R_iload F dX6_timeArc_52 3 rfl ?_
  refine R_iconst F 0 dX6_timeArc_54 (by decide) ?_
  refine R_iload F dX6_timeArc_55 1 rfl ?_
  refine R_iload F dX6_timeArc_57 9 rfl ?_
  refine R_iconst F 1 dX6_timeArc_59 (by decide) ?_
  refine R_callI (As := [.int x2, .int 0, .int x4, .int p4, .int 1]) (C := RX5) (q0 := 5) (ci := 5) (N := 5) (T := TX5) (fs := cf_5 B) F (ct_X5lookUp l E B _ x2 0 x4 p4 1 _ hw) (cwV 5 F.2.2.2.2.2.2.2.2.2.2 g_X6timeArc_X5lookUp_140 rfl rfl rfl (by decide +kernel) ⟨Nat.le_of_ble_eq_true rfl, Nat.le_of_ble_eq_true rfl⟩) ⟨rfl, rfl⟩ rfl (fun _ => rfl) rfl rfl (Nat.le_of_ble_eq_true rfl) dX6_timeArc_60 (fun r6 σ7 hw => ?_)
  refine R_istore (lv' := [(11, .int r6), (10, .int x5), (9, .int x4), (8, .int x3), (7, .int x2), (6, .int x1), (0, .ref (B 6)), (1, .int p1), (2, .int p2), (3, .int p3), (4, .int p4), (5, .int p5)]) F dX6_timeArc_63 (by decide) rfl ?_
  refine R_iload F dX6_timeArc_65 0 rfl ?_
  refine R_if_ge (tgt := 73) F dX6_timeArc_67 (by decide) (fun hc => ?_) (fun hc => ?_)
  · replace hw := hw.1 hc
    refine R_aload_n F dX6_timeArc_73 rfl 6 rfl ?_
    refine gc_RX6_49_6 F in_X6timeArc dX6_timeArc_74 ?_
    refine R_iload F dX6_timeArc_77 4 rfl ?_
    refine R_iconst F 1 dX6_timeArc_79 (by decide) ?_
    refine R_iload F dX6_timeArc_80 2 rfl ?_
    refine R_iload F dX6_timeArc_82 10 rfl ?_
    refine R_iconst F 1 dX6_timeArc_84 (by decide) ?_
    refine R_callI (As := [.int x2, .int 1, .int x4, .int p4, .int 1]) (C := RX5) (q0 := 5) (ci := 5) (N := 5) (T := TX5) (fs := cf_5 B) F (ct_X5lookUp l E B _ x2 1 x4 p4 1 _ hw) (cwV 5 F.2.2.2.2.2.2.2.2.2.2 g_X6timeArc_X5lookUp_140 rfl rfl rfl (by decide +kernel) ⟨Nat.le_of_ble_eq_true rfl, Nat.le_of_ble_eq_true rfl⟩) ⟨rfl, rfl⟩ rfl (fun _ => rfl) rfl rfl (Nat.le_of_ble_eq_true rfl) dX6_timeArc_85 (fun r8 σ9 hw => ?_)
    refine R_istore (lv' := [(12, .int r8), (11, .int r6), (10, .int x5), (9, .int x4), (8, .int x3), (7, .int x2), (6, .int x1), (0, .ref (B 6)), (1, .int p1), (2, .int p2), (3, .int p3), (4, .int p4), (5, .int p5)]) F dX6_timeArc_88 (by decide) rfl ?_
    refine R_iload F dX6_timeArc_90 0 rfl ?_
    refine R_if_ge (tgt := 98) F dX6_timeArc_92 (by decide) (fun hc => ?_) (fun hc => ?_)
    · replace hw := hw.1 hc
      refine R_aload_n F dX6_timeArc_98 rfl 7 rfl ?_
      refine gc_RX6_49_6 F in_X6timeArc dX6_timeArc_99 ?_
      refine R_iload F dX6_timeArc_102 5 rfl ?_
      refine R_iconst F 0 dX6_timeArc_104 (by decide) ?_
      refine R_iload F dX6_timeArc_105 2 rfl ?_
      refine R_iload F dX6_timeArc_107 12 rfl ?_
      refine R_iconst F 0 dX6_timeArc_109 (by decide) ?_
      refine R_callI (As := [.int x2, .int 0, .int x5, .int p5, .int 0]) (C := RX5) (q0 := 5) (ci := 5) (N := 5) (T := TX5) (fs := cf_5 B) F (ct_X5lookUp l E B _ x2 0 x5 p5 0 _ hw) (cwV 5 F.2.2.2.2.2.2.2.2.2.2 g_X6timeArc_X5lookUp_140 rfl rfl rfl (by decide +kernel) ⟨Nat.le_of_ble_eq_true rfl, Nat.le_of_ble_eq_true rfl⟩) ⟨rfl, rfl⟩ rfl (fun _ => rfl) rfl rfl (Nat.le_of_ble_eq_true rfl) dX6_timeArc_110 (fun r10 σ11 hw => ?_)
      refine R_istore (lv' := [(13, .int r10), (12, .int r8), (11, .int r6), (10, .int x5), (9, .int x4), (8, .int x3), (7, .int x2), (6, .int x1), (0, .ref (B 6)), (1, .int p1), (2, .int p2), (3, .int p3), (4, .int p4), (5, .int p5)]) F dX6_timeArc_113 (by decide) rfl ?_
      refine R_iload F dX6_timeArc_115 0 rfl ?_
      refine R_if_ge (tgt := 123) F dX6_timeArc_117 (by decide) (fun hc => ?_) (fun hc => ?_)
      · replace hw := hw.1 hc
        refine R_aload_n F dX6_timeArc_123 rfl 8 rfl ?_
        refine gc_RX6_49_6 F in_X6timeArc dX6_timeArc_124 ?_
        refine R_iload F dX6_timeArc_127 6 rfl ?_
        refine R_iconst F 1 dX6_timeArc_129 (by decide) ?_
        refine R_iload F dX6_timeArc_130 3 rfl ?_
        refine R_iload F dX6_timeArc_132 13 rfl ?_
        refine R_iconst F 0 dX6_timeArc_134 (by decide) ?_
        refine R_callI (As := [.int x2, .int 1, .int x5, .int p5, .int 0]) (C := RX5) (q0 := 5) (ci := 5) (N := 5) (T := TX5) (fs := cf_5 B) F (ct_X5lookUp l E B _ x2 1 x5 p5 0 _ hw) (cwV 5 F.2.2.2.2.2.2.2.2.2.2 g_X6timeArc_X5lookUp_140 rfl rfl rfl (by decide +kernel) ⟨Nat.le_of_ble_eq_true rfl, Nat.le_of_ble_eq_true rfl⟩) ⟨rfl, rfl⟩ rfl (fun _ => rfl) rfl rfl (Nat.le_of_ble_eq_true rfl) dX6_timeArc_135 (fun r12 σ13 hw => ?_)
        refine R_istore (lv' := [(14, .int r12), (13, .int r10), (12, .int r8), (11, .int r6), (10, .int x5), (9, .int x4), (8, .int x3), (7, .int x2), (6, .int x1), (0, .ref (B 6)), (1, .int p1), (2, .int p2), (3, .int p3), (4, .int p4), (5, .int p5)]) F dX6_timeArc_138 (by decide) rfl ?_
        refine R_iload F dX6_timeArc_140 0 rfl ?_
        refine R_if_ge (tgt := 148) F dX6_timeArc_142 (by decide) (fun hc => ?_) (fun hc => ?_)
        · replace hw := hw.1 hc
          refine R_iload_n F dX6_timeArc_148 rfl 11 rfl ?_
          refine R_iconst F 1 dX6_timeArc_149 (by decide) ?_
          refine R_icmp_ne (tgt := 166) F dX6_timeArc_150 (by decide) (fun hc => ?_) (fun hc => ?_)
          · replace hw := hw.1 hc
            refine R_iconst F 0 dX6_timeArc_166 (by decide) ?_
            exact R_sub [9, 10, 11, 8, 3, 2, 1, 0] rfl (J_167 p1 p2 x1 r6 r8 r10 r12 0 σ13 hw)
          · replace hw := hw.2 hc
            refine R_aload_n F dX6_timeArc_153 rfl 9 rfl ?_
            refine gc_RX6_49_6 F in_X6timeArc dX6_timeArc_154 ?_
            refine gc_RX6_146_5 F in_X6timeArc dX6_timeArc_157 ?_
            refine R_iload F dX6_timeArc_160 7 rfl ?_
            refine R_ldi F qc_38 dX6_timeArc_162 hw.1 ?_
            replace hw := hw.2
            refine R_goto (tgt := 167) F dX6_timeArc_163 (by decide) ?_
            exact R_sub [9, 10, 11, 8, 3, 2, 1, 0] rfl (J_167 p1 p2 x1 r6 r8 r10 r12 (rd σ13 38 x2) σ13 hw)
        · replace hw := hw.2 hc
          refine R_iload F dX6_timeArc_145 0 rfl ?_
          exact R_iret (Qc := Q) F rfl dX6_timeArc_147 hw
      · replace hw := hw.2 hc
        refine R_iload F dX6_timeArc_120 0 rfl ?_
        exact R_iret (Qc := Q) F rfl dX6_timeArc_122 hw
    · replace hw := hw.2 hc
      refine R_iload F dX6_timeArc_95 0 rfl ?_
      exact R_iret (Qc := Q) F rfl dX6_timeArc_97 hw
  · replace hw := hw.2 hc
    refine R_iload F dX6_timeArc_70 0 rfl ?_
    exact R_iret (Qc := Q) F rfl dX6_timeArc_72 hw
def wp_X6arrive (Q : VS → Prop) (p1 : Int32) (p2 : Int32) (p3 : Int32) (p4 : Int32) (σ : VS) : Prop := (∀ x1 : Int32, x1 = (((p1 / 4) * 2) + p2) → (In x1 100 ∧ (In ((p1 * 2) + p2) 400 ∧ (In x1 100 ∧ (In x1 100 ∧ (In ((p1 * 2) + p2) 400 ∧ (In x1 100 ∧ Q (sa (sa σ 45 x1 (imax (rd σ 45 x1) (p3 + (rd σ 41 ((p1 * 2) + p2))))) 46 x1 (imin (rd (sa σ 45 x1 (imax (rd σ 45 x1) (p3 + (rd σ 41 ((p1 * 2) + p2))))) 46 x1) (p4 + (rd (sa σ 45 x1 (imax (rd σ 45 x1) (p3 + (rd σ 41 ((p1 * 2) + p2))))) 42 ((p1 * 2) + p2))))))))))))
theorem dX6_arrive_0 : decode cX6_arrive 0 = .ok (.iload_n 1, 1) := by decide +kernel
theorem dX6_arrive_1 : decode cX6_arrive 1 = .ok (.iconst 4, 1) := by decide +kernel
theorem dX6_arrive_2 : decode cX6_arrive 2 = .ok (.idiv, 1) := by decide +kernel
theorem dX6_arrive_3 : decode cX6_arrive 3 = .ok (.iconst 2, 1) := by decide +kernel
theorem dX6_arrive_4 : decode cX6_arrive 4 = .ok (.imul, 1) := by decide +kernel
theorem dX6_arrive_5 : decode cX6_arrive 5 = .ok (.iload_n 2, 1) := by decide +kernel
theorem dX6_arrive_6 : decode cX6_arrive 6 = .ok (.iadd, 1) := by decide +kernel
theorem dX6_arrive_7 : decode cX6_arrive 7 = .ok (.istore 5, 2) := by decide +kernel
theorem dX6_arrive_9 : decode cX6_arrive 9 = .ok (.aload_n 0, 1) := by decide +kernel
theorem dX6_arrive_10 : decode cX6_arrive 10 = .ok (.getfield 31, 3) := by decide +kernel
theorem dX6_arrive_13 : decode cX6_arrive 13 = .ok (.iload 5, 2) := by decide +kernel
theorem dX6_arrive_15 : decode cX6_arrive 15 = .ok (.aload_n 0, 1) := by decide +kernel
theorem dX6_arrive_16 : decode cX6_arrive 16 = .ok (.getfield 31, 3) := by decide +kernel
theorem dX6_arrive_19 : decode cX6_arrive 19 = .ok (.iload 5, 2) := by decide +kernel
theorem dX6_arrive_21 : decode cX6_arrive 21 = .ok (.iaload, 1) := by decide +kernel
theorem dX6_arrive_22 : decode cX6_arrive 22 = .ok (.iload_n 3, 1) := by decide +kernel
theorem dX6_arrive_23 : decode cX6_arrive 23 = .ok (.aload_n 0, 1) := by decide +kernel
theorem dX6_arrive_24 : decode cX6_arrive 24 = .ok (.getfield 19, 3) := by decide +kernel
theorem dX6_arrive_27 : decode cX6_arrive 27 = .ok (.iload_n 1, 1) := by decide +kernel
theorem dX6_arrive_28 : decode cX6_arrive 28 = .ok (.iconst 2, 1) := by decide +kernel
theorem dX6_arrive_29 : decode cX6_arrive 29 = .ok (.imul, 1) := by decide +kernel
theorem dX6_arrive_30 : decode cX6_arrive 30 = .ok (.iload_n 2, 1) := by decide +kernel
theorem dX6_arrive_31 : decode cX6_arrive 31 = .ok (.iadd, 1) := by decide +kernel
theorem dX6_arrive_32 : decode cX6_arrive 32 = .ok (.iaload, 1) := by decide +kernel
theorem dX6_arrive_33 : decode cX6_arrive 33 = .ok (.iadd, 1) := by decide +kernel
theorem dX6_arrive_34 : decode cX6_arrive 34 = .ok (.invokestatic 155, 3) := by decide +kernel
theorem dX6_arrive_37 : decode cX6_arrive 37 = .ok (.iastore, 1) := by decide +kernel
theorem dX6_arrive_38 : decode cX6_arrive 38 = .ok (.aload_n 0, 1) := by decide +kernel
theorem dX6_arrive_39 : decode cX6_arrive 39 = .ok (.getfield 34, 3) := by decide +kernel
theorem dX6_arrive_42 : decode cX6_arrive 42 = .ok (.iload 5, 2) := by decide +kernel
theorem dX6_arrive_44 : decode cX6_arrive 44 = .ok (.aload_n 0, 1) := by decide +kernel
theorem dX6_arrive_45 : decode cX6_arrive 45 = .ok (.getfield 34, 3) := by decide +kernel
theorem dX6_arrive_48 : decode cX6_arrive 48 = .ok (.iload 5, 2) := by decide +kernel
theorem dX6_arrive_50 : decode cX6_arrive 50 = .ok (.iaload, 1) := by decide +kernel
theorem dX6_arrive_51 : decode cX6_arrive 51 = .ok (.iload 4, 2) := by decide +kernel
theorem dX6_arrive_53 : decode cX6_arrive 53 = .ok (.aload_n 0, 1) := by decide +kernel
theorem dX6_arrive_54 : decode cX6_arrive 54 = .ok (.getfield 22, 3) := by decide +kernel
theorem dX6_arrive_57 : decode cX6_arrive 57 = .ok (.iload_n 1, 1) := by decide +kernel
theorem dX6_arrive_58 : decode cX6_arrive 58 = .ok (.iconst 2, 1) := by decide +kernel
theorem dX6_arrive_59 : decode cX6_arrive 59 = .ok (.imul, 1) := by decide +kernel
theorem dX6_arrive_60 : decode cX6_arrive 60 = .ok (.iload_n 2, 1) := by decide +kernel
theorem dX6_arrive_61 : decode cX6_arrive 61 = .ok (.iadd, 1) := by decide +kernel
theorem dX6_arrive_62 : decode cX6_arrive 62 = .ok (.iaload, 1) := by decide +kernel
theorem dX6_arrive_63 : decode cX6_arrive 63 = .ok (.iadd, 1) := by decide +kernel
theorem dX6_arrive_64 : decode cX6_arrive 64 = .ok (.invokestatic 161, 3) := by decide +kernel
theorem dX6_arrive_67 : decode cX6_arrive 67 = .ok (.iastore, 1) := by decide +kernel
theorem dX6_arrive_68 : decode cX6_arrive 68 = .ok (.return_, 1) := by decide +kernel
def wo_X6arrive : List Cond := [.code yX6_arrive cX6_arrive 6 none, .methodLink RX6 155 Lib.Math.max.name, .static Lib.Math.max.name, .initialized "java/lang/Math", .code Lib.Math.max.name Lib.Math.max.code 2 (some .int), .methodLink RX6 161 Lib.Math.min.name, .static Lib.Math.min.name, .code Lib.Math.min.name Lib.Math.min.code 2 (some .int)]
def wr_X6arrive : List Cond := (wfC ++ ([]))
def w_X6arrive : List Cond := wo_X6arrive ++ wr_X6arrive
theorem wg_X6arrive : GW w_X6arrive := GW_app (GW_of (by decide +kernel)) (GW_app (wg_fC) (GW_nil))
theorem in_X6arrive : ∀ w ∈ wfC, w ∈ w_X6arrive := fun _ h => List.mem_append_right _ (List.mem_append_left _ h)
set_option maxHeartbeats 4000000 in
set_option maxRecDepth 100000 in
theorem ct_X6arrive (l : Launch) (E : gE) (B : Nat → Nat) (Q : VS → Prop) (p1 : Int32) (p2 : Int32) (p3 : Int32) (p4 : Int32) (σ : VS) (hw : wp_X6arrive Q p1 p2 p3 p4 σ) : CtV l E yX6_arrive w_X6arrive (({ frames := 1, cells := 0, slots := 0, locals := 21 } : Room)) (wc E B σ) [.ref (B 6), .int p1, .int p2, .int p3, .int p4] (fun w => ∃ σ' : VS, Q σ' ∧ w = wc E B σ') := by
  refine VC_V (cc := cX6_arrive) (mL := 6) (rt := none) (lv0 := [(0, .ref (B 6)), (1, .int p1), (2, .int p2), (3, .int p3), (4, .int p4)]) rfl (by decide) rfl (Nat.le_of_ble_eq_true rfl) ?_
  intro p e s m below meth c A F
  replace F : Fx p s m _ meth c A E cX6_arrive 6 none RX6 w_X6arrive := F
  unfold wp_X6arrive at hw
  refine R_iload_n F dX6_arrive_0 rfl 1 rfl ?_
  refine R_iconst F 4 dX6_arrive_1 (by decide) ?_
  refine R_idiv F dX6_arrive_2 (by decide) ?_
  refine R_iconst F 2 dX6_arrive_3 (by decide) ?_
  refine R_imul F dX6_arrive_4 ?_
  refine R_iload_n F dX6_arrive_5 rfl 2 rfl ?_
  refine R_iadd F dX6_arrive_6 ?_
  refine R_topi (fun x1 ex1 => ?_)
  replace hw := hw x1 ex1
  refine R_istore (lv' := [(5, .int x1), (0, .ref (B 6)), (1, .int p1), (2, .int p2), (3, .int p3), (4, .int p4)]) F dX6_arrive_7 (by decide) rfl ?_
  refine R_aload_n F dX6_arrive_9 rfl 1 rfl ?_
  refine gc_RX6_31_6 F in_X6arrive dX6_arrive_10 ?_
  refine R_iload F dX6_arrive_13 0 rfl ?_
  refine R_aload_n F dX6_arrive_15 rfl 1 rfl ?_
  refine gc_RX6_31_6 F in_X6arrive dX6_arrive_16 ?_
  refine R_iload F dX6_arrive_19 0 rfl ?_
  refine R_ldi F qc_45 dX6_arrive_21 hw.1 ?_
  replace hw := hw.2
  refine R_iload_n F dX6_arrive_22 rfl 4 rfl ?_
  refine R_aload_n F dX6_arrive_23 rfl 1 rfl ?_
  refine gc_RX6_19_6 F in_X6arrive dX6_arrive_24 ?_
  refine R_iload_n F dX6_arrive_27 rfl 2 rfl ?_
  refine R_iconst F 2 dX6_arrive_28 (by decide) ?_
  refine R_imul F dX6_arrive_29 ?_
  refine R_iload_n F dX6_arrive_30 rfl 3 rfl ?_
  refine R_iadd F dX6_arrive_31 ?_
  refine R_ldi F qc_41 dX6_arrive_32 hw.1 ?_
  replace hw := hw.2
  refine R_iadd F dX6_arrive_33 ?_
  refine R_mmax F (List.mem_append_left _ (show Cond.methodLink RX6 155 Lib.Math.max.name ∈ wo_X6arrive by decide +kernel)) (List.mem_append_left _ (show Cond.static Lib.Math.max.name ∈ wo_X6arrive by decide +kernel)) (List.mem_append_left _ (show Cond.initialized "java/lang/Math" ∈ wo_X6arrive by decide +kernel)) (List.mem_append_left _ (show Cond.code Lib.Math.max.name Lib.Math.max.code 2 (some .int) ∈ wo_X6arrive by decide +kernel)) (Nat.le_of_ble_eq_true rfl) (Nat.le_of_ble_eq_true rfl) dX6_arrive_34 ?_
  have hi := hw.1
  replace hw := hw.2
  refine R_sti F qc_45 uc_45 dX6_arrive_37 hi ?_
  refine R_aload_n F dX6_arrive_38 rfl 1 rfl ?_
  refine gc_RX6_34_6 F in_X6arrive dX6_arrive_39 ?_
  refine R_iload F dX6_arrive_42 0 rfl ?_
  refine R_aload_n F dX6_arrive_44 rfl 1 rfl ?_
  refine gc_RX6_34_6 F in_X6arrive dX6_arrive_45 ?_
  refine R_iload F dX6_arrive_48 0 rfl ?_
  refine R_ldi F qc_46 dX6_arrive_50 hw.1 ?_
  replace hw := hw.2
  refine R_iload F dX6_arrive_51 5 rfl ?_
  refine R_aload_n F dX6_arrive_53 rfl 1 rfl ?_
  refine gc_RX6_22_6 F in_X6arrive dX6_arrive_54 ?_
  refine R_iload_n F dX6_arrive_57 rfl 2 rfl ?_
  refine R_iconst F 2 dX6_arrive_58 (by decide) ?_
  refine R_imul F dX6_arrive_59 ?_
  refine R_iload_n F dX6_arrive_60 rfl 3 rfl ?_
  refine R_iadd F dX6_arrive_61 ?_
  refine R_ldi F qc_42 dX6_arrive_62 hw.1 ?_
  replace hw := hw.2
  refine R_iadd F dX6_arrive_63 ?_
  refine R_mmin F (List.mem_append_left _ (show Cond.methodLink RX6 161 Lib.Math.min.name ∈ wo_X6arrive by decide +kernel)) (List.mem_append_left _ (show Cond.static Lib.Math.min.name ∈ wo_X6arrive by decide +kernel)) (List.mem_append_left _ (show Cond.initialized "java/lang/Math" ∈ wo_X6arrive by decide +kernel)) (List.mem_append_left _ (show Cond.code Lib.Math.min.name Lib.Math.min.code 2 (some .int) ∈ wo_X6arrive by decide +kernel)) (Nat.le_of_ble_eq_true rfl) (Nat.le_of_ble_eq_true rfl) dX6_arrive_64 ?_
  have hi := hw.1
  replace hw := hw.2
  refine R_sti F qc_46 uc_46 dX6_arrive_67 hi ?_
  exact R_vret (Qc := Q) F dX6_arrive_68 hw
def b_X6timeFlop_108 (X27 : Int32 → Int32 → Int32 → Int32 → Int32 → VS → Prop) (Q : VS → Prop) (σ : VS) : Prop := Q σ
def b_X6timeFlop_102 (X27 : Int32 → Int32 → Int32 → Int32 → Int32 → VS → Prop) (Q : VS → Prop) (l1 : Int32) (l2 : Int32) (l3 : Int32) (l4 : Int32) (l5 : Int32) (σ : VS) : Prop := X27 l1 l2 l3 l4 (l5 + 1) σ
def b_X6timeFlop_27 (X27 : Int32 → Int32 → Int32 → Int32 → Int32 → VS → Prop) (Q : VS → Prop) (l1 : Int32) (l2 : Int32) (l3 : Int32) (l4 : Int32) (l5 : Int32) (σ : VS) : Prop := ((2 ≤ l5.toInt → b_X6timeFlop_108 X27 Q σ) ∧ (l5.toInt < 2 → (In l1 50 ∧ (((rd σ 40 l1).toInt ≠ 0 → b_X6timeFlop_108 X27 Q σ) ∧ ((rd σ 40 l1).toInt = 0 → wp_X6clearPlace (fun (σ6 : VS) => wp_X6timeArc (fun (r7 : Int32) (σ8 : VS) => (In l1 50 ∧ (In l1 50 ∧ (((rd (sa σ8 40 l1 r7) 40 l1).toInt ≠ 0 → b_X6timeFlop_102 X27 Q l1 l2 l3 l4 l5 (sa σ8 40 l1 r7)) ∧ ((rd (sa σ8 40 l1 r7) 40 l1).toInt = 0 → wp_X0lateOf (fun (r9 : Int32) (σ10 : VS) => wp_X0earlyOf (fun (r11 : Int32) (σ12 : VS) => wp_X6arrive (fun (σ14 : VS) => b_X6timeFlop_102 X27 Q l1 l2 l3 l4 l5 σ14) l2 l5 r9 r11 σ12) l4 σ10) l4 (sa σ8 40 l1 r7)))))) l2 l5 l3 0 0 σ6) ((l1 * 2) + l5) σ)))))
def wp_X6timeFlop (Q : VS → Prop) (p1 : Int32) (σ : VS) : Prop := ∀ (X27 : Int32 → Int32 → Int32 → Int32 → Int32 → VS → Prop), (∀ (l1 : Int32) (l2 : Int32) (l3 : Int32) (l4 : Int32) (l5 : Int32) (σ : VS), b_X6timeFlop_27 X27 Q l1 l2 l3 l4 l5 σ → X27 l1 l2 l3 l4 l5 σ) → (∀ x1 : Int32, x1 = (p1 * 4) → wp_X1loadOf (fun (r2 : Int32) (σ3 : VS) => (In p1 50 ∧ (∀ x4 : Int32, x4 = (rd σ3 25 p1) → X27 p1 x1 r2 x4 0 σ3))) p1 σ)
theorem dX6_timeFlop_0 : decode cX6_timeFlop 0 = .ok (.iload_n 1, 1) := by decide +kernel
theorem dX6_timeFlop_1 : decode cX6_timeFlop 1 = .ok (.iconst 4, 1) := by decide +kernel
theorem dX6_timeFlop_2 : decode cX6_timeFlop 2 = .ok (.imul, 1) := by decide +kernel
theorem dX6_timeFlop_3 : decode cX6_timeFlop 3 = .ok (.istore_n 2, 1) := by decide +kernel
theorem dX6_timeFlop_4 : decode cX6_timeFlop 4 = .ok (.aload_n 0, 1) := by decide +kernel
theorem dX6_timeFlop_5 : decode cX6_timeFlop 5 = .ok (.getfield 37, 3) := by decide +kernel
theorem dX6_timeFlop_8 : decode cX6_timeFlop 8 = .ok (.iload_n 1, 1) := by decide +kernel
theorem dX6_timeFlop_9 : decode cX6_timeFlop 9 = .ok (.invokevirtual 102, 3) := by decide +kernel
theorem dX6_timeFlop_12 : decode cX6_timeFlop 12 = .ok (.istore_n 3, 1) := by decide +kernel
theorem dX6_timeFlop_13 : decode cX6_timeFlop 13 = .ok (.aload_n 0, 1) := by decide +kernel
theorem dX6_timeFlop_14 : decode cX6_timeFlop 14 = .ok (.getfield 41, 3) := by decide +kernel
theorem dX6_timeFlop_17 : decode cX6_timeFlop 17 = .ok (.getfield 106, 3) := by decide +kernel
theorem dX6_timeFlop_20 : decode cX6_timeFlop 20 = .ok (.iload_n 1, 1) := by decide +kernel
theorem dX6_timeFlop_21 : decode cX6_timeFlop 21 = .ok (.iaload, 1) := by decide +kernel
theorem dX6_timeFlop_22 : decode cX6_timeFlop 22 = .ok (.istore 4, 2) := by decide +kernel
theorem dX6_timeFlop_24 : decode cX6_timeFlop 24 = .ok (.iconst 0, 1) := by decide +kernel
theorem dX6_timeFlop_25 : decode cX6_timeFlop 25 = .ok (.istore 5, 2) := by decide +kernel
theorem dX6_timeFlop_27 : decode cX6_timeFlop 27 = .ok (.iload 5, 2) := by decide +kernel
theorem dX6_timeFlop_29 : decode cX6_timeFlop 29 = .ok (.iconst 2, 1) := by decide +kernel
theorem dX6_timeFlop_30 : decode cX6_timeFlop 30 = .ok (.if_icmp .ge 78, 3) := by decide +kernel
theorem dX6_timeFlop_33 : decode cX6_timeFlop 33 = .ok (.aload_n 0, 1) := by decide +kernel
theorem dX6_timeFlop_34 : decode cX6_timeFlop 34 = .ok (.getfield 15, 3) := by decide +kernel
theorem dX6_timeFlop_37 : decode cX6_timeFlop 37 = .ok (.iload_n 1, 1) := by decide +kernel
theorem dX6_timeFlop_38 : decode cX6_timeFlop 38 = .ok (.iaload, 1) := by decide +kernel
theorem dX6_timeFlop_39 : decode cX6_timeFlop 39 = .ok (.ifCond .ne 69, 3) := by decide +kernel
theorem dX6_timeFlop_42 : decode cX6_timeFlop 42 = .ok (.aload_n 0, 1) := by decide +kernel
theorem dX6_timeFlop_43 : decode cX6_timeFlop 43 = .ok (.iload_n 1, 1) := by decide +kernel
theorem dX6_timeFlop_44 : decode cX6_timeFlop 44 = .ok (.iconst 2, 1) := by decide +kernel
theorem dX6_timeFlop_45 : decode cX6_timeFlop 45 = .ok (.imul, 1) := by decide +kernel
theorem dX6_timeFlop_46 : decode cX6_timeFlop 46 = .ok (.iload 5, 2) := by decide +kernel
theorem dX6_timeFlop_48 : decode cX6_timeFlop 48 = .ok (.iadd, 1) := by decide +kernel
theorem dX6_timeFlop_49 : decode cX6_timeFlop 49 = .ok (.invokevirtual 109, 3) := by decide +kernel
theorem dX6_timeFlop_52 : decode cX6_timeFlop 52 = .ok (.aload_n 0, 1) := by decide +kernel
theorem dX6_timeFlop_53 : decode cX6_timeFlop 53 = .ok (.getfield 15, 3) := by decide +kernel
theorem dX6_timeFlop_56 : decode cX6_timeFlop 56 = .ok (.iload_n 1, 1) := by decide +kernel
theorem dX6_timeFlop_57 : decode cX6_timeFlop 57 = .ok (.aload_n 0, 1) := by decide +kernel
theorem dX6_timeFlop_58 : decode cX6_timeFlop 58 = .ok (.iload_n 2, 1) := by decide +kernel
theorem dX6_timeFlop_59 : decode cX6_timeFlop 59 = .ok (.iload 5, 2) := by decide +kernel
theorem dX6_timeFlop_61 : decode cX6_timeFlop 61 = .ok (.iload_n 3, 1) := by decide +kernel
theorem dX6_timeFlop_62 : decode cX6_timeFlop 62 = .ok (.iconst 0, 1) := by decide +kernel
theorem dX6_timeFlop_63 : decode cX6_timeFlop 63 = .ok (.iconst 0, 1) := by decide +kernel
theorem dX6_timeFlop_64 : decode cX6_timeFlop 64 = .ok (.invokevirtual 112, 3) := by decide +kernel
theorem dX6_timeFlop_67 : decode cX6_timeFlop 67 = .ok (.iastore, 1) := by decide +kernel
theorem dX6_timeFlop_68 : decode cX6_timeFlop 68 = .ok (.aload_n 0, 1) := by decide +kernel
theorem dX6_timeFlop_69 : decode cX6_timeFlop 69 = .ok (.getfield 15, 3) := by decide +kernel
theorem dX6_timeFlop_72 : decode cX6_timeFlop 72 = .ok (.iload_n 1, 1) := by decide +kernel
theorem dX6_timeFlop_73 : decode cX6_timeFlop 73 = .ok (.iaload, 1) := by decide +kernel
theorem dX6_timeFlop_74 : decode cX6_timeFlop 74 = .ok (.ifCond .ne 28, 3) := by decide +kernel
theorem dX6_timeFlop_77 : decode cX6_timeFlop 77 = .ok (.aload_n 0, 1) := by decide +kernel
theorem dX6_timeFlop_78 : decode cX6_timeFlop 78 = .ok (.iload_n 2, 1) := by decide +kernel
theorem dX6_timeFlop_79 : decode cX6_timeFlop 79 = .ok (.iload 5, 2) := by decide +kernel
theorem dX6_timeFlop_81 : decode cX6_timeFlop 81 = .ok (.aload_n 0, 1) := by decide +kernel
theorem dX6_timeFlop_82 : decode cX6_timeFlop 82 = .ok (.getfield 45, 3) := by decide +kernel
theorem dX6_timeFlop_85 : decode cX6_timeFlop 85 = .ok (.iload 4, 2) := by decide +kernel
theorem dX6_timeFlop_87 : decode cX6_timeFlop 87 = .ok (.invokevirtual 116, 3) := by decide +kernel
theorem dX6_timeFlop_90 : decode cX6_timeFlop 90 = .ok (.aload_n 0, 1) := by decide +kernel
theorem dX6_timeFlop_91 : decode cX6_timeFlop 91 = .ok (.getfield 45, 3) := by decide +kernel
theorem dX6_timeFlop_94 : decode cX6_timeFlop 94 = .ok (.iload 4, 2) := by decide +kernel
theorem dX6_timeFlop_96 : decode cX6_timeFlop 96 = .ok (.invokevirtual 121, 3) := by decide +kernel
theorem dX6_timeFlop_99 : decode cX6_timeFlop 99 = .ok (.invokevirtual 124, 3) := by decide +kernel
theorem dX6_timeFlop_108 : decode cX6_timeFlop 108 = .ok (.return_, 1) := by decide +kernel
theorem dX6_timeFlop_102 : decode cX6_timeFlop 102 = .ok (.iinc 5 1, 3) := by decide +kernel
theorem dX6_timeFlop_105 : decode cX6_timeFlop 105 = .ok (.goto (-78), 3) := by decide +kernel
def wo_X6timeFlop : List Cond := [.code yX6_timeFlop cX6_timeFlop 6 none, .methodLink RX6 102 yX1_loadOf, .instanceMethod yX1_loadOf, .selects RX1 yX1_loadOf yX1_loadOf, .initialized RX1, .methodLink RX6 109 yX6_clearPlace, .instanceMethod yX6_clearPlace, .selects RX6 yX6_clearPlace yX6_clearPlace, .initialized RX6, .methodLink RX6 112 yX6_timeArc, .instanceMethod yX6_timeArc, .selects RX6 yX6_timeArc yX6_timeArc, .methodLink RX6 116 yX0_lateOf, .instanceMethod yX0_lateOf, .selects RX0 yX0_lateOf yX0_lateOf, .initialized RX0, .methodLink RX6 121 yX0_earlyOf, .instanceMethod yX0_earlyOf, .selects RX0 yX0_earlyOf yX0_earlyOf, .methodLink RX6 124 yX6_arrive, .instanceMethod yX6_arrive, .selects RX6 yX6_arrive yX6_arrive]
def wr_X6timeFlop : List Cond := (wfC ++ (w_X1loadOf ++ (w_X6clearPlace ++ (w_X6timeArc ++ (w_X0lateOf ++ (w_X0earlyOf ++ (w_X6arrive ++ ([]))))))))
def w_X6timeFlop : List Cond := wo_X6timeFlop ++ wr_X6timeFlop
theorem wg_X6timeFlop : GW w_X6timeFlop := GW_app (GW_of (by decide +kernel)) (GW_app (wg_fC) (GW_app (wg_X1loadOf) (GW_app (wg_X6clearPlace) (GW_app (wg_X6timeArc) (GW_app (wg_X0lateOf) (GW_app (wg_X0earlyOf) (GW_app (wg_X6arrive) (GW_nil))))))))
theorem in_X6timeFlop : ∀ w ∈ wfC, w ∈ w_X6timeFlop := fun _ h => List.mem_append_right _ (List.mem_append_left _ h)
theorem g_X6timeFlop_X1loadOf_102 : GoodIn w_X6timeFlop (wsV RX6 102 RX1 yX1_loadOf w_X1loadOf) := goodIn_app (gi_left (goodIn_of _ (by decide +kernel))) (fun w h => ⟨List.mem_append_right _ (List.mem_append_right _ (List.mem_append_left _ h)), wg_X1loadOf w h⟩)
theorem g_X6timeFlop_X6clearPlace_109 : GoodIn w_X6timeFlop (wsV RX6 109 RX6 yX6_clearPlace w_X6clearPlace) := goodIn_app (gi_left (goodIn_of _ (by decide +kernel))) (fun w h => ⟨List.mem_append_right _ (List.mem_append_right _ (List.mem_append_right _ (List.mem_append_left _ h))), wg_X6clearPlace w h⟩)
theorem g_X6timeFlop_X6timeArc_112 : GoodIn w_X6timeFlop (wsV RX6 112 RX6 yX6_timeArc w_X6timeArc) := goodIn_app (gi_left (goodIn_of _ (by decide +kernel))) (fun w h => ⟨List.mem_append_right _ (List.mem_append_right _ (List.mem_append_right _ (List.mem_append_right _ (List.mem_append_left _ h)))), wg_X6timeArc w h⟩)
theorem g_X6timeFlop_X0lateOf_116 : GoodIn w_X6timeFlop (wsV RX6 116 RX0 yX0_lateOf w_X0lateOf) := goodIn_app (gi_left (goodIn_of _ (by decide +kernel))) (fun w h => ⟨List.mem_append_right _ (List.mem_append_right _ (List.mem_append_right _ (List.mem_append_right _ (List.mem_append_right _ (List.mem_append_left _ h))))), wg_X0lateOf w h⟩)
theorem g_X6timeFlop_X0earlyOf_121 : GoodIn w_X6timeFlop (wsV RX6 121 RX0 yX0_earlyOf w_X0earlyOf) := goodIn_app (gi_left (goodIn_of _ (by decide +kernel))) (fun w h => ⟨List.mem_append_right _ (List.mem_append_right _ (List.mem_append_right _ (List.mem_append_right _ (List.mem_append_right _ (List.mem_append_right _ (List.mem_append_left _ h)))))), wg_X0earlyOf w h⟩)
theorem g_X6timeFlop_X6arrive_124 : GoodIn w_X6timeFlop (wsV RX6 124 RX6 yX6_arrive w_X6arrive) := goodIn_app (gi_left (goodIn_of _ (by decide +kernel))) (fun w h => ⟨List.mem_append_right _ (List.mem_append_right _ (List.mem_append_right _ (List.mem_append_right _ (List.mem_append_right _ (List.mem_append_right _ (List.mem_append_right _ (List.mem_append_left _ h))))))), wg_X6arrive w h⟩)
set_option maxHeartbeats 4000000 in
set_option maxRecDepth 100000 in
theorem ct_X6timeFlop (l : Launch) (E : gE) (B : Nat → Nat) (Q : VS → Prop) (p1 : Int32) (σ : VS) (hw : wp_X6timeFlop Q p1 σ) : CtV l E yX6_timeFlop w_X6timeFlop (({ frames := 3, cells := 0, slots := 0, locals := 100 } : Room)) (wc E B σ) [.ref (B 6), .int p1] (fun w => ∃ σ' : VS, Q σ' ∧ w = wc E B σ') := by
  refine VC_V (cc := cX6_timeFlop) (mL := 6) (rt := none) (lv0 := [(0, .ref (B 6)), (1, .int p1)]) rfl (by decide) rfl (Nat.le_of_ble_eq_true rfl) ?_
  intro p e s m below meth c A F
  replace F : Fx p s m _ meth c A E cX6_timeFlop 6 none RX6 w_X6timeFlop := F
  obtain ⟨X27, hX27⟩ : ∃ X : Int32 → Int32 → Int32 → Int32 → Int32 → VS → Prop, X = fun l1 l2 l3 l4 l5 σ => WB p l e (({ frames := 3, cells := 0, slots := 0, locals := 100 } : Room)) s m (#[.ref (B 6), .int p1]) below meth c (MQ below (va_Qv (fun w => ∃ σ' : VS, Q σ' ∧ w = wc E B σ') (AftU E A) A) (#[.ref (B 6), .int p1]) s (({ frames := 3, cells := 0, slots := 0, locals := 100 } : Room)).cells (({ frames := 3, cells := 0, slots := 0, locals := 100 } : Room)).slots A) A E (wc E B) 6 27 [(0, .ref (B 6)), (1, .int l1), (2, .int l2), (3, .int l3), (4, .int l4), (5, .int l5)] [] σ := ⟨_, rfl⟩
  have U_27 : ∀ (l1 : Int32) (l2 : Int32) (l3 : Int32) (l4 : Int32) (l5 : Int32) (σ : VS), X27 l1 l2 l3 l4 l5 σ → WB p l e (({ frames := 3, cells := 0, slots := 0, locals := 100 } : Room)) s m (#[.ref (B 6), .int p1]) below meth c (MQ below (va_Qv (fun w => ∃ σ' : VS, Q σ' ∧ w = wc E B σ') (AftU E A) A) (#[.ref (B 6), .int p1]) s (({ frames := 3, cells := 0, slots := 0, locals := 100 } : Room)).cells (({ frames := 3, cells := 0, slots := 0, locals := 100 } : Room)).slots A) A E (wc E B) 6 27 [(0, .ref (B 6)), (1, .int l1), (2, .int l2), (3, .int l3), (4, .int l4), (5, .int l5)] [] σ := by
    intro l1 l2 l3 l4 l5 σ hw; rw [hX27] at hw; exact hw
  have J_108 : ∀ (σ : VS), b_X6timeFlop_108 X27 Q σ → WB p l e (({ frames := 3, cells := 0, slots := 0, locals := 100 } : Room)) s m (#[.ref (B 6), .int p1]) below meth c (MQ below (va_Qv (fun w => ∃ σ' : VS, Q σ' ∧ w = wc E B σ') (AftU E A) A) (#[.ref (B 6), .int p1]) s (({ frames := 3, cells := 0, slots := 0, locals := 100 } : Room)).cells (({ frames := 3, cells := 0, slots := 0, locals := 100 } : Room)).slots A) A E (wc E B) 6 108 [] [] σ := by
    intro σ hw
    unfold b_X6timeFlop_108 at hw
    exact R_vret (Qc := Q) F dX6_timeFlop_108 hw
  have J_102 : ∀ (l1 : Int32) (l2 : Int32) (l3 : Int32) (l4 : Int32) (l5 : Int32) (σ : VS), b_X6timeFlop_102 X27 Q l1 l2 l3 l4 l5 σ → WB p l e (({ frames := 3, cells := 0, slots := 0, locals := 100 } : Room)) s m (#[.ref (B 6), .int p1]) below meth c (MQ below (va_Qv (fun w => ∃ σ' : VS, Q σ' ∧ w = wc E B σ') (AftU E A) A) (#[.ref (B 6), .int p1]) s (({ frames := 3, cells := 0, slots := 0, locals := 100 } : Room)).cells (({ frames := 3, cells := 0, slots := 0, locals := 100 } : Room)).slots A) A E (wc E B) 6 102 [(0, .ref (B 6)), (1, .int l1), (2, .int l2), (3, .int l3), (4, .int l4), (5, .int l5)] [] σ := by
    intro l1 l2 l3 l4 l5 σ hw
    unfold b_X6timeFlop_102 at hw
    refine R_iinc (q := 5) (v := (l5 + 1)) (lv' := [(5, .int (l5 + 1)), (0, .ref (B 6)), (1, .int l1), (2, .int l2), (3, .int l3), (4, .int l4)]) F dX6_timeFlop_102 rfl rfl (by decide) rfl ?_
    refine R_goto (tgt := 27) F dX6_timeFlop_105 (by decide) ?_
    exact R_sub [1, 2, 3, 4, 5, 0] rfl (U_27 l1 l2 l3 l4 (l5 + 1) σ hw)
  have C_27 : ∀ (l1 : Int32) (l2 : Int32) (l3 : Int32) (l4 : Int32) (l5 : Int32) (σ : VS), b_X6timeFlop_27 X27 Q l1 l2 l3 l4 l5 σ → X27 l1 l2 l3 l4 l5 σ := by
    intro l1 l2 l3 l4 l5 σ hw
    unfold b_X6timeFlop_27 at hw
    rw [hX27]
    show WB p l e (({ frames := 3, cells := 0, slots := 0, locals := 100 } : Room)) s m (#[.ref (B 6), .int p1]) below meth c (MQ below (va_Qv (fun w => ∃ σ' : VS, Q σ' ∧ w = wc E B σ') (AftU E A) A) (#[.ref (B 6), .int p1]) s (({ frames := 3, cells := 0, slots := 0, locals := 100 } : Room)).cells (({ frames := 3, cells := 0, slots := 0, locals := 100 } : Room)).slots A) A E (wc E B) 6 27 [(0, .ref (B 6)), (1, .int l1), (2, .int l2), (3, .int l3), (4, .int l4), (5, .int l5)] [] σ
    refine R_iload F dX6_timeFlop_27 5 rfl ?_
    refine R_iconst F 2 dX6_timeFlop_29 (by decide) ?_
    refine R_icmp_ge (tgt := 108) F dX6_timeFlop_30 (by decide) (fun hc => ?_) (fun hc => ?_)
    · replace hw := hw.1 hc
      exact R_sub [] rfl (J_108 σ hw)
    · replace hw := hw.2 hc
      refine R_aload_n F dX6_timeFlop_33 rfl 0 rfl ?_
      refine gc_RX6_15_6 F in_X6timeFlop dX6_timeFlop_34 ?_
      refine R_iload_n F dX6_timeFlop_37 rfl 1 rfl ?_
      refine R_ldi F qc_40 dX6_timeFlop_38 hw.1 ?_
      replace hw := hw.2
      refine R_if_ne (tgt := 108) F dX6_timeFlop_39 (by decide) (fun hc => ?_) (fun hc => ?_)
      · replace hw := hw.1 hc
        exact R_sub [] rfl (J_108 σ hw)
      · replace hw := hw.2 hc
        refine R_aload_n F dX6_timeFlop_42 rfl 0 rfl ?_
        refine R_iload_n F dX6_timeFlop_43 rfl 1 rfl ?_
        refine R_iconst F 2 dX6_timeFlop_44 (by decide) ?_
        refine R_imul F dX6_timeFlop_45 ?_
        refine R_iload F dX6_timeFlop_46 5 rfl ?_
        refine R_iadd F dX6_timeFlop_48 ?_
        refine R_callV (As := [.int ((l1 * 2) + l5)]) (C := RX6) (q0 := 6) (ci := 6) (N := 12) (T := TX6) (fs := cf_6 B) F (ct_X6clearPlace l E B _ ((l1 * 2) + l5) _ hw) (cwV 1 F.2.2.2.2.2.2.2.2.2.2 g_X6timeFlop_X6clearPlace_109 rfl rfl rfl (by decide +kernel) ⟨Nat.le_of_ble_eq_true rfl, Nat.le_of_ble_eq_true rfl⟩) ⟨rfl, rfl⟩ rfl (fun _ => rfl) rfl rfl (Nat.le_of_ble_eq_true rfl) dX6_timeFlop_49 (fun σ6 hw => ?_)
        refine R_aload_n F dX6_timeFlop_52 rfl 0 rfl ?_
        refine gc_RX6_15_6 F in_X6timeFlop dX6_timeFlop_53 ?_
        refine R_iload_n F dX6_timeFlop_56 rfl 1 rfl ?_
        refine R_aload_n F dX6_timeFlop_57 rfl 0 rfl ?_
        refine R_iload_n F dX6_timeFlop_58 rfl 2 rfl ?_
        refine R_iload F dX6_timeFlop_59 5 rfl ?_
        refine R_iload_n F dX6_timeFlop_61 rfl 3 rfl ?_
        refine R_iconst F 0 dX6_timeFlop_62 (by decide) ?_
        refine R_iconst F 0 dX6_timeFlop_63 (by decide) ?_
        refine R_callI (As := [.int l2, .int l5, .int l3, .int 0, .int 0]) (C := RX6) (q0 := 6) (ci := 6) (N := 12) (T := TX6) (fs := cf_6 B) F (ct_X6timeArc l E B _ l2 l5 l3 0 0 _ hw) (cwV 5 F.2.2.2.2.2.2.2.2.2.2 g_X6timeFlop_X6timeArc_112 rfl rfl rfl (by decide +kernel) ⟨Nat.le_of_ble_eq_true rfl, Nat.le_of_ble_eq_true rfl⟩) ⟨rfl, rfl⟩ rfl (fun _ => rfl) rfl rfl (Nat.le_of_ble_eq_true rfl) dX6_timeFlop_64 (fun r7 σ8 hw => ?_)
        have hi := hw.1
        replace hw := hw.2
        refine R_sti F qc_40 uc_40 dX6_timeFlop_67 hi ?_
        refine R_aload_n F dX6_timeFlop_68 rfl 0 rfl ?_
        refine gc_RX6_15_6 F in_X6timeFlop dX6_timeFlop_69 ?_
        refine R_iload_n F dX6_timeFlop_72 rfl 1 rfl ?_
        refine R_ldi F qc_40 dX6_timeFlop_73 hw.1 ?_
        replace hw := hw.2
        refine R_if_ne (tgt := 102) F dX6_timeFlop_74 (by decide) (fun hc => ?_) (fun hc => ?_)
        · replace hw := hw.1 hc
          exact R_sub [0, 1, 2, 3, 4, 5] rfl (J_102 l1 l2 l3 l4 l5 (sa σ8 40 l1 r7) hw)
        · replace hw := hw.2 hc
          refine R_aload_n F dX6_timeFlop_77 rfl 0 rfl ?_
          refine R_iload_n F dX6_timeFlop_78 rfl 2 rfl ?_
          refine R_iload F dX6_timeFlop_79 5 rfl ?_
          refine R_aload_n F dX6_timeFlop_81 rfl 0 rfl ?_
          refine gc_RX6_45_6 F in_X6timeFlop dX6_timeFlop_82 ?_
          refine R_iload F dX6_timeFlop_85 4 rfl ?_
          refine R_callI (As := [.int l4]) (C := RX0) (q0 := 3) (ci := 0) (N := 5) (T := TX0) (fs := cf_3 B) F (ct_X0lateOf l E B _ l4 _ hw) (cwV 1 F.2.2.2.2.2.2.2.2.2.2 g_X6timeFlop_X0lateOf_116 rfl rfl rfl (by decide +kernel) ⟨Nat.le_of_ble_eq_true rfl, Nat.le_of_ble_eq_true rfl⟩) ⟨rfl, rfl⟩ rfl (fun _ => rfl) rfl rfl (Nat.le_of_ble_eq_true rfl) dX6_timeFlop_87 (fun r9 σ10 hw => ?_)
          refine R_aload_n F dX6_timeFlop_90 rfl 0 rfl ?_
          refine gc_RX6_45_6 F in_X6timeFlop dX6_timeFlop_91 ?_
          refine R_iload F dX6_timeFlop_94 4 rfl ?_
          refine R_callI (As := [.int l4]) (C := RX0) (q0 := 3) (ci := 0) (N := 5) (T := TX0) (fs := cf_3 B) F (ct_X0earlyOf l E B _ l4 _ hw) (cwV 1 F.2.2.2.2.2.2.2.2.2.2 g_X6timeFlop_X0earlyOf_121 rfl rfl rfl (by decide +kernel) ⟨Nat.le_of_ble_eq_true rfl, Nat.le_of_ble_eq_true rfl⟩) ⟨rfl, rfl⟩ rfl (fun _ => rfl) rfl rfl (Nat.le_of_ble_eq_true rfl) dX6_timeFlop_96 (fun r11 σ12 hw => ?_)
          refine R_callV (As := [.int l2, .int l5, .int r9, .int r11]) (C := RX6) (q0 := 6) (ci := 6) (N := 12) (T := TX6) (fs := cf_6 B) F (ct_X6arrive l E B _ l2 l5 r9 r11 _ hw) (cwV 4 F.2.2.2.2.2.2.2.2.2.2 g_X6timeFlop_X6arrive_124 rfl rfl rfl (by decide +kernel) ⟨Nat.le_of_ble_eq_true rfl, Nat.le_of_ble_eq_true rfl⟩) ⟨rfl, rfl⟩ rfl (fun _ => rfl) rfl rfl (Nat.le_of_ble_eq_true rfl) dX6_timeFlop_99 (fun σ14 hw => ?_)
          exact R_sub [0, 1, 2, 3, 4, 5] rfl (J_102 l1 l2 l3 l4 l5 σ14 hw)
  unfold wp_X6timeFlop at hw
  replace hw := hw X27 C_27
  refine R_iload_n F dX6_timeFlop_0 rfl 1 rfl ?_
  refine R_iconst F 4 dX6_timeFlop_1 (by decide) ?_
  refine R_imul F dX6_timeFlop_2 ?_
  refine R_topi (fun x1 ex1 => ?_)
  replace hw := hw x1 ex1
  refine R_istore_n (lv' := [(2, .int x1), (0, .ref (B 6)), (1, .int p1)]) F dX6_timeFlop_3 rfl (by decide) rfl ?_
  refine R_aload_n F dX6_timeFlop_4 rfl 1 rfl ?_
  refine gc_RX6_37_6 F in_X6timeFlop dX6_timeFlop_5 ?_
  refine R_iload_n F dX6_timeFlop_8 rfl 2 rfl ?_
  refine R_callI (As := [.int p1]) (C := RX1) (q0 := 1) (ci := 1) (N := 13) (T := TX1) (fs := cf_1 B) F (ct_X1loadOf l E B _ p1 _ hw) (cwV 1 F.2.2.2.2.2.2.2.2.2.2 g_X6timeFlop_X1loadOf_102 rfl rfl rfl (by decide +kernel) ⟨Nat.le_of_ble_eq_true rfl, Nat.le_of_ble_eq_true rfl⟩) ⟨rfl, rfl⟩ rfl (fun _ => rfl) rfl rfl (Nat.le_of_ble_eq_true rfl) dX6_timeFlop_9 (fun r2 σ3 hw => ?_)
  refine R_istore_n (lv' := [(3, .int r2), (2, .int x1), (0, .ref (B 6)), (1, .int p1)]) F dX6_timeFlop_12 rfl (by decide) rfl ?_
  refine R_aload_n F dX6_timeFlop_13 rfl 2 rfl ?_
  refine gc_RX6_41_6 F in_X6timeFlop dX6_timeFlop_14 ?_
  refine gc_RX6_106_2 F in_X6timeFlop dX6_timeFlop_17 ?_
  refine R_iload_n F dX6_timeFlop_20 rfl 3 rfl ?_
  refine R_ldi F qc_25 dX6_timeFlop_21 hw.1 ?_
  replace hw := hw.2
  refine R_topi (fun x4 ex4 => ?_)
  replace hw := hw x4 ex4
  refine R_istore (lv' := [(4, .int x4), (3, .int r2), (2, .int x1), (0, .ref (B 6)), (1, .int p1)]) F dX6_timeFlop_22 (by decide) rfl ?_
  refine R_iconst F 0 dX6_timeFlop_24 (by decide) ?_
  refine R_istore (lv' := [(5, .int 0), (4, .int x4), (3, .int r2), (2, .int x1), (0, .ref (B 6)), (1, .int p1)]) F dX6_timeFlop_25 (by decide) rfl ?_
  exact R_sub [4, 5, 3, 2, 1, 0] rfl (U_27 p1 x1 r2 x4 0 σ3 hw)
def b_X6takeInputs_51 (X4 : Int32 → Int32 → VS → Prop) (Q : VS → Prop) (l1 : Int32) (l2 : Int32) (σ : VS) : Prop := X4 l1 (l2 + 1) σ
def b_X6takeInputs_36 (X4 : Int32 → Int32 → VS → Prop) (Q : VS → Prop) (l1 : Int32) (l2 : Int32) (σ : VS) : Prop := wp_X6isInputOpen (fun (r4 : Int32) (σ5 : VS) => ((r4.toInt = 0 → b_X6takeInputs_51 X4 Q l1 l2 σ5) ∧ (r4.toInt ≠ 0 → (In l1 50 ∧ b_X6takeInputs_51 X4 Q l1 l2 (sa σ5 40 l1 1))))) l2 σ
def b_X6takeInputs_4 (X4 : Int32 → Int32 → VS → Prop) (Q : VS → Prop) (l1 : Int32) (l2 : Int32) (σ : VS) : Prop := (In l1 50 ∧ ((((l1 * 4) + (rd σ 12 l1)).toInt ≤ l2.toInt → Q σ) ∧ (l2.toInt < ((l1 * 4) + (rd σ 12 l1)).toInt → wp_X6isInputReached (fun (r2 : Int32) (σ3 : VS) => ((r2.toInt = 0 → b_X6takeInputs_36 X4 Q l1 l2 σ3) ∧ (r2.toInt ≠ 0 → (In l1 50 ∧ b_X6takeInputs_36 X4 Q l1 l2 (sa σ3 39 l1 1))))) l2 σ)))
def wp_X6takeInputs (Q : VS → Prop) (p1 : Int32) (σ : VS) : Prop := ∀ (X4 : Int32 → Int32 → VS → Prop), (∀ (l1 : Int32) (l2 : Int32) (σ : VS), b_X6takeInputs_4 X4 Q l1 l2 σ → X4 l1 l2 σ) → (∀ x1 : Int32, x1 = (p1 * 4) → X4 p1 x1 σ)
theorem dX6_takeInputs_0 : decode cX6_takeInputs 0 = .ok (.iload_n 1, 1) := by decide +kernel
theorem dX6_takeInputs_1 : decode cX6_takeInputs 1 = .ok (.iconst 4, 1) := by decide +kernel
theorem dX6_takeInputs_2 : decode cX6_takeInputs 2 = .ok (.imul, 1) := by decide +kernel
theorem dX6_takeInputs_3 : decode cX6_takeInputs 3 = .ok (.istore_n 2, 1) := by decide +kernel
theorem dX6_takeInputs_4 : decode cX6_takeInputs 4 = .ok (.iload_n 2, 1) := by decide +kernel
theorem dX6_takeInputs_5 : decode cX6_takeInputs 5 = .ok (.iload_n 1, 1) := by decide +kernel
theorem dX6_takeInputs_6 : decode cX6_takeInputs 6 = .ok (.iconst 4, 1) := by decide +kernel
theorem dX6_takeInputs_7 : decode cX6_takeInputs 7 = .ok (.imul, 1) := by decide +kernel
theorem dX6_takeInputs_8 : decode cX6_takeInputs 8 = .ok (.aload_n 0, 1) := by decide +kernel
theorem dX6_takeInputs_9 : decode cX6_takeInputs 9 = .ok (.getfield 37, 3) := by decide +kernel
theorem dX6_takeInputs_12 : decode cX6_takeInputs 12 = .ok (.getfield 131, 3) := by decide +kernel
theorem dX6_takeInputs_15 : decode cX6_takeInputs 15 = .ok (.iload_n 1, 1) := by decide +kernel
theorem dX6_takeInputs_16 : decode cX6_takeInputs 16 = .ok (.iaload, 1) := by decide +kernel
theorem dX6_takeInputs_17 : decode cX6_takeInputs 17 = .ok (.iadd, 1) := by decide +kernel
theorem dX6_takeInputs_18 : decode cX6_takeInputs 18 = .ok (.if_icmp .ge 39, 3) := by decide +kernel
theorem dX6_takeInputs_57 : decode cX6_takeInputs 57 = .ok (.return_, 1) := by decide +kernel
theorem dX6_takeInputs_21 : decode cX6_takeInputs 21 = .ok (.aload_n 0, 1) := by decide +kernel
theorem dX6_takeInputs_22 : decode cX6_takeInputs 22 = .ok (.iload_n 2, 1) := by decide +kernel
theorem dX6_takeInputs_23 : decode cX6_takeInputs 23 = .ok (.invokevirtual 85, 3) := by decide +kernel
theorem dX6_takeInputs_26 : decode cX6_takeInputs 26 = .ok (.ifCond .eq 10, 3) := by decide +kernel
theorem dX6_takeInputs_29 : decode cX6_takeInputs 29 = .ok (.aload_n 0, 1) := by decide +kernel
theorem dX6_takeInputs_30 : decode cX6_takeInputs 30 = .ok (.getfield 9, 3) := by decide +kernel
theorem dX6_takeInputs_33 : decode cX6_takeInputs 33 = .ok (.iload_n 1, 1) := by decide +kernel
theorem dX6_takeInputs_34 : decode cX6_takeInputs 34 = .ok (.iconst 1, 1) := by decide +kernel
theorem dX6_takeInputs_35 : decode cX6_takeInputs 35 = .ok (.bastore, 1) := by decide +kernel
theorem dX6_takeInputs_36 : decode cX6_takeInputs 36 = .ok (.aload_n 0, 1) := by decide +kernel
theorem dX6_takeInputs_37 : decode cX6_takeInputs 37 = .ok (.iload_n 2, 1) := by decide +kernel
theorem dX6_takeInputs_38 : decode cX6_takeInputs 38 = .ok (.invokevirtual 88, 3) := by decide +kernel
theorem dX6_takeInputs_41 : decode cX6_takeInputs 41 = .ok (.ifCond .eq 10, 3) := by decide +kernel
theorem dX6_takeInputs_44 : decode cX6_takeInputs 44 = .ok (.aload_n 0, 1) := by decide +kernel
theorem dX6_takeInputs_45 : decode cX6_takeInputs 45 = .ok (.getfield 15, 3) := by decide +kernel
theorem dX6_takeInputs_48 : decode cX6_takeInputs 48 = .ok (.iload_n 1, 1) := by decide +kernel
theorem dX6_takeInputs_49 : decode cX6_takeInputs 49 = .ok (.iconst 1, 1) := by decide +kernel
theorem dX6_takeInputs_50 : decode cX6_takeInputs 50 = .ok (.iastore, 1) := by decide +kernel
theorem dX6_takeInputs_51 : decode cX6_takeInputs 51 = .ok (.iinc 2 1, 3) := by decide +kernel
theorem dX6_takeInputs_54 : decode cX6_takeInputs 54 = .ok (.goto (-50), 3) := by decide +kernel
def wo_X6takeInputs : List Cond := [.code yX6_takeInputs cX6_takeInputs 3 none, .methodLink RX6 85 yX6_isInputReached, .instanceMethod yX6_isInputReached, .selects RX6 yX6_isInputReached yX6_isInputReached, .initialized RX6, .methodLink RX6 88 yX6_isInputOpen, .instanceMethod yX6_isInputOpen, .selects RX6 yX6_isInputOpen yX6_isInputOpen]
def wr_X6takeInputs : List Cond := (wfC ++ (w_X6isInputReached ++ (w_X6isInputOpen ++ ([]))))
def w_X6takeInputs : List Cond := wo_X6takeInputs ++ wr_X6takeInputs
theorem wg_X6takeInputs : GW w_X6takeInputs := GW_app (GW_of (by decide +kernel)) (GW_app (wg_fC) (GW_app (wg_X6isInputReached) (GW_app (wg_X6isInputOpen) (GW_nil))))
theorem in_X6takeInputs : ∀ w ∈ wfC, w ∈ w_X6takeInputs := fun _ h => List.mem_append_right _ (List.mem_append_left _ h)
theorem g_X6takeInputs_X6isInputReached_85 : GoodIn w_X6takeInputs (wsV RX6 85 RX6 yX6_isInputReached w_X6isInputReached) := goodIn_app (gi_left (goodIn_of _ (by decide +kernel))) (fun w h => ⟨List.mem_append_right _ (List.mem_append_right _ (List.mem_append_left _ h)), wg_X6isInputReached w h⟩)
theorem g_X6takeInputs_X6isInputOpen_88 : GoodIn w_X6takeInputs (wsV RX6 88 RX6 yX6_isInputOpen w_X6isInputOpen) := goodIn_app (gi_left (goodIn_of _ (by decide +kernel))) (fun w h => ⟨List.mem_append_right _ (List.mem_append_right _ (List.mem_append_right _ (List.mem_append_left _ h))), wg_X6isInputOpen w h⟩)
set_option maxHeartbeats 4000000 in
set_option maxRecDepth 100000 in
theorem ct_X6takeInputs (l : Launch) (E : gE) (B : Nat → Nat) (Q : VS → Prop) (p1 : Int32) (σ : VS) (hw : wp_X6takeInputs Q p1 σ) : CtV l E yX6_takeInputs w_X6takeInputs (({ frames := 1, cells := 0, slots := 0, locals := 22 } : Room)) (wc E B σ) [.ref (B 6), .int p1] (fun w => ∃ σ' : VS, Q σ' ∧ w = wc E B σ') := by
  refine VC_V (cc := cX6_takeInputs) (mL := 3) (rt := none) (lv0 := [(0, .ref (B 6)), (1, .int p1)]) rfl (by decide) rfl (Nat.le_of_ble_eq_true rfl) ?_
  intro p e s m below meth c A F
  replace F : Fx p s m _ meth c A E cX6_takeInputs 3 none RX6 w_X6takeInputs := F
  obtain ⟨X4, hX4⟩ : ∃ X : Int32 → Int32 → VS → Prop, X = fun l1 l2 σ => WB p l e (({ frames := 1, cells := 0, slots := 0, locals := 22 } : Room)) s m (#[.ref (B 6), .int p1]) below meth c (MQ below (va_Qv (fun w => ∃ σ' : VS, Q σ' ∧ w = wc E B σ') (AftU E A) A) (#[.ref (B 6), .int p1]) s (({ frames := 1, cells := 0, slots := 0, locals := 22 } : Room)).cells (({ frames := 1, cells := 0, slots := 0, locals := 22 } : Room)).slots A) A E (wc E B) 3 4 [(0, .ref (B 6)), (1, .int l1), (2, .int l2)] [] σ := ⟨_, rfl⟩
  have U_4 : ∀ (l1 : Int32) (l2 : Int32) (σ : VS), X4 l1 l2 σ → WB p l e (({ frames := 1, cells := 0, slots := 0, locals := 22 } : Room)) s m (#[.ref (B 6), .int p1]) below meth c (MQ below (va_Qv (fun w => ∃ σ' : VS, Q σ' ∧ w = wc E B σ') (AftU E A) A) (#[.ref (B 6), .int p1]) s (({ frames := 1, cells := 0, slots := 0, locals := 22 } : Room)).cells (({ frames := 1, cells := 0, slots := 0, locals := 22 } : Room)).slots A) A E (wc E B) 3 4 [(0, .ref (B 6)), (1, .int l1), (2, .int l2)] [] σ := by
    intro l1 l2 σ hw; rw [hX4] at hw; exact hw
  have J_51 : ∀ (l1 : Int32) (l2 : Int32) (σ : VS), b_X6takeInputs_51 X4 Q l1 l2 σ → WB p l e (({ frames := 1, cells := 0, slots := 0, locals := 22 } : Room)) s m (#[.ref (B 6), .int p1]) below meth c (MQ below (va_Qv (fun w => ∃ σ' : VS, Q σ' ∧ w = wc E B σ') (AftU E A) A) (#[.ref (B 6), .int p1]) s (({ frames := 1, cells := 0, slots := 0, locals := 22 } : Room)).cells (({ frames := 1, cells := 0, slots := 0, locals := 22 } : Room)).slots A) A E (wc E B) 3 51 [(0, .ref (B 6)), (1, .int l1), (2, .int l2)] [] σ := by
    intro l1 l2 σ hw
    unfold b_X6takeInputs_51 at hw
    refine R_iinc (q := 2) (v := (l2 + 1)) (lv' := [(2, .int (l2 + 1)), (0, .ref (B 6)), (1, .int l1)]) F dX6_takeInputs_51 rfl rfl (by decide) rfl ?_
    refine R_goto (tgt := 4) F dX6_takeInputs_54 (by decide) ?_
    exact R_sub [1, 2, 0] rfl (U_4 l1 (l2 + 1) σ hw)
  have J_36 : ∀ (l1 : Int32) (l2 : Int32) (σ : VS), b_X6takeInputs_36 X4 Q l1 l2 σ → WB p l e (({ frames := 1, cells := 0, slots := 0, locals := 22 } : Room)) s m (#[.ref (B 6), .int p1]) below meth c (MQ below (va_Qv (fun w => ∃ σ' : VS, Q σ' ∧ w = wc E B σ') (AftU E A) A) (#[.ref (B 6), .int p1]) s (({ frames := 1, cells := 0, slots := 0, locals := 22 } : Room)).cells (({ frames := 1, cells := 0, slots := 0, locals := 22 } : Room)).slots A) A E (wc E B) 3 36 [(0, .ref (B 6)), (1, .int l1), (2, .int l2)] [] σ := by
    intro l1 l2 σ hw
    unfold b_X6takeInputs_36 at hw
    refine R_aload_n F dX6_takeInputs_36 rfl 0 rfl ?_
    refine R_iload_n F dX6_takeInputs_37 rfl 2 rfl ?_
    refine R_callI (As := [.int l2]) (C := RX6) (q0 := 6) (ci := 6) (N := 12) (T := TX6) (fs := cf_6 B) F (ct_X6isInputOpen l E B _ l2 _ hw) (cwV 1 F.2.2.2.2.2.2.2.2.2.2 g_X6takeInputs_X6isInputOpen_88 rfl rfl rfl (by decide +kernel) ⟨Nat.le_of_ble_eq_true rfl, Nat.le_of_ble_eq_true rfl⟩) ⟨rfl, rfl⟩ rfl (fun _ => rfl) rfl rfl (Nat.le_of_ble_eq_true rfl) dX6_takeInputs_38 (fun r4 σ5 hw => ?_)
    refine R_if_eq (tgt := 51) F dX6_takeInputs_41 (by decide) (fun hc => ?_) (fun hc => ?_)
    · replace hw := hw.1 hc
      exact R_sub [0, 1, 2] rfl (J_51 l1 l2 σ5 hw)
    · replace hw := hw.2 hc
      refine R_aload_n F dX6_takeInputs_44 rfl 0 rfl ?_
      refine gc_RX6_15_6 F in_X6takeInputs dX6_takeInputs_45 ?_
      refine R_iload_n F dX6_takeInputs_48 rfl 1 rfl ?_
      refine R_iconst F 1 dX6_takeInputs_49 (by decide) ?_
      have hi := hw.1
      replace hw := hw.2
      refine R_sti F qc_40 uc_40 dX6_takeInputs_50 hi ?_
      exact R_sub [0, 1, 2] rfl (J_51 l1 l2 (sa σ5 40 l1 1) hw)
  have C_4 : ∀ (l1 : Int32) (l2 : Int32) (σ : VS), b_X6takeInputs_4 X4 Q l1 l2 σ → X4 l1 l2 σ := by
    intro l1 l2 σ hw
    unfold b_X6takeInputs_4 at hw
    rw [hX4]
    show WB p l e (({ frames := 1, cells := 0, slots := 0, locals := 22 } : Room)) s m (#[.ref (B 6), .int p1]) below meth c (MQ below (va_Qv (fun w => ∃ σ' : VS, Q σ' ∧ w = wc E B σ') (AftU E A) A) (#[.ref (B 6), .int p1]) s (({ frames := 1, cells := 0, slots := 0, locals := 22 } : Room)).cells (({ frames := 1, cells := 0, slots := 0, locals := 22 } : Room)).slots A) A E (wc E B) 3 4 [(0, .ref (B 6)), (1, .int l1), (2, .int l2)] [] σ
    refine R_iload_n F dX6_takeInputs_4 rfl 2 rfl ?_
    refine R_iload_n F dX6_takeInputs_5 rfl 1 rfl ?_
    refine R_iconst F 4 dX6_takeInputs_6 (by decide) ?_
    refine R_imul F dX6_takeInputs_7 ?_
    refine R_aload_n F dX6_takeInputs_8 rfl 0 rfl ?_
    refine gc_RX6_37_6 F in_X6takeInputs dX6_takeInputs_9 ?_
    refine gc_RX6_131_1 F in_X6takeInputs dX6_takeInputs_12 ?_
    refine R_iload_n F dX6_takeInputs_15 rfl 1 rfl ?_
    refine R_ldi F qc_12 dX6_takeInputs_16 hw.1 ?_
    replace hw := hw.2
    refine R_iadd F dX6_takeInputs_17 ?_
    refine R_icmp_ge (tgt := 57) F dX6_takeInputs_18 (by decide) (fun hc => ?_) (fun hc => ?_)
    · replace hw := hw.1 hc
      exact R_vret (Qc := Q) F dX6_takeInputs_57 hw
    · replace hw := hw.2 hc
      refine R_aload_n F dX6_takeInputs_21 rfl 0 rfl ?_
      refine R_iload_n F dX6_takeInputs_22 rfl 2 rfl ?_
      refine R_callI (As := [.int l2]) (C := RX6) (q0 := 6) (ci := 6) (N := 12) (T := TX6) (fs := cf_6 B) F (ct_X6isInputReached l E B _ l2 _ hw) (cwV 1 F.2.2.2.2.2.2.2.2.2.2 g_X6takeInputs_X6isInputReached_85 rfl rfl rfl (by decide +kernel) ⟨Nat.le_of_ble_eq_true rfl, Nat.le_of_ble_eq_true rfl⟩) ⟨rfl, rfl⟩ rfl (fun _ => rfl) rfl rfl (Nat.le_of_ble_eq_true rfl) dX6_takeInputs_23 (fun r2 σ3 hw => ?_)
      refine R_if_eq (tgt := 36) F dX6_takeInputs_26 (by decide) (fun hc => ?_) (fun hc => ?_)
      · replace hw := hw.1 hc
        exact R_sub [0, 1, 2] rfl (J_36 l1 l2 σ3 hw)
      · replace hw := hw.2 hc
        refine R_aload_n F dX6_takeInputs_29 rfl 0 rfl ?_
        refine gc_RX6_9_6 F in_X6takeInputs dX6_takeInputs_30 ?_
        refine R_iload_n F dX6_takeInputs_33 rfl 1 rfl ?_
        refine R_iconst F 1 dX6_takeInputs_34 (by decide) ?_
        have hi := hw.1
        replace hw := hw.2
        refine R_stz F qc_39 uc_39 dX6_takeInputs_35 hi (⟨by decide, by decide⟩ : Bo 1) ?_
        exact R_sub [0, 1, 2] rfl (J_36 l1 l2 (sa σ3 39 l1 1) hw)
  unfold wp_X6takeInputs at hw
  replace hw := hw X4 C_4
  refine R_iload_n F dX6_takeInputs_0 rfl 1 rfl ?_
  refine R_iconst F 4 dX6_takeInputs_1 (by decide) ?_
  refine R_imul F dX6_takeInputs_2 ?_
  refine R_topi (fun x1 ex1 => ?_)
  replace hw := hw x1 ex1
  refine R_istore_n (lv' := [(2, .int x1), (0, .ref (B 6)), (1, .int p1)]) F dX6_takeInputs_3 rfl (by decide) rfl ?_
  exact R_sub [1, 2, 0] rfl (U_4 p1 x1 σ hw)
def b_X6timeGate_181 (X21 : Int32 → Int32 → Int32 → Int32 → VS → Prop) (X64 : Int32 → Int32 → Int32 → Int32 → Int32 → Int32 → VS → Prop) (Q : VS → Prop) (l1 : Int32) (l2 : Int32) (l3 : Int32) (l4 : Int32) (σ : VS) : Prop := X21 l1 l2 l3 (l4 + 1) σ
def b_X6timeGate_175 (X21 : Int32 → Int32 → Int32 → Int32 → VS → Prop) (X64 : Int32 → Int32 → Int32 → Int32 → Int32 → Int32 → VS → Prop) (Q : VS → Prop) (l1 : Int32) (l2 : Int32) (l3 : Int32) (l4 : Int32) (l5 : Int32) (l6 : Int32) (σ : VS) : Prop := X64 l1 l2 l3 l4 l5 (l6 + 1) σ
def b_X6timeGate_64 (X21 : Int32 → Int32 → Int32 → Int32 → VS → Prop) (X64 : Int32 → Int32 → Int32 → Int32 → Int32 → Int32 → VS → Prop) (Q : VS → Prop) (l1 : Int32) (l2 : Int32) (l3 : Int32) (l4 : Int32) (l5 : Int32) (l6 : Int32) (σ : VS) : Prop := (In l1 50 ∧ (((l2 + (rd σ 12 l1)).toInt ≤ l6.toInt → b_X6timeGate_181 X21 X64 Q l1 l2 l3 l4 σ) ∧ (l6.toInt < (l2 + (rd σ 12 l1)).toInt → (In l1 50 ∧ (((rd σ 40 l1).toInt ≠ 0 → b_X6timeGate_181 X21 X64 Q l1 l2 l3 l4 σ) ∧ ((rd σ 40 l1).toInt = 0 → wp_X6isInputReached (fun (r8 : Int32) (σ9 : VS) => ((r8.toInt = 0 → b_X6timeGate_175 X21 X64 Q l1 l2 l3 l4 l5 l6 σ9) ∧ (r8.toInt ≠ 0 → (In l6 200 ∧ (∀ x10 : Int32, x10 = (((rd σ9 16 l6) * 2) + l5) → (In x10 100 ∧ (In x10 100 ∧ wp_X6timeArc (fun (r11 : Int32) (σ12 : VS) => (In l1 50 ∧ (In l1 50 ∧ (((rd (sa σ12 40 l1 r11) 40 l1).toInt ≠ 0 → b_X6timeGate_175 X21 X64 Q l1 l2 l3 l4 l5 l6 (sa σ12 40 l1 r11)) ∧ ((rd (sa σ12 40 l1 r11) 40 l1).toInt = 0 → (In x10 100 ∧ (In x10 100 ∧ wp_X6arrive (fun (σ14 : VS) => b_X6timeGate_175 X21 X64 Q l1 l2 l3 l4 l5 l6 σ14) l6 l4 (rd (sa σ12 40 l1 r11) 45 x10) (rd (sa σ12 40 l1 r11) 46 x10) (sa σ12 40 l1 r11)))))))) l6 l4 l3 (rd σ9 43 x10) (rd σ9 44 x10) σ9))))))) l6 σ))))))
def b_X6timeGate_49 (X21 : Int32 → Int32 → Int32 → Int32 → VS → Prop) (X64 : Int32 → Int32 → Int32 → Int32 → Int32 → Int32 → VS → Prop) (Q : VS → Prop) (l1 : Int32) (l2 : Int32) (l3 : Int32) (l4 : Int32) (k0 : Int32) (σ : VS) : Prop := wp_X6clearPlace (fun (σ7 : VS) => X64 l1 l2 l3 l4 k0 l2 σ7) ((l1 * 2) + l4) σ
def b_X6timeGate_21 (X21 : Int32 → Int32 → Int32 → Int32 → VS → Prop) (X64 : Int32 → Int32 → Int32 → Int32 → Int32 → Int32 → VS → Prop) (Q : VS → Prop) (l1 : Int32) (l2 : Int32) (l3 : Int32) (l4 : Int32) (σ : VS) : Prop := ((2 ≤ l4.toInt → Q σ) ∧ (l4.toInt < 2 → (In l1 50 ∧ (((rd σ 11 l1).toInt ≠ 2 → b_X6timeGate_49 X21 X64 Q l1 l2 l3 l4 l4 σ) ∧ ((rd σ 11 l1).toInt = 2 → b_X6timeGate_49 X21 X64 Q l1 l2 l3 l4 (1 - l4) σ)))))
def wp_X6timeGate (Q : VS → Prop) (p1 : Int32) (σ : VS) : Prop := ∀ (X21 : Int32 → Int32 → Int32 → Int32 → VS → Prop) (X64 : Int32 → Int32 → Int32 → Int32 → Int32 → Int32 → VS → Prop), (∀ (l1 : Int32) (l2 : Int32) (l3 : Int32) (l4 : Int32) (σ : VS), b_X6timeGate_21 X21 X64 Q l1 l2 l3 l4 σ → X21 l1 l2 l3 l4 σ) → (∀ (l1 : Int32) (l2 : Int32) (l3 : Int32) (l4 : Int32) (l5 : Int32) (l6 : Int32) (σ : VS), b_X6timeGate_64 X21 X64 Q l1 l2 l3 l4 l5 l6 σ → X64 l1 l2 l3 l4 l5 l6 σ) → (∀ x1 : Int32, x1 = (p1 * 4) → wp_X1loadOf (fun (r2 : Int32) (σ3 : VS) => wp_X6takeInputs (fun (σ5 : VS) => X21 p1 x1 r2 0 σ5) p1 σ3) p1 σ)
theorem dX6_timeGate_0 : decode cX6_timeGate 0 = .ok (.iload_n 1, 1) := by decide +kernel
theorem dX6_timeGate_1 : decode cX6_timeGate 1 = .ok (.iconst 4, 1) := by decide +kernel
theorem dX6_timeGate_2 : decode cX6_timeGate 2 = .ok (.imul, 1) := by decide +kernel
theorem dX6_timeGate_3 : decode cX6_timeGate 3 = .ok (.istore_n 2, 1) := by decide +kernel
theorem dX6_timeGate_4 : decode cX6_timeGate 4 = .ok (.aload_n 0, 1) := by decide +kernel
theorem dX6_timeGate_5 : decode cX6_timeGate 5 = .ok (.getfield 37, 3) := by decide +kernel
theorem dX6_timeGate_8 : decode cX6_timeGate 8 = .ok (.iload_n 1, 1) := by decide +kernel
theorem dX6_timeGate_9 : decode cX6_timeGate 9 = .ok (.invokevirtual 102, 3) := by decide +kernel
theorem dX6_timeGate_12 : decode cX6_timeGate 12 = .ok (.istore_n 3, 1) := by decide +kernel
theorem dX6_timeGate_13 : decode cX6_timeGate 13 = .ok (.aload_n 0, 1) := by decide +kernel
theorem dX6_timeGate_14 : decode cX6_timeGate 14 = .ok (.iload_n 1, 1) := by decide +kernel
theorem dX6_timeGate_15 : decode cX6_timeGate 15 = .ok (.invokevirtual 128, 3) := by decide +kernel
theorem dX6_timeGate_18 : decode cX6_timeGate 18 = .ok (.iconst 0, 1) := by decide +kernel
theorem dX6_timeGate_19 : decode cX6_timeGate 19 = .ok (.istore 4, 2) := by decide +kernel
theorem dX6_timeGate_21 : decode cX6_timeGate 21 = .ok (.iload 4, 2) := by decide +kernel
theorem dX6_timeGate_23 : decode cX6_timeGate 23 = .ok (.iconst 2, 1) := by decide +kernel
theorem dX6_timeGate_24 : decode cX6_timeGate 24 = .ok (.if_icmp .ge 163, 3) := by decide +kernel
theorem dX6_timeGate_187 : decode cX6_timeGate 187 = .ok (.return_, 1) := by decide +kernel
theorem dX6_timeGate_27 : decode cX6_timeGate 27 = .ok (.aload_n 0, 1) := by decide +kernel
theorem dX6_timeGate_28 : decode cX6_timeGate 28 = .ok (.getfield 37, 3) := by decide +kernel
theorem dX6_timeGate_31 : decode cX6_timeGate 31 = .ok (.getfield 63, 3) := by decide +kernel
theorem dX6_timeGate_34 : decode cX6_timeGate 34 = .ok (.iload_n 1, 1) := by decide +kernel
theorem dX6_timeGate_35 : decode cX6_timeGate 35 = .ok (.iaload, 1) := by decide +kernel
theorem dX6_timeGate_36 : decode cX6_timeGate 36 = .ok (.iconst 2, 1) := by decide +kernel
theorem dX6_timeGate_37 : decode cX6_timeGate 37 = .ok (.if_icmp .ne 10, 3) := by decide +kernel
theorem dX6_timeGate_47 : decode cX6_timeGate 47 = .ok (.iload 4, 2) := by decide +kernel
theorem dX6_timeGate_40 : decode cX6_timeGate 40 = .ok (.iconst 1, 1) := by decide +kernel
theorem dX6_timeGate_41 : decode cX6_timeGate 41 = .ok (.iload 4, 2) := by decide +kernel
theorem dX6_timeGate_43 : decode cX6_timeGate 43 = .ok (.isub, 1) := by decide +kernel
theorem dX6_timeGate_44 : decode cX6_timeGate 44 = .ok (.goto 5, 3) := by decide +kernel
theorem dX6_timeGate_49 : decode cX6_timeGate 49 = .ok (.istore 5, 2) := by decide +kernel
theorem dX6_timeGate_51 : decode cX6_timeGate 51 = .ok (.aload_n 0, 1) := by decide +kernel
theorem dX6_timeGate_52 : decode cX6_timeGate 52 = .ok (.iload_n 1, 1) := by decide +kernel
theorem dX6_timeGate_53 : decode cX6_timeGate 53 = .ok (.iconst 2, 1) := by decide +kernel
theorem dX6_timeGate_54 : decode cX6_timeGate 54 = .ok (.imul, 1) := by decide +kernel
theorem dX6_timeGate_55 : decode cX6_timeGate 55 = .ok (.iload 4, 2) := by decide +kernel
theorem dX6_timeGate_57 : decode cX6_timeGate 57 = .ok (.iadd, 1) := by decide +kernel
theorem dX6_timeGate_58 : decode cX6_timeGate 58 = .ok (.invokevirtual 109, 3) := by decide +kernel
theorem dX6_timeGate_61 : decode cX6_timeGate 61 = .ok (.iload_n 2, 1) := by decide +kernel
theorem dX6_timeGate_62 : decode cX6_timeGate 62 = .ok (.istore 6, 2) := by decide +kernel
theorem dX6_timeGate_64 : decode cX6_timeGate 64 = .ok (.iload 6, 2) := by decide +kernel
theorem dX6_timeGate_66 : decode cX6_timeGate 66 = .ok (.iload_n 2, 1) := by decide +kernel
theorem dX6_timeGate_67 : decode cX6_timeGate 67 = .ok (.aload_n 0, 1) := by decide +kernel
theorem dX6_timeGate_68 : decode cX6_timeGate 68 = .ok (.getfield 37, 3) := by decide +kernel
theorem dX6_timeGate_71 : decode cX6_timeGate 71 = .ok (.getfield 131, 3) := by decide +kernel
theorem dX6_timeGate_74 : decode cX6_timeGate 74 = .ok (.iload_n 1, 1) := by decide +kernel
theorem dX6_timeGate_75 : decode cX6_timeGate 75 = .ok (.iaload, 1) := by decide +kernel
theorem dX6_timeGate_76 : decode cX6_timeGate 76 = .ok (.iadd, 1) := by decide +kernel
theorem dX6_timeGate_77 : decode cX6_timeGate 77 = .ok (.if_icmp .ge 104, 3) := by decide +kernel
theorem dX6_timeGate_80 : decode cX6_timeGate 80 = .ok (.aload_n 0, 1) := by decide +kernel
theorem dX6_timeGate_81 : decode cX6_timeGate 81 = .ok (.getfield 15, 3) := by decide +kernel
theorem dX6_timeGate_84 : decode cX6_timeGate 84 = .ok (.iload_n 1, 1) := by decide +kernel
theorem dX6_timeGate_85 : decode cX6_timeGate 85 = .ok (.iaload, 1) := by decide +kernel
theorem dX6_timeGate_86 : decode cX6_timeGate 86 = .ok (.ifCond .ne 95, 3) := by decide +kernel
theorem dX6_timeGate_89 : decode cX6_timeGate 89 = .ok (.aload_n 0, 1) := by decide +kernel
theorem dX6_timeGate_90 : decode cX6_timeGate 90 = .ok (.iload 6, 2) := by decide +kernel
theorem dX6_timeGate_92 : decode cX6_timeGate 92 = .ok (.invokevirtual 85, 3) := by decide +kernel
theorem dX6_timeGate_95 : decode cX6_timeGate 95 = .ok (.ifCond .eq 80, 3) := by decide +kernel
theorem dX6_timeGate_98 : decode cX6_timeGate 98 = .ok (.aload_n 0, 1) := by decide +kernel
theorem dX6_timeGate_99 : decode cX6_timeGate 99 = .ok (.getfield 37, 3) := by decide +kernel
theorem dX6_timeGate_102 : decode cX6_timeGate 102 = .ok (.getfield 82, 3) := by decide +kernel
theorem dX6_timeGate_105 : decode cX6_timeGate 105 = .ok (.iload 6, 2) := by decide +kernel
theorem dX6_timeGate_107 : decode cX6_timeGate 107 = .ok (.iaload, 1) := by decide +kernel
theorem dX6_timeGate_108 : decode cX6_timeGate 108 = .ok (.iconst 2, 1) := by decide +kernel
theorem dX6_timeGate_109 : decode cX6_timeGate 109 = .ok (.imul, 1) := by decide +kernel
theorem dX6_timeGate_110 : decode cX6_timeGate 110 = .ok (.iload 5, 2) := by decide +kernel
theorem dX6_timeGate_112 : decode cX6_timeGate 112 = .ok (.iadd, 1) := by decide +kernel
theorem dX6_timeGate_113 : decode cX6_timeGate 113 = .ok (.istore 7, 2) := by decide +kernel
theorem dX6_timeGate_115 : decode cX6_timeGate 115 = .ok (.aload_n 0, 1) := by decide +kernel
theorem dX6_timeGate_116 : decode cX6_timeGate 116 = .ok (.getfield 15, 3) := by decide +kernel
theorem dX6_timeGate_119 : decode cX6_timeGate 119 = .ok (.iload_n 1, 1) := by decide +kernel
theorem dX6_timeGate_120 : decode cX6_timeGate 120 = .ok (.aload_n 0, 1) := by decide +kernel
theorem dX6_timeGate_121 : decode cX6_timeGate 121 = .ok (.iload 6, 2) := by decide +kernel
theorem dX6_timeGate_123 : decode cX6_timeGate 123 = .ok (.iload 4, 2) := by decide +kernel
theorem dX6_timeGate_125 : decode cX6_timeGate 125 = .ok (.iload_n 3, 1) := by decide +kernel
theorem dX6_timeGate_126 : decode cX6_timeGate 126 = .ok (.aload_n 0, 1) := by decide +kernel
theorem dX6_timeGate_127 : decode cX6_timeGate 127 = .ok (.getfield 25, 3) := by decide +kernel
theorem dX6_timeGate_130 : decode cX6_timeGate 130 = .ok (.iload 7, 2) := by decide +kernel
theorem dX6_timeGate_132 : decode cX6_timeGate 132 = .ok (.iaload, 1) := by decide +kernel
theorem dX6_timeGate_133 : decode cX6_timeGate 133 = .ok (.aload_n 0, 1) := by decide +kernel
theorem dX6_timeGate_134 : decode cX6_timeGate 134 = .ok (.getfield 28, 3) := by decide +kernel
theorem dX6_timeGate_137 : decode cX6_timeGate 137 = .ok (.iload 7, 2) := by decide +kernel
theorem dX6_timeGate_139 : decode cX6_timeGate 139 = .ok (.iaload, 1) := by decide +kernel
theorem dX6_timeGate_140 : decode cX6_timeGate 140 = .ok (.invokevirtual 112, 3) := by decide +kernel
theorem dX6_timeGate_143 : decode cX6_timeGate 143 = .ok (.iastore, 1) := by decide +kernel
theorem dX6_timeGate_144 : decode cX6_timeGate 144 = .ok (.aload_n 0, 1) := by decide +kernel
theorem dX6_timeGate_145 : decode cX6_timeGate 145 = .ok (.getfield 15, 3) := by decide +kernel
theorem dX6_timeGate_148 : decode cX6_timeGate 148 = .ok (.iload_n 1, 1) := by decide +kernel
theorem dX6_timeGate_149 : decode cX6_timeGate 149 = .ok (.iaload, 1) := by decide +kernel
theorem dX6_timeGate_150 : decode cX6_timeGate 150 = .ok (.ifCond .ne 25, 3) := by decide +kernel
theorem dX6_timeGate_153 : decode cX6_timeGate 153 = .ok (.aload_n 0, 1) := by decide +kernel
theorem dX6_timeGate_154 : decode cX6_timeGate 154 = .ok (.iload 6, 2) := by decide +kernel
theorem dX6_timeGate_156 : decode cX6_timeGate 156 = .ok (.iload 4, 2) := by decide +kernel
theorem dX6_timeGate_158 : decode cX6_timeGate 158 = .ok (.aload_n 0, 1) := by decide +kernel
theorem dX6_timeGate_159 : decode cX6_timeGate 159 = .ok (.getfield 31, 3) := by decide +kernel
theorem dX6_timeGate_162 : decode cX6_timeGate 162 = .ok (.iload 7, 2) := by decide +kernel
theorem dX6_timeGate_164 : decode cX6_timeGate 164 = .ok (.iaload, 1) := by decide +kernel
theorem dX6_timeGate_165 : decode cX6_timeGate 165 = .ok (.aload_n 0, 1) := by decide +kernel
theorem dX6_timeGate_166 : decode cX6_timeGate 166 = .ok (.getfield 34, 3) := by decide +kernel
theorem dX6_timeGate_169 : decode cX6_timeGate 169 = .ok (.iload 7, 2) := by decide +kernel
theorem dX6_timeGate_171 : decode cX6_timeGate 171 = .ok (.iaload, 1) := by decide +kernel
theorem dX6_timeGate_172 : decode cX6_timeGate 172 = .ok (.invokevirtual 124, 3) := by decide +kernel
theorem dX6_timeGate_181 : decode cX6_timeGate 181 = .ok (.iinc 4 1, 3) := by decide +kernel
theorem dX6_timeGate_184 : decode cX6_timeGate 184 = .ok (.goto (-163), 3) := by decide +kernel
theorem dX6_timeGate_175 : decode cX6_timeGate 175 = .ok (.iinc 6 1, 3) := by decide +kernel
theorem dX6_timeGate_178 : decode cX6_timeGate 178 = .ok (.goto (-114), 3) := by decide +kernel
def wo_X6timeGate : List Cond := [.code yX6_timeGate cX6_timeGate 8 none, .methodLink RX6 102 yX1_loadOf, .instanceMethod yX1_loadOf, .selects RX1 yX1_loadOf yX1_loadOf, .initialized RX1, .methodLink RX6 128 yX6_takeInputs, .instanceMethod yX6_takeInputs, .selects RX6 yX6_takeInputs yX6_takeInputs, .initialized RX6, .methodLink RX6 109 yX6_clearPlace, .instanceMethod yX6_clearPlace, .selects RX6 yX6_clearPlace yX6_clearPlace, .methodLink RX6 85 yX6_isInputReached, .instanceMethod yX6_isInputReached, .selects RX6 yX6_isInputReached yX6_isInputReached, .methodLink RX6 112 yX6_timeArc, .instanceMethod yX6_timeArc, .selects RX6 yX6_timeArc yX6_timeArc, .methodLink RX6 124 yX6_arrive, .instanceMethod yX6_arrive, .selects RX6 yX6_arrive yX6_arrive]
def wr_X6timeGate : List Cond := (wfC ++ (w_X1loadOf ++ (w_X6takeInputs ++ (w_X6clearPlace ++ (w_X6isInputReached ++ (w_X6timeArc ++ (w_X6arrive ++ ([]))))))))
def w_X6timeGate : List Cond := wo_X6timeGate ++ wr_X6timeGate
theorem wg_X6timeGate : GW w_X6timeGate := GW_app (GW_of (by decide +kernel)) (GW_app (wg_fC) (GW_app (wg_X1loadOf) (GW_app (wg_X6takeInputs) (GW_app (wg_X6clearPlace) (GW_app (wg_X6isInputReached) (GW_app (wg_X6timeArc) (GW_app (wg_X6arrive) (GW_nil))))))))
theorem in_X6timeGate : ∀ w ∈ wfC, w ∈ w_X6timeGate := fun _ h => List.mem_append_right _ (List.mem_append_left _ h)
theorem g_X6timeGate_X1loadOf_102 : GoodIn w_X6timeGate (wsV RX6 102 RX1 yX1_loadOf w_X1loadOf) := goodIn_app (gi_left (goodIn_of _ (by decide +kernel))) (fun w h => ⟨List.mem_append_right _ (List.mem_append_right _ (List.mem_append_left _ h)), wg_X1loadOf w h⟩)
theorem g_X6timeGate_X6takeInputs_128 : GoodIn w_X6timeGate (wsV RX6 128 RX6 yX6_takeInputs w_X6takeInputs) := goodIn_app (gi_left (goodIn_of _ (by decide +kernel))) (fun w h => ⟨List.mem_append_right _ (List.mem_append_right _ (List.mem_append_right _ (List.mem_append_left _ h))), wg_X6takeInputs w h⟩)
theorem g_X6timeGate_X6clearPlace_109 : GoodIn w_X6timeGate (wsV RX6 109 RX6 yX6_clearPlace w_X6clearPlace) := goodIn_app (gi_left (goodIn_of _ (by decide +kernel))) (fun w h => ⟨List.mem_append_right _ (List.mem_append_right _ (List.mem_append_right _ (List.mem_append_right _ (List.mem_append_left _ h)))), wg_X6clearPlace w h⟩)
theorem g_X6timeGate_X6isInputReached_85 : GoodIn w_X6timeGate (wsV RX6 85 RX6 yX6_isInputReached w_X6isInputReached) := goodIn_app (gi_left (goodIn_of _ (by decide +kernel))) (fun w h => ⟨List.mem_append_right _ (List.mem_append_right _ (List.mem_append_right _ (List.mem_append_right _ (List.mem_append_right _ (List.mem_append_left _ h))))), wg_X6isInputReached w h⟩)
theorem g_X6timeGate_X6timeArc_112 : GoodIn w_X6timeGate (wsV RX6 112 RX6 yX6_timeArc w_X6timeArc) := goodIn_app (gi_left (goodIn_of _ (by decide +kernel))) (fun w h => ⟨List.mem_append_right _ (List.mem_append_right _ (List.mem_append_right _ (List.mem_append_right _ (List.mem_append_right _ (List.mem_append_right _ (List.mem_append_left _ h)))))), wg_X6timeArc w h⟩)
theorem g_X6timeGate_X6arrive_124 : GoodIn w_X6timeGate (wsV RX6 124 RX6 yX6_arrive w_X6arrive) := goodIn_app (gi_left (goodIn_of _ (by decide +kernel))) (fun w h => ⟨List.mem_append_right _ (List.mem_append_right _ (List.mem_append_right _ (List.mem_append_right _ (List.mem_append_right _ (List.mem_append_right _ (List.mem_append_right _ (List.mem_append_left _ h))))))), wg_X6arrive w h⟩)
set_option maxHeartbeats 4000000 in
set_option maxRecDepth 100000 in
theorem ct_X6timeGate (l : Launch) (E : gE) (B : Nat → Nat) (Q : VS → Prop) (p1 : Int32) (σ : VS) (hw : wp_X6timeGate Q p1 σ) : CtV l E yX6_timeGate w_X6timeGate (({ frames := 3, cells := 0, slots := 0, locals := 100 } : Room)) (wc E B σ) [.ref (B 6), .int p1] (fun w => ∃ σ' : VS, Q σ' ∧ w = wc E B σ') := by
  refine VC_V (cc := cX6_timeGate) (mL := 8) (rt := none) (lv0 := [(0, .ref (B 6)), (1, .int p1)]) rfl (by decide) rfl (Nat.le_of_ble_eq_true rfl) ?_
  intro p e s m below meth c A F
  replace F : Fx p s m _ meth c A E cX6_timeGate 8 none RX6 w_X6timeGate := F
  obtain ⟨X21, hX21⟩ : ∃ X : Int32 → Int32 → Int32 → Int32 → VS → Prop, X = fun l1 l2 l3 l4 σ => WB p l e (({ frames := 3, cells := 0, slots := 0, locals := 100 } : Room)) s m (#[.ref (B 6), .int p1]) below meth c (MQ below (va_Qv (fun w => ∃ σ' : VS, Q σ' ∧ w = wc E B σ') (AftU E A) A) (#[.ref (B 6), .int p1]) s (({ frames := 3, cells := 0, slots := 0, locals := 100 } : Room)).cells (({ frames := 3, cells := 0, slots := 0, locals := 100 } : Room)).slots A) A E (wc E B) 8 21 [(0, .ref (B 6)), (1, .int l1), (2, .int l2), (3, .int l3), (4, .int l4)] [] σ := ⟨_, rfl⟩
  have U_21 : ∀ (l1 : Int32) (l2 : Int32) (l3 : Int32) (l4 : Int32) (σ : VS), X21 l1 l2 l3 l4 σ → WB p l e (({ frames := 3, cells := 0, slots := 0, locals := 100 } : Room)) s m (#[.ref (B 6), .int p1]) below meth c (MQ below (va_Qv (fun w => ∃ σ' : VS, Q σ' ∧ w = wc E B σ') (AftU E A) A) (#[.ref (B 6), .int p1]) s (({ frames := 3, cells := 0, slots := 0, locals := 100 } : Room)).cells (({ frames := 3, cells := 0, slots := 0, locals := 100 } : Room)).slots A) A E (wc E B) 8 21 [(0, .ref (B 6)), (1, .int l1), (2, .int l2), (3, .int l3), (4, .int l4)] [] σ := by
    intro l1 l2 l3 l4 σ hw; rw [hX21] at hw; exact hw
  obtain ⟨X64, hX64⟩ : ∃ X : Int32 → Int32 → Int32 → Int32 → Int32 → Int32 → VS → Prop, X = fun l1 l2 l3 l4 l5 l6 σ => WB p l e (({ frames := 3, cells := 0, slots := 0, locals := 100 } : Room)) s m (#[.ref (B 6), .int p1]) below meth c (MQ below (va_Qv (fun w => ∃ σ' : VS, Q σ' ∧ w = wc E B σ') (AftU E A) A) (#[.ref (B 6), .int p1]) s (({ frames := 3, cells := 0, slots := 0, locals := 100 } : Room)).cells (({ frames := 3, cells := 0, slots := 0, locals := 100 } : Room)).slots A) A E (wc E B) 8 64 [(0, .ref (B 6)), (1, .int l1), (2, .int l2), (3, .int l3), (4, .int l4), (5, .int l5), (6, .int l6)] [] σ := ⟨_, rfl⟩
  have U_64 : ∀ (l1 : Int32) (l2 : Int32) (l3 : Int32) (l4 : Int32) (l5 : Int32) (l6 : Int32) (σ : VS), X64 l1 l2 l3 l4 l5 l6 σ → WB p l e (({ frames := 3, cells := 0, slots := 0, locals := 100 } : Room)) s m (#[.ref (B 6), .int p1]) below meth c (MQ below (va_Qv (fun w => ∃ σ' : VS, Q σ' ∧ w = wc E B σ') (AftU E A) A) (#[.ref (B 6), .int p1]) s (({ frames := 3, cells := 0, slots := 0, locals := 100 } : Room)).cells (({ frames := 3, cells := 0, slots := 0, locals := 100 } : Room)).slots A) A E (wc E B) 8 64 [(0, .ref (B 6)), (1, .int l1), (2, .int l2), (3, .int l3), (4, .int l4), (5, .int l5), (6, .int l6)] [] σ := by
    intro l1 l2 l3 l4 l5 l6 σ hw; rw [hX64] at hw; exact hw
  have J_181 : ∀ (l1 : Int32) (l2 : Int32) (l3 : Int32) (l4 : Int32) (σ : VS), b_X6timeGate_181 X21 X64 Q l1 l2 l3 l4 σ → WB p l e (({ frames := 3, cells := 0, slots := 0, locals := 100 } : Room)) s m (#[.ref (B 6), .int p1]) below meth c (MQ below (va_Qv (fun w => ∃ σ' : VS, Q σ' ∧ w = wc E B σ') (AftU E A) A) (#[.ref (B 6), .int p1]) s (({ frames := 3, cells := 0, slots := 0, locals := 100 } : Room)).cells (({ frames := 3, cells := 0, slots := 0, locals := 100 } : Room)).slots A) A E (wc E B) 8 181 [(0, .ref (B 6)), (1, .int l1), (2, .int l2), (3, .int l3), (4, .int l4)] [] σ := by
    intro l1 l2 l3 l4 σ hw
    unfold b_X6timeGate_181 at hw
    refine R_iinc (q := 4) (v := (l4 + 1)) (lv' := [(4, .int (l4 + 1)), (0, .ref (B 6)), (1, .int l1), (2, .int l2), (3, .int l3)]) F dX6_timeGate_181 rfl rfl (by decide) rfl ?_
    refine R_goto (tgt := 21) F dX6_timeGate_184 (by decide) ?_
    exact R_sub [1, 2, 3, 4, 0] rfl (U_21 l1 l2 l3 (l4 + 1) σ hw)
  have J_175 : ∀ (l1 : Int32) (l2 : Int32) (l3 : Int32) (l4 : Int32) (l5 : Int32) (l6 : Int32) (σ : VS), b_X6timeGate_175 X21 X64 Q l1 l2 l3 l4 l5 l6 σ → WB p l e (({ frames := 3, cells := 0, slots := 0, locals := 100 } : Room)) s m (#[.ref (B 6), .int p1]) below meth c (MQ below (va_Qv (fun w => ∃ σ' : VS, Q σ' ∧ w = wc E B σ') (AftU E A) A) (#[.ref (B 6), .int p1]) s (({ frames := 3, cells := 0, slots := 0, locals := 100 } : Room)).cells (({ frames := 3, cells := 0, slots := 0, locals := 100 } : Room)).slots A) A E (wc E B) 8 175 [(0, .ref (B 6)), (1, .int l1), (2, .int l2), (3, .int l3), (4, .int l4), (5, .int l5), (6, .int l6)] [] σ := by
    intro l1 l2 l3 l4 l5 l6 σ hw
    unfold b_X6timeGate_175 at hw
    refine R_iinc (q := 6) (v := (l6 + 1)) (lv' := [(6, .int (l6 + 1)), (0, .ref (B 6)), (1, .int l1), (2, .int l2), (3, .int l3), (4, .int l4), (5, .int l5)]) F dX6_timeGate_175 rfl rfl (by decide) rfl ?_
    refine R_goto (tgt := 64) F dX6_timeGate_178 (by decide) ?_
    exact R_sub [1, 2, 3, 4, 5, 6, 0] rfl (U_64 l1 l2 l3 l4 l5 (l6 + 1) σ hw)
  have J_49 : ∀ (l1 : Int32) (l2 : Int32) (l3 : Int32) (l4 : Int32) (k0 : Int32) (σ : VS), b_X6timeGate_49 X21 X64 Q l1 l2 l3 l4 k0 σ → WB p l e (({ frames := 3, cells := 0, slots := 0, locals := 100 } : Room)) s m (#[.ref (B 6), .int p1]) below meth c (MQ below (va_Qv (fun w => ∃ σ' : VS, Q σ' ∧ w = wc E B σ') (AftU E A) A) (#[.ref (B 6), .int p1]) s (({ frames := 3, cells := 0, slots := 0, locals := 100 } : Room)).cells (({ frames := 3, cells := 0, slots := 0, locals := 100 } : Room)).slots A) A E (wc E B) 8 49 [(0, .ref (B 6)), (1, .int l1), (2, .int l2), (3, .int l3), (4, .int l4)] [.int k0] σ := by
    intro l1 l2 l3 l4 k0 σ hw
    unfold b_X6timeGate_49 at hw
    refine R_istore (lv' := [(5, .int k0), (0, .ref (B 6)), (1, .int l1), (2, .int l2), (3, .int l3), (4, .int l4)]) F dX6_timeGate_49 (by decide) rfl ?_
    refine R_aload_n F dX6_timeGate_51 rfl 1 rfl ?_
    refine R_iload_n F dX6_timeGate_52 rfl 2 rfl ?_
    refine R_iconst F 2 dX6_timeGate_53 (by decide) ?_
    refine R_imul F dX6_timeGate_54 ?_
    refine R_iload F dX6_timeGate_55 5 rfl ?_
    refine R_iadd F dX6_timeGate_57 ?_
    refine R_callV (As := [.int ((l1 * 2) + l4)]) (C := RX6) (q0 := 6) (ci := 6) (N := 12) (T := TX6) (fs := cf_6 B) F (ct_X6clearPlace l E B _ ((l1 * 2) + l4) _ hw) (cwV 1 F.2.2.2.2.2.2.2.2.2.2 g_X6timeGate_X6clearPlace_109 rfl rfl rfl (by decide +kernel) ⟨Nat.le_of_ble_eq_true rfl, Nat.le_of_ble_eq_true rfl⟩) ⟨rfl, rfl⟩ rfl (fun _ => rfl) rfl rfl (Nat.le_of_ble_eq_true rfl) dX6_timeGate_58 (fun σ7 hw => ?_)
    refine R_iload_n F dX6_timeGate_61 rfl 3 rfl ?_
    refine R_istore (lv' := [(6, .int l2), (5, .int k0), (0, .ref (B 6)), (1, .int l1), (2, .int l2), (3, .int l3), (4, .int l4)]) F dX6_timeGate_62 (by decide) rfl ?_
    exact R_sub [2, 3, 4, 5, 6, 1, 0] rfl (U_64 l1 l2 l3 l4 k0 l2 σ7 hw)
  have C_21 : ∀ (l1 : Int32) (l2 : Int32) (l3 : Int32) (l4 : Int32) (σ : VS), b_X6timeGate_21 X21 X64 Q l1 l2 l3 l4 σ → X21 l1 l2 l3 l4 σ := by
    intro l1 l2 l3 l4 σ hw
    unfold b_X6timeGate_21 at hw
    rw [hX21]
    show WB p l e (({ frames := 3, cells := 0, slots := 0, locals := 100 } : Room)) s m (#[.ref (B 6), .int p1]) below meth c (MQ below (va_Qv (fun w => ∃ σ' : VS, Q σ' ∧ w = wc E B σ') (AftU E A) A) (#[.ref (B 6), .int p1]) s (({ frames := 3, cells := 0, slots := 0, locals := 100 } : Room)).cells (({ frames := 3, cells := 0, slots := 0, locals := 100 } : Room)).slots A) A E (wc E B) 8 21 [(0, .ref (B 6)), (1, .int l1), (2, .int l2), (3, .int l3), (4, .int l4)] [] σ
    refine R_iload F dX6_timeGate_21 4 rfl ?_
    refine R_iconst F 2 dX6_timeGate_23 (by decide) ?_
    refine R_icmp_ge (tgt := 187) F dX6_timeGate_24 (by decide) (fun hc => ?_) (fun hc => ?_)
    · replace hw := hw.1 hc
      exact R_vret (Qc := Q) F dX6_timeGate_187 hw
    · replace hw := hw.2 hc
      refine R_aload_n F dX6_timeGate_27 rfl 0 rfl ?_
      refine gc_RX6_37_6 F in_X6timeGate dX6_timeGate_28 ?_
      refine gc_RX6_63_1 F in_X6timeGate dX6_timeGate_31 ?_
      refine R_iload_n F dX6_timeGate_34 rfl 1 rfl ?_
      refine R_ldi F qc_11 dX6_timeGate_35 hw.1 ?_
      replace hw := hw.2
      refine R_iconst F 2 dX6_timeGate_36 (by decide) ?_
      refine R_icmp_ne (tgt := 47) F dX6_timeGate_37 (by decide) (fun hc => ?_) (fun hc => ?_)
      · replace hw := hw.1 hc
        refine R_iload F dX6_timeGate_47 4 rfl ?_
        exact R_sub [0, 1, 2, 3, 4] rfl (J_49 l1 l2 l3 l4 l4 σ hw)
      · replace hw := hw.2 hc
        refine R_iconst F 1 dX6_timeGate_40 (by decide) ?_
        refine R_iload F dX6_timeGate_41 4 rfl ?_
        refine R_isub F dX6_timeGate_43 ?_
        refine R_goto (tgt := 49) F dX6_timeGate_44 (by decide) ?_
        exact R_sub [0, 1, 2, 3, 4] rfl (J_49 l1 l2 l3 l4 (1 - l4) σ hw)
  have C_64 : ∀ (l1 : Int32) (l2 : Int32) (l3 : Int32) (l4 : Int32) (l5 : Int32) (l6 : Int32) (σ : VS), b_X6timeGate_64 X21 X64 Q l1 l2 l3 l4 l5 l6 σ → X64 l1 l2 l3 l4 l5 l6 σ := by
    intro l1 l2 l3 l4 l5 l6 σ hw
    unfold b_X6timeGate_64 at hw
    rw [hX64]
    show WB p l e (({ frames := 3, cells := 0, slots := 0, locals := 100 } : Room)) s m (#[.ref (B 6), .int p1]) below meth c (MQ below (va_Qv (fun w => ∃ σ' : VS, Q σ' ∧ w = wc E B σ') (AftU E A) A) (#[.ref (B 6), .int p1]) s (({ frames := 3, cells := 0, slots := 0, locals := 100 } : Room)).cells (({ frames := 3, cells := 0, slots := 0, locals := 100 } : Room)).slots A) A E (wc E B) 8 64 [(0, .ref (B 6)), (1, .int l1), (2, .int l2), (3, .int l3), (4, .int l4), (5, .int l5), (6, .int l6)] [] σ
    refine R_iload F dX6_timeGate_64 6 rfl ?_
    refine R_iload_n F dX6_timeGate_66 rfl 2 rfl ?_
    refine R_aload_n F dX6_timeGate_67 rfl 0 rfl ?_
    refine gc_RX6_37_6 F in_X6timeGate dX6_timeGate_68 ?_
    refine gc_RX6_131_1 F in_X6timeGate dX6_timeGate_71 ?_
    refine R_iload_n F dX6_timeGate_74 rfl 1 rfl ?_
    refine R_ldi F qc_12 dX6_timeGate_75 hw.1 ?_
    replace hw := hw.2
    refine R_iadd F dX6_timeGate_76 ?_
    refine R_icmp_ge (tgt := 181) F dX6_timeGate_77 (by decide) (fun hc => ?_) (fun hc => ?_)
    · replace hw := hw.1 hc
      exact R_sub [0, 1, 2, 3, 4] rfl (J_181 l1 l2 l3 l4 σ hw)
    · replace hw := hw.2 hc
      refine R_aload_n F dX6_timeGate_80 rfl 0 rfl ?_
      refine gc_RX6_15_6 F in_X6timeGate dX6_timeGate_81 ?_
      refine R_iload_n F dX6_timeGate_84 rfl 1 rfl ?_
      refine R_ldi F qc_40 dX6_timeGate_85 hw.1 ?_
      replace hw := hw.2
      refine R_if_ne (tgt := 181) F dX6_timeGate_86 (by decide) (fun hc => ?_) (fun hc => ?_)
      · replace hw := hw.1 hc
        exact R_sub [0, 1, 2, 3, 4] rfl (J_181 l1 l2 l3 l4 σ hw)
      · replace hw := hw.2 hc
        refine R_aload_n F dX6_timeGate_89 rfl 0 rfl ?_
        refine R_iload F dX6_timeGate_90 6 rfl ?_
        refine R_callI (As := [.int l6]) (C := RX6) (q0 := 6) (ci := 6) (N := 12) (T := TX6) (fs := cf_6 B) F (ct_X6isInputReached l E B _ l6 _ hw) (cwV 1 F.2.2.2.2.2.2.2.2.2.2 g_X6timeGate_X6isInputReached_85 rfl rfl rfl (by decide +kernel) ⟨Nat.le_of_ble_eq_true rfl, Nat.le_of_ble_eq_true rfl⟩) ⟨rfl, rfl⟩ rfl (fun _ => rfl) rfl rfl (Nat.le_of_ble_eq_true rfl) dX6_timeGate_92 (fun r8 σ9 hw => ?_)
        refine R_if_eq (tgt := 175) F dX6_timeGate_95 (by decide) (fun hc => ?_) (fun hc => ?_)
        · replace hw := hw.1 hc
          exact R_sub [0, 1, 2, 3, 4, 5, 6] rfl (J_175 l1 l2 l3 l4 l5 l6 σ9 hw)
        · replace hw := hw.2 hc
          refine R_aload_n F dX6_timeGate_98 rfl 0 rfl ?_
          refine gc_RX6_37_6 F in_X6timeGate dX6_timeGate_99 ?_
          refine gc_RX6_82_1 F in_X6timeGate dX6_timeGate_102 ?_
          refine R_iload F dX6_timeGate_105 6 rfl ?_
          refine R_ldi F qc_16 dX6_timeGate_107 hw.1 ?_
          replace hw := hw.2
          refine R_iconst F 2 dX6_timeGate_108 (by decide) ?_
          refine R_imul F dX6_timeGate_109 ?_
          refine R_iload F dX6_timeGate_110 5 rfl ?_
          refine R_iadd F dX6_timeGate_112 ?_
          refine R_topi (fun x10 ex10 => ?_)
          replace hw := hw x10 ex10
          refine R_istore (lv' := [(7, .int x10), (0, .ref (B 6)), (1, .int l1), (2, .int l2), (3, .int l3), (4, .int l4), (5, .int l5), (6, .int l6)]) F dX6_timeGate_113 (by decide) rfl ?_
          refine R_aload_n F dX6_timeGate_115 rfl 1 rfl ?_
          refine gc_RX6_15_6 F in_X6timeGate dX6_timeGate_116 ?_
          refine R_iload_n F dX6_timeGate_119 rfl 2 rfl ?_
          refine R_aload_n F dX6_timeGate_120 rfl 1 rfl ?_
          refine R_iload F dX6_timeGate_121 7 rfl ?_
          refine R_iload F dX6_timeGate_123 5 rfl ?_
          refine R_iload_n F dX6_timeGate_125 rfl 4 rfl ?_
          refine R_aload_n F dX6_timeGate_126 rfl 1 rfl ?_
          refine gc_RX6_25_6 F in_X6timeGate dX6_timeGate_127 ?_
          refine R_iload F dX6_timeGate_130 0 rfl ?_
          refine R_ldi F qc_43 dX6_timeGate_132 hw.1 ?_
          replace hw := hw.2
          refine R_aload_n F dX6_timeGate_133 rfl 1 rfl ?_
          refine gc_RX6_28_6 F in_X6timeGate dX6_timeGate_134 ?_
          refine R_iload F dX6_timeGate_137 0 rfl ?_
          refine R_ldi F qc_44 dX6_timeGate_139 hw.1 ?_
          replace hw := hw.2
          refine R_callI (As := [.int l6, .int l4, .int l3, .int (rd σ9 43 x10), .int (rd σ9 44 x10)]) (C := RX6) (q0 := 6) (ci := 6) (N := 12) (T := TX6) (fs := cf_6 B) F (ct_X6timeArc l E B _ l6 l4 l3 (rd σ9 43 x10) (rd σ9 44 x10) _ hw) (cwV 5 F.2.2.2.2.2.2.2.2.2.2 g_X6timeGate_X6timeArc_112 rfl rfl rfl (by decide +kernel) ⟨Nat.le_of_ble_eq_true rfl, Nat.le_of_ble_eq_true rfl⟩) ⟨rfl, rfl⟩ rfl (fun _ => rfl) rfl rfl (Nat.le_of_ble_eq_true rfl) dX6_timeGate_140 (fun r11 σ12 hw => ?_)
          have hi := hw.1
          replace hw := hw.2
          refine R_sti F qc_40 uc_40 dX6_timeGate_143 hi ?_
          refine R_aload_n F dX6_timeGate_144 rfl 1 rfl ?_
          refine gc_RX6_15_6 F in_X6timeGate dX6_timeGate_145 ?_
          refine R_iload_n F dX6_timeGate_148 rfl 2 rfl ?_
          refine R_ldi F qc_40 dX6_timeGate_149 hw.1 ?_
          replace hw := hw.2
          refine R_if_ne (tgt := 175) F dX6_timeGate_150 (by decide) (fun hc => ?_) (fun hc => ?_)
          · replace hw := hw.1 hc
            exact R_sub [1, 2, 3, 4, 5, 6, 7] rfl (J_175 l1 l2 l3 l4 l5 l6 (sa σ12 40 l1 r11) hw)
          · replace hw := hw.2 hc
            refine R_aload_n F dX6_timeGate_153 rfl 1 rfl ?_
            refine R_iload F dX6_timeGate_154 7 rfl ?_
            refine R_iload F dX6_timeGate_156 5 rfl ?_
            refine R_aload_n F dX6_timeGate_158 rfl 1 rfl ?_
            refine gc_RX6_31_6 F in_X6timeGate dX6_timeGate_159 ?_
            refine R_iload F dX6_timeGate_162 0 rfl ?_
            refine R_ldi F qc_45 dX6_timeGate_164 hw.1 ?_
            replace hw := hw.2
            refine R_aload_n F dX6_timeGate_165 rfl 1 rfl ?_
            refine gc_RX6_34_6 F in_X6timeGate dX6_timeGate_166 ?_
            refine R_iload F dX6_timeGate_169 0 rfl ?_
            refine R_ldi F qc_46 dX6_timeGate_171 hw.1 ?_
            replace hw := hw.2
            refine R_callV (As := [.int l6, .int l4, .int (rd (sa σ12 40 l1 r11) 45 x10), .int (rd (sa σ12 40 l1 r11) 46 x10)]) (C := RX6) (q0 := 6) (ci := 6) (N := 12) (T := TX6) (fs := cf_6 B) F (ct_X6arrive l E B _ l6 l4 (rd (sa σ12 40 l1 r11) 45 x10) (rd (sa σ12 40 l1 r11) 46 x10) _ hw) (cwV 4 F.2.2.2.2.2.2.2.2.2.2 g_X6timeGate_X6arrive_124 rfl rfl rfl (by decide +kernel) ⟨Nat.le_of_ble_eq_true rfl, Nat.le_of_ble_eq_true rfl⟩) ⟨rfl, rfl⟩ rfl (fun _ => rfl) rfl rfl (Nat.le_of_ble_eq_true rfl) dX6_timeGate_172 (fun σ14 hw => ?_)
            exact R_sub [1, 2, 3, 4, 5, 6, 7] rfl (J_175 l1 l2 l3 l4 l5 l6 σ14 hw)
  unfold wp_X6timeGate at hw
  replace hw := hw X21 X64 C_21 C_64
  refine R_iload_n F dX6_timeGate_0 rfl 1 rfl ?_
  refine R_iconst F 4 dX6_timeGate_1 (by decide) ?_
  refine R_imul F dX6_timeGate_2 ?_
  refine R_topi (fun x1 ex1 => ?_)
  replace hw := hw x1 ex1
  refine R_istore_n (lv' := [(2, .int x1), (0, .ref (B 6)), (1, .int p1)]) F dX6_timeGate_3 rfl (by decide) rfl ?_
  refine R_aload_n F dX6_timeGate_4 rfl 1 rfl ?_
  refine gc_RX6_37_6 F in_X6timeGate dX6_timeGate_5 ?_
  refine R_iload_n F dX6_timeGate_8 rfl 2 rfl ?_
  refine R_callI (As := [.int p1]) (C := RX1) (q0 := 1) (ci := 1) (N := 13) (T := TX1) (fs := cf_1 B) F (ct_X1loadOf l E B _ p1 _ hw) (cwV 1 F.2.2.2.2.2.2.2.2.2.2 g_X6timeGate_X1loadOf_102 rfl rfl rfl (by decide +kernel) ⟨Nat.le_of_ble_eq_true rfl, Nat.le_of_ble_eq_true rfl⟩) ⟨rfl, rfl⟩ rfl (fun _ => rfl) rfl rfl (Nat.le_of_ble_eq_true rfl) dX6_timeGate_9 (fun r2 σ3 hw => ?_)
  refine R_istore_n (lv' := [(3, .int r2), (2, .int x1), (0, .ref (B 6)), (1, .int p1)]) F dX6_timeGate_12 rfl (by decide) rfl ?_
  refine R_aload_n F dX6_timeGate_13 rfl 2 rfl ?_
  refine R_iload_n F dX6_timeGate_14 rfl 3 rfl ?_
  refine R_callV (As := [.int p1]) (C := RX6) (q0 := 6) (ci := 6) (N := 12) (T := TX6) (fs := cf_6 B) F (ct_X6takeInputs l E B _ p1 _ hw) (cwV 1 F.2.2.2.2.2.2.2.2.2.2 g_X6timeGate_X6takeInputs_128 rfl rfl rfl (by decide +kernel) ⟨Nat.le_of_ble_eq_true rfl, Nat.le_of_ble_eq_true rfl⟩) ⟨rfl, rfl⟩ rfl (fun _ => rfl) rfl rfl (Nat.le_of_ble_eq_true rfl) dX6_timeGate_15 (fun σ5 hw => ?_)
  refine R_iconst F 0 dX6_timeGate_18 (by decide) ?_
  refine R_istore (lv' := [(4, .int 0), (3, .int r2), (2, .int x1), (0, .ref (B 6)), (1, .int p1)]) F dX6_timeGate_19 (by decide) rfl ?_
  exact R_sub [3, 4, 2, 1, 0] rfl (U_21 p1 x1 r2 0 σ5 hw)
def b_X6run_80 (X2 : Int32 → VS → Prop) (X80 : Int32 → VS → Prop) (Q : VS → Prop) (l1 : Int32) (σ : VS) : Prop := (((σ.1 3).toInt ≤ l1.toInt → Q σ) ∧ (l1.toInt < (σ.1 3).toInt → (In l1 50 ∧ wp_X6timeGate (fun (σ8 : VS) => X80 (l1 + 1) σ8) (rd σ 19 l1) σ)))
def b_X6run_72 (X2 : Int32 → VS → Prop) (X80 : Int32 → VS → Prop) (Q : VS → Prop) (l1 : Int32) (σ : VS) : Prop := X2 (l1 + 1) σ
def b_X6run_2 (X2 : Int32 → VS → Prop) (X80 : Int32 → VS → Prop) (Q : VS → Prop) (l1 : Int32) (σ : VS) : Prop := (((σ.1 2).toInt ≤ l1.toInt → X80 0 σ) ∧ (l1.toInt < (σ.1 2).toInt → wp_X1isStart (fun (r1 : Int32) (σ2 : VS) => (In l1 50 ∧ (Bo r1 ∧ (In l1 50 ∧ (In l1 50 ∧ (((rd (sa (sa σ2 39 l1 r1) 40 l1 0) 11 l1).toInt ≠ 0 → (In l1 50 ∧ (((rd (sa (sa σ2 39 l1 r1) 40 l1 0) 11 l1).toInt ≠ 4 → b_X6run_72 X2 X80 Q l1 (sa (sa σ2 39 l1 r1) 40 l1 0)) ∧ ((rd (sa (sa σ2 39 l1 r1) 40 l1 0) 11 l1).toInt = 4 → wp_X6timeFlop (fun (σ4 : VS) => b_X6run_72 X2 X80 Q l1 σ4) l1 (sa (sa σ2 39 l1 r1) 40 l1 0))))) ∧ ((rd (sa (sa σ2 39 l1 r1) 40 l1 0) 11 l1).toInt = 0 → wp_X6timePort (fun (σ6 : VS) => b_X6run_72 X2 X80 Q l1 σ6) l1 (sa (sa σ2 39 l1 r1) 40 l1 0)))))))) l1 σ))
def wp_X6run (Q : VS → Prop) (σ : VS) : Prop := ∀ (X2 : Int32 → VS → Prop) (X80 : Int32 → VS → Prop), (∀ (l1 : Int32) (σ : VS), b_X6run_2 X2 X80 Q l1 σ → X2 l1 σ) → (∀ (l1 : Int32) (σ : VS), b_X6run_80 X2 X80 Q l1 σ → X80 l1 σ) → X2 0 σ
theorem dX6_run_0 : decode cX6_run 0 = .ok (.iconst 0, 1) := by decide +kernel
theorem dX6_run_1 : decode cX6_run 1 = .ok (.istore_n 1, 1) := by decide +kernel
theorem dX6_run_2 : decode cX6_run 2 = .ok (.iload_n 1, 1) := by decide +kernel
theorem dX6_run_3 : decode cX6_run 3 = .ok (.aload_n 0, 1) := by decide +kernel
theorem dX6_run_4 : decode cX6_run 4 = .ok (.getfield 37, 3) := by decide +kernel
theorem dX6_run_7 : decode cX6_run 7 = .ok (.getfield 53, 3) := by decide +kernel
theorem dX6_run_10 : decode cX6_run 10 = .ok (.if_icmp .ge 68, 3) := by decide +kernel
theorem dX6_run_78 : decode cX6_run 78 = .ok (.iconst 0, 1) := by decide +kernel
theorem dX6_run_79 : decode cX6_run 79 = .ok (.istore_n 1, 1) := by decide +kernel
theorem dX6_run_13 : decode cX6_run 13 = .ok (.aload_n 0, 1) := by decide +kernel
theorem dX6_run_14 : decode cX6_run 14 = .ok (.getfield 9, 3) := by decide +kernel
theorem dX6_run_17 : decode cX6_run 17 = .ok (.iload_n 1, 1) := by decide +kernel
theorem dX6_run_18 : decode cX6_run 18 = .ok (.aload_n 0, 1) := by decide +kernel
theorem dX6_run_19 : decode cX6_run 19 = .ok (.getfield 37, 3) := by decide +kernel
theorem dX6_run_22 : decode cX6_run 22 = .ok (.iload_n 1, 1) := by decide +kernel
theorem dX6_run_23 : decode cX6_run 23 = .ok (.invokevirtual 59, 3) := by decide +kernel
theorem dX6_run_26 : decode cX6_run 26 = .ok (.bastore, 1) := by decide +kernel
theorem dX6_run_27 : decode cX6_run 27 = .ok (.aload_n 0, 1) := by decide +kernel
theorem dX6_run_28 : decode cX6_run 28 = .ok (.getfield 15, 3) := by decide +kernel
theorem dX6_run_31 : decode cX6_run 31 = .ok (.iload_n 1, 1) := by decide +kernel
theorem dX6_run_32 : decode cX6_run 32 = .ok (.iconst 0, 1) := by decide +kernel
theorem dX6_run_33 : decode cX6_run 33 = .ok (.iastore, 1) := by decide +kernel
theorem dX6_run_34 : decode cX6_run 34 = .ok (.aload_n 0, 1) := by decide +kernel
theorem dX6_run_35 : decode cX6_run 35 = .ok (.getfield 37, 3) := by decide +kernel
theorem dX6_run_38 : decode cX6_run 38 = .ok (.getfield 63, 3) := by decide +kernel
theorem dX6_run_41 : decode cX6_run 41 = .ok (.iload_n 1, 1) := by decide +kernel
theorem dX6_run_42 : decode cX6_run 42 = .ok (.iaload, 1) := by decide +kernel
theorem dX6_run_43 : decode cX6_run 43 = .ok (.ifCond .ne 11, 3) := by decide +kernel
theorem dX6_run_54 : decode cX6_run 54 = .ok (.aload_n 0, 1) := by decide +kernel
theorem dX6_run_55 : decode cX6_run 55 = .ok (.getfield 37, 3) := by decide +kernel
theorem dX6_run_58 : decode cX6_run 58 = .ok (.getfield 63, 3) := by decide +kernel
theorem dX6_run_61 : decode cX6_run 61 = .ok (.iload_n 1, 1) := by decide +kernel
theorem dX6_run_62 : decode cX6_run 62 = .ok (.iaload, 1) := by decide +kernel
theorem dX6_run_63 : decode cX6_run 63 = .ok (.iconst 4, 1) := by decide +kernel
theorem dX6_run_64 : decode cX6_run 64 = .ok (.if_icmp .ne 8, 3) := by decide +kernel
theorem dX6_run_67 : decode cX6_run 67 = .ok (.aload_n 0, 1) := by decide +kernel
theorem dX6_run_68 : decode cX6_run 68 = .ok (.iload_n 1, 1) := by decide +kernel
theorem dX6_run_69 : decode cX6_run 69 = .ok (.invokevirtual 70, 3) := by decide +kernel
theorem dX6_run_46 : decode cX6_run 46 = .ok (.aload_n 0, 1) := by decide +kernel
theorem dX6_run_47 : decode cX6_run 47 = .ok (.iload_n 1, 1) := by decide +kernel
theorem dX6_run_48 : decode cX6_run 48 = .ok (.invokevirtual 66, 3) := by decide +kernel
theorem dX6_run_51 : decode cX6_run 51 = .ok (.goto 21, 3) := by decide +kernel
theorem dX6_run_80 : decode cX6_run 80 = .ok (.iload_n 1, 1) := by decide +kernel
theorem dX6_run_81 : decode cX6_run 81 = .ok (.aload_n 0, 1) := by decide +kernel
theorem dX6_run_82 : decode cX6_run 82 = .ok (.getfield 37, 3) := by decide +kernel
theorem dX6_run_85 : decode cX6_run 85 = .ok (.getfield 73, 3) := by decide +kernel
theorem dX6_run_88 : decode cX6_run 88 = .ok (.if_icmp .ge 22, 3) := by decide +kernel
theorem dX6_run_110 : decode cX6_run 110 = .ok (.return_, 1) := by decide +kernel
theorem dX6_run_91 : decode cX6_run 91 = .ok (.aload_n 0, 1) := by decide +kernel
theorem dX6_run_92 : decode cX6_run 92 = .ok (.aload_n 0, 1) := by decide +kernel
theorem dX6_run_93 : decode cX6_run 93 = .ok (.getfield 37, 3) := by decide +kernel
theorem dX6_run_96 : decode cX6_run 96 = .ok (.getfield 76, 3) := by decide +kernel
theorem dX6_run_99 : decode cX6_run 99 = .ok (.iload_n 1, 1) := by decide +kernel
theorem dX6_run_100 : decode cX6_run 100 = .ok (.iaload, 1) := by decide +kernel
theorem dX6_run_101 : decode cX6_run 101 = .ok (.invokevirtual 79, 3) := by decide +kernel
theorem dX6_run_104 : decode cX6_run 104 = .ok (.iinc 1 1, 3) := by decide +kernel
theorem dX6_run_107 : decode cX6_run 107 = .ok (.goto (-27), 3) := by decide +kernel
theorem dX6_run_72 : decode cX6_run 72 = .ok (.iinc 1 1, 3) := by decide +kernel
theorem dX6_run_75 : decode cX6_run 75 = .ok (.goto (-73), 3) := by decide +kernel
def wo_X6run : List Cond := [.code yX6_run cX6_run 2 none, .methodLink RX6 59 yX1_isStart, .instanceMethod yX1_isStart, .selects RX1 yX1_isStart yX1_isStart, .initialized RX1, .methodLink RX6 70 yX6_timeFlop, .instanceMethod yX6_timeFlop, .selects RX6 yX6_timeFlop yX6_timeFlop, .initialized RX6, .methodLink RX6 66 yX6_timePort, .instanceMethod yX6_timePort, .selects RX6 yX6_timePort yX6_timePort, .methodLink RX6 79 yX6_timeGate, .instanceMethod yX6_timeGate, .selects RX6 yX6_timeGate yX6_timeGate]
def wr_X6run : List Cond := (wfC ++ (w_X1isStart ++ (w_X6timeFlop ++ (w_X6timePort ++ (w_X6timeGate ++ ([]))))))
def w_X6run : List Cond := wo_X6run ++ wr_X6run
theorem wg_X6run : GW w_X6run := GW_app (GW_of (by decide +kernel)) (GW_app (wg_fC) (GW_app (wg_X1isStart) (GW_app (wg_X6timeFlop) (GW_app (wg_X6timePort) (GW_app (wg_X6timeGate) (GW_nil))))))
theorem in_X6run : ∀ w ∈ wfC, w ∈ w_X6run := fun _ h => List.mem_append_right _ (List.mem_append_left _ h)
theorem g_X6run_X1isStart_59 : GoodIn w_X6run (wsV RX6 59 RX1 yX1_isStart w_X1isStart) := goodIn_app (gi_left (goodIn_of _ (by decide +kernel))) (fun w h => ⟨List.mem_append_right _ (List.mem_append_right _ (List.mem_append_left _ h)), wg_X1isStart w h⟩)
theorem g_X6run_X6timeFlop_70 : GoodIn w_X6run (wsV RX6 70 RX6 yX6_timeFlop w_X6timeFlop) := goodIn_app (gi_left (goodIn_of _ (by decide +kernel))) (fun w h => ⟨List.mem_append_right _ (List.mem_append_right _ (List.mem_append_right _ (List.mem_append_left _ h))), wg_X6timeFlop w h⟩)
theorem g_X6run_X6timePort_66 : GoodIn w_X6run (wsV RX6 66 RX6 yX6_timePort w_X6timePort) := goodIn_app (gi_left (goodIn_of _ (by decide +kernel))) (fun w h => ⟨List.mem_append_right _ (List.mem_append_right _ (List.mem_append_right _ (List.mem_append_right _ (List.mem_append_left _ h)))), wg_X6timePort w h⟩)
theorem g_X6run_X6timeGate_79 : GoodIn w_X6run (wsV RX6 79 RX6 yX6_timeGate w_X6timeGate) := goodIn_app (gi_left (goodIn_of _ (by decide +kernel))) (fun w h => ⟨List.mem_append_right _ (List.mem_append_right _ (List.mem_append_right _ (List.mem_append_right _ (List.mem_append_right _ (List.mem_append_left _ h))))), wg_X6timeGate w h⟩)
set_option maxHeartbeats 4000000 in
set_option maxRecDepth 100000 in
theorem ct_X6run (l : Launch) (E : gE) (B : Nat → Nat) (Q : VS → Prop) (σ : VS) (hw : wp_X6run Q σ) : CtV l E yX6_run w_X6run (({ frames := 4, cells := 0, slots := 0, locals := 127 } : Room)) (wc E B σ) [.ref (B 6)] (fun w => ∃ σ' : VS, Q σ' ∧ w = wc E B σ') := by
  refine VC_V (cc := cX6_run) (mL := 2) (rt := none) (lv0 := [(0, .ref (B 6))]) rfl (by decide) rfl (Nat.le_of_ble_eq_true rfl) ?_
  intro p e s m below meth c A F
  replace F : Fx p s m _ meth c A E cX6_run 2 none RX6 w_X6run := F
  obtain ⟨X2, hX2⟩ : ∃ X : Int32 → VS → Prop, X = fun l1 σ => WB p l e (({ frames := 4, cells := 0, slots := 0, locals := 127 } : Room)) s m (#[.ref (B 6)]) below meth c (MQ below (va_Qv (fun w => ∃ σ' : VS, Q σ' ∧ w = wc E B σ') (AftU E A) A) (#[.ref (B 6)]) s (({ frames := 4, cells := 0, slots := 0, locals := 127 } : Room)).cells (({ frames := 4, cells := 0, slots := 0, locals := 127 } : Room)).slots A) A E (wc E B) 2 2 [(0, .ref (B 6)), (1, .int l1)] [] σ := ⟨_, rfl⟩
  have U_2 : ∀ (l1 : Int32) (σ : VS), X2 l1 σ → WB p l e (({ frames := 4, cells := 0, slots := 0, locals := 127 } : Room)) s m (#[.ref (B 6)]) below meth c (MQ below (va_Qv (fun w => ∃ σ' : VS, Q σ' ∧ w = wc E B σ') (AftU E A) A) (#[.ref (B 6)]) s (({ frames := 4, cells := 0, slots := 0, locals := 127 } : Room)).cells (({ frames := 4, cells := 0, slots := 0, locals := 127 } : Room)).slots A) A E (wc E B) 2 2 [(0, .ref (B 6)), (1, .int l1)] [] σ := by
    intro l1 σ hw; rw [hX2] at hw; exact hw
  obtain ⟨X80, hX80⟩ : ∃ X : Int32 → VS → Prop, X = fun l1 σ => WB p l e (({ frames := 4, cells := 0, slots := 0, locals := 127 } : Room)) s m (#[.ref (B 6)]) below meth c (MQ below (va_Qv (fun w => ∃ σ' : VS, Q σ' ∧ w = wc E B σ') (AftU E A) A) (#[.ref (B 6)]) s (({ frames := 4, cells := 0, slots := 0, locals := 127 } : Room)).cells (({ frames := 4, cells := 0, slots := 0, locals := 127 } : Room)).slots A) A E (wc E B) 2 80 [(0, .ref (B 6)), (1, .int l1)] [] σ := ⟨_, rfl⟩
  have U_80 : ∀ (l1 : Int32) (σ : VS), X80 l1 σ → WB p l e (({ frames := 4, cells := 0, slots := 0, locals := 127 } : Room)) s m (#[.ref (B 6)]) below meth c (MQ below (va_Qv (fun w => ∃ σ' : VS, Q σ' ∧ w = wc E B σ') (AftU E A) A) (#[.ref (B 6)]) s (({ frames := 4, cells := 0, slots := 0, locals := 127 } : Room)).cells (({ frames := 4, cells := 0, slots := 0, locals := 127 } : Room)).slots A) A E (wc E B) 2 80 [(0, .ref (B 6)), (1, .int l1)] [] σ := by
    intro l1 σ hw; rw [hX80] at hw; exact hw
  have J_72 : ∀ (l1 : Int32) (σ : VS), b_X6run_72 X2 X80 Q l1 σ → WB p l e (({ frames := 4, cells := 0, slots := 0, locals := 127 } : Room)) s m (#[.ref (B 6)]) below meth c (MQ below (va_Qv (fun w => ∃ σ' : VS, Q σ' ∧ w = wc E B σ') (AftU E A) A) (#[.ref (B 6)]) s (({ frames := 4, cells := 0, slots := 0, locals := 127 } : Room)).cells (({ frames := 4, cells := 0, slots := 0, locals := 127 } : Room)).slots A) A E (wc E B) 2 72 [(0, .ref (B 6)), (1, .int l1)] [] σ := by
    intro l1 σ hw
    unfold b_X6run_72 at hw
    refine R_iinc (q := 1) (v := (l1 + 1)) (lv' := [(1, .int (l1 + 1)), (0, .ref (B 6))]) F dX6_run_72 rfl rfl (by decide) rfl ?_
    refine R_goto (tgt := 2) F dX6_run_75 (by decide) ?_
    exact R_sub [1, 0] rfl (U_2 (l1 + 1) σ hw)
  have C_2 : ∀ (l1 : Int32) (σ : VS), b_X6run_2 X2 X80 Q l1 σ → X2 l1 σ := by
    intro l1 σ hw
    unfold b_X6run_2 at hw
    rw [hX2]
    show WB p l e (({ frames := 4, cells := 0, slots := 0, locals := 127 } : Room)) s m (#[.ref (B 6)]) below meth c (MQ below (va_Qv (fun w => ∃ σ' : VS, Q σ' ∧ w = wc E B σ') (AftU E A) A) (#[.ref (B 6)]) s (({ frames := 4, cells := 0, slots := 0, locals := 127 } : Room)).cells (({ frames := 4, cells := 0, slots := 0, locals := 127 } : Room)).slots A) A E (wc E B) 2 2 [(0, .ref (B 6)), (1, .int l1)] [] σ
    refine R_iload_n F dX6_run_2 rfl 1 rfl ?_
    refine R_aload_n F dX6_run_3 rfl 0 rfl ?_
    refine gc_RX6_37_6 F in_X6run dX6_run_4 ?_
    refine gc_RX6_53_1 F in_X6run dX6_run_7 ?_
    refine R_icmp_ge (tgt := 78) F dX6_run_10 (by decide) (fun hc => ?_) (fun hc => ?_)
    · replace hw := hw.1 hc
      refine R_iconst F 0 dX6_run_78 (by decide) ?_
      refine R_istore_n (lv' := [(1, .int 0), (0, .ref (B 6))]) F dX6_run_79 rfl (by decide) rfl ?_
      exact R_sub [1, 0] rfl (U_80 0 σ hw)
    · replace hw := hw.2 hc
      refine R_aload_n F dX6_run_13 rfl 0 rfl ?_
      refine gc_RX6_9_6 F in_X6run dX6_run_14 ?_
      refine R_iload_n F dX6_run_17 rfl 1 rfl ?_
      refine R_aload_n F dX6_run_18 rfl 0 rfl ?_
      refine gc_RX6_37_6 F in_X6run dX6_run_19 ?_
      refine R_iload_n F dX6_run_22 rfl 1 rfl ?_
      refine R_callI (As := [.int l1]) (C := RX1) (q0 := 1) (ci := 1) (N := 13) (T := TX1) (fs := cf_1 B) F (ct_X1isStart l E B _ l1 _ hw) (cwV 1 F.2.2.2.2.2.2.2.2.2.2 g_X6run_X1isStart_59 rfl rfl rfl (by decide +kernel) ⟨Nat.le_of_ble_eq_true rfl, Nat.le_of_ble_eq_true rfl⟩) ⟨rfl, rfl⟩ rfl (fun _ => rfl) rfl rfl (Nat.le_of_ble_eq_true rfl) dX6_run_23 (fun r1 σ2 hw => ?_)
      have hi := hw.1
      replace hw := hw.2
      have hbo := hw.1
      replace hw := hw.2
      refine R_stz F qc_39 uc_39 dX6_run_26 hi hbo ?_
      refine R_aload_n F dX6_run_27 rfl 0 rfl ?_
      refine gc_RX6_15_6 F in_X6run dX6_run_28 ?_
      refine R_iload_n F dX6_run_31 rfl 1 rfl ?_
      refine R_iconst F 0 dX6_run_32 (by decide) ?_
      have hi := hw.1
      replace hw := hw.2
      refine R_sti F qc_40 uc_40 dX6_run_33 hi ?_
      refine R_aload_n F dX6_run_34 rfl 0 rfl ?_
      refine gc_RX6_37_6 F in_X6run dX6_run_35 ?_
      refine gc_RX6_63_1 F in_X6run dX6_run_38 ?_
      refine R_iload_n F dX6_run_41 rfl 1 rfl ?_
      refine R_ldi F qc_11 dX6_run_42 hw.1 ?_
      replace hw := hw.2
      refine R_if_ne (tgt := 54) F dX6_run_43 (by decide) (fun hc => ?_) (fun hc => ?_)
      · replace hw := hw.1 hc
        refine R_aload_n F dX6_run_54 rfl 0 rfl ?_
        refine gc_RX6_37_6 F in_X6run dX6_run_55 ?_
        refine gc_RX6_63_1 F in_X6run dX6_run_58 ?_
        refine R_iload_n F dX6_run_61 rfl 1 rfl ?_
        refine R_ldi F qc_11 dX6_run_62 hw.1 ?_
        replace hw := hw.2
        refine R_iconst F 4 dX6_run_63 (by decide) ?_
        refine R_icmp_ne (tgt := 72) F dX6_run_64 (by decide) (fun hc => ?_) (fun hc => ?_)
        · replace hw := hw.1 hc
          exact R_sub [0, 1] rfl (J_72 l1 (sa (sa σ2 39 l1 r1) 40 l1 0) hw)
        · replace hw := hw.2 hc
          refine R_aload_n F dX6_run_67 rfl 0 rfl ?_
          refine R_iload_n F dX6_run_68 rfl 1 rfl ?_
          refine R_callV (As := [.int l1]) (C := RX6) (q0 := 6) (ci := 6) (N := 12) (T := TX6) (fs := cf_6 B) F (ct_X6timeFlop l E B _ l1 _ hw) (cwV 1 F.2.2.2.2.2.2.2.2.2.2 g_X6run_X6timeFlop_70 rfl rfl rfl (by decide +kernel) ⟨Nat.le_of_ble_eq_true rfl, Nat.le_of_ble_eq_true rfl⟩) ⟨rfl, rfl⟩ rfl (fun _ => rfl) rfl rfl (Nat.le_of_ble_eq_true rfl) dX6_run_69 (fun σ4 hw => ?_)
          exact R_sub [0, 1] rfl (J_72 l1 σ4 hw)
      · replace hw := hw.2 hc
        refine R_aload_n F dX6_run_46 rfl 0 rfl ?_
        refine R_iload_n F dX6_run_47 rfl 1 rfl ?_
        refine R_callV (As := [.int l1]) (C := RX6) (q0 := 6) (ci := 6) (N := 12) (T := TX6) (fs := cf_6 B) F (ct_X6timePort l E B _ l1 _ hw) (cwV 1 F.2.2.2.2.2.2.2.2.2.2 g_X6run_X6timePort_66 rfl rfl rfl (by decide +kernel) ⟨Nat.le_of_ble_eq_true rfl, Nat.le_of_ble_eq_true rfl⟩) ⟨rfl, rfl⟩ rfl (fun _ => rfl) rfl rfl (Nat.le_of_ble_eq_true rfl) dX6_run_48 (fun σ6 hw => ?_)
        refine R_goto (tgt := 72) F dX6_run_51 (by decide) ?_
        exact R_sub [0, 1] rfl (J_72 l1 σ6 hw)
  have C_80 : ∀ (l1 : Int32) (σ : VS), b_X6run_80 X2 X80 Q l1 σ → X80 l1 σ := by
    intro l1 σ hw
    unfold b_X6run_80 at hw
    rw [hX80]
    show WB p l e (({ frames := 4, cells := 0, slots := 0, locals := 127 } : Room)) s m (#[.ref (B 6)]) below meth c (MQ below (va_Qv (fun w => ∃ σ' : VS, Q σ' ∧ w = wc E B σ') (AftU E A) A) (#[.ref (B 6)]) s (({ frames := 4, cells := 0, slots := 0, locals := 127 } : Room)).cells (({ frames := 4, cells := 0, slots := 0, locals := 127 } : Room)).slots A) A E (wc E B) 2 80 [(0, .ref (B 6)), (1, .int l1)] [] σ
    refine R_iload_n F dX6_run_80 rfl 1 rfl ?_
    refine R_aload_n F dX6_run_81 rfl 0 rfl ?_
    refine gc_RX6_37_6 F in_X6run dX6_run_82 ?_
    refine gc_RX6_73_1 F in_X6run dX6_run_85 ?_
    refine R_icmp_ge (tgt := 110) F dX6_run_88 (by decide) (fun hc => ?_) (fun hc => ?_)
    · replace hw := hw.1 hc
      exact R_vret (Qc := Q) F dX6_run_110 hw
    · replace hw := hw.2 hc
      refine R_aload_n F dX6_run_91 rfl 0 rfl ?_
      refine R_aload_n F dX6_run_92 rfl 0 rfl ?_
      refine gc_RX6_37_6 F in_X6run dX6_run_93 ?_
      refine gc_RX6_76_1 F in_X6run dX6_run_96 ?_
      refine R_iload_n F dX6_run_99 rfl 1 rfl ?_
      refine R_ldi F qc_19 dX6_run_100 hw.1 ?_
      replace hw := hw.2
      refine R_callV (As := [.int (rd σ 19 l1)]) (C := RX6) (q0 := 6) (ci := 6) (N := 12) (T := TX6) (fs := cf_6 B) F (ct_X6timeGate l E B _ (rd σ 19 l1) _ hw) (cwV 1 F.2.2.2.2.2.2.2.2.2.2 g_X6run_X6timeGate_79 rfl rfl rfl (by decide +kernel) ⟨Nat.le_of_ble_eq_true rfl, Nat.le_of_ble_eq_true rfl⟩) ⟨rfl, rfl⟩ rfl (fun _ => rfl) rfl rfl (Nat.le_of_ble_eq_true rfl) dX6_run_101 (fun σ8 hw => ?_)
      refine R_iinc (q := 1) (v := (l1 + 1)) (lv' := [(1, .int (l1 + 1)), (0, .ref (B 6))]) F dX6_run_104 rfl rfl (by decide) rfl ?_
      refine R_goto (tgt := 80) F dX6_run_107 (by decide) ?_
      exact R_sub [1, 0] rfl (U_80 (l1 + 1) σ8 hw)
  unfold wp_X6run at hw
  replace hw := hw X2 X80 C_2 C_80
  refine R_iconst F 0 dX6_run_0 (by decide) ?_
  refine R_istore_n (lv' := [(1, .int 0), (0, .ref (B 6))]) F dX6_run_1 rfl (by decide) rfl ?_
  exact R_sub [1, 0] rfl (U_2 0 σ hw)
