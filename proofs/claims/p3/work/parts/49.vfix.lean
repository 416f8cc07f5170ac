def b_holdsAt_45 (Q : Int32 → VS → Prop) (k0 : Int32) (σ : VS) : Prop := (Bo k0 ∧ Q k0 σ)
def b_holdsAt_40 (Q : Int32 → VS → Prop) (σ : VS) : Prop := b_holdsAt_45 Q 1 σ
def wp_holdsAt (Q : Int32 → VS → Prop) (p1 : Int32) (σ : VS) : Prop := (∀ x1 : Int32, x1 = (σ.1 20) → wp_judge (fun (σ3 : VS) => wp_worstOf (fun (r4 : Int32) (σ5 : VS) => ((r4.toInt = (-5) → b_holdsAt_40 Q σ5) ∧ (r4.toInt ≠ (-5) → (In r4 50 ∧ (((rd σ5 46 r4).toInt < 0 → b_holdsAt_45 Q 0 σ5) ∧ (0 ≤ (rd σ5 46 r4).toInt → b_holdsAt_40 Q σ5)))))) 0 (sf σ3 20 x1)) (sf σ 20 p1))
theorem dX10_holdsAt_0 : decode cX10_holdsAt 0 = .ok (.aload_n 0, 1) := by decide +kernel
theorem dX10_holdsAt_1 : decode cX10_holdsAt 1 = .ok (.getfield 87, 3) := by decide +kernel
theorem dX10_holdsAt_4 : decode cX10_holdsAt 4 = .ok (.istore_n 2, 1) := by decide +kernel
theorem dX10_holdsAt_5 : decode cX10_holdsAt 5 = .ok (.aload_n 0, 1) := by decide +kernel
theorem dX10_holdsAt_6 : decode cX10_holdsAt 6 = .ok (.iload_n 1, 1) := by decide +kernel
theorem dX10_holdsAt_7 : decode cX10_holdsAt 7 = .ok (.putfield 87, 3) := by decide +kernel
theorem dX10_holdsAt_10 : decode cX10_holdsAt 10 = .ok (.aload_n 0, 1) := by decide +kernel
theorem dX10_holdsAt_11 : decode cX10_holdsAt 11 = .ok (.invokevirtual 316, 3) := by decide +kernel
theorem dX10_holdsAt_14 : decode cX10_holdsAt 14 = .ok (.aload_n 0, 1) := by decide +kernel
theorem dX10_holdsAt_15 : decode cX10_holdsAt 15 = .ok (.iload_n 2, 1) := by decide +kernel
theorem dX10_holdsAt_16 : decode cX10_holdsAt 16 = .ok (.putfield 87, 3) := by decide +kernel
theorem dX10_holdsAt_19 : decode cX10_holdsAt 19 = .ok (.aload_n 0, 1) := by decide +kernel
theorem dX10_holdsAt_20 : decode cX10_holdsAt 20 = .ok (.iconst 0, 1) := by decide +kernel
theorem dX10_holdsAt_21 : decode cX10_holdsAt 21 = .ok (.invokevirtual 322, 3) := by decide +kernel
theorem dX10_holdsAt_24 : decode cX10_holdsAt 24 = .ok (.istore_n 3, 1) := by decide +kernel
theorem dX10_holdsAt_25 : decode cX10_holdsAt 25 = .ok (.iload_n 3, 1) := by decide +kernel
theorem dX10_holdsAt_26 : decode cX10_holdsAt 26 = .ok (.bipush (-5), 2) := by decide +kernel
theorem dX10_holdsAt_28 : decode cX10_holdsAt 28 = .ok (.if_icmp .eq 12, 3) := by decide +kernel
theorem dX10_holdsAt_31 : decode cX10_holdsAt 31 = .ok (.aload_n 0, 1) := by decide +kernel
theorem dX10_holdsAt_32 : decode cX10_holdsAt 32 = .ok (.getfield 153, 3) := by decide +kernel
theorem dX10_holdsAt_35 : decode cX10_holdsAt 35 = .ok (.iload_n 3, 1) := by decide +kernel
theorem dX10_holdsAt_36 : decode cX10_holdsAt 36 = .ok (.iaload, 1) := by decide +kernel
theorem dX10_holdsAt_37 : decode cX10_holdsAt 37 = .ok (.ifCond .lt 7, 3) := by decide +kernel
theorem dX10_holdsAt_44 : decode cX10_holdsAt 44 = .ok (.iconst 0, 1) := by decide +kernel
theorem dX10_holdsAt_40 : decode cX10_holdsAt 40 = .ok (.iconst 1, 1) := by decide +kernel
theorem dX10_holdsAt_41 : decode cX10_holdsAt 41 = .ok (.goto 4, 3) := by decide +kernel
theorem dX10_holdsAt_45 : decode cX10_holdsAt 45 = .ok (.ireturn, 1) := by decide +kernel
def wo_holdsAt : List Cond := [.code yX10_holdsAt cX10_holdsAt 4 (some .boolean), .methodLink RX10 316 yX10_judge, .instanceMethod yX10_judge, .selects RX10 yX10_judge yX10_judge, .initialized RX10, .methodLink RX10 322 yX10_worstOf, .instanceMethod yX10_worstOf, .selects RX10 yX10_worstOf yX10_worstOf]
def wr_holdsAt : List Cond := (wfX10 ++ (w_judge ++ (w_worstOf ++ ([]))))
def w_holdsAt : List Cond := wo_holdsAt ++ wr_holdsAt
theorem wg_holdsAt : GW w_holdsAt := GW_app (GW_of (by decide +kernel)) (GW_app (wg_fX10) (GW_app (wg_judge) (GW_app (wg_worstOf) (GW_nil))))
theorem in_holdsAt : ∀ w ∈ wfX10, w ∈ w_holdsAt := fun _ h => List.mem_append_right _ (List.mem_append_left _ h)
theorem g_holdsAt_judge_316 : GoodIn w_holdsAt (wsV RX10 316 RX10 yX10_judge w_judge) := goodIn_app (gi_left (goodIn_of _ (by decide +kernel))) (fun w h => ⟨List.mem_append_right _ (List.mem_append_right _ (List.mem_append_left _ h)), wg_judge w h⟩)
theorem g_holdsAt_worstOf_322 : GoodIn w_holdsAt (wsV RX10 322 RX10 yX10_worstOf w_worstOf) := goodIn_app (gi_left (goodIn_of _ (by decide +kernel))) (fun w h => ⟨List.mem_append_right _ (List.mem_append_right _ (List.mem_append_right _ (List.mem_append_left _ h))), wg_worstOf w h⟩)
set_option maxHeartbeats 4000000 in
set_option maxRecDepth 100000 in
theorem ct_holdsAt (l : Launch) (E : gE) (B : Nat → Nat) (Q : Int32 → VS → Prop) (p1 : Int32) (σ : VS) (hw : wp_holdsAt Q p1 σ) : CtI l E yX10_holdsAt w_holdsAt (({ frames := 58, cells := 0, slots := 0, locals := 1420 } : Room)) (wm E B σ) [.ref (B 0), .int p1] (fun r w => ∃ σ' : VS, Q r σ' ∧ w = wm E B σ') := by
  refine VC_I (cc := cX10_holdsAt) (mL := 4) (rt := (some .boolean)) (lv0 := [(0, .ref (B 0)), (1, .int p1)]) rfl (by decide) rfl (Nat.le_of_ble_eq_true rfl) ?_
  intro p e s m below meth c A F
  replace F : Fx p s m _ meth c A E cX10_holdsAt 4 (some .boolean) RX10 w_holdsAt := F
  have J_45 : ∀ (k0 : Int32) (σ : VS), b_holdsAt_45 Q k0 σ → WB p l e (({ frames := 58, cells := 0, slots := 0, locals := 1420 } : Room)) s m (#[.ref (B 0), .int p1]) below meth c (MQ below (va_Qi (fun r w => ∃ σ' : VS, Q r σ' ∧ w = wm E B σ') (AftU E A) A) (#[.ref (B 0), .int p1]) s (({ frames := 58, cells := 0, slots := 0, locals := 1420 } : Room)).cells (({ frames := 58, cells := 0, slots := 0, locals := 1420 } : Room)).slots A) A E (wm E B) 4 45 [] [.int k0] σ := by
    intro k0 σ hw
    unfold b_holdsAt_45 at hw
    exact R_iret (Qc := Q) F (nb_01 hw.1) dX10_holdsAt_45 hw.2
  have J_40 : ∀ (σ : VS), b_holdsAt_40 Q σ → WB p l e (({ frames := 58, cells := 0, slots := 0, locals := 1420 } : Room)) s m (#[.ref (B 0), .int p1]) below meth c (MQ below (va_Qi (fun r w => ∃ σ' : VS, Q r σ' ∧ w = wm E B σ') (AftU E A) A) (#[.ref (B 0), .int p1]) s (({ frames := 58, cells := 0, slots := 0, locals := 1420 } : Room)).cells (({ frames := 58, cells := 0, slots := 0, locals := 1420 } : Room)).slots A) A E (wm E B) 4 40 [] [] σ := by
    intro σ hw
    unfold b_holdsAt_40 at hw
    refine R_iconst F 1 dX10_holdsAt_40 (by decide) ?_
    refine R_goto (tgt := 45) F dX10_holdsAt_41 (by decide) ?_
    exact R_sub [] rfl (J_45 1 σ hw)
  unfold wp_holdsAt at hw
  refine R_aload_n F dX10_holdsAt_0 rfl 0 rfl ?_
  refine gm_20 F in_holdsAt dX10_holdsAt_1 ?_
  refine R_topi (fun x1 ex1 => ?_)
  replace hw := hw x1 ex1
  refine R_istore_n (lv' := [(2, .int x1), (0, .ref (B 0)), (1, .int p1)]) F dX10_holdsAt_4 rfl (by decide) rfl ?_
  refine R_aload_n F dX10_holdsAt_5 rfl 1 rfl ?_
  refine R_iload_n F dX10_holdsAt_6 rfl 2 rfl ?_
  refine pm_20 F in_holdsAt dX10_holdsAt_7 ?_
  refine R_aload_n F dX10_holdsAt_10 rfl 1 rfl ?_
  refine R_callV (As := []) (C := RX10) (q0 := 0) (ci := 10) (N := 69) (T := TX10) (fs := mfl B) F (ct_judge l E B _ _ hw) (cwV 0 F.2.2.2.2.2.2.2.2.2.2 g_holdsAt_judge_316 rfl rfl rfl (by decide +kernel) ⟨Nat.le_of_ble_eq_true rfl, Nat.le_of_ble_eq_true rfl⟩) ⟨rfl, rfl⟩ rfl (fun _ => rfl) rfl rfl (Nat.le_of_ble_eq_true rfl) dX10_holdsAt_11 (fun σ3 hw => ?_)
  refine R_aload_n F dX10_holdsAt_14 rfl 1 rfl ?_
  refine R_iload_n F dX10_holdsAt_15 rfl 0 rfl ?_
  refine pm_20 F in_holdsAt dX10_holdsAt_16 ?_
  refine R_aload_n F dX10_holdsAt_19 rfl 1 rfl ?_
  refine R_iconst F 0 dX10_holdsAt_20 (by decide) ?_
  refine R_callI (As := [.int 0]) (C := RX10) (q0 := 0) (ci := 10) (N := 69) (T := TX10) (fs := mfl B) F (ct_worstOf l E B _ 0 _ hw) (cwV 1 F.2.2.2.2.2.2.2.2.2.2 g_holdsAt_worstOf_322 rfl rfl rfl (by decide +kernel) ⟨Nat.le_of_ble_eq_true rfl, Nat.le_of_ble_eq_true rfl⟩) ⟨rfl, rfl⟩ rfl (fun _ => rfl) rfl rfl (Nat.le_of_ble_eq_true rfl) dX10_holdsAt_21 (fun r4 σ5 hw => ?_)
  refine R_istore_n (lv' := [(3, .int r4), (2, .int x1), (0, .ref (B 0)), (1, .int p1)]) F dX10_holdsAt_24 rfl (by decide) rfl ?_
  refine R_iload_n F dX10_holdsAt_25 rfl 0 rfl ?_
  refine R_bipush F (-5) dX10_holdsAt_26 (by decide) ?_
  refine R_icmp_eq (tgt := 40) F dX10_holdsAt_28 (by decide) (fun hc => ?_) (fun hc => ?_)
  · replace hw := hw.1 hc
    exact R_sub [] rfl (J_40 σ5 hw)
  · replace hw := hw.2 hc
    refine R_aload_n F dX10_holdsAt_31 rfl 2 rfl ?_
    refine gm_46 F in_holdsAt dX10_holdsAt_32 ?_
    refine R_iload_n F dX10_holdsAt_35 rfl 0 rfl ?_
    refine R_ldi F qm_46 dX10_holdsAt_36 hw.1 ?_
    replace hw := hw.2
    refine R_if_lt (tgt := 44) F dX10_holdsAt_37 (by decide) (fun hc => ?_) (fun hc => ?_)
    · replace hw := hw.1 hc
      refine R_iconst F 0 dX10_holdsAt_44 (by decide) ?_
      exact R_sub [] rfl (J_45 0 σ5 hw)
    · replace hw := hw.2 hc
      exact R_sub [] rfl (J_40 σ5 hw)
def b_least_59 (X27 : Int32 → Int32 → VS → Prop) (Q : Int32 → VS → Prop) (l2 : Int32) (l3 : Int32) (σ : VS) : Prop := X27 l2 l3 σ
def b_least_27 (X27 : Int32 → Int32 → VS → Prop) (Q : Int32 → VS → Prop) (l2 : Int32) (l3 : Int32) (σ : VS) : Prop := (((l3 - l2).toInt ≤ 1 → Q l3 σ) ∧ (1 < (l3 - l2).toInt → (∀ x3 : Int32, x3 = ((l3 + l2) / 2) → wp_holdsAt (fun (r4 : Int32) (σ5 : VS) => ((r4.toInt = 0 → b_least_59 X27 Q x3 l3 σ5) ∧ (r4.toInt ≠ 0 → b_least_59 X27 Q l2 x3 σ5))) x3 σ)))
def b_least_11 (X27 : Int32 → Int32 → VS → Prop) (Q : Int32 → VS → Prop) (σ : VS) : Prop := Q (-1) σ
def wp_least (Q : Int32 → VS → Prop) (p1 : Int32) (σ : VS) : Prop := ∀ (X27 : Int32 → Int32 → VS → Prop), (∀ (l2 : Int32) (l3 : Int32) (σ : VS), b_least_27 X27 Q l2 l3 σ → X27 l2 l3 σ) → ((p1.toInt < 1 → b_least_11 X27 Q σ) ∧ (1 ≤ p1.toInt → ((p1.toInt ≤ 1000000 → wp_holdsAt (fun (r1 : Int32) (σ2 : VS) => ((r1.toInt ≠ 0 → X27 0 p1 σ2) ∧ (r1.toInt = 0 → Q 0 σ2))) p1 σ) ∧ (1000000 < p1.toInt → b_least_11 X27 Q σ))))
theorem dX10_least_0 : decode cX10_least 0 = .ok (.iload_n 1, 1) := by decide +kernel
theorem dX10_least_1 : decode cX10_least 1 = .ok (.iconst 1, 1) := by decide +kernel
theorem dX10_least_2 : decode cX10_least 2 = .ok (.if_icmp .lt 9, 3) := by decide +kernel
theorem dX10_least_5 : decode cX10_least 5 = .ok (.iload_n 1, 1) := by decide +kernel
theorem dX10_least_6 : decode cX10_least 6 = .ok (.ldc 218, 2) := by decide +kernel
theorem dX10_least_8 : decode cX10_least 8 = .ok (.if_icmp .le 5, 3) := by decide +kernel
theorem dX10_least_13 : decode cX10_least 13 = .ok (.aload_n 0, 1) := by decide +kernel
theorem dX10_least_14 : decode cX10_least 14 = .ok (.iload_n 1, 1) := by decide +kernel
theorem dX10_least_15 : decode cX10_least 15 = .ok (.invokevirtual 358, 3) := by decide +kernel
theorem dX10_least_18 : decode cX10_least 18 = .ok (.ifCond .ne 5, 3) := by decide +kernel
theorem dX10_least_23 : decode cX10_least 23 = .ok (.iconst 0, 1) := by decide +kernel
theorem dX10_least_24 : decode cX10_least 24 = .ok (.istore_n 2, 1) := by decide +kernel
theorem dX10_least_25 : decode cX10_least 25 = .ok (.iload_n 1, 1) := by decide +kernel
theorem dX10_least_26 : decode cX10_least 26 = .ok (.istore_n 3, 1) := by decide +kernel
theorem dX10_least_21 : decode cX10_least 21 = .ok (.iconst 0, 1) := by decide +kernel
theorem dX10_least_22 : decode cX10_least 22 = .ok (.ireturn, 1) := by decide +kernel
theorem dX10_least_11 : decode cX10_least 11 = .ok (.iconst (-1), 1) := by decide +kernel
theorem dX10_least_12 : decode cX10_least 12 = .ok (.ireturn, 1) := by decide +kernel
theorem dX10_least_27 : decode cX10_least 27 = .ok (.iload_n 3, 1) := by decide +kernel
theorem dX10_least_28 : decode cX10_least 28 = .ok (.iload_n 2, 1) := by decide +kernel
theorem dX10_least_29 : decode cX10_least 29 = .ok (.isub, 1) := by decide +kernel
theorem dX10_least_30 : decode cX10_least 30 = .ok (.iconst 1, 1) := by decide +kernel
theorem dX10_least_31 : decode cX10_least 31 = .ok (.if_icmp .le 31, 3) := by decide +kernel
theorem dX10_least_62 : decode cX10_least 62 = .ok (.iload_n 3, 1) := by decide +kernel
theorem dX10_least_63 : decode cX10_least 63 = .ok (.ireturn, 1) := by decide +kernel
theorem dX10_least_34 : decode cX10_least 34 = .ok (.iload_n 3, 1) := by decide +kernel
theorem dX10_least_35 : decode cX10_least 35 = .ok (.iload_n 2, 1) := by decide +kernel
theorem dX10_least_36 : decode cX10_least 36 = .ok (.iadd, 1) := by decide +kernel
theorem dX10_least_37 : decode cX10_least 37 = .ok (.iconst 2, 1) := by decide +kernel
theorem dX10_least_38 : decode cX10_least 38 = .ok (.idiv, 1) := by decide +kernel
theorem dX10_least_39 : decode cX10_least 39 = .ok (.istore 4, 2) := by decide +kernel
theorem dX10_least_41 : decode cX10_least 41 = .ok (.aload_n 0, 1) := by decide +kernel
theorem dX10_least_42 : decode cX10_least 42 = .ok (.iload 4, 2) := by decide +kernel
theorem dX10_least_44 : decode cX10_least 44 = .ok (.invokevirtual 358, 3) := by decide +kernel
theorem dX10_least_47 : decode cX10_least 47 = .ok (.ifCond .eq 9, 3) := by decide +kernel
theorem dX10_least_56 : decode cX10_least 56 = .ok (.iload 4, 2) := by decide +kernel
theorem dX10_least_58 : decode cX10_least 58 = .ok (.istore_n 2, 1) := by decide +kernel
theorem dX10_least_50 : decode cX10_least 50 = .ok (.iload 4, 2) := by decide +kernel
theorem dX10_least_52 : decode cX10_least 52 = .ok (.istore_n 3, 1) := by decide +kernel
theorem dX10_least_53 : decode cX10_least 53 = .ok (.goto 6, 3) := by decide +kernel
theorem dX10_least_59 : decode cX10_least 59 = .ok (.goto (-32), 3) := by decide +kernel
def wo_least : List Cond := [.code yX10_least cX10_least 5 (some .int), .constant RX10 218 1000000, .methodLink RX10 358 yX10_holdsAt, .instanceMethod yX10_holdsAt, .selects RX10 yX10_holdsAt yX10_holdsAt, .initialized RX10]
def wr_least : List Cond := (wfX10 ++ (w_holdsAt ++ ([])))
def w_least : List Cond := wo_least ++ wr_least
theorem wg_least : GW w_least := GW_app (GW_of (by decide +kernel)) (GW_app (wg_fX10) (GW_app (wg_holdsAt) (GW_nil)))
theorem in_least : ∀ w ∈ wfX10, w ∈ w_least := fun _ h => List.mem_append_right _ (List.mem_append_left _ h)
theorem g_least_holdsAt_358 : GoodIn w_least (wsV RX10 358 RX10 yX10_holdsAt w_holdsAt) := goodIn_app (gi_left (goodIn_of _ (by decide +kernel))) (fun w h => ⟨List.mem_append_right _ (List.mem_append_right _ (List.mem_append_left _ h)), wg_holdsAt w h⟩)
set_option maxHeartbeats 4000000 in
set_option maxRecDepth 100000 in
theorem ct_least (l : Launch) (E : gE) (B : Nat → Nat) (Q : Int32 → VS → Prop) (p1 : Int32) (σ : VS) (hw : wp_least Q p1 σ) : CtI l E yX10_least w_least (({ frames := 59, cells := 0, slots := 0, locals := 1443 } : Room)) (wm E B σ) [.ref (B 0), .int p1] (fun r w => ∃ σ' : VS, Q r σ' ∧ w = wm E B σ') := by
  refine VC_I (cc := cX10_least) (mL := 5) (rt := (some .int)) (lv0 := [(0, .ref (B 0)), (1, .int p1)]) rfl (by decide) rfl (Nat.le_of_ble_eq_true rfl) ?_
  intro p e s m below meth c A F
  replace F : Fx p s m _ meth c A E cX10_least 5 (some .int) RX10 w_least := F
  obtain ⟨X27, hX27⟩ : ∃ X : Int32 → Int32 → VS → Prop, X = fun l2 l3 σ => WB p l e (({ frames := 59, cells := 0, slots := 0, locals := 1443 } : Room)) s m (#[.ref (B 0), .int p1]) below meth c (MQ below (va_Qi (fun r w => ∃ σ' : VS, Q r σ' ∧ w = wm E B σ') (AftU E A) A) (#[.ref (B 0), .int p1]) s (({ frames := 59, cells := 0, slots := 0, locals := 1443 } : Room)).cells (({ frames := 59, cells := 0, slots := 0, locals := 1443 } : Room)).slots A) A E (wm E B) 5 27 [(0, .ref (B 0)), (2, .int l2), (3, .int l3)] [] σ := ⟨_, rfl⟩
  have U_27 : ∀ (l2 : Int32) (l3 : Int32) (σ : VS), X27 l2 l3 σ → WB p l e (({ frames := 59, cells := 0, slots := 0, locals := 1443 } : Room)) s m (#[.ref (B 0), .int p1]) below meth c (MQ below (va_Qi (fun r w => ∃ σ' : VS, Q r σ' ∧ w = wm E B σ') (AftU E A) A) (#[.ref (B 0), .int p1]) s (({ frames := 59, cells := 0, slots := 0, locals := 1443 } : Room)).cells (({ frames := 59, cells := 0, slots := 0, locals := 1443 } : Room)).slots A) A E (wm E B) 5 27 [(0, .ref (B 0)), (2, .int l2), (3, .int l3)] [] σ := by
    intro l2 l3 σ hw; rw [hX27] at hw; exact hw
  have J_59 : ∀ (l2 : Int32) (l3 : Int32) (σ : VS), b_least_59 X27 Q l2 l3 σ → WB p l e (({ frames := 59, cells := 0, slots := 0, locals := 1443 } : Room)) s m (#[.ref (B 0), .int p1]) below meth c (MQ below (va_Qi (fun r w => ∃ σ' : VS, Q r σ' ∧ w = wm E B σ') (AftU E A) A) (#[.ref (B 0), .int p1]) s (({ frames := 59, cells := 0, slots := 0, locals := 1443 } : Room)).cells (({ frames := 59, cells := 0, slots := 0, locals := 1443 } : Room)).slots A) A E (wm E B) 5 59 [(0, .ref (B 0)), (2, .int l2), (3, .int l3)] [] σ := by
    intro l2 l3 σ hw
    unfold b_least_59 at hw
    refine R_goto (tgt := 27) F dX10_least_59 (by decide) ?_
    exact R_sub [0, 1, 2] rfl (U_27 l2 l3 σ hw)
  have J_11 : ∀ (σ : VS), b_least_11 X27 Q σ → WB p l e (({ frames := 59, cells := 0, slots := 0, locals := 1443 } : Room)) s m (#[.ref (B 0), .int p1]) below meth c (MQ below (va_Qi (fun r w => ∃ σ' : VS, Q r σ' ∧ w = wm E B σ') (AftU E A) A) (#[.ref (B 0), .int p1]) s (({ frames := 59, cells := 0, slots := 0, locals := 1443 } : Room)).cells (({ frames := 59, cells := 0, slots := 0, locals := 1443 } : Room)).slots A) A E (wm E B) 5 11 [] [] σ := by
    intro σ hw
    unfold b_least_11 at hw
    refine R_iconst F (-1) dX10_least_11 (by decide) ?_
    exact R_iret (Qc := Q) F rfl dX10_least_12 hw
  have C_27 : ∀ (l2 : Int32) (l3 : Int32) (σ : VS), b_least_27 X27 Q l2 l3 σ → X27 l2 l3 σ := by
    intro l2 l3 σ hw
    unfold b_least_27 at hw
    rw [hX27]
    show WB p l e (({ frames := 59, cells := 0, slots := 0, locals := 1443 } : Room)) s m (#[.ref (B 0), .int p1]) below meth c (MQ below (va_Qi (fun r w => ∃ σ' : VS, Q r σ' ∧ w = wm E B σ') (AftU E A) A) (#[.ref (B 0), .int p1]) s (({ frames := 59, cells := 0, slots := 0, locals := 1443 } : Room)).cells (({ frames := 59, cells := 0, slots := 0, locals := 1443 } : Room)).slots A) A E (wm E B) 5 27 [(0, .ref (B 0)), (2, .int l2), (3, .int l3)] [] σ
    refine R_iload_n F dX10_least_27 rfl 2 rfl ?_
    refine R_iload_n F dX10_least_28 rfl 1 rfl ?_
    refine R_isub F dX10_least_29 ?_
    refine R_iconst F 1 dX10_least_30 (by decide) ?_
    refine R_icmp_le (tgt := 62) F dX10_least_31 (by decide) (fun hc => ?_) (fun hc => ?_)
    · replace hw := hw.1 hc
      refine R_iload_n F dX10_least_62 rfl 2 rfl ?_
      exact R_iret (Qc := Q) F rfl dX10_least_63 hw
    · replace hw := hw.2 hc
      refine R_iload_n F dX10_least_34 rfl 2 rfl ?_
      refine R_iload_n F dX10_least_35 rfl 1 rfl ?_
      refine R_iadd F dX10_least_36 ?_
      refine R_iconst F 2 dX10_least_37 (by decide) ?_
      refine R_idiv F dX10_least_38 (by decide) ?_
      refine R_topi (fun x3 ex3 => ?_)
      replace hw := hw x3 ex3
      refine R_istore (lv' := [(4, .int x3), (0, .ref (B 0)), (2, .int l2), (3, .int l3)]) F dX10_least_39 (by decide) rfl ?_
      refine R_aload_n F dX10_least_41 rfl 1 rfl ?_
      refine R_iload F dX10_least_42 0 rfl ?_
      refine R_callI (As := [.int x3]) (C := RX10) (q0 := 0) (ci := 10) (N := 69) (T := TX10) (fs := mfl B) F (ct_holdsAt l E B _ x3 _ hw) (cwV 1 F.2.2.2.2.2.2.2.2.2.2 g_least_holdsAt_358 rfl rfl rfl (by decide +kernel) ⟨Nat.le_of_ble_eq_true rfl, Nat.le_of_ble_eq_true rfl⟩) ⟨rfl, rfl⟩ rfl (fun _ => rfl) rfl rfl (Nat.le_of_ble_eq_true rfl) dX10_least_44 (fun r4 σ5 hw => ?_)
      refine R_if_eq (tgt := 56) F dX10_least_47 (by decide) (fun hc => ?_) (fun hc => ?_)
      · replace hw := hw.1 hc
        refine R_iload F dX10_least_56 0 rfl ?_
        refine R_istore_n (lv' := [(2, .int x3), (4, .int x3), (0, .ref (B 0)), (3, .int l3)]) F dX10_least_58 rfl (by decide) rfl ?_
        exact R_sub [2, 0, 3] rfl (J_59 x3 l3 σ5 hw)
      · replace hw := hw.2 hc
        refine R_iload F dX10_least_50 0 rfl ?_
        refine R_istore_n (lv' := [(3, .int x3), (4, .int x3), (0, .ref (B 0)), (2, .int l2)]) F dX10_least_52 rfl (by decide) rfl ?_
        refine R_goto (tgt := 59) F dX10_least_53 (by decide) ?_
        exact R_sub [2, 3, 0] rfl (J_59 l2 x3 σ5 hw)
  unfold wp_least at hw
  replace hw := hw X27 C_27
  refine R_iload_n F dX10_least_0 rfl 1 rfl ?_
  refine R_iconst F 1 dX10_least_1 (by decide) ?_
  refine R_icmp_lt (tgt := 11) F dX10_least_2 (by decide) (fun hc => ?_) (fun hc => ?_)
  · replace hw := hw.1 hc
    exact R_sub [] rfl (J_11 σ hw)
  · replace hw := hw.2 hc
    refine R_iload_n F dX10_least_5 rfl 1 rfl ?_
    refine R_ldc F 1000000 (List.mem_append_left _ (show Cond.constant RX10 218 1000000 ∈ wo_least by decide +kernel)) dX10_least_6 ?_
    refine R_icmp_le (tgt := 13) F dX10_least_8 (by decide) (fun hc => ?_) (fun hc => ?_)
    · replace hw := hw.1 hc
      refine R_aload_n F dX10_least_13 rfl 0 rfl ?_
      refine R_iload_n F dX10_least_14 rfl 1 rfl ?_
      refine R_callI (As := [.int p1]) (C := RX10) (q0 := 0) (ci := 10) (N := 69) (T := TX10) (fs := mfl B) F (ct_holdsAt l E B _ p1 _ hw) (cwV 1 F.2.2.2.2.2.2.2.2.2.2 g_least_holdsAt_358 rfl rfl rfl (by decide +kernel) ⟨Nat.le_of_ble_eq_true rfl, Nat.le_of_ble_eq_true rfl⟩) ⟨rfl, rfl⟩ rfl (fun _ => rfl) rfl rfl (Nat.le_of_ble_eq_true rfl) dX10_least_15 (fun r1 σ2 hw => ?_)
      refine R_if_ne (tgt := 23) F dX10_least_18 (by decide) (fun hc => ?_) (fun hc => ?_)
      · replace hw := hw.1 hc
        refine R_iconst F 0 dX10_least_23 (by decide) ?_
        refine R_istore_n (lv' := [(2, .int 0), (0, .ref (B 0)), (1, .int p1)]) F dX10_least_24 rfl (by decide) rfl ?_
        refine R_iload_n F dX10_least_25 rfl 2 rfl ?_
        refine R_istore_n (lv' := [(3, .int p1), (2, .int 0), (0, .ref (B 0)), (1, .int p1)]) F dX10_least_26 rfl (by decide) rfl ?_
        exact R_sub [2, 1, 0] rfl (U_27 0 p1 σ2 hw)
      · replace hw := hw.2 hc
        refine R_iconst F 0 dX10_least_21 (by decide) ?_
        exact R_iret (Qc := Q) F rfl dX10_least_22 hw
    · replace hw := hw.2 hc
      exact R_sub [] rfl (J_11 σ hw)
def b_grows_154 (X34 : Int32 → Int32 → Int32 → Int32 → VS → Prop) (Q : Int32 → VS → Prop) (l2 : Int32) (l3 : Int32) (l4 : Int32) (l5 : Int32) (σ : VS) : Prop := X34 l2 l3 l4 (l5 + 1) σ
def b_grows_143 (X34 : Int32 → Int32 → Int32 → Int32 → VS → Prop) (Q : Int32 → VS → Prop) (l2 : Int32) (l3 : Int32) (l4 : Int32) (l5 : Int32) (l6 : Int32) (σ : VS) : Prop := (In l6 50 ∧ (In l6 50 ∧ b_grows_154 X34 Q l2 l3 l4 l5 (sa σ 5 l6 ((rd σ 5 l6) - 1))))
def b_grows_34 (X34 : Int32 → Int32 → Int32 → Int32 → VS → Prop) (Q : Int32 → VS → Prop) (l2 : Int32) (l3 : Int32) (l4 : Int32) (l5 : Int32) (σ : VS) : Prop := (In l4 1000 ∧ ((((rd σ 52 l4) - 1).toInt ≤ l5.toInt → Q 0 σ) ∧ (l5.toInt < ((rd σ 52 l4) - 1).toInt → (In ((52 * l4) + l5) 52000 ∧ (∀ x8 : Int32, x8 = (rd σ 53 ((52 * l4) + l5)) → (In x8 50 ∧ (((rd σ 2 x8).toInt = 0 → b_grows_154 X34 Q l2 l3 l4 l5 σ) ∧ ((rd σ 2 x8).toInt ≠ 0 → (In x8 50 ∧ (((rd σ 5 x8).toInt ≤ 1 → (In x8 50 ∧ (In x8 50 ∧ wp_judge (fun (σ10 : VS) => wp_worstOf (fun (r11 : Int32) (σ12 : VS) => ((r11.toInt = (-5) → b_grows_143 X34 Q l2 l3 l4 l5 x8 σ12) ∧ (r11.toInt ≠ (-5) → (In r11 50 ∧ (((rd σ12 46 r11).toInt ≤ l2.toInt → b_grows_143 X34 Q l2 l3 l4 l5 x8 σ12) ∧ (l2.toInt < (rd σ12 46 r11).toInt → wp_worstOf (fun (r13 : Int32) (σ14 : VS) => (In r13 50 ∧ (((rd σ14 47 r13).toInt < l3.toInt → b_grows_143 X34 Q l2 l3 l4 l5 x8 σ14) ∧ (l3.toInt ≤ (rd σ14 47 r13).toInt → Q 1 σ14)))) 1 σ12)))))) 0 σ10) (sa σ 5 x8 ((rd σ 5 x8) + 1))))) ∧ (1 < (rd σ 5 x8).toInt → b_grows_154 X34 Q l2 l3 l4 l5 σ)))))))))))
def wp_grows (Q : Int32 → VS → Prop) (p1 : Int32) (σ : VS) : Prop := ∀ (X34 : Int32 → Int32 → Int32 → Int32 → VS → Prop), (∀ (l2 : Int32) (l3 : Int32) (l4 : Int32) (l5 : Int32) (σ : VS), b_grows_34 X34 Q l2 l3 l4 l5 σ → X34 l2 l3 l4 l5 σ) → (In p1 50 ∧ (∀ x1 : Int32, x1 = (rd σ 46 p1) → wp_worstOf (fun (r2 : Int32) (σ3 : VS) => (In r2 50 ∧ (∀ x4 : Int32, x4 = (rd σ3 47 r2) → wp_list (fun (σ6 : VS) => (∀ x7 : Int32, x7 = (rd σ6 55 0) → X34 x1 x4 x7 0 σ6)) p1 σ3))) 1 σ))
theorem dX10_grows_0 : decode cX10_grows 0 = .ok (.aload_n 0, 1) := by decide +kernel
theorem dX10_grows_1 : decode cX10_grows 1 = .ok (.getfield 153, 3) := by decide +kernel
theorem dX10_grows_4 : decode cX10_grows 4 = .ok (.iload_n 1, 1) := by decide +kernel
theorem dX10_grows_5 : decode cX10_grows 5 = .ok (.iaload, 1) := by decide +kernel
theorem dX10_grows_6 : decode cX10_grows 6 = .ok (.istore_n 2, 1) := by decide +kernel
theorem dX10_grows_7 : decode cX10_grows 7 = .ok (.aload_n 0, 1) := by decide +kernel
theorem dX10_grows_8 : decode cX10_grows 8 = .ok (.getfield 156, 3) := by decide +kernel
theorem dX10_grows_11 : decode cX10_grows 11 = .ok (.aload_n 0, 1) := by decide +kernel
theorem dX10_grows_12 : decode cX10_grows 12 = .ok (.iconst 1, 1) := by decide +kernel
theorem dX10_grows_13 : decode cX10_grows 13 = .ok (.invokevirtual 322, 3) := by decide +kernel
theorem dX10_grows_16 : decode cX10_grows 16 = .ok (.iaload, 1) := by decide +kernel
theorem dX10_grows_17 : decode cX10_grows 17 = .ok (.istore_n 3, 1) := by decide +kernel
theorem dX10_grows_18 : decode cX10_grows 18 = .ok (.aload_n 0, 1) := by decide +kernel
theorem dX10_grows_19 : decode cX10_grows 19 = .ok (.iload_n 1, 1) := by decide +kernel
theorem dX10_grows_20 : decode cX10_grows 20 = .ok (.invokevirtual 346, 3) := by decide +kernel
theorem dX10_grows_23 : decode cX10_grows 23 = .ok (.aload_n 0, 1) := by decide +kernel
theorem dX10_grows_24 : decode cX10_grows 24 = .ok (.getfield 178, 3) := by decide +kernel
theorem dX10_grows_27 : decode cX10_grows 27 = .ok (.iconst 0, 1) := by decide +kernel
theorem dX10_grows_28 : decode cX10_grows 28 = .ok (.iaload, 1) := by decide +kernel
theorem dX10_grows_29 : decode cX10_grows 29 = .ok (.istore 4, 2) := by decide +kernel
theorem dX10_grows_31 : decode cX10_grows 31 = .ok (.iconst 0, 1) := by decide +kernel
theorem dX10_grows_32 : decode cX10_grows 32 = .ok (.istore 5, 2) := by decide +kernel
theorem dX10_grows_34 : decode cX10_grows 34 = .ok (.iload 5, 2) := by decide +kernel
theorem dX10_grows_36 : decode cX10_grows 36 = .ok (.aload_n 0, 1) := by decide +kernel
theorem dX10_grows_37 : decode cX10_grows 37 = .ok (.getfield 168, 3) := by decide +kernel
theorem dX10_grows_40 : decode cX10_grows 40 = .ok (.iload 4, 2) := by decide +kernel
theorem dX10_grows_42 : decode cX10_grows 42 = .ok (.iaload, 1) := by decide +kernel
theorem dX10_grows_43 : decode cX10_grows 43 = .ok (.iconst 1, 1) := by decide +kernel
theorem dX10_grows_44 : decode cX10_grows 44 = .ok (.isub, 1) := by decide +kernel
theorem dX10_grows_45 : decode cX10_grows 45 = .ok (.if_icmp .ge 115, 3) := by decide +kernel
theorem dX10_grows_160 : decode cX10_grows 160 = .ok (.iconst 0, 1) := by decide +kernel
theorem dX10_grows_161 : decode cX10_grows 161 = .ok (.ireturn, 1) := by decide +kernel
theorem dX10_grows_48 : decode cX10_grows 48 = .ok (.aload_n 0, 1) := by decide +kernel
theorem dX10_grows_49 : decode cX10_grows 49 = .ok (.getfield 172, 3) := by decide +kernel
theorem dX10_grows_52 : decode cX10_grows 52 = .ok (.bipush 52, 2) := by decide +kernel
theorem dX10_grows_54 : decode cX10_grows 54 = .ok (.iload 4, 2) := by decide +kernel
theorem dX10_grows_56 : decode cX10_grows 56 = .ok (.imul, 1) := by decide +kernel
theorem dX10_grows_57 : decode cX10_grows 57 = .ok (.iload 5, 2) := by decide +kernel
theorem dX10_grows_59 : decode cX10_grows 59 = .ok (.iadd, 1) := by decide +kernel
theorem dX10_grows_60 : decode cX10_grows 60 = .ok (.iaload, 1) := by decide +kernel
theorem dX10_grows_61 : decode cX10_grows 61 = .ok (.istore 6, 2) := by decide +kernel
theorem dX10_grows_63 : decode cX10_grows 63 = .ok (.aload_n 0, 1) := by decide +kernel
theorem dX10_grows_64 : decode cX10_grows 64 = .ok (.getfield 18, 3) := by decide +kernel
theorem dX10_grows_67 : decode cX10_grows 67 = .ok (.iload 6, 2) := by decide +kernel
theorem dX10_grows_69 : decode cX10_grows 69 = .ok (.iaload, 1) := by decide +kernel
theorem dX10_grows_70 : decode cX10_grows 70 = .ok (.ifCond .eq 84, 3) := by decide +kernel
theorem dX10_grows_73 : decode cX10_grows 73 = .ok (.aload_n 0, 1) := by decide +kernel
theorem dX10_grows_74 : decode cX10_grows 74 = .ok (.getfield 24, 3) := by decide +kernel
theorem dX10_grows_77 : decode cX10_grows 77 = .ok (.iload 6, 2) := by decide +kernel
theorem dX10_grows_79 : decode cX10_grows 79 = .ok (.iaload, 1) := by decide +kernel
theorem dX10_grows_80 : decode cX10_grows 80 = .ok (.iconst 1, 1) := by decide +kernel
theorem dX10_grows_81 : decode cX10_grows 81 = .ok (.if_icmp .le 6, 3) := by decide +kernel
theorem dX10_grows_87 : decode cX10_grows 87 = .ok (.aload_n 0, 1) := by decide +kernel
theorem dX10_grows_88 : decode cX10_grows 88 = .ok (.getfield 24, 3) := by decide +kernel
theorem dX10_grows_91 : decode cX10_grows 91 = .ok (.iload 6, 2) := by decide +kernel
theorem dX10_grows_93 : decode cX10_grows 93 = .ok (.dup2, 1) := by decide +kernel
theorem dX10_grows_94 : decode cX10_grows 94 = .ok (.iaload, 1) := by decide +kernel
theorem dX10_grows_95 : decode cX10_grows 95 = .ok (.iconst 1, 1) := by decide +kernel
theorem dX10_grows_96 : decode cX10_grows 96 = .ok (.iadd, 1) := by decide +kernel
theorem dX10_grows_97 : decode cX10_grows 97 = .ok (.iastore, 1) := by decide +kernel
theorem dX10_grows_98 : decode cX10_grows 98 = .ok (.aload_n 0, 1) := by decide +kernel
theorem dX10_grows_99 : decode cX10_grows 99 = .ok (.invokevirtual 316, 3) := by decide +kernel
theorem dX10_grows_102 : decode cX10_grows 102 = .ok (.aload_n 0, 1) := by decide +kernel
theorem dX10_grows_103 : decode cX10_grows 103 = .ok (.iconst 0, 1) := by decide +kernel
theorem dX10_grows_104 : decode cX10_grows 104 = .ok (.invokevirtual 322, 3) := by decide +kernel
theorem dX10_grows_107 : decode cX10_grows 107 = .ok (.istore 7, 2) := by decide +kernel
theorem dX10_grows_109 : decode cX10_grows 109 = .ok (.iload 7, 2) := by decide +kernel
theorem dX10_grows_111 : decode cX10_grows 111 = .ok (.bipush (-5), 2) := by decide +kernel
theorem dX10_grows_113 : decode cX10_grows 113 = .ok (.if_icmp .eq 30, 3) := by decide +kernel
theorem dX10_grows_116 : decode cX10_grows 116 = .ok (.aload_n 0, 1) := by decide +kernel
theorem dX10_grows_117 : decode cX10_grows 117 = .ok (.getfield 153, 3) := by decide +kernel
theorem dX10_grows_120 : decode cX10_grows 120 = .ok (.iload 7, 2) := by decide +kernel
theorem dX10_grows_122 : decode cX10_grows 122 = .ok (.iaload, 1) := by decide +kernel
theorem dX10_grows_123 : decode cX10_grows 123 = .ok (.iload_n 2, 1) := by decide +kernel
theorem dX10_grows_124 : decode cX10_grows 124 = .ok (.if_icmp .le 19, 3) := by decide +kernel
theorem dX10_grows_127 : decode cX10_grows 127 = .ok (.aload_n 0, 1) := by decide +kernel
theorem dX10_grows_128 : decode cX10_grows 128 = .ok (.getfield 156, 3) := by decide +kernel
theorem dX10_grows_131 : decode cX10_grows 131 = .ok (.aload_n 0, 1) := by decide +kernel
theorem dX10_grows_132 : decode cX10_grows 132 = .ok (.iconst 1, 1) := by decide +kernel
theorem dX10_grows_133 : decode cX10_grows 133 = .ok (.invokevirtual 322, 3) := by decide +kernel
theorem dX10_grows_136 : decode cX10_grows 136 = .ok (.iaload, 1) := by decide +kernel
theorem dX10_grows_137 : decode cX10_grows 137 = .ok (.iload_n 3, 1) := by decide +kernel
theorem dX10_grows_138 : decode cX10_grows 138 = .ok (.if_icmp .lt 5, 3) := by decide +kernel
theorem dX10_grows_141 : decode cX10_grows 141 = .ok (.iconst 1, 1) := by decide +kernel
theorem dX10_grows_142 : decode cX10_grows 142 = .ok (.ireturn, 1) := by decide +kernel
theorem dX10_grows_84 : decode cX10_grows 84 = .ok (.goto 70, 3) := by decide +kernel
theorem dX10_grows_154 : decode cX10_grows 154 = .ok (.iinc 5 1, 3) := by decide +kernel
theorem dX10_grows_157 : decode cX10_grows 157 = .ok (.goto (-123), 3) := by decide +kernel
theorem dX10_grows_143 : decode cX10_grows 143 = .ok (.aload_n 0, 1) := by decide +kernel
theorem dX10_grows_144 : decode cX10_grows 144 = .ok (.getfield 24, 3) := by decide +kernel
theorem dX10_grows_147 : decode cX10_grows 147 = .ok (.iload 6, 2) := by decide +kernel
theorem dX10_grows_149 : decode cX10_grows 149 = .ok (.dup2, 1) := by decide +kernel
theorem dX10_grows_150 : decode cX10_grows 150 = .ok (.iaload, 1) := by decide +kernel
theorem dX10_grows_151 : decode cX10_grows 151 = .ok (.iconst 1, 1) := by decide +kernel
theorem dX10_grows_152 : decode cX10_grows 152 = .ok (.isub, 1) := by decide +kernel
theorem dX10_grows_153 : decode cX10_grows 153 = .ok (.iastore, 1) := by decide +kernel
def wo_grows : List Cond := [.code yX10_grows cX10_grows 8 (some .boolean), .methodLink RX10 322 yX10_worstOf, .instanceMethod yX10_worstOf, .selects RX10 yX10_worstOf yX10_worstOf, .initialized RX10, .methodLink RX10 346 yX10_list, .instanceMethod yX10_list, .selects RX10 yX10_list yX10_list, .methodLink RX10 316 yX10_judge, .instanceMethod yX10_judge, .selects RX10 yX10_judge yX10_judge]
def wr_grows : List Cond := (wfX10 ++ (w_worstOf ++ (w_list ++ (w_judge ++ ([])))))
def w_grows : List Cond := wo_grows ++ wr_grows
theorem wg_grows : GW w_grows := GW_app (GW_of (by decide +kernel)) (GW_app (wg_fX10) (GW_app (wg_worstOf) (GW_app (wg_list) (GW_app (wg_judge) (GW_nil)))))
theorem in_grows : ∀ w ∈ wfX10, w ∈ w_grows := fun _ h => List.mem_append_right _ (List.mem_append_left _ h)
theorem g_grows_worstOf_322 : GoodIn w_grows (wsV RX10 322 RX10 yX10_worstOf w_worstOf) := goodIn_app (gi_left (goodIn_of _ (by decide +kernel))) (fun w h => ⟨List.mem_append_right _ (List.mem_append_right _ (List.mem_append_left _ h)), wg_worstOf w h⟩)
theorem g_grows_list_346 : GoodIn w_grows (wsV RX10 346 RX10 yX10_list w_list) := goodIn_app (gi_left (goodIn_of _ (by decide +kernel))) (fun w h => ⟨List.mem_append_right _ (List.mem_append_right _ (List.mem_append_right _ (List.mem_append_left _ h))), wg_list w h⟩)
theorem g_grows_judge_316 : GoodIn w_grows (wsV RX10 316 RX10 yX10_judge w_judge) := goodIn_app (gi_left (goodIn_of _ (by decide +kernel))) (fun w h => ⟨List.mem_append_right _ (List.mem_append_right _ (List.mem_append_right _ (List.mem_append_right _ (List.mem_append_left _ h)))), wg_judge w h⟩)
set_option maxHeartbeats 4000000 in
set_option maxRecDepth 100000 in
theorem ct_grows (l : Launch) (E : gE) (B : Nat → Nat) (Q : Int32 → VS → Prop) (p1 : Int32) (σ : VS) (hw : wp_grows Q p1 σ) : CtI l E yX10_grows w_grows (({ frames := 58, cells := 0, slots := 0, locals := 1420 } : Room)) (wm E B σ) [.ref (B 0), .int p1] (fun r w => ∃ σ' : VS, Q r σ' ∧ w = wm E B σ') := by
  refine VC_I (cc := cX10_grows) (mL := 8) (rt := (some .boolean)) (lv0 := [(0, .ref (B 0)), (1, .int p1)]) rfl (by decide) rfl (Nat.le_of_ble_eq_true rfl) ?_
  intro p e s m below meth c A F
  replace F : Fx p s m _ meth c A E cX10_grows 8 (some .boolean) RX10 w_grows := F
  obtain ⟨X34, hX34⟩ : ∃ X : Int32 → Int32 → Int32 → Int32 → VS → Prop, X = fun l2 l3 l4 l5 σ => WB p l e (({ frames := 58, cells := 0, slots := 0, locals := 1420 } : Room)) s m (#[.ref (B 0), .int p1]) below meth c (MQ below (va_Qi (fun r w => ∃ σ' : VS, Q r σ' ∧ w = wm E B σ') (AftU E A) A) (#[.ref (B 0), .int p1]) s (({ frames := 58, cells := 0, slots := 0, locals := 1420 } : Room)).cells (({ frames := 58, cells := 0, slots := 0, locals := 1420 } : Room)).slots A) A E (wm E B) 8 34 [(0, .ref (B 0)), (2, .int l2), (3, .int l3), (4, .int l4), (5, .int l5)] [] σ := ⟨_, rfl⟩
  have U_34 : ∀ (l2 : Int32) (l3 : Int32) (l4 : Int32) (l5 : Int32) (σ : VS), X34 l2 l3 l4 l5 σ → WB p l e (({ frames := 58, cells := 0, slots := 0, locals := 1420 } : Room)) s m (#[.ref (B 0), .int p1]) below meth c (MQ below (va_Qi (fun r w => ∃ σ' : VS, Q r σ' ∧ w = wm E B σ') (AftU E A) A) (#[.ref (B 0), .int p1]) s (({ frames := 58, cells := 0, slots := 0, locals := 1420 } : Room)).cells (({ frames := 58, cells := 0, slots := 0, locals := 1420 } : Room)).slots A) A E (wm E B) 8 34 [(0, .ref (B 0)), (2, .int l2), (3, .int l3), (4, .int l4), (5, .int l5)] [] σ := by
    intro l2 l3 l4 l5 σ hw; rw [hX34] at hw; exact hw
  have J_154 : ∀ (l2 : Int32) (l3 : Int32) (l4 : Int32) (l5 : Int32) (σ : VS), b_grows_154 X34 Q l2 l3 l4 l5 σ → WB p l e (({ frames := 58, cells := 0, slots := 0, locals := 1420 } : Room)) s m (#[.ref (B 0), .int p1]) below meth c (MQ below (va_Qi (fun r w => ∃ σ' : VS, Q r σ' ∧ w = wm E B σ') (AftU E A) A) (#[.ref (B 0), .int p1]) s (({ frames := 58, cells := 0, slots := 0, locals := 1420 } : Room)).cells (({ frames := 58, cells := 0, slots := 0, locals := 1420 } : Room)).slots A) A E (wm E B) 8 154 [(0, .ref (B 0)), (2, .int l2), (3, .int l3), (4, .int l4), (5, .int l5)] [] σ := by
    intro l2 l3 l4 l5 σ hw
    unfold b_grows_154 at hw
    refine R_iinc (q := 4) (v := (l5 + 1)) (lv' := [(5, .int (l5 + 1)), (0, .ref (B 0)), (2, .int l2), (3, .int l3), (4, .int l4)]) F dX10_grows_154 rfl rfl (by decide) rfl ?_
    refine R_goto (tgt := 34) F dX10_grows_157 (by decide) ?_
    exact R_sub [1, 2, 3, 4, 0] rfl (U_34 l2 l3 l4 (l5 + 1) σ hw)
  have J_143 : ∀ (l2 : Int32) (l3 : Int32) (l4 : Int32) (l5 : Int32) (l6 : Int32) (σ : VS), b_grows_143 X34 Q l2 l3 l4 l5 l6 σ → WB p l e (({ frames := 58, cells := 0, slots := 0, locals := 1420 } : Room)) s m (#[.ref (B 0), .int p1]) below meth c (MQ below (va_Qi (fun r w => ∃ σ' : VS, Q r σ' ∧ w = wm E B σ') (AftU E A) A) (#[.ref (B 0), .int p1]) s (({ frames := 58, cells := 0, slots := 0, locals := 1420 } : Room)).cells (({ frames := 58, cells := 0, slots := 0, locals := 1420 } : Room)).slots A) A E (wm E B) 8 143 [(0, .ref (B 0)), (2, .int l2), (3, .int l3), (4, .int l4), (5, .int l5), (6, .int l6)] [] σ := by
    intro l2 l3 l4 l5 l6 σ hw
    unfold b_grows_143 at hw
    refine R_aload_n F dX10_grows_143 rfl 0 rfl ?_
    refine gm_5 F in_grows dX10_grows_144 ?_
    refine R_iload F dX10_grows_147 5 rfl ?_
    refine R_dup2 F dX10_grows_149 rfl rfl ?_
    refine R_ldi F qm_5 dX10_grows_150 hw.1 ?_
    replace hw := hw.2
    refine R_iconst F 1 dX10_grows_151 (by decide) ?_
    refine R_isub F dX10_grows_152 ?_
    have hi := hw.1
    replace hw := hw.2
    refine R_sti F qm_5 um_5 dX10_grows_153 hi ?_
    exact R_sub [0, 1, 2, 3, 4] rfl (J_154 l2 l3 l4 l5 (sa σ 5 l6 ((rd σ 5 l6) - 1)) hw)
  have C_34 : ∀ (l2 : Int32) (l3 : Int32) (l4 : Int32) (l5 : Int32) (σ : VS), b_grows_34 X34 Q l2 l3 l4 l5 σ → X34 l2 l3 l4 l5 σ := by
    intro l2 l3 l4 l5 σ hw
    unfold b_grows_34 at hw
    rw [hX34]
    show WB p l e (({ frames := 58, cells := 0, slots := 0, locals := 1420 } : Room)) s m (#[.ref (B 0), .int p1]) below meth c (MQ below (va_Qi (fun r w => ∃ σ' : VS, Q r σ' ∧ w = wm E B σ') (AftU E A) A) (#[.ref (B 0), .int p1]) s (({ frames := 58, cells := 0, slots := 0, locals := 1420 } : Room)).cells (({ frames := 58, cells := 0, slots := 0, locals := 1420 } : Room)).slots A) A E (wm E B) 8 34 [(0, .ref (B 0)), (2, .int l2), (3, .int l3), (4, .int l4), (5, .int l5)] [] σ
    refine R_iload F dX10_grows_34 4 rfl ?_
    refine R_aload_n F dX10_grows_36 rfl 0 rfl ?_
    refine gm_52 F in_grows dX10_grows_37 ?_
    refine R_iload F dX10_grows_40 3 rfl ?_
    refine R_ldi F qm_52 dX10_grows_42 hw.1 ?_
    replace hw := hw.2
    refine R_iconst F 1 dX10_grows_43 (by decide) ?_
    refine R_isub F dX10_grows_44 ?_
    refine R_icmp_ge (tgt := 160) F dX10_grows_45 (by decide) (fun hc => ?_) (fun hc => ?_)
    · replace hw := hw.1 hc
      refine R_iconst F 0 dX10_grows_160 (by decide) ?_
      exact R_iret (Qc := Q) F rfl dX10_grows_161 hw
    · replace hw := hw.2 hc
      refine R_aload_n F dX10_grows_48 rfl 0 rfl ?_
      refine gm_53 F in_grows dX10_grows_49 ?_
      refine R_bipush F 52 dX10_grows_52 (by decide) ?_
      refine R_iload F dX10_grows_54 3 rfl ?_
      refine R_imul F dX10_grows_56 ?_
      refine R_iload F dX10_grows_57 4 rfl ?_
      refine R_iadd F dX10_grows_59 ?_
      refine R_ldi F qm_53 dX10_grows_60 hw.1 ?_
      replace hw := hw.2
      refine R_topi (fun x8 ex8 => ?_)
      replace hw := hw x8 ex8
      refine R_istore (lv' := [(6, .int x8), (0, .ref (B 0)), (2, .int l2), (3, .int l3), (4, .int l4), (5, .int l5)]) F dX10_grows_61 (by decide) rfl ?_
      refine R_aload_n F dX10_grows_63 rfl 1 rfl ?_
      refine gm_2 F in_grows dX10_grows_64 ?_
      refine R_iload F dX10_grows_67 0 rfl ?_
      refine R_ldi F qm_2 dX10_grows_69 hw.1 ?_
      replace hw := hw.2
      refine R_if_eq (tgt := 154) F dX10_grows_70 (by decide) (fun hc => ?_) (fun hc => ?_)
      · replace hw := hw.1 hc
        exact R_sub [1, 2, 3, 4, 5] rfl (J_154 l2 l3 l4 l5 σ hw)
      · replace hw := hw.2 hc
        refine R_aload_n F dX10_grows_73 rfl 1 rfl ?_
        refine gm_5 F in_grows dX10_grows_74 ?_
        refine R_iload F dX10_grows_77 0 rfl ?_
        refine R_ldi F qm_5 dX10_grows_79 hw.1 ?_
        replace hw := hw.2
        refine R_iconst F 1 dX10_grows_80 (by decide) ?_
        refine R_icmp_le (tgt := 87) F dX10_grows_81 (by decide) (fun hc => ?_) (fun hc => ?_)
        · replace hw := hw.1 hc
          refine R_aload_n F dX10_grows_87 rfl 1 rfl ?_
          refine gm_5 F in_grows dX10_grows_88 ?_
          refine R_iload F dX10_grows_91 0 rfl ?_
          refine R_dup2 F dX10_grows_93 rfl rfl ?_
          refine R_ldi F qm_5 dX10_grows_94 hw.1 ?_
          replace hw := hw.2
          refine R_iconst F 1 dX10_grows_95 (by decide) ?_
          refine R_iadd F dX10_grows_96 ?_
          have hi := hw.1
          replace hw := hw.2
          refine R_sti F qm_5 um_5 dX10_grows_97 hi ?_
          refine R_aload_n F dX10_grows_98 rfl 1 rfl ?_
          refine R_callV (As := []) (C := RX10) (q0 := 0) (ci := 10) (N := 69) (T := TX10) (fs := mfl B) F (ct_judge l E B _ _ hw) (cwV 0 F.2.2.2.2.2.2.2.2.2.2 g_grows_judge_316 rfl rfl rfl (by decide +kernel) ⟨Nat.le_of_ble_eq_true rfl, Nat.le_of_ble_eq_true rfl⟩) ⟨rfl, rfl⟩ rfl (fun _ => rfl) rfl rfl (Nat.le_of_ble_eq_true rfl) dX10_grows_99 (fun σ10 hw => ?_)
          refine R_aload_n F dX10_grows_102 rfl 1 rfl ?_
          refine R_iconst F 0 dX10_grows_103 (by decide) ?_
          refine R_callI (As := [.int 0]) (C := RX10) (q0 := 0) (ci := 10) (N := 69) (T := TX10) (fs := mfl B) F (ct_worstOf l E B _ 0 _ hw) (cwV 1 F.2.2.2.2.2.2.2.2.2.2 g_grows_worstOf_322 rfl rfl rfl (by decide +kernel) ⟨Nat.le_of_ble_eq_true rfl, Nat.le_of_ble_eq_true rfl⟩) ⟨rfl, rfl⟩ rfl (fun _ => rfl) rfl rfl (Nat.le_of_ble_eq_true rfl) dX10_grows_104 (fun r11 σ12 hw => ?_)
          refine R_istore (lv' := [(7, .int r11), (6, .int x8), (0, .ref (B 0)), (2, .int l2), (3, .int l3), (4, .int l4), (5, .int l5)]) F dX10_grows_107 (by decide) rfl ?_
          refine R_iload F dX10_grows_109 0 rfl ?_
          refine R_bipush F (-5) dX10_grows_111 (by decide) ?_
          refine R_icmp_eq (tgt := 143) F dX10_grows_113 (by decide) (fun hc => ?_) (fun hc => ?_)
          · replace hw := hw.1 hc
            exact R_sub [2, 3, 4, 5, 6, 1] rfl (J_143 l2 l3 l4 l5 x8 σ12 hw)
          · replace hw := hw.2 hc
            refine R_aload_n F dX10_grows_116 rfl 2 rfl ?_
            refine gm_46 F in_grows dX10_grows_117 ?_
            refine R_iload F dX10_grows_120 0 rfl ?_
            refine R_ldi F qm_46 dX10_grows_122 hw.1 ?_
            replace hw := hw.2
            refine R_iload_n F dX10_grows_123 rfl 3 rfl ?_
            refine R_icmp_le (tgt := 143) F dX10_grows_124 (by decide) (fun hc => ?_) (fun hc => ?_)
            · replace hw := hw.1 hc
              exact R_sub [2, 3, 4, 5, 6, 1] rfl (J_143 l2 l3 l4 l5 x8 σ12 hw)
            · replace hw := hw.2 hc
              refine R_aload_n F dX10_grows_127 rfl 2 rfl ?_
              refine gm_47 F in_grows dX10_grows_128 ?_
              refine R_aload_n F dX10_grows_131 rfl 2 rfl ?_
              refine R_iconst F 1 dX10_grows_132 (by decide) ?_
              refine R_callI (As := [.int 1]) (C := RX10) (q0 := 0) (ci := 10) (N := 69) (T := TX10) (fs := mfl B) F (ct_worstOf l E B _ 1 _ hw) (cwV 1 F.2.2.2.2.2.2.2.2.2.2 g_grows_worstOf_322 rfl rfl rfl (by decide +kernel) ⟨Nat.le_of_ble_eq_true rfl, Nat.le_of_ble_eq_true rfl⟩) ⟨rfl, rfl⟩ rfl (fun _ => rfl) rfl rfl (Nat.le_of_ble_eq_true rfl) dX10_grows_133 (fun r13 σ14 hw => ?_)
              refine R_ldi F qm_47 dX10_grows_136 hw.1 ?_
              replace hw := hw.2
              refine R_iload_n F dX10_grows_137 rfl 4 rfl ?_
              refine R_icmp_lt (tgt := 143) F dX10_grows_138 (by decide) (fun hc => ?_) (fun hc => ?_)
              · replace hw := hw.1 hc
                exact R_sub [2, 3, 4, 5, 6, 1] rfl (J_143 l2 l3 l4 l5 x8 σ14 hw)
              · replace hw := hw.2 hc
                refine R_iconst F 1 dX10_grows_141 (by decide) ?_
                exact R_iret (Qc := Q) F rfl dX10_grows_142 hw
        · replace hw := hw.2 hc
          refine R_goto (tgt := 154) F dX10_grows_84 (by decide) ?_
          exact R_sub [1, 2, 3, 4, 5] rfl (J_154 l2 l3 l4 l5 σ hw)
  unfold wp_grows at hw
  replace hw := hw X34 C_34
  refine R_aload_n F dX10_grows_0 rfl 0 rfl ?_
  refine gm_46 F in_grows dX10_grows_1 ?_
  refine R_iload_n F dX10_grows_4 rfl 1 rfl ?_
  refine R_ldi F qm_46 dX10_grows_5 hw.1 ?_
  replace hw := hw.2
  refine R_topi (fun x1 ex1 => ?_)
  replace hw := hw x1 ex1
  refine R_istore_n (lv' := [(2, .int x1), (0, .ref (B 0)), (1, .int p1)]) F dX10_grows_6 rfl (by decide) rfl ?_
  refine R_aload_n F dX10_grows_7 rfl 1 rfl ?_
  refine gm_47 F in_grows dX10_grows_8 ?_
  refine R_aload_n F dX10_grows_11 rfl 1 rfl ?_
  refine R_iconst F 1 dX10_grows_12 (by decide) ?_
  refine R_callI (As := [.int 1]) (C := RX10) (q0 := 0) (ci := 10) (N := 69) (T := TX10) (fs := mfl B) F (ct_worstOf l E B _ 1 _ hw) (cwV 1 F.2.2.2.2.2.2.2.2.2.2 g_grows_worstOf_322 rfl rfl rfl (by decide +kernel) ⟨Nat.le_of_ble_eq_true rfl, Nat.le_of_ble_eq_true rfl⟩) ⟨rfl, rfl⟩ rfl (fun _ => rfl) rfl rfl (Nat.le_of_ble_eq_true rfl) dX10_grows_13 (fun r2 σ3 hw => ?_)
  refine R_ldi F qm_47 dX10_grows_16 hw.1 ?_
  replace hw := hw.2
  refine R_topi (fun x4 ex4 => ?_)
  replace hw := hw x4 ex4
  refine R_istore_n (lv' := [(3, .int x4), (2, .int x1), (0, .ref (B 0)), (1, .int p1)]) F dX10_grows_17 rfl (by decide) rfl ?_
  refine R_aload_n F dX10_grows_18 rfl 2 rfl ?_
  refine R_iload_n F dX10_grows_19 rfl 3 rfl ?_
  refine R_callV (As := [.int p1]) (C := RX10) (q0 := 0) (ci := 10) (N := 69) (T := TX10) (fs := mfl B) F (ct_list l E B _ p1 _ hw) (cwV 1 F.2.2.2.2.2.2.2.2.2.2 g_grows_list_346 rfl rfl rfl (by decide +kernel) ⟨Nat.le_of_ble_eq_true rfl, Nat.le_of_ble_eq_true rfl⟩) ⟨rfl, rfl⟩ rfl (fun _ => rfl) rfl rfl (Nat.le_of_ble_eq_true rfl) dX10_grows_20 (fun σ6 hw => ?_)
  refine R_aload_n F dX10_grows_23 rfl 2 rfl ?_
  refine gm_55 F in_grows dX10_grows_24 ?_
  refine R_iconst F 0 dX10_grows_27 (by decide) ?_
  refine R_ldi F qm_55 dX10_grows_28 (⟨by decide, by decide⟩ : In 0 1000) ?_
  refine R_topi (fun x7 ex7 => ?_)
  replace hw := hw x7 ex7
  refine R_istore (lv' := [(4, .int x7), (3, .int x4), (2, .int x1), (0, .ref (B 0)), (1, .int p1)]) F dX10_grows_29 (by decide) rfl ?_
  refine R_iconst F 0 dX10_grows_31 (by decide) ?_
  refine R_istore (lv' := [(5, .int 0), (4, .int x7), (3, .int x4), (2, .int x1), (0, .ref (B 0)), (1, .int p1)]) F dX10_grows_32 (by decide) rfl ?_
  exact R_sub [4, 3, 2, 1, 0] rfl (U_34 x1 x4 x7 0 σ6 hw)
def b_fix_74 (X4 : Int32 → Int32 → VS → Prop) (Q : Int32 → VS → Prop) (l1 : Int32) (σ : VS) : Prop := Q l1 σ
def b_fix_69 (X4 : Int32 → Int32 → VS → Prop) (Q : Int32 → VS → Prop) (l2 : Int32) (k0 : Int32) (k1 : Int32) (σ : VS) : Prop := (∀ x7 : Int32, x7 = (k1 + k0) → X4 x7 l2 σ)
def b_fix_51 (X4 : Int32 → Int32 → VS → Prop) (Q : Int32 → VS → Prop) (l1 : Int32) (σ : VS) : Prop := Q l1 σ
def b_fix_4 (X4 : Int32 → Int32 → VS → Prop) (Q : Int32 → VS → Prop) (l1 : Int32) (l2 : Int32) (σ : VS) : Prop := ((l2.toInt = 0 → b_fix_74 X4 Q l1 σ) ∧ (l2.toInt ≠ 0 → ((100 ≤ l1.toInt → b_fix_74 X4 Q l1 σ) ∧ (l1.toInt < 100 → wp_judge (fun (σ2 : VS) => wp_worstOf (fun (r3 : Int32) (σ4 : VS) => ((r3.toInt = (-5) → b_fix_51 X4 Q l1 σ4) ∧ (r3.toInt ≠ (-5) → (In r3 50 ∧ ((0 ≤ (rd σ4 46 r3).toInt → b_fix_51 X4 Q l1 σ4) ∧ ((rd σ4 46 r3).toInt < 0 → (In r3 50 ∧ (((rd σ4 45 r3).toInt ≠ 1000 → wp_grows (fun (r5 : Int32) (σ6 : VS) => ((r5.toInt = 0 → b_fix_69 X4 Q r5 0 l1 σ6) ∧ (r5.toInt ≠ 0 → b_fix_69 X4 Q r5 1 l1 σ6))) r3 σ4) ∧ ((rd σ4 45 r3).toInt = 1000 → b_fix_51 X4 Q l1 σ4))))))))) 0 σ2) σ))))
def wp_fix (Q : Int32 → VS → Prop) (σ : VS) : Prop := ∀ (X4 : Int32 → Int32 → VS → Prop), (∀ (l1 : Int32) (l2 : Int32) (σ : VS), b_fix_4 X4 Q l1 l2 σ → X4 l1 l2 σ) → X4 0 1 σ
theorem dX10_fix_0 : decode cX10_fix 0 = .ok (.iconst 0, 1) := by decide +kernel
theorem dX10_fix_1 : decode cX10_fix 1 = .ok (.istore_n 1, 1) := by decide +kernel
theorem dX10_fix_2 : decode cX10_fix 2 = .ok (.iconst 1, 1) := by decide +kernel
theorem dX10_fix_3 : decode cX10_fix 3 = .ok (.istore_n 2, 1) := by decide +kernel
theorem dX10_fix_4 : decode cX10_fix 4 = .ok (.iload_n 2, 1) := by decide +kernel
theorem dX10_fix_5 : decode cX10_fix 5 = .ok (.ifCond .eq 69, 3) := by decide +kernel
theorem dX10_fix_8 : decode cX10_fix 8 = .ok (.iload_n 1, 1) := by decide +kernel
theorem dX10_fix_9 : decode cX10_fix 9 = .ok (.bipush 100, 2) := by decide +kernel
theorem dX10_fix_11 : decode cX10_fix 11 = .ok (.if_icmp .ge 63, 3) := by decide +kernel
theorem dX10_fix_14 : decode cX10_fix 14 = .ok (.aload_n 0, 1) := by decide +kernel
theorem dX10_fix_15 : decode cX10_fix 15 = .ok (.invokevirtual 316, 3) := by decide +kernel
theorem dX10_fix_18 : decode cX10_fix 18 = .ok (.aload_n 0, 1) := by decide +kernel
theorem dX10_fix_19 : decode cX10_fix 19 = .ok (.iconst 0, 1) := by decide +kernel
theorem dX10_fix_20 : decode cX10_fix 20 = .ok (.invokevirtual 322, 3) := by decide +kernel
theorem dX10_fix_23 : decode cX10_fix 23 = .ok (.istore_n 3, 1) := by decide +kernel
theorem dX10_fix_24 : decode cX10_fix 24 = .ok (.iload_n 3, 1) := by decide +kernel
theorem dX10_fix_25 : decode cX10_fix 25 = .ok (.bipush (-5), 2) := by decide +kernel
theorem dX10_fix_27 : decode cX10_fix 27 = .ok (.if_icmp .eq 24, 3) := by decide +kernel
theorem dX10_fix_30 : decode cX10_fix 30 = .ok (.aload_n 0, 1) := by decide +kernel
theorem dX10_fix_31 : decode cX10_fix 31 = .ok (.getfield 153, 3) := by decide +kernel
theorem dX10_fix_34 : decode cX10_fix 34 = .ok (.iload_n 3, 1) := by decide +kernel
theorem dX10_fix_35 : decode cX10_fix 35 = .ok (.iaload, 1) := by decide +kernel
theorem dX10_fix_36 : decode cX10_fix 36 = .ok (.ifCond .ge 15, 3) := by decide +kernel
theorem dX10_fix_39 : decode cX10_fix 39 = .ok (.aload_n 0, 1) := by decide +kernel
theorem dX10_fix_40 : decode cX10_fix 40 = .ok (.getfield 150, 3) := by decide +kernel
theorem dX10_fix_43 : decode cX10_fix 43 = .ok (.iload_n 3, 1) := by decide +kernel
theorem dX10_fix_44 : decode cX10_fix 44 = .ok (.iaload, 1) := by decide +kernel
theorem dX10_fix_45 : decode cX10_fix 45 = .ok (.sipush 1000, 3) := by decide +kernel
theorem dX10_fix_48 : decode cX10_fix 48 = .ok (.if_icmp .ne 5, 3) := by decide +kernel
theorem dX10_fix_53 : decode cX10_fix 53 = .ok (.aload_n 0, 1) := by decide +kernel
theorem dX10_fix_54 : decode cX10_fix 54 = .ok (.iload_n 3, 1) := by decide +kernel
theorem dX10_fix_55 : decode cX10_fix 55 = .ok (.invokevirtual 361, 3) := by decide +kernel
theorem dX10_fix_58 : decode cX10_fix 58 = .ok (.istore_n 2, 1) := by decide +kernel
theorem dX10_fix_59 : decode cX10_fix 59 = .ok (.iload_n 1, 1) := by decide +kernel
theorem dX10_fix_60 : decode cX10_fix 60 = .ok (.iload_n 2, 1) := by decide +kernel
theorem dX10_fix_61 : decode cX10_fix 61 = .ok (.ifCond .eq 7, 3) := by decide +kernel
theorem dX10_fix_68 : decode cX10_fix 68 = .ok (.iconst 0, 1) := by decide +kernel
theorem dX10_fix_64 : decode cX10_fix 64 = .ok (.iconst 1, 1) := by decide +kernel
theorem dX10_fix_65 : decode cX10_fix 65 = .ok (.goto 4, 3) := by decide +kernel
theorem dX10_fix_74 : decode cX10_fix 74 = .ok (.iload_n 1, 1) := by decide +kernel
theorem dX10_fix_75 : decode cX10_fix 75 = .ok (.ireturn, 1) := by decide +kernel
theorem dX10_fix_51 : decode cX10_fix 51 = .ok (.iload_n 1, 1) := by decide +kernel
theorem dX10_fix_52 : decode cX10_fix 52 = .ok (.ireturn, 1) := by decide +kernel
theorem dX10_fix_69 : decode cX10_fix 69 = .ok (.iadd, 1) := by decide +kernel
theorem dX10_fix_70 : decode cX10_fix 70 = .ok (.istore_n 1, 1) := by decide +kernel
theorem dX10_fix_71 : decode cX10_fix 71 = .ok (.goto (-67), 3) := by decide +kernel
def wo_fix : List Cond := [.code yX10_fix cX10_fix 4 (some .int), .methodLink RX10 316 yX10_judge, .instanceMethod yX10_judge, .selects RX10 yX10_judge yX10_judge, .initialized RX10, .methodLink RX10 322 yX10_worstOf, .instanceMethod yX10_worstOf, .selects RX10 yX10_worstOf yX10_worstOf, .methodLink RX10 361 yX10_grows, .instanceMethod yX10_grows, .selects RX10 yX10_grows yX10_grows]
def wr_fix : List Cond := (wfX10 ++ (w_judge ++ (w_worstOf ++ (w_grows ++ ([])))))
def w_fix : List Cond := wo_fix ++ wr_fix
theorem wg_fix : GW w_fix := GW_app (GW_of (by decide +kernel)) (GW_app (wg_fX10) (GW_app (wg_judge) (GW_app (wg_worstOf) (GW_app (wg_grows) (GW_nil)))))
theorem in_fix : ∀ w ∈ wfX10, w ∈ w_fix := fun _ h => List.mem_append_right _ (List.mem_append_left _ h)
theorem g_fix_judge_316 : GoodIn w_fix (wsV RX10 316 RX10 yX10_judge w_judge) := goodIn_app (gi_left (goodIn_of _ (by decide +kernel))) (fun w h => ⟨List.mem_append_right _ (List.mem_append_right _ (List.mem_append_left _ h)), wg_judge w h⟩)
theorem g_fix_worstOf_322 : GoodIn w_fix (wsV RX10 322 RX10 yX10_worstOf w_worstOf) := goodIn_app (gi_left (goodIn_of _ (by decide +kernel))) (fun w h => ⟨List.mem_append_right _ (List.mem_append_right _ (List.mem_append_right _ (List.mem_append_left _ h))), wg_worstOf w h⟩)
theorem g_fix_grows_361 : GoodIn w_fix (wsV RX10 361 RX10 yX10_grows w_grows) := goodIn_app (gi_left (goodIn_of _ (by decide +kernel))) (fun w h => ⟨List.mem_append_right _ (List.mem_append_right _ (List.mem_append_right _ (List.mem_append_right _ (List.mem_append_left _ h)))), wg_grows w h⟩)
set_option maxHeartbeats 4000000 in
set_option maxRecDepth 100000 in
theorem ct_fix (l : Launch) (E : gE) (B : Nat → Nat) (Q : Int32 → VS → Prop) (σ : VS) (hw : wp_fix Q σ) : CtI l E yX10_fix w_fix (({ frames := 59, cells := 0, slots := 0, locals := 1447 } : Room)) (wm E B σ) [.ref (B 0)] (fun r w => ∃ σ' : VS, Q r σ' ∧ w = wm E B σ') := by
  refine VC_I (cc := cX10_fix) (mL := 4) (rt := (some .int)) (lv0 := [(0, .ref (B 0))]) rfl (by decide) rfl (Nat.le_of_ble_eq_true rfl) ?_
  intro p e s m below meth c A F
  replace F : Fx p s m _ meth c A E cX10_fix 4 (some .int) RX10 w_fix := F
  obtain ⟨X4, hX4⟩ : ∃ X : Int32 → Int32 → VS → Prop, X = fun l1 l2 σ => WB p l e (({ frames := 59, cells := 0, slots := 0, locals := 1447 } : Room)) s m (#[.ref (B 0)]) below meth c (MQ below (va_Qi (fun r w => ∃ σ' : VS, Q r σ' ∧ w = wm E B σ') (AftU E A) A) (#[.ref (B 0)]) s (({ frames := 59, cells := 0, slots := 0, locals := 1447 } : Room)).cells (({ frames := 59, cells := 0, slots := 0, locals := 1447 } : Room)).slots A) A E (wm E B) 4 4 [(0, .ref (B 0)), (1, .int l1), (2, .int l2)] [] σ := ⟨_, rfl⟩
  have U_4 : ∀ (l1 : Int32) (l2 : Int32) (σ : VS), X4 l1 l2 σ → WB p l e (({ frames := 59, cells := 0, slots := 0, locals := 1447 } : Room)) s m (#[.ref (B 0)]) below meth c (MQ below (va_Qi (fun r w => ∃ σ' : VS, Q r σ' ∧ w = wm E B σ') (AftU E A) A) (#[.ref (B 0)]) s (({ frames := 59, cells := 0, slots := 0, locals := 1447 } : Room)).cells (({ frames := 59, cells := 0, slots := 0, locals := 1447 } : Room)).slots A) A E (wm E B) 4 4 [(0, .ref (B 0)), (1, .int l1), (2, .int l2)] [] σ := by
    intro l1 l2 σ hw; rw [hX4] at hw; exact hw
  have J_74 : ∀ (l1 : Int32) (σ : VS), b_fix_74 X4 Q l1 σ → WB p l e (({ frames := 59, cells := 0, slots := 0, locals := 1447 } : Room)) s m (#[.ref (B 0)]) below meth c (MQ below (va_Qi (fun r w => ∃ σ' : VS, Q r σ' ∧ w = wm E B σ') (AftU E A) A) (#[.ref (B 0)]) s (({ frames := 59, cells := 0, slots := 0, locals := 1447 } : Room)).cells (({ frames := 59, cells := 0, slots := 0, locals := 1447 } : Room)).slots A) A E (wm E B) 4 74 [(1, .int l1)] [] σ := by
    intro l1 σ hw
    unfold b_fix_74 at hw
    refine R_iload_n F dX10_fix_74 rfl 0 rfl ?_
    exact R_iret (Qc := Q) F rfl dX10_fix_75 hw
  have J_69 : ∀ (l2 : Int32) (k0 : Int32) (k1 : Int32) (σ : VS), b_fix_69 X4 Q l2 k0 k1 σ → WB p l e (({ frames := 59, cells := 0, slots := 0, locals := 1447 } : Room)) s m (#[.ref (B 0)]) below meth c (MQ below (va_Qi (fun r w => ∃ σ' : VS, Q r σ' ∧ w = wm E B σ') (AftU E A) A) (#[.ref (B 0)]) s (({ frames := 59, cells := 0, slots := 0, locals := 1447 } : Room)).cells (({ frames := 59, cells := 0, slots := 0, locals := 1447 } : Room)).slots A) A E (wm E B) 4 69 [(0, .ref (B 0)), (2, .int l2)] [.int k0, .int k1] σ := by
    intro l2 k0 k1 σ hw
    unfold b_fix_69 at hw
    refine R_iadd F dX10_fix_69 ?_
    refine R_topi (fun x7 ex7 => ?_)
    replace hw := hw x7 ex7
    refine R_istore_n (lv' := [(1, .int x7), (0, .ref (B 0)), (2, .int l2)]) F dX10_fix_70 rfl (by decide) rfl ?_
    refine R_goto (tgt := 4) F dX10_fix_71 (by decide) ?_
    exact R_sub [1, 0, 2] rfl (U_4 x7 l2 σ hw)
  have J_51 : ∀ (l1 : Int32) (σ : VS), b_fix_51 X4 Q l1 σ → WB p l e (({ frames := 59, cells := 0, slots := 0, locals := 1447 } : Room)) s m (#[.ref (B 0)]) below meth c (MQ below (va_Qi (fun r w => ∃ σ' : VS, Q r σ' ∧ w = wm E B σ') (AftU E A) A) (#[.ref (B 0)]) s (({ frames := 59, cells := 0, slots := 0, locals := 1447 } : Room)).cells (({ frames := 59, cells := 0, slots := 0, locals := 1447 } : Room)).slots A) A E (wm E B) 4 51 [(1, .int l1)] [] σ := by
    intro l1 σ hw
    unfold b_fix_51 at hw
    refine R_iload_n F dX10_fix_51 rfl 0 rfl ?_
    exact R_iret (Qc := Q) F rfl dX10_fix_52 hw
  have C_4 : ∀ (l1 : Int32) (l2 : Int32) (σ : VS), b_fix_4 X4 Q l1 l2 σ → X4 l1 l2 σ := by
    intro l1 l2 σ hw
    unfold b_fix_4 at hw
    rw [hX4]
    show WB p l e (({ frames := 59, cells := 0, slots := 0, locals := 1447 } : Room)) s m (#[.ref (B 0)]) below meth c (MQ below (va_Qi (fun r w => ∃ σ' : VS, Q r σ' ∧ w = wm E B σ') (AftU E A) A) (#[.ref (B 0)]) s (({ frames := 59, cells := 0, slots := 0, locals := 1447 } : Room)).cells (({ frames := 59, cells := 0, slots := 0, locals := 1447 } : Room)).slots A) A E (wm E B) 4 4 [(0, .ref (B 0)), (1, .int l1), (2, .int l2)] [] σ
    refine R_iload_n F dX10_fix_4 rfl 2 rfl ?_
    refine R_if_eq (tgt := 74) F dX10_fix_5 (by decide) (fun hc => ?_) (fun hc => ?_)
    · replace hw := hw.1 hc
      exact R_sub [1] rfl (J_74 l1 σ hw)
    · replace hw := hw.2 hc
      refine R_iload_n F dX10_fix_8 rfl 1 rfl ?_
      refine R_bipush F 100 dX10_fix_9 (by decide) ?_
      refine R_icmp_ge (tgt := 74) F dX10_fix_11 (by decide) (fun hc => ?_) (fun hc => ?_)
      · replace hw := hw.1 hc
        exact R_sub [1] rfl (J_74 l1 σ hw)
      · replace hw := hw.2 hc
        refine R_aload_n F dX10_fix_14 rfl 0 rfl ?_
        refine R_callV (As := []) (C := RX10) (q0 := 0) (ci := 10) (N := 69) (T := TX10) (fs := mfl B) F (ct_judge l E B _ _ hw) (cwV 0 F.2.2.2.2.2.2.2.2.2.2 g_fix_judge_316 rfl rfl rfl (by decide +kernel) ⟨Nat.le_of_ble_eq_true rfl, Nat.le_of_ble_eq_true rfl⟩) ⟨rfl, rfl⟩ rfl (fun _ => rfl) rfl rfl (Nat.le_of_ble_eq_true rfl) dX10_fix_15 (fun σ2 hw => ?_)
        refine R_aload_n F dX10_fix_18 rfl 0 rfl ?_
        refine R_iconst F 0 dX10_fix_19 (by decide) ?_
        refine R_callI (As := [.int 0]) (C := RX10) (q0 := 0) (ci := 10) (N := 69) (T := TX10) (fs := mfl B) F (ct_worstOf l E B _ 0 _ hw) (cwV 1 F.2.2.2.2.2.2.2.2.2.2 g_fix_worstOf_322 rfl rfl rfl (by decide +kernel) ⟨Nat.le_of_ble_eq_true rfl, Nat.le_of_ble_eq_true rfl⟩) ⟨rfl, rfl⟩ rfl (fun _ => rfl) rfl rfl (Nat.le_of_ble_eq_true rfl) dX10_fix_20 (fun r3 σ4 hw => ?_)
        refine R_istore_n (lv' := [(3, .int r3), (0, .ref (B 0)), (1, .int l1), (2, .int l2)]) F dX10_fix_23 rfl (by decide) rfl ?_
        refine R_iload_n F dX10_fix_24 rfl 0 rfl ?_
        refine R_bipush F (-5) dX10_fix_25 (by decide) ?_
        refine R_icmp_eq (tgt := 51) F dX10_fix_27 (by decide) (fun hc => ?_) (fun hc => ?_)
        · replace hw := hw.1 hc
          exact R_sub [2] rfl (J_51 l1 σ4 hw)
        · replace hw := hw.2 hc
          refine R_aload_n F dX10_fix_30 rfl 1 rfl ?_
          refine gm_46 F in_fix dX10_fix_31 ?_
          refine R_iload_n F dX10_fix_34 rfl 0 rfl ?_
          refine R_ldi F qm_46 dX10_fix_35 hw.1 ?_
          replace hw := hw.2
          refine R_if_ge (tgt := 51) F dX10_fix_36 (by decide) (fun hc => ?_) (fun hc => ?_)
          · replace hw := hw.1 hc
            exact R_sub [2] rfl (J_51 l1 σ4 hw)
          · replace hw := hw.2 hc
            refine R_aload_n F dX10_fix_39 rfl 1 rfl ?_
            refine gm_45 F in_fix dX10_fix_40 ?_
            refine R_iload_n F dX10_fix_43 rfl 0 rfl ?_
            refine R_ldi F qm_45 dX10_fix_44 hw.1 ?_
            replace hw := hw.2
            refine R_sipush F 1000 dX10_fix_45 (by decide) ?_
            refine R_icmp_ne (tgt := 53) F dX10_fix_48 (by decide) (fun hc => ?_) (fun hc => ?_)
            · replace hw := hw.1 hc
              refine R_aload_n F dX10_fix_53 rfl 1 rfl ?_
              refine R_iload_n F dX10_fix_54 rfl 0 rfl ?_
              refine R_callI (As := [.int r3]) (C := RX10) (q0 := 0) (ci := 10) (N := 69) (T := TX10) (fs := mfl B) F (ct_grows l E B _ r3 _ hw) (cwV 1 F.2.2.2.2.2.2.2.2.2.2 g_fix_grows_361 rfl rfl rfl (by decide +kernel) ⟨Nat.le_of_ble_eq_true rfl, Nat.le_of_ble_eq_true rfl⟩) ⟨rfl, rfl⟩ rfl (fun _ => rfl) rfl rfl (Nat.le_of_ble_eq_true rfl) dX10_fix_55 (fun r5 σ6 hw => ?_)
              refine R_istore_n (lv' := [(2, .int r5), (3, .int r3), (0, .ref (B 0)), (1, .int l1)]) F dX10_fix_58 rfl (by decide) rfl ?_
              refine R_iload_n F dX10_fix_59 rfl 3 rfl ?_
              refine R_iload_n F dX10_fix_60 rfl 0 rfl ?_
              refine R_if_eq (tgt := 68) F dX10_fix_61 (by decide) (fun hc => ?_) (fun hc => ?_)
              · replace hw := hw.1 hc
                refine R_iconst F 0 dX10_fix_68 (by decide) ?_
                exact R_sub [2, 0] rfl (J_69 r5 0 l1 σ6 hw)
              · replace hw := hw.2 hc
                refine R_iconst F 1 dX10_fix_64 (by decide) ?_
                refine R_goto (tgt := 69) F dX10_fix_65 (by decide) ?_
                exact R_sub [2, 0] rfl (J_69 r5 1 l1 σ6 hw)
            · replace hw := hw.2 hc
              exact R_sub [2] rfl (J_51 l1 σ4 hw)
  unfold wp_fix at hw
  replace hw := hw X4 C_4
  refine R_iconst F 0 dX10_fix_0 (by decide) ?_
  refine R_istore_n (lv' := [(1, .int 0), (0, .ref (B 0))]) F dX10_fix_1 rfl (by decide) rfl ?_
  refine R_iconst F 1 dX10_fix_2 (by decide) ?_
  refine R_istore_n (lv' := [(2, .int 1), (1, .int 0), (0, .ref (B 0))]) F dX10_fix_3 rfl (by decide) rfl ?_
  exact R_sub [2, 1, 0] rfl (U_4 0 1 σ hw)
