def b_time_30 (X7 : Int32 → VS → Prop) (X30 : Int32 → VS → Prop) (Q : VS → Prop) (l1 : Int32) (σ : VS) : Prop := (((σ.1 1).toInt ≤ l1.toInt → Q σ) ∧ (l1.toInt < (σ.1 1).toInt → wp_known (fun (σ2 : VS) => X30 (l1 + 1) σ2) l1 σ))
def b_time_7 (X7 : Int32 → VS → Prop) (X30 : Int32 → VS → Prop) (Q : VS → Prop) (l1 : Int32) (σ : VS) : Prop := (((σ.1 1).toInt ≤ l1.toInt → X30 0 σ) ∧ (l1.toInt < (σ.1 1).toInt → (In l1 50 ∧ X7 (l1 + 1) (sa σ 33 l1 0))))
def wp_time (Q : VS → Prop) (σ : VS) : Prop := ∀ (X7 : Int32 → VS → Prop) (X30 : Int32 → VS → Prop), (∀ (l1 : Int32) (σ : VS), b_time_7 X7 X30 Q l1 σ → X7 l1 σ) → (∀ (l1 : Int32) (σ : VS), b_time_30 X7 X30 Q l1 σ → X30 l1 σ) → X7 0 (sf σ 32 0)
theorem dX10_time_0 : decode cX10_time 0 = .ok (.aload_n 0, 1) := by decide +kernel
theorem dX10_time_1 : decode cX10_time 1 = .ok (.iconst 0, 1) := by decide +kernel
theorem dX10_time_2 : decode cX10_time 2 = .ok (.putfield 239, 3) := by decide +kernel
theorem dX10_time_5 : decode cX10_time 5 = .ok (.iconst 0, 1) := by decide +kernel
theorem dX10_time_6 : decode cX10_time 6 = .ok (.istore_n 1, 1) := by decide +kernel
theorem dX10_time_7 : decode cX10_time 7 = .ok (.iload_n 1, 1) := by decide +kernel
theorem dX10_time_8 : decode cX10_time 8 = .ok (.aload_n 0, 1) := by decide +kernel
theorem dX10_time_9 : decode cX10_time 9 = .ok (.getfield 7, 3) := by decide +kernel
theorem dX10_time_12 : decode cX10_time 12 = .ok (.if_icmp .ge 16, 3) := by decide +kernel
theorem dX10_time_28 : decode cX10_time 28 = .ok (.iconst 0, 1) := by decide +kernel
theorem dX10_time_29 : decode cX10_time 29 = .ok (.istore_n 1, 1) := by decide +kernel
theorem dX10_time_15 : decode cX10_time 15 = .ok (.aload_n 0, 1) := by decide +kernel
theorem dX10_time_16 : decode cX10_time 16 = .ok (.getfield 114, 3) := by decide +kernel
theorem dX10_time_19 : decode cX10_time 19 = .ok (.iload_n 1, 1) := by decide +kernel
theorem dX10_time_20 : decode cX10_time 20 = .ok (.iconst 0, 1) := by decide +kernel
theorem dX10_time_21 : decode cX10_time 21 = .ok (.bastore, 1) := by decide +kernel
theorem dX10_time_22 : decode cX10_time 22 = .ok (.iinc 1 1, 3) := by decide +kernel
theorem dX10_time_25 : decode cX10_time 25 = .ok (.goto (-18), 3) := by decide +kernel
theorem dX10_time_30 : decode cX10_time 30 = .ok (.iload_n 1, 1) := by decide +kernel
theorem dX10_time_31 : decode cX10_time 31 = .ok (.aload_n 0, 1) := by decide +kernel
theorem dX10_time_32 : decode cX10_time 32 = .ok (.getfield 7, 3) := by decide +kernel
theorem dX10_time_35 : decode cX10_time 35 = .ok (.if_icmp .ge 14, 3) := by decide +kernel
theorem dX10_time_49 : decode cX10_time 49 = .ok (.return_, 1) := by decide +kernel
theorem dX10_time_38 : decode cX10_time 38 = .ok (.aload_n 0, 1) := by decide +kernel
theorem dX10_time_39 : decode cX10_time 39 = .ok (.iload_n 1, 1) := by decide +kernel
theorem dX10_time_40 : decode cX10_time 40 = .ok (.invokevirtual 242, 3) := by decide +kernel
theorem dX10_time_43 : decode cX10_time 43 = .ok (.iinc 1 1, 3) := by decide +kernel
theorem dX10_time_46 : decode cX10_time 46 = .ok (.goto (-16), 3) := by decide +kernel
def wo_time : List Cond := [.code yX10_time cX10_time 2 none, .methodLink RX10 242 yX10_known, .instanceMethod yX10_known, .selects RX10 yX10_known yX10_known, .initialized RX10]
def wr_time : List Cond := (wfX10 ++ (w_known ++ ([])))
def w_time : List Cond := wo_time ++ wr_time
theorem wg_time : GW w_time := GW_app (GW_of (by decide +kernel)) (GW_app (wg_fX10) (GW_app (wg_known) (GW_nil)))
theorem in_time : ∀ w ∈ wfX10, w ∈ w_time := fun _ h => List.mem_append_right _ (List.mem_append_left _ h)
theorem g_time_known_242 : GoodIn w_time (wsV RX10 242 RX10 yX10_known w_known) := goodIn_app (gi_left (goodIn_of _ (by decide +kernel))) (fun w h => ⟨List.mem_append_right _ (List.mem_append_right _ (List.mem_append_left _ h)), wg_known w h⟩)
set_option maxHeartbeats 4000000 in
set_option maxRecDepth 100000 in
theorem ct_time (l : Launch) (E : gE) (B : Nat → Nat) (Q : VS → Prop) (σ : VS) (hw : wp_time Q σ) : CtV l E yX10_time w_time (({ frames := 56, cells := 0, slots := 0, locals := 1377 } : Room)) (wm E B σ) [.ref (B 0)] (fun w => ∃ σ' : VS, Q σ' ∧ w = wm E B σ') := by
  refine VC_V (cc := cX10_time) (mL := 2) (rt := none) (lv0 := [(0, .ref (B 0))]) rfl (by decide) rfl (Nat.le_of_ble_eq_true rfl) ?_
  intro p e s m below meth c A F
  replace F : Fx p s m _ meth c A E cX10_time 2 none RX10 w_time := F
  obtain ⟨X7, hX7⟩ : ∃ X : Int32 → VS → Prop, X = fun l1 σ => WB p l e (({ frames := 56, cells := 0, slots := 0, locals := 1377 } : Room)) s m (#[.ref (B 0)]) below meth c (MQ below (va_Qv (fun w => ∃ σ' : VS, Q σ' ∧ w = wm E B σ') (AftU E A) A) (#[.ref (B 0)]) s (({ frames := 56, cells := 0, slots := 0, locals := 1377 } : Room)).cells (({ frames := 56, cells := 0, slots := 0, locals := 1377 } : Room)).slots A) A E (wm E B) 2 7 [(0, .ref (B 0)), (1, .int l1)] [] σ := ⟨_, rfl⟩
  have U_7 : ∀ (l1 : Int32) (σ : VS), X7 l1 σ → WB p l e (({ frames := 56, cells := 0, slots := 0, locals := 1377 } : Room)) s m (#[.ref (B 0)]) below meth c (MQ below (va_Qv (fun w => ∃ σ' : VS, Q σ' ∧ w = wm E B σ') (AftU E A) A) (#[.ref (B 0)]) s (({ frames := 56, cells := 0, slots := 0, locals := 1377 } : Room)).cells (({ frames := 56, cells := 0, slots := 0, locals := 1377 } : Room)).slots A) A E (wm E B) 2 7 [(0, .ref (B 0)), (1, .int l1)] [] σ := by
    intro l1 σ hw; rw [hX7] at hw; exact hw
  obtain ⟨X30, hX30⟩ : ∃ X : Int32 → VS → Prop, X = fun l1 σ => WB p l e (({ frames := 56, cells := 0, slots := 0, locals := 1377 } : Room)) s m (#[.ref (B 0)]) below meth c (MQ below (va_Qv (fun w => ∃ σ' : VS, Q σ' ∧ w = wm E B σ') (AftU E A) A) (#[.ref (B 0)]) s (({ frames := 56, cells := 0, slots := 0, locals := 1377 } : Room)).cells (({ frames := 56, cells := 0, slots := 0, locals := 1377 } : Room)).slots A) A E (wm E B) 2 30 [(0, .ref (B 0)), (1, .int l1)] [] σ := ⟨_, rfl⟩
  have U_30 : ∀ (l1 : Int32) (σ : VS), X30 l1 σ → WB p l e (({ frames := 56, cells := 0, slots := 0, locals := 1377 } : Room)) s m (#[.ref (B 0)]) below meth c (MQ below (va_Qv (fun w => ∃ σ' : VS, Q σ' ∧ w = wm E B σ') (AftU E A) A) (#[.ref (B 0)]) s (({ frames := 56, cells := 0, slots := 0, locals := 1377 } : Room)).cells (({ frames := 56, cells := 0, slots := 0, locals := 1377 } : Room)).slots A) A E (wm E B) 2 30 [(0, .ref (B 0)), (1, .int l1)] [] σ := by
    intro l1 σ hw; rw [hX30] at hw; exact hw
  have C_7 : ∀ (l1 : Int32) (σ : VS), b_time_7 X7 X30 Q l1 σ → X7 l1 σ := by
    intro l1 σ hw
    unfold b_time_7 at hw
    rw [hX7]
    show WB p l e (({ frames := 56, cells := 0, slots := 0, locals := 1377 } : Room)) s m (#[.ref (B 0)]) below meth c (MQ below (va_Qv (fun w => ∃ σ' : VS, Q σ' ∧ w = wm E B σ') (AftU E A) A) (#[.ref (B 0)]) s (({ frames := 56, cells := 0, slots := 0, locals := 1377 } : Room)).cells (({ frames := 56, cells := 0, slots := 0, locals := 1377 } : Room)).slots A) A E (wm E B) 2 7 [(0, .ref (B 0)), (1, .int l1)] [] σ
    refine R_iload_n F dX10_time_7 rfl 1 rfl ?_
    refine R_aload_n F dX10_time_8 rfl 0 rfl ?_
    refine gm_1 F in_time dX10_time_9 ?_
    refine R_icmp_ge (tgt := 28) F dX10_time_12 (by decide) (fun hc => ?_) (fun hc => ?_)
    · replace hw := hw.1 hc
      refine R_iconst F 0 dX10_time_28 (by decide) ?_
      refine R_istore_n (lv' := [(1, .int 0), (0, .ref (B 0))]) F dX10_time_29 rfl (by decide) rfl ?_
      exact R_sub [1, 0] rfl (U_30 0 σ hw)
    · replace hw := hw.2 hc
      refine R_aload_n F dX10_time_15 rfl 0 rfl ?_
      refine gm_33 F in_time dX10_time_16 ?_
      refine R_iload_n F dX10_time_19 rfl 1 rfl ?_
      refine R_iconst F 0 dX10_time_20 (by decide) ?_
      have hi := hw.1
      replace hw := hw.2
      refine R_stz F qm_33 um_33 dX10_time_21 hi (⟨by decide, by decide⟩ : Bo 0) ?_
      refine R_iinc (q := 1) (v := (l1 + 1)) (lv' := [(1, .int (l1 + 1)), (0, .ref (B 0))]) F dX10_time_22 rfl rfl (by decide) rfl ?_
      refine R_goto (tgt := 7) F dX10_time_25 (by decide) ?_
      exact R_sub [1, 0] rfl (U_7 (l1 + 1) (sa σ 33 l1 0) hw)
  have C_30 : ∀ (l1 : Int32) (σ : VS), b_time_30 X7 X30 Q l1 σ → X30 l1 σ := by
    intro l1 σ hw
    unfold b_time_30 at hw
    rw [hX30]
    show WB p l e (({ frames := 56, cells := 0, slots := 0, locals := 1377 } : Room)) s m (#[.ref (B 0)]) below meth c (MQ below (va_Qv (fun w => ∃ σ' : VS, Q σ' ∧ w = wm E B σ') (AftU E A) A) (#[.ref (B 0)]) s (({ frames := 56, cells := 0, slots := 0, locals := 1377 } : Room)).cells (({ frames := 56, cells := 0, slots := 0, locals := 1377 } : Room)).slots A) A E (wm E B) 2 30 [(0, .ref (B 0)), (1, .int l1)] [] σ
    refine R_iload_n F dX10_time_30 rfl 1 rfl ?_
    refine R_aload_n F dX10_time_31 rfl 0 rfl ?_
    refine gm_1 F in_time dX10_time_32 ?_
    refine R_icmp_ge (tgt := 49) F dX10_time_35 (by decide) (fun hc => ?_) (fun hc => ?_)
    · replace hw := hw.1 hc
      exact R_vret (Qc := Q) F dX10_time_49 hw
    · replace hw := hw.2 hc
      refine R_aload_n F dX10_time_38 rfl 0 rfl ?_
      refine R_iload_n F dX10_time_39 rfl 1 rfl ?_
      refine R_callV (As := [.int l1]) (C := RX10) (q0 := 0) (ci := 10) (N := 69) (T := TX10) (fs := mfl B) F (ct_known l E B _ l1 _ hw) (cwV 1 F.2.2.2.2.2.2.2.2.2.2 g_time_known_242 rfl rfl rfl (by decide +kernel) ⟨Nat.le_of_ble_eq_true rfl, Nat.le_of_ble_eq_true rfl⟩) ⟨rfl, rfl⟩ rfl (fun _ => rfl) rfl rfl (Nat.le_of_ble_eq_true rfl) dX10_time_40 (fun σ2 hw => ?_)
      refine R_iinc (q := 1) (v := (l1 + 1)) (lv' := [(1, .int (l1 + 1)), (0, .ref (B 0))]) F dX10_time_43 rfl rfl (by decide) rfl ?_
      refine R_goto (tgt := 30) F dX10_time_46 (by decide) ?_
      exact R_sub [1, 0] rfl (U_30 (l1 + 1) σ2 hw)
  unfold wp_time at hw
  replace hw := hw X7 X30 C_7 C_30
  refine R_aload_n F dX10_time_0 rfl 0 rfl ?_
  refine R_iconst F 0 dX10_time_1 (by decide) ?_
  refine pm_32 F in_time dX10_time_2 ?_
  refine R_iconst F 0 dX10_time_5 (by decide) ?_
  refine R_istore_n (lv' := [(1, .int 0), (0, .ref (B 0))]) F dX10_time_6 rfl (by decide) rfl ?_
  exact R_sub [1, 0] rfl (U_7 0 (sf σ 32 0) hw)
def b_arrive_239 (X46 : Int32 → Int32 → Int32 → Int32 → VS → Prop) (Q : VS → Prop) (l1 : Int32) (l2 : Int32) (l3 : Int32) (l4 : Int32) (σ : VS) : Prop := X46 l1 l2 l3 (l4 + 1) σ
def b_arrive_236 (X46 : Int32 → Int32 → Int32 → Int32 → VS → Prop) (Q : VS → Prop) (l1 : Int32) (l2 : Int32) (l4 : Int32) (k0 : Int32) (k1 : Int32) (σ : VS) : Prop := (In k1 100 ∧ b_arrive_239 X46 Q l1 l2 1 l4 (sa σ 41 k1 k0))
def b_arrive_202 (X46 : Int32 → Int32 → Int32 → Int32 → VS → Prop) (Q : VS → Prop) (l1 : Int32) (l2 : Int32) (l3 : Int32) (l4 : Int32) (l8 : Int32) (k0 : Int32) (k1 : Int32) (σ : VS) : Prop := (In k1 100 ∧ ((l3.toInt = 0 → b_arrive_236 X46 Q l1 l2 l4 l8 ((2 * l1) + l2) (sa σ 40 k1 k0)) ∧ (l3.toInt ≠ 0 → (In ((2 * l1) + l2) 100 ∧ b_arrive_236 X46 Q l1 l2 l4 (imin (rd (sa σ 40 k1 k0) 41 ((2 * l1) + l2)) l8) ((2 * l1) + l2) (sa σ 40 k1 k0)))))
def b_arrive_105 (X46 : Int32 → Int32 → Int32 → Int32 → VS → Prop) (Q : VS → Prop) (l1 : Int32) (l2 : Int32) (l3 : Int32) (l4 : Int32) (l5 : Int32) (k0 : Int32) (σ : VS) : Prop := (In ((2 * l5) + k0) 100 ∧ (In (((8 * l1) + (2 * l4)) + l2) 400 ∧ (∀ x8 : Int32, x8 = ((rd σ 40 ((2 * l5) + k0)) + (rd σ 36 (((8 * l1) + (2 * l4)) + l2))) → (In ((2 * l5) + k0) 100 ∧ (In (((8 * l1) + (2 * l4)) + l2) 400 ∧ (∀ x9 : Int32, x9 = ((rd σ 41 ((2 * l5) + k0)) + (rd σ 37 (((8 * l1) + (2 * l4)) + l2))) → ((l3.toInt = 0 → b_arrive_202 X46 Q l1 l2 l3 l4 x9 x8 ((2 * l1) + l2) σ) ∧ (l3.toInt ≠ 0 → (In ((2 * l1) + l2) 100 ∧ b_arrive_202 X46 Q l1 l2 l3 l4 x9 (imax (rd σ 40 ((2 * l1) + l2)) x8) ((2 * l1) + l2) σ)))))))))
def b_arrive_46 (X46 : Int32 → Int32 → Int32 → Int32 → VS → Prop) (Q : VS → Prop) (l1 : Int32) (l2 : Int32) (l3 : Int32) (l4 : Int32) (σ : VS) : Prop := (In l1 50 ∧ (((rd σ 3 l1).toInt ≤ l4.toInt → Q σ) ∧ (l4.toInt < (rd σ 3 l1).toInt → (In ((4 * l1) + l4) 200 ∧ (∀ x7 : Int32, x7 = (rd σ 7 ((4 * l1) + l4)) → ((x7.toInt < 0 → b_arrive_239 X46 Q l1 l2 l3 l4 σ) ∧ (0 ≤ x7.toInt → (In x7 50 ∧ (((rd σ 34 x7).toInt ≠ 0 → (In l1 50 ∧ (((rd σ 2 l1).toInt ≠ 2 → b_arrive_105 X46 Q l1 l2 l3 l4 x7 l2 σ) ∧ ((rd σ 2 l1).toInt = 2 → b_arrive_105 X46 Q l1 l2 l3 l4 x7 (1 - l2) σ)))) ∧ ((rd σ 34 x7).toInt = 0 → b_arrive_239 X46 Q l1 l2 l3 l4 σ))))))))))
def wp_arrive (Q : VS → Prop) (p1 : Int32) (p2 : Int32) (σ : VS) : Prop := ∀ (X46 : Int32 → Int32 → Int32 → Int32 → VS → Prop), (∀ (l1 : Int32) (l2 : Int32) (l3 : Int32) (l4 : Int32) (σ : VS), b_arrive_46 X46 Q l1 l2 l3 l4 σ → X46 l1 l2 l3 l4 σ) → wp_isGate (fun (r1 : Int32) (σ2 : VS) => ((r1.toInt ≠ 0 → X46 p1 p2 0 0 σ2) ∧ (r1.toInt = 0 → wp_startLate (fun (r3 : Int32) (σ4 : VS) => (In ((2 * p1) + p2) 100 ∧ wp_startEarly (fun (r5 : Int32) (σ6 : VS) => (In ((2 * p1) + p2) 100 ∧ Q (sa σ6 41 ((2 * p1) + p2) r5))) p1 p2 (sa σ4 40 ((2 * p1) + p2) r3))) p1 p2 σ2))) p1 σ
theorem dX10_arrive_0 : decode cX10_arrive 0 = .ok (.aload_n 0, 1) := by decide +kernel
theorem dX10_arrive_1 : decode cX10_arrive 1 = .ok (.iload_n 1, 1) := by decide +kernel
theorem dX10_arrive_2 : decode cX10_arrive 2 = .ok (.invokevirtual 55, 3) := by decide +kernel
theorem dX10_arrive_5 : decode cX10_arrive 5 = .ok (.ifCond .ne 36, 3) := by decide +kernel
theorem dX10_arrive_41 : decode cX10_arrive 41 = .ok (.iconst 0, 1) := by decide +kernel
theorem dX10_arrive_42 : decode cX10_arrive 42 = .ok (.istore_n 3, 1) := by decide +kernel
theorem dX10_arrive_43 : decode cX10_arrive 43 = .ok (.iconst 0, 1) := by decide +kernel
theorem dX10_arrive_44 : decode cX10_arrive 44 = .ok (.istore 4, 2) := by decide +kernel
theorem dX10_arrive_8 : decode cX10_arrive 8 = .ok (.aload_n 0, 1) := by decide +kernel
theorem dX10_arrive_9 : decode cX10_arrive 9 = .ok (.getfield 135, 3) := by decide +kernel
theorem dX10_arrive_12 : decode cX10_arrive 12 = .ok (.iconst 2, 1) := by decide +kernel
theorem dX10_arrive_13 : decode cX10_arrive 13 = .ok (.iload_n 1, 1) := by decide +kernel
theorem dX10_arrive_14 : decode cX10_arrive 14 = .ok (.imul, 1) := by decide +kernel
theorem dX10_arrive_15 : decode cX10_arrive 15 = .ok (.iload_n 2, 1) := by decide +kernel
theorem dX10_arrive_16 : decode cX10_arrive 16 = .ok (.iadd, 1) := by decide +kernel
theorem dX10_arrive_17 : decode cX10_arrive 17 = .ok (.aload_n 0, 1) := by decide +kernel
theorem dX10_arrive_18 : decode cX10_arrive 18 = .ok (.iload_n 1, 1) := by decide +kernel
theorem dX10_arrive_19 : decode cX10_arrive 19 = .ok (.iload_n 2, 1) := by decide +kernel
theorem dX10_arrive_20 : decode cX10_arrive 20 = .ok (.invokevirtual 289, 3) := by decide +kernel
theorem dX10_arrive_23 : decode cX10_arrive 23 = .ok (.iastore, 1) := by decide +kernel
theorem dX10_arrive_24 : decode cX10_arrive 24 = .ok (.aload_n 0, 1) := by decide +kernel
theorem dX10_arrive_25 : decode cX10_arrive 25 = .ok (.getfield 138, 3) := by decide +kernel
theorem dX10_arrive_28 : decode cX10_arrive 28 = .ok (.iconst 2, 1) := by decide +kernel
theorem dX10_arrive_29 : decode cX10_arrive 29 = .ok (.iload_n 1, 1) := by decide +kernel
theorem dX10_arrive_30 : decode cX10_arrive 30 = .ok (.imul, 1) := by decide +kernel
theorem dX10_arrive_31 : decode cX10_arrive 31 = .ok (.iload_n 2, 1) := by decide +kernel
theorem dX10_arrive_32 : decode cX10_arrive 32 = .ok (.iadd, 1) := by decide +kernel
theorem dX10_arrive_33 : decode cX10_arrive 33 = .ok (.aload_n 0, 1) := by decide +kernel
theorem dX10_arrive_34 : decode cX10_arrive 34 = .ok (.iload_n 1, 1) := by decide +kernel
theorem dX10_arrive_35 : decode cX10_arrive 35 = .ok (.iload_n 2, 1) := by decide +kernel
theorem dX10_arrive_36 : decode cX10_arrive 36 = .ok (.invokevirtual 292, 3) := by decide +kernel
theorem dX10_arrive_39 : decode cX10_arrive 39 = .ok (.iastore, 1) := by decide +kernel
theorem dX10_arrive_40 : decode cX10_arrive 40 = .ok (.return_, 1) := by decide +kernel
theorem dX10_arrive_46 : decode cX10_arrive 46 = .ok (.iload 4, 2) := by decide +kernel
theorem dX10_arrive_48 : decode cX10_arrive 48 = .ok (.aload_n 0, 1) := by decide +kernel
theorem dX10_arrive_49 : decode cX10_arrive 49 = .ok (.getfield 14, 3) := by decide +kernel
theorem dX10_arrive_52 : decode cX10_arrive 52 = .ok (.iload_n 1, 1) := by decide +kernel
theorem dX10_arrive_53 : decode cX10_arrive 53 = .ok (.iaload, 1) := by decide +kernel
theorem dX10_arrive_54 : decode cX10_arrive 54 = .ok (.if_icmp .ge 191, 3) := by decide +kernel
theorem dX10_arrive_245 : decode cX10_arrive 245 = .ok (.return_, 1) := by decide +kernel
theorem dX10_arrive_57 : decode cX10_arrive 57 = .ok (.aload_n 0, 1) := by decide +kernel
theorem dX10_arrive_58 : decode cX10_arrive 58 = .ok (.getfield 30, 3) := by decide +kernel
theorem dX10_arrive_61 : decode cX10_arrive 61 = .ok (.iconst 4, 1) := by decide +kernel
theorem dX10_arrive_62 : decode cX10_arrive 62 = .ok (.iload_n 1, 1) := by decide +kernel
theorem dX10_arrive_63 : decode cX10_arrive 63 = .ok (.imul, 1) := by decide +kernel
theorem dX10_arrive_64 : decode cX10_arrive 64 = .ok (.iload 4, 2) := by decide +kernel
theorem dX10_arrive_66 : decode cX10_arrive 66 = .ok (.iadd, 1) := by decide +kernel
theorem dX10_arrive_67 : decode cX10_arrive 67 = .ok (.iaload, 1) := by decide +kernel
theorem dX10_arrive_68 : decode cX10_arrive 68 = .ok (.istore 5, 2) := by decide +kernel
theorem dX10_arrive_70 : decode cX10_arrive 70 = .ok (.iload 5, 2) := by decide +kernel
theorem dX10_arrive_72 : decode cX10_arrive 72 = .ok (.ifCond .lt 167, 3) := by decide +kernel
theorem dX10_arrive_75 : decode cX10_arrive 75 = .ok (.aload_n 0, 1) := by decide +kernel
theorem dX10_arrive_76 : decode cX10_arrive 76 = .ok (.getfield 117, 3) := by decide +kernel
theorem dX10_arrive_79 : decode cX10_arrive 79 = .ok (.iload 5, 2) := by decide +kernel
theorem dX10_arrive_81 : decode cX10_arrive 81 = .ok (.baload, 1) := by decide +kernel
theorem dX10_arrive_82 : decode cX10_arrive 82 = .ok (.ifCond .ne 6, 3) := by decide +kernel
theorem dX10_arrive_88 : decode cX10_arrive 88 = .ok (.aload_n 0, 1) := by decide +kernel
theorem dX10_arrive_89 : decode cX10_arrive 89 = .ok (.getfield 18, 3) := by decide +kernel
theorem dX10_arrive_92 : decode cX10_arrive 92 = .ok (.iload_n 1, 1) := by decide +kernel
theorem dX10_arrive_93 : decode cX10_arrive 93 = .ok (.iaload, 1) := by decide +kernel
theorem dX10_arrive_94 : decode cX10_arrive 94 = .ok (.iconst 2, 1) := by decide +kernel
theorem dX10_arrive_95 : decode cX10_arrive 95 = .ok (.if_icmp .ne 9, 3) := by decide +kernel
theorem dX10_arrive_104 : decode cX10_arrive 104 = .ok (.iload_n 2, 1) := by decide +kernel
theorem dX10_arrive_98 : decode cX10_arrive 98 = .ok (.iconst 1, 1) := by decide +kernel
theorem dX10_arrive_99 : decode cX10_arrive 99 = .ok (.iload_n 2, 1) := by decide +kernel
theorem dX10_arrive_100 : decode cX10_arrive 100 = .ok (.isub, 1) := by decide +kernel
theorem dX10_arrive_101 : decode cX10_arrive 101 = .ok (.goto 4, 3) := by decide +kernel
theorem dX10_arrive_85 : decode cX10_arrive 85 = .ok (.goto 154, 3) := by decide +kernel
theorem dX10_arrive_239 : decode cX10_arrive 239 = .ok (.iinc 4 1, 3) := by decide +kernel
theorem dX10_arrive_242 : decode cX10_arrive 242 = .ok (.goto (-196), 3) := by decide +kernel
theorem dX10_arrive_105 : decode cX10_arrive 105 = .ok (.istore 6, 2) := by decide +kernel
theorem dX10_arrive_107 : decode cX10_arrive 107 = .ok (.aload_n 0, 1) := by decide +kernel
theorem dX10_arrive_108 : decode cX10_arrive 108 = .ok (.getfield 135, 3) := by decide +kernel
theorem dX10_arrive_111 : decode cX10_arrive 111 = .ok (.iconst 2, 1) := by decide +kernel
theorem dX10_arrive_112 : decode cX10_arrive 112 = .ok (.iload 5, 2) := by decide +kernel
theorem dX10_arrive_114 : decode cX10_arrive 114 = .ok (.imul, 1) := by decide +kernel
theorem dX10_arrive_115 : decode cX10_arrive 115 = .ok (.iload 6, 2) := by decide +kernel
theorem dX10_arrive_117 : decode cX10_arrive 117 = .ok (.iadd, 1) := by decide +kernel
theorem dX10_arrive_118 : decode cX10_arrive 118 = .ok (.iaload, 1) := by decide +kernel
theorem dX10_arrive_119 : decode cX10_arrive 119 = .ok (.aload_n 0, 1) := by decide +kernel
theorem dX10_arrive_120 : decode cX10_arrive 120 = .ok (.getfield 123, 3) := by decide +kernel
theorem dX10_arrive_123 : decode cX10_arrive 123 = .ok (.bipush 8, 2) := by decide +kernel
theorem dX10_arrive_125 : decode cX10_arrive 125 = .ok (.iload_n 1, 1) := by decide +kernel
theorem dX10_arrive_126 : decode cX10_arrive 126 = .ok (.imul, 1) := by decide +kernel
theorem dX10_arrive_127 : decode cX10_arrive 127 = .ok (.iconst 2, 1) := by decide +kernel
theorem dX10_arrive_128 : decode cX10_arrive 128 = .ok (.iload 4, 2) := by decide +kernel
theorem dX10_arrive_130 : decode cX10_arrive 130 = .ok (.imul, 1) := by decide +kernel
theorem dX10_arrive_131 : decode cX10_arrive 131 = .ok (.iadd, 1) := by decide +kernel
theorem dX10_arrive_132 : decode cX10_arrive 132 = .ok (.iload_n 2, 1) := by decide +kernel
theorem dX10_arrive_133 : decode cX10_arrive 133 = .ok (.iadd, 1) := by decide +kernel
theorem dX10_arrive_134 : decode cX10_arrive 134 = .ok (.iaload, 1) := by decide +kernel
theorem dX10_arrive_135 : decode cX10_arrive 135 = .ok (.iadd, 1) := by decide +kernel
theorem dX10_arrive_136 : decode cX10_arrive 136 = .ok (.istore 7, 2) := by decide +kernel
theorem dX10_arrive_138 : decode cX10_arrive 138 = .ok (.aload_n 0, 1) := by decide +kernel
theorem dX10_arrive_139 : decode cX10_arrive 139 = .ok (.getfield 138, 3) := by decide +kernel
theorem dX10_arrive_142 : decode cX10_arrive 142 = .ok (.iconst 2, 1) := by decide +kernel
theorem dX10_arrive_143 : decode cX10_arrive 143 = .ok (.iload 5, 2) := by decide +kernel
theorem dX10_arrive_145 : decode cX10_arrive 145 = .ok (.imul, 1) := by decide +kernel
theorem dX10_arrive_146 : decode cX10_arrive 146 = .ok (.iload 6, 2) := by decide +kernel
theorem dX10_arrive_148 : decode cX10_arrive 148 = .ok (.iadd, 1) := by decide +kernel
theorem dX10_arrive_149 : decode cX10_arrive 149 = .ok (.iaload, 1) := by decide +kernel
theorem dX10_arrive_150 : decode cX10_arrive 150 = .ok (.aload_n 0, 1) := by decide +kernel
theorem dX10_arrive_151 : decode cX10_arrive 151 = .ok (.getfield 126, 3) := by decide +kernel
theorem dX10_arrive_154 : decode cX10_arrive 154 = .ok (.bipush 8, 2) := by decide +kernel
theorem dX10_arrive_156 : decode cX10_arrive 156 = .ok (.iload_n 1, 1) := by decide +kernel
theorem dX10_arrive_157 : decode cX10_arrive 157 = .ok (.imul, 1) := by decide +kernel
theorem dX10_arrive_158 : decode cX10_arrive 158 = .ok (.iconst 2, 1) := by decide +kernel
theorem dX10_arrive_159 : decode cX10_arrive 159 = .ok (.iload 4, 2) := by decide +kernel
theorem dX10_arrive_161 : decode cX10_arrive 161 = .ok (.imul, 1) := by decide +kernel
theorem dX10_arrive_162 : decode cX10_arrive 162 = .ok (.iadd, 1) := by decide +kernel
theorem dX10_arrive_163 : decode cX10_arrive 163 = .ok (.iload_n 2, 1) := by decide +kernel
theorem dX10_arrive_164 : decode cX10_arrive 164 = .ok (.iadd, 1) := by decide +kernel
theorem dX10_arrive_165 : decode cX10_arrive 165 = .ok (.iaload, 1) := by decide +kernel
theorem dX10_arrive_166 : decode cX10_arrive 166 = .ok (.iadd, 1) := by decide +kernel
theorem dX10_arrive_167 : decode cX10_arrive 167 = .ok (.istore 8, 2) := by decide +kernel
theorem dX10_arrive_169 : decode cX10_arrive 169 = .ok (.aload_n 0, 1) := by decide +kernel
theorem dX10_arrive_170 : decode cX10_arrive 170 = .ok (.getfield 135, 3) := by decide +kernel
theorem dX10_arrive_173 : decode cX10_arrive 173 = .ok (.iconst 2, 1) := by decide +kernel
theorem dX10_arrive_174 : decode cX10_arrive 174 = .ok (.iload_n 1, 1) := by decide +kernel
theorem dX10_arrive_175 : decode cX10_arrive 175 = .ok (.imul, 1) := by decide +kernel
theorem dX10_arrive_176 : decode cX10_arrive 176 = .ok (.iload_n 2, 1) := by decide +kernel
theorem dX10_arrive_177 : decode cX10_arrive 177 = .ok (.iadd, 1) := by decide +kernel
theorem dX10_arrive_178 : decode cX10_arrive 178 = .ok (.iload_n 3, 1) := by decide +kernel
theorem dX10_arrive_179 : decode cX10_arrive 179 = .ok (.ifCond .eq 21, 3) := by decide +kernel
theorem dX10_arrive_200 : decode cX10_arrive 200 = .ok (.iload 7, 2) := by decide +kernel
theorem dX10_arrive_182 : decode cX10_arrive 182 = .ok (.aload_n 0, 1) := by decide +kernel
theorem dX10_arrive_183 : decode cX10_arrive 183 = .ok (.getfield 135, 3) := by decide +kernel
theorem dX10_arrive_186 : decode cX10_arrive 186 = .ok (.iconst 2, 1) := by decide +kernel
theorem dX10_arrive_187 : decode cX10_arrive 187 = .ok (.iload_n 1, 1) := by decide +kernel
theorem dX10_arrive_188 : decode cX10_arrive 188 = .ok (.imul, 1) := by decide +kernel
theorem dX10_arrive_189 : decode cX10_arrive 189 = .ok (.iload_n 2, 1) := by decide +kernel
theorem dX10_arrive_190 : decode cX10_arrive 190 = .ok (.iadd, 1) := by decide +kernel
theorem dX10_arrive_191 : decode cX10_arrive 191 = .ok (.iaload, 1) := by decide +kernel
theorem dX10_arrive_192 : decode cX10_arrive 192 = .ok (.iload 7, 2) := by decide +kernel
theorem dX10_arrive_194 : decode cX10_arrive 194 = .ok (.invokestatic 260, 3) := by decide +kernel
theorem dX10_arrive_197 : decode cX10_arrive 197 = .ok (.goto 5, 3) := by decide +kernel
theorem dX10_arrive_202 : decode cX10_arrive 202 = .ok (.iastore, 1) := by decide +kernel
theorem dX10_arrive_203 : decode cX10_arrive 203 = .ok (.aload_n 0, 1) := by decide +kernel
theorem dX10_arrive_204 : decode cX10_arrive 204 = .ok (.getfield 138, 3) := by decide +kernel
theorem dX10_arrive_207 : decode cX10_arrive 207 = .ok (.iconst 2, 1) := by decide +kernel
theorem dX10_arrive_208 : decode cX10_arrive 208 = .ok (.iload_n 1, 1) := by decide +kernel
theorem dX10_arrive_209 : decode cX10_arrive 209 = .ok (.imul, 1) := by decide +kernel
theorem dX10_arrive_210 : decode cX10_arrive 210 = .ok (.iload_n 2, 1) := by decide +kernel
theorem dX10_arrive_211 : decode cX10_arrive 211 = .ok (.iadd, 1) := by decide +kernel
theorem dX10_arrive_212 : decode cX10_arrive 212 = .ok (.iload_n 3, 1) := by decide +kernel
theorem dX10_arrive_213 : decode cX10_arrive 213 = .ok (.ifCond .eq 21, 3) := by decide +kernel
theorem dX10_arrive_234 : decode cX10_arrive 234 = .ok (.iload 8, 2) := by decide +kernel
theorem dX10_arrive_216 : decode cX10_arrive 216 = .ok (.aload_n 0, 1) := by decide +kernel
theorem dX10_arrive_217 : decode cX10_arrive 217 = .ok (.getfield 138, 3) := by decide +kernel
theorem dX10_arrive_220 : decode cX10_arrive 220 = .ok (.iconst 2, 1) := by decide +kernel
theorem dX10_arrive_221 : decode cX10_arrive 221 = .ok (.iload_n 1, 1) := by decide +kernel
theorem dX10_arrive_222 : decode cX10_arrive 222 = .ok (.imul, 1) := by decide +kernel
theorem dX10_arrive_223 : decode cX10_arrive 223 = .ok (.iload_n 2, 1) := by decide +kernel
theorem dX10_arrive_224 : decode cX10_arrive 224 = .ok (.iadd, 1) := by decide +kernel
theorem dX10_arrive_225 : decode cX10_arrive 225 = .ok (.iaload, 1) := by decide +kernel
theorem dX10_arrive_226 : decode cX10_arrive 226 = .ok (.iload 8, 2) := by decide +kernel
theorem dX10_arrive_228 : decode cX10_arrive 228 = .ok (.invokestatic 266, 3) := by decide +kernel
theorem dX10_arrive_231 : decode cX10_arrive 231 = .ok (.goto 5, 3) := by decide +kernel
theorem dX10_arrive_236 : decode cX10_arrive 236 = .ok (.iastore, 1) := by decide +kernel
theorem dX10_arrive_237 : decode cX10_arrive 237 = .ok (.iconst 1, 1) := by decide +kernel
theorem dX10_arrive_238 : decode cX10_arrive 238 = .ok (.istore_n 3, 1) := by decide +kernel
def wo_arrive : List Cond := [.code yX10_arrive cX10_arrive 9 none, .methodLink RX10 55 yX10_isGate, .instanceMethod yX10_isGate, .selects RX10 yX10_isGate yX10_isGate, .initialized RX10, .methodLink RX10 289 yX10_startLate, .instanceMethod yX10_startLate, .selects RX10 yX10_startLate yX10_startLate, .methodLink RX10 292 yX10_startEarly, .instanceMethod yX10_startEarly, .selects RX10 yX10_startEarly yX10_startEarly, .methodLink RX10 260 Lib.Math.max.name, .static Lib.Math.max.name, .initialized "java/lang/Math", .code Lib.Math.max.name Lib.Math.max.code 2 (some .int), .methodLink RX10 266 Lib.Math.min.name, .static Lib.Math.min.name, .code Lib.Math.min.name Lib.Math.min.code 2 (some .int)]
def wr_arrive : List Cond := (wfX10 ++ (w_isGate ++ (w_startLate ++ (w_startEarly ++ ([])))))
def w_arrive : List Cond := wo_arrive ++ wr_arrive
theorem wg_arrive : GW w_arrive := GW_app (GW_of (by decide +kernel)) (GW_app (wg_fX10) (GW_app (wg_isGate) (GW_app (wg_startLate) (GW_app (wg_startEarly) (GW_nil)))))
theorem in_arrive : ∀ w ∈ wfX10, w ∈ w_arrive := fun _ h => List.mem_append_right _ (List.mem_append_left _ h)
theorem g_arrive_isGate_55 : GoodIn w_arrive (wsV RX10 55 RX10 yX10_isGate w_isGate) := goodIn_app (gi_left (goodIn_of _ (by decide +kernel))) (fun w h => ⟨List.mem_append_right _ (List.mem_append_right _ (List.mem_append_left _ h)), wg_isGate w h⟩)
theorem g_arrive_startLate_289 : GoodIn w_arrive (wsV RX10 289 RX10 yX10_startLate w_startLate) := goodIn_app (gi_left (goodIn_of _ (by decide +kernel))) (fun w h => ⟨List.mem_append_right _ (List.mem_append_right _ (List.mem_append_right _ (List.mem_append_left _ h))), wg_startLate w h⟩)
theorem g_arrive_startEarly_292 : GoodIn w_arrive (wsV RX10 292 RX10 yX10_startEarly w_startEarly) := goodIn_app (gi_left (goodIn_of _ (by decide +kernel))) (fun w h => ⟨List.mem_append_right _ (List.mem_append_right _ (List.mem_append_right _ (List.mem_append_right _ (List.mem_append_left _ h)))), wg_startEarly w h⟩)
set_option maxHeartbeats 4000000 in
set_option maxRecDepth 100000 in
theorem ct_arrive (l : Launch) (E : gE) (B : Nat → Nat) (Q : VS → Prop) (p1 : Int32) (p2 : Int32) (σ : VS) (hw : wp_arrive Q p1 p2 σ) : CtV l E yX10_arrive w_arrive (({ frames := 2, cells := 0, slots := 0, locals := 45 } : Room)) (wm E B σ) [.ref (B 0), .int p1, .int p2] (fun w => ∃ σ' : VS, Q σ' ∧ w = wm E B σ') := by
  refine VC_V (cc := cX10_arrive) (mL := 9) (rt := none) (lv0 := [(0, .ref (B 0)), (1, .int p1), (2, .int p2)]) rfl (by decide) rfl (Nat.le_of_ble_eq_true rfl) ?_
  intro p e s m below meth c A F
  replace F : Fx p s m _ meth c A E cX10_arrive 9 none RX10 w_arrive := F
  obtain ⟨X46, hX46⟩ : ∃ X : Int32 → Int32 → Int32 → Int32 → VS → Prop, X = fun l1 l2 l3 l4 σ => WB p l e (({ frames := 2, cells := 0, slots := 0, locals := 45 } : Room)) s m (#[.ref (B 0), .int p1, .int p2]) below meth c (MQ below (va_Qv (fun w => ∃ σ' : VS, Q σ' ∧ w = wm E B σ') (AftU E A) A) (#[.ref (B 0), .int p1, .int p2]) s (({ frames := 2, cells := 0, slots := 0, locals := 45 } : Room)).cells (({ frames := 2, cells := 0, slots := 0, locals := 45 } : Room)).slots A) A E (wm E B) 9 46 [(0, .ref (B 0)), (1, .int l1), (2, .int l2), (3, .int l3), (4, .int l4)] [] σ := ⟨_, rfl⟩
  have U_46 : ∀ (l1 : Int32) (l2 : Int32) (l3 : Int32) (l4 : Int32) (σ : VS), X46 l1 l2 l3 l4 σ → WB p l e (({ frames := 2, cells := 0, slots := 0, locals := 45 } : Room)) s m (#[.ref (B 0), .int p1, .int p2]) below meth c (MQ below (va_Qv (fun w => ∃ σ' : VS, Q σ' ∧ w = wm E B σ') (AftU E A) A) (#[.ref (B 0), .int p1, .int p2]) s (({ frames := 2, cells := 0, slots := 0, locals := 45 } : Room)).cells (({ frames := 2, cells := 0, slots := 0, locals := 45 } : Room)).slots A) A E (wm E B) 9 46 [(0, .ref (B 0)), (1, .int l1), (2, .int l2), (3, .int l3), (4, .int l4)] [] σ := by
    intro l1 l2 l3 l4 σ hw; rw [hX46] at hw; exact hw
  have J_239 : ∀ (l1 : Int32) (l2 : Int32) (l3 : Int32) (l4 : Int32) (σ : VS), b_arrive_239 X46 Q l1 l2 l3 l4 σ → WB p l e (({ frames := 2, cells := 0, slots := 0, locals := 45 } : Room)) s m (#[.ref (B 0), .int p1, .int p2]) below meth c (MQ below (va_Qv (fun w => ∃ σ' : VS, Q σ' ∧ w = wm E B σ') (AftU E A) A) (#[.ref (B 0), .int p1, .int p2]) s (({ frames := 2, cells := 0, slots := 0, locals := 45 } : Room)).cells (({ frames := 2, cells := 0, slots := 0, locals := 45 } : Room)).slots A) A E (wm E B) 9 239 [(0, .ref (B 0)), (1, .int l1), (2, .int l2), (3, .int l3), (4, .int l4)] [] σ := by
    intro l1 l2 l3 l4 σ hw
    unfold b_arrive_239 at hw
    refine R_iinc (q := 4) (v := (l4 + 1)) (lv' := [(4, .int (l4 + 1)), (0, .ref (B 0)), (1, .int l1), (2, .int l2), (3, .int l3)]) F dX10_arrive_239 rfl rfl (by decide) rfl ?_
    refine R_goto (tgt := 46) F dX10_arrive_242 (by decide) ?_
    exact R_sub [1, 2, 3, 4, 0] rfl (U_46 l1 l2 l3 (l4 + 1) σ hw)
  have J_236 : ∀ (l1 : Int32) (l2 : Int32) (l4 : Int32) (k0 : Int32) (k1 : Int32) (σ : VS), b_arrive_236 X46 Q l1 l2 l4 k0 k1 σ → WB p l e (({ frames := 2, cells := 0, slots := 0, locals := 45 } : Room)) s m (#[.ref (B 0), .int p1, .int p2]) below meth c (MQ below (va_Qv (fun w => ∃ σ' : VS, Q σ' ∧ w = wm E B σ') (AftU E A) A) (#[.ref (B 0), .int p1, .int p2]) s (({ frames := 2, cells := 0, slots := 0, locals := 45 } : Room)).cells (({ frames := 2, cells := 0, slots := 0, locals := 45 } : Room)).slots A) A E (wm E B) 9 236 [(0, .ref (B 0)), (1, .int l1), (2, .int l2), (4, .int l4)] [.int k0, .int k1, .ref (B 41)] σ := by
    intro l1 l2 l4 k0 k1 σ hw
    unfold b_arrive_236 at hw
    have hi := hw.1
    replace hw := hw.2
    refine R_sti F qm_41 um_41 dX10_arrive_236 hi ?_
    refine R_iconst F 1 dX10_arrive_237 (by decide) ?_
    refine R_istore_n (lv' := [(3, .int 1), (0, .ref (B 0)), (1, .int l1), (2, .int l2), (4, .int l4)]) F dX10_arrive_238 rfl (by decide) rfl ?_
    exact R_sub [1, 2, 3, 0, 4] rfl (J_239 l1 l2 1 l4 (sa σ 41 k1 k0) hw)
  have J_202 : ∀ (l1 : Int32) (l2 : Int32) (l3 : Int32) (l4 : Int32) (l8 : Int32) (k0 : Int32) (k1 : Int32) (σ : VS), b_arrive_202 X46 Q l1 l2 l3 l4 l8 k0 k1 σ → WB p l e (({ frames := 2, cells := 0, slots := 0, locals := 45 } : Room)) s m (#[.ref (B 0), .int p1, .int p2]) below meth c (MQ below (va_Qv (fun w => ∃ σ' : VS, Q σ' ∧ w = wm E B σ') (AftU E A) A) (#[.ref (B 0), .int p1, .int p2]) s (({ frames := 2, cells := 0, slots := 0, locals := 45 } : Room)).cells (({ frames := 2, cells := 0, slots := 0, locals := 45 } : Room)).slots A) A E (wm E B) 9 202 [(0, .ref (B 0)), (1, .int l1), (2, .int l2), (3, .int l3), (4, .int l4), (8, .int l8)] [.int k0, .int k1, .ref (B 40)] σ := by
    intro l1 l2 l3 l4 l8 k0 k1 σ hw
    unfold b_arrive_202 at hw
    have hi := hw.1
    replace hw := hw.2
    refine R_sti F qm_40 um_40 dX10_arrive_202 hi ?_
    refine R_aload_n F dX10_arrive_203 rfl 0 rfl ?_
    refine gm_41 F in_arrive dX10_arrive_204 ?_
    refine R_iconst F 2 dX10_arrive_207 (by decide) ?_
    refine R_iload_n F dX10_arrive_208 rfl 1 rfl ?_
    refine R_imul F dX10_arrive_209 ?_
    refine R_iload_n F dX10_arrive_210 rfl 2 rfl ?_
    refine R_iadd F dX10_arrive_211 ?_
    refine R_iload_n F dX10_arrive_212 rfl 3 rfl ?_
    refine R_if_eq (tgt := 234) F dX10_arrive_213 (by decide) (fun hc => ?_) (fun hc => ?_)
    · replace hw := hw.1 hc
      refine R_iload F dX10_arrive_234 5 rfl ?_
      exact R_sub [0, 1, 2, 4] rfl (J_236 l1 l2 l4 l8 ((2 * l1) + l2) (sa σ 40 k1 k0) hw)
    · replace hw := hw.2 hc
      refine R_aload_n F dX10_arrive_216 rfl 0 rfl ?_
      refine gm_41 F in_arrive dX10_arrive_217 ?_
      refine R_iconst F 2 dX10_arrive_220 (by decide) ?_
      refine R_iload_n F dX10_arrive_221 rfl 1 rfl ?_
      refine R_imul F dX10_arrive_222 ?_
      refine R_iload_n F dX10_arrive_223 rfl 2 rfl ?_
      refine R_iadd F dX10_arrive_224 ?_
      refine R_ldi F qm_41 dX10_arrive_225 hw.1 ?_
      replace hw := hw.2
      refine R_iload F dX10_arrive_226 5 rfl ?_
      refine R_mmin F (List.mem_append_left _ (show Cond.methodLink RX10 266 Lib.Math.min.name ∈ wo_arrive by decide +kernel)) (List.mem_append_left _ (show Cond.static Lib.Math.min.name ∈ wo_arrive by decide +kernel)) (List.mem_append_left _ (show Cond.initialized "java/lang/Math" ∈ wo_arrive by decide +kernel)) (List.mem_append_left _ (show Cond.code Lib.Math.min.name Lib.Math.min.code 2 (some .int) ∈ wo_arrive by decide +kernel)) (Nat.le_of_ble_eq_true rfl) (Nat.le_of_ble_eq_true rfl) dX10_arrive_228 ?_
      refine R_goto (tgt := 236) F dX10_arrive_231 (by decide) ?_
      exact R_sub [0, 1, 2, 4] rfl (J_236 l1 l2 l4 (imin (rd (sa σ 40 k1 k0) 41 ((2 * l1) + l2)) l8) ((2 * l1) + l2) (sa σ 40 k1 k0) hw)
  have J_105 : ∀ (l1 : Int32) (l2 : Int32) (l3 : Int32) (l4 : Int32) (l5 : Int32) (k0 : Int32) (σ : VS), b_arrive_105 X46 Q l1 l2 l3 l4 l5 k0 σ → WB p l e (({ frames := 2, cells := 0, slots := 0, locals := 45 } : Room)) s m (#[.ref (B 0), .int p1, .int p2]) below meth c (MQ below (va_Qv (fun w => ∃ σ' : VS, Q σ' ∧ w = wm E B σ') (AftU E A) A) (#[.ref (B 0), .int p1, .int p2]) s (({ frames := 2, cells := 0, slots := 0, locals := 45 } : Room)).cells (({ frames := 2, cells := 0, slots := 0, locals := 45 } : Room)).slots A) A E (wm E B) 9 105 [(0, .ref (B 0)), (1, .int l1), (2, .int l2), (3, .int l3), (4, .int l4), (5, .int l5)] [.int k0] σ := by
    intro l1 l2 l3 l4 l5 k0 σ hw
    unfold b_arrive_105 at hw
    refine R_istore (lv' := [(6, .int k0), (0, .ref (B 0)), (1, .int l1), (2, .int l2), (3, .int l3), (4, .int l4), (5, .int l5)]) F dX10_arrive_105 (by decide) rfl ?_
    refine R_aload_n F dX10_arrive_107 rfl 1 rfl ?_
    refine gm_40 F in_arrive dX10_arrive_108 ?_
    refine R_iconst F 2 dX10_arrive_111 (by decide) ?_
    refine R_iload F dX10_arrive_112 6 rfl ?_
    refine R_imul F dX10_arrive_114 ?_
    refine R_iload F dX10_arrive_115 0 rfl ?_
    refine R_iadd F dX10_arrive_117 ?_
    refine R_ldi F qm_40 dX10_arrive_118 hw.1 ?_
    replace hw := hw.2
    refine R_aload_n F dX10_arrive_119 rfl 1 rfl ?_
    refine gm_36 F in_arrive dX10_arrive_120 ?_
    refine R_bipush F 8 dX10_arrive_123 (by decide) ?_
    refine R_iload_n F dX10_arrive_125 rfl 2 rfl ?_
    refine R_imul F dX10_arrive_126 ?_
    refine R_iconst F 2 dX10_arrive_127 (by decide) ?_
    refine R_iload F dX10_arrive_128 5 rfl ?_
    refine R_imul F dX10_arrive_130 ?_
    refine R_iadd F dX10_arrive_131 ?_
    refine R_iload_n F dX10_arrive_132 rfl 3 rfl ?_
    refine R_iadd F dX10_arrive_133 ?_
    refine R_ldi F qm_36 dX10_arrive_134 hw.1 ?_
    replace hw := hw.2
    refine R_iadd F dX10_arrive_135 ?_
    refine R_topi (fun x8 ex8 => ?_)
    replace hw := hw x8 ex8
    refine R_istore (lv' := [(7, .int x8), (6, .int k0), (0, .ref (B 0)), (1, .int l1), (2, .int l2), (3, .int l3), (4, .int l4), (5, .int l5)]) F dX10_arrive_136 (by decide) rfl ?_
    refine R_aload_n F dX10_arrive_138 rfl 2 rfl ?_
    refine gm_41 F in_arrive dX10_arrive_139 ?_
    refine R_iconst F 2 dX10_arrive_142 (by decide) ?_
    refine R_iload F dX10_arrive_143 7 rfl ?_
    refine R_imul F dX10_arrive_145 ?_
    refine R_iload F dX10_arrive_146 1 rfl ?_
    refine R_iadd F dX10_arrive_148 ?_
    refine R_ldi F qm_41 dX10_arrive_149 hw.1 ?_
    replace hw := hw.2
    refine R_aload_n F dX10_arrive_150 rfl 2 rfl ?_
    refine gm_37 F in_arrive dX10_arrive_151 ?_
    refine R_bipush F 8 dX10_arrive_154 (by decide) ?_
    refine R_iload_n F dX10_arrive_156 rfl 3 rfl ?_
    refine R_imul F dX10_arrive_157 ?_
    refine R_iconst F 2 dX10_arrive_158 (by decide) ?_
    refine R_iload F dX10_arrive_159 6 rfl ?_
    refine R_imul F dX10_arrive_161 ?_
    refine R_iadd F dX10_arrive_162 ?_
    refine R_iload_n F dX10_arrive_163 rfl 4 rfl ?_
    refine R_iadd F dX10_arrive_164 ?_
    refine R_ldi F qm_37 dX10_arrive_165 hw.1 ?_
    replace hw := hw.2
    refine R_iadd F dX10_arrive_166 ?_
    refine R_topi (fun x9 ex9 => ?_)
    replace hw := hw x9 ex9
    refine R_istore (lv' := [(8, .int x9), (7, .int x8), (6, .int k0), (0, .ref (B 0)), (1, .int l1), (2, .int l2), (3, .int l3), (4, .int l4), (5, .int l5)]) F dX10_arrive_167 (by decide) rfl ?_
    refine R_aload_n F dX10_arrive_169 rfl 3 rfl ?_
    refine gm_40 F in_arrive dX10_arrive_170 ?_
    refine R_iconst F 2 dX10_arrive_173 (by decide) ?_
    refine R_iload_n F dX10_arrive_174 rfl 4 rfl ?_
    refine R_imul F dX10_arrive_175 ?_
    refine R_iload_n F dX10_arrive_176 rfl 5 rfl ?_
    refine R_iadd F dX10_arrive_177 ?_
    refine R_iload_n F dX10_arrive_178 rfl 6 rfl ?_
    refine R_if_eq (tgt := 200) F dX10_arrive_179 (by decide) (fun hc => ?_) (fun hc => ?_)
    · replace hw := hw.1 hc
      refine R_iload F dX10_arrive_200 1 rfl ?_
      exact R_sub [3, 4, 5, 6, 7, 0] rfl (J_202 l1 l2 l3 l4 x9 x8 ((2 * l1) + l2) σ hw)
    · replace hw := hw.2 hc
      refine R_aload_n F dX10_arrive_182 rfl 3 rfl ?_
      refine gm_40 F in_arrive dX10_arrive_183 ?_
      refine R_iconst F 2 dX10_arrive_186 (by decide) ?_
      refine R_iload_n F dX10_arrive_187 rfl 4 rfl ?_
      refine R_imul F dX10_arrive_188 ?_
      refine R_iload_n F dX10_arrive_189 rfl 5 rfl ?_
      refine R_iadd F dX10_arrive_190 ?_
      refine R_ldi F qm_40 dX10_arrive_191 hw.1 ?_
      replace hw := hw.2
      refine R_iload F dX10_arrive_192 1 rfl ?_
      refine R_mmax F (List.mem_append_left _ (show Cond.methodLink RX10 260 Lib.Math.max.name ∈ wo_arrive by decide +kernel)) (List.mem_append_left _ (show Cond.static Lib.Math.max.name ∈ wo_arrive by decide +kernel)) (List.mem_append_left _ (show Cond.initialized "java/lang/Math" ∈ wo_arrive by decide +kernel)) (List.mem_append_left _ (show Cond.code Lib.Math.max.name Lib.Math.max.code 2 (some .int) ∈ wo_arrive by decide +kernel)) (Nat.le_of_ble_eq_true rfl) (Nat.le_of_ble_eq_true rfl) dX10_arrive_194 ?_
      refine R_goto (tgt := 202) F dX10_arrive_197 (by decide) ?_
      exact R_sub [3, 4, 5, 6, 7, 0] rfl (J_202 l1 l2 l3 l4 x9 (imax (rd σ 40 ((2 * l1) + l2)) x8) ((2 * l1) + l2) σ hw)
  have C_46 : ∀ (l1 : Int32) (l2 : Int32) (l3 : Int32) (l4 : Int32) (σ : VS), b_arrive_46 X46 Q l1 l2 l3 l4 σ → X46 l1 l2 l3 l4 σ := by
    intro l1 l2 l3 l4 σ hw
    unfold b_arrive_46 at hw
    rw [hX46]
    show WB p l e (({ frames := 2, cells := 0, slots := 0, locals := 45 } : Room)) s m (#[.ref (B 0), .int p1, .int p2]) below meth c (MQ below (va_Qv (fun w => ∃ σ' : VS, Q σ' ∧ w = wm E B σ') (AftU E A) A) (#[.ref (B 0), .int p1, .int p2]) s (({ frames := 2, cells := 0, slots := 0, locals := 45 } : Room)).cells (({ frames := 2, cells := 0, slots := 0, locals := 45 } : Room)).slots A) A E (wm E B) 9 46 [(0, .ref (B 0)), (1, .int l1), (2, .int l2), (3, .int l3), (4, .int l4)] [] σ
    refine R_iload F dX10_arrive_46 4 rfl ?_
    refine R_aload_n F dX10_arrive_48 rfl 0 rfl ?_
    refine gm_3 F in_arrive dX10_arrive_49 ?_
    refine R_iload_n F dX10_arrive_52 rfl 1 rfl ?_
    refine R_ldi F qm_3 dX10_arrive_53 hw.1 ?_
    replace hw := hw.2
    refine R_icmp_ge (tgt := 245) F dX10_arrive_54 (by decide) (fun hc => ?_) (fun hc => ?_)
    · replace hw := hw.1 hc
      exact R_vret (Qc := Q) F dX10_arrive_245 hw
    · replace hw := hw.2 hc
      refine R_aload_n F dX10_arrive_57 rfl 0 rfl ?_
      refine gm_7 F in_arrive dX10_arrive_58 ?_
      refine R_iconst F 4 dX10_arrive_61 (by decide) ?_
      refine R_iload_n F dX10_arrive_62 rfl 1 rfl ?_
      refine R_imul F dX10_arrive_63 ?_
      refine R_iload F dX10_arrive_64 4 rfl ?_
      refine R_iadd F dX10_arrive_66 ?_
      refine R_ldi F qm_7 dX10_arrive_67 hw.1 ?_
      replace hw := hw.2
      refine R_topi (fun x7 ex7 => ?_)
      replace hw := hw x7 ex7
      refine R_istore (lv' := [(5, .int x7), (0, .ref (B 0)), (1, .int l1), (2, .int l2), (3, .int l3), (4, .int l4)]) F dX10_arrive_68 (by decide) rfl ?_
      refine R_iload F dX10_arrive_70 0 rfl ?_
      refine R_if_lt (tgt := 239) F dX10_arrive_72 (by decide) (fun hc => ?_) (fun hc => ?_)
      · replace hw := hw.1 hc
        exact R_sub [1, 2, 3, 4, 5] rfl (J_239 l1 l2 l3 l4 σ hw)
      · replace hw := hw.2 hc
        refine R_aload_n F dX10_arrive_75 rfl 1 rfl ?_
        refine gm_34 F in_arrive dX10_arrive_76 ?_
        refine R_iload F dX10_arrive_79 0 rfl ?_
        refine R_ldz F qm_34 dX10_arrive_81 hw.1 ?_
        replace hw := hw.2
        refine R_if_ne (tgt := 88) F dX10_arrive_82 (by decide) (fun hc => ?_) (fun hc => ?_)
        · replace hw := hw.1 hc
          refine R_aload_n F dX10_arrive_88 rfl 1 rfl ?_
          refine gm_2 F in_arrive dX10_arrive_89 ?_
          refine R_iload_n F dX10_arrive_92 rfl 2 rfl ?_
          refine R_ldi F qm_2 dX10_arrive_93 hw.1 ?_
          replace hw := hw.2
          refine R_iconst F 2 dX10_arrive_94 (by decide) ?_
          refine R_icmp_ne (tgt := 104) F dX10_arrive_95 (by decide) (fun hc => ?_) (fun hc => ?_)
          · replace hw := hw.1 hc
            refine R_iload_n F dX10_arrive_104 rfl 3 rfl ?_
            exact R_sub [1, 2, 3, 4, 5, 0] rfl (J_105 l1 l2 l3 l4 x7 l2 σ hw)
          · replace hw := hw.2 hc
            refine R_iconst F 1 dX10_arrive_98 (by decide) ?_
            refine R_iload_n F dX10_arrive_99 rfl 3 rfl ?_
            refine R_isub F dX10_arrive_100 ?_
            refine R_goto (tgt := 105) F dX10_arrive_101 (by decide) ?_
            exact R_sub [1, 2, 3, 4, 5, 0] rfl (J_105 l1 l2 l3 l4 x7 (1 - l2) σ hw)
        · replace hw := hw.2 hc
          refine R_goto (tgt := 239) F dX10_arrive_85 (by decide) ?_
          exact R_sub [1, 2, 3, 4, 5] rfl (J_239 l1 l2 l3 l4 σ hw)
  unfold wp_arrive at hw
  replace hw := hw X46 C_46
  refine R_aload_n F dX10_arrive_0 rfl 0 rfl ?_
  refine R_iload_n F dX10_arrive_1 rfl 1 rfl ?_
  refine R_callI (As := [.int p1]) (C := RX10) (q0 := 0) (ci := 10) (N := 69) (T := TX10) (fs := mfl B) F (ct_isGate l E B _ p1 _ hw) (cwV 1 F.2.2.2.2.2.2.2.2.2.2 g_arrive_isGate_55 rfl rfl rfl (by decide +kernel) ⟨Nat.le_of_ble_eq_true rfl, Nat.le_of_ble_eq_true rfl⟩) ⟨rfl, rfl⟩ rfl (fun _ => rfl) rfl rfl (Nat.le_of_ble_eq_true rfl) dX10_arrive_2 (fun r1 σ2 hw => ?_)
  refine R_if_ne (tgt := 41) F dX10_arrive_5 (by decide) (fun hc => ?_) (fun hc => ?_)
  · replace hw := hw.1 hc
    refine R_iconst F 0 dX10_arrive_41 (by decide) ?_
    refine R_istore_n (lv' := [(3, .int 0), (0, .ref (B 0)), (1, .int p1), (2, .int p2)]) F dX10_arrive_42 rfl (by decide) rfl ?_
    refine R_iconst F 0 dX10_arrive_43 (by decide) ?_
    refine R_istore (lv' := [(4, .int 0), (3, .int 0), (0, .ref (B 0)), (1, .int p1), (2, .int p2)]) F dX10_arrive_44 (by decide) rfl ?_
    exact R_sub [2, 3, 4, 1, 0] rfl (U_46 p1 p2 0 0 σ2 hw)
  · replace hw := hw.2 hc
    refine R_aload_n F dX10_arrive_8 rfl 0 rfl ?_
    refine gm_40 F in_arrive dX10_arrive_9 ?_
    refine R_iconst F 2 dX10_arrive_12 (by decide) ?_
    refine R_iload_n F dX10_arrive_13 rfl 1 rfl ?_
    refine R_imul F dX10_arrive_14 ?_
    refine R_iload_n F dX10_arrive_15 rfl 2 rfl ?_
    refine R_iadd F dX10_arrive_16 ?_
    refine R_aload_n F dX10_arrive_17 rfl 0 rfl ?_
    refine R_iload_n F dX10_arrive_18 rfl 1 rfl ?_
    refine R_iload_n F dX10_arrive_19 rfl 2 rfl ?_
    refine R_callI (As := [.int p1, .int p2]) (C := RX10) (q0 := 0) (ci := 10) (N := 69) (T := TX10) (fs := mfl B) F (ct_startLate l E B _ p1 p2 _ hw) (cwV 2 F.2.2.2.2.2.2.2.2.2.2 g_arrive_startLate_289 rfl rfl rfl (by decide +kernel) ⟨Nat.le_of_ble_eq_true rfl, Nat.le_of_ble_eq_true rfl⟩) ⟨rfl, rfl⟩ rfl (fun _ => rfl) rfl rfl (Nat.le_of_ble_eq_true rfl) dX10_arrive_20 (fun r3 σ4 hw => ?_)
    have hi := hw.1
    replace hw := hw.2
    refine R_sti F qm_40 um_40 dX10_arrive_23 hi ?_
    refine R_aload_n F dX10_arrive_24 rfl 0 rfl ?_
    refine gm_41 F in_arrive dX10_arrive_25 ?_
    refine R_iconst F 2 dX10_arrive_28 (by decide) ?_
    refine R_iload_n F dX10_arrive_29 rfl 1 rfl ?_
    refine R_imul F dX10_arrive_30 ?_
    refine R_iload_n F dX10_arrive_31 rfl 2 rfl ?_
    refine R_iadd F dX10_arrive_32 ?_
    refine R_aload_n F dX10_arrive_33 rfl 0 rfl ?_
    refine R_iload_n F dX10_arrive_34 rfl 1 rfl ?_
    refine R_iload_n F dX10_arrive_35 rfl 2 rfl ?_
    refine R_callI (As := [.int p1, .int p2]) (C := RX10) (q0 := 0) (ci := 10) (N := 69) (T := TX10) (fs := mfl B) F (ct_startEarly l E B _ p1 p2 _ hw) (cwV 2 F.2.2.2.2.2.2.2.2.2.2 g_arrive_startEarly_292 rfl rfl rfl (by decide +kernel) ⟨Nat.le_of_ble_eq_true rfl, Nat.le_of_ble_eq_true rfl⟩) ⟨rfl, rfl⟩ rfl (fun _ => rfl) rfl rfl (Nat.le_of_ble_eq_true rfl) dX10_arrive_36 (fun r5 σ6 hw => ?_)
    have hi := hw.1
    replace hw := hw.2
    refine R_sti F qm_41 um_41 dX10_arrive_39 hi ?_
    exact R_vret (Qc := Q) F dX10_arrive_40 hw
def b_arrival_209 (X101 : Int32 → Int32 → Int32 → Int32 → VS → Prop) (X156 : Int32 → Int32 → Int32 → Int32 → Int32 → Int32 → VS → Prop) (Q : Int32 → VS → Prop) (k0 : Int32) (σ : VS) : Prop := Q k0 σ
def b_arrival_176 (X101 : Int32 → Int32 → Int32 → Int32 → VS → Prop) (X156 : Int32 → Int32 → Int32 → Int32 → Int32 → Int32 → VS → Prop) (Q : Int32 → VS → Prop) (l1 : Int32) (l2 : Int32) (l3 : Int32) (l4 : Int32) (σ : VS) : Prop := X101 l1 l2 l3 (l4 + 1) σ
def b_arrival_156 (X101 : Int32 → Int32 → Int32 → Int32 → VS → Prop) (X156 : Int32 → Int32 → Int32 → Int32 → Int32 → Int32 → VS → Prop) (Q : Int32 → VS → Prop) (l1 : Int32) (l2 : Int32) (l3 : Int32) (l4 : Int32) (l5 : Int32) (l6 : Int32) (σ : VS) : Prop := ((2 ≤ l6.toInt → b_arrival_176 X101 X156 Q l1 l2 l3 l4 σ) ∧ (l6.toInt < 2 → wp_arrive (fun (σ7 : VS) => X156 l1 l2 l3 l4 l5 (l6 + 1) σ7) l5 l6 σ))
def b_arrival_101 (X101 : Int32 → Int32 → Int32 → Int32 → VS → Prop) (X156 : Int32 → Int32 → Int32 → Int32 → Int32 → Int32 → VS → Prop) (Q : Int32 → VS → Prop) (l1 : Int32) (l2 : Int32) (l3 : Int32) (l4 : Int32) (σ : VS) : Prop := (((σ.1 32).toInt ≤ l4.toInt → ((l3.toInt ≠ 0 → (In ((2 * l1) + l2) 100 ∧ b_arrival_209 X101 X156 Q (rd σ 41 ((2 * l1) + l2)) σ)) ∧ (l3.toInt = 0 → (In ((2 * l1) + l2) 100 ∧ b_arrival_209 X101 X156 Q (rd σ 40 ((2 * l1) + l2)) σ)))) ∧ (l4.toInt < (σ.1 32).toInt → (In l4 50 ∧ (∀ x5 : Int32, x5 = (rd σ 31 l4) → (In x5 50 ∧ (((rd σ 2 x5).toInt = 5 → b_arrival_176 X101 X156 Q l1 l2 l3 l4 σ) ∧ ((rd σ 2 x5).toInt ≠ 5 → (In x5 50 ∧ (((rd σ 34 x5).toInt = 0 → b_arrival_176 X101 X156 Q l1 l2 l3 l4 σ) ∧ ((rd σ 34 x5).toInt ≠ 0 → (In x5 50 ∧ (((rd σ 35 x5).toInt = 0 → X156 l1 l2 l3 l4 x5 0 σ) ∧ ((rd σ 35 x5).toInt ≠ 0 → b_arrival_176 X101 X156 Q l1 l2 l3 l4 σ)))))))))))))
def b_arrival_62 (X101 : Int32 → Int32 → Int32 → Int32 → VS → Prop) (X156 : Int32 → Int32 → Int32 → Int32 → Int32 → Int32 → VS → Prop) (Q : Int32 → VS → Prop) (σ : VS) : Prop := Q (-1000000) σ
def b_arrival_36 (X101 : Int32 → Int32 → Int32 → Int32 → VS → Prop) (X156 : Int32 → Int32 → Int32 → Int32 → Int32 → Int32 → VS → Prop) (Q : Int32 → VS → Prop) (σ : VS) : Prop := Q (-1000000) σ
def wp_arrival (Q : Int32 → VS → Prop) (p1 : Int32) (p2 : Int32) (p3 : Int32) (σ : VS) : Prop := ∀ (X101 : Int32 → Int32 → Int32 → Int32 → VS → Prop) (X156 : Int32 → Int32 → Int32 → Int32 → Int32 → Int32 → VS → Prop), (∀ (l1 : Int32) (l2 : Int32) (l3 : Int32) (l4 : Int32) (σ : VS), b_arrival_101 X101 X156 Q l1 l2 l3 l4 σ → X101 l1 l2 l3 l4 σ) → (∀ (l1 : Int32) (l2 : Int32) (l3 : Int32) (l4 : Int32) (l5 : Int32) (l6 : Int32) (σ : VS), b_arrival_156 X101 X156 Q l1 l2 l3 l4 l5 l6 σ → X156 l1 l2 l3 l4 l5 l6 σ) → wp_isCell (fun (r1 : Int32) (σ2 : VS) => ((r1.toInt = 0 → b_arrival_36 X101 X156 Q σ2) ∧ (r1.toInt ≠ 0 → (In p1 50 ∧ (((rd σ2 2 p1).toInt = 5 → b_arrival_36 X101 X156 Q σ2) ∧ ((rd σ2 2 p1).toInt ≠ 5 → ((p2.toInt < 0 → b_arrival_36 X101 X156 Q σ2) ∧ (0 ≤ p2.toInt → ((1 < p2.toInt → b_arrival_36 X101 X156 Q σ2) ∧ (p2.toInt ≤ 1 → ((p3.toInt < 0 → b_arrival_36 X101 X156 Q σ2) ∧ (0 ≤ p3.toInt → ((p3.toInt ≤ 3 → wp_time (fun (σ4 : VS) => (In p1 50 ∧ (((rd σ4 34 p1).toInt = 0 → b_arrival_62 X101 X156 Q σ4) ∧ ((rd σ4 34 p1).toInt ≠ 0 → (In p1 50 ∧ (((rd σ4 35 p1).toInt = 0 → ((p3.toInt ≠ 2 → ((p3.toInt ≠ 3 → X101 p1 p2 p3 0 σ4) ∧ (p3.toInt = 3 → (In ((2 * p1) + p2) 100 ∧ Q (rd σ4 39 ((2 * p1) + p2)) σ4)))) ∧ (p3.toInt = 2 → (In ((2 * p1) + p2) 100 ∧ Q (rd σ4 38 ((2 * p1) + p2)) σ4)))) ∧ ((rd σ4 35 p1).toInt ≠ 0 → b_arrival_62 X101 X156 Q σ4))))))) σ2) ∧ (3 < p3.toInt → b_arrival_36 X101 X156 Q σ2)))))))))))))) p1 σ
theorem dX10_arrival_0 : decode cX10_arrival 0 = .ok (.aload_n 0, 1) := by decide +kernel
theorem dX10_arrival_1 : decode cX10_arrival 1 = .ok (.iload_n 1, 1) := by decide +kernel
theorem dX10_arrival_2 : decode cX10_arrival 2 = .ok (.invokevirtual 10, 3) := by decide +kernel
theorem dX10_arrival_5 : decode cX10_arrival 5 = .ok (.ifCond .eq 31, 3) := by decide +kernel
theorem dX10_arrival_8 : decode cX10_arrival 8 = .ok (.aload_n 0, 1) := by decide +kernel
theorem dX10_arrival_9 : decode cX10_arrival 9 = .ok (.getfield 18, 3) := by decide +kernel
theorem dX10_arrival_12 : decode cX10_arrival 12 = .ok (.iload_n 1, 1) := by decide +kernel
theorem dX10_arrival_13 : decode cX10_arrival 13 = .ok (.iaload, 1) := by decide +kernel
theorem dX10_arrival_14 : decode cX10_arrival 14 = .ok (.iconst 5, 1) := by decide +kernel
theorem dX10_arrival_15 : decode cX10_arrival 15 = .ok (.if_icmp .eq 21, 3) := by decide +kernel
theorem dX10_arrival_18 : decode cX10_arrival 18 = .ok (.iload_n 2, 1) := by decide +kernel
theorem dX10_arrival_19 : decode cX10_arrival 19 = .ok (.ifCond .lt 17, 3) := by decide +kernel
theorem dX10_arrival_22 : decode cX10_arrival 22 = .ok (.iload_n 2, 1) := by decide +kernel
theorem dX10_arrival_23 : decode cX10_arrival 23 = .ok (.iconst 1, 1) := by decide +kernel
theorem dX10_arrival_24 : decode cX10_arrival 24 = .ok (.if_icmp .gt 12, 3) := by decide +kernel
theorem dX10_arrival_27 : decode cX10_arrival 27 = .ok (.iload_n 3, 1) := by decide +kernel
theorem dX10_arrival_28 : decode cX10_arrival 28 = .ok (.ifCond .lt 8, 3) := by decide +kernel
theorem dX10_arrival_31 : decode cX10_arrival 31 = .ok (.iload_n 3, 1) := by decide +kernel
theorem dX10_arrival_32 : decode cX10_arrival 32 = .ok (.iconst 3, 1) := by decide +kernel
theorem dX10_arrival_33 : decode cX10_arrival 33 = .ok (.if_icmp .le 7, 3) := by decide +kernel
theorem dX10_arrival_40 : decode cX10_arrival 40 = .ok (.aload_n 0, 1) := by decide +kernel
theorem dX10_arrival_41 : decode cX10_arrival 41 = .ok (.invokevirtual 282, 3) := by decide +kernel
theorem dX10_arrival_44 : decode cX10_arrival 44 = .ok (.aload_n 0, 1) := by decide +kernel
theorem dX10_arrival_45 : decode cX10_arrival 45 = .ok (.getfield 117, 3) := by decide +kernel
theorem dX10_arrival_48 : decode cX10_arrival 48 = .ok (.iload_n 1, 1) := by decide +kernel
theorem dX10_arrival_49 : decode cX10_arrival 49 = .ok (.baload, 1) := by decide +kernel
theorem dX10_arrival_50 : decode cX10_arrival 50 = .ok (.ifCond .eq 12, 3) := by decide +kernel
theorem dX10_arrival_53 : decode cX10_arrival 53 = .ok (.aload_n 0, 1) := by decide +kernel
theorem dX10_arrival_54 : decode cX10_arrival 54 = .ok (.getfield 120, 3) := by decide +kernel
theorem dX10_arrival_57 : decode cX10_arrival 57 = .ok (.iload_n 1, 1) := by decide +kernel
theorem dX10_arrival_58 : decode cX10_arrival 58 = .ok (.iaload, 1) := by decide +kernel
theorem dX10_arrival_59 : decode cX10_arrival 59 = .ok (.ifCond .eq 7, 3) := by decide +kernel
theorem dX10_arrival_66 : decode cX10_arrival 66 = .ok (.iload_n 3, 1) := by decide +kernel
theorem dX10_arrival_67 : decode cX10_arrival 67 = .ok (.iconst 2, 1) := by decide +kernel
theorem dX10_arrival_68 : decode cX10_arrival 68 = .ok (.if_icmp .ne 14, 3) := by decide +kernel
theorem dX10_arrival_82 : decode cX10_arrival 82 = .ok (.iload_n 3, 1) := by decide +kernel
theorem dX10_arrival_83 : decode cX10_arrival 83 = .ok (.iconst 3, 1) := by decide +kernel
theorem dX10_arrival_84 : decode cX10_arrival 84 = .ok (.if_icmp .ne 14, 3) := by decide +kernel
theorem dX10_arrival_98 : decode cX10_arrival 98 = .ok (.iconst 0, 1) := by decide +kernel
theorem dX10_arrival_99 : decode cX10_arrival 99 = .ok (.istore 4, 2) := by decide +kernel
theorem dX10_arrival_87 : decode cX10_arrival 87 = .ok (.aload_n 0, 1) := by decide +kernel
theorem dX10_arrival_88 : decode cX10_arrival 88 = .ok (.getfield 132, 3) := by decide +kernel
theorem dX10_arrival_91 : decode cX10_arrival 91 = .ok (.iconst 2, 1) := by decide +kernel
theorem dX10_arrival_92 : decode cX10_arrival 92 = .ok (.iload_n 1, 1) := by decide +kernel
theorem dX10_arrival_93 : decode cX10_arrival 93 = .ok (.imul, 1) := by decide +kernel
theorem dX10_arrival_94 : decode cX10_arrival 94 = .ok (.iload_n 2, 1) := by decide +kernel
theorem dX10_arrival_95 : decode cX10_arrival 95 = .ok (.iadd, 1) := by decide +kernel
theorem dX10_arrival_96 : decode cX10_arrival 96 = .ok (.iaload, 1) := by decide +kernel
theorem dX10_arrival_97 : decode cX10_arrival 97 = .ok (.ireturn, 1) := by decide +kernel
theorem dX10_arrival_71 : decode cX10_arrival 71 = .ok (.aload_n 0, 1) := by decide +kernel
theorem dX10_arrival_72 : decode cX10_arrival 72 = .ok (.getfield 129, 3) := by decide +kernel
theorem dX10_arrival_75 : decode cX10_arrival 75 = .ok (.iconst 2, 1) := by decide +kernel
theorem dX10_arrival_76 : decode cX10_arrival 76 = .ok (.iload_n 1, 1) := by decide +kernel
theorem dX10_arrival_77 : decode cX10_arrival 77 = .ok (.imul, 1) := by decide +kernel
theorem dX10_arrival_78 : decode cX10_arrival 78 = .ok (.iload_n 2, 1) := by decide +kernel
theorem dX10_arrival_79 : decode cX10_arrival 79 = .ok (.iadd, 1) := by decide +kernel
theorem dX10_arrival_80 : decode cX10_arrival 80 = .ok (.iaload, 1) := by decide +kernel
theorem dX10_arrival_81 : decode cX10_arrival 81 = .ok (.ireturn, 1) := by decide +kernel
theorem dX10_arrival_36 : decode cX10_arrival 36 = .ok (.ldc_w 281, 3) := by decide +kernel
theorem dX10_arrival_39 : decode cX10_arrival 39 = .ok (.ireturn, 1) := by decide +kernel
theorem dX10_arrival_62 : decode cX10_arrival 62 = .ok (.ldc_w 281, 3) := by decide +kernel
theorem dX10_arrival_65 : decode cX10_arrival 65 = .ok (.ireturn, 1) := by decide +kernel
theorem dX10_arrival_101 : decode cX10_arrival 101 = .ok (.iload 4, 2) := by decide +kernel
theorem dX10_arrival_103 : decode cX10_arrival 103 = .ok (.aload_n 0, 1) := by decide +kernel
theorem dX10_arrival_104 : decode cX10_arrival 104 = .ok (.getfield 239, 3) := by decide +kernel
theorem dX10_arrival_107 : decode cX10_arrival 107 = .ok (.if_icmp .ge 75, 3) := by decide +kernel
theorem dX10_arrival_182 : decode cX10_arrival 182 = .ok (.iload_n 3, 1) := by decide +kernel
theorem dX10_arrival_183 : decode cX10_arrival 183 = .ok (.ifCond .ne 16, 3) := by decide +kernel
theorem dX10_arrival_199 : decode cX10_arrival 199 = .ok (.aload_n 0, 1) := by decide +kernel
theorem dX10_arrival_200 : decode cX10_arrival 200 = .ok (.getfield 138, 3) := by decide +kernel
theorem dX10_arrival_203 : decode cX10_arrival 203 = .ok (.iconst 2, 1) := by decide +kernel
theorem dX10_arrival_204 : decode cX10_arrival 204 = .ok (.iload_n 1, 1) := by decide +kernel
theorem dX10_arrival_205 : decode cX10_arrival 205 = .ok (.imul, 1) := by decide +kernel
theorem dX10_arrival_206 : decode cX10_arrival 206 = .ok (.iload_n 2, 1) := by decide +kernel
theorem dX10_arrival_207 : decode cX10_arrival 207 = .ok (.iadd, 1) := by decide +kernel
theorem dX10_arrival_208 : decode cX10_arrival 208 = .ok (.iaload, 1) := by decide +kernel
theorem dX10_arrival_186 : decode cX10_arrival 186 = .ok (.aload_n 0, 1) := by decide +kernel
theorem dX10_arrival_187 : decode cX10_arrival 187 = .ok (.getfield 135, 3) := by decide +kernel
theorem dX10_arrival_190 : decode cX10_arrival 190 = .ok (.iconst 2, 1) := by decide +kernel
theorem dX10_arrival_191 : decode cX10_arrival 191 = .ok (.iload_n 1, 1) := by decide +kernel
theorem dX10_arrival_192 : decode cX10_arrival 192 = .ok (.imul, 1) := by decide +kernel
theorem dX10_arrival_193 : decode cX10_arrival 193 = .ok (.iload_n 2, 1) := by decide +kernel
theorem dX10_arrival_194 : decode cX10_arrival 194 = .ok (.iadd, 1) := by decide +kernel
theorem dX10_arrival_195 : decode cX10_arrival 195 = .ok (.iaload, 1) := by decide +kernel
theorem dX10_arrival_196 : decode cX10_arrival 196 = .ok (.goto 13, 3) := by decide +kernel
theorem dX10_arrival_110 : decode cX10_arrival 110 = .ok (.aload_n 0, 1) := by decide +kernel
theorem dX10_arrival_111 : decode cX10_arrival 111 = .ok (.getfield 111, 3) := by decide +kernel
theorem dX10_arrival_114 : decode cX10_arrival 114 = .ok (.iload 4, 2) := by decide +kernel
theorem dX10_arrival_116 : decode cX10_arrival 116 = .ok (.iaload, 1) := by decide +kernel
theorem dX10_arrival_117 : decode cX10_arrival 117 = .ok (.istore 5, 2) := by decide +kernel
theorem dX10_arrival_119 : decode cX10_arrival 119 = .ok (.aload_n 0, 1) := by decide +kernel
theorem dX10_arrival_120 : decode cX10_arrival 120 = .ok (.getfield 18, 3) := by decide +kernel
theorem dX10_arrival_123 : decode cX10_arrival 123 = .ok (.iload 5, 2) := by decide +kernel
theorem dX10_arrival_125 : decode cX10_arrival 125 = .ok (.iaload, 1) := by decide +kernel
theorem dX10_arrival_126 : decode cX10_arrival 126 = .ok (.iconst 5, 1) := by decide +kernel
theorem dX10_arrival_127 : decode cX10_arrival 127 = .ok (.if_icmp .eq 49, 3) := by decide +kernel
theorem dX10_arrival_130 : decode cX10_arrival 130 = .ok (.aload_n 0, 1) := by decide +kernel
theorem dX10_arrival_131 : decode cX10_arrival 131 = .ok (.getfield 117, 3) := by decide +kernel
theorem dX10_arrival_134 : decode cX10_arrival 134 = .ok (.iload 5, 2) := by decide +kernel
theorem dX10_arrival_136 : decode cX10_arrival 136 = .ok (.baload, 1) := by decide +kernel
theorem dX10_arrival_137 : decode cX10_arrival 137 = .ok (.ifCond .eq 39, 3) := by decide +kernel
theorem dX10_arrival_140 : decode cX10_arrival 140 = .ok (.aload_n 0, 1) := by decide +kernel
theorem dX10_arrival_141 : decode cX10_arrival 141 = .ok (.getfield 120, 3) := by decide +kernel
theorem dX10_arrival_144 : decode cX10_arrival 144 = .ok (.iload 5, 2) := by decide +kernel
theorem dX10_arrival_146 : decode cX10_arrival 146 = .ok (.iaload, 1) := by decide +kernel
theorem dX10_arrival_147 : decode cX10_arrival 147 = .ok (.ifCond .eq 6, 3) := by decide +kernel
theorem dX10_arrival_153 : decode cX10_arrival 153 = .ok (.iconst 0, 1) := by decide +kernel
theorem dX10_arrival_154 : decode cX10_arrival 154 = .ok (.istore 6, 2) := by decide +kernel
theorem dX10_arrival_150 : decode cX10_arrival 150 = .ok (.goto 26, 3) := by decide +kernel
theorem dX10_arrival_209 : decode cX10_arrival 209 = .ok (.ireturn, 1) := by decide +kernel
theorem dX10_arrival_176 : decode cX10_arrival 176 = .ok (.iinc 4 1, 3) := by decide +kernel
theorem dX10_arrival_179 : decode cX10_arrival 179 = .ok (.goto (-78), 3) := by decide +kernel
theorem dX10_arrival_156 : decode cX10_arrival 156 = .ok (.iload 6, 2) := by decide +kernel
theorem dX10_arrival_158 : decode cX10_arrival 158 = .ok (.iconst 2, 1) := by decide +kernel
theorem dX10_arrival_159 : decode cX10_arrival 159 = .ok (.if_icmp .ge 17, 3) := by decide +kernel
theorem dX10_arrival_162 : decode cX10_arrival 162 = .ok (.aload_n 0, 1) := by decide +kernel
theorem dX10_arrival_163 : decode cX10_arrival 163 = .ok (.iload 5, 2) := by decide +kernel
theorem dX10_arrival_165 : decode cX10_arrival 165 = .ok (.iload 6, 2) := by decide +kernel
theorem dX10_arrival_167 : decode cX10_arrival 167 = .ok (.invokevirtual 285, 3) := by decide +kernel
theorem dX10_arrival_170 : decode cX10_arrival 170 = .ok (.iinc 6 1, 3) := by decide +kernel
theorem dX10_arrival_173 : decode cX10_arrival 173 = .ok (.goto (-17), 3) := by decide +kernel
def wo_arrival : List Cond := [.code yX10_arrival cX10_arrival 7 (some .int), .methodLink RX10 10 yX10_isCell, .instanceMethod yX10_isCell, .selects RX10 yX10_isCell yX10_isCell, .initialized RX10, .methodLink RX10 282 yX10_time, .instanceMethod yX10_time, .selects RX10 yX10_time yX10_time, .constant RX10 281 (-1000000), .methodLink RX10 285 yX10_arrive, .instanceMethod yX10_arrive, .selects RX10 yX10_arrive yX10_arrive]
def wr_arrival : List Cond := (wfX10 ++ (w_isCell ++ (w_time ++ (w_arrive ++ ([])))))
def w_arrival : List Cond := wo_arrival ++ wr_arrival
theorem wg_arrival : GW w_arrival := GW_app (GW_of (by decide +kernel)) (GW_app (wg_fX10) (GW_app (wg_isCell) (GW_app (wg_time) (GW_app (wg_arrive) (GW_nil)))))
theorem in_arrival : ∀ w ∈ wfX10, w ∈ w_arrival := fun _ h => List.mem_append_right _ (List.mem_append_left _ h)
theorem g_arrival_isCell_10 : GoodIn w_arrival (wsV RX10 10 RX10 yX10_isCell w_isCell) := goodIn_app (gi_left (goodIn_of _ (by decide +kernel))) (fun w h => ⟨List.mem_append_right _ (List.mem_append_right _ (List.mem_append_left _ h)), wg_isCell w h⟩)
theorem g_arrival_time_282 : GoodIn w_arrival (wsV RX10 282 RX10 yX10_time w_time) := goodIn_app (gi_left (goodIn_of _ (by decide +kernel))) (fun w h => ⟨List.mem_append_right _ (List.mem_append_right _ (List.mem_append_right _ (List.mem_append_left _ h))), wg_time w h⟩)
theorem g_arrival_arrive_285 : GoodIn w_arrival (wsV RX10 285 RX10 yX10_arrive w_arrive) := goodIn_app (gi_left (goodIn_of _ (by decide +kernel))) (fun w h => ⟨List.mem_append_right _ (List.mem_append_right _ (List.mem_append_right _ (List.mem_append_right _ (List.mem_append_left _ h)))), wg_arrive w h⟩)
set_option maxHeartbeats 4000000 in
set_option maxRecDepth 100000 in
theorem ct_arrival (l : Launch) (E : gE) (B : Nat → Nat) (Q : Int32 → VS → Prop) (p1 : Int32) (p2 : Int32) (p3 : Int32) (σ : VS) (hw : wp_arrival Q p1 p2 p3 σ) : CtI l E yX10_arrival w_arrival (({ frames := 57, cells := 0, slots := 0, locals := 1398 } : Room)) (wm E B σ) [.ref (B 0), .int p1, .int p2, .int p3] (fun r w => ∃ σ' : VS, Q r σ' ∧ w = wm E B σ') := by
  refine VC_I (cc := cX10_arrival) (mL := 7) (rt := (some .int)) (lv0 := [(0, .ref (B 0)), (1, .int p1), (2, .int p2), (3, .int p3)]) rfl (by decide) rfl (Nat.le_of_ble_eq_true rfl) ?_
  intro p e s m below meth c A F
  replace F : Fx p s m _ meth c A E cX10_arrival 7 (some .int) RX10 w_arrival := F
  obtain ⟨X101, hX101⟩ : ∃ X : Int32 → Int32 → Int32 → Int32 → VS → Prop, X = fun l1 l2 l3 l4 σ => WB p l e (({ frames := 57, cells := 0, slots := 0, locals := 1398 } : Room)) s m (#[.ref (B 0), .int p1, .int p2, .int p3]) below meth c (MQ below (va_Qi (fun r w => ∃ σ' : VS, Q r σ' ∧ w = wm E B σ') (AftU E A) A) (#[.ref (B 0), .int p1, .int p2, .int p3]) s (({ frames := 57, cells := 0, slots := 0, locals := 1398 } : Room)).cells (({ frames := 57, cells := 0, slots := 0, locals := 1398 } : Room)).slots A) A E (wm E B) 7 101 [(0, .ref (B 0)), (1, .int l1), (2, .int l2), (3, .int l3), (4, .int l4)] [] σ := ⟨_, rfl⟩
  have U_101 : ∀ (l1 : Int32) (l2 : Int32) (l3 : Int32) (l4 : Int32) (σ : VS), X101 l1 l2 l3 l4 σ → WB p l e (({ frames := 57, cells := 0, slots := 0, locals := 1398 } : Room)) s m (#[.ref (B 0), .int p1, .int p2, .int p3]) below meth c (MQ below (va_Qi (fun r w => ∃ σ' : VS, Q r σ' ∧ w = wm E B σ') (AftU E A) A) (#[.ref (B 0), .int p1, .int p2, .int p3]) s (({ frames := 57, cells := 0, slots := 0, locals := 1398 } : Room)).cells (({ frames := 57, cells := 0, slots := 0, locals := 1398 } : Room)).slots A) A E (wm E B) 7 101 [(0, .ref (B 0)), (1, .int l1), (2, .int l2), (3, .int l3), (4, .int l4)] [] σ := by
    intro l1 l2 l3 l4 σ hw; rw [hX101] at hw; exact hw
  obtain ⟨X156, hX156⟩ : ∃ X : Int32 → Int32 → Int32 → Int32 → Int32 → Int32 → VS → Prop, X = fun l1 l2 l3 l4 l5 l6 σ => WB p l e (({ frames := 57, cells := 0, slots := 0, locals := 1398 } : Room)) s m (#[.ref (B 0), .int p1, .int p2, .int p3]) below meth c (MQ below (va_Qi (fun r w => ∃ σ' : VS, Q r σ' ∧ w = wm E B σ') (AftU E A) A) (#[.ref (B 0), .int p1, .int p2, .int p3]) s (({ frames := 57, cells := 0, slots := 0, locals := 1398 } : Room)).cells (({ frames := 57, cells := 0, slots := 0, locals := 1398 } : Room)).slots A) A E (wm E B) 7 156 [(0, .ref (B 0)), (1, .int l1), (2, .int l2), (3, .int l3), (4, .int l4), (5, .int l5), (6, .int l6)] [] σ := ⟨_, rfl⟩
  have U_156 : ∀ (l1 : Int32) (l2 : Int32) (l3 : Int32) (l4 : Int32) (l5 : Int32) (l6 : Int32) (σ : VS), X156 l1 l2 l3 l4 l5 l6 σ → WB p l e (({ frames := 57, cells := 0, slots := 0, locals := 1398 } : Room)) s m (#[.ref (B 0), .int p1, .int p2, .int p3]) below meth c (MQ below (va_Qi (fun r w => ∃ σ' : VS, Q r σ' ∧ w = wm E B σ') (AftU E A) A) (#[.ref (B 0), .int p1, .int p2, .int p3]) s (({ frames := 57, cells := 0, slots := 0, locals := 1398 } : Room)).cells (({ frames := 57, cells := 0, slots := 0, locals := 1398 } : Room)).slots A) A E (wm E B) 7 156 [(0, .ref (B 0)), (1, .int l1), (2, .int l2), (3, .int l3), (4, .int l4), (5, .int l5), (6, .int l6)] [] σ := by
    intro l1 l2 l3 l4 l5 l6 σ hw; rw [hX156] at hw; exact hw
  have J_209 : ∀ (k0 : Int32) (σ : VS), b_arrival_209 X101 X156 Q k0 σ → WB p l e (({ frames := 57, cells := 0, slots := 0, locals := 1398 } : Room)) s m (#[.ref (B 0), .int p1, .int p2, .int p3]) below meth c (MQ below (va_Qi (fun r w => ∃ σ' : VS, Q r σ' ∧ w = wm E B σ') (AftU E A) A) (#[.ref (B 0), .int p1, .int p2, .int p3]) s (({ frames := 57, cells := 0, slots := 0, locals := 1398 } : Room)).cells (({ frames := 57, cells := 0, slots := 0, locals := 1398 } : Room)).slots A) A E (wm E B) 7 209 [] [.int k0] σ := by
    intro k0 σ hw
    unfold b_arrival_209 at hw
    exact R_iret (Qc := Q) F rfl dX10_arrival_209 hw
  have J_176 : ∀ (l1 : Int32) (l2 : Int32) (l3 : Int32) (l4 : Int32) (σ : VS), b_arrival_176 X101 X156 Q l1 l2 l3 l4 σ → WB p l e (({ frames := 57, cells := 0, slots := 0, locals := 1398 } : Room)) s m (#[.ref (B 0), .int p1, .int p2, .int p3]) below meth c (MQ below (va_Qi (fun r w => ∃ σ' : VS, Q r σ' ∧ w = wm E B σ') (AftU E A) A) (#[.ref (B 0), .int p1, .int p2, .int p3]) s (({ frames := 57, cells := 0, slots := 0, locals := 1398 } : Room)).cells (({ frames := 57, cells := 0, slots := 0, locals := 1398 } : Room)).slots A) A E (wm E B) 7 176 [(0, .ref (B 0)), (1, .int l1), (2, .int l2), (3, .int l3), (4, .int l4)] [] σ := by
    intro l1 l2 l3 l4 σ hw
    unfold b_arrival_176 at hw
    refine R_iinc (q := 4) (v := (l4 + 1)) (lv' := [(4, .int (l4 + 1)), (0, .ref (B 0)), (1, .int l1), (2, .int l2), (3, .int l3)]) F dX10_arrival_176 rfl rfl (by decide) rfl ?_
    refine R_goto (tgt := 101) F dX10_arrival_179 (by decide) ?_
    exact R_sub [1, 2, 3, 4, 0] rfl (U_101 l1 l2 l3 (l4 + 1) σ hw)
  have J_62 : ∀ (σ : VS), b_arrival_62 X101 X156 Q σ → WB p l e (({ frames := 57, cells := 0, slots := 0, locals := 1398 } : Room)) s m (#[.ref (B 0), .int p1, .int p2, .int p3]) below meth c (MQ below (va_Qi (fun r w => ∃ σ' : VS, Q r σ' ∧ w = wm E B σ') (AftU E A) A) (#[.ref (B 0), .int p1, .int p2, .int p3]) s (({ frames := 57, cells := 0, slots := 0, locals := 1398 } : Room)).cells (({ frames := 57, cells := 0, slots := 0, locals := 1398 } : Room)).slots A) A E (wm E B) 7 62 [] [] σ := by
    intro σ hw
    unfold b_arrival_62 at hw
    refine R_ldcw F (-1000000) (List.mem_append_left _ (show Cond.constant RX10 281 (-1000000) ∈ wo_arrival by decide +kernel)) dX10_arrival_62 ?_
    exact R_iret (Qc := Q) F rfl dX10_arrival_65 hw
  have J_36 : ∀ (σ : VS), b_arrival_36 X101 X156 Q σ → WB p l e (({ frames := 57, cells := 0, slots := 0, locals := 1398 } : Room)) s m (#[.ref (B 0), .int p1, .int p2, .int p3]) below meth c (MQ below (va_Qi (fun r w => ∃ σ' : VS, Q r σ' ∧ w = wm E B σ') (AftU E A) A) (#[.ref (B 0), .int p1, .int p2, .int p3]) s (({ frames := 57, cells := 0, slots := 0, locals := 1398 } : Room)).cells (({ frames := 57, cells := 0, slots := 0, locals := 1398 } : Room)).slots A) A E (wm E B) 7 36 [] [] σ := by
    intro σ hw
    unfold b_arrival_36 at hw
    refine R_ldcw F (-1000000) (List.mem_append_left _ (show Cond.constant RX10 281 (-1000000) ∈ wo_arrival by decide +kernel)) dX10_arrival_36 ?_
    exact R_iret (Qc := Q) F rfl dX10_arrival_39 hw
  have C_101 : ∀ (l1 : Int32) (l2 : Int32) (l3 : Int32) (l4 : Int32) (σ : VS), b_arrival_101 X101 X156 Q l1 l2 l3 l4 σ → X101 l1 l2 l3 l4 σ := by
    intro l1 l2 l3 l4 σ hw
    unfold b_arrival_101 at hw
    rw [hX101]
    show WB p l e (({ frames := 57, cells := 0, slots := 0, locals := 1398 } : Room)) s m (#[.ref (B 0), .int p1, .int p2, .int p3]) below meth c (MQ below (va_Qi (fun r w => ∃ σ' : VS, Q r σ' ∧ w = wm E B σ') (AftU E A) A) (#[.ref (B 0), .int p1, .int p2, .int p3]) s (({ frames := 57, cells := 0, slots := 0, locals := 1398 } : Room)).cells (({ frames := 57, cells := 0, slots := 0, locals := 1398 } : Room)).slots A) A E (wm E B) 7 101 [(0, .ref (B 0)), (1, .int l1), (2, .int l2), (3, .int l3), (4, .int l4)] [] σ
    refine R_iload F dX10_arrival_101 4 rfl ?_
    refine R_aload_n F dX10_arrival_103 rfl 0 rfl ?_
    refine gm_32 F in_arrival dX10_arrival_104 ?_
    refine R_icmp_ge (tgt := 182) F dX10_arrival_107 (by decide) (fun hc => ?_) (fun hc => ?_)
    · replace hw := hw.1 hc
      refine R_iload_n F dX10_arrival_182 rfl 3 rfl ?_
      refine R_if_ne (tgt := 199) F dX10_arrival_183 (by decide) (fun hc => ?_) (fun hc => ?_)
      · replace hw := hw.1 hc
        refine R_aload_n F dX10_arrival_199 rfl 0 rfl ?_
        refine gm_41 F in_arrival dX10_arrival_200 ?_
        refine R_iconst F 2 dX10_arrival_203 (by decide) ?_
        refine R_iload_n F dX10_arrival_204 rfl 1 rfl ?_
        refine R_imul F dX10_arrival_205 ?_
        refine R_iload_n F dX10_arrival_206 rfl 2 rfl ?_
        refine R_iadd F dX10_arrival_207 ?_
        refine R_ldi F qm_41 dX10_arrival_208 hw.1 ?_
        replace hw := hw.2
        exact R_sub [] rfl (J_209 (rd σ 41 ((2 * l1) + l2)) σ hw)
      · replace hw := hw.2 hc
        refine R_aload_n F dX10_arrival_186 rfl 0 rfl ?_
        refine gm_40 F in_arrival dX10_arrival_187 ?_
        refine R_iconst F 2 dX10_arrival_190 (by decide) ?_
        refine R_iload_n F dX10_arrival_191 rfl 1 rfl ?_
        refine R_imul F dX10_arrival_192 ?_
        refine R_iload_n F dX10_arrival_193 rfl 2 rfl ?_
        refine R_iadd F dX10_arrival_194 ?_
        refine R_ldi F qm_40 dX10_arrival_195 hw.1 ?_
        replace hw := hw.2
        refine R_goto (tgt := 209) F dX10_arrival_196 (by decide) ?_
        exact R_sub [] rfl (J_209 (rd σ 40 ((2 * l1) + l2)) σ hw)
    · replace hw := hw.2 hc
      refine R_aload_n F dX10_arrival_110 rfl 0 rfl ?_
      refine gm_31 F in_arrival dX10_arrival_111 ?_
      refine R_iload F dX10_arrival_114 4 rfl ?_
      refine R_ldi F qm_31 dX10_arrival_116 hw.1 ?_
      replace hw := hw.2
      refine R_topi (fun x5 ex5 => ?_)
      replace hw := hw x5 ex5
      refine R_istore (lv' := [(5, .int x5), (0, .ref (B 0)), (1, .int l1), (2, .int l2), (3, .int l3), (4, .int l4)]) F dX10_arrival_117 (by decide) rfl ?_
      refine R_aload_n F dX10_arrival_119 rfl 1 rfl ?_
      refine gm_2 F in_arrival dX10_arrival_120 ?_
      refine R_iload F dX10_arrival_123 0 rfl ?_
      refine R_ldi F qm_2 dX10_arrival_125 hw.1 ?_
      replace hw := hw.2
      refine R_iconst F 5 dX10_arrival_126 (by decide) ?_
      refine R_icmp_eq (tgt := 176) F dX10_arrival_127 (by decide) (fun hc => ?_) (fun hc => ?_)
      · replace hw := hw.1 hc
        exact R_sub [1, 2, 3, 4, 5] rfl (J_176 l1 l2 l3 l4 σ hw)
      · replace hw := hw.2 hc
        refine R_aload_n F dX10_arrival_130 rfl 1 rfl ?_
        refine gm_34 F in_arrival dX10_arrival_131 ?_
        refine R_iload F dX10_arrival_134 0 rfl ?_
        refine R_ldz F qm_34 dX10_arrival_136 hw.1 ?_
        replace hw := hw.2
        refine R_if_eq (tgt := 176) F dX10_arrival_137 (by decide) (fun hc => ?_) (fun hc => ?_)
        · replace hw := hw.1 hc
          exact R_sub [1, 2, 3, 4, 5] rfl (J_176 l1 l2 l3 l4 σ hw)
        · replace hw := hw.2 hc
          refine R_aload_n F dX10_arrival_140 rfl 1 rfl ?_
          refine gm_35 F in_arrival dX10_arrival_141 ?_
          refine R_iload F dX10_arrival_144 0 rfl ?_
          refine R_ldi F qm_35 dX10_arrival_146 hw.1 ?_
          replace hw := hw.2
          refine R_if_eq (tgt := 153) F dX10_arrival_147 (by decide) (fun hc => ?_) (fun hc => ?_)
          · replace hw := hw.1 hc
            refine R_iconst F 0 dX10_arrival_153 (by decide) ?_
            refine R_istore (lv' := [(6, .int 0), (5, .int x5), (0, .ref (B 0)), (1, .int l1), (2, .int l2), (3, .int l3), (4, .int l4)]) F dX10_arrival_154 (by decide) rfl ?_
            exact R_sub [2, 3, 4, 5, 6, 1, 0] rfl (U_156 l1 l2 l3 l4 x5 0 σ hw)
          · replace hw := hw.2 hc
            refine R_goto (tgt := 176) F dX10_arrival_150 (by decide) ?_
            exact R_sub [1, 2, 3, 4, 5] rfl (J_176 l1 l2 l3 l4 σ hw)
  have C_156 : ∀ (l1 : Int32) (l2 : Int32) (l3 : Int32) (l4 : Int32) (l5 : Int32) (l6 : Int32) (σ : VS), b_arrival_156 X101 X156 Q l1 l2 l3 l4 l5 l6 σ → X156 l1 l2 l3 l4 l5 l6 σ := by
    intro l1 l2 l3 l4 l5 l6 σ hw
    unfold b_arrival_156 at hw
    rw [hX156]
    show WB p l e (({ frames := 57, cells := 0, slots := 0, locals := 1398 } : Room)) s m (#[.ref (B 0), .int p1, .int p2, .int p3]) below meth c (MQ below (va_Qi (fun r w => ∃ σ' : VS, Q r σ' ∧ w = wm E B σ') (AftU E A) A) (#[.ref (B 0), .int p1, .int p2, .int p3]) s (({ frames := 57, cells := 0, slots := 0, locals := 1398 } : Room)).cells (({ frames := 57, cells := 0, slots := 0, locals := 1398 } : Room)).slots A) A E (wm E B) 7 156 [(0, .ref (B 0)), (1, .int l1), (2, .int l2), (3, .int l3), (4, .int l4), (5, .int l5), (6, .int l6)] [] σ
    refine R_iload F dX10_arrival_156 6 rfl ?_
    refine R_iconst F 2 dX10_arrival_158 (by decide) ?_
    refine R_icmp_ge (tgt := 176) F dX10_arrival_159 (by decide) (fun hc => ?_) (fun hc => ?_)
    · replace hw := hw.1 hc
      exact R_sub [0, 1, 2, 3, 4] rfl (J_176 l1 l2 l3 l4 σ hw)
    · replace hw := hw.2 hc
      refine R_aload_n F dX10_arrival_162 rfl 0 rfl ?_
      refine R_iload F dX10_arrival_163 5 rfl ?_
      refine R_iload F dX10_arrival_165 6 rfl ?_
      refine R_callV (As := [.int l5, .int l6]) (C := RX10) (q0 := 0) (ci := 10) (N := 69) (T := TX10) (fs := mfl B) F (ct_arrive l E B _ l5 l6 _ hw) (cwV 2 F.2.2.2.2.2.2.2.2.2.2 g_arrival_arrive_285 rfl rfl rfl (by decide +kernel) ⟨Nat.le_of_ble_eq_true rfl, Nat.le_of_ble_eq_true rfl⟩) ⟨rfl, rfl⟩ rfl (fun _ => rfl) rfl rfl (Nat.le_of_ble_eq_true rfl) dX10_arrival_167 (fun σ7 hw => ?_)
      refine R_iinc (q := 6) (v := (l6 + 1)) (lv' := [(6, .int (l6 + 1)), (0, .ref (B 0)), (1, .int l1), (2, .int l2), (3, .int l3), (4, .int l4), (5, .int l5)]) F dX10_arrival_170 rfl rfl (by decide) rfl ?_
      refine R_goto (tgt := 156) F dX10_arrival_173 (by decide) ?_
      exact R_sub [1, 2, 3, 4, 5, 6, 0] rfl (U_156 l1 l2 l3 l4 l5 (l6 + 1) σ7 hw)
  unfold wp_arrival at hw
  replace hw := hw X101 X156 C_101 C_156
  refine R_aload_n F dX10_arrival_0 rfl 0 rfl ?_
  refine R_iload_n F dX10_arrival_1 rfl 1 rfl ?_
  refine R_callI (As := [.int p1]) (C := RX10) (q0 := 0) (ci := 10) (N := 69) (T := TX10) (fs := mfl B) F (ct_isCell l E B _ p1 _ hw) (cwV 1 F.2.2.2.2.2.2.2.2.2.2 g_arrival_isCell_10 rfl rfl rfl (by decide +kernel) ⟨Nat.le_of_ble_eq_true rfl, Nat.le_of_ble_eq_true rfl⟩) ⟨rfl, rfl⟩ rfl (fun _ => rfl) rfl rfl (Nat.le_of_ble_eq_true rfl) dX10_arrival_2 (fun r1 σ2 hw => ?_)
  refine R_if_eq (tgt := 36) F dX10_arrival_5 (by decide) (fun hc => ?_) (fun hc => ?_)
  · replace hw := hw.1 hc
    exact R_sub [] rfl (J_36 σ2 hw)
  · replace hw := hw.2 hc
    refine R_aload_n F dX10_arrival_8 rfl 0 rfl ?_
    refine gm_2 F in_arrival dX10_arrival_9 ?_
    refine R_iload_n F dX10_arrival_12 rfl 1 rfl ?_
    refine R_ldi F qm_2 dX10_arrival_13 hw.1 ?_
    replace hw := hw.2
    refine R_iconst F 5 dX10_arrival_14 (by decide) ?_
    refine R_icmp_eq (tgt := 36) F dX10_arrival_15 (by decide) (fun hc => ?_) (fun hc => ?_)
    · replace hw := hw.1 hc
      exact R_sub [] rfl (J_36 σ2 hw)
    · replace hw := hw.2 hc
      refine R_iload_n F dX10_arrival_18 rfl 2 rfl ?_
      refine R_if_lt (tgt := 36) F dX10_arrival_19 (by decide) (fun hc => ?_) (fun hc => ?_)
      · replace hw := hw.1 hc
        exact R_sub [] rfl (J_36 σ2 hw)
      · replace hw := hw.2 hc
        refine R_iload_n F dX10_arrival_22 rfl 2 rfl ?_
        refine R_iconst F 1 dX10_arrival_23 (by decide) ?_
        refine R_icmp_gt (tgt := 36) F dX10_arrival_24 (by decide) (fun hc => ?_) (fun hc => ?_)
        · replace hw := hw.1 hc
          exact R_sub [] rfl (J_36 σ2 hw)
        · replace hw := hw.2 hc
          refine R_iload_n F dX10_arrival_27 rfl 3 rfl ?_
          refine R_if_lt (tgt := 36) F dX10_arrival_28 (by decide) (fun hc => ?_) (fun hc => ?_)
          · replace hw := hw.1 hc
            exact R_sub [] rfl (J_36 σ2 hw)
          · replace hw := hw.2 hc
            refine R_iload_n F dX10_arrival_31 rfl 3 rfl ?_
            refine R_iconst F 3 dX10_arrival_32 (by decide) ?_
            refine R_icmp_le (tgt := 40) F dX10_arrival_33 (by decide) (fun hc => ?_) (fun hc => ?_)
            · replace hw := hw.1 hc
              refine R_aload_n F dX10_arrival_40 rfl 0 rfl ?_
              refine R_callV (As := []) (C := RX10) (q0 := 0) (ci := 10) (N := 69) (T := TX10) (fs := mfl B) F (ct_time l E B _ _ hw) (cwV 0 F.2.2.2.2.2.2.2.2.2.2 g_arrival_time_282 rfl rfl rfl (by decide +kernel) ⟨Nat.le_of_ble_eq_true rfl, Nat.le_of_ble_eq_true rfl⟩) ⟨rfl, rfl⟩ rfl (fun _ => rfl) rfl rfl (Nat.le_of_ble_eq_true rfl) dX10_arrival_41 (fun σ4 hw => ?_)
              refine R_aload_n F dX10_arrival_44 rfl 0 rfl ?_
              refine gm_34 F in_arrival dX10_arrival_45 ?_
              refine R_iload_n F dX10_arrival_48 rfl 1 rfl ?_
              refine R_ldz F qm_34 dX10_arrival_49 hw.1 ?_
              replace hw := hw.2
              refine R_if_eq (tgt := 62) F dX10_arrival_50 (by decide) (fun hc => ?_) (fun hc => ?_)
              · replace hw := hw.1 hc
                exact R_sub [] rfl (J_62 σ4 hw)
              · replace hw := hw.2 hc
                refine R_aload_n F dX10_arrival_53 rfl 0 rfl ?_
                refine gm_35 F in_arrival dX10_arrival_54 ?_
                refine R_iload_n F dX10_arrival_57 rfl 1 rfl ?_
                refine R_ldi F qm_35 dX10_arrival_58 hw.1 ?_
                replace hw := hw.2
                refine R_if_eq (tgt := 66) F dX10_arrival_59 (by decide) (fun hc => ?_) (fun hc => ?_)
                · replace hw := hw.1 hc
                  refine R_iload_n F dX10_arrival_66 rfl 3 rfl ?_
                  refine R_iconst F 2 dX10_arrival_67 (by decide) ?_
                  refine R_icmp_ne (tgt := 82) F dX10_arrival_68 (by decide) (fun hc => ?_) (fun hc => ?_)
                  · replace hw := hw.1 hc
                    refine R_iload_n F dX10_arrival_82 rfl 3 rfl ?_
                    refine R_iconst F 3 dX10_arrival_83 (by decide) ?_
                    refine R_icmp_ne (tgt := 98) F dX10_arrival_84 (by decide) (fun hc => ?_) (fun hc => ?_)
                    · replace hw := hw.1 hc
                      refine R_iconst F 0 dX10_arrival_98 (by decide) ?_
                      refine R_istore (lv' := [(4, .int 0), (0, .ref (B 0)), (1, .int p1), (2, .int p2), (3, .int p3)]) F dX10_arrival_99 (by decide) rfl ?_
                      exact R_sub [1, 2, 3, 4, 0] rfl (U_101 p1 p2 p3 0 σ4 hw)
                    · replace hw := hw.2 hc
                      refine R_aload_n F dX10_arrival_87 rfl 0 rfl ?_
                      refine gm_39 F in_arrival dX10_arrival_88 ?_
                      refine R_iconst F 2 dX10_arrival_91 (by decide) ?_
                      refine R_iload_n F dX10_arrival_92 rfl 1 rfl ?_
                      refine R_imul F dX10_arrival_93 ?_
                      refine R_iload_n F dX10_arrival_94 rfl 2 rfl ?_
                      refine R_iadd F dX10_arrival_95 ?_
                      refine R_ldi F qm_39 dX10_arrival_96 hw.1 ?_
                      replace hw := hw.2
                      exact R_iret (Qc := Q) F rfl dX10_arrival_97 hw
                  · replace hw := hw.2 hc
                    refine R_aload_n F dX10_arrival_71 rfl 0 rfl ?_
                    refine gm_38 F in_arrival dX10_arrival_72 ?_
                    refine R_iconst F 2 dX10_arrival_75 (by decide) ?_
                    refine R_iload_n F dX10_arrival_76 rfl 1 rfl ?_
                    refine R_imul F dX10_arrival_77 ?_
                    refine R_iload_n F dX10_arrival_78 rfl 2 rfl ?_
                    refine R_iadd F dX10_arrival_79 ?_
                    refine R_ldi F qm_38 dX10_arrival_80 hw.1 ?_
                    replace hw := hw.2
                    exact R_iret (Qc := Q) F rfl dX10_arrival_81 hw
                · replace hw := hw.2 hc
                  exact R_sub [] rfl (J_62 σ4 hw)
            · replace hw := hw.2 hc
              exact R_sub [] rfl (J_36 σ2 hw)
