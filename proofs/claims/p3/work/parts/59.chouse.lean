def b_X9within_15 (Q : Int32 → VS → Prop) (k0 : Int32) (σ : VS) : Prop := (Bo k0 ∧ Q k0 σ)
def b_X9within_14 (Q : Int32 → VS → Prop) (σ : VS) : Prop := b_X9within_15 Q 0 σ
def wp_X9within (Q : Int32 → VS → Prop) (p1 : Int32) (p2 : Int32) (p3 : Int32) (σ : VS) : Prop := ((p1.toInt < p2.toInt → b_X9within_14 Q σ) ∧ (p2.toInt ≤ p1.toInt → ((p3.toInt < p1.toInt → b_X9within_14 Q σ) ∧ (p1.toInt ≤ p3.toInt → b_X9within_15 Q 1 σ))))
theorem dX9_within_0 : decode cX9_within 0 = .ok (.iload_n 0, 1) := by decide +kernel
theorem dX9_within_1 : decode cX9_within 1 = .ok (.iload_n 1, 1) := by decide +kernel
theorem dX9_within_2 : decode cX9_within 2 = .ok (.if_icmp .lt 12, 3) := by decide +kernel
theorem dX9_within_5 : decode cX9_within 5 = .ok (.iload_n 0, 1) := by decide +kernel
theorem dX9_within_6 : decode cX9_within 6 = .ok (.iload_n 2, 1) := by decide +kernel
theorem dX9_within_7 : decode cX9_within 7 = .ok (.if_icmp .gt 7, 3) := by decide +kernel
theorem dX9_within_10 : decode cX9_within 10 = .ok (.iconst 1, 1) := by decide +kernel
theorem dX9_within_11 : decode cX9_within 11 = .ok (.goto 4, 3) := by decide +kernel
theorem dX9_within_14 : decode cX9_within 14 = .ok (.iconst 0, 1) := by decide +kernel
theorem dX9_within_15 : decode cX9_within 15 = .ok (.ireturn, 1) := by decide +kernel
def wo_X9within : List Cond := [.code yX9_within cX9_within 3 (some .boolean)]
def wr_X9within : List Cond := (wfC ++ ([]))
def w_X9within : List Cond := wo_X9within ++ wr_X9within
theorem wg_X9within : GW w_X9within := GW_app (GW_of (by decide +kernel)) (GW_app (wg_fC) (GW_nil))
theorem in_X9within : ∀ w ∈ wfC, w ∈ w_X9within := fun _ h => List.mem_append_right _ (List.mem_append_left _ h)
set_option maxHeartbeats 4000000 in
set_option maxRecDepth 100000 in
theorem ct_X9within (l : Launch) (E : gE) (B : Nat → Nat) (Q : Int32 → VS → Prop) (p1 : Int32) (p2 : Int32) (p3 : Int32) (σ : VS) (hw : wp_X9within Q p1 p2 p3 σ) : CtI l E yX9_within w_X9within (({ frames := 0, cells := 0, slots := 0, locals := 0 } : Room)) (wc E B σ) [.int p1, .int p2, .int p3] (fun r w => ∃ σ' : VS, Q r σ' ∧ w = wc E B σ') := by
  refine VC_I (cc := cX9_within) (mL := 3) (rt := (some .boolean)) (lv0 := [(0, .int p1), (1, .int p2), (2, .int p3)]) rfl (by decide) rfl (Nat.le_of_ble_eq_true rfl) ?_
  intro p e s m below meth c A F
  replace F : Fx p s m _ meth c A E cX9_within 3 (some .boolean) RX9 w_X9within := F
  have J_15 : ∀ (k0 : Int32) (σ : VS), b_X9within_15 Q k0 σ → WB p l e (({ frames := 0, cells := 0, slots := 0, locals := 0 } : Room)) s m (#[.int p1, .int p2, .int p3]) below meth c (MQ below (va_Qi (fun r w => ∃ σ' : VS, Q r σ' ∧ w = wc E B σ') (AftU E A) A) (#[.int p1, .int p2, .int p3]) s (({ frames := 0, cells := 0, slots := 0, locals := 0 } : Room)).cells (({ frames := 0, cells := 0, slots := 0, locals := 0 } : Room)).slots A) A E (wc E B) 3 15 [] [.int k0] σ := by
    intro k0 σ hw
    unfold b_X9within_15 at hw
    exact R_iret (Qc := Q) F (nb_01 hw.1) dX9_within_15 hw.2
  have J_14 : ∀ (σ : VS), b_X9within_14 Q σ → WB p l e (({ frames := 0, cells := 0, slots := 0, locals := 0 } : Room)) s m (#[.int p1, .int p2, .int p3]) below meth c (MQ below (va_Qi (fun r w => ∃ σ' : VS, Q r σ' ∧ w = wc E B σ') (AftU E A) A) (#[.int p1, .int p2, .int p3]) s (({ frames := 0, cells := 0, slots := 0, locals := 0 } : Room)).cells (({ frames := 0, cells := 0, slots := 0, locals := 0 } : Room)).slots A) A E (wc E B) 3 14 [] [] σ := by
    intro σ hw
    unfold b_X9within_14 at hw
    refine R_iconst F 0 dX9_within_14 (by decide) ?_
    exact R_sub [] rfl (J_15 0 σ hw)
  unfold wp_X9within at hw
  refine R_iload_n F dX9_within_0 rfl 0 rfl ?_
  refine R_iload_n F dX9_within_1 rfl 1 rfl ?_
  refine R_icmp_lt (tgt := 14) F dX9_within_2 (by decide) (fun hc => ?_) (fun hc => ?_)
  · replace hw := hw.1 hc
    exact R_sub [] rfl (J_14 σ hw)
  · replace hw := hw.2 hc
    refine R_iload_n F dX9_within_5 rfl 0 rfl ?_
    refine R_iload_n F dX9_within_6 rfl 2 rfl ?_
    refine R_icmp_gt (tgt := 14) F dX9_within_7 (by decide) (fun hc => ?_) (fun hc => ?_)
    · replace hw := hw.1 hc
      exact R_sub [] rfl (J_14 σ hw)
    · replace hw := hw.2 hc
      refine R_iconst F 1 dX9_within_10 (by decide) ?_
      refine R_goto (tgt := 15) F dX9_within_11 (by decide) ?_
      exact R_sub [] rfl (J_15 1 σ hw)
def b_X9hasOrAny_21 (Q : Int32 → VS → Prop) (k0 : Int32) (σ : VS) : Prop := (Bo k0 ∧ Q k0 σ)
def b_X9hasOrAny_16 (Q : Int32 → VS → Prop) (σ : VS) : Prop := b_X9hasOrAny_21 Q 1 σ
def wp_X9hasOrAny (Q : Int32 → VS → Prop) (p1 : Int32) (σ : VS) : Prop := ((p1.toInt = (-1) → b_X9hasOrAny_16 Q σ) ∧ (p1.toInt ≠ (-1) → wp_X1has (fun (r1 : Int32) (σ2 : VS) => ((r1.toInt = 0 → b_X9hasOrAny_21 Q 0 σ2) ∧ (r1.toInt ≠ 0 → b_X9hasOrAny_16 Q σ2))) p1 σ))
theorem dX9_hasOrAny_0 : decode cX9_hasOrAny 0 = .ok (.iload_n 1, 1) := by decide +kernel
theorem dX9_hasOrAny_1 : decode cX9_hasOrAny 1 = .ok (.iconst (-1), 1) := by decide +kernel
theorem dX9_hasOrAny_2 : decode cX9_hasOrAny 2 = .ok (.if_icmp .eq 14, 3) := by decide +kernel
theorem dX9_hasOrAny_5 : decode cX9_hasOrAny 5 = .ok (.aload_n 0, 1) := by decide +kernel
theorem dX9_hasOrAny_6 : decode cX9_hasOrAny 6 = .ok (.getfield 12, 3) := by decide +kernel
theorem dX9_hasOrAny_9 : decode cX9_hasOrAny 9 = .ok (.iload_n 1, 1) := by decide +kernel
theorem dX9_hasOrAny_10 : decode cX9_hasOrAny 10 = .ok (.invokevirtual 103, 3) := by decide +kernel
theorem dX9_hasOrAny_13 : decode cX9_hasOrAny 13 = .ok (.ifCond .eq 7, 3) := by decide +kernel
theorem dX9_hasOrAny_20 : decode cX9_hasOrAny 20 = .ok (.iconst 0, 1) := by decide +kernel
theorem dX9_hasOrAny_16 : decode cX9_hasOrAny 16 = .ok (.iconst 1, 1) := by decide +kernel
theorem dX9_hasOrAny_17 : decode cX9_hasOrAny 17 = .ok (.goto 4, 3) := by decide +kernel
theorem dX9_hasOrAny_21 : decode cX9_hasOrAny 21 = .ok (.ireturn, 1) := by decide +kernel
def wo_X9hasOrAny : List Cond := [.code yX9_hasOrAny cX9_hasOrAny 2 (some .boolean), .methodLink RX9 103 yX1_has, .instanceMethod yX1_has, .selects RX1 yX1_has yX1_has, .initialized RX1]
def wr_X9hasOrAny : List Cond := (wfC ++ (w_X1has ++ ([])))
def w_X9hasOrAny : List Cond := wo_X9hasOrAny ++ wr_X9hasOrAny
theorem wg_X9hasOrAny : GW w_X9hasOrAny := GW_app (GW_of (by decide +kernel)) (GW_app (wg_fC) (GW_app (wg_X1has) (GW_nil)))
theorem in_X9hasOrAny : ∀ w ∈ wfC, w ∈ w_X9hasOrAny := fun _ h => List.mem_append_right _ (List.mem_append_left _ h)
theorem g_X9hasOrAny_X1has_103 : GoodIn w_X9hasOrAny (wsV RX9 103 RX1 yX1_has w_X1has) := goodIn_app (gi_left (goodIn_of _ (by decide +kernel))) (fun w h => ⟨List.mem_append_right _ (List.mem_append_right _ (List.mem_append_left _ h)), wg_X1has w h⟩)
set_option maxHeartbeats 4000000 in
set_option maxRecDepth 100000 in
theorem ct_X9hasOrAny (l : Launch) (E : gE) (B : Nat → Nat) (Q : Int32 → VS → Prop) (p1 : Int32) (σ : VS) (hw : wp_X9hasOrAny Q p1 σ) : CtI l E yX9_hasOrAny w_X9hasOrAny (({ frames := 1, cells := 0, slots := 0, locals := 21 } : Room)) (wc E B σ) [.ref (B 0), .int p1] (fun r w => ∃ σ' : VS, Q r σ' ∧ w = wc E B σ') := by
  refine VC_I (cc := cX9_hasOrAny) (mL := 2) (rt := (some .boolean)) (lv0 := [(0, .ref (B 0)), (1, .int p1)]) rfl (by decide) rfl (Nat.le_of_ble_eq_true rfl) ?_
  intro p e s m below meth c A F
  replace F : Fx p s m _ meth c A E cX9_hasOrAny 2 (some .boolean) RX9 w_X9hasOrAny := F
  have J_21 : ∀ (k0 : Int32) (σ : VS), b_X9hasOrAny_21 Q k0 σ → WB p l e (({ frames := 1, cells := 0, slots := 0, locals := 21 } : Room)) s m (#[.ref (B 0), .int p1]) below meth c (MQ below (va_Qi (fun r w => ∃ σ' : VS, Q r σ' ∧ w = wc E B σ') (AftU E A) A) (#[.ref (B 0), .int p1]) s (({ frames := 1, cells := 0, slots := 0, locals := 21 } : Room)).cells (({ frames := 1, cells := 0, slots := 0, locals := 21 } : Room)).slots A) A E (wc E B) 2 21 [] [.int k0] σ := by
    intro k0 σ hw
    unfold b_X9hasOrAny_21 at hw
    exact R_iret (Qc := Q) F (nb_01 hw.1) dX9_hasOrAny_21 hw.2
  have J_16 : ∀ (σ : VS), b_X9hasOrAny_16 Q σ → WB p l e (({ frames := 1, cells := 0, slots := 0, locals := 21 } : Room)) s m (#[.ref (B 0), .int p1]) below meth c (MQ below (va_Qi (fun r w => ∃ σ' : VS, Q r σ' ∧ w = wc E B σ') (AftU E A) A) (#[.ref (B 0), .int p1]) s (({ frames := 1, cells := 0, slots := 0, locals := 21 } : Room)).cells (({ frames := 1, cells := 0, slots := 0, locals := 21 } : Room)).slots A) A E (wc E B) 2 16 [] [] σ := by
    intro σ hw
    unfold b_X9hasOrAny_16 at hw
    refine R_iconst F 1 dX9_hasOrAny_16 (by decide) ?_
    refine R_goto (tgt := 21) F dX9_hasOrAny_17 (by decide) ?_
    exact R_sub [] rfl (J_21 1 σ hw)
  unfold wp_X9hasOrAny at hw
  refine R_iload_n F dX9_hasOrAny_0 rfl 1 rfl ?_
  refine R_iconst F (-1) dX9_hasOrAny_1 (by decide) ?_
  refine R_icmp_eq (tgt := 16) F dX9_hasOrAny_2 (by decide) (fun hc => ?_) (fun hc => ?_)
  · replace hw := hw.1 hc
    exact R_sub [] rfl (J_16 σ hw)
  · replace hw := hw.2 hc
    refine R_aload_n F dX9_hasOrAny_5 rfl 0 rfl ?_
    refine gc_RX9_12_0 F in_X9hasOrAny dX9_hasOrAny_6 ?_
    refine R_iload_n F dX9_hasOrAny_9 rfl 1 rfl ?_
    refine R_callI (As := [.int p1]) (C := RX1) (q0 := 1) (ci := 1) (N := 13) (T := TX1) (fs := cf_1 B) F (ct_X1has l E B _ p1 _ hw) (cwV 1 F.2.2.2.2.2.2.2.2.2.2 g_X9hasOrAny_X1has_103 rfl rfl rfl (by decide +kernel) ⟨Nat.le_of_ble_eq_true rfl, Nat.le_of_ble_eq_true rfl⟩) ⟨rfl, rfl⟩ rfl (fun _ => rfl) rfl rfl (Nat.le_of_ble_eq_true rfl) dX9_hasOrAny_10 (fun r1 σ2 hw => ?_)
    refine R_if_eq (tgt := 20) F dX9_hasOrAny_13 (by decide) (fun hc => ?_) (fun hc => ?_)
    · replace hw := hw.1 hc
      refine R_iconst F 0 dX9_hasOrAny_20 (by decide) ?_
      exact R_sub [] rfl (J_21 0 σ2 hw)
    · replace hw := hw.2 hc
      exact R_sub [] rfl (J_16 σ2 hw)
def wp_X9forget (Q : VS → Prop) (σ : VS) : Prop := Q (sf (sf σ 0 0) 1 0)
theorem dX9_forget_0 : decode cX9_forget 0 = .ok (.aload_n 0, 1) := by decide +kernel
theorem dX9_forget_1 : decode cX9_forget 1 = .ok (.iconst 0, 1) := by decide +kernel
theorem dX9_forget_2 : decode cX9_forget 2 = .ok (.putfield 290, 3) := by decide +kernel
theorem dX9_forget_5 : decode cX9_forget 5 = .ok (.aload_n 0, 1) := by decide +kernel
theorem dX9_forget_6 : decode cX9_forget 6 = .ok (.iconst 0, 1) := by decide +kernel
theorem dX9_forget_7 : decode cX9_forget 7 = .ok (.putfield 294, 3) := by decide +kernel
theorem dX9_forget_10 : decode cX9_forget 10 = .ok (.return_, 1) := by decide +kernel
def wo_X9forget : List Cond := [.code yX9_forget cX9_forget 1 none]
def wr_X9forget : List Cond := (wfC ++ ([]))
def w_X9forget : List Cond := wo_X9forget ++ wr_X9forget
theorem wg_X9forget : GW w_X9forget := GW_app (GW_of (by decide +kernel)) (GW_app (wg_fC) (GW_nil))
theorem in_X9forget : ∀ w ∈ wfC, w ∈ w_X9forget := fun _ h => List.mem_append_right _ (List.mem_append_left _ h)
set_option maxHeartbeats 4000000 in
set_option maxRecDepth 100000 in
theorem ct_X9forget (l : Launch) (E : gE) (B : Nat → Nat) (Q : VS → Prop) (σ : VS) (hw : wp_X9forget Q σ) : CtV l E yX9_forget w_X9forget (({ frames := 0, cells := 0, slots := 0, locals := 0 } : Room)) (wc E B σ) [.ref (B 0)] (fun w => ∃ σ' : VS, Q σ' ∧ w = wc E B σ') := by
  refine VC_V (cc := cX9_forget) (mL := 1) (rt := none) (lv0 := [(0, .ref (B 0))]) rfl (by decide) rfl (Nat.le_of_ble_eq_true rfl) ?_
  intro p e s m below meth c A F
  replace F : Fx p s m _ meth c A E cX9_forget 1 none RX9 w_X9forget := F
  unfold wp_X9forget at hw
  refine R_aload_n F dX9_forget_0 rfl 0 rfl ?_
  refine R_iconst F 0 dX9_forget_1 (by decide) ?_
  refine pc_RX9_290_0 F in_X9forget (⟨by decide, by decide⟩ : Bo 0) dX9_forget_2 ?_
  refine R_aload_n F dX9_forget_5 rfl 0 rfl ?_
  refine R_iconst F 0 dX9_forget_6 (by decide) ?_
  refine pc_RX9_294_0 F in_X9forget (⟨by decide, by decide⟩ : Bo 0) dX9_forget_7 ?_
  exact R_vret (Qc := Q) F dX9_forget_10 hw
def b_X9refreshTiming_19 (Q : VS → Prop) (σ : VS) : Prop := Q σ
def wp_X9refreshTiming (Q : VS → Prop) (σ : VS) : Prop := (((σ.1 0).toInt ≠ 0 → b_X9refreshTiming_19 Q σ) ∧ ((σ.1 0).toInt = 0 → wp_X6run (fun (σ2 : VS) => b_X9refreshTiming_19 Q (sf σ2 0 1)) σ))
theorem dX9_refreshTiming_0 : decode cX9_refreshTiming 0 = .ok (.aload_n 0, 1) := by decide +kernel
theorem dX9_refreshTiming_1 : decode cX9_refreshTiming 1 = .ok (.getfield 290, 3) := by decide +kernel
theorem dX9_refreshTiming_4 : decode cX9_refreshTiming 4 = .ok (.ifCond .ne 15, 3) := by decide +kernel
theorem dX9_refreshTiming_7 : decode cX9_refreshTiming 7 = .ok (.aload_n 0, 1) := by decide +kernel
theorem dX9_refreshTiming_8 : decode cX9_refreshTiming 8 = .ok (.getfield 49, 3) := by decide +kernel
theorem dX9_refreshTiming_11 : decode cX9_refreshTiming 11 = .ok (.invokevirtual 297, 3) := by decide +kernel
theorem dX9_refreshTiming_14 : decode cX9_refreshTiming 14 = .ok (.aload_n 0, 1) := by decide +kernel
theorem dX9_refreshTiming_15 : decode cX9_refreshTiming 15 = .ok (.iconst 1, 1) := by decide +kernel
theorem dX9_refreshTiming_16 : decode cX9_refreshTiming 16 = .ok (.putfield 290, 3) := by decide +kernel
theorem dX9_refreshTiming_19 : decode cX9_refreshTiming 19 = .ok (.return_, 1) := by decide +kernel
def wo_X9refreshTiming : List Cond := [.code yX9_refreshTiming cX9_refreshTiming 1 none, .methodLink RX9 297 yX6_run, .instanceMethod yX6_run, .selects RX6 yX6_run yX6_run, .initialized RX6]
def wr_X9refreshTiming : List Cond := (wfC ++ (w_X6run ++ ([])))
def w_X9refreshTiming : List Cond := wo_X9refreshTiming ++ wr_X9refreshTiming
theorem wg_X9refreshTiming : GW w_X9refreshTiming := GW_app (GW_of (by decide +kernel)) (GW_app (wg_fC) (GW_app (wg_X6run) (GW_nil)))
theorem in_X9refreshTiming : ∀ w ∈ wfC, w ∈ w_X9refreshTiming := fun _ h => List.mem_append_right _ (List.mem_append_left _ h)
theorem g_X9refreshTiming_X6run_297 : GoodIn w_X9refreshTiming (wsV RX9 297 RX6 yX6_run w_X6run) := goodIn_app (gi_left (goodIn_of _ (by decide +kernel))) (fun w h => ⟨List.mem_append_right _ (List.mem_append_right _ (List.mem_append_left _ h)), wg_X6run w h⟩)
set_option maxHeartbeats 4000000 in
set_option maxRecDepth 100000 in
theorem ct_X9refreshTiming (l : Launch) (E : gE) (B : Nat → Nat) (Q : VS → Prop) (σ : VS) (hw : wp_X9refreshTiming Q σ) : CtV l E yX9_refreshTiming w_X9refreshTiming (({ frames := 5, cells := 0, slots := 0, locals := 148 } : Room)) (wc E B σ) [.ref (B 0)] (fun w => ∃ σ' : VS, Q σ' ∧ w = wc E B σ') := by
  refine VC_V (cc := cX9_refreshTiming) (mL := 1) (rt := none) (lv0 := [(0, .ref (B 0))]) rfl (by decide) rfl (Nat.le_of_ble_eq_true rfl) ?_
  intro p e s m below meth c A F
  replace F : Fx p s m _ meth c A E cX9_refreshTiming 1 none RX9 w_X9refreshTiming := F
  have J_19 : ∀ (σ : VS), b_X9refreshTiming_19 Q σ → WB p l e (({ frames := 5, cells := 0, slots := 0, locals := 148 } : Room)) s m (#[.ref (B 0)]) below meth c (MQ below (va_Qv (fun w => ∃ σ' : VS, Q σ' ∧ w = wc E B σ') (AftU E A) A) (#[.ref (B 0)]) s (({ frames := 5, cells := 0, slots := 0, locals := 148 } : Room)).cells (({ frames := 5, cells := 0, slots := 0, locals := 148 } : Room)).slots A) A E (wc E B) 1 19 [] [] σ := by
    intro σ hw
    unfold b_X9refreshTiming_19 at hw
    exact R_vret (Qc := Q) F dX9_refreshTiming_19 hw
  unfold wp_X9refreshTiming at hw
  refine R_aload_n F dX9_refreshTiming_0 rfl 0 rfl ?_
  refine gc_RX9_290_0 F in_X9refreshTiming dX9_refreshTiming_1 ?_
  refine R_if_ne (tgt := 19) F dX9_refreshTiming_4 (by decide) (fun hc => ?_) (fun hc => ?_)
  · replace hw := hw.1 hc
    exact R_sub [] rfl (J_19 σ hw)
  · replace hw := hw.2 hc
    refine R_aload_n F dX9_refreshTiming_7 rfl 0 rfl ?_
    refine gc_RX9_49_0 F in_X9refreshTiming dX9_refreshTiming_8 ?_
    refine R_callV (As := []) (C := RX6) (q0 := 6) (ci := 6) (N := 12) (T := TX6) (fs := cf_6 B) F (ct_X6run l E B _ _ hw) (cwV 0 F.2.2.2.2.2.2.2.2.2.2 g_X9refreshTiming_X6run_297 rfl rfl rfl (by decide +kernel) ⟨Nat.le_of_ble_eq_true rfl, Nat.le_of_ble_eq_true rfl⟩) ⟨rfl, rfl⟩ rfl (fun _ => rfl) rfl rfl (Nat.le_of_ble_eq_true rfl) dX9_refreshTiming_11 (fun σ2 hw => ?_)
    refine R_aload_n F dX9_refreshTiming_14 rfl 0 rfl ?_
    refine R_iconst F 1 dX9_refreshTiming_15 (by decide) ?_
    refine pc_RX9_290_0 F in_X9refreshTiming (⟨by decide, by decide⟩ : Bo 1) dX9_refreshTiming_16 ?_
    exact R_sub [] rfl (J_19 (sf σ2 0 1) hw)
def b_X9refreshRace_22 (Q : VS → Prop) (σ : VS) : Prop := wp_X2run (fun (σ4 : VS) => Q (sf (sf σ4 0 1) 1 1)) σ
def wp_X9refreshRace (Q : VS → Prop) (σ : VS) : Prop := (((σ.1 1).toInt = 0 → (((σ.1 0).toInt ≠ 0 → b_X9refreshRace_22 Q σ) ∧ ((σ.1 0).toInt = 0 → wp_X6run (fun (σ2 : VS) => b_X9refreshRace_22 Q σ2) σ))) ∧ ((σ.1 1).toInt ≠ 0 → Q σ))
theorem dX9_refreshRace_0 : decode cX9_refreshRace 0 = .ok (.aload_n 0, 1) := by decide +kernel
theorem dX9_refreshRace_1 : decode cX9_refreshRace 1 = .ok (.getfield 294, 3) := by decide +kernel
theorem dX9_refreshRace_4 : decode cX9_refreshRace 4 = .ok (.ifCond .eq 4, 3) := by decide +kernel
theorem dX9_refreshRace_8 : decode cX9_refreshRace 8 = .ok (.aload_n 0, 1) := by decide +kernel
theorem dX9_refreshRace_9 : decode cX9_refreshRace 9 = .ok (.getfield 290, 3) := by decide +kernel
theorem dX9_refreshRace_12 : decode cX9_refreshRace 12 = .ok (.ifCond .ne 10, 3) := by decide +kernel
theorem dX9_refreshRace_15 : decode cX9_refreshRace 15 = .ok (.aload_n 0, 1) := by decide +kernel
theorem dX9_refreshRace_16 : decode cX9_refreshRace 16 = .ok (.getfield 49, 3) := by decide +kernel
theorem dX9_refreshRace_19 : decode cX9_refreshRace 19 = .ok (.invokevirtual 297, 3) := by decide +kernel
theorem dX9_refreshRace_7 : decode cX9_refreshRace 7 = .ok (.return_, 1) := by decide +kernel
theorem dX9_refreshRace_22 : decode cX9_refreshRace 22 = .ok (.aload_n 0, 1) := by decide +kernel
theorem dX9_refreshRace_23 : decode cX9_refreshRace 23 = .ok (.getfield 58, 3) := by decide +kernel
theorem dX9_refreshRace_26 : decode cX9_refreshRace 26 = .ok (.invokevirtual 300, 3) := by decide +kernel
theorem dX9_refreshRace_29 : decode cX9_refreshRace 29 = .ok (.aload_n 0, 1) := by decide +kernel
theorem dX9_refreshRace_30 : decode cX9_refreshRace 30 = .ok (.iconst 1, 1) := by decide +kernel
theorem dX9_refreshRace_31 : decode cX9_refreshRace 31 = .ok (.putfield 290, 3) := by decide +kernel
theorem dX9_refreshRace_34 : decode cX9_refreshRace 34 = .ok (.aload_n 0, 1) := by decide +kernel
theorem dX9_refreshRace_35 : decode cX9_refreshRace 35 = .ok (.iconst 1, 1) := by decide +kernel
theorem dX9_refreshRace_36 : decode cX9_refreshRace 36 = .ok (.putfield 294, 3) := by decide +kernel
theorem dX9_refreshRace_39 : decode cX9_refreshRace 39 = .ok (.return_, 1) := by decide +kernel
def wo_X9refreshRace : List Cond := [.code yX9_refreshRace cX9_refreshRace 1 none, .methodLink RX9 297 yX6_run, .instanceMethod yX6_run, .selects RX6 yX6_run yX6_run, .initialized RX6, .methodLink RX9 300 yX2_run, .instanceMethod yX2_run, .selects RX2 yX2_run yX2_run, .initialized RX2]
def wr_X9refreshRace : List Cond := (wfC ++ (w_X6run ++ (w_X2run ++ ([]))))
def w_X9refreshRace : List Cond := wo_X9refreshRace ++ wr_X9refreshRace
theorem wg_X9refreshRace : GW w_X9refreshRace := GW_app (GW_of (by decide +kernel)) (GW_app (wg_fC) (GW_app (wg_X6run) (GW_app (wg_X2run) (GW_nil))))
theorem in_X9refreshRace : ∀ w ∈ wfC, w ∈ w_X9refreshRace := fun _ h => List.mem_append_right _ (List.mem_append_left _ h)
theorem g_X9refreshRace_X6run_297 : GoodIn w_X9refreshRace (wsV RX9 297 RX6 yX6_run w_X6run) := goodIn_app (gi_left (goodIn_of _ (by decide +kernel))) (fun w h => ⟨List.mem_append_right _ (List.mem_append_right _ (List.mem_append_left _ h)), wg_X6run w h⟩)
theorem g_X9refreshRace_X2run_300 : GoodIn w_X9refreshRace (wsV RX9 300 RX2 yX2_run w_X2run) := goodIn_app (gi_left (goodIn_of _ (by decide +kernel))) (fun w h => ⟨List.mem_append_right _ (List.mem_append_right _ (List.mem_append_right _ (List.mem_append_left _ h))), wg_X2run w h⟩)
set_option maxHeartbeats 4000000 in
set_option maxRecDepth 100000 in
theorem ct_X9refreshRace (l : Launch) (E : gE) (B : Nat → Nat) (Q : VS → Prop) (σ : VS) (hw : wp_X9refreshRace Q σ) : CtV l E yX9_refreshRace w_X9refreshRace (({ frames := 5, cells := 0, slots := 0, locals := 148 } : Room)) (wc E B σ) [.ref (B 0)] (fun w => ∃ σ' : VS, Q σ' ∧ w = wc E B σ') := by
  refine VC_V (cc := cX9_refreshRace) (mL := 1) (rt := none) (lv0 := [(0, .ref (B 0))]) rfl (by decide) rfl (Nat.le_of_ble_eq_true rfl) ?_
  intro p e s m below meth c A F
  replace F : Fx p s m _ meth c A E cX9_refreshRace 1 none RX9 w_X9refreshRace := F
  have J_22 : ∀ (σ : VS), b_X9refreshRace_22 Q σ → WB p l e (({ frames := 5, cells := 0, slots := 0, locals := 148 } : Room)) s m (#[.ref (B 0)]) below meth c (MQ below (va_Qv (fun w => ∃ σ' : VS, Q σ' ∧ w = wc E B σ') (AftU E A) A) (#[.ref (B 0)]) s (({ frames := 5, cells := 0, slots := 0, locals := 148 } : Room)).cells (({ frames := 5, cells := 0, slots := 0, locals := 148 } : Room)).slots A) A E (wc E B) 1 22 [(0, .ref (B 0))] [] σ := by
    intro σ hw
    unfold b_X9refreshRace_22 at hw
    refine R_aload_n F dX9_refreshRace_22 rfl 0 rfl ?_
    refine gc_RX9_58_0 F in_X9refreshRace dX9_refreshRace_23 ?_
    refine R_callV (As := []) (C := RX2) (q0 := 7) (ci := 2) (N := 13) (T := TX2) (fs := cf_7 B) F (ct_X2run l E B _ _ hw) (cwV 0 F.2.2.2.2.2.2.2.2.2.2 g_X9refreshRace_X2run_300 rfl rfl rfl (by decide +kernel) ⟨Nat.le_of_ble_eq_true rfl, Nat.le_of_ble_eq_true rfl⟩) ⟨rfl, rfl⟩ rfl (fun _ => rfl) rfl rfl (Nat.le_of_ble_eq_true rfl) dX9_refreshRace_26 (fun σ4 hw => ?_)
    refine R_aload_n F dX9_refreshRace_29 rfl 0 rfl ?_
    refine R_iconst F 1 dX9_refreshRace_30 (by decide) ?_
    refine pc_RX9_290_0 F in_X9refreshRace (⟨by decide, by decide⟩ : Bo 1) dX9_refreshRace_31 ?_
    refine R_aload_n F dX9_refreshRace_34 rfl 0 rfl ?_
    refine R_iconst F 1 dX9_refreshRace_35 (by decide) ?_
    refine pc_RX9_294_0 F in_X9refreshRace (⟨by decide, by decide⟩ : Bo 1) dX9_refreshRace_36 ?_
    exact R_vret (Qc := Q) F dX9_refreshRace_39 hw
  unfold wp_X9refreshRace at hw
  refine R_aload_n F dX9_refreshRace_0 rfl 0 rfl ?_
  refine gc_RX9_294_0 F in_X9refreshRace dX9_refreshRace_1 ?_
  refine R_if_eq (tgt := 8) F dX9_refreshRace_4 (by decide) (fun hc => ?_) (fun hc => ?_)
  · replace hw := hw.1 hc
    refine R_aload_n F dX9_refreshRace_8 rfl 0 rfl ?_
    refine gc_RX9_290_0 F in_X9refreshRace dX9_refreshRace_9 ?_
    refine R_if_ne (tgt := 22) F dX9_refreshRace_12 (by decide) (fun hc => ?_) (fun hc => ?_)
    · replace hw := hw.1 hc
      exact R_sub [0] rfl (J_22 σ hw)
    · replace hw := hw.2 hc
      refine R_aload_n F dX9_refreshRace_15 rfl 0 rfl ?_
      refine gc_RX9_49_0 F in_X9refreshRace dX9_refreshRace_16 ?_
      refine R_callV (As := []) (C := RX6) (q0 := 6) (ci := 6) (N := 12) (T := TX6) (fs := cf_6 B) F (ct_X6run l E B _ _ hw) (cwV 0 F.2.2.2.2.2.2.2.2.2.2 g_X9refreshRace_X6run_297 rfl rfl rfl (by decide +kernel) ⟨Nat.le_of_ble_eq_true rfl, Nat.le_of_ble_eq_true rfl⟩) ⟨rfl, rfl⟩ rfl (fun _ => rfl) rfl rfl (Nat.le_of_ble_eq_true rfl) dX9_refreshRace_19 (fun σ2 hw => ?_)
      exact R_sub [0] rfl (J_22 σ2 hw)
  · replace hw := hw.2 hc
    exact R_vret (Qc := Q) F dX9_refreshRace_7 hw
def b_X9isTold_45 (Q : Int32 → VS → Prop) (k0 : Int32) (σ : VS) : Prop := (Bo k0 ∧ Q k0 σ)
def b_X9isTold_22 (Q : Int32 → VS → Prop) (σ : VS) : Prop := Q 0 σ
def wp_X9isTold (Q : Int32 → VS → Prop) (p1 : Int32) (σ : VS) : Prop := wp_X1has (fun (r1 : Int32) (σ2 : VS) => ((r1.toInt = 0 → b_X9isTold_22 Q σ2) ∧ (r1.toInt ≠ 0 → wp_X1isTarget (fun (r3 : Int32) (σ4 : VS) => ((r3.toInt ≠ 0 → wp_X9refreshRace (fun (σ6 : VS) => (In p1 50 ∧ (((rd σ6 50 p1).toInt ≤ 0 → b_X9isTold_45 Q 0 σ6) ∧ (0 < (rd σ6 50 p1).toInt → b_X9isTold_45 Q 1 σ6)))) σ4) ∧ (r3.toInt = 0 → b_X9isTold_22 Q σ4))) p1 σ2))) p1 σ
theorem dX9_isTold_0 : decode cX9_isTold 0 = .ok (.aload_n 0, 1) := by decide +kernel
theorem dX9_isTold_1 : decode cX9_isTold 1 = .ok (.getfield 12, 3) := by decide +kernel
theorem dX9_isTold_4 : decode cX9_isTold 4 = .ok (.iload_n 1, 1) := by decide +kernel
theorem dX9_isTold_5 : decode cX9_isTold 5 = .ok (.invokevirtual 103, 3) := by decide +kernel
theorem dX9_isTold_8 : decode cX9_isTold 8 = .ok (.ifCond .eq 14, 3) := by decide +kernel
theorem dX9_isTold_11 : decode cX9_isTold 11 = .ok (.aload_n 0, 1) := by decide +kernel
theorem dX9_isTold_12 : decode cX9_isTold 12 = .ok (.getfield 12, 3) := by decide +kernel
theorem dX9_isTold_15 : decode cX9_isTold 15 = .ok (.iload_n 1, 1) := by decide +kernel
theorem dX9_isTold_16 : decode cX9_isTold 16 = .ok (.invokevirtual 141, 3) := by decide +kernel
theorem dX9_isTold_19 : decode cX9_isTold 19 = .ok (.ifCond .ne 5, 3) := by decide +kernel
theorem dX9_isTold_24 : decode cX9_isTold 24 = .ok (.aload_n 0, 1) := by decide +kernel
theorem dX9_isTold_25 : decode cX9_isTold 25 = .ok (.invokevirtual 239, 3) := by decide +kernel
theorem dX9_isTold_28 : decode cX9_isTold 28 = .ok (.aload_n 0, 1) := by decide +kernel
theorem dX9_isTold_29 : decode cX9_isTold 29 = .ok (.getfield 58, 3) := by decide +kernel
theorem dX9_isTold_32 : decode cX9_isTold 32 = .ok (.getfield 245, 3) := by decide +kernel
theorem dX9_isTold_35 : decode cX9_isTold 35 = .ok (.iload_n 1, 1) := by decide +kernel
theorem dX9_isTold_36 : decode cX9_isTold 36 = .ok (.iaload, 1) := by decide +kernel
theorem dX9_isTold_37 : decode cX9_isTold 37 = .ok (.ifCond .le 7, 3) := by decide +kernel
theorem dX9_isTold_44 : decode cX9_isTold 44 = .ok (.iconst 0, 1) := by decide +kernel
theorem dX9_isTold_40 : decode cX9_isTold 40 = .ok (.iconst 1, 1) := by decide +kernel
theorem dX9_isTold_41 : decode cX9_isTold 41 = .ok (.goto 4, 3) := by decide +kernel
theorem dX9_isTold_22 : decode cX9_isTold 22 = .ok (.iconst 0, 1) := by decide +kernel
theorem dX9_isTold_23 : decode cX9_isTold 23 = .ok (.ireturn, 1) := by decide +kernel
theorem dX9_isTold_45 : decode cX9_isTold 45 = .ok (.ireturn, 1) := by decide +kernel
def wo_X9isTold : List Cond := [.code yX9_isTold cX9_isTold 2 (some .boolean), .methodLink RX9 103 yX1_has, .instanceMethod yX1_has, .selects RX1 yX1_has yX1_has, .initialized RX1, .methodLink RX9 141 yX1_isTarget, .instanceMethod yX1_isTarget, .selects RX1 yX1_isTarget yX1_isTarget, .methodLink RX9 239 yX9_refreshRace, .instanceMethod yX9_refreshRace, .selects RX9 yX9_refreshRace yX9_refreshRace, .initialized RX9]
def wr_X9isTold : List Cond := (wfC ++ (w_X1has ++ (w_X1isTarget ++ (w_X9refreshRace ++ ([])))))
def w_X9isTold : List Cond := wo_X9isTold ++ wr_X9isTold
theorem wg_X9isTold : GW w_X9isTold := GW_app (GW_of (by decide +kernel)) (GW_app (wg_fC) (GW_app (wg_X1has) (GW_app (wg_X1isTarget) (GW_app (wg_X9refreshRace) (GW_nil)))))
theorem in_X9isTold : ∀ w ∈ wfC, w ∈ w_X9isTold := fun _ h => List.mem_append_right _ (List.mem_append_left _ h)
theorem g_X9isTold_X1has_103 : GoodIn w_X9isTold (wsV RX9 103 RX1 yX1_has w_X1has) := goodIn_app (gi_left (goodIn_of _ (by decide +kernel))) (fun w h => ⟨List.mem_append_right _ (List.mem_append_right _ (List.mem_append_left _ h)), wg_X1has w h⟩)
theorem g_X9isTold_X1isTarget_141 : GoodIn w_X9isTold (wsV RX9 141 RX1 yX1_isTarget w_X1isTarget) := goodIn_app (gi_left (goodIn_of _ (by decide +kernel))) (fun w h => ⟨List.mem_append_right _ (List.mem_append_right _ (List.mem_append_right _ (List.mem_append_left _ h))), wg_X1isTarget w h⟩)
theorem g_X9isTold_X9refreshRace_239 : GoodIn w_X9isTold (wsV RX9 239 RX9 yX9_refreshRace w_X9refreshRace) := goodIn_app (gi_left (goodIn_of _ (by decide +kernel))) (fun w h => ⟨List.mem_append_right _ (List.mem_append_right _ (List.mem_append_right _ (List.mem_append_right _ (List.mem_append_left _ h)))), wg_X9refreshRace w h⟩)
set_option maxHeartbeats 4000000 in
set_option maxRecDepth 100000 in
theorem ct_X9isTold (l : Launch) (E : gE) (B : Nat → Nat) (Q : Int32 → VS → Prop) (p1 : Int32) (σ : VS) (hw : wp_X9isTold Q p1 σ) : CtI l E yX9_isTold w_X9isTold (({ frames := 6, cells := 0, slots := 0, locals := 168 } : Room)) (wc E B σ) [.ref (B 0), .int p1] (fun r w => ∃ σ' : VS, Q r σ' ∧ w = wc E B σ') := by
  refine VC_I (cc := cX9_isTold) (mL := 2) (rt := (some .boolean)) (lv0 := [(0, .ref (B 0)), (1, .int p1)]) rfl (by decide) rfl (Nat.le_of_ble_eq_true rfl) ?_
  intro p e s m below meth c A F
  replace F : Fx p s m _ meth c A E cX9_isTold 2 (some .boolean) RX9 w_X9isTold := F
  have J_45 : ∀ (k0 : Int32) (σ : VS), b_X9isTold_45 Q k0 σ → WB p l e (({ frames := 6, cells := 0, slots := 0, locals := 168 } : Room)) s m (#[.ref (B 0), .int p1]) below meth c (MQ below (va_Qi (fun r w => ∃ σ' : VS, Q r σ' ∧ w = wc E B σ') (AftU E A) A) (#[.ref (B 0), .int p1]) s (({ frames := 6, cells := 0, slots := 0, locals := 168 } : Room)).cells (({ frames := 6, cells := 0, slots := 0, locals := 168 } : Room)).slots A) A E (wc E B) 2 45 [] [.int k0] σ := by
    intro k0 σ hw
    unfold b_X9isTold_45 at hw
    exact R_iret (Qc := Q) F (nb_01 hw.1) dX9_isTold_45 hw.2
  have J_22 : ∀ (σ : VS), b_X9isTold_22 Q σ → WB p l e (({ frames := 6, cells := 0, slots := 0, locals := 168 } : Room)) s m (#[.ref (B 0), .int p1]) below meth c (MQ below (va_Qi (fun r w => ∃ σ' : VS, Q r σ' ∧ w = wc E B σ') (AftU E A) A) (#[.ref (B 0), .int p1]) s (({ frames := 6, cells := 0, slots := 0, locals := 168 } : Room)).cells (({ frames := 6, cells := 0, slots := 0, locals := 168 } : Room)).slots A) A E (wc E B) 2 22 [] [] σ := by
    intro σ hw
    unfold b_X9isTold_22 at hw
    refine R_iconst F 0 dX9_isTold_22 (by decide) ?_
    exact R_iret (Qc := Q) F rfl dX9_isTold_23 hw
  unfold wp_X9isTold at hw
  refine R_aload_n F dX9_isTold_0 rfl 0 rfl ?_
  refine gc_RX9_12_0 F in_X9isTold dX9_isTold_1 ?_
  refine R_iload_n F dX9_isTold_4 rfl 1 rfl ?_
  refine R_callI (As := [.int p1]) (C := RX1) (q0 := 1) (ci := 1) (N := 13) (T := TX1) (fs := cf_1 B) F (ct_X1has l E B _ p1 _ hw) (cwV 1 F.2.2.2.2.2.2.2.2.2.2 g_X9isTold_X1has_103 rfl rfl rfl (by decide +kernel) ⟨Nat.le_of_ble_eq_true rfl, Nat.le_of_ble_eq_true rfl⟩) ⟨rfl, rfl⟩ rfl (fun _ => rfl) rfl rfl (Nat.le_of_ble_eq_true rfl) dX9_isTold_5 (fun r1 σ2 hw => ?_)
  refine R_if_eq (tgt := 22) F dX9_isTold_8 (by decide) (fun hc => ?_) (fun hc => ?_)
  · replace hw := hw.1 hc
    exact R_sub [] rfl (J_22 σ2 hw)
  · replace hw := hw.2 hc
    refine R_aload_n F dX9_isTold_11 rfl 0 rfl ?_
    refine gc_RX9_12_0 F in_X9isTold dX9_isTold_12 ?_
    refine R_iload_n F dX9_isTold_15 rfl 1 rfl ?_
    refine R_callI (As := [.int p1]) (C := RX1) (q0 := 1) (ci := 1) (N := 13) (T := TX1) (fs := cf_1 B) F (ct_X1isTarget l E B _ p1 _ hw) (cwV 1 F.2.2.2.2.2.2.2.2.2.2 g_X9isTold_X1isTarget_141 rfl rfl rfl (by decide +kernel) ⟨Nat.le_of_ble_eq_true rfl, Nat.le_of_ble_eq_true rfl⟩) ⟨rfl, rfl⟩ rfl (fun _ => rfl) rfl rfl (Nat.le_of_ble_eq_true rfl) dX9_isTold_16 (fun r3 σ4 hw => ?_)
    refine R_if_ne (tgt := 24) F dX9_isTold_19 (by decide) (fun hc => ?_) (fun hc => ?_)
    · replace hw := hw.1 hc
      refine R_aload_n F dX9_isTold_24 rfl 0 rfl ?_
      refine R_callV (As := []) (C := RX9) (q0 := 0) (ci := 9) (N := 12) (T := TX9) (fs := cf_0 B) F (ct_X9refreshRace l E B _ _ hw) (cwV 0 F.2.2.2.2.2.2.2.2.2.2 g_X9isTold_X9refreshRace_239 rfl rfl rfl (by decide +kernel) ⟨Nat.le_of_ble_eq_true rfl, Nat.le_of_ble_eq_true rfl⟩) ⟨rfl, rfl⟩ rfl (fun _ => rfl) rfl rfl (Nat.le_of_ble_eq_true rfl) dX9_isTold_25 (fun σ6 hw => ?_)
      refine R_aload_n F dX9_isTold_28 rfl 0 rfl ?_
      refine gc_RX9_58_0 F in_X9isTold dX9_isTold_29 ?_
      refine gc_RX9_245_7 F in_X9isTold dX9_isTold_32 ?_
      refine R_iload_n F dX9_isTold_35 rfl 1 rfl ?_
      refine R_ldi F qc_50 dX9_isTold_36 hw.1 ?_
      replace hw := hw.2
      refine R_if_le (tgt := 44) F dX9_isTold_37 (by decide) (fun hc => ?_) (fun hc => ?_)
      · replace hw := hw.1 hc
        refine R_iconst F 0 dX9_isTold_44 (by decide) ?_
        exact R_sub [] rfl (J_45 0 σ6 hw)
      · replace hw := hw.2 hc
        refine R_iconst F 1 dX9_isTold_40 (by decide) ?_
        refine R_goto (tgt := 45) F dX9_isTold_41 (by decide) ?_
        exact R_sub [] rfl (J_45 1 σ6 hw)
    · replace hw := hw.2 hc
      exact R_sub [] rfl (J_22 σ4 hw)
def b_X9growOneOfTrial_142 (X18 : Int32 → Int32 → Int32 → VS → Prop) (Q : Int32 → VS → Prop) (l1 : Int32) (l2 : Int32) (l3 : Int32) (σ : VS) : Prop := X18 l1 l2 (l3 + 1) σ
def b_X9growOneOfTrial_124 (X18 : Int32 → Int32 → Int32 → VS → Prop) (Q : Int32 → VS → Prop) (l1 : Int32) (l2 : Int32) (l3 : Int32) (l4 : Int32) (σ : VS) : Prop := (In l4 50 ∧ (In l4 50 ∧ wp_X9forget (fun (σ19 : VS) => b_X9growOneOfTrial_142 X18 Q l1 l2 l3 σ19) (sa σ 14 l4 ((rd σ 14 l4) - 1))))
def b_X9growOneOfTrial_18 (X18 : Int32 → Int32 → Int32 → VS → Prop) (Q : Int32 → VS → Prop) (l1 : Int32) (l2 : Int32) (l3 : Int32) (σ : VS) : Prop := ((((σ.1 19) - 1).toInt ≤ l3.toInt → Q 0 σ) ∧ (l3.toInt < ((σ.1 19) - 1).toInt → (In l3 51 ∧ (∀ x5 : Int32, x5 = (rd σ 59 l3) → wp_X1hasSize (fun (r6 : Int32) (σ7 : VS) => ((r6.toInt = 0 → b_X9growOneOfTrial_142 X18 Q l1 l2 l3 σ7) ∧ (r6.toInt ≠ 0 → (In x5 50 ∧ ((2 ≤ (rd σ7 14 x5).toInt → b_X9growOneOfTrial_142 X18 Q l1 l2 l3 σ7) ∧ ((rd σ7 14 x5).toInt < 2 → (In x5 50 ∧ (In x5 50 ∧ wp_X9forget (fun (σ9 : VS) => wp_X9refreshRace (fun (σ11 : VS) => wp_X2isAnyTold (fun (r12 : Int32) (σ13 : VS) => ((r12.toInt = 0 → b_X9growOneOfTrial_124 X18 Q l1 l2 l3 x5 σ13) ∧ (r12.toInt ≠ 0 → wp_X2leastSlack (fun (r14 : Int32) (σ15 : VS) => ((r14.toInt ≤ l1.toInt → b_X9growOneOfTrial_124 X18 Q l1 l2 l3 x5 σ15) ∧ (l1.toInt < r14.toInt → wp_X2leastHold (fun (r16 : Int32) (σ17 : VS) => ((r16.toInt < l2.toInt → b_X9growOneOfTrial_124 X18 Q l1 l2 l3 x5 σ17) ∧ (l2.toInt ≤ r16.toInt → Q 1 σ17))) σ15))) σ13))) σ11) σ9) (sa σ7 14 x5 ((rd σ7 14 x5) + 1)))))))))) x5 σ))))
def wp_X9growOneOfTrial (Q : Int32 → VS → Prop) (σ : VS) : Prop := ∀ (X18 : Int32 → Int32 → Int32 → VS → Prop), (∀ (l1 : Int32) (l2 : Int32) (l3 : Int32) (σ : VS), b_X9growOneOfTrial_18 X18 Q l1 l2 l3 σ → X18 l1 l2 l3 σ) → wp_X2leastSlack (fun (r1 : Int32) (σ2 : VS) => wp_X2leastHold (fun (r3 : Int32) (σ4 : VS) => X18 r1 r3 0 σ4) σ2) σ
theorem dX9_growOneOfTrial_0 : decode cX9_growOneOfTrial 0 = .ok (.aload_n 0, 1) := by decide +kernel
theorem dX9_growOneOfTrial_1 : decode cX9_growOneOfTrial 1 = .ok (.getfield 58, 3) := by decide +kernel
theorem dX9_growOneOfTrial_4 : decode cX9_growOneOfTrial 4 = .ok (.invokevirtual 301, 3) := by decide +kernel
theorem dX9_growOneOfTrial_7 : decode cX9_growOneOfTrial 7 = .ok (.istore_n 1, 1) := by decide +kernel
theorem dX9_growOneOfTrial_8 : decode cX9_growOneOfTrial 8 = .ok (.aload_n 0, 1) := by decide +kernel
theorem dX9_growOneOfTrial_9 : decode cX9_growOneOfTrial 9 = .ok (.getfield 58, 3) := by decide +kernel
theorem dX9_growOneOfTrial_12 : decode cX9_growOneOfTrial 12 = .ok (.invokevirtual 304, 3) := by decide +kernel
theorem dX9_growOneOfTrial_15 : decode cX9_growOneOfTrial 15 = .ok (.istore_n 2, 1) := by decide +kernel
theorem dX9_growOneOfTrial_16 : decode cX9_growOneOfTrial 16 = .ok (.iconst 0, 1) := by decide +kernel
theorem dX9_growOneOfTrial_17 : decode cX9_growOneOfTrial 17 = .ok (.istore_n 3, 1) := by decide +kernel
theorem dX9_growOneOfTrial_18 : decode cX9_growOneOfTrial 18 = .ok (.iload_n 3, 1) := by decide +kernel
theorem dX9_growOneOfTrial_19 : decode cX9_growOneOfTrial 19 = .ok (.aload_n 0, 1) := by decide +kernel
theorem dX9_growOneOfTrial_20 : decode cX9_growOneOfTrial 20 = .ok (.getfield 78, 3) := by decide +kernel
theorem dX9_growOneOfTrial_23 : decode cX9_growOneOfTrial 23 = .ok (.getfield 266, 3) := by decide +kernel
theorem dX9_growOneOfTrial_26 : decode cX9_growOneOfTrial 26 = .ok (.iconst 1, 1) := by decide +kernel
theorem dX9_growOneOfTrial_27 : decode cX9_growOneOfTrial 27 = .ok (.isub, 1) := by decide +kernel
theorem dX9_growOneOfTrial_28 : decode cX9_growOneOfTrial 28 = .ok (.if_icmp .ge 120, 3) := by decide +kernel
theorem dX9_growOneOfTrial_148 : decode cX9_growOneOfTrial 148 = .ok (.iconst 0, 1) := by decide +kernel
theorem dX9_growOneOfTrial_149 : decode cX9_growOneOfTrial 149 = .ok (.ireturn, 1) := by decide +kernel
theorem dX9_growOneOfTrial_31 : decode cX9_growOneOfTrial 31 = .ok (.aload_n 0, 1) := by decide +kernel
theorem dX9_growOneOfTrial_32 : decode cX9_growOneOfTrial 32 = .ok (.getfield 78, 3) := by decide +kernel
theorem dX9_growOneOfTrial_35 : decode cX9_growOneOfTrial 35 = .ok (.getfield 273, 3) := by decide +kernel
theorem dX9_growOneOfTrial_38 : decode cX9_growOneOfTrial 38 = .ok (.iload_n 3, 1) := by decide +kernel
theorem dX9_growOneOfTrial_39 : decode cX9_growOneOfTrial 39 = .ok (.iaload, 1) := by decide +kernel
theorem dX9_growOneOfTrial_40 : decode cX9_growOneOfTrial 40 = .ok (.istore 4, 2) := by decide +kernel
theorem dX9_growOneOfTrial_42 : decode cX9_growOneOfTrial 42 = .ok (.aload_n 0, 1) := by decide +kernel
theorem dX9_growOneOfTrial_43 : decode cX9_growOneOfTrial 43 = .ok (.getfield 12, 3) := by decide +kernel
theorem dX9_growOneOfTrial_46 : decode cX9_growOneOfTrial 46 = .ok (.iload 4, 2) := by decide +kernel
theorem dX9_growOneOfTrial_48 : decode cX9_growOneOfTrial 48 = .ok (.invokevirtual 122, 3) := by decide +kernel
theorem dX9_growOneOfTrial_51 : decode cX9_growOneOfTrial 51 = .ok (.ifCond .eq 91, 3) := by decide +kernel
theorem dX9_growOneOfTrial_54 : decode cX9_growOneOfTrial 54 = .ok (.aload_n 0, 1) := by decide +kernel
theorem dX9_growOneOfTrial_55 : decode cX9_growOneOfTrial 55 = .ok (.getfield 12, 3) := by decide +kernel
theorem dX9_growOneOfTrial_58 : decode cX9_growOneOfTrial 58 = .ok (.getfield 125, 3) := by decide +kernel
theorem dX9_growOneOfTrial_61 : decode cX9_growOneOfTrial 61 = .ok (.iload 4, 2) := by decide +kernel
theorem dX9_growOneOfTrial_63 : decode cX9_growOneOfTrial 63 = .ok (.iaload, 1) := by decide +kernel
theorem dX9_growOneOfTrial_64 : decode cX9_growOneOfTrial 64 = .ok (.iconst 2, 1) := by decide +kernel
theorem dX9_growOneOfTrial_65 : decode cX9_growOneOfTrial 65 = .ok (.if_icmp .ge 77, 3) := by decide +kernel
theorem dX9_growOneOfTrial_68 : decode cX9_growOneOfTrial 68 = .ok (.aload_n 0, 1) := by decide +kernel
theorem dX9_growOneOfTrial_69 : decode cX9_growOneOfTrial 69 = .ok (.getfield 12, 3) := by decide +kernel
theorem dX9_growOneOfTrial_72 : decode cX9_growOneOfTrial 72 = .ok (.getfield 125, 3) := by decide +kernel
theorem dX9_growOneOfTrial_75 : decode cX9_growOneOfTrial 75 = .ok (.iload 4, 2) := by decide +kernel
theorem dX9_growOneOfTrial_77 : decode cX9_growOneOfTrial 77 = .ok (.dup2, 1) := by decide +kernel
theorem dX9_growOneOfTrial_78 : decode cX9_growOneOfTrial 78 = .ok (.iaload, 1) := by decide +kernel
theorem dX9_growOneOfTrial_79 : decode cX9_growOneOfTrial 79 = .ok (.iconst 1, 1) := by decide +kernel
theorem dX9_growOneOfTrial_80 : decode cX9_growOneOfTrial 80 = .ok (.iadd, 1) := by decide +kernel
theorem dX9_growOneOfTrial_81 : decode cX9_growOneOfTrial 81 = .ok (.iastore, 1) := by decide +kernel
theorem dX9_growOneOfTrial_82 : decode cX9_growOneOfTrial 82 = .ok (.aload_n 0, 1) := by decide +kernel
theorem dX9_growOneOfTrial_83 : decode cX9_growOneOfTrial 83 = .ok (.invokevirtual 96, 3) := by decide +kernel
theorem dX9_growOneOfTrial_86 : decode cX9_growOneOfTrial 86 = .ok (.aload_n 0, 1) := by decide +kernel
theorem dX9_growOneOfTrial_87 : decode cX9_growOneOfTrial 87 = .ok (.invokevirtual 239, 3) := by decide +kernel
theorem dX9_growOneOfTrial_90 : decode cX9_growOneOfTrial 90 = .ok (.aload_n 0, 1) := by decide +kernel
theorem dX9_growOneOfTrial_91 : decode cX9_growOneOfTrial 91 = .ok (.getfield 58, 3) := by decide +kernel
theorem dX9_growOneOfTrial_94 : decode cX9_growOneOfTrial 94 = .ok (.invokevirtual 307, 3) := by decide +kernel
theorem dX9_growOneOfTrial_97 : decode cX9_growOneOfTrial 97 = .ok (.ifCond .eq 27, 3) := by decide +kernel
theorem dX9_growOneOfTrial_100 : decode cX9_growOneOfTrial 100 = .ok (.aload_n 0, 1) := by decide +kernel
theorem dX9_growOneOfTrial_101 : decode cX9_growOneOfTrial 101 = .ok (.getfield 58, 3) := by decide +kernel
theorem dX9_growOneOfTrial_104 : decode cX9_growOneOfTrial 104 = .ok (.invokevirtual 301, 3) := by decide +kernel
theorem dX9_growOneOfTrial_107 : decode cX9_growOneOfTrial 107 = .ok (.iload_n 1, 1) := by decide +kernel
theorem dX9_growOneOfTrial_108 : decode cX9_growOneOfTrial 108 = .ok (.if_icmp .le 16, 3) := by decide +kernel
theorem dX9_growOneOfTrial_111 : decode cX9_growOneOfTrial 111 = .ok (.aload_n 0, 1) := by decide +kernel
theorem dX9_growOneOfTrial_112 : decode cX9_growOneOfTrial 112 = .ok (.getfield 58, 3) := by decide +kernel
theorem dX9_growOneOfTrial_115 : decode cX9_growOneOfTrial 115 = .ok (.invokevirtual 304, 3) := by decide +kernel
theorem dX9_growOneOfTrial_118 : decode cX9_growOneOfTrial 118 = .ok (.iload_n 2, 1) := by decide +kernel
theorem dX9_growOneOfTrial_119 : decode cX9_growOneOfTrial 119 = .ok (.if_icmp .lt 5, 3) := by decide +kernel
theorem dX9_growOneOfTrial_122 : decode cX9_growOneOfTrial 122 = .ok (.iconst 1, 1) := by decide +kernel
theorem dX9_growOneOfTrial_123 : decode cX9_growOneOfTrial 123 = .ok (.ireturn, 1) := by decide +kernel
theorem dX9_growOneOfTrial_142 : decode cX9_growOneOfTrial 142 = .ok (.iinc 3 1, 3) := by decide +kernel
theorem dX9_growOneOfTrial_145 : decode cX9_growOneOfTrial 145 = .ok (.goto (-127), 3) := by decide +kernel
theorem dX9_growOneOfTrial_124 : decode cX9_growOneOfTrial 124 = .ok (.aload_n 0, 1) := by decide +kernel
theorem dX9_growOneOfTrial_125 : decode cX9_growOneOfTrial 125 = .ok (.getfield 12, 3) := by decide +kernel
theorem dX9_growOneOfTrial_128 : decode cX9_growOneOfTrial 128 = .ok (.getfield 125, 3) := by decide +kernel
theorem dX9_growOneOfTrial_131 : decode cX9_growOneOfTrial 131 = .ok (.iload 4, 2) := by decide +kernel
theorem dX9_growOneOfTrial_133 : decode cX9_growOneOfTrial 133 = .ok (.dup2, 1) := by decide +kernel
theorem dX9_growOneOfTrial_134 : decode cX9_growOneOfTrial 134 = .ok (.iaload, 1) := by decide +kernel
theorem dX9_growOneOfTrial_135 : decode cX9_growOneOfTrial 135 = .ok (.iconst 1, 1) := by decide +kernel
theorem dX9_growOneOfTrial_136 : decode cX9_growOneOfTrial 136 = .ok (.isub, 1) := by decide +kernel
theorem dX9_growOneOfTrial_137 : decode cX9_growOneOfTrial 137 = .ok (.iastore, 1) := by decide +kernel
theorem dX9_growOneOfTrial_138 : decode cX9_growOneOfTrial 138 = .ok (.aload_n 0, 1) := by decide +kernel
theorem dX9_growOneOfTrial_139 : decode cX9_growOneOfTrial 139 = .ok (.invokevirtual 96, 3) := by decide +kernel
def wo_X9growOneOfTrial : List Cond := [.code yX9_growOneOfTrial cX9_growOneOfTrial 5 (some .boolean), .methodLink RX9 301 yX2_leastSlack, .instanceMethod yX2_leastSlack, .selects RX2 yX2_leastSlack yX2_leastSlack, .initialized RX2, .methodLink RX9 304 yX2_leastHold, .instanceMethod yX2_leastHold, .selects RX2 yX2_leastHold yX2_leastHold, .methodLink RX9 122 yX1_hasSize, .instanceMethod yX1_hasSize, .selects RX1 yX1_hasSize yX1_hasSize, .initialized RX1, .methodLink RX9 96 yX9_forget, .instanceMethod yX9_forget, .selects RX9 yX9_forget yX9_forget, .initialized RX9, .methodLink RX9 239 yX9_refreshRace, .instanceMethod yX9_refreshRace, .selects RX9 yX9_refreshRace yX9_refreshRace, .methodLink RX9 307 yX2_isAnyTold, .instanceMethod yX2_isAnyTold, .selects RX2 yX2_isAnyTold yX2_isAnyTold]
def wr_X9growOneOfTrial : List Cond := (wfC ++ (w_X2leastSlack ++ (w_X2leastHold ++ (w_X1hasSize ++ (w_X9forget ++ (w_X9refreshRace ++ (w_X2isAnyTold ++ ([]))))))))
def w_X9growOneOfTrial : List Cond := wo_X9growOneOfTrial ++ wr_X9growOneOfTrial
theorem wg_X9growOneOfTrial : GW w_X9growOneOfTrial := GW_app (GW_of (by decide +kernel)) (GW_app (wg_fC) (GW_app (wg_X2leastSlack) (GW_app (wg_X2leastHold) (GW_app (wg_X1hasSize) (GW_app (wg_X9forget) (GW_app (wg_X9refreshRace) (GW_app (wg_X2isAnyTold) (GW_nil))))))))
theorem in_X9growOneOfTrial : ∀ w ∈ wfC, w ∈ w_X9growOneOfTrial := fun _ h => List.mem_append_right _ (List.mem_append_left _ h)
theorem g_X9growOneOfTrial_X2leastSlack_301 : GoodIn w_X9growOneOfTrial (wsV RX9 301 RX2 yX2_leastSlack w_X2leastSlack) := goodIn_app (gi_left (goodIn_of _ (by decide +kernel))) (fun w h => ⟨List.mem_append_right _ (List.mem_append_right _ (List.mem_append_left _ h)), wg_X2leastSlack w h⟩)
theorem g_X9growOneOfTrial_X2leastHold_304 : GoodIn w_X9growOneOfTrial (wsV RX9 304 RX2 yX2_leastHold w_X2leastHold) := goodIn_app (gi_left (goodIn_of _ (by decide +kernel))) (fun w h => ⟨List.mem_append_right _ (List.mem_append_right _ (List.mem_append_right _ (List.mem_append_left _ h))), wg_X2leastHold w h⟩)
theorem g_X9growOneOfTrial_X1hasSize_122 : GoodIn w_X9growOneOfTrial (wsV RX9 122 RX1 yX1_hasSize w_X1hasSize) := goodIn_app (gi_left (goodIn_of _ (by decide +kernel))) (fun w h => ⟨List.mem_append_right _ (List.mem_append_right _ (List.mem_append_right _ (List.mem_append_right _ (List.mem_append_left _ h)))), wg_X1hasSize w h⟩)
theorem g_X9growOneOfTrial_X9forget_96 : GoodIn w_X9growOneOfTrial (wsV RX9 96 RX9 yX9_forget w_X9forget) := goodIn_app (gi_left (goodIn_of _ (by decide +kernel))) (fun w h => ⟨List.mem_append_right _ (List.mem_append_right _ (List.mem_append_right _ (List.mem_append_right _ (List.mem_append_right _ (List.mem_append_left _ h))))), wg_X9forget w h⟩)
theorem g_X9growOneOfTrial_X9refreshRace_239 : GoodIn w_X9growOneOfTrial (wsV RX9 239 RX9 yX9_refreshRace w_X9refreshRace) := goodIn_app (gi_left (goodIn_of _ (by decide +kernel))) (fun w h => ⟨List.mem_append_right _ (List.mem_append_right _ (List.mem_append_right _ (List.mem_append_right _ (List.mem_append_right _ (List.mem_append_right _ (List.mem_append_left _ h)))))), wg_X9refreshRace w h⟩)
theorem g_X9growOneOfTrial_X2isAnyTold_307 : GoodIn w_X9growOneOfTrial (wsV RX9 307 RX2 yX2_isAnyTold w_X2isAnyTold) := goodIn_app (gi_left (goodIn_of _ (by decide +kernel))) (fun w h => ⟨List.mem_append_right _ (List.mem_append_right _ (List.mem_append_right _ (List.mem_append_right _ (List.mem_append_right _ (List.mem_append_right _ (List.mem_append_right _ (List.mem_append_left _ h))))))), wg_X2isAnyTold w h⟩)
set_option maxHeartbeats 4000000 in
set_option maxRecDepth 100000 in
theorem ct_X9growOneOfTrial (l : Launch) (E : gE) (B : Nat → Nat) (Q : Int32 → VS → Prop) (σ : VS) (hw : wp_X9growOneOfTrial Q σ) : CtI l E yX9_growOneOfTrial w_X9growOneOfTrial (({ frames := 6, cells := 0, slots := 0, locals := 168 } : Room)) (wc E B σ) [.ref (B 0)] (fun r w => ∃ σ' : VS, Q r σ' ∧ w = wc E B σ') := by
  refine VC_I (cc := cX9_growOneOfTrial) (mL := 5) (rt := (some .boolean)) (lv0 := [(0, .ref (B 0))]) rfl (by decide) rfl (Nat.le_of_ble_eq_true rfl) ?_
  intro p e s m below meth c A F
  replace F : Fx p s m _ meth c A E cX9_growOneOfTrial 5 (some .boolean) RX9 w_X9growOneOfTrial := F
  obtain ⟨X18, hX18⟩ : ∃ X : Int32 → Int32 → Int32 → VS → Prop, X = fun l1 l2 l3 σ => WB p l e (({ frames := 6, cells := 0, slots := 0, locals := 168 } : Room)) s m (#[.ref (B 0)]) below meth c (MQ below (va_Qi (fun r w => ∃ σ' : VS, Q r σ' ∧ w = wc E B σ') (AftU E A) A) (#[.ref (B 0)]) s (({ frames := 6, cells := 0, slots := 0, locals := 168 } : Room)).cells (({ frames := 6, cells := 0, slots := 0, locals := 168 } : Room)).slots A) A E (wc E B) 5 18 [(0, .ref (B 0)), (1, .int l1), (2, .int l2), (3, .int l3)] [] σ := ⟨_, rfl⟩
  have U_18 : ∀ (l1 : Int32) (l2 : Int32) (l3 : Int32) (σ : VS), X18 l1 l2 l3 σ → WB p l e (({ frames := 6, cells := 0, slots := 0, locals := 168 } : Room)) s m (#[.ref (B 0)]) below meth c (MQ below (va_Qi (fun r w => ∃ σ' : VS, Q r σ' ∧ w = wc E B σ') (AftU E A) A) (#[.ref (B 0)]) s (({ frames := 6, cells := 0, slots := 0, locals := 168 } : Room)).cells (({ frames := 6, cells := 0, slots := 0, locals := 168 } : Room)).slots A) A E (wc E B) 5 18 [(0, .ref (B 0)), (1, .int l1), (2, .int l2), (3, .int l3)] [] σ := by
    intro l1 l2 l3 σ hw; rw [hX18] at hw; exact hw
  have J_142 : ∀ (l1 : Int32) (l2 : Int32) (l3 : Int32) (σ : VS), b_X9growOneOfTrial_142 X18 Q l1 l2 l3 σ → WB p l e (({ frames := 6, cells := 0, slots := 0, locals := 168 } : Room)) s m (#[.ref (B 0)]) below meth c (MQ below (va_Qi (fun r w => ∃ σ' : VS, Q r σ' ∧ w = wc E B σ') (AftU E A) A) (#[.ref (B 0)]) s (({ frames := 6, cells := 0, slots := 0, locals := 168 } : Room)).cells (({ frames := 6, cells := 0, slots := 0, locals := 168 } : Room)).slots A) A E (wc E B) 5 142 [(0, .ref (B 0)), (1, .int l1), (2, .int l2), (3, .int l3)] [] σ := by
    intro l1 l2 l3 σ hw
    unfold b_X9growOneOfTrial_142 at hw
    refine R_iinc (q := 3) (v := (l3 + 1)) (lv' := [(3, .int (l3 + 1)), (0, .ref (B 0)), (1, .int l1), (2, .int l2)]) F dX9_growOneOfTrial_142 rfl rfl (by decide) rfl ?_
    refine R_goto (tgt := 18) F dX9_growOneOfTrial_145 (by decide) ?_
    exact R_sub [1, 2, 3, 0] rfl (U_18 l1 l2 (l3 + 1) σ hw)
  have J_124 : ∀ (l1 : Int32) (l2 : Int32) (l3 : Int32) (l4 : Int32) (σ : VS), b_X9growOneOfTrial_124 X18 Q l1 l2 l3 l4 σ → WB p l e (({ frames := 6, cells := 0, slots := 0, locals := 168 } : Room)) s m (#[.ref (B 0)]) below meth c (MQ below (va_Qi (fun r w => ∃ σ' : VS, Q r σ' ∧ w = wc E B σ') (AftU E A) A) (#[.ref (B 0)]) s (({ frames := 6, cells := 0, slots := 0, locals := 168 } : Room)).cells (({ frames := 6, cells := 0, slots := 0, locals := 168 } : Room)).slots A) A E (wc E B) 5 124 [(0, .ref (B 0)), (1, .int l1), (2, .int l2), (3, .int l3), (4, .int l4)] [] σ := by
    intro l1 l2 l3 l4 σ hw
    unfold b_X9growOneOfTrial_124 at hw
    refine R_aload_n F dX9_growOneOfTrial_124 rfl 0 rfl ?_
    refine gc_RX9_12_0 F in_X9growOneOfTrial dX9_growOneOfTrial_125 ?_
    refine gc_RX9_125_1 F in_X9growOneOfTrial dX9_growOneOfTrial_128 ?_
    refine R_iload F dX9_growOneOfTrial_131 4 rfl ?_
    refine R_dup2 F dX9_growOneOfTrial_133 rfl rfl ?_
    refine R_ldi F qc_14 dX9_growOneOfTrial_134 hw.1 ?_
    replace hw := hw.2
    refine R_iconst F 1 dX9_growOneOfTrial_135 (by decide) ?_
    refine R_isub F dX9_growOneOfTrial_136 ?_
    have hi := hw.1
    replace hw := hw.2
    refine R_sti F qc_14 uc_14 dX9_growOneOfTrial_137 hi ?_
    refine R_aload_n F dX9_growOneOfTrial_138 rfl 0 rfl ?_
    refine R_callV (As := []) (C := RX9) (q0 := 0) (ci := 9) (N := 12) (T := TX9) (fs := cf_0 B) F (ct_X9forget l E B _ _ hw) (cwV 0 F.2.2.2.2.2.2.2.2.2.2 g_X9growOneOfTrial_X9forget_96 rfl rfl rfl (by decide +kernel) ⟨Nat.le_of_ble_eq_true rfl, Nat.le_of_ble_eq_true rfl⟩) ⟨rfl, rfl⟩ rfl (fun _ => rfl) rfl rfl (Nat.le_of_ble_eq_true rfl) dX9_growOneOfTrial_139 (fun σ19 hw => ?_)
    exact R_sub [0, 1, 2, 3] rfl (J_142 l1 l2 l3 σ19 hw)
  have C_18 : ∀ (l1 : Int32) (l2 : Int32) (l3 : Int32) (σ : VS), b_X9growOneOfTrial_18 X18 Q l1 l2 l3 σ → X18 l1 l2 l3 σ := by
    intro l1 l2 l3 σ hw
    unfold b_X9growOneOfTrial_18 at hw
    rw [hX18]
    show WB p l e (({ frames := 6, cells := 0, slots := 0, locals := 168 } : Room)) s m (#[.ref (B 0)]) below meth c (MQ below (va_Qi (fun r w => ∃ σ' : VS, Q r σ' ∧ w = wc E B σ') (AftU E A) A) (#[.ref (B 0)]) s (({ frames := 6, cells := 0, slots := 0, locals := 168 } : Room)).cells (({ frames := 6, cells := 0, slots := 0, locals := 168 } : Room)).slots A) A E (wc E B) 5 18 [(0, .ref (B 0)), (1, .int l1), (2, .int l2), (3, .int l3)] [] σ
    refine R_iload_n F dX9_growOneOfTrial_18 rfl 3 rfl ?_
    refine R_aload_n F dX9_growOneOfTrial_19 rfl 0 rfl ?_
    refine gc_RX9_78_0 F in_X9growOneOfTrial dX9_growOneOfTrial_20 ?_
    refine gc_RX9_266_10 F in_X9growOneOfTrial dX9_growOneOfTrial_23 ?_
    refine R_iconst F 1 dX9_growOneOfTrial_26 (by decide) ?_
    refine R_isub F dX9_growOneOfTrial_27 ?_
    refine R_icmp_ge (tgt := 148) F dX9_growOneOfTrial_28 (by decide) (fun hc => ?_) (fun hc => ?_)
    · replace hw := hw.1 hc
      refine R_iconst F 0 dX9_growOneOfTrial_148 (by decide) ?_
      exact R_iret (Qc := Q) F rfl dX9_growOneOfTrial_149 hw
    · replace hw := hw.2 hc
      refine R_aload_n F dX9_growOneOfTrial_31 rfl 0 rfl ?_
      refine gc_RX9_78_0 F in_X9growOneOfTrial dX9_growOneOfTrial_32 ?_
      refine gc_RX9_273_10 F in_X9growOneOfTrial dX9_growOneOfTrial_35 ?_
      refine R_iload_n F dX9_growOneOfTrial_38 rfl 3 rfl ?_
      refine R_ldi F qc_59 dX9_growOneOfTrial_39 hw.1 ?_
      replace hw := hw.2
      refine R_topi (fun x5 ex5 => ?_)
      replace hw := hw x5 ex5
      refine R_istore (lv' := [(4, .int x5), (0, .ref (B 0)), (1, .int l1), (2, .int l2), (3, .int l3)]) F dX9_growOneOfTrial_40 (by decide) rfl ?_
      refine R_aload_n F dX9_growOneOfTrial_42 rfl 1 rfl ?_
      refine gc_RX9_12_0 F in_X9growOneOfTrial dX9_growOneOfTrial_43 ?_
      refine R_iload F dX9_growOneOfTrial_46 0 rfl ?_
      refine R_callI (As := [.int x5]) (C := RX1) (q0 := 1) (ci := 1) (N := 13) (T := TX1) (fs := cf_1 B) F (ct_X1hasSize l E B _ x5 _ hw) (cwV 1 F.2.2.2.2.2.2.2.2.2.2 g_X9growOneOfTrial_X1hasSize_122 rfl rfl rfl (by decide +kernel) ⟨Nat.le_of_ble_eq_true rfl, Nat.le_of_ble_eq_true rfl⟩) ⟨rfl, rfl⟩ rfl (fun _ => rfl) rfl rfl (Nat.le_of_ble_eq_true rfl) dX9_growOneOfTrial_48 (fun r6 σ7 hw => ?_)
      refine R_if_eq (tgt := 142) F dX9_growOneOfTrial_51 (by decide) (fun hc => ?_) (fun hc => ?_)
      · replace hw := hw.1 hc
        exact R_sub [1, 2, 3, 4] rfl (J_142 l1 l2 l3 σ7 hw)
      · replace hw := hw.2 hc
        refine R_aload_n F dX9_growOneOfTrial_54 rfl 1 rfl ?_
        refine gc_RX9_12_0 F in_X9growOneOfTrial dX9_growOneOfTrial_55 ?_
        refine gc_RX9_125_1 F in_X9growOneOfTrial dX9_growOneOfTrial_58 ?_
        refine R_iload F dX9_growOneOfTrial_61 0 rfl ?_
        refine R_ldi F qc_14 dX9_growOneOfTrial_63 hw.1 ?_
        replace hw := hw.2
        refine R_iconst F 2 dX9_growOneOfTrial_64 (by decide) ?_
        refine R_icmp_ge (tgt := 142) F dX9_growOneOfTrial_65 (by decide) (fun hc => ?_) (fun hc => ?_)
        · replace hw := hw.1 hc
          exact R_sub [1, 2, 3, 4] rfl (J_142 l1 l2 l3 σ7 hw)
        · replace hw := hw.2 hc
          refine R_aload_n F dX9_growOneOfTrial_68 rfl 1 rfl ?_
          refine gc_RX9_12_0 F in_X9growOneOfTrial dX9_growOneOfTrial_69 ?_
          refine gc_RX9_125_1 F in_X9growOneOfTrial dX9_growOneOfTrial_72 ?_
          refine R_iload F dX9_growOneOfTrial_75 0 rfl ?_
          refine R_dup2 F dX9_growOneOfTrial_77 rfl rfl ?_
          refine R_ldi F qc_14 dX9_growOneOfTrial_78 hw.1 ?_
          replace hw := hw.2
          refine R_iconst F 1 dX9_growOneOfTrial_79 (by decide) ?_
          refine R_iadd F dX9_growOneOfTrial_80 ?_
          have hi := hw.1
          replace hw := hw.2
          refine R_sti F qc_14 uc_14 dX9_growOneOfTrial_81 hi ?_
          refine R_aload_n F dX9_growOneOfTrial_82 rfl 1 rfl ?_
          refine R_callV (As := []) (C := RX9) (q0 := 0) (ci := 9) (N := 12) (T := TX9) (fs := cf_0 B) F (ct_X9forget l E B _ _ hw) (cwV 0 F.2.2.2.2.2.2.2.2.2.2 g_X9growOneOfTrial_X9forget_96 rfl rfl rfl (by decide +kernel) ⟨Nat.le_of_ble_eq_true rfl, Nat.le_of_ble_eq_true rfl⟩) ⟨rfl, rfl⟩ rfl (fun _ => rfl) rfl rfl (Nat.le_of_ble_eq_true rfl) dX9_growOneOfTrial_83 (fun σ9 hw => ?_)
          refine R_aload_n F dX9_growOneOfTrial_86 rfl 1 rfl ?_
          refine R_callV (As := []) (C := RX9) (q0 := 0) (ci := 9) (N := 12) (T := TX9) (fs := cf_0 B) F (ct_X9refreshRace l E B _ _ hw) (cwV 0 F.2.2.2.2.2.2.2.2.2.2 g_X9growOneOfTrial_X9refreshRace_239 rfl rfl rfl (by decide +kernel) ⟨Nat.le_of_ble_eq_true rfl, Nat.le_of_ble_eq_true rfl⟩) ⟨rfl, rfl⟩ rfl (fun _ => rfl) rfl rfl (Nat.le_of_ble_eq_true rfl) dX9_growOneOfTrial_87 (fun σ11 hw => ?_)
          refine R_aload_n F dX9_growOneOfTrial_90 rfl 1 rfl ?_
          refine gc_RX9_58_0 F in_X9growOneOfTrial dX9_growOneOfTrial_91 ?_
          refine R_callI (As := []) (C := RX2) (q0 := 7) (ci := 2) (N := 13) (T := TX2) (fs := cf_7 B) F (ct_X2isAnyTold l E B _ _ hw) (cwV 0 F.2.2.2.2.2.2.2.2.2.2 g_X9growOneOfTrial_X2isAnyTold_307 rfl rfl rfl (by decide +kernel) ⟨Nat.le_of_ble_eq_true rfl, Nat.le_of_ble_eq_true rfl⟩) ⟨rfl, rfl⟩ rfl (fun _ => rfl) rfl rfl (Nat.le_of_ble_eq_true rfl) dX9_growOneOfTrial_94 (fun r12 σ13 hw => ?_)
          refine R_if_eq (tgt := 124) F dX9_growOneOfTrial_97 (by decide) (fun hc => ?_) (fun hc => ?_)
          · replace hw := hw.1 hc
            exact R_sub [1, 2, 3, 4, 0] rfl (J_124 l1 l2 l3 x5 σ13 hw)
          · replace hw := hw.2 hc
            refine R_aload_n F dX9_growOneOfTrial_100 rfl 1 rfl ?_
            refine gc_RX9_58_0 F in_X9growOneOfTrial dX9_growOneOfTrial_101 ?_
            refine R_callI (As := []) (C := RX2) (q0 := 7) (ci := 2) (N := 13) (T := TX2) (fs := cf_7 B) F (ct_X2leastSlack l E B _ _ hw) (cwV 0 F.2.2.2.2.2.2.2.2.2.2 g_X9growOneOfTrial_X2leastSlack_301 rfl rfl rfl (by decide +kernel) ⟨Nat.le_of_ble_eq_true rfl, Nat.le_of_ble_eq_true rfl⟩) ⟨rfl, rfl⟩ rfl (fun _ => rfl) rfl rfl (Nat.le_of_ble_eq_true rfl) dX9_growOneOfTrial_104 (fun r14 σ15 hw => ?_)
            refine R_iload_n F dX9_growOneOfTrial_107 rfl 2 rfl ?_
            refine R_icmp_le (tgt := 124) F dX9_growOneOfTrial_108 (by decide) (fun hc => ?_) (fun hc => ?_)
            · replace hw := hw.1 hc
              exact R_sub [1, 2, 3, 4, 0] rfl (J_124 l1 l2 l3 x5 σ15 hw)
            · replace hw := hw.2 hc
              refine R_aload_n F dX9_growOneOfTrial_111 rfl 1 rfl ?_
              refine gc_RX9_58_0 F in_X9growOneOfTrial dX9_growOneOfTrial_112 ?_
              refine R_callI (As := []) (C := RX2) (q0 := 7) (ci := 2) (N := 13) (T := TX2) (fs := cf_7 B) F (ct_X2leastHold l E B _ _ hw) (cwV 0 F.2.2.2.2.2.2.2.2.2.2 g_X9growOneOfTrial_X2leastHold_304 rfl rfl rfl (by decide +kernel) ⟨Nat.le_of_ble_eq_true rfl, Nat.le_of_ble_eq_true rfl⟩) ⟨rfl, rfl⟩ rfl (fun _ => rfl) rfl rfl (Nat.le_of_ble_eq_true rfl) dX9_growOneOfTrial_115 (fun r16 σ17 hw => ?_)
              refine R_iload_n F dX9_growOneOfTrial_118 rfl 3 rfl ?_
              refine R_icmp_lt (tgt := 124) F dX9_growOneOfTrial_119 (by decide) (fun hc => ?_) (fun hc => ?_)
              · replace hw := hw.1 hc
                exact R_sub [1, 2, 3, 4, 0] rfl (J_124 l1 l2 l3 x5 σ17 hw)
              · replace hw := hw.2 hc
                refine R_iconst F 1 dX9_growOneOfTrial_122 (by decide) ?_
                exact R_iret (Qc := Q) F rfl dX9_growOneOfTrial_123 hw
  unfold wp_X9growOneOfTrial at hw
  replace hw := hw X18 C_18
  refine R_aload_n F dX9_growOneOfTrial_0 rfl 0 rfl ?_
  refine gc_RX9_58_0 F in_X9growOneOfTrial dX9_growOneOfTrial_1 ?_
  refine R_callI (As := []) (C := RX2) (q0 := 7) (ci := 2) (N := 13) (T := TX2) (fs := cf_7 B) F (ct_X2leastSlack l E B _ _ hw) (cwV 0 F.2.2.2.2.2.2.2.2.2.2 g_X9growOneOfTrial_X2leastSlack_301 rfl rfl rfl (by decide +kernel) ⟨Nat.le_of_ble_eq_true rfl, Nat.le_of_ble_eq_true rfl⟩) ⟨rfl, rfl⟩ rfl (fun _ => rfl) rfl rfl (Nat.le_of_ble_eq_true rfl) dX9_growOneOfTrial_4 (fun r1 σ2 hw => ?_)
  refine R_istore_n (lv' := [(1, .int r1), (0, .ref (B 0))]) F dX9_growOneOfTrial_7 rfl (by decide) rfl ?_
  refine R_aload_n F dX9_growOneOfTrial_8 rfl 1 rfl ?_
  refine gc_RX9_58_0 F in_X9growOneOfTrial dX9_growOneOfTrial_9 ?_
  refine R_callI (As := []) (C := RX2) (q0 := 7) (ci := 2) (N := 13) (T := TX2) (fs := cf_7 B) F (ct_X2leastHold l E B _ _ hw) (cwV 0 F.2.2.2.2.2.2.2.2.2.2 g_X9growOneOfTrial_X2leastHold_304 rfl rfl rfl (by decide +kernel) ⟨Nat.le_of_ble_eq_true rfl, Nat.le_of_ble_eq_true rfl⟩) ⟨rfl, rfl⟩ rfl (fun _ => rfl) rfl rfl (Nat.le_of_ble_eq_true rfl) dX9_growOneOfTrial_12 (fun r3 σ4 hw => ?_)
  refine R_istore_n (lv' := [(2, .int r3), (1, .int r1), (0, .ref (B 0))]) F dX9_growOneOfTrial_15 rfl (by decide) rfl ?_
  refine R_iconst F 0 dX9_growOneOfTrial_16 (by decide) ?_
  refine R_istore_n (lv' := [(3, .int 0), (2, .int r3), (1, .int r1), (0, .ref (B 0))]) F dX9_growOneOfTrial_17 rfl (by decide) rfl ?_
  exact R_sub [3, 2, 1, 0] rfl (U_18 r1 r3 0 σ4 hw)
