def b_X9make_86 (Q : Int32 → VS → Prop) (l1 : Int32) (l3 : Int32) (k0 : Int32) (σ : VS) : Prop := wp_X9forget (fun (σ8 : VS) => wp_X1addCell (fun (r9 : Int32) (σ10 : VS) => Q r9 σ10) l1 k0 l3 σ8) σ
def b_X9make_53 (Q : Int32 → VS → Prop) (l1 : Int32) (l2 : Int32) (l3 : Int32) (l4 : Int32) (σ : VS) : Prop := (((σ.1 2).toInt < 50 → ((l4.toInt = 0 → ((l1.toInt ≠ 0 → b_X9make_86 Q l1 l3 1 σ) ∧ (l1.toInt = 0 → b_X9make_86 Q l1 l3 0 σ))) ∧ (l4.toInt ≠ 0 → b_X9make_86 Q l1 l3 l2 σ))) ∧ (50 ≤ (σ.1 2).toInt → Q (-3) σ))
def b_X9make_35 (Q : Int32 → VS → Prop) (l1 : Int32) (l2 : Int32) (l3 : Int32) (k0 : Int32) (σ : VS) : Prop := ((k0.toInt = 0 → b_X9make_53 Q l1 l2 l3 k0 σ) ∧ (k0.toInt ≠ 0 → wp_X9within (fun (r5 : Int32) (σ6 : VS) => ((r5.toInt ≠ 0 → b_X9make_53 Q l1 l2 l3 k0 σ6) ∧ (r5.toInt = 0 → Q (-1) σ6))) l2 1 4 σ))
def b_X9make_34 (Q : Int32 → VS → Prop) (l1 : Int32) (l2 : Int32) (l3 : Int32) (σ : VS) : Prop := b_X9make_35 Q l1 l2 l3 0 σ
def b_X9make_16 (Q : Int32 → VS → Prop) (σ : VS) : Prop := Q (-1) σ
def wp_X9make (Q : Int32 → VS → Prop) (p1 : Int32) (p2 : Int32) (p3 : Int32) (σ : VS) : Prop := ((p1.toInt < 0 → b_X9make_16 Q σ) ∧ (0 ≤ p1.toInt → ((5 < p1.toInt → b_X9make_16 Q σ) ∧ (p1.toInt ≤ 5 → wp_X5has (fun (r1 : Int32) (σ2 : VS) => ((r1.toInt ≠ 0 → wp_X1isGateKind (fun (r3 : Int32) (σ4 : VS) => ((r3.toInt = 0 → b_X9make_34 Q p1 p2 p3 σ4) ∧ (r3.toInt ≠ 0 → ((p1.toInt = 3 → b_X9make_34 Q p1 p2 p3 σ4) ∧ (p1.toInt ≠ 3 → b_X9make_35 Q p1 p2 p3 1 σ4))))) p1 σ2) ∧ (r1.toInt = 0 → b_X9make_16 Q σ2))) p3 σ))))
theorem dX9_make_0 : decode cX9_make 0 = .ok (.iload_n 1, 1) := by decide +kernel
theorem dX9_make_1 : decode cX9_make 1 = .ok (.ifCond .lt 15, 3) := by decide +kernel
theorem dX9_make_4 : decode cX9_make 4 = .ok (.iload_n 1, 1) := by decide +kernel
theorem dX9_make_5 : decode cX9_make 5 = .ok (.iconst 5, 1) := by decide +kernel
theorem dX9_make_6 : decode cX9_make 6 = .ok (.if_icmp .gt 10, 3) := by decide +kernel
theorem dX9_make_9 : decode cX9_make 9 = .ok (.iload_n 3, 1) := by decide +kernel
theorem dX9_make_10 : decode cX9_make 10 = .ok (.invokestatic 81, 3) := by decide +kernel
theorem dX9_make_13 : decode cX9_make 13 = .ok (.ifCond .ne 5, 3) := by decide +kernel
theorem dX9_make_18 : decode cX9_make 18 = .ok (.iload_n 1, 1) := by decide +kernel
theorem dX9_make_19 : decode cX9_make 19 = .ok (.invokestatic 85, 3) := by decide +kernel
theorem dX9_make_22 : decode cX9_make 22 = .ok (.ifCond .eq 12, 3) := by decide +kernel
theorem dX9_make_25 : decode cX9_make 25 = .ok (.iload_n 1, 1) := by decide +kernel
theorem dX9_make_26 : decode cX9_make 26 = .ok (.iconst 3, 1) := by decide +kernel
theorem dX9_make_27 : decode cX9_make 27 = .ok (.if_icmp .eq 7, 3) := by decide +kernel
theorem dX9_make_30 : decode cX9_make 30 = .ok (.iconst 1, 1) := by decide +kernel
theorem dX9_make_31 : decode cX9_make 31 = .ok (.goto 4, 3) := by decide +kernel
theorem dX9_make_16 : decode cX9_make 16 = .ok (.iconst (-1), 1) := by decide +kernel
theorem dX9_make_17 : decode cX9_make 17 = .ok (.ireturn, 1) := by decide +kernel
theorem dX9_make_34 : decode cX9_make 34 = .ok (.iconst 0, 1) := by decide +kernel
theorem dX9_make_35 : decode cX9_make 35 = .ok (.istore 4, 2) := by decide +kernel
theorem dX9_make_37 : decode cX9_make 37 = .ok (.iload 4, 2) := by decide +kernel
theorem dX9_make_39 : decode cX9_make 39 = .ok (.ifCond .eq 14, 3) := by decide +kernel
theorem dX9_make_42 : decode cX9_make 42 = .ok (.iload_n 2, 1) := by decide +kernel
theorem dX9_make_43 : decode cX9_make 43 = .ok (.iconst 1, 1) := by decide +kernel
theorem dX9_make_44 : decode cX9_make 44 = .ok (.iconst 4, 1) := by decide +kernel
theorem dX9_make_45 : decode cX9_make 45 = .ok (.invokestatic 88, 3) := by decide +kernel
theorem dX9_make_48 : decode cX9_make 48 = .ok (.ifCond .ne 5, 3) := by decide +kernel
theorem dX9_make_51 : decode cX9_make 51 = .ok (.iconst (-1), 1) := by decide +kernel
theorem dX9_make_52 : decode cX9_make 52 = .ok (.ireturn, 1) := by decide +kernel
theorem dX9_make_53 : decode cX9_make 53 = .ok (.aload_n 0, 1) := by decide +kernel
theorem dX9_make_54 : decode cX9_make 54 = .ok (.getfield 12, 3) := by decide +kernel
theorem dX9_make_57 : decode cX9_make 57 = .ok (.getfield 92, 3) := by decide +kernel
theorem dX9_make_60 : decode cX9_make 60 = .ok (.bipush 50, 2) := by decide +kernel
theorem dX9_make_62 : decode cX9_make 62 = .ok (.if_icmp .lt 6, 3) := by decide +kernel
theorem dX9_make_68 : decode cX9_make 68 = .ok (.iload 4, 2) := by decide +kernel
theorem dX9_make_70 : decode cX9_make 70 = .ok (.ifCond .eq 7, 3) := by decide +kernel
theorem dX9_make_77 : decode cX9_make 77 = .ok (.iload_n 1, 1) := by decide +kernel
theorem dX9_make_78 : decode cX9_make 78 = .ok (.ifCond .ne 7, 3) := by decide +kernel
theorem dX9_make_85 : decode cX9_make 85 = .ok (.iconst 1, 1) := by decide +kernel
theorem dX9_make_81 : decode cX9_make 81 = .ok (.iconst 0, 1) := by decide +kernel
theorem dX9_make_82 : decode cX9_make 82 = .ok (.goto 4, 3) := by decide +kernel
theorem dX9_make_73 : decode cX9_make 73 = .ok (.iload_n 2, 1) := by decide +kernel
theorem dX9_make_74 : decode cX9_make 74 = .ok (.goto 12, 3) := by decide +kernel
theorem dX9_make_65 : decode cX9_make 65 = .ok (.bipush (-3), 2) := by decide +kernel
theorem dX9_make_67 : decode cX9_make 67 = .ok (.ireturn, 1) := by decide +kernel
theorem dX9_make_86 : decode cX9_make 86 = .ok (.istore 5, 2) := by decide +kernel
theorem dX9_make_88 : decode cX9_make 88 = .ok (.aload_n 0, 1) := by decide +kernel
theorem dX9_make_89 : decode cX9_make 89 = .ok (.invokevirtual 96, 3) := by decide +kernel
theorem dX9_make_92 : decode cX9_make 92 = .ok (.aload_n 0, 1) := by decide +kernel
theorem dX9_make_93 : decode cX9_make 93 = .ok (.getfield 12, 3) := by decide +kernel
theorem dX9_make_96 : decode cX9_make 96 = .ok (.iload_n 1, 1) := by decide +kernel
theorem dX9_make_97 : decode cX9_make 97 = .ok (.iload 5, 2) := by decide +kernel
theorem dX9_make_99 : decode cX9_make 99 = .ok (.iload_n 3, 1) := by decide +kernel
theorem dX9_make_100 : decode cX9_make 100 = .ok (.invokevirtual 99, 3) := by decide +kernel
theorem dX9_make_103 : decode cX9_make 103 = .ok (.ireturn, 1) := by decide +kernel
def wo_X9make : List Cond := [.code yX9_make cX9_make 6 (some .int), .methodLink RX9 81 yX5_has, .static yX5_has, .initialized RX5, .methodLink RX9 85 yX1_isGateKind, .static yX1_isGateKind, .initialized RX1, .methodLink RX9 88 yX9_within, .static yX9_within, .initialized RX9, .methodLink RX9 96 yX9_forget, .instanceMethod yX9_forget, .selects RX9 yX9_forget yX9_forget, .methodLink RX9 99 yX1_addCell, .instanceMethod yX1_addCell, .selects RX1 yX1_addCell yX1_addCell]
def wr_X9make : List Cond := (wfC ++ (w_X5has ++ (w_X1isGateKind ++ (w_X9within ++ (w_X9forget ++ (w_X1addCell ++ ([])))))))
def w_X9make : List Cond := wo_X9make ++ wr_X9make
theorem wg_X9make : GW w_X9make := GW_app (GW_of (by decide +kernel)) (GW_app (wg_fC) (GW_app (wg_X5has) (GW_app (wg_X1isGateKind) (GW_app (wg_X9within) (GW_app (wg_X9forget) (GW_app (wg_X1addCell) (GW_nil)))))))
theorem in_X9make : ∀ w ∈ wfC, w ∈ w_X9make := fun _ h => List.mem_append_right _ (List.mem_append_left _ h)
theorem g_X9make_X5has_81 : GoodIn w_X9make (va_wsS RX9 81 yX5_has w_X5has) := goodIn_app (gi_left (goodIn_of _ (by decide +kernel))) (fun w h => ⟨List.mem_append_right _ (List.mem_append_right _ (List.mem_append_left _ h)), wg_X5has w h⟩)
theorem g_X9make_X1isGateKind_85 : GoodIn w_X9make (va_wsS RX9 85 yX1_isGateKind w_X1isGateKind) := goodIn_app (gi_left (goodIn_of _ (by decide +kernel))) (fun w h => ⟨List.mem_append_right _ (List.mem_append_right _ (List.mem_append_right _ (List.mem_append_left _ h))), wg_X1isGateKind w h⟩)
theorem g_X9make_X9within_88 : GoodIn w_X9make (va_wsS RX9 88 yX9_within w_X9within) := goodIn_app (gi_left (goodIn_of _ (by decide +kernel))) (fun w h => ⟨List.mem_append_right _ (List.mem_append_right _ (List.mem_append_right _ (List.mem_append_right _ (List.mem_append_left _ h)))), wg_X9within w h⟩)
theorem g_X9make_X9forget_96 : GoodIn w_X9make (wsV RX9 96 RX9 yX9_forget w_X9forget) := goodIn_app (gi_left (goodIn_of _ (by decide +kernel))) (fun w h => ⟨List.mem_append_right _ (List.mem_append_right _ (List.mem_append_right _ (List.mem_append_right _ (List.mem_append_right _ (List.mem_append_left _ h))))), wg_X9forget w h⟩)
theorem g_X9make_X1addCell_99 : GoodIn w_X9make (wsV RX9 99 RX1 yX1_addCell w_X1addCell) := goodIn_app (gi_left (goodIn_of _ (by decide +kernel))) (fun w h => ⟨List.mem_append_right _ (List.mem_append_right _ (List.mem_append_right _ (List.mem_append_right _ (List.mem_append_right _ (List.mem_append_right _ (List.mem_append_left _ h)))))), wg_X1addCell w h⟩)
set_option maxHeartbeats 4000000 in
set_option maxRecDepth 100000 in
theorem ct_X9make (l : Launch) (E : gE) (B : Nat → Nat) (Q : Int32 → VS → Prop) (p1 : Int32) (p2 : Int32) (p3 : Int32) (σ : VS) (hw : wp_X9make Q p1 p2 p3 σ) : CtI l E yX9_make w_X9make (({ frames := 6, cells := 0, slots := 0, locals := 132 } : Room)) (wc E B σ) [.ref (B 0), .int p1, .int p2, .int p3] (fun r w => ∃ σ' : VS, Q r σ' ∧ w = wc E B σ') := by
  refine VC_I (cc := cX9_make) (mL := 6) (rt := (some .int)) (lv0 := [(0, .ref (B 0)), (1, .int p1), (2, .int p2), (3, .int p3)]) rfl (by decide) rfl (Nat.le_of_ble_eq_true rfl) ?_
  intro p e s m below meth c A F
  replace F : Fx p s m _ meth c A E cX9_make 6 (some .int) RX9 w_X9make := F
  have J_86 : ∀ (l1 : Int32) (l3 : Int32) (k0 : Int32) (σ : VS), b_X9make_86 Q l1 l3 k0 σ → WB p l e (({ frames := 6, cells := 0, slots := 0, locals := 132 } : Room)) s m (#[.ref (B 0), .int p1, .int p2, .int p3]) below meth c (MQ below (va_Qi (fun r w => ∃ σ' : VS, Q r σ' ∧ w = wc E B σ') (AftU E A) A) (#[.ref (B 0), .int p1, .int p2, .int p3]) s (({ frames := 6, cells := 0, slots := 0, locals := 132 } : Room)).cells (({ frames := 6, cells := 0, slots := 0, locals := 132 } : Room)).slots A) A E (wc E B) 6 86 [(0, .ref (B 0)), (1, .int l1), (3, .int l3)] [.int k0] σ := by
    intro l1 l3 k0 σ hw
    unfold b_X9make_86 at hw
    refine R_istore (lv' := [(5, .int k0), (0, .ref (B 0)), (1, .int l1), (3, .int l3)]) F dX9_make_86 (by decide) rfl ?_
    refine R_aload_n F dX9_make_88 rfl 1 rfl ?_
    refine R_callV (As := []) (C := RX9) (q0 := 0) (ci := 9) (N := 12) (T := TX9) (fs := cf_0 B) F (ct_X9forget l E B _ _ hw) (cwV 0 F.2.2.2.2.2.2.2.2.2.2 g_X9make_X9forget_96 rfl rfl rfl (by decide +kernel) ⟨Nat.le_of_ble_eq_true rfl, Nat.le_of_ble_eq_true rfl⟩) ⟨rfl, rfl⟩ rfl (fun _ => rfl) rfl rfl (Nat.le_of_ble_eq_true rfl) dX9_make_89 (fun σ8 hw => ?_)
    refine R_aload_n F dX9_make_92 rfl 1 rfl ?_
    refine gc_RX9_12_0 F in_X9make dX9_make_93 ?_
    refine R_iload_n F dX9_make_96 rfl 2 rfl ?_
    refine R_iload F dX9_make_97 0 rfl ?_
    refine R_iload_n F dX9_make_99 rfl 3 rfl ?_
    refine R_callI (As := [.int l1, .int k0, .int l3]) (C := RX1) (q0 := 1) (ci := 1) (N := 13) (T := TX1) (fs := cf_1 B) F (ct_X1addCell l E B _ l1 k0 l3 _ hw) (cwV 3 F.2.2.2.2.2.2.2.2.2.2 g_X9make_X1addCell_99 rfl rfl rfl (by decide +kernel) ⟨Nat.le_of_ble_eq_true rfl, Nat.le_of_ble_eq_true rfl⟩) ⟨rfl, rfl⟩ rfl (fun _ => rfl) rfl rfl (Nat.le_of_ble_eq_true rfl) dX9_make_100 (fun r9 σ10 hw => ?_)
    exact R_iret (Qc := Q) F rfl dX9_make_103 hw
  have J_53 : ∀ (l1 : Int32) (l2 : Int32) (l3 : Int32) (l4 : Int32) (σ : VS), b_X9make_53 Q l1 l2 l3 l4 σ → WB p l e (({ frames := 6, cells := 0, slots := 0, locals := 132 } : Room)) s m (#[.ref (B 0), .int p1, .int p2, .int p3]) below meth c (MQ below (va_Qi (fun r w => ∃ σ' : VS, Q r σ' ∧ w = wc E B σ') (AftU E A) A) (#[.ref (B 0), .int p1, .int p2, .int p3]) s (({ frames := 6, cells := 0, slots := 0, locals := 132 } : Room)).cells (({ frames := 6, cells := 0, slots := 0, locals := 132 } : Room)).slots A) A E (wc E B) 6 53 [(0, .ref (B 0)), (1, .int l1), (2, .int l2), (3, .int l3), (4, .int l4)] [] σ := by
    intro l1 l2 l3 l4 σ hw
    unfold b_X9make_53 at hw
    refine R_aload_n F dX9_make_53 rfl 0 rfl ?_
    refine gc_RX9_12_0 F in_X9make dX9_make_54 ?_
    refine gc_RX9_92_1 F in_X9make dX9_make_57 ?_
    refine R_bipush F 50 dX9_make_60 (by decide) ?_
    refine R_icmp_lt (tgt := 68) F dX9_make_62 (by decide) (fun hc => ?_) (fun hc => ?_)
    · replace hw := hw.1 hc
      refine R_iload F dX9_make_68 4 rfl ?_
      refine R_if_eq (tgt := 77) F dX9_make_70 (by decide) (fun hc => ?_) (fun hc => ?_)
      · replace hw := hw.1 hc
        refine R_iload_n F dX9_make_77 rfl 1 rfl ?_
        refine R_if_ne (tgt := 85) F dX9_make_78 (by decide) (fun hc => ?_) (fun hc => ?_)
        · replace hw := hw.1 hc
          refine R_iconst F 1 dX9_make_85 (by decide) ?_
          exact R_sub [0, 1, 3] rfl (J_86 l1 l3 1 σ hw)
        · replace hw := hw.2 hc
          refine R_iconst F 0 dX9_make_81 (by decide) ?_
          refine R_goto (tgt := 86) F dX9_make_82 (by decide) ?_
          exact R_sub [0, 1, 3] rfl (J_86 l1 l3 0 σ hw)
      · replace hw := hw.2 hc
        refine R_iload_n F dX9_make_73 rfl 2 rfl ?_
        refine R_goto (tgt := 86) F dX9_make_74 (by decide) ?_
        exact R_sub [0, 1, 3] rfl (J_86 l1 l3 l2 σ hw)
    · replace hw := hw.2 hc
      refine R_bipush F (-3) dX9_make_65 (by decide) ?_
      exact R_iret (Qc := Q) F rfl dX9_make_67 hw
  have J_35 : ∀ (l1 : Int32) (l2 : Int32) (l3 : Int32) (k0 : Int32) (σ : VS), b_X9make_35 Q l1 l2 l3 k0 σ → WB p l e (({ frames := 6, cells := 0, slots := 0, locals := 132 } : Room)) s m (#[.ref (B 0), .int p1, .int p2, .int p3]) below meth c (MQ below (va_Qi (fun r w => ∃ σ' : VS, Q r σ' ∧ w = wc E B σ') (AftU E A) A) (#[.ref (B 0), .int p1, .int p2, .int p3]) s (({ frames := 6, cells := 0, slots := 0, locals := 132 } : Room)).cells (({ frames := 6, cells := 0, slots := 0, locals := 132 } : Room)).slots A) A E (wc E B) 6 35 [(0, .ref (B 0)), (1, .int l1), (2, .int l2), (3, .int l3)] [.int k0] σ := by
    intro l1 l2 l3 k0 σ hw
    unfold b_X9make_35 at hw
    refine R_istore (lv' := [(4, .int k0), (0, .ref (B 0)), (1, .int l1), (2, .int l2), (3, .int l3)]) F dX9_make_35 (by decide) rfl ?_
    refine R_iload F dX9_make_37 0 rfl ?_
    refine R_if_eq (tgt := 53) F dX9_make_39 (by decide) (fun hc => ?_) (fun hc => ?_)
    · replace hw := hw.1 hc
      exact R_sub [1, 2, 3, 4, 0] rfl (J_53 l1 l2 l3 k0 σ hw)
    · replace hw := hw.2 hc
      refine R_iload_n F dX9_make_42 rfl 3 rfl ?_
      refine R_iconst F 1 dX9_make_43 (by decide) ?_
      refine R_iconst F 4 dX9_make_44 (by decide) ?_
      refine R_callIS (As := [.int l2, .int 1, .int 4]) (C := RX10) (q0 := 0) (ci := 10) (b := 0) (N := 69) (T := TX10) (fs := fun _ => []) F (ct_X9within l E B _ l2 1 4 _ hw) (va_cwS 3 F.2.2.2.2.2.2.2.2.2.2 g_X9make_X9within_88 rfl rfl rfl (by decide +kernel) ⟨Nat.le_of_ble_eq_true rfl, Nat.le_of_ble_eq_true rfl⟩) ⟨rfl, rfl⟩ rfl rfl (Nat.le_of_ble_eq_true rfl) dX9_make_45 (fun r5 σ6 hw => ?_)
      refine R_if_ne (tgt := 53) F dX9_make_48 (by decide) (fun hc => ?_) (fun hc => ?_)
      · replace hw := hw.1 hc
        exact R_sub [1, 2, 3, 4, 0] rfl (J_53 l1 l2 l3 k0 σ6 hw)
      · replace hw := hw.2 hc
        refine R_iconst F (-1) dX9_make_51 (by decide) ?_
        exact R_iret (Qc := Q) F rfl dX9_make_52 hw
  have J_34 : ∀ (l1 : Int32) (l2 : Int32) (l3 : Int32) (σ : VS), b_X9make_34 Q l1 l2 l3 σ → WB p l e (({ frames := 6, cells := 0, slots := 0, locals := 132 } : Room)) s m (#[.ref (B 0), .int p1, .int p2, .int p3]) below meth c (MQ below (va_Qi (fun r w => ∃ σ' : VS, Q r σ' ∧ w = wc E B σ') (AftU E A) A) (#[.ref (B 0), .int p1, .int p2, .int p3]) s (({ frames := 6, cells := 0, slots := 0, locals := 132 } : Room)).cells (({ frames := 6, cells := 0, slots := 0, locals := 132 } : Room)).slots A) A E (wc E B) 6 34 [(0, .ref (B 0)), (1, .int l1), (2, .int l2), (3, .int l3)] [] σ := by
    intro l1 l2 l3 σ hw
    unfold b_X9make_34 at hw
    refine R_iconst F 0 dX9_make_34 (by decide) ?_
    exact R_sub [0, 1, 2, 3] rfl (J_35 l1 l2 l3 0 σ hw)
  have J_16 : ∀ (σ : VS), b_X9make_16 Q σ → WB p l e (({ frames := 6, cells := 0, slots := 0, locals := 132 } : Room)) s m (#[.ref (B 0), .int p1, .int p2, .int p3]) below meth c (MQ below (va_Qi (fun r w => ∃ σ' : VS, Q r σ' ∧ w = wc E B σ') (AftU E A) A) (#[.ref (B 0), .int p1, .int p2, .int p3]) s (({ frames := 6, cells := 0, slots := 0, locals := 132 } : Room)).cells (({ frames := 6, cells := 0, slots := 0, locals := 132 } : Room)).slots A) A E (wc E B) 6 16 [] [] σ := by
    intro σ hw
    unfold b_X9make_16 at hw
    refine R_iconst F (-1) dX9_make_16 (by decide) ?_
    exact R_iret (Qc := Q) F rfl dX9_make_17 hw
  unfold wp_X9make at hw
  refine R_iload_n F dX9_make_0 rfl 1 rfl ?_
  refine R_if_lt (tgt := 16) F dX9_make_1 (by decide) (fun hc => ?_) (fun hc => ?_)
  · replace hw := hw.1 hc
    exact R_sub [] rfl (J_16 σ hw)
  · replace hw := hw.2 hc
    refine R_iload_n F dX9_make_4 rfl 1 rfl ?_
    refine R_iconst F 5 dX9_make_5 (by decide) ?_
    refine R_icmp_gt (tgt := 16) F dX9_make_6 (by decide) (fun hc => ?_) (fun hc => ?_)
    · replace hw := hw.1 hc
      exact R_sub [] rfl (J_16 σ hw)
    · replace hw := hw.2 hc
      refine R_iload_n F dX9_make_9 rfl 3 rfl ?_
      refine R_callIS (As := [.int p3]) (C := RX10) (q0 := 0) (ci := 10) (b := 0) (N := 69) (T := TX10) (fs := fun _ => []) F (ct_X5has l E B _ p3 _ hw) (va_cwS 1 F.2.2.2.2.2.2.2.2.2.2 g_X9make_X5has_81 rfl rfl rfl (by decide +kernel) ⟨Nat.le_of_ble_eq_true rfl, Nat.le_of_ble_eq_true rfl⟩) ⟨rfl, rfl⟩ rfl rfl (Nat.le_of_ble_eq_true rfl) dX9_make_10 (fun r1 σ2 hw => ?_)
      refine R_if_ne (tgt := 18) F dX9_make_13 (by decide) (fun hc => ?_) (fun hc => ?_)
      · replace hw := hw.1 hc
        refine R_iload_n F dX9_make_18 rfl 1 rfl ?_
        refine R_callIS (As := [.int p1]) (C := RX10) (q0 := 0) (ci := 10) (b := 0) (N := 69) (T := TX10) (fs := fun _ => []) F (ct_X1isGateKind l E B _ p1 _ hw) (va_cwS 1 F.2.2.2.2.2.2.2.2.2.2 g_X9make_X1isGateKind_85 rfl rfl rfl (by decide +kernel) ⟨Nat.le_of_ble_eq_true rfl, Nat.le_of_ble_eq_true rfl⟩) ⟨rfl, rfl⟩ rfl rfl (Nat.le_of_ble_eq_true rfl) dX9_make_19 (fun r3 σ4 hw => ?_)
        refine R_if_eq (tgt := 34) F dX9_make_22 (by decide) (fun hc => ?_) (fun hc => ?_)
        · replace hw := hw.1 hc
          exact R_sub [0, 1, 2, 3] rfl (J_34 p1 p2 p3 σ4 hw)
        · replace hw := hw.2 hc
          refine R_iload_n F dX9_make_25 rfl 1 rfl ?_
          refine R_iconst F 3 dX9_make_26 (by decide) ?_
          refine R_icmp_eq (tgt := 34) F dX9_make_27 (by decide) (fun hc => ?_) (fun hc => ?_)
          · replace hw := hw.1 hc
            exact R_sub [0, 1, 2, 3] rfl (J_34 p1 p2 p3 σ4 hw)
          · replace hw := hw.2 hc
            refine R_iconst F 1 dX9_make_30 (by decide) ?_
            refine R_goto (tgt := 35) F dX9_make_31 (by decide) ?_
            exact R_sub [0, 1, 2, 3] rfl (J_35 p1 p2 p3 1 σ4 hw)
      · replace hw := hw.2 hc
        exact R_sub [] rfl (J_16 σ2 hw)
def b_X9wire_90 (Q : Int32 → VS → Prop) (l2 : Int32) (l3 : Int32) (k0 : Int32) (σ : VS) : Prop := wp_X1connect (fun (r9 : Int32) (σ10 : VS) => Q r9 σ10) k0 ((l2 * 4) + l3) σ
def b_X9wire_71 (Q : Int32 → VS → Prop) (l1 : Int32) (l2 : Int32) (l3 : Int32) (σ : VS) : Prop := wp_X9forget (fun (σ8 : VS) => ((l1.toInt ≠ (-1) → b_X9wire_90 Q l2 l3 l1 σ8) ∧ (l1.toInt = (-1) → b_X9wire_90 Q l2 l3 (-5) σ8))) σ
def b_X9wire_51 (Q : Int32 → VS → Prop) (l1 : Int32) (l2 : Int32) (l3 : Int32) (σ : VS) : Prop := ((l1.toInt = (-1) → b_X9wire_71 Q l1 l2 l3 σ) ∧ (l1.toInt ≠ (-1) → wp_X1wouldRing (fun (r5 : Int32) (σ6 : VS) => ((r5.toInt = 0 → b_X9wire_71 Q l1 l2 l3 σ6) ∧ (r5.toInt ≠ 0 → Q (-4) σ6))) l1 l2 σ))
def b_X9wire_28 (Q : Int32 → VS → Prop) (σ : VS) : Prop := Q (-1) σ
def b_X9wire_16 (Q : Int32 → VS → Prop) (l1 : Int32) (l2 : Int32) (l3 : Int32) (σ : VS) : Prop := wp_X1hasInput (fun (r3 : Int32) (σ4 : VS) => ((r3.toInt ≠ 0 → ((l1.toInt = (-1) → b_X9wire_51 Q l1 l2 l3 σ4) ∧ (l1.toInt ≠ (-1) → (In l1 50 ∧ (((rd σ4 11 l1).toInt ≠ 5 → b_X9wire_51 Q l1 l2 l3 σ4) ∧ ((rd σ4 11 l1).toInt = 5 → Q (-2) σ4)))))) ∧ (r3.toInt = 0 → b_X9wire_28 Q σ4))) l2 l3 σ
def wp_X9wire (Q : Int32 → VS → Prop) (p1 : Int32) (p2 : Int32) (p3 : Int32) (σ : VS) : Prop := ((p1.toInt = (-1) → b_X9wire_16 Q p1 p2 p3 σ) ∧ (p1.toInt ≠ (-1) → wp_X1has (fun (r1 : Int32) (σ2 : VS) => ((r1.toInt = 0 → b_X9wire_28 Q σ2) ∧ (r1.toInt ≠ 0 → b_X9wire_16 Q p1 p2 p3 σ2))) p1 σ))
theorem dX9_wire_0 : decode cX9_wire 0 = .ok (.iload_n 1, 1) := by decide +kernel
theorem dX9_wire_1 : decode cX9_wire 1 = .ok (.iconst (-1), 1) := by decide +kernel
theorem dX9_wire_2 : decode cX9_wire 2 = .ok (.if_icmp .eq 14, 3) := by decide +kernel
theorem dX9_wire_5 : decode cX9_wire 5 = .ok (.aload_n 0, 1) := by decide +kernel
theorem dX9_wire_6 : decode cX9_wire 6 = .ok (.getfield 12, 3) := by decide +kernel
theorem dX9_wire_9 : decode cX9_wire 9 = .ok (.iload_n 1, 1) := by decide +kernel
theorem dX9_wire_10 : decode cX9_wire 10 = .ok (.invokevirtual 103, 3) := by decide +kernel
theorem dX9_wire_13 : decode cX9_wire 13 = .ok (.ifCond .eq 15, 3) := by decide +kernel
theorem dX9_wire_16 : decode cX9_wire 16 = .ok (.aload_n 0, 1) := by decide +kernel
theorem dX9_wire_17 : decode cX9_wire 17 = .ok (.getfield 12, 3) := by decide +kernel
theorem dX9_wire_20 : decode cX9_wire 20 = .ok (.iload_n 2, 1) := by decide +kernel
theorem dX9_wire_21 : decode cX9_wire 21 = .ok (.iload_n 3, 1) := by decide +kernel
theorem dX9_wire_22 : decode cX9_wire 22 = .ok (.invokevirtual 104, 3) := by decide +kernel
theorem dX9_wire_25 : decode cX9_wire 25 = .ok (.ifCond .ne 5, 3) := by decide +kernel
theorem dX9_wire_30 : decode cX9_wire 30 = .ok (.iload_n 1, 1) := by decide +kernel
theorem dX9_wire_31 : decode cX9_wire 31 = .ok (.iconst (-1), 1) := by decide +kernel
theorem dX9_wire_32 : decode cX9_wire 32 = .ok (.if_icmp .eq 19, 3) := by decide +kernel
theorem dX9_wire_35 : decode cX9_wire 35 = .ok (.aload_n 0, 1) := by decide +kernel
theorem dX9_wire_36 : decode cX9_wire 36 = .ok (.getfield 12, 3) := by decide +kernel
theorem dX9_wire_39 : decode cX9_wire 39 = .ok (.getfield 108, 3) := by decide +kernel
theorem dX9_wire_42 : decode cX9_wire 42 = .ok (.iload_n 1, 1) := by decide +kernel
theorem dX9_wire_43 : decode cX9_wire 43 = .ok (.iaload, 1) := by decide +kernel
theorem dX9_wire_44 : decode cX9_wire 44 = .ok (.iconst 5, 1) := by decide +kernel
theorem dX9_wire_45 : decode cX9_wire 45 = .ok (.if_icmp .ne 6, 3) := by decide +kernel
theorem dX9_wire_48 : decode cX9_wire 48 = .ok (.bipush (-2), 2) := by decide +kernel
theorem dX9_wire_50 : decode cX9_wire 50 = .ok (.ireturn, 1) := by decide +kernel
theorem dX9_wire_28 : decode cX9_wire 28 = .ok (.iconst (-1), 1) := by decide +kernel
theorem dX9_wire_29 : decode cX9_wire 29 = .ok (.ireturn, 1) := by decide +kernel
theorem dX9_wire_51 : decode cX9_wire 51 = .ok (.iload_n 1, 1) := by decide +kernel
theorem dX9_wire_52 : decode cX9_wire 52 = .ok (.iconst (-1), 1) := by decide +kernel
theorem dX9_wire_53 : decode cX9_wire 53 = .ok (.if_icmp .eq 18, 3) := by decide +kernel
theorem dX9_wire_56 : decode cX9_wire 56 = .ok (.aload_n 0, 1) := by decide +kernel
theorem dX9_wire_57 : decode cX9_wire 57 = .ok (.getfield 12, 3) := by decide +kernel
theorem dX9_wire_60 : decode cX9_wire 60 = .ok (.iload_n 1, 1) := by decide +kernel
theorem dX9_wire_61 : decode cX9_wire 61 = .ok (.iload_n 2, 1) := by decide +kernel
theorem dX9_wire_62 : decode cX9_wire 62 = .ok (.invokevirtual 112, 3) := by decide +kernel
theorem dX9_wire_65 : decode cX9_wire 65 = .ok (.ifCond .eq 6, 3) := by decide +kernel
theorem dX9_wire_68 : decode cX9_wire 68 = .ok (.bipush (-4), 2) := by decide +kernel
theorem dX9_wire_70 : decode cX9_wire 70 = .ok (.ireturn, 1) := by decide +kernel
theorem dX9_wire_71 : decode cX9_wire 71 = .ok (.aload_n 0, 1) := by decide +kernel
theorem dX9_wire_72 : decode cX9_wire 72 = .ok (.invokevirtual 96, 3) := by decide +kernel
theorem dX9_wire_75 : decode cX9_wire 75 = .ok (.aload_n 0, 1) := by decide +kernel
theorem dX9_wire_76 : decode cX9_wire 76 = .ok (.getfield 12, 3) := by decide +kernel
theorem dX9_wire_79 : decode cX9_wire 79 = .ok (.iload_n 1, 1) := by decide +kernel
theorem dX9_wire_80 : decode cX9_wire 80 = .ok (.iconst (-1), 1) := by decide +kernel
theorem dX9_wire_81 : decode cX9_wire 81 = .ok (.if_icmp .ne 8, 3) := by decide +kernel
theorem dX9_wire_89 : decode cX9_wire 89 = .ok (.iload_n 1, 1) := by decide +kernel
theorem dX9_wire_84 : decode cX9_wire 84 = .ok (.bipush (-5), 2) := by decide +kernel
theorem dX9_wire_86 : decode cX9_wire 86 = .ok (.goto 4, 3) := by decide +kernel
theorem dX9_wire_90 : decode cX9_wire 90 = .ok (.iload_n 2, 1) := by decide +kernel
theorem dX9_wire_91 : decode cX9_wire 91 = .ok (.iconst 4, 1) := by decide +kernel
theorem dX9_wire_92 : decode cX9_wire 92 = .ok (.imul, 1) := by decide +kernel
theorem dX9_wire_93 : decode cX9_wire 93 = .ok (.iload_n 3, 1) := by decide +kernel
theorem dX9_wire_94 : decode cX9_wire 94 = .ok (.iadd, 1) := by decide +kernel
theorem dX9_wire_95 : decode cX9_wire 95 = .ok (.invokevirtual 115, 3) := by decide +kernel
theorem dX9_wire_98 : decode cX9_wire 98 = .ok (.ireturn, 1) := by decide +kernel
def wo_X9wire : List Cond := [.code yX9_wire cX9_wire 4 (some .int), .methodLink RX9 103 yX1_has, .instanceMethod yX1_has, .selects RX1 yX1_has yX1_has, .initialized RX1, .methodLink RX9 104 yX1_hasInput, .instanceMethod yX1_hasInput, .selects RX1 yX1_hasInput yX1_hasInput, .methodLink RX9 112 yX1_wouldRing, .instanceMethod yX1_wouldRing, .selects RX1 yX1_wouldRing yX1_wouldRing, .methodLink RX9 96 yX9_forget, .instanceMethod yX9_forget, .selects RX9 yX9_forget yX9_forget, .initialized RX9, .methodLink RX9 115 yX1_connect, .instanceMethod yX1_connect, .selects RX1 yX1_connect yX1_connect]
def wr_X9wire : List Cond := (wfC ++ (w_X1has ++ (w_X1hasInput ++ (w_X1wouldRing ++ (w_X9forget ++ (w_X1connect ++ ([])))))))
def w_X9wire : List Cond := wo_X9wire ++ wr_X9wire
theorem wg_X9wire : GW w_X9wire := GW_app (GW_of (by decide +kernel)) (GW_app (wg_fC) (GW_app (wg_X1has) (GW_app (wg_X1hasInput) (GW_app (wg_X1wouldRing) (GW_app (wg_X9forget) (GW_app (wg_X1connect) (GW_nil)))))))
theorem in_X9wire : ∀ w ∈ wfC, w ∈ w_X9wire := fun _ h => List.mem_append_right _ (List.mem_append_left _ h)
theorem g_X9wire_X1has_103 : GoodIn w_X9wire (wsV RX9 103 RX1 yX1_has w_X1has) := goodIn_app (gi_left (goodIn_of _ (by decide +kernel))) (fun w h => ⟨List.mem_append_right _ (List.mem_append_right _ (List.mem_append_left _ h)), wg_X1has w h⟩)
theorem g_X9wire_X1hasInput_104 : GoodIn w_X9wire (wsV RX9 104 RX1 yX1_hasInput w_X1hasInput) := goodIn_app (gi_left (goodIn_of _ (by decide +kernel))) (fun w h => ⟨List.mem_append_right _ (List.mem_append_right _ (List.mem_append_right _ (List.mem_append_left _ h))), wg_X1hasInput w h⟩)
theorem g_X9wire_X1wouldRing_112 : GoodIn w_X9wire (wsV RX9 112 RX1 yX1_wouldRing w_X1wouldRing) := goodIn_app (gi_left (goodIn_of _ (by decide +kernel))) (fun w h => ⟨List.mem_append_right _ (List.mem_append_right _ (List.mem_append_right _ (List.mem_append_right _ (List.mem_append_left _ h)))), wg_X1wouldRing w h⟩)
theorem g_X9wire_X9forget_96 : GoodIn w_X9wire (wsV RX9 96 RX9 yX9_forget w_X9forget) := goodIn_app (gi_left (goodIn_of _ (by decide +kernel))) (fun w h => ⟨List.mem_append_right _ (List.mem_append_right _ (List.mem_append_right _ (List.mem_append_right _ (List.mem_append_right _ (List.mem_append_left _ h))))), wg_X9forget w h⟩)
theorem g_X9wire_X1connect_115 : GoodIn w_X9wire (wsV RX9 115 RX1 yX1_connect w_X1connect) := goodIn_app (gi_left (goodIn_of _ (by decide +kernel))) (fun w h => ⟨List.mem_append_right _ (List.mem_append_right _ (List.mem_append_right _ (List.mem_append_right _ (List.mem_append_right _ (List.mem_append_right _ (List.mem_append_left _ h)))))), wg_X1connect w h⟩)
set_option maxHeartbeats 4000000 in
set_option maxRecDepth 100000 in
theorem ct_X9wire (l : Launch) (E : gE) (B : Nat → Nat) (Q : Int32 → VS → Prop) (p1 : Int32) (p2 : Int32) (p3 : Int32) (σ : VS) (hw : wp_X9wire Q p1 p2 p3 σ) : CtI l E yX9_wire w_X9wire (({ frames := 6, cells := 0, slots := 0, locals := 131 } : Room)) (wc E B σ) [.ref (B 0), .int p1, .int p2, .int p3] (fun r w => ∃ σ' : VS, Q r σ' ∧ w = wc E B σ') := by
  refine VC_I (cc := cX9_wire) (mL := 4) (rt := (some .int)) (lv0 := [(0, .ref (B 0)), (1, .int p1), (2, .int p2), (3, .int p3)]) rfl (by decide) rfl (Nat.le_of_ble_eq_true rfl) ?_
  intro p e s m below meth c A F
  replace F : Fx p s m _ meth c A E cX9_wire 4 (some .int) RX9 w_X9wire := F
  have J_90 : ∀ (l2 : Int32) (l3 : Int32) (k0 : Int32) (σ : VS), b_X9wire_90 Q l2 l3 k0 σ → WB p l e (({ frames := 6, cells := 0, slots := 0, locals := 131 } : Room)) s m (#[.ref (B 0), .int p1, .int p2, .int p3]) below meth c (MQ below (va_Qi (fun r w => ∃ σ' : VS, Q r σ' ∧ w = wc E B σ') (AftU E A) A) (#[.ref (B 0), .int p1, .int p2, .int p3]) s (({ frames := 6, cells := 0, slots := 0, locals := 131 } : Room)).cells (({ frames := 6, cells := 0, slots := 0, locals := 131 } : Room)).slots A) A E (wc E B) 4 90 [(2, .int l2), (3, .int l3)] [.int k0, .ref (B 1)] σ := by
    intro l2 l3 k0 σ hw
    unfold b_X9wire_90 at hw
    refine R_iload_n F dX9_wire_90 rfl 0 rfl ?_
    refine R_iconst F 4 dX9_wire_91 (by decide) ?_
    refine R_imul F dX9_wire_92 ?_
    refine R_iload_n F dX9_wire_93 rfl 1 rfl ?_
    refine R_iadd F dX9_wire_94 ?_
    refine R_callI (As := [.int k0, .int ((l2 * 4) + l3)]) (C := RX1) (q0 := 1) (ci := 1) (N := 13) (T := TX1) (fs := cf_1 B) F (ct_X1connect l E B _ k0 ((l2 * 4) + l3) _ hw) (cwV 2 F.2.2.2.2.2.2.2.2.2.2 g_X9wire_X1connect_115 rfl rfl rfl (by decide +kernel) ⟨Nat.le_of_ble_eq_true rfl, Nat.le_of_ble_eq_true rfl⟩) ⟨rfl, rfl⟩ rfl (fun _ => rfl) rfl rfl (Nat.le_of_ble_eq_true rfl) dX9_wire_95 (fun r9 σ10 hw => ?_)
    exact R_iret (Qc := Q) F rfl dX9_wire_98 hw
  have J_71 : ∀ (l1 : Int32) (l2 : Int32) (l3 : Int32) (σ : VS), b_X9wire_71 Q l1 l2 l3 σ → WB p l e (({ frames := 6, cells := 0, slots := 0, locals := 131 } : Room)) s m (#[.ref (B 0), .int p1, .int p2, .int p3]) below meth c (MQ below (va_Qi (fun r w => ∃ σ' : VS, Q r σ' ∧ w = wc E B σ') (AftU E A) A) (#[.ref (B 0), .int p1, .int p2, .int p3]) s (({ frames := 6, cells := 0, slots := 0, locals := 131 } : Room)).cells (({ frames := 6, cells := 0, slots := 0, locals := 131 } : Room)).slots A) A E (wc E B) 4 71 [(0, .ref (B 0)), (1, .int l1), (2, .int l2), (3, .int l3)] [] σ := by
    intro l1 l2 l3 σ hw
    unfold b_X9wire_71 at hw
    refine R_aload_n F dX9_wire_71 rfl 0 rfl ?_
    refine R_callV (As := []) (C := RX9) (q0 := 0) (ci := 9) (N := 12) (T := TX9) (fs := cf_0 B) F (ct_X9forget l E B _ _ hw) (cwV 0 F.2.2.2.2.2.2.2.2.2.2 g_X9wire_X9forget_96 rfl rfl rfl (by decide +kernel) ⟨Nat.le_of_ble_eq_true rfl, Nat.le_of_ble_eq_true rfl⟩) ⟨rfl, rfl⟩ rfl (fun _ => rfl) rfl rfl (Nat.le_of_ble_eq_true rfl) dX9_wire_72 (fun σ8 hw => ?_)
    refine R_aload_n F dX9_wire_75 rfl 0 rfl ?_
    refine gc_RX9_12_0 F in_X9wire dX9_wire_76 ?_
    refine R_iload_n F dX9_wire_79 rfl 1 rfl ?_
    refine R_iconst F (-1) dX9_wire_80 (by decide) ?_
    refine R_icmp_ne (tgt := 89) F dX9_wire_81 (by decide) (fun hc => ?_) (fun hc => ?_)
    · replace hw := hw.1 hc
      refine R_iload_n F dX9_wire_89 rfl 1 rfl ?_
      exact R_sub [2, 3] rfl (J_90 l2 l3 l1 σ8 hw)
    · replace hw := hw.2 hc
      refine R_bipush F (-5) dX9_wire_84 (by decide) ?_
      refine R_goto (tgt := 90) F dX9_wire_86 (by decide) ?_
      exact R_sub [2, 3] rfl (J_90 l2 l3 (-5) σ8 hw)
  have J_51 : ∀ (l1 : Int32) (l2 : Int32) (l3 : Int32) (σ : VS), b_X9wire_51 Q l1 l2 l3 σ → WB p l e (({ frames := 6, cells := 0, slots := 0, locals := 131 } : Room)) s m (#[.ref (B 0), .int p1, .int p2, .int p3]) below meth c (MQ below (va_Qi (fun r w => ∃ σ' : VS, Q r σ' ∧ w = wc E B σ') (AftU E A) A) (#[.ref (B 0), .int p1, .int p2, .int p3]) s (({ frames := 6, cells := 0, slots := 0, locals := 131 } : Room)).cells (({ frames := 6, cells := 0, slots := 0, locals := 131 } : Room)).slots A) A E (wc E B) 4 51 [(0, .ref (B 0)), (1, .int l1), (2, .int l2), (3, .int l3)] [] σ := by
    intro l1 l2 l3 σ hw
    unfold b_X9wire_51 at hw
    refine R_iload_n F dX9_wire_51 rfl 1 rfl ?_
    refine R_iconst F (-1) dX9_wire_52 (by decide) ?_
    refine R_icmp_eq (tgt := 71) F dX9_wire_53 (by decide) (fun hc => ?_) (fun hc => ?_)
    · replace hw := hw.1 hc
      exact R_sub [0, 1, 2, 3] rfl (J_71 l1 l2 l3 σ hw)
    · replace hw := hw.2 hc
      refine R_aload_n F dX9_wire_56 rfl 0 rfl ?_
      refine gc_RX9_12_0 F in_X9wire dX9_wire_57 ?_
      refine R_iload_n F dX9_wire_60 rfl 1 rfl ?_
      refine R_iload_n F dX9_wire_61 rfl 2 rfl ?_
      refine R_callI (As := [.int l1, .int l2]) (C := RX1) (q0 := 1) (ci := 1) (N := 13) (T := TX1) (fs := cf_1 B) F (ct_X1wouldRing l E B _ l1 l2 _ hw) (cwV 2 F.2.2.2.2.2.2.2.2.2.2 g_X9wire_X1wouldRing_112 rfl rfl rfl (by decide +kernel) ⟨Nat.le_of_ble_eq_true rfl, Nat.le_of_ble_eq_true rfl⟩) ⟨rfl, rfl⟩ rfl (fun _ => rfl) rfl rfl (Nat.le_of_ble_eq_true rfl) dX9_wire_62 (fun r5 σ6 hw => ?_)
      refine R_if_eq (tgt := 71) F dX9_wire_65 (by decide) (fun hc => ?_) (fun hc => ?_)
      · replace hw := hw.1 hc
        exact R_sub [0, 1, 2, 3] rfl (J_71 l1 l2 l3 σ6 hw)
      · replace hw := hw.2 hc
        refine R_bipush F (-4) dX9_wire_68 (by decide) ?_
        exact R_iret (Qc := Q) F rfl dX9_wire_70 hw
  have J_28 : ∀ (σ : VS), b_X9wire_28 Q σ → WB p l e (({ frames := 6, cells := 0, slots := 0, locals := 131 } : Room)) s m (#[.ref (B 0), .int p1, .int p2, .int p3]) below meth c (MQ below (va_Qi (fun r w => ∃ σ' : VS, Q r σ' ∧ w = wc E B σ') (AftU E A) A) (#[.ref (B 0), .int p1, .int p2, .int p3]) s (({ frames := 6, cells := 0, slots := 0, locals := 131 } : Room)).cells (({ frames := 6, cells := 0, slots := 0, locals := 131 } : Room)).slots A) A E (wc E B) 4 28 [] [] σ := by
    intro σ hw
    unfold b_X9wire_28 at hw
    refine R_iconst F (-1) dX9_wire_28 (by decide) ?_
    exact R_iret (Qc := Q) F rfl dX9_wire_29 hw
  have J_16 : ∀ (l1 : Int32) (l2 : Int32) (l3 : Int32) (σ : VS), b_X9wire_16 Q l1 l2 l3 σ → WB p l e (({ frames := 6, cells := 0, slots := 0, locals := 131 } : Room)) s m (#[.ref (B 0), .int p1, .int p2, .int p3]) below meth c (MQ below (va_Qi (fun r w => ∃ σ' : VS, Q r σ' ∧ w = wc E B σ') (AftU E A) A) (#[.ref (B 0), .int p1, .int p2, .int p3]) s (({ frames := 6, cells := 0, slots := 0, locals := 131 } : Room)).cells (({ frames := 6, cells := 0, slots := 0, locals := 131 } : Room)).slots A) A E (wc E B) 4 16 [(0, .ref (B 0)), (1, .int l1), (2, .int l2), (3, .int l3)] [] σ := by
    intro l1 l2 l3 σ hw
    unfold b_X9wire_16 at hw
    refine R_aload_n F dX9_wire_16 rfl 0 rfl ?_
    refine gc_RX9_12_0 F in_X9wire dX9_wire_17 ?_
    refine R_iload_n F dX9_wire_20 rfl 2 rfl ?_
    refine R_iload_n F dX9_wire_21 rfl 3 rfl ?_
    refine R_callI (As := [.int l2, .int l3]) (C := RX1) (q0 := 1) (ci := 1) (N := 13) (T := TX1) (fs := cf_1 B) F (ct_X1hasInput l E B _ l2 l3 _ hw) (cwV 2 F.2.2.2.2.2.2.2.2.2.2 g_X9wire_X1hasInput_104 rfl rfl rfl (by decide +kernel) ⟨Nat.le_of_ble_eq_true rfl, Nat.le_of_ble_eq_true rfl⟩) ⟨rfl, rfl⟩ rfl (fun _ => rfl) rfl rfl (Nat.le_of_ble_eq_true rfl) dX9_wire_22 (fun r3 σ4 hw => ?_)
    refine R_if_ne (tgt := 30) F dX9_wire_25 (by decide) (fun hc => ?_) (fun hc => ?_)
    · replace hw := hw.1 hc
      refine R_iload_n F dX9_wire_30 rfl 1 rfl ?_
      refine R_iconst F (-1) dX9_wire_31 (by decide) ?_
      refine R_icmp_eq (tgt := 51) F dX9_wire_32 (by decide) (fun hc => ?_) (fun hc => ?_)
      · replace hw := hw.1 hc
        exact R_sub [0, 1, 2, 3] rfl (J_51 l1 l2 l3 σ4 hw)
      · replace hw := hw.2 hc
        refine R_aload_n F dX9_wire_35 rfl 0 rfl ?_
        refine gc_RX9_12_0 F in_X9wire dX9_wire_36 ?_
        refine gc_RX9_108_1 F in_X9wire dX9_wire_39 ?_
        refine R_iload_n F dX9_wire_42 rfl 1 rfl ?_
        refine R_ldi F qc_11 dX9_wire_43 hw.1 ?_
        replace hw := hw.2
        refine R_iconst F 5 dX9_wire_44 (by decide) ?_
        refine R_icmp_ne (tgt := 51) F dX9_wire_45 (by decide) (fun hc => ?_) (fun hc => ?_)
        · replace hw := hw.1 hc
          exact R_sub [0, 1, 2, 3] rfl (J_51 l1 l2 l3 σ4 hw)
        · replace hw := hw.2 hc
          refine R_bipush F (-2) dX9_wire_48 (by decide) ?_
          exact R_iret (Qc := Q) F rfl dX9_wire_50 hw
    · replace hw := hw.2 hc
      exact R_sub [] rfl (J_28 σ4 hw)
  unfold wp_X9wire at hw
  refine R_iload_n F dX9_wire_0 rfl 1 rfl ?_
  refine R_iconst F (-1) dX9_wire_1 (by decide) ?_
  refine R_icmp_eq (tgt := 16) F dX9_wire_2 (by decide) (fun hc => ?_) (fun hc => ?_)
  · replace hw := hw.1 hc
    exact R_sub [0, 1, 2, 3] rfl (J_16 p1 p2 p3 σ hw)
  · replace hw := hw.2 hc
    refine R_aload_n F dX9_wire_5 rfl 0 rfl ?_
    refine gc_RX9_12_0 F in_X9wire dX9_wire_6 ?_
    refine R_iload_n F dX9_wire_9 rfl 1 rfl ?_
    refine R_callI (As := [.int p1]) (C := RX1) (q0 := 1) (ci := 1) (N := 13) (T := TX1) (fs := cf_1 B) F (ct_X1has l E B _ p1 _ hw) (cwV 1 F.2.2.2.2.2.2.2.2.2.2 g_X9wire_X1has_103 rfl rfl rfl (by decide +kernel) ⟨Nat.le_of_ble_eq_true rfl, Nat.le_of_ble_eq_true rfl⟩) ⟨rfl, rfl⟩ rfl (fun _ => rfl) rfl rfl (Nat.le_of_ble_eq_true rfl) dX9_wire_10 (fun r1 σ2 hw => ?_)
    refine R_if_eq (tgt := 28) F dX9_wire_13 (by decide) (fun hc => ?_) (fun hc => ?_)
    · replace hw := hw.1 hc
      exact R_sub [] rfl (J_28 σ2 hw)
    · replace hw := hw.2 hc
      exact R_sub [0, 1, 2, 3] rfl (J_16 p1 p2 p3 σ2 hw)
def b_X9extra_22 (Q : Int32 → VS → Prop) (σ : VS) : Prop := Q (-1) σ
def wp_X9extra (Q : Int32 → VS → Prop) (p1 : Int32) (p2 : Int32) (σ : VS) : Prop := wp_X1has (fun (r1 : Int32) (σ2 : VS) => ((r1.toInt = 0 → b_X9extra_22 Q σ2) ∧ (r1.toInt ≠ 0 → wp_X9within (fun (r3 : Int32) (σ4 : VS) => ((r3.toInt ≠ 0 → (In p1 50 ∧ (((rd σ4 11 p1).toInt ≠ 5 → (In p1 50 ∧ (∀ x5 : Int32, x5 = (rd σ4 15 p1) → (In p1 50 ∧ wp_X9forget (fun (σ7 : VS) => Q x5 σ7) (sa σ4 15 p1 p2))))) ∧ ((rd σ4 11 p1).toInt = 5 → Q (-2) σ4)))) ∧ (r3.toInt = 0 → b_X9extra_22 Q σ4))) p2 0 1000 σ2))) p1 σ
theorem dX9_extra_0 : decode cX9_extra 0 = .ok (.aload_n 0, 1) := by decide +kernel
theorem dX9_extra_1 : decode cX9_extra 1 = .ok (.getfield 12, 3) := by decide +kernel
theorem dX9_extra_4 : decode cX9_extra 4 = .ok (.iload_n 1, 1) := by decide +kernel
theorem dX9_extra_5 : decode cX9_extra 5 = .ok (.invokevirtual 103, 3) := by decide +kernel
theorem dX9_extra_8 : decode cX9_extra 8 = .ok (.ifCond .eq 14, 3) := by decide +kernel
theorem dX9_extra_11 : decode cX9_extra 11 = .ok (.iload_n 2, 1) := by decide +kernel
theorem dX9_extra_12 : decode cX9_extra 12 = .ok (.iconst 0, 1) := by decide +kernel
theorem dX9_extra_13 : decode cX9_extra 13 = .ok (.sipush 1000, 3) := by decide +kernel
theorem dX9_extra_16 : decode cX9_extra 16 = .ok (.invokestatic 88, 3) := by decide +kernel
theorem dX9_extra_19 : decode cX9_extra 19 = .ok (.ifCond .ne 5, 3) := by decide +kernel
theorem dX9_extra_24 : decode cX9_extra 24 = .ok (.aload_n 0, 1) := by decide +kernel
theorem dX9_extra_25 : decode cX9_extra 25 = .ok (.getfield 12, 3) := by decide +kernel
theorem dX9_extra_28 : decode cX9_extra 28 = .ok (.getfield 108, 3) := by decide +kernel
theorem dX9_extra_31 : decode cX9_extra 31 = .ok (.iload_n 1, 1) := by decide +kernel
theorem dX9_extra_32 : decode cX9_extra 32 = .ok (.iaload, 1) := by decide +kernel
theorem dX9_extra_33 : decode cX9_extra 33 = .ok (.iconst 5, 1) := by decide +kernel
theorem dX9_extra_34 : decode cX9_extra 34 = .ok (.if_icmp .ne 6, 3) := by decide +kernel
theorem dX9_extra_40 : decode cX9_extra 40 = .ok (.aload_n 0, 1) := by decide +kernel
theorem dX9_extra_41 : decode cX9_extra 41 = .ok (.getfield 12, 3) := by decide +kernel
theorem dX9_extra_44 : decode cX9_extra 44 = .ok (.getfield 119, 3) := by decide +kernel
theorem dX9_extra_47 : decode cX9_extra 47 = .ok (.iload_n 1, 1) := by decide +kernel
theorem dX9_extra_48 : decode cX9_extra 48 = .ok (.iaload, 1) := by decide +kernel
theorem dX9_extra_49 : decode cX9_extra 49 = .ok (.istore_n 3, 1) := by decide +kernel
theorem dX9_extra_50 : decode cX9_extra 50 = .ok (.aload_n 0, 1) := by decide +kernel
theorem dX9_extra_51 : decode cX9_extra 51 = .ok (.getfield 12, 3) := by decide +kernel
theorem dX9_extra_54 : decode cX9_extra 54 = .ok (.getfield 119, 3) := by decide +kernel
theorem dX9_extra_57 : decode cX9_extra 57 = .ok (.iload_n 1, 1) := by decide +kernel
theorem dX9_extra_58 : decode cX9_extra 58 = .ok (.iload_n 2, 1) := by decide +kernel
theorem dX9_extra_59 : decode cX9_extra 59 = .ok (.iastore, 1) := by decide +kernel
theorem dX9_extra_60 : decode cX9_extra 60 = .ok (.aload_n 0, 1) := by decide +kernel
theorem dX9_extra_61 : decode cX9_extra 61 = .ok (.invokevirtual 96, 3) := by decide +kernel
theorem dX9_extra_64 : decode cX9_extra 64 = .ok (.iload_n 3, 1) := by decide +kernel
theorem dX9_extra_65 : decode cX9_extra 65 = .ok (.ireturn, 1) := by decide +kernel
theorem dX9_extra_37 : decode cX9_extra 37 = .ok (.bipush (-2), 2) := by decide +kernel
theorem dX9_extra_39 : decode cX9_extra 39 = .ok (.ireturn, 1) := by decide +kernel
theorem dX9_extra_22 : decode cX9_extra 22 = .ok (.iconst (-1), 1) := by decide +kernel
theorem dX9_extra_23 : decode cX9_extra 23 = .ok (.ireturn, 1) := by decide +kernel
def wo_X9extra : List Cond := [.code yX9_extra cX9_extra 4 (some .int), .methodLink RX9 103 yX1_has, .instanceMethod yX1_has, .selects RX1 yX1_has yX1_has, .initialized RX1, .methodLink RX9 88 yX9_within, .static yX9_within, .initialized RX9, .methodLink RX9 96 yX9_forget, .instanceMethod yX9_forget, .selects RX9 yX9_forget yX9_forget]
def wr_X9extra : List Cond := (wfC ++ (w_X1has ++ (w_X9within ++ (w_X9forget ++ ([])))))
def w_X9extra : List Cond := wo_X9extra ++ wr_X9extra
theorem wg_X9extra : GW w_X9extra := GW_app (GW_of (by decide +kernel)) (GW_app (wg_fC) (GW_app (wg_X1has) (GW_app (wg_X9within) (GW_app (wg_X9forget) (GW_nil)))))
theorem in_X9extra : ∀ w ∈ wfC, w ∈ w_X9extra := fun _ h => List.mem_append_right _ (List.mem_append_left _ h)
theorem g_X9extra_X1has_103 : GoodIn w_X9extra (wsV RX9 103 RX1 yX1_has w_X1has) := goodIn_app (gi_left (goodIn_of _ (by decide +kernel))) (fun w h => ⟨List.mem_append_right _ (List.mem_append_right _ (List.mem_append_left _ h)), wg_X1has w h⟩)
theorem g_X9extra_X9within_88 : GoodIn w_X9extra (va_wsS RX9 88 yX9_within w_X9within) := goodIn_app (gi_left (goodIn_of _ (by decide +kernel))) (fun w h => ⟨List.mem_append_right _ (List.mem_append_right _ (List.mem_append_right _ (List.mem_append_left _ h))), wg_X9within w h⟩)
theorem g_X9extra_X9forget_96 : GoodIn w_X9extra (wsV RX9 96 RX9 yX9_forget w_X9forget) := goodIn_app (gi_left (goodIn_of _ (by decide +kernel))) (fun w h => ⟨List.mem_append_right _ (List.mem_append_right _ (List.mem_append_right _ (List.mem_append_right _ (List.mem_append_left _ h)))), wg_X9forget w h⟩)
set_option maxHeartbeats 4000000 in
set_option maxRecDepth 100000 in
theorem ct_X9extra (l : Launch) (E : gE) (B : Nat → Nat) (Q : Int32 → VS → Prop) (p1 : Int32) (p2 : Int32) (σ : VS) (hw : wp_X9extra Q p1 p2 σ) : CtI l E yX9_extra w_X9extra (({ frames := 1, cells := 0, slots := 0, locals := 22 } : Room)) (wc E B σ) [.ref (B 0), .int p1, .int p2] (fun r w => ∃ σ' : VS, Q r σ' ∧ w = wc E B σ') := by
  refine VC_I (cc := cX9_extra) (mL := 4) (rt := (some .int)) (lv0 := [(0, .ref (B 0)), (1, .int p1), (2, .int p2)]) rfl (by decide) rfl (Nat.le_of_ble_eq_true rfl) ?_
  intro p e s m below meth c A F
  replace F : Fx p s m _ meth c A E cX9_extra 4 (some .int) RX9 w_X9extra := F
  have J_22 : ∀ (σ : VS), b_X9extra_22 Q σ → WB p l e (({ frames := 1, cells := 0, slots := 0, locals := 22 } : Room)) s m (#[.ref (B 0), .int p1, .int p2]) below meth c (MQ below (va_Qi (fun r w => ∃ σ' : VS, Q r σ' ∧ w = wc E B σ') (AftU E A) A) (#[.ref (B 0), .int p1, .int p2]) s (({ frames := 1, cells := 0, slots := 0, locals := 22 } : Room)).cells (({ frames := 1, cells := 0, slots := 0, locals := 22 } : Room)).slots A) A E (wc E B) 4 22 [] [] σ := by
    intro σ hw
    unfold b_X9extra_22 at hw
    refine R_iconst F (-1) dX9_extra_22 (by decide) ?_
    exact R_iret (Qc := Q) F rfl dX9_extra_23 hw
  unfold wp_X9extra at hw
  refine R_aload_n F dX9_extra_0 rfl 0 rfl ?_
  refine gc_RX9_12_0 F in_X9extra dX9_extra_1 ?_
  refine R_iload_n F dX9_extra_4 rfl 1 rfl ?_
  refine R_callI (As := [.int p1]) (C := RX1) (q0 := 1) (ci := 1) (N := 13) (T := TX1) (fs := cf_1 B) F (ct_X1has l E B _ p1 _ hw) (cwV 1 F.2.2.2.2.2.2.2.2.2.2 g_X9extra_X1has_103 rfl rfl rfl (by decide +kernel) ⟨Nat.le_of_ble_eq_true rfl, Nat.le_of_ble_eq_true rfl⟩) ⟨rfl, rfl⟩ rfl (fun _ => rfl) rfl rfl (Nat.le_of_ble_eq_true rfl) dX9_extra_5 (fun r1 σ2 hw => ?_)
  refine R_if_eq (tgt := 22) F dX9_extra_8 (by decide) (fun hc => ?_) (fun hc => ?_)
  · replace hw := hw.1 hc
    exact R_sub [] rfl (J_22 σ2 hw)
  · replace hw := hw.2 hc
    refine R_iload_n F dX9_extra_11 rfl 2 rfl ?_
    refine R_iconst F 0 dX9_extra_12 (by decide) ?_
    refine R_sipush F 1000 dX9_extra_13 (by decide) ?_
    refine R_callIS (As := [.int p2, .int 0, .int 1000]) (C := RX10) (q0 := 0) (ci := 10) (b := 0) (N := 69) (T := TX10) (fs := fun _ => []) F (ct_X9within l E B _ p2 0 1000 _ hw) (va_cwS 3 F.2.2.2.2.2.2.2.2.2.2 g_X9extra_X9within_88 rfl rfl rfl (by decide +kernel) ⟨Nat.le_of_ble_eq_true rfl, Nat.le_of_ble_eq_true rfl⟩) ⟨rfl, rfl⟩ rfl rfl (Nat.le_of_ble_eq_true rfl) dX9_extra_16 (fun r3 σ4 hw => ?_)
    refine R_if_ne (tgt := 24) F dX9_extra_19 (by decide) (fun hc => ?_) (fun hc => ?_)
    · replace hw := hw.1 hc
      refine R_aload_n F dX9_extra_24 rfl 0 rfl ?_
      refine gc_RX9_12_0 F in_X9extra dX9_extra_25 ?_
      refine gc_RX9_108_1 F in_X9extra dX9_extra_28 ?_
      refine R_iload_n F dX9_extra_31 rfl 1 rfl ?_
      refine R_ldi F qc_11 dX9_extra_32 hw.1 ?_
      replace hw := hw.2
      refine R_iconst F 5 dX9_extra_33 (by decide) ?_
      refine R_icmp_ne (tgt := 40) F dX9_extra_34 (by decide) (fun hc => ?_) (fun hc => ?_)
      · replace hw := hw.1 hc
        refine R_aload_n F dX9_extra_40 rfl 0 rfl ?_
        refine gc_RX9_12_0 F in_X9extra dX9_extra_41 ?_
        refine gc_RX9_119_1 F in_X9extra dX9_extra_44 ?_
        refine R_iload_n F dX9_extra_47 rfl 1 rfl ?_
        refine R_ldi F qc_15 dX9_extra_48 hw.1 ?_
        replace hw := hw.2
        refine R_topi (fun x5 ex5 => ?_)
        replace hw := hw x5 ex5
        refine R_istore_n (lv' := [(3, .int x5), (0, .ref (B 0)), (1, .int p1), (2, .int p2)]) F dX9_extra_49 rfl (by decide) rfl ?_
        refine R_aload_n F dX9_extra_50 rfl 1 rfl ?_
        refine gc_RX9_12_0 F in_X9extra dX9_extra_51 ?_
        refine gc_RX9_119_1 F in_X9extra dX9_extra_54 ?_
        refine R_iload_n F dX9_extra_57 rfl 2 rfl ?_
        refine R_iload_n F dX9_extra_58 rfl 3 rfl ?_
        have hi := hw.1
        replace hw := hw.2
        refine R_sti F qc_15 uc_15 dX9_extra_59 hi ?_
        refine R_aload_n F dX9_extra_60 rfl 1 rfl ?_
        refine R_callV (As := []) (C := RX9) (q0 := 0) (ci := 9) (N := 12) (T := TX9) (fs := cf_0 B) F (ct_X9forget l E B _ _ hw) (cwV 0 F.2.2.2.2.2.2.2.2.2.2 g_X9extra_X9forget_96 rfl rfl rfl (by decide +kernel) ⟨Nat.le_of_ble_eq_true rfl, Nat.le_of_ble_eq_true rfl⟩) ⟨rfl, rfl⟩ rfl (fun _ => rfl) rfl rfl (Nat.le_of_ble_eq_true rfl) dX9_extra_61 (fun σ7 hw => ?_)
        refine R_iload_n F dX9_extra_64 rfl 0 rfl ?_
        exact R_iret (Qc := Q) F rfl dX9_extra_65 hw
      · replace hw := hw.2 hc
        refine R_bipush F (-2) dX9_extra_37 (by decide) ?_
        exact R_iret (Qc := Q) F rfl dX9_extra_39 hw
    · replace hw := hw.2 hc
      exact R_sub [] rfl (J_22 σ4 hw)
def b_X9size_20 (Q : Int32 → VS → Prop) (σ : VS) : Prop := Q (-1) σ
def wp_X9size (Q : Int32 → VS → Prop) (p1 : Int32) (p2 : Int32) (σ : VS) : Prop := wp_X1has (fun (r1 : Int32) (σ2 : VS) => ((r1.toInt = 0 → b_X9size_20 Q σ2) ∧ (r1.toInt ≠ 0 → wp_X9within (fun (r3 : Int32) (σ4 : VS) => ((r3.toInt ≠ 0 → wp_X1hasSize (fun (r5 : Int32) (σ6 : VS) => ((r5.toInt ≠ 0 → (In p1 50 ∧ (∀ x7 : Int32, x7 = (rd σ6 14 p1) → (In p1 50 ∧ wp_X9forget (fun (σ9 : VS) => Q x7 σ9) (sa σ6 14 p1 p2))))) ∧ (r5.toInt = 0 → Q (-2) σ6))) p1 σ4) ∧ (r3.toInt = 0 → b_X9size_20 Q σ4))) p2 0 2 σ2))) p1 σ
theorem dX9_size_0 : decode cX9_size 0 = .ok (.aload_n 0, 1) := by decide +kernel
theorem dX9_size_1 : decode cX9_size 1 = .ok (.getfield 12, 3) := by decide +kernel
theorem dX9_size_4 : decode cX9_size 4 = .ok (.iload_n 1, 1) := by decide +kernel
theorem dX9_size_5 : decode cX9_size 5 = .ok (.invokevirtual 103, 3) := by decide +kernel
theorem dX9_size_8 : decode cX9_size 8 = .ok (.ifCond .eq 12, 3) := by decide +kernel
theorem dX9_size_11 : decode cX9_size 11 = .ok (.iload_n 2, 1) := by decide +kernel
theorem dX9_size_12 : decode cX9_size 12 = .ok (.iconst 0, 1) := by decide +kernel
theorem dX9_size_13 : decode cX9_size 13 = .ok (.iconst 2, 1) := by decide +kernel
theorem dX9_size_14 : decode cX9_size 14 = .ok (.invokestatic 88, 3) := by decide +kernel
theorem dX9_size_17 : decode cX9_size 17 = .ok (.ifCond .ne 5, 3) := by decide +kernel
theorem dX9_size_22 : decode cX9_size 22 = .ok (.aload_n 0, 1) := by decide +kernel
theorem dX9_size_23 : decode cX9_size 23 = .ok (.getfield 12, 3) := by decide +kernel
theorem dX9_size_26 : decode cX9_size 26 = .ok (.iload_n 1, 1) := by decide +kernel
theorem dX9_size_27 : decode cX9_size 27 = .ok (.invokevirtual 122, 3) := by decide +kernel
theorem dX9_size_30 : decode cX9_size 30 = .ok (.ifCond .ne 6, 3) := by decide +kernel
theorem dX9_size_36 : decode cX9_size 36 = .ok (.aload_n 0, 1) := by decide +kernel
theorem dX9_size_37 : decode cX9_size 37 = .ok (.getfield 12, 3) := by decide +kernel
theorem dX9_size_40 : decode cX9_size 40 = .ok (.getfield 125, 3) := by decide +kernel
theorem dX9_size_43 : decode cX9_size 43 = .ok (.iload_n 1, 1) := by decide +kernel
theorem dX9_size_44 : decode cX9_size 44 = .ok (.iaload, 1) := by decide +kernel
theorem dX9_size_45 : decode cX9_size 45 = .ok (.istore_n 3, 1) := by decide +kernel
theorem dX9_size_46 : decode cX9_size 46 = .ok (.aload_n 0, 1) := by decide +kernel
theorem dX9_size_47 : decode cX9_size 47 = .ok (.getfield 12, 3) := by decide +kernel
theorem dX9_size_50 : decode cX9_size 50 = .ok (.getfield 125, 3) := by decide +kernel
theorem dX9_size_53 : decode cX9_size 53 = .ok (.iload_n 1, 1) := by decide +kernel
theorem dX9_size_54 : decode cX9_size 54 = .ok (.iload_n 2, 1) := by decide +kernel
theorem dX9_size_55 : decode cX9_size 55 = .ok (.iastore, 1) := by decide +kernel
theorem dX9_size_56 : decode cX9_size 56 = .ok (.aload_n 0, 1) := by decide +kernel
theorem dX9_size_57 : decode cX9_size 57 = .ok (.invokevirtual 96, 3) := by decide +kernel
theorem dX9_size_60 : decode cX9_size 60 = .ok (.iload_n 3, 1) := by decide +kernel
theorem dX9_size_61 : decode cX9_size 61 = .ok (.ireturn, 1) := by decide +kernel
theorem dX9_size_33 : decode cX9_size 33 = .ok (.bipush (-2), 2) := by decide +kernel
theorem dX9_size_35 : decode cX9_size 35 = .ok (.ireturn, 1) := by decide +kernel
theorem dX9_size_20 : decode cX9_size 20 = .ok (.iconst (-1), 1) := by decide +kernel
theorem dX9_size_21 : decode cX9_size 21 = .ok (.ireturn, 1) := by decide +kernel
def wo_X9size : List Cond := [.code yX9_size cX9_size 4 (some .int), .methodLink RX9 103 yX1_has, .instanceMethod yX1_has, .selects RX1 yX1_has yX1_has, .initialized RX1, .methodLink RX9 88 yX9_within, .static yX9_within, .initialized RX9, .methodLink RX9 122 yX1_hasSize, .instanceMethod yX1_hasSize, .selects RX1 yX1_hasSize yX1_hasSize, .methodLink RX9 96 yX9_forget, .instanceMethod yX9_forget, .selects RX9 yX9_forget yX9_forget]
def wr_X9size : List Cond := (wfC ++ (w_X1has ++ (w_X9within ++ (w_X1hasSize ++ (w_X9forget ++ ([]))))))
def w_X9size : List Cond := wo_X9size ++ wr_X9size
theorem wg_X9size : GW w_X9size := GW_app (GW_of (by decide +kernel)) (GW_app (wg_fC) (GW_app (wg_X1has) (GW_app (wg_X9within) (GW_app (wg_X1hasSize) (GW_app (wg_X9forget) (GW_nil))))))
theorem in_X9size : ∀ w ∈ wfC, w ∈ w_X9size := fun _ h => List.mem_append_right _ (List.mem_append_left _ h)
theorem g_X9size_X1has_103 : GoodIn w_X9size (wsV RX9 103 RX1 yX1_has w_X1has) := goodIn_app (gi_left (goodIn_of _ (by decide +kernel))) (fun w h => ⟨List.mem_append_right _ (List.mem_append_right _ (List.mem_append_left _ h)), wg_X1has w h⟩)
theorem g_X9size_X9within_88 : GoodIn w_X9size (va_wsS RX9 88 yX9_within w_X9within) := goodIn_app (gi_left (goodIn_of _ (by decide +kernel))) (fun w h => ⟨List.mem_append_right _ (List.mem_append_right _ (List.mem_append_right _ (List.mem_append_left _ h))), wg_X9within w h⟩)
theorem g_X9size_X1hasSize_122 : GoodIn w_X9size (wsV RX9 122 RX1 yX1_hasSize w_X1hasSize) := goodIn_app (gi_left (goodIn_of _ (by decide +kernel))) (fun w h => ⟨List.mem_append_right _ (List.mem_append_right _ (List.mem_append_right _ (List.mem_append_right _ (List.mem_append_left _ h)))), wg_X1hasSize w h⟩)
theorem g_X9size_X9forget_96 : GoodIn w_X9size (wsV RX9 96 RX9 yX9_forget w_X9forget) := goodIn_app (gi_left (goodIn_of _ (by decide +kernel))) (fun w h => ⟨List.mem_append_right _ (List.mem_append_right _ (List.mem_append_right _ (List.mem_append_right _ (List.mem_append_right _ (List.mem_append_left _ h))))), wg_X9forget w h⟩)
set_option maxHeartbeats 4000000 in
set_option maxRecDepth 100000 in
theorem ct_X9size (l : Launch) (E : gE) (B : Nat → Nat) (Q : Int32 → VS → Prop) (p1 : Int32) (p2 : Int32) (σ : VS) (hw : wp_X9size Q p1 p2 σ) : CtI l E yX9_size w_X9size (({ frames := 1, cells := 0, slots := 0, locals := 22 } : Room)) (wc E B σ) [.ref (B 0), .int p1, .int p2] (fun r w => ∃ σ' : VS, Q r σ' ∧ w = wc E B σ') := by
  refine VC_I (cc := cX9_size) (mL := 4) (rt := (some .int)) (lv0 := [(0, .ref (B 0)), (1, .int p1), (2, .int p2)]) rfl (by decide) rfl (Nat.le_of_ble_eq_true rfl) ?_
  intro p e s m below meth c A F
  replace F : Fx p s m _ meth c A E cX9_size 4 (some .int) RX9 w_X9size := F
  have J_20 : ∀ (σ : VS), b_X9size_20 Q σ → WB p l e (({ frames := 1, cells := 0, slots := 0, locals := 22 } : Room)) s m (#[.ref (B 0), .int p1, .int p2]) below meth c (MQ below (va_Qi (fun r w => ∃ σ' : VS, Q r σ' ∧ w = wc E B σ') (AftU E A) A) (#[.ref (B 0), .int p1, .int p2]) s (({ frames := 1, cells := 0, slots := 0, locals := 22 } : Room)).cells (({ frames := 1, cells := 0, slots := 0, locals := 22 } : Room)).slots A) A E (wc E B) 4 20 [] [] σ := by
    intro σ hw
    unfold b_X9size_20 at hw
    refine R_iconst F (-1) dX9_size_20 (by decide) ?_
    exact R_iret (Qc := Q) F rfl dX9_size_21 hw
  unfold wp_X9size at hw
  refine R_aload_n F dX9_size_0 rfl 0 rfl ?_
  refine gc_RX9_12_0 F in_X9size dX9_size_1 ?_
  refine R_iload_n F dX9_size_4 rfl 1 rfl ?_
  refine R_callI (As := [.int p1]) (C := RX1) (q0 := 1) (ci := 1) (N := 13) (T := TX1) (fs := cf_1 B) F (ct_X1has l E B _ p1 _ hw) (cwV 1 F.2.2.2.2.2.2.2.2.2.2 g_X9size_X1has_103 rfl rfl rfl (by decide +kernel) ⟨Nat.le_of_ble_eq_true rfl, Nat.le_of_ble_eq_true rfl⟩) ⟨rfl, rfl⟩ rfl (fun _ => rfl) rfl rfl (Nat.le_of_ble_eq_true rfl) dX9_size_5 (fun r1 σ2 hw => ?_)
  refine R_if_eq (tgt := 20) F dX9_size_8 (by decide) (fun hc => ?_) (fun hc => ?_)
  · replace hw := hw.1 hc
    exact R_sub [] rfl (J_20 σ2 hw)
  · replace hw := hw.2 hc
    refine R_iload_n F dX9_size_11 rfl 2 rfl ?_
    refine R_iconst F 0 dX9_size_12 (by decide) ?_
    refine R_iconst F 2 dX9_size_13 (by decide) ?_
    refine R_callIS (As := [.int p2, .int 0, .int 2]) (C := RX10) (q0 := 0) (ci := 10) (b := 0) (N := 69) (T := TX10) (fs := fun _ => []) F (ct_X9within l E B _ p2 0 2 _ hw) (va_cwS 3 F.2.2.2.2.2.2.2.2.2.2 g_X9size_X9within_88 rfl rfl rfl (by decide +kernel) ⟨Nat.le_of_ble_eq_true rfl, Nat.le_of_ble_eq_true rfl⟩) ⟨rfl, rfl⟩ rfl rfl (Nat.le_of_ble_eq_true rfl) dX9_size_14 (fun r3 σ4 hw => ?_)
    refine R_if_ne (tgt := 22) F dX9_size_17 (by decide) (fun hc => ?_) (fun hc => ?_)
    · replace hw := hw.1 hc
      refine R_aload_n F dX9_size_22 rfl 0 rfl ?_
      refine gc_RX9_12_0 F in_X9size dX9_size_23 ?_
      refine R_iload_n F dX9_size_26 rfl 1 rfl ?_
      refine R_callI (As := [.int p1]) (C := RX1) (q0 := 1) (ci := 1) (N := 13) (T := TX1) (fs := cf_1 B) F (ct_X1hasSize l E B _ p1 _ hw) (cwV 1 F.2.2.2.2.2.2.2.2.2.2 g_X9size_X1hasSize_122 rfl rfl rfl (by decide +kernel) ⟨Nat.le_of_ble_eq_true rfl, Nat.le_of_ble_eq_true rfl⟩) ⟨rfl, rfl⟩ rfl (fun _ => rfl) rfl rfl (Nat.le_of_ble_eq_true rfl) dX9_size_27 (fun r5 σ6 hw => ?_)
      refine R_if_ne (tgt := 36) F dX9_size_30 (by decide) (fun hc => ?_) (fun hc => ?_)
      · replace hw := hw.1 hc
        refine R_aload_n F dX9_size_36 rfl 0 rfl ?_
        refine gc_RX9_12_0 F in_X9size dX9_size_37 ?_
        refine gc_RX9_125_1 F in_X9size dX9_size_40 ?_
        refine R_iload_n F dX9_size_43 rfl 1 rfl ?_
        refine R_ldi F qc_14 dX9_size_44 hw.1 ?_
        replace hw := hw.2
        refine R_topi (fun x7 ex7 => ?_)
        replace hw := hw x7 ex7
        refine R_istore_n (lv' := [(3, .int x7), (0, .ref (B 0)), (1, .int p1), (2, .int p2)]) F dX9_size_45 rfl (by decide) rfl ?_
        refine R_aload_n F dX9_size_46 rfl 1 rfl ?_
        refine gc_RX9_12_0 F in_X9size dX9_size_47 ?_
        refine gc_RX9_125_1 F in_X9size dX9_size_50 ?_
        refine R_iload_n F dX9_size_53 rfl 2 rfl ?_
        refine R_iload_n F dX9_size_54 rfl 3 rfl ?_
        have hi := hw.1
        replace hw := hw.2
        refine R_sti F qc_14 uc_14 dX9_size_55 hi ?_
        refine R_aload_n F dX9_size_56 rfl 1 rfl ?_
        refine R_callV (As := []) (C := RX9) (q0 := 0) (ci := 9) (N := 12) (T := TX9) (fs := cf_0 B) F (ct_X9forget l E B _ _ hw) (cwV 0 F.2.2.2.2.2.2.2.2.2.2 g_X9size_X9forget_96 rfl rfl rfl (by decide +kernel) ⟨Nat.le_of_ble_eq_true rfl, Nat.le_of_ble_eq_true rfl⟩) ⟨rfl, rfl⟩ rfl (fun _ => rfl) rfl rfl (Nat.le_of_ble_eq_true rfl) dX9_size_57 (fun σ9 hw => ?_)
        refine R_iload_n F dX9_size_60 rfl 0 rfl ?_
        exact R_iret (Qc := Q) F rfl dX9_size_61 hw
      · replace hw := hw.2 hc
        refine R_bipush F (-2) dX9_size_33 (by decide) ?_
        exact R_iret (Qc := Q) F rfl dX9_size_35 hw
    · replace hw := hw.2 hc
      exact R_sub [] rfl (J_20 σ4 hw)
def b_X9port_42 (Q : Int32 → VS → Prop) (σ : VS) : Prop := Q (-1) σ
def wp_X9port (Q : Int32 → VS → Prop) (p1 : Int32) (p2 : Int32) (p3 : Int32) (p4 : Int32) (σ : VS) : Prop := wp_X1has (fun (r1 : Int32) (σ2 : VS) => ((r1.toInt = 0 → b_X9port_42 Q σ2) ∧ (r1.toInt ≠ 0 → wp_X9within (fun (r3 : Int32) (σ4 : VS) => ((r3.toInt = 0 → b_X9port_42 Q σ4) ∧ (r3.toInt ≠ 0 → wp_X9within (fun (r5 : Int32) (σ6 : VS) => ((r5.toInt = 0 → b_X9port_42 Q σ6) ∧ (r5.toInt ≠ 0 → wp_X9within (fun (r7 : Int32) (σ8 : VS) => ((r7.toInt ≠ 0 → (In p1 50 ∧ (((rd σ8 11 p1).toInt = 0 → (In p1 50 ∧ (In p1 50 ∧ (In p1 50 ∧ wp_X9forget (fun (σ10 : VS) => Q 0 σ10) (sa (sa (sa σ8 22 p1 p2) 23 p1 p3) 24 p1 p4))))) ∧ ((rd σ8 11 p1).toInt ≠ 0 → Q (-2) σ8)))) ∧ (r7.toInt = 0 → b_X9port_42 Q σ8))) p4 0 100000 σ6))) p3 0 100000 σ4))) p2 0 100000 σ2))) p1 σ
theorem dX9_port_0 : decode cX9_port 0 = .ok (.aload_n 0, 1) := by decide +kernel
theorem dX9_port_1 : decode cX9_port 1 = .ok (.getfield 12, 3) := by decide +kernel
theorem dX9_port_4 : decode cX9_port 4 = .ok (.iload_n 1, 1) := by decide +kernel
theorem dX9_port_5 : decode cX9_port 5 = .ok (.invokevirtual 103, 3) := by decide +kernel
theorem dX9_port_8 : decode cX9_port 8 = .ok (.ifCond .eq 34, 3) := by decide +kernel
theorem dX9_port_11 : decode cX9_port 11 = .ok (.iload_n 2, 1) := by decide +kernel
theorem dX9_port_12 : decode cX9_port 12 = .ok (.iconst 0, 1) := by decide +kernel
theorem dX9_port_13 : decode cX9_port 13 = .ok (.ldc 128, 2) := by decide +kernel
theorem dX9_port_15 : decode cX9_port 15 = .ok (.invokestatic 88, 3) := by decide +kernel
theorem dX9_port_18 : decode cX9_port 18 = .ok (.ifCond .eq 24, 3) := by decide +kernel
theorem dX9_port_21 : decode cX9_port 21 = .ok (.iload_n 3, 1) := by decide +kernel
theorem dX9_port_22 : decode cX9_port 22 = .ok (.iconst 0, 1) := by decide +kernel
theorem dX9_port_23 : decode cX9_port 23 = .ok (.ldc 128, 2) := by decide +kernel
theorem dX9_port_25 : decode cX9_port 25 = .ok (.invokestatic 88, 3) := by decide +kernel
theorem dX9_port_28 : decode cX9_port 28 = .ok (.ifCond .eq 14, 3) := by decide +kernel
theorem dX9_port_31 : decode cX9_port 31 = .ok (.iload 4, 2) := by decide +kernel
theorem dX9_port_33 : decode cX9_port 33 = .ok (.iconst 0, 1) := by decide +kernel
theorem dX9_port_34 : decode cX9_port 34 = .ok (.ldc 128, 2) := by decide +kernel
theorem dX9_port_36 : decode cX9_port 36 = .ok (.invokestatic 88, 3) := by decide +kernel
theorem dX9_port_39 : decode cX9_port 39 = .ok (.ifCond .ne 5, 3) := by decide +kernel
theorem dX9_port_44 : decode cX9_port 44 = .ok (.aload_n 0, 1) := by decide +kernel
theorem dX9_port_45 : decode cX9_port 45 = .ok (.getfield 12, 3) := by decide +kernel
theorem dX9_port_48 : decode cX9_port 48 = .ok (.getfield 108, 3) := by decide +kernel
theorem dX9_port_51 : decode cX9_port 51 = .ok (.iload_n 1, 1) := by decide +kernel
theorem dX9_port_52 : decode cX9_port 52 = .ok (.iaload, 1) := by decide +kernel
theorem dX9_port_53 : decode cX9_port 53 = .ok (.ifCond .eq 6, 3) := by decide +kernel
theorem dX9_port_59 : decode cX9_port 59 = .ok (.aload_n 0, 1) := by decide +kernel
theorem dX9_port_60 : decode cX9_port 60 = .ok (.getfield 19, 3) := by decide +kernel
theorem dX9_port_63 : decode cX9_port 63 = .ok (.getfield 129, 3) := by decide +kernel
theorem dX9_port_66 : decode cX9_port 66 = .ok (.iload_n 1, 1) := by decide +kernel
theorem dX9_port_67 : decode cX9_port 67 = .ok (.iload_n 2, 1) := by decide +kernel
theorem dX9_port_68 : decode cX9_port 68 = .ok (.iastore, 1) := by decide +kernel
theorem dX9_port_69 : decode cX9_port 69 = .ok (.aload_n 0, 1) := by decide +kernel
theorem dX9_port_70 : decode cX9_port 70 = .ok (.getfield 19, 3) := by decide +kernel
theorem dX9_port_73 : decode cX9_port 73 = .ok (.getfield 132, 3) := by decide +kernel
theorem dX9_port_76 : decode cX9_port 76 = .ok (.iload_n 1, 1) := by decide +kernel
theorem dX9_port_77 : decode cX9_port 77 = .ok (.iload_n 3, 1) := by decide +kernel
theorem dX9_port_78 : decode cX9_port 78 = .ok (.iastore, 1) := by decide +kernel
theorem dX9_port_79 : decode cX9_port 79 = .ok (.aload_n 0, 1) := by decide +kernel
theorem dX9_port_80 : decode cX9_port 80 = .ok (.getfield 19, 3) := by decide +kernel
theorem dX9_port_83 : decode cX9_port 83 = .ok (.getfield 135, 3) := by decide +kernel
theorem dX9_port_86 : decode cX9_port 86 = .ok (.iload_n 1, 1) := by decide +kernel
theorem dX9_port_87 : decode cX9_port 87 = .ok (.iload 4, 2) := by decide +kernel
theorem dX9_port_89 : decode cX9_port 89 = .ok (.iastore, 1) := by decide +kernel
theorem dX9_port_90 : decode cX9_port 90 = .ok (.aload_n 0, 1) := by decide +kernel
theorem dX9_port_91 : decode cX9_port 91 = .ok (.invokevirtual 96, 3) := by decide +kernel
theorem dX9_port_94 : decode cX9_port 94 = .ok (.iconst 0, 1) := by decide +kernel
theorem dX9_port_95 : decode cX9_port 95 = .ok (.ireturn, 1) := by decide +kernel
theorem dX9_port_56 : decode cX9_port 56 = .ok (.bipush (-2), 2) := by decide +kernel
theorem dX9_port_58 : decode cX9_port 58 = .ok (.ireturn, 1) := by decide +kernel
theorem dX9_port_42 : decode cX9_port 42 = .ok (.iconst (-1), 1) := by decide +kernel
theorem dX9_port_43 : decode cX9_port 43 = .ok (.ireturn, 1) := by decide +kernel
def wo_X9port : List Cond := [.code yX9_port cX9_port 5 (some .int), .methodLink RX9 103 yX1_has, .instanceMethod yX1_has, .selects RX1 yX1_has yX1_has, .initialized RX1, .constant RX9 128 100000, .methodLink RX9 88 yX9_within, .static yX9_within, .initialized RX9, .methodLink RX9 96 yX9_forget, .instanceMethod yX9_forget, .selects RX9 yX9_forget yX9_forget]
def wr_X9port : List Cond := (wfC ++ (w_X1has ++ (w_X9within ++ (w_X9forget ++ ([])))))
def w_X9port : List Cond := wo_X9port ++ wr_X9port
theorem wg_X9port : GW w_X9port := GW_app (GW_of (by decide +kernel)) (GW_app (wg_fC) (GW_app (wg_X1has) (GW_app (wg_X9within) (GW_app (wg_X9forget) (GW_nil)))))
theorem in_X9port : ∀ w ∈ wfC, w ∈ w_X9port := fun _ h => List.mem_append_right _ (List.mem_append_left _ h)
theorem g_X9port_X1has_103 : GoodIn w_X9port (wsV RX9 103 RX1 yX1_has w_X1has) := goodIn_app (gi_left (goodIn_of _ (by decide +kernel))) (fun w h => ⟨List.mem_append_right _ (List.mem_append_right _ (List.mem_append_left _ h)), wg_X1has w h⟩)
theorem g_X9port_X9within_88 : GoodIn w_X9port (va_wsS RX9 88 yX9_within w_X9within) := goodIn_app (gi_left (goodIn_of _ (by decide +kernel))) (fun w h => ⟨List.mem_append_right _ (List.mem_append_right _ (List.mem_append_right _ (List.mem_append_left _ h))), wg_X9within w h⟩)
theorem g_X9port_X9forget_96 : GoodIn w_X9port (wsV RX9 96 RX9 yX9_forget w_X9forget) := goodIn_app (gi_left (goodIn_of _ (by decide +kernel))) (fun w h => ⟨List.mem_append_right _ (List.mem_append_right _ (List.mem_append_right _ (List.mem_append_right _ (List.mem_append_left _ h)))), wg_X9forget w h⟩)
set_option maxHeartbeats 4000000 in
set_option maxRecDepth 100000 in
theorem ct_X9port (l : Launch) (E : gE) (B : Nat → Nat) (Q : Int32 → VS → Prop) (p1 : Int32) (p2 : Int32) (p3 : Int32) (p4 : Int32) (σ : VS) (hw : wp_X9port Q p1 p2 p3 p4 σ) : CtI l E yX9_port w_X9port (({ frames := 1, cells := 0, slots := 0, locals := 22 } : Room)) (wc E B σ) [.ref (B 0), .int p1, .int p2, .int p3, .int p4] (fun r w => ∃ σ' : VS, Q r σ' ∧ w = wc E B σ') := by
  refine VC_I (cc := cX9_port) (mL := 5) (rt := (some .int)) (lv0 := [(0, .ref (B 0)), (1, .int p1), (2, .int p2), (3, .int p3), (4, .int p4)]) rfl (by decide) rfl (Nat.le_of_ble_eq_true rfl) ?_
  intro p e s m below meth c A F
  replace F : Fx p s m _ meth c A E cX9_port 5 (some .int) RX9 w_X9port := F
  have J_42 : ∀ (σ : VS), b_X9port_42 Q σ → WB p l e (({ frames := 1, cells := 0, slots := 0, locals := 22 } : Room)) s m (#[.ref (B 0), .int p1, .int p2, .int p3, .int p4]) below meth c (MQ below (va_Qi (fun r w => ∃ σ' : VS, Q r σ' ∧ w = wc E B σ') (AftU E A) A) (#[.ref (B 0), .int p1, .int p2, .int p3, .int p4]) s (({ frames := 1, cells := 0, slots := 0, locals := 22 } : Room)).cells (({ frames := 1, cells := 0, slots := 0, locals := 22 } : Room)).slots A) A E (wc E B) 5 42 [] [] σ := by
    intro σ hw
    unfold b_X9port_42 at hw
    refine R_iconst F (-1) dX9_port_42 (by decide) ?_
    exact R_iret (Qc := Q) F rfl dX9_port_43 hw
  unfold wp_X9port at hw
  refine R_aload_n F dX9_port_0 rfl 0 rfl ?_
  refine gc_RX9_12_0 F in_X9port dX9_port_1 ?_
  refine R_iload_n F dX9_port_4 rfl 1 rfl ?_
  refine R_callI (As := [.int p1]) (C := RX1) (q0 := 1) (ci := 1) (N := 13) (T := TX1) (fs := cf_1 B) F (ct_X1has l E B _ p1 _ hw) (cwV 1 F.2.2.2.2.2.2.2.2.2.2 g_X9port_X1has_103 rfl rfl rfl (by decide +kernel) ⟨Nat.le_of_ble_eq_true rfl, Nat.le_of_ble_eq_true rfl⟩) ⟨rfl, rfl⟩ rfl (fun _ => rfl) rfl rfl (Nat.le_of_ble_eq_true rfl) dX9_port_5 (fun r1 σ2 hw => ?_)
  refine R_if_eq (tgt := 42) F dX9_port_8 (by decide) (fun hc => ?_) (fun hc => ?_)
  · replace hw := hw.1 hc
    exact R_sub [] rfl (J_42 σ2 hw)
  · replace hw := hw.2 hc
    refine R_iload_n F dX9_port_11 rfl 2 rfl ?_
    refine R_iconst F 0 dX9_port_12 (by decide) ?_
    refine R_ldc F 100000 (List.mem_append_left _ (show Cond.constant RX9 128 100000 ∈ wo_X9port by decide +kernel)) dX9_port_13 ?_
    refine R_callIS (As := [.int p2, .int 0, .int 100000]) (C := RX10) (q0 := 0) (ci := 10) (b := 0) (N := 69) (T := TX10) (fs := fun _ => []) F (ct_X9within l E B _ p2 0 100000 _ hw) (va_cwS 3 F.2.2.2.2.2.2.2.2.2.2 g_X9port_X9within_88 rfl rfl rfl (by decide +kernel) ⟨Nat.le_of_ble_eq_true rfl, Nat.le_of_ble_eq_true rfl⟩) ⟨rfl, rfl⟩ rfl rfl (Nat.le_of_ble_eq_true rfl) dX9_port_15 (fun r3 σ4 hw => ?_)
    refine R_if_eq (tgt := 42) F dX9_port_18 (by decide) (fun hc => ?_) (fun hc => ?_)
    · replace hw := hw.1 hc
      exact R_sub [] rfl (J_42 σ4 hw)
    · replace hw := hw.2 hc
      refine R_iload_n F dX9_port_21 rfl 3 rfl ?_
      refine R_iconst F 0 dX9_port_22 (by decide) ?_
      refine R_ldc F 100000 (List.mem_append_left _ (show Cond.constant RX9 128 100000 ∈ wo_X9port by decide +kernel)) dX9_port_23 ?_
      refine R_callIS (As := [.int p3, .int 0, .int 100000]) (C := RX10) (q0 := 0) (ci := 10) (b := 0) (N := 69) (T := TX10) (fs := fun _ => []) F (ct_X9within l E B _ p3 0 100000 _ hw) (va_cwS 3 F.2.2.2.2.2.2.2.2.2.2 g_X9port_X9within_88 rfl rfl rfl (by decide +kernel) ⟨Nat.le_of_ble_eq_true rfl, Nat.le_of_ble_eq_true rfl⟩) ⟨rfl, rfl⟩ rfl rfl (Nat.le_of_ble_eq_true rfl) dX9_port_25 (fun r5 σ6 hw => ?_)
      refine R_if_eq (tgt := 42) F dX9_port_28 (by decide) (fun hc => ?_) (fun hc => ?_)
      · replace hw := hw.1 hc
        exact R_sub [] rfl (J_42 σ6 hw)
      · replace hw := hw.2 hc
        refine R_iload F dX9_port_31 4 rfl ?_
        refine R_iconst F 0 dX9_port_33 (by decide) ?_
        refine R_ldc F 100000 (List.mem_append_left _ (show Cond.constant RX9 128 100000 ∈ wo_X9port by decide +kernel)) dX9_port_34 ?_
        refine R_callIS (As := [.int p4, .int 0, .int 100000]) (C := RX10) (q0 := 0) (ci := 10) (b := 0) (N := 69) (T := TX10) (fs := fun _ => []) F (ct_X9within l E B _ p4 0 100000 _ hw) (va_cwS 3 F.2.2.2.2.2.2.2.2.2.2 g_X9port_X9within_88 rfl rfl rfl (by decide +kernel) ⟨Nat.le_of_ble_eq_true rfl, Nat.le_of_ble_eq_true rfl⟩) ⟨rfl, rfl⟩ rfl rfl (Nat.le_of_ble_eq_true rfl) dX9_port_36 (fun r7 σ8 hw => ?_)
        refine R_if_ne (tgt := 44) F dX9_port_39 (by decide) (fun hc => ?_) (fun hc => ?_)
        · replace hw := hw.1 hc
          refine R_aload_n F dX9_port_44 rfl 0 rfl ?_
          refine gc_RX9_12_0 F in_X9port dX9_port_45 ?_
          refine gc_RX9_108_1 F in_X9port dX9_port_48 ?_
          refine R_iload_n F dX9_port_51 rfl 1 rfl ?_
          refine R_ldi F qc_11 dX9_port_52 hw.1 ?_
          replace hw := hw.2
          refine R_if_eq (tgt := 59) F dX9_port_53 (by decide) (fun hc => ?_) (fun hc => ?_)
          · replace hw := hw.1 hc
            refine R_aload_n F dX9_port_59 rfl 0 rfl ?_
            refine gc_RX9_19_0 F in_X9port dX9_port_60 ?_
            refine gc_RX9_129_2 F in_X9port dX9_port_63 ?_
            refine R_iload_n F dX9_port_66 rfl 1 rfl ?_
            refine R_iload_n F dX9_port_67 rfl 2 rfl ?_
            have hi := hw.1
            replace hw := hw.2
            refine R_sti F qc_22 uc_22 dX9_port_68 hi ?_
            refine R_aload_n F dX9_port_69 rfl 0 rfl ?_
            refine gc_RX9_19_0 F in_X9port dX9_port_70 ?_
            refine gc_RX9_132_2 F in_X9port dX9_port_73 ?_
            refine R_iload_n F dX9_port_76 rfl 1 rfl ?_
            refine R_iload_n F dX9_port_77 rfl 3 rfl ?_
            have hi := hw.1
            replace hw := hw.2
            refine R_sti F qc_23 uc_23 dX9_port_78 hi ?_
            refine R_aload_n F dX9_port_79 rfl 0 rfl ?_
            refine gc_RX9_19_0 F in_X9port dX9_port_80 ?_
            refine gc_RX9_135_2 F in_X9port dX9_port_83 ?_
            refine R_iload_n F dX9_port_86 rfl 1 rfl ?_
            refine R_iload F dX9_port_87 4 rfl ?_
            have hi := hw.1
            replace hw := hw.2
            refine R_sti F qc_24 uc_24 dX9_port_89 hi ?_
            refine R_aload_n F dX9_port_90 rfl 0 rfl ?_
            refine R_callV (As := []) (C := RX9) (q0 := 0) (ci := 9) (N := 12) (T := TX9) (fs := cf_0 B) F (ct_X9forget l E B _ _ hw) (cwV 0 F.2.2.2.2.2.2.2.2.2.2 g_X9port_X9forget_96 rfl rfl rfl (by decide +kernel) ⟨Nat.le_of_ble_eq_true rfl, Nat.le_of_ble_eq_true rfl⟩) ⟨rfl, rfl⟩ rfl (fun _ => rfl) rfl rfl (Nat.le_of_ble_eq_true rfl) dX9_port_91 (fun σ10 hw => ?_)
            refine R_iconst F 0 dX9_port_94 (by decide) ?_
            exact R_iret (Qc := Q) F rfl dX9_port_95 hw
          · replace hw := hw.2 hc
            refine R_bipush F (-2) dX9_port_56 (by decide) ?_
            exact R_iret (Qc := Q) F rfl dX9_port_58 hw
        · replace hw := hw.2 hc
          exact R_sub [] rfl (J_42 σ8 hw)
def b_X9target_71 (Q : Int32 → VS → Prop) (l1 : Int32) (l2 : Int32) (l3 : Int32) (l4 : Int32) (σ : VS) : Prop := wp_X1isTarget (fun (r9 : Int32) (σ10 : VS) => ((r9.toInt ≠ 0 → (In l1 50 ∧ (In l1 50 ∧ (In l1 50 ∧ wp_X9forget (fun (σ12 : VS) => Q 0 σ12) (sa (sa (sa σ10 25 l1 l2) 26 l1 l3) 27 l1 l4))))) ∧ (r9.toInt = 0 → Q (-2) σ10))) l1 σ
def b_X9target_49 (Q : Int32 → VS → Prop) (σ : VS) : Prop := Q (-1) σ
def wp_X9target (Q : Int32 → VS → Prop) (p1 : Int32) (p2 : Int32) (p3 : Int32) (p4 : Int32) (σ : VS) : Prop := wp_X1has (fun (r1 : Int32) (σ2 : VS) => ((r1.toInt = 0 → b_X9target_49 Q σ2) ∧ (r1.toInt ≠ 0 → wp_X0hasOrRoot (fun (r3 : Int32) (σ4 : VS) => ((r3.toInt = 0 → b_X9target_49 Q σ4) ∧ (r3.toInt ≠ 0 → wp_X9within (fun (r5 : Int32) (σ6 : VS) => ((r5.toInt = 0 → b_X9target_49 Q σ6) ∧ (r5.toInt ≠ 0 → wp_X9within (fun (r7 : Int32) (σ8 : VS) => ((r7.toInt ≠ 0 → (In p1 50 ∧ (((rd σ8 11 p1).toInt ≠ 5 → b_X9target_71 Q p1 p2 p3 p4 σ8) ∧ ((rd σ8 11 p1).toInt = 5 → ((p2.toInt = (-1) → b_X9target_71 Q p1 p2 p3 p4 σ8) ∧ (p2.toInt ≠ (-1) → Q (-1) σ8)))))) ∧ (r7.toInt = 0 → b_X9target_49 Q σ8))) p4 (-10000) 10000 σ6))) p3 (-10000) 10000 σ4))) p2 σ2))) p1 σ
theorem dX9_target_0 : decode cX9_target 0 = .ok (.aload_n 0, 1) := by decide +kernel
theorem dX9_target_1 : decode cX9_target 1 = .ok (.getfield 12, 3) := by decide +kernel
theorem dX9_target_4 : decode cX9_target 4 = .ok (.iload_n 1, 1) := by decide +kernel
theorem dX9_target_5 : decode cX9_target 5 = .ok (.invokevirtual 103, 3) := by decide +kernel
theorem dX9_target_8 : decode cX9_target 8 = .ok (.ifCond .eq 41, 3) := by decide +kernel
theorem dX9_target_11 : decode cX9_target 11 = .ok (.aload_n 0, 1) := by decide +kernel
theorem dX9_target_12 : decode cX9_target 12 = .ok (.getfield 26, 3) := by decide +kernel
theorem dX9_target_15 : decode cX9_target 15 = .ok (.iload_n 2, 1) := by decide +kernel
theorem dX9_target_16 : decode cX9_target 16 = .ok (.invokevirtual 138, 3) := by decide +kernel
theorem dX9_target_19 : decode cX9_target 19 = .ok (.ifCond .eq 30, 3) := by decide +kernel
theorem dX9_target_22 : decode cX9_target 22 = .ok (.iload_n 3, 1) := by decide +kernel
theorem dX9_target_23 : decode cX9_target 23 = .ok (.sipush (-10000), 3) := by decide +kernel
theorem dX9_target_26 : decode cX9_target 26 = .ok (.sipush 10000, 3) := by decide +kernel
theorem dX9_target_29 : decode cX9_target 29 = .ok (.invokestatic 88, 3) := by decide +kernel
theorem dX9_target_32 : decode cX9_target 32 = .ok (.ifCond .eq 17, 3) := by decide +kernel
theorem dX9_target_35 : decode cX9_target 35 = .ok (.iload 4, 2) := by decide +kernel
theorem dX9_target_37 : decode cX9_target 37 = .ok (.sipush (-10000), 3) := by decide +kernel
theorem dX9_target_40 : decode cX9_target 40 = .ok (.sipush 10000, 3) := by decide +kernel
theorem dX9_target_43 : decode cX9_target 43 = .ok (.invokestatic 88, 3) := by decide +kernel
theorem dX9_target_46 : decode cX9_target 46 = .ok (.ifCond .ne 5, 3) := by decide +kernel
theorem dX9_target_51 : decode cX9_target 51 = .ok (.aload_n 0, 1) := by decide +kernel
theorem dX9_target_52 : decode cX9_target 52 = .ok (.getfield 12, 3) := by decide +kernel
theorem dX9_target_55 : decode cX9_target 55 = .ok (.getfield 108, 3) := by decide +kernel
theorem dX9_target_58 : decode cX9_target 58 = .ok (.iload_n 1, 1) := by decide +kernel
theorem dX9_target_59 : decode cX9_target 59 = .ok (.iaload, 1) := by decide +kernel
theorem dX9_target_60 : decode cX9_target 60 = .ok (.iconst 5, 1) := by decide +kernel
theorem dX9_target_61 : decode cX9_target 61 = .ok (.if_icmp .ne 10, 3) := by decide +kernel
theorem dX9_target_64 : decode cX9_target 64 = .ok (.iload_n 2, 1) := by decide +kernel
theorem dX9_target_65 : decode cX9_target 65 = .ok (.iconst (-1), 1) := by decide +kernel
theorem dX9_target_66 : decode cX9_target 66 = .ok (.if_icmp .eq 5, 3) := by decide +kernel
theorem dX9_target_69 : decode cX9_target 69 = .ok (.iconst (-1), 1) := by decide +kernel
theorem dX9_target_70 : decode cX9_target 70 = .ok (.ireturn, 1) := by decide +kernel
theorem dX9_target_49 : decode cX9_target 49 = .ok (.iconst (-1), 1) := by decide +kernel
theorem dX9_target_50 : decode cX9_target 50 = .ok (.ireturn, 1) := by decide +kernel
theorem dX9_target_71 : decode cX9_target 71 = .ok (.aload_n 0, 1) := by decide +kernel
theorem dX9_target_72 : decode cX9_target 72 = .ok (.getfield 12, 3) := by decide +kernel
theorem dX9_target_75 : decode cX9_target 75 = .ok (.iload_n 1, 1) := by decide +kernel
theorem dX9_target_76 : decode cX9_target 76 = .ok (.invokevirtual 141, 3) := by decide +kernel
theorem dX9_target_79 : decode cX9_target 79 = .ok (.ifCond .ne 6, 3) := by decide +kernel
theorem dX9_target_85 : decode cX9_target 85 = .ok (.aload_n 0, 1) := by decide +kernel
theorem dX9_target_86 : decode cX9_target 86 = .ok (.getfield 19, 3) := by decide +kernel
theorem dX9_target_89 : decode cX9_target 89 = .ok (.getfield 144, 3) := by decide +kernel
theorem dX9_target_92 : decode cX9_target 92 = .ok (.iload_n 1, 1) := by decide +kernel
theorem dX9_target_93 : decode cX9_target 93 = .ok (.iload_n 2, 1) := by decide +kernel
theorem dX9_target_94 : decode cX9_target 94 = .ok (.iastore, 1) := by decide +kernel
theorem dX9_target_95 : decode cX9_target 95 = .ok (.aload_n 0, 1) := by decide +kernel
theorem dX9_target_96 : decode cX9_target 96 = .ok (.getfield 19, 3) := by decide +kernel
theorem dX9_target_99 : decode cX9_target 99 = .ok (.getfield 147, 3) := by decide +kernel
theorem dX9_target_102 : decode cX9_target 102 = .ok (.iload_n 1, 1) := by decide +kernel
theorem dX9_target_103 : decode cX9_target 103 = .ok (.iload_n 3, 1) := by decide +kernel
theorem dX9_target_104 : decode cX9_target 104 = .ok (.iastore, 1) := by decide +kernel
theorem dX9_target_105 : decode cX9_target 105 = .ok (.aload_n 0, 1) := by decide +kernel
theorem dX9_target_106 : decode cX9_target 106 = .ok (.getfield 19, 3) := by decide +kernel
theorem dX9_target_109 : decode cX9_target 109 = .ok (.getfield 150, 3) := by decide +kernel
theorem dX9_target_112 : decode cX9_target 112 = .ok (.iload_n 1, 1) := by decide +kernel
theorem dX9_target_113 : decode cX9_target 113 = .ok (.iload 4, 2) := by decide +kernel
theorem dX9_target_115 : decode cX9_target 115 = .ok (.iastore, 1) := by decide +kernel
theorem dX9_target_116 : decode cX9_target 116 = .ok (.aload_n 0, 1) := by decide +kernel
theorem dX9_target_117 : decode cX9_target 117 = .ok (.invokevirtual 96, 3) := by decide +kernel
theorem dX9_target_120 : decode cX9_target 120 = .ok (.iconst 0, 1) := by decide +kernel
theorem dX9_target_121 : decode cX9_target 121 = .ok (.ireturn, 1) := by decide +kernel
theorem dX9_target_82 : decode cX9_target 82 = .ok (.bipush (-2), 2) := by decide +kernel
theorem dX9_target_84 : decode cX9_target 84 = .ok (.ireturn, 1) := by decide +kernel
def wo_X9target : List Cond := [.code yX9_target cX9_target 5 (some .int), .methodLink RX9 103 yX1_has, .instanceMethod yX1_has, .selects RX1 yX1_has yX1_has, .initialized RX1, .methodLink RX9 138 yX0_hasOrRoot, .instanceMethod yX0_hasOrRoot, .selects RX0 yX0_hasOrRoot yX0_hasOrRoot, .initialized RX0, .methodLink RX9 88 yX9_within, .static yX9_within, .initialized RX9, .methodLink RX9 141 yX1_isTarget, .instanceMethod yX1_isTarget, .selects RX1 yX1_isTarget yX1_isTarget, .methodLink RX9 96 yX9_forget, .instanceMethod yX9_forget, .selects RX9 yX9_forget yX9_forget]
def wr_X9target : List Cond := (wfC ++ (w_X1has ++ (w_X0hasOrRoot ++ (w_X9within ++ (w_X1isTarget ++ (w_X9forget ++ ([])))))))
def w_X9target : List Cond := wo_X9target ++ wr_X9target
theorem wg_X9target : GW w_X9target := GW_app (GW_of (by decide +kernel)) (GW_app (wg_fC) (GW_app (wg_X1has) (GW_app (wg_X0hasOrRoot) (GW_app (wg_X9within) (GW_app (wg_X1isTarget) (GW_app (wg_X9forget) (GW_nil)))))))
theorem in_X9target : ∀ w ∈ wfC, w ∈ w_X9target := fun _ h => List.mem_append_right _ (List.mem_append_left _ h)
theorem g_X9target_X1has_103 : GoodIn w_X9target (wsV RX9 103 RX1 yX1_has w_X1has) := goodIn_app (gi_left (goodIn_of _ (by decide +kernel))) (fun w h => ⟨List.mem_append_right _ (List.mem_append_right _ (List.mem_append_left _ h)), wg_X1has w h⟩)
theorem g_X9target_X0hasOrRoot_138 : GoodIn w_X9target (wsV RX9 138 RX0 yX0_hasOrRoot w_X0hasOrRoot) := goodIn_app (gi_left (goodIn_of _ (by decide +kernel))) (fun w h => ⟨List.mem_append_right _ (List.mem_append_right _ (List.mem_append_right _ (List.mem_append_left _ h))), wg_X0hasOrRoot w h⟩)
theorem g_X9target_X9within_88 : GoodIn w_X9target (va_wsS RX9 88 yX9_within w_X9within) := goodIn_app (gi_left (goodIn_of _ (by decide +kernel))) (fun w h => ⟨List.mem_append_right _ (List.mem_append_right _ (List.mem_append_right _ (List.mem_append_right _ (List.mem_append_left _ h)))), wg_X9within w h⟩)
theorem g_X9target_X1isTarget_141 : GoodIn w_X9target (wsV RX9 141 RX1 yX1_isTarget w_X1isTarget) := goodIn_app (gi_left (goodIn_of _ (by decide +kernel))) (fun w h => ⟨List.mem_append_right _ (List.mem_append_right _ (List.mem_append_right _ (List.mem_append_right _ (List.mem_append_right _ (List.mem_append_left _ h))))), wg_X1isTarget w h⟩)
theorem g_X9target_X9forget_96 : GoodIn w_X9target (wsV RX9 96 RX9 yX9_forget w_X9forget) := goodIn_app (gi_left (goodIn_of _ (by decide +kernel))) (fun w h => ⟨List.mem_append_right _ (List.mem_append_right _ (List.mem_append_right _ (List.mem_append_right _ (List.mem_append_right _ (List.mem_append_right _ (List.mem_append_left _ h)))))), wg_X9forget w h⟩)
set_option maxHeartbeats 4000000 in
set_option maxRecDepth 100000 in
theorem ct_X9target (l : Launch) (E : gE) (B : Nat → Nat) (Q : Int32 → VS → Prop) (p1 : Int32) (p2 : Int32) (p3 : Int32) (p4 : Int32) (σ : VS) (hw : wp_X9target Q p1 p2 p3 p4 σ) : CtI l E yX9_target w_X9target (({ frames := 1, cells := 0, slots := 0, locals := 22 } : Room)) (wc E B σ) [.ref (B 0), .int p1, .int p2, .int p3, .int p4] (fun r w => ∃ σ' : VS, Q r σ' ∧ w = wc E B σ') := by
  refine VC_I (cc := cX9_target) (mL := 5) (rt := (some .int)) (lv0 := [(0, .ref (B 0)), (1, .int p1), (2, .int p2), (3, .int p3), (4, .int p4)]) rfl (by decide) rfl (Nat.le_of_ble_eq_true rfl) ?_
  intro p e s m below meth c A F
  replace F : Fx p s m _ meth c A E cX9_target 5 (some .int) RX9 w_X9target := F
  have J_71 : ∀ (l1 : Int32) (l2 : Int32) (l3 : Int32) (l4 : Int32) (σ : VS), b_X9target_71 Q l1 l2 l3 l4 σ → WB p l e (({ frames := 1, cells := 0, slots := 0, locals := 22 } : Room)) s m (#[.ref (B 0), .int p1, .int p2, .int p3, .int p4]) below meth c (MQ below (va_Qi (fun r w => ∃ σ' : VS, Q r σ' ∧ w = wc E B σ') (AftU E A) A) (#[.ref (B 0), .int p1, .int p2, .int p3, .int p4]) s (({ frames := 1, cells := 0, slots := 0, locals := 22 } : Room)).cells (({ frames := 1, cells := 0, slots := 0, locals := 22 } : Room)).slots A) A E (wc E B) 5 71 [(0, .ref (B 0)), (1, .int l1), (2, .int l2), (3, .int l3), (4, .int l4)] [] σ := by
    intro l1 l2 l3 l4 σ hw
    unfold b_X9target_71 at hw
    refine R_aload_n F dX9_target_71 rfl 0 rfl ?_
    refine gc_RX9_12_0 F in_X9target dX9_target_72 ?_
    refine R_iload_n F dX9_target_75 rfl 1 rfl ?_
    refine R_callI (As := [.int l1]) (C := RX1) (q0 := 1) (ci := 1) (N := 13) (T := TX1) (fs := cf_1 B) F (ct_X1isTarget l E B _ l1 _ hw) (cwV 1 F.2.2.2.2.2.2.2.2.2.2 g_X9target_X1isTarget_141 rfl rfl rfl (by decide +kernel) ⟨Nat.le_of_ble_eq_true rfl, Nat.le_of_ble_eq_true rfl⟩) ⟨rfl, rfl⟩ rfl (fun _ => rfl) rfl rfl (Nat.le_of_ble_eq_true rfl) dX9_target_76 (fun r9 σ10 hw => ?_)
    refine R_if_ne (tgt := 85) F dX9_target_79 (by decide) (fun hc => ?_) (fun hc => ?_)
    · replace hw := hw.1 hc
      refine R_aload_n F dX9_target_85 rfl 0 rfl ?_
      refine gc_RX9_19_0 F in_X9target dX9_target_86 ?_
      refine gc_RX9_144_2 F in_X9target dX9_target_89 ?_
      refine R_iload_n F dX9_target_92 rfl 1 rfl ?_
      refine R_iload_n F dX9_target_93 rfl 2 rfl ?_
      have hi := hw.1
      replace hw := hw.2
      refine R_sti F qc_25 uc_25 dX9_target_94 hi ?_
      refine R_aload_n F dX9_target_95 rfl 0 rfl ?_
      refine gc_RX9_19_0 F in_X9target dX9_target_96 ?_
      refine gc_RX9_147_2 F in_X9target dX9_target_99 ?_
      refine R_iload_n F dX9_target_102 rfl 1 rfl ?_
      refine R_iload_n F dX9_target_103 rfl 3 rfl ?_
      have hi := hw.1
      replace hw := hw.2
      refine R_sti F qc_26 uc_26 dX9_target_104 hi ?_
      refine R_aload_n F dX9_target_105 rfl 0 rfl ?_
      refine gc_RX9_19_0 F in_X9target dX9_target_106 ?_
      refine gc_RX9_150_2 F in_X9target dX9_target_109 ?_
      refine R_iload_n F dX9_target_112 rfl 1 rfl ?_
      refine R_iload F dX9_target_113 4 rfl ?_
      have hi := hw.1
      replace hw := hw.2
      refine R_sti F qc_27 uc_27 dX9_target_115 hi ?_
      refine R_aload_n F dX9_target_116 rfl 0 rfl ?_
      refine R_callV (As := []) (C := RX9) (q0 := 0) (ci := 9) (N := 12) (T := TX9) (fs := cf_0 B) F (ct_X9forget l E B _ _ hw) (cwV 0 F.2.2.2.2.2.2.2.2.2.2 g_X9target_X9forget_96 rfl rfl rfl (by decide +kernel) ⟨Nat.le_of_ble_eq_true rfl, Nat.le_of_ble_eq_true rfl⟩) ⟨rfl, rfl⟩ rfl (fun _ => rfl) rfl rfl (Nat.le_of_ble_eq_true rfl) dX9_target_117 (fun σ12 hw => ?_)
      refine R_iconst F 0 dX9_target_120 (by decide) ?_
      exact R_iret (Qc := Q) F rfl dX9_target_121 hw
    · replace hw := hw.2 hc
      refine R_bipush F (-2) dX9_target_82 (by decide) ?_
      exact R_iret (Qc := Q) F rfl dX9_target_84 hw
  have J_49 : ∀ (σ : VS), b_X9target_49 Q σ → WB p l e (({ frames := 1, cells := 0, slots := 0, locals := 22 } : Room)) s m (#[.ref (B 0), .int p1, .int p2, .int p3, .int p4]) below meth c (MQ below (va_Qi (fun r w => ∃ σ' : VS, Q r σ' ∧ w = wc E B σ') (AftU E A) A) (#[.ref (B 0), .int p1, .int p2, .int p3, .int p4]) s (({ frames := 1, cells := 0, slots := 0, locals := 22 } : Room)).cells (({ frames := 1, cells := 0, slots := 0, locals := 22 } : Room)).slots A) A E (wc E B) 5 49 [] [] σ := by
    intro σ hw
    unfold b_X9target_49 at hw
    refine R_iconst F (-1) dX9_target_49 (by decide) ?_
    exact R_iret (Qc := Q) F rfl dX9_target_50 hw
  unfold wp_X9target at hw
  refine R_aload_n F dX9_target_0 rfl 0 rfl ?_
  refine gc_RX9_12_0 F in_X9target dX9_target_1 ?_
  refine R_iload_n F dX9_target_4 rfl 1 rfl ?_
  refine R_callI (As := [.int p1]) (C := RX1) (q0 := 1) (ci := 1) (N := 13) (T := TX1) (fs := cf_1 B) F (ct_X1has l E B _ p1 _ hw) (cwV 1 F.2.2.2.2.2.2.2.2.2.2 g_X9target_X1has_103 rfl rfl rfl (by decide +kernel) ⟨Nat.le_of_ble_eq_true rfl, Nat.le_of_ble_eq_true rfl⟩) ⟨rfl, rfl⟩ rfl (fun _ => rfl) rfl rfl (Nat.le_of_ble_eq_true rfl) dX9_target_5 (fun r1 σ2 hw => ?_)
  refine R_if_eq (tgt := 49) F dX9_target_8 (by decide) (fun hc => ?_) (fun hc => ?_)
  · replace hw := hw.1 hc
    exact R_sub [] rfl (J_49 σ2 hw)
  · replace hw := hw.2 hc
    refine R_aload_n F dX9_target_11 rfl 0 rfl ?_
    refine gc_RX9_26_0 F in_X9target dX9_target_12 ?_
    refine R_iload_n F dX9_target_15 rfl 2 rfl ?_
    refine R_callI (As := [.int p2]) (C := RX0) (q0 := 3) (ci := 0) (N := 5) (T := TX0) (fs := cf_3 B) F (ct_X0hasOrRoot l E B _ p2 _ hw) (cwV 1 F.2.2.2.2.2.2.2.2.2.2 g_X9target_X0hasOrRoot_138 rfl rfl rfl (by decide +kernel) ⟨Nat.le_of_ble_eq_true rfl, Nat.le_of_ble_eq_true rfl⟩) ⟨rfl, rfl⟩ rfl (fun _ => rfl) rfl rfl (Nat.le_of_ble_eq_true rfl) dX9_target_16 (fun r3 σ4 hw => ?_)
    refine R_if_eq (tgt := 49) F dX9_target_19 (by decide) (fun hc => ?_) (fun hc => ?_)
    · replace hw := hw.1 hc
      exact R_sub [] rfl (J_49 σ4 hw)
    · replace hw := hw.2 hc
      refine R_iload_n F dX9_target_22 rfl 3 rfl ?_
      refine R_sipush F (-10000) dX9_target_23 (by decide) ?_
      refine R_sipush F 10000 dX9_target_26 (by decide) ?_
      refine R_callIS (As := [.int p3, .int (-10000), .int 10000]) (C := RX10) (q0 := 0) (ci := 10) (b := 0) (N := 69) (T := TX10) (fs := fun _ => []) F (ct_X9within l E B _ p3 (-10000) 10000 _ hw) (va_cwS 3 F.2.2.2.2.2.2.2.2.2.2 g_X9target_X9within_88 rfl rfl rfl (by decide +kernel) ⟨Nat.le_of_ble_eq_true rfl, Nat.le_of_ble_eq_true rfl⟩) ⟨rfl, rfl⟩ rfl rfl (Nat.le_of_ble_eq_true rfl) dX9_target_29 (fun r5 σ6 hw => ?_)
      refine R_if_eq (tgt := 49) F dX9_target_32 (by decide) (fun hc => ?_) (fun hc => ?_)
      · replace hw := hw.1 hc
        exact R_sub [] rfl (J_49 σ6 hw)
      · replace hw := hw.2 hc
        refine R_iload F dX9_target_35 4 rfl ?_
        refine R_sipush F (-10000) dX9_target_37 (by decide) ?_
        refine R_sipush F 10000 dX9_target_40 (by decide) ?_
        refine R_callIS (As := [.int p4, .int (-10000), .int 10000]) (C := RX10) (q0 := 0) (ci := 10) (b := 0) (N := 69) (T := TX10) (fs := fun _ => []) F (ct_X9within l E B _ p4 (-10000) 10000 _ hw) (va_cwS 3 F.2.2.2.2.2.2.2.2.2.2 g_X9target_X9within_88 rfl rfl rfl (by decide +kernel) ⟨Nat.le_of_ble_eq_true rfl, Nat.le_of_ble_eq_true rfl⟩) ⟨rfl, rfl⟩ rfl rfl (Nat.le_of_ble_eq_true rfl) dX9_target_43 (fun r7 σ8 hw => ?_)
        refine R_if_ne (tgt := 51) F dX9_target_46 (by decide) (fun hc => ?_) (fun hc => ?_)
        · replace hw := hw.1 hc
          refine R_aload_n F dX9_target_51 rfl 0 rfl ?_
          refine gc_RX9_12_0 F in_X9target dX9_target_52 ?_
          refine gc_RX9_108_1 F in_X9target dX9_target_55 ?_
          refine R_iload_n F dX9_target_58 rfl 1 rfl ?_
          refine R_ldi F qc_11 dX9_target_59 hw.1 ?_
          replace hw := hw.2
          refine R_iconst F 5 dX9_target_60 (by decide) ?_
          refine R_icmp_ne (tgt := 71) F dX9_target_61 (by decide) (fun hc => ?_) (fun hc => ?_)
          · replace hw := hw.1 hc
            exact R_sub [0, 1, 2, 3, 4] rfl (J_71 p1 p2 p3 p4 σ8 hw)
          · replace hw := hw.2 hc
            refine R_iload_n F dX9_target_64 rfl 2 rfl ?_
            refine R_iconst F (-1) dX9_target_65 (by decide) ?_
            refine R_icmp_eq (tgt := 71) F dX9_target_66 (by decide) (fun hc => ?_) (fun hc => ?_)
            · replace hw := hw.1 hc
              exact R_sub [0, 1, 2, 3, 4] rfl (J_71 p1 p2 p3 p4 σ8 hw)
            · replace hw := hw.2 hc
              refine R_iconst F (-1) dX9_target_69 (by decide) ?_
              exact R_iret (Qc := Q) F rfl dX9_target_70 hw
        · replace hw := hw.2 hc
          exact R_sub [] rfl (J_49 σ8 hw)
def b_X9entry_31 (Q : Int32 → VS → Prop) (σ : VS) : Prop := Q (-1) σ
def wp_X9entry (Q : Int32 → VS → Prop) (p1 : Int32) (p2 : Int32) (p3 : Int32) (p4 : Int32) (p5 : Int32) (σ : VS) : Prop := wp_X5hasRow (fun (r1 : Int32) (σ2 : VS) => ((r1.toInt = 0 → b_X9entry_31 Q σ2) ∧ (r1.toInt ≠ 0 → wp_X9within (fun (r3 : Int32) (σ4 : VS) => ((r3.toInt = 0 → b_X9entry_31 Q σ4) ∧ (r3.toInt ≠ 0 → wp_X9within (fun (r5 : Int32) (σ6 : VS) => ((r5.toInt ≠ 0 → wp_X5rowPlace (fun (r7 : Int32) (σ8 : VS) => wp_X5whyAbsent (fun (r9 : Int32) (σ10 : VS) => ((r9.toInt = 0 → (In ((r7 * 3) + p4) 192 ∧ (∀ x11 : Int32, x11 = (rd σ10 36 ((r7 * 3) + p4)) → (In ((r7 * 3) + p4) 192 ∧ wp_X9forget (fun (σ13 : VS) => Q x11 σ13) (sa σ10 36 ((r7 * 3) + p4) p5))))) ∧ (r9.toInt ≠ 0 → Q r9 σ10))) r7 p4 σ8) p1 p2 p3 σ6) ∧ (r5.toInt = 0 → b_X9entry_31 Q σ6))) p5 0 3000 σ4))) p4 0 2 σ2))) p1 p2 p3 σ
theorem dX9_entry_0 : decode cX9_entry 0 = .ok (.iload_n 1, 1) := by decide +kernel
theorem dX9_entry_1 : decode cX9_entry 1 = .ok (.iload_n 2, 1) := by decide +kernel
theorem dX9_entry_2 : decode cX9_entry 2 = .ok (.iload_n 3, 1) := by decide +kernel
theorem dX9_entry_3 : decode cX9_entry 3 = .ok (.invokestatic 153, 3) := by decide +kernel
theorem dX9_entry_6 : decode cX9_entry 6 = .ok (.ifCond .eq 25, 3) := by decide +kernel
theorem dX9_entry_9 : decode cX9_entry 9 = .ok (.iload 4, 2) := by decide +kernel
theorem dX9_entry_11 : decode cX9_entry 11 = .ok (.iconst 0, 1) := by decide +kernel
theorem dX9_entry_12 : decode cX9_entry 12 = .ok (.iconst 2, 1) := by decide +kernel
theorem dX9_entry_13 : decode cX9_entry 13 = .ok (.invokestatic 88, 3) := by decide +kernel
theorem dX9_entry_16 : decode cX9_entry 16 = .ok (.ifCond .eq 15, 3) := by decide +kernel
theorem dX9_entry_19 : decode cX9_entry 19 = .ok (.iload 5, 2) := by decide +kernel
theorem dX9_entry_21 : decode cX9_entry 21 = .ok (.iconst 0, 1) := by decide +kernel
theorem dX9_entry_22 : decode cX9_entry 22 = .ok (.sipush 3000, 3) := by decide +kernel
theorem dX9_entry_25 : decode cX9_entry 25 = .ok (.invokestatic 88, 3) := by decide +kernel
theorem dX9_entry_28 : decode cX9_entry 28 = .ok (.ifCond .ne 5, 3) := by decide +kernel
theorem dX9_entry_33 : decode cX9_entry 33 = .ok (.iload_n 1, 1) := by decide +kernel
theorem dX9_entry_34 : decode cX9_entry 34 = .ok (.iload_n 2, 1) := by decide +kernel
theorem dX9_entry_35 : decode cX9_entry 35 = .ok (.iload_n 3, 1) := by decide +kernel
theorem dX9_entry_36 : decode cX9_entry 36 = .ok (.invokestatic 156, 3) := by decide +kernel
theorem dX9_entry_39 : decode cX9_entry 39 = .ok (.istore 6, 2) := by decide +kernel
theorem dX9_entry_41 : decode cX9_entry 41 = .ok (.aload_n 0, 1) := by decide +kernel
theorem dX9_entry_42 : decode cX9_entry 42 = .ok (.getfield 40, 3) := by decide +kernel
theorem dX9_entry_45 : decode cX9_entry 45 = .ok (.iload 6, 2) := by decide +kernel
theorem dX9_entry_47 : decode cX9_entry 47 = .ok (.iload 4, 2) := by decide +kernel
theorem dX9_entry_49 : decode cX9_entry 49 = .ok (.invokevirtual 159, 3) := by decide +kernel
theorem dX9_entry_52 : decode cX9_entry 52 = .ok (.istore 7, 2) := by decide +kernel
theorem dX9_entry_54 : decode cX9_entry 54 = .ok (.iload 7, 2) := by decide +kernel
theorem dX9_entry_56 : decode cX9_entry 56 = .ok (.ifCond .eq 6, 3) := by decide +kernel
theorem dX9_entry_62 : decode cX9_entry 62 = .ok (.aload_n 0, 1) := by decide +kernel
theorem dX9_entry_63 : decode cX9_entry 63 = .ok (.getfield 40, 3) := by decide +kernel
theorem dX9_entry_66 : decode cX9_entry 66 = .ok (.getfield 162, 3) := by decide +kernel
theorem dX9_entry_69 : decode cX9_entry 69 = .ok (.iload 6, 2) := by decide +kernel
theorem dX9_entry_71 : decode cX9_entry 71 = .ok (.iconst 3, 1) := by decide +kernel
theorem dX9_entry_72 : decode cX9_entry 72 = .ok (.imul, 1) := by decide +kernel
theorem dX9_entry_73 : decode cX9_entry 73 = .ok (.iload 4, 2) := by decide +kernel
theorem dX9_entry_75 : decode cX9_entry 75 = .ok (.iadd, 1) := by decide +kernel
theorem dX9_entry_76 : decode cX9_entry 76 = .ok (.iaload, 1) := by decide +kernel
theorem dX9_entry_77 : decode cX9_entry 77 = .ok (.istore 8, 2) := by decide +kernel
theorem dX9_entry_79 : decode cX9_entry 79 = .ok (.aload_n 0, 1) := by decide +kernel
theorem dX9_entry_80 : decode cX9_entry 80 = .ok (.getfield 40, 3) := by decide +kernel
theorem dX9_entry_83 : decode cX9_entry 83 = .ok (.getfield 162, 3) := by decide +kernel
theorem dX9_entry_86 : decode cX9_entry 86 = .ok (.iload 6, 2) := by decide +kernel
theorem dX9_entry_88 : decode cX9_entry 88 = .ok (.iconst 3, 1) := by decide +kernel
theorem dX9_entry_89 : decode cX9_entry 89 = .ok (.imul, 1) := by decide +kernel
theorem dX9_entry_90 : decode cX9_entry 90 = .ok (.iload 4, 2) := by decide +kernel
theorem dX9_entry_92 : decode cX9_entry 92 = .ok (.iadd, 1) := by decide +kernel
theorem dX9_entry_93 : decode cX9_entry 93 = .ok (.iload 5, 2) := by decide +kernel
theorem dX9_entry_95 : decode cX9_entry 95 = .ok (.iastore, 1) := by decide +kernel
theorem dX9_entry_96 : decode cX9_entry 96 = .ok (.aload_n 0, 1) := by decide +kernel
theorem dX9_entry_97 : decode cX9_entry 97 = .ok (.invokevirtual 96, 3) := by decide +kernel
theorem dX9_entry_100 : decode cX9_entry 100 = .ok (.iload 8, 2) := by decide +kernel
theorem dX9_entry_102 : decode cX9_entry 102 = .ok (.ireturn, 1) := by decide +kernel
theorem dX9_entry_59 : decode cX9_entry 59 = .ok (.iload 7, 2) := by decide +kernel
theorem dX9_entry_61 : decode cX9_entry 61 = .ok (.ireturn, 1) := by decide +kernel
theorem dX9_entry_31 : decode cX9_entry 31 = .ok (.iconst (-1), 1) := by decide +kernel
theorem dX9_entry_32 : decode cX9_entry 32 = .ok (.ireturn, 1) := by decide +kernel
def wo_X9entry : List Cond := [.code yX9_entry cX9_entry 9 (some .int), .methodLink RX9 153 yX5_hasRow, .static yX5_hasRow, .initialized RX5, .methodLink RX9 88 yX9_within, .static yX9_within, .initialized RX9, .methodLink RX9 156 yX5_rowPlace, .static yX5_rowPlace, .methodLink RX9 159 yX5_whyAbsent, .instanceMethod yX5_whyAbsent, .selects RX5 yX5_whyAbsent yX5_whyAbsent, .methodLink RX9 96 yX9_forget, .instanceMethod yX9_forget, .selects RX9 yX9_forget yX9_forget]
def wr_X9entry : List Cond := (wfC ++ (w_X5hasRow ++ (w_X9within ++ (w_X5rowPlace ++ (w_X5whyAbsent ++ (w_X9forget ++ ([])))))))
def w_X9entry : List Cond := wo_X9entry ++ wr_X9entry
theorem wg_X9entry : GW w_X9entry := GW_app (GW_of (by decide +kernel)) (GW_app (wg_fC) (GW_app (wg_X5hasRow) (GW_app (wg_X9within) (GW_app (wg_X5rowPlace) (GW_app (wg_X5whyAbsent) (GW_app (wg_X9forget) (GW_nil)))))))
theorem in_X9entry : ∀ w ∈ wfC, w ∈ w_X9entry := fun _ h => List.mem_append_right _ (List.mem_append_left _ h)
theorem g_X9entry_X5hasRow_153 : GoodIn w_X9entry (va_wsS RX9 153 yX5_hasRow w_X5hasRow) := goodIn_app (gi_left (goodIn_of _ (by decide +kernel))) (fun w h => ⟨List.mem_append_right _ (List.mem_append_right _ (List.mem_append_left _ h)), wg_X5hasRow w h⟩)
theorem g_X9entry_X9within_88 : GoodIn w_X9entry (va_wsS RX9 88 yX9_within w_X9within) := goodIn_app (gi_left (goodIn_of _ (by decide +kernel))) (fun w h => ⟨List.mem_append_right _ (List.mem_append_right _ (List.mem_append_right _ (List.mem_append_left _ h))), wg_X9within w h⟩)
theorem g_X9entry_X5rowPlace_156 : GoodIn w_X9entry (va_wsS RX9 156 yX5_rowPlace w_X5rowPlace) := goodIn_app (gi_left (goodIn_of _ (by decide +kernel))) (fun w h => ⟨List.mem_append_right _ (List.mem_append_right _ (List.mem_append_right _ (List.mem_append_right _ (List.mem_append_left _ h)))), wg_X5rowPlace w h⟩)
theorem g_X9entry_X5whyAbsent_159 : GoodIn w_X9entry (wsV RX9 159 RX5 yX5_whyAbsent w_X5whyAbsent) := goodIn_app (gi_left (goodIn_of _ (by decide +kernel))) (fun w h => ⟨List.mem_append_right _ (List.mem_append_right _ (List.mem_append_right _ (List.mem_append_right _ (List.mem_append_right _ (List.mem_append_left _ h))))), wg_X5whyAbsent w h⟩)
theorem g_X9entry_X9forget_96 : GoodIn w_X9entry (wsV RX9 96 RX9 yX9_forget w_X9forget) := goodIn_app (gi_left (goodIn_of _ (by decide +kernel))) (fun w h => ⟨List.mem_append_right _ (List.mem_append_right _ (List.mem_append_right _ (List.mem_append_right _ (List.mem_append_right _ (List.mem_append_right _ (List.mem_append_left _ h)))))), wg_X9forget w h⟩)
set_option maxHeartbeats 4000000 in
set_option maxRecDepth 100000 in
theorem ct_X9entry (l : Launch) (E : gE) (B : Nat → Nat) (Q : Int32 → VS → Prop) (p1 : Int32) (p2 : Int32) (p3 : Int32) (p4 : Int32) (p5 : Int32) (σ : VS) (hw : wp_X9entry Q p1 p2 p3 p4 p5 σ) : CtI l E yX9_entry w_X9entry (({ frames := 2, cells := 0, slots := 0, locals := 42 } : Room)) (wc E B σ) [.ref (B 0), .int p1, .int p2, .int p3, .int p4, .int p5] (fun r w => ∃ σ' : VS, Q r σ' ∧ w = wc E B σ') := by
  refine VC_I (cc := cX9_entry) (mL := 9) (rt := (some .int)) (lv0 := [(0, .ref (B 0)), (1, .int p1), (2, .int p2), (3, .int p3), (4, .int p4), (5, .int p5)]) rfl (by decide) rfl (Nat.le_of_ble_eq_true rfl) ?_
  intro p e s m below meth c A F
  replace F : Fx p s m _ meth c A E cX9_entry 9 (some .int) RX9 w_X9entry := F
  have J_31 : ∀ (σ : VS), b_X9entry_31 Q σ → WB p l e (({ frames := 2, cells := 0, slots := 0, locals := 42 } : Room)) s m (#[.ref (B 0), .int p1, .int p2, .int p3, .int p4, .int p5]) below meth c (MQ below (va_Qi (fun r w => ∃ σ' : VS, Q r σ' ∧ w = wc E B σ') (AftU E A) A) (#[.ref (B 0), .int p1, .int p2, .int p3, .int p4, .int p5]) s (({ frames := 2, cells := 0, slots := 0, locals := 42 } : Room)).cells (({ frames := 2, cells := 0, slots := 0, locals := 42 } : Room)).slots A) A E (wc E B) 9 31 [] [] σ := by
    intro σ hw
    unfold b_X9entry_31 at hw
    refine R_iconst F (-1) dX9_entry_31 (by decide) ?_
    exact R_iret (Qc := Q) F rfl dX9_entry_32 hw
  unfold wp_X9entry at hw
  refine R_iload_n F dX9_entry_0 rfl 1 rfl ?_
  refine R_iload_n F dX9_entry_1 rfl 2 rfl ?_
  refine R_iload_n F dX9_entry_2 rfl 3 rfl ?_
  refine R_callIS (As := [.int p1, .int p2, .int p3]) (C := RX10) (q0 := 0) (ci := 10) (b := 0) (N := 69) (T := TX10) (fs := fun _ => []) F (ct_X5hasRow l E B _ p1 p2 p3 _ hw) (va_cwS 3 F.2.2.2.2.2.2.2.2.2.2 g_X9entry_X5hasRow_153 rfl rfl rfl (by decide +kernel) ⟨Nat.le_of_ble_eq_true rfl, Nat.le_of_ble_eq_true rfl⟩) ⟨rfl, rfl⟩ rfl rfl (Nat.le_of_ble_eq_true rfl) dX9_entry_3 (fun r1 σ2 hw => ?_)
  refine R_if_eq (tgt := 31) F dX9_entry_6 (by decide) (fun hc => ?_) (fun hc => ?_)
  · replace hw := hw.1 hc
    exact R_sub [] rfl (J_31 σ2 hw)
  · replace hw := hw.2 hc
    refine R_iload F dX9_entry_9 4 rfl ?_
    refine R_iconst F 0 dX9_entry_11 (by decide) ?_
    refine R_iconst F 2 dX9_entry_12 (by decide) ?_
    refine R_callIS (As := [.int p4, .int 0, .int 2]) (C := RX10) (q0 := 0) (ci := 10) (b := 0) (N := 69) (T := TX10) (fs := fun _ => []) F (ct_X9within l E B _ p4 0 2 _ hw) (va_cwS 3 F.2.2.2.2.2.2.2.2.2.2 g_X9entry_X9within_88 rfl rfl rfl (by decide +kernel) ⟨Nat.le_of_ble_eq_true rfl, Nat.le_of_ble_eq_true rfl⟩) ⟨rfl, rfl⟩ rfl rfl (Nat.le_of_ble_eq_true rfl) dX9_entry_13 (fun r3 σ4 hw => ?_)
    refine R_if_eq (tgt := 31) F dX9_entry_16 (by decide) (fun hc => ?_) (fun hc => ?_)
    · replace hw := hw.1 hc
      exact R_sub [] rfl (J_31 σ4 hw)
    · replace hw := hw.2 hc
      refine R_iload F dX9_entry_19 5 rfl ?_
      refine R_iconst F 0 dX9_entry_21 (by decide) ?_
      refine R_sipush F 3000 dX9_entry_22 (by decide) ?_
      refine R_callIS (As := [.int p5, .int 0, .int 3000]) (C := RX10) (q0 := 0) (ci := 10) (b := 0) (N := 69) (T := TX10) (fs := fun _ => []) F (ct_X9within l E B _ p5 0 3000 _ hw) (va_cwS 3 F.2.2.2.2.2.2.2.2.2.2 g_X9entry_X9within_88 rfl rfl rfl (by decide +kernel) ⟨Nat.le_of_ble_eq_true rfl, Nat.le_of_ble_eq_true rfl⟩) ⟨rfl, rfl⟩ rfl rfl (Nat.le_of_ble_eq_true rfl) dX9_entry_25 (fun r5 σ6 hw => ?_)
      refine R_if_ne (tgt := 33) F dX9_entry_28 (by decide) (fun hc => ?_) (fun hc => ?_)
      · replace hw := hw.1 hc
        refine R_iload_n F dX9_entry_33 rfl 1 rfl ?_
        refine R_iload_n F dX9_entry_34 rfl 2 rfl ?_
        refine R_iload_n F dX9_entry_35 rfl 3 rfl ?_
        refine R_callIS (As := [.int p1, .int p2, .int p3]) (C := RX10) (q0 := 0) (ci := 10) (b := 0) (N := 69) (T := TX10) (fs := fun _ => []) F (ct_X5rowPlace l E B _ p1 p2 p3 _ hw) (va_cwS 3 F.2.2.2.2.2.2.2.2.2.2 g_X9entry_X5rowPlace_156 rfl rfl rfl (by decide +kernel) ⟨Nat.le_of_ble_eq_true rfl, Nat.le_of_ble_eq_true rfl⟩) ⟨rfl, rfl⟩ rfl rfl (Nat.le_of_ble_eq_true rfl) dX9_entry_36 (fun r7 σ8 hw => ?_)
        refine R_istore (lv' := [(6, .int r7), (0, .ref (B 0)), (1, .int p1), (2, .int p2), (3, .int p3), (4, .int p4), (5, .int p5)]) F dX9_entry_39 (by decide) rfl ?_
        refine R_aload_n F dX9_entry_41 rfl 1 rfl ?_
        refine gc_RX9_40_0 F in_X9entry dX9_entry_42 ?_
        refine R_iload F dX9_entry_45 0 rfl ?_
        refine R_iload F dX9_entry_47 5 rfl ?_
        refine R_callI (As := [.int r7, .int p4]) (C := RX5) (q0 := 5) (ci := 5) (N := 5) (T := TX5) (fs := cf_5 B) F (ct_X5whyAbsent l E B _ r7 p4 _ hw) (cwV 2 F.2.2.2.2.2.2.2.2.2.2 g_X9entry_X5whyAbsent_159 rfl rfl rfl (by decide +kernel) ⟨Nat.le_of_ble_eq_true rfl, Nat.le_of_ble_eq_true rfl⟩) ⟨rfl, rfl⟩ rfl (fun _ => rfl) rfl rfl (Nat.le_of_ble_eq_true rfl) dX9_entry_49 (fun r9 σ10 hw => ?_)
        refine R_istore (lv' := [(7, .int r9), (6, .int r7), (0, .ref (B 0)), (1, .int p1), (2, .int p2), (3, .int p3), (4, .int p4), (5, .int p5)]) F dX9_entry_52 (by decide) rfl ?_
        refine R_iload F dX9_entry_54 0 rfl ?_
        refine R_if_eq (tgt := 62) F dX9_entry_56 (by decide) (fun hc => ?_) (fun hc => ?_)
        · replace hw := hw.1 hc
          refine R_aload_n F dX9_entry_62 rfl 2 rfl ?_
          refine gc_RX9_40_0 F in_X9entry dX9_entry_63 ?_
          refine gc_RX9_162_5 F in_X9entry dX9_entry_66 ?_
          refine R_iload F dX9_entry_69 1 rfl ?_
          refine R_iconst F 3 dX9_entry_71 (by decide) ?_
          refine R_imul F dX9_entry_72 ?_
          refine R_iload F dX9_entry_73 6 rfl ?_
          refine R_iadd F dX9_entry_75 ?_
          refine R_ldi F qc_36 dX9_entry_76 hw.1 ?_
          replace hw := hw.2
          refine R_topi (fun x11 ex11 => ?_)
          replace hw := hw x11 ex11
          refine R_istore (lv' := [(8, .int x11), (7, .int r9), (6, .int r7), (0, .ref (B 0)), (1, .int p1), (2, .int p2), (3, .int p3), (4, .int p4), (5, .int p5)]) F dX9_entry_77 (by decide) rfl ?_
          refine R_aload_n F dX9_entry_79 rfl 3 rfl ?_
          refine gc_RX9_40_0 F in_X9entry dX9_entry_80 ?_
          refine gc_RX9_162_5 F in_X9entry dX9_entry_83 ?_
          refine R_iload F dX9_entry_86 2 rfl ?_
          refine R_iconst F 3 dX9_entry_88 (by decide) ?_
          refine R_imul F dX9_entry_89 ?_
          refine R_iload F dX9_entry_90 7 rfl ?_
          refine R_iadd F dX9_entry_92 ?_
          refine R_iload F dX9_entry_93 8 rfl ?_
          have hi := hw.1
          replace hw := hw.2
          refine R_sti F qc_36 uc_36 dX9_entry_95 hi ?_
          refine R_aload_n F dX9_entry_96 rfl 3 rfl ?_
          refine R_callV (As := []) (C := RX9) (q0 := 0) (ci := 9) (N := 12) (T := TX9) (fs := cf_0 B) F (ct_X9forget l E B _ _ hw) (cwV 0 F.2.2.2.2.2.2.2.2.2.2 g_X9entry_X9forget_96 rfl rfl rfl (by decide +kernel) ⟨Nat.le_of_ble_eq_true rfl, Nat.le_of_ble_eq_true rfl⟩) ⟨rfl, rfl⟩ rfl (fun _ => rfl) rfl rfl (Nat.le_of_ble_eq_true rfl) dX9_entry_97 (fun σ13 hw => ?_)
          refine R_iload F dX9_entry_100 0 rfl ?_
          exact R_iret (Qc := Q) F rfl dX9_entry_102 hw
        · replace hw := hw.2 hc
          refine R_iload F dX9_entry_59 0 rfl ?_
          exact R_iret (Qc := Q) F rfl dX9_entry_61 hw
      · replace hw := hw.2 hc
        exact R_sub [] rfl (J_31 σ6 hw)
def b_X9tear_19 (Q : Int32 → VS → Prop) (σ : VS) : Prop := Q (-1) σ
def wp_X9tear (Q : Int32 → VS → Prop) (p1 : Int32) (p2 : Int32) (p3 : Int32) (p4 : Int32) (σ : VS) : Prop := wp_X5hasRow (fun (r1 : Int32) (σ2 : VS) => ((r1.toInt = 0 → b_X9tear_19 Q σ2) ∧ (r1.toInt ≠ 0 → wp_X9within (fun (r3 : Int32) (σ4 : VS) => ((r3.toInt ≠ 0 → wp_X9forget (fun (σ6 : VS) => wp_X5rowPlace (fun (r7 : Int32) (σ8 : VS) => wp_X5cutRow (fun (r9 : Int32) (σ10 : VS) => Q r9 σ10) r7 p4 σ8) p1 p2 p3 σ6) σ4) ∧ (r3.toInt = 0 → b_X9tear_19 Q σ4))) p4 0 3 σ2))) p1 p2 p3 σ
theorem dX9_tear_0 : decode cX9_tear 0 = .ok (.iload_n 1, 1) := by decide +kernel
theorem dX9_tear_1 : decode cX9_tear 1 = .ok (.iload_n 2, 1) := by decide +kernel
theorem dX9_tear_2 : decode cX9_tear 2 = .ok (.iload_n 3, 1) := by decide +kernel
theorem dX9_tear_3 : decode cX9_tear 3 = .ok (.invokestatic 153, 3) := by decide +kernel
theorem dX9_tear_6 : decode cX9_tear 6 = .ok (.ifCond .eq 13, 3) := by decide +kernel
theorem dX9_tear_9 : decode cX9_tear 9 = .ok (.iload 4, 2) := by decide +kernel
theorem dX9_tear_11 : decode cX9_tear 11 = .ok (.iconst 0, 1) := by decide +kernel
theorem dX9_tear_12 : decode cX9_tear 12 = .ok (.iconst 3, 1) := by decide +kernel
theorem dX9_tear_13 : decode cX9_tear 13 = .ok (.invokestatic 88, 3) := by decide +kernel
theorem dX9_tear_16 : decode cX9_tear 16 = .ok (.ifCond .ne 5, 3) := by decide +kernel
theorem dX9_tear_21 : decode cX9_tear 21 = .ok (.aload_n 0, 1) := by decide +kernel
theorem dX9_tear_22 : decode cX9_tear 22 = .ok (.invokevirtual 96, 3) := by decide +kernel
theorem dX9_tear_25 : decode cX9_tear 25 = .ok (.aload_n 0, 1) := by decide +kernel
theorem dX9_tear_26 : decode cX9_tear 26 = .ok (.getfield 40, 3) := by decide +kernel
theorem dX9_tear_29 : decode cX9_tear 29 = .ok (.iload_n 1, 1) := by decide +kernel
theorem dX9_tear_30 : decode cX9_tear 30 = .ok (.iload_n 2, 1) := by decide +kernel
theorem dX9_tear_31 : decode cX9_tear 31 = .ok (.iload_n 3, 1) := by decide +kernel
theorem dX9_tear_32 : decode cX9_tear 32 = .ok (.invokestatic 156, 3) := by decide +kernel
theorem dX9_tear_35 : decode cX9_tear 35 = .ok (.iload 4, 2) := by decide +kernel
theorem dX9_tear_37 : decode cX9_tear 37 = .ok (.invokevirtual 165, 3) := by decide +kernel
theorem dX9_tear_40 : decode cX9_tear 40 = .ok (.ireturn, 1) := by decide +kernel
theorem dX9_tear_19 : decode cX9_tear 19 = .ok (.iconst (-1), 1) := by decide +kernel
theorem dX9_tear_20 : decode cX9_tear 20 = .ok (.ireturn, 1) := by decide +kernel
def wo_X9tear : List Cond := [.code yX9_tear cX9_tear 5 (some .int), .methodLink RX9 153 yX5_hasRow, .static yX5_hasRow, .initialized RX5, .methodLink RX9 88 yX9_within, .static yX9_within, .initialized RX9, .methodLink RX9 96 yX9_forget, .instanceMethod yX9_forget, .selects RX9 yX9_forget yX9_forget, .methodLink RX9 156 yX5_rowPlace, .static yX5_rowPlace, .methodLink RX9 165 yX5_cutRow, .instanceMethod yX5_cutRow, .selects RX5 yX5_cutRow yX5_cutRow]
def wr_X9tear : List Cond := (wfC ++ (w_X5hasRow ++ (w_X9within ++ (w_X9forget ++ (w_X5rowPlace ++ (w_X5cutRow ++ ([])))))))
def w_X9tear : List Cond := wo_X9tear ++ wr_X9tear
theorem wg_X9tear : GW w_X9tear := GW_app (GW_of (by decide +kernel)) (GW_app (wg_fC) (GW_app (wg_X5hasRow) (GW_app (wg_X9within) (GW_app (wg_X9forget) (GW_app (wg_X5rowPlace) (GW_app (wg_X5cutRow) (GW_nil)))))))
theorem in_X9tear : ∀ w ∈ wfC, w ∈ w_X9tear := fun _ h => List.mem_append_right _ (List.mem_append_left _ h)
theorem g_X9tear_X5hasRow_153 : GoodIn w_X9tear (va_wsS RX9 153 yX5_hasRow w_X5hasRow) := goodIn_app (gi_left (goodIn_of _ (by decide +kernel))) (fun w h => ⟨List.mem_append_right _ (List.mem_append_right _ (List.mem_append_left _ h)), wg_X5hasRow w h⟩)
theorem g_X9tear_X9within_88 : GoodIn w_X9tear (va_wsS RX9 88 yX9_within w_X9within) := goodIn_app (gi_left (goodIn_of _ (by decide +kernel))) (fun w h => ⟨List.mem_append_right _ (List.mem_append_right _ (List.mem_append_right _ (List.mem_append_left _ h))), wg_X9within w h⟩)
theorem g_X9tear_X9forget_96 : GoodIn w_X9tear (wsV RX9 96 RX9 yX9_forget w_X9forget) := goodIn_app (gi_left (goodIn_of _ (by decide +kernel))) (fun w h => ⟨List.mem_append_right _ (List.mem_append_right _ (List.mem_append_right _ (List.mem_append_right _ (List.mem_append_left _ h)))), wg_X9forget w h⟩)
theorem g_X9tear_X5rowPlace_156 : GoodIn w_X9tear (va_wsS RX9 156 yX5_rowPlace w_X5rowPlace) := goodIn_app (gi_left (goodIn_of _ (by decide +kernel))) (fun w h => ⟨List.mem_append_right _ (List.mem_append_right _ (List.mem_append_right _ (List.mem_append_right _ (List.mem_append_right _ (List.mem_append_left _ h))))), wg_X5rowPlace w h⟩)
theorem g_X9tear_X5cutRow_165 : GoodIn w_X9tear (wsV RX9 165 RX5 yX5_cutRow w_X5cutRow) := goodIn_app (gi_left (goodIn_of _ (by decide +kernel))) (fun w h => ⟨List.mem_append_right _ (List.mem_append_right _ (List.mem_append_right _ (List.mem_append_right _ (List.mem_append_right _ (List.mem_append_right _ (List.mem_append_left _ h)))))), wg_X5cutRow w h⟩)
set_option maxHeartbeats 4000000 in
set_option maxRecDepth 100000 in
theorem ct_X9tear (l : Launch) (E : gE) (B : Nat → Nat) (Q : Int32 → VS → Prop) (p1 : Int32) (p2 : Int32) (p3 : Int32) (p4 : Int32) (σ : VS) (hw : wp_X9tear Q p1 p2 p3 p4 σ) : CtI l E yX9_tear w_X9tear (({ frames := 2, cells := 0, slots := 0, locals := 42 } : Room)) (wc E B σ) [.ref (B 0), .int p1, .int p2, .int p3, .int p4] (fun r w => ∃ σ' : VS, Q r σ' ∧ w = wc E B σ') := by
  refine VC_I (cc := cX9_tear) (mL := 5) (rt := (some .int)) (lv0 := [(0, .ref (B 0)), (1, .int p1), (2, .int p2), (3, .int p3), (4, .int p4)]) rfl (by decide) rfl (Nat.le_of_ble_eq_true rfl) ?_
  intro p e s m below meth c A F
  replace F : Fx p s m _ meth c A E cX9_tear 5 (some .int) RX9 w_X9tear := F
  have J_19 : ∀ (σ : VS), b_X9tear_19 Q σ → WB p l e (({ frames := 2, cells := 0, slots := 0, locals := 42 } : Room)) s m (#[.ref (B 0), .int p1, .int p2, .int p3, .int p4]) below meth c (MQ below (va_Qi (fun r w => ∃ σ' : VS, Q r σ' ∧ w = wc E B σ') (AftU E A) A) (#[.ref (B 0), .int p1, .int p2, .int p3, .int p4]) s (({ frames := 2, cells := 0, slots := 0, locals := 42 } : Room)).cells (({ frames := 2, cells := 0, slots := 0, locals := 42 } : Room)).slots A) A E (wc E B) 5 19 [] [] σ := by
    intro σ hw
    unfold b_X9tear_19 at hw
    refine R_iconst F (-1) dX9_tear_19 (by decide) ?_
    exact R_iret (Qc := Q) F rfl dX9_tear_20 hw
  unfold wp_X9tear at hw
  refine R_iload_n F dX9_tear_0 rfl 1 rfl ?_
  refine R_iload_n F dX9_tear_1 rfl 2 rfl ?_
  refine R_iload_n F dX9_tear_2 rfl 3 rfl ?_
  refine R_callIS (As := [.int p1, .int p2, .int p3]) (C := RX10) (q0 := 0) (ci := 10) (b := 0) (N := 69) (T := TX10) (fs := fun _ => []) F (ct_X5hasRow l E B _ p1 p2 p3 _ hw) (va_cwS 3 F.2.2.2.2.2.2.2.2.2.2 g_X9tear_X5hasRow_153 rfl rfl rfl (by decide +kernel) ⟨Nat.le_of_ble_eq_true rfl, Nat.le_of_ble_eq_true rfl⟩) ⟨rfl, rfl⟩ rfl rfl (Nat.le_of_ble_eq_true rfl) dX9_tear_3 (fun r1 σ2 hw => ?_)
  refine R_if_eq (tgt := 19) F dX9_tear_6 (by decide) (fun hc => ?_) (fun hc => ?_)
  · replace hw := hw.1 hc
    exact R_sub [] rfl (J_19 σ2 hw)
  · replace hw := hw.2 hc
    refine R_iload F dX9_tear_9 4 rfl ?_
    refine R_iconst F 0 dX9_tear_11 (by decide) ?_
    refine R_iconst F 3 dX9_tear_12 (by decide) ?_
    refine R_callIS (As := [.int p4, .int 0, .int 3]) (C := RX10) (q0 := 0) (ci := 10) (b := 0) (N := 69) (T := TX10) (fs := fun _ => []) F (ct_X9within l E B _ p4 0 3 _ hw) (va_cwS 3 F.2.2.2.2.2.2.2.2.2.2 g_X9tear_X9within_88 rfl rfl rfl (by decide +kernel) ⟨Nat.le_of_ble_eq_true rfl, Nat.le_of_ble_eq_true rfl⟩) ⟨rfl, rfl⟩ rfl rfl (Nat.le_of_ble_eq_true rfl) dX9_tear_13 (fun r3 σ4 hw => ?_)
    refine R_if_ne (tgt := 21) F dX9_tear_16 (by decide) (fun hc => ?_) (fun hc => ?_)
    · replace hw := hw.1 hc
      refine R_aload_n F dX9_tear_21 rfl 0 rfl ?_
      refine R_callV (As := []) (C := RX9) (q0 := 0) (ci := 9) (N := 12) (T := TX9) (fs := cf_0 B) F (ct_X9forget l E B _ _ hw) (cwV 0 F.2.2.2.2.2.2.2.2.2.2 g_X9tear_X9forget_96 rfl rfl rfl (by decide +kernel) ⟨Nat.le_of_ble_eq_true rfl, Nat.le_of_ble_eq_true rfl⟩) ⟨rfl, rfl⟩ rfl (fun _ => rfl) rfl rfl (Nat.le_of_ble_eq_true rfl) dX9_tear_22 (fun σ6 hw => ?_)
      refine R_aload_n F dX9_tear_25 rfl 0 rfl ?_
      refine gc_RX9_40_0 F in_X9tear dX9_tear_26 ?_
      refine R_iload_n F dX9_tear_29 rfl 1 rfl ?_
      refine R_iload_n F dX9_tear_30 rfl 2 rfl ?_
      refine R_iload_n F dX9_tear_31 rfl 3 rfl ?_
      refine R_callIS (As := [.int p1, .int p2, .int p3]) (C := RX10) (q0 := 0) (ci := 10) (b := 0) (N := 69) (T := TX10) (fs := fun _ => []) F (ct_X5rowPlace l E B _ p1 p2 p3 _ hw) (va_cwS 3 F.2.2.2.2.2.2.2.2.2.2 g_X9tear_X5rowPlace_156 rfl rfl rfl (by decide +kernel) ⟨Nat.le_of_ble_eq_true rfl, Nat.le_of_ble_eq_true rfl⟩) ⟨rfl, rfl⟩ rfl rfl (Nat.le_of_ble_eq_true rfl) dX9_tear_32 (fun r7 σ8 hw => ?_)
      refine R_iload F dX9_tear_35 4 rfl ?_
      refine R_callI (As := [.int r7, .int p4]) (C := RX5) (q0 := 5) (ci := 5) (N := 5) (T := TX5) (fs := cf_5 B) F (ct_X5cutRow l E B _ r7 p4 _ hw) (cwV 2 F.2.2.2.2.2.2.2.2.2.2 g_X9tear_X5cutRow_165 rfl rfl rfl (by decide +kernel) ⟨Nat.le_of_ble_eq_true rfl, Nat.le_of_ble_eq_true rfl⟩) ⟨rfl, rfl⟩ rfl (fun _ => rfl) rfl rfl (Nat.le_of_ble_eq_true rfl) dX9_tear_37 (fun r9 σ10 hw => ?_)
      exact R_iret (Qc := Q) F rfl dX9_tear_40 hw
    · replace hw := hw.2 hc
      exact R_sub [] rfl (J_19 σ4 hw)
def b_X9fall_18 (Q : Int32 → VS → Prop) (σ : VS) : Prop := Q (-1) σ
def wp_X9fall (Q : Int32 → VS → Prop) (p1 : Int32) (p2 : Int32) (σ : VS) : Prop := wp_X5has (fun (r1 : Int32) (σ2 : VS) => ((r1.toInt = 0 → b_X9fall_18 Q σ2) ∧ (r1.toInt ≠ 0 → wp_X9within (fun (r3 : Int32) (σ4 : VS) => ((r3.toInt ≠ 0 → (In p1 8 ∧ (∀ x5 : Int32, x5 = (rd σ4 38 p1) → (In p1 8 ∧ wp_X9forget (fun (σ7 : VS) => Q x5 σ7) (sa σ4 38 p1 p2))))) ∧ (r3.toInt = 0 → b_X9fall_18 Q σ4))) p2 0 1000 σ2))) p1 σ
theorem dX9_fall_0 : decode cX9_fall 0 = .ok (.iload_n 1, 1) := by decide +kernel
theorem dX9_fall_1 : decode cX9_fall 1 = .ok (.invokestatic 81, 3) := by decide +kernel
theorem dX9_fall_4 : decode cX9_fall 4 = .ok (.ifCond .eq 14, 3) := by decide +kernel
theorem dX9_fall_7 : decode cX9_fall 7 = .ok (.iload_n 2, 1) := by decide +kernel
theorem dX9_fall_8 : decode cX9_fall 8 = .ok (.iconst 0, 1) := by decide +kernel
theorem dX9_fall_9 : decode cX9_fall 9 = .ok (.sipush 1000, 3) := by decide +kernel
theorem dX9_fall_12 : decode cX9_fall 12 = .ok (.invokestatic 88, 3) := by decide +kernel
theorem dX9_fall_15 : decode cX9_fall 15 = .ok (.ifCond .ne 5, 3) := by decide +kernel
theorem dX9_fall_20 : decode cX9_fall 20 = .ok (.aload_n 0, 1) := by decide +kernel
theorem dX9_fall_21 : decode cX9_fall 21 = .ok (.getfield 40, 3) := by decide +kernel
theorem dX9_fall_24 : decode cX9_fall 24 = .ok (.getfield 168, 3) := by decide +kernel
theorem dX9_fall_27 : decode cX9_fall 27 = .ok (.iload_n 1, 1) := by decide +kernel
theorem dX9_fall_28 : decode cX9_fall 28 = .ok (.iaload, 1) := by decide +kernel
theorem dX9_fall_29 : decode cX9_fall 29 = .ok (.istore_n 3, 1) := by decide +kernel
theorem dX9_fall_30 : decode cX9_fall 30 = .ok (.aload_n 0, 1) := by decide +kernel
theorem dX9_fall_31 : decode cX9_fall 31 = .ok (.getfield 40, 3) := by decide +kernel
theorem dX9_fall_34 : decode cX9_fall 34 = .ok (.getfield 168, 3) := by decide +kernel
theorem dX9_fall_37 : decode cX9_fall 37 = .ok (.iload_n 1, 1) := by decide +kernel
theorem dX9_fall_38 : decode cX9_fall 38 = .ok (.iload_n 2, 1) := by decide +kernel
theorem dX9_fall_39 : decode cX9_fall 39 = .ok (.iastore, 1) := by decide +kernel
theorem dX9_fall_40 : decode cX9_fall 40 = .ok (.aload_n 0, 1) := by decide +kernel
theorem dX9_fall_41 : decode cX9_fall 41 = .ok (.invokevirtual 96, 3) := by decide +kernel
theorem dX9_fall_44 : decode cX9_fall 44 = .ok (.iload_n 3, 1) := by decide +kernel
theorem dX9_fall_45 : decode cX9_fall 45 = .ok (.ireturn, 1) := by decide +kernel
theorem dX9_fall_18 : decode cX9_fall 18 = .ok (.iconst (-1), 1) := by decide +kernel
theorem dX9_fall_19 : decode cX9_fall 19 = .ok (.ireturn, 1) := by decide +kernel
def wo_X9fall : List Cond := [.code yX9_fall cX9_fall 4 (some .int), .methodLink RX9 81 yX5_has, .static yX5_has, .initialized RX5, .methodLink RX9 88 yX9_within, .static yX9_within, .initialized RX9, .methodLink RX9 96 yX9_forget, .instanceMethod yX9_forget, .selects RX9 yX9_forget yX9_forget]
def wr_X9fall : List Cond := (wfC ++ (w_X5has ++ (w_X9within ++ (w_X9forget ++ ([])))))
def w_X9fall : List Cond := wo_X9fall ++ wr_X9fall
theorem wg_X9fall : GW w_X9fall := GW_app (GW_of (by decide +kernel)) (GW_app (wg_fC) (GW_app (wg_X5has) (GW_app (wg_X9within) (GW_app (wg_X9forget) (GW_nil)))))
theorem in_X9fall : ∀ w ∈ wfC, w ∈ w_X9fall := fun _ h => List.mem_append_right _ (List.mem_append_left _ h)
theorem g_X9fall_X5has_81 : GoodIn w_X9fall (va_wsS RX9 81 yX5_has w_X5has) := goodIn_app (gi_left (goodIn_of _ (by decide +kernel))) (fun w h => ⟨List.mem_append_right _ (List.mem_append_right _ (List.mem_append_left _ h)), wg_X5has w h⟩)
theorem g_X9fall_X9within_88 : GoodIn w_X9fall (va_wsS RX9 88 yX9_within w_X9within) := goodIn_app (gi_left (goodIn_of _ (by decide +kernel))) (fun w h => ⟨List.mem_append_right _ (List.mem_append_right _ (List.mem_append_right _ (List.mem_append_left _ h))), wg_X9within w h⟩)
theorem g_X9fall_X9forget_96 : GoodIn w_X9fall (wsV RX9 96 RX9 yX9_forget w_X9forget) := goodIn_app (gi_left (goodIn_of _ (by decide +kernel))) (fun w h => ⟨List.mem_append_right _ (List.mem_append_right _ (List.mem_append_right _ (List.mem_append_right _ (List.mem_append_left _ h)))), wg_X9forget w h⟩)
set_option maxHeartbeats 4000000 in
set_option maxRecDepth 100000 in
theorem ct_X9fall (l : Launch) (E : gE) (B : Nat → Nat) (Q : Int32 → VS → Prop) (p1 : Int32) (p2 : Int32) (σ : VS) (hw : wp_X9fall Q p1 p2 σ) : CtI l E yX9_fall w_X9fall (({ frames := 1, cells := 0, slots := 0, locals := 22 } : Room)) (wc E B σ) [.ref (B 0), .int p1, .int p2] (fun r w => ∃ σ' : VS, Q r σ' ∧ w = wc E B σ') := by
  refine VC_I (cc := cX9_fall) (mL := 4) (rt := (some .int)) (lv0 := [(0, .ref (B 0)), (1, .int p1), (2, .int p2)]) rfl (by decide) rfl (Nat.le_of_ble_eq_true rfl) ?_
  intro p e s m below meth c A F
  replace F : Fx p s m _ meth c A E cX9_fall 4 (some .int) RX9 w_X9fall := F
  have J_18 : ∀ (σ : VS), b_X9fall_18 Q σ → WB p l e (({ frames := 1, cells := 0, slots := 0, locals := 22 } : Room)) s m (#[.ref (B 0), .int p1, .int p2]) below meth c (MQ below (va_Qi (fun r w => ∃ σ' : VS, Q r σ' ∧ w = wc E B σ') (AftU E A) A) (#[.ref (B 0), .int p1, .int p2]) s (({ frames := 1, cells := 0, slots := 0, locals := 22 } : Room)).cells (({ frames := 1, cells := 0, slots := 0, locals := 22 } : Room)).slots A) A E (wc E B) 4 18 [] [] σ := by
    intro σ hw
    unfold b_X9fall_18 at hw
    refine R_iconst F (-1) dX9_fall_18 (by decide) ?_
    exact R_iret (Qc := Q) F rfl dX9_fall_19 hw
  unfold wp_X9fall at hw
  refine R_iload_n F dX9_fall_0 rfl 1 rfl ?_
  refine R_callIS (As := [.int p1]) (C := RX10) (q0 := 0) (ci := 10) (b := 0) (N := 69) (T := TX10) (fs := fun _ => []) F (ct_X5has l E B _ p1 _ hw) (va_cwS 1 F.2.2.2.2.2.2.2.2.2.2 g_X9fall_X5has_81 rfl rfl rfl (by decide +kernel) ⟨Nat.le_of_ble_eq_true rfl, Nat.le_of_ble_eq_true rfl⟩) ⟨rfl, rfl⟩ rfl rfl (Nat.le_of_ble_eq_true rfl) dX9_fall_1 (fun r1 σ2 hw => ?_)
  refine R_if_eq (tgt := 18) F dX9_fall_4 (by decide) (fun hc => ?_) (fun hc => ?_)
  · replace hw := hw.1 hc
    exact R_sub [] rfl (J_18 σ2 hw)
  · replace hw := hw.2 hc
    refine R_iload_n F dX9_fall_7 rfl 2 rfl ?_
    refine R_iconst F 0 dX9_fall_8 (by decide) ?_
    refine R_sipush F 1000 dX9_fall_9 (by decide) ?_
    refine R_callIS (As := [.int p2, .int 0, .int 1000]) (C := RX10) (q0 := 0) (ci := 10) (b := 0) (N := 69) (T := TX10) (fs := fun _ => []) F (ct_X9within l E B _ p2 0 1000 _ hw) (va_cwS 3 F.2.2.2.2.2.2.2.2.2.2 g_X9fall_X9within_88 rfl rfl rfl (by decide +kernel) ⟨Nat.le_of_ble_eq_true rfl, Nat.le_of_ble_eq_true rfl⟩) ⟨rfl, rfl⟩ rfl rfl (Nat.le_of_ble_eq_true rfl) dX9_fall_12 (fun r3 σ4 hw => ?_)
    refine R_if_ne (tgt := 20) F dX9_fall_15 (by decide) (fun hc => ?_) (fun hc => ?_)
    · replace hw := hw.1 hc
      refine R_aload_n F dX9_fall_20 rfl 0 rfl ?_
      refine gc_RX9_40_0 F in_X9fall dX9_fall_21 ?_
      refine gc_RX9_168_5 F in_X9fall dX9_fall_24 ?_
      refine R_iload_n F dX9_fall_27 rfl 1 rfl ?_
      refine R_ldi F qc_38 dX9_fall_28 hw.1 ?_
      replace hw := hw.2
      refine R_topi (fun x5 ex5 => ?_)
      replace hw := hw x5 ex5
      refine R_istore_n (lv' := [(3, .int x5), (0, .ref (B 0)), (1, .int p1), (2, .int p2)]) F dX9_fall_29 rfl (by decide) rfl ?_
      refine R_aload_n F dX9_fall_30 rfl 1 rfl ?_
      refine gc_RX9_40_0 F in_X9fall dX9_fall_31 ?_
      refine gc_RX9_168_5 F in_X9fall dX9_fall_34 ?_
      refine R_iload_n F dX9_fall_37 rfl 2 rfl ?_
      refine R_iload_n F dX9_fall_38 rfl 3 rfl ?_
      have hi := hw.1
      replace hw := hw.2
      refine R_sti F qc_38 uc_38 dX9_fall_39 hi ?_
      refine R_aload_n F dX9_fall_40 rfl 1 rfl ?_
      refine R_callV (As := []) (C := RX9) (q0 := 0) (ci := 9) (N := 12) (T := TX9) (fs := cf_0 B) F (ct_X9forget l E B _ _ hw) (cwV 0 F.2.2.2.2.2.2.2.2.2.2 g_X9fall_X9forget_96 rfl rfl rfl (by decide +kernel) ⟨Nat.le_of_ble_eq_true rfl, Nat.le_of_ble_eq_true rfl⟩) ⟨rfl, rfl⟩ rfl (fun _ => rfl) rfl rfl (Nat.le_of_ble_eq_true rfl) dX9_fall_41 (fun σ7 hw => ?_)
      refine R_iload_n F dX9_fall_44 rfl 0 rfl ?_
      exact R_iret (Qc := Q) F rfl dX9_fall_45 hw
    · replace hw := hw.2 hc
      exact R_sub [] rfl (J_18 σ4 hw)
def b_X9corner_22 (Q : Int32 → VS → Prop) (σ : VS) : Prop := Q (-1) σ
def wp_X9corner (Q : Int32 → VS → Prop) (p1 : Int32) (p2 : Int32) (σ : VS) : Prop := wp_X9within (fun (r1 : Int32) (σ2 : VS) => ((r1.toInt = 0 → b_X9corner_22 Q σ2) ∧ (r1.toInt ≠ 0 → wp_X9within (fun (r3 : Int32) (σ4 : VS) => ((r3.toInt ≠ 0 → wp_X9forget (fun (σ6 : VS) => Q 0 σ6) (sf (sf σ4 7 p1) 8 p2)) ∧ (r3.toInt = 0 → b_X9corner_22 Q σ4))) p2 0 500 σ2))) p1 0 500 σ
theorem dX9_corner_0 : decode cX9_corner 0 = .ok (.iload_n 1, 1) := by decide +kernel
theorem dX9_corner_1 : decode cX9_corner 1 = .ok (.iconst 0, 1) := by decide +kernel
theorem dX9_corner_2 : decode cX9_corner 2 = .ok (.sipush 500, 3) := by decide +kernel
theorem dX9_corner_5 : decode cX9_corner 5 = .ok (.invokestatic 88, 3) := by decide +kernel
theorem dX9_corner_8 : decode cX9_corner 8 = .ok (.ifCond .eq 14, 3) := by decide +kernel
theorem dX9_corner_11 : decode cX9_corner 11 = .ok (.iload_n 2, 1) := by decide +kernel
theorem dX9_corner_12 : decode cX9_corner 12 = .ok (.iconst 0, 1) := by decide +kernel
theorem dX9_corner_13 : decode cX9_corner 13 = .ok (.sipush 500, 3) := by decide +kernel
theorem dX9_corner_16 : decode cX9_corner 16 = .ok (.invokestatic 88, 3) := by decide +kernel
theorem dX9_corner_19 : decode cX9_corner 19 = .ok (.ifCond .ne 5, 3) := by decide +kernel
theorem dX9_corner_24 : decode cX9_corner 24 = .ok (.aload_n 0, 1) := by decide +kernel
theorem dX9_corner_25 : decode cX9_corner 25 = .ok (.getfield 40, 3) := by decide +kernel
theorem dX9_corner_28 : decode cX9_corner 28 = .ok (.iload_n 1, 1) := by decide +kernel
theorem dX9_corner_29 : decode cX9_corner 29 = .ok (.putfield 171, 3) := by decide +kernel
theorem dX9_corner_32 : decode cX9_corner 32 = .ok (.aload_n 0, 1) := by decide +kernel
theorem dX9_corner_33 : decode cX9_corner 33 = .ok (.getfield 40, 3) := by decide +kernel
theorem dX9_corner_36 : decode cX9_corner 36 = .ok (.iload_n 2, 1) := by decide +kernel
theorem dX9_corner_37 : decode cX9_corner 37 = .ok (.putfield 174, 3) := by decide +kernel
theorem dX9_corner_40 : decode cX9_corner 40 = .ok (.aload_n 0, 1) := by decide +kernel
theorem dX9_corner_41 : decode cX9_corner 41 = .ok (.invokevirtual 96, 3) := by decide +kernel
theorem dX9_corner_44 : decode cX9_corner 44 = .ok (.iconst 0, 1) := by decide +kernel
theorem dX9_corner_45 : decode cX9_corner 45 = .ok (.ireturn, 1) := by decide +kernel
theorem dX9_corner_22 : decode cX9_corner 22 = .ok (.iconst (-1), 1) := by decide +kernel
theorem dX9_corner_23 : decode cX9_corner 23 = .ok (.ireturn, 1) := by decide +kernel
def wo_X9corner : List Cond := [.code yX9_corner cX9_corner 3 (some .int), .methodLink RX9 88 yX9_within, .static yX9_within, .initialized RX9, .methodLink RX9 96 yX9_forget, .instanceMethod yX9_forget, .selects RX9 yX9_forget yX9_forget]
def wr_X9corner : List Cond := (wfC ++ (w_X9within ++ (w_X9forget ++ ([]))))
def w_X9corner : List Cond := wo_X9corner ++ wr_X9corner
theorem wg_X9corner : GW w_X9corner := GW_app (GW_of (by decide +kernel)) (GW_app (wg_fC) (GW_app (wg_X9within) (GW_app (wg_X9forget) (GW_nil))))
theorem in_X9corner : ∀ w ∈ wfC, w ∈ w_X9corner := fun _ h => List.mem_append_right _ (List.mem_append_left _ h)
theorem g_X9corner_X9within_88 : GoodIn w_X9corner (va_wsS RX9 88 yX9_within w_X9within) := goodIn_app (gi_left (goodIn_of _ (by decide +kernel))) (fun w h => ⟨List.mem_append_right _ (List.mem_append_right _ (List.mem_append_left _ h)), wg_X9within w h⟩)
theorem g_X9corner_X9forget_96 : GoodIn w_X9corner (wsV RX9 96 RX9 yX9_forget w_X9forget) := goodIn_app (gi_left (goodIn_of _ (by decide +kernel))) (fun w h => ⟨List.mem_append_right _ (List.mem_append_right _ (List.mem_append_right _ (List.mem_append_left _ h))), wg_X9forget w h⟩)
set_option maxHeartbeats 4000000 in
set_option maxRecDepth 100000 in
theorem ct_X9corner (l : Launch) (E : gE) (B : Nat → Nat) (Q : Int32 → VS → Prop) (p1 : Int32) (p2 : Int32) (σ : VS) (hw : wp_X9corner Q p1 p2 σ) : CtI l E yX9_corner w_X9corner (({ frames := 1, cells := 0, slots := 0, locals := 22 } : Room)) (wc E B σ) [.ref (B 0), .int p1, .int p2] (fun r w => ∃ σ' : VS, Q r σ' ∧ w = wc E B σ') := by
  refine VC_I (cc := cX9_corner) (mL := 3) (rt := (some .int)) (lv0 := [(0, .ref (B 0)), (1, .int p1), (2, .int p2)]) rfl (by decide) rfl (Nat.le_of_ble_eq_true rfl) ?_
  intro p e s m below meth c A F
  replace F : Fx p s m _ meth c A E cX9_corner 3 (some .int) RX9 w_X9corner := F
  have J_22 : ∀ (σ : VS), b_X9corner_22 Q σ → WB p l e (({ frames := 1, cells := 0, slots := 0, locals := 22 } : Room)) s m (#[.ref (B 0), .int p1, .int p2]) below meth c (MQ below (va_Qi (fun r w => ∃ σ' : VS, Q r σ' ∧ w = wc E B σ') (AftU E A) A) (#[.ref (B 0), .int p1, .int p2]) s (({ frames := 1, cells := 0, slots := 0, locals := 22 } : Room)).cells (({ frames := 1, cells := 0, slots := 0, locals := 22 } : Room)).slots A) A E (wc E B) 3 22 [] [] σ := by
    intro σ hw
    unfold b_X9corner_22 at hw
    refine R_iconst F (-1) dX9_corner_22 (by decide) ?_
    exact R_iret (Qc := Q) F rfl dX9_corner_23 hw
  unfold wp_X9corner at hw
  refine R_iload_n F dX9_corner_0 rfl 1 rfl ?_
  refine R_iconst F 0 dX9_corner_1 (by decide) ?_
  refine R_sipush F 500 dX9_corner_2 (by decide) ?_
  refine R_callIS (As := [.int p1, .int 0, .int 500]) (C := RX10) (q0 := 0) (ci := 10) (b := 0) (N := 69) (T := TX10) (fs := fun _ => []) F (ct_X9within l E B _ p1 0 500 _ hw) (va_cwS 3 F.2.2.2.2.2.2.2.2.2.2 g_X9corner_X9within_88 rfl rfl rfl (by decide +kernel) ⟨Nat.le_of_ble_eq_true rfl, Nat.le_of_ble_eq_true rfl⟩) ⟨rfl, rfl⟩ rfl rfl (Nat.le_of_ble_eq_true rfl) dX9_corner_5 (fun r1 σ2 hw => ?_)
  refine R_if_eq (tgt := 22) F dX9_corner_8 (by decide) (fun hc => ?_) (fun hc => ?_)
  · replace hw := hw.1 hc
    exact R_sub [] rfl (J_22 σ2 hw)
  · replace hw := hw.2 hc
    refine R_iload_n F dX9_corner_11 rfl 2 rfl ?_
    refine R_iconst F 0 dX9_corner_12 (by decide) ?_
    refine R_sipush F 500 dX9_corner_13 (by decide) ?_
    refine R_callIS (As := [.int p2, .int 0, .int 500]) (C := RX10) (q0 := 0) (ci := 10) (b := 0) (N := 69) (T := TX10) (fs := fun _ => []) F (ct_X9within l E B _ p2 0 500 _ hw) (va_cwS 3 F.2.2.2.2.2.2.2.2.2.2 g_X9corner_X9within_88 rfl rfl rfl (by decide +kernel) ⟨Nat.le_of_ble_eq_true rfl, Nat.le_of_ble_eq_true rfl⟩) ⟨rfl, rfl⟩ rfl rfl (Nat.le_of_ble_eq_true rfl) dX9_corner_16 (fun r3 σ4 hw => ?_)
    refine R_if_ne (tgt := 24) F dX9_corner_19 (by decide) (fun hc => ?_) (fun hc => ?_)
    · replace hw := hw.1 hc
      refine R_aload_n F dX9_corner_24 rfl 0 rfl ?_
      refine gc_RX9_40_0 F in_X9corner dX9_corner_25 ?_
      refine R_iload_n F dX9_corner_28 rfl 1 rfl ?_
      refine pc_RX9_171_5 F in_X9corner dX9_corner_29 ?_
      refine R_aload_n F dX9_corner_32 rfl 0 rfl ?_
      refine gc_RX9_40_0 F in_X9corner dX9_corner_33 ?_
      refine R_iload_n F dX9_corner_36 rfl 2 rfl ?_
      refine pc_RX9_174_5 F in_X9corner dX9_corner_37 ?_
      refine R_aload_n F dX9_corner_40 rfl 0 rfl ?_
      refine R_callV (As := []) (C := RX9) (q0 := 0) (ci := 9) (N := 12) (T := TX9) (fs := cf_0 B) F (ct_X9forget l E B _ _ hw) (cwV 0 F.2.2.2.2.2.2.2.2.2.2 g_X9corner_X9forget_96 rfl rfl rfl (by decide +kernel) ⟨Nat.le_of_ble_eq_true rfl, Nat.le_of_ble_eq_true rfl⟩) ⟨rfl, rfl⟩ rfl (fun _ => rfl) rfl rfl (Nat.le_of_ble_eq_true rfl) dX9_corner_41 (fun σ6 hw => ?_)
      refine R_iconst F 0 dX9_corner_44 (by decide) ?_
      exact R_iret (Qc := Q) F rfl dX9_corner_45 hw
    · replace hw := hw.2 hc
      exact R_sub [] rfl (J_22 σ4 hw)
def wp_X9period (Q : Int32 → VS → Prop) (p1 : Int32) (σ : VS) : Prop := wp_X9within (fun (r1 : Int32) (σ2 : VS) => ((r1.toInt ≠ 0 → (∀ x3 : Int32, x3 = (σ2.1 4) → wp_X9forget (fun (σ5 : VS) => Q x3 σ5) (sf σ2 4 p1))) ∧ (r1.toInt = 0 → Q (-1) σ2))) p1 1 1000000 σ
theorem dX9_period_0 : decode cX9_period 0 = .ok (.iload_n 1, 1) := by decide +kernel
theorem dX9_period_1 : decode cX9_period 1 = .ok (.iconst 1, 1) := by decide +kernel
theorem dX9_period_2 : decode cX9_period 2 = .ok (.ldc 177, 2) := by decide +kernel
theorem dX9_period_4 : decode cX9_period 4 = .ok (.invokestatic 88, 3) := by decide +kernel
theorem dX9_period_7 : decode cX9_period 7 = .ok (.ifCond .ne 5, 3) := by decide +kernel
theorem dX9_period_12 : decode cX9_period 12 = .ok (.aload_n 0, 1) := by decide +kernel
theorem dX9_period_13 : decode cX9_period 13 = .ok (.getfield 26, 3) := by decide +kernel
theorem dX9_period_16 : decode cX9_period 16 = .ok (.getfield 178, 3) := by decide +kernel
theorem dX9_period_19 : decode cX9_period 19 = .ok (.istore_n 2, 1) := by decide +kernel
theorem dX9_period_20 : decode cX9_period 20 = .ok (.aload_n 0, 1) := by decide +kernel
theorem dX9_period_21 : decode cX9_period 21 = .ok (.getfield 26, 3) := by decide +kernel
theorem dX9_period_24 : decode cX9_period 24 = .ok (.iload_n 1, 1) := by decide +kernel
theorem dX9_period_25 : decode cX9_period 25 = .ok (.putfield 178, 3) := by decide +kernel
theorem dX9_period_28 : decode cX9_period 28 = .ok (.aload_n 0, 1) := by decide +kernel
theorem dX9_period_29 : decode cX9_period 29 = .ok (.invokevirtual 96, 3) := by decide +kernel
theorem dX9_period_32 : decode cX9_period 32 = .ok (.iload_n 2, 1) := by decide +kernel
theorem dX9_period_33 : decode cX9_period 33 = .ok (.ireturn, 1) := by decide +kernel
theorem dX9_period_10 : decode cX9_period 10 = .ok (.iconst (-1), 1) := by decide +kernel
theorem dX9_period_11 : decode cX9_period 11 = .ok (.ireturn, 1) := by decide +kernel
def wo_X9period : List Cond := [.code yX9_period cX9_period 3 (some .int), .constant RX9 177 1000000, .methodLink RX9 88 yX9_within, .static yX9_within, .initialized RX9, .methodLink RX9 96 yX9_forget, .instanceMethod yX9_forget, .selects RX9 yX9_forget yX9_forget]
def wr_X9period : List Cond := (wfC ++ (w_X9within ++ (w_X9forget ++ ([]))))
def w_X9period : List Cond := wo_X9period ++ wr_X9period
theorem wg_X9period : GW w_X9period := GW_app (GW_of (by decide +kernel)) (GW_app (wg_fC) (GW_app (wg_X9within) (GW_app (wg_X9forget) (GW_nil))))
theorem in_X9period : ∀ w ∈ wfC, w ∈ w_X9period := fun _ h => List.mem_append_right _ (List.mem_append_left _ h)
theorem g_X9period_X9within_88 : GoodIn w_X9period (va_wsS RX9 88 yX9_within w_X9within) := goodIn_app (gi_left (goodIn_of _ (by decide +kernel))) (fun w h => ⟨List.mem_append_right _ (List.mem_append_right _ (List.mem_append_left _ h)), wg_X9within w h⟩)
theorem g_X9period_X9forget_96 : GoodIn w_X9period (wsV RX9 96 RX9 yX9_forget w_X9forget) := goodIn_app (gi_left (goodIn_of _ (by decide +kernel))) (fun w h => ⟨List.mem_append_right _ (List.mem_append_right _ (List.mem_append_right _ (List.mem_append_left _ h))), wg_X9forget w h⟩)
set_option maxHeartbeats 4000000 in
set_option maxRecDepth 100000 in
theorem ct_X9period (l : Launch) (E : gE) (B : Nat → Nat) (Q : Int32 → VS → Prop) (p1 : Int32) (σ : VS) (hw : wp_X9period Q p1 σ) : CtI l E yX9_period w_X9period (({ frames := 1, cells := 0, slots := 0, locals := 22 } : Room)) (wc E B σ) [.ref (B 0), .int p1] (fun r w => ∃ σ' : VS, Q r σ' ∧ w = wc E B σ') := by
  refine VC_I (cc := cX9_period) (mL := 3) (rt := (some .int)) (lv0 := [(0, .ref (B 0)), (1, .int p1)]) rfl (by decide) rfl (Nat.le_of_ble_eq_true rfl) ?_
  intro p e s m below meth c A F
  replace F : Fx p s m _ meth c A E cX9_period 3 (some .int) RX9 w_X9period := F
  unfold wp_X9period at hw
  refine R_iload_n F dX9_period_0 rfl 1 rfl ?_
  refine R_iconst F 1 dX9_period_1 (by decide) ?_
  refine R_ldc F 1000000 (List.mem_append_left _ (show Cond.constant RX9 177 1000000 ∈ wo_X9period by decide +kernel)) dX9_period_2 ?_
  refine R_callIS (As := [.int p1, .int 1, .int 1000000]) (C := RX10) (q0 := 0) (ci := 10) (b := 0) (N := 69) (T := TX10) (fs := fun _ => []) F (ct_X9within l E B _ p1 1 1000000 _ hw) (va_cwS 3 F.2.2.2.2.2.2.2.2.2.2 g_X9period_X9within_88 rfl rfl rfl (by decide +kernel) ⟨Nat.le_of_ble_eq_true rfl, Nat.le_of_ble_eq_true rfl⟩) ⟨rfl, rfl⟩ rfl rfl (Nat.le_of_ble_eq_true rfl) dX9_period_4 (fun r1 σ2 hw => ?_)
  refine R_if_ne (tgt := 12) F dX9_period_7 (by decide) (fun hc => ?_) (fun hc => ?_)
  · replace hw := hw.1 hc
    refine R_aload_n F dX9_period_12 rfl 0 rfl ?_
    refine gc_RX9_26_0 F in_X9period dX9_period_13 ?_
    refine gc_RX9_178_3 F in_X9period dX9_period_16 ?_
    refine R_topi (fun x3 ex3 => ?_)
    replace hw := hw x3 ex3
    refine R_istore_n (lv' := [(2, .int x3), (0, .ref (B 0)), (1, .int p1)]) F dX9_period_19 rfl (by decide) rfl ?_
    refine R_aload_n F dX9_period_20 rfl 1 rfl ?_
    refine gc_RX9_26_0 F in_X9period dX9_period_21 ?_
    refine R_iload_n F dX9_period_24 rfl 2 rfl ?_
    refine pc_RX9_178_3 F in_X9period dX9_period_25 ?_
    refine R_aload_n F dX9_period_28 rfl 1 rfl ?_
    refine R_callV (As := []) (C := RX9) (q0 := 0) (ci := 9) (N := 12) (T := TX9) (fs := cf_0 B) F (ct_X9forget l E B _ _ hw) (cwV 0 F.2.2.2.2.2.2.2.2.2.2 g_X9period_X9forget_96 rfl rfl rfl (by decide +kernel) ⟨Nat.le_of_ble_eq_true rfl, Nat.le_of_ble_eq_true rfl⟩) ⟨rfl, rfl⟩ rfl (fun _ => rfl) rfl rfl (Nat.le_of_ble_eq_true rfl) dX9_period_29 (fun σ5 hw => ?_)
    refine R_iload_n F dX9_period_32 rfl 0 rfl ?_
    exact R_iret (Qc := Q) F rfl dX9_period_33 hw
  · replace hw := hw.2 hc
    refine R_iconst F (-1) dX9_period_10 (by decide) ?_
    exact R_iret (Qc := Q) F rfl dX9_period_11 hw
def b_X9node_26 (Q : Int32 → VS → Prop) (σ : VS) : Prop := Q (-1) σ
def wp_X9node (Q : Int32 → VS → Prop) (p1 : Int32) (p2 : Int32) (p3 : Int32) (σ : VS) : Prop := wp_X0hasOrRoot (fun (r1 : Int32) (σ2 : VS) => ((r1.toInt = 0 → b_X9node_26 Q σ2) ∧ (r1.toInt ≠ 0 → ((p2.toInt < 0 → b_X9node_26 Q σ2) ∧ (0 ≤ p2.toInt → ((p3.toInt < p2.toInt → b_X9node_26 Q σ2) ∧ (p2.toInt ≤ p3.toInt → ((p3.toInt ≤ 100000 → (((σ2.1 5).toInt < 20 → wp_X0addNode (fun (r3 : Int32) (σ4 : VS) => Q r3 σ4) p1 p2 p3 σ2) ∧ (20 ≤ (σ2.1 5).toInt → Q (-3) σ2))) ∧ (100000 < p3.toInt → b_X9node_26 Q σ2))))))))) p1 σ
theorem dX9_node_0 : decode cX9_node 0 = .ok (.aload_n 0, 1) := by decide +kernel
theorem dX9_node_1 : decode cX9_node 1 = .ok (.getfield 26, 3) := by decide +kernel
theorem dX9_node_4 : decode cX9_node 4 = .ok (.iload_n 1, 1) := by decide +kernel
theorem dX9_node_5 : decode cX9_node 5 = .ok (.invokevirtual 138, 3) := by decide +kernel
theorem dX9_node_8 : decode cX9_node 8 = .ok (.ifCond .eq 18, 3) := by decide +kernel
theorem dX9_node_11 : decode cX9_node 11 = .ok (.iload_n 2, 1) := by decide +kernel
theorem dX9_node_12 : decode cX9_node 12 = .ok (.ifCond .lt 14, 3) := by decide +kernel
theorem dX9_node_15 : decode cX9_node 15 = .ok (.iload_n 2, 1) := by decide +kernel
theorem dX9_node_16 : decode cX9_node 16 = .ok (.iload_n 3, 1) := by decide +kernel
theorem dX9_node_17 : decode cX9_node 17 = .ok (.if_icmp .gt 9, 3) := by decide +kernel
theorem dX9_node_20 : decode cX9_node 20 = .ok (.iload_n 3, 1) := by decide +kernel
theorem dX9_node_21 : decode cX9_node 21 = .ok (.ldc 128, 2) := by decide +kernel
theorem dX9_node_23 : decode cX9_node 23 = .ok (.if_icmp .le 5, 3) := by decide +kernel
theorem dX9_node_28 : decode cX9_node 28 = .ok (.aload_n 0, 1) := by decide +kernel
theorem dX9_node_29 : decode cX9_node 29 = .ok (.getfield 26, 3) := by decide +kernel
theorem dX9_node_32 : decode cX9_node 32 = .ok (.getfield 181, 3) := by decide +kernel
theorem dX9_node_35 : decode cX9_node 35 = .ok (.bipush 20, 2) := by decide +kernel
theorem dX9_node_37 : decode cX9_node 37 = .ok (.if_icmp .lt 6, 3) := by decide +kernel
theorem dX9_node_43 : decode cX9_node 43 = .ok (.aload_n 0, 1) := by decide +kernel
theorem dX9_node_44 : decode cX9_node 44 = .ok (.getfield 26, 3) := by decide +kernel
theorem dX9_node_47 : decode cX9_node 47 = .ok (.iload_n 1, 1) := by decide +kernel
theorem dX9_node_48 : decode cX9_node 48 = .ok (.iload_n 2, 1) := by decide +kernel
theorem dX9_node_49 : decode cX9_node 49 = .ok (.iload_n 3, 1) := by decide +kernel
theorem dX9_node_50 : decode cX9_node 50 = .ok (.invokevirtual 183, 3) := by decide +kernel
theorem dX9_node_53 : decode cX9_node 53 = .ok (.ireturn, 1) := by decide +kernel
theorem dX9_node_40 : decode cX9_node 40 = .ok (.bipush (-3), 2) := by decide +kernel
theorem dX9_node_42 : decode cX9_node 42 = .ok (.ireturn, 1) := by decide +kernel
theorem dX9_node_26 : decode cX9_node 26 = .ok (.iconst (-1), 1) := by decide +kernel
theorem dX9_node_27 : decode cX9_node 27 = .ok (.ireturn, 1) := by decide +kernel
def wo_X9node : List Cond := [.code yX9_node cX9_node 4 (some .int), .methodLink RX9 138 yX0_hasOrRoot, .instanceMethod yX0_hasOrRoot, .selects RX0 yX0_hasOrRoot yX0_hasOrRoot, .initialized RX0, .constant RX9 128 100000, .methodLink RX9 183 yX0_addNode, .instanceMethod yX0_addNode, .selects RX0 yX0_addNode yX0_addNode]
def wr_X9node : List Cond := (wfC ++ (w_X0hasOrRoot ++ (w_X0addNode ++ ([]))))
def w_X9node : List Cond := wo_X9node ++ wr_X9node
theorem wg_X9node : GW w_X9node := GW_app (GW_of (by decide +kernel)) (GW_app (wg_fC) (GW_app (wg_X0hasOrRoot) (GW_app (wg_X0addNode) (GW_nil))))
theorem in_X9node : ∀ w ∈ wfC, w ∈ w_X9node := fun _ h => List.mem_append_right _ (List.mem_append_left _ h)
theorem g_X9node_X0hasOrRoot_138 : GoodIn w_X9node (wsV RX9 138 RX0 yX0_hasOrRoot w_X0hasOrRoot) := goodIn_app (gi_left (goodIn_of _ (by decide +kernel))) (fun w h => ⟨List.mem_append_right _ (List.mem_append_right _ (List.mem_append_left _ h)), wg_X0hasOrRoot w h⟩)
theorem g_X9node_X0addNode_183 : GoodIn w_X9node (wsV RX9 183 RX0 yX0_addNode w_X0addNode) := goodIn_app (gi_left (goodIn_of _ (by decide +kernel))) (fun w h => ⟨List.mem_append_right _ (List.mem_append_right _ (List.mem_append_right _ (List.mem_append_left _ h))), wg_X0addNode w h⟩)
set_option maxHeartbeats 4000000 in
set_option maxRecDepth 100000 in
theorem ct_X9node (l : Launch) (E : gE) (B : Nat → Nat) (Q : Int32 → VS → Prop) (p1 : Int32) (p2 : Int32) (p3 : Int32) (σ : VS) (hw : wp_X9node Q p1 p2 p3 σ) : CtI l E yX9_node w_X9node (({ frames := 2, cells := 0, slots := 0, locals := 45 } : Room)) (wc E B σ) [.ref (B 0), .int p1, .int p2, .int p3] (fun r w => ∃ σ' : VS, Q r σ' ∧ w = wc E B σ') := by
  refine VC_I (cc := cX9_node) (mL := 4) (rt := (some .int)) (lv0 := [(0, .ref (B 0)), (1, .int p1), (2, .int p2), (3, .int p3)]) rfl (by decide) rfl (Nat.le_of_ble_eq_true rfl) ?_
  intro p e s m below meth c A F
  replace F : Fx p s m _ meth c A E cX9_node 4 (some .int) RX9 w_X9node := F
  have J_26 : ∀ (σ : VS), b_X9node_26 Q σ → WB p l e (({ frames := 2, cells := 0, slots := 0, locals := 45 } : Room)) s m (#[.ref (B 0), .int p1, .int p2, .int p3]) below meth c (MQ below (va_Qi (fun r w => ∃ σ' : VS, Q r σ' ∧ w = wc E B σ') (AftU E A) A) (#[.ref (B 0), .int p1, .int p2, .int p3]) s (({ frames := 2, cells := 0, slots := 0, locals := 45 } : Room)).cells (({ frames := 2, cells := 0, slots := 0, locals := 45 } : Room)).slots A) A E (wc E B) 4 26 [] [] σ := by
    intro σ hw
    unfold b_X9node_26 at hw
    refine R_iconst F (-1) dX9_node_26 (by decide) ?_
    exact R_iret (Qc := Q) F rfl dX9_node_27 hw
  unfold wp_X9node at hw
  refine R_aload_n F dX9_node_0 rfl 0 rfl ?_
  refine gc_RX9_26_0 F in_X9node dX9_node_1 ?_
  refine R_iload_n F dX9_node_4 rfl 1 rfl ?_
  refine R_callI (As := [.int p1]) (C := RX0) (q0 := 3) (ci := 0) (N := 5) (T := TX0) (fs := cf_3 B) F (ct_X0hasOrRoot l E B _ p1 _ hw) (cwV 1 F.2.2.2.2.2.2.2.2.2.2 g_X9node_X0hasOrRoot_138 rfl rfl rfl (by decide +kernel) ⟨Nat.le_of_ble_eq_true rfl, Nat.le_of_ble_eq_true rfl⟩) ⟨rfl, rfl⟩ rfl (fun _ => rfl) rfl rfl (Nat.le_of_ble_eq_true rfl) dX9_node_5 (fun r1 σ2 hw => ?_)
  refine R_if_eq (tgt := 26) F dX9_node_8 (by decide) (fun hc => ?_) (fun hc => ?_)
  · replace hw := hw.1 hc
    exact R_sub [] rfl (J_26 σ2 hw)
  · replace hw := hw.2 hc
    refine R_iload_n F dX9_node_11 rfl 2 rfl ?_
    refine R_if_lt (tgt := 26) F dX9_node_12 (by decide) (fun hc => ?_) (fun hc => ?_)
    · replace hw := hw.1 hc
      exact R_sub [] rfl (J_26 σ2 hw)
    · replace hw := hw.2 hc
      refine R_iload_n F dX9_node_15 rfl 2 rfl ?_
      refine R_iload_n F dX9_node_16 rfl 3 rfl ?_
      refine R_icmp_gt (tgt := 26) F dX9_node_17 (by decide) (fun hc => ?_) (fun hc => ?_)
      · replace hw := hw.1 hc
        exact R_sub [] rfl (J_26 σ2 hw)
      · replace hw := hw.2 hc
        refine R_iload_n F dX9_node_20 rfl 3 rfl ?_
        refine R_ldc F 100000 (List.mem_append_left _ (show Cond.constant RX9 128 100000 ∈ wo_X9node by decide +kernel)) dX9_node_21 ?_
        refine R_icmp_le (tgt := 28) F dX9_node_23 (by decide) (fun hc => ?_) (fun hc => ?_)
        · replace hw := hw.1 hc
          refine R_aload_n F dX9_node_28 rfl 0 rfl ?_
          refine gc_RX9_26_0 F in_X9node dX9_node_29 ?_
          refine gc_RX9_181_3 F in_X9node dX9_node_32 ?_
          refine R_bipush F 20 dX9_node_35 (by decide) ?_
          refine R_icmp_lt (tgt := 43) F dX9_node_37 (by decide) (fun hc => ?_) (fun hc => ?_)
          · replace hw := hw.1 hc
            refine R_aload_n F dX9_node_43 rfl 0 rfl ?_
            refine gc_RX9_26_0 F in_X9node dX9_node_44 ?_
            refine R_iload_n F dX9_node_47 rfl 1 rfl ?_
            refine R_iload_n F dX9_node_48 rfl 2 rfl ?_
            refine R_iload_n F dX9_node_49 rfl 3 rfl ?_
            refine R_callI (As := [.int p1, .int p2, .int p3]) (C := RX0) (q0 := 3) (ci := 0) (N := 5) (T := TX0) (fs := cf_3 B) F (ct_X0addNode l E B _ p1 p2 p3 _ hw) (cwV 3 F.2.2.2.2.2.2.2.2.2.2 g_X9node_X0addNode_183 rfl rfl rfl (by decide +kernel) ⟨Nat.le_of_ble_eq_true rfl, Nat.le_of_ble_eq_true rfl⟩) ⟨rfl, rfl⟩ rfl (fun _ => rfl) rfl rfl (Nat.le_of_ble_eq_true rfl) dX9_node_50 (fun r3 σ4 hw => ?_)
            exact R_iret (Qc := Q) F rfl dX9_node_53 hw
          · replace hw := hw.2 hc
            refine R_bipush F (-3) dX9_node_40 (by decide) ?_
            exact R_iret (Qc := Q) F rfl dX9_node_42 hw
        · replace hw := hw.2 hc
          exact R_sub [] rfl (J_26 σ2 hw)
def b_X9except_58 (Q : Int32 → VS → Prop) (l1 : Int32) (l2 : Int32) (l3 : Int32) (l4 : Int32) (σ : VS) : Prop := (((σ.1 6).toInt < 4 → wp_X9forget (fun (σ10 : VS) => wp_X3addRule (fun (r11 : Int32) (σ12 : VS) => Q r11 σ12) l1 l2 l3 l4 σ10) σ) ∧ (4 ≤ (σ.1 6).toInt → Q (-3) σ))
def b_X9except_38 (Q : Int32 → VS → Prop) (σ : VS) : Prop := Q (-1) σ
def b_X9except_13 (Q : Int32 → VS → Prop) (l1 : Int32) (l2 : Int32) (l3 : Int32) (l4 : Int32) (σ : VS) : Prop := wp_X9hasOrAny (fun (r3 : Int32) (σ4 : VS) => ((r3.toInt = 0 → b_X9except_38 Q σ4) ∧ (r3.toInt ≠ 0 → wp_X9hasOrAny (fun (r5 : Int32) (σ6 : VS) => ((r5.toInt = 0 → b_X9except_38 Q σ6) ∧ (r5.toInt ≠ 0 → wp_X9hasOrAny (fun (r7 : Int32) (σ8 : VS) => ((r7.toInt ≠ 0 → ((l2.toInt ≠ (-1) → b_X9except_58 Q l1 l2 l3 l4 σ8) ∧ (l2.toInt = (-1) → ((l3.toInt ≠ (-1) → b_X9except_58 Q l1 l2 l3 l4 σ8) ∧ (l3.toInt = (-1) → ((l4.toInt ≠ (-1) → b_X9except_58 Q l1 l2 l3 l4 σ8) ∧ (l4.toInt = (-1) → Q (-1) σ8))))))) ∧ (r7.toInt = 0 → b_X9except_38 Q σ8))) l4 σ6))) l3 σ4))) l2 σ
def wp_X9except (Q : Int32 → VS → Prop) (p1 : Int32) (p2 : Int32) (p3 : Int32) (p4 : Int32) (σ : VS) : Prop := ((p1.toInt = 0 → b_X9except_13 Q p1 p2 p3 p4 σ) ∧ (p1.toInt ≠ 0 → wp_X9within (fun (r1 : Int32) (σ2 : VS) => ((r1.toInt = 0 → b_X9except_38 Q σ2) ∧ (r1.toInt ≠ 0 → b_X9except_13 Q p1 p2 p3 p4 σ2))) p1 2 4 σ))
theorem dX9_except_0 : decode cX9_except 0 = .ok (.iload_n 1, 1) := by decide +kernel
theorem dX9_except_1 : decode cX9_except 1 = .ok (.ifCond .eq 12, 3) := by decide +kernel
theorem dX9_except_4 : decode cX9_except 4 = .ok (.iload_n 1, 1) := by decide +kernel
theorem dX9_except_5 : decode cX9_except 5 = .ok (.iconst 2, 1) := by decide +kernel
theorem dX9_except_6 : decode cX9_except 6 = .ok (.iconst 4, 1) := by decide +kernel
theorem dX9_except_7 : decode cX9_except 7 = .ok (.invokestatic 88, 3) := by decide +kernel
theorem dX9_except_10 : decode cX9_except 10 = .ok (.ifCond .eq 28, 3) := by decide +kernel
theorem dX9_except_13 : decode cX9_except 13 = .ok (.aload_n 0, 1) := by decide +kernel
theorem dX9_except_14 : decode cX9_except 14 = .ok (.iload_n 2, 1) := by decide +kernel
theorem dX9_except_15 : decode cX9_except 15 = .ok (.invokevirtual 186, 3) := by decide +kernel
theorem dX9_except_18 : decode cX9_except 18 = .ok (.ifCond .eq 20, 3) := by decide +kernel
theorem dX9_except_21 : decode cX9_except 21 = .ok (.aload_n 0, 1) := by decide +kernel
theorem dX9_except_22 : decode cX9_except 22 = .ok (.iload_n 3, 1) := by decide +kernel
theorem dX9_except_23 : decode cX9_except 23 = .ok (.invokevirtual 186, 3) := by decide +kernel
theorem dX9_except_26 : decode cX9_except 26 = .ok (.ifCond .eq 12, 3) := by decide +kernel
theorem dX9_except_29 : decode cX9_except 29 = .ok (.aload_n 0, 1) := by decide +kernel
theorem dX9_except_30 : decode cX9_except 30 = .ok (.iload 4, 2) := by decide +kernel
theorem dX9_except_32 : decode cX9_except 32 = .ok (.invokevirtual 186, 3) := by decide +kernel
theorem dX9_except_35 : decode cX9_except 35 = .ok (.ifCond .ne 5, 3) := by decide +kernel
theorem dX9_except_40 : decode cX9_except 40 = .ok (.iload_n 2, 1) := by decide +kernel
theorem dX9_except_41 : decode cX9_except 41 = .ok (.iconst (-1), 1) := by decide +kernel
theorem dX9_except_42 : decode cX9_except 42 = .ok (.if_icmp .ne 16, 3) := by decide +kernel
theorem dX9_except_45 : decode cX9_except 45 = .ok (.iload_n 3, 1) := by decide +kernel
theorem dX9_except_46 : decode cX9_except 46 = .ok (.iconst (-1), 1) := by decide +kernel
theorem dX9_except_47 : decode cX9_except 47 = .ok (.if_icmp .ne 11, 3) := by decide +kernel
theorem dX9_except_50 : decode cX9_except 50 = .ok (.iload 4, 2) := by decide +kernel
theorem dX9_except_52 : decode cX9_except 52 = .ok (.iconst (-1), 1) := by decide +kernel
theorem dX9_except_53 : decode cX9_except 53 = .ok (.if_icmp .ne 5, 3) := by decide +kernel
theorem dX9_except_56 : decode cX9_except 56 = .ok (.iconst (-1), 1) := by decide +kernel
theorem dX9_except_57 : decode cX9_except 57 = .ok (.ireturn, 1) := by decide +kernel
theorem dX9_except_38 : decode cX9_except 38 = .ok (.iconst (-1), 1) := by decide +kernel
theorem dX9_except_39 : decode cX9_except 39 = .ok (.ireturn, 1) := by decide +kernel
theorem dX9_except_58 : decode cX9_except 58 = .ok (.aload_n 0, 1) := by decide +kernel
theorem dX9_except_59 : decode cX9_except 59 = .ok (.getfield 33, 3) := by decide +kernel
theorem dX9_except_62 : decode cX9_except 62 = .ok (.getfield 189, 3) := by decide +kernel
theorem dX9_except_65 : decode cX9_except 65 = .ok (.iconst 4, 1) := by decide +kernel
theorem dX9_except_66 : decode cX9_except 66 = .ok (.if_icmp .lt 6, 3) := by decide +kernel
theorem dX9_except_72 : decode cX9_except 72 = .ok (.aload_n 0, 1) := by decide +kernel
theorem dX9_except_73 : decode cX9_except 73 = .ok (.invokevirtual 96, 3) := by decide +kernel
theorem dX9_except_76 : decode cX9_except 76 = .ok (.aload_n 0, 1) := by decide +kernel
theorem dX9_except_77 : decode cX9_except 77 = .ok (.getfield 33, 3) := by decide +kernel
theorem dX9_except_80 : decode cX9_except 80 = .ok (.iload_n 1, 1) := by decide +kernel
theorem dX9_except_81 : decode cX9_except 81 = .ok (.iload_n 2, 1) := by decide +kernel
theorem dX9_except_82 : decode cX9_except 82 = .ok (.iload_n 3, 1) := by decide +kernel
theorem dX9_except_83 : decode cX9_except 83 = .ok (.iload 4, 2) := by decide +kernel
theorem dX9_except_85 : decode cX9_except 85 = .ok (.invokevirtual 192, 3) := by decide +kernel
theorem dX9_except_88 : decode cX9_except 88 = .ok (.ireturn, 1) := by decide +kernel
theorem dX9_except_69 : decode cX9_except 69 = .ok (.bipush (-3), 2) := by decide +kernel
theorem dX9_except_71 : decode cX9_except 71 = .ok (.ireturn, 1) := by decide +kernel
def wo_X9except : List Cond := [.code yX9_except cX9_except 5 (some .int), .methodLink RX9 88 yX9_within, .static yX9_within, .initialized RX9, .methodLink RX9 186 yX9_hasOrAny, .instanceMethod yX9_hasOrAny, .selects RX9 yX9_hasOrAny yX9_hasOrAny, .methodLink RX9 96 yX9_forget, .instanceMethod yX9_forget, .selects RX9 yX9_forget yX9_forget, .methodLink RX9 192 yX3_addRule, .instanceMethod yX3_addRule, .selects RX3 yX3_addRule yX3_addRule, .initialized RX3]
def wr_X9except : List Cond := (wfC ++ (w_X9within ++ (w_X9hasOrAny ++ (w_X9forget ++ (w_X3addRule ++ ([]))))))
def w_X9except : List Cond := wo_X9except ++ wr_X9except
theorem wg_X9except : GW w_X9except := GW_app (GW_of (by decide +kernel)) (GW_app (wg_fC) (GW_app (wg_X9within) (GW_app (wg_X9hasOrAny) (GW_app (wg_X9forget) (GW_app (wg_X3addRule) (GW_nil))))))
theorem in_X9except : ∀ w ∈ wfC, w ∈ w_X9except := fun _ h => List.mem_append_right _ (List.mem_append_left _ h)
theorem g_X9except_X9within_88 : GoodIn w_X9except (va_wsS RX9 88 yX9_within w_X9within) := goodIn_app (gi_left (goodIn_of _ (by decide +kernel))) (fun w h => ⟨List.mem_append_right _ (List.mem_append_right _ (List.mem_append_left _ h)), wg_X9within w h⟩)
theorem g_X9except_X9hasOrAny_186 : GoodIn w_X9except (wsV RX9 186 RX9 yX9_hasOrAny w_X9hasOrAny) := goodIn_app (gi_left (goodIn_of _ (by decide +kernel))) (fun w h => ⟨List.mem_append_right _ (List.mem_append_right _ (List.mem_append_right _ (List.mem_append_left _ h))), wg_X9hasOrAny w h⟩)
theorem g_X9except_X9forget_96 : GoodIn w_X9except (wsV RX9 96 RX9 yX9_forget w_X9forget) := goodIn_app (gi_left (goodIn_of _ (by decide +kernel))) (fun w h => ⟨List.mem_append_right _ (List.mem_append_right _ (List.mem_append_right _ (List.mem_append_right _ (List.mem_append_left _ h)))), wg_X9forget w h⟩)
theorem g_X9except_X3addRule_192 : GoodIn w_X9except (wsV RX9 192 RX3 yX3_addRule w_X3addRule) := goodIn_app (gi_left (goodIn_of _ (by decide +kernel))) (fun w h => ⟨List.mem_append_right _ (List.mem_append_right _ (List.mem_append_right _ (List.mem_append_right _ (List.mem_append_right _ (List.mem_append_left _ h))))), wg_X3addRule w h⟩)
set_option maxHeartbeats 4000000 in
set_option maxRecDepth 100000 in
theorem ct_X9except (l : Launch) (E : gE) (B : Nat → Nat) (Q : Int32 → VS → Prop) (p1 : Int32) (p2 : Int32) (p3 : Int32) (p4 : Int32) (σ : VS) (hw : wp_X9except Q p1 p2 p3 p4 σ) : CtI l E yX9_except w_X9except (({ frames := 2, cells := 0, slots := 0, locals := 47 } : Room)) (wc E B σ) [.ref (B 0), .int p1, .int p2, .int p3, .int p4] (fun r w => ∃ σ' : VS, Q r σ' ∧ w = wc E B σ') := by
  refine VC_I (cc := cX9_except) (mL := 5) (rt := (some .int)) (lv0 := [(0, .ref (B 0)), (1, .int p1), (2, .int p2), (3, .int p3), (4, .int p4)]) rfl (by decide) rfl (Nat.le_of_ble_eq_true rfl) ?_
  intro p e s m below meth c A F
  replace F : Fx p s m _ meth c A E cX9_except 5 (some .int) RX9 w_X9except := F
  have J_58 : ∀ (l1 : Int32) (l2 : Int32) (l3 : Int32) (l4 : Int32) (σ : VS), b_X9except_58 Q l1 l2 l3 l4 σ → WB p l e (({ frames := 2, cells := 0, slots := 0, locals := 47 } : Room)) s m (#[.ref (B 0), .int p1, .int p2, .int p3, .int p4]) below meth c (MQ below (va_Qi (fun r w => ∃ σ' : VS, Q r σ' ∧ w = wc E B σ') (AftU E A) A) (#[.ref (B 0), .int p1, .int p2, .int p3, .int p4]) s (({ frames := 2, cells := 0, slots := 0, locals := 47 } : Room)).cells (({ frames := 2, cells := 0, slots := 0, locals := 47 } : Room)).slots A) A E (wc E B) 5 58 [(0, .ref (B 0)), (1, .int l1), (2, .int l2), (3, .int l3), (4, .int l4)] [] σ := by
    intro l1 l2 l3 l4 σ hw
    unfold b_X9except_58 at hw
    refine R_aload_n F dX9_except_58 rfl 0 rfl ?_
    refine gc_RX9_33_0 F in_X9except dX9_except_59 ?_
    refine gc_RX9_189_4 F in_X9except dX9_except_62 ?_
    refine R_iconst F 4 dX9_except_65 (by decide) ?_
    refine R_icmp_lt (tgt := 72) F dX9_except_66 (by decide) (fun hc => ?_) (fun hc => ?_)
    · replace hw := hw.1 hc
      refine R_aload_n F dX9_except_72 rfl 0 rfl ?_
      refine R_callV (As := []) (C := RX9) (q0 := 0) (ci := 9) (N := 12) (T := TX9) (fs := cf_0 B) F (ct_X9forget l E B _ _ hw) (cwV 0 F.2.2.2.2.2.2.2.2.2.2 g_X9except_X9forget_96 rfl rfl rfl (by decide +kernel) ⟨Nat.le_of_ble_eq_true rfl, Nat.le_of_ble_eq_true rfl⟩) ⟨rfl, rfl⟩ rfl (fun _ => rfl) rfl rfl (Nat.le_of_ble_eq_true rfl) dX9_except_73 (fun σ10 hw => ?_)
      refine R_aload_n F dX9_except_76 rfl 0 rfl ?_
      refine gc_RX9_33_0 F in_X9except dX9_except_77 ?_
      refine R_iload_n F dX9_except_80 rfl 1 rfl ?_
      refine R_iload_n F dX9_except_81 rfl 2 rfl ?_
      refine R_iload_n F dX9_except_82 rfl 3 rfl ?_
      refine R_iload F dX9_except_83 4 rfl ?_
      refine R_callI (As := [.int l1, .int l2, .int l3, .int l4]) (C := RX3) (q0 := 4) (ci := 3) (N := 6) (T := TX3) (fs := cf_4 B) F (ct_X3addRule l E B _ l1 l2 l3 l4 _ hw) (cwV 4 F.2.2.2.2.2.2.2.2.2.2 g_X9except_X3addRule_192 rfl rfl rfl (by decide +kernel) ⟨Nat.le_of_ble_eq_true rfl, Nat.le_of_ble_eq_true rfl⟩) ⟨rfl, rfl⟩ rfl (fun _ => rfl) rfl rfl (Nat.le_of_ble_eq_true rfl) dX9_except_85 (fun r11 σ12 hw => ?_)
      exact R_iret (Qc := Q) F rfl dX9_except_88 hw
    · replace hw := hw.2 hc
      refine R_bipush F (-3) dX9_except_69 (by decide) ?_
      exact R_iret (Qc := Q) F rfl dX9_except_71 hw
  have J_38 : ∀ (σ : VS), b_X9except_38 Q σ → WB p l e (({ frames := 2, cells := 0, slots := 0, locals := 47 } : Room)) s m (#[.ref (B 0), .int p1, .int p2, .int p3, .int p4]) below meth c (MQ below (va_Qi (fun r w => ∃ σ' : VS, Q r σ' ∧ w = wc E B σ') (AftU E A) A) (#[.ref (B 0), .int p1, .int p2, .int p3, .int p4]) s (({ frames := 2, cells := 0, slots := 0, locals := 47 } : Room)).cells (({ frames := 2, cells := 0, slots := 0, locals := 47 } : Room)).slots A) A E (wc E B) 5 38 [] [] σ := by
    intro σ hw
    unfold b_X9except_38 at hw
    refine R_iconst F (-1) dX9_except_38 (by decide) ?_
    exact R_iret (Qc := Q) F rfl dX9_except_39 hw
  have J_13 : ∀ (l1 : Int32) (l2 : Int32) (l3 : Int32) (l4 : Int32) (σ : VS), b_X9except_13 Q l1 l2 l3 l4 σ → WB p l e (({ frames := 2, cells := 0, slots := 0, locals := 47 } : Room)) s m (#[.ref (B 0), .int p1, .int p2, .int p3, .int p4]) below meth c (MQ below (va_Qi (fun r w => ∃ σ' : VS, Q r σ' ∧ w = wc E B σ') (AftU E A) A) (#[.ref (B 0), .int p1, .int p2, .int p3, .int p4]) s (({ frames := 2, cells := 0, slots := 0, locals := 47 } : Room)).cells (({ frames := 2, cells := 0, slots := 0, locals := 47 } : Room)).slots A) A E (wc E B) 5 13 [(0, .ref (B 0)), (1, .int l1), (2, .int l2), (3, .int l3), (4, .int l4)] [] σ := by
    intro l1 l2 l3 l4 σ hw
    unfold b_X9except_13 at hw
    refine R_aload_n F dX9_except_13 rfl 0 rfl ?_
    refine R_iload_n F dX9_except_14 rfl 2 rfl ?_
    refine R_callI (As := [.int l2]) (C := RX9) (q0 := 0) (ci := 9) (N := 12) (T := TX9) (fs := cf_0 B) F (ct_X9hasOrAny l E B _ l2 _ hw) (cwV 1 F.2.2.2.2.2.2.2.2.2.2 g_X9except_X9hasOrAny_186 rfl rfl rfl (by decide +kernel) ⟨Nat.le_of_ble_eq_true rfl, Nat.le_of_ble_eq_true rfl⟩) ⟨rfl, rfl⟩ rfl (fun _ => rfl) rfl rfl (Nat.le_of_ble_eq_true rfl) dX9_except_15 (fun r3 σ4 hw => ?_)
    refine R_if_eq (tgt := 38) F dX9_except_18 (by decide) (fun hc => ?_) (fun hc => ?_)
    · replace hw := hw.1 hc
      exact R_sub [] rfl (J_38 σ4 hw)
    · replace hw := hw.2 hc
      refine R_aload_n F dX9_except_21 rfl 0 rfl ?_
      refine R_iload_n F dX9_except_22 rfl 3 rfl ?_
      refine R_callI (As := [.int l3]) (C := RX9) (q0 := 0) (ci := 9) (N := 12) (T := TX9) (fs := cf_0 B) F (ct_X9hasOrAny l E B _ l3 _ hw) (cwV 1 F.2.2.2.2.2.2.2.2.2.2 g_X9except_X9hasOrAny_186 rfl rfl rfl (by decide +kernel) ⟨Nat.le_of_ble_eq_true rfl, Nat.le_of_ble_eq_true rfl⟩) ⟨rfl, rfl⟩ rfl (fun _ => rfl) rfl rfl (Nat.le_of_ble_eq_true rfl) dX9_except_23 (fun r5 σ6 hw => ?_)
      refine R_if_eq (tgt := 38) F dX9_except_26 (by decide) (fun hc => ?_) (fun hc => ?_)
      · replace hw := hw.1 hc
        exact R_sub [] rfl (J_38 σ6 hw)
      · replace hw := hw.2 hc
        refine R_aload_n F dX9_except_29 rfl 0 rfl ?_
        refine R_iload F dX9_except_30 4 rfl ?_
        refine R_callI (As := [.int l4]) (C := RX9) (q0 := 0) (ci := 9) (N := 12) (T := TX9) (fs := cf_0 B) F (ct_X9hasOrAny l E B _ l4 _ hw) (cwV 1 F.2.2.2.2.2.2.2.2.2.2 g_X9except_X9hasOrAny_186 rfl rfl rfl (by decide +kernel) ⟨Nat.le_of_ble_eq_true rfl, Nat.le_of_ble_eq_true rfl⟩) ⟨rfl, rfl⟩ rfl (fun _ => rfl) rfl rfl (Nat.le_of_ble_eq_true rfl) dX9_except_32 (fun r7 σ8 hw => ?_)
        refine R_if_ne (tgt := 40) F dX9_except_35 (by decide) (fun hc => ?_) (fun hc => ?_)
        · replace hw := hw.1 hc
          refine R_iload_n F dX9_except_40 rfl 2 rfl ?_
          refine R_iconst F (-1) dX9_except_41 (by decide) ?_
          refine R_icmp_ne (tgt := 58) F dX9_except_42 (by decide) (fun hc => ?_) (fun hc => ?_)
          · replace hw := hw.1 hc
            exact R_sub [0, 1, 2, 3, 4] rfl (J_58 l1 l2 l3 l4 σ8 hw)
          · replace hw := hw.2 hc
            refine R_iload_n F dX9_except_45 rfl 3 rfl ?_
            refine R_iconst F (-1) dX9_except_46 (by decide) ?_
            refine R_icmp_ne (tgt := 58) F dX9_except_47 (by decide) (fun hc => ?_) (fun hc => ?_)
            · replace hw := hw.1 hc
              exact R_sub [0, 1, 2, 3, 4] rfl (J_58 l1 l2 l3 l4 σ8 hw)
            · replace hw := hw.2 hc
              refine R_iload F dX9_except_50 4 rfl ?_
              refine R_iconst F (-1) dX9_except_52 (by decide) ?_
              refine R_icmp_ne (tgt := 58) F dX9_except_53 (by decide) (fun hc => ?_) (fun hc => ?_)
              · replace hw := hw.1 hc
                exact R_sub [0, 1, 2, 3, 4] rfl (J_58 l1 l2 l3 l4 σ8 hw)
              · replace hw := hw.2 hc
                refine R_iconst F (-1) dX9_except_56 (by decide) ?_
                exact R_iret (Qc := Q) F rfl dX9_except_57 hw
        · replace hw := hw.2 hc
          exact R_sub [] rfl (J_38 σ8 hw)
  unfold wp_X9except at hw
  refine R_iload_n F dX9_except_0 rfl 1 rfl ?_
  refine R_if_eq (tgt := 13) F dX9_except_1 (by decide) (fun hc => ?_) (fun hc => ?_)
  · replace hw := hw.1 hc
    exact R_sub [0, 1, 2, 3, 4] rfl (J_13 p1 p2 p3 p4 σ hw)
  · replace hw := hw.2 hc
    refine R_iload_n F dX9_except_4 rfl 1 rfl ?_
    refine R_iconst F 2 dX9_except_5 (by decide) ?_
    refine R_iconst F 4 dX9_except_6 (by decide) ?_
    refine R_callIS (As := [.int p1, .int 2, .int 4]) (C := RX10) (q0 := 0) (ci := 10) (b := 0) (N := 69) (T := TX10) (fs := fun _ => []) F (ct_X9within l E B _ p1 2 4 _ hw) (va_cwS 3 F.2.2.2.2.2.2.2.2.2.2 g_X9except_X9within_88 rfl rfl rfl (by decide +kernel) ⟨Nat.le_of_ble_eq_true rfl, Nat.le_of_ble_eq_true rfl⟩) ⟨rfl, rfl⟩ rfl rfl (Nat.le_of_ble_eq_true rfl) dX9_except_7 (fun r1 σ2 hw => ?_)
    refine R_if_eq (tgt := 38) F dX9_except_10 (by decide) (fun hc => ?_) (fun hc => ?_)
    · replace hw := hw.1 hc
      exact R_sub [] rfl (J_38 σ2 hw)
    · replace hw := hw.2 hc
      exact R_sub [0, 1, 2, 3, 4] rfl (J_13 p1 p2 p3 p4 σ2 hw)
def wp_X9unexcept (Q : Int32 → VS → Prop) (σ : VS) : Prop := ((0 < (σ.1 6).toInt → wp_X9forget (fun (σ2 : VS) => wp_X3dropLatest (fun (r3 : Int32) (σ4 : VS) => Q r3 σ4) σ2) σ) ∧ ((σ.1 6).toInt ≤ 0 → Q (-1) σ))
theorem dX9_unexcept_0 : decode cX9_unexcept 0 = .ok (.aload_n 0, 1) := by decide +kernel
theorem dX9_unexcept_1 : decode cX9_unexcept 1 = .ok (.getfield 33, 3) := by decide +kernel
theorem dX9_unexcept_4 : decode cX9_unexcept 4 = .ok (.getfield 189, 3) := by decide +kernel
theorem dX9_unexcept_7 : decode cX9_unexcept 7 = .ok (.ifCond .gt 5, 3) := by decide +kernel
theorem dX9_unexcept_12 : decode cX9_unexcept 12 = .ok (.aload_n 0, 1) := by decide +kernel
theorem dX9_unexcept_13 : decode cX9_unexcept 13 = .ok (.invokevirtual 96, 3) := by decide +kernel
theorem dX9_unexcept_16 : decode cX9_unexcept 16 = .ok (.aload_n 0, 1) := by decide +kernel
theorem dX9_unexcept_17 : decode cX9_unexcept 17 = .ok (.getfield 33, 3) := by decide +kernel
theorem dX9_unexcept_20 : decode cX9_unexcept 20 = .ok (.invokevirtual 196, 3) := by decide +kernel
theorem dX9_unexcept_23 : decode cX9_unexcept 23 = .ok (.ireturn, 1) := by decide +kernel
theorem dX9_unexcept_10 : decode cX9_unexcept 10 = .ok (.iconst (-1), 1) := by decide +kernel
theorem dX9_unexcept_11 : decode cX9_unexcept 11 = .ok (.ireturn, 1) := by decide +kernel
def wo_X9unexcept : List Cond := [.code yX9_unexcept cX9_unexcept 1 (some .int), .methodLink RX9 96 yX9_forget, .instanceMethod yX9_forget, .selects RX9 yX9_forget yX9_forget, .initialized RX9, .methodLink RX9 196 yX3_dropLatest, .instanceMethod yX3_dropLatest, .selects RX3 yX3_dropLatest yX3_dropLatest, .initialized RX3]
def wr_X9unexcept : List Cond := (wfC ++ (w_X9forget ++ (w_X3dropLatest ++ ([]))))
def w_X9unexcept : List Cond := wo_X9unexcept ++ wr_X9unexcept
theorem wg_X9unexcept : GW w_X9unexcept := GW_app (GW_of (by decide +kernel)) (GW_app (wg_fC) (GW_app (wg_X9forget) (GW_app (wg_X3dropLatest) (GW_nil))))
theorem in_X9unexcept : ∀ w ∈ wfC, w ∈ w_X9unexcept := fun _ h => List.mem_append_right _ (List.mem_append_left _ h)
theorem g_X9unexcept_X9forget_96 : GoodIn w_X9unexcept (wsV RX9 96 RX9 yX9_forget w_X9forget) := goodIn_app (gi_left (goodIn_of _ (by decide +kernel))) (fun w h => ⟨List.mem_append_right _ (List.mem_append_right _ (List.mem_append_left _ h)), wg_X9forget w h⟩)
theorem g_X9unexcept_X3dropLatest_196 : GoodIn w_X9unexcept (wsV RX9 196 RX3 yX3_dropLatest w_X3dropLatest) := goodIn_app (gi_left (goodIn_of _ (by decide +kernel))) (fun w h => ⟨List.mem_append_right _ (List.mem_append_right _ (List.mem_append_right _ (List.mem_append_left _ h))), wg_X3dropLatest w h⟩)
set_option maxHeartbeats 4000000 in
set_option maxRecDepth 100000 in
theorem ct_X9unexcept (l : Launch) (E : gE) (B : Nat → Nat) (Q : Int32 → VS → Prop) (σ : VS) (hw : wp_X9unexcept Q σ) : CtI l E yX9_unexcept w_X9unexcept (({ frames := 2, cells := 0, slots := 0, locals := 42 } : Room)) (wc E B σ) [.ref (B 0)] (fun r w => ∃ σ' : VS, Q r σ' ∧ w = wc E B σ') := by
  refine VC_I (cc := cX9_unexcept) (mL := 1) (rt := (some .int)) (lv0 := [(0, .ref (B 0))]) rfl (by decide) rfl (Nat.le_of_ble_eq_true rfl) ?_
  intro p e s m below meth c A F
  replace F : Fx p s m _ meth c A E cX9_unexcept 1 (some .int) RX9 w_X9unexcept := F
  unfold wp_X9unexcept at hw
  refine R_aload_n F dX9_unexcept_0 rfl 0 rfl ?_
  refine gc_RX9_33_0 F in_X9unexcept dX9_unexcept_1 ?_
  refine gc_RX9_189_4 F in_X9unexcept dX9_unexcept_4 ?_
  refine R_if_gt (tgt := 12) F dX9_unexcept_7 (by decide) (fun hc => ?_) (fun hc => ?_)
  · replace hw := hw.1 hc
    refine R_aload_n F dX9_unexcept_12 rfl 0 rfl ?_
    refine R_callV (As := []) (C := RX9) (q0 := 0) (ci := 9) (N := 12) (T := TX9) (fs := cf_0 B) F (ct_X9forget l E B _ _ hw) (cwV 0 F.2.2.2.2.2.2.2.2.2.2 g_X9unexcept_X9forget_96 rfl rfl rfl (by decide +kernel) ⟨Nat.le_of_ble_eq_true rfl, Nat.le_of_ble_eq_true rfl⟩) ⟨rfl, rfl⟩ rfl (fun _ => rfl) rfl rfl (Nat.le_of_ble_eq_true rfl) dX9_unexcept_13 (fun σ2 hw => ?_)
    refine R_aload_n F dX9_unexcept_16 rfl 0 rfl ?_
    refine gc_RX9_33_0 F in_X9unexcept dX9_unexcept_17 ?_
    refine R_callI (As := []) (C := RX3) (q0 := 4) (ci := 3) (N := 6) (T := TX3) (fs := cf_4 B) F (ct_X3dropLatest l E B _ _ hw) (cwV 0 F.2.2.2.2.2.2.2.2.2.2 g_X9unexcept_X3dropLatest_196 rfl rfl rfl (by decide +kernel) ⟨Nat.le_of_ble_eq_true rfl, Nat.le_of_ble_eq_true rfl⟩) ⟨rfl, rfl⟩ rfl (fun _ => rfl) rfl rfl (Nat.le_of_ble_eq_true rfl) dX9_unexcept_20 (fun r3 σ4 hw => ?_)
    exact R_iret (Qc := Q) F rfl dX9_unexcept_23 hw
  · replace hw := hw.2 hc
    refine R_iconst F (-1) dX9_unexcept_10 (by decide) ?_
    exact R_iret (Qc := Q) F rfl dX9_unexcept_11 hw
