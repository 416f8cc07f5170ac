def b_about_177 (Q : Int32 → VS → Prop) (k0 : Int32) (σ : VS) : Prop := Q k0 σ
def b_about_153 (Q : Int32 → VS → Prop) (σ : VS) : Prop := b_about_177 Q 0 σ
def b_about_139 (Q : Int32 → VS → Prop) (k0 : Int32) (σ : VS) : Prop := Q k0 σ
def b_about_138 (Q : Int32 → VS → Prop) (σ : VS) : Prop := b_about_139 Q 0 σ
def b_about_120 (Q : Int32 → VS → Prop) (k0 : Int32) (σ : VS) : Prop := Q k0 σ
def b_about_45 (Q : Int32 → VS → Prop) (l1 : Int32) (l2 : Int32) (k0 : Int32) (σ : VS) : Prop := ((l2.toInt = 0 → (In l1 50 ∧ Q (rd σ 2 l1) σ)) ∧ (l2.toInt = 1 → (In l1 50 ∧ Q (rd σ 3 l1) σ)) ∧ (l2.toInt = 2 → (In l1 50 ∧ Q (rd σ 5 l1) σ)) ∧ (l2.toInt = 3 → (In l1 50 ∧ (((rd σ 2 l1).toInt ≠ 5 → wp_load (fun (r5 : Int32) (σ6 : VS) => b_about_120 Q r5 σ6) l1 σ) ∧ ((rd σ 2 l1).toInt = 5 → b_about_120 Q 0 σ)))) ∧ (l2.toInt = 4 → ((k0.toInt < 0 → b_about_138 Q σ) ∧ (0 ≤ k0.toInt → (In k0 50 ∧ (((rd σ 34 k0).toInt = 0 → b_about_138 Q σ) ∧ ((rd σ 34 k0).toInt ≠ 0 → b_about_139 Q 1 σ)))))) ∧ ((l2.toInt < 0 ∨ 4 < l2.toInt) → ((k0.toInt < 0 → b_about_153 Q σ) ∧ (0 ≤ k0.toInt → (In k0 50 ∧ (((rd σ 35 k0).toInt ≠ 0 → (In l1 50 ∧ (((rd σ 2 l1).toInt ≠ 5 → (In k0 50 ∧ b_about_177 Q (rd σ 35 k0) σ)) ∧ ((rd σ 2 l1).toInt = 5 → b_about_177 Q 1 σ)))) ∧ ((rd σ 35 k0).toInt = 0 → b_about_153 Q σ)))))))
def b_about_17 (Q : Int32 → VS → Prop) (σ : VS) : Prop := Q (-1) σ
def wp_about (Q : Int32 → VS → Prop) (p1 : Int32) (p2 : Int32) (σ : VS) : Prop := wp_isCell (fun (r1 : Int32) (σ2 : VS) => ((r1.toInt = 0 → b_about_17 Q σ2) ∧ (r1.toInt ≠ 0 → ((p2.toInt < 0 → b_about_17 Q σ2) ∧ (0 ≤ p2.toInt → ((p2.toInt ≤ 5 → wp_time (fun (σ4 : VS) => (In p1 50 ∧ (((rd σ4 2 p1).toInt ≠ 5 → b_about_45 Q p1 p2 p1 σ4) ∧ ((rd σ4 2 p1).toInt = 5 → (In (4 * p1) 200 ∧ b_about_45 Q p1 p2 (rd σ4 7 (4 * p1)) σ4))))) σ2) ∧ (5 < p2.toInt → b_about_17 Q σ2))))))) p1 σ
theorem dX10_about_0 : decode cX10_about 0 = .ok (.aload_n 0, 1) := by decide +kernel
theorem dX10_about_1 : decode cX10_about 1 = .ok (.iload_n 1, 1) := by decide +kernel
theorem dX10_about_2 : decode cX10_about 2 = .ok (.invokevirtual 10, 3) := by decide +kernel
theorem dX10_about_5 : decode cX10_about 5 = .ok (.ifCond .eq 12, 3) := by decide +kernel
theorem dX10_about_8 : decode cX10_about 8 = .ok (.iload_n 2, 1) := by decide +kernel
theorem dX10_about_9 : decode cX10_about 9 = .ok (.ifCond .lt 8, 3) := by decide +kernel
theorem dX10_about_12 : decode cX10_about 12 = .ok (.iload_n 2, 1) := by decide +kernel
theorem dX10_about_13 : decode cX10_about 13 = .ok (.iconst 5, 1) := by decide +kernel
theorem dX10_about_14 : decode cX10_about 14 = .ok (.if_icmp .le 5, 3) := by decide +kernel
theorem dX10_about_19 : decode cX10_about 19 = .ok (.aload_n 0, 1) := by decide +kernel
theorem dX10_about_20 : decode cX10_about 20 = .ok (.invokevirtual 282, 3) := by decide +kernel
theorem dX10_about_23 : decode cX10_about 23 = .ok (.aload_n 0, 1) := by decide +kernel
theorem dX10_about_24 : decode cX10_about 24 = .ok (.getfield 18, 3) := by decide +kernel
theorem dX10_about_27 : decode cX10_about 27 = .ok (.iload_n 1, 1) := by decide +kernel
theorem dX10_about_28 : decode cX10_about 28 = .ok (.iaload, 1) := by decide +kernel
theorem dX10_about_29 : decode cX10_about 29 = .ok (.iconst 5, 1) := by decide +kernel
theorem dX10_about_30 : decode cX10_about 30 = .ok (.if_icmp .ne 14, 3) := by decide +kernel
theorem dX10_about_44 : decode cX10_about 44 = .ok (.iload_n 1, 1) := by decide +kernel
theorem dX10_about_33 : decode cX10_about 33 = .ok (.aload_n 0, 1) := by decide +kernel
theorem dX10_about_34 : decode cX10_about 34 = .ok (.getfield 30, 3) := by decide +kernel
theorem dX10_about_37 : decode cX10_about 37 = .ok (.iconst 4, 1) := by decide +kernel
theorem dX10_about_38 : decode cX10_about 38 = .ok (.iload_n 1, 1) := by decide +kernel
theorem dX10_about_39 : decode cX10_about 39 = .ok (.imul, 1) := by decide +kernel
theorem dX10_about_40 : decode cX10_about 40 = .ok (.iaload, 1) := by decide +kernel
theorem dX10_about_41 : decode cX10_about 41 = .ok (.goto 4, 3) := by decide +kernel
theorem dX10_about_17 : decode cX10_about 17 = .ok (.iconst (-1), 1) := by decide +kernel
theorem dX10_about_18 : decode cX10_about 18 = .ok (.ireturn, 1) := by decide +kernel
theorem dX10_about_45 : decode cX10_about 45 = .ok (.istore_n 3, 1) := by decide +kernel
theorem dX10_about_46 : decode cX10_about 46 = .ok (.iload_n 2, 1) := by decide +kernel
theorem dX10_about_47 : decode cX10_about 47 = .ok (.tableswitch 93 0 4 #[33, 40, 47, 54, 74], 33) := by decide +kernel
theorem dX10_about_80 : decode cX10_about 80 = .ok (.aload_n 0, 1) := by decide +kernel
theorem dX10_about_81 : decode cX10_about 81 = .ok (.getfield 18, 3) := by decide +kernel
theorem dX10_about_84 : decode cX10_about 84 = .ok (.iload_n 1, 1) := by decide +kernel
theorem dX10_about_85 : decode cX10_about 85 = .ok (.iaload, 1) := by decide +kernel
theorem dX10_about_86 : decode cX10_about 86 = .ok (.ireturn, 1) := by decide +kernel
theorem dX10_about_87 : decode cX10_about 87 = .ok (.aload_n 0, 1) := by decide +kernel
theorem dX10_about_88 : decode cX10_about 88 = .ok (.getfield 14, 3) := by decide +kernel
theorem dX10_about_91 : decode cX10_about 91 = .ok (.iload_n 1, 1) := by decide +kernel
theorem dX10_about_92 : decode cX10_about 92 = .ok (.iaload, 1) := by decide +kernel
theorem dX10_about_93 : decode cX10_about 93 = .ok (.ireturn, 1) := by decide +kernel
theorem dX10_about_94 : decode cX10_about 94 = .ok (.aload_n 0, 1) := by decide +kernel
theorem dX10_about_95 : decode cX10_about 95 = .ok (.getfield 24, 3) := by decide +kernel
theorem dX10_about_98 : decode cX10_about 98 = .ok (.iload_n 1, 1) := by decide +kernel
theorem dX10_about_99 : decode cX10_about 99 = .ok (.iaload, 1) := by decide +kernel
theorem dX10_about_100 : decode cX10_about 100 = .ok (.ireturn, 1) := by decide +kernel
theorem dX10_about_101 : decode cX10_about 101 = .ok (.aload_n 0, 1) := by decide +kernel
theorem dX10_about_102 : decode cX10_about 102 = .ok (.getfield 18, 3) := by decide +kernel
theorem dX10_about_105 : decode cX10_about 105 = .ok (.iload_n 1, 1) := by decide +kernel
theorem dX10_about_106 : decode cX10_about 106 = .ok (.iaload, 1) := by decide +kernel
theorem dX10_about_107 : decode cX10_about 107 = .ok (.iconst 5, 1) := by decide +kernel
theorem dX10_about_108 : decode cX10_about 108 = .ok (.if_icmp .ne 7, 3) := by decide +kernel
theorem dX10_about_115 : decode cX10_about 115 = .ok (.aload_n 0, 1) := by decide +kernel
theorem dX10_about_116 : decode cX10_about 116 = .ok (.iload_n 1, 1) := by decide +kernel
theorem dX10_about_117 : decode cX10_about 117 = .ok (.invokevirtual 249, 3) := by decide +kernel
theorem dX10_about_111 : decode cX10_about 111 = .ok (.iconst 0, 1) := by decide +kernel
theorem dX10_about_112 : decode cX10_about 112 = .ok (.goto 8, 3) := by decide +kernel
theorem dX10_about_121 : decode cX10_about 121 = .ok (.iload_n 3, 1) := by decide +kernel
theorem dX10_about_122 : decode cX10_about 122 = .ok (.ifCond .lt 16, 3) := by decide +kernel
theorem dX10_about_125 : decode cX10_about 125 = .ok (.aload_n 0, 1) := by decide +kernel
theorem dX10_about_126 : decode cX10_about 126 = .ok (.getfield 117, 3) := by decide +kernel
theorem dX10_about_129 : decode cX10_about 129 = .ok (.iload_n 3, 1) := by decide +kernel
theorem dX10_about_130 : decode cX10_about 130 = .ok (.baload, 1) := by decide +kernel
theorem dX10_about_131 : decode cX10_about 131 = .ok (.ifCond .eq 7, 3) := by decide +kernel
theorem dX10_about_134 : decode cX10_about 134 = .ok (.iconst 1, 1) := by decide +kernel
theorem dX10_about_135 : decode cX10_about 135 = .ok (.goto 4, 3) := by decide +kernel
theorem dX10_about_140 : decode cX10_about 140 = .ok (.iload_n 3, 1) := by decide +kernel
theorem dX10_about_141 : decode cX10_about 141 = .ok (.ifCond .lt 12, 3) := by decide +kernel
theorem dX10_about_144 : decode cX10_about 144 = .ok (.aload_n 0, 1) := by decide +kernel
theorem dX10_about_145 : decode cX10_about 145 = .ok (.getfield 120, 3) := by decide +kernel
theorem dX10_about_148 : decode cX10_about 148 = .ok (.iload_n 3, 1) := by decide +kernel
theorem dX10_about_149 : decode cX10_about 149 = .ok (.iaload, 1) := by decide +kernel
theorem dX10_about_150 : decode cX10_about 150 = .ok (.ifCond .ne 7, 3) := by decide +kernel
theorem dX10_about_157 : decode cX10_about 157 = .ok (.aload_n 0, 1) := by decide +kernel
theorem dX10_about_158 : decode cX10_about 158 = .ok (.getfield 18, 3) := by decide +kernel
theorem dX10_about_161 : decode cX10_about 161 = .ok (.iload_n 1, 1) := by decide +kernel
theorem dX10_about_162 : decode cX10_about 162 = .ok (.iaload, 1) := by decide +kernel
theorem dX10_about_163 : decode cX10_about 163 = .ok (.iconst 5, 1) := by decide +kernel
theorem dX10_about_164 : decode cX10_about 164 = .ok (.if_icmp .ne 7, 3) := by decide +kernel
theorem dX10_about_171 : decode cX10_about 171 = .ok (.aload_n 0, 1) := by decide +kernel
theorem dX10_about_172 : decode cX10_about 172 = .ok (.getfield 120, 3) := by decide +kernel
theorem dX10_about_175 : decode cX10_about 175 = .ok (.iload_n 3, 1) := by decide +kernel
theorem dX10_about_176 : decode cX10_about 176 = .ok (.iaload, 1) := by decide +kernel
theorem dX10_about_167 : decode cX10_about 167 = .ok (.iconst 1, 1) := by decide +kernel
theorem dX10_about_168 : decode cX10_about 168 = .ok (.goto 9, 3) := by decide +kernel
theorem dX10_about_120 : decode cX10_about 120 = .ok (.ireturn, 1) := by decide +kernel
theorem dX10_about_138 : decode cX10_about 138 = .ok (.iconst 0, 1) := by decide +kernel
theorem dX10_about_139 : decode cX10_about 139 = .ok (.ireturn, 1) := by decide +kernel
theorem dX10_about_153 : decode cX10_about 153 = .ok (.iconst 0, 1) := by decide +kernel
theorem dX10_about_154 : decode cX10_about 154 = .ok (.goto 23, 3) := by decide +kernel
theorem dX10_about_177 : decode cX10_about 177 = .ok (.ireturn, 1) := by decide +kernel
def wo_about : List Cond := [.code yX10_about cX10_about 4 (some .int), .methodLink RX10 10 yX10_isCell, .instanceMethod yX10_isCell, .selects RX10 yX10_isCell yX10_isCell, .initialized RX10, .methodLink RX10 282 yX10_time, .instanceMethod yX10_time, .selects RX10 yX10_time yX10_time, .methodLink RX10 249 yX10_load, .instanceMethod yX10_load, .selects RX10 yX10_load yX10_load]
def wr_about : List Cond := (wfX10 ++ (w_isCell ++ (w_time ++ (w_load ++ ([])))))
def w_about : List Cond := wo_about ++ wr_about
theorem wg_about : GW w_about := GW_app (GW_of (by decide +kernel)) (GW_app (wg_fX10) (GW_app (wg_isCell) (GW_app (wg_time) (GW_app (wg_load) (GW_nil)))))
theorem in_about : ∀ w ∈ wfX10, w ∈ w_about := fun _ h => List.mem_append_right _ (List.mem_append_left _ h)
theorem g_about_isCell_10 : GoodIn w_about (wsV RX10 10 RX10 yX10_isCell w_isCell) := goodIn_app (gi_left (goodIn_of _ (by decide +kernel))) (fun w h => ⟨List.mem_append_right _ (List.mem_append_right _ (List.mem_append_left _ h)), wg_isCell w h⟩)
theorem g_about_time_282 : GoodIn w_about (wsV RX10 282 RX10 yX10_time w_time) := goodIn_app (gi_left (goodIn_of _ (by decide +kernel))) (fun w h => ⟨List.mem_append_right _ (List.mem_append_right _ (List.mem_append_right _ (List.mem_append_left _ h))), wg_time w h⟩)
theorem g_about_load_249 : GoodIn w_about (wsV RX10 249 RX10 yX10_load w_load) := goodIn_app (gi_left (goodIn_of _ (by decide +kernel))) (fun w h => ⟨List.mem_append_right _ (List.mem_append_right _ (List.mem_append_right _ (List.mem_append_right _ (List.mem_append_left _ h)))), wg_load w h⟩)
set_option maxHeartbeats 4000000 in
set_option maxRecDepth 100000 in
theorem ct_about (l : Launch) (E : gE) (B : Nat → Nat) (Q : Int32 → VS → Prop) (p1 : Int32) (p2 : Int32) (σ : VS) (hw : wp_about Q p1 p2 σ) : CtI l E yX10_about w_about (({ frames := 57, cells := 0, slots := 0, locals := 1398 } : Room)) (wm E B σ) [.ref (B 0), .int p1, .int p2] (fun r w => ∃ σ' : VS, Q r σ' ∧ w = wm E B σ') := by
  refine VC_I (cc := cX10_about) (mL := 4) (rt := (some .int)) (lv0 := [(0, .ref (B 0)), (1, .int p1), (2, .int p2)]) rfl (by decide) rfl (Nat.le_of_ble_eq_true rfl) ?_
  intro p e s m below meth c A F
  replace F : Fx p s m _ meth c A E cX10_about 4 (some .int) RX10 w_about := F
  have J_177 : ∀ (k0 : Int32) (σ : VS), b_about_177 Q k0 σ → WB p l e (({ frames := 57, cells := 0, slots := 0, locals := 1398 } : Room)) s m (#[.ref (B 0), .int p1, .int p2]) below meth c (MQ below (va_Qi (fun r w => ∃ σ' : VS, Q r σ' ∧ w = wm E B σ') (AftU E A) A) (#[.ref (B 0), .int p1, .int p2]) s (({ frames := 57, cells := 0, slots := 0, locals := 1398 } : Room)).cells (({ frames := 57, cells := 0, slots := 0, locals := 1398 } : Room)).slots A) A E (wm E B) 4 177 [] [.int k0] σ := by
    intro k0 σ hw
    unfold b_about_177 at hw
    exact R_iret (Qc := Q) F rfl dX10_about_177 hw
  have J_153 : ∀ (σ : VS), b_about_153 Q σ → WB p l e (({ frames := 57, cells := 0, slots := 0, locals := 1398 } : Room)) s m (#[.ref (B 0), .int p1, .int p2]) below meth c (MQ below (va_Qi (fun r w => ∃ σ' : VS, Q r σ' ∧ w = wm E B σ') (AftU E A) A) (#[.ref (B 0), .int p1, .int p2]) s (({ frames := 57, cells := 0, slots := 0, locals := 1398 } : Room)).cells (({ frames := 57, cells := 0, slots := 0, locals := 1398 } : Room)).slots A) A E (wm E B) 4 153 [] [] σ := by
    intro σ hw
    unfold b_about_153 at hw
    refine R_iconst F 0 dX10_about_153 (by decide) ?_
    refine R_goto (tgt := 177) F dX10_about_154 (by decide) ?_
    exact R_sub [] rfl (J_177 0 σ hw)
  have J_139 : ∀ (k0 : Int32) (σ : VS), b_about_139 Q k0 σ → WB p l e (({ frames := 57, cells := 0, slots := 0, locals := 1398 } : Room)) s m (#[.ref (B 0), .int p1, .int p2]) below meth c (MQ below (va_Qi (fun r w => ∃ σ' : VS, Q r σ' ∧ w = wm E B σ') (AftU E A) A) (#[.ref (B 0), .int p1, .int p2]) s (({ frames := 57, cells := 0, slots := 0, locals := 1398 } : Room)).cells (({ frames := 57, cells := 0, slots := 0, locals := 1398 } : Room)).slots A) A E (wm E B) 4 139 [] [.int k0] σ := by
    intro k0 σ hw
    unfold b_about_139 at hw
    exact R_iret (Qc := Q) F rfl dX10_about_139 hw
  have J_138 : ∀ (σ : VS), b_about_138 Q σ → WB p l e (({ frames := 57, cells := 0, slots := 0, locals := 1398 } : Room)) s m (#[.ref (B 0), .int p1, .int p2]) below meth c (MQ below (va_Qi (fun r w => ∃ σ' : VS, Q r σ' ∧ w = wm E B σ') (AftU E A) A) (#[.ref (B 0), .int p1, .int p2]) s (({ frames := 57, cells := 0, slots := 0, locals := 1398 } : Room)).cells (({ frames := 57, cells := 0, slots := 0, locals := 1398 } : Room)).slots A) A E (wm E B) 4 138 [] [] σ := by
    intro σ hw
    unfold b_about_138 at hw
    refine R_iconst F 0 dX10_about_138 (by decide) ?_
    exact R_sub [] rfl (J_139 0 σ hw)
  have J_120 : ∀ (k0 : Int32) (σ : VS), b_about_120 Q k0 σ → WB p l e (({ frames := 57, cells := 0, slots := 0, locals := 1398 } : Room)) s m (#[.ref (B 0), .int p1, .int p2]) below meth c (MQ below (va_Qi (fun r w => ∃ σ' : VS, Q r σ' ∧ w = wm E B σ') (AftU E A) A) (#[.ref (B 0), .int p1, .int p2]) s (({ frames := 57, cells := 0, slots := 0, locals := 1398 } : Room)).cells (({ frames := 57, cells := 0, slots := 0, locals := 1398 } : Room)).slots A) A E (wm E B) 4 120 [] [.int k0] σ := by
    intro k0 σ hw
    unfold b_about_120 at hw
    exact R_iret (Qc := Q) F rfl dX10_about_120 hw
  have J_45 : ∀ (l1 : Int32) (l2 : Int32) (k0 : Int32) (σ : VS), b_about_45 Q l1 l2 k0 σ → WB p l e (({ frames := 57, cells := 0, slots := 0, locals := 1398 } : Room)) s m (#[.ref (B 0), .int p1, .int p2]) below meth c (MQ below (va_Qi (fun r w => ∃ σ' : VS, Q r σ' ∧ w = wm E B σ') (AftU E A) A) (#[.ref (B 0), .int p1, .int p2]) s (({ frames := 57, cells := 0, slots := 0, locals := 1398 } : Room)).cells (({ frames := 57, cells := 0, slots := 0, locals := 1398 } : Room)).slots A) A E (wm E B) 4 45 [(0, .ref (B 0)), (1, .int l1), (2, .int l2)] [.int k0] σ := by
    intro l1 l2 k0 σ hw
    unfold b_about_45 at hw
    refine R_istore_n (lv' := [(3, .int k0), (0, .ref (B 0)), (1, .int l1), (2, .int l2)]) F dX10_about_45 rfl (by decide) rfl ?_
    refine R_iload_n F dX10_about_46 rfl 3 rfl ?_
    by_cases hc : l2.toInt = 0
    · refine R_tin (off := 33) (tgt := 80) F dX10_about_47 (by omega) (by omega) (by rw [hc]; rfl) (by decide) ?_
      replace hw := hw.1 hc
      refine R_aload_n F dX10_about_80 rfl 1 rfl ?_
      refine gm_2 F in_about dX10_about_81 ?_
      refine R_iload_n F dX10_about_84 rfl 2 rfl ?_
      refine R_ldi F qm_2 dX10_about_85 hw.1 ?_
      replace hw := hw.2
      exact R_iret (Qc := Q) F rfl dX10_about_86 hw
    replace hw := hw.2
    by_cases hc : l2.toInt = 1
    · refine R_tin (off := 40) (tgt := 87) F dX10_about_47 (by omega) (by omega) (by rw [hc]; rfl) (by decide) ?_
      replace hw := hw.1 hc
      refine R_aload_n F dX10_about_87 rfl 1 rfl ?_
      refine gm_3 F in_about dX10_about_88 ?_
      refine R_iload_n F dX10_about_91 rfl 2 rfl ?_
      refine R_ldi F qm_3 dX10_about_92 hw.1 ?_
      replace hw := hw.2
      exact R_iret (Qc := Q) F rfl dX10_about_93 hw
    replace hw := hw.2
    by_cases hc : l2.toInt = 2
    · refine R_tin (off := 47) (tgt := 94) F dX10_about_47 (by omega) (by omega) (by rw [hc]; rfl) (by decide) ?_
      replace hw := hw.1 hc
      refine R_aload_n F dX10_about_94 rfl 1 rfl ?_
      refine gm_5 F in_about dX10_about_95 ?_
      refine R_iload_n F dX10_about_98 rfl 2 rfl ?_
      refine R_ldi F qm_5 dX10_about_99 hw.1 ?_
      replace hw := hw.2
      exact R_iret (Qc := Q) F rfl dX10_about_100 hw
    replace hw := hw.2
    by_cases hc : l2.toInt = 3
    · refine R_tin (off := 54) (tgt := 101) F dX10_about_47 (by omega) (by omega) (by rw [hc]; rfl) (by decide) ?_
      replace hw := hw.1 hc
      refine R_aload_n F dX10_about_101 rfl 1 rfl ?_
      refine gm_2 F in_about dX10_about_102 ?_
      refine R_iload_n F dX10_about_105 rfl 2 rfl ?_
      refine R_ldi F qm_2 dX10_about_106 hw.1 ?_
      replace hw := hw.2
      refine R_iconst F 5 dX10_about_107 (by decide) ?_
      refine R_icmp_ne (tgt := 115) F dX10_about_108 (by decide) (fun hc => ?_) (fun hc => ?_)
      · replace hw := hw.1 hc
        refine R_aload_n F dX10_about_115 rfl 1 rfl ?_
        refine R_iload_n F dX10_about_116 rfl 2 rfl ?_
        refine R_callI (As := [.int l1]) (C := RX10) (q0 := 0) (ci := 10) (N := 69) (T := TX10) (fs := mfl B) F (ct_load l E B _ l1 _ hw) (cwV 1 F.2.2.2.2.2.2.2.2.2.2 g_about_load_249 rfl rfl rfl (by decide +kernel) ⟨Nat.le_of_ble_eq_true rfl, Nat.le_of_ble_eq_true rfl⟩) ⟨rfl, rfl⟩ rfl (fun _ => rfl) rfl rfl (Nat.le_of_ble_eq_true rfl) dX10_about_117 (fun r5 σ6 hw => ?_)
        exact R_sub [] rfl (J_120 r5 σ6 hw)
      · replace hw := hw.2 hc
        refine R_iconst F 0 dX10_about_111 (by decide) ?_
        refine R_goto (tgt := 120) F dX10_about_112 (by decide) ?_
        exact R_sub [] rfl (J_120 0 σ hw)
    replace hw := hw.2
    by_cases hc : l2.toInt = 4
    · refine R_tin (off := 74) (tgt := 121) F dX10_about_47 (by omega) (by omega) (by rw [hc]; rfl) (by decide) ?_
      replace hw := hw.1 hc
      refine R_iload_n F dX10_about_121 rfl 0 rfl ?_
      refine R_if_lt (tgt := 138) F dX10_about_122 (by decide) (fun hc => ?_) (fun hc => ?_)
      · replace hw := hw.1 hc
        exact R_sub [] rfl (J_138 σ hw)
      · replace hw := hw.2 hc
        refine R_aload_n F dX10_about_125 rfl 1 rfl ?_
        refine gm_34 F in_about dX10_about_126 ?_
        refine R_iload_n F dX10_about_129 rfl 0 rfl ?_
        refine R_ldz F qm_34 dX10_about_130 hw.1 ?_
        replace hw := hw.2
        refine R_if_eq (tgt := 138) F dX10_about_131 (by decide) (fun hc => ?_) (fun hc => ?_)
        · replace hw := hw.1 hc
          exact R_sub [] rfl (J_138 σ hw)
        · replace hw := hw.2 hc
          refine R_iconst F 1 dX10_about_134 (by decide) ?_
          refine R_goto (tgt := 139) F dX10_about_135 (by decide) ?_
          exact R_sub [] rfl (J_139 1 σ hw)
    replace hw := hw.2
    refine R_tout (tgt := 140) F dX10_about_47 (by omega) (by decide) ?_
    replace hw := hw (by omega)
    refine R_iload_n F dX10_about_140 rfl 0 rfl ?_
    refine R_if_lt (tgt := 153) F dX10_about_141 (by decide) (fun hc => ?_) (fun hc => ?_)
    · replace hw := hw.1 hc
      exact R_sub [] rfl (J_153 σ hw)
    · replace hw := hw.2 hc
      refine R_aload_n F dX10_about_144 rfl 1 rfl ?_
      refine gm_35 F in_about dX10_about_145 ?_
      refine R_iload_n F dX10_about_148 rfl 0 rfl ?_
      refine R_ldi F qm_35 dX10_about_149 hw.1 ?_
      replace hw := hw.2
      refine R_if_ne (tgt := 157) F dX10_about_150 (by decide) (fun hc => ?_) (fun hc => ?_)
      · replace hw := hw.1 hc
        refine R_aload_n F dX10_about_157 rfl 1 rfl ?_
        refine gm_2 F in_about dX10_about_158 ?_
        refine R_iload_n F dX10_about_161 rfl 2 rfl ?_
        refine R_ldi F qm_2 dX10_about_162 hw.1 ?_
        replace hw := hw.2
        refine R_iconst F 5 dX10_about_163 (by decide) ?_
        refine R_icmp_ne (tgt := 171) F dX10_about_164 (by decide) (fun hc => ?_) (fun hc => ?_)
        · replace hw := hw.1 hc
          refine R_aload_n F dX10_about_171 rfl 1 rfl ?_
          refine gm_35 F in_about dX10_about_172 ?_
          refine R_iload_n F dX10_about_175 rfl 0 rfl ?_
          refine R_ldi F qm_35 dX10_about_176 hw.1 ?_
          replace hw := hw.2
          exact R_sub [] rfl (J_177 (rd σ 35 k0) σ hw)
        · replace hw := hw.2 hc
          refine R_iconst F 1 dX10_about_167 (by decide) ?_
          refine R_goto (tgt := 177) F dX10_about_168 (by decide) ?_
          exact R_sub [] rfl (J_177 1 σ hw)
      · replace hw := hw.2 hc
        exact R_sub [] rfl (J_153 σ hw)
  have J_17 : ∀ (σ : VS), b_about_17 Q σ → WB p l e (({ frames := 57, cells := 0, slots := 0, locals := 1398 } : Room)) s m (#[.ref (B 0), .int p1, .int p2]) below meth c (MQ below (va_Qi (fun r w => ∃ σ' : VS, Q r σ' ∧ w = wm E B σ') (AftU E A) A) (#[.ref (B 0), .int p1, .int p2]) s (({ frames := 57, cells := 0, slots := 0, locals := 1398 } : Room)).cells (({ frames := 57, cells := 0, slots := 0, locals := 1398 } : Room)).slots A) A E (wm E B) 4 17 [] [] σ := by
    intro σ hw
    unfold b_about_17 at hw
    refine R_iconst F (-1) dX10_about_17 (by decide) ?_
    exact R_iret (Qc := Q) F rfl dX10_about_18 hw
  unfold wp_about at hw
  refine R_aload_n F dX10_about_0 rfl 0 rfl ?_
  refine R_iload_n F dX10_about_1 rfl 1 rfl ?_
  refine R_callI (As := [.int p1]) (C := RX10) (q0 := 0) (ci := 10) (N := 69) (T := TX10) (fs := mfl B) F (ct_isCell l E B _ p1 _ hw) (cwV 1 F.2.2.2.2.2.2.2.2.2.2 g_about_isCell_10 rfl rfl rfl (by decide +kernel) ⟨Nat.le_of_ble_eq_true rfl, Nat.le_of_ble_eq_true rfl⟩) ⟨rfl, rfl⟩ rfl (fun _ => rfl) rfl rfl (Nat.le_of_ble_eq_true rfl) dX10_about_2 (fun r1 σ2 hw => ?_)
  refine R_if_eq (tgt := 17) F dX10_about_5 (by decide) (fun hc => ?_) (fun hc => ?_)
  · replace hw := hw.1 hc
    exact R_sub [] rfl (J_17 σ2 hw)
  · replace hw := hw.2 hc
    refine R_iload_n F dX10_about_8 rfl 2 rfl ?_
    refine R_if_lt (tgt := 17) F dX10_about_9 (by decide) (fun hc => ?_) (fun hc => ?_)
    · replace hw := hw.1 hc
      exact R_sub [] rfl (J_17 σ2 hw)
    · replace hw := hw.2 hc
      refine R_iload_n F dX10_about_12 rfl 2 rfl ?_
      refine R_iconst F 5 dX10_about_13 (by decide) ?_
      refine R_icmp_le (tgt := 19) F dX10_about_14 (by decide) (fun hc => ?_) (fun hc => ?_)
      · replace hw := hw.1 hc
        refine R_aload_n F dX10_about_19 rfl 0 rfl ?_
        refine R_callV (As := []) (C := RX10) (q0 := 0) (ci := 10) (N := 69) (T := TX10) (fs := mfl B) F (ct_time l E B _ _ hw) (cwV 0 F.2.2.2.2.2.2.2.2.2.2 g_about_time_282 rfl rfl rfl (by decide +kernel) ⟨Nat.le_of_ble_eq_true rfl, Nat.le_of_ble_eq_true rfl⟩) ⟨rfl, rfl⟩ rfl (fun _ => rfl) rfl rfl (Nat.le_of_ble_eq_true rfl) dX10_about_20 (fun σ4 hw => ?_)
        refine R_aload_n F dX10_about_23 rfl 0 rfl ?_
        refine gm_2 F in_about dX10_about_24 ?_
        refine R_iload_n F dX10_about_27 rfl 1 rfl ?_
        refine R_ldi F qm_2 dX10_about_28 hw.1 ?_
        replace hw := hw.2
        refine R_iconst F 5 dX10_about_29 (by decide) ?_
        refine R_icmp_ne (tgt := 44) F dX10_about_30 (by decide) (fun hc => ?_) (fun hc => ?_)
        · replace hw := hw.1 hc
          refine R_iload_n F dX10_about_44 rfl 1 rfl ?_
          exact R_sub [0, 1, 2] rfl (J_45 p1 p2 p1 σ4 hw)
        · replace hw := hw.2 hc
          refine R_aload_n F dX10_about_33 rfl 0 rfl ?_
          refine gm_7 F in_about dX10_about_34 ?_
          refine R_iconst F 4 dX10_about_37 (by decide) ?_
          refine R_iload_n F dX10_about_38 rfl 1 rfl ?_
          refine R_imul F dX10_about_39 ?_
          refine R_ldi F qm_7 dX10_about_40 hw.1 ?_
          replace hw := hw.2
          refine R_goto (tgt := 45) F dX10_about_41 (by decide) ?_
          exact R_sub [0, 1, 2] rfl (J_45 p1 p2 (rd σ4 7 (4 * p1)) σ4 hw)
      · replace hw := hw.2 hc
        exact R_sub [] rfl (J_17 σ2 hw)
def b_told_51 (Q : Int32 → VS → Prop) (k0 : Int32) (σ : VS) : Prop := Q k0 σ
def wp_told (Q : Int32 → VS → Prop) (p1 : Int32) (σ : VS) : Prop := wp_isCell (fun (r1 : Int32) (σ2 : VS) => ((r1.toInt ≠ 0 → wp_isTarget (fun (r3 : Int32) (σ4 : VS) => ((r3.toInt ≠ 0 → wp_judge (fun (σ6 : VS) => wp_isOpenTarget (fun (r7 : Int32) (σ8 : VS) => ((r7.toInt = 0 → (In p1 50 ∧ (((rd σ8 45 p1).toInt ≤ 0 → b_told_51 Q 0 σ8) ∧ (0 < (rd σ8 45 p1).toInt → b_told_51 Q 1 σ8)))) ∧ (r7.toInt ≠ 0 → b_told_51 Q 2 σ8))) p1 σ6) σ4) ∧ (r3.toInt = 0 → Q (-2) σ4))) p1 σ2) ∧ (r1.toInt = 0 → Q (-1) σ2))) p1 σ
theorem dX10_told_0 : decode cX10_told 0 = .ok (.aload_n 0, 1) := by decide +kernel
theorem dX10_told_1 : decode cX10_told 1 = .ok (.iload_n 1, 1) := by decide +kernel
theorem dX10_told_2 : decode cX10_told 2 = .ok (.invokevirtual 10, 3) := by decide +kernel
theorem dX10_told_5 : decode cX10_told 5 = .ok (.ifCond .ne 5, 3) := by decide +kernel
theorem dX10_told_10 : decode cX10_told 10 = .ok (.aload_n 0, 1) := by decide +kernel
theorem dX10_told_11 : decode cX10_told 11 = .ok (.iload_n 1, 1) := by decide +kernel
theorem dX10_told_12 : decode cX10_told 12 = .ok (.invokevirtual 69, 3) := by decide +kernel
theorem dX10_told_15 : decode cX10_told 15 = .ok (.ifCond .ne 6, 3) := by decide +kernel
theorem dX10_told_21 : decode cX10_told 21 = .ok (.aload_n 0, 1) := by decide +kernel
theorem dX10_told_22 : decode cX10_told 22 = .ok (.invokevirtual 316, 3) := by decide +kernel
theorem dX10_told_25 : decode cX10_told 25 = .ok (.aload_n 0, 1) := by decide +kernel
theorem dX10_told_26 : decode cX10_told 26 = .ok (.iload_n 1, 1) := by decide +kernel
theorem dX10_told_27 : decode cX10_told 27 = .ok (.invokevirtual 319, 3) := by decide +kernel
theorem dX10_told_30 : decode cX10_told 30 = .ok (.ifCond .eq 7, 3) := by decide +kernel
theorem dX10_told_37 : decode cX10_told 37 = .ok (.aload_n 0, 1) := by decide +kernel
theorem dX10_told_38 : decode cX10_told 38 = .ok (.getfield 150, 3) := by decide +kernel
theorem dX10_told_41 : decode cX10_told 41 = .ok (.iload_n 1, 1) := by decide +kernel
theorem dX10_told_42 : decode cX10_told 42 = .ok (.iaload, 1) := by decide +kernel
theorem dX10_told_43 : decode cX10_told 43 = .ok (.ifCond .le 7, 3) := by decide +kernel
theorem dX10_told_50 : decode cX10_told 50 = .ok (.iconst 0, 1) := by decide +kernel
theorem dX10_told_46 : decode cX10_told 46 = .ok (.iconst 1, 1) := by decide +kernel
theorem dX10_told_47 : decode cX10_told 47 = .ok (.goto 4, 3) := by decide +kernel
theorem dX10_told_33 : decode cX10_told 33 = .ok (.iconst 2, 1) := by decide +kernel
theorem dX10_told_34 : decode cX10_told 34 = .ok (.goto 17, 3) := by decide +kernel
theorem dX10_told_18 : decode cX10_told 18 = .ok (.bipush (-2), 2) := by decide +kernel
theorem dX10_told_20 : decode cX10_told 20 = .ok (.ireturn, 1) := by decide +kernel
theorem dX10_told_8 : decode cX10_told 8 = .ok (.iconst (-1), 1) := by decide +kernel
theorem dX10_told_9 : decode cX10_told 9 = .ok (.ireturn, 1) := by decide +kernel
theorem dX10_told_51 : decode cX10_told 51 = .ok (.ireturn, 1) := by decide +kernel
def wo_told : List Cond := [.code yX10_told cX10_told 2 (some .int), .methodLink RX10 10 yX10_isCell, .instanceMethod yX10_isCell, .selects RX10 yX10_isCell yX10_isCell, .initialized RX10, .methodLink RX10 69 yX10_isTarget, .instanceMethod yX10_isTarget, .selects RX10 yX10_isTarget yX10_isTarget, .methodLink RX10 316 yX10_judge, .instanceMethod yX10_judge, .selects RX10 yX10_judge yX10_judge, .methodLink RX10 319 yX10_isOpenTarget, .instanceMethod yX10_isOpenTarget, .selects RX10 yX10_isOpenTarget yX10_isOpenTarget]
def wr_told : List Cond := (wfX10 ++ (w_isCell ++ (w_isTarget ++ (w_judge ++ (w_isOpenTarget ++ ([]))))))
def w_told : List Cond := wo_told ++ wr_told
theorem wg_told : GW w_told := GW_app (GW_of (by decide +kernel)) (GW_app (wg_fX10) (GW_app (wg_isCell) (GW_app (wg_isTarget) (GW_app (wg_judge) (GW_app (wg_isOpenTarget) (GW_nil))))))
theorem in_told : ∀ w ∈ wfX10, w ∈ w_told := fun _ h => List.mem_append_right _ (List.mem_append_left _ h)
theorem g_told_isCell_10 : GoodIn w_told (wsV RX10 10 RX10 yX10_isCell w_isCell) := goodIn_app (gi_left (goodIn_of _ (by decide +kernel))) (fun w h => ⟨List.mem_append_right _ (List.mem_append_right _ (List.mem_append_left _ h)), wg_isCell w h⟩)
theorem g_told_isTarget_69 : GoodIn w_told (wsV RX10 69 RX10 yX10_isTarget w_isTarget) := goodIn_app (gi_left (goodIn_of _ (by decide +kernel))) (fun w h => ⟨List.mem_append_right _ (List.mem_append_right _ (List.mem_append_right _ (List.mem_append_left _ h))), wg_isTarget w h⟩)
theorem g_told_judge_316 : GoodIn w_told (wsV RX10 316 RX10 yX10_judge w_judge) := goodIn_app (gi_left (goodIn_of _ (by decide +kernel))) (fun w h => ⟨List.mem_append_right _ (List.mem_append_right _ (List.mem_append_right _ (List.mem_append_right _ (List.mem_append_left _ h)))), wg_judge w h⟩)
theorem g_told_isOpenTarget_319 : GoodIn w_told (wsV RX10 319 RX10 yX10_isOpenTarget w_isOpenTarget) := goodIn_app (gi_left (goodIn_of _ (by decide +kernel))) (fun w h => ⟨List.mem_append_right _ (List.mem_append_right _ (List.mem_append_right _ (List.mem_append_right _ (List.mem_append_right _ (List.mem_append_left _ h))))), wg_isOpenTarget w h⟩)
set_option maxHeartbeats 4000000 in
set_option maxRecDepth 100000 in
theorem ct_told (l : Launch) (E : gE) (B : Nat → Nat) (Q : Int32 → VS → Prop) (p1 : Int32) (σ : VS) (hw : wp_told Q p1 σ) : CtI l E yX10_told w_told (({ frames := 58, cells := 0, slots := 0, locals := 1420 } : Room)) (wm E B σ) [.ref (B 0), .int p1] (fun r w => ∃ σ' : VS, Q r σ' ∧ w = wm E B σ') := by
  refine VC_I (cc := cX10_told) (mL := 2) (rt := (some .int)) (lv0 := [(0, .ref (B 0)), (1, .int p1)]) rfl (by decide) rfl (Nat.le_of_ble_eq_true rfl) ?_
  intro p e s m below meth c A F
  replace F : Fx p s m _ meth c A E cX10_told 2 (some .int) RX10 w_told := F
  have J_51 : ∀ (k0 : Int32) (σ : VS), b_told_51 Q k0 σ → WB p l e (({ frames := 58, cells := 0, slots := 0, locals := 1420 } : Room)) s m (#[.ref (B 0), .int p1]) below meth c (MQ below (va_Qi (fun r w => ∃ σ' : VS, Q r σ' ∧ w = wm E B σ') (AftU E A) A) (#[.ref (B 0), .int p1]) s (({ frames := 58, cells := 0, slots := 0, locals := 1420 } : Room)).cells (({ frames := 58, cells := 0, slots := 0, locals := 1420 } : Room)).slots A) A E (wm E B) 2 51 [] [.int k0] σ := by
    intro k0 σ hw
    unfold b_told_51 at hw
    exact R_iret (Qc := Q) F rfl dX10_told_51 hw
  unfold wp_told at hw
  refine R_aload_n F dX10_told_0 rfl 0 rfl ?_
  refine R_iload_n F dX10_told_1 rfl 1 rfl ?_
  refine R_callI (As := [.int p1]) (C := RX10) (q0 := 0) (ci := 10) (N := 69) (T := TX10) (fs := mfl B) F (ct_isCell l E B _ p1 _ hw) (cwV 1 F.2.2.2.2.2.2.2.2.2.2 g_told_isCell_10 rfl rfl rfl (by decide +kernel) ⟨Nat.le_of_ble_eq_true rfl, Nat.le_of_ble_eq_true rfl⟩) ⟨rfl, rfl⟩ rfl (fun _ => rfl) rfl rfl (Nat.le_of_ble_eq_true rfl) dX10_told_2 (fun r1 σ2 hw => ?_)
  refine R_if_ne (tgt := 10) F dX10_told_5 (by decide) (fun hc => ?_) (fun hc => ?_)
  · replace hw := hw.1 hc
    refine R_aload_n F dX10_told_10 rfl 0 rfl ?_
    refine R_iload_n F dX10_told_11 rfl 1 rfl ?_
    refine R_callI (As := [.int p1]) (C := RX10) (q0 := 0) (ci := 10) (N := 69) (T := TX10) (fs := mfl B) F (ct_isTarget l E B _ p1 _ hw) (cwV 1 F.2.2.2.2.2.2.2.2.2.2 g_told_isTarget_69 rfl rfl rfl (by decide +kernel) ⟨Nat.le_of_ble_eq_true rfl, Nat.le_of_ble_eq_true rfl⟩) ⟨rfl, rfl⟩ rfl (fun _ => rfl) rfl rfl (Nat.le_of_ble_eq_true rfl) dX10_told_12 (fun r3 σ4 hw => ?_)
    refine R_if_ne (tgt := 21) F dX10_told_15 (by decide) (fun hc => ?_) (fun hc => ?_)
    · replace hw := hw.1 hc
      refine R_aload_n F dX10_told_21 rfl 0 rfl ?_
      refine R_callV (As := []) (C := RX10) (q0 := 0) (ci := 10) (N := 69) (T := TX10) (fs := mfl B) F (ct_judge l E B _ _ hw) (cwV 0 F.2.2.2.2.2.2.2.2.2.2 g_told_judge_316 rfl rfl rfl (by decide +kernel) ⟨Nat.le_of_ble_eq_true rfl, Nat.le_of_ble_eq_true rfl⟩) ⟨rfl, rfl⟩ rfl (fun _ => rfl) rfl rfl (Nat.le_of_ble_eq_true rfl) dX10_told_22 (fun σ6 hw => ?_)
      refine R_aload_n F dX10_told_25 rfl 0 rfl ?_
      refine R_iload_n F dX10_told_26 rfl 1 rfl ?_
      refine R_callI (As := [.int p1]) (C := RX10) (q0 := 0) (ci := 10) (N := 69) (T := TX10) (fs := mfl B) F (ct_isOpenTarget l E B _ p1 _ hw) (cwV 1 F.2.2.2.2.2.2.2.2.2.2 g_told_isOpenTarget_319 rfl rfl rfl (by decide +kernel) ⟨Nat.le_of_ble_eq_true rfl, Nat.le_of_ble_eq_true rfl⟩) ⟨rfl, rfl⟩ rfl (fun _ => rfl) rfl rfl (Nat.le_of_ble_eq_true rfl) dX10_told_27 (fun r7 σ8 hw => ?_)
      refine R_if_eq (tgt := 37) F dX10_told_30 (by decide) (fun hc => ?_) (fun hc => ?_)
      · replace hw := hw.1 hc
        refine R_aload_n F dX10_told_37 rfl 0 rfl ?_
        refine gm_45 F in_told dX10_told_38 ?_
        refine R_iload_n F dX10_told_41 rfl 1 rfl ?_
        refine R_ldi F qm_45 dX10_told_42 hw.1 ?_
        replace hw := hw.2
        refine R_if_le (tgt := 50) F dX10_told_43 (by decide) (fun hc => ?_) (fun hc => ?_)
        · replace hw := hw.1 hc
          refine R_iconst F 0 dX10_told_50 (by decide) ?_
          exact R_sub [] rfl (J_51 0 σ8 hw)
        · replace hw := hw.2 hc
          refine R_iconst F 1 dX10_told_46 (by decide) ?_
          refine R_goto (tgt := 51) F dX10_told_47 (by decide) ?_
          exact R_sub [] rfl (J_51 1 σ8 hw)
      · replace hw := hw.2 hc
        refine R_iconst F 2 dX10_told_33 (by decide) ?_
        refine R_goto (tgt := 51) F dX10_told_34 (by decide) ?_
        exact R_sub [] rfl (J_51 2 σ8 hw)
    · replace hw := hw.2 hc
      refine R_bipush F (-2) dX10_told_18 (by decide) ?_
      exact R_iret (Qc := Q) F rfl dX10_told_20 hw
  · replace hw := hw.2 hc
    refine R_iconst F (-1) dX10_told_8 (by decide) ?_
    exact R_iret (Qc := Q) F rfl dX10_told_9 hw
def b_slack_16 (Q : Int32 → VS → Prop) (σ : VS) : Prop := Q 1000000000 σ
def wp_slack (Q : Int32 → VS → Prop) (p1 : Int32) (σ : VS) : Prop := wp_isCell (fun (r1 : Int32) (σ2 : VS) => ((r1.toInt = 0 → b_slack_16 Q σ2) ∧ (r1.toInt ≠ 0 → wp_isTarget (fun (r3 : Int32) (σ4 : VS) => ((r3.toInt ≠ 0 → wp_judge (fun (σ6 : VS) => (In p1 50 ∧ Q (rd σ6 46 p1) σ6)) σ4) ∧ (r3.toInt = 0 → b_slack_16 Q σ4))) p1 σ2))) p1 σ
theorem dX10_slack_0 : decode cX10_slack 0 = .ok (.aload_n 0, 1) := by decide +kernel
theorem dX10_slack_1 : decode cX10_slack 1 = .ok (.iload_n 1, 1) := by decide +kernel
theorem dX10_slack_2 : decode cX10_slack 2 = .ok (.invokevirtual 10, 3) := by decide +kernel
theorem dX10_slack_5 : decode cX10_slack 5 = .ok (.ifCond .eq 11, 3) := by decide +kernel
theorem dX10_slack_8 : decode cX10_slack 8 = .ok (.aload_n 0, 1) := by decide +kernel
theorem dX10_slack_9 : decode cX10_slack 9 = .ok (.iload_n 1, 1) := by decide +kernel
theorem dX10_slack_10 : decode cX10_slack 10 = .ok (.invokevirtual 69, 3) := by decide +kernel
theorem dX10_slack_13 : decode cX10_slack 13 = .ok (.ifCond .ne 7, 3) := by decide +kernel
theorem dX10_slack_20 : decode cX10_slack 20 = .ok (.aload_n 0, 1) := by decide +kernel
theorem dX10_slack_21 : decode cX10_slack 21 = .ok (.invokevirtual 316, 3) := by decide +kernel
theorem dX10_slack_24 : decode cX10_slack 24 = .ok (.aload_n 0, 1) := by decide +kernel
theorem dX10_slack_25 : decode cX10_slack 25 = .ok (.getfield 153, 3) := by decide +kernel
theorem dX10_slack_28 : decode cX10_slack 28 = .ok (.iload_n 1, 1) := by decide +kernel
theorem dX10_slack_29 : decode cX10_slack 29 = .ok (.iaload, 1) := by decide +kernel
theorem dX10_slack_30 : decode cX10_slack 30 = .ok (.ireturn, 1) := by decide +kernel
theorem dX10_slack_16 : decode cX10_slack 16 = .ok (.ldc_w 302, 3) := by decide +kernel
theorem dX10_slack_19 : decode cX10_slack 19 = .ok (.ireturn, 1) := by decide +kernel
def wo_slack : List Cond := [.code yX10_slack cX10_slack 2 (some .int), .methodLink RX10 10 yX10_isCell, .instanceMethod yX10_isCell, .selects RX10 yX10_isCell yX10_isCell, .initialized RX10, .methodLink RX10 69 yX10_isTarget, .instanceMethod yX10_isTarget, .selects RX10 yX10_isTarget yX10_isTarget, .methodLink RX10 316 yX10_judge, .instanceMethod yX10_judge, .selects RX10 yX10_judge yX10_judge, .constant RX10 302 1000000000]
def wr_slack : List Cond := (wfX10 ++ (w_isCell ++ (w_isTarget ++ (w_judge ++ ([])))))
def w_slack : List Cond := wo_slack ++ wr_slack
theorem wg_slack : GW w_slack := GW_app (GW_of (by decide +kernel)) (GW_app (wg_fX10) (GW_app (wg_isCell) (GW_app (wg_isTarget) (GW_app (wg_judge) (GW_nil)))))
theorem in_slack : ∀ w ∈ wfX10, w ∈ w_slack := fun _ h => List.mem_append_right _ (List.mem_append_left _ h)
theorem g_slack_isCell_10 : GoodIn w_slack (wsV RX10 10 RX10 yX10_isCell w_isCell) := goodIn_app (gi_left (goodIn_of _ (by decide +kernel))) (fun w h => ⟨List.mem_append_right _ (List.mem_append_right _ (List.mem_append_left _ h)), wg_isCell w h⟩)
theorem g_slack_isTarget_69 : GoodIn w_slack (wsV RX10 69 RX10 yX10_isTarget w_isTarget) := goodIn_app (gi_left (goodIn_of _ (by decide +kernel))) (fun w h => ⟨List.mem_append_right _ (List.mem_append_right _ (List.mem_append_right _ (List.mem_append_left _ h))), wg_isTarget w h⟩)
theorem g_slack_judge_316 : GoodIn w_slack (wsV RX10 316 RX10 yX10_judge w_judge) := goodIn_app (gi_left (goodIn_of _ (by decide +kernel))) (fun w h => ⟨List.mem_append_right _ (List.mem_append_right _ (List.mem_append_right _ (List.mem_append_right _ (List.mem_append_left _ h)))), wg_judge w h⟩)
set_option maxHeartbeats 4000000 in
set_option maxRecDepth 100000 in
theorem ct_slack (l : Launch) (E : gE) (B : Nat → Nat) (Q : Int32 → VS → Prop) (p1 : Int32) (σ : VS) (hw : wp_slack Q p1 σ) : CtI l E yX10_slack w_slack (({ frames := 58, cells := 0, slots := 0, locals := 1420 } : Room)) (wm E B σ) [.ref (B 0), .int p1] (fun r w => ∃ σ' : VS, Q r σ' ∧ w = wm E B σ') := by
  refine VC_I (cc := cX10_slack) (mL := 2) (rt := (some .int)) (lv0 := [(0, .ref (B 0)), (1, .int p1)]) rfl (by decide) rfl (Nat.le_of_ble_eq_true rfl) ?_
  intro p e s m below meth c A F
  replace F : Fx p s m _ meth c A E cX10_slack 2 (some .int) RX10 w_slack := F
  have J_16 : ∀ (σ : VS), b_slack_16 Q σ → WB p l e (({ frames := 58, cells := 0, slots := 0, locals := 1420 } : Room)) s m (#[.ref (B 0), .int p1]) below meth c (MQ below (va_Qi (fun r w => ∃ σ' : VS, Q r σ' ∧ w = wm E B σ') (AftU E A) A) (#[.ref (B 0), .int p1]) s (({ frames := 58, cells := 0, slots := 0, locals := 1420 } : Room)).cells (({ frames := 58, cells := 0, slots := 0, locals := 1420 } : Room)).slots A) A E (wm E B) 2 16 [] [] σ := by
    intro σ hw
    unfold b_slack_16 at hw
    refine R_ldcw F 1000000000 (List.mem_append_left _ (show Cond.constant RX10 302 1000000000 ∈ wo_slack by decide +kernel)) dX10_slack_16 ?_
    exact R_iret (Qc := Q) F rfl dX10_slack_19 hw
  unfold wp_slack at hw
  refine R_aload_n F dX10_slack_0 rfl 0 rfl ?_
  refine R_iload_n F dX10_slack_1 rfl 1 rfl ?_
  refine R_callI (As := [.int p1]) (C := RX10) (q0 := 0) (ci := 10) (N := 69) (T := TX10) (fs := mfl B) F (ct_isCell l E B _ p1 _ hw) (cwV 1 F.2.2.2.2.2.2.2.2.2.2 g_slack_isCell_10 rfl rfl rfl (by decide +kernel) ⟨Nat.le_of_ble_eq_true rfl, Nat.le_of_ble_eq_true rfl⟩) ⟨rfl, rfl⟩ rfl (fun _ => rfl) rfl rfl (Nat.le_of_ble_eq_true rfl) dX10_slack_2 (fun r1 σ2 hw => ?_)
  refine R_if_eq (tgt := 16) F dX10_slack_5 (by decide) (fun hc => ?_) (fun hc => ?_)
  · replace hw := hw.1 hc
    exact R_sub [] rfl (J_16 σ2 hw)
  · replace hw := hw.2 hc
    refine R_aload_n F dX10_slack_8 rfl 0 rfl ?_
    refine R_iload_n F dX10_slack_9 rfl 1 rfl ?_
    refine R_callI (As := [.int p1]) (C := RX10) (q0 := 0) (ci := 10) (N := 69) (T := TX10) (fs := mfl B) F (ct_isTarget l E B _ p1 _ hw) (cwV 1 F.2.2.2.2.2.2.2.2.2.2 g_slack_isTarget_69 rfl rfl rfl (by decide +kernel) ⟨Nat.le_of_ble_eq_true rfl, Nat.le_of_ble_eq_true rfl⟩) ⟨rfl, rfl⟩ rfl (fun _ => rfl) rfl rfl (Nat.le_of_ble_eq_true rfl) dX10_slack_10 (fun r3 σ4 hw => ?_)
    refine R_if_ne (tgt := 20) F dX10_slack_13 (by decide) (fun hc => ?_) (fun hc => ?_)
    · replace hw := hw.1 hc
      refine R_aload_n F dX10_slack_20 rfl 0 rfl ?_
      refine R_callV (As := []) (C := RX10) (q0 := 0) (ci := 10) (N := 69) (T := TX10) (fs := mfl B) F (ct_judge l E B _ _ hw) (cwV 0 F.2.2.2.2.2.2.2.2.2.2 g_slack_judge_316 rfl rfl rfl (by decide +kernel) ⟨Nat.le_of_ble_eq_true rfl, Nat.le_of_ble_eq_true rfl⟩) ⟨rfl, rfl⟩ rfl (fun _ => rfl) rfl rfl (Nat.le_of_ble_eq_true rfl) dX10_slack_21 (fun σ6 hw => ?_)
      refine R_aload_n F dX10_slack_24 rfl 0 rfl ?_
      refine gm_46 F in_slack dX10_slack_25 ?_
      refine R_iload_n F dX10_slack_28 rfl 1 rfl ?_
      refine R_ldi F qm_46 dX10_slack_29 hw.1 ?_
      replace hw := hw.2
      exact R_iret (Qc := Q) F rfl dX10_slack_30 hw
    · replace hw := hw.2 hc
      exact R_sub [] rfl (J_16 σ4 hw)
def b_hold_16 (Q : Int32 → VS → Prop) (σ : VS) : Prop := Q 1000000000 σ
def wp_hold (Q : Int32 → VS → Prop) (p1 : Int32) (σ : VS) : Prop := wp_isCell (fun (r1 : Int32) (σ2 : VS) => ((r1.toInt = 0 → b_hold_16 Q σ2) ∧ (r1.toInt ≠ 0 → wp_isTarget (fun (r3 : Int32) (σ4 : VS) => ((r3.toInt ≠ 0 → wp_judge (fun (σ6 : VS) => (In p1 50 ∧ Q (rd σ6 47 p1) σ6)) σ4) ∧ (r3.toInt = 0 → b_hold_16 Q σ4))) p1 σ2))) p1 σ
theorem dX10_hold_0 : decode cX10_hold 0 = .ok (.aload_n 0, 1) := by decide +kernel
theorem dX10_hold_1 : decode cX10_hold 1 = .ok (.iload_n 1, 1) := by decide +kernel
theorem dX10_hold_2 : decode cX10_hold 2 = .ok (.invokevirtual 10, 3) := by decide +kernel
theorem dX10_hold_5 : decode cX10_hold 5 = .ok (.ifCond .eq 11, 3) := by decide +kernel
theorem dX10_hold_8 : decode cX10_hold 8 = .ok (.aload_n 0, 1) := by decide +kernel
theorem dX10_hold_9 : decode cX10_hold 9 = .ok (.iload_n 1, 1) := by decide +kernel
theorem dX10_hold_10 : decode cX10_hold 10 = .ok (.invokevirtual 69, 3) := by decide +kernel
theorem dX10_hold_13 : decode cX10_hold 13 = .ok (.ifCond .ne 7, 3) := by decide +kernel
theorem dX10_hold_20 : decode cX10_hold 20 = .ok (.aload_n 0, 1) := by decide +kernel
theorem dX10_hold_21 : decode cX10_hold 21 = .ok (.invokevirtual 316, 3) := by decide +kernel
theorem dX10_hold_24 : decode cX10_hold 24 = .ok (.aload_n 0, 1) := by decide +kernel
theorem dX10_hold_25 : decode cX10_hold 25 = .ok (.getfield 156, 3) := by decide +kernel
theorem dX10_hold_28 : decode cX10_hold 28 = .ok (.iload_n 1, 1) := by decide +kernel
theorem dX10_hold_29 : decode cX10_hold 29 = .ok (.iaload, 1) := by decide +kernel
theorem dX10_hold_30 : decode cX10_hold 30 = .ok (.ireturn, 1) := by decide +kernel
theorem dX10_hold_16 : decode cX10_hold 16 = .ok (.ldc_w 302, 3) := by decide +kernel
theorem dX10_hold_19 : decode cX10_hold 19 = .ok (.ireturn, 1) := by decide +kernel
def wo_hold : List Cond := [.code yX10_hold cX10_hold 2 (some .int), .methodLink RX10 10 yX10_isCell, .instanceMethod yX10_isCell, .selects RX10 yX10_isCell yX10_isCell, .initialized RX10, .methodLink RX10 69 yX10_isTarget, .instanceMethod yX10_isTarget, .selects RX10 yX10_isTarget yX10_isTarget, .methodLink RX10 316 yX10_judge, .instanceMethod yX10_judge, .selects RX10 yX10_judge yX10_judge, .constant RX10 302 1000000000]
def wr_hold : List Cond := (wfX10 ++ (w_isCell ++ (w_isTarget ++ (w_judge ++ ([])))))
def w_hold : List Cond := wo_hold ++ wr_hold
theorem wg_hold : GW w_hold := GW_app (GW_of (by decide +kernel)) (GW_app (wg_fX10) (GW_app (wg_isCell) (GW_app (wg_isTarget) (GW_app (wg_judge) (GW_nil)))))
theorem in_hold : ∀ w ∈ wfX10, w ∈ w_hold := fun _ h => List.mem_append_right _ (List.mem_append_left _ h)
theorem g_hold_isCell_10 : GoodIn w_hold (wsV RX10 10 RX10 yX10_isCell w_isCell) := goodIn_app (gi_left (goodIn_of _ (by decide +kernel))) (fun w h => ⟨List.mem_append_right _ (List.mem_append_right _ (List.mem_append_left _ h)), wg_isCell w h⟩)
theorem g_hold_isTarget_69 : GoodIn w_hold (wsV RX10 69 RX10 yX10_isTarget w_isTarget) := goodIn_app (gi_left (goodIn_of _ (by decide +kernel))) (fun w h => ⟨List.mem_append_right _ (List.mem_append_right _ (List.mem_append_right _ (List.mem_append_left _ h))), wg_isTarget w h⟩)
theorem g_hold_judge_316 : GoodIn w_hold (wsV RX10 316 RX10 yX10_judge w_judge) := goodIn_app (gi_left (goodIn_of _ (by decide +kernel))) (fun w h => ⟨List.mem_append_right _ (List.mem_append_right _ (List.mem_append_right _ (List.mem_append_right _ (List.mem_append_left _ h)))), wg_judge w h⟩)
set_option maxHeartbeats 4000000 in
set_option maxRecDepth 100000 in
theorem ct_hold (l : Launch) (E : gE) (B : Nat → Nat) (Q : Int32 → VS → Prop) (p1 : Int32) (σ : VS) (hw : wp_hold Q p1 σ) : CtI l E yX10_hold w_hold (({ frames := 58, cells := 0, slots := 0, locals := 1420 } : Room)) (wm E B σ) [.ref (B 0), .int p1] (fun r w => ∃ σ' : VS, Q r σ' ∧ w = wm E B σ') := by
  refine VC_I (cc := cX10_hold) (mL := 2) (rt := (some .int)) (lv0 := [(0, .ref (B 0)), (1, .int p1)]) rfl (by decide) rfl (Nat.le_of_ble_eq_true rfl) ?_
  intro p e s m below meth c A F
  replace F : Fx p s m _ meth c A E cX10_hold 2 (some .int) RX10 w_hold := F
  have J_16 : ∀ (σ : VS), b_hold_16 Q σ → WB p l e (({ frames := 58, cells := 0, slots := 0, locals := 1420 } : Room)) s m (#[.ref (B 0), .int p1]) below meth c (MQ below (va_Qi (fun r w => ∃ σ' : VS, Q r σ' ∧ w = wm E B σ') (AftU E A) A) (#[.ref (B 0), .int p1]) s (({ frames := 58, cells := 0, slots := 0, locals := 1420 } : Room)).cells (({ frames := 58, cells := 0, slots := 0, locals := 1420 } : Room)).slots A) A E (wm E B) 2 16 [] [] σ := by
    intro σ hw
    unfold b_hold_16 at hw
    refine R_ldcw F 1000000000 (List.mem_append_left _ (show Cond.constant RX10 302 1000000000 ∈ wo_hold by decide +kernel)) dX10_hold_16 ?_
    exact R_iret (Qc := Q) F rfl dX10_hold_19 hw
  unfold wp_hold at hw
  refine R_aload_n F dX10_hold_0 rfl 0 rfl ?_
  refine R_iload_n F dX10_hold_1 rfl 1 rfl ?_
  refine R_callI (As := [.int p1]) (C := RX10) (q0 := 0) (ci := 10) (N := 69) (T := TX10) (fs := mfl B) F (ct_isCell l E B _ p1 _ hw) (cwV 1 F.2.2.2.2.2.2.2.2.2.2 g_hold_isCell_10 rfl rfl rfl (by decide +kernel) ⟨Nat.le_of_ble_eq_true rfl, Nat.le_of_ble_eq_true rfl⟩) ⟨rfl, rfl⟩ rfl (fun _ => rfl) rfl rfl (Nat.le_of_ble_eq_true rfl) dX10_hold_2 (fun r1 σ2 hw => ?_)
  refine R_if_eq (tgt := 16) F dX10_hold_5 (by decide) (fun hc => ?_) (fun hc => ?_)
  · replace hw := hw.1 hc
    exact R_sub [] rfl (J_16 σ2 hw)
  · replace hw := hw.2 hc
    refine R_aload_n F dX10_hold_8 rfl 0 rfl ?_
    refine R_iload_n F dX10_hold_9 rfl 1 rfl ?_
    refine R_callI (As := [.int p1]) (C := RX10) (q0 := 0) (ci := 10) (N := 69) (T := TX10) (fs := mfl B) F (ct_isTarget l E B _ p1 _ hw) (cwV 1 F.2.2.2.2.2.2.2.2.2.2 g_hold_isTarget_69 rfl rfl rfl (by decide +kernel) ⟨Nat.le_of_ble_eq_true rfl, Nat.le_of_ble_eq_true rfl⟩) ⟨rfl, rfl⟩ rfl (fun _ => rfl) rfl rfl (Nat.le_of_ble_eq_true rfl) dX10_hold_10 (fun r3 σ4 hw => ?_)
    refine R_if_ne (tgt := 20) F dX10_hold_13 (by decide) (fun hc => ?_) (fun hc => ?_)
    · replace hw := hw.1 hc
      refine R_aload_n F dX10_hold_20 rfl 0 rfl ?_
      refine R_callV (As := []) (C := RX10) (q0 := 0) (ci := 10) (N := 69) (T := TX10) (fs := mfl B) F (ct_judge l E B _ _ hw) (cwV 0 F.2.2.2.2.2.2.2.2.2.2 g_hold_judge_316 rfl rfl rfl (by decide +kernel) ⟨Nat.le_of_ble_eq_true rfl, Nat.le_of_ble_eq_true rfl⟩) ⟨rfl, rfl⟩ rfl (fun _ => rfl) rfl rfl (Nat.le_of_ble_eq_true rfl) dX10_hold_21 (fun σ6 hw => ?_)
      refine R_aload_n F dX10_hold_24 rfl 0 rfl ?_
      refine gm_47 F in_hold dX10_hold_25 ?_
      refine R_iload_n F dX10_hold_28 rfl 1 rfl ?_
      refine R_ldi F qm_47 dX10_hold_29 hw.1 ?_
      replace hw := hw.2
      exact R_iret (Qc := Q) F rfl dX10_hold_30 hw
    · replace hw := hw.2 hc
      exact R_sub [] rfl (J_16 σ4 hw)
def b_worst_26 (Q : Int32 → VS → Prop) (k0 : Int32) (σ : VS) : Prop := wp_worstOf (fun (r3 : Int32) (σ4 : VS) => Q r3 σ4) k0 σ
def b_worst_9 (Q : Int32 → VS → Prop) (σ : VS) : Prop := Q (-1) σ
def wp_worst (Q : Int32 → VS → Prop) (p1 : Int32) (σ : VS) : Prop := ((p1.toInt < 0 → b_worst_9 Q σ) ∧ (0 ≤ p1.toInt → ((p1.toInt ≤ 1 → wp_judge (fun (σ2 : VS) => ((p1.toInt ≠ 1 → b_worst_26 Q 0 σ2) ∧ (p1.toInt = 1 → b_worst_26 Q 1 σ2))) σ) ∧ (1 < p1.toInt → b_worst_9 Q σ))))
theorem dX10_worst_0 : decode cX10_worst 0 = .ok (.iload_n 1, 1) := by decide +kernel
theorem dX10_worst_1 : decode cX10_worst 1 = .ok (.ifCond .lt 8, 3) := by decide +kernel
theorem dX10_worst_4 : decode cX10_worst 4 = .ok (.iload_n 1, 1) := by decide +kernel
theorem dX10_worst_5 : decode cX10_worst 5 = .ok (.iconst 1, 1) := by decide +kernel
theorem dX10_worst_6 : decode cX10_worst 6 = .ok (.if_icmp .le 5, 3) := by decide +kernel
theorem dX10_worst_11 : decode cX10_worst 11 = .ok (.aload_n 0, 1) := by decide +kernel
theorem dX10_worst_12 : decode cX10_worst 12 = .ok (.invokevirtual 316, 3) := by decide +kernel
theorem dX10_worst_15 : decode cX10_worst 15 = .ok (.aload_n 0, 1) := by decide +kernel
theorem dX10_worst_16 : decode cX10_worst 16 = .ok (.iload_n 1, 1) := by decide +kernel
theorem dX10_worst_17 : decode cX10_worst 17 = .ok (.iconst 1, 1) := by decide +kernel
theorem dX10_worst_18 : decode cX10_worst 18 = .ok (.if_icmp .ne 7, 3) := by decide +kernel
theorem dX10_worst_25 : decode cX10_worst 25 = .ok (.iconst 0, 1) := by decide +kernel
theorem dX10_worst_21 : decode cX10_worst 21 = .ok (.iconst 1, 1) := by decide +kernel
theorem dX10_worst_22 : decode cX10_worst 22 = .ok (.goto 4, 3) := by decide +kernel
theorem dX10_worst_9 : decode cX10_worst 9 = .ok (.iconst (-1), 1) := by decide +kernel
theorem dX10_worst_10 : decode cX10_worst 10 = .ok (.ireturn, 1) := by decide +kernel
theorem dX10_worst_26 : decode cX10_worst 26 = .ok (.invokevirtual 322, 3) := by decide +kernel
theorem dX10_worst_29 : decode cX10_worst 29 = .ok (.ireturn, 1) := by decide +kernel
def wo_worst : List Cond := [.code yX10_worst cX10_worst 2 (some .int), .methodLink RX10 316 yX10_judge, .instanceMethod yX10_judge, .selects RX10 yX10_judge yX10_judge, .initialized RX10, .methodLink RX10 322 yX10_worstOf, .instanceMethod yX10_worstOf, .selects RX10 yX10_worstOf yX10_worstOf]
def wr_worst : List Cond := (wfX10 ++ (w_judge ++ (w_worstOf ++ ([]))))
def w_worst : List Cond := wo_worst ++ wr_worst
theorem wg_worst : GW w_worst := GW_app (GW_of (by decide +kernel)) (GW_app (wg_fX10) (GW_app (wg_judge) (GW_app (wg_worstOf) (GW_nil))))
theorem in_worst : ∀ w ∈ wfX10, w ∈ w_worst := fun _ h => List.mem_append_right _ (List.mem_append_left _ h)
theorem g_worst_judge_316 : GoodIn w_worst (wsV RX10 316 RX10 yX10_judge w_judge) := goodIn_app (gi_left (goodIn_of _ (by decide +kernel))) (fun w h => ⟨List.mem_append_right _ (List.mem_append_right _ (List.mem_append_left _ h)), wg_judge w h⟩)
theorem g_worst_worstOf_322 : GoodIn w_worst (wsV RX10 322 RX10 yX10_worstOf w_worstOf) := goodIn_app (gi_left (goodIn_of _ (by decide +kernel))) (fun w h => ⟨List.mem_append_right _ (List.mem_append_right _ (List.mem_append_right _ (List.mem_append_left _ h))), wg_worstOf w h⟩)
set_option maxHeartbeats 4000000 in
set_option maxRecDepth 100000 in
theorem ct_worst (l : Launch) (E : gE) (B : Nat → Nat) (Q : Int32 → VS → Prop) (p1 : Int32) (σ : VS) (hw : wp_worst Q p1 σ) : CtI l E yX10_worst w_worst (({ frames := 58, cells := 0, slots := 0, locals := 1420 } : Room)) (wm E B σ) [.ref (B 0), .int p1] (fun r w => ∃ σ' : VS, Q r σ' ∧ w = wm E B σ') := by
  refine VC_I (cc := cX10_worst) (mL := 2) (rt := (some .int)) (lv0 := [(0, .ref (B 0)), (1, .int p1)]) rfl (by decide) rfl (Nat.le_of_ble_eq_true rfl) ?_
  intro p e s m below meth c A F
  replace F : Fx p s m _ meth c A E cX10_worst 2 (some .int) RX10 w_worst := F
  have J_26 : ∀ (k0 : Int32) (σ : VS), b_worst_26 Q k0 σ → WB p l e (({ frames := 58, cells := 0, slots := 0, locals := 1420 } : Room)) s m (#[.ref (B 0), .int p1]) below meth c (MQ below (va_Qi (fun r w => ∃ σ' : VS, Q r σ' ∧ w = wm E B σ') (AftU E A) A) (#[.ref (B 0), .int p1]) s (({ frames := 58, cells := 0, slots := 0, locals := 1420 } : Room)).cells (({ frames := 58, cells := 0, slots := 0, locals := 1420 } : Room)).slots A) A E (wm E B) 2 26 [] [.int k0, .ref (B 0)] σ := by
    intro k0 σ hw
    unfold b_worst_26 at hw
    refine R_callI (As := [.int k0]) (C := RX10) (q0 := 0) (ci := 10) (N := 69) (T := TX10) (fs := mfl B) F (ct_worstOf l E B _ k0 _ hw) (cwV 1 F.2.2.2.2.2.2.2.2.2.2 g_worst_worstOf_322 rfl rfl rfl (by decide +kernel) ⟨Nat.le_of_ble_eq_true rfl, Nat.le_of_ble_eq_true rfl⟩) ⟨rfl, rfl⟩ rfl (fun _ => rfl) rfl rfl (Nat.le_of_ble_eq_true rfl) dX10_worst_26 (fun r3 σ4 hw => ?_)
    exact R_iret (Qc := Q) F rfl dX10_worst_29 hw
  have J_9 : ∀ (σ : VS), b_worst_9 Q σ → WB p l e (({ frames := 58, cells := 0, slots := 0, locals := 1420 } : Room)) s m (#[.ref (B 0), .int p1]) below meth c (MQ below (va_Qi (fun r w => ∃ σ' : VS, Q r σ' ∧ w = wm E B σ') (AftU E A) A) (#[.ref (B 0), .int p1]) s (({ frames := 58, cells := 0, slots := 0, locals := 1420 } : Room)).cells (({ frames := 58, cells := 0, slots := 0, locals := 1420 } : Room)).slots A) A E (wm E B) 2 9 [] [] σ := by
    intro σ hw
    unfold b_worst_9 at hw
    refine R_iconst F (-1) dX10_worst_9 (by decide) ?_
    exact R_iret (Qc := Q) F rfl dX10_worst_10 hw
  unfold wp_worst at hw
  refine R_iload_n F dX10_worst_0 rfl 1 rfl ?_
  refine R_if_lt (tgt := 9) F dX10_worst_1 (by decide) (fun hc => ?_) (fun hc => ?_)
  · replace hw := hw.1 hc
    exact R_sub [] rfl (J_9 σ hw)
  · replace hw := hw.2 hc
    refine R_iload_n F dX10_worst_4 rfl 1 rfl ?_
    refine R_iconst F 1 dX10_worst_5 (by decide) ?_
    refine R_icmp_le (tgt := 11) F dX10_worst_6 (by decide) (fun hc => ?_) (fun hc => ?_)
    · replace hw := hw.1 hc
      refine R_aload_n F dX10_worst_11 rfl 0 rfl ?_
      refine R_callV (As := []) (C := RX10) (q0 := 0) (ci := 10) (N := 69) (T := TX10) (fs := mfl B) F (ct_judge l E B _ _ hw) (cwV 0 F.2.2.2.2.2.2.2.2.2.2 g_worst_judge_316 rfl rfl rfl (by decide +kernel) ⟨Nat.le_of_ble_eq_true rfl, Nat.le_of_ble_eq_true rfl⟩) ⟨rfl, rfl⟩ rfl (fun _ => rfl) rfl rfl (Nat.le_of_ble_eq_true rfl) dX10_worst_12 (fun σ2 hw => ?_)
      refine R_aload_n F dX10_worst_15 rfl 0 rfl ?_
      refine R_iload_n F dX10_worst_16 rfl 1 rfl ?_
      refine R_iconst F 1 dX10_worst_17 (by decide) ?_
      refine R_icmp_ne (tgt := 25) F dX10_worst_18 (by decide) (fun hc => ?_) (fun hc => ?_)
      · replace hw := hw.1 hc
        refine R_iconst F 0 dX10_worst_25 (by decide) ?_
        exact R_sub [] rfl (J_26 0 σ2 hw)
      · replace hw := hw.2 hc
        refine R_iconst F 1 dX10_worst_21 (by decide) ?_
        refine R_goto (tgt := 26) F dX10_worst_22 (by decide) ?_
        exact R_sub [] rfl (J_26 1 σ2 hw)
    · replace hw := hw.2 hc
      exact R_sub [] rfl (J_9 σ hw)
def wp_paths (Q : Int32 → VS → Prop) (p1 : Int32) (σ : VS) : Prop := wp_isCell (fun (r1 : Int32) (σ2 : VS) => ((r1.toInt ≠ 0 → wp_isTarget (fun (r3 : Int32) (σ4 : VS) => ((r3.toInt ≠ 0 → wp_judge (fun (σ6 : VS) => (In p1 50 ∧ Q (rd σ6 45 p1) σ6)) σ4) ∧ (r3.toInt = 0 → Q (-2) σ4))) p1 σ2) ∧ (r1.toInt = 0 → Q (-1) σ2))) p1 σ
theorem dX10_paths_0 : decode cX10_paths 0 = .ok (.aload_n 0, 1) := by decide +kernel
theorem dX10_paths_1 : decode cX10_paths 1 = .ok (.iload_n 1, 1) := by decide +kernel
theorem dX10_paths_2 : decode cX10_paths 2 = .ok (.invokevirtual 10, 3) := by decide +kernel
theorem dX10_paths_5 : decode cX10_paths 5 = .ok (.ifCond .ne 5, 3) := by decide +kernel
theorem dX10_paths_10 : decode cX10_paths 10 = .ok (.aload_n 0, 1) := by decide +kernel
theorem dX10_paths_11 : decode cX10_paths 11 = .ok (.iload_n 1, 1) := by decide +kernel
theorem dX10_paths_12 : decode cX10_paths 12 = .ok (.invokevirtual 69, 3) := by decide +kernel
theorem dX10_paths_15 : decode cX10_paths 15 = .ok (.ifCond .ne 6, 3) := by decide +kernel
theorem dX10_paths_21 : decode cX10_paths 21 = .ok (.aload_n 0, 1) := by decide +kernel
theorem dX10_paths_22 : decode cX10_paths 22 = .ok (.invokevirtual 316, 3) := by decide +kernel
theorem dX10_paths_25 : decode cX10_paths 25 = .ok (.aload_n 0, 1) := by decide +kernel
theorem dX10_paths_26 : decode cX10_paths 26 = .ok (.getfield 150, 3) := by decide +kernel
theorem dX10_paths_29 : decode cX10_paths 29 = .ok (.iload_n 1, 1) := by decide +kernel
theorem dX10_paths_30 : decode cX10_paths 30 = .ok (.iaload, 1) := by decide +kernel
theorem dX10_paths_31 : decode cX10_paths 31 = .ok (.ireturn, 1) := by decide +kernel
theorem dX10_paths_18 : decode cX10_paths 18 = .ok (.bipush (-2), 2) := by decide +kernel
theorem dX10_paths_20 : decode cX10_paths 20 = .ok (.ireturn, 1) := by decide +kernel
theorem dX10_paths_8 : decode cX10_paths 8 = .ok (.iconst (-1), 1) := by decide +kernel
theorem dX10_paths_9 : decode cX10_paths 9 = .ok (.ireturn, 1) := by decide +kernel
def wo_paths : List Cond := [.code yX10_paths cX10_paths 2 (some .int), .methodLink RX10 10 yX10_isCell, .instanceMethod yX10_isCell, .selects RX10 yX10_isCell yX10_isCell, .initialized RX10, .methodLink RX10 69 yX10_isTarget, .instanceMethod yX10_isTarget, .selects RX10 yX10_isTarget yX10_isTarget, .methodLink RX10 316 yX10_judge, .instanceMethod yX10_judge, .selects RX10 yX10_judge yX10_judge]
def wr_paths : List Cond := (wfX10 ++ (w_isCell ++ (w_isTarget ++ (w_judge ++ ([])))))
def w_paths : List Cond := wo_paths ++ wr_paths
theorem wg_paths : GW w_paths := GW_app (GW_of (by decide +kernel)) (GW_app (wg_fX10) (GW_app (wg_isCell) (GW_app (wg_isTarget) (GW_app (wg_judge) (GW_nil)))))
theorem in_paths : ∀ w ∈ wfX10, w ∈ w_paths := fun _ h => List.mem_append_right _ (List.mem_append_left _ h)
theorem g_paths_isCell_10 : GoodIn w_paths (wsV RX10 10 RX10 yX10_isCell w_isCell) := goodIn_app (gi_left (goodIn_of _ (by decide +kernel))) (fun w h => ⟨List.mem_append_right _ (List.mem_append_right _ (List.mem_append_left _ h)), wg_isCell w h⟩)
theorem g_paths_isTarget_69 : GoodIn w_paths (wsV RX10 69 RX10 yX10_isTarget w_isTarget) := goodIn_app (gi_left (goodIn_of _ (by decide +kernel))) (fun w h => ⟨List.mem_append_right _ (List.mem_append_right _ (List.mem_append_right _ (List.mem_append_left _ h))), wg_isTarget w h⟩)
theorem g_paths_judge_316 : GoodIn w_paths (wsV RX10 316 RX10 yX10_judge w_judge) := goodIn_app (gi_left (goodIn_of _ (by decide +kernel))) (fun w h => ⟨List.mem_append_right _ (List.mem_append_right _ (List.mem_append_right _ (List.mem_append_right _ (List.mem_append_left _ h)))), wg_judge w h⟩)
set_option maxHeartbeats 4000000 in
set_option maxRecDepth 100000 in
theorem ct_paths (l : Launch) (E : gE) (B : Nat → Nat) (Q : Int32 → VS → Prop) (p1 : Int32) (σ : VS) (hw : wp_paths Q p1 σ) : CtI l E yX10_paths w_paths (({ frames := 58, cells := 0, slots := 0, locals := 1420 } : Room)) (wm E B σ) [.ref (B 0), .int p1] (fun r w => ∃ σ' : VS, Q r σ' ∧ w = wm E B σ') := by
  refine VC_I (cc := cX10_paths) (mL := 2) (rt := (some .int)) (lv0 := [(0, .ref (B 0)), (1, .int p1)]) rfl (by decide) rfl (Nat.le_of_ble_eq_true rfl) ?_
  intro p e s m below meth c A F
  replace F : Fx p s m _ meth c A E cX10_paths 2 (some .int) RX10 w_paths := F
  unfold wp_paths at hw
  refine R_aload_n F dX10_paths_0 rfl 0 rfl ?_
  refine R_iload_n F dX10_paths_1 rfl 1 rfl ?_
  refine R_callI (As := [.int p1]) (C := RX10) (q0 := 0) (ci := 10) (N := 69) (T := TX10) (fs := mfl B) F (ct_isCell l E B _ p1 _ hw) (cwV 1 F.2.2.2.2.2.2.2.2.2.2 g_paths_isCell_10 rfl rfl rfl (by decide +kernel) ⟨Nat.le_of_ble_eq_true rfl, Nat.le_of_ble_eq_true rfl⟩) ⟨rfl, rfl⟩ rfl (fun _ => rfl) rfl rfl (Nat.le_of_ble_eq_true rfl) dX10_paths_2 (fun r1 σ2 hw => ?_)
  refine R_if_ne (tgt := 10) F dX10_paths_5 (by decide) (fun hc => ?_) (fun hc => ?_)
  · replace hw := hw.1 hc
    refine R_aload_n F dX10_paths_10 rfl 0 rfl ?_
    refine R_iload_n F dX10_paths_11 rfl 1 rfl ?_
    refine R_callI (As := [.int p1]) (C := RX10) (q0 := 0) (ci := 10) (N := 69) (T := TX10) (fs := mfl B) F (ct_isTarget l E B _ p1 _ hw) (cwV 1 F.2.2.2.2.2.2.2.2.2.2 g_paths_isTarget_69 rfl rfl rfl (by decide +kernel) ⟨Nat.le_of_ble_eq_true rfl, Nat.le_of_ble_eq_true rfl⟩) ⟨rfl, rfl⟩ rfl (fun _ => rfl) rfl rfl (Nat.le_of_ble_eq_true rfl) dX10_paths_12 (fun r3 σ4 hw => ?_)
    refine R_if_ne (tgt := 21) F dX10_paths_15 (by decide) (fun hc => ?_) (fun hc => ?_)
    · replace hw := hw.1 hc
      refine R_aload_n F dX10_paths_21 rfl 0 rfl ?_
      refine R_callV (As := []) (C := RX10) (q0 := 0) (ci := 10) (N := 69) (T := TX10) (fs := mfl B) F (ct_judge l E B _ _ hw) (cwV 0 F.2.2.2.2.2.2.2.2.2.2 g_paths_judge_316 rfl rfl rfl (by decide +kernel) ⟨Nat.le_of_ble_eq_true rfl, Nat.le_of_ble_eq_true rfl⟩) ⟨rfl, rfl⟩ rfl (fun _ => rfl) rfl rfl (Nat.le_of_ble_eq_true rfl) dX10_paths_22 (fun σ6 hw => ?_)
      refine R_aload_n F dX10_paths_25 rfl 0 rfl ?_
      refine gm_45 F in_paths dX10_paths_26 ?_
      refine R_iload_n F dX10_paths_29 rfl 1 rfl ?_
      refine R_ldi F qm_45 dX10_paths_30 hw.1 ?_
      replace hw := hw.2
      exact R_iret (Qc := Q) F rfl dX10_paths_31 hw
    · replace hw := hw.2 hc
      refine R_bipush F (-2) dX10_paths_18 (by decide) ?_
      exact R_iret (Qc := Q) F rfl dX10_paths_20 hw
  · replace hw := hw.2 hc
    refine R_iconst F (-1) dX10_paths_8 (by decide) ?_
    exact R_iret (Qc := Q) F rfl dX10_paths_9 hw
