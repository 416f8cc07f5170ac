def b_leads_137 (X2 : Int32 → Int32 → Int32 → VS → Prop) (X34 : Int32 → Int32 → VS → Prop) (X43 : Int32 → Int32 → Int32 → VS → Prop) (X77 : Int32 → Int32 → Int32 → Int32 → VS → Prop) (Q : Int32 → VS → Prop) (l2 : Int32) (l3 : Int32) (l4 : Int32) (σ : VS) : Prop := X43 l2 l3 (l4 + 1) σ
def b_leads_131 (X2 : Int32 → Int32 → Int32 → VS → Prop) (X34 : Int32 → Int32 → VS → Prop) (X43 : Int32 → Int32 → Int32 → VS → Prop) (X77 : Int32 → Int32 → Int32 → Int32 → VS → Prop) (Q : Int32 → VS → Prop) (l2 : Int32) (l3 : Int32) (l4 : Int32) (l5 : Int32) (σ : VS) : Prop := X77 l2 l3 l4 (l5 + 1) σ
def b_leads_77 (X2 : Int32 → Int32 → Int32 → VS → Prop) (X34 : Int32 → Int32 → VS → Prop) (X43 : Int32 → Int32 → Int32 → VS → Prop) (X77 : Int32 → Int32 → Int32 → Int32 → VS → Prop) (Q : Int32 → VS → Prop) (l2 : Int32) (l3 : Int32) (l4 : Int32) (l5 : Int32) (σ : VS) : Prop := (In l4 50 ∧ (((rd σ 3 l4).toInt ≤ l5.toInt → b_leads_137 X2 X34 X43 X77 Q l2 l3 l4 σ) ∧ (l5.toInt < (rd σ 3 l4).toInt → (In ((4 * l4) + l5) 200 ∧ (∀ x3 : Int32, x3 = (rd σ 7 ((4 * l4) + l5)) → ((x3.toInt < 0 → b_leads_131 X2 X34 X43 X77 Q l2 l3 l4 l5 σ) ∧ (0 ≤ x3.toInt → (In x3 50 ∧ (((rd σ 14 x3).toInt ≠ 0 → (In l4 50 ∧ b_leads_131 X2 X34 X43 X77 Q l2 1 l4 l5 (sa σ 14 l4 1))) ∧ ((rd σ 14 x3).toInt = 0 → b_leads_131 X2 X34 X43 X77 Q l2 l3 l4 l5 σ))))))))))
def b_leads_43 (X2 : Int32 → Int32 → Int32 → VS → Prop) (X34 : Int32 → Int32 → VS → Prop) (X43 : Int32 → Int32 → Int32 → VS → Prop) (X77 : Int32 → Int32 → Int32 → Int32 → VS → Prop) (Q : Int32 → VS → Prop) (l2 : Int32) (l3 : Int32) (l4 : Int32) (σ : VS) : Prop := (((σ.1 1).toInt ≤ l4.toInt → X34 l2 l3 σ) ∧ (l4.toInt < (σ.1 1).toInt → (In l4 50 ∧ (((rd σ 14 l4).toInt ≠ 0 → b_leads_137 X2 X34 X43 X77 Q l2 l3 l4 σ) ∧ ((rd σ 14 l4).toInt = 0 → wp_isGate (fun (r1 : Int32) (σ2 : VS) => ((r1.toInt ≠ 0 → X77 l2 l3 l4 0 σ2) ∧ (r1.toInt = 0 → b_leads_137 X2 X34 X43 X77 Q l2 l3 l4 σ2))) l4 σ)))))
def b_leads_34 (X2 : Int32 → Int32 → Int32 → VS → Prop) (X34 : Int32 → Int32 → VS → Prop) (X43 : Int32 → Int32 → Int32 → VS → Prop) (X77 : Int32 → Int32 → Int32 → Int32 → VS → Prop) (Q : Int32 → VS → Prop) (l2 : Int32) (l3 : Int32) (σ : VS) : Prop := ((l3.toInt = 0 → (In l2 50 ∧ (Bo (rd σ 14 l2) ∧ Q (rd σ 14 l2) σ))) ∧ (l3.toInt ≠ 0 → X43 l2 0 0 σ))
def b_leads_25 (X2 : Int32 → Int32 → Int32 → VS → Prop) (X34 : Int32 → Int32 → VS → Prop) (X43 : Int32 → Int32 → Int32 → VS → Prop) (X77 : Int32 → Int32 → Int32 → Int32 → VS → Prop) (Q : Int32 → VS → Prop) (l1 : Int32) (l2 : Int32) (l3 : Int32) (k0 : Int32) (k1 : Int32) (σ : VS) : Prop := (In k1 50 ∧ (Bo k0 ∧ X2 l1 l2 (l3 + 1) (sa σ 14 k1 k0)))
def b_leads_2 (X2 : Int32 → Int32 → Int32 → VS → Prop) (X34 : Int32 → Int32 → VS → Prop) (X43 : Int32 → Int32 → Int32 → VS → Prop) (X77 : Int32 → Int32 → Int32 → Int32 → VS → Prop) (Q : Int32 → VS → Prop) (l1 : Int32) (l2 : Int32) (l3 : Int32) (σ : VS) : Prop := (((σ.1 1).toInt ≤ l3.toInt → X34 l2 1 σ) ∧ (l3.toInt < (σ.1 1).toInt → ((l3.toInt ≠ l1.toInt → b_leads_25 X2 X34 X43 X77 Q l1 l2 l3 0 l3 σ) ∧ (l3.toInt = l1.toInt → b_leads_25 X2 X34 X43 X77 Q l1 l2 l3 1 l3 σ))))
def wp_leads (Q : Int32 → VS → Prop) (p1 : Int32) (p2 : Int32) (σ : VS) : Prop := ∀ (X2 : Int32 → Int32 → Int32 → VS → Prop) (X34 : Int32 → Int32 → VS → Prop) (X43 : Int32 → Int32 → Int32 → VS → Prop) (X77 : Int32 → Int32 → Int32 → Int32 → VS → Prop), (∀ (l1 : Int32) (l2 : Int32) (l3 : Int32) (σ : VS), b_leads_2 X2 X34 X43 X77 Q l1 l2 l3 σ → X2 l1 l2 l3 σ) → (∀ (l2 : Int32) (l3 : Int32) (σ : VS), b_leads_34 X2 X34 X43 X77 Q l2 l3 σ → X34 l2 l3 σ) → (∀ (l2 : Int32) (l3 : Int32) (l4 : Int32) (σ : VS), b_leads_43 X2 X34 X43 X77 Q l2 l3 l4 σ → X43 l2 l3 l4 σ) → (∀ (l2 : Int32) (l3 : Int32) (l4 : Int32) (l5 : Int32) (σ : VS), b_leads_77 X2 X34 X43 X77 Q l2 l3 l4 l5 σ → X77 l2 l3 l4 l5 σ) → X2 p1 p2 0 σ
theorem dX10_leads_0 : decode cX10_leads 0 = .ok (.iconst 0, 1) := by decide +kernel
theorem dX10_leads_1 : decode cX10_leads 1 = .ok (.istore_n 3, 1) := by decide +kernel
theorem dX10_leads_2 : decode cX10_leads 2 = .ok (.iload_n 3, 1) := by decide +kernel
theorem dX10_leads_3 : decode cX10_leads 3 = .ok (.aload_n 0, 1) := by decide +kernel
theorem dX10_leads_4 : decode cX10_leads 4 = .ok (.getfield 7, 3) := by decide +kernel
theorem dX10_leads_7 : decode cX10_leads 7 = .ok (.if_icmp .ge 25, 3) := by decide +kernel
theorem dX10_leads_32 : decode cX10_leads 32 = .ok (.iconst 1, 1) := by decide +kernel
theorem dX10_leads_33 : decode cX10_leads 33 = .ok (.istore_n 3, 1) := by decide +kernel
theorem dX10_leads_10 : decode cX10_leads 10 = .ok (.aload_n 0, 1) := by decide +kernel
theorem dX10_leads_11 : decode cX10_leads 11 = .ok (.getfield 51, 3) := by decide +kernel
theorem dX10_leads_14 : decode cX10_leads 14 = .ok (.iload_n 3, 1) := by decide +kernel
theorem dX10_leads_15 : decode cX10_leads 15 = .ok (.iload_n 3, 1) := by decide +kernel
theorem dX10_leads_16 : decode cX10_leads 16 = .ok (.iload_n 1, 1) := by decide +kernel
theorem dX10_leads_17 : decode cX10_leads 17 = .ok (.if_icmp .ne 7, 3) := by decide +kernel
theorem dX10_leads_24 : decode cX10_leads 24 = .ok (.iconst 0, 1) := by decide +kernel
theorem dX10_leads_20 : decode cX10_leads 20 = .ok (.iconst 1, 1) := by decide +kernel
theorem dX10_leads_21 : decode cX10_leads 21 = .ok (.goto 4, 3) := by decide +kernel
theorem dX10_leads_34 : decode cX10_leads 34 = .ok (.iload_n 3, 1) := by decide +kernel
theorem dX10_leads_35 : decode cX10_leads 35 = .ok (.ifCond .eq 111, 3) := by decide +kernel
theorem dX10_leads_146 : decode cX10_leads 146 = .ok (.aload_n 0, 1) := by decide +kernel
theorem dX10_leads_147 : decode cX10_leads 147 = .ok (.getfield 51, 3) := by decide +kernel
theorem dX10_leads_150 : decode cX10_leads 150 = .ok (.iload_n 2, 1) := by decide +kernel
theorem dX10_leads_151 : decode cX10_leads 151 = .ok (.baload, 1) := by decide +kernel
theorem dX10_leads_152 : decode cX10_leads 152 = .ok (.ireturn, 1) := by decide +kernel
theorem dX10_leads_38 : decode cX10_leads 38 = .ok (.iconst 0, 1) := by decide +kernel
theorem dX10_leads_39 : decode cX10_leads 39 = .ok (.istore_n 3, 1) := by decide +kernel
theorem dX10_leads_40 : decode cX10_leads 40 = .ok (.iconst 0, 1) := by decide +kernel
theorem dX10_leads_41 : decode cX10_leads 41 = .ok (.istore 4, 2) := by decide +kernel
theorem dX10_leads_25 : decode cX10_leads 25 = .ok (.bastore, 1) := by decide +kernel
theorem dX10_leads_26 : decode cX10_leads 26 = .ok (.iinc 3 1, 3) := by decide +kernel
theorem dX10_leads_29 : decode cX10_leads 29 = .ok (.goto (-27), 3) := by decide +kernel
theorem dX10_leads_43 : decode cX10_leads 43 = .ok (.iload 4, 2) := by decide +kernel
theorem dX10_leads_45 : decode cX10_leads 45 = .ok (.aload_n 0, 1) := by decide +kernel
theorem dX10_leads_46 : decode cX10_leads 46 = .ok (.getfield 7, 3) := by decide +kernel
theorem dX10_leads_49 : decode cX10_leads 49 = .ok (.if_icmp .ge 94, 3) := by decide +kernel
theorem dX10_leads_143 : decode cX10_leads 143 = .ok (.goto (-109), 3) := by decide +kernel
theorem dX10_leads_52 : decode cX10_leads 52 = .ok (.aload_n 0, 1) := by decide +kernel
theorem dX10_leads_53 : decode cX10_leads 53 = .ok (.getfield 51, 3) := by decide +kernel
theorem dX10_leads_56 : decode cX10_leads 56 = .ok (.iload 4, 2) := by decide +kernel
theorem dX10_leads_58 : decode cX10_leads 58 = .ok (.baload, 1) := by decide +kernel
theorem dX10_leads_59 : decode cX10_leads 59 = .ok (.ifCond .ne 78, 3) := by decide +kernel
theorem dX10_leads_62 : decode cX10_leads 62 = .ok (.aload_n 0, 1) := by decide +kernel
theorem dX10_leads_63 : decode cX10_leads 63 = .ok (.iload 4, 2) := by decide +kernel
theorem dX10_leads_65 : decode cX10_leads 65 = .ok (.invokevirtual 55, 3) := by decide +kernel
theorem dX10_leads_68 : decode cX10_leads 68 = .ok (.ifCond .ne 6, 3) := by decide +kernel
theorem dX10_leads_74 : decode cX10_leads 74 = .ok (.iconst 0, 1) := by decide +kernel
theorem dX10_leads_75 : decode cX10_leads 75 = .ok (.istore 5, 2) := by decide +kernel
theorem dX10_leads_71 : decode cX10_leads 71 = .ok (.goto 66, 3) := by decide +kernel
theorem dX10_leads_137 : decode cX10_leads 137 = .ok (.iinc 4 1, 3) := by decide +kernel
theorem dX10_leads_140 : decode cX10_leads 140 = .ok (.goto (-97), 3) := by decide +kernel
theorem dX10_leads_77 : decode cX10_leads 77 = .ok (.iload 5, 2) := by decide +kernel
theorem dX10_leads_79 : decode cX10_leads 79 = .ok (.aload_n 0, 1) := by decide +kernel
theorem dX10_leads_80 : decode cX10_leads 80 = .ok (.getfield 14, 3) := by decide +kernel
theorem dX10_leads_83 : decode cX10_leads 83 = .ok (.iload 4, 2) := by decide +kernel
theorem dX10_leads_85 : decode cX10_leads 85 = .ok (.iaload, 1) := by decide +kernel
theorem dX10_leads_86 : decode cX10_leads 86 = .ok (.if_icmp .ge 51, 3) := by decide +kernel
theorem dX10_leads_89 : decode cX10_leads 89 = .ok (.aload_n 0, 1) := by decide +kernel
theorem dX10_leads_90 : decode cX10_leads 90 = .ok (.getfield 30, 3) := by decide +kernel
theorem dX10_leads_93 : decode cX10_leads 93 = .ok (.iconst 4, 1) := by decide +kernel
theorem dX10_leads_94 : decode cX10_leads 94 = .ok (.iload 4, 2) := by decide +kernel
theorem dX10_leads_96 : decode cX10_leads 96 = .ok (.imul, 1) := by decide +kernel
theorem dX10_leads_97 : decode cX10_leads 97 = .ok (.iload 5, 2) := by decide +kernel
theorem dX10_leads_99 : decode cX10_leads 99 = .ok (.iadd, 1) := by decide +kernel
theorem dX10_leads_100 : decode cX10_leads 100 = .ok (.iaload, 1) := by decide +kernel
theorem dX10_leads_101 : decode cX10_leads 101 = .ok (.istore 6, 2) := by decide +kernel
theorem dX10_leads_103 : decode cX10_leads 103 = .ok (.iload 6, 2) := by decide +kernel
theorem dX10_leads_105 : decode cX10_leads 105 = .ok (.ifCond .lt 26, 3) := by decide +kernel
theorem dX10_leads_108 : decode cX10_leads 108 = .ok (.aload_n 0, 1) := by decide +kernel
theorem dX10_leads_109 : decode cX10_leads 109 = .ok (.getfield 51, 3) := by decide +kernel
theorem dX10_leads_112 : decode cX10_leads 112 = .ok (.iload 6, 2) := by decide +kernel
theorem dX10_leads_114 : decode cX10_leads 114 = .ok (.baload, 1) := by decide +kernel
theorem dX10_leads_115 : decode cX10_leads 115 = .ok (.ifCond .ne 6, 3) := by decide +kernel
theorem dX10_leads_121 : decode cX10_leads 121 = .ok (.aload_n 0, 1) := by decide +kernel
theorem dX10_leads_122 : decode cX10_leads 122 = .ok (.getfield 51, 3) := by decide +kernel
theorem dX10_leads_125 : decode cX10_leads 125 = .ok (.iload 4, 2) := by decide +kernel
theorem dX10_leads_127 : decode cX10_leads 127 = .ok (.iconst 1, 1) := by decide +kernel
theorem dX10_leads_128 : decode cX10_leads 128 = .ok (.bastore, 1) := by decide +kernel
theorem dX10_leads_129 : decode cX10_leads 129 = .ok (.iconst 1, 1) := by decide +kernel
theorem dX10_leads_130 : decode cX10_leads 130 = .ok (.istore_n 3, 1) := by decide +kernel
theorem dX10_leads_118 : decode cX10_leads 118 = .ok (.goto 13, 3) := by decide +kernel
theorem dX10_leads_131 : decode cX10_leads 131 = .ok (.iinc 5 1, 3) := by decide +kernel
theorem dX10_leads_134 : decode cX10_leads 134 = .ok (.goto (-57), 3) := by decide +kernel
def wo_leads : List Cond := [.code yX10_leads cX10_leads 7 (some .boolean), .methodLink RX10 55 yX10_isGate, .instanceMethod yX10_isGate, .selects RX10 yX10_isGate yX10_isGate, .initialized RX10]
def wr_leads : List Cond := (wfX10 ++ (w_isGate ++ ([])))
def w_leads : List Cond := wo_leads ++ wr_leads
theorem wg_leads : GW w_leads := GW_app (GW_of (by decide +kernel)) (GW_app (wg_fX10) (GW_app (wg_isGate) (GW_nil)))
theorem in_leads : ∀ w ∈ wfX10, w ∈ w_leads := fun _ h => List.mem_append_right _ (List.mem_append_left _ h)
theorem g_leads_isGate_55 : GoodIn w_leads (wsV RX10 55 RX10 yX10_isGate w_isGate) := goodIn_app (gi_left (goodIn_of _ (by decide +kernel))) (fun w h => ⟨List.mem_append_right _ (List.mem_append_right _ (List.mem_append_left _ h)), wg_isGate w h⟩)
set_option maxHeartbeats 4000000 in
set_option maxRecDepth 100000 in
theorem ct_leads (l : Launch) (E : gE) (B : Nat → Nat) (Q : Int32 → VS → Prop) (p1 : Int32) (p2 : Int32) (σ : VS) (hw : wp_leads Q p1 p2 σ) : CtI l E yX10_leads w_leads (({ frames := 1, cells := 0, slots := 0, locals := 21 } : Room)) (wm E B σ) [.ref (B 0), .int p1, .int p2] (fun r w => ∃ σ' : VS, Q r σ' ∧ w = wm E B σ') := by
  refine VC_I (cc := cX10_leads) (mL := 7) (rt := (some .boolean)) (lv0 := [(0, .ref (B 0)), (1, .int p1), (2, .int p2)]) rfl (by decide) rfl (Nat.le_of_ble_eq_true rfl) ?_
  intro p e s m below meth c A F
  replace F : Fx p s m _ meth c A E cX10_leads 7 (some .boolean) RX10 w_leads := F
  obtain ⟨X2, hX2⟩ : ∃ X : Int32 → Int32 → Int32 → VS → Prop, X = fun l1 l2 l3 σ => WB p l e (({ frames := 1, cells := 0, slots := 0, locals := 21 } : Room)) s m (#[.ref (B 0), .int p1, .int p2]) below meth c (MQ below (va_Qi (fun r w => ∃ σ' : VS, Q r σ' ∧ w = wm E B σ') (AftU E A) A) (#[.ref (B 0), .int p1, .int p2]) s (({ frames := 1, cells := 0, slots := 0, locals := 21 } : Room)).cells (({ frames := 1, cells := 0, slots := 0, locals := 21 } : Room)).slots A) A E (wm E B) 7 2 [(0, .ref (B 0)), (1, .int l1), (2, .int l2), (3, .int l3)] [] σ := ⟨_, rfl⟩
  have U_2 : ∀ (l1 : Int32) (l2 : Int32) (l3 : Int32) (σ : VS), X2 l1 l2 l3 σ → WB p l e (({ frames := 1, cells := 0, slots := 0, locals := 21 } : Room)) s m (#[.ref (B 0), .int p1, .int p2]) below meth c (MQ below (va_Qi (fun r w => ∃ σ' : VS, Q r σ' ∧ w = wm E B σ') (AftU E A) A) (#[.ref (B 0), .int p1, .int p2]) s (({ frames := 1, cells := 0, slots := 0, locals := 21 } : Room)).cells (({ frames := 1, cells := 0, slots := 0, locals := 21 } : Room)).slots A) A E (wm E B) 7 2 [(0, .ref (B 0)), (1, .int l1), (2, .int l2), (3, .int l3)] [] σ := by
    intro l1 l2 l3 σ hw; rw [hX2] at hw; exact hw
  obtain ⟨X34, hX34⟩ : ∃ X : Int32 → Int32 → VS → Prop, X = fun l2 l3 σ => WB p l e (({ frames := 1, cells := 0, slots := 0, locals := 21 } : Room)) s m (#[.ref (B 0), .int p1, .int p2]) below meth c (MQ below (va_Qi (fun r w => ∃ σ' : VS, Q r σ' ∧ w = wm E B σ') (AftU E A) A) (#[.ref (B 0), .int p1, .int p2]) s (({ frames := 1, cells := 0, slots := 0, locals := 21 } : Room)).cells (({ frames := 1, cells := 0, slots := 0, locals := 21 } : Room)).slots A) A E (wm E B) 7 34 [(0, .ref (B 0)), (2, .int l2), (3, .int l3)] [] σ := ⟨_, rfl⟩
  have U_34 : ∀ (l2 : Int32) (l3 : Int32) (σ : VS), X34 l2 l3 σ → WB p l e (({ frames := 1, cells := 0, slots := 0, locals := 21 } : Room)) s m (#[.ref (B 0), .int p1, .int p2]) below meth c (MQ below (va_Qi (fun r w => ∃ σ' : VS, Q r σ' ∧ w = wm E B σ') (AftU E A) A) (#[.ref (B 0), .int p1, .int p2]) s (({ frames := 1, cells := 0, slots := 0, locals := 21 } : Room)).cells (({ frames := 1, cells := 0, slots := 0, locals := 21 } : Room)).slots A) A E (wm E B) 7 34 [(0, .ref (B 0)), (2, .int l2), (3, .int l3)] [] σ := by
    intro l2 l3 σ hw; rw [hX34] at hw; exact hw
  obtain ⟨X43, hX43⟩ : ∃ X : Int32 → Int32 → Int32 → VS → Prop, X = fun l2 l3 l4 σ => WB p l e (({ frames := 1, cells := 0, slots := 0, locals := 21 } : Room)) s m (#[.ref (B 0), .int p1, .int p2]) below meth c (MQ below (va_Qi (fun r w => ∃ σ' : VS, Q r σ' ∧ w = wm E B σ') (AftU E A) A) (#[.ref (B 0), .int p1, .int p2]) s (({ frames := 1, cells := 0, slots := 0, locals := 21 } : Room)).cells (({ frames := 1, cells := 0, slots := 0, locals := 21 } : Room)).slots A) A E (wm E B) 7 43 [(0, .ref (B 0)), (2, .int l2), (3, .int l3), (4, .int l4)] [] σ := ⟨_, rfl⟩
  have U_43 : ∀ (l2 : Int32) (l3 : Int32) (l4 : Int32) (σ : VS), X43 l2 l3 l4 σ → WB p l e (({ frames := 1, cells := 0, slots := 0, locals := 21 } : Room)) s m (#[.ref (B 0), .int p1, .int p2]) below meth c (MQ below (va_Qi (fun r w => ∃ σ' : VS, Q r σ' ∧ w = wm E B σ') (AftU E A) A) (#[.ref (B 0), .int p1, .int p2]) s (({ frames := 1, cells := 0, slots := 0, locals := 21 } : Room)).cells (({ frames := 1, cells := 0, slots := 0, locals := 21 } : Room)).slots A) A E (wm E B) 7 43 [(0, .ref (B 0)), (2, .int l2), (3, .int l3), (4, .int l4)] [] σ := by
    intro l2 l3 l4 σ hw; rw [hX43] at hw; exact hw
  obtain ⟨X77, hX77⟩ : ∃ X : Int32 → Int32 → Int32 → Int32 → VS → Prop, X = fun l2 l3 l4 l5 σ => WB p l e (({ frames := 1, cells := 0, slots := 0, locals := 21 } : Room)) s m (#[.ref (B 0), .int p1, .int p2]) below meth c (MQ below (va_Qi (fun r w => ∃ σ' : VS, Q r σ' ∧ w = wm E B σ') (AftU E A) A) (#[.ref (B 0), .int p1, .int p2]) s (({ frames := 1, cells := 0, slots := 0, locals := 21 } : Room)).cells (({ frames := 1, cells := 0, slots := 0, locals := 21 } : Room)).slots A) A E (wm E B) 7 77 [(0, .ref (B 0)), (2, .int l2), (3, .int l3), (4, .int l4), (5, .int l5)] [] σ := ⟨_, rfl⟩
  have U_77 : ∀ (l2 : Int32) (l3 : Int32) (l4 : Int32) (l5 : Int32) (σ : VS), X77 l2 l3 l4 l5 σ → WB p l e (({ frames := 1, cells := 0, slots := 0, locals := 21 } : Room)) s m (#[.ref (B 0), .int p1, .int p2]) below meth c (MQ below (va_Qi (fun r w => ∃ σ' : VS, Q r σ' ∧ w = wm E B σ') (AftU E A) A) (#[.ref (B 0), .int p1, .int p2]) s (({ frames := 1, cells := 0, slots := 0, locals := 21 } : Room)).cells (({ frames := 1, cells := 0, slots := 0, locals := 21 } : Room)).slots A) A E (wm E B) 7 77 [(0, .ref (B 0)), (2, .int l2), (3, .int l3), (4, .int l4), (5, .int l5)] [] σ := by
    intro l2 l3 l4 l5 σ hw; rw [hX77] at hw; exact hw
  have J_137 : ∀ (l2 : Int32) (l3 : Int32) (l4 : Int32) (σ : VS), b_leads_137 X2 X34 X43 X77 Q l2 l3 l4 σ → WB p l e (({ frames := 1, cells := 0, slots := 0, locals := 21 } : Room)) s m (#[.ref (B 0), .int p1, .int p2]) below meth c (MQ below (va_Qi (fun r w => ∃ σ' : VS, Q r σ' ∧ w = wm E B σ') (AftU E A) A) (#[.ref (B 0), .int p1, .int p2]) s (({ frames := 1, cells := 0, slots := 0, locals := 21 } : Room)).cells (({ frames := 1, cells := 0, slots := 0, locals := 21 } : Room)).slots A) A E (wm E B) 7 137 [(0, .ref (B 0)), (2, .int l2), (3, .int l3), (4, .int l4)] [] σ := by
    intro l2 l3 l4 σ hw
    unfold b_leads_137 at hw
    refine R_iinc (q := 3) (v := (l4 + 1)) (lv' := [(4, .int (l4 + 1)), (0, .ref (B 0)), (2, .int l2), (3, .int l3)]) F dX10_leads_137 rfl rfl (by decide) rfl ?_
    refine R_goto (tgt := 43) F dX10_leads_140 (by decide) ?_
    exact R_sub [1, 2, 3, 0] rfl (U_43 l2 l3 (l4 + 1) σ hw)
  have J_131 : ∀ (l2 : Int32) (l3 : Int32) (l4 : Int32) (l5 : Int32) (σ : VS), b_leads_131 X2 X34 X43 X77 Q l2 l3 l4 l5 σ → WB p l e (({ frames := 1, cells := 0, slots := 0, locals := 21 } : Room)) s m (#[.ref (B 0), .int p1, .int p2]) below meth c (MQ below (va_Qi (fun r w => ∃ σ' : VS, Q r σ' ∧ w = wm E B σ') (AftU E A) A) (#[.ref (B 0), .int p1, .int p2]) s (({ frames := 1, cells := 0, slots := 0, locals := 21 } : Room)).cells (({ frames := 1, cells := 0, slots := 0, locals := 21 } : Room)).slots A) A E (wm E B) 7 131 [(0, .ref (B 0)), (2, .int l2), (3, .int l3), (4, .int l4), (5, .int l5)] [] σ := by
    intro l2 l3 l4 l5 σ hw
    unfold b_leads_131 at hw
    refine R_iinc (q := 4) (v := (l5 + 1)) (lv' := [(5, .int (l5 + 1)), (0, .ref (B 0)), (2, .int l2), (3, .int l3), (4, .int l4)]) F dX10_leads_131 rfl rfl (by decide) rfl ?_
    refine R_goto (tgt := 77) F dX10_leads_134 (by decide) ?_
    exact R_sub [1, 2, 3, 4, 0] rfl (U_77 l2 l3 l4 (l5 + 1) σ hw)
  have J_25 : ∀ (l1 : Int32) (l2 : Int32) (l3 : Int32) (k0 : Int32) (k1 : Int32) (σ : VS), b_leads_25 X2 X34 X43 X77 Q l1 l2 l3 k0 k1 σ → WB p l e (({ frames := 1, cells := 0, slots := 0, locals := 21 } : Room)) s m (#[.ref (B 0), .int p1, .int p2]) below meth c (MQ below (va_Qi (fun r w => ∃ σ' : VS, Q r σ' ∧ w = wm E B σ') (AftU E A) A) (#[.ref (B 0), .int p1, .int p2]) s (({ frames := 1, cells := 0, slots := 0, locals := 21 } : Room)).cells (({ frames := 1, cells := 0, slots := 0, locals := 21 } : Room)).slots A) A E (wm E B) 7 25 [(0, .ref (B 0)), (1, .int l1), (2, .int l2), (3, .int l3)] [.int k0, .int k1, .ref (B 14)] σ := by
    intro l1 l2 l3 k0 k1 σ hw
    unfold b_leads_25 at hw
    have hi := hw.1
    replace hw := hw.2
    have hbo := hw.1
    replace hw := hw.2
    refine R_stz F qm_14 um_14 dX10_leads_25 hi hbo ?_
    refine R_iinc (q := 3) (v := (l3 + 1)) (lv' := [(3, .int (l3 + 1)), (0, .ref (B 0)), (1, .int l1), (2, .int l2)]) F dX10_leads_26 rfl rfl (by decide) rfl ?_
    refine R_goto (tgt := 2) F dX10_leads_29 (by decide) ?_
    exact R_sub [1, 2, 3, 0] rfl (U_2 l1 l2 (l3 + 1) (sa σ 14 k1 k0) hw)
  have C_2 : ∀ (l1 : Int32) (l2 : Int32) (l3 : Int32) (σ : VS), b_leads_2 X2 X34 X43 X77 Q l1 l2 l3 σ → X2 l1 l2 l3 σ := by
    intro l1 l2 l3 σ hw
    unfold b_leads_2 at hw
    rw [hX2]
    show WB p l e (({ frames := 1, cells := 0, slots := 0, locals := 21 } : Room)) s m (#[.ref (B 0), .int p1, .int p2]) below meth c (MQ below (va_Qi (fun r w => ∃ σ' : VS, Q r σ' ∧ w = wm E B σ') (AftU E A) A) (#[.ref (B 0), .int p1, .int p2]) s (({ frames := 1, cells := 0, slots := 0, locals := 21 } : Room)).cells (({ frames := 1, cells := 0, slots := 0, locals := 21 } : Room)).slots A) A E (wm E B) 7 2 [(0, .ref (B 0)), (1, .int l1), (2, .int l2), (3, .int l3)] [] σ
    refine R_iload_n F dX10_leads_2 rfl 3 rfl ?_
    refine R_aload_n F dX10_leads_3 rfl 0 rfl ?_
    refine gm_1 F in_leads dX10_leads_4 ?_
    refine R_icmp_ge (tgt := 32) F dX10_leads_7 (by decide) (fun hc => ?_) (fun hc => ?_)
    · replace hw := hw.1 hc
      refine R_iconst F 1 dX10_leads_32 (by decide) ?_
      refine R_istore_n (lv' := [(3, .int 1), (0, .ref (B 0)), (1, .int l1), (2, .int l2)]) F dX10_leads_33 rfl (by decide) rfl ?_
      exact R_sub [1, 3, 0] rfl (U_34 l2 1 σ hw)
    · replace hw := hw.2 hc
      refine R_aload_n F dX10_leads_10 rfl 0 rfl ?_
      refine gm_14 F in_leads dX10_leads_11 ?_
      refine R_iload_n F dX10_leads_14 rfl 3 rfl ?_
      refine R_iload_n F dX10_leads_15 rfl 3 rfl ?_
      refine R_iload_n F dX10_leads_16 rfl 1 rfl ?_
      refine R_icmp_ne (tgt := 24) F dX10_leads_17 (by decide) (fun hc => ?_) (fun hc => ?_)
      · replace hw := hw.1 hc
        refine R_iconst F 0 dX10_leads_24 (by decide) ?_
        exact R_sub [0, 1, 2, 3] rfl (J_25 l1 l2 l3 0 l3 σ hw)
      · replace hw := hw.2 hc
        refine R_iconst F 1 dX10_leads_20 (by decide) ?_
        refine R_goto (tgt := 25) F dX10_leads_21 (by decide) ?_
        exact R_sub [0, 1, 2, 3] rfl (J_25 l1 l2 l3 1 l3 σ hw)
  have C_34 : ∀ (l2 : Int32) (l3 : Int32) (σ : VS), b_leads_34 X2 X34 X43 X77 Q l2 l3 σ → X34 l2 l3 σ := by
    intro l2 l3 σ hw
    unfold b_leads_34 at hw
    rw [hX34]
    show WB p l e (({ frames := 1, cells := 0, slots := 0, locals := 21 } : Room)) s m (#[.ref (B 0), .int p1, .int p2]) below meth c (MQ below (va_Qi (fun r w => ∃ σ' : VS, Q r σ' ∧ w = wm E B σ') (AftU E A) A) (#[.ref (B 0), .int p1, .int p2]) s (({ frames := 1, cells := 0, slots := 0, locals := 21 } : Room)).cells (({ frames := 1, cells := 0, slots := 0, locals := 21 } : Room)).slots A) A E (wm E B) 7 34 [(0, .ref (B 0)), (2, .int l2), (3, .int l3)] [] σ
    refine R_iload_n F dX10_leads_34 rfl 2 rfl ?_
    refine R_if_eq (tgt := 146) F dX10_leads_35 (by decide) (fun hc => ?_) (fun hc => ?_)
    · replace hw := hw.1 hc
      refine R_aload_n F dX10_leads_146 rfl 0 rfl ?_
      refine gm_14 F in_leads dX10_leads_147 ?_
      refine R_iload_n F dX10_leads_150 rfl 1 rfl ?_
      refine R_ldz F qm_14 dX10_leads_151 hw.1 ?_
      replace hw := hw.2
      exact R_iret (Qc := Q) F (nb_01 hw.1) dX10_leads_152 hw.2
    · replace hw := hw.2 hc
      refine R_iconst F 0 dX10_leads_38 (by decide) ?_
      refine R_istore_n (lv' := [(3, .int 0), (0, .ref (B 0)), (2, .int l2)]) F dX10_leads_39 rfl (by decide) rfl ?_
      refine R_iconst F 0 dX10_leads_40 (by decide) ?_
      refine R_istore (lv' := [(4, .int 0), (3, .int 0), (0, .ref (B 0)), (2, .int l2)]) F dX10_leads_41 (by decide) rfl ?_
      exact R_sub [2, 3, 1, 0] rfl (U_43 l2 0 0 σ hw)
  have C_43 : ∀ (l2 : Int32) (l3 : Int32) (l4 : Int32) (σ : VS), b_leads_43 X2 X34 X43 X77 Q l2 l3 l4 σ → X43 l2 l3 l4 σ := by
    intro l2 l3 l4 σ hw
    unfold b_leads_43 at hw
    rw [hX43]
    show WB p l e (({ frames := 1, cells := 0, slots := 0, locals := 21 } : Room)) s m (#[.ref (B 0), .int p1, .int p2]) below meth c (MQ below (va_Qi (fun r w => ∃ σ' : VS, Q r σ' ∧ w = wm E B σ') (AftU E A) A) (#[.ref (B 0), .int p1, .int p2]) s (({ frames := 1, cells := 0, slots := 0, locals := 21 } : Room)).cells (({ frames := 1, cells := 0, slots := 0, locals := 21 } : Room)).slots A) A E (wm E B) 7 43 [(0, .ref (B 0)), (2, .int l2), (3, .int l3), (4, .int l4)] [] σ
    refine R_iload F dX10_leads_43 3 rfl ?_
    refine R_aload_n F dX10_leads_45 rfl 0 rfl ?_
    refine gm_1 F in_leads dX10_leads_46 ?_
    refine R_icmp_ge (tgt := 143) F dX10_leads_49 (by decide) (fun hc => ?_) (fun hc => ?_)
    · replace hw := hw.1 hc
      refine R_goto (tgt := 34) F dX10_leads_143 (by decide) ?_
      exact R_sub [0, 1, 2] rfl (U_34 l2 l3 σ hw)
    · replace hw := hw.2 hc
      refine R_aload_n F dX10_leads_52 rfl 0 rfl ?_
      refine gm_14 F in_leads dX10_leads_53 ?_
      refine R_iload F dX10_leads_56 3 rfl ?_
      refine R_ldz F qm_14 dX10_leads_58 hw.1 ?_
      replace hw := hw.2
      refine R_if_ne (tgt := 137) F dX10_leads_59 (by decide) (fun hc => ?_) (fun hc => ?_)
      · replace hw := hw.1 hc
        exact R_sub [0, 1, 2, 3] rfl (J_137 l2 l3 l4 σ hw)
      · replace hw := hw.2 hc
        refine R_aload_n F dX10_leads_62 rfl 0 rfl ?_
        refine R_iload F dX10_leads_63 3 rfl ?_
        refine R_callI (As := [.int l4]) (C := RX10) (q0 := 0) (ci := 10) (N := 69) (T := TX10) (fs := mfl B) F (ct_isGate l E B _ l4 _ hw) (cwV 1 F.2.2.2.2.2.2.2.2.2.2 g_leads_isGate_55 rfl rfl rfl (by decide +kernel) ⟨Nat.le_of_ble_eq_true rfl, Nat.le_of_ble_eq_true rfl⟩) ⟨rfl, rfl⟩ rfl (fun _ => rfl) rfl rfl (Nat.le_of_ble_eq_true rfl) dX10_leads_65 (fun r1 σ2 hw => ?_)
        refine R_if_ne (tgt := 74) F dX10_leads_68 (by decide) (fun hc => ?_) (fun hc => ?_)
        · replace hw := hw.1 hc
          refine R_iconst F 0 dX10_leads_74 (by decide) ?_
          refine R_istore (lv' := [(5, .int 0), (0, .ref (B 0)), (2, .int l2), (3, .int l3), (4, .int l4)]) F dX10_leads_75 (by decide) rfl ?_
          exact R_sub [1, 2, 3, 4, 0] rfl (U_77 l2 l3 l4 0 σ2 hw)
        · replace hw := hw.2 hc
          refine R_goto (tgt := 137) F dX10_leads_71 (by decide) ?_
          exact R_sub [0, 1, 2, 3] rfl (J_137 l2 l3 l4 σ2 hw)
  have C_77 : ∀ (l2 : Int32) (l3 : Int32) (l4 : Int32) (l5 : Int32) (σ : VS), b_leads_77 X2 X34 X43 X77 Q l2 l3 l4 l5 σ → X77 l2 l3 l4 l5 σ := by
    intro l2 l3 l4 l5 σ hw
    unfold b_leads_77 at hw
    rw [hX77]
    show WB p l e (({ frames := 1, cells := 0, slots := 0, locals := 21 } : Room)) s m (#[.ref (B 0), .int p1, .int p2]) below meth c (MQ below (va_Qi (fun r w => ∃ σ' : VS, Q r σ' ∧ w = wm E B σ') (AftU E A) A) (#[.ref (B 0), .int p1, .int p2]) s (({ frames := 1, cells := 0, slots := 0, locals := 21 } : Room)).cells (({ frames := 1, cells := 0, slots := 0, locals := 21 } : Room)).slots A) A E (wm E B) 7 77 [(0, .ref (B 0)), (2, .int l2), (3, .int l3), (4, .int l4), (5, .int l5)] [] σ
    refine R_iload F dX10_leads_77 4 rfl ?_
    refine R_aload_n F dX10_leads_79 rfl 0 rfl ?_
    refine gm_3 F in_leads dX10_leads_80 ?_
    refine R_iload F dX10_leads_83 3 rfl ?_
    refine R_ldi F qm_3 dX10_leads_85 hw.1 ?_
    replace hw := hw.2
    refine R_icmp_ge (tgt := 137) F dX10_leads_86 (by decide) (fun hc => ?_) (fun hc => ?_)
    · replace hw := hw.1 hc
      exact R_sub [0, 1, 2, 3] rfl (J_137 l2 l3 l4 σ hw)
    · replace hw := hw.2 hc
      refine R_aload_n F dX10_leads_89 rfl 0 rfl ?_
      refine gm_7 F in_leads dX10_leads_90 ?_
      refine R_iconst F 4 dX10_leads_93 (by decide) ?_
      refine R_iload F dX10_leads_94 3 rfl ?_
      refine R_imul F dX10_leads_96 ?_
      refine R_iload F dX10_leads_97 4 rfl ?_
      refine R_iadd F dX10_leads_99 ?_
      refine R_ldi F qm_7 dX10_leads_100 hw.1 ?_
      replace hw := hw.2
      refine R_topi (fun x3 ex3 => ?_)
      replace hw := hw x3 ex3
      refine R_istore (lv' := [(6, .int x3), (0, .ref (B 0)), (2, .int l2), (3, .int l3), (4, .int l4), (5, .int l5)]) F dX10_leads_101 (by decide) rfl ?_
      refine R_iload F dX10_leads_103 0 rfl ?_
      refine R_if_lt (tgt := 131) F dX10_leads_105 (by decide) (fun hc => ?_) (fun hc => ?_)
      · replace hw := hw.1 hc
        exact R_sub [1, 2, 3, 4, 5] rfl (J_131 l2 l3 l4 l5 σ hw)
      · replace hw := hw.2 hc
        refine R_aload_n F dX10_leads_108 rfl 1 rfl ?_
        refine gm_14 F in_leads dX10_leads_109 ?_
        refine R_iload F dX10_leads_112 0 rfl ?_
        refine R_ldz F qm_14 dX10_leads_114 hw.1 ?_
        replace hw := hw.2
        refine R_if_ne (tgt := 121) F dX10_leads_115 (by decide) (fun hc => ?_) (fun hc => ?_)
        · replace hw := hw.1 hc
          refine R_aload_n F dX10_leads_121 rfl 1 rfl ?_
          refine gm_14 F in_leads dX10_leads_122 ?_
          refine R_iload F dX10_leads_125 4 rfl ?_
          refine R_iconst F 1 dX10_leads_127 (by decide) ?_
          have hi := hw.1
          replace hw := hw.2
          refine R_stz F qm_14 um_14 dX10_leads_128 hi (⟨by decide, by decide⟩ : Bo 1) ?_
          refine R_iconst F 1 dX10_leads_129 (by decide) ?_
          refine R_istore_n (lv' := [(3, .int 1), (6, .int x3), (0, .ref (B 0)), (2, .int l2), (4, .int l4), (5, .int l5)]) F dX10_leads_130 rfl (by decide) rfl ?_
          exact R_sub [2, 3, 0, 4, 5] rfl (J_131 l2 1 l4 l5 (sa σ 14 l4 1) hw)
        · replace hw := hw.2 hc
          refine R_goto (tgt := 131) F dX10_leads_118 (by decide) ?_
          exact R_sub [1, 2, 3, 4, 5] rfl (J_131 l2 l3 l4 l5 σ hw)
  unfold wp_leads at hw
  replace hw := hw X2 X34 X43 X77 C_2 C_34 C_43 C_77
  refine R_iconst F 0 dX10_leads_0 (by decide) ?_
  refine R_istore_n (lv' := [(3, .int 0), (0, .ref (B 0)), (1, .int p1), (2, .int p2)]) F dX10_leads_1 rfl (by decide) rfl ?_
  exact R_sub [1, 2, 3, 0] rfl (U_2 p1 p2 0 σ hw)
def b_wire_131 (Q : Int32 → VS → Prop) (k0 : Int32) (σ : VS) : Prop := Q k0 σ
def b_wire_108 (Q : Int32 → VS → Prop) (l1 : Int32) (l2 : Int32) (l3 : Int32) (l4 : Int32) (σ : VS) : Prop := (In ((4 * l2) + l3) 200 ∧ ((0 ≤ l4.toInt → b_wire_131 Q l4 (sa σ 7 ((4 * l2) + l3) l1)) ∧ (l4.toInt < 0 → b_wire_131 Q (-5) (sa σ 7 ((4 * l2) + l3) l1))))
def b_wire_41 (Q : Int32 → VS → Prop) (l1 : Int32) (l2 : Int32) (l3 : Int32) (σ : VS) : Prop := (In ((4 * l2) + l3) 200 ∧ (∀ x3 : Int32, x3 = (rd σ 7 ((4 * l2) + l3)) → (In ((4 * l2) + l3) 200 ∧ ((l1.toInt < 0 → b_wire_108 Q l1 l2 l3 x3 (sa σ 7 ((4 * l2) + l3) (-1))) ∧ (0 ≤ l1.toInt → wp_isGate (fun (r4 : Int32) (σ5 : VS) => ((r4.toInt = 0 → b_wire_108 Q l1 l2 l3 x3 σ5) ∧ (r4.toInt ≠ 0 → wp_isGate (fun (r6 : Int32) (σ7 : VS) => ((r6.toInt = 0 → b_wire_108 Q l1 l2 l3 x3 σ7) ∧ (r6.toInt ≠ 0 → wp_leads (fun (r8 : Int32) (σ9 : VS) => ((r8.toInt = 0 → b_wire_108 Q l1 l2 l3 x3 σ9) ∧ (r8.toInt ≠ 0 → (In ((4 * l2) + l3) 200 ∧ Q (-4) (sa σ9 7 ((4 * l2) + l3) x3))))) l2 l1 σ7))) l2 σ5))) l1 (sa σ 7 ((4 * l2) + l3) (-1)))))))
def b_wire_22 (Q : Int32 → VS → Prop) (σ : VS) : Prop := Q (-1) σ
def wp_wire (Q : Int32 → VS → Prop) (p1 : Int32) (p2 : Int32) (p3 : Int32) (σ : VS) : Prop := ((p1.toInt < (-1) → b_wire_22 Q σ) ∧ ((-1) ≤ p1.toInt → (((σ.1 1).toInt ≤ p1.toInt → b_wire_22 Q σ) ∧ (p1.toInt < (σ.1 1).toInt → wp_isInput (fun (r1 : Int32) (σ2 : VS) => ((r1.toInt ≠ 0 → ((p1.toInt < 0 → b_wire_41 Q p1 p2 p3 σ2) ∧ (0 ≤ p1.toInt → (In p1 50 ∧ (((rd σ2 2 p1).toInt ≠ 5 → b_wire_41 Q p1 p2 p3 σ2) ∧ ((rd σ2 2 p1).toInt = 5 → Q (-2) σ2)))))) ∧ (r1.toInt = 0 → b_wire_22 Q σ2))) p2 p3 σ))))
theorem dX10_wire_0 : decode cX10_wire 0 = .ok (.iload_n 1, 1) := by decide +kernel
theorem dX10_wire_1 : decode cX10_wire 1 = .ok (.iconst (-1), 1) := by decide +kernel
theorem dX10_wire_2 : decode cX10_wire 2 = .ok (.if_icmp .lt 20, 3) := by decide +kernel
theorem dX10_wire_5 : decode cX10_wire 5 = .ok (.iload_n 1, 1) := by decide +kernel
theorem dX10_wire_6 : decode cX10_wire 6 = .ok (.aload_n 0, 1) := by decide +kernel
theorem dX10_wire_7 : decode cX10_wire 7 = .ok (.getfield 7, 3) := by decide +kernel
theorem dX10_wire_10 : decode cX10_wire 10 = .ok (.if_icmp .ge 12, 3) := by decide +kernel
theorem dX10_wire_13 : decode cX10_wire 13 = .ok (.aload_n 0, 1) := by decide +kernel
theorem dX10_wire_14 : decode cX10_wire 14 = .ok (.iload_n 2, 1) := by decide +kernel
theorem dX10_wire_15 : decode cX10_wire 15 = .ok (.iload_n 3, 1) := by decide +kernel
theorem dX10_wire_16 : decode cX10_wire 16 = .ok (.invokevirtual 58, 3) := by decide +kernel
theorem dX10_wire_19 : decode cX10_wire 19 = .ok (.ifCond .ne 5, 3) := by decide +kernel
theorem dX10_wire_24 : decode cX10_wire 24 = .ok (.iload_n 1, 1) := by decide +kernel
theorem dX10_wire_25 : decode cX10_wire 25 = .ok (.ifCond .lt 16, 3) := by decide +kernel
theorem dX10_wire_28 : decode cX10_wire 28 = .ok (.aload_n 0, 1) := by decide +kernel
theorem dX10_wire_29 : decode cX10_wire 29 = .ok (.getfield 18, 3) := by decide +kernel
theorem dX10_wire_32 : decode cX10_wire 32 = .ok (.iload_n 1, 1) := by decide +kernel
theorem dX10_wire_33 : decode cX10_wire 33 = .ok (.iaload, 1) := by decide +kernel
theorem dX10_wire_34 : decode cX10_wire 34 = .ok (.iconst 5, 1) := by decide +kernel
theorem dX10_wire_35 : decode cX10_wire 35 = .ok (.if_icmp .ne 6, 3) := by decide +kernel
theorem dX10_wire_38 : decode cX10_wire 38 = .ok (.bipush (-2), 2) := by decide +kernel
theorem dX10_wire_40 : decode cX10_wire 40 = .ok (.ireturn, 1) := by decide +kernel
theorem dX10_wire_22 : decode cX10_wire 22 = .ok (.iconst (-1), 1) := by decide +kernel
theorem dX10_wire_23 : decode cX10_wire 23 = .ok (.ireturn, 1) := by decide +kernel
theorem dX10_wire_41 : decode cX10_wire 41 = .ok (.aload_n 0, 1) := by decide +kernel
theorem dX10_wire_42 : decode cX10_wire 42 = .ok (.getfield 30, 3) := by decide +kernel
theorem dX10_wire_45 : decode cX10_wire 45 = .ok (.iconst 4, 1) := by decide +kernel
theorem dX10_wire_46 : decode cX10_wire 46 = .ok (.iload_n 2, 1) := by decide +kernel
theorem dX10_wire_47 : decode cX10_wire 47 = .ok (.imul, 1) := by decide +kernel
theorem dX10_wire_48 : decode cX10_wire 48 = .ok (.iload_n 3, 1) := by decide +kernel
theorem dX10_wire_49 : decode cX10_wire 49 = .ok (.iadd, 1) := by decide +kernel
theorem dX10_wire_50 : decode cX10_wire 50 = .ok (.iaload, 1) := by decide +kernel
theorem dX10_wire_51 : decode cX10_wire 51 = .ok (.istore 4, 2) := by decide +kernel
theorem dX10_wire_53 : decode cX10_wire 53 = .ok (.aload_n 0, 1) := by decide +kernel
theorem dX10_wire_54 : decode cX10_wire 54 = .ok (.getfield 30, 3) := by decide +kernel
theorem dX10_wire_57 : decode cX10_wire 57 = .ok (.iconst 4, 1) := by decide +kernel
theorem dX10_wire_58 : decode cX10_wire 58 = .ok (.iload_n 2, 1) := by decide +kernel
theorem dX10_wire_59 : decode cX10_wire 59 = .ok (.imul, 1) := by decide +kernel
theorem dX10_wire_60 : decode cX10_wire 60 = .ok (.iload_n 3, 1) := by decide +kernel
theorem dX10_wire_61 : decode cX10_wire 61 = .ok (.iadd, 1) := by decide +kernel
theorem dX10_wire_62 : decode cX10_wire 62 = .ok (.iconst (-1), 1) := by decide +kernel
theorem dX10_wire_63 : decode cX10_wire 63 = .ok (.iastore, 1) := by decide +kernel
theorem dX10_wire_64 : decode cX10_wire 64 = .ok (.iload_n 1, 1) := by decide +kernel
theorem dX10_wire_65 : decode cX10_wire 65 = .ok (.ifCond .lt 43, 3) := by decide +kernel
theorem dX10_wire_68 : decode cX10_wire 68 = .ok (.aload_n 0, 1) := by decide +kernel
theorem dX10_wire_69 : decode cX10_wire 69 = .ok (.iload_n 1, 1) := by decide +kernel
theorem dX10_wire_70 : decode cX10_wire 70 = .ok (.invokevirtual 55, 3) := by decide +kernel
theorem dX10_wire_73 : decode cX10_wire 73 = .ok (.ifCond .eq 35, 3) := by decide +kernel
theorem dX10_wire_76 : decode cX10_wire 76 = .ok (.aload_n 0, 1) := by decide +kernel
theorem dX10_wire_77 : decode cX10_wire 77 = .ok (.iload_n 2, 1) := by decide +kernel
theorem dX10_wire_78 : decode cX10_wire 78 = .ok (.invokevirtual 55, 3) := by decide +kernel
theorem dX10_wire_81 : decode cX10_wire 81 = .ok (.ifCond .eq 27, 3) := by decide +kernel
theorem dX10_wire_84 : decode cX10_wire 84 = .ok (.aload_n 0, 1) := by decide +kernel
theorem dX10_wire_85 : decode cX10_wire 85 = .ok (.iload_n 2, 1) := by decide +kernel
theorem dX10_wire_86 : decode cX10_wire 86 = .ok (.iload_n 1, 1) := by decide +kernel
theorem dX10_wire_87 : decode cX10_wire 87 = .ok (.invokevirtual 62, 3) := by decide +kernel
theorem dX10_wire_90 : decode cX10_wire 90 = .ok (.ifCond .eq 18, 3) := by decide +kernel
theorem dX10_wire_93 : decode cX10_wire 93 = .ok (.aload_n 0, 1) := by decide +kernel
theorem dX10_wire_94 : decode cX10_wire 94 = .ok (.getfield 30, 3) := by decide +kernel
theorem dX10_wire_97 : decode cX10_wire 97 = .ok (.iconst 4, 1) := by decide +kernel
theorem dX10_wire_98 : decode cX10_wire 98 = .ok (.iload_n 2, 1) := by decide +kernel
theorem dX10_wire_99 : decode cX10_wire 99 = .ok (.imul, 1) := by decide +kernel
theorem dX10_wire_100 : decode cX10_wire 100 = .ok (.iload_n 3, 1) := by decide +kernel
theorem dX10_wire_101 : decode cX10_wire 101 = .ok (.iadd, 1) := by decide +kernel
theorem dX10_wire_102 : decode cX10_wire 102 = .ok (.iload 4, 2) := by decide +kernel
theorem dX10_wire_104 : decode cX10_wire 104 = .ok (.iastore, 1) := by decide +kernel
theorem dX10_wire_105 : decode cX10_wire 105 = .ok (.bipush (-4), 2) := by decide +kernel
theorem dX10_wire_107 : decode cX10_wire 107 = .ok (.ireturn, 1) := by decide +kernel
theorem dX10_wire_108 : decode cX10_wire 108 = .ok (.aload_n 0, 1) := by decide +kernel
theorem dX10_wire_109 : decode cX10_wire 109 = .ok (.getfield 30, 3) := by decide +kernel
theorem dX10_wire_112 : decode cX10_wire 112 = .ok (.iconst 4, 1) := by decide +kernel
theorem dX10_wire_113 : decode cX10_wire 113 = .ok (.iload_n 2, 1) := by decide +kernel
theorem dX10_wire_114 : decode cX10_wire 114 = .ok (.imul, 1) := by decide +kernel
theorem dX10_wire_115 : decode cX10_wire 115 = .ok (.iload_n 3, 1) := by decide +kernel
theorem dX10_wire_116 : decode cX10_wire 116 = .ok (.iadd, 1) := by decide +kernel
theorem dX10_wire_117 : decode cX10_wire 117 = .ok (.iload_n 1, 1) := by decide +kernel
theorem dX10_wire_118 : decode cX10_wire 118 = .ok (.iastore, 1) := by decide +kernel
theorem dX10_wire_119 : decode cX10_wire 119 = .ok (.iload 4, 2) := by decide +kernel
theorem dX10_wire_121 : decode cX10_wire 121 = .ok (.ifCond .ge 8, 3) := by decide +kernel
theorem dX10_wire_129 : decode cX10_wire 129 = .ok (.iload 4, 2) := by decide +kernel
theorem dX10_wire_124 : decode cX10_wire 124 = .ok (.bipush (-5), 2) := by decide +kernel
theorem dX10_wire_126 : decode cX10_wire 126 = .ok (.goto 5, 3) := by decide +kernel
theorem dX10_wire_131 : decode cX10_wire 131 = .ok (.ireturn, 1) := by decide +kernel
def wo_wire : List Cond := [.code yX10_wire cX10_wire 5 (some .int), .methodLink RX10 58 yX10_isInput, .instanceMethod yX10_isInput, .selects RX10 yX10_isInput yX10_isInput, .initialized RX10, .methodLink RX10 55 yX10_isGate, .instanceMethod yX10_isGate, .selects RX10 yX10_isGate yX10_isGate, .methodLink RX10 62 yX10_leads, .instanceMethod yX10_leads, .selects RX10 yX10_leads yX10_leads]
def wr_wire : List Cond := (wfX10 ++ (w_isInput ++ (w_isGate ++ (w_leads ++ ([])))))
def w_wire : List Cond := wo_wire ++ wr_wire
theorem wg_wire : GW w_wire := GW_app (GW_of (by decide +kernel)) (GW_app (wg_fX10) (GW_app (wg_isInput) (GW_app (wg_isGate) (GW_app (wg_leads) (GW_nil)))))
theorem in_wire : ∀ w ∈ wfX10, w ∈ w_wire := fun _ h => List.mem_append_right _ (List.mem_append_left _ h)
theorem g_wire_isInput_58 : GoodIn w_wire (wsV RX10 58 RX10 yX10_isInput w_isInput) := goodIn_app (gi_left (goodIn_of _ (by decide +kernel))) (fun w h => ⟨List.mem_append_right _ (List.mem_append_right _ (List.mem_append_left _ h)), wg_isInput w h⟩)
theorem g_wire_isGate_55 : GoodIn w_wire (wsV RX10 55 RX10 yX10_isGate w_isGate) := goodIn_app (gi_left (goodIn_of _ (by decide +kernel))) (fun w h => ⟨List.mem_append_right _ (List.mem_append_right _ (List.mem_append_right _ (List.mem_append_left _ h))), wg_isGate w h⟩)
theorem g_wire_leads_62 : GoodIn w_wire (wsV RX10 62 RX10 yX10_leads w_leads) := goodIn_app (gi_left (goodIn_of _ (by decide +kernel))) (fun w h => ⟨List.mem_append_right _ (List.mem_append_right _ (List.mem_append_right _ (List.mem_append_right _ (List.mem_append_left _ h)))), wg_leads w h⟩)
set_option maxHeartbeats 4000000 in
set_option maxRecDepth 100000 in
theorem ct_wire (l : Launch) (E : gE) (B : Nat → Nat) (Q : Int32 → VS → Prop) (p1 : Int32) (p2 : Int32) (p3 : Int32) (σ : VS) (hw : wp_wire Q p1 p2 p3 σ) : CtI l E yX10_wire w_wire (({ frames := 2, cells := 0, slots := 0, locals := 47 } : Room)) (wm E B σ) [.ref (B 0), .int p1, .int p2, .int p3] (fun r w => ∃ σ' : VS, Q r σ' ∧ w = wm E B σ') := by
  refine VC_I (cc := cX10_wire) (mL := 5) (rt := (some .int)) (lv0 := [(0, .ref (B 0)), (1, .int p1), (2, .int p2), (3, .int p3)]) rfl (by decide) rfl (Nat.le_of_ble_eq_true rfl) ?_
  intro p e s m below meth c A F
  replace F : Fx p s m _ meth c A E cX10_wire 5 (some .int) RX10 w_wire := F
  have J_131 : ∀ (k0 : Int32) (σ : VS), b_wire_131 Q k0 σ → WB p l e (({ frames := 2, cells := 0, slots := 0, locals := 47 } : Room)) s m (#[.ref (B 0), .int p1, .int p2, .int p3]) below meth c (MQ below (va_Qi (fun r w => ∃ σ' : VS, Q r σ' ∧ w = wm E B σ') (AftU E A) A) (#[.ref (B 0), .int p1, .int p2, .int p3]) s (({ frames := 2, cells := 0, slots := 0, locals := 47 } : Room)).cells (({ frames := 2, cells := 0, slots := 0, locals := 47 } : Room)).slots A) A E (wm E B) 5 131 [] [.int k0] σ := by
    intro k0 σ hw
    unfold b_wire_131 at hw
    exact R_iret (Qc := Q) F rfl dX10_wire_131 hw
  have J_108 : ∀ (l1 : Int32) (l2 : Int32) (l3 : Int32) (l4 : Int32) (σ : VS), b_wire_108 Q l1 l2 l3 l4 σ → WB p l e (({ frames := 2, cells := 0, slots := 0, locals := 47 } : Room)) s m (#[.ref (B 0), .int p1, .int p2, .int p3]) below meth c (MQ below (va_Qi (fun r w => ∃ σ' : VS, Q r σ' ∧ w = wm E B σ') (AftU E A) A) (#[.ref (B 0), .int p1, .int p2, .int p3]) s (({ frames := 2, cells := 0, slots := 0, locals := 47 } : Room)).cells (({ frames := 2, cells := 0, slots := 0, locals := 47 } : Room)).slots A) A E (wm E B) 5 108 [(0, .ref (B 0)), (1, .int l1), (2, .int l2), (3, .int l3), (4, .int l4)] [] σ := by
    intro l1 l2 l3 l4 σ hw
    unfold b_wire_108 at hw
    refine R_aload_n F dX10_wire_108 rfl 0 rfl ?_
    refine gm_7 F in_wire dX10_wire_109 ?_
    refine R_iconst F 4 dX10_wire_112 (by decide) ?_
    refine R_iload_n F dX10_wire_113 rfl 2 rfl ?_
    refine R_imul F dX10_wire_114 ?_
    refine R_iload_n F dX10_wire_115 rfl 3 rfl ?_
    refine R_iadd F dX10_wire_116 ?_
    refine R_iload_n F dX10_wire_117 rfl 1 rfl ?_
    have hi := hw.1
    replace hw := hw.2
    refine R_sti F qm_7 um_7 dX10_wire_118 hi ?_
    refine R_iload F dX10_wire_119 4 rfl ?_
    refine R_if_ge (tgt := 129) F dX10_wire_121 (by decide) (fun hc => ?_) (fun hc => ?_)
    · replace hw := hw.1 hc
      refine R_iload F dX10_wire_129 4 rfl ?_
      exact R_sub [] rfl (J_131 l4 (sa σ 7 ((4 * l2) + l3) l1) hw)
    · replace hw := hw.2 hc
      refine R_bipush F (-5) dX10_wire_124 (by decide) ?_
      refine R_goto (tgt := 131) F dX10_wire_126 (by decide) ?_
      exact R_sub [] rfl (J_131 (-5) (sa σ 7 ((4 * l2) + l3) l1) hw)
  have J_41 : ∀ (l1 : Int32) (l2 : Int32) (l3 : Int32) (σ : VS), b_wire_41 Q l1 l2 l3 σ → WB p l e (({ frames := 2, cells := 0, slots := 0, locals := 47 } : Room)) s m (#[.ref (B 0), .int p1, .int p2, .int p3]) below meth c (MQ below (va_Qi (fun r w => ∃ σ' : VS, Q r σ' ∧ w = wm E B σ') (AftU E A) A) (#[.ref (B 0), .int p1, .int p2, .int p3]) s (({ frames := 2, cells := 0, slots := 0, locals := 47 } : Room)).cells (({ frames := 2, cells := 0, slots := 0, locals := 47 } : Room)).slots A) A E (wm E B) 5 41 [(0, .ref (B 0)), (1, .int l1), (2, .int l2), (3, .int l3)] [] σ := by
    intro l1 l2 l3 σ hw
    unfold b_wire_41 at hw
    refine R_aload_n F dX10_wire_41 rfl 0 rfl ?_
    refine gm_7 F in_wire dX10_wire_42 ?_
    refine R_iconst F 4 dX10_wire_45 (by decide) ?_
    refine R_iload_n F dX10_wire_46 rfl 2 rfl ?_
    refine R_imul F dX10_wire_47 ?_
    refine R_iload_n F dX10_wire_48 rfl 3 rfl ?_
    refine R_iadd F dX10_wire_49 ?_
    refine R_ldi F qm_7 dX10_wire_50 hw.1 ?_
    replace hw := hw.2
    refine R_topi (fun x3 ex3 => ?_)
    replace hw := hw x3 ex3
    refine R_istore (lv' := [(4, .int x3), (0, .ref (B 0)), (1, .int l1), (2, .int l2), (3, .int l3)]) F dX10_wire_51 (by decide) rfl ?_
    refine R_aload_n F dX10_wire_53 rfl 1 rfl ?_
    refine gm_7 F in_wire dX10_wire_54 ?_
    refine R_iconst F 4 dX10_wire_57 (by decide) ?_
    refine R_iload_n F dX10_wire_58 rfl 3 rfl ?_
    refine R_imul F dX10_wire_59 ?_
    refine R_iload_n F dX10_wire_60 rfl 4 rfl ?_
    refine R_iadd F dX10_wire_61 ?_
    refine R_iconst F (-1) dX10_wire_62 (by decide) ?_
    have hi := hw.1
    replace hw := hw.2
    refine R_sti F qm_7 um_7 dX10_wire_63 hi ?_
    refine R_iload_n F dX10_wire_64 rfl 2 rfl ?_
    refine R_if_lt (tgt := 108) F dX10_wire_65 (by decide) (fun hc => ?_) (fun hc => ?_)
    · replace hw := hw.1 hc
      exact R_sub [1, 2, 3, 4, 0] rfl (J_108 l1 l2 l3 x3 (sa σ 7 ((4 * l2) + l3) (-1)) hw)
    · replace hw := hw.2 hc
      refine R_aload_n F dX10_wire_68 rfl 1 rfl ?_
      refine R_iload_n F dX10_wire_69 rfl 2 rfl ?_
      refine R_callI (As := [.int l1]) (C := RX10) (q0 := 0) (ci := 10) (N := 69) (T := TX10) (fs := mfl B) F (ct_isGate l E B _ l1 _ hw) (cwV 1 F.2.2.2.2.2.2.2.2.2.2 g_wire_isGate_55 rfl rfl rfl (by decide +kernel) ⟨Nat.le_of_ble_eq_true rfl, Nat.le_of_ble_eq_true rfl⟩) ⟨rfl, rfl⟩ rfl (fun _ => rfl) rfl rfl (Nat.le_of_ble_eq_true rfl) dX10_wire_70 (fun r4 σ5 hw => ?_)
      refine R_if_eq (tgt := 108) F dX10_wire_73 (by decide) (fun hc => ?_) (fun hc => ?_)
      · replace hw := hw.1 hc
        exact R_sub [1, 2, 3, 4, 0] rfl (J_108 l1 l2 l3 x3 σ5 hw)
      · replace hw := hw.2 hc
        refine R_aload_n F dX10_wire_76 rfl 1 rfl ?_
        refine R_iload_n F dX10_wire_77 rfl 3 rfl ?_
        refine R_callI (As := [.int l2]) (C := RX10) (q0 := 0) (ci := 10) (N := 69) (T := TX10) (fs := mfl B) F (ct_isGate l E B _ l2 _ hw) (cwV 1 F.2.2.2.2.2.2.2.2.2.2 g_wire_isGate_55 rfl rfl rfl (by decide +kernel) ⟨Nat.le_of_ble_eq_true rfl, Nat.le_of_ble_eq_true rfl⟩) ⟨rfl, rfl⟩ rfl (fun _ => rfl) rfl rfl (Nat.le_of_ble_eq_true rfl) dX10_wire_78 (fun r6 σ7 hw => ?_)
        refine R_if_eq (tgt := 108) F dX10_wire_81 (by decide) (fun hc => ?_) (fun hc => ?_)
        · replace hw := hw.1 hc
          exact R_sub [1, 2, 3, 4, 0] rfl (J_108 l1 l2 l3 x3 σ7 hw)
        · replace hw := hw.2 hc
          refine R_aload_n F dX10_wire_84 rfl 1 rfl ?_
          refine R_iload_n F dX10_wire_85 rfl 3 rfl ?_
          refine R_iload_n F dX10_wire_86 rfl 2 rfl ?_
          refine R_callI (As := [.int l2, .int l1]) (C := RX10) (q0 := 0) (ci := 10) (N := 69) (T := TX10) (fs := mfl B) F (ct_leads l E B _ l2 l1 _ hw) (cwV 2 F.2.2.2.2.2.2.2.2.2.2 g_wire_leads_62 rfl rfl rfl (by decide +kernel) ⟨Nat.le_of_ble_eq_true rfl, Nat.le_of_ble_eq_true rfl⟩) ⟨rfl, rfl⟩ rfl (fun _ => rfl) rfl rfl (Nat.le_of_ble_eq_true rfl) dX10_wire_87 (fun r8 σ9 hw => ?_)
          refine R_if_eq (tgt := 108) F dX10_wire_90 (by decide) (fun hc => ?_) (fun hc => ?_)
          · replace hw := hw.1 hc
            exact R_sub [1, 2, 3, 4, 0] rfl (J_108 l1 l2 l3 x3 σ9 hw)
          · replace hw := hw.2 hc
            refine R_aload_n F dX10_wire_93 rfl 1 rfl ?_
            refine gm_7 F in_wire dX10_wire_94 ?_
            refine R_iconst F 4 dX10_wire_97 (by decide) ?_
            refine R_iload_n F dX10_wire_98 rfl 3 rfl ?_
            refine R_imul F dX10_wire_99 ?_
            refine R_iload_n F dX10_wire_100 rfl 4 rfl ?_
            refine R_iadd F dX10_wire_101 ?_
            refine R_iload F dX10_wire_102 0 rfl ?_
            have hi := hw.1
            replace hw := hw.2
            refine R_sti F qm_7 um_7 dX10_wire_104 hi ?_
            refine R_bipush F (-4) dX10_wire_105 (by decide) ?_
            exact R_iret (Qc := Q) F rfl dX10_wire_107 hw
  have J_22 : ∀ (σ : VS), b_wire_22 Q σ → WB p l e (({ frames := 2, cells := 0, slots := 0, locals := 47 } : Room)) s m (#[.ref (B 0), .int p1, .int p2, .int p3]) below meth c (MQ below (va_Qi (fun r w => ∃ σ' : VS, Q r σ' ∧ w = wm E B σ') (AftU E A) A) (#[.ref (B 0), .int p1, .int p2, .int p3]) s (({ frames := 2, cells := 0, slots := 0, locals := 47 } : Room)).cells (({ frames := 2, cells := 0, slots := 0, locals := 47 } : Room)).slots A) A E (wm E B) 5 22 [] [] σ := by
    intro σ hw
    unfold b_wire_22 at hw
    refine R_iconst F (-1) dX10_wire_22 (by decide) ?_
    exact R_iret (Qc := Q) F rfl dX10_wire_23 hw
  unfold wp_wire at hw
  refine R_iload_n F dX10_wire_0 rfl 1 rfl ?_
  refine R_iconst F (-1) dX10_wire_1 (by decide) ?_
  refine R_icmp_lt (tgt := 22) F dX10_wire_2 (by decide) (fun hc => ?_) (fun hc => ?_)
  · replace hw := hw.1 hc
    exact R_sub [] rfl (J_22 σ hw)
  · replace hw := hw.2 hc
    refine R_iload_n F dX10_wire_5 rfl 1 rfl ?_
    refine R_aload_n F dX10_wire_6 rfl 0 rfl ?_
    refine gm_1 F in_wire dX10_wire_7 ?_
    refine R_icmp_ge (tgt := 22) F dX10_wire_10 (by decide) (fun hc => ?_) (fun hc => ?_)
    · replace hw := hw.1 hc
      exact R_sub [] rfl (J_22 σ hw)
    · replace hw := hw.2 hc
      refine R_aload_n F dX10_wire_13 rfl 0 rfl ?_
      refine R_iload_n F dX10_wire_14 rfl 2 rfl ?_
      refine R_iload_n F dX10_wire_15 rfl 3 rfl ?_
      refine R_callI (As := [.int p2, .int p3]) (C := RX10) (q0 := 0) (ci := 10) (N := 69) (T := TX10) (fs := mfl B) F (ct_isInput l E B _ p2 p3 _ hw) (cwV 2 F.2.2.2.2.2.2.2.2.2.2 g_wire_isInput_58 rfl rfl rfl (by decide +kernel) ⟨Nat.le_of_ble_eq_true rfl, Nat.le_of_ble_eq_true rfl⟩) ⟨rfl, rfl⟩ rfl (fun _ => rfl) rfl rfl (Nat.le_of_ble_eq_true rfl) dX10_wire_16 (fun r1 σ2 hw => ?_)
      refine R_if_ne (tgt := 24) F dX10_wire_19 (by decide) (fun hc => ?_) (fun hc => ?_)
      · replace hw := hw.1 hc
        refine R_iload_n F dX10_wire_24 rfl 1 rfl ?_
        refine R_if_lt (tgt := 41) F dX10_wire_25 (by decide) (fun hc => ?_) (fun hc => ?_)
        · replace hw := hw.1 hc
          exact R_sub [0, 1, 2, 3] rfl (J_41 p1 p2 p3 σ2 hw)
        · replace hw := hw.2 hc
          refine R_aload_n F dX10_wire_28 rfl 0 rfl ?_
          refine gm_2 F in_wire dX10_wire_29 ?_
          refine R_iload_n F dX10_wire_32 rfl 1 rfl ?_
          refine R_ldi F qm_2 dX10_wire_33 hw.1 ?_
          replace hw := hw.2
          refine R_iconst F 5 dX10_wire_34 (by decide) ?_
          refine R_icmp_ne (tgt := 41) F dX10_wire_35 (by decide) (fun hc => ?_) (fun hc => ?_)
          · replace hw := hw.1 hc
            exact R_sub [0, 1, 2, 3] rfl (J_41 p1 p2 p3 σ2 hw)
          · replace hw := hw.2 hc
            refine R_bipush F (-2) dX10_wire_38 (by decide) ?_
            exact R_iret (Qc := Q) F rfl dX10_wire_40 hw
      · replace hw := hw.2 hc
        exact R_sub [] rfl (J_22 σ2 hw)
def b_earlyOf_4 (X4 : Int32 → Int32 → VS → Prop) (Q : Int32 → VS → Prop) (l2 : Int32) (l3 : Int32) (σ : VS) : Prop := ((l3.toInt < 0 → Q l2 σ) ∧ (0 ≤ l3.toInt → (In l3 20 ∧ (∀ x1 : Int32, x1 = (l2 + (rd σ 23 l3)) → (In l3 20 ∧ (∀ x2 : Int32, x2 = (rd σ 22 l3) → X4 x1 x2 σ))))))
def wp_earlyOf (Q : Int32 → VS → Prop) (p1 : Int32) (σ : VS) : Prop := ∀ (X4 : Int32 → Int32 → VS → Prop), (∀ (l2 : Int32) (l3 : Int32) (σ : VS), b_earlyOf_4 X4 Q l2 l3 σ → X4 l2 l3 σ) → X4 0 p1 σ
theorem dX10_earlyOf_0 : decode cX10_earlyOf 0 = .ok (.iconst 0, 1) := by decide +kernel
theorem dX10_earlyOf_1 : decode cX10_earlyOf 1 = .ok (.istore_n 2, 1) := by decide +kernel
theorem dX10_earlyOf_2 : decode cX10_earlyOf 2 = .ok (.iload_n 1, 1) := by decide +kernel
theorem dX10_earlyOf_3 : decode cX10_earlyOf 3 = .ok (.istore_n 3, 1) := by decide +kernel
theorem dX10_earlyOf_4 : decode cX10_earlyOf 4 = .ok (.iload_n 3, 1) := by decide +kernel
theorem dX10_earlyOf_5 : decode cX10_earlyOf 5 = .ok (.ifCond .lt 22, 3) := by decide +kernel
theorem dX10_earlyOf_27 : decode cX10_earlyOf 27 = .ok (.iload_n 2, 1) := by decide +kernel
theorem dX10_earlyOf_28 : decode cX10_earlyOf 28 = .ok (.ireturn, 1) := by decide +kernel
theorem dX10_earlyOf_8 : decode cX10_earlyOf 8 = .ok (.iload_n 2, 1) := by decide +kernel
theorem dX10_earlyOf_9 : decode cX10_earlyOf 9 = .ok (.aload_n 0, 1) := by decide +kernel
theorem dX10_earlyOf_10 : decode cX10_earlyOf 10 = .ok (.getfield 93, 3) := by decide +kernel
theorem dX10_earlyOf_13 : decode cX10_earlyOf 13 = .ok (.iload_n 3, 1) := by decide +kernel
theorem dX10_earlyOf_14 : decode cX10_earlyOf 14 = .ok (.iaload, 1) := by decide +kernel
theorem dX10_earlyOf_15 : decode cX10_earlyOf 15 = .ok (.iadd, 1) := by decide +kernel
theorem dX10_earlyOf_16 : decode cX10_earlyOf 16 = .ok (.istore_n 2, 1) := by decide +kernel
theorem dX10_earlyOf_17 : decode cX10_earlyOf 17 = .ok (.aload_n 0, 1) := by decide +kernel
theorem dX10_earlyOf_18 : decode cX10_earlyOf 18 = .ok (.getfield 90, 3) := by decide +kernel
theorem dX10_earlyOf_21 : decode cX10_earlyOf 21 = .ok (.iload_n 3, 1) := by decide +kernel
theorem dX10_earlyOf_22 : decode cX10_earlyOf 22 = .ok (.iaload, 1) := by decide +kernel
theorem dX10_earlyOf_23 : decode cX10_earlyOf 23 = .ok (.istore_n 3, 1) := by decide +kernel
theorem dX10_earlyOf_24 : decode cX10_earlyOf 24 = .ok (.goto (-20), 3) := by decide +kernel
def wo_earlyOf : List Cond := [.code yX10_earlyOf cX10_earlyOf 4 (some .int)]
def wr_earlyOf : List Cond := (wfX10 ++ ([]))
def w_earlyOf : List Cond := wo_earlyOf ++ wr_earlyOf
theorem wg_earlyOf : GW w_earlyOf := GW_app (GW_of (by decide +kernel)) (GW_app (wg_fX10) (GW_nil))
theorem in_earlyOf : ∀ w ∈ wfX10, w ∈ w_earlyOf := fun _ h => List.mem_append_right _ (List.mem_append_left _ h)
set_option maxHeartbeats 4000000 in
set_option maxRecDepth 100000 in
theorem ct_earlyOf (l : Launch) (E : gE) (B : Nat → Nat) (Q : Int32 → VS → Prop) (p1 : Int32) (σ : VS) (hw : wp_earlyOf Q p1 σ) : CtI l E yX10_earlyOf w_earlyOf (({ frames := 0, cells := 0, slots := 0, locals := 0 } : Room)) (wm E B σ) [.ref (B 0), .int p1] (fun r w => ∃ σ' : VS, Q r σ' ∧ w = wm E B σ') := by
  refine VC_I (cc := cX10_earlyOf) (mL := 4) (rt := (some .int)) (lv0 := [(0, .ref (B 0)), (1, .int p1)]) rfl (by decide) rfl (Nat.le_of_ble_eq_true rfl) ?_
  intro p e s m below meth c A F
  replace F : Fx p s m _ meth c A E cX10_earlyOf 4 (some .int) RX10 w_earlyOf := F
  obtain ⟨X4, hX4⟩ : ∃ X : Int32 → Int32 → VS → Prop, X = fun l2 l3 σ => WB p l e (({ frames := 0, cells := 0, slots := 0, locals := 0 } : Room)) s m (#[.ref (B 0), .int p1]) below meth c (MQ below (va_Qi (fun r w => ∃ σ' : VS, Q r σ' ∧ w = wm E B σ') (AftU E A) A) (#[.ref (B 0), .int p1]) s (({ frames := 0, cells := 0, slots := 0, locals := 0 } : Room)).cells (({ frames := 0, cells := 0, slots := 0, locals := 0 } : Room)).slots A) A E (wm E B) 4 4 [(0, .ref (B 0)), (2, .int l2), (3, .int l3)] [] σ := ⟨_, rfl⟩
  have U_4 : ∀ (l2 : Int32) (l3 : Int32) (σ : VS), X4 l2 l3 σ → WB p l e (({ frames := 0, cells := 0, slots := 0, locals := 0 } : Room)) s m (#[.ref (B 0), .int p1]) below meth c (MQ below (va_Qi (fun r w => ∃ σ' : VS, Q r σ' ∧ w = wm E B σ') (AftU E A) A) (#[.ref (B 0), .int p1]) s (({ frames := 0, cells := 0, slots := 0, locals := 0 } : Room)).cells (({ frames := 0, cells := 0, slots := 0, locals := 0 } : Room)).slots A) A E (wm E B) 4 4 [(0, .ref (B 0)), (2, .int l2), (3, .int l3)] [] σ := by
    intro l2 l3 σ hw; rw [hX4] at hw; exact hw
  have C_4 : ∀ (l2 : Int32) (l3 : Int32) (σ : VS), b_earlyOf_4 X4 Q l2 l3 σ → X4 l2 l3 σ := by
    intro l2 l3 σ hw
    unfold b_earlyOf_4 at hw
    rw [hX4]
    show WB p l e (({ frames := 0, cells := 0, slots := 0, locals := 0 } : Room)) s m (#[.ref (B 0), .int p1]) below meth c (MQ below (va_Qi (fun r w => ∃ σ' : VS, Q r σ' ∧ w = wm E B σ') (AftU E A) A) (#[.ref (B 0), .int p1]) s (({ frames := 0, cells := 0, slots := 0, locals := 0 } : Room)).cells (({ frames := 0, cells := 0, slots := 0, locals := 0 } : Room)).slots A) A E (wm E B) 4 4 [(0, .ref (B 0)), (2, .int l2), (3, .int l3)] [] σ
    refine R_iload_n F dX10_earlyOf_4 rfl 2 rfl ?_
    refine R_if_lt (tgt := 27) F dX10_earlyOf_5 (by decide) (fun hc => ?_) (fun hc => ?_)
    · replace hw := hw.1 hc
      refine R_iload_n F dX10_earlyOf_27 rfl 1 rfl ?_
      exact R_iret (Qc := Q) F rfl dX10_earlyOf_28 hw
    · replace hw := hw.2 hc
      refine R_iload_n F dX10_earlyOf_8 rfl 1 rfl ?_
      refine R_aload_n F dX10_earlyOf_9 rfl 0 rfl ?_
      refine gm_23 F in_earlyOf dX10_earlyOf_10 ?_
      refine R_iload_n F dX10_earlyOf_13 rfl 2 rfl ?_
      refine R_ldi F qm_23 dX10_earlyOf_14 hw.1 ?_
      replace hw := hw.2
      refine R_iadd F dX10_earlyOf_15 ?_
      refine R_topi (fun x1 ex1 => ?_)
      replace hw := hw x1 ex1
      refine R_istore_n (lv' := [(2, .int x1), (0, .ref (B 0)), (3, .int l3)]) F dX10_earlyOf_16 rfl (by decide) rfl ?_
      refine R_aload_n F dX10_earlyOf_17 rfl 1 rfl ?_
      refine gm_22 F in_earlyOf dX10_earlyOf_18 ?_
      refine R_iload_n F dX10_earlyOf_21 rfl 2 rfl ?_
      refine R_ldi F qm_22 dX10_earlyOf_22 hw.1 ?_
      replace hw := hw.2
      refine R_topi (fun x2 ex2 => ?_)
      replace hw := hw x2 ex2
      refine R_istore_n (lv' := [(3, .int x2), (2, .int x1), (0, .ref (B 0))]) F dX10_earlyOf_23 rfl (by decide) rfl ?_
      refine R_goto (tgt := 4) F dX10_earlyOf_24 (by decide) ?_
      exact R_sub [2, 1, 0] rfl (U_4 x1 x2 σ hw)
  unfold wp_earlyOf at hw
  replace hw := hw X4 C_4
  refine R_iconst F 0 dX10_earlyOf_0 (by decide) ?_
  refine R_istore_n (lv' := [(2, .int 0), (0, .ref (B 0)), (1, .int p1)]) F dX10_earlyOf_1 rfl (by decide) rfl ?_
  refine R_iload_n F dX10_earlyOf_2 rfl 2 rfl ?_
  refine R_istore_n (lv' := [(3, .int p1), (2, .int 0), (0, .ref (B 0)), (1, .int p1)]) F dX10_earlyOf_3 rfl (by decide) rfl ?_
  exact R_sub [2, 1, 0] rfl (U_4 0 p1 σ hw)
def b_lateOf_4 (X4 : Int32 → Int32 → VS → Prop) (Q : Int32 → VS → Prop) (l2 : Int32) (l3 : Int32) (σ : VS) : Prop := ((l3.toInt < 0 → Q l2 σ) ∧ (0 ≤ l3.toInt → (In l3 20 ∧ (∀ x1 : Int32, x1 = (l2 + (rd σ 24 l3)) → (In l3 20 ∧ (∀ x2 : Int32, x2 = (rd σ 22 l3) → X4 x1 x2 σ))))))
def wp_lateOf (Q : Int32 → VS → Prop) (p1 : Int32) (σ : VS) : Prop := ∀ (X4 : Int32 → Int32 → VS → Prop), (∀ (l2 : Int32) (l3 : Int32) (σ : VS), b_lateOf_4 X4 Q l2 l3 σ → X4 l2 l3 σ) → X4 0 p1 σ
theorem dX10_lateOf_0 : decode cX10_lateOf 0 = .ok (.iconst 0, 1) := by decide +kernel
theorem dX10_lateOf_1 : decode cX10_lateOf 1 = .ok (.istore_n 2, 1) := by decide +kernel
theorem dX10_lateOf_2 : decode cX10_lateOf 2 = .ok (.iload_n 1, 1) := by decide +kernel
theorem dX10_lateOf_3 : decode cX10_lateOf 3 = .ok (.istore_n 3, 1) := by decide +kernel
theorem dX10_lateOf_4 : decode cX10_lateOf 4 = .ok (.iload_n 3, 1) := by decide +kernel
theorem dX10_lateOf_5 : decode cX10_lateOf 5 = .ok (.ifCond .lt 22, 3) := by decide +kernel
theorem dX10_lateOf_27 : decode cX10_lateOf 27 = .ok (.iload_n 2, 1) := by decide +kernel
theorem dX10_lateOf_28 : decode cX10_lateOf 28 = .ok (.ireturn, 1) := by decide +kernel
theorem dX10_lateOf_8 : decode cX10_lateOf 8 = .ok (.iload_n 2, 1) := by decide +kernel
theorem dX10_lateOf_9 : decode cX10_lateOf 9 = .ok (.aload_n 0, 1) := by decide +kernel
theorem dX10_lateOf_10 : decode cX10_lateOf 10 = .ok (.getfield 96, 3) := by decide +kernel
theorem dX10_lateOf_13 : decode cX10_lateOf 13 = .ok (.iload_n 3, 1) := by decide +kernel
theorem dX10_lateOf_14 : decode cX10_lateOf 14 = .ok (.iaload, 1) := by decide +kernel
theorem dX10_lateOf_15 : decode cX10_lateOf 15 = .ok (.iadd, 1) := by decide +kernel
theorem dX10_lateOf_16 : decode cX10_lateOf 16 = .ok (.istore_n 2, 1) := by decide +kernel
theorem dX10_lateOf_17 : decode cX10_lateOf 17 = .ok (.aload_n 0, 1) := by decide +kernel
theorem dX10_lateOf_18 : decode cX10_lateOf 18 = .ok (.getfield 90, 3) := by decide +kernel
theorem dX10_lateOf_21 : decode cX10_lateOf 21 = .ok (.iload_n 3, 1) := by decide +kernel
theorem dX10_lateOf_22 : decode cX10_lateOf 22 = .ok (.iaload, 1) := by decide +kernel
theorem dX10_lateOf_23 : decode cX10_lateOf 23 = .ok (.istore_n 3, 1) := by decide +kernel
theorem dX10_lateOf_24 : decode cX10_lateOf 24 = .ok (.goto (-20), 3) := by decide +kernel
def wo_lateOf : List Cond := [.code yX10_lateOf cX10_lateOf 4 (some .int)]
def wr_lateOf : List Cond := (wfX10 ++ ([]))
def w_lateOf : List Cond := wo_lateOf ++ wr_lateOf
theorem wg_lateOf : GW w_lateOf := GW_app (GW_of (by decide +kernel)) (GW_app (wg_fX10) (GW_nil))
theorem in_lateOf : ∀ w ∈ wfX10, w ∈ w_lateOf := fun _ h => List.mem_append_right _ (List.mem_append_left _ h)
set_option maxHeartbeats 4000000 in
set_option maxRecDepth 100000 in
theorem ct_lateOf (l : Launch) (E : gE) (B : Nat → Nat) (Q : Int32 → VS → Prop) (p1 : Int32) (σ : VS) (hw : wp_lateOf Q p1 σ) : CtI l E yX10_lateOf w_lateOf (({ frames := 0, cells := 0, slots := 0, locals := 0 } : Room)) (wm E B σ) [.ref (B 0), .int p1] (fun r w => ∃ σ' : VS, Q r σ' ∧ w = wm E B σ') := by
  refine VC_I (cc := cX10_lateOf) (mL := 4) (rt := (some .int)) (lv0 := [(0, .ref (B 0)), (1, .int p1)]) rfl (by decide) rfl (Nat.le_of_ble_eq_true rfl) ?_
  intro p e s m below meth c A F
  replace F : Fx p s m _ meth c A E cX10_lateOf 4 (some .int) RX10 w_lateOf := F
  obtain ⟨X4, hX4⟩ : ∃ X : Int32 → Int32 → VS → Prop, X = fun l2 l3 σ => WB p l e (({ frames := 0, cells := 0, slots := 0, locals := 0 } : Room)) s m (#[.ref (B 0), .int p1]) below meth c (MQ below (va_Qi (fun r w => ∃ σ' : VS, Q r σ' ∧ w = wm E B σ') (AftU E A) A) (#[.ref (B 0), .int p1]) s (({ frames := 0, cells := 0, slots := 0, locals := 0 } : Room)).cells (({ frames := 0, cells := 0, slots := 0, locals := 0 } : Room)).slots A) A E (wm E B) 4 4 [(0, .ref (B 0)), (2, .int l2), (3, .int l3)] [] σ := ⟨_, rfl⟩
  have U_4 : ∀ (l2 : Int32) (l3 : Int32) (σ : VS), X4 l2 l3 σ → WB p l e (({ frames := 0, cells := 0, slots := 0, locals := 0 } : Room)) s m (#[.ref (B 0), .int p1]) below meth c (MQ below (va_Qi (fun r w => ∃ σ' : VS, Q r σ' ∧ w = wm E B σ') (AftU E A) A) (#[.ref (B 0), .int p1]) s (({ frames := 0, cells := 0, slots := 0, locals := 0 } : Room)).cells (({ frames := 0, cells := 0, slots := 0, locals := 0 } : Room)).slots A) A E (wm E B) 4 4 [(0, .ref (B 0)), (2, .int l2), (3, .int l3)] [] σ := by
    intro l2 l3 σ hw; rw [hX4] at hw; exact hw
  have C_4 : ∀ (l2 : Int32) (l3 : Int32) (σ : VS), b_lateOf_4 X4 Q l2 l3 σ → X4 l2 l3 σ := by
    intro l2 l3 σ hw
    unfold b_lateOf_4 at hw
    rw [hX4]
    show WB p l e (({ frames := 0, cells := 0, slots := 0, locals := 0 } : Room)) s m (#[.ref (B 0), .int p1]) below meth c (MQ below (va_Qi (fun r w => ∃ σ' : VS, Q r σ' ∧ w = wm E B σ') (AftU E A) A) (#[.ref (B 0), .int p1]) s (({ frames := 0, cells := 0, slots := 0, locals := 0 } : Room)).cells (({ frames := 0, cells := 0, slots := 0, locals := 0 } : Room)).slots A) A E (wm E B) 4 4 [(0, .ref (B 0)), (2, .int l2), (3, .int l3)] [] σ
    refine R_iload_n F dX10_lateOf_4 rfl 2 rfl ?_
    refine R_if_lt (tgt := 27) F dX10_lateOf_5 (by decide) (fun hc => ?_) (fun hc => ?_)
    · replace hw := hw.1 hc
      refine R_iload_n F dX10_lateOf_27 rfl 1 rfl ?_
      exact R_iret (Qc := Q) F rfl dX10_lateOf_28 hw
    · replace hw := hw.2 hc
      refine R_iload_n F dX10_lateOf_8 rfl 1 rfl ?_
      refine R_aload_n F dX10_lateOf_9 rfl 0 rfl ?_
      refine gm_24 F in_lateOf dX10_lateOf_10 ?_
      refine R_iload_n F dX10_lateOf_13 rfl 2 rfl ?_
      refine R_ldi F qm_24 dX10_lateOf_14 hw.1 ?_
      replace hw := hw.2
      refine R_iadd F dX10_lateOf_15 ?_
      refine R_topi (fun x1 ex1 => ?_)
      replace hw := hw x1 ex1
      refine R_istore_n (lv' := [(2, .int x1), (0, .ref (B 0)), (3, .int l3)]) F dX10_lateOf_16 rfl (by decide) rfl ?_
      refine R_aload_n F dX10_lateOf_17 rfl 1 rfl ?_
      refine gm_22 F in_lateOf dX10_lateOf_18 ?_
      refine R_iload_n F dX10_lateOf_21 rfl 2 rfl ?_
      refine R_ldi F qm_22 dX10_lateOf_22 hw.1 ?_
      replace hw := hw.2
      refine R_topi (fun x2 ex2 => ?_)
      replace hw := hw x2 ex2
      refine R_istore_n (lv' := [(3, .int x2), (2, .int x1), (0, .ref (B 0))]) F dX10_lateOf_23 rfl (by decide) rfl ?_
      refine R_goto (tgt := 4) F dX10_lateOf_24 (by decide) ?_
      exact R_sub [2, 1, 0] rfl (U_4 x1 x2 σ hw)
  unfold wp_lateOf at hw
  replace hw := hw X4 C_4
  refine R_iconst F 0 dX10_lateOf_0 (by decide) ?_
  refine R_istore_n (lv' := [(2, .int 0), (0, .ref (B 0)), (1, .int p1)]) F dX10_lateOf_1 rfl (by decide) rfl ?_
  refine R_iload_n F dX10_lateOf_2 rfl 2 rfl ?_
  refine R_istore_n (lv' := [(3, .int p1), (2, .int 0), (0, .ref (B 0)), (1, .int p1)]) F dX10_lateOf_3 rfl (by decide) rfl ?_
  exact R_sub [2, 1, 0] rfl (U_4 0 p1 σ hw)
def b_isOnWay_2 (X2 : Int32 → Int32 → VS → Prop) (Q : Int32 → VS → Prop) (l1 : Int32) (l3 : Int32) (σ : VS) : Prop := ((l3.toInt < 0 → Q 0 σ) ∧ (0 ≤ l3.toInt → ((l3.toInt ≠ l1.toInt → (In l3 20 ∧ (∀ x1 : Int32, x1 = (rd σ 22 l3) → X2 l1 x1 σ))) ∧ (l3.toInt = l1.toInt → Q 1 σ))))
def wp_isOnWay (Q : Int32 → VS → Prop) (p1 : Int32) (p2 : Int32) (σ : VS) : Prop := ∀ (X2 : Int32 → Int32 → VS → Prop), (∀ (l1 : Int32) (l3 : Int32) (σ : VS), b_isOnWay_2 X2 Q l1 l3 σ → X2 l1 l3 σ) → X2 p1 p2 σ
theorem dX10_isOnWay_0 : decode cX10_isOnWay 0 = .ok (.iload_n 2, 1) := by decide +kernel
theorem dX10_isOnWay_1 : decode cX10_isOnWay 1 = .ok (.istore_n 3, 1) := by decide +kernel
theorem dX10_isOnWay_2 : decode cX10_isOnWay 2 = .ok (.iload_n 3, 1) := by decide +kernel
theorem dX10_isOnWay_3 : decode cX10_isOnWay 3 = .ok (.ifCond .lt 20, 3) := by decide +kernel
theorem dX10_isOnWay_23 : decode cX10_isOnWay 23 = .ok (.iconst 0, 1) := by decide +kernel
theorem dX10_isOnWay_24 : decode cX10_isOnWay 24 = .ok (.ireturn, 1) := by decide +kernel
theorem dX10_isOnWay_6 : decode cX10_isOnWay 6 = .ok (.iload_n 3, 1) := by decide +kernel
theorem dX10_isOnWay_7 : decode cX10_isOnWay 7 = .ok (.iload_n 1, 1) := by decide +kernel
theorem dX10_isOnWay_8 : decode cX10_isOnWay 8 = .ok (.if_icmp .ne 5, 3) := by decide +kernel
theorem dX10_isOnWay_13 : decode cX10_isOnWay 13 = .ok (.aload_n 0, 1) := by decide +kernel
theorem dX10_isOnWay_14 : decode cX10_isOnWay 14 = .ok (.getfield 90, 3) := by decide +kernel
theorem dX10_isOnWay_17 : decode cX10_isOnWay 17 = .ok (.iload_n 3, 1) := by decide +kernel
theorem dX10_isOnWay_18 : decode cX10_isOnWay 18 = .ok (.iaload, 1) := by decide +kernel
theorem dX10_isOnWay_19 : decode cX10_isOnWay 19 = .ok (.istore_n 3, 1) := by decide +kernel
theorem dX10_isOnWay_20 : decode cX10_isOnWay 20 = .ok (.goto (-18), 3) := by decide +kernel
theorem dX10_isOnWay_11 : decode cX10_isOnWay 11 = .ok (.iconst 1, 1) := by decide +kernel
theorem dX10_isOnWay_12 : decode cX10_isOnWay 12 = .ok (.ireturn, 1) := by decide +kernel
def wo_isOnWay : List Cond := [.code yX10_isOnWay cX10_isOnWay 4 (some .boolean)]
def wr_isOnWay : List Cond := (wfX10 ++ ([]))
def w_isOnWay : List Cond := wo_isOnWay ++ wr_isOnWay
theorem wg_isOnWay : GW w_isOnWay := GW_app (GW_of (by decide +kernel)) (GW_app (wg_fX10) (GW_nil))
theorem in_isOnWay : ∀ w ∈ wfX10, w ∈ w_isOnWay := fun _ h => List.mem_append_right _ (List.mem_append_left _ h)
set_option maxHeartbeats 4000000 in
set_option maxRecDepth 100000 in
theorem ct_isOnWay (l : Launch) (E : gE) (B : Nat → Nat) (Q : Int32 → VS → Prop) (p1 : Int32) (p2 : Int32) (σ : VS) (hw : wp_isOnWay Q p1 p2 σ) : CtI l E yX10_isOnWay w_isOnWay (({ frames := 0, cells := 0, slots := 0, locals := 0 } : Room)) (wm E B σ) [.ref (B 0), .int p1, .int p2] (fun r w => ∃ σ' : VS, Q r σ' ∧ w = wm E B σ') := by
  refine VC_I (cc := cX10_isOnWay) (mL := 4) (rt := (some .boolean)) (lv0 := [(0, .ref (B 0)), (1, .int p1), (2, .int p2)]) rfl (by decide) rfl (Nat.le_of_ble_eq_true rfl) ?_
  intro p e s m below meth c A F
  replace F : Fx p s m _ meth c A E cX10_isOnWay 4 (some .boolean) RX10 w_isOnWay := F
  obtain ⟨X2, hX2⟩ : ∃ X : Int32 → Int32 → VS → Prop, X = fun l1 l3 σ => WB p l e (({ frames := 0, cells := 0, slots := 0, locals := 0 } : Room)) s m (#[.ref (B 0), .int p1, .int p2]) below meth c (MQ below (va_Qi (fun r w => ∃ σ' : VS, Q r σ' ∧ w = wm E B σ') (AftU E A) A) (#[.ref (B 0), .int p1, .int p2]) s (({ frames := 0, cells := 0, slots := 0, locals := 0 } : Room)).cells (({ frames := 0, cells := 0, slots := 0, locals := 0 } : Room)).slots A) A E (wm E B) 4 2 [(0, .ref (B 0)), (1, .int l1), (3, .int l3)] [] σ := ⟨_, rfl⟩
  have U_2 : ∀ (l1 : Int32) (l3 : Int32) (σ : VS), X2 l1 l3 σ → WB p l e (({ frames := 0, cells := 0, slots := 0, locals := 0 } : Room)) s m (#[.ref (B 0), .int p1, .int p2]) below meth c (MQ below (va_Qi (fun r w => ∃ σ' : VS, Q r σ' ∧ w = wm E B σ') (AftU E A) A) (#[.ref (B 0), .int p1, .int p2]) s (({ frames := 0, cells := 0, slots := 0, locals := 0 } : Room)).cells (({ frames := 0, cells := 0, slots := 0, locals := 0 } : Room)).slots A) A E (wm E B) 4 2 [(0, .ref (B 0)), (1, .int l1), (3, .int l3)] [] σ := by
    intro l1 l3 σ hw; rw [hX2] at hw; exact hw
  have C_2 : ∀ (l1 : Int32) (l3 : Int32) (σ : VS), b_isOnWay_2 X2 Q l1 l3 σ → X2 l1 l3 σ := by
    intro l1 l3 σ hw
    unfold b_isOnWay_2 at hw
    rw [hX2]
    show WB p l e (({ frames := 0, cells := 0, slots := 0, locals := 0 } : Room)) s m (#[.ref (B 0), .int p1, .int p2]) below meth c (MQ below (va_Qi (fun r w => ∃ σ' : VS, Q r σ' ∧ w = wm E B σ') (AftU E A) A) (#[.ref (B 0), .int p1, .int p2]) s (({ frames := 0, cells := 0, slots := 0, locals := 0 } : Room)).cells (({ frames := 0, cells := 0, slots := 0, locals := 0 } : Room)).slots A) A E (wm E B) 4 2 [(0, .ref (B 0)), (1, .int l1), (3, .int l3)] [] σ
    refine R_iload_n F dX10_isOnWay_2 rfl 2 rfl ?_
    refine R_if_lt (tgt := 23) F dX10_isOnWay_3 (by decide) (fun hc => ?_) (fun hc => ?_)
    · replace hw := hw.1 hc
      refine R_iconst F 0 dX10_isOnWay_23 (by decide) ?_
      exact R_iret (Qc := Q) F rfl dX10_isOnWay_24 hw
    · replace hw := hw.2 hc
      refine R_iload_n F dX10_isOnWay_6 rfl 2 rfl ?_
      refine R_iload_n F dX10_isOnWay_7 rfl 1 rfl ?_
      refine R_icmp_ne (tgt := 13) F dX10_isOnWay_8 (by decide) (fun hc => ?_) (fun hc => ?_)
      · replace hw := hw.1 hc
        refine R_aload_n F dX10_isOnWay_13 rfl 0 rfl ?_
        refine gm_22 F in_isOnWay dX10_isOnWay_14 ?_
        refine R_iload_n F dX10_isOnWay_17 rfl 2 rfl ?_
        refine R_ldi F qm_22 dX10_isOnWay_18 hw.1 ?_
        replace hw := hw.2
        refine R_topi (fun x1 ex1 => ?_)
        replace hw := hw x1 ex1
        refine R_istore_n (lv' := [(3, .int x1), (0, .ref (B 0)), (1, .int l1)]) F dX10_isOnWay_19 rfl (by decide) rfl ?_
        refine R_goto (tgt := 2) F dX10_isOnWay_20 (by decide) ?_
        exact R_sub [1, 2, 0] rfl (U_2 l1 x1 σ hw)
      · replace hw := hw.2 hc
        refine R_iconst F 1 dX10_isOnWay_11 (by decide) ?_
        exact R_iret (Qc := Q) F rfl dX10_isOnWay_12 hw
  unfold wp_isOnWay at hw
  replace hw := hw X2 C_2
  refine R_iload_n F dX10_isOnWay_0 rfl 2 rfl ?_
  refine R_istore_n (lv' := [(3, .int p2), (0, .ref (B 0)), (1, .int p1), (2, .int p2)]) F dX10_isOnWay_1 rfl (by decide) rfl ?_
  exact R_sub [1, 2, 0] rfl (U_2 p1 p2 σ hw)
def b_shared_84 (X27 : Int32 → Int32 → Int32 → Int32 → VS → Prop) (Q : Int32 → VS → Prop) (l1 : Int32) (l2 : Int32) (l3 : Int32) (l4 : Int32) (σ : VS) : Prop := X27 l1 l2 l3 (l4 + 1) σ
def b_shared_27 (X27 : Int32 → Int32 → Int32 → Int32 → VS → Prop) (Q : Int32 → VS → Prop) (l1 : Int32) (l2 : Int32) (l3 : Int32) (l4 : Int32) (σ : VS) : Prop := (((σ.1 21).toInt ≤ l4.toInt → Q l3 σ) ∧ (l4.toInt < (σ.1 21).toInt → (In l1 50 ∧ wp_isOnWay (fun (r1 : Int32) (σ2 : VS) => ((r1.toInt = 0 → b_shared_84 X27 Q l1 l2 l3 l4 σ2) ∧ (r1.toInt ≠ 0 → (In l2 50 ∧ wp_isOnWay (fun (r3 : Int32) (σ4 : VS) => ((r3.toInt = 0 → b_shared_84 X27 Q l1 l2 l3 l4 σ4) ∧ (r3.toInt ≠ 0 → (In l4 20 ∧ (In l4 20 ∧ (∀ x5 : Int32, x5 = (l3 + ((rd σ4 24 l4) - (rd σ4 23 l4))) → b_shared_84 X27 Q l1 l2 x5 l4 σ4)))))) l4 (rd σ2 11 l2) σ2)))) l4 (rd σ 11 l1) σ)))
def b_shared_20 (X27 : Int32 → Int32 → Int32 → Int32 → VS → Prop) (Q : Int32 → VS → Prop) (σ : VS) : Prop := Q 0 σ
def wp_shared (Q : Int32 → VS → Prop) (p1 : Int32) (p2 : Int32) (σ : VS) : Prop := ∀ (X27 : Int32 → Int32 → Int32 → Int32 → VS → Prop), (∀ (l1 : Int32) (l2 : Int32) (l3 : Int32) (l4 : Int32) (σ : VS), b_shared_27 X27 Q l1 l2 l3 l4 σ → X27 l1 l2 l3 l4 σ) → (In p1 50 ∧ (((rd σ 2 p1).toInt ≠ 4 → b_shared_20 X27 Q σ) ∧ ((rd σ 2 p1).toInt = 4 → (In p2 50 ∧ (((rd σ 2 p2).toInt = 4 → X27 p1 p2 0 0 σ) ∧ ((rd σ 2 p2).toInt ≠ 4 → b_shared_20 X27 Q σ))))))
theorem dX10_shared_0 : decode cX10_shared 0 = .ok (.aload_n 0, 1) := by decide +kernel
theorem dX10_shared_1 : decode cX10_shared 1 = .ok (.getfield 18, 3) := by decide +kernel
theorem dX10_shared_4 : decode cX10_shared 4 = .ok (.iload_n 1, 1) := by decide +kernel
theorem dX10_shared_5 : decode cX10_shared 5 = .ok (.iaload, 1) := by decide +kernel
theorem dX10_shared_6 : decode cX10_shared 6 = .ok (.iconst 4, 1) := by decide +kernel
theorem dX10_shared_7 : decode cX10_shared 7 = .ok (.if_icmp .ne 13, 3) := by decide +kernel
theorem dX10_shared_10 : decode cX10_shared 10 = .ok (.aload_n 0, 1) := by decide +kernel
theorem dX10_shared_11 : decode cX10_shared 11 = .ok (.getfield 18, 3) := by decide +kernel
theorem dX10_shared_14 : decode cX10_shared 14 = .ok (.iload_n 2, 1) := by decide +kernel
theorem dX10_shared_15 : decode cX10_shared 15 = .ok (.iaload, 1) := by decide +kernel
theorem dX10_shared_16 : decode cX10_shared 16 = .ok (.iconst 4, 1) := by decide +kernel
theorem dX10_shared_17 : decode cX10_shared 17 = .ok (.if_icmp .eq 5, 3) := by decide +kernel
theorem dX10_shared_22 : decode cX10_shared 22 = .ok (.iconst 0, 1) := by decide +kernel
theorem dX10_shared_23 : decode cX10_shared 23 = .ok (.istore_n 3, 1) := by decide +kernel
theorem dX10_shared_24 : decode cX10_shared 24 = .ok (.iconst 0, 1) := by decide +kernel
theorem dX10_shared_25 : decode cX10_shared 25 = .ok (.istore 4, 2) := by decide +kernel
theorem dX10_shared_20 : decode cX10_shared 20 = .ok (.iconst 0, 1) := by decide +kernel
theorem dX10_shared_21 : decode cX10_shared 21 = .ok (.ireturn, 1) := by decide +kernel
theorem dX10_shared_27 : decode cX10_shared 27 = .ok (.iload 4, 2) := by decide +kernel
theorem dX10_shared_29 : decode cX10_shared 29 = .ok (.aload_n 0, 1) := by decide +kernel
theorem dX10_shared_30 : decode cX10_shared 30 = .ok (.getfield 66, 3) := by decide +kernel
theorem dX10_shared_33 : decode cX10_shared 33 = .ok (.if_icmp .ge 57, 3) := by decide +kernel
theorem dX10_shared_90 : decode cX10_shared 90 = .ok (.iload_n 3, 1) := by decide +kernel
theorem dX10_shared_91 : decode cX10_shared 91 = .ok (.ireturn, 1) := by decide +kernel
theorem dX10_shared_36 : decode cX10_shared 36 = .ok (.aload_n 0, 1) := by decide +kernel
theorem dX10_shared_37 : decode cX10_shared 37 = .ok (.iload 4, 2) := by decide +kernel
theorem dX10_shared_39 : decode cX10_shared 39 = .ok (.aload_n 0, 1) := by decide +kernel
theorem dX10_shared_40 : decode cX10_shared 40 = .ok (.getfield 42, 3) := by decide +kernel
theorem dX10_shared_43 : decode cX10_shared 43 = .ok (.iload_n 1, 1) := by decide +kernel
theorem dX10_shared_44 : decode cX10_shared 44 = .ok (.iaload, 1) := by decide +kernel
theorem dX10_shared_45 : decode cX10_shared 45 = .ok (.invokevirtual 269, 3) := by decide +kernel
theorem dX10_shared_48 : decode cX10_shared 48 = .ok (.ifCond .eq 36, 3) := by decide +kernel
theorem dX10_shared_51 : decode cX10_shared 51 = .ok (.aload_n 0, 1) := by decide +kernel
theorem dX10_shared_52 : decode cX10_shared 52 = .ok (.iload 4, 2) := by decide +kernel
theorem dX10_shared_54 : decode cX10_shared 54 = .ok (.aload_n 0, 1) := by decide +kernel
theorem dX10_shared_55 : decode cX10_shared 55 = .ok (.getfield 42, 3) := by decide +kernel
theorem dX10_shared_58 : decode cX10_shared 58 = .ok (.iload_n 2, 1) := by decide +kernel
theorem dX10_shared_59 : decode cX10_shared 59 = .ok (.iaload, 1) := by decide +kernel
theorem dX10_shared_60 : decode cX10_shared 60 = .ok (.invokevirtual 269, 3) := by decide +kernel
theorem dX10_shared_63 : decode cX10_shared 63 = .ok (.ifCond .eq 21, 3) := by decide +kernel
theorem dX10_shared_66 : decode cX10_shared 66 = .ok (.iload_n 3, 1) := by decide +kernel
theorem dX10_shared_67 : decode cX10_shared 67 = .ok (.aload_n 0, 1) := by decide +kernel
theorem dX10_shared_68 : decode cX10_shared 68 = .ok (.getfield 96, 3) := by decide +kernel
theorem dX10_shared_71 : decode cX10_shared 71 = .ok (.iload 4, 2) := by decide +kernel
theorem dX10_shared_73 : decode cX10_shared 73 = .ok (.iaload, 1) := by decide +kernel
theorem dX10_shared_74 : decode cX10_shared 74 = .ok (.aload_n 0, 1) := by decide +kernel
theorem dX10_shared_75 : decode cX10_shared 75 = .ok (.getfield 93, 3) := by decide +kernel
theorem dX10_shared_78 : decode cX10_shared 78 = .ok (.iload 4, 2) := by decide +kernel
theorem dX10_shared_80 : decode cX10_shared 80 = .ok (.iaload, 1) := by decide +kernel
theorem dX10_shared_81 : decode cX10_shared 81 = .ok (.isub, 1) := by decide +kernel
theorem dX10_shared_82 : decode cX10_shared 82 = .ok (.iadd, 1) := by decide +kernel
theorem dX10_shared_83 : decode cX10_shared 83 = .ok (.istore_n 3, 1) := by decide +kernel
theorem dX10_shared_84 : decode cX10_shared 84 = .ok (.iinc 4 1, 3) := by decide +kernel
theorem dX10_shared_87 : decode cX10_shared 87 = .ok (.goto (-60), 3) := by decide +kernel
def wo_shared : List Cond := [.code yX10_shared cX10_shared 5 (some .int), .methodLink RX10 269 yX10_isOnWay, .instanceMethod yX10_isOnWay, .selects RX10 yX10_isOnWay yX10_isOnWay, .initialized RX10]
def wr_shared : List Cond := (wfX10 ++ (w_isOnWay ++ ([])))
def w_shared : List Cond := wo_shared ++ wr_shared
theorem wg_shared : GW w_shared := GW_app (GW_of (by decide +kernel)) (GW_app (wg_fX10) (GW_app (wg_isOnWay) (GW_nil)))
theorem in_shared : ∀ w ∈ wfX10, w ∈ w_shared := fun _ h => List.mem_append_right _ (List.mem_append_left _ h)
theorem g_shared_isOnWay_269 : GoodIn w_shared (wsV RX10 269 RX10 yX10_isOnWay w_isOnWay) := goodIn_app (gi_left (goodIn_of _ (by decide +kernel))) (fun w h => ⟨List.mem_append_right _ (List.mem_append_right _ (List.mem_append_left _ h)), wg_isOnWay w h⟩)
set_option maxHeartbeats 4000000 in
set_option maxRecDepth 100000 in
theorem ct_shared (l : Launch) (E : gE) (B : Nat → Nat) (Q : Int32 → VS → Prop) (p1 : Int32) (p2 : Int32) (σ : VS) (hw : wp_shared Q p1 p2 σ) : CtI l E yX10_shared w_shared (({ frames := 1, cells := 0, slots := 0, locals := 23 } : Room)) (wm E B σ) [.ref (B 0), .int p1, .int p2] (fun r w => ∃ σ' : VS, Q r σ' ∧ w = wm E B σ') := by
  refine VC_I (cc := cX10_shared) (mL := 5) (rt := (some .int)) (lv0 := [(0, .ref (B 0)), (1, .int p1), (2, .int p2)]) rfl (by decide) rfl (Nat.le_of_ble_eq_true rfl) ?_
  intro p e s m below meth c A F
  replace F : Fx p s m _ meth c A E cX10_shared 5 (some .int) RX10 w_shared := F
  obtain ⟨X27, hX27⟩ : ∃ X : Int32 → Int32 → Int32 → Int32 → VS → Prop, X = fun l1 l2 l3 l4 σ => WB p l e (({ frames := 1, cells := 0, slots := 0, locals := 23 } : Room)) s m (#[.ref (B 0), .int p1, .int p2]) below meth c (MQ below (va_Qi (fun r w => ∃ σ' : VS, Q r σ' ∧ w = wm E B σ') (AftU E A) A) (#[.ref (B 0), .int p1, .int p2]) s (({ frames := 1, cells := 0, slots := 0, locals := 23 } : Room)).cells (({ frames := 1, cells := 0, slots := 0, locals := 23 } : Room)).slots A) A E (wm E B) 5 27 [(0, .ref (B 0)), (1, .int l1), (2, .int l2), (3, .int l3), (4, .int l4)] [] σ := ⟨_, rfl⟩
  have U_27 : ∀ (l1 : Int32) (l2 : Int32) (l3 : Int32) (l4 : Int32) (σ : VS), X27 l1 l2 l3 l4 σ → WB p l e (({ frames := 1, cells := 0, slots := 0, locals := 23 } : Room)) s m (#[.ref (B 0), .int p1, .int p2]) below meth c (MQ below (va_Qi (fun r w => ∃ σ' : VS, Q r σ' ∧ w = wm E B σ') (AftU E A) A) (#[.ref (B 0), .int p1, .int p2]) s (({ frames := 1, cells := 0, slots := 0, locals := 23 } : Room)).cells (({ frames := 1, cells := 0, slots := 0, locals := 23 } : Room)).slots A) A E (wm E B) 5 27 [(0, .ref (B 0)), (1, .int l1), (2, .int l2), (3, .int l3), (4, .int l4)] [] σ := by
    intro l1 l2 l3 l4 σ hw; rw [hX27] at hw; exact hw
  have J_84 : ∀ (l1 : Int32) (l2 : Int32) (l3 : Int32) (l4 : Int32) (σ : VS), b_shared_84 X27 Q l1 l2 l3 l4 σ → WB p l e (({ frames := 1, cells := 0, slots := 0, locals := 23 } : Room)) s m (#[.ref (B 0), .int p1, .int p2]) below meth c (MQ below (va_Qi (fun r w => ∃ σ' : VS, Q r σ' ∧ w = wm E B σ') (AftU E A) A) (#[.ref (B 0), .int p1, .int p2]) s (({ frames := 1, cells := 0, slots := 0, locals := 23 } : Room)).cells (({ frames := 1, cells := 0, slots := 0, locals := 23 } : Room)).slots A) A E (wm E B) 5 84 [(0, .ref (B 0)), (1, .int l1), (2, .int l2), (3, .int l3), (4, .int l4)] [] σ := by
    intro l1 l2 l3 l4 σ hw
    unfold b_shared_84 at hw
    refine R_iinc (q := 4) (v := (l4 + 1)) (lv' := [(4, .int (l4 + 1)), (0, .ref (B 0)), (1, .int l1), (2, .int l2), (3, .int l3)]) F dX10_shared_84 rfl rfl (by decide) rfl ?_
    refine R_goto (tgt := 27) F dX10_shared_87 (by decide) ?_
    exact R_sub [1, 2, 3, 4, 0] rfl (U_27 l1 l2 l3 (l4 + 1) σ hw)
  have J_20 : ∀ (σ : VS), b_shared_20 X27 Q σ → WB p l e (({ frames := 1, cells := 0, slots := 0, locals := 23 } : Room)) s m (#[.ref (B 0), .int p1, .int p2]) below meth c (MQ below (va_Qi (fun r w => ∃ σ' : VS, Q r σ' ∧ w = wm E B σ') (AftU E A) A) (#[.ref (B 0), .int p1, .int p2]) s (({ frames := 1, cells := 0, slots := 0, locals := 23 } : Room)).cells (({ frames := 1, cells := 0, slots := 0, locals := 23 } : Room)).slots A) A E (wm E B) 5 20 [] [] σ := by
    intro σ hw
    unfold b_shared_20 at hw
    refine R_iconst F 0 dX10_shared_20 (by decide) ?_
    exact R_iret (Qc := Q) F rfl dX10_shared_21 hw
  have C_27 : ∀ (l1 : Int32) (l2 : Int32) (l3 : Int32) (l4 : Int32) (σ : VS), b_shared_27 X27 Q l1 l2 l3 l4 σ → X27 l1 l2 l3 l4 σ := by
    intro l1 l2 l3 l4 σ hw
    unfold b_shared_27 at hw
    rw [hX27]
    show WB p l e (({ frames := 1, cells := 0, slots := 0, locals := 23 } : Room)) s m (#[.ref (B 0), .int p1, .int p2]) below meth c (MQ below (va_Qi (fun r w => ∃ σ' : VS, Q r σ' ∧ w = wm E B σ') (AftU E A) A) (#[.ref (B 0), .int p1, .int p2]) s (({ frames := 1, cells := 0, slots := 0, locals := 23 } : Room)).cells (({ frames := 1, cells := 0, slots := 0, locals := 23 } : Room)).slots A) A E (wm E B) 5 27 [(0, .ref (B 0)), (1, .int l1), (2, .int l2), (3, .int l3), (4, .int l4)] [] σ
    refine R_iload F dX10_shared_27 4 rfl ?_
    refine R_aload_n F dX10_shared_29 rfl 0 rfl ?_
    refine gm_21 F in_shared dX10_shared_30 ?_
    refine R_icmp_ge (tgt := 90) F dX10_shared_33 (by decide) (fun hc => ?_) (fun hc => ?_)
    · replace hw := hw.1 hc
      refine R_iload_n F dX10_shared_90 rfl 3 rfl ?_
      exact R_iret (Qc := Q) F rfl dX10_shared_91 hw
    · replace hw := hw.2 hc
      refine R_aload_n F dX10_shared_36 rfl 0 rfl ?_
      refine R_iload F dX10_shared_37 4 rfl ?_
      refine R_aload_n F dX10_shared_39 rfl 0 rfl ?_
      refine gm_11 F in_shared dX10_shared_40 ?_
      refine R_iload_n F dX10_shared_43 rfl 1 rfl ?_
      refine R_ldi F qm_11 dX10_shared_44 hw.1 ?_
      replace hw := hw.2
      refine R_callI (As := [.int l4, .int (rd σ 11 l1)]) (C := RX10) (q0 := 0) (ci := 10) (N := 69) (T := TX10) (fs := mfl B) F (ct_isOnWay l E B _ l4 (rd σ 11 l1) _ hw) (cwV 2 F.2.2.2.2.2.2.2.2.2.2 g_shared_isOnWay_269 rfl rfl rfl (by decide +kernel) ⟨Nat.le_of_ble_eq_true rfl, Nat.le_of_ble_eq_true rfl⟩) ⟨rfl, rfl⟩ rfl (fun _ => rfl) rfl rfl (Nat.le_of_ble_eq_true rfl) dX10_shared_45 (fun r1 σ2 hw => ?_)
      refine R_if_eq (tgt := 84) F dX10_shared_48 (by decide) (fun hc => ?_) (fun hc => ?_)
      · replace hw := hw.1 hc
        exact R_sub [0, 1, 2, 3, 4] rfl (J_84 l1 l2 l3 l4 σ2 hw)
      · replace hw := hw.2 hc
        refine R_aload_n F dX10_shared_51 rfl 0 rfl ?_
        refine R_iload F dX10_shared_52 4 rfl ?_
        refine R_aload_n F dX10_shared_54 rfl 0 rfl ?_
        refine gm_11 F in_shared dX10_shared_55 ?_
        refine R_iload_n F dX10_shared_58 rfl 2 rfl ?_
        refine R_ldi F qm_11 dX10_shared_59 hw.1 ?_
        replace hw := hw.2
        refine R_callI (As := [.int l4, .int (rd σ2 11 l2)]) (C := RX10) (q0 := 0) (ci := 10) (N := 69) (T := TX10) (fs := mfl B) F (ct_isOnWay l E B _ l4 (rd σ2 11 l2) _ hw) (cwV 2 F.2.2.2.2.2.2.2.2.2.2 g_shared_isOnWay_269 rfl rfl rfl (by decide +kernel) ⟨Nat.le_of_ble_eq_true rfl, Nat.le_of_ble_eq_true rfl⟩) ⟨rfl, rfl⟩ rfl (fun _ => rfl) rfl rfl (Nat.le_of_ble_eq_true rfl) dX10_shared_60 (fun r3 σ4 hw => ?_)
        refine R_if_eq (tgt := 84) F dX10_shared_63 (by decide) (fun hc => ?_) (fun hc => ?_)
        · replace hw := hw.1 hc
          exact R_sub [0, 1, 2, 3, 4] rfl (J_84 l1 l2 l3 l4 σ4 hw)
        · replace hw := hw.2 hc
          refine R_iload_n F dX10_shared_66 rfl 3 rfl ?_
          refine R_aload_n F dX10_shared_67 rfl 0 rfl ?_
          refine gm_24 F in_shared dX10_shared_68 ?_
          refine R_iload F dX10_shared_71 4 rfl ?_
          refine R_ldi F qm_24 dX10_shared_73 hw.1 ?_
          replace hw := hw.2
          refine R_aload_n F dX10_shared_74 rfl 0 rfl ?_
          refine gm_23 F in_shared dX10_shared_75 ?_
          refine R_iload F dX10_shared_78 4 rfl ?_
          refine R_ldi F qm_23 dX10_shared_80 hw.1 ?_
          replace hw := hw.2
          refine R_isub F dX10_shared_81 ?_
          refine R_iadd F dX10_shared_82 ?_
          refine R_topi (fun x5 ex5 => ?_)
          replace hw := hw x5 ex5
          refine R_istore_n (lv' := [(3, .int x5), (0, .ref (B 0)), (1, .int l1), (2, .int l2), (4, .int l4)]) F dX10_shared_83 rfl (by decide) rfl ?_
          exact R_sub [1, 2, 3, 0, 4] rfl (J_84 l1 l2 x5 l4 σ4 hw)
  unfold wp_shared at hw
  replace hw := hw X27 C_27
  refine R_aload_n F dX10_shared_0 rfl 0 rfl ?_
  refine gm_2 F in_shared dX10_shared_1 ?_
  refine R_iload_n F dX10_shared_4 rfl 1 rfl ?_
  refine R_ldi F qm_2 dX10_shared_5 hw.1 ?_
  replace hw := hw.2
  refine R_iconst F 4 dX10_shared_6 (by decide) ?_
  refine R_icmp_ne (tgt := 20) F dX10_shared_7 (by decide) (fun hc => ?_) (fun hc => ?_)
  · replace hw := hw.1 hc
    exact R_sub [] rfl (J_20 σ hw)
  · replace hw := hw.2 hc
    refine R_aload_n F dX10_shared_10 rfl 0 rfl ?_
    refine gm_2 F in_shared dX10_shared_11 ?_
    refine R_iload_n F dX10_shared_14 rfl 2 rfl ?_
    refine R_ldi F qm_2 dX10_shared_15 hw.1 ?_
    replace hw := hw.2
    refine R_iconst F 4 dX10_shared_16 (by decide) ?_
    refine R_icmp_eq (tgt := 22) F dX10_shared_17 (by decide) (fun hc => ?_) (fun hc => ?_)
    · replace hw := hw.1 hc
      refine R_iconst F 0 dX10_shared_22 (by decide) ?_
      refine R_istore_n (lv' := [(3, .int 0), (0, .ref (B 0)), (1, .int p1), (2, .int p2)]) F dX10_shared_23 rfl (by decide) rfl ?_
      refine R_iconst F 0 dX10_shared_24 (by decide) ?_
      refine R_istore (lv' := [(4, .int 0), (3, .int 0), (0, .ref (B 0)), (1, .int p1), (2, .int p2)]) F dX10_shared_25 (by decide) rfl ?_
      exact R_sub [2, 3, 4, 1, 0] rfl (U_27 p1 p2 0 0 σ hw)
    · replace hw := hw.2 hc
      exact R_sub [] rfl (J_20 σ hw)
def b_common_26 (Q : Int32 → VS → Prop) (k0 : Int32) (σ : VS) : Prop := Q k0 σ
def b_common_25 (Q : Int32 → VS → Prop) (σ : VS) : Prop := b_common_26 Q (-1) σ
def wp_common (Q : Int32 → VS → Prop) (p1 : Int32) (p2 : Int32) (σ : VS) : Prop := wp_isCell (fun (r1 : Int32) (σ2 : VS) => ((r1.toInt = 0 → b_common_25 Q σ2) ∧ (r1.toInt ≠ 0 → wp_isCell (fun (r3 : Int32) (σ4 : VS) => ((r3.toInt = 0 → b_common_25 Q σ4) ∧ (r3.toInt ≠ 0 → wp_shared (fun (r5 : Int32) (σ6 : VS) => b_common_26 Q r5 σ6) p1 p2 σ4))) p2 σ2))) p1 σ
theorem dX10_common_0 : decode cX10_common 0 = .ok (.aload_n 0, 1) := by decide +kernel
theorem dX10_common_1 : decode cX10_common 1 = .ok (.iload_n 1, 1) := by decide +kernel
theorem dX10_common_2 : decode cX10_common 2 = .ok (.invokevirtual 10, 3) := by decide +kernel
theorem dX10_common_5 : decode cX10_common 5 = .ok (.ifCond .eq 20, 3) := by decide +kernel
theorem dX10_common_8 : decode cX10_common 8 = .ok (.aload_n 0, 1) := by decide +kernel
theorem dX10_common_9 : decode cX10_common 9 = .ok (.iload_n 2, 1) := by decide +kernel
theorem dX10_common_10 : decode cX10_common 10 = .ok (.invokevirtual 10, 3) := by decide +kernel
theorem dX10_common_13 : decode cX10_common 13 = .ok (.ifCond .eq 12, 3) := by decide +kernel
theorem dX10_common_16 : decode cX10_common 16 = .ok (.aload_n 0, 1) := by decide +kernel
theorem dX10_common_17 : decode cX10_common 17 = .ok (.iload_n 1, 1) := by decide +kernel
theorem dX10_common_18 : decode cX10_common 18 = .ok (.iload_n 2, 1) := by decide +kernel
theorem dX10_common_19 : decode cX10_common 19 = .ok (.invokevirtual 272, 3) := by decide +kernel
theorem dX10_common_22 : decode cX10_common 22 = .ok (.goto 4, 3) := by decide +kernel
theorem dX10_common_25 : decode cX10_common 25 = .ok (.iconst (-1), 1) := by decide +kernel
theorem dX10_common_26 : decode cX10_common 26 = .ok (.ireturn, 1) := by decide +kernel
def wo_common : List Cond := [.code yX10_common cX10_common 3 (some .int), .methodLink RX10 10 yX10_isCell, .instanceMethod yX10_isCell, .selects RX10 yX10_isCell yX10_isCell, .initialized RX10, .methodLink RX10 272 yX10_shared, .instanceMethod yX10_shared, .selects RX10 yX10_shared yX10_shared]
def wr_common : List Cond := (wfX10 ++ (w_isCell ++ (w_shared ++ ([]))))
def w_common : List Cond := wo_common ++ wr_common
theorem wg_common : GW w_common := GW_app (GW_of (by decide +kernel)) (GW_app (wg_fX10) (GW_app (wg_isCell) (GW_app (wg_shared) (GW_nil))))
theorem in_common : ∀ w ∈ wfX10, w ∈ w_common := fun _ h => List.mem_append_right _ (List.mem_append_left _ h)
theorem g_common_isCell_10 : GoodIn w_common (wsV RX10 10 RX10 yX10_isCell w_isCell) := goodIn_app (gi_left (goodIn_of _ (by decide +kernel))) (fun w h => ⟨List.mem_append_right _ (List.mem_append_right _ (List.mem_append_left _ h)), wg_isCell w h⟩)
theorem g_common_shared_272 : GoodIn w_common (wsV RX10 272 RX10 yX10_shared w_shared) := goodIn_app (gi_left (goodIn_of _ (by decide +kernel))) (fun w h => ⟨List.mem_append_right _ (List.mem_append_right _ (List.mem_append_right _ (List.mem_append_left _ h))), wg_shared w h⟩)
set_option maxHeartbeats 4000000 in
set_option maxRecDepth 100000 in
theorem ct_common (l : Launch) (E : gE) (B : Nat → Nat) (Q : Int32 → VS → Prop) (p1 : Int32) (p2 : Int32) (σ : VS) (hw : wp_common Q p1 p2 σ) : CtI l E yX10_common w_common (({ frames := 2, cells := 0, slots := 0, locals := 47 } : Room)) (wm E B σ) [.ref (B 0), .int p1, .int p2] (fun r w => ∃ σ' : VS, Q r σ' ∧ w = wm E B σ') := by
  refine VC_I (cc := cX10_common) (mL := 3) (rt := (some .int)) (lv0 := [(0, .ref (B 0)), (1, .int p1), (2, .int p2)]) rfl (by decide) rfl (Nat.le_of_ble_eq_true rfl) ?_
  intro p e s m below meth c A F
  replace F : Fx p s m _ meth c A E cX10_common 3 (some .int) RX10 w_common := F
  have J_26 : ∀ (k0 : Int32) (σ : VS), b_common_26 Q k0 σ → WB p l e (({ frames := 2, cells := 0, slots := 0, locals := 47 } : Room)) s m (#[.ref (B 0), .int p1, .int p2]) below meth c (MQ below (va_Qi (fun r w => ∃ σ' : VS, Q r σ' ∧ w = wm E B σ') (AftU E A) A) (#[.ref (B 0), .int p1, .int p2]) s (({ frames := 2, cells := 0, slots := 0, locals := 47 } : Room)).cells (({ frames := 2, cells := 0, slots := 0, locals := 47 } : Room)).slots A) A E (wm E B) 3 26 [] [.int k0] σ := by
    intro k0 σ hw
    unfold b_common_26 at hw
    exact R_iret (Qc := Q) F rfl dX10_common_26 hw
  have J_25 : ∀ (σ : VS), b_common_25 Q σ → WB p l e (({ frames := 2, cells := 0, slots := 0, locals := 47 } : Room)) s m (#[.ref (B 0), .int p1, .int p2]) below meth c (MQ below (va_Qi (fun r w => ∃ σ' : VS, Q r σ' ∧ w = wm E B σ') (AftU E A) A) (#[.ref (B 0), .int p1, .int p2]) s (({ frames := 2, cells := 0, slots := 0, locals := 47 } : Room)).cells (({ frames := 2, cells := 0, slots := 0, locals := 47 } : Room)).slots A) A E (wm E B) 3 25 [] [] σ := by
    intro σ hw
    unfold b_common_25 at hw
    refine R_iconst F (-1) dX10_common_25 (by decide) ?_
    exact R_sub [] rfl (J_26 (-1) σ hw)
  unfold wp_common at hw
  refine R_aload_n F dX10_common_0 rfl 0 rfl ?_
  refine R_iload_n F dX10_common_1 rfl 1 rfl ?_
  refine R_callI (As := [.int p1]) (C := RX10) (q0 := 0) (ci := 10) (N := 69) (T := TX10) (fs := mfl B) F (ct_isCell l E B _ p1 _ hw) (cwV 1 F.2.2.2.2.2.2.2.2.2.2 g_common_isCell_10 rfl rfl rfl (by decide +kernel) ⟨Nat.le_of_ble_eq_true rfl, Nat.le_of_ble_eq_true rfl⟩) ⟨rfl, rfl⟩ rfl (fun _ => rfl) rfl rfl (Nat.le_of_ble_eq_true rfl) dX10_common_2 (fun r1 σ2 hw => ?_)
  refine R_if_eq (tgt := 25) F dX10_common_5 (by decide) (fun hc => ?_) (fun hc => ?_)
  · replace hw := hw.1 hc
    exact R_sub [] rfl (J_25 σ2 hw)
  · replace hw := hw.2 hc
    refine R_aload_n F dX10_common_8 rfl 0 rfl ?_
    refine R_iload_n F dX10_common_9 rfl 2 rfl ?_
    refine R_callI (As := [.int p2]) (C := RX10) (q0 := 0) (ci := 10) (N := 69) (T := TX10) (fs := mfl B) F (ct_isCell l E B _ p2 _ hw) (cwV 1 F.2.2.2.2.2.2.2.2.2.2 g_common_isCell_10 rfl rfl rfl (by decide +kernel) ⟨Nat.le_of_ble_eq_true rfl, Nat.le_of_ble_eq_true rfl⟩) ⟨rfl, rfl⟩ rfl (fun _ => rfl) rfl rfl (Nat.le_of_ble_eq_true rfl) dX10_common_10 (fun r3 σ4 hw => ?_)
    refine R_if_eq (tgt := 25) F dX10_common_13 (by decide) (fun hc => ?_) (fun hc => ?_)
    · replace hw := hw.1 hc
      exact R_sub [] rfl (J_25 σ4 hw)
    · replace hw := hw.2 hc
      refine R_aload_n F dX10_common_16 rfl 0 rfl ?_
      refine R_iload_n F dX10_common_17 rfl 1 rfl ?_
      refine R_iload_n F dX10_common_18 rfl 2 rfl ?_
      refine R_callI (As := [.int p1, .int p2]) (C := RX10) (q0 := 0) (ci := 10) (N := 69) (T := TX10) (fs := mfl B) F (ct_shared l E B _ p1 p2 _ hw) (cwV 2 F.2.2.2.2.2.2.2.2.2.2 g_common_shared_272 rfl rfl rfl (by decide +kernel) ⟨Nat.le_of_ble_eq_true rfl, Nat.le_of_ble_eq_true rfl⟩) ⟨rfl, rfl⟩ rfl (fun _ => rfl) rfl rfl (Nat.le_of_ble_eq_true rfl) dX10_common_19 (fun r5 σ6 hw => ?_)
      refine R_goto (tgt := 26) F dX10_common_22 (by decide) ?_
      exact R_sub [] rfl (J_26 r5 σ6 hw)
def b_startLate_40 (Q : Int32 → VS → Prop) (k0 : Int32) (σ : VS) : Prop := Q k0 σ
def wp_startLate (Q : Int32 → VS → Prop) (p1 : Int32) (p2 : Int32) (σ : VS) : Prop := (In p1 50 ∧ (((rd σ 2 p1).toInt ≠ 0 → (In p1 50 ∧ wp_lateOf (fun (r1 : Int32) (σ2 : VS) => (In ((8 * p1) + p2) 400 ∧ b_startLate_40 Q (r1 + (rd σ2 36 ((8 * p1) + p2))) σ2)) (rd σ 11 p1) σ)) ∧ ((rd σ 2 p1).toInt = 0 → (In p1 50 ∧ b_startLate_40 Q (rd σ 9 p1) σ))))
theorem dX10_startLate_0 : decode cX10_startLate 0 = .ok (.aload_n 0, 1) := by decide +kernel
theorem dX10_startLate_1 : decode cX10_startLate 1 = .ok (.getfield 18, 3) := by decide +kernel
theorem dX10_startLate_4 : decode cX10_startLate 4 = .ok (.iload_n 1, 1) := by decide +kernel
theorem dX10_startLate_5 : decode cX10_startLate 5 = .ok (.iaload, 1) := by decide +kernel
theorem dX10_startLate_6 : decode cX10_startLate 6 = .ok (.ifCond .ne 12, 3) := by decide +kernel
theorem dX10_startLate_18 : decode cX10_startLate 18 = .ok (.aload_n 0, 1) := by decide +kernel
theorem dX10_startLate_19 : decode cX10_startLate 19 = .ok (.aload_n 0, 1) := by decide +kernel
theorem dX10_startLate_20 : decode cX10_startLate 20 = .ok (.getfield 42, 3) := by decide +kernel
theorem dX10_startLate_23 : decode cX10_startLate 23 = .ok (.iload_n 1, 1) := by decide +kernel
theorem dX10_startLate_24 : decode cX10_startLate 24 = .ok (.iaload, 1) := by decide +kernel
theorem dX10_startLate_25 : decode cX10_startLate 25 = .ok (.invokevirtual 275, 3) := by decide +kernel
theorem dX10_startLate_28 : decode cX10_startLate 28 = .ok (.aload_n 0, 1) := by decide +kernel
theorem dX10_startLate_29 : decode cX10_startLate 29 = .ok (.getfield 123, 3) := by decide +kernel
theorem dX10_startLate_32 : decode cX10_startLate 32 = .ok (.bipush 8, 2) := by decide +kernel
theorem dX10_startLate_34 : decode cX10_startLate 34 = .ok (.iload_n 1, 1) := by decide +kernel
theorem dX10_startLate_35 : decode cX10_startLate 35 = .ok (.imul, 1) := by decide +kernel
theorem dX10_startLate_36 : decode cX10_startLate 36 = .ok (.iload_n 2, 1) := by decide +kernel
theorem dX10_startLate_37 : decode cX10_startLate 37 = .ok (.iadd, 1) := by decide +kernel
theorem dX10_startLate_38 : decode cX10_startLate 38 = .ok (.iaload, 1) := by decide +kernel
theorem dX10_startLate_39 : decode cX10_startLate 39 = .ok (.iadd, 1) := by decide +kernel
theorem dX10_startLate_9 : decode cX10_startLate 9 = .ok (.aload_n 0, 1) := by decide +kernel
theorem dX10_startLate_10 : decode cX10_startLate 10 = .ok (.getfield 36, 3) := by decide +kernel
theorem dX10_startLate_13 : decode cX10_startLate 13 = .ok (.iload_n 1, 1) := by decide +kernel
theorem dX10_startLate_14 : decode cX10_startLate 14 = .ok (.iaload, 1) := by decide +kernel
theorem dX10_startLate_15 : decode cX10_startLate 15 = .ok (.goto 25, 3) := by decide +kernel
theorem dX10_startLate_40 : decode cX10_startLate 40 = .ok (.ireturn, 1) := by decide +kernel
def wo_startLate : List Cond := [.code yX10_startLate cX10_startLate 3 (some .int), .methodLink RX10 275 yX10_lateOf, .instanceMethod yX10_lateOf, .selects RX10 yX10_lateOf yX10_lateOf, .initialized RX10]
def wr_startLate : List Cond := (wfX10 ++ (w_lateOf ++ ([])))
def w_startLate : List Cond := wo_startLate ++ wr_startLate
theorem wg_startLate : GW w_startLate := GW_app (GW_of (by decide +kernel)) (GW_app (wg_fX10) (GW_app (wg_lateOf) (GW_nil)))
theorem in_startLate : ∀ w ∈ wfX10, w ∈ w_startLate := fun _ h => List.mem_append_right _ (List.mem_append_left _ h)
theorem g_startLate_lateOf_275 : GoodIn w_startLate (wsV RX10 275 RX10 yX10_lateOf w_lateOf) := goodIn_app (gi_left (goodIn_of _ (by decide +kernel))) (fun w h => ⟨List.mem_append_right _ (List.mem_append_right _ (List.mem_append_left _ h)), wg_lateOf w h⟩)
set_option maxHeartbeats 4000000 in
set_option maxRecDepth 100000 in
theorem ct_startLate (l : Launch) (E : gE) (B : Nat → Nat) (Q : Int32 → VS → Prop) (p1 : Int32) (p2 : Int32) (σ : VS) (hw : wp_startLate Q p1 p2 σ) : CtI l E yX10_startLate w_startLate (({ frames := 1, cells := 0, slots := 0, locals := 23 } : Room)) (wm E B σ) [.ref (B 0), .int p1, .int p2] (fun r w => ∃ σ' : VS, Q r σ' ∧ w = wm E B σ') := by
  refine VC_I (cc := cX10_startLate) (mL := 3) (rt := (some .int)) (lv0 := [(0, .ref (B 0)), (1, .int p1), (2, .int p2)]) rfl (by decide) rfl (Nat.le_of_ble_eq_true rfl) ?_
  intro p e s m below meth c A F
  replace F : Fx p s m _ meth c A E cX10_startLate 3 (some .int) RX10 w_startLate := F
  have J_40 : ∀ (k0 : Int32) (σ : VS), b_startLate_40 Q k0 σ → WB p l e (({ frames := 1, cells := 0, slots := 0, locals := 23 } : Room)) s m (#[.ref (B 0), .int p1, .int p2]) below meth c (MQ below (va_Qi (fun r w => ∃ σ' : VS, Q r σ' ∧ w = wm E B σ') (AftU E A) A) (#[.ref (B 0), .int p1, .int p2]) s (({ frames := 1, cells := 0, slots := 0, locals := 23 } : Room)).cells (({ frames := 1, cells := 0, slots := 0, locals := 23 } : Room)).slots A) A E (wm E B) 3 40 [] [.int k0] σ := by
    intro k0 σ hw
    unfold b_startLate_40 at hw
    exact R_iret (Qc := Q) F rfl dX10_startLate_40 hw
  unfold wp_startLate at hw
  refine R_aload_n F dX10_startLate_0 rfl 0 rfl ?_
  refine gm_2 F in_startLate dX10_startLate_1 ?_
  refine R_iload_n F dX10_startLate_4 rfl 1 rfl ?_
  refine R_ldi F qm_2 dX10_startLate_5 hw.1 ?_
  replace hw := hw.2
  refine R_if_ne (tgt := 18) F dX10_startLate_6 (by decide) (fun hc => ?_) (fun hc => ?_)
  · replace hw := hw.1 hc
    refine R_aload_n F dX10_startLate_18 rfl 0 rfl ?_
    refine R_aload_n F dX10_startLate_19 rfl 0 rfl ?_
    refine gm_11 F in_startLate dX10_startLate_20 ?_
    refine R_iload_n F dX10_startLate_23 rfl 1 rfl ?_
    refine R_ldi F qm_11 dX10_startLate_24 hw.1 ?_
    replace hw := hw.2
    refine R_callI (As := [.int (rd σ 11 p1)]) (C := RX10) (q0 := 0) (ci := 10) (N := 69) (T := TX10) (fs := mfl B) F (ct_lateOf l E B _ (rd σ 11 p1) _ hw) (cwV 1 F.2.2.2.2.2.2.2.2.2.2 g_startLate_lateOf_275 rfl rfl rfl (by decide +kernel) ⟨Nat.le_of_ble_eq_true rfl, Nat.le_of_ble_eq_true rfl⟩) ⟨rfl, rfl⟩ rfl (fun _ => rfl) rfl rfl (Nat.le_of_ble_eq_true rfl) dX10_startLate_25 (fun r1 σ2 hw => ?_)
    refine R_aload_n F dX10_startLate_28 rfl 0 rfl ?_
    refine gm_36 F in_startLate dX10_startLate_29 ?_
    refine R_bipush F 8 dX10_startLate_32 (by decide) ?_
    refine R_iload_n F dX10_startLate_34 rfl 1 rfl ?_
    refine R_imul F dX10_startLate_35 ?_
    refine R_iload_n F dX10_startLate_36 rfl 2 rfl ?_
    refine R_iadd F dX10_startLate_37 ?_
    refine R_ldi F qm_36 dX10_startLate_38 hw.1 ?_
    replace hw := hw.2
    refine R_iadd F dX10_startLate_39 ?_
    exact R_sub [] rfl (J_40 (r1 + (rd σ2 36 ((8 * p1) + p2))) σ2 hw)
  · replace hw := hw.2 hc
    refine R_aload_n F dX10_startLate_9 rfl 0 rfl ?_
    refine gm_9 F in_startLate dX10_startLate_10 ?_
    refine R_iload_n F dX10_startLate_13 rfl 1 rfl ?_
    refine R_ldi F qm_9 dX10_startLate_14 hw.1 ?_
    replace hw := hw.2
    refine R_goto (tgt := 40) F dX10_startLate_15 (by decide) ?_
    exact R_sub [] rfl (J_40 (rd σ 9 p1) σ hw)
def b_startEarly_40 (Q : Int32 → VS → Prop) (k0 : Int32) (σ : VS) : Prop := Q k0 σ
def wp_startEarly (Q : Int32 → VS → Prop) (p1 : Int32) (p2 : Int32) (σ : VS) : Prop := (In p1 50 ∧ (((rd σ 2 p1).toInt ≠ 0 → (In p1 50 ∧ wp_earlyOf (fun (r1 : Int32) (σ2 : VS) => (In ((8 * p1) + p2) 400 ∧ b_startEarly_40 Q (r1 + (rd σ2 37 ((8 * p1) + p2))) σ2)) (rd σ 11 p1) σ)) ∧ ((rd σ 2 p1).toInt = 0 → (In p1 50 ∧ b_startEarly_40 Q (rd σ 8 p1) σ))))
theorem dX10_startEarly_0 : decode cX10_startEarly 0 = .ok (.aload_n 0, 1) := by decide +kernel
theorem dX10_startEarly_1 : decode cX10_startEarly 1 = .ok (.getfield 18, 3) := by decide +kernel
theorem dX10_startEarly_4 : decode cX10_startEarly 4 = .ok (.iload_n 1, 1) := by decide +kernel
theorem dX10_startEarly_5 : decode cX10_startEarly 5 = .ok (.iaload, 1) := by decide +kernel
theorem dX10_startEarly_6 : decode cX10_startEarly 6 = .ok (.ifCond .ne 12, 3) := by decide +kernel
theorem dX10_startEarly_18 : decode cX10_startEarly 18 = .ok (.aload_n 0, 1) := by decide +kernel
theorem dX10_startEarly_19 : decode cX10_startEarly 19 = .ok (.aload_n 0, 1) := by decide +kernel
theorem dX10_startEarly_20 : decode cX10_startEarly 20 = .ok (.getfield 42, 3) := by decide +kernel
theorem dX10_startEarly_23 : decode cX10_startEarly 23 = .ok (.iload_n 1, 1) := by decide +kernel
theorem dX10_startEarly_24 : decode cX10_startEarly 24 = .ok (.iaload, 1) := by decide +kernel
theorem dX10_startEarly_25 : decode cX10_startEarly 25 = .ok (.invokevirtual 278, 3) := by decide +kernel
theorem dX10_startEarly_28 : decode cX10_startEarly 28 = .ok (.aload_n 0, 1) := by decide +kernel
theorem dX10_startEarly_29 : decode cX10_startEarly 29 = .ok (.getfield 126, 3) := by decide +kernel
theorem dX10_startEarly_32 : decode cX10_startEarly 32 = .ok (.bipush 8, 2) := by decide +kernel
theorem dX10_startEarly_34 : decode cX10_startEarly 34 = .ok (.iload_n 1, 1) := by decide +kernel
theorem dX10_startEarly_35 : decode cX10_startEarly 35 = .ok (.imul, 1) := by decide +kernel
theorem dX10_startEarly_36 : decode cX10_startEarly 36 = .ok (.iload_n 2, 1) := by decide +kernel
theorem dX10_startEarly_37 : decode cX10_startEarly 37 = .ok (.iadd, 1) := by decide +kernel
theorem dX10_startEarly_38 : decode cX10_startEarly 38 = .ok (.iaload, 1) := by decide +kernel
theorem dX10_startEarly_39 : decode cX10_startEarly 39 = .ok (.iadd, 1) := by decide +kernel
theorem dX10_startEarly_9 : decode cX10_startEarly 9 = .ok (.aload_n 0, 1) := by decide +kernel
theorem dX10_startEarly_10 : decode cX10_startEarly 10 = .ok (.getfield 33, 3) := by decide +kernel
theorem dX10_startEarly_13 : decode cX10_startEarly 13 = .ok (.iload_n 1, 1) := by decide +kernel
theorem dX10_startEarly_14 : decode cX10_startEarly 14 = .ok (.iaload, 1) := by decide +kernel
theorem dX10_startEarly_15 : decode cX10_startEarly 15 = .ok (.goto 25, 3) := by decide +kernel
theorem dX10_startEarly_40 : decode cX10_startEarly 40 = .ok (.ireturn, 1) := by decide +kernel
def wo_startEarly : List Cond := [.code yX10_startEarly cX10_startEarly 3 (some .int), .methodLink RX10 278 yX10_earlyOf, .instanceMethod yX10_earlyOf, .selects RX10 yX10_earlyOf yX10_earlyOf, .initialized RX10]
def wr_startEarly : List Cond := (wfX10 ++ (w_earlyOf ++ ([])))
def w_startEarly : List Cond := wo_startEarly ++ wr_startEarly
theorem wg_startEarly : GW w_startEarly := GW_app (GW_of (by decide +kernel)) (GW_app (wg_fX10) (GW_app (wg_earlyOf) (GW_nil)))
theorem in_startEarly : ∀ w ∈ wfX10, w ∈ w_startEarly := fun _ h => List.mem_append_right _ (List.mem_append_left _ h)
theorem g_startEarly_earlyOf_278 : GoodIn w_startEarly (wsV RX10 278 RX10 yX10_earlyOf w_earlyOf) := goodIn_app (gi_left (goodIn_of _ (by decide +kernel))) (fun w h => ⟨List.mem_append_right _ (List.mem_append_right _ (List.mem_append_left _ h)), wg_earlyOf w h⟩)
set_option maxHeartbeats 4000000 in
set_option maxRecDepth 100000 in
theorem ct_startEarly (l : Launch) (E : gE) (B : Nat → Nat) (Q : Int32 → VS → Prop) (p1 : Int32) (p2 : Int32) (σ : VS) (hw : wp_startEarly Q p1 p2 σ) : CtI l E yX10_startEarly w_startEarly (({ frames := 1, cells := 0, slots := 0, locals := 23 } : Room)) (wm E B σ) [.ref (B 0), .int p1, .int p2] (fun r w => ∃ σ' : VS, Q r σ' ∧ w = wm E B σ') := by
  refine VC_I (cc := cX10_startEarly) (mL := 3) (rt := (some .int)) (lv0 := [(0, .ref (B 0)), (1, .int p1), (2, .int p2)]) rfl (by decide) rfl (Nat.le_of_ble_eq_true rfl) ?_
  intro p e s m below meth c A F
  replace F : Fx p s m _ meth c A E cX10_startEarly 3 (some .int) RX10 w_startEarly := F
  have J_40 : ∀ (k0 : Int32) (σ : VS), b_startEarly_40 Q k0 σ → WB p l e (({ frames := 1, cells := 0, slots := 0, locals := 23 } : Room)) s m (#[.ref (B 0), .int p1, .int p2]) below meth c (MQ below (va_Qi (fun r w => ∃ σ' : VS, Q r σ' ∧ w = wm E B σ') (AftU E A) A) (#[.ref (B 0), .int p1, .int p2]) s (({ frames := 1, cells := 0, slots := 0, locals := 23 } : Room)).cells (({ frames := 1, cells := 0, slots := 0, locals := 23 } : Room)).slots A) A E (wm E B) 3 40 [] [.int k0] σ := by
    intro k0 σ hw
    unfold b_startEarly_40 at hw
    exact R_iret (Qc := Q) F rfl dX10_startEarly_40 hw
  unfold wp_startEarly at hw
  refine R_aload_n F dX10_startEarly_0 rfl 0 rfl ?_
  refine gm_2 F in_startEarly dX10_startEarly_1 ?_
  refine R_iload_n F dX10_startEarly_4 rfl 1 rfl ?_
  refine R_ldi F qm_2 dX10_startEarly_5 hw.1 ?_
  replace hw := hw.2
  refine R_if_ne (tgt := 18) F dX10_startEarly_6 (by decide) (fun hc => ?_) (fun hc => ?_)
  · replace hw := hw.1 hc
    refine R_aload_n F dX10_startEarly_18 rfl 0 rfl ?_
    refine R_aload_n F dX10_startEarly_19 rfl 0 rfl ?_
    refine gm_11 F in_startEarly dX10_startEarly_20 ?_
    refine R_iload_n F dX10_startEarly_23 rfl 1 rfl ?_
    refine R_ldi F qm_11 dX10_startEarly_24 hw.1 ?_
    replace hw := hw.2
    refine R_callI (As := [.int (rd σ 11 p1)]) (C := RX10) (q0 := 0) (ci := 10) (N := 69) (T := TX10) (fs := mfl B) F (ct_earlyOf l E B _ (rd σ 11 p1) _ hw) (cwV 1 F.2.2.2.2.2.2.2.2.2.2 g_startEarly_earlyOf_278 rfl rfl rfl (by decide +kernel) ⟨Nat.le_of_ble_eq_true rfl, Nat.le_of_ble_eq_true rfl⟩) ⟨rfl, rfl⟩ rfl (fun _ => rfl) rfl rfl (Nat.le_of_ble_eq_true rfl) dX10_startEarly_25 (fun r1 σ2 hw => ?_)
    refine R_aload_n F dX10_startEarly_28 rfl 0 rfl ?_
    refine gm_37 F in_startEarly dX10_startEarly_29 ?_
    refine R_bipush F 8 dX10_startEarly_32 (by decide) ?_
    refine R_iload_n F dX10_startEarly_34 rfl 1 rfl ?_
    refine R_imul F dX10_startEarly_35 ?_
    refine R_iload_n F dX10_startEarly_36 rfl 2 rfl ?_
    refine R_iadd F dX10_startEarly_37 ?_
    refine R_ldi F qm_37 dX10_startEarly_38 hw.1 ?_
    replace hw := hw.2
    refine R_iadd F dX10_startEarly_39 ?_
    exact R_sub [] rfl (J_40 (r1 + (rd σ2 37 ((8 * p1) + p2))) σ2 hw)
  · replace hw := hw.2 hc
    refine R_aload_n F dX10_startEarly_9 rfl 0 rfl ?_
    refine gm_8 F in_startEarly dX10_startEarly_10 ?_
    refine R_iload_n F dX10_startEarly_13 rfl 1 rfl ?_
    refine R_ldi F qm_8 dX10_startEarly_14 hw.1 ?_
    replace hw := hw.2
    refine R_goto (tgt := 40) F dX10_startEarly_15 (by decide) ?_
    exact R_sub [] rfl (J_40 (rd σ 8 p1) σ hw)
