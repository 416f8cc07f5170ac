def b_isGood_164 (X34 : Int32 → Int32 → Int32 → Int32 → VS → Prop) (X100 : Int32 → Int32 → Int32 → Int32 → Int32 → Int32 → VS → Prop) (Q : Int32 → VS → Prop) (l3 : Int32) (l4 : Int32) (l5 : Int32) (l6 : Int32) (σ : VS) : Prop := X34 l3 l4 l5 (l6 + 1) σ
def b_isGood_158 (X34 : Int32 → Int32 → Int32 → Int32 → VS → Prop) (X100 : Int32 → Int32 → Int32 → Int32 → Int32 → Int32 → VS → Prop) (Q : Int32 → VS → Prop) (l3 : Int32) (l4 : Int32) (l5 : Int32) (l6 : Int32) (l7 : Int32) (l8 : Int32) (σ : VS) : Prop := X100 l3 l4 l5 l6 l7 (l8 + 1) σ
def b_isGood_100 (X34 : Int32 → Int32 → Int32 → Int32 → VS → Prop) (X100 : Int32 → Int32 → Int32 → Int32 → Int32 → Int32 → VS → Prop) (Q : Int32 → VS → Prop) (l3 : Int32) (l4 : Int32) (l5 : Int32) (l6 : Int32) (l7 : Int32) (l8 : Int32) (σ : VS) : Prop := (In l6 50 ∧ (((rd σ 3 l6).toInt ≤ l8.toInt → b_isGood_164 X34 X100 Q l3 l4 l5 l6 σ) ∧ (l8.toInt < (rd σ 3 l6).toInt → (In ((4 * l6) + l8) 200 ∧ (((rd σ 7 ((4 * l6) + l8)).toInt ≠ l3.toInt → b_isGood_158 X34 X100 Q l3 l4 l5 l6 l7 l8 σ) ∧ ((rd σ 7 ((4 * l6) + l8)).toInt = l3.toInt → wp_metBy (fun (r7 : Int32) (σ8 : VS) => (In ((16 * ((2 * l6) + l7)) + (l5 ||| r7)) 1600 ∧ (((rd σ8 56 ((16 * ((2 * l6) + l7)) + (l5 ||| r7))).toInt = 0 → b_isGood_158 X34 X100 Q l3 l4 l5 l6 l7 l8 σ8) ∧ ((rd σ8 56 ((16 * ((2 * l6) + l7)) + (l5 ||| r7))).toInt ≠ 0 → Q 1 σ8)))) l6 σ))))))
def b_isGood_95 (X34 : Int32 → Int32 → Int32 → Int32 → VS → Prop) (X100 : Int32 → Int32 → Int32 → Int32 → Int32 → Int32 → VS → Prop) (Q : Int32 → VS → Prop) (l3 : Int32) (l4 : Int32) (l5 : Int32) (l6 : Int32) (k0 : Int32) (σ : VS) : Prop := X100 l3 l4 l5 l6 k0 0 σ
def b_isGood_34 (X34 : Int32 → Int32 → Int32 → Int32 → VS → Prop) (X100 : Int32 → Int32 → Int32 → Int32 → Int32 → Int32 → VS → Prop) (Q : Int32 → VS → Prop) (l3 : Int32) (l4 : Int32) (l5 : Int32) (l6 : Int32) (σ : VS) : Prop := (((σ.1 1).toInt ≤ l6.toInt → Q 0 σ) ∧ (l6.toInt < (σ.1 1).toInt → wp_isGate (fun (r5 : Int32) (σ6 : VS) => ((r5.toInt = 0 → b_isGood_164 X34 X100 Q l3 l4 l5 l6 σ6) ∧ (r5.toInt ≠ 0 → (In l6 50 ∧ (((rd σ6 34 l6).toInt = 0 → b_isGood_164 X34 X100 Q l3 l4 l5 l6 σ6) ∧ ((rd σ6 34 l6).toInt ≠ 0 → (In l6 50 ∧ (((rd σ6 35 l6).toInt = 0 → (In l6 50 ∧ (((rd σ6 2 l6).toInt ≠ 2 → b_isGood_95 X34 X100 Q l3 l4 l5 l6 l4 σ6) ∧ ((rd σ6 2 l6).toInt = 2 → b_isGood_95 X34 X100 Q l3 l4 l5 l6 (1 - l4) σ6)))) ∧ ((rd σ6 35 l6).toInt ≠ 0 → b_isGood_164 X34 X100 Q l3 l4 l5 l6 σ6))))))))) l6 σ))
def b_isGood_31 (X34 : Int32 → Int32 → Int32 → Int32 → VS → Prop) (X100 : Int32 → Int32 → Int32 → Int32 → Int32 → Int32 → VS → Prop) (Q : Int32 → VS → Prop) (l3 : Int32) (l4 : Int32) (l5 : Int32) (σ : VS) : Prop := X34 l3 l4 l5 0 σ
def wp_isGood (Q : Int32 → VS → Prop) (p1 : Int32) (p2 : Int32) (p3 : Int32) (p4 : Int32) (p5 : Int32) (σ : VS) : Prop := ∀ (X34 : Int32 → Int32 → Int32 → Int32 → VS → Prop) (X100 : Int32 → Int32 → Int32 → Int32 → Int32 → Int32 → VS → Prop), (∀ (l3 : Int32) (l4 : Int32) (l5 : Int32) (l6 : Int32) (σ : VS), b_isGood_34 X34 X100 Q l3 l4 l5 l6 σ → X34 l3 l4 l5 l6 σ) → (∀ (l3 : Int32) (l4 : Int32) (l5 : Int32) (l6 : Int32) (l7 : Int32) (l8 : Int32) (σ : VS), b_isGood_100 X34 X100 Q l3 l4 l5 l6 l7 l8 σ → X100 l3 l4 l5 l6 l7 l8 σ) → (In (4 * p2) 200 ∧ (((rd σ 7 (4 * p2)).toInt ≠ p3.toInt → b_isGood_31 X34 X100 Q p3 p4 p5 σ) ∧ ((rd σ 7 (4 * p2)).toInt = p3.toInt → wp_metBy (fun (r1 : Int32) (σ2 : VS) => wp_periodsOf (fun (r3 : Int32) (σ4 : VS) => ((r3.toInt ≤ 0 → b_isGood_31 X34 X100 Q p3 p4 p5 σ4) ∧ (0 < r3.toInt → Q 1 σ4))) p1 p2 (p5 ||| r1) σ2) p2 σ)))
theorem dX10_isGood_0 : decode cX10_isGood 0 = .ok (.aload_n 0, 1) := by decide +kernel
theorem dX10_isGood_1 : decode cX10_isGood 1 = .ok (.getfield 30, 3) := by decide +kernel
theorem dX10_isGood_4 : decode cX10_isGood 4 = .ok (.iconst 4, 1) := by decide +kernel
theorem dX10_isGood_5 : decode cX10_isGood 5 = .ok (.iload_n 2, 1) := by decide +kernel
theorem dX10_isGood_6 : decode cX10_isGood 6 = .ok (.imul, 1) := by decide +kernel
theorem dX10_isGood_7 : decode cX10_isGood 7 = .ok (.iaload, 1) := by decide +kernel
theorem dX10_isGood_8 : decode cX10_isGood 8 = .ok (.iload_n 3, 1) := by decide +kernel
theorem dX10_isGood_9 : decode cX10_isGood 9 = .ok (.if_icmp .ne 22, 3) := by decide +kernel
theorem dX10_isGood_12 : decode cX10_isGood 12 = .ok (.aload_n 0, 1) := by decide +kernel
theorem dX10_isGood_13 : decode cX10_isGood 13 = .ok (.iload_n 1, 1) := by decide +kernel
theorem dX10_isGood_14 : decode cX10_isGood 14 = .ok (.iload_n 2, 1) := by decide +kernel
theorem dX10_isGood_15 : decode cX10_isGood 15 = .ok (.iload 5, 2) := by decide +kernel
theorem dX10_isGood_17 : decode cX10_isGood 17 = .ok (.aload_n 0, 1) := by decide +kernel
theorem dX10_isGood_18 : decode cX10_isGood 18 = .ok (.iload_n 2, 1) := by decide +kernel
theorem dX10_isGood_19 : decode cX10_isGood 19 = .ok (.invokevirtual 295, 3) := by decide +kernel
theorem dX10_isGood_22 : decode cX10_isGood 22 = .ok (.ior, 1) := by decide +kernel
theorem dX10_isGood_23 : decode cX10_isGood 23 = .ok (.invokevirtual 312, 3) := by decide +kernel
theorem dX10_isGood_26 : decode cX10_isGood 26 = .ok (.ifCond .le 5, 3) := by decide +kernel
theorem dX10_isGood_29 : decode cX10_isGood 29 = .ok (.iconst 1, 1) := by decide +kernel
theorem dX10_isGood_30 : decode cX10_isGood 30 = .ok (.ireturn, 1) := by decide +kernel
theorem dX10_isGood_31 : decode cX10_isGood 31 = .ok (.iconst 0, 1) := by decide +kernel
theorem dX10_isGood_32 : decode cX10_isGood 32 = .ok (.istore 6, 2) := by decide +kernel
theorem dX10_isGood_34 : decode cX10_isGood 34 = .ok (.iload 6, 2) := by decide +kernel
theorem dX10_isGood_36 : decode cX10_isGood 36 = .ok (.aload_n 0, 1) := by decide +kernel
theorem dX10_isGood_37 : decode cX10_isGood 37 = .ok (.getfield 7, 3) := by decide +kernel
theorem dX10_isGood_40 : decode cX10_isGood 40 = .ok (.if_icmp .ge 130, 3) := by decide +kernel
theorem dX10_isGood_170 : decode cX10_isGood 170 = .ok (.iconst 0, 1) := by decide +kernel
theorem dX10_isGood_171 : decode cX10_isGood 171 = .ok (.ireturn, 1) := by decide +kernel
theorem dX10_isGood_43 : decode cX10_isGood 43 = .ok (.aload_n 0, 1) := by decide +kernel
theorem dX10_isGood_44 : decode cX10_isGood 44 = .ok (.iload 6, 2) := by decide +kernel
theorem dX10_isGood_46 : decode cX10_isGood 46 = .ok (.invokevirtual 55, 3) := by decide +kernel
theorem dX10_isGood_49 : decode cX10_isGood 49 = .ok (.ifCond .eq 115, 3) := by decide +kernel
theorem dX10_isGood_52 : decode cX10_isGood 52 = .ok (.aload_n 0, 1) := by decide +kernel
theorem dX10_isGood_53 : decode cX10_isGood 53 = .ok (.getfield 117, 3) := by decide +kernel
theorem dX10_isGood_56 : decode cX10_isGood 56 = .ok (.iload 6, 2) := by decide +kernel
theorem dX10_isGood_58 : decode cX10_isGood 58 = .ok (.baload, 1) := by decide +kernel
theorem dX10_isGood_59 : decode cX10_isGood 59 = .ok (.ifCond .eq 105, 3) := by decide +kernel
theorem dX10_isGood_62 : decode cX10_isGood 62 = .ok (.aload_n 0, 1) := by decide +kernel
theorem dX10_isGood_63 : decode cX10_isGood 63 = .ok (.getfield 120, 3) := by decide +kernel
theorem dX10_isGood_66 : decode cX10_isGood 66 = .ok (.iload 6, 2) := by decide +kernel
theorem dX10_isGood_68 : decode cX10_isGood 68 = .ok (.iaload, 1) := by decide +kernel
theorem dX10_isGood_69 : decode cX10_isGood 69 = .ok (.ifCond .eq 6, 3) := by decide +kernel
theorem dX10_isGood_75 : decode cX10_isGood 75 = .ok (.aload_n 0, 1) := by decide +kernel
theorem dX10_isGood_76 : decode cX10_isGood 76 = .ok (.getfield 18, 3) := by decide +kernel
theorem dX10_isGood_79 : decode cX10_isGood 79 = .ok (.iload 6, 2) := by decide +kernel
theorem dX10_isGood_81 : decode cX10_isGood 81 = .ok (.iaload, 1) := by decide +kernel
theorem dX10_isGood_82 : decode cX10_isGood 82 = .ok (.iconst 2, 1) := by decide +kernel
theorem dX10_isGood_83 : decode cX10_isGood 83 = .ok (.if_icmp .ne 10, 3) := by decide +kernel
theorem dX10_isGood_93 : decode cX10_isGood 93 = .ok (.iload 4, 2) := by decide +kernel
theorem dX10_isGood_86 : decode cX10_isGood 86 = .ok (.iconst 1, 1) := by decide +kernel
theorem dX10_isGood_87 : decode cX10_isGood 87 = .ok (.iload 4, 2) := by decide +kernel
theorem dX10_isGood_89 : decode cX10_isGood 89 = .ok (.isub, 1) := by decide +kernel
theorem dX10_isGood_90 : decode cX10_isGood 90 = .ok (.goto 5, 3) := by decide +kernel
theorem dX10_isGood_72 : decode cX10_isGood 72 = .ok (.goto 92, 3) := by decide +kernel
theorem dX10_isGood_164 : decode cX10_isGood 164 = .ok (.iinc 6 1, 3) := by decide +kernel
theorem dX10_isGood_167 : decode cX10_isGood 167 = .ok (.goto (-133), 3) := by decide +kernel
theorem dX10_isGood_95 : decode cX10_isGood 95 = .ok (.istore 7, 2) := by decide +kernel
theorem dX10_isGood_97 : decode cX10_isGood 97 = .ok (.iconst 0, 1) := by decide +kernel
theorem dX10_isGood_98 : decode cX10_isGood 98 = .ok (.istore 8, 2) := by decide +kernel
theorem dX10_isGood_100 : decode cX10_isGood 100 = .ok (.iload 8, 2) := by decide +kernel
theorem dX10_isGood_102 : decode cX10_isGood 102 = .ok (.aload_n 0, 1) := by decide +kernel
theorem dX10_isGood_103 : decode cX10_isGood 103 = .ok (.getfield 14, 3) := by decide +kernel
theorem dX10_isGood_106 : decode cX10_isGood 106 = .ok (.iload 6, 2) := by decide +kernel
theorem dX10_isGood_108 : decode cX10_isGood 108 = .ok (.iaload, 1) := by decide +kernel
theorem dX10_isGood_109 : decode cX10_isGood 109 = .ok (.if_icmp .ge 55, 3) := by decide +kernel
theorem dX10_isGood_112 : decode cX10_isGood 112 = .ok (.aload_n 0, 1) := by decide +kernel
theorem dX10_isGood_113 : decode cX10_isGood 113 = .ok (.getfield 30, 3) := by decide +kernel
theorem dX10_isGood_116 : decode cX10_isGood 116 = .ok (.iconst 4, 1) := by decide +kernel
theorem dX10_isGood_117 : decode cX10_isGood 117 = .ok (.iload 6, 2) := by decide +kernel
theorem dX10_isGood_119 : decode cX10_isGood 119 = .ok (.imul, 1) := by decide +kernel
theorem dX10_isGood_120 : decode cX10_isGood 120 = .ok (.iload 8, 2) := by decide +kernel
theorem dX10_isGood_122 : decode cX10_isGood 122 = .ok (.iadd, 1) := by decide +kernel
theorem dX10_isGood_123 : decode cX10_isGood 123 = .ok (.iaload, 1) := by decide +kernel
theorem dX10_isGood_124 : decode cX10_isGood 124 = .ok (.iload_n 3, 1) := by decide +kernel
theorem dX10_isGood_125 : decode cX10_isGood 125 = .ok (.if_icmp .ne 33, 3) := by decide +kernel
theorem dX10_isGood_128 : decode cX10_isGood 128 = .ok (.aload_n 0, 1) := by decide +kernel
theorem dX10_isGood_129 : decode cX10_isGood 129 = .ok (.getfield 181, 3) := by decide +kernel
theorem dX10_isGood_132 : decode cX10_isGood 132 = .ok (.bipush 16, 2) := by decide +kernel
theorem dX10_isGood_134 : decode cX10_isGood 134 = .ok (.iconst 2, 1) := by decide +kernel
theorem dX10_isGood_135 : decode cX10_isGood 135 = .ok (.iload 6, 2) := by decide +kernel
theorem dX10_isGood_137 : decode cX10_isGood 137 = .ok (.imul, 1) := by decide +kernel
theorem dX10_isGood_138 : decode cX10_isGood 138 = .ok (.iload 7, 2) := by decide +kernel
theorem dX10_isGood_140 : decode cX10_isGood 140 = .ok (.iadd, 1) := by decide +kernel
theorem dX10_isGood_141 : decode cX10_isGood 141 = .ok (.imul, 1) := by decide +kernel
theorem dX10_isGood_142 : decode cX10_isGood 142 = .ok (.iload 5, 2) := by decide +kernel
theorem dX10_isGood_144 : decode cX10_isGood 144 = .ok (.aload_n 0, 1) := by decide +kernel
theorem dX10_isGood_145 : decode cX10_isGood 145 = .ok (.iload 6, 2) := by decide +kernel
theorem dX10_isGood_147 : decode cX10_isGood 147 = .ok (.invokevirtual 295, 3) := by decide +kernel
theorem dX10_isGood_150 : decode cX10_isGood 150 = .ok (.ior, 1) := by decide +kernel
theorem dX10_isGood_151 : decode cX10_isGood 151 = .ok (.iadd, 1) := by decide +kernel
theorem dX10_isGood_152 : decode cX10_isGood 152 = .ok (.baload, 1) := by decide +kernel
theorem dX10_isGood_153 : decode cX10_isGood 153 = .ok (.ifCond .eq 5, 3) := by decide +kernel
theorem dX10_isGood_156 : decode cX10_isGood 156 = .ok (.iconst 1, 1) := by decide +kernel
theorem dX10_isGood_157 : decode cX10_isGood 157 = .ok (.ireturn, 1) := by decide +kernel
theorem dX10_isGood_158 : decode cX10_isGood 158 = .ok (.iinc 8 1, 3) := by decide +kernel
theorem dX10_isGood_161 : decode cX10_isGood 161 = .ok (.goto (-61), 3) := by decide +kernel
def wo_isGood : List Cond := [.code yX10_isGood cX10_isGood 9 (some .boolean), .methodLink RX10 295 yX10_metBy, .instanceMethod yX10_metBy, .selects RX10 yX10_metBy yX10_metBy, .initialized RX10, .methodLink RX10 312 yX10_periodsOf, .instanceMethod yX10_periodsOf, .selects RX10 yX10_periodsOf yX10_periodsOf, .methodLink RX10 55 yX10_isGate, .instanceMethod yX10_isGate, .selects RX10 yX10_isGate yX10_isGate]
def wr_isGood : List Cond := (wfX10 ++ (w_metBy ++ (w_periodsOf ++ (w_isGate ++ ([])))))
def w_isGood : List Cond := wo_isGood ++ wr_isGood
theorem wg_isGood : GW w_isGood := GW_app (GW_of (by decide +kernel)) (GW_app (wg_fX10) (GW_app (wg_metBy) (GW_app (wg_periodsOf) (GW_app (wg_isGate) (GW_nil)))))
theorem in_isGood : ∀ w ∈ wfX10, w ∈ w_isGood := fun _ h => List.mem_append_right _ (List.mem_append_left _ h)
theorem g_isGood_metBy_295 : GoodIn w_isGood (wsV RX10 295 RX10 yX10_metBy w_metBy) := goodIn_app (gi_left (goodIn_of _ (by decide +kernel))) (fun w h => ⟨List.mem_append_right _ (List.mem_append_right _ (List.mem_append_left _ h)), wg_metBy w h⟩)
theorem g_isGood_periodsOf_312 : GoodIn w_isGood (wsV RX10 312 RX10 yX10_periodsOf w_periodsOf) := goodIn_app (gi_left (goodIn_of _ (by decide +kernel))) (fun w h => ⟨List.mem_append_right _ (List.mem_append_right _ (List.mem_append_right _ (List.mem_append_left _ h))), wg_periodsOf w h⟩)
theorem g_isGood_isGate_55 : GoodIn w_isGood (wsV RX10 55 RX10 yX10_isGate w_isGate) := goodIn_app (gi_left (goodIn_of _ (by decide +kernel))) (fun w h => ⟨List.mem_append_right _ (List.mem_append_right _ (List.mem_append_right _ (List.mem_append_right _ (List.mem_append_left _ h)))), wg_isGate w h⟩)
set_option maxHeartbeats 4000000 in
set_option maxRecDepth 100000 in
theorem ct_isGood (l : Launch) (E : gE) (B : Nat → Nat) (Q : Int32 → VS → Prop) (p1 : Int32) (p2 : Int32) (p3 : Int32) (p4 : Int32) (p5 : Int32) (σ : VS) (hw : wp_isGood Q p1 p2 p3 p4 p5 σ) : CtI l E yX10_isGood w_isGood (({ frames := 1, cells := 0, slots := 0, locals := 26 } : Room)) (wm E B σ) [.ref (B 0), .int p1, .int p2, .int p3, .int p4, .int p5] (fun r w => ∃ σ' : VS, Q r σ' ∧ w = wm E B σ') := by
  refine VC_I (cc := cX10_isGood) (mL := 9) (rt := (some .boolean)) (lv0 := [(0, .ref (B 0)), (1, .int p1), (2, .int p2), (3, .int p3), (4, .int p4), (5, .int p5)]) rfl (by decide) rfl (Nat.le_of_ble_eq_true rfl) ?_
  intro p e s m below meth c A F
  replace F : Fx p s m _ meth c A E cX10_isGood 9 (some .boolean) RX10 w_isGood := F
  obtain ⟨X34, hX34⟩ : ∃ X : Int32 → Int32 → Int32 → Int32 → VS → Prop, X = fun l3 l4 l5 l6 σ => WB p l e (({ frames := 1, cells := 0, slots := 0, locals := 26 } : Room)) s m (#[.ref (B 0), .int p1, .int p2, .int p3, .int p4, .int p5]) below meth c (MQ below (va_Qi (fun r w => ∃ σ' : VS, Q r σ' ∧ w = wm E B σ') (AftU E A) A) (#[.ref (B 0), .int p1, .int p2, .int p3, .int p4, .int p5]) s (({ frames := 1, cells := 0, slots := 0, locals := 26 } : Room)).cells (({ frames := 1, cells := 0, slots := 0, locals := 26 } : Room)).slots A) A E (wm E B) 9 34 [(0, .ref (B 0)), (3, .int l3), (4, .int l4), (5, .int l5), (6, .int l6)] [] σ := ⟨_, rfl⟩
  have U_34 : ∀ (l3 : Int32) (l4 : Int32) (l5 : Int32) (l6 : Int32) (σ : VS), X34 l3 l4 l5 l6 σ → WB p l e (({ frames := 1, cells := 0, slots := 0, locals := 26 } : Room)) s m (#[.ref (B 0), .int p1, .int p2, .int p3, .int p4, .int p5]) below meth c (MQ below (va_Qi (fun r w => ∃ σ' : VS, Q r σ' ∧ w = wm E B σ') (AftU E A) A) (#[.ref (B 0), .int p1, .int p2, .int p3, .int p4, .int p5]) s (({ frames := 1, cells := 0, slots := 0, locals := 26 } : Room)).cells (({ frames := 1, cells := 0, slots := 0, locals := 26 } : Room)).slots A) A E (wm E B) 9 34 [(0, .ref (B 0)), (3, .int l3), (4, .int l4), (5, .int l5), (6, .int l6)] [] σ := by
    intro l3 l4 l5 l6 σ hw; rw [hX34] at hw; exact hw
  obtain ⟨X100, hX100⟩ : ∃ X : Int32 → Int32 → Int32 → Int32 → Int32 → Int32 → VS → Prop, X = fun l3 l4 l5 l6 l7 l8 σ => WB p l e (({ frames := 1, cells := 0, slots := 0, locals := 26 } : Room)) s m (#[.ref (B 0), .int p1, .int p2, .int p3, .int p4, .int p5]) below meth c (MQ below (va_Qi (fun r w => ∃ σ' : VS, Q r σ' ∧ w = wm E B σ') (AftU E A) A) (#[.ref (B 0), .int p1, .int p2, .int p3, .int p4, .int p5]) s (({ frames := 1, cells := 0, slots := 0, locals := 26 } : Room)).cells (({ frames := 1, cells := 0, slots := 0, locals := 26 } : Room)).slots A) A E (wm E B) 9 100 [(0, .ref (B 0)), (3, .int l3), (4, .int l4), (5, .int l5), (6, .int l6), (7, .int l7), (8, .int l8)] [] σ := ⟨_, rfl⟩
  have U_100 : ∀ (l3 : Int32) (l4 : Int32) (l5 : Int32) (l6 : Int32) (l7 : Int32) (l8 : Int32) (σ : VS), X100 l3 l4 l5 l6 l7 l8 σ → WB p l e (({ frames := 1, cells := 0, slots := 0, locals := 26 } : Room)) s m (#[.ref (B 0), .int p1, .int p2, .int p3, .int p4, .int p5]) below meth c (MQ below (va_Qi (fun r w => ∃ σ' : VS, Q r σ' ∧ w = wm E B σ') (AftU E A) A) (#[.ref (B 0), .int p1, .int p2, .int p3, .int p4, .int p5]) s (({ frames := 1, cells := 0, slots := 0, locals := 26 } : Room)).cells (({ frames := 1, cells := 0, slots := 0, locals := 26 } : Room)).slots A) A E (wm E B) 9 100 [(0, .ref (B 0)), (3, .int l3), (4, .int l4), (5, .int l5), (6, .int l6), (7, .int l7), (8, .int l8)] [] σ := by
    intro l3 l4 l5 l6 l7 l8 σ hw; rw [hX100] at hw; exact hw
  have J_164 : ∀ (l3 : Int32) (l4 : Int32) (l5 : Int32) (l6 : Int32) (σ : VS), b_isGood_164 X34 X100 Q l3 l4 l5 l6 σ → WB p l e (({ frames := 1, cells := 0, slots := 0, locals := 26 } : Room)) s m (#[.ref (B 0), .int p1, .int p2, .int p3, .int p4, .int p5]) below meth c (MQ below (va_Qi (fun r w => ∃ σ' : VS, Q r σ' ∧ w = wm E B σ') (AftU E A) A) (#[.ref (B 0), .int p1, .int p2, .int p3, .int p4, .int p5]) s (({ frames := 1, cells := 0, slots := 0, locals := 26 } : Room)).cells (({ frames := 1, cells := 0, slots := 0, locals := 26 } : Room)).slots A) A E (wm E B) 9 164 [(0, .ref (B 0)), (3, .int l3), (4, .int l4), (5, .int l5), (6, .int l6)] [] σ := by
    intro l3 l4 l5 l6 σ hw
    unfold b_isGood_164 at hw
    refine R_iinc (q := 4) (v := (l6 + 1)) (lv' := [(6, .int (l6 + 1)), (0, .ref (B 0)), (3, .int l3), (4, .int l4), (5, .int l5)]) F dX10_isGood_164 rfl rfl (by decide) rfl ?_
    refine R_goto (tgt := 34) F dX10_isGood_167 (by decide) ?_
    exact R_sub [1, 2, 3, 4, 0] rfl (U_34 l3 l4 l5 (l6 + 1) σ hw)
  have J_158 : ∀ (l3 : Int32) (l4 : Int32) (l5 : Int32) (l6 : Int32) (l7 : Int32) (l8 : Int32) (σ : VS), b_isGood_158 X34 X100 Q l3 l4 l5 l6 l7 l8 σ → WB p l e (({ frames := 1, cells := 0, slots := 0, locals := 26 } : Room)) s m (#[.ref (B 0), .int p1, .int p2, .int p3, .int p4, .int p5]) below meth c (MQ below (va_Qi (fun r w => ∃ σ' : VS, Q r σ' ∧ w = wm E B σ') (AftU E A) A) (#[.ref (B 0), .int p1, .int p2, .int p3, .int p4, .int p5]) s (({ frames := 1, cells := 0, slots := 0, locals := 26 } : Room)).cells (({ frames := 1, cells := 0, slots := 0, locals := 26 } : Room)).slots A) A E (wm E B) 9 158 [(0, .ref (B 0)), (3, .int l3), (4, .int l4), (5, .int l5), (6, .int l6), (7, .int l7), (8, .int l8)] [] σ := by
    intro l3 l4 l5 l6 l7 l8 σ hw
    unfold b_isGood_158 at hw
    refine R_iinc (q := 6) (v := (l8 + 1)) (lv' := [(8, .int (l8 + 1)), (0, .ref (B 0)), (3, .int l3), (4, .int l4), (5, .int l5), (6, .int l6), (7, .int l7)]) F dX10_isGood_158 rfl rfl (by decide) rfl ?_
    refine R_goto (tgt := 100) F dX10_isGood_161 (by decide) ?_
    exact R_sub [1, 2, 3, 4, 5, 6, 0] rfl (U_100 l3 l4 l5 l6 l7 (l8 + 1) σ hw)
  have J_95 : ∀ (l3 : Int32) (l4 : Int32) (l5 : Int32) (l6 : Int32) (k0 : Int32) (σ : VS), b_isGood_95 X34 X100 Q l3 l4 l5 l6 k0 σ → WB p l e (({ frames := 1, cells := 0, slots := 0, locals := 26 } : Room)) s m (#[.ref (B 0), .int p1, .int p2, .int p3, .int p4, .int p5]) below meth c (MQ below (va_Qi (fun r w => ∃ σ' : VS, Q r σ' ∧ w = wm E B σ') (AftU E A) A) (#[.ref (B 0), .int p1, .int p2, .int p3, .int p4, .int p5]) s (({ frames := 1, cells := 0, slots := 0, locals := 26 } : Room)).cells (({ frames := 1, cells := 0, slots := 0, locals := 26 } : Room)).slots A) A E (wm E B) 9 95 [(0, .ref (B 0)), (3, .int l3), (4, .int l4), (5, .int l5), (6, .int l6)] [.int k0] σ := by
    intro l3 l4 l5 l6 k0 σ hw
    unfold b_isGood_95 at hw
    refine R_istore (lv' := [(7, .int k0), (0, .ref (B 0)), (3, .int l3), (4, .int l4), (5, .int l5), (6, .int l6)]) F dX10_isGood_95 (by decide) rfl ?_
    refine R_iconst F 0 dX10_isGood_97 (by decide) ?_
    refine R_istore (lv' := [(8, .int 0), (7, .int k0), (0, .ref (B 0)), (3, .int l3), (4, .int l4), (5, .int l5), (6, .int l6)]) F dX10_isGood_98 (by decide) rfl ?_
    exact R_sub [2, 3, 4, 5, 6, 1, 0] rfl (U_100 l3 l4 l5 l6 k0 0 σ hw)
  have J_31 : ∀ (l3 : Int32) (l4 : Int32) (l5 : Int32) (σ : VS), b_isGood_31 X34 X100 Q l3 l4 l5 σ → WB p l e (({ frames := 1, cells := 0, slots := 0, locals := 26 } : Room)) s m (#[.ref (B 0), .int p1, .int p2, .int p3, .int p4, .int p5]) below meth c (MQ below (va_Qi (fun r w => ∃ σ' : VS, Q r σ' ∧ w = wm E B σ') (AftU E A) A) (#[.ref (B 0), .int p1, .int p2, .int p3, .int p4, .int p5]) s (({ frames := 1, cells := 0, slots := 0, locals := 26 } : Room)).cells (({ frames := 1, cells := 0, slots := 0, locals := 26 } : Room)).slots A) A E (wm E B) 9 31 [(0, .ref (B 0)), (3, .int l3), (4, .int l4), (5, .int l5)] [] σ := by
    intro l3 l4 l5 σ hw
    unfold b_isGood_31 at hw
    refine R_iconst F 0 dX10_isGood_31 (by decide) ?_
    refine R_istore (lv' := [(6, .int 0), (0, .ref (B 0)), (3, .int l3), (4, .int l4), (5, .int l5)]) F dX10_isGood_32 (by decide) rfl ?_
    exact R_sub [1, 2, 3, 4, 0] rfl (U_34 l3 l4 l5 0 σ hw)
  have C_34 : ∀ (l3 : Int32) (l4 : Int32) (l5 : Int32) (l6 : Int32) (σ : VS), b_isGood_34 X34 X100 Q l3 l4 l5 l6 σ → X34 l3 l4 l5 l6 σ := by
    intro l3 l4 l5 l6 σ hw
    unfold b_isGood_34 at hw
    rw [hX34]
    show WB p l e (({ frames := 1, cells := 0, slots := 0, locals := 26 } : Room)) s m (#[.ref (B 0), .int p1, .int p2, .int p3, .int p4, .int p5]) below meth c (MQ below (va_Qi (fun r w => ∃ σ' : VS, Q r σ' ∧ w = wm E B σ') (AftU E A) A) (#[.ref (B 0), .int p1, .int p2, .int p3, .int p4, .int p5]) s (({ frames := 1, cells := 0, slots := 0, locals := 26 } : Room)).cells (({ frames := 1, cells := 0, slots := 0, locals := 26 } : Room)).slots A) A E (wm E B) 9 34 [(0, .ref (B 0)), (3, .int l3), (4, .int l4), (5, .int l5), (6, .int l6)] [] σ
    refine R_iload F dX10_isGood_34 4 rfl ?_
    refine R_aload_n F dX10_isGood_36 rfl 0 rfl ?_
    refine gm_1 F in_isGood dX10_isGood_37 ?_
    refine R_icmp_ge (tgt := 170) F dX10_isGood_40 (by decide) (fun hc => ?_) (fun hc => ?_)
    · replace hw := hw.1 hc
      refine R_iconst F 0 dX10_isGood_170 (by decide) ?_
      exact R_iret (Qc := Q) F rfl dX10_isGood_171 hw
    · replace hw := hw.2 hc
      refine R_aload_n F dX10_isGood_43 rfl 0 rfl ?_
      refine R_iload F dX10_isGood_44 4 rfl ?_
      refine R_callI (As := [.int l6]) (C := RX10) (q0 := 0) (ci := 10) (N := 69) (T := TX10) (fs := mfl B) F (ct_isGate l E B _ l6 _ hw) (cwV 1 F.2.2.2.2.2.2.2.2.2.2 g_isGood_isGate_55 rfl rfl rfl (by decide +kernel) ⟨Nat.le_of_ble_eq_true rfl, Nat.le_of_ble_eq_true rfl⟩) ⟨rfl, rfl⟩ rfl (fun _ => rfl) rfl rfl (Nat.le_of_ble_eq_true rfl) dX10_isGood_46 (fun r5 σ6 hw => ?_)
      refine R_if_eq (tgt := 164) F dX10_isGood_49 (by decide) (fun hc => ?_) (fun hc => ?_)
      · replace hw := hw.1 hc
        exact R_sub [0, 1, 2, 3, 4] rfl (J_164 l3 l4 l5 l6 σ6 hw)
      · replace hw := hw.2 hc
        refine R_aload_n F dX10_isGood_52 rfl 0 rfl ?_
        refine gm_34 F in_isGood dX10_isGood_53 ?_
        refine R_iload F dX10_isGood_56 4 rfl ?_
        refine R_ldz F qm_34 dX10_isGood_58 hw.1 ?_
        replace hw := hw.2
        refine R_if_eq (tgt := 164) F dX10_isGood_59 (by decide) (fun hc => ?_) (fun hc => ?_)
        · replace hw := hw.1 hc
          exact R_sub [0, 1, 2, 3, 4] rfl (J_164 l3 l4 l5 l6 σ6 hw)
        · replace hw := hw.2 hc
          refine R_aload_n F dX10_isGood_62 rfl 0 rfl ?_
          refine gm_35 F in_isGood dX10_isGood_63 ?_
          refine R_iload F dX10_isGood_66 4 rfl ?_
          refine R_ldi F qm_35 dX10_isGood_68 hw.1 ?_
          replace hw := hw.2
          refine R_if_eq (tgt := 75) F dX10_isGood_69 (by decide) (fun hc => ?_) (fun hc => ?_)
          · replace hw := hw.1 hc
            refine R_aload_n F dX10_isGood_75 rfl 0 rfl ?_
            refine gm_2 F in_isGood dX10_isGood_76 ?_
            refine R_iload F dX10_isGood_79 4 rfl ?_
            refine R_ldi F qm_2 dX10_isGood_81 hw.1 ?_
            replace hw := hw.2
            refine R_iconst F 2 dX10_isGood_82 (by decide) ?_
            refine R_icmp_ne (tgt := 93) F dX10_isGood_83 (by decide) (fun hc => ?_) (fun hc => ?_)
            · replace hw := hw.1 hc
              refine R_iload F dX10_isGood_93 2 rfl ?_
              exact R_sub [0, 1, 2, 3, 4] rfl (J_95 l3 l4 l5 l6 l4 σ6 hw)
            · replace hw := hw.2 hc
              refine R_iconst F 1 dX10_isGood_86 (by decide) ?_
              refine R_iload F dX10_isGood_87 2 rfl ?_
              refine R_isub F dX10_isGood_89 ?_
              refine R_goto (tgt := 95) F dX10_isGood_90 (by decide) ?_
              exact R_sub [0, 1, 2, 3, 4] rfl (J_95 l3 l4 l5 l6 (1 - l4) σ6 hw)
          · replace hw := hw.2 hc
            refine R_goto (tgt := 164) F dX10_isGood_72 (by decide) ?_
            exact R_sub [0, 1, 2, 3, 4] rfl (J_164 l3 l4 l5 l6 σ6 hw)
  have C_100 : ∀ (l3 : Int32) (l4 : Int32) (l5 : Int32) (l6 : Int32) (l7 : Int32) (l8 : Int32) (σ : VS), b_isGood_100 X34 X100 Q l3 l4 l5 l6 l7 l8 σ → X100 l3 l4 l5 l6 l7 l8 σ := by
    intro l3 l4 l5 l6 l7 l8 σ hw
    unfold b_isGood_100 at hw
    rw [hX100]
    show WB p l e (({ frames := 1, cells := 0, slots := 0, locals := 26 } : Room)) s m (#[.ref (B 0), .int p1, .int p2, .int p3, .int p4, .int p5]) below meth c (MQ below (va_Qi (fun r w => ∃ σ' : VS, Q r σ' ∧ w = wm E B σ') (AftU E A) A) (#[.ref (B 0), .int p1, .int p2, .int p3, .int p4, .int p5]) s (({ frames := 1, cells := 0, slots := 0, locals := 26 } : Room)).cells (({ frames := 1, cells := 0, slots := 0, locals := 26 } : Room)).slots A) A E (wm E B) 9 100 [(0, .ref (B 0)), (3, .int l3), (4, .int l4), (5, .int l5), (6, .int l6), (7, .int l7), (8, .int l8)] [] σ
    refine R_iload F dX10_isGood_100 6 rfl ?_
    refine R_aload_n F dX10_isGood_102 rfl 0 rfl ?_
    refine gm_3 F in_isGood dX10_isGood_103 ?_
    refine R_iload F dX10_isGood_106 4 rfl ?_
    refine R_ldi F qm_3 dX10_isGood_108 hw.1 ?_
    replace hw := hw.2
    refine R_icmp_ge (tgt := 164) F dX10_isGood_109 (by decide) (fun hc => ?_) (fun hc => ?_)
    · replace hw := hw.1 hc
      exact R_sub [0, 1, 2, 3, 4] rfl (J_164 l3 l4 l5 l6 σ hw)
    · replace hw := hw.2 hc
      refine R_aload_n F dX10_isGood_112 rfl 0 rfl ?_
      refine gm_7 F in_isGood dX10_isGood_113 ?_
      refine R_iconst F 4 dX10_isGood_116 (by decide) ?_
      refine R_iload F dX10_isGood_117 4 rfl ?_
      refine R_imul F dX10_isGood_119 ?_
      refine R_iload F dX10_isGood_120 6 rfl ?_
      refine R_iadd F dX10_isGood_122 ?_
      refine R_ldi F qm_7 dX10_isGood_123 hw.1 ?_
      replace hw := hw.2
      refine R_iload_n F dX10_isGood_124 rfl 1 rfl ?_
      refine R_icmp_ne (tgt := 158) F dX10_isGood_125 (by decide) (fun hc => ?_) (fun hc => ?_)
      · replace hw := hw.1 hc
        exact R_sub [0, 1, 2, 3, 4, 5, 6] rfl (J_158 l3 l4 l5 l6 l7 l8 σ hw)
      · replace hw := hw.2 hc
        refine R_aload_n F dX10_isGood_128 rfl 0 rfl ?_
        refine gm_56 F in_isGood dX10_isGood_129 ?_
        refine R_bipush F 16 dX10_isGood_132 (by decide) ?_
        refine R_iconst F 2 dX10_isGood_134 (by decide) ?_
        refine R_iload F dX10_isGood_135 4 rfl ?_
        refine R_imul F dX10_isGood_137 ?_
        refine R_iload F dX10_isGood_138 5 rfl ?_
        refine R_iadd F dX10_isGood_140 ?_
        refine R_imul F dX10_isGood_141 ?_
        refine R_iload F dX10_isGood_142 3 rfl ?_
        refine R_aload_n F dX10_isGood_144 rfl 0 rfl ?_
        refine R_iload F dX10_isGood_145 4 rfl ?_
        refine R_callI (As := [.int l6]) (C := RX10) (q0 := 0) (ci := 10) (N := 69) (T := TX10) (fs := mfl B) F (ct_metBy l E B _ l6 _ hw) (cwV 1 F.2.2.2.2.2.2.2.2.2.2 g_isGood_metBy_295 rfl rfl rfl (by decide +kernel) ⟨Nat.le_of_ble_eq_true rfl, Nat.le_of_ble_eq_true rfl⟩) ⟨rfl, rfl⟩ rfl (fun _ => rfl) rfl rfl (Nat.le_of_ble_eq_true rfl) dX10_isGood_147 (fun r7 σ8 hw => ?_)
        refine R_ior F dX10_isGood_150 ?_
        refine R_iadd F dX10_isGood_151 ?_
        refine R_ldz F qm_56 dX10_isGood_152 hw.1 ?_
        replace hw := hw.2
        refine R_if_eq (tgt := 158) F dX10_isGood_153 (by decide) (fun hc => ?_) (fun hc => ?_)
        · replace hw := hw.1 hc
          exact R_sub [0, 1, 2, 3, 4, 5, 6] rfl (J_158 l3 l4 l5 l6 l7 l8 σ8 hw)
        · replace hw := hw.2 hc
          refine R_iconst F 1 dX10_isGood_156 (by decide) ?_
          exact R_iret (Qc := Q) F rfl dX10_isGood_157 hw
  unfold wp_isGood at hw
  replace hw := hw X34 X100 C_34 C_100
  refine R_aload_n F dX10_isGood_0 rfl 0 rfl ?_
  refine gm_7 F in_isGood dX10_isGood_1 ?_
  refine R_iconst F 4 dX10_isGood_4 (by decide) ?_
  refine R_iload_n F dX10_isGood_5 rfl 2 rfl ?_
  refine R_imul F dX10_isGood_6 ?_
  refine R_ldi F qm_7 dX10_isGood_7 hw.1 ?_
  replace hw := hw.2
  refine R_iload_n F dX10_isGood_8 rfl 3 rfl ?_
  refine R_icmp_ne (tgt := 31) F dX10_isGood_9 (by decide) (fun hc => ?_) (fun hc => ?_)
  · replace hw := hw.1 hc
    exact R_sub [0, 3, 4, 5] rfl (J_31 p3 p4 p5 σ hw)
  · replace hw := hw.2 hc
    refine R_aload_n F dX10_isGood_12 rfl 0 rfl ?_
    refine R_iload_n F dX10_isGood_13 rfl 1 rfl ?_
    refine R_iload_n F dX10_isGood_14 rfl 2 rfl ?_
    refine R_iload F dX10_isGood_15 5 rfl ?_
    refine R_aload_n F dX10_isGood_17 rfl 0 rfl ?_
    refine R_iload_n F dX10_isGood_18 rfl 2 rfl ?_
    refine R_callI (As := [.int p2]) (C := RX10) (q0 := 0) (ci := 10) (N := 69) (T := TX10) (fs := mfl B) F (ct_metBy l E B _ p2 _ hw) (cwV 1 F.2.2.2.2.2.2.2.2.2.2 g_isGood_metBy_295 rfl rfl rfl (by decide +kernel) ⟨Nat.le_of_ble_eq_true rfl, Nat.le_of_ble_eq_true rfl⟩) ⟨rfl, rfl⟩ rfl (fun _ => rfl) rfl rfl (Nat.le_of_ble_eq_true rfl) dX10_isGood_19 (fun r1 σ2 hw => ?_)
    refine R_ior F dX10_isGood_22 ?_
    refine R_callI (As := [.int p1, .int p2, .int (p5 ||| r1)]) (C := RX10) (q0 := 0) (ci := 10) (N := 69) (T := TX10) (fs := mfl B) F (ct_periodsOf l E B _ p1 p2 (p5 ||| r1) _ hw) (cwV 3 F.2.2.2.2.2.2.2.2.2.2 g_isGood_periodsOf_312 rfl rfl rfl (by decide +kernel) ⟨Nat.le_of_ble_eq_true rfl, Nat.le_of_ble_eq_true rfl⟩) ⟨rfl, rfl⟩ rfl (fun _ => rfl) rfl rfl (Nat.le_of_ble_eq_true rfl) dX10_isGood_23 (fun r3 σ4 hw => ?_)
    refine R_if_le (tgt := 31) F dX10_isGood_26 (by decide) (fun hc => ?_) (fun hc => ?_)
    · replace hw := hw.1 hc
      exact R_sub [0, 3, 4, 5] rfl (J_31 p3 p4 p5 σ4 hw)
    · replace hw := hw.2 hc
      refine R_iconst F 1 dX10_isGood_29 (by decide) ?_
      exact R_iret (Qc := Q) F rfl dX10_isGood_30 hw
def b_markGood_140 (X2 : Int32 → Int32 → Int32 → VS → Prop) (X33 : Int32 → Int32 → Int32 → VS → Prop) (X82 : Int32 → Int32 → Int32 → Int32 → Int32 → VS → Prop) (X91 : Int32 → Int32 → Int32 → Int32 → Int32 → Int32 → VS → Prop) (Q : VS → Prop) (l1 : Int32) (l2 : Int32) (l3 : Int32) (σ : VS) : Prop := X33 l1 l2 (l3 + (-1)) σ
def b_markGood_91 (X2 : Int32 → Int32 → Int32 → VS → Prop) (X33 : Int32 → Int32 → Int32 → VS → Prop) (X82 : Int32 → Int32 → Int32 → Int32 → Int32 → VS → Prop) (X91 : Int32 → Int32 → Int32 → Int32 → Int32 → Int32 → VS → Prop) (Q : VS → Prop) (l1 : Int32) (l2 : Int32) (l3 : Int32) (l4 : Int32) (l5 : Int32) (l6 : Int32) (σ : VS) : Prop := ((16 ≤ l6.toInt → X82 l1 l2 l3 l4 (l5 + 1) σ) ∧ (l6.toInt < 16 → wp_isGood (fun (r3 : Int32) (σ4 : VS) => (In ((16 * ((2 * l4) + l5)) + l6) 1600 ∧ (Bo r3 ∧ X91 l1 l2 l3 l4 l5 (l6 + 1) (sa σ4 56 ((16 * ((2 * l4) + l5)) + l6) r3)))) l1 l2 l4 l5 l6 σ))
def b_markGood_82 (X2 : Int32 → Int32 → Int32 → VS → Prop) (X33 : Int32 → Int32 → Int32 → VS → Prop) (X82 : Int32 → Int32 → Int32 → Int32 → Int32 → VS → Prop) (X91 : Int32 → Int32 → Int32 → Int32 → Int32 → Int32 → VS → Prop) (Q : VS → Prop) (l1 : Int32) (l2 : Int32) (l3 : Int32) (l4 : Int32) (l5 : Int32) (σ : VS) : Prop := ((2 ≤ l5.toInt → b_markGood_140 X2 X33 X82 X91 Q l1 l2 l3 σ) ∧ (l5.toInt < 2 → X91 l1 l2 l3 l4 l5 0 σ))
def b_markGood_33 (X2 : Int32 → Int32 → Int32 → VS → Prop) (X33 : Int32 → Int32 → Int32 → VS → Prop) (X82 : Int32 → Int32 → Int32 → Int32 → Int32 → VS → Prop) (X91 : Int32 → Int32 → Int32 → Int32 → Int32 → Int32 → VS → Prop) (Q : VS → Prop) (l1 : Int32) (l2 : Int32) (l3 : Int32) (σ : VS) : Prop := ((l3.toInt < 0 → Q σ) ∧ (0 ≤ l3.toInt → (In l3 50 ∧ (∀ x2 : Int32, x2 = (rd σ 31 l3) → (In x2 50 ∧ (((rd σ 2 x2).toInt = 5 → b_markGood_140 X2 X33 X82 X91 Q l1 l2 l3 σ) ∧ ((rd σ 2 x2).toInt ≠ 5 → (In x2 50 ∧ (((rd σ 34 x2).toInt = 0 → b_markGood_140 X2 X33 X82 X91 Q l1 l2 l3 σ) ∧ ((rd σ 34 x2).toInt ≠ 0 → (In x2 50 ∧ (((rd σ 35 x2).toInt = 0 → X82 l1 l2 l3 x2 0 σ) ∧ ((rd σ 35 x2).toInt ≠ 0 → b_markGood_140 X2 X33 X82 X91 Q l1 l2 l3 σ)))))))))))))
def b_markGood_2 (X2 : Int32 → Int32 → Int32 → VS → Prop) (X33 : Int32 → Int32 → Int32 → VS → Prop) (X82 : Int32 → Int32 → Int32 → Int32 → Int32 → VS → Prop) (X91 : Int32 → Int32 → Int32 → Int32 → Int32 → Int32 → VS → Prop) (Q : VS → Prop) (l1 : Int32) (l2 : Int32) (l3 : Int32) (σ : VS) : Prop := (((32 * (σ.1 1)).toInt ≤ l3.toInt → (∀ x1 : Int32, x1 = ((σ.1 32) - 1) → X33 l1 l2 x1 σ)) ∧ (l3.toInt < (32 * (σ.1 1)).toInt → (In l3 1600 ∧ X2 l1 l2 (l3 + 1) (sa σ 56 l3 0))))
def wp_markGood (Q : VS → Prop) (p1 : Int32) (p2 : Int32) (σ : VS) : Prop := ∀ (X2 : Int32 → Int32 → Int32 → VS → Prop) (X33 : Int32 → Int32 → Int32 → VS → Prop) (X82 : Int32 → Int32 → Int32 → Int32 → Int32 → VS → Prop) (X91 : Int32 → Int32 → Int32 → Int32 → Int32 → Int32 → VS → Prop), (∀ (l1 : Int32) (l2 : Int32) (l3 : Int32) (σ : VS), b_markGood_2 X2 X33 X82 X91 Q l1 l2 l3 σ → X2 l1 l2 l3 σ) → (∀ (l1 : Int32) (l2 : Int32) (l3 : Int32) (σ : VS), b_markGood_33 X2 X33 X82 X91 Q l1 l2 l3 σ → X33 l1 l2 l3 σ) → (∀ (l1 : Int32) (l2 : Int32) (l3 : Int32) (l4 : Int32) (l5 : Int32) (σ : VS), b_markGood_82 X2 X33 X82 X91 Q l1 l2 l3 l4 l5 σ → X82 l1 l2 l3 l4 l5 σ) → (∀ (l1 : Int32) (l2 : Int32) (l3 : Int32) (l4 : Int32) (l5 : Int32) (l6 : Int32) (σ : VS), b_markGood_91 X2 X33 X82 X91 Q l1 l2 l3 l4 l5 l6 σ → X91 l1 l2 l3 l4 l5 l6 σ) → X2 p1 p2 0 σ
theorem dX10_markGood_0 : decode cX10_markGood 0 = .ok (.iconst 0, 1) := by decide +kernel
theorem dX10_markGood_1 : decode cX10_markGood 1 = .ok (.istore_n 3, 1) := by decide +kernel
theorem dX10_markGood_2 : decode cX10_markGood 2 = .ok (.iload_n 3, 1) := by decide +kernel
theorem dX10_markGood_3 : decode cX10_markGood 3 = .ok (.bipush 32, 2) := by decide +kernel
theorem dX10_markGood_5 : decode cX10_markGood 5 = .ok (.aload_n 0, 1) := by decide +kernel
theorem dX10_markGood_6 : decode cX10_markGood 6 = .ok (.getfield 7, 3) := by decide +kernel
theorem dX10_markGood_9 : decode cX10_markGood 9 = .ok (.imul, 1) := by decide +kernel
theorem dX10_markGood_10 : decode cX10_markGood 10 = .ok (.if_icmp .ge 16, 3) := by decide +kernel
theorem dX10_markGood_26 : decode cX10_markGood 26 = .ok (.aload_n 0, 1) := by decide +kernel
theorem dX10_markGood_27 : decode cX10_markGood 27 = .ok (.getfield 239, 3) := by decide +kernel
theorem dX10_markGood_30 : decode cX10_markGood 30 = .ok (.iconst 1, 1) := by decide +kernel
theorem dX10_markGood_31 : decode cX10_markGood 31 = .ok (.isub, 1) := by decide +kernel
theorem dX10_markGood_32 : decode cX10_markGood 32 = .ok (.istore_n 3, 1) := by decide +kernel
theorem dX10_markGood_13 : decode cX10_markGood 13 = .ok (.aload_n 0, 1) := by decide +kernel
theorem dX10_markGood_14 : decode cX10_markGood 14 = .ok (.getfield 181, 3) := by decide +kernel
theorem dX10_markGood_17 : decode cX10_markGood 17 = .ok (.iload_n 3, 1) := by decide +kernel
theorem dX10_markGood_18 : decode cX10_markGood 18 = .ok (.iconst 0, 1) := by decide +kernel
theorem dX10_markGood_19 : decode cX10_markGood 19 = .ok (.bastore, 1) := by decide +kernel
theorem dX10_markGood_20 : decode cX10_markGood 20 = .ok (.iinc 3 1, 3) := by decide +kernel
theorem dX10_markGood_23 : decode cX10_markGood 23 = .ok (.goto (-21), 3) := by decide +kernel
theorem dX10_markGood_33 : decode cX10_markGood 33 = .ok (.iload_n 3, 1) := by decide +kernel
theorem dX10_markGood_34 : decode cX10_markGood 34 = .ok (.ifCond .lt 112, 3) := by decide +kernel
theorem dX10_markGood_146 : decode cX10_markGood 146 = .ok (.return_, 1) := by decide +kernel
theorem dX10_markGood_37 : decode cX10_markGood 37 = .ok (.aload_n 0, 1) := by decide +kernel
theorem dX10_markGood_38 : decode cX10_markGood 38 = .ok (.getfield 111, 3) := by decide +kernel
theorem dX10_markGood_41 : decode cX10_markGood 41 = .ok (.iload_n 3, 1) := by decide +kernel
theorem dX10_markGood_42 : decode cX10_markGood 42 = .ok (.iaload, 1) := by decide +kernel
theorem dX10_markGood_43 : decode cX10_markGood 43 = .ok (.istore 4, 2) := by decide +kernel
theorem dX10_markGood_45 : decode cX10_markGood 45 = .ok (.aload_n 0, 1) := by decide +kernel
theorem dX10_markGood_46 : decode cX10_markGood 46 = .ok (.getfield 18, 3) := by decide +kernel
theorem dX10_markGood_49 : decode cX10_markGood 49 = .ok (.iload 4, 2) := by decide +kernel
theorem dX10_markGood_51 : decode cX10_markGood 51 = .ok (.iaload, 1) := by decide +kernel
theorem dX10_markGood_52 : decode cX10_markGood 52 = .ok (.iconst 5, 1) := by decide +kernel
theorem dX10_markGood_53 : decode cX10_markGood 53 = .ok (.if_icmp .eq 87, 3) := by decide +kernel
theorem dX10_markGood_56 : decode cX10_markGood 56 = .ok (.aload_n 0, 1) := by decide +kernel
theorem dX10_markGood_57 : decode cX10_markGood 57 = .ok (.getfield 117, 3) := by decide +kernel
theorem dX10_markGood_60 : decode cX10_markGood 60 = .ok (.iload 4, 2) := by decide +kernel
theorem dX10_markGood_62 : decode cX10_markGood 62 = .ok (.baload, 1) := by decide +kernel
theorem dX10_markGood_63 : decode cX10_markGood 63 = .ok (.ifCond .eq 77, 3) := by decide +kernel
theorem dX10_markGood_66 : decode cX10_markGood 66 = .ok (.aload_n 0, 1) := by decide +kernel
theorem dX10_markGood_67 : decode cX10_markGood 67 = .ok (.getfield 120, 3) := by decide +kernel
theorem dX10_markGood_70 : decode cX10_markGood 70 = .ok (.iload 4, 2) := by decide +kernel
theorem dX10_markGood_72 : decode cX10_markGood 72 = .ok (.iaload, 1) := by decide +kernel
theorem dX10_markGood_73 : decode cX10_markGood 73 = .ok (.ifCond .eq 6, 3) := by decide +kernel
theorem dX10_markGood_79 : decode cX10_markGood 79 = .ok (.iconst 0, 1) := by decide +kernel
theorem dX10_markGood_80 : decode cX10_markGood 80 = .ok (.istore 5, 2) := by decide +kernel
theorem dX10_markGood_76 : decode cX10_markGood 76 = .ok (.goto 64, 3) := by decide +kernel
theorem dX10_markGood_140 : decode cX10_markGood 140 = .ok (.iinc 3 (-1), 3) := by decide +kernel
theorem dX10_markGood_143 : decode cX10_markGood 143 = .ok (.goto (-110), 3) := by decide +kernel
theorem dX10_markGood_82 : decode cX10_markGood 82 = .ok (.iload 5, 2) := by decide +kernel
theorem dX10_markGood_84 : decode cX10_markGood 84 = .ok (.iconst 2, 1) := by decide +kernel
theorem dX10_markGood_85 : decode cX10_markGood 85 = .ok (.if_icmp .ge 55, 3) := by decide +kernel
theorem dX10_markGood_88 : decode cX10_markGood 88 = .ok (.iconst 0, 1) := by decide +kernel
theorem dX10_markGood_89 : decode cX10_markGood 89 = .ok (.istore 6, 2) := by decide +kernel
theorem dX10_markGood_91 : decode cX10_markGood 91 = .ok (.iload 6, 2) := by decide +kernel
theorem dX10_markGood_93 : decode cX10_markGood 93 = .ok (.bipush 16, 2) := by decide +kernel
theorem dX10_markGood_95 : decode cX10_markGood 95 = .ok (.if_icmp .ge 39, 3) := by decide +kernel
theorem dX10_markGood_134 : decode cX10_markGood 134 = .ok (.iinc 5 1, 3) := by decide +kernel
theorem dX10_markGood_137 : decode cX10_markGood 137 = .ok (.goto (-55), 3) := by decide +kernel
theorem dX10_markGood_98 : decode cX10_markGood 98 = .ok (.aload_n 0, 1) := by decide +kernel
theorem dX10_markGood_99 : decode cX10_markGood 99 = .ok (.getfield 181, 3) := by decide +kernel
theorem dX10_markGood_102 : decode cX10_markGood 102 = .ok (.bipush 16, 2) := by decide +kernel
theorem dX10_markGood_104 : decode cX10_markGood 104 = .ok (.iconst 2, 1) := by decide +kernel
theorem dX10_markGood_105 : decode cX10_markGood 105 = .ok (.iload 4, 2) := by decide +kernel
theorem dX10_markGood_107 : decode cX10_markGood 107 = .ok (.imul, 1) := by decide +kernel
theorem dX10_markGood_108 : decode cX10_markGood 108 = .ok (.iload 5, 2) := by decide +kernel
theorem dX10_markGood_110 : decode cX10_markGood 110 = .ok (.iadd, 1) := by decide +kernel
theorem dX10_markGood_111 : decode cX10_markGood 111 = .ok (.imul, 1) := by decide +kernel
theorem dX10_markGood_112 : decode cX10_markGood 112 = .ok (.iload 6, 2) := by decide +kernel
theorem dX10_markGood_114 : decode cX10_markGood 114 = .ok (.iadd, 1) := by decide +kernel
theorem dX10_markGood_115 : decode cX10_markGood 115 = .ok (.aload_n 0, 1) := by decide +kernel
theorem dX10_markGood_116 : decode cX10_markGood 116 = .ok (.iload_n 1, 1) := by decide +kernel
theorem dX10_markGood_117 : decode cX10_markGood 117 = .ok (.iload_n 2, 1) := by decide +kernel
theorem dX10_markGood_118 : decode cX10_markGood 118 = .ok (.iload 4, 2) := by decide +kernel
theorem dX10_markGood_120 : decode cX10_markGood 120 = .ok (.iload 5, 2) := by decide +kernel
theorem dX10_markGood_122 : decode cX10_markGood 122 = .ok (.iload 6, 2) := by decide +kernel
theorem dX10_markGood_124 : decode cX10_markGood 124 = .ok (.invokevirtual 338, 3) := by decide +kernel
theorem dX10_markGood_127 : decode cX10_markGood 127 = .ok (.bastore, 1) := by decide +kernel
theorem dX10_markGood_128 : decode cX10_markGood 128 = .ok (.iinc 6 1, 3) := by decide +kernel
theorem dX10_markGood_131 : decode cX10_markGood 131 = .ok (.goto (-40), 3) := by decide +kernel
def wo_markGood : List Cond := [.code yX10_markGood cX10_markGood 7 none, .methodLink RX10 338 yX10_isGood, .instanceMethod yX10_isGood, .selects RX10 yX10_isGood yX10_isGood, .initialized RX10]
def wr_markGood : List Cond := (wfX10 ++ (w_isGood ++ ([])))
def w_markGood : List Cond := wo_markGood ++ wr_markGood
theorem wg_markGood : GW w_markGood := GW_app (GW_of (by decide +kernel)) (GW_app (wg_fX10) (GW_app (wg_isGood) (GW_nil)))
theorem in_markGood : ∀ w ∈ wfX10, w ∈ w_markGood := fun _ h => List.mem_append_right _ (List.mem_append_left _ h)
theorem g_markGood_isGood_338 : GoodIn w_markGood (wsV RX10 338 RX10 yX10_isGood w_isGood) := goodIn_app (gi_left (goodIn_of _ (by decide +kernel))) (fun w h => ⟨List.mem_append_right _ (List.mem_append_right _ (List.mem_append_left _ h)), wg_isGood w h⟩)
set_option maxHeartbeats 4000000 in
set_option maxRecDepth 100000 in
theorem ct_markGood (l : Launch) (E : gE) (B : Nat → Nat) (Q : VS → Prop) (p1 : Int32) (p2 : Int32) (σ : VS) (hw : wp_markGood Q p1 p2 σ) : CtV l E yX10_markGood w_markGood (({ frames := 2, cells := 0, slots := 0, locals := 54 } : Room)) (wm E B σ) [.ref (B 0), .int p1, .int p2] (fun w => ∃ σ' : VS, Q σ' ∧ w = wm E B σ') := by
  refine VC_V (cc := cX10_markGood) (mL := 7) (rt := none) (lv0 := [(0, .ref (B 0)), (1, .int p1), (2, .int p2)]) rfl (by decide) rfl (Nat.le_of_ble_eq_true rfl) ?_
  intro p e s m below meth c A F
  replace F : Fx p s m _ meth c A E cX10_markGood 7 none RX10 w_markGood := F
  obtain ⟨X2, hX2⟩ : ∃ X : Int32 → Int32 → Int32 → VS → Prop, X = fun l1 l2 l3 σ => WB p l e (({ frames := 2, cells := 0, slots := 0, locals := 54 } : Room)) s m (#[.ref (B 0), .int p1, .int p2]) below meth c (MQ below (va_Qv (fun w => ∃ σ' : VS, Q σ' ∧ w = wm E B σ') (AftU E A) A) (#[.ref (B 0), .int p1, .int p2]) s (({ frames := 2, cells := 0, slots := 0, locals := 54 } : Room)).cells (({ frames := 2, cells := 0, slots := 0, locals := 54 } : Room)).slots A) A E (wm E B) 7 2 [(0, .ref (B 0)), (1, .int l1), (2, .int l2), (3, .int l3)] [] σ := ⟨_, rfl⟩
  have U_2 : ∀ (l1 : Int32) (l2 : Int32) (l3 : Int32) (σ : VS), X2 l1 l2 l3 σ → WB p l e (({ frames := 2, cells := 0, slots := 0, locals := 54 } : Room)) s m (#[.ref (B 0), .int p1, .int p2]) below meth c (MQ below (va_Qv (fun w => ∃ σ' : VS, Q σ' ∧ w = wm E B σ') (AftU E A) A) (#[.ref (B 0), .int p1, .int p2]) s (({ frames := 2, cells := 0, slots := 0, locals := 54 } : Room)).cells (({ frames := 2, cells := 0, slots := 0, locals := 54 } : Room)).slots A) A E (wm E B) 7 2 [(0, .ref (B 0)), (1, .int l1), (2, .int l2), (3, .int l3)] [] σ := by
    intro l1 l2 l3 σ hw; rw [hX2] at hw; exact hw
  obtain ⟨X33, hX33⟩ : ∃ X : Int32 → Int32 → Int32 → VS → Prop, X = fun l1 l2 l3 σ => WB p l e (({ frames := 2, cells := 0, slots := 0, locals := 54 } : Room)) s m (#[.ref (B 0), .int p1, .int p2]) below meth c (MQ below (va_Qv (fun w => ∃ σ' : VS, Q σ' ∧ w = wm E B σ') (AftU E A) A) (#[.ref (B 0), .int p1, .int p2]) s (({ frames := 2, cells := 0, slots := 0, locals := 54 } : Room)).cells (({ frames := 2, cells := 0, slots := 0, locals := 54 } : Room)).slots A) A E (wm E B) 7 33 [(0, .ref (B 0)), (1, .int l1), (2, .int l2), (3, .int l3)] [] σ := ⟨_, rfl⟩
  have U_33 : ∀ (l1 : Int32) (l2 : Int32) (l3 : Int32) (σ : VS), X33 l1 l2 l3 σ → WB p l e (({ frames := 2, cells := 0, slots := 0, locals := 54 } : Room)) s m (#[.ref (B 0), .int p1, .int p2]) below meth c (MQ below (va_Qv (fun w => ∃ σ' : VS, Q σ' ∧ w = wm E B σ') (AftU E A) A) (#[.ref (B 0), .int p1, .int p2]) s (({ frames := 2, cells := 0, slots := 0, locals := 54 } : Room)).cells (({ frames := 2, cells := 0, slots := 0, locals := 54 } : Room)).slots A) A E (wm E B) 7 33 [(0, .ref (B 0)), (1, .int l1), (2, .int l2), (3, .int l3)] [] σ := by
    intro l1 l2 l3 σ hw; rw [hX33] at hw; exact hw
  obtain ⟨X82, hX82⟩ : ∃ X : Int32 → Int32 → Int32 → Int32 → Int32 → VS → Prop, X = fun l1 l2 l3 l4 l5 σ => WB p l e (({ frames := 2, cells := 0, slots := 0, locals := 54 } : Room)) s m (#[.ref (B 0), .int p1, .int p2]) below meth c (MQ below (va_Qv (fun w => ∃ σ' : VS, Q σ' ∧ w = wm E B σ') (AftU E A) A) (#[.ref (B 0), .int p1, .int p2]) s (({ frames := 2, cells := 0, slots := 0, locals := 54 } : Room)).cells (({ frames := 2, cells := 0, slots := 0, locals := 54 } : Room)).slots A) A E (wm E B) 7 82 [(0, .ref (B 0)), (1, .int l1), (2, .int l2), (3, .int l3), (4, .int l4), (5, .int l5)] [] σ := ⟨_, rfl⟩
  have U_82 : ∀ (l1 : Int32) (l2 : Int32) (l3 : Int32) (l4 : Int32) (l5 : Int32) (σ : VS), X82 l1 l2 l3 l4 l5 σ → WB p l e (({ frames := 2, cells := 0, slots := 0, locals := 54 } : Room)) s m (#[.ref (B 0), .int p1, .int p2]) below meth c (MQ below (va_Qv (fun w => ∃ σ' : VS, Q σ' ∧ w = wm E B σ') (AftU E A) A) (#[.ref (B 0), .int p1, .int p2]) s (({ frames := 2, cells := 0, slots := 0, locals := 54 } : Room)).cells (({ frames := 2, cells := 0, slots := 0, locals := 54 } : Room)).slots A) A E (wm E B) 7 82 [(0, .ref (B 0)), (1, .int l1), (2, .int l2), (3, .int l3), (4, .int l4), (5, .int l5)] [] σ := by
    intro l1 l2 l3 l4 l5 σ hw; rw [hX82] at hw; exact hw
  obtain ⟨X91, hX91⟩ : ∃ X : Int32 → Int32 → Int32 → Int32 → Int32 → Int32 → VS → Prop, X = fun l1 l2 l3 l4 l5 l6 σ => WB p l e (({ frames := 2, cells := 0, slots := 0, locals := 54 } : Room)) s m (#[.ref (B 0), .int p1, .int p2]) below meth c (MQ below (va_Qv (fun w => ∃ σ' : VS, Q σ' ∧ w = wm E B σ') (AftU E A) A) (#[.ref (B 0), .int p1, .int p2]) s (({ frames := 2, cells := 0, slots := 0, locals := 54 } : Room)).cells (({ frames := 2, cells := 0, slots := 0, locals := 54 } : Room)).slots A) A E (wm E B) 7 91 [(0, .ref (B 0)), (1, .int l1), (2, .int l2), (3, .int l3), (4, .int l4), (5, .int l5), (6, .int l6)] [] σ := ⟨_, rfl⟩
  have U_91 : ∀ (l1 : Int32) (l2 : Int32) (l3 : Int32) (l4 : Int32) (l5 : Int32) (l6 : Int32) (σ : VS), X91 l1 l2 l3 l4 l5 l6 σ → WB p l e (({ frames := 2, cells := 0, slots := 0, locals := 54 } : Room)) s m (#[.ref (B 0), .int p1, .int p2]) below meth c (MQ below (va_Qv (fun w => ∃ σ' : VS, Q σ' ∧ w = wm E B σ') (AftU E A) A) (#[.ref (B 0), .int p1, .int p2]) s (({ frames := 2, cells := 0, slots := 0, locals := 54 } : Room)).cells (({ frames := 2, cells := 0, slots := 0, locals := 54 } : Room)).slots A) A E (wm E B) 7 91 [(0, .ref (B 0)), (1, .int l1), (2, .int l2), (3, .int l3), (4, .int l4), (5, .int l5), (6, .int l6)] [] σ := by
    intro l1 l2 l3 l4 l5 l6 σ hw; rw [hX91] at hw; exact hw
  have J_140 : ∀ (l1 : Int32) (l2 : Int32) (l3 : Int32) (σ : VS), b_markGood_140 X2 X33 X82 X91 Q l1 l2 l3 σ → WB p l e (({ frames := 2, cells := 0, slots := 0, locals := 54 } : Room)) s m (#[.ref (B 0), .int p1, .int p2]) below meth c (MQ below (va_Qv (fun w => ∃ σ' : VS, Q σ' ∧ w = wm E B σ') (AftU E A) A) (#[.ref (B 0), .int p1, .int p2]) s (({ frames := 2, cells := 0, slots := 0, locals := 54 } : Room)).cells (({ frames := 2, cells := 0, slots := 0, locals := 54 } : Room)).slots A) A E (wm E B) 7 140 [(0, .ref (B 0)), (1, .int l1), (2, .int l2), (3, .int l3)] [] σ := by
    intro l1 l2 l3 σ hw
    unfold b_markGood_140 at hw
    refine R_iinc (q := 3) (v := (l3 + (-1))) (lv' := [(3, .int (l3 + (-1))), (0, .ref (B 0)), (1, .int l1), (2, .int l2)]) F dX10_markGood_140 rfl rfl (by decide) rfl ?_
    refine R_goto (tgt := 33) F dX10_markGood_143 (by decide) ?_
    exact R_sub [1, 2, 3, 0] rfl (U_33 l1 l2 (l3 + (-1)) σ hw)
  have C_2 : ∀ (l1 : Int32) (l2 : Int32) (l3 : Int32) (σ : VS), b_markGood_2 X2 X33 X82 X91 Q l1 l2 l3 σ → X2 l1 l2 l3 σ := by
    intro l1 l2 l3 σ hw
    unfold b_markGood_2 at hw
    rw [hX2]
    show WB p l e (({ frames := 2, cells := 0, slots := 0, locals := 54 } : Room)) s m (#[.ref (B 0), .int p1, .int p2]) below meth c (MQ below (va_Qv (fun w => ∃ σ' : VS, Q σ' ∧ w = wm E B σ') (AftU E A) A) (#[.ref (B 0), .int p1, .int p2]) s (({ frames := 2, cells := 0, slots := 0, locals := 54 } : Room)).cells (({ frames := 2, cells := 0, slots := 0, locals := 54 } : Room)).slots A) A E (wm E B) 7 2 [(0, .ref (B 0)), (1, .int l1), (2, .int l2), (3, .int l3)] [] σ
    refine R_iload_n F dX10_markGood_2 rfl 3 rfl ?_
    refine R_bipush F 32 dX10_markGood_3 (by decide) ?_
    refine R_aload_n F dX10_markGood_5 rfl 0 rfl ?_
    refine gm_1 F in_markGood dX10_markGood_6 ?_
    refine R_imul F dX10_markGood_9 ?_
    refine R_icmp_ge (tgt := 26) F dX10_markGood_10 (by decide) (fun hc => ?_) (fun hc => ?_)
    · replace hw := hw.1 hc
      refine R_aload_n F dX10_markGood_26 rfl 0 rfl ?_
      refine gm_32 F in_markGood dX10_markGood_27 ?_
      refine R_iconst F 1 dX10_markGood_30 (by decide) ?_
      refine R_isub F dX10_markGood_31 ?_
      refine R_topi (fun x1 ex1 => ?_)
      replace hw := hw x1 ex1
      refine R_istore_n (lv' := [(3, .int x1), (0, .ref (B 0)), (1, .int l1), (2, .int l2)]) F dX10_markGood_32 rfl (by decide) rfl ?_
      exact R_sub [1, 2, 3, 0] rfl (U_33 l1 l2 x1 σ hw)
    · replace hw := hw.2 hc
      refine R_aload_n F dX10_markGood_13 rfl 0 rfl ?_
      refine gm_56 F in_markGood dX10_markGood_14 ?_
      refine R_iload_n F dX10_markGood_17 rfl 3 rfl ?_
      refine R_iconst F 0 dX10_markGood_18 (by decide) ?_
      have hi := hw.1
      replace hw := hw.2
      refine R_stz F qm_56 um_56 dX10_markGood_19 hi (⟨by decide, by decide⟩ : Bo 0) ?_
      refine R_iinc (q := 3) (v := (l3 + 1)) (lv' := [(3, .int (l3 + 1)), (0, .ref (B 0)), (1, .int l1), (2, .int l2)]) F dX10_markGood_20 rfl rfl (by decide) rfl ?_
      refine R_goto (tgt := 2) F dX10_markGood_23 (by decide) ?_
      exact R_sub [1, 2, 3, 0] rfl (U_2 l1 l2 (l3 + 1) (sa σ 56 l3 0) hw)
  have C_33 : ∀ (l1 : Int32) (l2 : Int32) (l3 : Int32) (σ : VS), b_markGood_33 X2 X33 X82 X91 Q l1 l2 l3 σ → X33 l1 l2 l3 σ := by
    intro l1 l2 l3 σ hw
    unfold b_markGood_33 at hw
    rw [hX33]
    show WB p l e (({ frames := 2, cells := 0, slots := 0, locals := 54 } : Room)) s m (#[.ref (B 0), .int p1, .int p2]) below meth c (MQ below (va_Qv (fun w => ∃ σ' : VS, Q σ' ∧ w = wm E B σ') (AftU E A) A) (#[.ref (B 0), .int p1, .int p2]) s (({ frames := 2, cells := 0, slots := 0, locals := 54 } : Room)).cells (({ frames := 2, cells := 0, slots := 0, locals := 54 } : Room)).slots A) A E (wm E B) 7 33 [(0, .ref (B 0)), (1, .int l1), (2, .int l2), (3, .int l3)] [] σ
    refine R_iload_n F dX10_markGood_33 rfl 3 rfl ?_
    refine R_if_lt (tgt := 146) F dX10_markGood_34 (by decide) (fun hc => ?_) (fun hc => ?_)
    · replace hw := hw.1 hc
      exact R_vret (Qc := Q) F dX10_markGood_146 hw
    · replace hw := hw.2 hc
      refine R_aload_n F dX10_markGood_37 rfl 0 rfl ?_
      refine gm_31 F in_markGood dX10_markGood_38 ?_
      refine R_iload_n F dX10_markGood_41 rfl 3 rfl ?_
      refine R_ldi F qm_31 dX10_markGood_42 hw.1 ?_
      replace hw := hw.2
      refine R_topi (fun x2 ex2 => ?_)
      replace hw := hw x2 ex2
      refine R_istore (lv' := [(4, .int x2), (0, .ref (B 0)), (1, .int l1), (2, .int l2), (3, .int l3)]) F dX10_markGood_43 (by decide) rfl ?_
      refine R_aload_n F dX10_markGood_45 rfl 1 rfl ?_
      refine gm_2 F in_markGood dX10_markGood_46 ?_
      refine R_iload F dX10_markGood_49 0 rfl ?_
      refine R_ldi F qm_2 dX10_markGood_51 hw.1 ?_
      replace hw := hw.2
      refine R_iconst F 5 dX10_markGood_52 (by decide) ?_
      refine R_icmp_eq (tgt := 140) F dX10_markGood_53 (by decide) (fun hc => ?_) (fun hc => ?_)
      · replace hw := hw.1 hc
        exact R_sub [1, 2, 3, 4] rfl (J_140 l1 l2 l3 σ hw)
      · replace hw := hw.2 hc
        refine R_aload_n F dX10_markGood_56 rfl 1 rfl ?_
        refine gm_34 F in_markGood dX10_markGood_57 ?_
        refine R_iload F dX10_markGood_60 0 rfl ?_
        refine R_ldz F qm_34 dX10_markGood_62 hw.1 ?_
        replace hw := hw.2
        refine R_if_eq (tgt := 140) F dX10_markGood_63 (by decide) (fun hc => ?_) (fun hc => ?_)
        · replace hw := hw.1 hc
          exact R_sub [1, 2, 3, 4] rfl (J_140 l1 l2 l3 σ hw)
        · replace hw := hw.2 hc
          refine R_aload_n F dX10_markGood_66 rfl 1 rfl ?_
          refine gm_35 F in_markGood dX10_markGood_67 ?_
          refine R_iload F dX10_markGood_70 0 rfl ?_
          refine R_ldi F qm_35 dX10_markGood_72 hw.1 ?_
          replace hw := hw.2
          refine R_if_eq (tgt := 79) F dX10_markGood_73 (by decide) (fun hc => ?_) (fun hc => ?_)
          · replace hw := hw.1 hc
            refine R_iconst F 0 dX10_markGood_79 (by decide) ?_
            refine R_istore (lv' := [(5, .int 0), (4, .int x2), (0, .ref (B 0)), (1, .int l1), (2, .int l2), (3, .int l3)]) F dX10_markGood_80 (by decide) rfl ?_
            exact R_sub [2, 3, 4, 5, 1, 0] rfl (U_82 l1 l2 l3 x2 0 σ hw)
          · replace hw := hw.2 hc
            refine R_goto (tgt := 140) F dX10_markGood_76 (by decide) ?_
            exact R_sub [1, 2, 3, 4] rfl (J_140 l1 l2 l3 σ hw)
  have C_82 : ∀ (l1 : Int32) (l2 : Int32) (l3 : Int32) (l4 : Int32) (l5 : Int32) (σ : VS), b_markGood_82 X2 X33 X82 X91 Q l1 l2 l3 l4 l5 σ → X82 l1 l2 l3 l4 l5 σ := by
    intro l1 l2 l3 l4 l5 σ hw
    unfold b_markGood_82 at hw
    rw [hX82]
    show WB p l e (({ frames := 2, cells := 0, slots := 0, locals := 54 } : Room)) s m (#[.ref (B 0), .int p1, .int p2]) below meth c (MQ below (va_Qv (fun w => ∃ σ' : VS, Q σ' ∧ w = wm E B σ') (AftU E A) A) (#[.ref (B 0), .int p1, .int p2]) s (({ frames := 2, cells := 0, slots := 0, locals := 54 } : Room)).cells (({ frames := 2, cells := 0, slots := 0, locals := 54 } : Room)).slots A) A E (wm E B) 7 82 [(0, .ref (B 0)), (1, .int l1), (2, .int l2), (3, .int l3), (4, .int l4), (5, .int l5)] [] σ
    refine R_iload F dX10_markGood_82 5 rfl ?_
    refine R_iconst F 2 dX10_markGood_84 (by decide) ?_
    refine R_icmp_ge (tgt := 140) F dX10_markGood_85 (by decide) (fun hc => ?_) (fun hc => ?_)
    · replace hw := hw.1 hc
      exact R_sub [0, 1, 2, 3] rfl (J_140 l1 l2 l3 σ hw)
    · replace hw := hw.2 hc
      refine R_iconst F 0 dX10_markGood_88 (by decide) ?_
      refine R_istore (lv' := [(6, .int 0), (0, .ref (B 0)), (1, .int l1), (2, .int l2), (3, .int l3), (4, .int l4), (5, .int l5)]) F dX10_markGood_89 (by decide) rfl ?_
      exact R_sub [1, 2, 3, 4, 5, 6, 0] rfl (U_91 l1 l2 l3 l4 l5 0 σ hw)
  have C_91 : ∀ (l1 : Int32) (l2 : Int32) (l3 : Int32) (l4 : Int32) (l5 : Int32) (l6 : Int32) (σ : VS), b_markGood_91 X2 X33 X82 X91 Q l1 l2 l3 l4 l5 l6 σ → X91 l1 l2 l3 l4 l5 l6 σ := by
    intro l1 l2 l3 l4 l5 l6 σ hw
    unfold b_markGood_91 at hw
    rw [hX91]
    show WB p l e (({ frames := 2, cells := 0, slots := 0, locals := 54 } : Room)) s m (#[.ref (B 0), .int p1, .int p2]) below meth c (MQ below (va_Qv (fun w => ∃ σ' : VS, Q σ' ∧ w = wm E B σ') (AftU E A) A) (#[.ref (B 0), .int p1, .int p2]) s (({ frames := 2, cells := 0, slots := 0, locals := 54 } : Room)).cells (({ frames := 2, cells := 0, slots := 0, locals := 54 } : Room)).slots A) A E (wm E B) 7 91 [(0, .ref (B 0)), (1, .int l1), (2, .int l2), (3, .int l3), (4, .int l4), (5, .int l5), (6, .int l6)] [] σ
    refine R_iload F dX10_markGood_91 6 rfl ?_
    refine R_bipush F 16 dX10_markGood_93 (by decide) ?_
    refine R_icmp_ge (tgt := 134) F dX10_markGood_95 (by decide) (fun hc => ?_) (fun hc => ?_)
    · replace hw := hw.1 hc
      refine R_iinc (q := 5) (v := (l5 + 1)) (lv' := [(5, .int (l5 + 1)), (0, .ref (B 0)), (1, .int l1), (2, .int l2), (3, .int l3), (4, .int l4), (6, .int l6)]) F dX10_markGood_134 rfl rfl (by decide) rfl ?_
      refine R_goto (tgt := 82) F dX10_markGood_137 (by decide) ?_
      exact R_sub [1, 2, 3, 4, 5, 0] rfl (U_82 l1 l2 l3 l4 (l5 + 1) σ hw)
    · replace hw := hw.2 hc
      refine R_aload_n F dX10_markGood_98 rfl 0 rfl ?_
      refine gm_56 F in_markGood dX10_markGood_99 ?_
      refine R_bipush F 16 dX10_markGood_102 (by decide) ?_
      refine R_iconst F 2 dX10_markGood_104 (by decide) ?_
      refine R_iload F dX10_markGood_105 4 rfl ?_
      refine R_imul F dX10_markGood_107 ?_
      refine R_iload F dX10_markGood_108 5 rfl ?_
      refine R_iadd F dX10_markGood_110 ?_
      refine R_imul F dX10_markGood_111 ?_
      refine R_iload F dX10_markGood_112 6 rfl ?_
      refine R_iadd F dX10_markGood_114 ?_
      refine R_aload_n F dX10_markGood_115 rfl 0 rfl ?_
      refine R_iload_n F dX10_markGood_116 rfl 1 rfl ?_
      refine R_iload_n F dX10_markGood_117 rfl 2 rfl ?_
      refine R_iload F dX10_markGood_118 4 rfl ?_
      refine R_iload F dX10_markGood_120 5 rfl ?_
      refine R_iload F dX10_markGood_122 6 rfl ?_
      refine R_callI (As := [.int l1, .int l2, .int l4, .int l5, .int l6]) (C := RX10) (q0 := 0) (ci := 10) (N := 69) (T := TX10) (fs := mfl B) F (ct_isGood l E B _ l1 l2 l4 l5 l6 _ hw) (cwV 5 F.2.2.2.2.2.2.2.2.2.2 g_markGood_isGood_338 rfl rfl rfl (by decide +kernel) ⟨Nat.le_of_ble_eq_true rfl, Nat.le_of_ble_eq_true rfl⟩) ⟨rfl, rfl⟩ rfl (fun _ => rfl) rfl rfl (Nat.le_of_ble_eq_true rfl) dX10_markGood_124 (fun r3 σ4 hw => ?_)
      have hi := hw.1
      replace hw := hw.2
      have hbo := hw.1
      replace hw := hw.2
      refine R_stz F qm_56 um_56 dX10_markGood_127 hi hbo ?_
      refine R_iinc (q := 6) (v := (l6 + 1)) (lv' := [(6, .int (l6 + 1)), (0, .ref (B 0)), (1, .int l1), (2, .int l2), (3, .int l3), (4, .int l4), (5, .int l5)]) F dX10_markGood_128 rfl rfl (by decide) rfl ?_
      refine R_goto (tgt := 91) F dX10_markGood_131 (by decide) ?_
      exact R_sub [1, 2, 3, 4, 5, 6, 0] rfl (U_91 l1 l2 l3 l4 l5 (l6 + 1) (sa σ4 56 ((16 * ((2 * l4) + l5)) + l6) r3) hw)
  unfold wp_markGood at hw
  replace hw := hw X2 X33 X82 X91 C_2 C_33 C_82 C_91
  refine R_iconst F 0 dX10_markGood_0 (by decide) ?_
  refine R_istore_n (lv' := [(3, .int 0), (0, .ref (B 0)), (1, .int p1), (2, .int p2)]) F dX10_markGood_1 rfl (by decide) rfl ?_
  exact R_sub [1, 2, 3, 0] rfl (U_2 p1 p2 0 σ hw)
def b_keep_141 (X40 : Int32 → Int32 → Int32 → Int32 → Int32 → VS → Prop) (X141 : Int32 → Int32 → Int32 → Int32 → Int32 → VS → Prop) (Q : VS → Prop) (l1 : Int32) (l2 : Int32) (l4 : Int32) (l5 : Int32) (l6 : Int32) (σ : VS) : Prop := ((l2.toInt < l6.toInt → (In l2 52 ∧ wp_metBy (fun (r4 : Int32) (σ5 : VS) => wp_periodsOf (fun (r6 : Int32) (σ7 : VS) => (In (σ7.1 61) 50 ∧ wp_earlyOf (fun (r8 : Int32) (σ9 : VS) => (In (σ9.1 61) 50 ∧ wp_shared (fun (r10 : Int32) (σ11 : VS) => (In l4 1000 ∧ Q (sf (sa σ11 49 l4 (((((r6 * (σ7.1 20)) + r8) - (rd σ9 12 (σ9.1 61))) + r10) - l5)) 48 (((sa σ11 49 l4 (((((r6 * (σ7.1 20)) + r8) - (rd σ9 12 (σ9.1 61))) + r10) - l5)).1 48) + 1)))) l1 (σ9.1 61) σ9)) (rd σ7 11 (σ7.1 61)) σ7)) l1 (σ.1 61) ((rd σ 60 l2) ||| r4) σ5) (σ.1 61) σ)) ∧ (l6.toInt ≤ l2.toInt → (In l6 52 ∧ (In l6 52 ∧ (In l6 52 ∧ (In (((8 * (rd σ 57 l6)) + (2 * (rd σ 58 l6))) + (rd σ 59 l6)) 400 ∧ (∀ x12 : Int32, x12 = (l5 + (rd σ 36 (((8 * (rd σ 57 l6)) + (2 * (rd σ 58 l6))) + (rd σ 59 l6)))) → X141 l1 l2 l4 x12 (l6 + 1) σ)))))))
def b_keep_40 (X40 : Int32 → Int32 → Int32 → Int32 → Int32 → VS → Prop) (X141 : Int32 → Int32 → Int32 → Int32 → Int32 → VS → Prop) (Q : VS → Prop) (l1 : Int32) (l2 : Int32) (l3 : Int32) (l4 : Int32) (l5 : Int32) (σ : VS) : Prop := ((l2.toInt < l5.toInt → (In (((52 * l4) + l2) + 1) 52000 ∧ (In (((52 * l4) + l2) + 1) 52000 ∧ wp_startLate (fun (r2 : Int32) (σ3 : VS) => X141 l1 l2 l4 r2 1 σ3) l1 (rd (sa (sa σ 53 (((52 * l4) + l2) + 1) (σ.1 61)) 54 (((52 * l4) + l2) + 1) l3) 59 0) (sa (sa σ 53 (((52 * l4) + l2) + 1) (σ.1 61)) 54 (((52 * l4) + l2) + 1) l3)))) ∧ (l5.toInt ≤ l2.toInt → (In l5 52 ∧ (In ((52 * l4) + l5) 52000 ∧ (In l5 52 ∧ (In ((52 * l4) + l5) 52000 ∧ X40 l1 l2 l3 l4 (l5 + 1) (sa (sa σ 53 ((52 * l4) + l5) (rd σ 57 l5)) 54 ((52 * l4) + l5) (rd (sa σ 53 ((52 * l4) + l5) (rd σ 57 l5)) 58 l5))))))))
def wp_keep (Q : VS → Prop) (p1 : Int32) (p2 : Int32) (p3 : Int32) (σ : VS) : Prop := ∀ (X40 : Int32 → Int32 → Int32 → Int32 → Int32 → VS → Prop) (X141 : Int32 → Int32 → Int32 → Int32 → Int32 → VS → Prop), (∀ (l1 : Int32) (l2 : Int32) (l3 : Int32) (l4 : Int32) (l5 : Int32) (σ : VS), b_keep_40 X40 X141 Q l1 l2 l3 l4 l5 σ → X40 l1 l2 l3 l4 l5 σ) → (∀ (l1 : Int32) (l2 : Int32) (l4 : Int32) (l5 : Int32) (l6 : Int32) (σ : VS), b_keep_141 X40 X141 Q l1 l2 l4 l5 l6 σ → X141 l1 l2 l4 l5 l6 σ) → (∀ x1 : Int32, x1 = (σ.1 48) → (In x1 1000 ∧ (In x1 1000 ∧ (In x1 1000 ∧ X40 p1 p2 p3 x1 0 (sa (sa (sa σ 50 x1 p1) 51 x1 (rd (sa σ 50 x1 p1) 59 0)) 52 x1 (p2 + 2))))))
theorem dX10_keep_0 : decode cX10_keep 0 = .ok (.aload_n 0, 1) := by decide +kernel
theorem dX10_keep_1 : decode cX10_keep 1 = .ok (.getfield 326, 3) := by decide +kernel
theorem dX10_keep_4 : decode cX10_keep 4 = .ok (.istore 4, 2) := by decide +kernel
theorem dX10_keep_6 : decode cX10_keep 6 = .ok (.aload_n 0, 1) := by decide +kernel
theorem dX10_keep_7 : decode cX10_keep 7 = .ok (.getfield 162, 3) := by decide +kernel
theorem dX10_keep_10 : decode cX10_keep 10 = .ok (.iload 4, 2) := by decide +kernel
theorem dX10_keep_12 : decode cX10_keep 12 = .ok (.iload_n 1, 1) := by decide +kernel
theorem dX10_keep_13 : decode cX10_keep 13 = .ok (.iastore, 1) := by decide +kernel
theorem dX10_keep_14 : decode cX10_keep 14 = .ok (.aload_n 0, 1) := by decide +kernel
theorem dX10_keep_15 : decode cX10_keep 15 = .ok (.getfield 165, 3) := by decide +kernel
theorem dX10_keep_18 : decode cX10_keep 18 = .ok (.iload 4, 2) := by decide +kernel
theorem dX10_keep_20 : decode cX10_keep 20 = .ok (.aload_n 0, 1) := by decide +kernel
theorem dX10_keep_21 : decode cX10_keep 21 = .ok (.getfield 190, 3) := by decide +kernel
theorem dX10_keep_24 : decode cX10_keep 24 = .ok (.iconst 0, 1) := by decide +kernel
theorem dX10_keep_25 : decode cX10_keep 25 = .ok (.iaload, 1) := by decide +kernel
theorem dX10_keep_26 : decode cX10_keep 26 = .ok (.iastore, 1) := by decide +kernel
theorem dX10_keep_27 : decode cX10_keep 27 = .ok (.aload_n 0, 1) := by decide +kernel
theorem dX10_keep_28 : decode cX10_keep 28 = .ok (.getfield 168, 3) := by decide +kernel
theorem dX10_keep_31 : decode cX10_keep 31 = .ok (.iload 4, 2) := by decide +kernel
theorem dX10_keep_33 : decode cX10_keep 33 = .ok (.iload_n 2, 1) := by decide +kernel
theorem dX10_keep_34 : decode cX10_keep 34 = .ok (.iconst 2, 1) := by decide +kernel
theorem dX10_keep_35 : decode cX10_keep 35 = .ok (.iadd, 1) := by decide +kernel
theorem dX10_keep_36 : decode cX10_keep 36 = .ok (.iastore, 1) := by decide +kernel
theorem dX10_keep_37 : decode cX10_keep 37 = .ok (.iconst 0, 1) := by decide +kernel
theorem dX10_keep_38 : decode cX10_keep 38 = .ok (.istore 5, 2) := by decide +kernel
theorem dX10_keep_40 : decode cX10_keep 40 = .ok (.iload 5, 2) := by decide +kernel
theorem dX10_keep_42 : decode cX10_keep 42 = .ok (.iload_n 2, 1) := by decide +kernel
theorem dX10_keep_43 : decode cX10_keep 43 = .ok (.if_icmp .gt 49, 3) := by decide +kernel
theorem dX10_keep_92 : decode cX10_keep 92 = .ok (.aload_n 0, 1) := by decide +kernel
theorem dX10_keep_93 : decode cX10_keep 93 = .ok (.getfield 172, 3) := by decide +kernel
theorem dX10_keep_96 : decode cX10_keep 96 = .ok (.bipush 52, 2) := by decide +kernel
theorem dX10_keep_98 : decode cX10_keep 98 = .ok (.iload 4, 2) := by decide +kernel
theorem dX10_keep_100 : decode cX10_keep 100 = .ok (.imul, 1) := by decide +kernel
theorem dX10_keep_101 : decode cX10_keep 101 = .ok (.iload_n 2, 1) := by decide +kernel
theorem dX10_keep_102 : decode cX10_keep 102 = .ok (.iadd, 1) := by decide +kernel
theorem dX10_keep_103 : decode cX10_keep 103 = .ok (.iconst 1, 1) := by decide +kernel
theorem dX10_keep_104 : decode cX10_keep 104 = .ok (.iadd, 1) := by decide +kernel
theorem dX10_keep_105 : decode cX10_keep 105 = .ok (.aload_n 0, 1) := by decide +kernel
theorem dX10_keep_106 : decode cX10_keep 106 = .ok (.getfield 329, 3) := by decide +kernel
theorem dX10_keep_109 : decode cX10_keep 109 = .ok (.iastore, 1) := by decide +kernel
theorem dX10_keep_110 : decode cX10_keep 110 = .ok (.aload_n 0, 1) := by decide +kernel
theorem dX10_keep_111 : decode cX10_keep 111 = .ok (.getfield 175, 3) := by decide +kernel
theorem dX10_keep_114 : decode cX10_keep 114 = .ok (.bipush 52, 2) := by decide +kernel
theorem dX10_keep_116 : decode cX10_keep 116 = .ok (.iload 4, 2) := by decide +kernel
theorem dX10_keep_118 : decode cX10_keep 118 = .ok (.imul, 1) := by decide +kernel
theorem dX10_keep_119 : decode cX10_keep 119 = .ok (.iload_n 2, 1) := by decide +kernel
theorem dX10_keep_120 : decode cX10_keep 120 = .ok (.iadd, 1) := by decide +kernel
theorem dX10_keep_121 : decode cX10_keep 121 = .ok (.iconst 1, 1) := by decide +kernel
theorem dX10_keep_122 : decode cX10_keep 122 = .ok (.iadd, 1) := by decide +kernel
theorem dX10_keep_123 : decode cX10_keep 123 = .ok (.iload_n 3, 1) := by decide +kernel
theorem dX10_keep_124 : decode cX10_keep 124 = .ok (.iastore, 1) := by decide +kernel
theorem dX10_keep_125 : decode cX10_keep 125 = .ok (.aload_n 0, 1) := by decide +kernel
theorem dX10_keep_126 : decode cX10_keep 126 = .ok (.iload_n 1, 1) := by decide +kernel
theorem dX10_keep_127 : decode cX10_keep 127 = .ok (.aload_n 0, 1) := by decide +kernel
theorem dX10_keep_128 : decode cX10_keep 128 = .ok (.getfield 190, 3) := by decide +kernel
theorem dX10_keep_131 : decode cX10_keep 131 = .ok (.iconst 0, 1) := by decide +kernel
theorem dX10_keep_132 : decode cX10_keep 132 = .ok (.iaload, 1) := by decide +kernel
theorem dX10_keep_133 : decode cX10_keep 133 = .ok (.invokevirtual 289, 3) := by decide +kernel
theorem dX10_keep_136 : decode cX10_keep 136 = .ok (.istore 5, 2) := by decide +kernel
theorem dX10_keep_138 : decode cX10_keep 138 = .ok (.iconst 1, 1) := by decide +kernel
theorem dX10_keep_139 : decode cX10_keep 139 = .ok (.istore 6, 2) := by decide +kernel
theorem dX10_keep_46 : decode cX10_keep 46 = .ok (.aload_n 0, 1) := by decide +kernel
theorem dX10_keep_47 : decode cX10_keep 47 = .ok (.getfield 172, 3) := by decide +kernel
theorem dX10_keep_50 : decode cX10_keep 50 = .ok (.bipush 52, 2) := by decide +kernel
theorem dX10_keep_52 : decode cX10_keep 52 = .ok (.iload 4, 2) := by decide +kernel
theorem dX10_keep_54 : decode cX10_keep 54 = .ok (.imul, 1) := by decide +kernel
theorem dX10_keep_55 : decode cX10_keep 55 = .ok (.iload 5, 2) := by decide +kernel
theorem dX10_keep_57 : decode cX10_keep 57 = .ok (.iadd, 1) := by decide +kernel
theorem dX10_keep_58 : decode cX10_keep 58 = .ok (.aload_n 0, 1) := by decide +kernel
theorem dX10_keep_59 : decode cX10_keep 59 = .ok (.getfield 184, 3) := by decide +kernel
theorem dX10_keep_62 : decode cX10_keep 62 = .ok (.iload 5, 2) := by decide +kernel
theorem dX10_keep_64 : decode cX10_keep 64 = .ok (.iaload, 1) := by decide +kernel
theorem dX10_keep_65 : decode cX10_keep 65 = .ok (.iastore, 1) := by decide +kernel
theorem dX10_keep_66 : decode cX10_keep 66 = .ok (.aload_n 0, 1) := by decide +kernel
theorem dX10_keep_67 : decode cX10_keep 67 = .ok (.getfield 175, 3) := by decide +kernel
theorem dX10_keep_70 : decode cX10_keep 70 = .ok (.bipush 52, 2) := by decide +kernel
theorem dX10_keep_72 : decode cX10_keep 72 = .ok (.iload 4, 2) := by decide +kernel
theorem dX10_keep_74 : decode cX10_keep 74 = .ok (.imul, 1) := by decide +kernel
theorem dX10_keep_75 : decode cX10_keep 75 = .ok (.iload 5, 2) := by decide +kernel
theorem dX10_keep_77 : decode cX10_keep 77 = .ok (.iadd, 1) := by decide +kernel
theorem dX10_keep_78 : decode cX10_keep 78 = .ok (.aload_n 0, 1) := by decide +kernel
theorem dX10_keep_79 : decode cX10_keep 79 = .ok (.getfield 187, 3) := by decide +kernel
theorem dX10_keep_82 : decode cX10_keep 82 = .ok (.iload 5, 2) := by decide +kernel
theorem dX10_keep_84 : decode cX10_keep 84 = .ok (.iaload, 1) := by decide +kernel
theorem dX10_keep_85 : decode cX10_keep 85 = .ok (.iastore, 1) := by decide +kernel
theorem dX10_keep_86 : decode cX10_keep 86 = .ok (.iinc 5 1, 3) := by decide +kernel
theorem dX10_keep_89 : decode cX10_keep 89 = .ok (.goto (-49), 3) := by decide +kernel
theorem dX10_keep_141 : decode cX10_keep 141 = .ok (.iload 6, 2) := by decide +kernel
theorem dX10_keep_143 : decode cX10_keep 143 = .ok (.iload_n 2, 1) := by decide +kernel
theorem dX10_keep_144 : decode cX10_keep 144 = .ok (.if_icmp .gt 47, 3) := by decide +kernel
theorem dX10_keep_191 : decode cX10_keep 191 = .ok (.aload_n 0, 1) := by decide +kernel
theorem dX10_keep_192 : decode cX10_keep 192 = .ok (.iload_n 1, 1) := by decide +kernel
theorem dX10_keep_193 : decode cX10_keep 193 = .ok (.aload_n 0, 1) := by decide +kernel
theorem dX10_keep_194 : decode cX10_keep 194 = .ok (.getfield 329, 3) := by decide +kernel
theorem dX10_keep_197 : decode cX10_keep 197 = .ok (.aload_n 0, 1) := by decide +kernel
theorem dX10_keep_198 : decode cX10_keep 198 = .ok (.getfield 193, 3) := by decide +kernel
theorem dX10_keep_201 : decode cX10_keep 201 = .ok (.iload_n 2, 1) := by decide +kernel
theorem dX10_keep_202 : decode cX10_keep 202 = .ok (.iaload, 1) := by decide +kernel
theorem dX10_keep_203 : decode cX10_keep 203 = .ok (.aload_n 0, 1) := by decide +kernel
theorem dX10_keep_204 : decode cX10_keep 204 = .ok (.aload_n 0, 1) := by decide +kernel
theorem dX10_keep_205 : decode cX10_keep 205 = .ok (.getfield 329, 3) := by decide +kernel
theorem dX10_keep_208 : decode cX10_keep 208 = .ok (.invokevirtual 295, 3) := by decide +kernel
theorem dX10_keep_211 : decode cX10_keep 211 = .ok (.ior, 1) := by decide +kernel
theorem dX10_keep_212 : decode cX10_keep 212 = .ok (.invokevirtual 312, 3) := by decide +kernel
theorem dX10_keep_215 : decode cX10_keep 215 = .ok (.istore 6, 2) := by decide +kernel
theorem dX10_keep_217 : decode cX10_keep 217 = .ok (.aload_n 0, 1) := by decide +kernel
theorem dX10_keep_218 : decode cX10_keep 218 = .ok (.getfield 159, 3) := by decide +kernel
theorem dX10_keep_221 : decode cX10_keep 221 = .ok (.iload 4, 2) := by decide +kernel
theorem dX10_keep_223 : decode cX10_keep 223 = .ok (.iload 6, 2) := by decide +kernel
theorem dX10_keep_225 : decode cX10_keep 225 = .ok (.aload_n 0, 1) := by decide +kernel
theorem dX10_keep_226 : decode cX10_keep 226 = .ok (.getfield 87, 3) := by decide +kernel
theorem dX10_keep_229 : decode cX10_keep 229 = .ok (.imul, 1) := by decide +kernel
theorem dX10_keep_230 : decode cX10_keep 230 = .ok (.aload_n 0, 1) := by decide +kernel
theorem dX10_keep_231 : decode cX10_keep 231 = .ok (.aload_n 0, 1) := by decide +kernel
theorem dX10_keep_232 : decode cX10_keep 232 = .ok (.getfield 42, 3) := by decide +kernel
theorem dX10_keep_235 : decode cX10_keep 235 = .ok (.aload_n 0, 1) := by decide +kernel
theorem dX10_keep_236 : decode cX10_keep 236 = .ok (.getfield 329, 3) := by decide +kernel
theorem dX10_keep_239 : decode cX10_keep 239 = .ok (.iaload, 1) := by decide +kernel
theorem dX10_keep_240 : decode cX10_keep 240 = .ok (.invokevirtual 278, 3) := by decide +kernel
theorem dX10_keep_243 : decode cX10_keep 243 = .ok (.iadd, 1) := by decide +kernel
theorem dX10_keep_244 : decode cX10_keep 244 = .ok (.aload_n 0, 1) := by decide +kernel
theorem dX10_keep_245 : decode cX10_keep 245 = .ok (.getfield 45, 3) := by decide +kernel
theorem dX10_keep_248 : decode cX10_keep 248 = .ok (.aload_n 0, 1) := by decide +kernel
theorem dX10_keep_249 : decode cX10_keep 249 = .ok (.getfield 329, 3) := by decide +kernel
theorem dX10_keep_252 : decode cX10_keep 252 = .ok (.iaload, 1) := by decide +kernel
theorem dX10_keep_253 : decode cX10_keep 253 = .ok (.isub, 1) := by decide +kernel
theorem dX10_keep_254 : decode cX10_keep 254 = .ok (.aload_n 0, 1) := by decide +kernel
theorem dX10_keep_255 : decode cX10_keep 255 = .ok (.iload_n 1, 1) := by decide +kernel
theorem dX10_keep_256 : decode cX10_keep 256 = .ok (.aload_n 0, 1) := by decide +kernel
theorem dX10_keep_257 : decode cX10_keep 257 = .ok (.getfield 329, 3) := by decide +kernel
theorem dX10_keep_260 : decode cX10_keep 260 = .ok (.invokevirtual 272, 3) := by decide +kernel
theorem dX10_keep_263 : decode cX10_keep 263 = .ok (.iadd, 1) := by decide +kernel
theorem dX10_keep_264 : decode cX10_keep 264 = .ok (.iload 5, 2) := by decide +kernel
theorem dX10_keep_266 : decode cX10_keep 266 = .ok (.isub, 1) := by decide +kernel
theorem dX10_keep_267 : decode cX10_keep 267 = .ok (.iastore, 1) := by decide +kernel
theorem dX10_keep_268 : decode cX10_keep 268 = .ok (.aload_n 0, 1) := by decide +kernel
theorem dX10_keep_269 : decode cX10_keep 269 = .ok (.dup, 1) := by decide +kernel
theorem dX10_keep_270 : decode cX10_keep 270 = .ok (.getfield 326, 3) := by decide +kernel
theorem dX10_keep_273 : decode cX10_keep 273 = .ok (.iconst 1, 1) := by decide +kernel
theorem dX10_keep_274 : decode cX10_keep 274 = .ok (.iadd, 1) := by decide +kernel
theorem dX10_keep_275 : decode cX10_keep 275 = .ok (.putfield 326, 3) := by decide +kernel
theorem dX10_keep_278 : decode cX10_keep 278 = .ok (.return_, 1) := by decide +kernel
theorem dX10_keep_147 : decode cX10_keep 147 = .ok (.iload 5, 2) := by decide +kernel
theorem dX10_keep_149 : decode cX10_keep 149 = .ok (.aload_n 0, 1) := by decide +kernel
theorem dX10_keep_150 : decode cX10_keep 150 = .ok (.getfield 123, 3) := by decide +kernel
theorem dX10_keep_153 : decode cX10_keep 153 = .ok (.bipush 8, 2) := by decide +kernel
theorem dX10_keep_155 : decode cX10_keep 155 = .ok (.aload_n 0, 1) := by decide +kernel
theorem dX10_keep_156 : decode cX10_keep 156 = .ok (.getfield 184, 3) := by decide +kernel
theorem dX10_keep_159 : decode cX10_keep 159 = .ok (.iload 6, 2) := by decide +kernel
theorem dX10_keep_161 : decode cX10_keep 161 = .ok (.iaload, 1) := by decide +kernel
theorem dX10_keep_162 : decode cX10_keep 162 = .ok (.imul, 1) := by decide +kernel
theorem dX10_keep_163 : decode cX10_keep 163 = .ok (.iconst 2, 1) := by decide +kernel
theorem dX10_keep_164 : decode cX10_keep 164 = .ok (.aload_n 0, 1) := by decide +kernel
theorem dX10_keep_165 : decode cX10_keep 165 = .ok (.getfield 187, 3) := by decide +kernel
theorem dX10_keep_168 : decode cX10_keep 168 = .ok (.iload 6, 2) := by decide +kernel
theorem dX10_keep_170 : decode cX10_keep 170 = .ok (.iaload, 1) := by decide +kernel
theorem dX10_keep_171 : decode cX10_keep 171 = .ok (.imul, 1) := by decide +kernel
theorem dX10_keep_172 : decode cX10_keep 172 = .ok (.iadd, 1) := by decide +kernel
theorem dX10_keep_173 : decode cX10_keep 173 = .ok (.aload_n 0, 1) := by decide +kernel
theorem dX10_keep_174 : decode cX10_keep 174 = .ok (.getfield 190, 3) := by decide +kernel
theorem dX10_keep_177 : decode cX10_keep 177 = .ok (.iload 6, 2) := by decide +kernel
theorem dX10_keep_179 : decode cX10_keep 179 = .ok (.iaload, 1) := by decide +kernel
theorem dX10_keep_180 : decode cX10_keep 180 = .ok (.iadd, 1) := by decide +kernel
theorem dX10_keep_181 : decode cX10_keep 181 = .ok (.iaload, 1) := by decide +kernel
theorem dX10_keep_182 : decode cX10_keep 182 = .ok (.iadd, 1) := by decide +kernel
theorem dX10_keep_183 : decode cX10_keep 183 = .ok (.istore 5, 2) := by decide +kernel
theorem dX10_keep_185 : decode cX10_keep 185 = .ok (.iinc 6 1, 3) := by decide +kernel
theorem dX10_keep_188 : decode cX10_keep 188 = .ok (.goto (-47), 3) := by decide +kernel
def wo_keep : List Cond := [.code yX10_keep cX10_keep 7 none, .methodLink RX10 289 yX10_startLate, .instanceMethod yX10_startLate, .selects RX10 yX10_startLate yX10_startLate, .initialized RX10, .methodLink RX10 295 yX10_metBy, .instanceMethod yX10_metBy, .selects RX10 yX10_metBy yX10_metBy, .methodLink RX10 312 yX10_periodsOf, .instanceMethod yX10_periodsOf, .selects RX10 yX10_periodsOf yX10_periodsOf, .methodLink RX10 278 yX10_earlyOf, .instanceMethod yX10_earlyOf, .selects RX10 yX10_earlyOf yX10_earlyOf, .methodLink RX10 272 yX10_shared, .instanceMethod yX10_shared, .selects RX10 yX10_shared yX10_shared]
def wr_keep : List Cond := (wfX10 ++ (w_startLate ++ (w_metBy ++ (w_periodsOf ++ (w_earlyOf ++ (w_shared ++ ([])))))))
def w_keep : List Cond := wo_keep ++ wr_keep
theorem wg_keep : GW w_keep := GW_app (GW_of (by decide +kernel)) (GW_app (wg_fX10) (GW_app (wg_startLate) (GW_app (wg_metBy) (GW_app (wg_periodsOf) (GW_app (wg_earlyOf) (GW_app (wg_shared) (GW_nil)))))))
theorem in_keep : ∀ w ∈ wfX10, w ∈ w_keep := fun _ h => List.mem_append_right _ (List.mem_append_left _ h)
theorem g_keep_startLate_289 : GoodIn w_keep (wsV RX10 289 RX10 yX10_startLate w_startLate) := goodIn_app (gi_left (goodIn_of _ (by decide +kernel))) (fun w h => ⟨List.mem_append_right _ (List.mem_append_right _ (List.mem_append_left _ h)), wg_startLate w h⟩)
theorem g_keep_metBy_295 : GoodIn w_keep (wsV RX10 295 RX10 yX10_metBy w_metBy) := goodIn_app (gi_left (goodIn_of _ (by decide +kernel))) (fun w h => ⟨List.mem_append_right _ (List.mem_append_right _ (List.mem_append_right _ (List.mem_append_left _ h))), wg_metBy w h⟩)
theorem g_keep_periodsOf_312 : GoodIn w_keep (wsV RX10 312 RX10 yX10_periodsOf w_periodsOf) := goodIn_app (gi_left (goodIn_of _ (by decide +kernel))) (fun w h => ⟨List.mem_append_right _ (List.mem_append_right _ (List.mem_append_right _ (List.mem_append_right _ (List.mem_append_left _ h)))), wg_periodsOf w h⟩)
theorem g_keep_earlyOf_278 : GoodIn w_keep (wsV RX10 278 RX10 yX10_earlyOf w_earlyOf) := goodIn_app (gi_left (goodIn_of _ (by decide +kernel))) (fun w h => ⟨List.mem_append_right _ (List.mem_append_right _ (List.mem_append_right _ (List.mem_append_right _ (List.mem_append_right _ (List.mem_append_left _ h))))), wg_earlyOf w h⟩)
theorem g_keep_shared_272 : GoodIn w_keep (wsV RX10 272 RX10 yX10_shared w_shared) := goodIn_app (gi_left (goodIn_of _ (by decide +kernel))) (fun w h => ⟨List.mem_append_right _ (List.mem_append_right _ (List.mem_append_right _ (List.mem_append_right _ (List.mem_append_right _ (List.mem_append_right _ (List.mem_append_left _ h)))))), wg_shared w h⟩)
set_option maxHeartbeats 4000000 in
set_option maxRecDepth 100000 in
theorem ct_keep (l : Launch) (E : gE) (B : Nat → Nat) (Q : VS → Prop) (p1 : Int32) (p2 : Int32) (p3 : Int32) (σ : VS) (hw : wp_keep Q p1 p2 p3 σ) : CtV l E yX10_keep w_keep (({ frames := 2, cells := 0, slots := 0, locals := 47 } : Room)) (wm E B σ) [.ref (B 0), .int p1, .int p2, .int p3] (fun w => ∃ σ' : VS, Q σ' ∧ w = wm E B σ') := by
  refine VC_V (cc := cX10_keep) (mL := 7) (rt := none) (lv0 := [(0, .ref (B 0)), (1, .int p1), (2, .int p2), (3, .int p3)]) rfl (by decide) rfl (Nat.le_of_ble_eq_true rfl) ?_
  intro p e s m below meth c A F
  replace F : Fx p s m _ meth c A E cX10_keep 7 none RX10 w_keep := F
  obtain ⟨X40, hX40⟩ : ∃ X : Int32 → Int32 → Int32 → Int32 → Int32 → VS → Prop, X = fun l1 l2 l3 l4 l5 σ => WB p l e (({ frames := 2, cells := 0, slots := 0, locals := 47 } : Room)) s m (#[.ref (B 0), .int p1, .int p2, .int p3]) below meth c (MQ below (va_Qv (fun w => ∃ σ' : VS, Q σ' ∧ w = wm E B σ') (AftU E A) A) (#[.ref (B 0), .int p1, .int p2, .int p3]) s (({ frames := 2, cells := 0, slots := 0, locals := 47 } : Room)).cells (({ frames := 2, cells := 0, slots := 0, locals := 47 } : Room)).slots A) A E (wm E B) 7 40 [(0, .ref (B 0)), (1, .int l1), (2, .int l2), (3, .int l3), (4, .int l4), (5, .int l5)] [] σ := ⟨_, rfl⟩
  have U_40 : ∀ (l1 : Int32) (l2 : Int32) (l3 : Int32) (l4 : Int32) (l5 : Int32) (σ : VS), X40 l1 l2 l3 l4 l5 σ → WB p l e (({ frames := 2, cells := 0, slots := 0, locals := 47 } : Room)) s m (#[.ref (B 0), .int p1, .int p2, .int p3]) below meth c (MQ below (va_Qv (fun w => ∃ σ' : VS, Q σ' ∧ w = wm E B σ') (AftU E A) A) (#[.ref (B 0), .int p1, .int p2, .int p3]) s (({ frames := 2, cells := 0, slots := 0, locals := 47 } : Room)).cells (({ frames := 2, cells := 0, slots := 0, locals := 47 } : Room)).slots A) A E (wm E B) 7 40 [(0, .ref (B 0)), (1, .int l1), (2, .int l2), (3, .int l3), (4, .int l4), (5, .int l5)] [] σ := by
    intro l1 l2 l3 l4 l5 σ hw; rw [hX40] at hw; exact hw
  obtain ⟨X141, hX141⟩ : ∃ X : Int32 → Int32 → Int32 → Int32 → Int32 → VS → Prop, X = fun l1 l2 l4 l5 l6 σ => WB p l e (({ frames := 2, cells := 0, slots := 0, locals := 47 } : Room)) s m (#[.ref (B 0), .int p1, .int p2, .int p3]) below meth c (MQ below (va_Qv (fun w => ∃ σ' : VS, Q σ' ∧ w = wm E B σ') (AftU E A) A) (#[.ref (B 0), .int p1, .int p2, .int p3]) s (({ frames := 2, cells := 0, slots := 0, locals := 47 } : Room)).cells (({ frames := 2, cells := 0, slots := 0, locals := 47 } : Room)).slots A) A E (wm E B) 7 141 [(0, .ref (B 0)), (1, .int l1), (2, .int l2), (4, .int l4), (5, .int l5), (6, .int l6)] [] σ := ⟨_, rfl⟩
  have U_141 : ∀ (l1 : Int32) (l2 : Int32) (l4 : Int32) (l5 : Int32) (l6 : Int32) (σ : VS), X141 l1 l2 l4 l5 l6 σ → WB p l e (({ frames := 2, cells := 0, slots := 0, locals := 47 } : Room)) s m (#[.ref (B 0), .int p1, .int p2, .int p3]) below meth c (MQ below (va_Qv (fun w => ∃ σ' : VS, Q σ' ∧ w = wm E B σ') (AftU E A) A) (#[.ref (B 0), .int p1, .int p2, .int p3]) s (({ frames := 2, cells := 0, slots := 0, locals := 47 } : Room)).cells (({ frames := 2, cells := 0, slots := 0, locals := 47 } : Room)).slots A) A E (wm E B) 7 141 [(0, .ref (B 0)), (1, .int l1), (2, .int l2), (4, .int l4), (5, .int l5), (6, .int l6)] [] σ := by
    intro l1 l2 l4 l5 l6 σ hw; rw [hX141] at hw; exact hw
  have C_40 : ∀ (l1 : Int32) (l2 : Int32) (l3 : Int32) (l4 : Int32) (l5 : Int32) (σ : VS), b_keep_40 X40 X141 Q l1 l2 l3 l4 l5 σ → X40 l1 l2 l3 l4 l5 σ := by
    intro l1 l2 l3 l4 l5 σ hw
    unfold b_keep_40 at hw
    rw [hX40]
    show WB p l e (({ frames := 2, cells := 0, slots := 0, locals := 47 } : Room)) s m (#[.ref (B 0), .int p1, .int p2, .int p3]) below meth c (MQ below (va_Qv (fun w => ∃ σ' : VS, Q σ' ∧ w = wm E B σ') (AftU E A) A) (#[.ref (B 0), .int p1, .int p2, .int p3]) s (({ frames := 2, cells := 0, slots := 0, locals := 47 } : Room)).cells (({ frames := 2, cells := 0, slots := 0, locals := 47 } : Room)).slots A) A E (wm E B) 7 40 [(0, .ref (B 0)), (1, .int l1), (2, .int l2), (3, .int l3), (4, .int l4), (5, .int l5)] [] σ
    refine R_iload F dX10_keep_40 5 rfl ?_
    refine R_iload_n F dX10_keep_42 rfl 2 rfl ?_
    refine R_icmp_gt (tgt := 92) F dX10_keep_43 (by decide) (fun hc => ?_) (fun hc => ?_)
    · replace hw := hw.1 hc
      refine R_aload_n F dX10_keep_92 rfl 0 rfl ?_
      refine gm_53 F in_keep dX10_keep_93 ?_
      refine R_bipush F 52 dX10_keep_96 (by decide) ?_
      refine R_iload F dX10_keep_98 4 rfl ?_
      refine R_imul F dX10_keep_100 ?_
      refine R_iload_n F dX10_keep_101 rfl 2 rfl ?_
      refine R_iadd F dX10_keep_102 ?_
      refine R_iconst F 1 dX10_keep_103 (by decide) ?_
      refine R_iadd F dX10_keep_104 ?_
      refine R_aload_n F dX10_keep_105 rfl 0 rfl ?_
      refine gm_61 F in_keep dX10_keep_106 ?_
      have hi := hw.1
      replace hw := hw.2
      refine R_sti F qm_53 um_53 dX10_keep_109 hi ?_
      refine R_aload_n F dX10_keep_110 rfl 0 rfl ?_
      refine gm_54 F in_keep dX10_keep_111 ?_
      refine R_bipush F 52 dX10_keep_114 (by decide) ?_
      refine R_iload F dX10_keep_116 4 rfl ?_
      refine R_imul F dX10_keep_118 ?_
      refine R_iload_n F dX10_keep_119 rfl 2 rfl ?_
      refine R_iadd F dX10_keep_120 ?_
      refine R_iconst F 1 dX10_keep_121 (by decide) ?_
      refine R_iadd F dX10_keep_122 ?_
      refine R_iload_n F dX10_keep_123 rfl 3 rfl ?_
      have hi := hw.1
      replace hw := hw.2
      refine R_sti F qm_54 um_54 dX10_keep_124 hi ?_
      refine R_aload_n F dX10_keep_125 rfl 0 rfl ?_
      refine R_iload_n F dX10_keep_126 rfl 1 rfl ?_
      refine R_aload_n F dX10_keep_127 rfl 0 rfl ?_
      refine gm_59 F in_keep dX10_keep_128 ?_
      refine R_iconst F 0 dX10_keep_131 (by decide) ?_
      refine R_ldi F qm_59 dX10_keep_132 (⟨by decide, by decide⟩ : In 0 52) ?_
      refine R_callI (As := [.int l1, .int (rd (sa (sa σ 53 (((52 * l4) + l2) + 1) (σ.1 61)) 54 (((52 * l4) + l2) + 1) l3) 59 0)]) (C := RX10) (q0 := 0) (ci := 10) (N := 69) (T := TX10) (fs := mfl B) F (ct_startLate l E B _ l1 (rd (sa (sa σ 53 (((52 * l4) + l2) + 1) (σ.1 61)) 54 (((52 * l4) + l2) + 1) l3) 59 0) _ hw) (cwV 2 F.2.2.2.2.2.2.2.2.2.2 g_keep_startLate_289 rfl rfl rfl (by decide +kernel) ⟨Nat.le_of_ble_eq_true rfl, Nat.le_of_ble_eq_true rfl⟩) ⟨rfl, rfl⟩ rfl (fun _ => rfl) rfl rfl (Nat.le_of_ble_eq_true rfl) dX10_keep_133 (fun r2 σ3 hw => ?_)
      refine R_istore (lv' := [(5, .int r2), (0, .ref (B 0)), (1, .int l1), (2, .int l2), (3, .int l3), (4, .int l4)]) F dX10_keep_136 (by decide) rfl ?_
      refine R_iconst F 1 dX10_keep_138 (by decide) ?_
      refine R_istore (lv' := [(6, .int 1), (5, .int r2), (0, .ref (B 0)), (1, .int l1), (2, .int l2), (3, .int l3), (4, .int l4)]) F dX10_keep_139 (by decide) rfl ?_
      exact R_sub [2, 3, 4, 6, 1, 0] rfl (U_141 l1 l2 l4 r2 1 σ3 hw)
    · replace hw := hw.2 hc
      refine R_aload_n F dX10_keep_46 rfl 0 rfl ?_
      refine gm_53 F in_keep dX10_keep_47 ?_
      refine R_bipush F 52 dX10_keep_50 (by decide) ?_
      refine R_iload F dX10_keep_52 4 rfl ?_
      refine R_imul F dX10_keep_54 ?_
      refine R_iload F dX10_keep_55 5 rfl ?_
      refine R_iadd F dX10_keep_57 ?_
      refine R_aload_n F dX10_keep_58 rfl 0 rfl ?_
      refine gm_57 F in_keep dX10_keep_59 ?_
      refine R_iload F dX10_keep_62 5 rfl ?_
      refine R_ldi F qm_57 dX10_keep_64 hw.1 ?_
      replace hw := hw.2
      have hi := hw.1
      replace hw := hw.2
      refine R_sti F qm_53 um_53 dX10_keep_65 hi ?_
      refine R_aload_n F dX10_keep_66 rfl 0 rfl ?_
      refine gm_54 F in_keep dX10_keep_67 ?_
      refine R_bipush F 52 dX10_keep_70 (by decide) ?_
      refine R_iload F dX10_keep_72 4 rfl ?_
      refine R_imul F dX10_keep_74 ?_
      refine R_iload F dX10_keep_75 5 rfl ?_
      refine R_iadd F dX10_keep_77 ?_
      refine R_aload_n F dX10_keep_78 rfl 0 rfl ?_
      refine gm_58 F in_keep dX10_keep_79 ?_
      refine R_iload F dX10_keep_82 5 rfl ?_
      refine R_ldi F qm_58 dX10_keep_84 hw.1 ?_
      replace hw := hw.2
      have hi := hw.1
      replace hw := hw.2
      refine R_sti F qm_54 um_54 dX10_keep_85 hi ?_
      refine R_iinc (q := 5) (v := (l5 + 1)) (lv' := [(5, .int (l5 + 1)), (0, .ref (B 0)), (1, .int l1), (2, .int l2), (3, .int l3), (4, .int l4)]) F dX10_keep_86 rfl rfl (by decide) rfl ?_
      refine R_goto (tgt := 40) F dX10_keep_89 (by decide) ?_
      exact R_sub [1, 2, 3, 4, 5, 0] rfl (U_40 l1 l2 l3 l4 (l5 + 1) (sa (sa σ 53 ((52 * l4) + l5) (rd σ 57 l5)) 54 ((52 * l4) + l5) (rd (sa σ 53 ((52 * l4) + l5) (rd σ 57 l5)) 58 l5)) hw)
  have C_141 : ∀ (l1 : Int32) (l2 : Int32) (l4 : Int32) (l5 : Int32) (l6 : Int32) (σ : VS), b_keep_141 X40 X141 Q l1 l2 l4 l5 l6 σ → X141 l1 l2 l4 l5 l6 σ := by
    intro l1 l2 l4 l5 l6 σ hw
    unfold b_keep_141 at hw
    rw [hX141]
    show WB p l e (({ frames := 2, cells := 0, slots := 0, locals := 47 } : Room)) s m (#[.ref (B 0), .int p1, .int p2, .int p3]) below meth c (MQ below (va_Qv (fun w => ∃ σ' : VS, Q σ' ∧ w = wm E B σ') (AftU E A) A) (#[.ref (B 0), .int p1, .int p2, .int p3]) s (({ frames := 2, cells := 0, slots := 0, locals := 47 } : Room)).cells (({ frames := 2, cells := 0, slots := 0, locals := 47 } : Room)).slots A) A E (wm E B) 7 141 [(0, .ref (B 0)), (1, .int l1), (2, .int l2), (4, .int l4), (5, .int l5), (6, .int l6)] [] σ
    refine R_iload F dX10_keep_141 5 rfl ?_
    refine R_iload_n F dX10_keep_143 rfl 2 rfl ?_
    refine R_icmp_gt (tgt := 191) F dX10_keep_144 (by decide) (fun hc => ?_) (fun hc => ?_)
    · replace hw := hw.1 hc
      refine R_aload_n F dX10_keep_191 rfl 0 rfl ?_
      refine R_iload_n F dX10_keep_192 rfl 1 rfl ?_
      refine R_aload_n F dX10_keep_193 rfl 0 rfl ?_
      refine gm_61 F in_keep dX10_keep_194 ?_
      refine R_aload_n F dX10_keep_197 rfl 0 rfl ?_
      refine gm_60 F in_keep dX10_keep_198 ?_
      refine R_iload_n F dX10_keep_201 rfl 2 rfl ?_
      refine R_ldi F qm_60 dX10_keep_202 hw.1 ?_
      replace hw := hw.2
      refine R_aload_n F dX10_keep_203 rfl 0 rfl ?_
      refine R_aload_n F dX10_keep_204 rfl 0 rfl ?_
      refine gm_61 F in_keep dX10_keep_205 ?_
      refine R_callI (As := [.int (σ.1 61)]) (C := RX10) (q0 := 0) (ci := 10) (N := 69) (T := TX10) (fs := mfl B) F (ct_metBy l E B _ (σ.1 61) _ hw) (cwV 1 F.2.2.2.2.2.2.2.2.2.2 g_keep_metBy_295 rfl rfl rfl (by decide +kernel) ⟨Nat.le_of_ble_eq_true rfl, Nat.le_of_ble_eq_true rfl⟩) ⟨rfl, rfl⟩ rfl (fun _ => rfl) rfl rfl (Nat.le_of_ble_eq_true rfl) dX10_keep_208 (fun r4 σ5 hw => ?_)
      refine R_ior F dX10_keep_211 ?_
      refine R_callI (As := [.int l1, .int (σ.1 61), .int ((rd σ 60 l2) ||| r4)]) (C := RX10) (q0 := 0) (ci := 10) (N := 69) (T := TX10) (fs := mfl B) F (ct_periodsOf l E B _ l1 (σ.1 61) ((rd σ 60 l2) ||| r4) _ hw) (cwV 3 F.2.2.2.2.2.2.2.2.2.2 g_keep_periodsOf_312 rfl rfl rfl (by decide +kernel) ⟨Nat.le_of_ble_eq_true rfl, Nat.le_of_ble_eq_true rfl⟩) ⟨rfl, rfl⟩ rfl (fun _ => rfl) rfl rfl (Nat.le_of_ble_eq_true rfl) dX10_keep_212 (fun r6 σ7 hw => ?_)
      refine R_istore (lv' := [(6, .int r6), (0, .ref (B 0)), (1, .int l1), (2, .int l2), (4, .int l4), (5, .int l5)]) F dX10_keep_215 (by decide) rfl ?_
      refine R_aload_n F dX10_keep_217 rfl 1 rfl ?_
      refine gm_49 F in_keep dX10_keep_218 ?_
      refine R_iload F dX10_keep_221 4 rfl ?_
      refine R_iload F dX10_keep_223 0 rfl ?_
      refine R_aload_n F dX10_keep_225 rfl 1 rfl ?_
      refine gm_20 F in_keep dX10_keep_226 ?_
      refine R_imul F dX10_keep_229 ?_
      refine R_aload_n F dX10_keep_230 rfl 1 rfl ?_
      refine R_aload_n F dX10_keep_231 rfl 1 rfl ?_
      refine gm_11 F in_keep dX10_keep_232 ?_
      refine R_aload_n F dX10_keep_235 rfl 1 rfl ?_
      refine gm_61 F in_keep dX10_keep_236 ?_
      refine R_ldi F qm_11 dX10_keep_239 hw.1 ?_
      replace hw := hw.2
      refine R_callI (As := [.int (rd σ7 11 (σ7.1 61))]) (C := RX10) (q0 := 0) (ci := 10) (N := 69) (T := TX10) (fs := mfl B) F (ct_earlyOf l E B _ (rd σ7 11 (σ7.1 61)) _ hw) (cwV 1 F.2.2.2.2.2.2.2.2.2.2 g_keep_earlyOf_278 rfl rfl rfl (by decide +kernel) ⟨Nat.le_of_ble_eq_true rfl, Nat.le_of_ble_eq_true rfl⟩) ⟨rfl, rfl⟩ rfl (fun _ => rfl) rfl rfl (Nat.le_of_ble_eq_true rfl) dX10_keep_240 (fun r8 σ9 hw => ?_)
      refine R_iadd F dX10_keep_243 ?_
      refine R_aload_n F dX10_keep_244 rfl 1 rfl ?_
      refine gm_12 F in_keep dX10_keep_245 ?_
      refine R_aload_n F dX10_keep_248 rfl 1 rfl ?_
      refine gm_61 F in_keep dX10_keep_249 ?_
      refine R_ldi F qm_12 dX10_keep_252 hw.1 ?_
      replace hw := hw.2
      refine R_isub F dX10_keep_253 ?_
      refine R_aload_n F dX10_keep_254 rfl 1 rfl ?_
      refine R_iload_n F dX10_keep_255 rfl 2 rfl ?_
      refine R_aload_n F dX10_keep_256 rfl 1 rfl ?_
      refine gm_61 F in_keep dX10_keep_257 ?_
      refine R_callI (As := [.int l1, .int (σ9.1 61)]) (C := RX10) (q0 := 0) (ci := 10) (N := 69) (T := TX10) (fs := mfl B) F (ct_shared l E B _ l1 (σ9.1 61) _ hw) (cwV 2 F.2.2.2.2.2.2.2.2.2.2 g_keep_shared_272 rfl rfl rfl (by decide +kernel) ⟨Nat.le_of_ble_eq_true rfl, Nat.le_of_ble_eq_true rfl⟩) ⟨rfl, rfl⟩ rfl (fun _ => rfl) rfl rfl (Nat.le_of_ble_eq_true rfl) dX10_keep_260 (fun r10 σ11 hw => ?_)
      refine R_iadd F dX10_keep_263 ?_
      refine R_iload F dX10_keep_264 5 rfl ?_
      refine R_isub F dX10_keep_266 ?_
      have hi := hw.1
      replace hw := hw.2
      refine R_sti F qm_49 um_49 dX10_keep_267 hi ?_
      refine R_aload_n F dX10_keep_268 rfl 1 rfl ?_
      refine R_dup F dX10_keep_269 rfl ?_
      refine gm_48 F in_keep dX10_keep_270 ?_
      refine R_iconst F 1 dX10_keep_273 (by decide) ?_
      refine R_iadd F dX10_keep_274 ?_
      refine pm_48 F in_keep dX10_keep_275 ?_
      exact R_vret (Qc := Q) F dX10_keep_278 hw
    · replace hw := hw.2 hc
      refine R_iload F dX10_keep_147 4 rfl ?_
      refine R_aload_n F dX10_keep_149 rfl 0 rfl ?_
      refine gm_36 F in_keep dX10_keep_150 ?_
      refine R_bipush F 8 dX10_keep_153 (by decide) ?_
      refine R_aload_n F dX10_keep_155 rfl 0 rfl ?_
      refine gm_57 F in_keep dX10_keep_156 ?_
      refine R_iload F dX10_keep_159 5 rfl ?_
      refine R_ldi F qm_57 dX10_keep_161 hw.1 ?_
      replace hw := hw.2
      refine R_imul F dX10_keep_162 ?_
      refine R_iconst F 2 dX10_keep_163 (by decide) ?_
      refine R_aload_n F dX10_keep_164 rfl 0 rfl ?_
      refine gm_58 F in_keep dX10_keep_165 ?_
      refine R_iload F dX10_keep_168 5 rfl ?_
      refine R_ldi F qm_58 dX10_keep_170 hw.1 ?_
      replace hw := hw.2
      refine R_imul F dX10_keep_171 ?_
      refine R_iadd F dX10_keep_172 ?_
      refine R_aload_n F dX10_keep_173 rfl 0 rfl ?_
      refine gm_59 F in_keep dX10_keep_174 ?_
      refine R_iload F dX10_keep_177 5 rfl ?_
      refine R_ldi F qm_59 dX10_keep_179 hw.1 ?_
      replace hw := hw.2
      refine R_iadd F dX10_keep_180 ?_
      refine R_ldi F qm_36 dX10_keep_181 hw.1 ?_
      replace hw := hw.2
      refine R_iadd F dX10_keep_182 ?_
      refine R_topi (fun x12 ex12 => ?_)
      replace hw := hw x12 ex12
      refine R_istore (lv' := [(5, .int x12), (0, .ref (B 0)), (1, .int l1), (2, .int l2), (4, .int l4), (6, .int l6)]) F dX10_keep_183 (by decide) rfl ?_
      refine R_iinc (q := 5) (v := (l6 + 1)) (lv' := [(6, .int (l6 + 1)), (5, .int x12), (0, .ref (B 0)), (1, .int l1), (2, .int l2), (4, .int l4)]) F dX10_keep_185 rfl rfl (by decide) rfl ?_
      refine R_goto (tgt := 141) F dX10_keep_188 (by decide) ?_
      exact R_sub [2, 3, 4, 5, 1, 0] rfl (U_141 l1 l2 l4 x12 (l6 + 1) σ hw)
  unfold wp_keep at hw
  replace hw := hw X40 X141 C_40 C_141
  refine R_aload_n F dX10_keep_0 rfl 0 rfl ?_
  refine gm_48 F in_keep dX10_keep_1 ?_
  refine R_topi (fun x1 ex1 => ?_)
  replace hw := hw x1 ex1
  refine R_istore (lv' := [(4, .int x1), (0, .ref (B 0)), (1, .int p1), (2, .int p2), (3, .int p3)]) F dX10_keep_4 (by decide) rfl ?_
  refine R_aload_n F dX10_keep_6 rfl 1 rfl ?_
  refine gm_50 F in_keep dX10_keep_7 ?_
  refine R_iload F dX10_keep_10 0 rfl ?_
  refine R_iload_n F dX10_keep_12 rfl 2 rfl ?_
  have hi := hw.1
  replace hw := hw.2
  refine R_sti F qm_50 um_50 dX10_keep_13 hi ?_
  refine R_aload_n F dX10_keep_14 rfl 1 rfl ?_
  refine gm_51 F in_keep dX10_keep_15 ?_
  refine R_iload F dX10_keep_18 0 rfl ?_
  refine R_aload_n F dX10_keep_20 rfl 1 rfl ?_
  refine gm_59 F in_keep dX10_keep_21 ?_
  refine R_iconst F 0 dX10_keep_24 (by decide) ?_
  refine R_ldi F qm_59 dX10_keep_25 (⟨by decide, by decide⟩ : In 0 52) ?_
  have hi := hw.1
  replace hw := hw.2
  refine R_sti F qm_51 um_51 dX10_keep_26 hi ?_
  refine R_aload_n F dX10_keep_27 rfl 1 rfl ?_
  refine gm_52 F in_keep dX10_keep_28 ?_
  refine R_iload F dX10_keep_31 0 rfl ?_
  refine R_iload_n F dX10_keep_33 rfl 3 rfl ?_
  refine R_iconst F 2 dX10_keep_34 (by decide) ?_
  refine R_iadd F dX10_keep_35 ?_
  have hi := hw.1
  replace hw := hw.2
  refine R_sti F qm_52 um_52 dX10_keep_36 hi ?_
  refine R_iconst F 0 dX10_keep_37 (by decide) ?_
  refine R_istore (lv' := [(5, .int 0), (4, .int x1), (0, .ref (B 0)), (1, .int p1), (2, .int p2), (3, .int p3)]) F dX10_keep_38 (by decide) rfl ?_
  exact R_sub [2, 3, 4, 5, 1, 0] rfl (U_40 p1 p2 p3 x1 0 (sa (sa (sa σ 50 x1 p1) 51 x1 (rd (sa σ 50 x1 p1) 59 0)) 52 x1 (p2 + 2)) hw)
def b_goFrom_387 (X64 : Int32 → Int32 → Int32 → Int32 → VS → Prop) (Q : VS → Prop) (l1 : Int32) (l3 : Int32) (l4 : Int32) (l5 : Int32) (σ : VS) : Prop := X64 l1 l3 l4 l5 σ
def b_goFrom_366 (X64 : Int32 → Int32 → Int32 → Int32 → VS → Prop) (Q : VS → Prop) (l1 : Int32) (l3 : Int32) (l4 : Int32) (l5 : Int32) (σ : VS) : Prop := (In l4 50 ∧ (((l5 + 1).toInt < (rd σ 3 l4).toInt → b_goFrom_387 X64 Q l1 l3 l4 (l5 + 1) σ) ∧ ((rd σ 3 l4).toInt ≤ (l5 + 1).toInt → b_goFrom_387 X64 Q l1 l3 (l4 + 1) 0 σ)))
def b_goFrom_279 (X64 : Int32 → Int32 → Int32 → Int32 → VS → Prop) (Q : VS → Prop) (l1 : Int32) (l3 : Int32) (l4 : Int32) (l5 : Int32) (l7 : Int32) (k0 : Int32) (σ : VS) : Prop := (In l3 52 ∧ wp_metBy (fun (r13 : Int32) (σ14 : VS) => (∀ x15 : Int32, x15 = ((rd σ 60 l3) ||| r13) → ((l7.toInt = 0 → b_goFrom_366 X64 Q l1 l3 l4 l5 σ14) ∧ (l7.toInt ≠ 0 → (In ((16 * ((2 * l4) + k0)) + x15) 1600 ∧ (((rd σ14 56 ((16 * ((2 * l4) + k0)) + x15)).toInt = 0 → b_goFrom_366 X64 Q l1 l3 l4 l5 σ14) ∧ ((rd σ14 56 ((16 * ((2 * l4) + k0)) + x15)).toInt ≠ 0 → (In (l3 + 1) 52 ∧ (In (l3 + 1) 52 ∧ (In (l3 + 1) 52 ∧ (In (l3 + 1) 52 ∧ X64 l1 (l3 + 1) 0 0 (sa (sa (sa (sa σ14 57 (l3 + 1) l4) 58 (l3 + 1) l5) 59 (l3 + 1) k0) 60 (l3 + 1) x15)))))))))))) l4 σ)
def b_goFrom_249 (X64 : Int32 → Int32 → Int32 → Int32 → VS → Prop) (Q : VS → Prop) (l1 : Int32) (l3 : Int32) (l4 : Int32) (l5 : Int32) (k0 : Int32) (σ : VS) : Prop := (In l4 50 ∧ (((rd σ 2 l4).toInt ≠ 2 → (In l3 52 ∧ b_goFrom_279 X64 Q l1 l3 l4 l5 k0 (rd σ 59 l3) σ)) ∧ ((rd σ 2 l4).toInt = 2 → (In l3 52 ∧ b_goFrom_279 X64 Q l1 l3 l4 l5 k0 (1 - (rd σ 59 l3)) σ))))
def b_goFrom_248 (X64 : Int32 → Int32 → Int32 → Int32 → VS → Prop) (Q : VS → Prop) (l1 : Int32) (l3 : Int32) (l4 : Int32) (l5 : Int32) (σ : VS) : Prop := b_goFrom_249 X64 Q l1 l3 l4 l5 0 σ
def b_goFrom_210 (X64 : Int32 → Int32 → Int32 → Int32 → VS → Prop) (Q : VS → Prop) (l1 : Int32) (l3 : Int32) (l4 : Int32) (l5 : Int32) (l6 : Int32) (σ : VS) : Prop := ((l6.toInt = 0 → b_goFrom_248 X64 Q l1 l3 l4 l5 σ) ∧ (l6.toInt ≠ 0 → wp_isGate (fun (r11 : Int32) (σ12 : VS) => ((r11.toInt = 0 → b_goFrom_248 X64 Q l1 l3 l4 l5 σ12) ∧ (r11.toInt ≠ 0 → (In l4 50 ∧ (((rd σ12 34 l4).toInt = 0 → b_goFrom_248 X64 Q l1 l3 l4 l5 σ12) ∧ ((rd σ12 34 l4).toInt ≠ 0 → (In l4 50 ∧ (((rd σ12 35 l4).toInt ≠ 0 → b_goFrom_248 X64 Q l1 l3 l4 l5 σ12) ∧ ((rd σ12 35 l4).toInt = 0 → b_goFrom_249 X64 Q l1 l3 l4 l5 1 σ12))))))))) l4 σ))
def b_goFrom_161 (X64 : Int32 → Int32 → Int32 → Int32 → VS → Prop) (Q : VS → Prop) (l1 : Int32) (l3 : Int32) (l4 : Int32) (l5 : Int32) (k0 : Int32) (σ : VS) : Prop := ((k0.toInt = 0 → b_goFrom_210 X64 Q l1 l3 l4 l5 k0 σ) ∧ (k0.toInt ≠ 0 → ((l4.toInt ≠ (σ.1 61).toInt → b_goFrom_210 X64 Q l1 l3 l4 l5 k0 σ) ∧ (l4.toInt = (σ.1 61).toInt → (In l3 52 ∧ wp_metBy (fun (r5 : Int32) (σ6 : VS) => wp_periodsOf (fun (r7 : Int32) (σ8 : VS) => ((r7.toInt ≤ 0 → b_goFrom_210 X64 Q l1 l3 l4 l5 k0 σ8) ∧ (0 < r7.toInt → wp_keep (fun (σ10 : VS) => b_goFrom_210 X64 Q l1 l3 l4 l5 k0 σ10) l1 l3 l5 σ8))) l1 (σ.1 61) ((rd σ 60 l3) ||| r5) σ6) l4 σ)))))
def b_goFrom_160 (X64 : Int32 → Int32 → Int32 → Int32 → VS → Prop) (Q : VS → Prop) (l1 : Int32) (l3 : Int32) (l4 : Int32) (l5 : Int32) (σ : VS) : Prop := b_goFrom_161 X64 Q l1 l3 l4 l5 0 σ
def b_goFrom_64 (X64 : Int32 → Int32 → Int32 → Int32 → VS → Prop) (Q : VS → Prop) (l1 : Int32) (l3 : Int32) (l4 : Int32) (l5 : Int32) (σ : VS) : Prop := ((l3.toInt < 0 → Q σ) ∧ (0 ≤ l3.toInt → ((l4.toInt ≠ (σ.1 1).toInt → (In l4 50 ∧ (((rd σ 3 l4).toInt ≤ l5.toInt → b_goFrom_160 X64 Q l1 l3 l4 l5 σ) ∧ (l5.toInt < (rd σ 3 l4).toInt → (In ((4 * l4) + l5) 200 ∧ (In l3 52 ∧ (((rd σ 7 ((4 * l4) + l5)).toInt ≠ (rd σ 57 l3).toInt → b_goFrom_160 X64 Q l1 l3 l4 l5 σ) ∧ ((rd σ 7 ((4 * l4) + l5)).toInt = (rd σ 57 l3).toInt → b_goFrom_161 X64 Q l1 l3 l4 l5 1 σ)))))))) ∧ (l4.toInt = (σ.1 1).toInt → (In l3 52 ∧ (∀ x3 : Int32, x3 = (rd σ 57 l3) → (In l3 52 ∧ (∀ x4 : Int32, x4 = ((rd σ 58 l3) + 1) → (((l3 + (-1)).toInt < 0 → X64 l1 (l3 + (-1)) x3 x4 σ) ∧ (0 ≤ (l3 + (-1)).toInt → (In x3 50 ∧ ((x4.toInt < (rd σ 3 x3).toInt → X64 l1 (l3 + (-1)) x3 x4 σ) ∧ ((rd σ 3 x3).toInt ≤ x4.toInt → X64 l1 (l3 + (-1)) (x3 + 1) 0 σ)))))))))))))
def wp_goFrom (Q : VS → Prop) (p1 : Int32) (p2 : Int32) (σ : VS) : Prop := ∀ (X64 : Int32 → Int32 → Int32 → Int32 → VS → Prop), (∀ (l1 : Int32) (l3 : Int32) (l4 : Int32) (l5 : Int32) (σ : VS), b_goFrom_64 X64 Q l1 l3 l4 l5 σ → X64 l1 l3 l4 l5 σ) → wp_metBy (fun (r1 : Int32) (σ2 : VS) => (In ((16 * ((2 * p1) + p2)) + (rd (sa σ2 60 0 r1) 60 0)) 1600 ∧ (((rd (sa σ2 60 0 r1) 56 ((16 * ((2 * p1) + p2)) + (rd (sa σ2 60 0 r1) 60 0))).toInt ≠ 0 → X64 p1 0 0 0 (sa σ2 60 0 r1)) ∧ ((rd (sa σ2 60 0 r1) 56 ((16 * ((2 * p1) + p2)) + (rd (sa σ2 60 0 r1) 60 0))).toInt = 0 → Q (sa σ2 60 0 r1))))) p1 (sa (sa (sa σ 57 0 p1) 58 0 (-1)) 59 0 p2)
theorem dX10_goFrom_0 : decode cX10_goFrom 0 = .ok (.iconst 0, 1) := by decide +kernel
theorem dX10_goFrom_1 : decode cX10_goFrom 1 = .ok (.istore_n 3, 1) := by decide +kernel
theorem dX10_goFrom_2 : decode cX10_goFrom 2 = .ok (.aload_n 0, 1) := by decide +kernel
theorem dX10_goFrom_3 : decode cX10_goFrom 3 = .ok (.getfield 184, 3) := by decide +kernel
theorem dX10_goFrom_6 : decode cX10_goFrom 6 = .ok (.iconst 0, 1) := by decide +kernel
theorem dX10_goFrom_7 : decode cX10_goFrom 7 = .ok (.iload_n 1, 1) := by decide +kernel
theorem dX10_goFrom_8 : decode cX10_goFrom 8 = .ok (.iastore, 1) := by decide +kernel
theorem dX10_goFrom_9 : decode cX10_goFrom 9 = .ok (.aload_n 0, 1) := by decide +kernel
theorem dX10_goFrom_10 : decode cX10_goFrom 10 = .ok (.getfield 187, 3) := by decide +kernel
theorem dX10_goFrom_13 : decode cX10_goFrom 13 = .ok (.iconst 0, 1) := by decide +kernel
theorem dX10_goFrom_14 : decode cX10_goFrom 14 = .ok (.iconst (-1), 1) := by decide +kernel
theorem dX10_goFrom_15 : decode cX10_goFrom 15 = .ok (.iastore, 1) := by decide +kernel
theorem dX10_goFrom_16 : decode cX10_goFrom 16 = .ok (.aload_n 0, 1) := by decide +kernel
theorem dX10_goFrom_17 : decode cX10_goFrom 17 = .ok (.getfield 190, 3) := by decide +kernel
theorem dX10_goFrom_20 : decode cX10_goFrom 20 = .ok (.iconst 0, 1) := by decide +kernel
theorem dX10_goFrom_21 : decode cX10_goFrom 21 = .ok (.iload_n 2, 1) := by decide +kernel
theorem dX10_goFrom_22 : decode cX10_goFrom 22 = .ok (.iastore, 1) := by decide +kernel
theorem dX10_goFrom_23 : decode cX10_goFrom 23 = .ok (.aload_n 0, 1) := by decide +kernel
theorem dX10_goFrom_24 : decode cX10_goFrom 24 = .ok (.getfield 193, 3) := by decide +kernel
theorem dX10_goFrom_27 : decode cX10_goFrom 27 = .ok (.iconst 0, 1) := by decide +kernel
theorem dX10_goFrom_28 : decode cX10_goFrom 28 = .ok (.aload_n 0, 1) := by decide +kernel
theorem dX10_goFrom_29 : decode cX10_goFrom 29 = .ok (.iload_n 1, 1) := by decide +kernel
theorem dX10_goFrom_30 : decode cX10_goFrom 30 = .ok (.invokevirtual 295, 3) := by decide +kernel
theorem dX10_goFrom_33 : decode cX10_goFrom 33 = .ok (.iastore, 1) := by decide +kernel
theorem dX10_goFrom_34 : decode cX10_goFrom 34 = .ok (.aload_n 0, 1) := by decide +kernel
theorem dX10_goFrom_35 : decode cX10_goFrom 35 = .ok (.getfield 181, 3) := by decide +kernel
theorem dX10_goFrom_38 : decode cX10_goFrom 38 = .ok (.bipush 16, 2) := by decide +kernel
theorem dX10_goFrom_40 : decode cX10_goFrom 40 = .ok (.iconst 2, 1) := by decide +kernel
theorem dX10_goFrom_41 : decode cX10_goFrom 41 = .ok (.iload_n 1, 1) := by decide +kernel
theorem dX10_goFrom_42 : decode cX10_goFrom 42 = .ok (.imul, 1) := by decide +kernel
theorem dX10_goFrom_43 : decode cX10_goFrom 43 = .ok (.iload_n 2, 1) := by decide +kernel
theorem dX10_goFrom_44 : decode cX10_goFrom 44 = .ok (.iadd, 1) := by decide +kernel
theorem dX10_goFrom_45 : decode cX10_goFrom 45 = .ok (.imul, 1) := by decide +kernel
theorem dX10_goFrom_46 : decode cX10_goFrom 46 = .ok (.aload_n 0, 1) := by decide +kernel
theorem dX10_goFrom_47 : decode cX10_goFrom 47 = .ok (.getfield 193, 3) := by decide +kernel
theorem dX10_goFrom_50 : decode cX10_goFrom 50 = .ok (.iconst 0, 1) := by decide +kernel
theorem dX10_goFrom_51 : decode cX10_goFrom 51 = .ok (.iaload, 1) := by decide +kernel
theorem dX10_goFrom_52 : decode cX10_goFrom 52 = .ok (.iadd, 1) := by decide +kernel
theorem dX10_goFrom_53 : decode cX10_goFrom 53 = .ok (.baload, 1) := by decide +kernel
theorem dX10_goFrom_54 : decode cX10_goFrom 54 = .ok (.ifCond .ne 4, 3) := by decide +kernel
theorem dX10_goFrom_58 : decode cX10_goFrom 58 = .ok (.iconst 0, 1) := by decide +kernel
theorem dX10_goFrom_59 : decode cX10_goFrom 59 = .ok (.istore 4, 2) := by decide +kernel
theorem dX10_goFrom_61 : decode cX10_goFrom 61 = .ok (.iconst 0, 1) := by decide +kernel
theorem dX10_goFrom_62 : decode cX10_goFrom 62 = .ok (.istore 5, 2) := by decide +kernel
theorem dX10_goFrom_57 : decode cX10_goFrom 57 = .ok (.return_, 1) := by decide +kernel
theorem dX10_goFrom_64 : decode cX10_goFrom 64 = .ok (.iload_n 3, 1) := by decide +kernel
theorem dX10_goFrom_65 : decode cX10_goFrom 65 = .ok (.ifCond .lt 325, 3) := by decide +kernel
theorem dX10_goFrom_390 : decode cX10_goFrom 390 = .ok (.return_, 1) := by decide +kernel
theorem dX10_goFrom_68 : decode cX10_goFrom 68 = .ok (.iload 4, 2) := by decide +kernel
theorem dX10_goFrom_70 : decode cX10_goFrom 70 = .ok (.aload_n 0, 1) := by decide +kernel
theorem dX10_goFrom_71 : decode cX10_goFrom 71 = .ok (.getfield 7, 3) := by decide +kernel
theorem dX10_goFrom_74 : decode cX10_goFrom 74 = .ok (.if_icmp .ne 49, 3) := by decide +kernel
theorem dX10_goFrom_123 : decode cX10_goFrom 123 = .ok (.iload 5, 2) := by decide +kernel
theorem dX10_goFrom_125 : decode cX10_goFrom 125 = .ok (.aload_n 0, 1) := by decide +kernel
theorem dX10_goFrom_126 : decode cX10_goFrom 126 = .ok (.getfield 14, 3) := by decide +kernel
theorem dX10_goFrom_129 : decode cX10_goFrom 129 = .ok (.iload 4, 2) := by decide +kernel
theorem dX10_goFrom_131 : decode cX10_goFrom 131 = .ok (.iaload, 1) := by decide +kernel
theorem dX10_goFrom_132 : decode cX10_goFrom 132 = .ok (.if_icmp .ge 28, 3) := by decide +kernel
theorem dX10_goFrom_135 : decode cX10_goFrom 135 = .ok (.aload_n 0, 1) := by decide +kernel
theorem dX10_goFrom_136 : decode cX10_goFrom 136 = .ok (.getfield 30, 3) := by decide +kernel
theorem dX10_goFrom_139 : decode cX10_goFrom 139 = .ok (.iconst 4, 1) := by decide +kernel
theorem dX10_goFrom_140 : decode cX10_goFrom 140 = .ok (.iload 4, 2) := by decide +kernel
theorem dX10_goFrom_142 : decode cX10_goFrom 142 = .ok (.imul, 1) := by decide +kernel
theorem dX10_goFrom_143 : decode cX10_goFrom 143 = .ok (.iload 5, 2) := by decide +kernel
theorem dX10_goFrom_145 : decode cX10_goFrom 145 = .ok (.iadd, 1) := by decide +kernel
theorem dX10_goFrom_146 : decode cX10_goFrom 146 = .ok (.iaload, 1) := by decide +kernel
theorem dX10_goFrom_147 : decode cX10_goFrom 147 = .ok (.aload_n 0, 1) := by decide +kernel
theorem dX10_goFrom_148 : decode cX10_goFrom 148 = .ok (.getfield 184, 3) := by decide +kernel
theorem dX10_goFrom_151 : decode cX10_goFrom 151 = .ok (.iload_n 3, 1) := by decide +kernel
theorem dX10_goFrom_152 : decode cX10_goFrom 152 = .ok (.iaload, 1) := by decide +kernel
theorem dX10_goFrom_153 : decode cX10_goFrom 153 = .ok (.if_icmp .ne 7, 3) := by decide +kernel
theorem dX10_goFrom_156 : decode cX10_goFrom 156 = .ok (.iconst 1, 1) := by decide +kernel
theorem dX10_goFrom_157 : decode cX10_goFrom 157 = .ok (.goto 4, 3) := by decide +kernel
theorem dX10_goFrom_77 : decode cX10_goFrom 77 = .ok (.aload_n 0, 1) := by decide +kernel
theorem dX10_goFrom_78 : decode cX10_goFrom 78 = .ok (.getfield 184, 3) := by decide +kernel
theorem dX10_goFrom_81 : decode cX10_goFrom 81 = .ok (.iload_n 3, 1) := by decide +kernel
theorem dX10_goFrom_82 : decode cX10_goFrom 82 = .ok (.iaload, 1) := by decide +kernel
theorem dX10_goFrom_83 : decode cX10_goFrom 83 = .ok (.istore 4, 2) := by decide +kernel
theorem dX10_goFrom_85 : decode cX10_goFrom 85 = .ok (.aload_n 0, 1) := by decide +kernel
theorem dX10_goFrom_86 : decode cX10_goFrom 86 = .ok (.getfield 187, 3) := by decide +kernel
theorem dX10_goFrom_89 : decode cX10_goFrom 89 = .ok (.iload_n 3, 1) := by decide +kernel
theorem dX10_goFrom_90 : decode cX10_goFrom 90 = .ok (.iaload, 1) := by decide +kernel
theorem dX10_goFrom_91 : decode cX10_goFrom 91 = .ok (.iconst 1, 1) := by decide +kernel
theorem dX10_goFrom_92 : decode cX10_goFrom 92 = .ok (.iadd, 1) := by decide +kernel
theorem dX10_goFrom_93 : decode cX10_goFrom 93 = .ok (.istore 5, 2) := by decide +kernel
theorem dX10_goFrom_95 : decode cX10_goFrom 95 = .ok (.iinc 3 (-1), 3) := by decide +kernel
theorem dX10_goFrom_98 : decode cX10_goFrom 98 = .ok (.iload_n 3, 1) := by decide +kernel
theorem dX10_goFrom_99 : decode cX10_goFrom 99 = .ok (.ifCond .lt (-35), 3) := by decide +kernel
theorem dX10_goFrom_102 : decode cX10_goFrom 102 = .ok (.iload 5, 2) := by decide +kernel
theorem dX10_goFrom_104 : decode cX10_goFrom 104 = .ok (.aload_n 0, 1) := by decide +kernel
theorem dX10_goFrom_105 : decode cX10_goFrom 105 = .ok (.getfield 14, 3) := by decide +kernel
theorem dX10_goFrom_108 : decode cX10_goFrom 108 = .ok (.iload 4, 2) := by decide +kernel
theorem dX10_goFrom_110 : decode cX10_goFrom 110 = .ok (.iaload, 1) := by decide +kernel
theorem dX10_goFrom_111 : decode cX10_goFrom 111 = .ok (.if_icmp .lt (-47), 3) := by decide +kernel
theorem dX10_goFrom_114 : decode cX10_goFrom 114 = .ok (.iinc 4 1, 3) := by decide +kernel
theorem dX10_goFrom_117 : decode cX10_goFrom 117 = .ok (.iconst 0, 1) := by decide +kernel
theorem dX10_goFrom_118 : decode cX10_goFrom 118 = .ok (.istore 5, 2) := by decide +kernel
theorem dX10_goFrom_120 : decode cX10_goFrom 120 = .ok (.goto (-56), 3) := by decide +kernel
theorem dX10_goFrom_160 : decode cX10_goFrom 160 = .ok (.iconst 0, 1) := by decide +kernel
theorem dX10_goFrom_161 : decode cX10_goFrom 161 = .ok (.istore 6, 2) := by decide +kernel
theorem dX10_goFrom_163 : decode cX10_goFrom 163 = .ok (.iload 6, 2) := by decide +kernel
theorem dX10_goFrom_165 : decode cX10_goFrom 165 = .ok (.ifCond .eq 45, 3) := by decide +kernel
theorem dX10_goFrom_168 : decode cX10_goFrom 168 = .ok (.iload 4, 2) := by decide +kernel
theorem dX10_goFrom_170 : decode cX10_goFrom 170 = .ok (.aload_n 0, 1) := by decide +kernel
theorem dX10_goFrom_171 : decode cX10_goFrom 171 = .ok (.getfield 329, 3) := by decide +kernel
theorem dX10_goFrom_174 : decode cX10_goFrom 174 = .ok (.if_icmp .ne 36, 3) := by decide +kernel
theorem dX10_goFrom_177 : decode cX10_goFrom 177 = .ok (.aload_n 0, 1) := by decide +kernel
theorem dX10_goFrom_178 : decode cX10_goFrom 178 = .ok (.iload_n 1, 1) := by decide +kernel
theorem dX10_goFrom_179 : decode cX10_goFrom 179 = .ok (.aload_n 0, 1) := by decide +kernel
theorem dX10_goFrom_180 : decode cX10_goFrom 180 = .ok (.getfield 329, 3) := by decide +kernel
theorem dX10_goFrom_183 : decode cX10_goFrom 183 = .ok (.aload_n 0, 1) := by decide +kernel
theorem dX10_goFrom_184 : decode cX10_goFrom 184 = .ok (.getfield 193, 3) := by decide +kernel
theorem dX10_goFrom_187 : decode cX10_goFrom 187 = .ok (.iload_n 3, 1) := by decide +kernel
theorem dX10_goFrom_188 : decode cX10_goFrom 188 = .ok (.iaload, 1) := by decide +kernel
theorem dX10_goFrom_189 : decode cX10_goFrom 189 = .ok (.aload_n 0, 1) := by decide +kernel
theorem dX10_goFrom_190 : decode cX10_goFrom 190 = .ok (.iload 4, 2) := by decide +kernel
theorem dX10_goFrom_192 : decode cX10_goFrom 192 = .ok (.invokevirtual 295, 3) := by decide +kernel
theorem dX10_goFrom_195 : decode cX10_goFrom 195 = .ok (.ior, 1) := by decide +kernel
theorem dX10_goFrom_196 : decode cX10_goFrom 196 = .ok (.invokevirtual 312, 3) := by decide +kernel
theorem dX10_goFrom_199 : decode cX10_goFrom 199 = .ok (.ifCond .le 11, 3) := by decide +kernel
theorem dX10_goFrom_202 : decode cX10_goFrom 202 = .ok (.aload_n 0, 1) := by decide +kernel
theorem dX10_goFrom_203 : decode cX10_goFrom 203 = .ok (.iload_n 1, 1) := by decide +kernel
theorem dX10_goFrom_204 : decode cX10_goFrom 204 = .ok (.iload_n 3, 1) := by decide +kernel
theorem dX10_goFrom_205 : decode cX10_goFrom 205 = .ok (.iload 5, 2) := by decide +kernel
theorem dX10_goFrom_207 : decode cX10_goFrom 207 = .ok (.invokevirtual 342, 3) := by decide +kernel
theorem dX10_goFrom_210 : decode cX10_goFrom 210 = .ok (.iload 6, 2) := by decide +kernel
theorem dX10_goFrom_212 : decode cX10_goFrom 212 = .ok (.ifCond .eq 36, 3) := by decide +kernel
theorem dX10_goFrom_215 : decode cX10_goFrom 215 = .ok (.aload_n 0, 1) := by decide +kernel
theorem dX10_goFrom_216 : decode cX10_goFrom 216 = .ok (.iload 4, 2) := by decide +kernel
theorem dX10_goFrom_218 : decode cX10_goFrom 218 = .ok (.invokevirtual 55, 3) := by decide +kernel
theorem dX10_goFrom_221 : decode cX10_goFrom 221 = .ok (.ifCond .eq 27, 3) := by decide +kernel
theorem dX10_goFrom_224 : decode cX10_goFrom 224 = .ok (.aload_n 0, 1) := by decide +kernel
theorem dX10_goFrom_225 : decode cX10_goFrom 225 = .ok (.getfield 117, 3) := by decide +kernel
theorem dX10_goFrom_228 : decode cX10_goFrom 228 = .ok (.iload 4, 2) := by decide +kernel
theorem dX10_goFrom_230 : decode cX10_goFrom 230 = .ok (.baload, 1) := by decide +kernel
theorem dX10_goFrom_231 : decode cX10_goFrom 231 = .ok (.ifCond .eq 17, 3) := by decide +kernel
theorem dX10_goFrom_234 : decode cX10_goFrom 234 = .ok (.aload_n 0, 1) := by decide +kernel
theorem dX10_goFrom_235 : decode cX10_goFrom 235 = .ok (.getfield 120, 3) := by decide +kernel
theorem dX10_goFrom_238 : decode cX10_goFrom 238 = .ok (.iload 4, 2) := by decide +kernel
theorem dX10_goFrom_240 : decode cX10_goFrom 240 = .ok (.iaload, 1) := by decide +kernel
theorem dX10_goFrom_241 : decode cX10_goFrom 241 = .ok (.ifCond .ne 7, 3) := by decide +kernel
theorem dX10_goFrom_244 : decode cX10_goFrom 244 = .ok (.iconst 1, 1) := by decide +kernel
theorem dX10_goFrom_245 : decode cX10_goFrom 245 = .ok (.goto 4, 3) := by decide +kernel
theorem dX10_goFrom_248 : decode cX10_goFrom 248 = .ok (.iconst 0, 1) := by decide +kernel
theorem dX10_goFrom_249 : decode cX10_goFrom 249 = .ok (.istore 7, 2) := by decide +kernel
theorem dX10_goFrom_251 : decode cX10_goFrom 251 = .ok (.aload_n 0, 1) := by decide +kernel
theorem dX10_goFrom_252 : decode cX10_goFrom 252 = .ok (.getfield 18, 3) := by decide +kernel
theorem dX10_goFrom_255 : decode cX10_goFrom 255 = .ok (.iload 4, 2) := by decide +kernel
theorem dX10_goFrom_257 : decode cX10_goFrom 257 = .ok (.iaload, 1) := by decide +kernel
theorem dX10_goFrom_258 : decode cX10_goFrom 258 = .ok (.iconst 2, 1) := by decide +kernel
theorem dX10_goFrom_259 : decode cX10_goFrom 259 = .ok (.if_icmp .ne 14, 3) := by decide +kernel
theorem dX10_goFrom_273 : decode cX10_goFrom 273 = .ok (.aload_n 0, 1) := by decide +kernel
theorem dX10_goFrom_274 : decode cX10_goFrom 274 = .ok (.getfield 190, 3) := by decide +kernel
theorem dX10_goFrom_277 : decode cX10_goFrom 277 = .ok (.iload_n 3, 1) := by decide +kernel
theorem dX10_goFrom_278 : decode cX10_goFrom 278 = .ok (.iaload, 1) := by decide +kernel
theorem dX10_goFrom_262 : decode cX10_goFrom 262 = .ok (.iconst 1, 1) := by decide +kernel
theorem dX10_goFrom_263 : decode cX10_goFrom 263 = .ok (.aload_n 0, 1) := by decide +kernel
theorem dX10_goFrom_264 : decode cX10_goFrom 264 = .ok (.getfield 190, 3) := by decide +kernel
theorem dX10_goFrom_267 : decode cX10_goFrom 267 = .ok (.iload_n 3, 1) := by decide +kernel
theorem dX10_goFrom_268 : decode cX10_goFrom 268 = .ok (.iaload, 1) := by decide +kernel
theorem dX10_goFrom_269 : decode cX10_goFrom 269 = .ok (.isub, 1) := by decide +kernel
theorem dX10_goFrom_270 : decode cX10_goFrom 270 = .ok (.goto 9, 3) := by decide +kernel
theorem dX10_goFrom_279 : decode cX10_goFrom 279 = .ok (.istore 8, 2) := by decide +kernel
theorem dX10_goFrom_281 : decode cX10_goFrom 281 = .ok (.aload_n 0, 1) := by decide +kernel
theorem dX10_goFrom_282 : decode cX10_goFrom 282 = .ok (.getfield 193, 3) := by decide +kernel
theorem dX10_goFrom_285 : decode cX10_goFrom 285 = .ok (.iload_n 3, 1) := by decide +kernel
theorem dX10_goFrom_286 : decode cX10_goFrom 286 = .ok (.iaload, 1) := by decide +kernel
theorem dX10_goFrom_287 : decode cX10_goFrom 287 = .ok (.aload_n 0, 1) := by decide +kernel
theorem dX10_goFrom_288 : decode cX10_goFrom 288 = .ok (.iload 4, 2) := by decide +kernel
theorem dX10_goFrom_290 : decode cX10_goFrom 290 = .ok (.invokevirtual 295, 3) := by decide +kernel
theorem dX10_goFrom_293 : decode cX10_goFrom 293 = .ok (.ior, 1) := by decide +kernel
theorem dX10_goFrom_294 : decode cX10_goFrom 294 = .ok (.istore 9, 2) := by decide +kernel
theorem dX10_goFrom_296 : decode cX10_goFrom 296 = .ok (.iload 7, 2) := by decide +kernel
theorem dX10_goFrom_298 : decode cX10_goFrom 298 = .ok (.ifCond .eq 68, 3) := by decide +kernel
theorem dX10_goFrom_301 : decode cX10_goFrom 301 = .ok (.aload_n 0, 1) := by decide +kernel
theorem dX10_goFrom_302 : decode cX10_goFrom 302 = .ok (.getfield 181, 3) := by decide +kernel
theorem dX10_goFrom_305 : decode cX10_goFrom 305 = .ok (.bipush 16, 2) := by decide +kernel
theorem dX10_goFrom_307 : decode cX10_goFrom 307 = .ok (.iconst 2, 1) := by decide +kernel
theorem dX10_goFrom_308 : decode cX10_goFrom 308 = .ok (.iload 4, 2) := by decide +kernel
theorem dX10_goFrom_310 : decode cX10_goFrom 310 = .ok (.imul, 1) := by decide +kernel
theorem dX10_goFrom_311 : decode cX10_goFrom 311 = .ok (.iload 8, 2) := by decide +kernel
theorem dX10_goFrom_313 : decode cX10_goFrom 313 = .ok (.iadd, 1) := by decide +kernel
theorem dX10_goFrom_314 : decode cX10_goFrom 314 = .ok (.imul, 1) := by decide +kernel
theorem dX10_goFrom_315 : decode cX10_goFrom 315 = .ok (.iload 9, 2) := by decide +kernel
theorem dX10_goFrom_317 : decode cX10_goFrom 317 = .ok (.iadd, 1) := by decide +kernel
theorem dX10_goFrom_318 : decode cX10_goFrom 318 = .ok (.baload, 1) := by decide +kernel
theorem dX10_goFrom_319 : decode cX10_goFrom 319 = .ok (.ifCond .eq 47, 3) := by decide +kernel
theorem dX10_goFrom_322 : decode cX10_goFrom 322 = .ok (.iinc 3 1, 3) := by decide +kernel
theorem dX10_goFrom_325 : decode cX10_goFrom 325 = .ok (.aload_n 0, 1) := by decide +kernel
theorem dX10_goFrom_326 : decode cX10_goFrom 326 = .ok (.getfield 184, 3) := by decide +kernel
theorem dX10_goFrom_329 : decode cX10_goFrom 329 = .ok (.iload_n 3, 1) := by decide +kernel
theorem dX10_goFrom_330 : decode cX10_goFrom 330 = .ok (.iload 4, 2) := by decide +kernel
theorem dX10_goFrom_332 : decode cX10_goFrom 332 = .ok (.iastore, 1) := by decide +kernel
theorem dX10_goFrom_333 : decode cX10_goFrom 333 = .ok (.aload_n 0, 1) := by decide +kernel
theorem dX10_goFrom_334 : decode cX10_goFrom 334 = .ok (.getfield 187, 3) := by decide +kernel
theorem dX10_goFrom_337 : decode cX10_goFrom 337 = .ok (.iload_n 3, 1) := by decide +kernel
theorem dX10_goFrom_338 : decode cX10_goFrom 338 = .ok (.iload 5, 2) := by decide +kernel
theorem dX10_goFrom_340 : decode cX10_goFrom 340 = .ok (.iastore, 1) := by decide +kernel
theorem dX10_goFrom_341 : decode cX10_goFrom 341 = .ok (.aload_n 0, 1) := by decide +kernel
theorem dX10_goFrom_342 : decode cX10_goFrom 342 = .ok (.getfield 190, 3) := by decide +kernel
theorem dX10_goFrom_345 : decode cX10_goFrom 345 = .ok (.iload_n 3, 1) := by decide +kernel
theorem dX10_goFrom_346 : decode cX10_goFrom 346 = .ok (.iload 8, 2) := by decide +kernel
theorem dX10_goFrom_348 : decode cX10_goFrom 348 = .ok (.iastore, 1) := by decide +kernel
theorem dX10_goFrom_349 : decode cX10_goFrom 349 = .ok (.aload_n 0, 1) := by decide +kernel
theorem dX10_goFrom_350 : decode cX10_goFrom 350 = .ok (.getfield 193, 3) := by decide +kernel
theorem dX10_goFrom_353 : decode cX10_goFrom 353 = .ok (.iload_n 3, 1) := by decide +kernel
theorem dX10_goFrom_354 : decode cX10_goFrom 354 = .ok (.iload 9, 2) := by decide +kernel
theorem dX10_goFrom_356 : decode cX10_goFrom 356 = .ok (.iastore, 1) := by decide +kernel
theorem dX10_goFrom_357 : decode cX10_goFrom 357 = .ok (.iconst 0, 1) := by decide +kernel
theorem dX10_goFrom_358 : decode cX10_goFrom 358 = .ok (.istore 4, 2) := by decide +kernel
theorem dX10_goFrom_360 : decode cX10_goFrom 360 = .ok (.iconst 0, 1) := by decide +kernel
theorem dX10_goFrom_361 : decode cX10_goFrom 361 = .ok (.istore 5, 2) := by decide +kernel
theorem dX10_goFrom_363 : decode cX10_goFrom 363 = .ok (.goto (-299), 3) := by decide +kernel
theorem dX10_goFrom_366 : decode cX10_goFrom 366 = .ok (.iinc 5 1, 3) := by decide +kernel
theorem dX10_goFrom_369 : decode cX10_goFrom 369 = .ok (.iload 5, 2) := by decide +kernel
theorem dX10_goFrom_371 : decode cX10_goFrom 371 = .ok (.aload_n 0, 1) := by decide +kernel
theorem dX10_goFrom_372 : decode cX10_goFrom 372 = .ok (.getfield 14, 3) := by decide +kernel
theorem dX10_goFrom_375 : decode cX10_goFrom 375 = .ok (.iload 4, 2) := by decide +kernel
theorem dX10_goFrom_377 : decode cX10_goFrom 377 = .ok (.iaload, 1) := by decide +kernel
theorem dX10_goFrom_378 : decode cX10_goFrom 378 = .ok (.if_icmp .lt 9, 3) := by decide +kernel
theorem dX10_goFrom_381 : decode cX10_goFrom 381 = .ok (.iinc 4 1, 3) := by decide +kernel
theorem dX10_goFrom_384 : decode cX10_goFrom 384 = .ok (.iconst 0, 1) := by decide +kernel
theorem dX10_goFrom_385 : decode cX10_goFrom 385 = .ok (.istore 5, 2) := by decide +kernel
theorem dX10_goFrom_387 : decode cX10_goFrom 387 = .ok (.goto (-323), 3) := by decide +kernel
def wo_goFrom : List Cond := [.code yX10_goFrom cX10_goFrom 10 none, .methodLink RX10 295 yX10_metBy, .instanceMethod yX10_metBy, .selects RX10 yX10_metBy yX10_metBy, .initialized RX10, .methodLink RX10 312 yX10_periodsOf, .instanceMethod yX10_periodsOf, .selects RX10 yX10_periodsOf yX10_periodsOf, .methodLink RX10 342 yX10_keep, .instanceMethod yX10_keep, .selects RX10 yX10_keep yX10_keep, .methodLink RX10 55 yX10_isGate, .instanceMethod yX10_isGate, .selects RX10 yX10_isGate yX10_isGate]
def wr_goFrom : List Cond := (wfX10 ++ (w_metBy ++ (w_periodsOf ++ (w_keep ++ (w_isGate ++ ([]))))))
def w_goFrom : List Cond := wo_goFrom ++ wr_goFrom
theorem wg_goFrom : GW w_goFrom := GW_app (GW_of (by decide +kernel)) (GW_app (wg_fX10) (GW_app (wg_metBy) (GW_app (wg_periodsOf) (GW_app (wg_keep) (GW_app (wg_isGate) (GW_nil))))))
theorem in_goFrom : ∀ w ∈ wfX10, w ∈ w_goFrom := fun _ h => List.mem_append_right _ (List.mem_append_left _ h)
theorem g_goFrom_metBy_295 : GoodIn w_goFrom (wsV RX10 295 RX10 yX10_metBy w_metBy) := goodIn_app (gi_left (goodIn_of _ (by decide +kernel))) (fun w h => ⟨List.mem_append_right _ (List.mem_append_right _ (List.mem_append_left _ h)), wg_metBy w h⟩)
theorem g_goFrom_periodsOf_312 : GoodIn w_goFrom (wsV RX10 312 RX10 yX10_periodsOf w_periodsOf) := goodIn_app (gi_left (goodIn_of _ (by decide +kernel))) (fun w h => ⟨List.mem_append_right _ (List.mem_append_right _ (List.mem_append_right _ (List.mem_append_left _ h))), wg_periodsOf w h⟩)
theorem g_goFrom_keep_342 : GoodIn w_goFrom (wsV RX10 342 RX10 yX10_keep w_keep) := goodIn_app (gi_left (goodIn_of _ (by decide +kernel))) (fun w h => ⟨List.mem_append_right _ (List.mem_append_right _ (List.mem_append_right _ (List.mem_append_right _ (List.mem_append_left _ h)))), wg_keep w h⟩)
theorem g_goFrom_isGate_55 : GoodIn w_goFrom (wsV RX10 55 RX10 yX10_isGate w_isGate) := goodIn_app (gi_left (goodIn_of _ (by decide +kernel))) (fun w h => ⟨List.mem_append_right _ (List.mem_append_right _ (List.mem_append_right _ (List.mem_append_right _ (List.mem_append_right _ (List.mem_append_left _ h))))), wg_isGate w h⟩)
set_option maxHeartbeats 4000000 in
set_option maxRecDepth 100000 in
theorem ct_goFrom (l : Launch) (E : gE) (B : Nat → Nat) (Q : VS → Prop) (p1 : Int32) (p2 : Int32) (σ : VS) (hw : wp_goFrom Q p1 p2 σ) : CtV l E yX10_goFrom w_goFrom (({ frames := 3, cells := 0, slots := 0, locals := 73 } : Room)) (wm E B σ) [.ref (B 0), .int p1, .int p2] (fun w => ∃ σ' : VS, Q σ' ∧ w = wm E B σ') := by
  refine VC_V (cc := cX10_goFrom) (mL := 10) (rt := none) (lv0 := [(0, .ref (B 0)), (1, .int p1), (2, .int p2)]) rfl (by decide) rfl (Nat.le_of_ble_eq_true rfl) ?_
  intro p e s m below meth c A F
  replace F : Fx p s m _ meth c A E cX10_goFrom 10 none RX10 w_goFrom := F
  obtain ⟨X64, hX64⟩ : ∃ X : Int32 → Int32 → Int32 → Int32 → VS → Prop, X = fun l1 l3 l4 l5 σ => WB p l e (({ frames := 3, cells := 0, slots := 0, locals := 73 } : Room)) s m (#[.ref (B 0), .int p1, .int p2]) below meth c (MQ below (va_Qv (fun w => ∃ σ' : VS, Q σ' ∧ w = wm E B σ') (AftU E A) A) (#[.ref (B 0), .int p1, .int p2]) s (({ frames := 3, cells := 0, slots := 0, locals := 73 } : Room)).cells (({ frames := 3, cells := 0, slots := 0, locals := 73 } : Room)).slots A) A E (wm E B) 10 64 [(0, .ref (B 0)), (1, .int l1), (3, .int l3), (4, .int l4), (5, .int l5)] [] σ := ⟨_, rfl⟩
  have U_64 : ∀ (l1 : Int32) (l3 : Int32) (l4 : Int32) (l5 : Int32) (σ : VS), X64 l1 l3 l4 l5 σ → WB p l e (({ frames := 3, cells := 0, slots := 0, locals := 73 } : Room)) s m (#[.ref (B 0), .int p1, .int p2]) below meth c (MQ below (va_Qv (fun w => ∃ σ' : VS, Q σ' ∧ w = wm E B σ') (AftU E A) A) (#[.ref (B 0), .int p1, .int p2]) s (({ frames := 3, cells := 0, slots := 0, locals := 73 } : Room)).cells (({ frames := 3, cells := 0, slots := 0, locals := 73 } : Room)).slots A) A E (wm E B) 10 64 [(0, .ref (B 0)), (1, .int l1), (3, .int l3), (4, .int l4), (5, .int l5)] [] σ := by
    intro l1 l3 l4 l5 σ hw; rw [hX64] at hw; exact hw
  have J_387 : ∀ (l1 : Int32) (l3 : Int32) (l4 : Int32) (l5 : Int32) (σ : VS), b_goFrom_387 X64 Q l1 l3 l4 l5 σ → WB p l e (({ frames := 3, cells := 0, slots := 0, locals := 73 } : Room)) s m (#[.ref (B 0), .int p1, .int p2]) below meth c (MQ below (va_Qv (fun w => ∃ σ' : VS, Q σ' ∧ w = wm E B σ') (AftU E A) A) (#[.ref (B 0), .int p1, .int p2]) s (({ frames := 3, cells := 0, slots := 0, locals := 73 } : Room)).cells (({ frames := 3, cells := 0, slots := 0, locals := 73 } : Room)).slots A) A E (wm E B) 10 387 [(0, .ref (B 0)), (1, .int l1), (3, .int l3), (4, .int l4), (5, .int l5)] [] σ := by
    intro l1 l3 l4 l5 σ hw
    unfold b_goFrom_387 at hw
    refine R_goto (tgt := 64) F dX10_goFrom_387 (by decide) ?_
    exact R_sub [0, 1, 2, 3, 4] rfl (U_64 l1 l3 l4 l5 σ hw)
  have J_366 : ∀ (l1 : Int32) (l3 : Int32) (l4 : Int32) (l5 : Int32) (σ : VS), b_goFrom_366 X64 Q l1 l3 l4 l5 σ → WB p l e (({ frames := 3, cells := 0, slots := 0, locals := 73 } : Room)) s m (#[.ref (B 0), .int p1, .int p2]) below meth c (MQ below (va_Qv (fun w => ∃ σ' : VS, Q σ' ∧ w = wm E B σ') (AftU E A) A) (#[.ref (B 0), .int p1, .int p2]) s (({ frames := 3, cells := 0, slots := 0, locals := 73 } : Room)).cells (({ frames := 3, cells := 0, slots := 0, locals := 73 } : Room)).slots A) A E (wm E B) 10 366 [(0, .ref (B 0)), (1, .int l1), (3, .int l3), (4, .int l4), (5, .int l5)] [] σ := by
    intro l1 l3 l4 l5 σ hw
    unfold b_goFrom_366 at hw
    refine R_iinc (q := 4) (v := (l5 + 1)) (lv' := [(5, .int (l5 + 1)), (0, .ref (B 0)), (1, .int l1), (3, .int l3), (4, .int l4)]) F dX10_goFrom_366 rfl rfl (by decide) rfl ?_
    refine R_iload F dX10_goFrom_369 0 rfl ?_
    refine R_aload_n F dX10_goFrom_371 rfl 1 rfl ?_
    refine gm_3 F in_goFrom dX10_goFrom_372 ?_
    refine R_iload F dX10_goFrom_375 4 rfl ?_
    refine R_ldi F qm_3 dX10_goFrom_377 hw.1 ?_
    replace hw := hw.2
    refine R_icmp_lt (tgt := 387) F dX10_goFrom_378 (by decide) (fun hc => ?_) (fun hc => ?_)
    · replace hw := hw.1 hc
      exact R_sub [1, 2, 3, 4, 0] rfl (J_387 l1 l3 l4 (l5 + 1) σ hw)
    · replace hw := hw.2 hc
      refine R_iinc (q := 4) (v := (l4 + 1)) (lv' := [(4, .int (l4 + 1)), (5, .int (l5 + 1)), (0, .ref (B 0)), (1, .int l1), (3, .int l3)]) F dX10_goFrom_381 rfl rfl (by decide) rfl ?_
      refine R_iconst F 0 dX10_goFrom_384 (by decide) ?_
      refine R_istore (lv' := [(5, .int 0), (4, .int (l4 + 1)), (0, .ref (B 0)), (1, .int l1), (3, .int l3)]) F dX10_goFrom_385 (by decide) rfl ?_
      exact R_sub [2, 3, 4, 1, 0] rfl (J_387 l1 l3 (l4 + 1) 0 σ hw)
  have J_279 : ∀ (l1 : Int32) (l3 : Int32) (l4 : Int32) (l5 : Int32) (l7 : Int32) (k0 : Int32) (σ : VS), b_goFrom_279 X64 Q l1 l3 l4 l5 l7 k0 σ → WB p l e (({ frames := 3, cells := 0, slots := 0, locals := 73 } : Room)) s m (#[.ref (B 0), .int p1, .int p2]) below meth c (MQ below (va_Qv (fun w => ∃ σ' : VS, Q σ' ∧ w = wm E B σ') (AftU E A) A) (#[.ref (B 0), .int p1, .int p2]) s (({ frames := 3, cells := 0, slots := 0, locals := 73 } : Room)).cells (({ frames := 3, cells := 0, slots := 0, locals := 73 } : Room)).slots A) A E (wm E B) 10 279 [(0, .ref (B 0)), (1, .int l1), (3, .int l3), (4, .int l4), (5, .int l5), (7, .int l7)] [.int k0] σ := by
    intro l1 l3 l4 l5 l7 k0 σ hw
    unfold b_goFrom_279 at hw
    refine R_istore (lv' := [(8, .int k0), (0, .ref (B 0)), (1, .int l1), (3, .int l3), (4, .int l4), (5, .int l5), (7, .int l7)]) F dX10_goFrom_279 (by decide) rfl ?_
    refine R_aload_n F dX10_goFrom_281 rfl 1 rfl ?_
    refine gm_60 F in_goFrom dX10_goFrom_282 ?_
    refine R_iload_n F dX10_goFrom_285 rfl 3 rfl ?_
    refine R_ldi F qm_60 dX10_goFrom_286 hw.1 ?_
    replace hw := hw.2
    refine R_aload_n F dX10_goFrom_287 rfl 1 rfl ?_
    refine R_iload F dX10_goFrom_288 4 rfl ?_
    refine R_callI (As := [.int l4]) (C := RX10) (q0 := 0) (ci := 10) (N := 69) (T := TX10) (fs := mfl B) F (ct_metBy l E B _ l4 _ hw) (cwV 1 F.2.2.2.2.2.2.2.2.2.2 g_goFrom_metBy_295 rfl rfl rfl (by decide +kernel) ⟨Nat.le_of_ble_eq_true rfl, Nat.le_of_ble_eq_true rfl⟩) ⟨rfl, rfl⟩ rfl (fun _ => rfl) rfl rfl (Nat.le_of_ble_eq_true rfl) dX10_goFrom_290 (fun r13 σ14 hw => ?_)
    refine R_ior F dX10_goFrom_293 ?_
    refine R_topi (fun x15 ex15 => ?_)
    replace hw := hw x15 ex15
    refine R_istore (lv' := [(9, .int x15), (8, .int k0), (0, .ref (B 0)), (1, .int l1), (3, .int l3), (4, .int l4), (5, .int l5), (7, .int l7)]) F dX10_goFrom_294 (by decide) rfl ?_
    refine R_iload F dX10_goFrom_296 7 rfl ?_
    refine R_if_eq (tgt := 366) F dX10_goFrom_298 (by decide) (fun hc => ?_) (fun hc => ?_)
    · replace hw := hw.1 hc
      exact R_sub [2, 3, 4, 5, 6] rfl (J_366 l1 l3 l4 l5 σ14 hw)
    · replace hw := hw.2 hc
      refine R_aload_n F dX10_goFrom_301 rfl 2 rfl ?_
      refine gm_56 F in_goFrom dX10_goFrom_302 ?_
      refine R_bipush F 16 dX10_goFrom_305 (by decide) ?_
      refine R_iconst F 2 dX10_goFrom_307 (by decide) ?_
      refine R_iload F dX10_goFrom_308 5 rfl ?_
      refine R_imul F dX10_goFrom_310 ?_
      refine R_iload F dX10_goFrom_311 1 rfl ?_
      refine R_iadd F dX10_goFrom_313 ?_
      refine R_imul F dX10_goFrom_314 ?_
      refine R_iload F dX10_goFrom_315 0 rfl ?_
      refine R_iadd F dX10_goFrom_317 ?_
      refine R_ldz F qm_56 dX10_goFrom_318 hw.1 ?_
      replace hw := hw.2
      refine R_if_eq (tgt := 366) F dX10_goFrom_319 (by decide) (fun hc => ?_) (fun hc => ?_)
      · replace hw := hw.1 hc
        exact R_sub [2, 3, 4, 5, 6] rfl (J_366 l1 l3 l4 l5 σ14 hw)
      · replace hw := hw.2 hc
        refine R_iinc (q := 4) (v := (l3 + 1)) (lv' := [(3, .int (l3 + 1)), (9, .int x15), (8, .int k0), (0, .ref (B 0)), (1, .int l1), (4, .int l4), (5, .int l5), (7, .int l7)]) F dX10_goFrom_322 rfl rfl (by decide) rfl ?_
        refine R_aload_n F dX10_goFrom_325 rfl 3 rfl ?_
        refine gm_57 F in_goFrom dX10_goFrom_326 ?_
        refine R_iload_n F dX10_goFrom_329 rfl 0 rfl ?_
        refine R_iload F dX10_goFrom_330 5 rfl ?_
        have hi := hw.1
        replace hw := hw.2
        refine R_sti F qm_57 um_57 dX10_goFrom_332 hi ?_
        refine R_aload_n F dX10_goFrom_333 rfl 3 rfl ?_
        refine gm_58 F in_goFrom dX10_goFrom_334 ?_
        refine R_iload_n F dX10_goFrom_337 rfl 0 rfl ?_
        refine R_iload F dX10_goFrom_338 6 rfl ?_
        have hi := hw.1
        replace hw := hw.2
        refine R_sti F qm_58 um_58 dX10_goFrom_340 hi ?_
        refine R_aload_n F dX10_goFrom_341 rfl 3 rfl ?_
        refine gm_59 F in_goFrom dX10_goFrom_342 ?_
        refine R_iload_n F dX10_goFrom_345 rfl 0 rfl ?_
        refine R_iload F dX10_goFrom_346 2 rfl ?_
        have hi := hw.1
        replace hw := hw.2
        refine R_sti F qm_59 um_59 dX10_goFrom_348 hi ?_
        refine R_aload_n F dX10_goFrom_349 rfl 3 rfl ?_
        refine gm_60 F in_goFrom dX10_goFrom_350 ?_
        refine R_iload_n F dX10_goFrom_353 rfl 0 rfl ?_
        refine R_iload F dX10_goFrom_354 1 rfl ?_
        have hi := hw.1
        replace hw := hw.2
        refine R_sti F qm_60 um_60 dX10_goFrom_356 hi ?_
        refine R_iconst F 0 dX10_goFrom_357 (by decide) ?_
        refine R_istore (lv' := [(4, .int 0), (3, .int (l3 + 1)), (9, .int x15), (8, .int k0), (0, .ref (B 0)), (1, .int l1), (5, .int l5), (7, .int l7)]) F dX10_goFrom_358 (by decide) rfl ?_
        refine R_iconst F 0 dX10_goFrom_360 (by decide) ?_
        refine R_istore (lv' := [(5, .int 0), (4, .int 0), (3, .int (l3 + 1)), (9, .int x15), (8, .int k0), (0, .ref (B 0)), (1, .int l1), (7, .int l7)]) F dX10_goFrom_361 (by decide) rfl ?_
        refine R_goto (tgt := 64) F dX10_goFrom_363 (by decide) ?_
        exact R_sub [5, 6, 2, 1, 0] rfl (U_64 l1 (l3 + 1) 0 0 (sa (sa (sa (sa σ14 57 (l3 + 1) l4) 58 (l3 + 1) l5) 59 (l3 + 1) k0) 60 (l3 + 1) x15) hw)
  have J_249 : ∀ (l1 : Int32) (l3 : Int32) (l4 : Int32) (l5 : Int32) (k0 : Int32) (σ : VS), b_goFrom_249 X64 Q l1 l3 l4 l5 k0 σ → WB p l e (({ frames := 3, cells := 0, slots := 0, locals := 73 } : Room)) s m (#[.ref (B 0), .int p1, .int p2]) below meth c (MQ below (va_Qv (fun w => ∃ σ' : VS, Q σ' ∧ w = wm E B σ') (AftU E A) A) (#[.ref (B 0), .int p1, .int p2]) s (({ frames := 3, cells := 0, slots := 0, locals := 73 } : Room)).cells (({ frames := 3, cells := 0, slots := 0, locals := 73 } : Room)).slots A) A E (wm E B) 10 249 [(0, .ref (B 0)), (1, .int l1), (3, .int l3), (4, .int l4), (5, .int l5)] [.int k0] σ := by
    intro l1 l3 l4 l5 k0 σ hw
    unfold b_goFrom_249 at hw
    refine R_istore (lv' := [(7, .int k0), (0, .ref (B 0)), (1, .int l1), (3, .int l3), (4, .int l4), (5, .int l5)]) F dX10_goFrom_249 (by decide) rfl ?_
    refine R_aload_n F dX10_goFrom_251 rfl 1 rfl ?_
    refine gm_2 F in_goFrom dX10_goFrom_252 ?_
    refine R_iload F dX10_goFrom_255 4 rfl ?_
    refine R_ldi F qm_2 dX10_goFrom_257 hw.1 ?_
    replace hw := hw.2
    refine R_iconst F 2 dX10_goFrom_258 (by decide) ?_
    refine R_icmp_ne (tgt := 273) F dX10_goFrom_259 (by decide) (fun hc => ?_) (fun hc => ?_)
    · replace hw := hw.1 hc
      refine R_aload_n F dX10_goFrom_273 rfl 1 rfl ?_
      refine gm_59 F in_goFrom dX10_goFrom_274 ?_
      refine R_iload_n F dX10_goFrom_277 rfl 3 rfl ?_
      refine R_ldi F qm_59 dX10_goFrom_278 hw.1 ?_
      replace hw := hw.2
      exact R_sub [1, 2, 3, 4, 5, 0] rfl (J_279 l1 l3 l4 l5 k0 (rd σ 59 l3) σ hw)
    · replace hw := hw.2 hc
      refine R_iconst F 1 dX10_goFrom_262 (by decide) ?_
      refine R_aload_n F dX10_goFrom_263 rfl 1 rfl ?_
      refine gm_59 F in_goFrom dX10_goFrom_264 ?_
      refine R_iload_n F dX10_goFrom_267 rfl 3 rfl ?_
      refine R_ldi F qm_59 dX10_goFrom_268 hw.1 ?_
      replace hw := hw.2
      refine R_isub F dX10_goFrom_269 ?_
      refine R_goto (tgt := 279) F dX10_goFrom_270 (by decide) ?_
      exact R_sub [1, 2, 3, 4, 5, 0] rfl (J_279 l1 l3 l4 l5 k0 (1 - (rd σ 59 l3)) σ hw)
  have J_248 : ∀ (l1 : Int32) (l3 : Int32) (l4 : Int32) (l5 : Int32) (σ : VS), b_goFrom_248 X64 Q l1 l3 l4 l5 σ → WB p l e (({ frames := 3, cells := 0, slots := 0, locals := 73 } : Room)) s m (#[.ref (B 0), .int p1, .int p2]) below meth c (MQ below (va_Qv (fun w => ∃ σ' : VS, Q σ' ∧ w = wm E B σ') (AftU E A) A) (#[.ref (B 0), .int p1, .int p2]) s (({ frames := 3, cells := 0, slots := 0, locals := 73 } : Room)).cells (({ frames := 3, cells := 0, slots := 0, locals := 73 } : Room)).slots A) A E (wm E B) 10 248 [(0, .ref (B 0)), (1, .int l1), (3, .int l3), (4, .int l4), (5, .int l5)] [] σ := by
    intro l1 l3 l4 l5 σ hw
    unfold b_goFrom_248 at hw
    refine R_iconst F 0 dX10_goFrom_248 (by decide) ?_
    exact R_sub [0, 1, 2, 3, 4] rfl (J_249 l1 l3 l4 l5 0 σ hw)
  have J_210 : ∀ (l1 : Int32) (l3 : Int32) (l4 : Int32) (l5 : Int32) (l6 : Int32) (σ : VS), b_goFrom_210 X64 Q l1 l3 l4 l5 l6 σ → WB p l e (({ frames := 3, cells := 0, slots := 0, locals := 73 } : Room)) s m (#[.ref (B 0), .int p1, .int p2]) below meth c (MQ below (va_Qv (fun w => ∃ σ' : VS, Q σ' ∧ w = wm E B σ') (AftU E A) A) (#[.ref (B 0), .int p1, .int p2]) s (({ frames := 3, cells := 0, slots := 0, locals := 73 } : Room)).cells (({ frames := 3, cells := 0, slots := 0, locals := 73 } : Room)).slots A) A E (wm E B) 10 210 [(0, .ref (B 0)), (1, .int l1), (3, .int l3), (4, .int l4), (5, .int l5), (6, .int l6)] [] σ := by
    intro l1 l3 l4 l5 l6 σ hw
    unfold b_goFrom_210 at hw
    refine R_iload F dX10_goFrom_210 5 rfl ?_
    refine R_if_eq (tgt := 248) F dX10_goFrom_212 (by decide) (fun hc => ?_) (fun hc => ?_)
    · replace hw := hw.1 hc
      exact R_sub [0, 1, 2, 3, 4] rfl (J_248 l1 l3 l4 l5 σ hw)
    · replace hw := hw.2 hc
      refine R_aload_n F dX10_goFrom_215 rfl 0 rfl ?_
      refine R_iload F dX10_goFrom_216 3 rfl ?_
      refine R_callI (As := [.int l4]) (C := RX10) (q0 := 0) (ci := 10) (N := 69) (T := TX10) (fs := mfl B) F (ct_isGate l E B _ l4 _ hw) (cwV 1 F.2.2.2.2.2.2.2.2.2.2 g_goFrom_isGate_55 rfl rfl rfl (by decide +kernel) ⟨Nat.le_of_ble_eq_true rfl, Nat.le_of_ble_eq_true rfl⟩) ⟨rfl, rfl⟩ rfl (fun _ => rfl) rfl rfl (Nat.le_of_ble_eq_true rfl) dX10_goFrom_218 (fun r11 σ12 hw => ?_)
      refine R_if_eq (tgt := 248) F dX10_goFrom_221 (by decide) (fun hc => ?_) (fun hc => ?_)
      · replace hw := hw.1 hc
        exact R_sub [0, 1, 2, 3, 4] rfl (J_248 l1 l3 l4 l5 σ12 hw)
      · replace hw := hw.2 hc
        refine R_aload_n F dX10_goFrom_224 rfl 0 rfl ?_
        refine gm_34 F in_goFrom dX10_goFrom_225 ?_
        refine R_iload F dX10_goFrom_228 3 rfl ?_
        refine R_ldz F qm_34 dX10_goFrom_230 hw.1 ?_
        replace hw := hw.2
        refine R_if_eq (tgt := 248) F dX10_goFrom_231 (by decide) (fun hc => ?_) (fun hc => ?_)
        · replace hw := hw.1 hc
          exact R_sub [0, 1, 2, 3, 4] rfl (J_248 l1 l3 l4 l5 σ12 hw)
        · replace hw := hw.2 hc
          refine R_aload_n F dX10_goFrom_234 rfl 0 rfl ?_
          refine gm_35 F in_goFrom dX10_goFrom_235 ?_
          refine R_iload F dX10_goFrom_238 3 rfl ?_
          refine R_ldi F qm_35 dX10_goFrom_240 hw.1 ?_
          replace hw := hw.2
          refine R_if_ne (tgt := 248) F dX10_goFrom_241 (by decide) (fun hc => ?_) (fun hc => ?_)
          · replace hw := hw.1 hc
            exact R_sub [0, 1, 2, 3, 4] rfl (J_248 l1 l3 l4 l5 σ12 hw)
          · replace hw := hw.2 hc
            refine R_iconst F 1 dX10_goFrom_244 (by decide) ?_
            refine R_goto (tgt := 249) F dX10_goFrom_245 (by decide) ?_
            exact R_sub [0, 1, 2, 3, 4] rfl (J_249 l1 l3 l4 l5 1 σ12 hw)
  have J_161 : ∀ (l1 : Int32) (l3 : Int32) (l4 : Int32) (l5 : Int32) (k0 : Int32) (σ : VS), b_goFrom_161 X64 Q l1 l3 l4 l5 k0 σ → WB p l e (({ frames := 3, cells := 0, slots := 0, locals := 73 } : Room)) s m (#[.ref (B 0), .int p1, .int p2]) below meth c (MQ below (va_Qv (fun w => ∃ σ' : VS, Q σ' ∧ w = wm E B σ') (AftU E A) A) (#[.ref (B 0), .int p1, .int p2]) s (({ frames := 3, cells := 0, slots := 0, locals := 73 } : Room)).cells (({ frames := 3, cells := 0, slots := 0, locals := 73 } : Room)).slots A) A E (wm E B) 10 161 [(0, .ref (B 0)), (1, .int l1), (3, .int l3), (4, .int l4), (5, .int l5)] [.int k0] σ := by
    intro l1 l3 l4 l5 k0 σ hw
    unfold b_goFrom_161 at hw
    refine R_istore (lv' := [(6, .int k0), (0, .ref (B 0)), (1, .int l1), (3, .int l3), (4, .int l4), (5, .int l5)]) F dX10_goFrom_161 (by decide) rfl ?_
    refine R_iload F dX10_goFrom_163 0 rfl ?_
    refine R_if_eq (tgt := 210) F dX10_goFrom_165 (by decide) (fun hc => ?_) (fun hc => ?_)
    · replace hw := hw.1 hc
      exact R_sub [1, 2, 3, 4, 5, 0] rfl (J_210 l1 l3 l4 l5 k0 σ hw)
    · replace hw := hw.2 hc
      refine R_iload F dX10_goFrom_168 4 rfl ?_
      refine R_aload_n F dX10_goFrom_170 rfl 1 rfl ?_
      refine gm_61 F in_goFrom dX10_goFrom_171 ?_
      refine R_icmp_ne (tgt := 210) F dX10_goFrom_174 (by decide) (fun hc => ?_) (fun hc => ?_)
      · replace hw := hw.1 hc
        exact R_sub [1, 2, 3, 4, 5, 0] rfl (J_210 l1 l3 l4 l5 k0 σ hw)
      · replace hw := hw.2 hc
        refine R_aload_n F dX10_goFrom_177 rfl 1 rfl ?_
        refine R_iload_n F dX10_goFrom_178 rfl 2 rfl ?_
        refine R_aload_n F dX10_goFrom_179 rfl 1 rfl ?_
        refine gm_61 F in_goFrom dX10_goFrom_180 ?_
        refine R_aload_n F dX10_goFrom_183 rfl 1 rfl ?_
        refine gm_60 F in_goFrom dX10_goFrom_184 ?_
        refine R_iload_n F dX10_goFrom_187 rfl 3 rfl ?_
        refine R_ldi F qm_60 dX10_goFrom_188 hw.1 ?_
        replace hw := hw.2
        refine R_aload_n F dX10_goFrom_189 rfl 1 rfl ?_
        refine R_iload F dX10_goFrom_190 4 rfl ?_
        refine R_callI (As := [.int l4]) (C := RX10) (q0 := 0) (ci := 10) (N := 69) (T := TX10) (fs := mfl B) F (ct_metBy l E B _ l4 _ hw) (cwV 1 F.2.2.2.2.2.2.2.2.2.2 g_goFrom_metBy_295 rfl rfl rfl (by decide +kernel) ⟨Nat.le_of_ble_eq_true rfl, Nat.le_of_ble_eq_true rfl⟩) ⟨rfl, rfl⟩ rfl (fun _ => rfl) rfl rfl (Nat.le_of_ble_eq_true rfl) dX10_goFrom_192 (fun r5 σ6 hw => ?_)
        refine R_ior F dX10_goFrom_195 ?_
        refine R_callI (As := [.int l1, .int (σ.1 61), .int ((rd σ 60 l3) ||| r5)]) (C := RX10) (q0 := 0) (ci := 10) (N := 69) (T := TX10) (fs := mfl B) F (ct_periodsOf l E B _ l1 (σ.1 61) ((rd σ 60 l3) ||| r5) _ hw) (cwV 3 F.2.2.2.2.2.2.2.2.2.2 g_goFrom_periodsOf_312 rfl rfl rfl (by decide +kernel) ⟨Nat.le_of_ble_eq_true rfl, Nat.le_of_ble_eq_true rfl⟩) ⟨rfl, rfl⟩ rfl (fun _ => rfl) rfl rfl (Nat.le_of_ble_eq_true rfl) dX10_goFrom_196 (fun r7 σ8 hw => ?_)
        refine R_if_le (tgt := 210) F dX10_goFrom_199 (by decide) (fun hc => ?_) (fun hc => ?_)
        · replace hw := hw.1 hc
          exact R_sub [1, 2, 3, 4, 5, 0] rfl (J_210 l1 l3 l4 l5 k0 σ8 hw)
        · replace hw := hw.2 hc
          refine R_aload_n F dX10_goFrom_202 rfl 1 rfl ?_
          refine R_iload_n F dX10_goFrom_203 rfl 2 rfl ?_
          refine R_iload_n F dX10_goFrom_204 rfl 3 rfl ?_
          refine R_iload F dX10_goFrom_205 5 rfl ?_
          refine R_callV (As := [.int l1, .int l3, .int l5]) (C := RX10) (q0 := 0) (ci := 10) (N := 69) (T := TX10) (fs := mfl B) F (ct_keep l E B _ l1 l3 l5 _ hw) (cwV 3 F.2.2.2.2.2.2.2.2.2.2 g_goFrom_keep_342 rfl rfl rfl (by decide +kernel) ⟨Nat.le_of_ble_eq_true rfl, Nat.le_of_ble_eq_true rfl⟩) ⟨rfl, rfl⟩ rfl (fun _ => rfl) rfl rfl (Nat.le_of_ble_eq_true rfl) dX10_goFrom_207 (fun σ10 hw => ?_)
          exact R_sub [1, 2, 3, 4, 5, 0] rfl (J_210 l1 l3 l4 l5 k0 σ10 hw)
  have J_160 : ∀ (l1 : Int32) (l3 : Int32) (l4 : Int32) (l5 : Int32) (σ : VS), b_goFrom_160 X64 Q l1 l3 l4 l5 σ → WB p l e (({ frames := 3, cells := 0, slots := 0, locals := 73 } : Room)) s m (#[.ref (B 0), .int p1, .int p2]) below meth c (MQ below (va_Qv (fun w => ∃ σ' : VS, Q σ' ∧ w = wm E B σ') (AftU E A) A) (#[.ref (B 0), .int p1, .int p2]) s (({ frames := 3, cells := 0, slots := 0, locals := 73 } : Room)).cells (({ frames := 3, cells := 0, slots := 0, locals := 73 } : Room)).slots A) A E (wm E B) 10 160 [(0, .ref (B 0)), (1, .int l1), (3, .int l3), (4, .int l4), (5, .int l5)] [] σ := by
    intro l1 l3 l4 l5 σ hw
    unfold b_goFrom_160 at hw
    refine R_iconst F 0 dX10_goFrom_160 (by decide) ?_
    exact R_sub [0, 1, 2, 3, 4] rfl (J_161 l1 l3 l4 l5 0 σ hw)
  have C_64 : ∀ (l1 : Int32) (l3 : Int32) (l4 : Int32) (l5 : Int32) (σ : VS), b_goFrom_64 X64 Q l1 l3 l4 l5 σ → X64 l1 l3 l4 l5 σ := by
    intro l1 l3 l4 l5 σ hw
    unfold b_goFrom_64 at hw
    rw [hX64]
    show WB p l e (({ frames := 3, cells := 0, slots := 0, locals := 73 } : Room)) s m (#[.ref (B 0), .int p1, .int p2]) below meth c (MQ below (va_Qv (fun w => ∃ σ' : VS, Q σ' ∧ w = wm E B σ') (AftU E A) A) (#[.ref (B 0), .int p1, .int p2]) s (({ frames := 3, cells := 0, slots := 0, locals := 73 } : Room)).cells (({ frames := 3, cells := 0, slots := 0, locals := 73 } : Room)).slots A) A E (wm E B) 10 64 [(0, .ref (B 0)), (1, .int l1), (3, .int l3), (4, .int l4), (5, .int l5)] [] σ
    refine R_iload_n F dX10_goFrom_64 rfl 2 rfl ?_
    refine R_if_lt (tgt := 390) F dX10_goFrom_65 (by decide) (fun hc => ?_) (fun hc => ?_)
    · replace hw := hw.1 hc
      exact R_vret (Qc := Q) F dX10_goFrom_390 hw
    · replace hw := hw.2 hc
      refine R_iload F dX10_goFrom_68 3 rfl ?_
      refine R_aload_n F dX10_goFrom_70 rfl 0 rfl ?_
      refine gm_1 F in_goFrom dX10_goFrom_71 ?_
      refine R_icmp_ne (tgt := 123) F dX10_goFrom_74 (by decide) (fun hc => ?_) (fun hc => ?_)
      · replace hw := hw.1 hc
        refine R_iload F dX10_goFrom_123 4 rfl ?_
        refine R_aload_n F dX10_goFrom_125 rfl 0 rfl ?_
        refine gm_3 F in_goFrom dX10_goFrom_126 ?_
        refine R_iload F dX10_goFrom_129 3 rfl ?_
        refine R_ldi F qm_3 dX10_goFrom_131 hw.1 ?_
        replace hw := hw.2
        refine R_icmp_ge (tgt := 160) F dX10_goFrom_132 (by decide) (fun hc => ?_) (fun hc => ?_)
        · replace hw := hw.1 hc
          exact R_sub [0, 1, 2, 3, 4] rfl (J_160 l1 l3 l4 l5 σ hw)
        · replace hw := hw.2 hc
          refine R_aload_n F dX10_goFrom_135 rfl 0 rfl ?_
          refine gm_7 F in_goFrom dX10_goFrom_136 ?_
          refine R_iconst F 4 dX10_goFrom_139 (by decide) ?_
          refine R_iload F dX10_goFrom_140 3 rfl ?_
          refine R_imul F dX10_goFrom_142 ?_
          refine R_iload F dX10_goFrom_143 4 rfl ?_
          refine R_iadd F dX10_goFrom_145 ?_
          refine R_ldi F qm_7 dX10_goFrom_146 hw.1 ?_
          replace hw := hw.2
          refine R_aload_n F dX10_goFrom_147 rfl 0 rfl ?_
          refine gm_57 F in_goFrom dX10_goFrom_148 ?_
          refine R_iload_n F dX10_goFrom_151 rfl 2 rfl ?_
          refine R_ldi F qm_57 dX10_goFrom_152 hw.1 ?_
          replace hw := hw.2
          refine R_icmp_ne (tgt := 160) F dX10_goFrom_153 (by decide) (fun hc => ?_) (fun hc => ?_)
          · replace hw := hw.1 hc
            exact R_sub [0, 1, 2, 3, 4] rfl (J_160 l1 l3 l4 l5 σ hw)
          · replace hw := hw.2 hc
            refine R_iconst F 1 dX10_goFrom_156 (by decide) ?_
            refine R_goto (tgt := 161) F dX10_goFrom_157 (by decide) ?_
            exact R_sub [0, 1, 2, 3, 4] rfl (J_161 l1 l3 l4 l5 1 σ hw)
      · replace hw := hw.2 hc
        refine R_aload_n F dX10_goFrom_77 rfl 0 rfl ?_
        refine gm_57 F in_goFrom dX10_goFrom_78 ?_
        refine R_iload_n F dX10_goFrom_81 rfl 2 rfl ?_
        refine R_ldi F qm_57 dX10_goFrom_82 hw.1 ?_
        replace hw := hw.2
        refine R_topi (fun x3 ex3 => ?_)
        replace hw := hw x3 ex3
        refine R_istore (lv' := [(4, .int x3), (0, .ref (B 0)), (1, .int l1), (3, .int l3), (5, .int l5)]) F dX10_goFrom_83 (by decide) rfl ?_
        refine R_aload_n F dX10_goFrom_85 rfl 1 rfl ?_
        refine gm_58 F in_goFrom dX10_goFrom_86 ?_
        refine R_iload_n F dX10_goFrom_89 rfl 3 rfl ?_
        refine R_ldi F qm_58 dX10_goFrom_90 hw.1 ?_
        replace hw := hw.2
        refine R_iconst F 1 dX10_goFrom_91 (by decide) ?_
        refine R_iadd F dX10_goFrom_92 ?_
        refine R_topi (fun x4 ex4 => ?_)
        replace hw := hw x4 ex4
        refine R_istore (lv' := [(5, .int x4), (4, .int x3), (0, .ref (B 0)), (1, .int l1), (3, .int l3)]) F dX10_goFrom_93 (by decide) rfl ?_
        refine R_iinc (q := 4) (v := (l3 + (-1))) (lv' := [(3, .int (l3 + (-1))), (5, .int x4), (4, .int x3), (0, .ref (B 0)), (1, .int l1)]) F dX10_goFrom_95 rfl rfl (by decide) rfl ?_
        refine R_iload_n F dX10_goFrom_98 rfl 0 rfl ?_
        refine R_if_lt (tgt := 64) F dX10_goFrom_99 (by decide) (fun hc => ?_) (fun hc => ?_)
        · replace hw := hw.1 hc
          exact R_sub [3, 4, 0, 2, 1] rfl (U_64 l1 (l3 + (-1)) x3 x4 σ hw)
        · replace hw := hw.2 hc
          refine R_iload F dX10_goFrom_102 1 rfl ?_
          refine R_aload_n F dX10_goFrom_104 rfl 3 rfl ?_
          refine gm_3 F in_goFrom dX10_goFrom_105 ?_
          refine R_iload F dX10_goFrom_108 2 rfl ?_
          refine R_ldi F qm_3 dX10_goFrom_110 hw.1 ?_
          replace hw := hw.2
          refine R_icmp_lt (tgt := 64) F dX10_goFrom_111 (by decide) (fun hc => ?_) (fun hc => ?_)
          · replace hw := hw.1 hc
            exact R_sub [3, 4, 0, 2, 1] rfl (U_64 l1 (l3 + (-1)) x3 x4 σ hw)
          · replace hw := hw.2 hc
            refine R_iinc (q := 2) (v := (x3 + 1)) (lv' := [(4, .int (x3 + 1)), (3, .int (l3 + (-1))), (5, .int x4), (0, .ref (B 0)), (1, .int l1)]) F dX10_goFrom_114 rfl rfl (by decide) rfl ?_
            refine R_iconst F 0 dX10_goFrom_117 (by decide) ?_
            refine R_istore (lv' := [(5, .int 0), (4, .int (x3 + 1)), (3, .int (l3 + (-1))), (0, .ref (B 0)), (1, .int l1)]) F dX10_goFrom_118 (by decide) rfl ?_
            refine R_goto (tgt := 64) F dX10_goFrom_120 (by decide) ?_
            exact R_sub [3, 4, 2, 1, 0] rfl (U_64 l1 (l3 + (-1)) (x3 + 1) 0 σ hw)
  unfold wp_goFrom at hw
  replace hw := hw X64 C_64
  refine R_iconst F 0 dX10_goFrom_0 (by decide) ?_
  refine R_istore_n (lv' := [(3, .int 0), (0, .ref (B 0)), (1, .int p1), (2, .int p2)]) F dX10_goFrom_1 rfl (by decide) rfl ?_
  refine R_aload_n F dX10_goFrom_2 rfl 1 rfl ?_
  refine gm_57 F in_goFrom dX10_goFrom_3 ?_
  refine R_iconst F 0 dX10_goFrom_6 (by decide) ?_
  refine R_iload_n F dX10_goFrom_7 rfl 2 rfl ?_
  refine R_sti F qm_57 um_57 dX10_goFrom_8 (⟨by decide, by decide⟩ : In 0 52) ?_
  refine R_aload_n F dX10_goFrom_9 rfl 1 rfl ?_
  refine gm_58 F in_goFrom dX10_goFrom_10 ?_
  refine R_iconst F 0 dX10_goFrom_13 (by decide) ?_
  refine R_iconst F (-1) dX10_goFrom_14 (by decide) ?_
  refine R_sti F qm_58 um_58 dX10_goFrom_15 (⟨by decide, by decide⟩ : In 0 52) ?_
  refine R_aload_n F dX10_goFrom_16 rfl 1 rfl ?_
  refine gm_59 F in_goFrom dX10_goFrom_17 ?_
  refine R_iconst F 0 dX10_goFrom_20 (by decide) ?_
  refine R_iload_n F dX10_goFrom_21 rfl 3 rfl ?_
  refine R_sti F qm_59 um_59 dX10_goFrom_22 (⟨by decide, by decide⟩ : In 0 52) ?_
  refine R_aload_n F dX10_goFrom_23 rfl 1 rfl ?_
  refine gm_60 F in_goFrom dX10_goFrom_24 ?_
  refine R_iconst F 0 dX10_goFrom_27 (by decide) ?_
  refine R_aload_n F dX10_goFrom_28 rfl 1 rfl ?_
  refine R_iload_n F dX10_goFrom_29 rfl 2 rfl ?_
  refine R_callI (As := [.int p1]) (C := RX10) (q0 := 0) (ci := 10) (N := 69) (T := TX10) (fs := mfl B) F (ct_metBy l E B _ p1 _ hw) (cwV 1 F.2.2.2.2.2.2.2.2.2.2 g_goFrom_metBy_295 rfl rfl rfl (by decide +kernel) ⟨Nat.le_of_ble_eq_true rfl, Nat.le_of_ble_eq_true rfl⟩) ⟨rfl, rfl⟩ rfl (fun _ => rfl) rfl rfl (Nat.le_of_ble_eq_true rfl) dX10_goFrom_30 (fun r1 σ2 hw => ?_)
  refine R_sti F qm_60 um_60 dX10_goFrom_33 (⟨by decide, by decide⟩ : In 0 52) ?_
  refine R_aload_n F dX10_goFrom_34 rfl 1 rfl ?_
  refine gm_56 F in_goFrom dX10_goFrom_35 ?_
  refine R_bipush F 16 dX10_goFrom_38 (by decide) ?_
  refine R_iconst F 2 dX10_goFrom_40 (by decide) ?_
  refine R_iload_n F dX10_goFrom_41 rfl 2 rfl ?_
  refine R_imul F dX10_goFrom_42 ?_
  refine R_iload_n F dX10_goFrom_43 rfl 3 rfl ?_
  refine R_iadd F dX10_goFrom_44 ?_
  refine R_imul F dX10_goFrom_45 ?_
  refine R_aload_n F dX10_goFrom_46 rfl 1 rfl ?_
  refine gm_60 F in_goFrom dX10_goFrom_47 ?_
  refine R_iconst F 0 dX10_goFrom_50 (by decide) ?_
  refine R_ldi F qm_60 dX10_goFrom_51 (⟨by decide, by decide⟩ : In 0 52) ?_
  refine R_iadd F dX10_goFrom_52 ?_
  refine R_ldz F qm_56 dX10_goFrom_53 hw.1 ?_
  replace hw := hw.2
  refine R_if_ne (tgt := 58) F dX10_goFrom_54 (by decide) (fun hc => ?_) (fun hc => ?_)
  · replace hw := hw.1 hc
    refine R_iconst F 0 dX10_goFrom_58 (by decide) ?_
    refine R_istore (lv' := [(4, .int 0), (3, .int 0), (0, .ref (B 0)), (1, .int p1), (2, .int p2)]) F dX10_goFrom_59 (by decide) rfl ?_
    refine R_iconst F 0 dX10_goFrom_61 (by decide) ?_
    refine R_istore (lv' := [(5, .int 0), (4, .int 0), (3, .int 0), (0, .ref (B 0)), (1, .int p1), (2, .int p2)]) F dX10_goFrom_62 (by decide) rfl ?_
    exact R_sub [3, 4, 2, 1, 0] rfl (U_64 p1 0 0 0 (sa σ2 60 0 r1) hw)
  · replace hw := hw.2 hc
    exact R_vret (Qc := Q) F dX10_goFrom_57 hw
def b_list_120 (X12 : Int32 → Int32 → VS → Prop) (X39 : Int32 → Int32 → Int32 → VS → Prop) (X64 : Int32 → VS → Prop) (X74 : Int32 → Int32 → VS → Prop) (Q : VS → Prop) (l2 : Int32) (l3 : Int32) (σ : VS) : Prop := (In l3 1000 ∧ X64 (l2 + 1) (sa σ 55 l3 l2))
def b_list_74 (X12 : Int32 → Int32 → VS → Prop) (X39 : Int32 → Int32 → Int32 → VS → Prop) (X64 : Int32 → VS → Prop) (X74 : Int32 → Int32 → VS → Prop) (Q : VS → Prop) (l2 : Int32) (l3 : Int32) (σ : VS) : Prop := ((l3.toInt ≤ 0 → b_list_120 X12 X39 X64 X74 Q l2 l3 σ) ∧ (0 < l3.toInt → (In (l3 - 1) 1000 ∧ (In (rd σ 55 (l3 - 1)) 1000 ∧ (In l2 1000 ∧ (((rd σ 49 (rd σ 55 (l3 - 1))).toInt ≤ (rd σ 49 l2).toInt → b_list_120 X12 X39 X64 X74 Q l2 l3 σ) ∧ ((rd σ 49 l2).toInt < (rd σ 49 (rd σ 55 (l3 - 1))).toInt → (In (l3 - 1) 1000 ∧ (In l3 1000 ∧ X74 l2 (l3 + (-1)) (sa σ 55 l3 (rd σ 55 (l3 - 1))))))))))))
def b_list_64 (X12 : Int32 → Int32 → VS → Prop) (X39 : Int32 → Int32 → Int32 → VS → Prop) (X64 : Int32 → VS → Prop) (X74 : Int32 → Int32 → VS → Prop) (Q : VS → Prop) (l2 : Int32) (σ : VS) : Prop := (((σ.1 48).toInt ≤ l2.toInt → Q σ) ∧ (l2.toInt < (σ.1 48).toInt → X74 l2 l2 σ))
def b_list_56 (X12 : Int32 → Int32 → VS → Prop) (X39 : Int32 → Int32 → Int32 → VS → Prop) (X64 : Int32 → VS → Prop) (X74 : Int32 → Int32 → VS → Prop) (Q : VS → Prop) (l1 : Int32) (l2 : Int32) (σ : VS) : Prop := X12 l1 (l2 + 1) σ
def b_list_39 (X12 : Int32 → Int32 → VS → Prop) (X39 : Int32 → Int32 → Int32 → VS → Prop) (X64 : Int32 → VS → Prop) (X74 : Int32 → Int32 → VS → Prop) (Q : VS → Prop) (l1 : Int32) (l2 : Int32) (l3 : Int32) (σ : VS) : Prop := ((2 ≤ l3.toInt → b_list_56 X12 X39 X64 X74 Q l1 l2 σ) ∧ (l3.toInt < 2 → wp_goFrom (fun (σ6 : VS) => X39 l1 l2 (l3 + 1) σ6) l2 l3 σ))
def b_list_12 (X12 : Int32 → Int32 → VS → Prop) (X39 : Int32 → Int32 → Int32 → VS → Prop) (X64 : Int32 → VS → Prop) (X74 : Int32 → Int32 → VS → Prop) (Q : VS → Prop) (l1 : Int32) (l2 : Int32) (σ : VS) : Prop := (((σ.1 1).toInt ≤ l2.toInt → X64 0 σ) ∧ (l2.toInt < (σ.1 1).toInt → wp_isStart (fun (r1 : Int32) (σ2 : VS) => ((r1.toInt ≠ 0 → wp_markGood (fun (σ4 : VS) => X39 l1 l2 0 σ4) l2 l1 σ2) ∧ (r1.toInt = 0 → b_list_56 X12 X39 X64 X74 Q l1 l2 σ2))) l2 σ))
def wp_list (Q : VS → Prop) (p1 : Int32) (σ : VS) : Prop := ∀ (X12 : Int32 → Int32 → VS → Prop) (X39 : Int32 → Int32 → Int32 → VS → Prop) (X64 : Int32 → VS → Prop) (X74 : Int32 → Int32 → VS → Prop), (∀ (l1 : Int32) (l2 : Int32) (σ : VS), b_list_12 X12 X39 X64 X74 Q l1 l2 σ → X12 l1 l2 σ) → (∀ (l1 : Int32) (l2 : Int32) (l3 : Int32) (σ : VS), b_list_39 X12 X39 X64 X74 Q l1 l2 l3 σ → X39 l1 l2 l3 σ) → (∀ (l2 : Int32) (σ : VS), b_list_64 X12 X39 X64 X74 Q l2 σ → X64 l2 σ) → (∀ (l2 : Int32) (l3 : Int32) (σ : VS), b_list_74 X12 X39 X64 X74 Q l2 l3 σ → X74 l2 l3 σ) → X12 p1 0 (sf (sf σ 48 0) 61 p1)
theorem dX10_list_0 : decode cX10_list 0 = .ok (.aload_n 0, 1) := by decide +kernel
theorem dX10_list_1 : decode cX10_list 1 = .ok (.iconst 0, 1) := by decide +kernel
theorem dX10_list_2 : decode cX10_list 2 = .ok (.putfield 326, 3) := by decide +kernel
theorem dX10_list_5 : decode cX10_list 5 = .ok (.aload_n 0, 1) := by decide +kernel
theorem dX10_list_6 : decode cX10_list 6 = .ok (.iload_n 1, 1) := by decide +kernel
theorem dX10_list_7 : decode cX10_list 7 = .ok (.putfield 329, 3) := by decide +kernel
theorem dX10_list_10 : decode cX10_list 10 = .ok (.iconst 0, 1) := by decide +kernel
theorem dX10_list_11 : decode cX10_list 11 = .ok (.istore_n 2, 1) := by decide +kernel
theorem dX10_list_12 : decode cX10_list 12 = .ok (.iload_n 2, 1) := by decide +kernel
theorem dX10_list_13 : decode cX10_list 13 = .ok (.aload_n 0, 1) := by decide +kernel
theorem dX10_list_14 : decode cX10_list 14 = .ok (.getfield 7, 3) := by decide +kernel
theorem dX10_list_17 : decode cX10_list 17 = .ok (.if_icmp .ge 45, 3) := by decide +kernel
theorem dX10_list_62 : decode cX10_list 62 = .ok (.iconst 0, 1) := by decide +kernel
theorem dX10_list_63 : decode cX10_list 63 = .ok (.istore_n 2, 1) := by decide +kernel
theorem dX10_list_20 : decode cX10_list 20 = .ok (.aload_n 0, 1) := by decide +kernel
theorem dX10_list_21 : decode cX10_list 21 = .ok (.iload_n 2, 1) := by decide +kernel
theorem dX10_list_22 : decode cX10_list 22 = .ok (.invokevirtual 303, 3) := by decide +kernel
theorem dX10_list_25 : decode cX10_list 25 = .ok (.ifCond .ne 6, 3) := by decide +kernel
theorem dX10_list_31 : decode cX10_list 31 = .ok (.aload_n 0, 1) := by decide +kernel
theorem dX10_list_32 : decode cX10_list 32 = .ok (.iload_n 2, 1) := by decide +kernel
theorem dX10_list_33 : decode cX10_list 33 = .ok (.iload_n 1, 1) := by decide +kernel
theorem dX10_list_34 : decode cX10_list 34 = .ok (.invokevirtual 332, 3) := by decide +kernel
theorem dX10_list_37 : decode cX10_list 37 = .ok (.iconst 0, 1) := by decide +kernel
theorem dX10_list_38 : decode cX10_list 38 = .ok (.istore_n 3, 1) := by decide +kernel
theorem dX10_list_28 : decode cX10_list 28 = .ok (.goto 28, 3) := by decide +kernel
theorem dX10_list_64 : decode cX10_list 64 = .ok (.iload_n 2, 1) := by decide +kernel
theorem dX10_list_65 : decode cX10_list 65 = .ok (.aload_n 0, 1) := by decide +kernel
theorem dX10_list_66 : decode cX10_list 66 = .ok (.getfield 326, 3) := by decide +kernel
theorem dX10_list_69 : decode cX10_list 69 = .ok (.if_icmp .ge 64, 3) := by decide +kernel
theorem dX10_list_133 : decode cX10_list 133 = .ok (.return_, 1) := by decide +kernel
theorem dX10_list_72 : decode cX10_list 72 = .ok (.iload_n 2, 1) := by decide +kernel
theorem dX10_list_73 : decode cX10_list 73 = .ok (.istore_n 3, 1) := by decide +kernel
theorem dX10_list_39 : decode cX10_list 39 = .ok (.iload_n 3, 1) := by decide +kernel
theorem dX10_list_40 : decode cX10_list 40 = .ok (.iconst 2, 1) := by decide +kernel
theorem dX10_list_41 : decode cX10_list 41 = .ok (.if_icmp .ge 15, 3) := by decide +kernel
theorem dX10_list_44 : decode cX10_list 44 = .ok (.aload_n 0, 1) := by decide +kernel
theorem dX10_list_45 : decode cX10_list 45 = .ok (.iload_n 2, 1) := by decide +kernel
theorem dX10_list_46 : decode cX10_list 46 = .ok (.iload_n 3, 1) := by decide +kernel
theorem dX10_list_47 : decode cX10_list 47 = .ok (.invokevirtual 335, 3) := by decide +kernel
theorem dX10_list_50 : decode cX10_list 50 = .ok (.iinc 3 1, 3) := by decide +kernel
theorem dX10_list_53 : decode cX10_list 53 = .ok (.goto (-14), 3) := by decide +kernel
theorem dX10_list_56 : decode cX10_list 56 = .ok (.iinc 2 1, 3) := by decide +kernel
theorem dX10_list_59 : decode cX10_list 59 = .ok (.goto (-47), 3) := by decide +kernel
theorem dX10_list_74 : decode cX10_list 74 = .ok (.iload_n 3, 1) := by decide +kernel
theorem dX10_list_75 : decode cX10_list 75 = .ok (.ifCond .le 45, 3) := by decide +kernel
theorem dX10_list_78 : decode cX10_list 78 = .ok (.aload_n 0, 1) := by decide +kernel
theorem dX10_list_79 : decode cX10_list 79 = .ok (.getfield 159, 3) := by decide +kernel
theorem dX10_list_82 : decode cX10_list 82 = .ok (.aload_n 0, 1) := by decide +kernel
theorem dX10_list_83 : decode cX10_list 83 = .ok (.getfield 178, 3) := by decide +kernel
theorem dX10_list_86 : decode cX10_list 86 = .ok (.iload_n 3, 1) := by decide +kernel
theorem dX10_list_87 : decode cX10_list 87 = .ok (.iconst 1, 1) := by decide +kernel
theorem dX10_list_88 : decode cX10_list 88 = .ok (.isub, 1) := by decide +kernel
theorem dX10_list_89 : decode cX10_list 89 = .ok (.iaload, 1) := by decide +kernel
theorem dX10_list_90 : decode cX10_list 90 = .ok (.iaload, 1) := by decide +kernel
theorem dX10_list_91 : decode cX10_list 91 = .ok (.aload_n 0, 1) := by decide +kernel
theorem dX10_list_92 : decode cX10_list 92 = .ok (.getfield 159, 3) := by decide +kernel
theorem dX10_list_95 : decode cX10_list 95 = .ok (.iload_n 2, 1) := by decide +kernel
theorem dX10_list_96 : decode cX10_list 96 = .ok (.iaload, 1) := by decide +kernel
theorem dX10_list_97 : decode cX10_list 97 = .ok (.if_icmp .le 23, 3) := by decide +kernel
theorem dX10_list_100 : decode cX10_list 100 = .ok (.aload_n 0, 1) := by decide +kernel
theorem dX10_list_101 : decode cX10_list 101 = .ok (.getfield 178, 3) := by decide +kernel
theorem dX10_list_104 : decode cX10_list 104 = .ok (.iload_n 3, 1) := by decide +kernel
theorem dX10_list_105 : decode cX10_list 105 = .ok (.aload_n 0, 1) := by decide +kernel
theorem dX10_list_106 : decode cX10_list 106 = .ok (.getfield 178, 3) := by decide +kernel
theorem dX10_list_109 : decode cX10_list 109 = .ok (.iload_n 3, 1) := by decide +kernel
theorem dX10_list_110 : decode cX10_list 110 = .ok (.iconst 1, 1) := by decide +kernel
theorem dX10_list_111 : decode cX10_list 111 = .ok (.isub, 1) := by decide +kernel
theorem dX10_list_112 : decode cX10_list 112 = .ok (.iaload, 1) := by decide +kernel
theorem dX10_list_113 : decode cX10_list 113 = .ok (.iastore, 1) := by decide +kernel
theorem dX10_list_114 : decode cX10_list 114 = .ok (.iinc 3 (-1), 3) := by decide +kernel
theorem dX10_list_117 : decode cX10_list 117 = .ok (.goto (-43), 3) := by decide +kernel
theorem dX10_list_120 : decode cX10_list 120 = .ok (.aload_n 0, 1) := by decide +kernel
theorem dX10_list_121 : decode cX10_list 121 = .ok (.getfield 178, 3) := by decide +kernel
theorem dX10_list_124 : decode cX10_list 124 = .ok (.iload_n 3, 1) := by decide +kernel
theorem dX10_list_125 : decode cX10_list 125 = .ok (.iload_n 2, 1) := by decide +kernel
theorem dX10_list_126 : decode cX10_list 126 = .ok (.iastore, 1) := by decide +kernel
theorem dX10_list_127 : decode cX10_list 127 = .ok (.iinc 2 1, 3) := by decide +kernel
theorem dX10_list_130 : decode cX10_list 130 = .ok (.goto (-66), 3) := by decide +kernel
def wo_list : List Cond := [.code yX10_list cX10_list 4 none, .methodLink RX10 303 yX10_isStart, .instanceMethod yX10_isStart, .selects RX10 yX10_isStart yX10_isStart, .initialized RX10, .methodLink RX10 332 yX10_markGood, .instanceMethod yX10_markGood, .selects RX10 yX10_markGood yX10_markGood, .methodLink RX10 335 yX10_goFrom, .instanceMethod yX10_goFrom, .selects RX10 yX10_goFrom yX10_goFrom]
def wr_list : List Cond := (wfX10 ++ (w_isStart ++ (w_markGood ++ (w_goFrom ++ ([])))))
def w_list : List Cond := wo_list ++ wr_list
theorem wg_list : GW w_list := GW_app (GW_of (by decide +kernel)) (GW_app (wg_fX10) (GW_app (wg_isStart) (GW_app (wg_markGood) (GW_app (wg_goFrom) (GW_nil)))))
theorem in_list : ∀ w ∈ wfX10, w ∈ w_list := fun _ h => List.mem_append_right _ (List.mem_append_left _ h)
theorem g_list_isStart_303 : GoodIn w_list (wsV RX10 303 RX10 yX10_isStart w_isStart) := goodIn_app (gi_left (goodIn_of _ (by decide +kernel))) (fun w h => ⟨List.mem_append_right _ (List.mem_append_right _ (List.mem_append_left _ h)), wg_isStart w h⟩)
theorem g_list_markGood_332 : GoodIn w_list (wsV RX10 332 RX10 yX10_markGood w_markGood) := goodIn_app (gi_left (goodIn_of _ (by decide +kernel))) (fun w h => ⟨List.mem_append_right _ (List.mem_append_right _ (List.mem_append_right _ (List.mem_append_left _ h))), wg_markGood w h⟩)
theorem g_list_goFrom_335 : GoodIn w_list (wsV RX10 335 RX10 yX10_goFrom w_goFrom) := goodIn_app (gi_left (goodIn_of _ (by decide +kernel))) (fun w h => ⟨List.mem_append_right _ (List.mem_append_right _ (List.mem_append_right _ (List.mem_append_right _ (List.mem_append_left _ h)))), wg_goFrom w h⟩)
set_option maxHeartbeats 4000000 in
set_option maxRecDepth 100000 in
theorem ct_list (l : Launch) (E : gE) (B : Nat → Nat) (Q : VS → Prop) (p1 : Int32) (σ : VS) (hw : wp_list Q p1 σ) : CtV l E yX10_list w_list (({ frames := 4, cells := 0, slots := 0, locals := 102 } : Room)) (wm E B σ) [.ref (B 0), .int p1] (fun w => ∃ σ' : VS, Q σ' ∧ w = wm E B σ') := by
  refine VC_V (cc := cX10_list) (mL := 4) (rt := none) (lv0 := [(0, .ref (B 0)), (1, .int p1)]) rfl (by decide) rfl (Nat.le_of_ble_eq_true rfl) ?_
  intro p e s m below meth c A F
  replace F : Fx p s m _ meth c A E cX10_list 4 none RX10 w_list := F
  obtain ⟨X12, hX12⟩ : ∃ X : Int32 → Int32 → VS → Prop, X = fun l1 l2 σ => WB p l e (({ frames := 4, cells := 0, slots := 0, locals := 102 } : Room)) s m (#[.ref (B 0), .int p1]) below meth c (MQ below (va_Qv (fun w => ∃ σ' : VS, Q σ' ∧ w = wm E B σ') (AftU E A) A) (#[.ref (B 0), .int p1]) s (({ frames := 4, cells := 0, slots := 0, locals := 102 } : Room)).cells (({ frames := 4, cells := 0, slots := 0, locals := 102 } : Room)).slots A) A E (wm E B) 4 12 [(0, .ref (B 0)), (1, .int l1), (2, .int l2)] [] σ := ⟨_, rfl⟩
  have U_12 : ∀ (l1 : Int32) (l2 : Int32) (σ : VS), X12 l1 l2 σ → WB p l e (({ frames := 4, cells := 0, slots := 0, locals := 102 } : Room)) s m (#[.ref (B 0), .int p1]) below meth c (MQ below (va_Qv (fun w => ∃ σ' : VS, Q σ' ∧ w = wm E B σ') (AftU E A) A) (#[.ref (B 0), .int p1]) s (({ frames := 4, cells := 0, slots := 0, locals := 102 } : Room)).cells (({ frames := 4, cells := 0, slots := 0, locals := 102 } : Room)).slots A) A E (wm E B) 4 12 [(0, .ref (B 0)), (1, .int l1), (2, .int l2)] [] σ := by
    intro l1 l2 σ hw; rw [hX12] at hw; exact hw
  obtain ⟨X39, hX39⟩ : ∃ X : Int32 → Int32 → Int32 → VS → Prop, X = fun l1 l2 l3 σ => WB p l e (({ frames := 4, cells := 0, slots := 0, locals := 102 } : Room)) s m (#[.ref (B 0), .int p1]) below meth c (MQ below (va_Qv (fun w => ∃ σ' : VS, Q σ' ∧ w = wm E B σ') (AftU E A) A) (#[.ref (B 0), .int p1]) s (({ frames := 4, cells := 0, slots := 0, locals := 102 } : Room)).cells (({ frames := 4, cells := 0, slots := 0, locals := 102 } : Room)).slots A) A E (wm E B) 4 39 [(0, .ref (B 0)), (1, .int l1), (2, .int l2), (3, .int l3)] [] σ := ⟨_, rfl⟩
  have U_39 : ∀ (l1 : Int32) (l2 : Int32) (l3 : Int32) (σ : VS), X39 l1 l2 l3 σ → WB p l e (({ frames := 4, cells := 0, slots := 0, locals := 102 } : Room)) s m (#[.ref (B 0), .int p1]) below meth c (MQ below (va_Qv (fun w => ∃ σ' : VS, Q σ' ∧ w = wm E B σ') (AftU E A) A) (#[.ref (B 0), .int p1]) s (({ frames := 4, cells := 0, slots := 0, locals := 102 } : Room)).cells (({ frames := 4, cells := 0, slots := 0, locals := 102 } : Room)).slots A) A E (wm E B) 4 39 [(0, .ref (B 0)), (1, .int l1), (2, .int l2), (3, .int l3)] [] σ := by
    intro l1 l2 l3 σ hw; rw [hX39] at hw; exact hw
  obtain ⟨X64, hX64⟩ : ∃ X : Int32 → VS → Prop, X = fun l2 σ => WB p l e (({ frames := 4, cells := 0, slots := 0, locals := 102 } : Room)) s m (#[.ref (B 0), .int p1]) below meth c (MQ below (va_Qv (fun w => ∃ σ' : VS, Q σ' ∧ w = wm E B σ') (AftU E A) A) (#[.ref (B 0), .int p1]) s (({ frames := 4, cells := 0, slots := 0, locals := 102 } : Room)).cells (({ frames := 4, cells := 0, slots := 0, locals := 102 } : Room)).slots A) A E (wm E B) 4 64 [(0, .ref (B 0)), (2, .int l2)] [] σ := ⟨_, rfl⟩
  have U_64 : ∀ (l2 : Int32) (σ : VS), X64 l2 σ → WB p l e (({ frames := 4, cells := 0, slots := 0, locals := 102 } : Room)) s m (#[.ref (B 0), .int p1]) below meth c (MQ below (va_Qv (fun w => ∃ σ' : VS, Q σ' ∧ w = wm E B σ') (AftU E A) A) (#[.ref (B 0), .int p1]) s (({ frames := 4, cells := 0, slots := 0, locals := 102 } : Room)).cells (({ frames := 4, cells := 0, slots := 0, locals := 102 } : Room)).slots A) A E (wm E B) 4 64 [(0, .ref (B 0)), (2, .int l2)] [] σ := by
    intro l2 σ hw; rw [hX64] at hw; exact hw
  obtain ⟨X74, hX74⟩ : ∃ X : Int32 → Int32 → VS → Prop, X = fun l2 l3 σ => WB p l e (({ frames := 4, cells := 0, slots := 0, locals := 102 } : Room)) s m (#[.ref (B 0), .int p1]) below meth c (MQ below (va_Qv (fun w => ∃ σ' : VS, Q σ' ∧ w = wm E B σ') (AftU E A) A) (#[.ref (B 0), .int p1]) s (({ frames := 4, cells := 0, slots := 0, locals := 102 } : Room)).cells (({ frames := 4, cells := 0, slots := 0, locals := 102 } : Room)).slots A) A E (wm E B) 4 74 [(0, .ref (B 0)), (2, .int l2), (3, .int l3)] [] σ := ⟨_, rfl⟩
  have U_74 : ∀ (l2 : Int32) (l3 : Int32) (σ : VS), X74 l2 l3 σ → WB p l e (({ frames := 4, cells := 0, slots := 0, locals := 102 } : Room)) s m (#[.ref (B 0), .int p1]) below meth c (MQ below (va_Qv (fun w => ∃ σ' : VS, Q σ' ∧ w = wm E B σ') (AftU E A) A) (#[.ref (B 0), .int p1]) s (({ frames := 4, cells := 0, slots := 0, locals := 102 } : Room)).cells (({ frames := 4, cells := 0, slots := 0, locals := 102 } : Room)).slots A) A E (wm E B) 4 74 [(0, .ref (B 0)), (2, .int l2), (3, .int l3)] [] σ := by
    intro l2 l3 σ hw; rw [hX74] at hw; exact hw
  have J_120 : ∀ (l2 : Int32) (l3 : Int32) (σ : VS), b_list_120 X12 X39 X64 X74 Q l2 l3 σ → WB p l e (({ frames := 4, cells := 0, slots := 0, locals := 102 } : Room)) s m (#[.ref (B 0), .int p1]) below meth c (MQ below (va_Qv (fun w => ∃ σ' : VS, Q σ' ∧ w = wm E B σ') (AftU E A) A) (#[.ref (B 0), .int p1]) s (({ frames := 4, cells := 0, slots := 0, locals := 102 } : Room)).cells (({ frames := 4, cells := 0, slots := 0, locals := 102 } : Room)).slots A) A E (wm E B) 4 120 [(0, .ref (B 0)), (2, .int l2), (3, .int l3)] [] σ := by
    intro l2 l3 σ hw
    unfold b_list_120 at hw
    refine R_aload_n F dX10_list_120 rfl 0 rfl ?_
    refine gm_55 F in_list dX10_list_121 ?_
    refine R_iload_n F dX10_list_124 rfl 2 rfl ?_
    refine R_iload_n F dX10_list_125 rfl 1 rfl ?_
    have hi := hw.1
    replace hw := hw.2
    refine R_sti F qm_55 um_55 dX10_list_126 hi ?_
    refine R_iinc (q := 1) (v := (l2 + 1)) (lv' := [(2, .int (l2 + 1)), (0, .ref (B 0)), (3, .int l3)]) F dX10_list_127 rfl rfl (by decide) rfl ?_
    refine R_goto (tgt := 64) F dX10_list_130 (by decide) ?_
    exact R_sub [1, 0] rfl (U_64 (l2 + 1) (sa σ 55 l3 l2) hw)
  have J_56 : ∀ (l1 : Int32) (l2 : Int32) (σ : VS), b_list_56 X12 X39 X64 X74 Q l1 l2 σ → WB p l e (({ frames := 4, cells := 0, slots := 0, locals := 102 } : Room)) s m (#[.ref (B 0), .int p1]) below meth c (MQ below (va_Qv (fun w => ∃ σ' : VS, Q σ' ∧ w = wm E B σ') (AftU E A) A) (#[.ref (B 0), .int p1]) s (({ frames := 4, cells := 0, slots := 0, locals := 102 } : Room)).cells (({ frames := 4, cells := 0, slots := 0, locals := 102 } : Room)).slots A) A E (wm E B) 4 56 [(0, .ref (B 0)), (1, .int l1), (2, .int l2)] [] σ := by
    intro l1 l2 σ hw
    unfold b_list_56 at hw
    refine R_iinc (q := 2) (v := (l2 + 1)) (lv' := [(2, .int (l2 + 1)), (0, .ref (B 0)), (1, .int l1)]) F dX10_list_56 rfl rfl (by decide) rfl ?_
    refine R_goto (tgt := 12) F dX10_list_59 (by decide) ?_
    exact R_sub [1, 2, 0] rfl (U_12 l1 (l2 + 1) σ hw)
  have C_12 : ∀ (l1 : Int32) (l2 : Int32) (σ : VS), b_list_12 X12 X39 X64 X74 Q l1 l2 σ → X12 l1 l2 σ := by
    intro l1 l2 σ hw
    unfold b_list_12 at hw
    rw [hX12]
    show WB p l e (({ frames := 4, cells := 0, slots := 0, locals := 102 } : Room)) s m (#[.ref (B 0), .int p1]) below meth c (MQ below (va_Qv (fun w => ∃ σ' : VS, Q σ' ∧ w = wm E B σ') (AftU E A) A) (#[.ref (B 0), .int p1]) s (({ frames := 4, cells := 0, slots := 0, locals := 102 } : Room)).cells (({ frames := 4, cells := 0, slots := 0, locals := 102 } : Room)).slots A) A E (wm E B) 4 12 [(0, .ref (B 0)), (1, .int l1), (2, .int l2)] [] σ
    refine R_iload_n F dX10_list_12 rfl 2 rfl ?_
    refine R_aload_n F dX10_list_13 rfl 0 rfl ?_
    refine gm_1 F in_list dX10_list_14 ?_
    refine R_icmp_ge (tgt := 62) F dX10_list_17 (by decide) (fun hc => ?_) (fun hc => ?_)
    · replace hw := hw.1 hc
      refine R_iconst F 0 dX10_list_62 (by decide) ?_
      refine R_istore_n (lv' := [(2, .int 0), (0, .ref (B 0)), (1, .int l1)]) F dX10_list_63 rfl (by decide) rfl ?_
      exact R_sub [1, 0] rfl (U_64 0 σ hw)
    · replace hw := hw.2 hc
      refine R_aload_n F dX10_list_20 rfl 0 rfl ?_
      refine R_iload_n F dX10_list_21 rfl 2 rfl ?_
      refine R_callI (As := [.int l2]) (C := RX10) (q0 := 0) (ci := 10) (N := 69) (T := TX10) (fs := mfl B) F (ct_isStart l E B _ l2 _ hw) (cwV 1 F.2.2.2.2.2.2.2.2.2.2 g_list_isStart_303 rfl rfl rfl (by decide +kernel) ⟨Nat.le_of_ble_eq_true rfl, Nat.le_of_ble_eq_true rfl⟩) ⟨rfl, rfl⟩ rfl (fun _ => rfl) rfl rfl (Nat.le_of_ble_eq_true rfl) dX10_list_22 (fun r1 σ2 hw => ?_)
      refine R_if_ne (tgt := 31) F dX10_list_25 (by decide) (fun hc => ?_) (fun hc => ?_)
      · replace hw := hw.1 hc
        refine R_aload_n F dX10_list_31 rfl 0 rfl ?_
        refine R_iload_n F dX10_list_32 rfl 2 rfl ?_
        refine R_iload_n F dX10_list_33 rfl 1 rfl ?_
        refine R_callV (As := [.int l2, .int l1]) (C := RX10) (q0 := 0) (ci := 10) (N := 69) (T := TX10) (fs := mfl B) F (ct_markGood l E B _ l2 l1 _ hw) (cwV 2 F.2.2.2.2.2.2.2.2.2.2 g_list_markGood_332 rfl rfl rfl (by decide +kernel) ⟨Nat.le_of_ble_eq_true rfl, Nat.le_of_ble_eq_true rfl⟩) ⟨rfl, rfl⟩ rfl (fun _ => rfl) rfl rfl (Nat.le_of_ble_eq_true rfl) dX10_list_34 (fun σ4 hw => ?_)
        refine R_iconst F 0 dX10_list_37 (by decide) ?_
        refine R_istore_n (lv' := [(3, .int 0), (0, .ref (B 0)), (1, .int l1), (2, .int l2)]) F dX10_list_38 rfl (by decide) rfl ?_
        exact R_sub [1, 2, 3, 0] rfl (U_39 l1 l2 0 σ4 hw)
      · replace hw := hw.2 hc
        refine R_goto (tgt := 56) F dX10_list_28 (by decide) ?_
        exact R_sub [0, 1, 2] rfl (J_56 l1 l2 σ2 hw)
  have C_39 : ∀ (l1 : Int32) (l2 : Int32) (l3 : Int32) (σ : VS), b_list_39 X12 X39 X64 X74 Q l1 l2 l3 σ → X39 l1 l2 l3 σ := by
    intro l1 l2 l3 σ hw
    unfold b_list_39 at hw
    rw [hX39]
    show WB p l e (({ frames := 4, cells := 0, slots := 0, locals := 102 } : Room)) s m (#[.ref (B 0), .int p1]) below meth c (MQ below (va_Qv (fun w => ∃ σ' : VS, Q σ' ∧ w = wm E B σ') (AftU E A) A) (#[.ref (B 0), .int p1]) s (({ frames := 4, cells := 0, slots := 0, locals := 102 } : Room)).cells (({ frames := 4, cells := 0, slots := 0, locals := 102 } : Room)).slots A) A E (wm E B) 4 39 [(0, .ref (B 0)), (1, .int l1), (2, .int l2), (3, .int l3)] [] σ
    refine R_iload_n F dX10_list_39 rfl 3 rfl ?_
    refine R_iconst F 2 dX10_list_40 (by decide) ?_
    refine R_icmp_ge (tgt := 56) F dX10_list_41 (by decide) (fun hc => ?_) (fun hc => ?_)
    · replace hw := hw.1 hc
      exact R_sub [0, 1, 2] rfl (J_56 l1 l2 σ hw)
    · replace hw := hw.2 hc
      refine R_aload_n F dX10_list_44 rfl 0 rfl ?_
      refine R_iload_n F dX10_list_45 rfl 2 rfl ?_
      refine R_iload_n F dX10_list_46 rfl 3 rfl ?_
      refine R_callV (As := [.int l2, .int l3]) (C := RX10) (q0 := 0) (ci := 10) (N := 69) (T := TX10) (fs := mfl B) F (ct_goFrom l E B _ l2 l3 _ hw) (cwV 2 F.2.2.2.2.2.2.2.2.2.2 g_list_goFrom_335 rfl rfl rfl (by decide +kernel) ⟨Nat.le_of_ble_eq_true rfl, Nat.le_of_ble_eq_true rfl⟩) ⟨rfl, rfl⟩ rfl (fun _ => rfl) rfl rfl (Nat.le_of_ble_eq_true rfl) dX10_list_47 (fun σ6 hw => ?_)
      refine R_iinc (q := 3) (v := (l3 + 1)) (lv' := [(3, .int (l3 + 1)), (0, .ref (B 0)), (1, .int l1), (2, .int l2)]) F dX10_list_50 rfl rfl (by decide) rfl ?_
      refine R_goto (tgt := 39) F dX10_list_53 (by decide) ?_
      exact R_sub [1, 2, 3, 0] rfl (U_39 l1 l2 (l3 + 1) σ6 hw)
  have C_64 : ∀ (l2 : Int32) (σ : VS), b_list_64 X12 X39 X64 X74 Q l2 σ → X64 l2 σ := by
    intro l2 σ hw
    unfold b_list_64 at hw
    rw [hX64]
    show WB p l e (({ frames := 4, cells := 0, slots := 0, locals := 102 } : Room)) s m (#[.ref (B 0), .int p1]) below meth c (MQ below (va_Qv (fun w => ∃ σ' : VS, Q σ' ∧ w = wm E B σ') (AftU E A) A) (#[.ref (B 0), .int p1]) s (({ frames := 4, cells := 0, slots := 0, locals := 102 } : Room)).cells (({ frames := 4, cells := 0, slots := 0, locals := 102 } : Room)).slots A) A E (wm E B) 4 64 [(0, .ref (B 0)), (2, .int l2)] [] σ
    refine R_iload_n F dX10_list_64 rfl 1 rfl ?_
    refine R_aload_n F dX10_list_65 rfl 0 rfl ?_
    refine gm_48 F in_list dX10_list_66 ?_
    refine R_icmp_ge (tgt := 133) F dX10_list_69 (by decide) (fun hc => ?_) (fun hc => ?_)
    · replace hw := hw.1 hc
      exact R_vret (Qc := Q) F dX10_list_133 hw
    · replace hw := hw.2 hc
      refine R_iload_n F dX10_list_72 rfl 1 rfl ?_
      refine R_istore_n (lv' := [(3, .int l2), (0, .ref (B 0)), (2, .int l2)]) F dX10_list_73 rfl (by decide) rfl ?_
      exact R_sub [1, 2, 0] rfl (U_74 l2 l2 σ hw)
  have C_74 : ∀ (l2 : Int32) (l3 : Int32) (σ : VS), b_list_74 X12 X39 X64 X74 Q l2 l3 σ → X74 l2 l3 σ := by
    intro l2 l3 σ hw
    unfold b_list_74 at hw
    rw [hX74]
    show WB p l e (({ frames := 4, cells := 0, slots := 0, locals := 102 } : Room)) s m (#[.ref (B 0), .int p1]) below meth c (MQ below (va_Qv (fun w => ∃ σ' : VS, Q σ' ∧ w = wm E B σ') (AftU E A) A) (#[.ref (B 0), .int p1]) s (({ frames := 4, cells := 0, slots := 0, locals := 102 } : Room)).cells (({ frames := 4, cells := 0, slots := 0, locals := 102 } : Room)).slots A) A E (wm E B) 4 74 [(0, .ref (B 0)), (2, .int l2), (3, .int l3)] [] σ
    refine R_iload_n F dX10_list_74 rfl 2 rfl ?_
    refine R_if_le (tgt := 120) F dX10_list_75 (by decide) (fun hc => ?_) (fun hc => ?_)
    · replace hw := hw.1 hc
      exact R_sub [0, 1, 2] rfl (J_120 l2 l3 σ hw)
    · replace hw := hw.2 hc
      refine R_aload_n F dX10_list_78 rfl 0 rfl ?_
      refine gm_49 F in_list dX10_list_79 ?_
      refine R_aload_n F dX10_list_82 rfl 0 rfl ?_
      refine gm_55 F in_list dX10_list_83 ?_
      refine R_iload_n F dX10_list_86 rfl 2 rfl ?_
      refine R_iconst F 1 dX10_list_87 (by decide) ?_
      refine R_isub F dX10_list_88 ?_
      refine R_ldi F qm_55 dX10_list_89 hw.1 ?_
      replace hw := hw.2
      refine R_ldi F qm_49 dX10_list_90 hw.1 ?_
      replace hw := hw.2
      refine R_aload_n F dX10_list_91 rfl 0 rfl ?_
      refine gm_49 F in_list dX10_list_92 ?_
      refine R_iload_n F dX10_list_95 rfl 1 rfl ?_
      refine R_ldi F qm_49 dX10_list_96 hw.1 ?_
      replace hw := hw.2
      refine R_icmp_le (tgt := 120) F dX10_list_97 (by decide) (fun hc => ?_) (fun hc => ?_)
      · replace hw := hw.1 hc
        exact R_sub [0, 1, 2] rfl (J_120 l2 l3 σ hw)
      · replace hw := hw.2 hc
        refine R_aload_n F dX10_list_100 rfl 0 rfl ?_
        refine gm_55 F in_list dX10_list_101 ?_
        refine R_iload_n F dX10_list_104 rfl 2 rfl ?_
        refine R_aload_n F dX10_list_105 rfl 0 rfl ?_
        refine gm_55 F in_list dX10_list_106 ?_
        refine R_iload_n F dX10_list_109 rfl 2 rfl ?_
        refine R_iconst F 1 dX10_list_110 (by decide) ?_
        refine R_isub F dX10_list_111 ?_
        refine R_ldi F qm_55 dX10_list_112 hw.1 ?_
        replace hw := hw.2
        have hi := hw.1
        replace hw := hw.2
        refine R_sti F qm_55 um_55 dX10_list_113 hi ?_
        refine R_iinc (q := 2) (v := (l3 + (-1))) (lv' := [(3, .int (l3 + (-1))), (0, .ref (B 0)), (2, .int l2)]) F dX10_list_114 rfl rfl (by decide) rfl ?_
        refine R_goto (tgt := 74) F dX10_list_117 (by decide) ?_
        exact R_sub [1, 2, 0] rfl (U_74 l2 (l3 + (-1)) (sa σ 55 l3 (rd σ 55 (l3 - 1))) hw)
  unfold wp_list at hw
  replace hw := hw X12 X39 X64 X74 C_12 C_39 C_64 C_74
  refine R_aload_n F dX10_list_0 rfl 0 rfl ?_
  refine R_iconst F 0 dX10_list_1 (by decide) ?_
  refine pm_48 F in_list dX10_list_2 ?_
  refine R_aload_n F dX10_list_5 rfl 0 rfl ?_
  refine R_iload_n F dX10_list_6 rfl 1 rfl ?_
  refine pm_61 F in_list dX10_list_7 ?_
  refine R_iconst F 0 dX10_list_10 (by decide) ?_
  refine R_istore_n (lv' := [(2, .int 0), (0, .ref (B 0)), (1, .int p1)]) F dX10_list_11 rfl (by decide) rfl ?_
  exact R_sub [1, 2, 0] rfl (U_12 p1 0 (sf (sf σ 48 0) 61 p1) hw)
def b_path_259 (X114 : Int32 → Int32 → Int32 → Int32 → Int32 → Int32 → Int32 → VS → Prop) (Q : Int32 → VS → Prop) (l1 : Int32) (l3 : Int32) (l4 : Int32) (l5 : Int32) (l6 : Int32) (l7 : Int32) (l8 : Int32) (σ : VS) : Prop := (In l8 52 ∧ (In l8 52 ∧ X114 l1 l3 l4 l5 l6 l7 (l8 + 1) (sa (sa σ 65 l8 l5) 66 l8 l6)))
def b_path_201 (X114 : Int32 → Int32 → Int32 → Int32 → Int32 → Int32 → Int32 → VS → Prop) (Q : Int32 → VS → Prop) (l1 : Int32) (l3 : Int32) (l4 : Int32) (l6 : Int32) (l7 : Int32) (l8 : Int32) (l9 : Int32) (k0 : Int32) (σ : VS) : Prop := (In l8 52 ∧ (In (((8 * l9) + (2 * (rd σ 64 l8))) + k0) 400 ∧ (∀ x21 : Int32, x21 = (l6 + (rd σ 36 (((8 * l9) + (2 * (rd σ 64 l8))) + k0))) → (In l8 52 ∧ (In (((8 * l9) + (2 * (rd σ 64 l8))) + k0) 400 ∧ (∀ x22 : Int32, x22 = (l7 + (rd σ 37 (((8 * l9) + (2 * (rd σ 64 l8))) + k0))) → b_path_259 X114 Q l1 l3 l4 k0 x21 x22 l8 σ))))))
def b_path_114 (X114 : Int32 → Int32 → Int32 → Int32 → Int32 → Int32 → Int32 → VS → Prop) (Q : Int32 → VS → Prop) (l1 : Int32) (l3 : Int32) (l4 : Int32) (l5 : Int32) (l6 : Int32) (l7 : Int32) (l8 : Int32) (σ : VS) : Prop := (((σ.1 62).toInt ≤ l8.toInt → (In l3 1000 ∧ (In l1 50 ∧ wp_lateOf (fun (r16 : Int32) (σ17 : VS) => (In l1 50 ∧ wp_shared (fun (r18 : Int32) (σ19 : VS) => Q ((sf σ19 68 (((l7 - r16) - (rd σ17 13 l1)) + r18)).1 62) (sf σ19 68 (((l7 - r16) - (rd σ17 13 l1)) + r18))) l4 l1 σ17)) (rd (sf σ 67 (rd σ 49 l3)) 11 l1) (sf σ 67 (rd σ 49 l3))))) ∧ (l8.toInt < (σ.1 62).toInt → (In ((52 * l3) + l8) 52000 ∧ (∀ x20 : Int32, x20 = (rd σ 53 ((52 * l3) + l8)) → (In l8 52 ∧ (In ((52 * l3) + l8) 52000 ∧ (In l8 52 ∧ ((l8.toInt ≤ 0 → b_path_259 X114 Q l1 l3 l4 l5 l6 l7 l8 (sa (sa σ 63 l8 x20) 64 l8 (rd (sa σ 63 l8 x20) 54 ((52 * l3) + l8)))) ∧ (0 < l8.toInt → (((((sa (sa σ 63 l8 x20) 64 l8 (rd (sa σ 63 l8 x20) 54 ((52 * l3) + l8))).1 62) - 1).toInt ≤ l8.toInt → b_path_259 X114 Q l1 l3 l4 l5 l6 l7 l8 (sa (sa σ 63 l8 x20) 64 l8 (rd (sa σ 63 l8 x20) 54 ((52 * l3) + l8)))) ∧ (l8.toInt < (((sa (sa σ 63 l8 x20) 64 l8 (rd (sa σ 63 l8 x20) 54 ((52 * l3) + l8))).1 62) - 1).toInt → (In x20 50 ∧ (((rd (sa (sa σ 63 l8 x20) 64 l8 (rd (sa σ 63 l8 x20) 54 ((52 * l3) + l8))) 2 x20).toInt ≠ 2 → b_path_201 X114 Q l1 l3 l4 l6 l7 l8 x20 l5 (sa (sa σ 63 l8 x20) 64 l8 (rd (sa σ 63 l8 x20) 54 ((52 * l3) + l8)))) ∧ ((rd (sa (sa σ 63 l8 x20) 64 l8 (rd (sa σ 63 l8 x20) 54 ((52 * l3) + l8))) 2 x20).toInt = 2 → b_path_201 X114 Q l1 l3 l4 l6 l7 l8 x20 (1 - l5) (sa (sa σ 63 l8 x20) 64 l8 (rd (sa σ 63 l8 x20) 54 ((52 * l3) + l8)))))))))))))))))
def b_path_51 (X114 : Int32 → Int32 → Int32 → Int32 → Int32 → Int32 → Int32 → VS → Prop) (Q : Int32 → VS → Prop) (σ : VS) : Prop := Q (-1) σ
def wp_path (Q : Int32 → VS → Prop) (p1 : Int32) (p2 : Int32) (σ : VS) : Prop := ∀ (X114 : Int32 → Int32 → Int32 → Int32 → Int32 → Int32 → Int32 → VS → Prop), (∀ (l1 : Int32) (l3 : Int32) (l4 : Int32) (l5 : Int32) (l6 : Int32) (l7 : Int32) (l8 : Int32) (σ : VS), b_path_114 X114 Q l1 l3 l4 l5 l6 l7 l8 σ → X114 l1 l3 l4 l5 l6 l7 l8 σ) → wp_isCell (fun (r1 : Int32) (σ2 : VS) => ((r1.toInt ≠ 0 → wp_isTarget (fun (r3 : Int32) (σ4 : VS) => ((r3.toInt ≠ 0 → wp_judge (fun (σ6 : VS) => (In p1 50 ∧ (((rd σ6 45 p1).toInt = 1000 → b_path_51 X114 Q σ6) ∧ ((rd σ6 45 p1).toInt ≠ 1000 → ((p2.toInt < 0 → b_path_51 X114 Q σ6) ∧ (0 ≤ p2.toInt → (In p1 50 ∧ ((p2.toInt < (rd σ6 45 p1).toInt → wp_list (fun (σ8 : VS) => (In p2 1000 ∧ (∀ x9 : Int32, x9 = (rd σ8 55 p2) → (In x9 1000 ∧ (∀ x10 : Int32, x10 = (rd σ8 50 x9) → (In x9 1000 ∧ (∀ x11 : Int32, x11 = (rd σ8 51 x9) → wp_startLate (fun (r12 : Int32) (σ13 : VS) => wp_startEarly (fun (r14 : Int32) (σ15 : VS) => (In x9 1000 ∧ X114 p1 x9 x10 x11 r12 r14 0 (sf σ15 62 (rd σ15 52 x9)))) x10 x11 σ13) x10 x11 σ8))))))) p1 σ6) ∧ ((rd σ6 45 p1).toInt ≤ p2.toInt → b_path_51 X114 Q σ6))))))))) σ4) ∧ (r3.toInt = 0 → Q (-2) σ4))) p1 σ2) ∧ (r1.toInt = 0 → Q (-1) σ2))) p1 σ
theorem dX10_path_0 : decode cX10_path 0 = .ok (.aload_n 0, 1) := by decide +kernel
theorem dX10_path_1 : decode cX10_path 1 = .ok (.iload_n 1, 1) := by decide +kernel
theorem dX10_path_2 : decode cX10_path 2 = .ok (.invokevirtual 10, 3) := by decide +kernel
theorem dX10_path_5 : decode cX10_path 5 = .ok (.ifCond .ne 5, 3) := by decide +kernel
theorem dX10_path_10 : decode cX10_path 10 = .ok (.aload_n 0, 1) := by decide +kernel
theorem dX10_path_11 : decode cX10_path 11 = .ok (.iload_n 1, 1) := by decide +kernel
theorem dX10_path_12 : decode cX10_path 12 = .ok (.invokevirtual 69, 3) := by decide +kernel
theorem dX10_path_15 : decode cX10_path 15 = .ok (.ifCond .ne 6, 3) := by decide +kernel
theorem dX10_path_21 : decode cX10_path 21 = .ok (.aload_n 0, 1) := by decide +kernel
theorem dX10_path_22 : decode cX10_path 22 = .ok (.invokevirtual 316, 3) := by decide +kernel
theorem dX10_path_25 : decode cX10_path 25 = .ok (.aload_n 0, 1) := by decide +kernel
theorem dX10_path_26 : decode cX10_path 26 = .ok (.getfield 150, 3) := by decide +kernel
theorem dX10_path_29 : decode cX10_path 29 = .ok (.iload_n 1, 1) := by decide +kernel
theorem dX10_path_30 : decode cX10_path 30 = .ok (.iaload, 1) := by decide +kernel
theorem dX10_path_31 : decode cX10_path 31 = .ok (.sipush 1000, 3) := by decide +kernel
theorem dX10_path_34 : decode cX10_path 34 = .ok (.if_icmp .eq 17, 3) := by decide +kernel
theorem dX10_path_37 : decode cX10_path 37 = .ok (.iload_n 2, 1) := by decide +kernel
theorem dX10_path_38 : decode cX10_path 38 = .ok (.ifCond .lt 13, 3) := by decide +kernel
theorem dX10_path_41 : decode cX10_path 41 = .ok (.iload_n 2, 1) := by decide +kernel
theorem dX10_path_42 : decode cX10_path 42 = .ok (.aload_n 0, 1) := by decide +kernel
theorem dX10_path_43 : decode cX10_path 43 = .ok (.getfield 150, 3) := by decide +kernel
theorem dX10_path_46 : decode cX10_path 46 = .ok (.iload_n 1, 1) := by decide +kernel
theorem dX10_path_47 : decode cX10_path 47 = .ok (.iaload, 1) := by decide +kernel
theorem dX10_path_48 : decode cX10_path 48 = .ok (.if_icmp .lt 5, 3) := by decide +kernel
theorem dX10_path_53 : decode cX10_path 53 = .ok (.aload_n 0, 1) := by decide +kernel
theorem dX10_path_54 : decode cX10_path 54 = .ok (.iload_n 1, 1) := by decide +kernel
theorem dX10_path_55 : decode cX10_path 55 = .ok (.invokevirtual 346, 3) := by decide +kernel
theorem dX10_path_58 : decode cX10_path 58 = .ok (.aload_n 0, 1) := by decide +kernel
theorem dX10_path_59 : decode cX10_path 59 = .ok (.getfield 178, 3) := by decide +kernel
theorem dX10_path_62 : decode cX10_path 62 = .ok (.iload_n 2, 1) := by decide +kernel
theorem dX10_path_63 : decode cX10_path 63 = .ok (.iaload, 1) := by decide +kernel
theorem dX10_path_64 : decode cX10_path 64 = .ok (.istore_n 3, 1) := by decide +kernel
theorem dX10_path_65 : decode cX10_path 65 = .ok (.aload_n 0, 1) := by decide +kernel
theorem dX10_path_66 : decode cX10_path 66 = .ok (.getfield 162, 3) := by decide +kernel
theorem dX10_path_69 : decode cX10_path 69 = .ok (.iload_n 3, 1) := by decide +kernel
theorem dX10_path_70 : decode cX10_path 70 = .ok (.iaload, 1) := by decide +kernel
theorem dX10_path_71 : decode cX10_path 71 = .ok (.istore 4, 2) := by decide +kernel
theorem dX10_path_73 : decode cX10_path 73 = .ok (.aload_n 0, 1) := by decide +kernel
theorem dX10_path_74 : decode cX10_path 74 = .ok (.getfield 165, 3) := by decide +kernel
theorem dX10_path_77 : decode cX10_path 77 = .ok (.iload_n 3, 1) := by decide +kernel
theorem dX10_path_78 : decode cX10_path 78 = .ok (.iaload, 1) := by decide +kernel
theorem dX10_path_79 : decode cX10_path 79 = .ok (.istore 5, 2) := by decide +kernel
theorem dX10_path_81 : decode cX10_path 81 = .ok (.aload_n 0, 1) := by decide +kernel
theorem dX10_path_82 : decode cX10_path 82 = .ok (.iload 4, 2) := by decide +kernel
theorem dX10_path_84 : decode cX10_path 84 = .ok (.iload 5, 2) := by decide +kernel
theorem dX10_path_86 : decode cX10_path 86 = .ok (.invokevirtual 289, 3) := by decide +kernel
theorem dX10_path_89 : decode cX10_path 89 = .ok (.istore 6, 2) := by decide +kernel
theorem dX10_path_91 : decode cX10_path 91 = .ok (.aload_n 0, 1) := by decide +kernel
theorem dX10_path_92 : decode cX10_path 92 = .ok (.iload 4, 2) := by decide +kernel
theorem dX10_path_94 : decode cX10_path 94 = .ok (.iload 5, 2) := by decide +kernel
theorem dX10_path_96 : decode cX10_path 96 = .ok (.invokevirtual 292, 3) := by decide +kernel
theorem dX10_path_99 : decode cX10_path 99 = .ok (.istore 7, 2) := by decide +kernel
theorem dX10_path_101 : decode cX10_path 101 = .ok (.aload_n 0, 1) := by decide +kernel
theorem dX10_path_102 : decode cX10_path 102 = .ok (.aload_n 0, 1) := by decide +kernel
theorem dX10_path_103 : decode cX10_path 103 = .ok (.getfield 168, 3) := by decide +kernel
theorem dX10_path_106 : decode cX10_path 106 = .ok (.iload_n 3, 1) := by decide +kernel
theorem dX10_path_107 : decode cX10_path 107 = .ok (.iaload, 1) := by decide +kernel
theorem dX10_path_108 : decode cX10_path 108 = .ok (.putfield 349, 3) := by decide +kernel
theorem dX10_path_111 : decode cX10_path 111 = .ok (.iconst 0, 1) := by decide +kernel
theorem dX10_path_112 : decode cX10_path 112 = .ok (.istore 8, 2) := by decide +kernel
theorem dX10_path_18 : decode cX10_path 18 = .ok (.bipush (-2), 2) := by decide +kernel
theorem dX10_path_20 : decode cX10_path 20 = .ok (.ireturn, 1) := by decide +kernel
theorem dX10_path_8 : decode cX10_path 8 = .ok (.iconst (-1), 1) := by decide +kernel
theorem dX10_path_9 : decode cX10_path 9 = .ok (.ireturn, 1) := by decide +kernel
theorem dX10_path_51 : decode cX10_path 51 = .ok (.iconst (-1), 1) := by decide +kernel
theorem dX10_path_52 : decode cX10_path 52 = .ok (.ireturn, 1) := by decide +kernel
theorem dX10_path_114 : decode cX10_path 114 = .ok (.iload 8, 2) := by decide +kernel
theorem dX10_path_116 : decode cX10_path 116 = .ok (.aload_n 0, 1) := by decide +kernel
theorem dX10_path_117 : decode cX10_path 117 = .ok (.getfield 349, 3) := by decide +kernel
theorem dX10_path_120 : decode cX10_path 120 = .ok (.if_icmp .ge 163, 3) := by decide +kernel
theorem dX10_path_283 : decode cX10_path 283 = .ok (.aload_n 0, 1) := by decide +kernel
theorem dX10_path_284 : decode cX10_path 284 = .ok (.aload_n 0, 1) := by decide +kernel
theorem dX10_path_285 : decode cX10_path 285 = .ok (.getfield 159, 3) := by decide +kernel
theorem dX10_path_288 : decode cX10_path 288 = .ok (.iload_n 3, 1) := by decide +kernel
theorem dX10_path_289 : decode cX10_path 289 = .ok (.iaload, 1) := by decide +kernel
theorem dX10_path_290 : decode cX10_path 290 = .ok (.putfield 352, 3) := by decide +kernel
theorem dX10_path_293 : decode cX10_path 293 = .ok (.aload_n 0, 1) := by decide +kernel
theorem dX10_path_294 : decode cX10_path 294 = .ok (.iload 7, 2) := by decide +kernel
theorem dX10_path_296 : decode cX10_path 296 = .ok (.aload_n 0, 1) := by decide +kernel
theorem dX10_path_297 : decode cX10_path 297 = .ok (.aload_n 0, 1) := by decide +kernel
theorem dX10_path_298 : decode cX10_path 298 = .ok (.getfield 42, 3) := by decide +kernel
theorem dX10_path_301 : decode cX10_path 301 = .ok (.iload_n 1, 1) := by decide +kernel
theorem dX10_path_302 : decode cX10_path 302 = .ok (.iaload, 1) := by decide +kernel
theorem dX10_path_303 : decode cX10_path 303 = .ok (.invokevirtual 275, 3) := by decide +kernel
theorem dX10_path_306 : decode cX10_path 306 = .ok (.isub, 1) := by decide +kernel
theorem dX10_path_307 : decode cX10_path 307 = .ok (.aload_n 0, 1) := by decide +kernel
theorem dX10_path_308 : decode cX10_path 308 = .ok (.getfield 48, 3) := by decide +kernel
theorem dX10_path_311 : decode cX10_path 311 = .ok (.iload_n 1, 1) := by decide +kernel
theorem dX10_path_312 : decode cX10_path 312 = .ok (.iaload, 1) := by decide +kernel
theorem dX10_path_313 : decode cX10_path 313 = .ok (.isub, 1) := by decide +kernel
theorem dX10_path_314 : decode cX10_path 314 = .ok (.aload_n 0, 1) := by decide +kernel
theorem dX10_path_315 : decode cX10_path 315 = .ok (.iload 4, 2) := by decide +kernel
theorem dX10_path_317 : decode cX10_path 317 = .ok (.iload_n 1, 1) := by decide +kernel
theorem dX10_path_318 : decode cX10_path 318 = .ok (.invokevirtual 272, 3) := by decide +kernel
theorem dX10_path_321 : decode cX10_path 321 = .ok (.iadd, 1) := by decide +kernel
theorem dX10_path_322 : decode cX10_path 322 = .ok (.putfield 355, 3) := by decide +kernel
theorem dX10_path_325 : decode cX10_path 325 = .ok (.aload_n 0, 1) := by decide +kernel
theorem dX10_path_326 : decode cX10_path 326 = .ok (.getfield 349, 3) := by decide +kernel
theorem dX10_path_329 : decode cX10_path 329 = .ok (.ireturn, 1) := by decide +kernel
theorem dX10_path_123 : decode cX10_path 123 = .ok (.aload_n 0, 1) := by decide +kernel
theorem dX10_path_124 : decode cX10_path 124 = .ok (.getfield 172, 3) := by decide +kernel
theorem dX10_path_127 : decode cX10_path 127 = .ok (.bipush 52, 2) := by decide +kernel
theorem dX10_path_129 : decode cX10_path 129 = .ok (.iload_n 3, 1) := by decide +kernel
theorem dX10_path_130 : decode cX10_path 130 = .ok (.imul, 1) := by decide +kernel
theorem dX10_path_131 : decode cX10_path 131 = .ok (.iload 8, 2) := by decide +kernel
theorem dX10_path_133 : decode cX10_path 133 = .ok (.iadd, 1) := by decide +kernel
theorem dX10_path_134 : decode cX10_path 134 = .ok (.iaload, 1) := by decide +kernel
theorem dX10_path_135 : decode cX10_path 135 = .ok (.istore 9, 2) := by decide +kernel
theorem dX10_path_137 : decode cX10_path 137 = .ok (.aload_n 0, 1) := by decide +kernel
theorem dX10_path_138 : decode cX10_path 138 = .ok (.getfield 196, 3) := by decide +kernel
theorem dX10_path_141 : decode cX10_path 141 = .ok (.iload 8, 2) := by decide +kernel
theorem dX10_path_143 : decode cX10_path 143 = .ok (.iload 9, 2) := by decide +kernel
theorem dX10_path_145 : decode cX10_path 145 = .ok (.iastore, 1) := by decide +kernel
theorem dX10_path_146 : decode cX10_path 146 = .ok (.aload_n 0, 1) := by decide +kernel
theorem dX10_path_147 : decode cX10_path 147 = .ok (.getfield 199, 3) := by decide +kernel
theorem dX10_path_150 : decode cX10_path 150 = .ok (.iload 8, 2) := by decide +kernel
theorem dX10_path_152 : decode cX10_path 152 = .ok (.aload_n 0, 1) := by decide +kernel
theorem dX10_path_153 : decode cX10_path 153 = .ok (.getfield 175, 3) := by decide +kernel
theorem dX10_path_156 : decode cX10_path 156 = .ok (.bipush 52, 2) := by decide +kernel
theorem dX10_path_158 : decode cX10_path 158 = .ok (.iload_n 3, 1) := by decide +kernel
theorem dX10_path_159 : decode cX10_path 159 = .ok (.imul, 1) := by decide +kernel
theorem dX10_path_160 : decode cX10_path 160 = .ok (.iload 8, 2) := by decide +kernel
theorem dX10_path_162 : decode cX10_path 162 = .ok (.iadd, 1) := by decide +kernel
theorem dX10_path_163 : decode cX10_path 163 = .ok (.iaload, 1) := by decide +kernel
theorem dX10_path_164 : decode cX10_path 164 = .ok (.iastore, 1) := by decide +kernel
theorem dX10_path_165 : decode cX10_path 165 = .ok (.iload 8, 2) := by decide +kernel
theorem dX10_path_167 : decode cX10_path 167 = .ok (.ifCond .le 92, 3) := by decide +kernel
theorem dX10_path_170 : decode cX10_path 170 = .ok (.iload 8, 2) := by decide +kernel
theorem dX10_path_172 : decode cX10_path 172 = .ok (.aload_n 0, 1) := by decide +kernel
theorem dX10_path_173 : decode cX10_path 173 = .ok (.getfield 349, 3) := by decide +kernel
theorem dX10_path_176 : decode cX10_path 176 = .ok (.iconst 1, 1) := by decide +kernel
theorem dX10_path_177 : decode cX10_path 177 = .ok (.isub, 1) := by decide +kernel
theorem dX10_path_178 : decode cX10_path 178 = .ok (.if_icmp .ge 81, 3) := by decide +kernel
theorem dX10_path_181 : decode cX10_path 181 = .ok (.aload_n 0, 1) := by decide +kernel
theorem dX10_path_182 : decode cX10_path 182 = .ok (.getfield 18, 3) := by decide +kernel
theorem dX10_path_185 : decode cX10_path 185 = .ok (.iload 9, 2) := by decide +kernel
theorem dX10_path_187 : decode cX10_path 187 = .ok (.iaload, 1) := by decide +kernel
theorem dX10_path_188 : decode cX10_path 188 = .ok (.iconst 2, 1) := by decide +kernel
theorem dX10_path_189 : decode cX10_path 189 = .ok (.if_icmp .ne 10, 3) := by decide +kernel
theorem dX10_path_199 : decode cX10_path 199 = .ok (.iload 5, 2) := by decide +kernel
theorem dX10_path_192 : decode cX10_path 192 = .ok (.iconst 1, 1) := by decide +kernel
theorem dX10_path_193 : decode cX10_path 193 = .ok (.iload 5, 2) := by decide +kernel
theorem dX10_path_195 : decode cX10_path 195 = .ok (.isub, 1) := by decide +kernel
theorem dX10_path_196 : decode cX10_path 196 = .ok (.goto 5, 3) := by decide +kernel
theorem dX10_path_259 : decode cX10_path 259 = .ok (.aload_n 0, 1) := by decide +kernel
theorem dX10_path_260 : decode cX10_path 260 = .ok (.getfield 202, 3) := by decide +kernel
theorem dX10_path_263 : decode cX10_path 263 = .ok (.iload 8, 2) := by decide +kernel
theorem dX10_path_265 : decode cX10_path 265 = .ok (.iload 5, 2) := by decide +kernel
theorem dX10_path_267 : decode cX10_path 267 = .ok (.iastore, 1) := by decide +kernel
theorem dX10_path_268 : decode cX10_path 268 = .ok (.aload_n 0, 1) := by decide +kernel
theorem dX10_path_269 : decode cX10_path 269 = .ok (.getfield 205, 3) := by decide +kernel
theorem dX10_path_272 : decode cX10_path 272 = .ok (.iload 8, 2) := by decide +kernel
theorem dX10_path_274 : decode cX10_path 274 = .ok (.iload 6, 2) := by decide +kernel
theorem dX10_path_276 : decode cX10_path 276 = .ok (.iastore, 1) := by decide +kernel
theorem dX10_path_277 : decode cX10_path 277 = .ok (.iinc 8 1, 3) := by decide +kernel
theorem dX10_path_280 : decode cX10_path 280 = .ok (.goto (-166), 3) := by decide +kernel
theorem dX10_path_201 : decode cX10_path 201 = .ok (.istore 5, 2) := by decide +kernel
theorem dX10_path_203 : decode cX10_path 203 = .ok (.iload 6, 2) := by decide +kernel
theorem dX10_path_205 : decode cX10_path 205 = .ok (.aload_n 0, 1) := by decide +kernel
theorem dX10_path_206 : decode cX10_path 206 = .ok (.getfield 123, 3) := by decide +kernel
theorem dX10_path_209 : decode cX10_path 209 = .ok (.bipush 8, 2) := by decide +kernel
theorem dX10_path_211 : decode cX10_path 211 = .ok (.iload 9, 2) := by decide +kernel
theorem dX10_path_213 : decode cX10_path 213 = .ok (.imul, 1) := by decide +kernel
theorem dX10_path_214 : decode cX10_path 214 = .ok (.iconst 2, 1) := by decide +kernel
theorem dX10_path_215 : decode cX10_path 215 = .ok (.aload_n 0, 1) := by decide +kernel
theorem dX10_path_216 : decode cX10_path 216 = .ok (.getfield 199, 3) := by decide +kernel
theorem dX10_path_219 : decode cX10_path 219 = .ok (.iload 8, 2) := by decide +kernel
theorem dX10_path_221 : decode cX10_path 221 = .ok (.iaload, 1) := by decide +kernel
theorem dX10_path_222 : decode cX10_path 222 = .ok (.imul, 1) := by decide +kernel
theorem dX10_path_223 : decode cX10_path 223 = .ok (.iadd, 1) := by decide +kernel
theorem dX10_path_224 : decode cX10_path 224 = .ok (.iload 5, 2) := by decide +kernel
theorem dX10_path_226 : decode cX10_path 226 = .ok (.iadd, 1) := by decide +kernel
theorem dX10_path_227 : decode cX10_path 227 = .ok (.iaload, 1) := by decide +kernel
theorem dX10_path_228 : decode cX10_path 228 = .ok (.iadd, 1) := by decide +kernel
theorem dX10_path_229 : decode cX10_path 229 = .ok (.istore 6, 2) := by decide +kernel
theorem dX10_path_231 : decode cX10_path 231 = .ok (.iload 7, 2) := by decide +kernel
theorem dX10_path_233 : decode cX10_path 233 = .ok (.aload_n 0, 1) := by decide +kernel
theorem dX10_path_234 : decode cX10_path 234 = .ok (.getfield 126, 3) := by decide +kernel
theorem dX10_path_237 : decode cX10_path 237 = .ok (.bipush 8, 2) := by decide +kernel
theorem dX10_path_239 : decode cX10_path 239 = .ok (.iload 9, 2) := by decide +kernel
theorem dX10_path_241 : decode cX10_path 241 = .ok (.imul, 1) := by decide +kernel
theorem dX10_path_242 : decode cX10_path 242 = .ok (.iconst 2, 1) := by decide +kernel
theorem dX10_path_243 : decode cX10_path 243 = .ok (.aload_n 0, 1) := by decide +kernel
theorem dX10_path_244 : decode cX10_path 244 = .ok (.getfield 199, 3) := by decide +kernel
theorem dX10_path_247 : decode cX10_path 247 = .ok (.iload 8, 2) := by decide +kernel
theorem dX10_path_249 : decode cX10_path 249 = .ok (.iaload, 1) := by decide +kernel
theorem dX10_path_250 : decode cX10_path 250 = .ok (.imul, 1) := by decide +kernel
theorem dX10_path_251 : decode cX10_path 251 = .ok (.iadd, 1) := by decide +kernel
theorem dX10_path_252 : decode cX10_path 252 = .ok (.iload 5, 2) := by decide +kernel
theorem dX10_path_254 : decode cX10_path 254 = .ok (.iadd, 1) := by decide +kernel
theorem dX10_path_255 : decode cX10_path 255 = .ok (.iaload, 1) := by decide +kernel
theorem dX10_path_256 : decode cX10_path 256 = .ok (.iadd, 1) := by decide +kernel
theorem dX10_path_257 : decode cX10_path 257 = .ok (.istore 7, 2) := by decide +kernel
def wo_path : List Cond := [.code yX10_path cX10_path 10 (some .int), .methodLink RX10 10 yX10_isCell, .instanceMethod yX10_isCell, .selects RX10 yX10_isCell yX10_isCell, .initialized RX10, .methodLink RX10 69 yX10_isTarget, .instanceMethod yX10_isTarget, .selects RX10 yX10_isTarget yX10_isTarget, .methodLink RX10 316 yX10_judge, .instanceMethod yX10_judge, .selects RX10 yX10_judge yX10_judge, .methodLink RX10 346 yX10_list, .instanceMethod yX10_list, .selects RX10 yX10_list yX10_list, .methodLink RX10 289 yX10_startLate, .instanceMethod yX10_startLate, .selects RX10 yX10_startLate yX10_startLate, .methodLink RX10 292 yX10_startEarly, .instanceMethod yX10_startEarly, .selects RX10 yX10_startEarly yX10_startEarly, .methodLink RX10 275 yX10_lateOf, .instanceMethod yX10_lateOf, .selects RX10 yX10_lateOf yX10_lateOf, .methodLink RX10 272 yX10_shared, .instanceMethod yX10_shared, .selects RX10 yX10_shared yX10_shared]
def wr_path : List Cond := (wfX10 ++ (w_isCell ++ (w_isTarget ++ (w_judge ++ (w_list ++ (w_startLate ++ (w_startEarly ++ (w_lateOf ++ (w_shared ++ ([]))))))))))
def w_path : List Cond := wo_path ++ wr_path
theorem wg_path : GW w_path := GW_app (GW_of (by decide +kernel)) (GW_app (wg_fX10) (GW_app (wg_isCell) (GW_app (wg_isTarget) (GW_app (wg_judge) (GW_app (wg_list) (GW_app (wg_startLate) (GW_app (wg_startEarly) (GW_app (wg_lateOf) (GW_app (wg_shared) (GW_nil))))))))))
theorem in_path : ∀ w ∈ wfX10, w ∈ w_path := fun _ h => List.mem_append_right _ (List.mem_append_left _ h)
theorem g_path_isCell_10 : GoodIn w_path (wsV RX10 10 RX10 yX10_isCell w_isCell) := goodIn_app (gi_left (goodIn_of _ (by decide +kernel))) (fun w h => ⟨List.mem_append_right _ (List.mem_append_right _ (List.mem_append_left _ h)), wg_isCell w h⟩)
theorem g_path_isTarget_69 : GoodIn w_path (wsV RX10 69 RX10 yX10_isTarget w_isTarget) := goodIn_app (gi_left (goodIn_of _ (by decide +kernel))) (fun w h => ⟨List.mem_append_right _ (List.mem_append_right _ (List.mem_append_right _ (List.mem_append_left _ h))), wg_isTarget w h⟩)
theorem g_path_judge_316 : GoodIn w_path (wsV RX10 316 RX10 yX10_judge w_judge) := goodIn_app (gi_left (goodIn_of _ (by decide +kernel))) (fun w h => ⟨List.mem_append_right _ (List.mem_append_right _ (List.mem_append_right _ (List.mem_append_right _ (List.mem_append_left _ h)))), wg_judge w h⟩)
theorem g_path_list_346 : GoodIn w_path (wsV RX10 346 RX10 yX10_list w_list) := goodIn_app (gi_left (goodIn_of _ (by decide +kernel))) (fun w h => ⟨List.mem_append_right _ (List.mem_append_right _ (List.mem_append_right _ (List.mem_append_right _ (List.mem_append_right _ (List.mem_append_left _ h))))), wg_list w h⟩)
theorem g_path_startLate_289 : GoodIn w_path (wsV RX10 289 RX10 yX10_startLate w_startLate) := goodIn_app (gi_left (goodIn_of _ (by decide +kernel))) (fun w h => ⟨List.mem_append_right _ (List.mem_append_right _ (List.mem_append_right _ (List.mem_append_right _ (List.mem_append_right _ (List.mem_append_right _ (List.mem_append_left _ h)))))), wg_startLate w h⟩)
theorem g_path_startEarly_292 : GoodIn w_path (wsV RX10 292 RX10 yX10_startEarly w_startEarly) := goodIn_app (gi_left (goodIn_of _ (by decide +kernel))) (fun w h => ⟨List.mem_append_right _ (List.mem_append_right _ (List.mem_append_right _ (List.mem_append_right _ (List.mem_append_right _ (List.mem_append_right _ (List.mem_append_right _ (List.mem_append_left _ h))))))), wg_startEarly w h⟩)
theorem g_path_lateOf_275 : GoodIn w_path (wsV RX10 275 RX10 yX10_lateOf w_lateOf) := goodIn_app (gi_left (goodIn_of _ (by decide +kernel))) (fun w h => ⟨List.mem_append_right _ (List.mem_append_right _ (List.mem_append_right _ (List.mem_append_right _ (List.mem_append_right _ (List.mem_append_right _ (List.mem_append_right _ (List.mem_append_right _ (List.mem_append_left _ h)))))))), wg_lateOf w h⟩)
theorem g_path_shared_272 : GoodIn w_path (wsV RX10 272 RX10 yX10_shared w_shared) := goodIn_app (gi_left (goodIn_of _ (by decide +kernel))) (fun w h => ⟨List.mem_append_right _ (List.mem_append_right _ (List.mem_append_right _ (List.mem_append_right _ (List.mem_append_right _ (List.mem_append_right _ (List.mem_append_right _ (List.mem_append_right _ (List.mem_append_right _ (List.mem_append_left _ h))))))))), wg_shared w h⟩)
set_option maxHeartbeats 4000000 in
set_option maxRecDepth 100000 in
theorem ct_path (l : Launch) (E : gE) (B : Nat → Nat) (Q : Int32 → VS → Prop) (p1 : Int32) (p2 : Int32) (σ : VS) (hw : wp_path Q p1 p2 σ) : CtI l E yX10_path w_path (({ frames := 58, cells := 0, slots := 0, locals := 1420 } : Room)) (wm E B σ) [.ref (B 0), .int p1, .int p2] (fun r w => ∃ σ' : VS, Q r σ' ∧ w = wm E B σ') := by
  refine VC_I (cc := cX10_path) (mL := 10) (rt := (some .int)) (lv0 := [(0, .ref (B 0)), (1, .int p1), (2, .int p2)]) rfl (by decide) rfl (Nat.le_of_ble_eq_true rfl) ?_
  intro p e s m below meth c A F
  replace F : Fx p s m _ meth c A E cX10_path 10 (some .int) RX10 w_path := F
  obtain ⟨X114, hX114⟩ : ∃ X : Int32 → Int32 → Int32 → Int32 → Int32 → Int32 → Int32 → VS → Prop, X = fun l1 l3 l4 l5 l6 l7 l8 σ => WB p l e (({ frames := 58, cells := 0, slots := 0, locals := 1420 } : Room)) s m (#[.ref (B 0), .int p1, .int p2]) below meth c (MQ below (va_Qi (fun r w => ∃ σ' : VS, Q r σ' ∧ w = wm E B σ') (AftU E A) A) (#[.ref (B 0), .int p1, .int p2]) s (({ frames := 58, cells := 0, slots := 0, locals := 1420 } : Room)).cells (({ frames := 58, cells := 0, slots := 0, locals := 1420 } : Room)).slots A) A E (wm E B) 10 114 [(0, .ref (B 0)), (1, .int l1), (3, .int l3), (4, .int l4), (5, .int l5), (6, .int l6), (7, .int l7), (8, .int l8)] [] σ := ⟨_, rfl⟩
  have U_114 : ∀ (l1 : Int32) (l3 : Int32) (l4 : Int32) (l5 : Int32) (l6 : Int32) (l7 : Int32) (l8 : Int32) (σ : VS), X114 l1 l3 l4 l5 l6 l7 l8 σ → WB p l e (({ frames := 58, cells := 0, slots := 0, locals := 1420 } : Room)) s m (#[.ref (B 0), .int p1, .int p2]) below meth c (MQ below (va_Qi (fun r w => ∃ σ' : VS, Q r σ' ∧ w = wm E B σ') (AftU E A) A) (#[.ref (B 0), .int p1, .int p2]) s (({ frames := 58, cells := 0, slots := 0, locals := 1420 } : Room)).cells (({ frames := 58, cells := 0, slots := 0, locals := 1420 } : Room)).slots A) A E (wm E B) 10 114 [(0, .ref (B 0)), (1, .int l1), (3, .int l3), (4, .int l4), (5, .int l5), (6, .int l6), (7, .int l7), (8, .int l8)] [] σ := by
    intro l1 l3 l4 l5 l6 l7 l8 σ hw; rw [hX114] at hw; exact hw
  have J_259 : ∀ (l1 : Int32) (l3 : Int32) (l4 : Int32) (l5 : Int32) (l6 : Int32) (l7 : Int32) (l8 : Int32) (σ : VS), b_path_259 X114 Q l1 l3 l4 l5 l6 l7 l8 σ → WB p l e (({ frames := 58, cells := 0, slots := 0, locals := 1420 } : Room)) s m (#[.ref (B 0), .int p1, .int p2]) below meth c (MQ below (va_Qi (fun r w => ∃ σ' : VS, Q r σ' ∧ w = wm E B σ') (AftU E A) A) (#[.ref (B 0), .int p1, .int p2]) s (({ frames := 58, cells := 0, slots := 0, locals := 1420 } : Room)).cells (({ frames := 58, cells := 0, slots := 0, locals := 1420 } : Room)).slots A) A E (wm E B) 10 259 [(0, .ref (B 0)), (1, .int l1), (3, .int l3), (4, .int l4), (5, .int l5), (6, .int l6), (7, .int l7), (8, .int l8)] [] σ := by
    intro l1 l3 l4 l5 l6 l7 l8 σ hw
    unfold b_path_259 at hw
    refine R_aload_n F dX10_path_259 rfl 0 rfl ?_
    refine gm_65 F in_path dX10_path_260 ?_
    refine R_iload F dX10_path_263 7 rfl ?_
    refine R_iload F dX10_path_265 4 rfl ?_
    have hi := hw.1
    replace hw := hw.2
    refine R_sti F qm_65 um_65 dX10_path_267 hi ?_
    refine R_aload_n F dX10_path_268 rfl 0 rfl ?_
    refine gm_66 F in_path dX10_path_269 ?_
    refine R_iload F dX10_path_272 7 rfl ?_
    refine R_iload F dX10_path_274 5 rfl ?_
    have hi := hw.1
    replace hw := hw.2
    refine R_sti F qm_66 um_66 dX10_path_276 hi ?_
    refine R_iinc (q := 7) (v := (l8 + 1)) (lv' := [(8, .int (l8 + 1)), (0, .ref (B 0)), (1, .int l1), (3, .int l3), (4, .int l4), (5, .int l5), (6, .int l6), (7, .int l7)]) F dX10_path_277 rfl rfl (by decide) rfl ?_
    refine R_goto (tgt := 114) F dX10_path_280 (by decide) ?_
    exact R_sub [1, 2, 3, 4, 5, 6, 7, 0] rfl (U_114 l1 l3 l4 l5 l6 l7 (l8 + 1) (sa (sa σ 65 l8 l5) 66 l8 l6) hw)
  have J_201 : ∀ (l1 : Int32) (l3 : Int32) (l4 : Int32) (l6 : Int32) (l7 : Int32) (l8 : Int32) (l9 : Int32) (k0 : Int32) (σ : VS), b_path_201 X114 Q l1 l3 l4 l6 l7 l8 l9 k0 σ → WB p l e (({ frames := 58, cells := 0, slots := 0, locals := 1420 } : Room)) s m (#[.ref (B 0), .int p1, .int p2]) below meth c (MQ below (va_Qi (fun r w => ∃ σ' : VS, Q r σ' ∧ w = wm E B σ') (AftU E A) A) (#[.ref (B 0), .int p1, .int p2]) s (({ frames := 58, cells := 0, slots := 0, locals := 1420 } : Room)).cells (({ frames := 58, cells := 0, slots := 0, locals := 1420 } : Room)).slots A) A E (wm E B) 10 201 [(0, .ref (B 0)), (1, .int l1), (3, .int l3), (4, .int l4), (6, .int l6), (7, .int l7), (8, .int l8), (9, .int l9)] [.int k0] σ := by
    intro l1 l3 l4 l6 l7 l8 l9 k0 σ hw
    unfold b_path_201 at hw
    refine R_istore (lv' := [(5, .int k0), (0, .ref (B 0)), (1, .int l1), (3, .int l3), (4, .int l4), (6, .int l6), (7, .int l7), (8, .int l8), (9, .int l9)]) F dX10_path_201 (by decide) rfl ?_
    refine R_iload F dX10_path_203 5 rfl ?_
    refine R_aload_n F dX10_path_205 rfl 1 rfl ?_
    refine gm_36 F in_path dX10_path_206 ?_
    refine R_bipush F 8 dX10_path_209 (by decide) ?_
    refine R_iload F dX10_path_211 8 rfl ?_
    refine R_imul F dX10_path_213 ?_
    refine R_iconst F 2 dX10_path_214 (by decide) ?_
    refine R_aload_n F dX10_path_215 rfl 1 rfl ?_
    refine gm_64 F in_path dX10_path_216 ?_
    refine R_iload F dX10_path_219 7 rfl ?_
    refine R_ldi F qm_64 dX10_path_221 hw.1 ?_
    replace hw := hw.2
    refine R_imul F dX10_path_222 ?_
    refine R_iadd F dX10_path_223 ?_
    refine R_iload F dX10_path_224 0 rfl ?_
    refine R_iadd F dX10_path_226 ?_
    refine R_ldi F qm_36 dX10_path_227 hw.1 ?_
    replace hw := hw.2
    refine R_iadd F dX10_path_228 ?_
    refine R_topi (fun x21 ex21 => ?_)
    replace hw := hw x21 ex21
    refine R_istore (lv' := [(6, .int x21), (5, .int k0), (0, .ref (B 0)), (1, .int l1), (3, .int l3), (4, .int l4), (7, .int l7), (8, .int l8), (9, .int l9)]) F dX10_path_229 (by decide) rfl ?_
    refine R_iload F dX10_path_231 6 rfl ?_
    refine R_aload_n F dX10_path_233 rfl 2 rfl ?_
    refine gm_37 F in_path dX10_path_234 ?_
    refine R_bipush F 8 dX10_path_237 (by decide) ?_
    refine R_iload F dX10_path_239 8 rfl ?_
    refine R_imul F dX10_path_241 ?_
    refine R_iconst F 2 dX10_path_242 (by decide) ?_
    refine R_aload_n F dX10_path_243 rfl 2 rfl ?_
    refine gm_64 F in_path dX10_path_244 ?_
    refine R_iload F dX10_path_247 7 rfl ?_
    refine R_ldi F qm_64 dX10_path_249 hw.1 ?_
    replace hw := hw.2
    refine R_imul F dX10_path_250 ?_
    refine R_iadd F dX10_path_251 ?_
    refine R_iload F dX10_path_252 1 rfl ?_
    refine R_iadd F dX10_path_254 ?_
    refine R_ldi F qm_37 dX10_path_255 hw.1 ?_
    replace hw := hw.2
    refine R_iadd F dX10_path_256 ?_
    refine R_topi (fun x22 ex22 => ?_)
    replace hw := hw x22 ex22
    refine R_istore (lv' := [(7, .int x22), (6, .int x21), (5, .int k0), (0, .ref (B 0)), (1, .int l1), (3, .int l3), (4, .int l4), (8, .int l8), (9, .int l9)]) F dX10_path_257 (by decide) rfl ?_
    exact R_sub [3, 4, 5, 6, 2, 1, 0, 7] rfl (J_259 l1 l3 l4 k0 x21 x22 l8 σ hw)
  have J_51 : ∀ (σ : VS), b_path_51 X114 Q σ → WB p l e (({ frames := 58, cells := 0, slots := 0, locals := 1420 } : Room)) s m (#[.ref (B 0), .int p1, .int p2]) below meth c (MQ below (va_Qi (fun r w => ∃ σ' : VS, Q r σ' ∧ w = wm E B σ') (AftU E A) A) (#[.ref (B 0), .int p1, .int p2]) s (({ frames := 58, cells := 0, slots := 0, locals := 1420 } : Room)).cells (({ frames := 58, cells := 0, slots := 0, locals := 1420 } : Room)).slots A) A E (wm E B) 10 51 [] [] σ := by
    intro σ hw
    unfold b_path_51 at hw
    refine R_iconst F (-1) dX10_path_51 (by decide) ?_
    exact R_iret (Qc := Q) F rfl dX10_path_52 hw
  have C_114 : ∀ (l1 : Int32) (l3 : Int32) (l4 : Int32) (l5 : Int32) (l6 : Int32) (l7 : Int32) (l8 : Int32) (σ : VS), b_path_114 X114 Q l1 l3 l4 l5 l6 l7 l8 σ → X114 l1 l3 l4 l5 l6 l7 l8 σ := by
    intro l1 l3 l4 l5 l6 l7 l8 σ hw
    unfold b_path_114 at hw
    rw [hX114]
    show WB p l e (({ frames := 58, cells := 0, slots := 0, locals := 1420 } : Room)) s m (#[.ref (B 0), .int p1, .int p2]) below meth c (MQ below (va_Qi (fun r w => ∃ σ' : VS, Q r σ' ∧ w = wm E B σ') (AftU E A) A) (#[.ref (B 0), .int p1, .int p2]) s (({ frames := 58, cells := 0, slots := 0, locals := 1420 } : Room)).cells (({ frames := 58, cells := 0, slots := 0, locals := 1420 } : Room)).slots A) A E (wm E B) 10 114 [(0, .ref (B 0)), (1, .int l1), (3, .int l3), (4, .int l4), (5, .int l5), (6, .int l6), (7, .int l7), (8, .int l8)] [] σ
    refine R_iload F dX10_path_114 7 rfl ?_
    refine R_aload_n F dX10_path_116 rfl 0 rfl ?_
    refine gm_62 F in_path dX10_path_117 ?_
    refine R_icmp_ge (tgt := 283) F dX10_path_120 (by decide) (fun hc => ?_) (fun hc => ?_)
    · replace hw := hw.1 hc
      refine R_aload_n F dX10_path_283 rfl 0 rfl ?_
      refine R_aload_n F dX10_path_284 rfl 0 rfl ?_
      refine gm_49 F in_path dX10_path_285 ?_
      refine R_iload_n F dX10_path_288 rfl 2 rfl ?_
      refine R_ldi F qm_49 dX10_path_289 hw.1 ?_
      replace hw := hw.2
      refine pm_67 F in_path dX10_path_290 ?_
      refine R_aload_n F dX10_path_293 rfl 0 rfl ?_
      refine R_iload F dX10_path_294 6 rfl ?_
      refine R_aload_n F dX10_path_296 rfl 0 rfl ?_
      refine R_aload_n F dX10_path_297 rfl 0 rfl ?_
      refine gm_11 F in_path dX10_path_298 ?_
      refine R_iload_n F dX10_path_301 rfl 1 rfl ?_
      refine R_ldi F qm_11 dX10_path_302 hw.1 ?_
      replace hw := hw.2
      refine R_callI (As := [.int (rd (sf σ 67 (rd σ 49 l3)) 11 l1)]) (C := RX10) (q0 := 0) (ci := 10) (N := 69) (T := TX10) (fs := mfl B) F (ct_lateOf l E B _ (rd (sf σ 67 (rd σ 49 l3)) 11 l1) _ hw) (cwV 1 F.2.2.2.2.2.2.2.2.2.2 g_path_lateOf_275 rfl rfl rfl (by decide +kernel) ⟨Nat.le_of_ble_eq_true rfl, Nat.le_of_ble_eq_true rfl⟩) ⟨rfl, rfl⟩ rfl (fun _ => rfl) rfl rfl (Nat.le_of_ble_eq_true rfl) dX10_path_303 (fun r16 σ17 hw => ?_)
      refine R_isub F dX10_path_306 ?_
      refine R_aload_n F dX10_path_307 rfl 0 rfl ?_
      refine gm_13 F in_path dX10_path_308 ?_
      refine R_iload_n F dX10_path_311 rfl 1 rfl ?_
      refine R_ldi F qm_13 dX10_path_312 hw.1 ?_
      replace hw := hw.2
      refine R_isub F dX10_path_313 ?_
      refine R_aload_n F dX10_path_314 rfl 0 rfl ?_
      refine R_iload F dX10_path_315 3 rfl ?_
      refine R_iload_n F dX10_path_317 rfl 1 rfl ?_
      refine R_callI (As := [.int l4, .int l1]) (C := RX10) (q0 := 0) (ci := 10) (N := 69) (T := TX10) (fs := mfl B) F (ct_shared l E B _ l4 l1 _ hw) (cwV 2 F.2.2.2.2.2.2.2.2.2.2 g_path_shared_272 rfl rfl rfl (by decide +kernel) ⟨Nat.le_of_ble_eq_true rfl, Nat.le_of_ble_eq_true rfl⟩) ⟨rfl, rfl⟩ rfl (fun _ => rfl) rfl rfl (Nat.le_of_ble_eq_true rfl) dX10_path_318 (fun r18 σ19 hw => ?_)
      refine R_iadd F dX10_path_321 ?_
      refine pm_68 F in_path dX10_path_322 ?_
      refine R_aload_n F dX10_path_325 rfl 0 rfl ?_
      refine gm_62 F in_path dX10_path_326 ?_
      exact R_iret (Qc := Q) F rfl dX10_path_329 hw
    · replace hw := hw.2 hc
      refine R_aload_n F dX10_path_123 rfl 0 rfl ?_
      refine gm_53 F in_path dX10_path_124 ?_
      refine R_bipush F 52 dX10_path_127 (by decide) ?_
      refine R_iload_n F dX10_path_129 rfl 2 rfl ?_
      refine R_imul F dX10_path_130 ?_
      refine R_iload F dX10_path_131 7 rfl ?_
      refine R_iadd F dX10_path_133 ?_
      refine R_ldi F qm_53 dX10_path_134 hw.1 ?_
      replace hw := hw.2
      refine R_topi (fun x20 ex20 => ?_)
      replace hw := hw x20 ex20
      refine R_istore (lv' := [(9, .int x20), (0, .ref (B 0)), (1, .int l1), (3, .int l3), (4, .int l4), (5, .int l5), (6, .int l6), (7, .int l7), (8, .int l8)]) F dX10_path_135 (by decide) rfl ?_
      refine R_aload_n F dX10_path_137 rfl 1 rfl ?_
      refine gm_63 F in_path dX10_path_138 ?_
      refine R_iload F dX10_path_141 8 rfl ?_
      refine R_iload F dX10_path_143 0 rfl ?_
      have hi := hw.1
      replace hw := hw.2
      refine R_sti F qm_63 um_63 dX10_path_145 hi ?_
      refine R_aload_n F dX10_path_146 rfl 1 rfl ?_
      refine gm_64 F in_path dX10_path_147 ?_
      refine R_iload F dX10_path_150 8 rfl ?_
      refine R_aload_n F dX10_path_152 rfl 1 rfl ?_
      refine gm_54 F in_path dX10_path_153 ?_
      refine R_bipush F 52 dX10_path_156 (by decide) ?_
      refine R_iload_n F dX10_path_158 rfl 3 rfl ?_
      refine R_imul F dX10_path_159 ?_
      refine R_iload F dX10_path_160 8 rfl ?_
      refine R_iadd F dX10_path_162 ?_
      refine R_ldi F qm_54 dX10_path_163 hw.1 ?_
      replace hw := hw.2
      have hi := hw.1
      replace hw := hw.2
      refine R_sti F qm_64 um_64 dX10_path_164 hi ?_
      refine R_iload F dX10_path_165 8 rfl ?_
      refine R_if_le (tgt := 259) F dX10_path_167 (by decide) (fun hc => ?_) (fun hc => ?_)
      · replace hw := hw.1 hc
        exact R_sub [1, 2, 3, 4, 5, 6, 7, 8] rfl (J_259 l1 l3 l4 l5 l6 l7 l8 (sa (sa σ 63 l8 x20) 64 l8 (rd (sa σ 63 l8 x20) 54 ((52 * l3) + l8))) hw)
      · replace hw := hw.2 hc
        refine R_iload F dX10_path_170 8 rfl ?_
        refine R_aload_n F dX10_path_172 rfl 1 rfl ?_
        refine gm_62 F in_path dX10_path_173 ?_
        refine R_iconst F 1 dX10_path_176 (by decide) ?_
        refine R_isub F dX10_path_177 ?_
        refine R_icmp_ge (tgt := 259) F dX10_path_178 (by decide) (fun hc => ?_) (fun hc => ?_)
        · replace hw := hw.1 hc
          exact R_sub [1, 2, 3, 4, 5, 6, 7, 8] rfl (J_259 l1 l3 l4 l5 l6 l7 l8 (sa (sa σ 63 l8 x20) 64 l8 (rd (sa σ 63 l8 x20) 54 ((52 * l3) + l8))) hw)
        · replace hw := hw.2 hc
          refine R_aload_n F dX10_path_181 rfl 1 rfl ?_
          refine gm_2 F in_path dX10_path_182 ?_
          refine R_iload F dX10_path_185 0 rfl ?_
          refine R_ldi F qm_2 dX10_path_187 hw.1 ?_
          replace hw := hw.2
          refine R_iconst F 2 dX10_path_188 (by decide) ?_
          refine R_icmp_ne (tgt := 199) F dX10_path_189 (by decide) (fun hc => ?_) (fun hc => ?_)
          · replace hw := hw.1 hc
            refine R_iload F dX10_path_199 5 rfl ?_
            exact R_sub [1, 2, 3, 4, 6, 7, 8, 0] rfl (J_201 l1 l3 l4 l6 l7 l8 x20 l5 (sa (sa σ 63 l8 x20) 64 l8 (rd (sa σ 63 l8 x20) 54 ((52 * l3) + l8))) hw)
          · replace hw := hw.2 hc
            refine R_iconst F 1 dX10_path_192 (by decide) ?_
            refine R_iload F dX10_path_193 5 rfl ?_
            refine R_isub F dX10_path_195 ?_
            refine R_goto (tgt := 201) F dX10_path_196 (by decide) ?_
            exact R_sub [1, 2, 3, 4, 6, 7, 8, 0] rfl (J_201 l1 l3 l4 l6 l7 l8 x20 (1 - l5) (sa (sa σ 63 l8 x20) 64 l8 (rd (sa σ 63 l8 x20) 54 ((52 * l3) + l8))) hw)
  unfold wp_path at hw
  replace hw := hw X114 C_114
  refine R_aload_n F dX10_path_0 rfl 0 rfl ?_
  refine R_iload_n F dX10_path_1 rfl 1 rfl ?_
  refine R_callI (As := [.int p1]) (C := RX10) (q0 := 0) (ci := 10) (N := 69) (T := TX10) (fs := mfl B) F (ct_isCell l E B _ p1 _ hw) (cwV 1 F.2.2.2.2.2.2.2.2.2.2 g_path_isCell_10 rfl rfl rfl (by decide +kernel) ⟨Nat.le_of_ble_eq_true rfl, Nat.le_of_ble_eq_true rfl⟩) ⟨rfl, rfl⟩ rfl (fun _ => rfl) rfl rfl (Nat.le_of_ble_eq_true rfl) dX10_path_2 (fun r1 σ2 hw => ?_)
  refine R_if_ne (tgt := 10) F dX10_path_5 (by decide) (fun hc => ?_) (fun hc => ?_)
  · replace hw := hw.1 hc
    refine R_aload_n F dX10_path_10 rfl 0 rfl ?_
    refine R_iload_n F dX10_path_11 rfl 1 rfl ?_
    refine R_callI (As := [.int p1]) (C := RX10) (q0 := 0) (ci := 10) (N := 69) (T := TX10) (fs := mfl B) F (ct_isTarget l E B _ p1 _ hw) (cwV 1 F.2.2.2.2.2.2.2.2.2.2 g_path_isTarget_69 rfl rfl rfl (by decide +kernel) ⟨Nat.le_of_ble_eq_true rfl, Nat.le_of_ble_eq_true rfl⟩) ⟨rfl, rfl⟩ rfl (fun _ => rfl) rfl rfl (Nat.le_of_ble_eq_true rfl) dX10_path_12 (fun r3 σ4 hw => ?_)
    refine R_if_ne (tgt := 21) F dX10_path_15 (by decide) (fun hc => ?_) (fun hc => ?_)
    · replace hw := hw.1 hc
      refine R_aload_n F dX10_path_21 rfl 0 rfl ?_
      refine R_callV (As := []) (C := RX10) (q0 := 0) (ci := 10) (N := 69) (T := TX10) (fs := mfl B) F (ct_judge l E B _ _ hw) (cwV 0 F.2.2.2.2.2.2.2.2.2.2 g_path_judge_316 rfl rfl rfl (by decide +kernel) ⟨Nat.le_of_ble_eq_true rfl, Nat.le_of_ble_eq_true rfl⟩) ⟨rfl, rfl⟩ rfl (fun _ => rfl) rfl rfl (Nat.le_of_ble_eq_true rfl) dX10_path_22 (fun σ6 hw => ?_)
      refine R_aload_n F dX10_path_25 rfl 0 rfl ?_
      refine gm_45 F in_path dX10_path_26 ?_
      refine R_iload_n F dX10_path_29 rfl 1 rfl ?_
      refine R_ldi F qm_45 dX10_path_30 hw.1 ?_
      replace hw := hw.2
      refine R_sipush F 1000 dX10_path_31 (by decide) ?_
      refine R_icmp_eq (tgt := 51) F dX10_path_34 (by decide) (fun hc => ?_) (fun hc => ?_)
      · replace hw := hw.1 hc
        exact R_sub [] rfl (J_51 σ6 hw)
      · replace hw := hw.2 hc
        refine R_iload_n F dX10_path_37 rfl 2 rfl ?_
        refine R_if_lt (tgt := 51) F dX10_path_38 (by decide) (fun hc => ?_) (fun hc => ?_)
        · replace hw := hw.1 hc
          exact R_sub [] rfl (J_51 σ6 hw)
        · replace hw := hw.2 hc
          refine R_iload_n F dX10_path_41 rfl 2 rfl ?_
          refine R_aload_n F dX10_path_42 rfl 0 rfl ?_
          refine gm_45 F in_path dX10_path_43 ?_
          refine R_iload_n F dX10_path_46 rfl 1 rfl ?_
          refine R_ldi F qm_45 dX10_path_47 hw.1 ?_
          replace hw := hw.2
          refine R_icmp_lt (tgt := 53) F dX10_path_48 (by decide) (fun hc => ?_) (fun hc => ?_)
          · replace hw := hw.1 hc
            refine R_aload_n F dX10_path_53 rfl 0 rfl ?_
            refine R_iload_n F dX10_path_54 rfl 1 rfl ?_
            refine R_callV (As := [.int p1]) (C := RX10) (q0 := 0) (ci := 10) (N := 69) (T := TX10) (fs := mfl B) F (ct_list l E B _ p1 _ hw) (cwV 1 F.2.2.2.2.2.2.2.2.2.2 g_path_list_346 rfl rfl rfl (by decide +kernel) ⟨Nat.le_of_ble_eq_true rfl, Nat.le_of_ble_eq_true rfl⟩) ⟨rfl, rfl⟩ rfl (fun _ => rfl) rfl rfl (Nat.le_of_ble_eq_true rfl) dX10_path_55 (fun σ8 hw => ?_)
            refine R_aload_n F dX10_path_58 rfl 0 rfl ?_
            refine gm_55 F in_path dX10_path_59 ?_
            refine R_iload_n F dX10_path_62 rfl 2 rfl ?_
            refine R_ldi F qm_55 dX10_path_63 hw.1 ?_
            replace hw := hw.2
            refine R_topi (fun x9 ex9 => ?_)
            replace hw := hw x9 ex9
            refine R_istore_n (lv' := [(3, .int x9), (0, .ref (B 0)), (1, .int p1), (2, .int p2)]) F dX10_path_64 rfl (by decide) rfl ?_
            refine R_aload_n F dX10_path_65 rfl 1 rfl ?_
            refine gm_50 F in_path dX10_path_66 ?_
            refine R_iload_n F dX10_path_69 rfl 0 rfl ?_
            refine R_ldi F qm_50 dX10_path_70 hw.1 ?_
            replace hw := hw.2
            refine R_topi (fun x10 ex10 => ?_)
            replace hw := hw x10 ex10
            refine R_istore (lv' := [(4, .int x10), (3, .int x9), (0, .ref (B 0)), (1, .int p1), (2, .int p2)]) F dX10_path_71 (by decide) rfl ?_
            refine R_aload_n F dX10_path_73 rfl 2 rfl ?_
            refine gm_51 F in_path dX10_path_74 ?_
            refine R_iload_n F dX10_path_77 rfl 1 rfl ?_
            refine R_ldi F qm_51 dX10_path_78 hw.1 ?_
            replace hw := hw.2
            refine R_topi (fun x11 ex11 => ?_)
            replace hw := hw x11 ex11
            refine R_istore (lv' := [(5, .int x11), (4, .int x10), (3, .int x9), (0, .ref (B 0)), (1, .int p1), (2, .int p2)]) F dX10_path_79 (by decide) rfl ?_
            refine R_aload_n F dX10_path_81 rfl 3 rfl ?_
            refine R_iload F dX10_path_82 1 rfl ?_
            refine R_iload F dX10_path_84 0 rfl ?_
            refine R_callI (As := [.int x10, .int x11]) (C := RX10) (q0 := 0) (ci := 10) (N := 69) (T := TX10) (fs := mfl B) F (ct_startLate l E B _ x10 x11 _ hw) (cwV 2 F.2.2.2.2.2.2.2.2.2.2 g_path_startLate_289 rfl rfl rfl (by decide +kernel) ⟨Nat.le_of_ble_eq_true rfl, Nat.le_of_ble_eq_true rfl⟩) ⟨rfl, rfl⟩ rfl (fun _ => rfl) rfl rfl (Nat.le_of_ble_eq_true rfl) dX10_path_86 (fun r12 σ13 hw => ?_)
            refine R_istore (lv' := [(6, .int r12), (5, .int x11), (4, .int x10), (3, .int x9), (0, .ref (B 0)), (1, .int p1), (2, .int p2)]) F dX10_path_89 (by decide) rfl ?_
            refine R_aload_n F dX10_path_91 rfl 4 rfl ?_
            refine R_iload F dX10_path_92 2 rfl ?_
            refine R_iload F dX10_path_94 1 rfl ?_
            refine R_callI (As := [.int x10, .int x11]) (C := RX10) (q0 := 0) (ci := 10) (N := 69) (T := TX10) (fs := mfl B) F (ct_startEarly l E B _ x10 x11 _ hw) (cwV 2 F.2.2.2.2.2.2.2.2.2.2 g_path_startEarly_292 rfl rfl rfl (by decide +kernel) ⟨Nat.le_of_ble_eq_true rfl, Nat.le_of_ble_eq_true rfl⟩) ⟨rfl, rfl⟩ rfl (fun _ => rfl) rfl rfl (Nat.le_of_ble_eq_true rfl) dX10_path_96 (fun r14 σ15 hw => ?_)
            refine R_istore (lv' := [(7, .int r14), (6, .int r12), (5, .int x11), (4, .int x10), (3, .int x9), (0, .ref (B 0)), (1, .int p1), (2, .int p2)]) F dX10_path_99 (by decide) rfl ?_
            refine R_aload_n F dX10_path_101 rfl 5 rfl ?_
            refine R_aload_n F dX10_path_102 rfl 5 rfl ?_
            refine gm_52 F in_path dX10_path_103 ?_
            refine R_iload_n F dX10_path_106 rfl 4 rfl ?_
            refine R_ldi F qm_52 dX10_path_107 hw.1 ?_
            replace hw := hw.2
            refine pm_62 F in_path dX10_path_108 ?_
            refine R_iconst F 0 dX10_path_111 (by decide) ?_
            refine R_istore (lv' := [(8, .int 0), (7, .int r14), (6, .int r12), (5, .int x11), (4, .int x10), (3, .int x9), (0, .ref (B 0)), (1, .int p1), (2, .int p2)]) F dX10_path_112 (by decide) rfl ?_
            exact R_sub [6, 7, 5, 4, 3, 2, 1, 0] rfl (U_114 p1 x9 x10 x11 r12 r14 0 (sf σ15 62 (rd σ15 52 x9)) hw)
          · replace hw := hw.2 hc
            exact R_sub [] rfl (J_51 σ6 hw)
    · replace hw := hw.2 hc
      refine R_bipush F (-2) dX10_path_18 (by decide) ?_
      exact R_iret (Qc := Q) F rfl dX10_path_20 hw
  · replace hw := hw.2 hc
    refine R_iconst F (-1) dX10_path_8 (by decide) ?_
    exact R_iret (Qc := Q) F rfl dX10_path_9 hw
