def b_passes_230 (X31 : Int32 → Int32 → Int32 → Int32 → Int32 → Int32 → Int32 → VS → Prop) (Q : VS → Prop) (l1 : Int32) (l2 : Int32) (l3 : Int32) (l4 : Int32) (l5 : Int32) (l6 : Int32) (l7 : Int32) (σ : VS) : Prop := X31 l1 l2 l3 l4 l5 l6 (l7 + 1) σ
def b_passes_201 (X31 : Int32 → Int32 → Int32 → Int32 → Int32 → Int32 → Int32 → VS → Prop) (Q : VS → Prop) (l1 : Int32) (l2 : Int32) (l3 : Int32) (l4 : Int32) (l5 : Int32) (l6 : Int32) (l7 : Int32) (l8 : Int32) (l9 : Int32) (k0 : Int32) (k1 : Int32) (σ : VS) : Prop := (In k1 1600 ∧ (In l9 1600 ∧ (In l8 1600 ∧ (In l9 1600 ∧ b_passes_230 X31 Q l1 l2 l3 l4 l5 l6 l7 (sa (sa σ 44 k1 k0) 42 l9 (imin 1000 ((rd (sa σ 44 k1 k0) 42 l9) + (rd (sa σ 44 k1 k0) 42 l8))))))))
def b_passes_167 (X31 : Int32 → Int32 → Int32 → Int32 → Int32 → Int32 → Int32 → VS → Prop) (Q : VS → Prop) (l1 : Int32) (l2 : Int32) (l3 : Int32) (l4 : Int32) (l5 : Int32) (l6 : Int32) (l7 : Int32) (l8 : Int32) (l9 : Int32) (l11 : Int32) (k0 : Int32) (k1 : Int32) (σ : VS) : Prop := (In k1 1600 ∧ (In l9 1600 ∧ (((rd (sa σ 43 k1 k0) 42 l9).toInt ≠ 0 → (In l9 1600 ∧ b_passes_201 X31 Q l1 l2 l3 l4 l5 l6 l7 l8 l9 (imin (rd (sa σ 43 k1 k0) 44 l9) l11) l9 (sa σ 43 k1 k0))) ∧ ((rd (sa σ 43 k1 k0) 42 l9).toInt = 0 → b_passes_201 X31 Q l1 l2 l3 l4 l5 l6 l7 l8 l9 l11 l9 (sa σ 43 k1 k0)))))
def b_passes_31 (X31 : Int32 → Int32 → Int32 → Int32 → Int32 → Int32 → Int32 → VS → Prop) (Q : VS → Prop) (l1 : Int32) (l2 : Int32) (l3 : Int32) (l4 : Int32) (l5 : Int32) (l6 : Int32) (l7 : Int32) (σ : VS) : Prop := ((16 ≤ l7.toInt → Q σ) ∧ (l7.toInt < 16 → (∀ x3 : Int32, x3 = ((16 * ((2 * l1) + l4)) + l7) → (In x3 1600 ∧ (((rd σ 42 x3).toInt ≠ 0 → (∀ x4 : Int32, x4 = ((16 * ((2 * l2) + l5)) + (l7 ||| l6)) → (In x3 1600 ∧ (In (((8 * l2) + (2 * l3)) + l5) 400 ∧ (∀ x5 : Int32, x5 = ((rd σ 43 x3) + (rd σ 36 (((8 * l2) + (2 * l3)) + l5))) → (In x3 1600 ∧ (In (((8 * l2) + (2 * l3)) + l5) 400 ∧ (∀ x6 : Int32, x6 = ((rd σ 44 x3) + (rd σ 37 (((8 * l2) + (2 * l3)) + l5))) → (In x4 1600 ∧ (((rd σ 42 x4).toInt ≠ 0 → (In x4 1600 ∧ b_passes_167 X31 Q l1 l2 l3 l4 l5 l6 l7 x3 x4 x6 (imax (rd σ 43 x4) x5) x4 σ)) ∧ ((rd σ 42 x4).toInt = 0 → b_passes_167 X31 Q l1 l2 l3 l4 l5 l6 l7 x3 x4 x6 x5 x4 σ))))))))))) ∧ ((rd σ 42 x3).toInt = 0 → b_passes_230 X31 Q l1 l2 l3 l4 l5 l6 l7 σ))))))
def b_passes_19 (X31 : Int32 → Int32 → Int32 → Int32 → Int32 → Int32 → Int32 → VS → Prop) (Q : VS → Prop) (l1 : Int32) (l2 : Int32) (l3 : Int32) (l4 : Int32) (k0 : Int32) (σ : VS) : Prop := wp_metBy (fun (r1 : Int32) (σ2 : VS) => X31 l1 l2 l3 l4 k0 r1 0 σ2) l2 σ
def wp_passes (Q : VS → Prop) (p1 : Int32) (p2 : Int32) (p3 : Int32) (p4 : Int32) (σ : VS) : Prop := ∀ (X31 : Int32 → Int32 → Int32 → Int32 → Int32 → Int32 → Int32 → VS → Prop), (∀ (l1 : Int32) (l2 : Int32) (l3 : Int32) (l4 : Int32) (l5 : Int32) (l6 : Int32) (l7 : Int32) (σ : VS), b_passes_31 X31 Q l1 l2 l3 l4 l5 l6 l7 σ → X31 l1 l2 l3 l4 l5 l6 l7 σ) → (In p2 50 ∧ (((rd σ 2 p2).toInt ≠ 2 → b_passes_19 X31 Q p1 p2 p3 p4 p4 σ) ∧ ((rd σ 2 p2).toInt = 2 → b_passes_19 X31 Q p1 p2 p3 p4 (1 - p4) σ)))
theorem dX10_passes_0 : decode cX10_passes 0 = .ok (.aload_n 0, 1) := by decide +kernel
theorem dX10_passes_1 : decode cX10_passes 1 = .ok (.getfield 18, 3) := by decide +kernel
theorem dX10_passes_4 : decode cX10_passes 4 = .ok (.iload_n 2, 1) := by decide +kernel
theorem dX10_passes_5 : decode cX10_passes 5 = .ok (.iaload, 1) := by decide +kernel
theorem dX10_passes_6 : decode cX10_passes 6 = .ok (.iconst 2, 1) := by decide +kernel
theorem dX10_passes_7 : decode cX10_passes 7 = .ok (.if_icmp .ne 10, 3) := by decide +kernel
theorem dX10_passes_17 : decode cX10_passes 17 = .ok (.iload 4, 2) := by decide +kernel
theorem dX10_passes_10 : decode cX10_passes 10 = .ok (.iconst 1, 1) := by decide +kernel
theorem dX10_passes_11 : decode cX10_passes 11 = .ok (.iload 4, 2) := by decide +kernel
theorem dX10_passes_13 : decode cX10_passes 13 = .ok (.isub, 1) := by decide +kernel
theorem dX10_passes_14 : decode cX10_passes 14 = .ok (.goto 5, 3) := by decide +kernel
theorem dX10_passes_19 : decode cX10_passes 19 = .ok (.istore 5, 2) := by decide +kernel
theorem dX10_passes_21 : decode cX10_passes 21 = .ok (.aload_n 0, 1) := by decide +kernel
theorem dX10_passes_22 : decode cX10_passes 22 = .ok (.iload_n 2, 1) := by decide +kernel
theorem dX10_passes_23 : decode cX10_passes 23 = .ok (.invokevirtual 295, 3) := by decide +kernel
theorem dX10_passes_26 : decode cX10_passes 26 = .ok (.istore 6, 2) := by decide +kernel
theorem dX10_passes_28 : decode cX10_passes 28 = .ok (.iconst 0, 1) := by decide +kernel
theorem dX10_passes_29 : decode cX10_passes 29 = .ok (.istore 7, 2) := by decide +kernel
theorem dX10_passes_31 : decode cX10_passes 31 = .ok (.iload 7, 2) := by decide +kernel
theorem dX10_passes_33 : decode cX10_passes 33 = .ok (.bipush 16, 2) := by decide +kernel
theorem dX10_passes_35 : decode cX10_passes 35 = .ok (.if_icmp .ge 201, 3) := by decide +kernel
theorem dX10_passes_236 : decode cX10_passes 236 = .ok (.return_, 1) := by decide +kernel
theorem dX10_passes_38 : decode cX10_passes 38 = .ok (.bipush 16, 2) := by decide +kernel
theorem dX10_passes_40 : decode cX10_passes 40 = .ok (.iconst 2, 1) := by decide +kernel
theorem dX10_passes_41 : decode cX10_passes 41 = .ok (.iload_n 1, 1) := by decide +kernel
theorem dX10_passes_42 : decode cX10_passes 42 = .ok (.imul, 1) := by decide +kernel
theorem dX10_passes_43 : decode cX10_passes 43 = .ok (.iload 4, 2) := by decide +kernel
theorem dX10_passes_45 : decode cX10_passes 45 = .ok (.iadd, 1) := by decide +kernel
theorem dX10_passes_46 : decode cX10_passes 46 = .ok (.imul, 1) := by decide +kernel
theorem dX10_passes_47 : decode cX10_passes 47 = .ok (.iload 7, 2) := by decide +kernel
theorem dX10_passes_49 : decode cX10_passes 49 = .ok (.iadd, 1) := by decide +kernel
theorem dX10_passes_50 : decode cX10_passes 50 = .ok (.istore 8, 2) := by decide +kernel
theorem dX10_passes_52 : decode cX10_passes 52 = .ok (.aload_n 0, 1) := by decide +kernel
theorem dX10_passes_53 : decode cX10_passes 53 = .ok (.getfield 141, 3) := by decide +kernel
theorem dX10_passes_56 : decode cX10_passes 56 = .ok (.iload 8, 2) := by decide +kernel
theorem dX10_passes_58 : decode cX10_passes 58 = .ok (.iaload, 1) := by decide +kernel
theorem dX10_passes_59 : decode cX10_passes 59 = .ok (.ifCond .ne 6, 3) := by decide +kernel
theorem dX10_passes_65 : decode cX10_passes 65 = .ok (.bipush 16, 2) := by decide +kernel
theorem dX10_passes_67 : decode cX10_passes 67 = .ok (.iconst 2, 1) := by decide +kernel
theorem dX10_passes_68 : decode cX10_passes 68 = .ok (.iload_n 2, 1) := by decide +kernel
theorem dX10_passes_69 : decode cX10_passes 69 = .ok (.imul, 1) := by decide +kernel
theorem dX10_passes_70 : decode cX10_passes 70 = .ok (.iload 5, 2) := by decide +kernel
theorem dX10_passes_72 : decode cX10_passes 72 = .ok (.iadd, 1) := by decide +kernel
theorem dX10_passes_73 : decode cX10_passes 73 = .ok (.imul, 1) := by decide +kernel
theorem dX10_passes_74 : decode cX10_passes 74 = .ok (.iload 7, 2) := by decide +kernel
theorem dX10_passes_76 : decode cX10_passes 76 = .ok (.iload 6, 2) := by decide +kernel
theorem dX10_passes_78 : decode cX10_passes 78 = .ok (.ior, 1) := by decide +kernel
theorem dX10_passes_79 : decode cX10_passes 79 = .ok (.iadd, 1) := by decide +kernel
theorem dX10_passes_80 : decode cX10_passes 80 = .ok (.istore 9, 2) := by decide +kernel
theorem dX10_passes_82 : decode cX10_passes 82 = .ok (.aload_n 0, 1) := by decide +kernel
theorem dX10_passes_83 : decode cX10_passes 83 = .ok (.getfield 144, 3) := by decide +kernel
theorem dX10_passes_86 : decode cX10_passes 86 = .ok (.iload 8, 2) := by decide +kernel
theorem dX10_passes_88 : decode cX10_passes 88 = .ok (.iaload, 1) := by decide +kernel
theorem dX10_passes_89 : decode cX10_passes 89 = .ok (.aload_n 0, 1) := by decide +kernel
theorem dX10_passes_90 : decode cX10_passes 90 = .ok (.getfield 123, 3) := by decide +kernel
theorem dX10_passes_93 : decode cX10_passes 93 = .ok (.bipush 8, 2) := by decide +kernel
theorem dX10_passes_95 : decode cX10_passes 95 = .ok (.iload_n 2, 1) := by decide +kernel
theorem dX10_passes_96 : decode cX10_passes 96 = .ok (.imul, 1) := by decide +kernel
theorem dX10_passes_97 : decode cX10_passes 97 = .ok (.iconst 2, 1) := by decide +kernel
theorem dX10_passes_98 : decode cX10_passes 98 = .ok (.iload_n 3, 1) := by decide +kernel
theorem dX10_passes_99 : decode cX10_passes 99 = .ok (.imul, 1) := by decide +kernel
theorem dX10_passes_100 : decode cX10_passes 100 = .ok (.iadd, 1) := by decide +kernel
theorem dX10_passes_101 : decode cX10_passes 101 = .ok (.iload 5, 2) := by decide +kernel
theorem dX10_passes_103 : decode cX10_passes 103 = .ok (.iadd, 1) := by decide +kernel
theorem dX10_passes_104 : decode cX10_passes 104 = .ok (.iaload, 1) := by decide +kernel
theorem dX10_passes_105 : decode cX10_passes 105 = .ok (.iadd, 1) := by decide +kernel
theorem dX10_passes_106 : decode cX10_passes 106 = .ok (.istore 10, 2) := by decide +kernel
theorem dX10_passes_108 : decode cX10_passes 108 = .ok (.aload_n 0, 1) := by decide +kernel
theorem dX10_passes_109 : decode cX10_passes 109 = .ok (.getfield 147, 3) := by decide +kernel
theorem dX10_passes_112 : decode cX10_passes 112 = .ok (.iload 8, 2) := by decide +kernel
theorem dX10_passes_114 : decode cX10_passes 114 = .ok (.iaload, 1) := by decide +kernel
theorem dX10_passes_115 : decode cX10_passes 115 = .ok (.aload_n 0, 1) := by decide +kernel
theorem dX10_passes_116 : decode cX10_passes 116 = .ok (.getfield 126, 3) := by decide +kernel
theorem dX10_passes_119 : decode cX10_passes 119 = .ok (.bipush 8, 2) := by decide +kernel
theorem dX10_passes_121 : decode cX10_passes 121 = .ok (.iload_n 2, 1) := by decide +kernel
theorem dX10_passes_122 : decode cX10_passes 122 = .ok (.imul, 1) := by decide +kernel
theorem dX10_passes_123 : decode cX10_passes 123 = .ok (.iconst 2, 1) := by decide +kernel
theorem dX10_passes_124 : decode cX10_passes 124 = .ok (.iload_n 3, 1) := by decide +kernel
theorem dX10_passes_125 : decode cX10_passes 125 = .ok (.imul, 1) := by decide +kernel
theorem dX10_passes_126 : decode cX10_passes 126 = .ok (.iadd, 1) := by decide +kernel
theorem dX10_passes_127 : decode cX10_passes 127 = .ok (.iload 5, 2) := by decide +kernel
theorem dX10_passes_129 : decode cX10_passes 129 = .ok (.iadd, 1) := by decide +kernel
theorem dX10_passes_130 : decode cX10_passes 130 = .ok (.iaload, 1) := by decide +kernel
theorem dX10_passes_131 : decode cX10_passes 131 = .ok (.iadd, 1) := by decide +kernel
theorem dX10_passes_132 : decode cX10_passes 132 = .ok (.istore 11, 2) := by decide +kernel
theorem dX10_passes_134 : decode cX10_passes 134 = .ok (.aload_n 0, 1) := by decide +kernel
theorem dX10_passes_135 : decode cX10_passes 135 = .ok (.getfield 144, 3) := by decide +kernel
theorem dX10_passes_138 : decode cX10_passes 138 = .ok (.iload 9, 2) := by decide +kernel
theorem dX10_passes_140 : decode cX10_passes 140 = .ok (.aload_n 0, 1) := by decide +kernel
theorem dX10_passes_141 : decode cX10_passes 141 = .ok (.getfield 141, 3) := by decide +kernel
theorem dX10_passes_144 : decode cX10_passes 144 = .ok (.iload 9, 2) := by decide +kernel
theorem dX10_passes_146 : decode cX10_passes 146 = .ok (.iaload, 1) := by decide +kernel
theorem dX10_passes_147 : decode cX10_passes 147 = .ok (.ifCond .ne 8, 3) := by decide +kernel
theorem dX10_passes_155 : decode cX10_passes 155 = .ok (.aload_n 0, 1) := by decide +kernel
theorem dX10_passes_156 : decode cX10_passes 156 = .ok (.getfield 144, 3) := by decide +kernel
theorem dX10_passes_159 : decode cX10_passes 159 = .ok (.iload 9, 2) := by decide +kernel
theorem dX10_passes_161 : decode cX10_passes 161 = .ok (.iaload, 1) := by decide +kernel
theorem dX10_passes_162 : decode cX10_passes 162 = .ok (.iload 10, 2) := by decide +kernel
theorem dX10_passes_164 : decode cX10_passes 164 = .ok (.invokestatic 260, 3) := by decide +kernel
theorem dX10_passes_150 : decode cX10_passes 150 = .ok (.iload 10, 2) := by decide +kernel
theorem dX10_passes_152 : decode cX10_passes 152 = .ok (.goto 15, 3) := by decide +kernel
theorem dX10_passes_62 : decode cX10_passes 62 = .ok (.goto 168, 3) := by decide +kernel
theorem dX10_passes_167 : decode cX10_passes 167 = .ok (.iastore, 1) := by decide +kernel
theorem dX10_passes_168 : decode cX10_passes 168 = .ok (.aload_n 0, 1) := by decide +kernel
theorem dX10_passes_169 : decode cX10_passes 169 = .ok (.getfield 147, 3) := by decide +kernel
theorem dX10_passes_172 : decode cX10_passes 172 = .ok (.iload 9, 2) := by decide +kernel
theorem dX10_passes_174 : decode cX10_passes 174 = .ok (.aload_n 0, 1) := by decide +kernel
theorem dX10_passes_175 : decode cX10_passes 175 = .ok (.getfield 141, 3) := by decide +kernel
theorem dX10_passes_178 : decode cX10_passes 178 = .ok (.iload 9, 2) := by decide +kernel
theorem dX10_passes_180 : decode cX10_passes 180 = .ok (.iaload, 1) := by decide +kernel
theorem dX10_passes_181 : decode cX10_passes 181 = .ok (.ifCond .ne 8, 3) := by decide +kernel
theorem dX10_passes_189 : decode cX10_passes 189 = .ok (.aload_n 0, 1) := by decide +kernel
theorem dX10_passes_190 : decode cX10_passes 190 = .ok (.getfield 147, 3) := by decide +kernel
theorem dX10_passes_193 : decode cX10_passes 193 = .ok (.iload 9, 2) := by decide +kernel
theorem dX10_passes_195 : decode cX10_passes 195 = .ok (.iaload, 1) := by decide +kernel
theorem dX10_passes_196 : decode cX10_passes 196 = .ok (.iload 11, 2) := by decide +kernel
theorem dX10_passes_198 : decode cX10_passes 198 = .ok (.invokestatic 266, 3) := by decide +kernel
theorem dX10_passes_184 : decode cX10_passes 184 = .ok (.iload 11, 2) := by decide +kernel
theorem dX10_passes_186 : decode cX10_passes 186 = .ok (.goto 15, 3) := by decide +kernel
theorem dX10_passes_230 : decode cX10_passes 230 = .ok (.iinc 7 1, 3) := by decide +kernel
theorem dX10_passes_233 : decode cX10_passes 233 = .ok (.goto (-202), 3) := by decide +kernel
theorem dX10_passes_201 : decode cX10_passes 201 = .ok (.iastore, 1) := by decide +kernel
theorem dX10_passes_202 : decode cX10_passes 202 = .ok (.aload_n 0, 1) := by decide +kernel
theorem dX10_passes_203 : decode cX10_passes 203 = .ok (.getfield 141, 3) := by decide +kernel
theorem dX10_passes_206 : decode cX10_passes 206 = .ok (.iload 9, 2) := by decide +kernel
theorem dX10_passes_208 : decode cX10_passes 208 = .ok (.sipush 1000, 3) := by decide +kernel
theorem dX10_passes_211 : decode cX10_passes 211 = .ok (.aload_n 0, 1) := by decide +kernel
theorem dX10_passes_212 : decode cX10_passes 212 = .ok (.getfield 141, 3) := by decide +kernel
theorem dX10_passes_215 : decode cX10_passes 215 = .ok (.iload 9, 2) := by decide +kernel
theorem dX10_passes_217 : decode cX10_passes 217 = .ok (.iaload, 1) := by decide +kernel
theorem dX10_passes_218 : decode cX10_passes 218 = .ok (.aload_n 0, 1) := by decide +kernel
theorem dX10_passes_219 : decode cX10_passes 219 = .ok (.getfield 141, 3) := by decide +kernel
theorem dX10_passes_222 : decode cX10_passes 222 = .ok (.iload 8, 2) := by decide +kernel
theorem dX10_passes_224 : decode cX10_passes 224 = .ok (.iaload, 1) := by decide +kernel
theorem dX10_passes_225 : decode cX10_passes 225 = .ok (.iadd, 1) := by decide +kernel
theorem dX10_passes_226 : decode cX10_passes 226 = .ok (.invokestatic 266, 3) := by decide +kernel
theorem dX10_passes_229 : decode cX10_passes 229 = .ok (.iastore, 1) := by decide +kernel
def wo_passes : List Cond := [.code yX10_passes cX10_passes 12 none, .methodLink RX10 295 yX10_metBy, .instanceMethod yX10_metBy, .selects RX10 yX10_metBy yX10_metBy, .initialized RX10, .methodLink RX10 260 Lib.Math.max.name, .static Lib.Math.max.name, .initialized "java/lang/Math", .code Lib.Math.max.name Lib.Math.max.code 2 (some .int), .methodLink RX10 266 Lib.Math.min.name, .static Lib.Math.min.name, .code Lib.Math.min.name Lib.Math.min.code 2 (some .int)]
def wr_passes : List Cond := (wfX10 ++ (w_metBy ++ ([])))
def w_passes : List Cond := wo_passes ++ wr_passes
theorem wg_passes : GW w_passes := GW_app (GW_of (by decide +kernel)) (GW_app (wg_fX10) (GW_app (wg_metBy) (GW_nil)))
theorem in_passes : ∀ w ∈ wfX10, w ∈ w_passes := fun _ h => List.mem_append_right _ (List.mem_append_left _ h)
theorem g_passes_metBy_295 : GoodIn w_passes (wsV RX10 295 RX10 yX10_metBy w_metBy) := goodIn_app (gi_left (goodIn_of _ (by decide +kernel))) (fun w h => ⟨List.mem_append_right _ (List.mem_append_right _ (List.mem_append_left _ h)), wg_metBy w h⟩)
set_option maxHeartbeats 4000000 in
set_option maxRecDepth 100000 in
theorem ct_passes (l : Launch) (E : gE) (B : Nat → Nat) (Q : VS → Prop) (p1 : Int32) (p2 : Int32) (p3 : Int32) (p4 : Int32) (σ : VS) (hw : wp_passes Q p1 p2 p3 p4 σ) : CtV l E yX10_passes w_passes (({ frames := 1, cells := 0, slots := 0, locals := 23 } : Room)) (wm E B σ) [.ref (B 0), .int p1, .int p2, .int p3, .int p4] (fun w => ∃ σ' : VS, Q σ' ∧ w = wm E B σ') := by
  refine VC_V (cc := cX10_passes) (mL := 12) (rt := none) (lv0 := [(0, .ref (B 0)), (1, .int p1), (2, .int p2), (3, .int p3), (4, .int p4)]) rfl (by decide) rfl (Nat.le_of_ble_eq_true rfl) ?_
  intro p e s m below meth c A F
  replace F : Fx p s m _ meth c A E cX10_passes 12 none RX10 w_passes := F
  obtain ⟨X31, hX31⟩ : ∃ X : Int32 → Int32 → Int32 → Int32 → Int32 → Int32 → Int32 → VS → Prop, X = fun l1 l2 l3 l4 l5 l6 l7 σ => WB p l e (({ frames := 1, cells := 0, slots := 0, locals := 23 } : Room)) s m (#[.ref (B 0), .int p1, .int p2, .int p3, .int p4]) below meth c (MQ below (va_Qv (fun w => ∃ σ' : VS, Q σ' ∧ w = wm E B σ') (AftU E A) A) (#[.ref (B 0), .int p1, .int p2, .int p3, .int p4]) s (({ frames := 1, cells := 0, slots := 0, locals := 23 } : Room)).cells (({ frames := 1, cells := 0, slots := 0, locals := 23 } : Room)).slots A) A E (wm E B) 12 31 [(0, .ref (B 0)), (1, .int l1), (2, .int l2), (3, .int l3), (4, .int l4), (5, .int l5), (6, .int l6), (7, .int l7)] [] σ := ⟨_, rfl⟩
  have U_31 : ∀ (l1 : Int32) (l2 : Int32) (l3 : Int32) (l4 : Int32) (l5 : Int32) (l6 : Int32) (l7 : Int32) (σ : VS), X31 l1 l2 l3 l4 l5 l6 l7 σ → WB p l e (({ frames := 1, cells := 0, slots := 0, locals := 23 } : Room)) s m (#[.ref (B 0), .int p1, .int p2, .int p3, .int p4]) below meth c (MQ below (va_Qv (fun w => ∃ σ' : VS, Q σ' ∧ w = wm E B σ') (AftU E A) A) (#[.ref (B 0), .int p1, .int p2, .int p3, .int p4]) s (({ frames := 1, cells := 0, slots := 0, locals := 23 } : Room)).cells (({ frames := 1, cells := 0, slots := 0, locals := 23 } : Room)).slots A) A E (wm E B) 12 31 [(0, .ref (B 0)), (1, .int l1), (2, .int l2), (3, .int l3), (4, .int l4), (5, .int l5), (6, .int l6), (7, .int l7)] [] σ := by
    intro l1 l2 l3 l4 l5 l6 l7 σ hw; rw [hX31] at hw; exact hw
  have J_230 : ∀ (l1 : Int32) (l2 : Int32) (l3 : Int32) (l4 : Int32) (l5 : Int32) (l6 : Int32) (l7 : Int32) (σ : VS), b_passes_230 X31 Q l1 l2 l3 l4 l5 l6 l7 σ → WB p l e (({ frames := 1, cells := 0, slots := 0, locals := 23 } : Room)) s m (#[.ref (B 0), .int p1, .int p2, .int p3, .int p4]) below meth c (MQ below (va_Qv (fun w => ∃ σ' : VS, Q σ' ∧ w = wm E B σ') (AftU E A) A) (#[.ref (B 0), .int p1, .int p2, .int p3, .int p4]) s (({ frames := 1, cells := 0, slots := 0, locals := 23 } : Room)).cells (({ frames := 1, cells := 0, slots := 0, locals := 23 } : Room)).slots A) A E (wm E B) 12 230 [(0, .ref (B 0)), (1, .int l1), (2, .int l2), (3, .int l3), (4, .int l4), (5, .int l5), (6, .int l6), (7, .int l7)] [] σ := by
    intro l1 l2 l3 l4 l5 l6 l7 σ hw
    unfold b_passes_230 at hw
    refine R_iinc (q := 7) (v := (l7 + 1)) (lv' := [(7, .int (l7 + 1)), (0, .ref (B 0)), (1, .int l1), (2, .int l2), (3, .int l3), (4, .int l4), (5, .int l5), (6, .int l6)]) F dX10_passes_230 rfl rfl (by decide) rfl ?_
    refine R_goto (tgt := 31) F dX10_passes_233 (by decide) ?_
    exact R_sub [1, 2, 3, 4, 5, 6, 7, 0] rfl (U_31 l1 l2 l3 l4 l5 l6 (l7 + 1) σ hw)
  have J_201 : ∀ (l1 : Int32) (l2 : Int32) (l3 : Int32) (l4 : Int32) (l5 : Int32) (l6 : Int32) (l7 : Int32) (l8 : Int32) (l9 : Int32) (k0 : Int32) (k1 : Int32) (σ : VS), b_passes_201 X31 Q l1 l2 l3 l4 l5 l6 l7 l8 l9 k0 k1 σ → WB p l e (({ frames := 1, cells := 0, slots := 0, locals := 23 } : Room)) s m (#[.ref (B 0), .int p1, .int p2, .int p3, .int p4]) below meth c (MQ below (va_Qv (fun w => ∃ σ' : VS, Q σ' ∧ w = wm E B σ') (AftU E A) A) (#[.ref (B 0), .int p1, .int p2, .int p3, .int p4]) s (({ frames := 1, cells := 0, slots := 0, locals := 23 } : Room)).cells (({ frames := 1, cells := 0, slots := 0, locals := 23 } : Room)).slots A) A E (wm E B) 12 201 [(0, .ref (B 0)), (1, .int l1), (2, .int l2), (3, .int l3), (4, .int l4), (5, .int l5), (6, .int l6), (7, .int l7), (8, .int l8), (9, .int l9)] [.int k0, .int k1, .ref (B 44)] σ := by
    intro l1 l2 l3 l4 l5 l6 l7 l8 l9 k0 k1 σ hw
    unfold b_passes_201 at hw
    have hi := hw.1
    replace hw := hw.2
    refine R_sti F qm_44 um_44 dX10_passes_201 hi ?_
    refine R_aload_n F dX10_passes_202 rfl 0 rfl ?_
    refine gm_42 F in_passes dX10_passes_203 ?_
    refine R_iload F dX10_passes_206 9 rfl ?_
    refine R_sipush F 1000 dX10_passes_208 (by decide) ?_
    refine R_aload_n F dX10_passes_211 rfl 0 rfl ?_
    refine gm_42 F in_passes dX10_passes_212 ?_
    refine R_iload F dX10_passes_215 9 rfl ?_
    refine R_ldi F qm_42 dX10_passes_217 hw.1 ?_
    replace hw := hw.2
    refine R_aload_n F dX10_passes_218 rfl 0 rfl ?_
    refine gm_42 F in_passes dX10_passes_219 ?_
    refine R_iload F dX10_passes_222 8 rfl ?_
    refine R_ldi F qm_42 dX10_passes_224 hw.1 ?_
    replace hw := hw.2
    refine R_iadd F dX10_passes_225 ?_
    refine R_mmin F (List.mem_append_left _ (show Cond.methodLink RX10 266 Lib.Math.min.name ∈ wo_passes by decide +kernel)) (List.mem_append_left _ (show Cond.static Lib.Math.min.name ∈ wo_passes by decide +kernel)) (List.mem_append_left _ (show Cond.initialized "java/lang/Math" ∈ wo_passes by decide +kernel)) (List.mem_append_left _ (show Cond.code Lib.Math.min.name Lib.Math.min.code 2 (some .int) ∈ wo_passes by decide +kernel)) (Nat.le_of_ble_eq_true rfl) (Nat.le_of_ble_eq_true rfl) dX10_passes_226 ?_
    have hi := hw.1
    replace hw := hw.2
    refine R_sti F qm_42 um_42 dX10_passes_229 hi ?_
    exact R_sub [0, 1, 2, 3, 4, 5, 6, 7] rfl (J_230 l1 l2 l3 l4 l5 l6 l7 (sa (sa σ 44 k1 k0) 42 l9 (imin 1000 ((rd (sa σ 44 k1 k0) 42 l9) + (rd (sa σ 44 k1 k0) 42 l8)))) hw)
  have J_167 : ∀ (l1 : Int32) (l2 : Int32) (l3 : Int32) (l4 : Int32) (l5 : Int32) (l6 : Int32) (l7 : Int32) (l8 : Int32) (l9 : Int32) (l11 : Int32) (k0 : Int32) (k1 : Int32) (σ : VS), b_passes_167 X31 Q l1 l2 l3 l4 l5 l6 l7 l8 l9 l11 k0 k1 σ → WB p l e (({ frames := 1, cells := 0, slots := 0, locals := 23 } : Room)) s m (#[.ref (B 0), .int p1, .int p2, .int p3, .int p4]) below meth c (MQ below (va_Qv (fun w => ∃ σ' : VS, Q σ' ∧ w = wm E B σ') (AftU E A) A) (#[.ref (B 0), .int p1, .int p2, .int p3, .int p4]) s (({ frames := 1, cells := 0, slots := 0, locals := 23 } : Room)).cells (({ frames := 1, cells := 0, slots := 0, locals := 23 } : Room)).slots A) A E (wm E B) 12 167 [(0, .ref (B 0)), (1, .int l1), (2, .int l2), (3, .int l3), (4, .int l4), (5, .int l5), (6, .int l6), (7, .int l7), (8, .int l8), (9, .int l9), (11, .int l11)] [.int k0, .int k1, .ref (B 43)] σ := by
    intro l1 l2 l3 l4 l5 l6 l7 l8 l9 l11 k0 k1 σ hw
    unfold b_passes_167 at hw
    have hi := hw.1
    replace hw := hw.2
    refine R_sti F qm_43 um_43 dX10_passes_167 hi ?_
    refine R_aload_n F dX10_passes_168 rfl 0 rfl ?_
    refine gm_44 F in_passes dX10_passes_169 ?_
    refine R_iload F dX10_passes_172 9 rfl ?_
    refine R_aload_n F dX10_passes_174 rfl 0 rfl ?_
    refine gm_42 F in_passes dX10_passes_175 ?_
    refine R_iload F dX10_passes_178 9 rfl ?_
    refine R_ldi F qm_42 dX10_passes_180 hw.1 ?_
    replace hw := hw.2
    refine R_if_ne (tgt := 189) F dX10_passes_181 (by decide) (fun hc => ?_) (fun hc => ?_)
    · replace hw := hw.1 hc
      refine R_aload_n F dX10_passes_189 rfl 0 rfl ?_
      refine gm_44 F in_passes dX10_passes_190 ?_
      refine R_iload F dX10_passes_193 9 rfl ?_
      refine R_ldi F qm_44 dX10_passes_195 hw.1 ?_
      replace hw := hw.2
      refine R_iload F dX10_passes_196 10 rfl ?_
      refine R_mmin F (List.mem_append_left _ (show Cond.methodLink RX10 266 Lib.Math.min.name ∈ wo_passes by decide +kernel)) (List.mem_append_left _ (show Cond.static Lib.Math.min.name ∈ wo_passes by decide +kernel)) (List.mem_append_left _ (show Cond.initialized "java/lang/Math" ∈ wo_passes by decide +kernel)) (List.mem_append_left _ (show Cond.code Lib.Math.min.name Lib.Math.min.code 2 (some .int) ∈ wo_passes by decide +kernel)) (Nat.le_of_ble_eq_true rfl) (Nat.le_of_ble_eq_true rfl) dX10_passes_198 ?_
      exact R_sub [0, 1, 2, 3, 4, 5, 6, 7, 8, 9] rfl (J_201 l1 l2 l3 l4 l5 l6 l7 l8 l9 (imin (rd (sa σ 43 k1 k0) 44 l9) l11) l9 (sa σ 43 k1 k0) hw)
    · replace hw := hw.2 hc
      refine R_iload F dX10_passes_184 10 rfl ?_
      refine R_goto (tgt := 201) F dX10_passes_186 (by decide) ?_
      exact R_sub [0, 1, 2, 3, 4, 5, 6, 7, 8, 9] rfl (J_201 l1 l2 l3 l4 l5 l6 l7 l8 l9 l11 l9 (sa σ 43 k1 k0) hw)
  have J_19 : ∀ (l1 : Int32) (l2 : Int32) (l3 : Int32) (l4 : Int32) (k0 : Int32) (σ : VS), b_passes_19 X31 Q l1 l2 l3 l4 k0 σ → WB p l e (({ frames := 1, cells := 0, slots := 0, locals := 23 } : Room)) s m (#[.ref (B 0), .int p1, .int p2, .int p3, .int p4]) below meth c (MQ below (va_Qv (fun w => ∃ σ' : VS, Q σ' ∧ w = wm E B σ') (AftU E A) A) (#[.ref (B 0), .int p1, .int p2, .int p3, .int p4]) s (({ frames := 1, cells := 0, slots := 0, locals := 23 } : Room)).cells (({ frames := 1, cells := 0, slots := 0, locals := 23 } : Room)).slots A) A E (wm E B) 12 19 [(0, .ref (B 0)), (1, .int l1), (2, .int l2), (3, .int l3), (4, .int l4)] [.int k0] σ := by
    intro l1 l2 l3 l4 k0 σ hw
    unfold b_passes_19 at hw
    refine R_istore (lv' := [(5, .int k0), (0, .ref (B 0)), (1, .int l1), (2, .int l2), (3, .int l3), (4, .int l4)]) F dX10_passes_19 (by decide) rfl ?_
    refine R_aload_n F dX10_passes_21 rfl 1 rfl ?_
    refine R_iload_n F dX10_passes_22 rfl 3 rfl ?_
    refine R_callI (As := [.int l2]) (C := RX10) (q0 := 0) (ci := 10) (N := 69) (T := TX10) (fs := mfl B) F (ct_metBy l E B _ l2 _ hw) (cwV 1 F.2.2.2.2.2.2.2.2.2.2 g_passes_metBy_295 rfl rfl rfl (by decide +kernel) ⟨Nat.le_of_ble_eq_true rfl, Nat.le_of_ble_eq_true rfl⟩) ⟨rfl, rfl⟩ rfl (fun _ => rfl) rfl rfl (Nat.le_of_ble_eq_true rfl) dX10_passes_23 (fun r1 σ2 hw => ?_)
    refine R_istore (lv' := [(6, .int r1), (5, .int k0), (0, .ref (B 0)), (1, .int l1), (2, .int l2), (3, .int l3), (4, .int l4)]) F dX10_passes_26 (by decide) rfl ?_
    refine R_iconst F 0 dX10_passes_28 (by decide) ?_
    refine R_istore (lv' := [(7, .int 0), (6, .int r1), (5, .int k0), (0, .ref (B 0)), (1, .int l1), (2, .int l2), (3, .int l3), (4, .int l4)]) F dX10_passes_29 (by decide) rfl ?_
    exact R_sub [3, 4, 5, 6, 7, 2, 1, 0] rfl (U_31 l1 l2 l3 l4 k0 r1 0 σ2 hw)
  have C_31 : ∀ (l1 : Int32) (l2 : Int32) (l3 : Int32) (l4 : Int32) (l5 : Int32) (l6 : Int32) (l7 : Int32) (σ : VS), b_passes_31 X31 Q l1 l2 l3 l4 l5 l6 l7 σ → X31 l1 l2 l3 l4 l5 l6 l7 σ := by
    intro l1 l2 l3 l4 l5 l6 l7 σ hw
    unfold b_passes_31 at hw
    rw [hX31]
    show WB p l e (({ frames := 1, cells := 0, slots := 0, locals := 23 } : Room)) s m (#[.ref (B 0), .int p1, .int p2, .int p3, .int p4]) below meth c (MQ below (va_Qv (fun w => ∃ σ' : VS, Q σ' ∧ w = wm E B σ') (AftU E A) A) (#[.ref (B 0), .int p1, .int p2, .int p3, .int p4]) s (({ frames := 1, cells := 0, slots := 0, locals := 23 } : Room)).cells (({ frames := 1, cells := 0, slots := 0, locals := 23 } : Room)).slots A) A E (wm E B) 12 31 [(0, .ref (B 0)), (1, .int l1), (2, .int l2), (3, .int l3), (4, .int l4), (5, .int l5), (6, .int l6), (7, .int l7)] [] σ
    refine R_iload F dX10_passes_31 7 rfl ?_
    refine R_bipush F 16 dX10_passes_33 (by decide) ?_
    refine R_icmp_ge (tgt := 236) F dX10_passes_35 (by decide) (fun hc => ?_) (fun hc => ?_)
    · replace hw := hw.1 hc
      exact R_vret (Qc := Q) F dX10_passes_236 hw
    · replace hw := hw.2 hc
      refine R_bipush F 16 dX10_passes_38 (by decide) ?_
      refine R_iconst F 2 dX10_passes_40 (by decide) ?_
      refine R_iload_n F dX10_passes_41 rfl 1 rfl ?_
      refine R_imul F dX10_passes_42 ?_
      refine R_iload F dX10_passes_43 4 rfl ?_
      refine R_iadd F dX10_passes_45 ?_
      refine R_imul F dX10_passes_46 ?_
      refine R_iload F dX10_passes_47 7 rfl ?_
      refine R_iadd F dX10_passes_49 ?_
      refine R_topi (fun x3 ex3 => ?_)
      replace hw := hw x3 ex3
      refine R_istore (lv' := [(8, .int x3), (0, .ref (B 0)), (1, .int l1), (2, .int l2), (3, .int l3), (4, .int l4), (5, .int l5), (6, .int l6), (7, .int l7)]) F dX10_passes_50 (by decide) rfl ?_
      refine R_aload_n F dX10_passes_52 rfl 1 rfl ?_
      refine gm_42 F in_passes dX10_passes_53 ?_
      refine R_iload F dX10_passes_56 0 rfl ?_
      refine R_ldi F qm_42 dX10_passes_58 hw.1 ?_
      replace hw := hw.2
      refine R_if_ne (tgt := 65) F dX10_passes_59 (by decide) (fun hc => ?_) (fun hc => ?_)
      · replace hw := hw.1 hc
        refine R_bipush F 16 dX10_passes_65 (by decide) ?_
        refine R_iconst F 2 dX10_passes_67 (by decide) ?_
        refine R_iload_n F dX10_passes_68 rfl 3 rfl ?_
        refine R_imul F dX10_passes_69 ?_
        refine R_iload F dX10_passes_70 6 rfl ?_
        refine R_iadd F dX10_passes_72 ?_
        refine R_imul F dX10_passes_73 ?_
        refine R_iload F dX10_passes_74 8 rfl ?_
        refine R_iload F dX10_passes_76 7 rfl ?_
        refine R_ior F dX10_passes_78 ?_
        refine R_iadd F dX10_passes_79 ?_
        refine R_topi (fun x4 ex4 => ?_)
        replace hw := hw x4 ex4
        refine R_istore (lv' := [(9, .int x4), (8, .int x3), (0, .ref (B 0)), (1, .int l1), (2, .int l2), (3, .int l3), (4, .int l4), (5, .int l5), (6, .int l6), (7, .int l7)]) F dX10_passes_80 (by decide) rfl ?_
        refine R_aload_n F dX10_passes_82 rfl 2 rfl ?_
        refine gm_43 F in_passes dX10_passes_83 ?_
        refine R_iload F dX10_passes_86 1 rfl ?_
        refine R_ldi F qm_43 dX10_passes_88 hw.1 ?_
        replace hw := hw.2
        refine R_aload_n F dX10_passes_89 rfl 2 rfl ?_
        refine gm_36 F in_passes dX10_passes_90 ?_
        refine R_bipush F 8 dX10_passes_93 (by decide) ?_
        refine R_iload_n F dX10_passes_95 rfl 4 rfl ?_
        refine R_imul F dX10_passes_96 ?_
        refine R_iconst F 2 dX10_passes_97 (by decide) ?_
        refine R_iload_n F dX10_passes_98 rfl 5 rfl ?_
        refine R_imul F dX10_passes_99 ?_
        refine R_iadd F dX10_passes_100 ?_
        refine R_iload F dX10_passes_101 7 rfl ?_
        refine R_iadd F dX10_passes_103 ?_
        refine R_ldi F qm_36 dX10_passes_104 hw.1 ?_
        replace hw := hw.2
        refine R_iadd F dX10_passes_105 ?_
        refine R_topi (fun x5 ex5 => ?_)
        replace hw := hw x5 ex5
        refine R_istore (lv' := [(10, .int x5), (9, .int x4), (8, .int x3), (0, .ref (B 0)), (1, .int l1), (2, .int l2), (3, .int l3), (4, .int l4), (5, .int l5), (6, .int l6), (7, .int l7)]) F dX10_passes_106 (by decide) rfl ?_
        refine R_aload_n F dX10_passes_108 rfl 3 rfl ?_
        refine gm_44 F in_passes dX10_passes_109 ?_
        refine R_iload F dX10_passes_112 2 rfl ?_
        refine R_ldi F qm_44 dX10_passes_114 hw.1 ?_
        replace hw := hw.2
        refine R_aload_n F dX10_passes_115 rfl 3 rfl ?_
        refine gm_37 F in_passes dX10_passes_116 ?_
        refine R_bipush F 8 dX10_passes_119 (by decide) ?_
        refine R_iload_n F dX10_passes_121 rfl 5 rfl ?_
        refine R_imul F dX10_passes_122 ?_
        refine R_iconst F 2 dX10_passes_123 (by decide) ?_
        refine R_iload_n F dX10_passes_124 rfl 6 rfl ?_
        refine R_imul F dX10_passes_125 ?_
        refine R_iadd F dX10_passes_126 ?_
        refine R_iload F dX10_passes_127 8 rfl ?_
        refine R_iadd F dX10_passes_129 ?_
        refine R_ldi F qm_37 dX10_passes_130 hw.1 ?_
        replace hw := hw.2
        refine R_iadd F dX10_passes_131 ?_
        refine R_topi (fun x6 ex6 => ?_)
        replace hw := hw x6 ex6
        refine R_istore (lv' := [(11, .int x6), (10, .int x5), (9, .int x4), (8, .int x3), (0, .ref (B 0)), (1, .int l1), (2, .int l2), (3, .int l3), (4, .int l4), (5, .int l5), (6, .int l6), (7, .int l7)]) F dX10_passes_132 (by decide) rfl ?_
        refine R_aload_n F dX10_passes_134 rfl 4 rfl ?_
        refine gm_43 F in_passes dX10_passes_135 ?_
        refine R_iload F dX10_passes_138 2 rfl ?_
        refine R_aload_n F dX10_passes_140 rfl 4 rfl ?_
        refine gm_42 F in_passes dX10_passes_141 ?_
        refine R_iload F dX10_passes_144 2 rfl ?_
        refine R_ldi F qm_42 dX10_passes_146 hw.1 ?_
        replace hw := hw.2
        refine R_if_ne (tgt := 155) F dX10_passes_147 (by decide) (fun hc => ?_) (fun hc => ?_)
        · replace hw := hw.1 hc
          refine R_aload_n F dX10_passes_155 rfl 4 rfl ?_
          refine gm_43 F in_passes dX10_passes_156 ?_
          refine R_iload F dX10_passes_159 2 rfl ?_
          refine R_ldi F qm_43 dX10_passes_161 hw.1 ?_
          replace hw := hw.2
          refine R_iload F dX10_passes_162 1 rfl ?_
          refine R_mmax F (List.mem_append_left _ (show Cond.methodLink RX10 260 Lib.Math.max.name ∈ wo_passes by decide +kernel)) (List.mem_append_left _ (show Cond.static Lib.Math.max.name ∈ wo_passes by decide +kernel)) (List.mem_append_left _ (show Cond.initialized "java/lang/Math" ∈ wo_passes by decide +kernel)) (List.mem_append_left _ (show Cond.code Lib.Math.max.name Lib.Math.max.code 2 (some .int) ∈ wo_passes by decide +kernel)) (Nat.le_of_ble_eq_true rfl) (Nat.le_of_ble_eq_true rfl) dX10_passes_164 ?_
          exact R_sub [4, 5, 6, 7, 8, 9, 10, 11, 3, 2, 0] rfl (J_167 l1 l2 l3 l4 l5 l6 l7 x3 x4 x6 (imax (rd σ 43 x4) x5) x4 σ hw)
        · replace hw := hw.2 hc
          refine R_iload F dX10_passes_150 1 rfl ?_
          refine R_goto (tgt := 167) F dX10_passes_152 (by decide) ?_
          exact R_sub [4, 5, 6, 7, 8, 9, 10, 11, 3, 2, 0] rfl (J_167 l1 l2 l3 l4 l5 l6 l7 x3 x4 x6 x5 x4 σ hw)
      · replace hw := hw.2 hc
        refine R_goto (tgt := 230) F dX10_passes_62 (by decide) ?_
        exact R_sub [1, 2, 3, 4, 5, 6, 7, 8] rfl (J_230 l1 l2 l3 l4 l5 l6 l7 σ hw)
  unfold wp_passes at hw
  replace hw := hw X31 C_31
  refine R_aload_n F dX10_passes_0 rfl 0 rfl ?_
  refine gm_2 F in_passes dX10_passes_1 ?_
  refine R_iload_n F dX10_passes_4 rfl 2 rfl ?_
  refine R_ldi F qm_2 dX10_passes_5 hw.1 ?_
  replace hw := hw.2
  refine R_iconst F 2 dX10_passes_6 (by decide) ?_
  refine R_icmp_ne (tgt := 17) F dX10_passes_7 (by decide) (fun hc => ?_) (fun hc => ?_)
  · replace hw := hw.1 hc
    refine R_iload F dX10_passes_17 4 rfl ?_
    exact R_sub [0, 1, 2, 3, 4] rfl (J_19 p1 p2 p3 p4 p4 σ hw)
  · replace hw := hw.2 hc
    refine R_iconst F 1 dX10_passes_10 (by decide) ?_
    refine R_iload F dX10_passes_11 4 rfl ?_
    refine R_isub F dX10_passes_13 ?_
    refine R_goto (tgt := 19) F dX10_passes_14 (by decide) ?_
    exact R_sub [0, 1, 2, 3, 4] rfl (J_19 p1 p2 p3 p4 (1 - p4) σ hw)
def b_walkFrom_208 (X2 : Int32 → Int32 → VS → Prop) (X28 : Int32 → Int32 → VS → Prop) (X87 : Int32 → VS → Prop) (X134 : Int32 → Int32 → Int32 → VS → Prop) (X179 : Int32 → Int32 → Int32 → Int32 → Int32 → VS → Prop) (Q : VS → Prop) (l2 : Int32) (σ : VS) : Prop := X87 (l2 + 1) σ
def b_walkFrom_202 (X2 : Int32 → Int32 → VS → Prop) (X28 : Int32 → Int32 → VS → Prop) (X87 : Int32 → VS → Prop) (X134 : Int32 → Int32 → Int32 → VS → Prop) (X179 : Int32 → Int32 → Int32 → Int32 → Int32 → VS → Prop) (Q : VS → Prop) (l2 : Int32) (l3 : Int32) (l4 : Int32) (σ : VS) : Prop := X134 l2 l3 (l4 + 1) σ
def b_walkFrom_179 (X2 : Int32 → Int32 → VS → Prop) (X28 : Int32 → Int32 → VS → Prop) (X87 : Int32 → VS → Prop) (X134 : Int32 → Int32 → Int32 → VS → Prop) (X179 : Int32 → Int32 → Int32 → Int32 → Int32 → VS → Prop) (Q : VS → Prop) (l2 : Int32) (l3 : Int32) (l4 : Int32) (l5 : Int32) (l6 : Int32) (σ : VS) : Prop := ((2 ≤ l6.toInt → b_walkFrom_202 X2 X28 X87 X134 X179 Q l2 l3 l4 σ) ∧ (l6.toInt < 2 → wp_passes (fun (σ13 : VS) => X179 l2 l3 l4 l5 (l6 + 1) σ13) l5 l3 l4 l6 σ))
def b_walkFrom_134 (X2 : Int32 → Int32 → VS → Prop) (X28 : Int32 → Int32 → VS → Prop) (X87 : Int32 → VS → Prop) (X134 : Int32 → Int32 → Int32 → VS → Prop) (X179 : Int32 → Int32 → Int32 → Int32 → Int32 → VS → Prop) (Q : VS → Prop) (l2 : Int32) (l3 : Int32) (l4 : Int32) (σ : VS) : Prop := (In l3 50 ∧ (((rd σ 3 l3).toInt ≤ l4.toInt → b_walkFrom_208 X2 X28 X87 X134 X179 Q l2 σ) ∧ (l4.toInt < (rd σ 3 l3).toInt → (In ((4 * l3) + l4) 200 ∧ (∀ x11 : Int32, x11 = (rd σ 7 ((4 * l3) + l4)) → ((x11.toInt < 0 → b_walkFrom_202 X2 X28 X87 X134 X179 Q l2 l3 l4 σ) ∧ (0 ≤ x11.toInt → (In x11 50 ∧ (((rd σ 34 x11).toInt ≠ 0 → X179 l2 l3 l4 x11 0 σ) ∧ ((rd σ 34 x11).toInt = 0 → b_walkFrom_202 X2 X28 X87 X134 X179 Q l2 l3 l4 σ))))))))))
def b_walkFrom_87 (X2 : Int32 → Int32 → VS → Prop) (X28 : Int32 → Int32 → VS → Prop) (X87 : Int32 → VS → Prop) (X134 : Int32 → Int32 → Int32 → VS → Prop) (X179 : Int32 → Int32 → Int32 → Int32 → Int32 → VS → Prop) (Q : VS → Prop) (l2 : Int32) (σ : VS) : Prop := (((σ.1 32).toInt ≤ l2.toInt → Q σ) ∧ (l2.toInt < (σ.1 32).toInt → (In l2 50 ∧ (∀ x8 : Int32, x8 = (rd σ 31 l2) → wp_isGate (fun (r9 : Int32) (σ10 : VS) => ((r9.toInt = 0 → b_walkFrom_208 X2 X28 X87 X134 X179 Q l2 σ10) ∧ (r9.toInt ≠ 0 → (In x8 50 ∧ (((rd σ10 34 x8).toInt = 0 → b_walkFrom_208 X2 X28 X87 X134 X179 Q l2 σ10) ∧ ((rd σ10 34 x8).toInt ≠ 0 → (In x8 50 ∧ (((rd σ10 35 x8).toInt = 0 → X134 l2 x8 0 σ10) ∧ ((rd σ10 35 x8).toInt ≠ 0 → b_walkFrom_208 X2 X28 X87 X134 X179 Q l2 σ10))))))))) x8 σ))))
def b_walkFrom_28 (X2 : Int32 → Int32 → VS → Prop) (X28 : Int32 → Int32 → VS → Prop) (X87 : Int32 → VS → Prop) (X134 : Int32 → Int32 → Int32 → VS → Prop) (X179 : Int32 → Int32 → Int32 → Int32 → Int32 → VS → Prop) (Q : VS → Prop) (l1 : Int32) (l2 : Int32) (σ : VS) : Prop := ((2 ≤ l2.toInt → X87 0 σ) ∧ (l2.toInt < 2 → wp_metBy (fun (r1 : Int32) (σ2 : VS) => (∀ x3 : Int32, x3 = ((16 * ((2 * l1) + l2)) + r1) → (In x3 1600 ∧ wp_startLate (fun (r4 : Int32) (σ5 : VS) => (In x3 1600 ∧ wp_startEarly (fun (r6 : Int32) (σ7 : VS) => (In x3 1600 ∧ X28 l1 (l2 + 1) (sa σ7 44 x3 r6))) l1 l2 (sa σ5 43 x3 r4))) l1 l2 (sa σ2 42 x3 1)))) l1 σ))
def b_walkFrom_2 (X2 : Int32 → Int32 → VS → Prop) (X28 : Int32 → Int32 → VS → Prop) (X87 : Int32 → VS → Prop) (X134 : Int32 → Int32 → Int32 → VS → Prop) (X179 : Int32 → Int32 → Int32 → Int32 → Int32 → VS → Prop) (Q : VS → Prop) (l1 : Int32) (l2 : Int32) (σ : VS) : Prop := (((32 * (σ.1 1)).toInt ≤ l2.toInt → X28 l1 0 σ) ∧ (l2.toInt < (32 * (σ.1 1)).toInt → (In l2 1600 ∧ X2 l1 (l2 + 1) (sa σ 42 l2 0))))
def wp_walkFrom (Q : VS → Prop) (p1 : Int32) (σ : VS) : Prop := ∀ (X2 : Int32 → Int32 → VS → Prop) (X28 : Int32 → Int32 → VS → Prop) (X87 : Int32 → VS → Prop) (X134 : Int32 → Int32 → Int32 → VS → Prop) (X179 : Int32 → Int32 → Int32 → Int32 → Int32 → VS → Prop), (∀ (l1 : Int32) (l2 : Int32) (σ : VS), b_walkFrom_2 X2 X28 X87 X134 X179 Q l1 l2 σ → X2 l1 l2 σ) → (∀ (l1 : Int32) (l2 : Int32) (σ : VS), b_walkFrom_28 X2 X28 X87 X134 X179 Q l1 l2 σ → X28 l1 l2 σ) → (∀ (l2 : Int32) (σ : VS), b_walkFrom_87 X2 X28 X87 X134 X179 Q l2 σ → X87 l2 σ) → (∀ (l2 : Int32) (l3 : Int32) (l4 : Int32) (σ : VS), b_walkFrom_134 X2 X28 X87 X134 X179 Q l2 l3 l4 σ → X134 l2 l3 l4 σ) → (∀ (l2 : Int32) (l3 : Int32) (l4 : Int32) (l5 : Int32) (l6 : Int32) (σ : VS), b_walkFrom_179 X2 X28 X87 X134 X179 Q l2 l3 l4 l5 l6 σ → X179 l2 l3 l4 l5 l6 σ) → X2 p1 0 σ
theorem dX10_walkFrom_0 : decode cX10_walkFrom 0 = .ok (.iconst 0, 1) := by decide +kernel
theorem dX10_walkFrom_1 : decode cX10_walkFrom 1 = .ok (.istore_n 2, 1) := by decide +kernel
theorem dX10_walkFrom_2 : decode cX10_walkFrom 2 = .ok (.iload_n 2, 1) := by decide +kernel
theorem dX10_walkFrom_3 : decode cX10_walkFrom 3 = .ok (.bipush 32, 2) := by decide +kernel
theorem dX10_walkFrom_5 : decode cX10_walkFrom 5 = .ok (.aload_n 0, 1) := by decide +kernel
theorem dX10_walkFrom_6 : decode cX10_walkFrom 6 = .ok (.getfield 7, 3) := by decide +kernel
theorem dX10_walkFrom_9 : decode cX10_walkFrom 9 = .ok (.imul, 1) := by decide +kernel
theorem dX10_walkFrom_10 : decode cX10_walkFrom 10 = .ok (.if_icmp .ge 16, 3) := by decide +kernel
theorem dX10_walkFrom_26 : decode cX10_walkFrom 26 = .ok (.iconst 0, 1) := by decide +kernel
theorem dX10_walkFrom_27 : decode cX10_walkFrom 27 = .ok (.istore_n 2, 1) := by decide +kernel
theorem dX10_walkFrom_13 : decode cX10_walkFrom 13 = .ok (.aload_n 0, 1) := by decide +kernel
theorem dX10_walkFrom_14 : decode cX10_walkFrom 14 = .ok (.getfield 141, 3) := by decide +kernel
theorem dX10_walkFrom_17 : decode cX10_walkFrom 17 = .ok (.iload_n 2, 1) := by decide +kernel
theorem dX10_walkFrom_18 : decode cX10_walkFrom 18 = .ok (.iconst 0, 1) := by decide +kernel
theorem dX10_walkFrom_19 : decode cX10_walkFrom 19 = .ok (.iastore, 1) := by decide +kernel
theorem dX10_walkFrom_20 : decode cX10_walkFrom 20 = .ok (.iinc 2 1, 3) := by decide +kernel
theorem dX10_walkFrom_23 : decode cX10_walkFrom 23 = .ok (.goto (-21), 3) := by decide +kernel
theorem dX10_walkFrom_28 : decode cX10_walkFrom 28 = .ok (.iload_n 2, 1) := by decide +kernel
theorem dX10_walkFrom_29 : decode cX10_walkFrom 29 = .ok (.iconst 2, 1) := by decide +kernel
theorem dX10_walkFrom_30 : decode cX10_walkFrom 30 = .ok (.if_icmp .ge 55, 3) := by decide +kernel
theorem dX10_walkFrom_85 : decode cX10_walkFrom 85 = .ok (.iconst 0, 1) := by decide +kernel
theorem dX10_walkFrom_86 : decode cX10_walkFrom 86 = .ok (.istore_n 2, 1) := by decide +kernel
theorem dX10_walkFrom_33 : decode cX10_walkFrom 33 = .ok (.bipush 16, 2) := by decide +kernel
theorem dX10_walkFrom_35 : decode cX10_walkFrom 35 = .ok (.iconst 2, 1) := by decide +kernel
theorem dX10_walkFrom_36 : decode cX10_walkFrom 36 = .ok (.iload_n 1, 1) := by decide +kernel
theorem dX10_walkFrom_37 : decode cX10_walkFrom 37 = .ok (.imul, 1) := by decide +kernel
theorem dX10_walkFrom_38 : decode cX10_walkFrom 38 = .ok (.iload_n 2, 1) := by decide +kernel
theorem dX10_walkFrom_39 : decode cX10_walkFrom 39 = .ok (.iadd, 1) := by decide +kernel
theorem dX10_walkFrom_40 : decode cX10_walkFrom 40 = .ok (.imul, 1) := by decide +kernel
theorem dX10_walkFrom_41 : decode cX10_walkFrom 41 = .ok (.aload_n 0, 1) := by decide +kernel
theorem dX10_walkFrom_42 : decode cX10_walkFrom 42 = .ok (.iload_n 1, 1) := by decide +kernel
theorem dX10_walkFrom_43 : decode cX10_walkFrom 43 = .ok (.invokevirtual 295, 3) := by decide +kernel
theorem dX10_walkFrom_46 : decode cX10_walkFrom 46 = .ok (.iadd, 1) := by decide +kernel
theorem dX10_walkFrom_47 : decode cX10_walkFrom 47 = .ok (.istore_n 3, 1) := by decide +kernel
theorem dX10_walkFrom_48 : decode cX10_walkFrom 48 = .ok (.aload_n 0, 1) := by decide +kernel
theorem dX10_walkFrom_49 : decode cX10_walkFrom 49 = .ok (.getfield 141, 3) := by decide +kernel
theorem dX10_walkFrom_52 : decode cX10_walkFrom 52 = .ok (.iload_n 3, 1) := by decide +kernel
theorem dX10_walkFrom_53 : decode cX10_walkFrom 53 = .ok (.iconst 1, 1) := by decide +kernel
theorem dX10_walkFrom_54 : decode cX10_walkFrom 54 = .ok (.iastore, 1) := by decide +kernel
theorem dX10_walkFrom_55 : decode cX10_walkFrom 55 = .ok (.aload_n 0, 1) := by decide +kernel
theorem dX10_walkFrom_56 : decode cX10_walkFrom 56 = .ok (.getfield 144, 3) := by decide +kernel
theorem dX10_walkFrom_59 : decode cX10_walkFrom 59 = .ok (.iload_n 3, 1) := by decide +kernel
theorem dX10_walkFrom_60 : decode cX10_walkFrom 60 = .ok (.aload_n 0, 1) := by decide +kernel
theorem dX10_walkFrom_61 : decode cX10_walkFrom 61 = .ok (.iload_n 1, 1) := by decide +kernel
theorem dX10_walkFrom_62 : decode cX10_walkFrom 62 = .ok (.iload_n 2, 1) := by decide +kernel
theorem dX10_walkFrom_63 : decode cX10_walkFrom 63 = .ok (.invokevirtual 289, 3) := by decide +kernel
theorem dX10_walkFrom_66 : decode cX10_walkFrom 66 = .ok (.iastore, 1) := by decide +kernel
theorem dX10_walkFrom_67 : decode cX10_walkFrom 67 = .ok (.aload_n 0, 1) := by decide +kernel
theorem dX10_walkFrom_68 : decode cX10_walkFrom 68 = .ok (.getfield 147, 3) := by decide +kernel
theorem dX10_walkFrom_71 : decode cX10_walkFrom 71 = .ok (.iload_n 3, 1) := by decide +kernel
theorem dX10_walkFrom_72 : decode cX10_walkFrom 72 = .ok (.aload_n 0, 1) := by decide +kernel
theorem dX10_walkFrom_73 : decode cX10_walkFrom 73 = .ok (.iload_n 1, 1) := by decide +kernel
theorem dX10_walkFrom_74 : decode cX10_walkFrom 74 = .ok (.iload_n 2, 1) := by decide +kernel
theorem dX10_walkFrom_75 : decode cX10_walkFrom 75 = .ok (.invokevirtual 292, 3) := by decide +kernel
theorem dX10_walkFrom_78 : decode cX10_walkFrom 78 = .ok (.iastore, 1) := by decide +kernel
theorem dX10_walkFrom_79 : decode cX10_walkFrom 79 = .ok (.iinc 2 1, 3) := by decide +kernel
theorem dX10_walkFrom_82 : decode cX10_walkFrom 82 = .ok (.goto (-54), 3) := by decide +kernel
theorem dX10_walkFrom_87 : decode cX10_walkFrom 87 = .ok (.iload_n 2, 1) := by decide +kernel
theorem dX10_walkFrom_88 : decode cX10_walkFrom 88 = .ok (.aload_n 0, 1) := by decide +kernel
theorem dX10_walkFrom_89 : decode cX10_walkFrom 89 = .ok (.getfield 239, 3) := by decide +kernel
theorem dX10_walkFrom_92 : decode cX10_walkFrom 92 = .ok (.if_icmp .ge 122, 3) := by decide +kernel
theorem dX10_walkFrom_214 : decode cX10_walkFrom 214 = .ok (.return_, 1) := by decide +kernel
theorem dX10_walkFrom_95 : decode cX10_walkFrom 95 = .ok (.aload_n 0, 1) := by decide +kernel
theorem dX10_walkFrom_96 : decode cX10_walkFrom 96 = .ok (.getfield 111, 3) := by decide +kernel
theorem dX10_walkFrom_99 : decode cX10_walkFrom 99 = .ok (.iload_n 2, 1) := by decide +kernel
theorem dX10_walkFrom_100 : decode cX10_walkFrom 100 = .ok (.iaload, 1) := by decide +kernel
theorem dX10_walkFrom_101 : decode cX10_walkFrom 101 = .ok (.istore_n 3, 1) := by decide +kernel
theorem dX10_walkFrom_102 : decode cX10_walkFrom 102 = .ok (.aload_n 0, 1) := by decide +kernel
theorem dX10_walkFrom_103 : decode cX10_walkFrom 103 = .ok (.iload_n 3, 1) := by decide +kernel
theorem dX10_walkFrom_104 : decode cX10_walkFrom 104 = .ok (.invokevirtual 55, 3) := by decide +kernel
theorem dX10_walkFrom_107 : decode cX10_walkFrom 107 = .ok (.ifCond .eq 101, 3) := by decide +kernel
theorem dX10_walkFrom_110 : decode cX10_walkFrom 110 = .ok (.aload_n 0, 1) := by decide +kernel
theorem dX10_walkFrom_111 : decode cX10_walkFrom 111 = .ok (.getfield 117, 3) := by decide +kernel
theorem dX10_walkFrom_114 : decode cX10_walkFrom 114 = .ok (.iload_n 3, 1) := by decide +kernel
theorem dX10_walkFrom_115 : decode cX10_walkFrom 115 = .ok (.baload, 1) := by decide +kernel
theorem dX10_walkFrom_116 : decode cX10_walkFrom 116 = .ok (.ifCond .eq 92, 3) := by decide +kernel
theorem dX10_walkFrom_119 : decode cX10_walkFrom 119 = .ok (.aload_n 0, 1) := by decide +kernel
theorem dX10_walkFrom_120 : decode cX10_walkFrom 120 = .ok (.getfield 120, 3) := by decide +kernel
theorem dX10_walkFrom_123 : decode cX10_walkFrom 123 = .ok (.iload_n 3, 1) := by decide +kernel
theorem dX10_walkFrom_124 : decode cX10_walkFrom 124 = .ok (.iaload, 1) := by decide +kernel
theorem dX10_walkFrom_125 : decode cX10_walkFrom 125 = .ok (.ifCond .eq 6, 3) := by decide +kernel
theorem dX10_walkFrom_131 : decode cX10_walkFrom 131 = .ok (.iconst 0, 1) := by decide +kernel
theorem dX10_walkFrom_132 : decode cX10_walkFrom 132 = .ok (.istore 4, 2) := by decide +kernel
theorem dX10_walkFrom_128 : decode cX10_walkFrom 128 = .ok (.goto 80, 3) := by decide +kernel
theorem dX10_walkFrom_208 : decode cX10_walkFrom 208 = .ok (.iinc 2 1, 3) := by decide +kernel
theorem dX10_walkFrom_211 : decode cX10_walkFrom 211 = .ok (.goto (-124), 3) := by decide +kernel
theorem dX10_walkFrom_134 : decode cX10_walkFrom 134 = .ok (.iload 4, 2) := by decide +kernel
theorem dX10_walkFrom_136 : decode cX10_walkFrom 136 = .ok (.aload_n 0, 1) := by decide +kernel
theorem dX10_walkFrom_137 : decode cX10_walkFrom 137 = .ok (.getfield 14, 3) := by decide +kernel
theorem dX10_walkFrom_140 : decode cX10_walkFrom 140 = .ok (.iload_n 3, 1) := by decide +kernel
theorem dX10_walkFrom_141 : decode cX10_walkFrom 141 = .ok (.iaload, 1) := by decide +kernel
theorem dX10_walkFrom_142 : decode cX10_walkFrom 142 = .ok (.if_icmp .ge 66, 3) := by decide +kernel
theorem dX10_walkFrom_145 : decode cX10_walkFrom 145 = .ok (.aload_n 0, 1) := by decide +kernel
theorem dX10_walkFrom_146 : decode cX10_walkFrom 146 = .ok (.getfield 30, 3) := by decide +kernel
theorem dX10_walkFrom_149 : decode cX10_walkFrom 149 = .ok (.iconst 4, 1) := by decide +kernel
theorem dX10_walkFrom_150 : decode cX10_walkFrom 150 = .ok (.iload_n 3, 1) := by decide +kernel
theorem dX10_walkFrom_151 : decode cX10_walkFrom 151 = .ok (.imul, 1) := by decide +kernel
theorem dX10_walkFrom_152 : decode cX10_walkFrom 152 = .ok (.iload 4, 2) := by decide +kernel
theorem dX10_walkFrom_154 : decode cX10_walkFrom 154 = .ok (.iadd, 1) := by decide +kernel
theorem dX10_walkFrom_155 : decode cX10_walkFrom 155 = .ok (.iaload, 1) := by decide +kernel
theorem dX10_walkFrom_156 : decode cX10_walkFrom 156 = .ok (.istore 5, 2) := by decide +kernel
theorem dX10_walkFrom_158 : decode cX10_walkFrom 158 = .ok (.iload 5, 2) := by decide +kernel
theorem dX10_walkFrom_160 : decode cX10_walkFrom 160 = .ok (.ifCond .lt 42, 3) := by decide +kernel
theorem dX10_walkFrom_163 : decode cX10_walkFrom 163 = .ok (.aload_n 0, 1) := by decide +kernel
theorem dX10_walkFrom_164 : decode cX10_walkFrom 164 = .ok (.getfield 117, 3) := by decide +kernel
theorem dX10_walkFrom_167 : decode cX10_walkFrom 167 = .ok (.iload 5, 2) := by decide +kernel
theorem dX10_walkFrom_169 : decode cX10_walkFrom 169 = .ok (.baload, 1) := by decide +kernel
theorem dX10_walkFrom_170 : decode cX10_walkFrom 170 = .ok (.ifCond .ne 6, 3) := by decide +kernel
theorem dX10_walkFrom_176 : decode cX10_walkFrom 176 = .ok (.iconst 0, 1) := by decide +kernel
theorem dX10_walkFrom_177 : decode cX10_walkFrom 177 = .ok (.istore 6, 2) := by decide +kernel
theorem dX10_walkFrom_173 : decode cX10_walkFrom 173 = .ok (.goto 29, 3) := by decide +kernel
theorem dX10_walkFrom_202 : decode cX10_walkFrom 202 = .ok (.iinc 4 1, 3) := by decide +kernel
theorem dX10_walkFrom_205 : decode cX10_walkFrom 205 = .ok (.goto (-71), 3) := by decide +kernel
theorem dX10_walkFrom_179 : decode cX10_walkFrom 179 = .ok (.iload 6, 2) := by decide +kernel
theorem dX10_walkFrom_181 : decode cX10_walkFrom 181 = .ok (.iconst 2, 1) := by decide +kernel
theorem dX10_walkFrom_182 : decode cX10_walkFrom 182 = .ok (.if_icmp .ge 20, 3) := by decide +kernel
theorem dX10_walkFrom_185 : decode cX10_walkFrom 185 = .ok (.aload_n 0, 1) := by decide +kernel
theorem dX10_walkFrom_186 : decode cX10_walkFrom 186 = .ok (.iload 5, 2) := by decide +kernel
theorem dX10_walkFrom_188 : decode cX10_walkFrom 188 = .ok (.iload_n 3, 1) := by decide +kernel
theorem dX10_walkFrom_189 : decode cX10_walkFrom 189 = .ok (.iload 4, 2) := by decide +kernel
theorem dX10_walkFrom_191 : decode cX10_walkFrom 191 = .ok (.iload 6, 2) := by decide +kernel
theorem dX10_walkFrom_193 : decode cX10_walkFrom 193 = .ok (.invokevirtual 298, 3) := by decide +kernel
theorem dX10_walkFrom_196 : decode cX10_walkFrom 196 = .ok (.iinc 6 1, 3) := by decide +kernel
theorem dX10_walkFrom_199 : decode cX10_walkFrom 199 = .ok (.goto (-20), 3) := by decide +kernel
def wo_walkFrom : List Cond := [.code yX10_walkFrom cX10_walkFrom 7 none, .methodLink RX10 295 yX10_metBy, .instanceMethod yX10_metBy, .selects RX10 yX10_metBy yX10_metBy, .initialized RX10, .methodLink RX10 289 yX10_startLate, .instanceMethod yX10_startLate, .selects RX10 yX10_startLate yX10_startLate, .methodLink RX10 292 yX10_startEarly, .instanceMethod yX10_startEarly, .selects RX10 yX10_startEarly yX10_startEarly, .methodLink RX10 55 yX10_isGate, .instanceMethod yX10_isGate, .selects RX10 yX10_isGate yX10_isGate, .methodLink RX10 298 yX10_passes, .instanceMethod yX10_passes, .selects RX10 yX10_passes yX10_passes]
def wr_walkFrom : List Cond := (wfX10 ++ (w_metBy ++ (w_startLate ++ (w_startEarly ++ (w_isGate ++ (w_passes ++ ([])))))))
def w_walkFrom : List Cond := wo_walkFrom ++ wr_walkFrom
theorem wg_walkFrom : GW w_walkFrom := GW_app (GW_of (by decide +kernel)) (GW_app (wg_fX10) (GW_app (wg_metBy) (GW_app (wg_startLate) (GW_app (wg_startEarly) (GW_app (wg_isGate) (GW_app (wg_passes) (GW_nil)))))))
theorem in_walkFrom : ∀ w ∈ wfX10, w ∈ w_walkFrom := fun _ h => List.mem_append_right _ (List.mem_append_left _ h)
theorem g_walkFrom_metBy_295 : GoodIn w_walkFrom (wsV RX10 295 RX10 yX10_metBy w_metBy) := goodIn_app (gi_left (goodIn_of _ (by decide +kernel))) (fun w h => ⟨List.mem_append_right _ (List.mem_append_right _ (List.mem_append_left _ h)), wg_metBy w h⟩)
theorem g_walkFrom_startLate_289 : GoodIn w_walkFrom (wsV RX10 289 RX10 yX10_startLate w_startLate) := goodIn_app (gi_left (goodIn_of _ (by decide +kernel))) (fun w h => ⟨List.mem_append_right _ (List.mem_append_right _ (List.mem_append_right _ (List.mem_append_left _ h))), wg_startLate w h⟩)
theorem g_walkFrom_startEarly_292 : GoodIn w_walkFrom (wsV RX10 292 RX10 yX10_startEarly w_startEarly) := goodIn_app (gi_left (goodIn_of _ (by decide +kernel))) (fun w h => ⟨List.mem_append_right _ (List.mem_append_right _ (List.mem_append_right _ (List.mem_append_right _ (List.mem_append_left _ h)))), wg_startEarly w h⟩)
theorem g_walkFrom_isGate_55 : GoodIn w_walkFrom (wsV RX10 55 RX10 yX10_isGate w_isGate) := goodIn_app (gi_left (goodIn_of _ (by decide +kernel))) (fun w h => ⟨List.mem_append_right _ (List.mem_append_right _ (List.mem_append_right _ (List.mem_append_right _ (List.mem_append_right _ (List.mem_append_left _ h))))), wg_isGate w h⟩)
theorem g_walkFrom_passes_298 : GoodIn w_walkFrom (wsV RX10 298 RX10 yX10_passes w_passes) := goodIn_app (gi_left (goodIn_of _ (by decide +kernel))) (fun w h => ⟨List.mem_append_right _ (List.mem_append_right _ (List.mem_append_right _ (List.mem_append_right _ (List.mem_append_right _ (List.mem_append_right _ (List.mem_append_left _ h)))))), wg_passes w h⟩)
set_option maxHeartbeats 4000000 in
set_option maxRecDepth 100000 in
theorem ct_walkFrom (l : Launch) (E : gE) (B : Nat → Nat) (Q : VS → Prop) (p1 : Int32) (σ : VS) (hw : wp_walkFrom Q p1 σ) : CtV l E yX10_walkFrom w_walkFrom (({ frames := 2, cells := 0, slots := 0, locals := 54 } : Room)) (wm E B σ) [.ref (B 0), .int p1] (fun w => ∃ σ' : VS, Q σ' ∧ w = wm E B σ') := by
  refine VC_V (cc := cX10_walkFrom) (mL := 7) (rt := none) (lv0 := [(0, .ref (B 0)), (1, .int p1)]) rfl (by decide) rfl (Nat.le_of_ble_eq_true rfl) ?_
  intro p e s m below meth c A F
  replace F : Fx p s m _ meth c A E cX10_walkFrom 7 none RX10 w_walkFrom := F
  obtain ⟨X2, hX2⟩ : ∃ X : Int32 → Int32 → VS → Prop, X = fun l1 l2 σ => WB p l e (({ frames := 2, cells := 0, slots := 0, locals := 54 } : Room)) s m (#[.ref (B 0), .int p1]) below meth c (MQ below (va_Qv (fun w => ∃ σ' : VS, Q σ' ∧ w = wm E B σ') (AftU E A) A) (#[.ref (B 0), .int p1]) s (({ frames := 2, cells := 0, slots := 0, locals := 54 } : Room)).cells (({ frames := 2, cells := 0, slots := 0, locals := 54 } : Room)).slots A) A E (wm E B) 7 2 [(0, .ref (B 0)), (1, .int l1), (2, .int l2)] [] σ := ⟨_, rfl⟩
  have U_2 : ∀ (l1 : Int32) (l2 : Int32) (σ : VS), X2 l1 l2 σ → WB p l e (({ frames := 2, cells := 0, slots := 0, locals := 54 } : Room)) s m (#[.ref (B 0), .int p1]) below meth c (MQ below (va_Qv (fun w => ∃ σ' : VS, Q σ' ∧ w = wm E B σ') (AftU E A) A) (#[.ref (B 0), .int p1]) s (({ frames := 2, cells := 0, slots := 0, locals := 54 } : Room)).cells (({ frames := 2, cells := 0, slots := 0, locals := 54 } : Room)).slots A) A E (wm E B) 7 2 [(0, .ref (B 0)), (1, .int l1), (2, .int l2)] [] σ := by
    intro l1 l2 σ hw; rw [hX2] at hw; exact hw
  obtain ⟨X28, hX28⟩ : ∃ X : Int32 → Int32 → VS → Prop, X = fun l1 l2 σ => WB p l e (({ frames := 2, cells := 0, slots := 0, locals := 54 } : Room)) s m (#[.ref (B 0), .int p1]) below meth c (MQ below (va_Qv (fun w => ∃ σ' : VS, Q σ' ∧ w = wm E B σ') (AftU E A) A) (#[.ref (B 0), .int p1]) s (({ frames := 2, cells := 0, slots := 0, locals := 54 } : Room)).cells (({ frames := 2, cells := 0, slots := 0, locals := 54 } : Room)).slots A) A E (wm E B) 7 28 [(0, .ref (B 0)), (1, .int l1), (2, .int l2)] [] σ := ⟨_, rfl⟩
  have U_28 : ∀ (l1 : Int32) (l2 : Int32) (σ : VS), X28 l1 l2 σ → WB p l e (({ frames := 2, cells := 0, slots := 0, locals := 54 } : Room)) s m (#[.ref (B 0), .int p1]) below meth c (MQ below (va_Qv (fun w => ∃ σ' : VS, Q σ' ∧ w = wm E B σ') (AftU E A) A) (#[.ref (B 0), .int p1]) s (({ frames := 2, cells := 0, slots := 0, locals := 54 } : Room)).cells (({ frames := 2, cells := 0, slots := 0, locals := 54 } : Room)).slots A) A E (wm E B) 7 28 [(0, .ref (B 0)), (1, .int l1), (2, .int l2)] [] σ := by
    intro l1 l2 σ hw; rw [hX28] at hw; exact hw
  obtain ⟨X87, hX87⟩ : ∃ X : Int32 → VS → Prop, X = fun l2 σ => WB p l e (({ frames := 2, cells := 0, slots := 0, locals := 54 } : Room)) s m (#[.ref (B 0), .int p1]) below meth c (MQ below (va_Qv (fun w => ∃ σ' : VS, Q σ' ∧ w = wm E B σ') (AftU E A) A) (#[.ref (B 0), .int p1]) s (({ frames := 2, cells := 0, slots := 0, locals := 54 } : Room)).cells (({ frames := 2, cells := 0, slots := 0, locals := 54 } : Room)).slots A) A E (wm E B) 7 87 [(0, .ref (B 0)), (2, .int l2)] [] σ := ⟨_, rfl⟩
  have U_87 : ∀ (l2 : Int32) (σ : VS), X87 l2 σ → WB p l e (({ frames := 2, cells := 0, slots := 0, locals := 54 } : Room)) s m (#[.ref (B 0), .int p1]) below meth c (MQ below (va_Qv (fun w => ∃ σ' : VS, Q σ' ∧ w = wm E B σ') (AftU E A) A) (#[.ref (B 0), .int p1]) s (({ frames := 2, cells := 0, slots := 0, locals := 54 } : Room)).cells (({ frames := 2, cells := 0, slots := 0, locals := 54 } : Room)).slots A) A E (wm E B) 7 87 [(0, .ref (B 0)), (2, .int l2)] [] σ := by
    intro l2 σ hw; rw [hX87] at hw; exact hw
  obtain ⟨X134, hX134⟩ : ∃ X : Int32 → Int32 → Int32 → VS → Prop, X = fun l2 l3 l4 σ => WB p l e (({ frames := 2, cells := 0, slots := 0, locals := 54 } : Room)) s m (#[.ref (B 0), .int p1]) below meth c (MQ below (va_Qv (fun w => ∃ σ' : VS, Q σ' ∧ w = wm E B σ') (AftU E A) A) (#[.ref (B 0), .int p1]) s (({ frames := 2, cells := 0, slots := 0, locals := 54 } : Room)).cells (({ frames := 2, cells := 0, slots := 0, locals := 54 } : Room)).slots A) A E (wm E B) 7 134 [(0, .ref (B 0)), (2, .int l2), (3, .int l3), (4, .int l4)] [] σ := ⟨_, rfl⟩
  have U_134 : ∀ (l2 : Int32) (l3 : Int32) (l4 : Int32) (σ : VS), X134 l2 l3 l4 σ → WB p l e (({ frames := 2, cells := 0, slots := 0, locals := 54 } : Room)) s m (#[.ref (B 0), .int p1]) below meth c (MQ below (va_Qv (fun w => ∃ σ' : VS, Q σ' ∧ w = wm E B σ') (AftU E A) A) (#[.ref (B 0), .int p1]) s (({ frames := 2, cells := 0, slots := 0, locals := 54 } : Room)).cells (({ frames := 2, cells := 0, slots := 0, locals := 54 } : Room)).slots A) A E (wm E B) 7 134 [(0, .ref (B 0)), (2, .int l2), (3, .int l3), (4, .int l4)] [] σ := by
    intro l2 l3 l4 σ hw; rw [hX134] at hw; exact hw
  obtain ⟨X179, hX179⟩ : ∃ X : Int32 → Int32 → Int32 → Int32 → Int32 → VS → Prop, X = fun l2 l3 l4 l5 l6 σ => WB p l e (({ frames := 2, cells := 0, slots := 0, locals := 54 } : Room)) s m (#[.ref (B 0), .int p1]) below meth c (MQ below (va_Qv (fun w => ∃ σ' : VS, Q σ' ∧ w = wm E B σ') (AftU E A) A) (#[.ref (B 0), .int p1]) s (({ frames := 2, cells := 0, slots := 0, locals := 54 } : Room)).cells (({ frames := 2, cells := 0, slots := 0, locals := 54 } : Room)).slots A) A E (wm E B) 7 179 [(0, .ref (B 0)), (2, .int l2), (3, .int l3), (4, .int l4), (5, .int l5), (6, .int l6)] [] σ := ⟨_, rfl⟩
  have U_179 : ∀ (l2 : Int32) (l3 : Int32) (l4 : Int32) (l5 : Int32) (l6 : Int32) (σ : VS), X179 l2 l3 l4 l5 l6 σ → WB p l e (({ frames := 2, cells := 0, slots := 0, locals := 54 } : Room)) s m (#[.ref (B 0), .int p1]) below meth c (MQ below (va_Qv (fun w => ∃ σ' : VS, Q σ' ∧ w = wm E B σ') (AftU E A) A) (#[.ref (B 0), .int p1]) s (({ frames := 2, cells := 0, slots := 0, locals := 54 } : Room)).cells (({ frames := 2, cells := 0, slots := 0, locals := 54 } : Room)).slots A) A E (wm E B) 7 179 [(0, .ref (B 0)), (2, .int l2), (3, .int l3), (4, .int l4), (5, .int l5), (6, .int l6)] [] σ := by
    intro l2 l3 l4 l5 l6 σ hw; rw [hX179] at hw; exact hw
  have J_208 : ∀ (l2 : Int32) (σ : VS), b_walkFrom_208 X2 X28 X87 X134 X179 Q l2 σ → WB p l e (({ frames := 2, cells := 0, slots := 0, locals := 54 } : Room)) s m (#[.ref (B 0), .int p1]) below meth c (MQ below (va_Qv (fun w => ∃ σ' : VS, Q σ' ∧ w = wm E B σ') (AftU E A) A) (#[.ref (B 0), .int p1]) s (({ frames := 2, cells := 0, slots := 0, locals := 54 } : Room)).cells (({ frames := 2, cells := 0, slots := 0, locals := 54 } : Room)).slots A) A E (wm E B) 7 208 [(0, .ref (B 0)), (2, .int l2)] [] σ := by
    intro l2 σ hw
    unfold b_walkFrom_208 at hw
    refine R_iinc (q := 1) (v := (l2 + 1)) (lv' := [(2, .int (l2 + 1)), (0, .ref (B 0))]) F dX10_walkFrom_208 rfl rfl (by decide) rfl ?_
    refine R_goto (tgt := 87) F dX10_walkFrom_211 (by decide) ?_
    exact R_sub [1, 0] rfl (U_87 (l2 + 1) σ hw)
  have J_202 : ∀ (l2 : Int32) (l3 : Int32) (l4 : Int32) (σ : VS), b_walkFrom_202 X2 X28 X87 X134 X179 Q l2 l3 l4 σ → WB p l e (({ frames := 2, cells := 0, slots := 0, locals := 54 } : Room)) s m (#[.ref (B 0), .int p1]) below meth c (MQ below (va_Qv (fun w => ∃ σ' : VS, Q σ' ∧ w = wm E B σ') (AftU E A) A) (#[.ref (B 0), .int p1]) s (({ frames := 2, cells := 0, slots := 0, locals := 54 } : Room)).cells (({ frames := 2, cells := 0, slots := 0, locals := 54 } : Room)).slots A) A E (wm E B) 7 202 [(0, .ref (B 0)), (2, .int l2), (3, .int l3), (4, .int l4)] [] σ := by
    intro l2 l3 l4 σ hw
    unfold b_walkFrom_202 at hw
    refine R_iinc (q := 3) (v := (l4 + 1)) (lv' := [(4, .int (l4 + 1)), (0, .ref (B 0)), (2, .int l2), (3, .int l3)]) F dX10_walkFrom_202 rfl rfl (by decide) rfl ?_
    refine R_goto (tgt := 134) F dX10_walkFrom_205 (by decide) ?_
    exact R_sub [1, 2, 3, 0] rfl (U_134 l2 l3 (l4 + 1) σ hw)
  have C_2 : ∀ (l1 : Int32) (l2 : Int32) (σ : VS), b_walkFrom_2 X2 X28 X87 X134 X179 Q l1 l2 σ → X2 l1 l2 σ := by
    intro l1 l2 σ hw
    unfold b_walkFrom_2 at hw
    rw [hX2]
    show WB p l e (({ frames := 2, cells := 0, slots := 0, locals := 54 } : Room)) s m (#[.ref (B 0), .int p1]) below meth c (MQ below (va_Qv (fun w => ∃ σ' : VS, Q σ' ∧ w = wm E B σ') (AftU E A) A) (#[.ref (B 0), .int p1]) s (({ frames := 2, cells := 0, slots := 0, locals := 54 } : Room)).cells (({ frames := 2, cells := 0, slots := 0, locals := 54 } : Room)).slots A) A E (wm E B) 7 2 [(0, .ref (B 0)), (1, .int l1), (2, .int l2)] [] σ
    refine R_iload_n F dX10_walkFrom_2 rfl 2 rfl ?_
    refine R_bipush F 32 dX10_walkFrom_3 (by decide) ?_
    refine R_aload_n F dX10_walkFrom_5 rfl 0 rfl ?_
    refine gm_1 F in_walkFrom dX10_walkFrom_6 ?_
    refine R_imul F dX10_walkFrom_9 ?_
    refine R_icmp_ge (tgt := 26) F dX10_walkFrom_10 (by decide) (fun hc => ?_) (fun hc => ?_)
    · replace hw := hw.1 hc
      refine R_iconst F 0 dX10_walkFrom_26 (by decide) ?_
      refine R_istore_n (lv' := [(2, .int 0), (0, .ref (B 0)), (1, .int l1)]) F dX10_walkFrom_27 rfl (by decide) rfl ?_
      exact R_sub [1, 2, 0] rfl (U_28 l1 0 σ hw)
    · replace hw := hw.2 hc
      refine R_aload_n F dX10_walkFrom_13 rfl 0 rfl ?_
      refine gm_42 F in_walkFrom dX10_walkFrom_14 ?_
      refine R_iload_n F dX10_walkFrom_17 rfl 2 rfl ?_
      refine R_iconst F 0 dX10_walkFrom_18 (by decide) ?_
      have hi := hw.1
      replace hw := hw.2
      refine R_sti F qm_42 um_42 dX10_walkFrom_19 hi ?_
      refine R_iinc (q := 2) (v := (l2 + 1)) (lv' := [(2, .int (l2 + 1)), (0, .ref (B 0)), (1, .int l1)]) F dX10_walkFrom_20 rfl rfl (by decide) rfl ?_
      refine R_goto (tgt := 2) F dX10_walkFrom_23 (by decide) ?_
      exact R_sub [1, 2, 0] rfl (U_2 l1 (l2 + 1) (sa σ 42 l2 0) hw)
  have C_28 : ∀ (l1 : Int32) (l2 : Int32) (σ : VS), b_walkFrom_28 X2 X28 X87 X134 X179 Q l1 l2 σ → X28 l1 l2 σ := by
    intro l1 l2 σ hw
    unfold b_walkFrom_28 at hw
    rw [hX28]
    show WB p l e (({ frames := 2, cells := 0, slots := 0, locals := 54 } : Room)) s m (#[.ref (B 0), .int p1]) below meth c (MQ below (va_Qv (fun w => ∃ σ' : VS, Q σ' ∧ w = wm E B σ') (AftU E A) A) (#[.ref (B 0), .int p1]) s (({ frames := 2, cells := 0, slots := 0, locals := 54 } : Room)).cells (({ frames := 2, cells := 0, slots := 0, locals := 54 } : Room)).slots A) A E (wm E B) 7 28 [(0, .ref (B 0)), (1, .int l1), (2, .int l2)] [] σ
    refine R_iload_n F dX10_walkFrom_28 rfl 2 rfl ?_
    refine R_iconst F 2 dX10_walkFrom_29 (by decide) ?_
    refine R_icmp_ge (tgt := 85) F dX10_walkFrom_30 (by decide) (fun hc => ?_) (fun hc => ?_)
    · replace hw := hw.1 hc
      refine R_iconst F 0 dX10_walkFrom_85 (by decide) ?_
      refine R_istore_n (lv' := [(2, .int 0), (0, .ref (B 0)), (1, .int l1)]) F dX10_walkFrom_86 rfl (by decide) rfl ?_
      exact R_sub [1, 0] rfl (U_87 0 σ hw)
    · replace hw := hw.2 hc
      refine R_bipush F 16 dX10_walkFrom_33 (by decide) ?_
      refine R_iconst F 2 dX10_walkFrom_35 (by decide) ?_
      refine R_iload_n F dX10_walkFrom_36 rfl 1 rfl ?_
      refine R_imul F dX10_walkFrom_37 ?_
      refine R_iload_n F dX10_walkFrom_38 rfl 2 rfl ?_
      refine R_iadd F dX10_walkFrom_39 ?_
      refine R_imul F dX10_walkFrom_40 ?_
      refine R_aload_n F dX10_walkFrom_41 rfl 0 rfl ?_
      refine R_iload_n F dX10_walkFrom_42 rfl 1 rfl ?_
      refine R_callI (As := [.int l1]) (C := RX10) (q0 := 0) (ci := 10) (N := 69) (T := TX10) (fs := mfl B) F (ct_metBy l E B _ l1 _ hw) (cwV 1 F.2.2.2.2.2.2.2.2.2.2 g_walkFrom_metBy_295 rfl rfl rfl (by decide +kernel) ⟨Nat.le_of_ble_eq_true rfl, Nat.le_of_ble_eq_true rfl⟩) ⟨rfl, rfl⟩ rfl (fun _ => rfl) rfl rfl (Nat.le_of_ble_eq_true rfl) dX10_walkFrom_43 (fun r1 σ2 hw => ?_)
      refine R_iadd F dX10_walkFrom_46 ?_
      refine R_topi (fun x3 ex3 => ?_)
      replace hw := hw x3 ex3
      refine R_istore_n (lv' := [(3, .int x3), (0, .ref (B 0)), (1, .int l1), (2, .int l2)]) F dX10_walkFrom_47 rfl (by decide) rfl ?_
      refine R_aload_n F dX10_walkFrom_48 rfl 1 rfl ?_
      refine gm_42 F in_walkFrom dX10_walkFrom_49 ?_
      refine R_iload_n F dX10_walkFrom_52 rfl 0 rfl ?_
      refine R_iconst F 1 dX10_walkFrom_53 (by decide) ?_
      have hi := hw.1
      replace hw := hw.2
      refine R_sti F qm_42 um_42 dX10_walkFrom_54 hi ?_
      refine R_aload_n F dX10_walkFrom_55 rfl 1 rfl ?_
      refine gm_43 F in_walkFrom dX10_walkFrom_56 ?_
      refine R_iload_n F dX10_walkFrom_59 rfl 0 rfl ?_
      refine R_aload_n F dX10_walkFrom_60 rfl 1 rfl ?_
      refine R_iload_n F dX10_walkFrom_61 rfl 2 rfl ?_
      refine R_iload_n F dX10_walkFrom_62 rfl 3 rfl ?_
      refine R_callI (As := [.int l1, .int l2]) (C := RX10) (q0 := 0) (ci := 10) (N := 69) (T := TX10) (fs := mfl B) F (ct_startLate l E B _ l1 l2 _ hw) (cwV 2 F.2.2.2.2.2.2.2.2.2.2 g_walkFrom_startLate_289 rfl rfl rfl (by decide +kernel) ⟨Nat.le_of_ble_eq_true rfl, Nat.le_of_ble_eq_true rfl⟩) ⟨rfl, rfl⟩ rfl (fun _ => rfl) rfl rfl (Nat.le_of_ble_eq_true rfl) dX10_walkFrom_63 (fun r4 σ5 hw => ?_)
      have hi := hw.1
      replace hw := hw.2
      refine R_sti F qm_43 um_43 dX10_walkFrom_66 hi ?_
      refine R_aload_n F dX10_walkFrom_67 rfl 1 rfl ?_
      refine gm_44 F in_walkFrom dX10_walkFrom_68 ?_
      refine R_iload_n F dX10_walkFrom_71 rfl 0 rfl ?_
      refine R_aload_n F dX10_walkFrom_72 rfl 1 rfl ?_
      refine R_iload_n F dX10_walkFrom_73 rfl 2 rfl ?_
      refine R_iload_n F dX10_walkFrom_74 rfl 3 rfl ?_
      refine R_callI (As := [.int l1, .int l2]) (C := RX10) (q0 := 0) (ci := 10) (N := 69) (T := TX10) (fs := mfl B) F (ct_startEarly l E B _ l1 l2 _ hw) (cwV 2 F.2.2.2.2.2.2.2.2.2.2 g_walkFrom_startEarly_292 rfl rfl rfl (by decide +kernel) ⟨Nat.le_of_ble_eq_true rfl, Nat.le_of_ble_eq_true rfl⟩) ⟨rfl, rfl⟩ rfl (fun _ => rfl) rfl rfl (Nat.le_of_ble_eq_true rfl) dX10_walkFrom_75 (fun r6 σ7 hw => ?_)
      have hi := hw.1
      replace hw := hw.2
      refine R_sti F qm_44 um_44 dX10_walkFrom_78 hi ?_
      refine R_iinc (q := 3) (v := (l2 + 1)) (lv' := [(2, .int (l2 + 1)), (3, .int x3), (0, .ref (B 0)), (1, .int l1)]) F dX10_walkFrom_79 rfl rfl (by decide) rfl ?_
      refine R_goto (tgt := 28) F dX10_walkFrom_82 (by decide) ?_
      exact R_sub [2, 3, 0] rfl (U_28 l1 (l2 + 1) (sa σ7 44 x3 r6) hw)
  have C_87 : ∀ (l2 : Int32) (σ : VS), b_walkFrom_87 X2 X28 X87 X134 X179 Q l2 σ → X87 l2 σ := by
    intro l2 σ hw
    unfold b_walkFrom_87 at hw
    rw [hX87]
    show WB p l e (({ frames := 2, cells := 0, slots := 0, locals := 54 } : Room)) s m (#[.ref (B 0), .int p1]) below meth c (MQ below (va_Qv (fun w => ∃ σ' : VS, Q σ' ∧ w = wm E B σ') (AftU E A) A) (#[.ref (B 0), .int p1]) s (({ frames := 2, cells := 0, slots := 0, locals := 54 } : Room)).cells (({ frames := 2, cells := 0, slots := 0, locals := 54 } : Room)).slots A) A E (wm E B) 7 87 [(0, .ref (B 0)), (2, .int l2)] [] σ
    refine R_iload_n F dX10_walkFrom_87 rfl 1 rfl ?_
    refine R_aload_n F dX10_walkFrom_88 rfl 0 rfl ?_
    refine gm_32 F in_walkFrom dX10_walkFrom_89 ?_
    refine R_icmp_ge (tgt := 214) F dX10_walkFrom_92 (by decide) (fun hc => ?_) (fun hc => ?_)
    · replace hw := hw.1 hc
      exact R_vret (Qc := Q) F dX10_walkFrom_214 hw
    · replace hw := hw.2 hc
      refine R_aload_n F dX10_walkFrom_95 rfl 0 rfl ?_
      refine gm_31 F in_walkFrom dX10_walkFrom_96 ?_
      refine R_iload_n F dX10_walkFrom_99 rfl 1 rfl ?_
      refine R_ldi F qm_31 dX10_walkFrom_100 hw.1 ?_
      replace hw := hw.2
      refine R_topi (fun x8 ex8 => ?_)
      replace hw := hw x8 ex8
      refine R_istore_n (lv' := [(3, .int x8), (0, .ref (B 0)), (2, .int l2)]) F dX10_walkFrom_101 rfl (by decide) rfl ?_
      refine R_aload_n F dX10_walkFrom_102 rfl 1 rfl ?_
      refine R_iload_n F dX10_walkFrom_103 rfl 0 rfl ?_
      refine R_callI (As := [.int x8]) (C := RX10) (q0 := 0) (ci := 10) (N := 69) (T := TX10) (fs := mfl B) F (ct_isGate l E B _ x8 _ hw) (cwV 1 F.2.2.2.2.2.2.2.2.2.2 g_walkFrom_isGate_55 rfl rfl rfl (by decide +kernel) ⟨Nat.le_of_ble_eq_true rfl, Nat.le_of_ble_eq_true rfl⟩) ⟨rfl, rfl⟩ rfl (fun _ => rfl) rfl rfl (Nat.le_of_ble_eq_true rfl) dX10_walkFrom_104 (fun r9 σ10 hw => ?_)
      refine R_if_eq (tgt := 208) F dX10_walkFrom_107 (by decide) (fun hc => ?_) (fun hc => ?_)
      · replace hw := hw.1 hc
        exact R_sub [1, 2] rfl (J_208 l2 σ10 hw)
      · replace hw := hw.2 hc
        refine R_aload_n F dX10_walkFrom_110 rfl 1 rfl ?_
        refine gm_34 F in_walkFrom dX10_walkFrom_111 ?_
        refine R_iload_n F dX10_walkFrom_114 rfl 0 rfl ?_
        refine R_ldz F qm_34 dX10_walkFrom_115 hw.1 ?_
        replace hw := hw.2
        refine R_if_eq (tgt := 208) F dX10_walkFrom_116 (by decide) (fun hc => ?_) (fun hc => ?_)
        · replace hw := hw.1 hc
          exact R_sub [1, 2] rfl (J_208 l2 σ10 hw)
        · replace hw := hw.2 hc
          refine R_aload_n F dX10_walkFrom_119 rfl 1 rfl ?_
          refine gm_35 F in_walkFrom dX10_walkFrom_120 ?_
          refine R_iload_n F dX10_walkFrom_123 rfl 0 rfl ?_
          refine R_ldi F qm_35 dX10_walkFrom_124 hw.1 ?_
          replace hw := hw.2
          refine R_if_eq (tgt := 131) F dX10_walkFrom_125 (by decide) (fun hc => ?_) (fun hc => ?_)
          · replace hw := hw.1 hc
            refine R_iconst F 0 dX10_walkFrom_131 (by decide) ?_
            refine R_istore (lv' := [(4, .int 0), (3, .int x8), (0, .ref (B 0)), (2, .int l2)]) F dX10_walkFrom_132 (by decide) rfl ?_
            exact R_sub [2, 3, 1, 0] rfl (U_134 l2 x8 0 σ10 hw)
          · replace hw := hw.2 hc
            refine R_goto (tgt := 208) F dX10_walkFrom_128 (by decide) ?_
            exact R_sub [1, 2] rfl (J_208 l2 σ10 hw)
  have C_134 : ∀ (l2 : Int32) (l3 : Int32) (l4 : Int32) (σ : VS), b_walkFrom_134 X2 X28 X87 X134 X179 Q l2 l3 l4 σ → X134 l2 l3 l4 σ := by
    intro l2 l3 l4 σ hw
    unfold b_walkFrom_134 at hw
    rw [hX134]
    show WB p l e (({ frames := 2, cells := 0, slots := 0, locals := 54 } : Room)) s m (#[.ref (B 0), .int p1]) below meth c (MQ below (va_Qv (fun w => ∃ σ' : VS, Q σ' ∧ w = wm E B σ') (AftU E A) A) (#[.ref (B 0), .int p1]) s (({ frames := 2, cells := 0, slots := 0, locals := 54 } : Room)).cells (({ frames := 2, cells := 0, slots := 0, locals := 54 } : Room)).slots A) A E (wm E B) 7 134 [(0, .ref (B 0)), (2, .int l2), (3, .int l3), (4, .int l4)] [] σ
    refine R_iload F dX10_walkFrom_134 3 rfl ?_
    refine R_aload_n F dX10_walkFrom_136 rfl 0 rfl ?_
    refine gm_3 F in_walkFrom dX10_walkFrom_137 ?_
    refine R_iload_n F dX10_walkFrom_140 rfl 2 rfl ?_
    refine R_ldi F qm_3 dX10_walkFrom_141 hw.1 ?_
    replace hw := hw.2
    refine R_icmp_ge (tgt := 208) F dX10_walkFrom_142 (by decide) (fun hc => ?_) (fun hc => ?_)
    · replace hw := hw.1 hc
      exact R_sub [0, 1] rfl (J_208 l2 σ hw)
    · replace hw := hw.2 hc
      refine R_aload_n F dX10_walkFrom_145 rfl 0 rfl ?_
      refine gm_7 F in_walkFrom dX10_walkFrom_146 ?_
      refine R_iconst F 4 dX10_walkFrom_149 (by decide) ?_
      refine R_iload_n F dX10_walkFrom_150 rfl 2 rfl ?_
      refine R_imul F dX10_walkFrom_151 ?_
      refine R_iload F dX10_walkFrom_152 3 rfl ?_
      refine R_iadd F dX10_walkFrom_154 ?_
      refine R_ldi F qm_7 dX10_walkFrom_155 hw.1 ?_
      replace hw := hw.2
      refine R_topi (fun x11 ex11 => ?_)
      replace hw := hw x11 ex11
      refine R_istore (lv' := [(5, .int x11), (0, .ref (B 0)), (2, .int l2), (3, .int l3), (4, .int l4)]) F dX10_walkFrom_156 (by decide) rfl ?_
      refine R_iload F dX10_walkFrom_158 0 rfl ?_
      refine R_if_lt (tgt := 202) F dX10_walkFrom_160 (by decide) (fun hc => ?_) (fun hc => ?_)
      · replace hw := hw.1 hc
        exact R_sub [1, 2, 3, 4] rfl (J_202 l2 l3 l4 σ hw)
      · replace hw := hw.2 hc
        refine R_aload_n F dX10_walkFrom_163 rfl 1 rfl ?_
        refine gm_34 F in_walkFrom dX10_walkFrom_164 ?_
        refine R_iload F dX10_walkFrom_167 0 rfl ?_
        refine R_ldz F qm_34 dX10_walkFrom_169 hw.1 ?_
        replace hw := hw.2
        refine R_if_ne (tgt := 176) F dX10_walkFrom_170 (by decide) (fun hc => ?_) (fun hc => ?_)
        · replace hw := hw.1 hc
          refine R_iconst F 0 dX10_walkFrom_176 (by decide) ?_
          refine R_istore (lv' := [(6, .int 0), (5, .int x11), (0, .ref (B 0)), (2, .int l2), (3, .int l3), (4, .int l4)]) F dX10_walkFrom_177 (by decide) rfl ?_
          exact R_sub [2, 3, 4, 5, 1, 0] rfl (U_179 l2 l3 l4 x11 0 σ hw)
        · replace hw := hw.2 hc
          refine R_goto (tgt := 202) F dX10_walkFrom_173 (by decide) ?_
          exact R_sub [1, 2, 3, 4] rfl (J_202 l2 l3 l4 σ hw)
  have C_179 : ∀ (l2 : Int32) (l3 : Int32) (l4 : Int32) (l5 : Int32) (l6 : Int32) (σ : VS), b_walkFrom_179 X2 X28 X87 X134 X179 Q l2 l3 l4 l5 l6 σ → X179 l2 l3 l4 l5 l6 σ := by
    intro l2 l3 l4 l5 l6 σ hw
    unfold b_walkFrom_179 at hw
    rw [hX179]
    show WB p l e (({ frames := 2, cells := 0, slots := 0, locals := 54 } : Room)) s m (#[.ref (B 0), .int p1]) below meth c (MQ below (va_Qv (fun w => ∃ σ' : VS, Q σ' ∧ w = wm E B σ') (AftU E A) A) (#[.ref (B 0), .int p1]) s (({ frames := 2, cells := 0, slots := 0, locals := 54 } : Room)).cells (({ frames := 2, cells := 0, slots := 0, locals := 54 } : Room)).slots A) A E (wm E B) 7 179 [(0, .ref (B 0)), (2, .int l2), (3, .int l3), (4, .int l4), (5, .int l5), (6, .int l6)] [] σ
    refine R_iload F dX10_walkFrom_179 5 rfl ?_
    refine R_iconst F 2 dX10_walkFrom_181 (by decide) ?_
    refine R_icmp_ge (tgt := 202) F dX10_walkFrom_182 (by decide) (fun hc => ?_) (fun hc => ?_)
    · replace hw := hw.1 hc
      exact R_sub [0, 1, 2, 3] rfl (J_202 l2 l3 l4 σ hw)
    · replace hw := hw.2 hc
      refine R_aload_n F dX10_walkFrom_185 rfl 0 rfl ?_
      refine R_iload F dX10_walkFrom_186 4 rfl ?_
      refine R_iload_n F dX10_walkFrom_188 rfl 2 rfl ?_
      refine R_iload F dX10_walkFrom_189 3 rfl ?_
      refine R_iload F dX10_walkFrom_191 5 rfl ?_
      refine R_callV (As := [.int l5, .int l3, .int l4, .int l6]) (C := RX10) (q0 := 0) (ci := 10) (N := 69) (T := TX10) (fs := mfl B) F (ct_passes l E B _ l5 l3 l4 l6 _ hw) (cwV 4 F.2.2.2.2.2.2.2.2.2.2 g_walkFrom_passes_298 rfl rfl rfl (by decide +kernel) ⟨Nat.le_of_ble_eq_true rfl, Nat.le_of_ble_eq_true rfl⟩) ⟨rfl, rfl⟩ rfl (fun _ => rfl) rfl rfl (Nat.le_of_ble_eq_true rfl) dX10_walkFrom_193 (fun σ13 hw => ?_)
      refine R_iinc (q := 5) (v := (l6 + 1)) (lv' := [(6, .int (l6 + 1)), (0, .ref (B 0)), (2, .int l2), (3, .int l3), (4, .int l4), (5, .int l5)]) F dX10_walkFrom_196 rfl rfl (by decide) rfl ?_
      refine R_goto (tgt := 179) F dX10_walkFrom_199 (by decide) ?_
      exact R_sub [1, 2, 3, 4, 5, 0] rfl (U_179 l2 l3 l4 l5 (l6 + 1) σ13 hw)
  unfold wp_walkFrom at hw
  replace hw := hw X2 X28 X87 X134 X179 C_2 C_28 C_87 C_134 C_179
  refine R_iconst F 0 dX10_walkFrom_0 (by decide) ?_
  refine R_istore_n (lv' := [(2, .int 0), (0, .ref (B 0)), (1, .int p1)]) F dX10_walkFrom_1 rfl (by decide) rfl ?_
  exact R_sub [1, 2, 0] rfl (U_2 p1 0 σ hw)
def b_reach_212 (X27 : Int32 → Int32 → Int32 → Int32 → Int32 → Int32 → VS → Prop) (X36 : Int32 → Int32 → Int32 → Int32 → Int32 → Int32 → Int32 → VS → Prop) (Q : VS → Prop) (l1 : Int32) (l2 : Int32) (l3 : Int32) (l4 : Int32) (l5 : Int32) (l6 : Int32) (l7 : Int32) (σ : VS) : Prop := X36 l1 l2 l3 l4 l5 l6 (l7 + 1) σ
def b_reach_82 (X27 : Int32 → Int32 → Int32 → Int32 → Int32 → Int32 → VS → Prop) (X36 : Int32 → Int32 → Int32 → Int32 → Int32 → Int32 → Int32 → VS → Prop) (Q : VS → Prop) (l1 : Int32) (l2 : Int32) (l3 : Int32) (l4 : Int32) (l5 : Int32) (l6 : Int32) (l7 : Int32) (l8 : Int32) (k0 : Int32) (σ : VS) : Prop := ((k0.toInt ≠ 0 → (In l2 50 ∧ (In l8 1600 ∧ (In l2 50 ∧ (In l2 50 ∧ (In l2 50 ∧ wp_earlyOf (fun (r9 : Int32) (σ10 : VS) => (In l2 50 ∧ (In l8 1600 ∧ (In l2 50 ∧ (In l2 50 ∧ (In l8 1600 ∧ (In l2 50 ∧ wp_lateOf (fun (r11 : Int32) (σ12 : VS) => (In l2 50 ∧ (In l2 50 ∧ b_reach_212 X27 X36 Q l1 l2 l3 l4 l5 l6 l7 (sa σ12 47 l2 (imin (rd (sa σ10 46 l2 (imin (rd (sa σ 45 l2 (imin 1000 ((rd σ 45 l2) + (rd σ 42 l8)))) 46 l2) (((((k0 * ((sa σ 45 l2 (imin 1000 ((rd σ 45 l2) + (rd σ 42 l8)))).1 20)) + r9) - (rd σ10 12 l2)) + l5) - (rd σ10 43 l8)))) 47 l2) ((((rd (sa σ10 46 l2 (imin (rd (sa σ 45 l2 (imin 1000 ((rd σ 45 l2) + (rd σ 42 l8)))) 46 l2) (((((k0 * ((sa σ 45 l2 (imin 1000 ((rd σ 45 l2) + (rd σ 42 l8)))).1 20)) + r9) - (rd σ10 12 l2)) + l5) - (rd σ10 43 l8)))) 44 l8) - r11) - (rd σ12 13 l2)) + l5)))))) (rd (sa σ10 46 l2 (imin (rd (sa σ 45 l2 (imin 1000 ((rd σ 45 l2) + (rd σ 42 l8)))) 46 l2) (((((k0 * ((sa σ 45 l2 (imin 1000 ((rd σ 45 l2) + (rd σ 42 l8)))).1 20)) + r9) - (rd σ10 12 l2)) + l5) - (rd σ10 43 l8)))) 11 l2) (sa σ10 46 l2 (imin (rd (sa σ 45 l2 (imin 1000 ((rd σ 45 l2) + (rd σ 42 l8)))) 46 l2) (((((k0 * ((sa σ 45 l2 (imin 1000 ((rd σ 45 l2) + (rd σ 42 l8)))).1 20)) + r9) - (rd σ10 12 l2)) + l5) - (rd σ10 43 l8))))))))))) (rd (sa σ 45 l2 (imin 1000 ((rd σ 45 l2) + (rd σ 42 l8)))) 11 l2) (sa σ 45 l2 (imin 1000 ((rd σ 45 l2) + (rd σ 42 l8)))))))))) ∧ (k0.toInt = 0 → b_reach_212 X27 X36 Q l1 l2 l3 l4 l5 l6 l7 σ))
def b_reach_36 (X27 : Int32 → Int32 → Int32 → Int32 → Int32 → Int32 → VS → Prop) (X36 : Int32 → Int32 → Int32 → Int32 → Int32 → Int32 → Int32 → VS → Prop) (Q : VS → Prop) (l1 : Int32) (l2 : Int32) (l3 : Int32) (l4 : Int32) (l5 : Int32) (l6 : Int32) (l7 : Int32) (σ : VS) : Prop := ((16 ≤ l7.toInt → X27 l1 l2 l3 l4 l5 (l6 + 1) σ) ∧ (l7.toInt < 16 → (∀ x6 : Int32, x6 = ((16 * ((2 * l3) + l6)) + l7) → (In x6 1600 ∧ (((rd σ 42 x6).toInt ≠ 0 → wp_periodsOf (fun (r7 : Int32) (σ8 : VS) => b_reach_82 X27 X36 Q l1 l2 l3 l4 l5 l6 l7 x6 r7 σ8) l1 l2 (l7 ||| l4) σ) ∧ ((rd σ 42 x6).toInt = 0 → b_reach_82 X27 X36 Q l1 l2 l3 l4 l5 l6 l7 x6 0 σ))))))
def b_reach_27 (X27 : Int32 → Int32 → Int32 → Int32 → Int32 → Int32 → VS → Prop) (X36 : Int32 → Int32 → Int32 → Int32 → Int32 → Int32 → Int32 → VS → Prop) (Q : VS → Prop) (l1 : Int32) (l2 : Int32) (l3 : Int32) (l4 : Int32) (l5 : Int32) (l6 : Int32) (σ : VS) : Prop := ((2 ≤ l6.toInt → Q σ) ∧ (l6.toInt < 2 → X36 l1 l2 l3 l4 l5 l6 0 σ))
def wp_reach (Q : VS → Prop) (p1 : Int32) (p2 : Int32) (σ : VS) : Prop := ∀ (X27 : Int32 → Int32 → Int32 → Int32 → Int32 → Int32 → VS → Prop) (X36 : Int32 → Int32 → Int32 → Int32 → Int32 → Int32 → Int32 → VS → Prop), (∀ (l1 : Int32) (l2 : Int32) (l3 : Int32) (l4 : Int32) (l5 : Int32) (l6 : Int32) (σ : VS), b_reach_27 X27 X36 Q l1 l2 l3 l4 l5 l6 σ → X27 l1 l2 l3 l4 l5 l6 σ) → (∀ (l1 : Int32) (l2 : Int32) (l3 : Int32) (l4 : Int32) (l5 : Int32) (l6 : Int32) (l7 : Int32) (σ : VS), b_reach_36 X27 X36 Q l1 l2 l3 l4 l5 l6 l7 σ → X36 l1 l2 l3 l4 l5 l6 l7 σ) → (In (4 * p2) 200 ∧ (∀ x1 : Int32, x1 = (rd σ 7 (4 * p2)) → wp_metBy (fun (r2 : Int32) (σ3 : VS) => wp_shared (fun (r4 : Int32) (σ5 : VS) => X27 p1 p2 x1 r2 r4 0 σ5) p1 p2 σ3) p2 σ))
theorem dX10_reach_0 : decode cX10_reach 0 = .ok (.aload_n 0, 1) := by decide +kernel
theorem dX10_reach_1 : decode cX10_reach 1 = .ok (.getfield 30, 3) := by decide +kernel
theorem dX10_reach_4 : decode cX10_reach 4 = .ok (.iconst 4, 1) := by decide +kernel
theorem dX10_reach_5 : decode cX10_reach 5 = .ok (.iload_n 2, 1) := by decide +kernel
theorem dX10_reach_6 : decode cX10_reach 6 = .ok (.imul, 1) := by decide +kernel
theorem dX10_reach_7 : decode cX10_reach 7 = .ok (.iaload, 1) := by decide +kernel
theorem dX10_reach_8 : decode cX10_reach 8 = .ok (.istore_n 3, 1) := by decide +kernel
theorem dX10_reach_9 : decode cX10_reach 9 = .ok (.aload_n 0, 1) := by decide +kernel
theorem dX10_reach_10 : decode cX10_reach 10 = .ok (.iload_n 2, 1) := by decide +kernel
theorem dX10_reach_11 : decode cX10_reach 11 = .ok (.invokevirtual 295, 3) := by decide +kernel
theorem dX10_reach_14 : decode cX10_reach 14 = .ok (.istore 4, 2) := by decide +kernel
theorem dX10_reach_16 : decode cX10_reach 16 = .ok (.aload_n 0, 1) := by decide +kernel
theorem dX10_reach_17 : decode cX10_reach 17 = .ok (.iload_n 1, 1) := by decide +kernel
theorem dX10_reach_18 : decode cX10_reach 18 = .ok (.iload_n 2, 1) := by decide +kernel
theorem dX10_reach_19 : decode cX10_reach 19 = .ok (.invokevirtual 272, 3) := by decide +kernel
theorem dX10_reach_22 : decode cX10_reach 22 = .ok (.istore 5, 2) := by decide +kernel
theorem dX10_reach_24 : decode cX10_reach 24 = .ok (.iconst 0, 1) := by decide +kernel
theorem dX10_reach_25 : decode cX10_reach 25 = .ok (.istore 6, 2) := by decide +kernel
theorem dX10_reach_27 : decode cX10_reach 27 = .ok (.iload 6, 2) := by decide +kernel
theorem dX10_reach_29 : decode cX10_reach 29 = .ok (.iconst 2, 1) := by decide +kernel
theorem dX10_reach_30 : decode cX10_reach 30 = .ok (.if_icmp .ge 194, 3) := by decide +kernel
theorem dX10_reach_224 : decode cX10_reach 224 = .ok (.return_, 1) := by decide +kernel
theorem dX10_reach_33 : decode cX10_reach 33 = .ok (.iconst 0, 1) := by decide +kernel
theorem dX10_reach_34 : decode cX10_reach 34 = .ok (.istore 7, 2) := by decide +kernel
theorem dX10_reach_36 : decode cX10_reach 36 = .ok (.iload 7, 2) := by decide +kernel
theorem dX10_reach_38 : decode cX10_reach 38 = .ok (.bipush 16, 2) := by decide +kernel
theorem dX10_reach_40 : decode cX10_reach 40 = .ok (.if_icmp .ge 178, 3) := by decide +kernel
theorem dX10_reach_218 : decode cX10_reach 218 = .ok (.iinc 6 1, 3) := by decide +kernel
theorem dX10_reach_221 : decode cX10_reach 221 = .ok (.goto (-194), 3) := by decide +kernel
theorem dX10_reach_43 : decode cX10_reach 43 = .ok (.bipush 16, 2) := by decide +kernel
theorem dX10_reach_45 : decode cX10_reach 45 = .ok (.iconst 2, 1) := by decide +kernel
theorem dX10_reach_46 : decode cX10_reach 46 = .ok (.iload_n 3, 1) := by decide +kernel
theorem dX10_reach_47 : decode cX10_reach 47 = .ok (.imul, 1) := by decide +kernel
theorem dX10_reach_48 : decode cX10_reach 48 = .ok (.iload 6, 2) := by decide +kernel
theorem dX10_reach_50 : decode cX10_reach 50 = .ok (.iadd, 1) := by decide +kernel
theorem dX10_reach_51 : decode cX10_reach 51 = .ok (.imul, 1) := by decide +kernel
theorem dX10_reach_52 : decode cX10_reach 52 = .ok (.iload 7, 2) := by decide +kernel
theorem dX10_reach_54 : decode cX10_reach 54 = .ok (.iadd, 1) := by decide +kernel
theorem dX10_reach_55 : decode cX10_reach 55 = .ok (.istore 8, 2) := by decide +kernel
theorem dX10_reach_57 : decode cX10_reach 57 = .ok (.aload_n 0, 1) := by decide +kernel
theorem dX10_reach_58 : decode cX10_reach 58 = .ok (.getfield 141, 3) := by decide +kernel
theorem dX10_reach_61 : decode cX10_reach 61 = .ok (.iload 8, 2) := by decide +kernel
theorem dX10_reach_63 : decode cX10_reach 63 = .ok (.iaload, 1) := by decide +kernel
theorem dX10_reach_64 : decode cX10_reach 64 = .ok (.ifCond .ne 7, 3) := by decide +kernel
theorem dX10_reach_71 : decode cX10_reach 71 = .ok (.aload_n 0, 1) := by decide +kernel
theorem dX10_reach_72 : decode cX10_reach 72 = .ok (.iload_n 1, 1) := by decide +kernel
theorem dX10_reach_73 : decode cX10_reach 73 = .ok (.iload_n 2, 1) := by decide +kernel
theorem dX10_reach_74 : decode cX10_reach 74 = .ok (.iload 7, 2) := by decide +kernel
theorem dX10_reach_76 : decode cX10_reach 76 = .ok (.iload 4, 2) := by decide +kernel
theorem dX10_reach_78 : decode cX10_reach 78 = .ok (.ior, 1) := by decide +kernel
theorem dX10_reach_79 : decode cX10_reach 79 = .ok (.invokevirtual 312, 3) := by decide +kernel
theorem dX10_reach_67 : decode cX10_reach 67 = .ok (.iconst 0, 1) := by decide +kernel
theorem dX10_reach_68 : decode cX10_reach 68 = .ok (.goto 14, 3) := by decide +kernel
theorem dX10_reach_82 : decode cX10_reach 82 = .ok (.istore 9, 2) := by decide +kernel
theorem dX10_reach_84 : decode cX10_reach 84 = .ok (.iload 9, 2) := by decide +kernel
theorem dX10_reach_86 : decode cX10_reach 86 = .ok (.ifCond .ne 6, 3) := by decide +kernel
theorem dX10_reach_92 : decode cX10_reach 92 = .ok (.aload_n 0, 1) := by decide +kernel
theorem dX10_reach_93 : decode cX10_reach 93 = .ok (.getfield 150, 3) := by decide +kernel
theorem dX10_reach_96 : decode cX10_reach 96 = .ok (.iload_n 2, 1) := by decide +kernel
theorem dX10_reach_97 : decode cX10_reach 97 = .ok (.sipush 1000, 3) := by decide +kernel
theorem dX10_reach_100 : decode cX10_reach 100 = .ok (.aload_n 0, 1) := by decide +kernel
theorem dX10_reach_101 : decode cX10_reach 101 = .ok (.getfield 150, 3) := by decide +kernel
theorem dX10_reach_104 : decode cX10_reach 104 = .ok (.iload_n 2, 1) := by decide +kernel
theorem dX10_reach_105 : decode cX10_reach 105 = .ok (.iaload, 1) := by decide +kernel
theorem dX10_reach_106 : decode cX10_reach 106 = .ok (.aload_n 0, 1) := by decide +kernel
theorem dX10_reach_107 : decode cX10_reach 107 = .ok (.getfield 141, 3) := by decide +kernel
theorem dX10_reach_110 : decode cX10_reach 110 = .ok (.iload 8, 2) := by decide +kernel
theorem dX10_reach_112 : decode cX10_reach 112 = .ok (.iaload, 1) := by decide +kernel
theorem dX10_reach_113 : decode cX10_reach 113 = .ok (.iadd, 1) := by decide +kernel
theorem dX10_reach_114 : decode cX10_reach 114 = .ok (.invokestatic 266, 3) := by decide +kernel
theorem dX10_reach_117 : decode cX10_reach 117 = .ok (.iastore, 1) := by decide +kernel
theorem dX10_reach_118 : decode cX10_reach 118 = .ok (.aload_n 0, 1) := by decide +kernel
theorem dX10_reach_119 : decode cX10_reach 119 = .ok (.getfield 153, 3) := by decide +kernel
theorem dX10_reach_122 : decode cX10_reach 122 = .ok (.iload_n 2, 1) := by decide +kernel
theorem dX10_reach_123 : decode cX10_reach 123 = .ok (.aload_n 0, 1) := by decide +kernel
theorem dX10_reach_124 : decode cX10_reach 124 = .ok (.getfield 153, 3) := by decide +kernel
theorem dX10_reach_127 : decode cX10_reach 127 = .ok (.iload_n 2, 1) := by decide +kernel
theorem dX10_reach_128 : decode cX10_reach 128 = .ok (.iaload, 1) := by decide +kernel
theorem dX10_reach_129 : decode cX10_reach 129 = .ok (.iload 9, 2) := by decide +kernel
theorem dX10_reach_131 : decode cX10_reach 131 = .ok (.aload_n 0, 1) := by decide +kernel
theorem dX10_reach_132 : decode cX10_reach 132 = .ok (.getfield 87, 3) := by decide +kernel
theorem dX10_reach_135 : decode cX10_reach 135 = .ok (.imul, 1) := by decide +kernel
theorem dX10_reach_136 : decode cX10_reach 136 = .ok (.aload_n 0, 1) := by decide +kernel
theorem dX10_reach_137 : decode cX10_reach 137 = .ok (.aload_n 0, 1) := by decide +kernel
theorem dX10_reach_138 : decode cX10_reach 138 = .ok (.getfield 42, 3) := by decide +kernel
theorem dX10_reach_141 : decode cX10_reach 141 = .ok (.iload_n 2, 1) := by decide +kernel
theorem dX10_reach_142 : decode cX10_reach 142 = .ok (.iaload, 1) := by decide +kernel
theorem dX10_reach_143 : decode cX10_reach 143 = .ok (.invokevirtual 278, 3) := by decide +kernel
theorem dX10_reach_146 : decode cX10_reach 146 = .ok (.iadd, 1) := by decide +kernel
theorem dX10_reach_147 : decode cX10_reach 147 = .ok (.aload_n 0, 1) := by decide +kernel
theorem dX10_reach_148 : decode cX10_reach 148 = .ok (.getfield 45, 3) := by decide +kernel
theorem dX10_reach_151 : decode cX10_reach 151 = .ok (.iload_n 2, 1) := by decide +kernel
theorem dX10_reach_152 : decode cX10_reach 152 = .ok (.iaload, 1) := by decide +kernel
theorem dX10_reach_153 : decode cX10_reach 153 = .ok (.isub, 1) := by decide +kernel
theorem dX10_reach_154 : decode cX10_reach 154 = .ok (.iload 5, 2) := by decide +kernel
theorem dX10_reach_156 : decode cX10_reach 156 = .ok (.iadd, 1) := by decide +kernel
theorem dX10_reach_157 : decode cX10_reach 157 = .ok (.aload_n 0, 1) := by decide +kernel
theorem dX10_reach_158 : decode cX10_reach 158 = .ok (.getfield 144, 3) := by decide +kernel
theorem dX10_reach_161 : decode cX10_reach 161 = .ok (.iload 8, 2) := by decide +kernel
theorem dX10_reach_163 : decode cX10_reach 163 = .ok (.iaload, 1) := by decide +kernel
theorem dX10_reach_164 : decode cX10_reach 164 = .ok (.isub, 1) := by decide +kernel
theorem dX10_reach_165 : decode cX10_reach 165 = .ok (.invokestatic 266, 3) := by decide +kernel
theorem dX10_reach_168 : decode cX10_reach 168 = .ok (.iastore, 1) := by decide +kernel
theorem dX10_reach_169 : decode cX10_reach 169 = .ok (.aload_n 0, 1) := by decide +kernel
theorem dX10_reach_170 : decode cX10_reach 170 = .ok (.getfield 156, 3) := by decide +kernel
theorem dX10_reach_173 : decode cX10_reach 173 = .ok (.iload_n 2, 1) := by decide +kernel
theorem dX10_reach_174 : decode cX10_reach 174 = .ok (.aload_n 0, 1) := by decide +kernel
theorem dX10_reach_175 : decode cX10_reach 175 = .ok (.getfield 156, 3) := by decide +kernel
theorem dX10_reach_178 : decode cX10_reach 178 = .ok (.iload_n 2, 1) := by decide +kernel
theorem dX10_reach_179 : decode cX10_reach 179 = .ok (.iaload, 1) := by decide +kernel
theorem dX10_reach_180 : decode cX10_reach 180 = .ok (.aload_n 0, 1) := by decide +kernel
theorem dX10_reach_181 : decode cX10_reach 181 = .ok (.getfield 147, 3) := by decide +kernel
theorem dX10_reach_184 : decode cX10_reach 184 = .ok (.iload 8, 2) := by decide +kernel
theorem dX10_reach_186 : decode cX10_reach 186 = .ok (.iaload, 1) := by decide +kernel
theorem dX10_reach_187 : decode cX10_reach 187 = .ok (.aload_n 0, 1) := by decide +kernel
theorem dX10_reach_188 : decode cX10_reach 188 = .ok (.aload_n 0, 1) := by decide +kernel
theorem dX10_reach_189 : decode cX10_reach 189 = .ok (.getfield 42, 3) := by decide +kernel
theorem dX10_reach_192 : decode cX10_reach 192 = .ok (.iload_n 2, 1) := by decide +kernel
theorem dX10_reach_193 : decode cX10_reach 193 = .ok (.iaload, 1) := by decide +kernel
theorem dX10_reach_194 : decode cX10_reach 194 = .ok (.invokevirtual 275, 3) := by decide +kernel
theorem dX10_reach_197 : decode cX10_reach 197 = .ok (.isub, 1) := by decide +kernel
theorem dX10_reach_198 : decode cX10_reach 198 = .ok (.aload_n 0, 1) := by decide +kernel
theorem dX10_reach_199 : decode cX10_reach 199 = .ok (.getfield 48, 3) := by decide +kernel
theorem dX10_reach_202 : decode cX10_reach 202 = .ok (.iload_n 2, 1) := by decide +kernel
theorem dX10_reach_203 : decode cX10_reach 203 = .ok (.iaload, 1) := by decide +kernel
theorem dX10_reach_204 : decode cX10_reach 204 = .ok (.isub, 1) := by decide +kernel
theorem dX10_reach_205 : decode cX10_reach 205 = .ok (.iload 5, 2) := by decide +kernel
theorem dX10_reach_207 : decode cX10_reach 207 = .ok (.iadd, 1) := by decide +kernel
theorem dX10_reach_208 : decode cX10_reach 208 = .ok (.invokestatic 266, 3) := by decide +kernel
theorem dX10_reach_211 : decode cX10_reach 211 = .ok (.iastore, 1) := by decide +kernel
theorem dX10_reach_89 : decode cX10_reach 89 = .ok (.goto 123, 3) := by decide +kernel
theorem dX10_reach_212 : decode cX10_reach 212 = .ok (.iinc 7 1, 3) := by decide +kernel
theorem dX10_reach_215 : decode cX10_reach 215 = .ok (.goto (-179), 3) := by decide +kernel
def wo_reach : List Cond := [.code yX10_reach cX10_reach 10 none, .methodLink RX10 295 yX10_metBy, .instanceMethod yX10_metBy, .selects RX10 yX10_metBy yX10_metBy, .initialized RX10, .methodLink RX10 272 yX10_shared, .instanceMethod yX10_shared, .selects RX10 yX10_shared yX10_shared, .methodLink RX10 312 yX10_periodsOf, .instanceMethod yX10_periodsOf, .selects RX10 yX10_periodsOf yX10_periodsOf, .methodLink RX10 266 Lib.Math.min.name, .static Lib.Math.min.name, .initialized "java/lang/Math", .code Lib.Math.min.name Lib.Math.min.code 2 (some .int), .methodLink RX10 278 yX10_earlyOf, .instanceMethod yX10_earlyOf, .selects RX10 yX10_earlyOf yX10_earlyOf, .methodLink RX10 275 yX10_lateOf, .instanceMethod yX10_lateOf, .selects RX10 yX10_lateOf yX10_lateOf]
def wr_reach : List Cond := (wfX10 ++ (w_metBy ++ (w_shared ++ (w_periodsOf ++ (w_earlyOf ++ (w_lateOf ++ ([])))))))
def w_reach : List Cond := wo_reach ++ wr_reach
theorem wg_reach : GW w_reach := GW_app (GW_of (by decide +kernel)) (GW_app (wg_fX10) (GW_app (wg_metBy) (GW_app (wg_shared) (GW_app (wg_periodsOf) (GW_app (wg_earlyOf) (GW_app (wg_lateOf) (GW_nil)))))))
theorem in_reach : ∀ w ∈ wfX10, w ∈ w_reach := fun _ h => List.mem_append_right _ (List.mem_append_left _ h)
theorem g_reach_metBy_295 : GoodIn w_reach (wsV RX10 295 RX10 yX10_metBy w_metBy) := goodIn_app (gi_left (goodIn_of _ (by decide +kernel))) (fun w h => ⟨List.mem_append_right _ (List.mem_append_right _ (List.mem_append_left _ h)), wg_metBy w h⟩)
theorem g_reach_shared_272 : GoodIn w_reach (wsV RX10 272 RX10 yX10_shared w_shared) := goodIn_app (gi_left (goodIn_of _ (by decide +kernel))) (fun w h => ⟨List.mem_append_right _ (List.mem_append_right _ (List.mem_append_right _ (List.mem_append_left _ h))), wg_shared w h⟩)
theorem g_reach_periodsOf_312 : GoodIn w_reach (wsV RX10 312 RX10 yX10_periodsOf w_periodsOf) := goodIn_app (gi_left (goodIn_of _ (by decide +kernel))) (fun w h => ⟨List.mem_append_right _ (List.mem_append_right _ (List.mem_append_right _ (List.mem_append_right _ (List.mem_append_left _ h)))), wg_periodsOf w h⟩)
theorem g_reach_earlyOf_278 : GoodIn w_reach (wsV RX10 278 RX10 yX10_earlyOf w_earlyOf) := goodIn_app (gi_left (goodIn_of _ (by decide +kernel))) (fun w h => ⟨List.mem_append_right _ (List.mem_append_right _ (List.mem_append_right _ (List.mem_append_right _ (List.mem_append_right _ (List.mem_append_left _ h))))), wg_earlyOf w h⟩)
theorem g_reach_lateOf_275 : GoodIn w_reach (wsV RX10 275 RX10 yX10_lateOf w_lateOf) := goodIn_app (gi_left (goodIn_of _ (by decide +kernel))) (fun w h => ⟨List.mem_append_right _ (List.mem_append_right _ (List.mem_append_right _ (List.mem_append_right _ (List.mem_append_right _ (List.mem_append_right _ (List.mem_append_left _ h)))))), wg_lateOf w h⟩)
set_option maxHeartbeats 4000000 in
set_option maxRecDepth 100000 in
theorem ct_reach (l : Launch) (E : gE) (B : Nat → Nat) (Q : VS → Prop) (p1 : Int32) (p2 : Int32) (σ : VS) (hw : wp_reach Q p1 p2 σ) : CtV l E yX10_reach w_reach (({ frames := 2, cells := 0, slots := 0, locals := 47 } : Room)) (wm E B σ) [.ref (B 0), .int p1, .int p2] (fun w => ∃ σ' : VS, Q σ' ∧ w = wm E B σ') := by
  refine VC_V (cc := cX10_reach) (mL := 10) (rt := none) (lv0 := [(0, .ref (B 0)), (1, .int p1), (2, .int p2)]) rfl (by decide) rfl (Nat.le_of_ble_eq_true rfl) ?_
  intro p e s m below meth c A F
  replace F : Fx p s m _ meth c A E cX10_reach 10 none RX10 w_reach := F
  obtain ⟨X27, hX27⟩ : ∃ X : Int32 → Int32 → Int32 → Int32 → Int32 → Int32 → VS → Prop, X = fun l1 l2 l3 l4 l5 l6 σ => WB p l e (({ frames := 2, cells := 0, slots := 0, locals := 47 } : Room)) s m (#[.ref (B 0), .int p1, .int p2]) below meth c (MQ below (va_Qv (fun w => ∃ σ' : VS, Q σ' ∧ w = wm E B σ') (AftU E A) A) (#[.ref (B 0), .int p1, .int p2]) s (({ frames := 2, cells := 0, slots := 0, locals := 47 } : Room)).cells (({ frames := 2, cells := 0, slots := 0, locals := 47 } : Room)).slots A) A E (wm E B) 10 27 [(0, .ref (B 0)), (1, .int l1), (2, .int l2), (3, .int l3), (4, .int l4), (5, .int l5), (6, .int l6)] [] σ := ⟨_, rfl⟩
  have U_27 : ∀ (l1 : Int32) (l2 : Int32) (l3 : Int32) (l4 : Int32) (l5 : Int32) (l6 : Int32) (σ : VS), X27 l1 l2 l3 l4 l5 l6 σ → WB p l e (({ frames := 2, cells := 0, slots := 0, locals := 47 } : Room)) s m (#[.ref (B 0), .int p1, .int p2]) below meth c (MQ below (va_Qv (fun w => ∃ σ' : VS, Q σ' ∧ w = wm E B σ') (AftU E A) A) (#[.ref (B 0), .int p1, .int p2]) s (({ frames := 2, cells := 0, slots := 0, locals := 47 } : Room)).cells (({ frames := 2, cells := 0, slots := 0, locals := 47 } : Room)).slots A) A E (wm E B) 10 27 [(0, .ref (B 0)), (1, .int l1), (2, .int l2), (3, .int l3), (4, .int l4), (5, .int l5), (6, .int l6)] [] σ := by
    intro l1 l2 l3 l4 l5 l6 σ hw; rw [hX27] at hw; exact hw
  obtain ⟨X36, hX36⟩ : ∃ X : Int32 → Int32 → Int32 → Int32 → Int32 → Int32 → Int32 → VS → Prop, X = fun l1 l2 l3 l4 l5 l6 l7 σ => WB p l e (({ frames := 2, cells := 0, slots := 0, locals := 47 } : Room)) s m (#[.ref (B 0), .int p1, .int p2]) below meth c (MQ below (va_Qv (fun w => ∃ σ' : VS, Q σ' ∧ w = wm E B σ') (AftU E A) A) (#[.ref (B 0), .int p1, .int p2]) s (({ frames := 2, cells := 0, slots := 0, locals := 47 } : Room)).cells (({ frames := 2, cells := 0, slots := 0, locals := 47 } : Room)).slots A) A E (wm E B) 10 36 [(0, .ref (B 0)), (1, .int l1), (2, .int l2), (3, .int l3), (4, .int l4), (5, .int l5), (6, .int l6), (7, .int l7)] [] σ := ⟨_, rfl⟩
  have U_36 : ∀ (l1 : Int32) (l2 : Int32) (l3 : Int32) (l4 : Int32) (l5 : Int32) (l6 : Int32) (l7 : Int32) (σ : VS), X36 l1 l2 l3 l4 l5 l6 l7 σ → WB p l e (({ frames := 2, cells := 0, slots := 0, locals := 47 } : Room)) s m (#[.ref (B 0), .int p1, .int p2]) below meth c (MQ below (va_Qv (fun w => ∃ σ' : VS, Q σ' ∧ w = wm E B σ') (AftU E A) A) (#[.ref (B 0), .int p1, .int p2]) s (({ frames := 2, cells := 0, slots := 0, locals := 47 } : Room)).cells (({ frames := 2, cells := 0, slots := 0, locals := 47 } : Room)).slots A) A E (wm E B) 10 36 [(0, .ref (B 0)), (1, .int l1), (2, .int l2), (3, .int l3), (4, .int l4), (5, .int l5), (6, .int l6), (7, .int l7)] [] σ := by
    intro l1 l2 l3 l4 l5 l6 l7 σ hw; rw [hX36] at hw; exact hw
  have J_212 : ∀ (l1 : Int32) (l2 : Int32) (l3 : Int32) (l4 : Int32) (l5 : Int32) (l6 : Int32) (l7 : Int32) (σ : VS), b_reach_212 X27 X36 Q l1 l2 l3 l4 l5 l6 l7 σ → WB p l e (({ frames := 2, cells := 0, slots := 0, locals := 47 } : Room)) s m (#[.ref (B 0), .int p1, .int p2]) below meth c (MQ below (va_Qv (fun w => ∃ σ' : VS, Q σ' ∧ w = wm E B σ') (AftU E A) A) (#[.ref (B 0), .int p1, .int p2]) s (({ frames := 2, cells := 0, slots := 0, locals := 47 } : Room)).cells (({ frames := 2, cells := 0, slots := 0, locals := 47 } : Room)).slots A) A E (wm E B) 10 212 [(0, .ref (B 0)), (1, .int l1), (2, .int l2), (3, .int l3), (4, .int l4), (5, .int l5), (6, .int l6), (7, .int l7)] [] σ := by
    intro l1 l2 l3 l4 l5 l6 l7 σ hw
    unfold b_reach_212 at hw
    refine R_iinc (q := 7) (v := (l7 + 1)) (lv' := [(7, .int (l7 + 1)), (0, .ref (B 0)), (1, .int l1), (2, .int l2), (3, .int l3), (4, .int l4), (5, .int l5), (6, .int l6)]) F dX10_reach_212 rfl rfl (by decide) rfl ?_
    refine R_goto (tgt := 36) F dX10_reach_215 (by decide) ?_
    exact R_sub [1, 2, 3, 4, 5, 6, 7, 0] rfl (U_36 l1 l2 l3 l4 l5 l6 (l7 + 1) σ hw)
  have J_82 : ∀ (l1 : Int32) (l2 : Int32) (l3 : Int32) (l4 : Int32) (l5 : Int32) (l6 : Int32) (l7 : Int32) (l8 : Int32) (k0 : Int32) (σ : VS), b_reach_82 X27 X36 Q l1 l2 l3 l4 l5 l6 l7 l8 k0 σ → WB p l e (({ frames := 2, cells := 0, slots := 0, locals := 47 } : Room)) s m (#[.ref (B 0), .int p1, .int p2]) below meth c (MQ below (va_Qv (fun w => ∃ σ' : VS, Q σ' ∧ w = wm E B σ') (AftU E A) A) (#[.ref (B 0), .int p1, .int p2]) s (({ frames := 2, cells := 0, slots := 0, locals := 47 } : Room)).cells (({ frames := 2, cells := 0, slots := 0, locals := 47 } : Room)).slots A) A E (wm E B) 10 82 [(0, .ref (B 0)), (1, .int l1), (2, .int l2), (3, .int l3), (4, .int l4), (5, .int l5), (6, .int l6), (7, .int l7), (8, .int l8)] [.int k0] σ := by
    intro l1 l2 l3 l4 l5 l6 l7 l8 k0 σ hw
    unfold b_reach_82 at hw
    refine R_istore (lv' := [(9, .int k0), (0, .ref (B 0)), (1, .int l1), (2, .int l2), (3, .int l3), (4, .int l4), (5, .int l5), (6, .int l6), (7, .int l7), (8, .int l8)]) F dX10_reach_82 (by decide) rfl ?_
    refine R_iload F dX10_reach_84 0 rfl ?_
    refine R_if_ne (tgt := 92) F dX10_reach_86 (by decide) (fun hc => ?_) (fun hc => ?_)
    · replace hw := hw.1 hc
      refine R_aload_n F dX10_reach_92 rfl 1 rfl ?_
      refine gm_45 F in_reach dX10_reach_93 ?_
      refine R_iload_n F dX10_reach_96 rfl 3 rfl ?_
      refine R_sipush F 1000 dX10_reach_97 (by decide) ?_
      refine R_aload_n F dX10_reach_100 rfl 1 rfl ?_
      refine gm_45 F in_reach dX10_reach_101 ?_
      refine R_iload_n F dX10_reach_104 rfl 3 rfl ?_
      refine R_ldi F qm_45 dX10_reach_105 hw.1 ?_
      replace hw := hw.2
      refine R_aload_n F dX10_reach_106 rfl 1 rfl ?_
      refine gm_42 F in_reach dX10_reach_107 ?_
      refine R_iload F dX10_reach_110 9 rfl ?_
      refine R_ldi F qm_42 dX10_reach_112 hw.1 ?_
      replace hw := hw.2
      refine R_iadd F dX10_reach_113 ?_
      refine R_mmin F (List.mem_append_left _ (show Cond.methodLink RX10 266 Lib.Math.min.name ∈ wo_reach by decide +kernel)) (List.mem_append_left _ (show Cond.static Lib.Math.min.name ∈ wo_reach by decide +kernel)) (List.mem_append_left _ (show Cond.initialized "java/lang/Math" ∈ wo_reach by decide +kernel)) (List.mem_append_left _ (show Cond.code Lib.Math.min.name Lib.Math.min.code 2 (some .int) ∈ wo_reach by decide +kernel)) (Nat.le_of_ble_eq_true rfl) (Nat.le_of_ble_eq_true rfl) dX10_reach_114 ?_
      have hi := hw.1
      replace hw := hw.2
      refine R_sti F qm_45 um_45 dX10_reach_117 hi ?_
      refine R_aload_n F dX10_reach_118 rfl 1 rfl ?_
      refine gm_46 F in_reach dX10_reach_119 ?_
      refine R_iload_n F dX10_reach_122 rfl 3 rfl ?_
      refine R_aload_n F dX10_reach_123 rfl 1 rfl ?_
      refine gm_46 F in_reach dX10_reach_124 ?_
      refine R_iload_n F dX10_reach_127 rfl 3 rfl ?_
      refine R_ldi F qm_46 dX10_reach_128 hw.1 ?_
      replace hw := hw.2
      refine R_iload F dX10_reach_129 0 rfl ?_
      refine R_aload_n F dX10_reach_131 rfl 1 rfl ?_
      refine gm_20 F in_reach dX10_reach_132 ?_
      refine R_imul F dX10_reach_135 ?_
      refine R_aload_n F dX10_reach_136 rfl 1 rfl ?_
      refine R_aload_n F dX10_reach_137 rfl 1 rfl ?_
      refine gm_11 F in_reach dX10_reach_138 ?_
      refine R_iload_n F dX10_reach_141 rfl 3 rfl ?_
      refine R_ldi F qm_11 dX10_reach_142 hw.1 ?_
      replace hw := hw.2
      refine R_callI (As := [.int (rd (sa σ 45 l2 (imin 1000 ((rd σ 45 l2) + (rd σ 42 l8)))) 11 l2)]) (C := RX10) (q0 := 0) (ci := 10) (N := 69) (T := TX10) (fs := mfl B) F (ct_earlyOf l E B _ (rd (sa σ 45 l2 (imin 1000 ((rd σ 45 l2) + (rd σ 42 l8)))) 11 l2) _ hw) (cwV 1 F.2.2.2.2.2.2.2.2.2.2 g_reach_earlyOf_278 rfl rfl rfl (by decide +kernel) ⟨Nat.le_of_ble_eq_true rfl, Nat.le_of_ble_eq_true rfl⟩) ⟨rfl, rfl⟩ rfl (fun _ => rfl) rfl rfl (Nat.le_of_ble_eq_true rfl) dX10_reach_143 (fun r9 σ10 hw => ?_)
      refine R_iadd F dX10_reach_146 ?_
      refine R_aload_n F dX10_reach_147 rfl 1 rfl ?_
      refine gm_12 F in_reach dX10_reach_148 ?_
      refine R_iload_n F dX10_reach_151 rfl 3 rfl ?_
      refine R_ldi F qm_12 dX10_reach_152 hw.1 ?_
      replace hw := hw.2
      refine R_isub F dX10_reach_153 ?_
      refine R_iload F dX10_reach_154 6 rfl ?_
      refine R_iadd F dX10_reach_156 ?_
      refine R_aload_n F dX10_reach_157 rfl 1 rfl ?_
      refine gm_43 F in_reach dX10_reach_158 ?_
      refine R_iload F dX10_reach_161 9 rfl ?_
      refine R_ldi F qm_43 dX10_reach_163 hw.1 ?_
      replace hw := hw.2
      refine R_isub F dX10_reach_164 ?_
      refine R_mmin F (List.mem_append_left _ (show Cond.methodLink RX10 266 Lib.Math.min.name ∈ wo_reach by decide +kernel)) (List.mem_append_left _ (show Cond.static Lib.Math.min.name ∈ wo_reach by decide +kernel)) (List.mem_append_left _ (show Cond.initialized "java/lang/Math" ∈ wo_reach by decide +kernel)) (List.mem_append_left _ (show Cond.code Lib.Math.min.name Lib.Math.min.code 2 (some .int) ∈ wo_reach by decide +kernel)) (Nat.le_of_ble_eq_true rfl) (Nat.le_of_ble_eq_true rfl) dX10_reach_165 ?_
      have hi := hw.1
      replace hw := hw.2
      refine R_sti F qm_46 um_46 dX10_reach_168 hi ?_
      refine R_aload_n F dX10_reach_169 rfl 1 rfl ?_
      refine gm_47 F in_reach dX10_reach_170 ?_
      refine R_iload_n F dX10_reach_173 rfl 3 rfl ?_
      refine R_aload_n F dX10_reach_174 rfl 1 rfl ?_
      refine gm_47 F in_reach dX10_reach_175 ?_
      refine R_iload_n F dX10_reach_178 rfl 3 rfl ?_
      refine R_ldi F qm_47 dX10_reach_179 hw.1 ?_
      replace hw := hw.2
      refine R_aload_n F dX10_reach_180 rfl 1 rfl ?_
      refine gm_44 F in_reach dX10_reach_181 ?_
      refine R_iload F dX10_reach_184 9 rfl ?_
      refine R_ldi F qm_44 dX10_reach_186 hw.1 ?_
      replace hw := hw.2
      refine R_aload_n F dX10_reach_187 rfl 1 rfl ?_
      refine R_aload_n F dX10_reach_188 rfl 1 rfl ?_
      refine gm_11 F in_reach dX10_reach_189 ?_
      refine R_iload_n F dX10_reach_192 rfl 3 rfl ?_
      refine R_ldi F qm_11 dX10_reach_193 hw.1 ?_
      replace hw := hw.2
      refine R_callI (As := [.int (rd (sa σ10 46 l2 (imin (rd (sa σ 45 l2 (imin 1000 ((rd σ 45 l2) + (rd σ 42 l8)))) 46 l2) (((((k0 * ((sa σ 45 l2 (imin 1000 ((rd σ 45 l2) + (rd σ 42 l8)))).1 20)) + r9) - (rd σ10 12 l2)) + l5) - (rd σ10 43 l8)))) 11 l2)]) (C := RX10) (q0 := 0) (ci := 10) (N := 69) (T := TX10) (fs := mfl B) F (ct_lateOf l E B _ (rd (sa σ10 46 l2 (imin (rd (sa σ 45 l2 (imin 1000 ((rd σ 45 l2) + (rd σ 42 l8)))) 46 l2) (((((k0 * ((sa σ 45 l2 (imin 1000 ((rd σ 45 l2) + (rd σ 42 l8)))).1 20)) + r9) - (rd σ10 12 l2)) + l5) - (rd σ10 43 l8)))) 11 l2) _ hw) (cwV 1 F.2.2.2.2.2.2.2.2.2.2 g_reach_lateOf_275 rfl rfl rfl (by decide +kernel) ⟨Nat.le_of_ble_eq_true rfl, Nat.le_of_ble_eq_true rfl⟩) ⟨rfl, rfl⟩ rfl (fun _ => rfl) rfl rfl (Nat.le_of_ble_eq_true rfl) dX10_reach_194 (fun r11 σ12 hw => ?_)
      refine R_isub F dX10_reach_197 ?_
      refine R_aload_n F dX10_reach_198 rfl 1 rfl ?_
      refine gm_13 F in_reach dX10_reach_199 ?_
      refine R_iload_n F dX10_reach_202 rfl 3 rfl ?_
      refine R_ldi F qm_13 dX10_reach_203 hw.1 ?_
      replace hw := hw.2
      refine R_isub F dX10_reach_204 ?_
      refine R_iload F dX10_reach_205 6 rfl ?_
      refine R_iadd F dX10_reach_207 ?_
      refine R_mmin F (List.mem_append_left _ (show Cond.methodLink RX10 266 Lib.Math.min.name ∈ wo_reach by decide +kernel)) (List.mem_append_left _ (show Cond.static Lib.Math.min.name ∈ wo_reach by decide +kernel)) (List.mem_append_left _ (show Cond.initialized "java/lang/Math" ∈ wo_reach by decide +kernel)) (List.mem_append_left _ (show Cond.code Lib.Math.min.name Lib.Math.min.code 2 (some .int) ∈ wo_reach by decide +kernel)) (Nat.le_of_ble_eq_true rfl) (Nat.le_of_ble_eq_true rfl) dX10_reach_208 ?_
      have hi := hw.1
      replace hw := hw.2
      refine R_sti F qm_47 um_47 dX10_reach_211 hi ?_
      exact R_sub [1, 2, 3, 4, 5, 6, 7, 8] rfl (J_212 l1 l2 l3 l4 l5 l6 l7 (sa σ12 47 l2 (imin (rd (sa σ10 46 l2 (imin (rd (sa σ 45 l2 (imin 1000 ((rd σ 45 l2) + (rd σ 42 l8)))) 46 l2) (((((k0 * ((sa σ 45 l2 (imin 1000 ((rd σ 45 l2) + (rd σ 42 l8)))).1 20)) + r9) - (rd σ10 12 l2)) + l5) - (rd σ10 43 l8)))) 47 l2) ((((rd (sa σ10 46 l2 (imin (rd (sa σ 45 l2 (imin 1000 ((rd σ 45 l2) + (rd σ 42 l8)))) 46 l2) (((((k0 * ((sa σ 45 l2 (imin 1000 ((rd σ 45 l2) + (rd σ 42 l8)))).1 20)) + r9) - (rd σ10 12 l2)) + l5) - (rd σ10 43 l8)))) 44 l8) - r11) - (rd σ12 13 l2)) + l5))) hw)
    · replace hw := hw.2 hc
      refine R_goto (tgt := 212) F dX10_reach_89 (by decide) ?_
      exact R_sub [1, 2, 3, 4, 5, 6, 7, 8] rfl (J_212 l1 l2 l3 l4 l5 l6 l7 σ hw)
  have C_27 : ∀ (l1 : Int32) (l2 : Int32) (l3 : Int32) (l4 : Int32) (l5 : Int32) (l6 : Int32) (σ : VS), b_reach_27 X27 X36 Q l1 l2 l3 l4 l5 l6 σ → X27 l1 l2 l3 l4 l5 l6 σ := by
    intro l1 l2 l3 l4 l5 l6 σ hw
    unfold b_reach_27 at hw
    rw [hX27]
    show WB p l e (({ frames := 2, cells := 0, slots := 0, locals := 47 } : Room)) s m (#[.ref (B 0), .int p1, .int p2]) below meth c (MQ below (va_Qv (fun w => ∃ σ' : VS, Q σ' ∧ w = wm E B σ') (AftU E A) A) (#[.ref (B 0), .int p1, .int p2]) s (({ frames := 2, cells := 0, slots := 0, locals := 47 } : Room)).cells (({ frames := 2, cells := 0, slots := 0, locals := 47 } : Room)).slots A) A E (wm E B) 10 27 [(0, .ref (B 0)), (1, .int l1), (2, .int l2), (3, .int l3), (4, .int l4), (5, .int l5), (6, .int l6)] [] σ
    refine R_iload F dX10_reach_27 6 rfl ?_
    refine R_iconst F 2 dX10_reach_29 (by decide) ?_
    refine R_icmp_ge (tgt := 224) F dX10_reach_30 (by decide) (fun hc => ?_) (fun hc => ?_)
    · replace hw := hw.1 hc
      exact R_vret (Qc := Q) F dX10_reach_224 hw
    · replace hw := hw.2 hc
      refine R_iconst F 0 dX10_reach_33 (by decide) ?_
      refine R_istore (lv' := [(7, .int 0), (0, .ref (B 0)), (1, .int l1), (2, .int l2), (3, .int l3), (4, .int l4), (5, .int l5), (6, .int l6)]) F dX10_reach_34 (by decide) rfl ?_
      exact R_sub [1, 2, 3, 4, 5, 6, 7, 0] rfl (U_36 l1 l2 l3 l4 l5 l6 0 σ hw)
  have C_36 : ∀ (l1 : Int32) (l2 : Int32) (l3 : Int32) (l4 : Int32) (l5 : Int32) (l6 : Int32) (l7 : Int32) (σ : VS), b_reach_36 X27 X36 Q l1 l2 l3 l4 l5 l6 l7 σ → X36 l1 l2 l3 l4 l5 l6 l7 σ := by
    intro l1 l2 l3 l4 l5 l6 l7 σ hw
    unfold b_reach_36 at hw
    rw [hX36]
    show WB p l e (({ frames := 2, cells := 0, slots := 0, locals := 47 } : Room)) s m (#[.ref (B 0), .int p1, .int p2]) below meth c (MQ below (va_Qv (fun w => ∃ σ' : VS, Q σ' ∧ w = wm E B σ') (AftU E A) A) (#[.ref (B 0), .int p1, .int p2]) s (({ frames := 2, cells := 0, slots := 0, locals := 47 } : Room)).cells (({ frames := 2, cells := 0, slots := 0, locals := 47 } : Room)).slots A) A E (wm E B) 10 36 [(0, .ref (B 0)), (1, .int l1), (2, .int l2), (3, .int l3), (4, .int l4), (5, .int l5), (6, .int l6), (7, .int l7)] [] σ
    refine R_iload F dX10_reach_36 7 rfl ?_
    refine R_bipush F 16 dX10_reach_38 (by decide) ?_
    refine R_icmp_ge (tgt := 218) F dX10_reach_40 (by decide) (fun hc => ?_) (fun hc => ?_)
    · replace hw := hw.1 hc
      refine R_iinc (q := 6) (v := (l6 + 1)) (lv' := [(6, .int (l6 + 1)), (0, .ref (B 0)), (1, .int l1), (2, .int l2), (3, .int l3), (4, .int l4), (5, .int l5), (7, .int l7)]) F dX10_reach_218 rfl rfl (by decide) rfl ?_
      refine R_goto (tgt := 27) F dX10_reach_221 (by decide) ?_
      exact R_sub [1, 2, 3, 4, 5, 6, 0] rfl (U_27 l1 l2 l3 l4 l5 (l6 + 1) σ hw)
    · replace hw := hw.2 hc
      refine R_bipush F 16 dX10_reach_43 (by decide) ?_
      refine R_iconst F 2 dX10_reach_45 (by decide) ?_
      refine R_iload_n F dX10_reach_46 rfl 3 rfl ?_
      refine R_imul F dX10_reach_47 ?_
      refine R_iload F dX10_reach_48 6 rfl ?_
      refine R_iadd F dX10_reach_50 ?_
      refine R_imul F dX10_reach_51 ?_
      refine R_iload F dX10_reach_52 7 rfl ?_
      refine R_iadd F dX10_reach_54 ?_
      refine R_topi (fun x6 ex6 => ?_)
      replace hw := hw x6 ex6
      refine R_istore (lv' := [(8, .int x6), (0, .ref (B 0)), (1, .int l1), (2, .int l2), (3, .int l3), (4, .int l4), (5, .int l5), (6, .int l6), (7, .int l7)]) F dX10_reach_55 (by decide) rfl ?_
      refine R_aload_n F dX10_reach_57 rfl 1 rfl ?_
      refine gm_42 F in_reach dX10_reach_58 ?_
      refine R_iload F dX10_reach_61 0 rfl ?_
      refine R_ldi F qm_42 dX10_reach_63 hw.1 ?_
      replace hw := hw.2
      refine R_if_ne (tgt := 71) F dX10_reach_64 (by decide) (fun hc => ?_) (fun hc => ?_)
      · replace hw := hw.1 hc
        refine R_aload_n F dX10_reach_71 rfl 1 rfl ?_
        refine R_iload_n F dX10_reach_72 rfl 2 rfl ?_
        refine R_iload_n F dX10_reach_73 rfl 3 rfl ?_
        refine R_iload F dX10_reach_74 8 rfl ?_
        refine R_iload F dX10_reach_76 5 rfl ?_
        refine R_ior F dX10_reach_78 ?_
        refine R_callI (As := [.int l1, .int l2, .int (l7 ||| l4)]) (C := RX10) (q0 := 0) (ci := 10) (N := 69) (T := TX10) (fs := mfl B) F (ct_periodsOf l E B _ l1 l2 (l7 ||| l4) _ hw) (cwV 3 F.2.2.2.2.2.2.2.2.2.2 g_reach_periodsOf_312 rfl rfl rfl (by decide +kernel) ⟨Nat.le_of_ble_eq_true rfl, Nat.le_of_ble_eq_true rfl⟩) ⟨rfl, rfl⟩ rfl (fun _ => rfl) rfl rfl (Nat.le_of_ble_eq_true rfl) dX10_reach_79 (fun r7 σ8 hw => ?_)
        exact R_sub [1, 2, 3, 4, 5, 6, 7, 8, 0] rfl (J_82 l1 l2 l3 l4 l5 l6 l7 x6 r7 σ8 hw)
      · replace hw := hw.2 hc
        refine R_iconst F 0 dX10_reach_67 (by decide) ?_
        refine R_goto (tgt := 82) F dX10_reach_68 (by decide) ?_
        exact R_sub [1, 2, 3, 4, 5, 6, 7, 8, 0] rfl (J_82 l1 l2 l3 l4 l5 l6 l7 x6 0 σ hw)
  unfold wp_reach at hw
  replace hw := hw X27 X36 C_27 C_36
  refine R_aload_n F dX10_reach_0 rfl 0 rfl ?_
  refine gm_7 F in_reach dX10_reach_1 ?_
  refine R_iconst F 4 dX10_reach_4 (by decide) ?_
  refine R_iload_n F dX10_reach_5 rfl 2 rfl ?_
  refine R_imul F dX10_reach_6 ?_
  refine R_ldi F qm_7 dX10_reach_7 hw.1 ?_
  replace hw := hw.2
  refine R_topi (fun x1 ex1 => ?_)
  replace hw := hw x1 ex1
  refine R_istore_n (lv' := [(3, .int x1), (0, .ref (B 0)), (1, .int p1), (2, .int p2)]) F dX10_reach_8 rfl (by decide) rfl ?_
  refine R_aload_n F dX10_reach_9 rfl 1 rfl ?_
  refine R_iload_n F dX10_reach_10 rfl 3 rfl ?_
  refine R_callI (As := [.int p2]) (C := RX10) (q0 := 0) (ci := 10) (N := 69) (T := TX10) (fs := mfl B) F (ct_metBy l E B _ p2 _ hw) (cwV 1 F.2.2.2.2.2.2.2.2.2.2 g_reach_metBy_295 rfl rfl rfl (by decide +kernel) ⟨Nat.le_of_ble_eq_true rfl, Nat.le_of_ble_eq_true rfl⟩) ⟨rfl, rfl⟩ rfl (fun _ => rfl) rfl rfl (Nat.le_of_ble_eq_true rfl) dX10_reach_11 (fun r2 σ3 hw => ?_)
  refine R_istore (lv' := [(4, .int r2), (3, .int x1), (0, .ref (B 0)), (1, .int p1), (2, .int p2)]) F dX10_reach_14 (by decide) rfl ?_
  refine R_aload_n F dX10_reach_16 rfl 2 rfl ?_
  refine R_iload_n F dX10_reach_17 rfl 3 rfl ?_
  refine R_iload_n F dX10_reach_18 rfl 4 rfl ?_
  refine R_callI (As := [.int p1, .int p2]) (C := RX10) (q0 := 0) (ci := 10) (N := 69) (T := TX10) (fs := mfl B) F (ct_shared l E B _ p1 p2 _ hw) (cwV 2 F.2.2.2.2.2.2.2.2.2.2 g_reach_shared_272 rfl rfl rfl (by decide +kernel) ⟨Nat.le_of_ble_eq_true rfl, Nat.le_of_ble_eq_true rfl⟩) ⟨rfl, rfl⟩ rfl (fun _ => rfl) rfl rfl (Nat.le_of_ble_eq_true rfl) dX10_reach_19 (fun r4 σ5 hw => ?_)
  refine R_istore (lv' := [(5, .int r4), (4, .int r2), (3, .int x1), (0, .ref (B 0)), (1, .int p1), (2, .int p2)]) F dX10_reach_22 (by decide) rfl ?_
  refine R_iconst F 0 dX10_reach_24 (by decide) ?_
  refine R_istore (lv' := [(6, .int 0), (5, .int r4), (4, .int r2), (3, .int x1), (0, .ref (B 0)), (1, .int p1), (2, .int p2)]) F dX10_reach_25 (by decide) rfl ?_
  exact R_sub [4, 5, 6, 3, 2, 1, 0] rfl (U_27 p1 p2 x1 r2 r4 0 σ5 hw)
def b_judge_128 (X6 : Int32 → VS → Prop) (X47 : Int32 → VS → Prop) (X73 : Int32 → Int32 → VS → Prop) (Q : VS → Prop) (l1 : Int32) (σ : VS) : Prop := X47 (l1 + 1) σ
def b_judge_122 (X6 : Int32 → VS → Prop) (X47 : Int32 → VS → Prop) (X73 : Int32 → Int32 → VS → Prop) (Q : VS → Prop) (l1 : Int32) (l2 : Int32) (σ : VS) : Prop := X73 l1 (l2 + 1) σ
def b_judge_73 (X6 : Int32 → VS → Prop) (X47 : Int32 → VS → Prop) (X73 : Int32 → Int32 → VS → Prop) (Q : VS → Prop) (l1 : Int32) (l2 : Int32) (σ : VS) : Prop := (((σ.1 1).toInt ≤ l2.toInt → b_judge_128 X6 X47 X73 Q l1 σ) ∧ (l2.toInt < (σ.1 1).toInt → wp_isTarget (fun (r7 : Int32) (σ8 : VS) => ((r7.toInt = 0 → b_judge_122 X6 X47 X73 Q l1 l2 σ8) ∧ (r7.toInt ≠ 0 → (In (4 * l2) 200 ∧ (((rd σ8 7 (4 * l2)).toInt < 0 → b_judge_122 X6 X47 X73 Q l1 l2 σ8) ∧ (0 ≤ (rd σ8 7 (4 * l2)).toInt → (In (4 * l2) 200 ∧ (In (rd σ8 7 (4 * l2)) 50 ∧ (((rd σ8 35 (rd σ8 7 (4 * l2))).toInt ≠ 0 → b_judge_122 X6 X47 X73 Q l1 l2 σ8) ∧ ((rd σ8 35 (rd σ8 7 (4 * l2))).toInt = 0 → wp_reach (fun (σ10 : VS) => b_judge_122 X6 X47 X73 Q l1 l2 σ10) l1 l2 σ8)))))))))) l2 σ))
def b_judge_47 (X6 : Int32 → VS → Prop) (X47 : Int32 → VS → Prop) (X73 : Int32 → Int32 → VS → Prop) (Q : VS → Prop) (l1 : Int32) (σ : VS) : Prop := (((σ.1 1).toInt ≤ l1.toInt → Q σ) ∧ (l1.toInt < (σ.1 1).toInt → wp_isStart (fun (r3 : Int32) (σ4 : VS) => ((r3.toInt ≠ 0 → wp_walkFrom (fun (σ6 : VS) => X73 l1 0 σ6) l1 σ4) ∧ (r3.toInt = 0 → b_judge_128 X6 X47 X73 Q l1 σ4))) l1 σ))
def b_judge_6 (X6 : Int32 → VS → Prop) (X47 : Int32 → VS → Prop) (X73 : Int32 → Int32 → VS → Prop) (Q : VS → Prop) (l1 : Int32) (σ : VS) : Prop := (((σ.1 1).toInt ≤ l1.toInt → X47 0 σ) ∧ (l1.toInt < (σ.1 1).toInt → (In l1 50 ∧ (In l1 50 ∧ (In l1 50 ∧ X6 (l1 + 1) (sa (sa (sa σ 45 l1 0) 46 l1 1000000000) 47 l1 1000000000))))))
def wp_judge (Q : VS → Prop) (σ : VS) : Prop := ∀ (X6 : Int32 → VS → Prop) (X47 : Int32 → VS → Prop) (X73 : Int32 → Int32 → VS → Prop), (∀ (l1 : Int32) (σ : VS), b_judge_6 X6 X47 X73 Q l1 σ → X6 l1 σ) → (∀ (l1 : Int32) (σ : VS), b_judge_47 X6 X47 X73 Q l1 σ → X47 l1 σ) → (∀ (l1 : Int32) (l2 : Int32) (σ : VS), b_judge_73 X6 X47 X73 Q l1 l2 σ → X73 l1 l2 σ) → wp_time (fun (σ2 : VS) => X6 0 σ2) σ
theorem dX10_judge_0 : decode cX10_judge 0 = .ok (.aload_n 0, 1) := by decide +kernel
theorem dX10_judge_1 : decode cX10_judge 1 = .ok (.invokevirtual 282, 3) := by decide +kernel
theorem dX10_judge_4 : decode cX10_judge 4 = .ok (.iconst 0, 1) := by decide +kernel
theorem dX10_judge_5 : decode cX10_judge 5 = .ok (.istore_n 1, 1) := by decide +kernel
theorem dX10_judge_6 : decode cX10_judge 6 = .ok (.iload_n 1, 1) := by decide +kernel
theorem dX10_judge_7 : decode cX10_judge 7 = .ok (.aload_n 0, 1) := by decide +kernel
theorem dX10_judge_8 : decode cX10_judge 8 = .ok (.getfield 7, 3) := by decide +kernel
theorem dX10_judge_11 : decode cX10_judge 11 = .ok (.if_icmp .ge 34, 3) := by decide +kernel
theorem dX10_judge_45 : decode cX10_judge 45 = .ok (.iconst 0, 1) := by decide +kernel
theorem dX10_judge_46 : decode cX10_judge 46 = .ok (.istore_n 1, 1) := by decide +kernel
theorem dX10_judge_14 : decode cX10_judge 14 = .ok (.aload_n 0, 1) := by decide +kernel
theorem dX10_judge_15 : decode cX10_judge 15 = .ok (.getfield 150, 3) := by decide +kernel
theorem dX10_judge_18 : decode cX10_judge 18 = .ok (.iload_n 1, 1) := by decide +kernel
theorem dX10_judge_19 : decode cX10_judge 19 = .ok (.iconst 0, 1) := by decide +kernel
theorem dX10_judge_20 : decode cX10_judge 20 = .ok (.iastore, 1) := by decide +kernel
theorem dX10_judge_21 : decode cX10_judge 21 = .ok (.aload_n 0, 1) := by decide +kernel
theorem dX10_judge_22 : decode cX10_judge 22 = .ok (.getfield 153, 3) := by decide +kernel
theorem dX10_judge_25 : decode cX10_judge 25 = .ok (.iload_n 1, 1) := by decide +kernel
theorem dX10_judge_26 : decode cX10_judge 26 = .ok (.ldc_w 302, 3) := by decide +kernel
theorem dX10_judge_29 : decode cX10_judge 29 = .ok (.iastore, 1) := by decide +kernel
theorem dX10_judge_30 : decode cX10_judge 30 = .ok (.aload_n 0, 1) := by decide +kernel
theorem dX10_judge_31 : decode cX10_judge 31 = .ok (.getfield 156, 3) := by decide +kernel
theorem dX10_judge_34 : decode cX10_judge 34 = .ok (.iload_n 1, 1) := by decide +kernel
theorem dX10_judge_35 : decode cX10_judge 35 = .ok (.ldc_w 302, 3) := by decide +kernel
theorem dX10_judge_38 : decode cX10_judge 38 = .ok (.iastore, 1) := by decide +kernel
theorem dX10_judge_39 : decode cX10_judge 39 = .ok (.iinc 1 1, 3) := by decide +kernel
theorem dX10_judge_42 : decode cX10_judge 42 = .ok (.goto (-36), 3) := by decide +kernel
theorem dX10_judge_47 : decode cX10_judge 47 = .ok (.iload_n 1, 1) := by decide +kernel
theorem dX10_judge_48 : decode cX10_judge 48 = .ok (.aload_n 0, 1) := by decide +kernel
theorem dX10_judge_49 : decode cX10_judge 49 = .ok (.getfield 7, 3) := by decide +kernel
theorem dX10_judge_52 : decode cX10_judge 52 = .ok (.if_icmp .ge 82, 3) := by decide +kernel
theorem dX10_judge_134 : decode cX10_judge 134 = .ok (.return_, 1) := by decide +kernel
theorem dX10_judge_55 : decode cX10_judge 55 = .ok (.aload_n 0, 1) := by decide +kernel
theorem dX10_judge_56 : decode cX10_judge 56 = .ok (.iload_n 1, 1) := by decide +kernel
theorem dX10_judge_57 : decode cX10_judge 57 = .ok (.invokevirtual 303, 3) := by decide +kernel
theorem dX10_judge_60 : decode cX10_judge 60 = .ok (.ifCond .ne 6, 3) := by decide +kernel
theorem dX10_judge_66 : decode cX10_judge 66 = .ok (.aload_n 0, 1) := by decide +kernel
theorem dX10_judge_67 : decode cX10_judge 67 = .ok (.iload_n 1, 1) := by decide +kernel
theorem dX10_judge_68 : decode cX10_judge 68 = .ok (.invokevirtual 306, 3) := by decide +kernel
theorem dX10_judge_71 : decode cX10_judge 71 = .ok (.iconst 0, 1) := by decide +kernel
theorem dX10_judge_72 : decode cX10_judge 72 = .ok (.istore_n 2, 1) := by decide +kernel
theorem dX10_judge_63 : decode cX10_judge 63 = .ok (.goto 65, 3) := by decide +kernel
theorem dX10_judge_73 : decode cX10_judge 73 = .ok (.iload_n 2, 1) := by decide +kernel
theorem dX10_judge_74 : decode cX10_judge 74 = .ok (.aload_n 0, 1) := by decide +kernel
theorem dX10_judge_75 : decode cX10_judge 75 = .ok (.getfield 7, 3) := by decide +kernel
theorem dX10_judge_78 : decode cX10_judge 78 = .ok (.if_icmp .ge 50, 3) := by decide +kernel
theorem dX10_judge_81 : decode cX10_judge 81 = .ok (.aload_n 0, 1) := by decide +kernel
theorem dX10_judge_82 : decode cX10_judge 82 = .ok (.iload_n 2, 1) := by decide +kernel
theorem dX10_judge_83 : decode cX10_judge 83 = .ok (.invokevirtual 69, 3) := by decide +kernel
theorem dX10_judge_86 : decode cX10_judge 86 = .ok (.ifCond .eq 36, 3) := by decide +kernel
theorem dX10_judge_89 : decode cX10_judge 89 = .ok (.aload_n 0, 1) := by decide +kernel
theorem dX10_judge_90 : decode cX10_judge 90 = .ok (.getfield 30, 3) := by decide +kernel
theorem dX10_judge_93 : decode cX10_judge 93 = .ok (.iconst 4, 1) := by decide +kernel
theorem dX10_judge_94 : decode cX10_judge 94 = .ok (.iload_n 2, 1) := by decide +kernel
theorem dX10_judge_95 : decode cX10_judge 95 = .ok (.imul, 1) := by decide +kernel
theorem dX10_judge_96 : decode cX10_judge 96 = .ok (.iaload, 1) := by decide +kernel
theorem dX10_judge_97 : decode cX10_judge 97 = .ok (.ifCond .lt 25, 3) := by decide +kernel
theorem dX10_judge_100 : decode cX10_judge 100 = .ok (.aload_n 0, 1) := by decide +kernel
theorem dX10_judge_101 : decode cX10_judge 101 = .ok (.getfield 120, 3) := by decide +kernel
theorem dX10_judge_104 : decode cX10_judge 104 = .ok (.aload_n 0, 1) := by decide +kernel
theorem dX10_judge_105 : decode cX10_judge 105 = .ok (.getfield 30, 3) := by decide +kernel
theorem dX10_judge_108 : decode cX10_judge 108 = .ok (.iconst 4, 1) := by decide +kernel
theorem dX10_judge_109 : decode cX10_judge 109 = .ok (.iload_n 2, 1) := by decide +kernel
theorem dX10_judge_110 : decode cX10_judge 110 = .ok (.imul, 1) := by decide +kernel
theorem dX10_judge_111 : decode cX10_judge 111 = .ok (.iaload, 1) := by decide +kernel
theorem dX10_judge_112 : decode cX10_judge 112 = .ok (.iaload, 1) := by decide +kernel
theorem dX10_judge_113 : decode cX10_judge 113 = .ok (.ifCond .ne 9, 3) := by decide +kernel
theorem dX10_judge_116 : decode cX10_judge 116 = .ok (.aload_n 0, 1) := by decide +kernel
theorem dX10_judge_117 : decode cX10_judge 117 = .ok (.iload_n 1, 1) := by decide +kernel
theorem dX10_judge_118 : decode cX10_judge 118 = .ok (.iload_n 2, 1) := by decide +kernel
theorem dX10_judge_119 : decode cX10_judge 119 = .ok (.invokevirtual 309, 3) := by decide +kernel
theorem dX10_judge_128 : decode cX10_judge 128 = .ok (.iinc 1 1, 3) := by decide +kernel
theorem dX10_judge_131 : decode cX10_judge 131 = .ok (.goto (-84), 3) := by decide +kernel
theorem dX10_judge_122 : decode cX10_judge 122 = .ok (.iinc 2 1, 3) := by decide +kernel
theorem dX10_judge_125 : decode cX10_judge 125 = .ok (.goto (-52), 3) := by decide +kernel
def wo_judge : List Cond := [.code yX10_judge cX10_judge 3 none, .methodLink RX10 282 yX10_time, .instanceMethod yX10_time, .selects RX10 yX10_time yX10_time, .initialized RX10, .constant RX10 302 1000000000, .methodLink RX10 303 yX10_isStart, .instanceMethod yX10_isStart, .selects RX10 yX10_isStart yX10_isStart, .methodLink RX10 306 yX10_walkFrom, .instanceMethod yX10_walkFrom, .selects RX10 yX10_walkFrom yX10_walkFrom, .methodLink RX10 69 yX10_isTarget, .instanceMethod yX10_isTarget, .selects RX10 yX10_isTarget yX10_isTarget, .methodLink RX10 309 yX10_reach, .instanceMethod yX10_reach, .selects RX10 yX10_reach yX10_reach]
def wr_judge : List Cond := (wfX10 ++ (w_time ++ (w_isStart ++ (w_walkFrom ++ (w_isTarget ++ (w_reach ++ ([])))))))
def w_judge : List Cond := wo_judge ++ wr_judge
theorem wg_judge : GW w_judge := GW_app (GW_of (by decide +kernel)) (GW_app (wg_fX10) (GW_app (wg_time) (GW_app (wg_isStart) (GW_app (wg_walkFrom) (GW_app (wg_isTarget) (GW_app (wg_reach) (GW_nil)))))))
theorem in_judge : ∀ w ∈ wfX10, w ∈ w_judge := fun _ h => List.mem_append_right _ (List.mem_append_left _ h)
theorem g_judge_time_282 : GoodIn w_judge (wsV RX10 282 RX10 yX10_time w_time) := goodIn_app (gi_left (goodIn_of _ (by decide +kernel))) (fun w h => ⟨List.mem_append_right _ (List.mem_append_right _ (List.mem_append_left _ h)), wg_time w h⟩)
theorem g_judge_isStart_303 : GoodIn w_judge (wsV RX10 303 RX10 yX10_isStart w_isStart) := goodIn_app (gi_left (goodIn_of _ (by decide +kernel))) (fun w h => ⟨List.mem_append_right _ (List.mem_append_right _ (List.mem_append_right _ (List.mem_append_left _ h))), wg_isStart w h⟩)
theorem g_judge_walkFrom_306 : GoodIn w_judge (wsV RX10 306 RX10 yX10_walkFrom w_walkFrom) := goodIn_app (gi_left (goodIn_of _ (by decide +kernel))) (fun w h => ⟨List.mem_append_right _ (List.mem_append_right _ (List.mem_append_right _ (List.mem_append_right _ (List.mem_append_left _ h)))), wg_walkFrom w h⟩)
theorem g_judge_isTarget_69 : GoodIn w_judge (wsV RX10 69 RX10 yX10_isTarget w_isTarget) := goodIn_app (gi_left (goodIn_of _ (by decide +kernel))) (fun w h => ⟨List.mem_append_right _ (List.mem_append_right _ (List.mem_append_right _ (List.mem_append_right _ (List.mem_append_right _ (List.mem_append_left _ h))))), wg_isTarget w h⟩)
theorem g_judge_reach_309 : GoodIn w_judge (wsV RX10 309 RX10 yX10_reach w_reach) := goodIn_app (gi_left (goodIn_of _ (by decide +kernel))) (fun w h => ⟨List.mem_append_right _ (List.mem_append_right _ (List.mem_append_right _ (List.mem_append_right _ (List.mem_append_right _ (List.mem_append_right _ (List.mem_append_left _ h)))))), wg_reach w h⟩)
set_option maxHeartbeats 4000000 in
set_option maxRecDepth 100000 in
theorem ct_judge (l : Launch) (E : gE) (B : Nat → Nat) (Q : VS → Prop) (σ : VS) (hw : wp_judge Q σ) : CtV l E yX10_judge w_judge (({ frames := 57, cells := 0, slots := 0, locals := 1398 } : Room)) (wm E B σ) [.ref (B 0)] (fun w => ∃ σ' : VS, Q σ' ∧ w = wm E B σ') := by
  refine VC_V (cc := cX10_judge) (mL := 3) (rt := none) (lv0 := [(0, .ref (B 0))]) rfl (by decide) rfl (Nat.le_of_ble_eq_true rfl) ?_
  intro p e s m below meth c A F
  replace F : Fx p s m _ meth c A E cX10_judge 3 none RX10 w_judge := F
  obtain ⟨X6, hX6⟩ : ∃ X : Int32 → VS → Prop, X = fun l1 σ => WB p l e (({ frames := 57, cells := 0, slots := 0, locals := 1398 } : Room)) s m (#[.ref (B 0)]) below meth c (MQ below (va_Qv (fun w => ∃ σ' : VS, Q σ' ∧ w = wm E B σ') (AftU E A) A) (#[.ref (B 0)]) s (({ frames := 57, cells := 0, slots := 0, locals := 1398 } : Room)).cells (({ frames := 57, cells := 0, slots := 0, locals := 1398 } : Room)).slots A) A E (wm E B) 3 6 [(0, .ref (B 0)), (1, .int l1)] [] σ := ⟨_, rfl⟩
  have U_6 : ∀ (l1 : Int32) (σ : VS), X6 l1 σ → WB p l e (({ frames := 57, cells := 0, slots := 0, locals := 1398 } : Room)) s m (#[.ref (B 0)]) below meth c (MQ below (va_Qv (fun w => ∃ σ' : VS, Q σ' ∧ w = wm E B σ') (AftU E A) A) (#[.ref (B 0)]) s (({ frames := 57, cells := 0, slots := 0, locals := 1398 } : Room)).cells (({ frames := 57, cells := 0, slots := 0, locals := 1398 } : Room)).slots A) A E (wm E B) 3 6 [(0, .ref (B 0)), (1, .int l1)] [] σ := by
    intro l1 σ hw; rw [hX6] at hw; exact hw
  obtain ⟨X47, hX47⟩ : ∃ X : Int32 → VS → Prop, X = fun l1 σ => WB p l e (({ frames := 57, cells := 0, slots := 0, locals := 1398 } : Room)) s m (#[.ref (B 0)]) below meth c (MQ below (va_Qv (fun w => ∃ σ' : VS, Q σ' ∧ w = wm E B σ') (AftU E A) A) (#[.ref (B 0)]) s (({ frames := 57, cells := 0, slots := 0, locals := 1398 } : Room)).cells (({ frames := 57, cells := 0, slots := 0, locals := 1398 } : Room)).slots A) A E (wm E B) 3 47 [(0, .ref (B 0)), (1, .int l1)] [] σ := ⟨_, rfl⟩
  have U_47 : ∀ (l1 : Int32) (σ : VS), X47 l1 σ → WB p l e (({ frames := 57, cells := 0, slots := 0, locals := 1398 } : Room)) s m (#[.ref (B 0)]) below meth c (MQ below (va_Qv (fun w => ∃ σ' : VS, Q σ' ∧ w = wm E B σ') (AftU E A) A) (#[.ref (B 0)]) s (({ frames := 57, cells := 0, slots := 0, locals := 1398 } : Room)).cells (({ frames := 57, cells := 0, slots := 0, locals := 1398 } : Room)).slots A) A E (wm E B) 3 47 [(0, .ref (B 0)), (1, .int l1)] [] σ := by
    intro l1 σ hw; rw [hX47] at hw; exact hw
  obtain ⟨X73, hX73⟩ : ∃ X : Int32 → Int32 → VS → Prop, X = fun l1 l2 σ => WB p l e (({ frames := 57, cells := 0, slots := 0, locals := 1398 } : Room)) s m (#[.ref (B 0)]) below meth c (MQ below (va_Qv (fun w => ∃ σ' : VS, Q σ' ∧ w = wm E B σ') (AftU E A) A) (#[.ref (B 0)]) s (({ frames := 57, cells := 0, slots := 0, locals := 1398 } : Room)).cells (({ frames := 57, cells := 0, slots := 0, locals := 1398 } : Room)).slots A) A E (wm E B) 3 73 [(0, .ref (B 0)), (1, .int l1), (2, .int l2)] [] σ := ⟨_, rfl⟩
  have U_73 : ∀ (l1 : Int32) (l2 : Int32) (σ : VS), X73 l1 l2 σ → WB p l e (({ frames := 57, cells := 0, slots := 0, locals := 1398 } : Room)) s m (#[.ref (B 0)]) below meth c (MQ below (va_Qv (fun w => ∃ σ' : VS, Q σ' ∧ w = wm E B σ') (AftU E A) A) (#[.ref (B 0)]) s (({ frames := 57, cells := 0, slots := 0, locals := 1398 } : Room)).cells (({ frames := 57, cells := 0, slots := 0, locals := 1398 } : Room)).slots A) A E (wm E B) 3 73 [(0, .ref (B 0)), (1, .int l1), (2, .int l2)] [] σ := by
    intro l1 l2 σ hw; rw [hX73] at hw; exact hw
  have J_128 : ∀ (l1 : Int32) (σ : VS), b_judge_128 X6 X47 X73 Q l1 σ → WB p l e (({ frames := 57, cells := 0, slots := 0, locals := 1398 } : Room)) s m (#[.ref (B 0)]) below meth c (MQ below (va_Qv (fun w => ∃ σ' : VS, Q σ' ∧ w = wm E B σ') (AftU E A) A) (#[.ref (B 0)]) s (({ frames := 57, cells := 0, slots := 0, locals := 1398 } : Room)).cells (({ frames := 57, cells := 0, slots := 0, locals := 1398 } : Room)).slots A) A E (wm E B) 3 128 [(0, .ref (B 0)), (1, .int l1)] [] σ := by
    intro l1 σ hw
    unfold b_judge_128 at hw
    refine R_iinc (q := 1) (v := (l1 + 1)) (lv' := [(1, .int (l1 + 1)), (0, .ref (B 0))]) F dX10_judge_128 rfl rfl (by decide) rfl ?_
    refine R_goto (tgt := 47) F dX10_judge_131 (by decide) ?_
    exact R_sub [1, 0] rfl (U_47 (l1 + 1) σ hw)
  have J_122 : ∀ (l1 : Int32) (l2 : Int32) (σ : VS), b_judge_122 X6 X47 X73 Q l1 l2 σ → WB p l e (({ frames := 57, cells := 0, slots := 0, locals := 1398 } : Room)) s m (#[.ref (B 0)]) below meth c (MQ below (va_Qv (fun w => ∃ σ' : VS, Q σ' ∧ w = wm E B σ') (AftU E A) A) (#[.ref (B 0)]) s (({ frames := 57, cells := 0, slots := 0, locals := 1398 } : Room)).cells (({ frames := 57, cells := 0, slots := 0, locals := 1398 } : Room)).slots A) A E (wm E B) 3 122 [(0, .ref (B 0)), (1, .int l1), (2, .int l2)] [] σ := by
    intro l1 l2 σ hw
    unfold b_judge_122 at hw
    refine R_iinc (q := 2) (v := (l2 + 1)) (lv' := [(2, .int (l2 + 1)), (0, .ref (B 0)), (1, .int l1)]) F dX10_judge_122 rfl rfl (by decide) rfl ?_
    refine R_goto (tgt := 73) F dX10_judge_125 (by decide) ?_
    exact R_sub [1, 2, 0] rfl (U_73 l1 (l2 + 1) σ hw)
  have C_6 : ∀ (l1 : Int32) (σ : VS), b_judge_6 X6 X47 X73 Q l1 σ → X6 l1 σ := by
    intro l1 σ hw
    unfold b_judge_6 at hw
    rw [hX6]
    show WB p l e (({ frames := 57, cells := 0, slots := 0, locals := 1398 } : Room)) s m (#[.ref (B 0)]) below meth c (MQ below (va_Qv (fun w => ∃ σ' : VS, Q σ' ∧ w = wm E B σ') (AftU E A) A) (#[.ref (B 0)]) s (({ frames := 57, cells := 0, slots := 0, locals := 1398 } : Room)).cells (({ frames := 57, cells := 0, slots := 0, locals := 1398 } : Room)).slots A) A E (wm E B) 3 6 [(0, .ref (B 0)), (1, .int l1)] [] σ
    refine R_iload_n F dX10_judge_6 rfl 1 rfl ?_
    refine R_aload_n F dX10_judge_7 rfl 0 rfl ?_
    refine gm_1 F in_judge dX10_judge_8 ?_
    refine R_icmp_ge (tgt := 45) F dX10_judge_11 (by decide) (fun hc => ?_) (fun hc => ?_)
    · replace hw := hw.1 hc
      refine R_iconst F 0 dX10_judge_45 (by decide) ?_
      refine R_istore_n (lv' := [(1, .int 0), (0, .ref (B 0))]) F dX10_judge_46 rfl (by decide) rfl ?_
      exact R_sub [1, 0] rfl (U_47 0 σ hw)
    · replace hw := hw.2 hc
      refine R_aload_n F dX10_judge_14 rfl 0 rfl ?_
      refine gm_45 F in_judge dX10_judge_15 ?_
      refine R_iload_n F dX10_judge_18 rfl 1 rfl ?_
      refine R_iconst F 0 dX10_judge_19 (by decide) ?_
      have hi := hw.1
      replace hw := hw.2
      refine R_sti F qm_45 um_45 dX10_judge_20 hi ?_
      refine R_aload_n F dX10_judge_21 rfl 0 rfl ?_
      refine gm_46 F in_judge dX10_judge_22 ?_
      refine R_iload_n F dX10_judge_25 rfl 1 rfl ?_
      refine R_ldcw F 1000000000 (List.mem_append_left _ (show Cond.constant RX10 302 1000000000 ∈ wo_judge by decide +kernel)) dX10_judge_26 ?_
      have hi := hw.1
      replace hw := hw.2
      refine R_sti F qm_46 um_46 dX10_judge_29 hi ?_
      refine R_aload_n F dX10_judge_30 rfl 0 rfl ?_
      refine gm_47 F in_judge dX10_judge_31 ?_
      refine R_iload_n F dX10_judge_34 rfl 1 rfl ?_
      refine R_ldcw F 1000000000 (List.mem_append_left _ (show Cond.constant RX10 302 1000000000 ∈ wo_judge by decide +kernel)) dX10_judge_35 ?_
      have hi := hw.1
      replace hw := hw.2
      refine R_sti F qm_47 um_47 dX10_judge_38 hi ?_
      refine R_iinc (q := 1) (v := (l1 + 1)) (lv' := [(1, .int (l1 + 1)), (0, .ref (B 0))]) F dX10_judge_39 rfl rfl (by decide) rfl ?_
      refine R_goto (tgt := 6) F dX10_judge_42 (by decide) ?_
      exact R_sub [1, 0] rfl (U_6 (l1 + 1) (sa (sa (sa σ 45 l1 0) 46 l1 1000000000) 47 l1 1000000000) hw)
  have C_47 : ∀ (l1 : Int32) (σ : VS), b_judge_47 X6 X47 X73 Q l1 σ → X47 l1 σ := by
    intro l1 σ hw
    unfold b_judge_47 at hw
    rw [hX47]
    show WB p l e (({ frames := 57, cells := 0, slots := 0, locals := 1398 } : Room)) s m (#[.ref (B 0)]) below meth c (MQ below (va_Qv (fun w => ∃ σ' : VS, Q σ' ∧ w = wm E B σ') (AftU E A) A) (#[.ref (B 0)]) s (({ frames := 57, cells := 0, slots := 0, locals := 1398 } : Room)).cells (({ frames := 57, cells := 0, slots := 0, locals := 1398 } : Room)).slots A) A E (wm E B) 3 47 [(0, .ref (B 0)), (1, .int l1)] [] σ
    refine R_iload_n F dX10_judge_47 rfl 1 rfl ?_
    refine R_aload_n F dX10_judge_48 rfl 0 rfl ?_
    refine gm_1 F in_judge dX10_judge_49 ?_
    refine R_icmp_ge (tgt := 134) F dX10_judge_52 (by decide) (fun hc => ?_) (fun hc => ?_)
    · replace hw := hw.1 hc
      exact R_vret (Qc := Q) F dX10_judge_134 hw
    · replace hw := hw.2 hc
      refine R_aload_n F dX10_judge_55 rfl 0 rfl ?_
      refine R_iload_n F dX10_judge_56 rfl 1 rfl ?_
      refine R_callI (As := [.int l1]) (C := RX10) (q0 := 0) (ci := 10) (N := 69) (T := TX10) (fs := mfl B) F (ct_isStart l E B _ l1 _ hw) (cwV 1 F.2.2.2.2.2.2.2.2.2.2 g_judge_isStart_303 rfl rfl rfl (by decide +kernel) ⟨Nat.le_of_ble_eq_true rfl, Nat.le_of_ble_eq_true rfl⟩) ⟨rfl, rfl⟩ rfl (fun _ => rfl) rfl rfl (Nat.le_of_ble_eq_true rfl) dX10_judge_57 (fun r3 σ4 hw => ?_)
      refine R_if_ne (tgt := 66) F dX10_judge_60 (by decide) (fun hc => ?_) (fun hc => ?_)
      · replace hw := hw.1 hc
        refine R_aload_n F dX10_judge_66 rfl 0 rfl ?_
        refine R_iload_n F dX10_judge_67 rfl 1 rfl ?_
        refine R_callV (As := [.int l1]) (C := RX10) (q0 := 0) (ci := 10) (N := 69) (T := TX10) (fs := mfl B) F (ct_walkFrom l E B _ l1 _ hw) (cwV 1 F.2.2.2.2.2.2.2.2.2.2 g_judge_walkFrom_306 rfl rfl rfl (by decide +kernel) ⟨Nat.le_of_ble_eq_true rfl, Nat.le_of_ble_eq_true rfl⟩) ⟨rfl, rfl⟩ rfl (fun _ => rfl) rfl rfl (Nat.le_of_ble_eq_true rfl) dX10_judge_68 (fun σ6 hw => ?_)
        refine R_iconst F 0 dX10_judge_71 (by decide) ?_
        refine R_istore_n (lv' := [(2, .int 0), (0, .ref (B 0)), (1, .int l1)]) F dX10_judge_72 rfl (by decide) rfl ?_
        exact R_sub [1, 2, 0] rfl (U_73 l1 0 σ6 hw)
      · replace hw := hw.2 hc
        refine R_goto (tgt := 128) F dX10_judge_63 (by decide) ?_
        exact R_sub [0, 1] rfl (J_128 l1 σ4 hw)
  have C_73 : ∀ (l1 : Int32) (l2 : Int32) (σ : VS), b_judge_73 X6 X47 X73 Q l1 l2 σ → X73 l1 l2 σ := by
    intro l1 l2 σ hw
    unfold b_judge_73 at hw
    rw [hX73]
    show WB p l e (({ frames := 57, cells := 0, slots := 0, locals := 1398 } : Room)) s m (#[.ref (B 0)]) below meth c (MQ below (va_Qv (fun w => ∃ σ' : VS, Q σ' ∧ w = wm E B σ') (AftU E A) A) (#[.ref (B 0)]) s (({ frames := 57, cells := 0, slots := 0, locals := 1398 } : Room)).cells (({ frames := 57, cells := 0, slots := 0, locals := 1398 } : Room)).slots A) A E (wm E B) 3 73 [(0, .ref (B 0)), (1, .int l1), (2, .int l2)] [] σ
    refine R_iload_n F dX10_judge_73 rfl 2 rfl ?_
    refine R_aload_n F dX10_judge_74 rfl 0 rfl ?_
    refine gm_1 F in_judge dX10_judge_75 ?_
    refine R_icmp_ge (tgt := 128) F dX10_judge_78 (by decide) (fun hc => ?_) (fun hc => ?_)
    · replace hw := hw.1 hc
      exact R_sub [0, 1] rfl (J_128 l1 σ hw)
    · replace hw := hw.2 hc
      refine R_aload_n F dX10_judge_81 rfl 0 rfl ?_
      refine R_iload_n F dX10_judge_82 rfl 2 rfl ?_
      refine R_callI (As := [.int l2]) (C := RX10) (q0 := 0) (ci := 10) (N := 69) (T := TX10) (fs := mfl B) F (ct_isTarget l E B _ l2 _ hw) (cwV 1 F.2.2.2.2.2.2.2.2.2.2 g_judge_isTarget_69 rfl rfl rfl (by decide +kernel) ⟨Nat.le_of_ble_eq_true rfl, Nat.le_of_ble_eq_true rfl⟩) ⟨rfl, rfl⟩ rfl (fun _ => rfl) rfl rfl (Nat.le_of_ble_eq_true rfl) dX10_judge_83 (fun r7 σ8 hw => ?_)
      refine R_if_eq (tgt := 122) F dX10_judge_86 (by decide) (fun hc => ?_) (fun hc => ?_)
      · replace hw := hw.1 hc
        exact R_sub [0, 1, 2] rfl (J_122 l1 l2 σ8 hw)
      · replace hw := hw.2 hc
        refine R_aload_n F dX10_judge_89 rfl 0 rfl ?_
        refine gm_7 F in_judge dX10_judge_90 ?_
        refine R_iconst F 4 dX10_judge_93 (by decide) ?_
        refine R_iload_n F dX10_judge_94 rfl 2 rfl ?_
        refine R_imul F dX10_judge_95 ?_
        refine R_ldi F qm_7 dX10_judge_96 hw.1 ?_
        replace hw := hw.2
        refine R_if_lt (tgt := 122) F dX10_judge_97 (by decide) (fun hc => ?_) (fun hc => ?_)
        · replace hw := hw.1 hc
          exact R_sub [0, 1, 2] rfl (J_122 l1 l2 σ8 hw)
        · replace hw := hw.2 hc
          refine R_aload_n F dX10_judge_100 rfl 0 rfl ?_
          refine gm_35 F in_judge dX10_judge_101 ?_
          refine R_aload_n F dX10_judge_104 rfl 0 rfl ?_
          refine gm_7 F in_judge dX10_judge_105 ?_
          refine R_iconst F 4 dX10_judge_108 (by decide) ?_
          refine R_iload_n F dX10_judge_109 rfl 2 rfl ?_
          refine R_imul F dX10_judge_110 ?_
          refine R_ldi F qm_7 dX10_judge_111 hw.1 ?_
          replace hw := hw.2
          refine R_ldi F qm_35 dX10_judge_112 hw.1 ?_
          replace hw := hw.2
          refine R_if_ne (tgt := 122) F dX10_judge_113 (by decide) (fun hc => ?_) (fun hc => ?_)
          · replace hw := hw.1 hc
            exact R_sub [0, 1, 2] rfl (J_122 l1 l2 σ8 hw)
          · replace hw := hw.2 hc
            refine R_aload_n F dX10_judge_116 rfl 0 rfl ?_
            refine R_iload_n F dX10_judge_117 rfl 1 rfl ?_
            refine R_iload_n F dX10_judge_118 rfl 2 rfl ?_
            refine R_callV (As := [.int l1, .int l2]) (C := RX10) (q0 := 0) (ci := 10) (N := 69) (T := TX10) (fs := mfl B) F (ct_reach l E B _ l1 l2 _ hw) (cwV 2 F.2.2.2.2.2.2.2.2.2.2 g_judge_reach_309 rfl rfl rfl (by decide +kernel) ⟨Nat.le_of_ble_eq_true rfl, Nat.le_of_ble_eq_true rfl⟩) ⟨rfl, rfl⟩ rfl (fun _ => rfl) rfl rfl (Nat.le_of_ble_eq_true rfl) dX10_judge_119 (fun σ10 hw => ?_)
            exact R_sub [0, 1, 2] rfl (J_122 l1 l2 σ10 hw)
  unfold wp_judge at hw
  replace hw := hw X6 X47 X73 C_6 C_47 C_73
  refine R_aload_n F dX10_judge_0 rfl 0 rfl ?_
  refine R_callV (As := []) (C := RX10) (q0 := 0) (ci := 10) (N := 69) (T := TX10) (fs := mfl B) F (ct_time l E B _ _ hw) (cwV 0 F.2.2.2.2.2.2.2.2.2.2 g_judge_time_282 rfl rfl rfl (by decide +kernel) ⟨Nat.le_of_ble_eq_true rfl, Nat.le_of_ble_eq_true rfl⟩) ⟨rfl, rfl⟩ rfl (fun _ => rfl) rfl rfl (Nat.le_of_ble_eq_true rfl) dX10_judge_1 (fun σ2 hw => ?_)
  refine R_iconst F 0 dX10_judge_4 (by decide) ?_
  refine R_istore_n (lv' := [(1, .int 0), (0, .ref (B 0))]) F dX10_judge_5 rfl (by decide) rfl ?_
  exact R_sub [1, 0] rfl (U_6 0 σ2 hw)
