def b_lookUp_335 (X38 : Int32 → Int32 → Int32 → Int32 → Int32 → Int32 → VS → Prop) (X57 : Int32 → Int32 → Int32 → Int32 → Int32 → Int32 → Int32 → VS → Prop) (Q : Int32 → VS → Prop) (k0 : Int64) (σ : VS) : Prop := Q ((k0).toInt32) σ
def b_lookUp_305 (X38 : Int32 → Int32 → Int32 → Int32 → Int32 → Int32 → VS → Prop) (X57 : Int32 → Int32 → Int32 → Int32 → Int32 → Int32 → Int32 → VS → Prop) (Q : Int32 → VS → Prop) (l5 : Int32) (l12 : Int64) (l14 : Int64) (l21 : Int64) (σ : VS) : Prop := (∀ x36 : Int64, x36 = (l12 * l14) → ((l5.toInt = 0 → (¬ x36 = 0 ∧ b_lookUp_335 X38 X57 Q (l21 / x36) σ)) ∧ (l5.toInt ≠ 0 → (¬ x36 = 0 ∧ b_lookUp_335 X38 X57 Q (((l21 + x36) - (1 : Int64)) / x36) σ))))
def b_lookUp_272 (X38 : Int32 → Int32 → Int32 → Int32 → Int32 → Int32 → VS → Prop) (X57 : Int32 → Int32 → Int32 → Int32 → Int32 → Int32 → Int32 → VS → Prop) (Q : Int32 → VS → Prop) (l5 : Int32) (l9 : Int32) (l10 : Int32) (l11 : Int32) (l12 : Int64) (l14 : Int64) (l16 : Int64) (l18 : Int64) (l20 : Int32) (l21 : Int64) (σ : VS) : Prop := ((l10.toInt = 0 → b_lookUp_305 X38 X57 Q l5 l12 l14 l21 σ) ∧ (l10.toInt ≠ 0 → ((l11.toInt = 0 → b_lookUp_305 X38 X57 Q l5 l12 l14 l21 σ) ∧ (l11.toInt ≠ 0 → wp_number (fun (r33 : Int64) (σ34 : VS) => (∀ x35 : Int64, x35 = (l21 + ((l16 * l18) * r33)) → b_lookUp_305 X38 X57 Q l5 l12 l14 x35 σ34)) (l20 + 1) (l9 + 1) σ))))
def b_lookUp_243 (X38 : Int32 → Int32 → Int32 → Int32 → Int32 → Int32 → VS → Prop) (X57 : Int32 → Int32 → Int32 → Int32 → Int32 → Int32 → Int32 → VS → Prop) (Q : Int32 → VS → Prop) (l5 : Int32) (l9 : Int32) (l10 : Int32) (l11 : Int32) (l12 : Int64) (l14 : Int64) (l16 : Int64) (l18 : Int64) (l20 : Int32) (l21 : Int64) (σ : VS) : Prop := ((l10.toInt = 0 → b_lookUp_272 X38 X57 Q l5 l9 l10 l11 l12 l14 l16 l18 l20 l21 σ) ∧ (l10.toInt ≠ 0 → wp_number (fun (r30 : Int64) (σ31 : VS) => (∀ x32 : Int64, x32 = (l21 + ((l16 * (l14 - l18)) * r30)) → b_lookUp_272 X38 X57 Q l5 l9 l10 l11 l12 l14 l16 l18 l20 x32 σ31)) (l20 + 1) l9 σ))
def b_lookUp_155 (X38 : Int32 → Int32 → Int32 → Int32 → Int32 → Int32 → VS → Prop) (X57 : Int32 → Int32 → Int32 → Int32 → Int32 → Int32 → Int32 → VS → Prop) (Q : Int32 → VS → Prop) (l1 : Int32) (l2 : Int32) (l5 : Int32) (l6 : Int32) (l7 : Int32) (l8 : Int32) (l9 : Int32) (l10 : Int32) (l11 : Int32) (l12 : Int64) (k0 : Int64) (σ : VS) : Prop := wp_loadAt (fun (r17 : Int32) (σ18 : VS) => (∀ x19 : Int64, x19 = ((l6 - r17)).toInt64 → wp_slopeAt (fun (r20 : Int32) (σ21 : VS) => (∀ x22 : Int64, x22 = ((l7 - r20)).toInt64 → (∀ x23 : Int32, x23 = (((8 * l1) + (4 * l2)) + l8) → wp_number (fun (r24 : Int64) (σ25 : VS) => (∀ x26 : Int64, x26 = (((l12 - x19) * (k0 - x22)) * r24) → ((l11.toInt = 0 → b_lookUp_243 X38 X57 Q l5 l9 l10 l11 l12 k0 x19 x22 x23 x26 σ25) ∧ (l11.toInt ≠ 0 → wp_number (fun (r27 : Int64) (σ28 : VS) => (∀ x29 : Int64, x29 = (x26 + (((l12 - x19) * x22) * r27)) → b_lookUp_243 X38 X57 Q l5 l9 l10 l11 l12 k0 x19 x22 x23 x29 σ28)) x23 (l9 + 1) σ25)))) x23 l9 σ21))) l9 σ18)) l8 σ
def b_lookUp_130 (X38 : Int32 → Int32 → Int32 → Int32 → Int32 → Int32 → VS → Prop) (X57 : Int32 → Int32 → Int32 → Int32 → Int32 → Int32 → Int32 → VS → Prop) (Q : Int32 → VS → Prop) (l1 : Int32) (l2 : Int32) (l5 : Int32) (l6 : Int32) (l7 : Int32) (l8 : Int32) (l9 : Int32) (l10 : Int32) (l11 : Int32) (k0 : Int64) (σ : VS) : Prop := ((l11.toInt = 0 → b_lookUp_155 X38 X57 Q l1 l2 l5 l6 l7 l8 l9 l10 l11 k0 (1 : Int64) σ) ∧ (l11.toInt ≠ 0 → wp_slopeAt (fun (r13 : Int32) (σ14 : VS) => wp_slopeAt (fun (r15 : Int32) (σ16 : VS) => b_lookUp_155 X38 X57 Q l1 l2 l5 l6 l7 l8 l9 l10 l11 k0 (((r13 - r15)).toInt64) σ16) l9 σ14) (l9 + 1) σ))
def b_lookUp_105 (X38 : Int32 → Int32 → Int32 → Int32 → Int32 → Int32 → VS → Prop) (X57 : Int32 → Int32 → Int32 → Int32 → Int32 → Int32 → Int32 → VS → Prop) (Q : Int32 → VS → Prop) (l1 : Int32) (l2 : Int32) (l5 : Int32) (l6 : Int32) (l7 : Int32) (l8 : Int32) (l9 : Int32) (l10 : Int32) (k0 : Int32) (σ : VS) : Prop := ((l10.toInt = 0 → b_lookUp_130 X38 X57 Q l1 l2 l5 l6 l7 l8 l9 l10 k0 (1 : Int64) σ) ∧ (l10.toInt ≠ 0 → wp_loadAt (fun (r9 : Int32) (σ10 : VS) => wp_loadAt (fun (r11 : Int32) (σ12 : VS) => b_lookUp_130 X38 X57 Q l1 l2 l5 l6 l7 l8 l9 l10 k0 (((r9 - r11)).toInt64) σ12) l8 σ10) (l8 + 1) σ))
def b_lookUp_88 (X38 : Int32 → Int32 → Int32 → Int32 → Int32 → Int32 → VS → Prop) (X57 : Int32 → Int32 → Int32 → Int32 → Int32 → Int32 → Int32 → VS → Prop) (Q : Int32 → VS → Prop) (l1 : Int32) (l2 : Int32) (l5 : Int32) (l6 : Int32) (l7 : Int32) (l8 : Int32) (l9 : Int32) (k0 : Int32) (σ : VS) : Prop := wp_slopeAt (fun (r7 : Int32) (σ8 : VS) => ((l7.toInt ≤ r7.toInt → b_lookUp_105 X38 X57 Q l1 l2 l5 l6 l7 l8 l9 k0 0 σ8) ∧ (r7.toInt < l7.toInt → b_lookUp_105 X38 X57 Q l1 l2 l5 l6 l7 l8 l9 k0 1 σ8))) l9 σ
def b_lookUp_57 (X38 : Int32 → Int32 → Int32 → Int32 → Int32 → Int32 → VS → Prop) (X57 : Int32 → Int32 → Int32 → Int32 → Int32 → Int32 → Int32 → VS → Prop) (Q : Int32 → VS → Prop) (l1 : Int32) (l2 : Int32) (l5 : Int32) (l6 : Int32) (l7 : Int32) (l8 : Int32) (l9 : Int32) (σ : VS) : Prop := wp_slopeAt (fun (r3 : Int32) (σ4 : VS) => ((r3.toInt ≤ l7.toInt → wp_loadAt (fun (r5 : Int32) (σ6 : VS) => ((l6.toInt ≤ r5.toInt → b_lookUp_88 X38 X57 Q l1 l2 l5 l6 l7 l8 l9 0 σ6) ∧ (r5.toInt < l6.toInt → b_lookUp_88 X38 X57 Q l1 l2 l5 l6 l7 l8 l9 1 σ6))) l8 σ4) ∧ (l7.toInt < r3.toInt → X57 l1 l2 l5 l6 l7 l8 (l9 + (-1)) σ4))) l9 σ
def b_lookUp_38 (X38 : Int32 → Int32 → Int32 → Int32 → Int32 → Int32 → VS → Prop) (X57 : Int32 → Int32 → Int32 → Int32 → Int32 → Int32 → Int32 → VS → Prop) (Q : Int32 → VS → Prop) (l1 : Int32) (l2 : Int32) (l5 : Int32) (l6 : Int32) (l7 : Int32) (l8 : Int32) (σ : VS) : Prop := wp_loadAt (fun (r1 : Int32) (σ2 : VS) => ((r1.toInt ≤ l6.toInt → X57 l1 l2 l5 l6 l7 l8 2 σ2) ∧ (l6.toInt < r1.toInt → X38 l1 l2 l5 l6 l7 (l8 + (-1)) σ2))) l8 σ
def b_lookUp_33 (X38 : Int32 → Int32 → Int32 → Int32 → Int32 → Int32 → VS → Prop) (X57 : Int32 → Int32 → Int32 → Int32 → Int32 → Int32 → Int32 → VS → Prop) (Q : Int32 → VS → Prop) (l1 : Int32) (l2 : Int32) (l5 : Int32) (l6 : Int32) (k0 : Int32) (σ : VS) : Prop := X38 l1 l2 l5 l6 k0 3 σ
def b_lookUp_17 (X38 : Int32 → Int32 → Int32 → Int32 → Int32 → Int32 → VS → Prop) (X57 : Int32 → Int32 → Int32 → Int32 → Int32 → Int32 → Int32 → VS → Prop) (Q : Int32 → VS → Prop) (l1 : Int32) (l2 : Int32) (l4 : Int32) (l5 : Int32) (k0 : Int32) (σ : VS) : Prop := ((l4.toInt ≤ 64 → b_lookUp_33 X38 X57 Q l1 l2 l5 k0 l4 σ) ∧ (64 < l4.toInt → b_lookUp_33 X38 X57 Q l1 l2 l5 k0 64 σ))
def wp_lookUp (Q : Int32 → VS → Prop) (p1 : Int32) (p2 : Int32) (p3 : Int32) (p4 : Int32) (p5 : Int32) (σ : VS) : Prop := ∀ (X38 : Int32 → Int32 → Int32 → Int32 → Int32 → Int32 → VS → Prop) (X57 : Int32 → Int32 → Int32 → Int32 → Int32 → Int32 → Int32 → VS → Prop), (∀ (l1 : Int32) (l2 : Int32) (l5 : Int32) (l6 : Int32) (l7 : Int32) (l8 : Int32) (σ : VS), b_lookUp_38 X38 X57 Q l1 l2 l5 l6 l7 l8 σ → X38 l1 l2 l5 l6 l7 l8 σ) → (∀ (l1 : Int32) (l2 : Int32) (l5 : Int32) (l6 : Int32) (l7 : Int32) (l8 : Int32) (l9 : Int32) (σ : VS), b_lookUp_57 X38 X57 Q l1 l2 l5 l6 l7 l8 l9 σ → X57 l1 l2 l5 l6 l7 l8 l9 σ) → ((p3.toInt ≤ 64 → b_lookUp_17 X38 X57 Q p1 p2 p4 p5 p3 (sf σ 30 0)) ∧ (64 < p3.toInt → b_lookUp_17 X38 X57 Q p1 p2 p4 p5 64 (sf σ 30 0)))
theorem dX10_lookUp_0 : decode cX10_lookUp 0 = .ok (.aload_n 0, 1) := by decide +kernel
theorem dX10_lookUp_1 : decode cX10_lookUp 1 = .ok (.iconst 0, 1) := by decide +kernel
theorem dX10_lookUp_2 : decode cX10_lookUp 2 = .ok (.putfield 225, 3) := by decide +kernel
theorem dX10_lookUp_5 : decode cX10_lookUp 5 = .ok (.iload_n 3, 1) := by decide +kernel
theorem dX10_lookUp_6 : decode cX10_lookUp 6 = .ok (.bipush 64, 2) := by decide +kernel
theorem dX10_lookUp_8 : decode cX10_lookUp 8 = .ok (.if_icmp .le 8, 3) := by decide +kernel
theorem dX10_lookUp_16 : decode cX10_lookUp 16 = .ok (.iload_n 3, 1) := by decide +kernel
theorem dX10_lookUp_11 : decode cX10_lookUp 11 = .ok (.bipush 64, 2) := by decide +kernel
theorem dX10_lookUp_13 : decode cX10_lookUp 13 = .ok (.goto 4, 3) := by decide +kernel
theorem dX10_lookUp_17 : decode cX10_lookUp 17 = .ok (.istore 6, 2) := by decide +kernel
theorem dX10_lookUp_19 : decode cX10_lookUp 19 = .ok (.iload 4, 2) := by decide +kernel
theorem dX10_lookUp_21 : decode cX10_lookUp 21 = .ok (.bipush 64, 2) := by decide +kernel
theorem dX10_lookUp_23 : decode cX10_lookUp 23 = .ok (.if_icmp .le 8, 3) := by decide +kernel
theorem dX10_lookUp_31 : decode cX10_lookUp 31 = .ok (.iload 4, 2) := by decide +kernel
theorem dX10_lookUp_26 : decode cX10_lookUp 26 = .ok (.bipush 64, 2) := by decide +kernel
theorem dX10_lookUp_28 : decode cX10_lookUp 28 = .ok (.goto 5, 3) := by decide +kernel
theorem dX10_lookUp_33 : decode cX10_lookUp 33 = .ok (.istore 7, 2) := by decide +kernel
theorem dX10_lookUp_35 : decode cX10_lookUp 35 = .ok (.iconst 3, 1) := by decide +kernel
theorem dX10_lookUp_36 : decode cX10_lookUp 36 = .ok (.istore 8, 2) := by decide +kernel
theorem dX10_lookUp_38 : decode cX10_lookUp 38 = .ok (.iload 8, 2) := by decide +kernel
theorem dX10_lookUp_40 : decode cX10_lookUp 40 = .ok (.invokestatic 228, 3) := by decide +kernel
theorem dX10_lookUp_43 : decode cX10_lookUp 43 = .ok (.iload 6, 2) := by decide +kernel
theorem dX10_lookUp_45 : decode cX10_lookUp 45 = .ok (.if_icmp .le 9, 3) := by decide +kernel
theorem dX10_lookUp_54 : decode cX10_lookUp 54 = .ok (.iconst 2, 1) := by decide +kernel
theorem dX10_lookUp_55 : decode cX10_lookUp 55 = .ok (.istore 9, 2) := by decide +kernel
theorem dX10_lookUp_48 : decode cX10_lookUp 48 = .ok (.iinc 8 (-1), 3) := by decide +kernel
theorem dX10_lookUp_51 : decode cX10_lookUp 51 = .ok (.goto (-13), 3) := by decide +kernel
theorem dX10_lookUp_57 : decode cX10_lookUp 57 = .ok (.iload 9, 2) := by decide +kernel
theorem dX10_lookUp_59 : decode cX10_lookUp 59 = .ok (.invokestatic 232, 3) := by decide +kernel
theorem dX10_lookUp_62 : decode cX10_lookUp 62 = .ok (.iload 7, 2) := by decide +kernel
theorem dX10_lookUp_64 : decode cX10_lookUp 64 = .ok (.if_icmp .le 9, 3) := by decide +kernel
theorem dX10_lookUp_73 : decode cX10_lookUp 73 = .ok (.iload 8, 2) := by decide +kernel
theorem dX10_lookUp_75 : decode cX10_lookUp 75 = .ok (.invokestatic 228, 3) := by decide +kernel
theorem dX10_lookUp_78 : decode cX10_lookUp 78 = .ok (.iload 6, 2) := by decide +kernel
theorem dX10_lookUp_80 : decode cX10_lookUp 80 = .ok (.if_icmp .ge 7, 3) := by decide +kernel
theorem dX10_lookUp_87 : decode cX10_lookUp 87 = .ok (.iconst 0, 1) := by decide +kernel
theorem dX10_lookUp_83 : decode cX10_lookUp 83 = .ok (.iconst 1, 1) := by decide +kernel
theorem dX10_lookUp_84 : decode cX10_lookUp 84 = .ok (.goto 4, 3) := by decide +kernel
theorem dX10_lookUp_67 : decode cX10_lookUp 67 = .ok (.iinc 9 (-1), 3) := by decide +kernel
theorem dX10_lookUp_70 : decode cX10_lookUp 70 = .ok (.goto (-13), 3) := by decide +kernel
theorem dX10_lookUp_88 : decode cX10_lookUp 88 = .ok (.istore 10, 2) := by decide +kernel
theorem dX10_lookUp_90 : decode cX10_lookUp 90 = .ok (.iload 9, 2) := by decide +kernel
theorem dX10_lookUp_92 : decode cX10_lookUp 92 = .ok (.invokestatic 232, 3) := by decide +kernel
theorem dX10_lookUp_95 : decode cX10_lookUp 95 = .ok (.iload 7, 2) := by decide +kernel
theorem dX10_lookUp_97 : decode cX10_lookUp 97 = .ok (.if_icmp .ge 7, 3) := by decide +kernel
theorem dX10_lookUp_104 : decode cX10_lookUp 104 = .ok (.iconst 0, 1) := by decide +kernel
theorem dX10_lookUp_100 : decode cX10_lookUp 100 = .ok (.iconst 1, 1) := by decide +kernel
theorem dX10_lookUp_101 : decode cX10_lookUp 101 = .ok (.goto 4, 3) := by decide +kernel
theorem dX10_lookUp_105 : decode cX10_lookUp 105 = .ok (.istore 11, 2) := by decide +kernel
theorem dX10_lookUp_107 : decode cX10_lookUp 107 = .ok (.iload 10, 2) := by decide +kernel
theorem dX10_lookUp_109 : decode cX10_lookUp 109 = .ok (.ifCond .eq 20, 3) := by decide +kernel
theorem dX10_lookUp_129 : decode cX10_lookUp 129 = .ok (.lconst 1, 1) := by decide +kernel
theorem dX10_lookUp_112 : decode cX10_lookUp 112 = .ok (.iload 8, 2) := by decide +kernel
theorem dX10_lookUp_114 : decode cX10_lookUp 114 = .ok (.iconst 1, 1) := by decide +kernel
theorem dX10_lookUp_115 : decode cX10_lookUp 115 = .ok (.iadd, 1) := by decide +kernel
theorem dX10_lookUp_116 : decode cX10_lookUp 116 = .ok (.invokestatic 228, 3) := by decide +kernel
theorem dX10_lookUp_119 : decode cX10_lookUp 119 = .ok (.iload 8, 2) := by decide +kernel
theorem dX10_lookUp_121 : decode cX10_lookUp 121 = .ok (.invokestatic 228, 3) := by decide +kernel
theorem dX10_lookUp_124 : decode cX10_lookUp 124 = .ok (.isub, 1) := by decide +kernel
theorem dX10_lookUp_125 : decode cX10_lookUp 125 = .ok (.i2l, 1) := by decide +kernel
theorem dX10_lookUp_126 : decode cX10_lookUp 126 = .ok (.goto 4, 3) := by decide +kernel
theorem dX10_lookUp_130 : decode cX10_lookUp 130 = .ok (.lstore 12, 2) := by decide +kernel
theorem dX10_lookUp_132 : decode cX10_lookUp 132 = .ok (.iload 11, 2) := by decide +kernel
theorem dX10_lookUp_134 : decode cX10_lookUp 134 = .ok (.ifCond .eq 20, 3) := by decide +kernel
theorem dX10_lookUp_154 : decode cX10_lookUp 154 = .ok (.lconst 1, 1) := by decide +kernel
theorem dX10_lookUp_137 : decode cX10_lookUp 137 = .ok (.iload 9, 2) := by decide +kernel
theorem dX10_lookUp_139 : decode cX10_lookUp 139 = .ok (.iconst 1, 1) := by decide +kernel
theorem dX10_lookUp_140 : decode cX10_lookUp 140 = .ok (.iadd, 1) := by decide +kernel
theorem dX10_lookUp_141 : decode cX10_lookUp 141 = .ok (.invokestatic 232, 3) := by decide +kernel
theorem dX10_lookUp_144 : decode cX10_lookUp 144 = .ok (.iload 9, 2) := by decide +kernel
theorem dX10_lookUp_146 : decode cX10_lookUp 146 = .ok (.invokestatic 232, 3) := by decide +kernel
theorem dX10_lookUp_149 : decode cX10_lookUp 149 = .ok (.isub, 1) := by decide +kernel
theorem dX10_lookUp_150 : decode cX10_lookUp 150 = .ok (.i2l, 1) := by decide +kernel
theorem dX10_lookUp_151 : decode cX10_lookUp 151 = .ok (.goto 4, 3) := by decide +kernel
theorem dX10_lookUp_155 : decode cX10_lookUp 155 = .ok (.lstore 14, 2) := by decide +kernel
theorem dX10_lookUp_157 : decode cX10_lookUp 157 = .ok (.iload 6, 2) := by decide +kernel
theorem dX10_lookUp_159 : decode cX10_lookUp 159 = .ok (.iload 8, 2) := by decide +kernel
theorem dX10_lookUp_161 : decode cX10_lookUp 161 = .ok (.invokestatic 228, 3) := by decide +kernel
theorem dX10_lookUp_164 : decode cX10_lookUp 164 = .ok (.isub, 1) := by decide +kernel
theorem dX10_lookUp_165 : decode cX10_lookUp 165 = .ok (.i2l, 1) := by decide +kernel
theorem dX10_lookUp_166 : decode cX10_lookUp 166 = .ok (.lstore 16, 2) := by decide +kernel
theorem dX10_lookUp_168 : decode cX10_lookUp 168 = .ok (.iload 7, 2) := by decide +kernel
theorem dX10_lookUp_170 : decode cX10_lookUp 170 = .ok (.iload 9, 2) := by decide +kernel
theorem dX10_lookUp_172 : decode cX10_lookUp 172 = .ok (.invokestatic 232, 3) := by decide +kernel
theorem dX10_lookUp_175 : decode cX10_lookUp 175 = .ok (.isub, 1) := by decide +kernel
theorem dX10_lookUp_176 : decode cX10_lookUp 176 = .ok (.i2l, 1) := by decide +kernel
theorem dX10_lookUp_177 : decode cX10_lookUp 177 = .ok (.lstore 18, 2) := by decide +kernel
theorem dX10_lookUp_179 : decode cX10_lookUp 179 = .ok (.bipush 8, 2) := by decide +kernel
theorem dX10_lookUp_181 : decode cX10_lookUp 181 = .ok (.iload_n 1, 1) := by decide +kernel
theorem dX10_lookUp_182 : decode cX10_lookUp 182 = .ok (.imul, 1) := by decide +kernel
theorem dX10_lookUp_183 : decode cX10_lookUp 183 = .ok (.iconst 4, 1) := by decide +kernel
theorem dX10_lookUp_184 : decode cX10_lookUp 184 = .ok (.iload_n 2, 1) := by decide +kernel
theorem dX10_lookUp_185 : decode cX10_lookUp 185 = .ok (.imul, 1) := by decide +kernel
theorem dX10_lookUp_186 : decode cX10_lookUp 186 = .ok (.iadd, 1) := by decide +kernel
theorem dX10_lookUp_187 : decode cX10_lookUp 187 = .ok (.iload 8, 2) := by decide +kernel
theorem dX10_lookUp_189 : decode cX10_lookUp 189 = .ok (.iadd, 1) := by decide +kernel
theorem dX10_lookUp_190 : decode cX10_lookUp 190 = .ok (.istore 20, 2) := by decide +kernel
theorem dX10_lookUp_192 : decode cX10_lookUp 192 = .ok (.lload 12, 2) := by decide +kernel
theorem dX10_lookUp_194 : decode cX10_lookUp 194 = .ok (.lload 16, 2) := by decide +kernel
theorem dX10_lookUp_196 : decode cX10_lookUp 196 = .ok (.lsub, 1) := by decide +kernel
theorem dX10_lookUp_197 : decode cX10_lookUp 197 = .ok (.lload 14, 2) := by decide +kernel
theorem dX10_lookUp_199 : decode cX10_lookUp 199 = .ok (.lload 18, 2) := by decide +kernel
theorem dX10_lookUp_201 : decode cX10_lookUp 201 = .ok (.lsub, 1) := by decide +kernel
theorem dX10_lookUp_202 : decode cX10_lookUp 202 = .ok (.lmul, 1) := by decide +kernel
theorem dX10_lookUp_203 : decode cX10_lookUp 203 = .ok (.aload_n 0, 1) := by decide +kernel
theorem dX10_lookUp_204 : decode cX10_lookUp 204 = .ok (.iload 20, 2) := by decide +kernel
theorem dX10_lookUp_206 : decode cX10_lookUp 206 = .ok (.iload 9, 2) := by decide +kernel
theorem dX10_lookUp_208 : decode cX10_lookUp 208 = .ok (.invokevirtual 235, 3) := by decide +kernel
theorem dX10_lookUp_211 : decode cX10_lookUp 211 = .ok (.lmul, 1) := by decide +kernel
theorem dX10_lookUp_212 : decode cX10_lookUp 212 = .ok (.lstore 21, 2) := by decide +kernel
theorem dX10_lookUp_214 : decode cX10_lookUp 214 = .ok (.iload 11, 2) := by decide +kernel
theorem dX10_lookUp_216 : decode cX10_lookUp 216 = .ok (.ifCond .eq 27, 3) := by decide +kernel
theorem dX10_lookUp_219 : decode cX10_lookUp 219 = .ok (.lload 21, 2) := by decide +kernel
theorem dX10_lookUp_221 : decode cX10_lookUp 221 = .ok (.lload 12, 2) := by decide +kernel
theorem dX10_lookUp_223 : decode cX10_lookUp 223 = .ok (.lload 16, 2) := by decide +kernel
theorem dX10_lookUp_225 : decode cX10_lookUp 225 = .ok (.lsub, 1) := by decide +kernel
theorem dX10_lookUp_226 : decode cX10_lookUp 226 = .ok (.lload 18, 2) := by decide +kernel
theorem dX10_lookUp_228 : decode cX10_lookUp 228 = .ok (.lmul, 1) := by decide +kernel
theorem dX10_lookUp_229 : decode cX10_lookUp 229 = .ok (.aload_n 0, 1) := by decide +kernel
theorem dX10_lookUp_230 : decode cX10_lookUp 230 = .ok (.iload 20, 2) := by decide +kernel
theorem dX10_lookUp_232 : decode cX10_lookUp 232 = .ok (.iload 9, 2) := by decide +kernel
theorem dX10_lookUp_234 : decode cX10_lookUp 234 = .ok (.iconst 1, 1) := by decide +kernel
theorem dX10_lookUp_235 : decode cX10_lookUp 235 = .ok (.iadd, 1) := by decide +kernel
theorem dX10_lookUp_236 : decode cX10_lookUp 236 = .ok (.invokevirtual 235, 3) := by decide +kernel
theorem dX10_lookUp_239 : decode cX10_lookUp 239 = .ok (.lmul, 1) := by decide +kernel
theorem dX10_lookUp_240 : decode cX10_lookUp 240 = .ok (.ladd, 1) := by decide +kernel
theorem dX10_lookUp_241 : decode cX10_lookUp 241 = .ok (.lstore 21, 2) := by decide +kernel
theorem dX10_lookUp_243 : decode cX10_lookUp 243 = .ok (.iload 10, 2) := by decide +kernel
theorem dX10_lookUp_245 : decode cX10_lookUp 245 = .ok (.ifCond .eq 27, 3) := by decide +kernel
theorem dX10_lookUp_248 : decode cX10_lookUp 248 = .ok (.lload 21, 2) := by decide +kernel
theorem dX10_lookUp_250 : decode cX10_lookUp 250 = .ok (.lload 16, 2) := by decide +kernel
theorem dX10_lookUp_252 : decode cX10_lookUp 252 = .ok (.lload 14, 2) := by decide +kernel
theorem dX10_lookUp_254 : decode cX10_lookUp 254 = .ok (.lload 18, 2) := by decide +kernel
theorem dX10_lookUp_256 : decode cX10_lookUp 256 = .ok (.lsub, 1) := by decide +kernel
theorem dX10_lookUp_257 : decode cX10_lookUp 257 = .ok (.lmul, 1) := by decide +kernel
theorem dX10_lookUp_258 : decode cX10_lookUp 258 = .ok (.aload_n 0, 1) := by decide +kernel
theorem dX10_lookUp_259 : decode cX10_lookUp 259 = .ok (.iload 20, 2) := by decide +kernel
theorem dX10_lookUp_261 : decode cX10_lookUp 261 = .ok (.iconst 1, 1) := by decide +kernel
theorem dX10_lookUp_262 : decode cX10_lookUp 262 = .ok (.iadd, 1) := by decide +kernel
theorem dX10_lookUp_263 : decode cX10_lookUp 263 = .ok (.iload 9, 2) := by decide +kernel
theorem dX10_lookUp_265 : decode cX10_lookUp 265 = .ok (.invokevirtual 235, 3) := by decide +kernel
theorem dX10_lookUp_268 : decode cX10_lookUp 268 = .ok (.lmul, 1) := by decide +kernel
theorem dX10_lookUp_269 : decode cX10_lookUp 269 = .ok (.ladd, 1) := by decide +kernel
theorem dX10_lookUp_270 : decode cX10_lookUp 270 = .ok (.lstore 21, 2) := by decide +kernel
theorem dX10_lookUp_272 : decode cX10_lookUp 272 = .ok (.iload 10, 2) := by decide +kernel
theorem dX10_lookUp_274 : decode cX10_lookUp 274 = .ok (.ifCond .eq 31, 3) := by decide +kernel
theorem dX10_lookUp_277 : decode cX10_lookUp 277 = .ok (.iload 11, 2) := by decide +kernel
theorem dX10_lookUp_279 : decode cX10_lookUp 279 = .ok (.ifCond .eq 26, 3) := by decide +kernel
theorem dX10_lookUp_282 : decode cX10_lookUp 282 = .ok (.lload 21, 2) := by decide +kernel
theorem dX10_lookUp_284 : decode cX10_lookUp 284 = .ok (.lload 16, 2) := by decide +kernel
theorem dX10_lookUp_286 : decode cX10_lookUp 286 = .ok (.lload 18, 2) := by decide +kernel
theorem dX10_lookUp_288 : decode cX10_lookUp 288 = .ok (.lmul, 1) := by decide +kernel
theorem dX10_lookUp_289 : decode cX10_lookUp 289 = .ok (.aload_n 0, 1) := by decide +kernel
theorem dX10_lookUp_290 : decode cX10_lookUp 290 = .ok (.iload 20, 2) := by decide +kernel
theorem dX10_lookUp_292 : decode cX10_lookUp 292 = .ok (.iconst 1, 1) := by decide +kernel
theorem dX10_lookUp_293 : decode cX10_lookUp 293 = .ok (.iadd, 1) := by decide +kernel
theorem dX10_lookUp_294 : decode cX10_lookUp 294 = .ok (.iload 9, 2) := by decide +kernel
theorem dX10_lookUp_296 : decode cX10_lookUp 296 = .ok (.iconst 1, 1) := by decide +kernel
theorem dX10_lookUp_297 : decode cX10_lookUp 297 = .ok (.iadd, 1) := by decide +kernel
theorem dX10_lookUp_298 : decode cX10_lookUp 298 = .ok (.invokevirtual 235, 3) := by decide +kernel
theorem dX10_lookUp_301 : decode cX10_lookUp 301 = .ok (.lmul, 1) := by decide +kernel
theorem dX10_lookUp_302 : decode cX10_lookUp 302 = .ok (.ladd, 1) := by decide +kernel
theorem dX10_lookUp_303 : decode cX10_lookUp 303 = .ok (.lstore 21, 2) := by decide +kernel
theorem dX10_lookUp_305 : decode cX10_lookUp 305 = .ok (.lload 12, 2) := by decide +kernel
theorem dX10_lookUp_307 : decode cX10_lookUp 307 = .ok (.lload 14, 2) := by decide +kernel
theorem dX10_lookUp_309 : decode cX10_lookUp 309 = .ok (.lmul, 1) := by decide +kernel
theorem dX10_lookUp_310 : decode cX10_lookUp 310 = .ok (.lstore 23, 2) := by decide +kernel
theorem dX10_lookUp_312 : decode cX10_lookUp 312 = .ok (.iload 5, 2) := by decide +kernel
theorem dX10_lookUp_314 : decode cX10_lookUp 314 = .ok (.ifCond .eq 16, 3) := by decide +kernel
theorem dX10_lookUp_330 : decode cX10_lookUp 330 = .ok (.lload 21, 2) := by decide +kernel
theorem dX10_lookUp_332 : decode cX10_lookUp 332 = .ok (.lload 23, 2) := by decide +kernel
theorem dX10_lookUp_334 : decode cX10_lookUp 334 = .ok (.ldiv, 1) := by decide +kernel
theorem dX10_lookUp_317 : decode cX10_lookUp 317 = .ok (.lload 21, 2) := by decide +kernel
theorem dX10_lookUp_319 : decode cX10_lookUp 319 = .ok (.lload 23, 2) := by decide +kernel
theorem dX10_lookUp_321 : decode cX10_lookUp 321 = .ok (.ladd, 1) := by decide +kernel
theorem dX10_lookUp_322 : decode cX10_lookUp 322 = .ok (.lconst 1, 1) := by decide +kernel
theorem dX10_lookUp_323 : decode cX10_lookUp 323 = .ok (.lsub, 1) := by decide +kernel
theorem dX10_lookUp_324 : decode cX10_lookUp 324 = .ok (.lload 23, 2) := by decide +kernel
theorem dX10_lookUp_326 : decode cX10_lookUp 326 = .ok (.ldiv, 1) := by decide +kernel
theorem dX10_lookUp_327 : decode cX10_lookUp 327 = .ok (.goto 8, 3) := by decide +kernel
theorem dX10_lookUp_335 : decode cX10_lookUp 335 = .ok (.l2i, 1) := by decide +kernel
theorem dX10_lookUp_336 : decode cX10_lookUp 336 = .ok (.ireturn, 1) := by decide +kernel
def wo_lookUp : List Cond := [.code yX10_lookUp cX10_lookUp 25 (some .int), .methodLink RX10 228 yX10_loadAt, .static yX10_loadAt, .initialized RX10, .methodLink RX10 232 yX10_slopeAt, .static yX10_slopeAt, .methodLink RX10 235 yX10_number, .instanceMethod yX10_number, .selects RX10 yX10_number yX10_number]
def wr_lookUp : List Cond := (wfX10 ++ (w_loadAt ++ (w_slopeAt ++ (w_number ++ ([])))))
def w_lookUp : List Cond := wo_lookUp ++ wr_lookUp
theorem wg_lookUp : GW w_lookUp := GW_app (GW_of (by decide +kernel)) (GW_app (wg_fX10) (GW_app (wg_loadAt) (GW_app (wg_slopeAt) (GW_app (wg_number) (GW_nil)))))
theorem in_lookUp : ∀ w ∈ wfX10, w ∈ w_lookUp := fun _ h => List.mem_append_right _ (List.mem_append_left _ h)
theorem g_lookUp_loadAt_228 : GoodIn w_lookUp (va_wsS RX10 228 yX10_loadAt w_loadAt) := goodIn_app (gi_left (goodIn_of _ (by decide +kernel))) (fun w h => ⟨List.mem_append_right _ (List.mem_append_right _ (List.mem_append_left _ h)), wg_loadAt w h⟩)
theorem g_lookUp_slopeAt_232 : GoodIn w_lookUp (va_wsS RX10 232 yX10_slopeAt w_slopeAt) := goodIn_app (gi_left (goodIn_of _ (by decide +kernel))) (fun w h => ⟨List.mem_append_right _ (List.mem_append_right _ (List.mem_append_right _ (List.mem_append_left _ h))), wg_slopeAt w h⟩)
theorem g_lookUp_number_235 : GoodIn w_lookUp (wsV RX10 235 RX10 yX10_number w_number) := goodIn_app (gi_left (goodIn_of _ (by decide +kernel))) (fun w h => ⟨List.mem_append_right _ (List.mem_append_right _ (List.mem_append_right _ (List.mem_append_right _ (List.mem_append_left _ h)))), wg_number w h⟩)
set_option maxHeartbeats 4000000 in
set_option maxRecDepth 100000 in
theorem ct_lookUp (l : Launch) (E : gE) (B : Nat → Nat) (Q : Int32 → VS → Prop) (p1 : Int32) (p2 : Int32) (p3 : Int32) (p4 : Int32) (p5 : Int32) (σ : VS) (hw : wp_lookUp Q p1 p2 p3 p4 p5 σ) : CtI l E yX10_lookUp w_lookUp (({ frames := 1, cells := 0, slots := 0, locals := 22 } : Room)) (wm E B σ) [.ref (B 0), .int p1, .int p2, .int p3, .int p4, .int p5] (fun r w => ∃ σ' : VS, Q r σ' ∧ w = wm E B σ') := by
  refine VC_I (cc := cX10_lookUp) (mL := 25) (rt := (some .int)) (lv0 := [(0, .ref (B 0)), (1, .int p1), (2, .int p2), (3, .int p3), (4, .int p4), (5, .int p5)]) rfl (by decide) rfl (Nat.le_of_ble_eq_true rfl) ?_
  intro p e s m below meth c A F
  replace F : Fx p s m _ meth c A E cX10_lookUp 25 (some .int) RX10 w_lookUp := F
  obtain ⟨X38, hX38⟩ : ∃ X : Int32 → Int32 → Int32 → Int32 → Int32 → Int32 → VS → Prop, X = fun l1 l2 l5 l6 l7 l8 σ => WB p l e (({ frames := 1, cells := 0, slots := 0, locals := 22 } : Room)) s m (#[.ref (B 0), .int p1, .int p2, .int p3, .int p4, .int p5]) below meth c (MQ below (va_Qi (fun r w => ∃ σ' : VS, Q r σ' ∧ w = wm E B σ') (AftU E A) A) (#[.ref (B 0), .int p1, .int p2, .int p3, .int p4, .int p5]) s (({ frames := 1, cells := 0, slots := 0, locals := 22 } : Room)).cells (({ frames := 1, cells := 0, slots := 0, locals := 22 } : Room)).slots A) A E (wm E B) 25 38 [(0, .ref (B 0)), (1, .int l1), (2, .int l2), (5, .int l5), (6, .int l6), (7, .int l7), (8, .int l8)] [] σ := ⟨_, rfl⟩
  have U_38 : ∀ (l1 : Int32) (l2 : Int32) (l5 : Int32) (l6 : Int32) (l7 : Int32) (l8 : Int32) (σ : VS), X38 l1 l2 l5 l6 l7 l8 σ → WB p l e (({ frames := 1, cells := 0, slots := 0, locals := 22 } : Room)) s m (#[.ref (B 0), .int p1, .int p2, .int p3, .int p4, .int p5]) below meth c (MQ below (va_Qi (fun r w => ∃ σ' : VS, Q r σ' ∧ w = wm E B σ') (AftU E A) A) (#[.ref (B 0), .int p1, .int p2, .int p3, .int p4, .int p5]) s (({ frames := 1, cells := 0, slots := 0, locals := 22 } : Room)).cells (({ frames := 1, cells := 0, slots := 0, locals := 22 } : Room)).slots A) A E (wm E B) 25 38 [(0, .ref (B 0)), (1, .int l1), (2, .int l2), (5, .int l5), (6, .int l6), (7, .int l7), (8, .int l8)] [] σ := by
    intro l1 l2 l5 l6 l7 l8 σ hw; rw [hX38] at hw; exact hw
  obtain ⟨X57, hX57⟩ : ∃ X : Int32 → Int32 → Int32 → Int32 → Int32 → Int32 → Int32 → VS → Prop, X = fun l1 l2 l5 l6 l7 l8 l9 σ => WB p l e (({ frames := 1, cells := 0, slots := 0, locals := 22 } : Room)) s m (#[.ref (B 0), .int p1, .int p2, .int p3, .int p4, .int p5]) below meth c (MQ below (va_Qi (fun r w => ∃ σ' : VS, Q r σ' ∧ w = wm E B σ') (AftU E A) A) (#[.ref (B 0), .int p1, .int p2, .int p3, .int p4, .int p5]) s (({ frames := 1, cells := 0, slots := 0, locals := 22 } : Room)).cells (({ frames := 1, cells := 0, slots := 0, locals := 22 } : Room)).slots A) A E (wm E B) 25 57 [(0, .ref (B 0)), (1, .int l1), (2, .int l2), (5, .int l5), (6, .int l6), (7, .int l7), (8, .int l8), (9, .int l9)] [] σ := ⟨_, rfl⟩
  have U_57 : ∀ (l1 : Int32) (l2 : Int32) (l5 : Int32) (l6 : Int32) (l7 : Int32) (l8 : Int32) (l9 : Int32) (σ : VS), X57 l1 l2 l5 l6 l7 l8 l9 σ → WB p l e (({ frames := 1, cells := 0, slots := 0, locals := 22 } : Room)) s m (#[.ref (B 0), .int p1, .int p2, .int p3, .int p4, .int p5]) below meth c (MQ below (va_Qi (fun r w => ∃ σ' : VS, Q r σ' ∧ w = wm E B σ') (AftU E A) A) (#[.ref (B 0), .int p1, .int p2, .int p3, .int p4, .int p5]) s (({ frames := 1, cells := 0, slots := 0, locals := 22 } : Room)).cells (({ frames := 1, cells := 0, slots := 0, locals := 22 } : Room)).slots A) A E (wm E B) 25 57 [(0, .ref (B 0)), (1, .int l1), (2, .int l2), (5, .int l5), (6, .int l6), (7, .int l7), (8, .int l8), (9, .int l9)] [] σ := by
    intro l1 l2 l5 l6 l7 l8 l9 σ hw; rw [hX57] at hw; exact hw
  have J_335 : ∀ (k0 : Int64) (σ : VS), b_lookUp_335 X38 X57 Q k0 σ → WB p l e (({ frames := 1, cells := 0, slots := 0, locals := 22 } : Room)) s m (#[.ref (B 0), .int p1, .int p2, .int p3, .int p4, .int p5]) below meth c (MQ below (va_Qi (fun r w => ∃ σ' : VS, Q r σ' ∧ w = wm E B σ') (AftU E A) A) (#[.ref (B 0), .int p1, .int p2, .int p3, .int p4, .int p5]) s (({ frames := 1, cells := 0, slots := 0, locals := 22 } : Room)).cells (({ frames := 1, cells := 0, slots := 0, locals := 22 } : Room)).slots A) A E (wm E B) 25 335 [] [.long k0] σ := by
    intro k0 σ hw
    unfold b_lookUp_335 at hw
    refine R_l2i F dX10_lookUp_335 ?_
    exact R_iret (Qc := Q) F rfl dX10_lookUp_336 hw
  have J_305 : ∀ (l5 : Int32) (l12 : Int64) (l14 : Int64) (l21 : Int64) (σ : VS), b_lookUp_305 X38 X57 Q l5 l12 l14 l21 σ → WB p l e (({ frames := 1, cells := 0, slots := 0, locals := 22 } : Room)) s m (#[.ref (B 0), .int p1, .int p2, .int p3, .int p4, .int p5]) below meth c (MQ below (va_Qi (fun r w => ∃ σ' : VS, Q r σ' ∧ w = wm E B σ') (AftU E A) A) (#[.ref (B 0), .int p1, .int p2, .int p3, .int p4, .int p5]) s (({ frames := 1, cells := 0, slots := 0, locals := 22 } : Room)).cells (({ frames := 1, cells := 0, slots := 0, locals := 22 } : Room)).slots A) A E (wm E B) 25 305 [(5, .int l5), (12, .long l12), (14, .long l14), (21, .long l21)] [] σ := by
    intro l5 l12 l14 l21 σ hw
    unfold b_lookUp_305 at hw
    refine R_lload F dX10_lookUp_305 1 rfl ?_
    refine R_lload F dX10_lookUp_307 2 rfl ?_
    refine R_lmul F dX10_lookUp_309 ?_
    refine R_topl (fun x36 ex36 => ?_)
    replace hw := hw x36 ex36
    refine R_lstore (lv' := [(23, .long x36), (5, .int l5), (12, .long l12), (14, .long l14), (21, .long l21)]) F dX10_lookUp_310 (by decide) rfl ?_
    refine R_iload F dX10_lookUp_312 1 rfl ?_
    refine R_if_eq (tgt := 330) F dX10_lookUp_314 (by decide) (fun hc => ?_) (fun hc => ?_)
    · replace hw := hw.1 hc
      refine R_lload F dX10_lookUp_330 4 rfl ?_
      refine R_lload F dX10_lookUp_332 0 rfl ?_
      refine R_ldiv F dX10_lookUp_334 hw.1 ?_
      replace hw := hw.2
      exact R_sub [] rfl (J_335 (l21 / x36) σ hw)
    · replace hw := hw.2 hc
      refine R_lload F dX10_lookUp_317 4 rfl ?_
      refine R_lload F dX10_lookUp_319 0 rfl ?_
      refine R_ladd F dX10_lookUp_321 ?_
      refine R_lconst F 1 dX10_lookUp_322 (by decide) ?_
      refine R_lsub F dX10_lookUp_323 ?_
      refine R_lload F dX10_lookUp_324 0 rfl ?_
      refine R_ldiv F dX10_lookUp_326 hw.1 ?_
      replace hw := hw.2
      refine R_goto (tgt := 335) F dX10_lookUp_327 (by decide) ?_
      exact R_sub [] rfl (J_335 (((l21 + x36) - (1 : Int64)) / x36) σ hw)
  have J_272 : ∀ (l5 : Int32) (l9 : Int32) (l10 : Int32) (l11 : Int32) (l12 : Int64) (l14 : Int64) (l16 : Int64) (l18 : Int64) (l20 : Int32) (l21 : Int64) (σ : VS), b_lookUp_272 X38 X57 Q l5 l9 l10 l11 l12 l14 l16 l18 l20 l21 σ → WB p l e (({ frames := 1, cells := 0, slots := 0, locals := 22 } : Room)) s m (#[.ref (B 0), .int p1, .int p2, .int p3, .int p4, .int p5]) below meth c (MQ below (va_Qi (fun r w => ∃ σ' : VS, Q r σ' ∧ w = wm E B σ') (AftU E A) A) (#[.ref (B 0), .int p1, .int p2, .int p3, .int p4, .int p5]) s (({ frames := 1, cells := 0, slots := 0, locals := 22 } : Room)).cells (({ frames := 1, cells := 0, slots := 0, locals := 22 } : Room)).slots A) A E (wm E B) 25 272 [(0, .ref (B 0)), (5, .int l5), (9, .int l9), (10, .int l10), (11, .int l11), (12, .long l12), (14, .long l14), (16, .long l16), (18, .long l18), (20, .int l20), (21, .long l21)] [] σ := by
    intro l5 l9 l10 l11 l12 l14 l16 l18 l20 l21 σ hw
    unfold b_lookUp_272 at hw
    refine R_iload F dX10_lookUp_272 3 rfl ?_
    refine R_if_eq (tgt := 305) F dX10_lookUp_274 (by decide) (fun hc => ?_) (fun hc => ?_)
    · replace hw := hw.1 hc
      exact R_sub [1, 5, 6, 10] rfl (J_305 l5 l12 l14 l21 σ hw)
    · replace hw := hw.2 hc
      refine R_iload F dX10_lookUp_277 4 rfl ?_
      refine R_if_eq (tgt := 305) F dX10_lookUp_279 (by decide) (fun hc => ?_) (fun hc => ?_)
      · replace hw := hw.1 hc
        exact R_sub [1, 5, 6, 10] rfl (J_305 l5 l12 l14 l21 σ hw)
      · replace hw := hw.2 hc
        refine R_lload F dX10_lookUp_282 10 rfl ?_
        refine R_lload F dX10_lookUp_284 7 rfl ?_
        refine R_lload F dX10_lookUp_286 8 rfl ?_
        refine R_lmul F dX10_lookUp_288 ?_
        refine R_aload_n F dX10_lookUp_289 rfl 0 rfl ?_
        refine R_iload F dX10_lookUp_290 9 rfl ?_
        refine R_iconst F 1 dX10_lookUp_292 (by decide) ?_
        refine R_iadd F dX10_lookUp_293 ?_
        refine R_iload F dX10_lookUp_294 2 rfl ?_
        refine R_iconst F 1 dX10_lookUp_296 (by decide) ?_
        refine R_iadd F dX10_lookUp_297 ?_
        refine R_callL (As := [.int (l20 + 1), .int (l9 + 1)]) (C := RX10) (q0 := 0) (ci := 10) (N := 69) (T := TX10) (fs := mfl B) F (ct_number l E B _ (l20 + 1) (l9 + 1) _ hw) (cwV 2 F.2.2.2.2.2.2.2.2.2.2 g_lookUp_number_235 rfl rfl rfl (by decide +kernel) ⟨Nat.le_of_ble_eq_true rfl, Nat.le_of_ble_eq_true rfl⟩) ⟨rfl, rfl⟩ rfl (fun _ => rfl) rfl rfl (Nat.le_of_ble_eq_true rfl) dX10_lookUp_298 (fun r33 σ34 hw => ?_)
        refine R_lmul F dX10_lookUp_301 ?_
        refine R_ladd F dX10_lookUp_302 ?_
        refine R_topl (fun x35 ex35 => ?_)
        replace hw := hw x35 ex35
        refine R_lstore (lv' := [(21, .long x35), (0, .ref (B 0)), (5, .int l5), (9, .int l9), (10, .int l10), (11, .int l11), (12, .long l12), (14, .long l14), (16, .long l16), (18, .long l18), (20, .int l20)]) F dX10_lookUp_303 (by decide) rfl ?_
        exact R_sub [2, 6, 7, 0] rfl (J_305 l5 l12 l14 x35 σ34 hw)
  have J_243 : ∀ (l5 : Int32) (l9 : Int32) (l10 : Int32) (l11 : Int32) (l12 : Int64) (l14 : Int64) (l16 : Int64) (l18 : Int64) (l20 : Int32) (l21 : Int64) (σ : VS), b_lookUp_243 X38 X57 Q l5 l9 l10 l11 l12 l14 l16 l18 l20 l21 σ → WB p l e (({ frames := 1, cells := 0, slots := 0, locals := 22 } : Room)) s m (#[.ref (B 0), .int p1, .int p2, .int p3, .int p4, .int p5]) below meth c (MQ below (va_Qi (fun r w => ∃ σ' : VS, Q r σ' ∧ w = wm E B σ') (AftU E A) A) (#[.ref (B 0), .int p1, .int p2, .int p3, .int p4, .int p5]) s (({ frames := 1, cells := 0, slots := 0, locals := 22 } : Room)).cells (({ frames := 1, cells := 0, slots := 0, locals := 22 } : Room)).slots A) A E (wm E B) 25 243 [(0, .ref (B 0)), (5, .int l5), (9, .int l9), (10, .int l10), (11, .int l11), (12, .long l12), (14, .long l14), (16, .long l16), (18, .long l18), (20, .int l20), (21, .long l21)] [] σ := by
    intro l5 l9 l10 l11 l12 l14 l16 l18 l20 l21 σ hw
    unfold b_lookUp_243 at hw
    refine R_iload F dX10_lookUp_243 3 rfl ?_
    refine R_if_eq (tgt := 272) F dX10_lookUp_245 (by decide) (fun hc => ?_) (fun hc => ?_)
    · replace hw := hw.1 hc
      exact R_sub [0, 1, 2, 3, 4, 5, 6, 7, 8, 9, 10] rfl (J_272 l5 l9 l10 l11 l12 l14 l16 l18 l20 l21 σ hw)
    · replace hw := hw.2 hc
      refine R_lload F dX10_lookUp_248 10 rfl ?_
      refine R_lload F dX10_lookUp_250 7 rfl ?_
      refine R_lload F dX10_lookUp_252 6 rfl ?_
      refine R_lload F dX10_lookUp_254 8 rfl ?_
      refine R_lsub F dX10_lookUp_256 ?_
      refine R_lmul F dX10_lookUp_257 ?_
      refine R_aload_n F dX10_lookUp_258 rfl 0 rfl ?_
      refine R_iload F dX10_lookUp_259 9 rfl ?_
      refine R_iconst F 1 dX10_lookUp_261 (by decide) ?_
      refine R_iadd F dX10_lookUp_262 ?_
      refine R_iload F dX10_lookUp_263 2 rfl ?_
      refine R_callL (As := [.int (l20 + 1), .int l9]) (C := RX10) (q0 := 0) (ci := 10) (N := 69) (T := TX10) (fs := mfl B) F (ct_number l E B _ (l20 + 1) l9 _ hw) (cwV 2 F.2.2.2.2.2.2.2.2.2.2 g_lookUp_number_235 rfl rfl rfl (by decide +kernel) ⟨Nat.le_of_ble_eq_true rfl, Nat.le_of_ble_eq_true rfl⟩) ⟨rfl, rfl⟩ rfl (fun _ => rfl) rfl rfl (Nat.le_of_ble_eq_true rfl) dX10_lookUp_265 (fun r30 σ31 hw => ?_)
      refine R_lmul F dX10_lookUp_268 ?_
      refine R_ladd F dX10_lookUp_269 ?_
      refine R_topl (fun x32 ex32 => ?_)
      replace hw := hw x32 ex32
      refine R_lstore (lv' := [(21, .long x32), (0, .ref (B 0)), (5, .int l5), (9, .int l9), (10, .int l10), (11, .int l11), (12, .long l12), (14, .long l14), (16, .long l16), (18, .long l18), (20, .int l20)]) F dX10_lookUp_270 (by decide) rfl ?_
      exact R_sub [1, 2, 3, 4, 5, 6, 7, 8, 9, 10, 0] rfl (J_272 l5 l9 l10 l11 l12 l14 l16 l18 l20 x32 σ31 hw)
  have J_155 : ∀ (l1 : Int32) (l2 : Int32) (l5 : Int32) (l6 : Int32) (l7 : Int32) (l8 : Int32) (l9 : Int32) (l10 : Int32) (l11 : Int32) (l12 : Int64) (k0 : Int64) (σ : VS), b_lookUp_155 X38 X57 Q l1 l2 l5 l6 l7 l8 l9 l10 l11 l12 k0 σ → WB p l e (({ frames := 1, cells := 0, slots := 0, locals := 22 } : Room)) s m (#[.ref (B 0), .int p1, .int p2, .int p3, .int p4, .int p5]) below meth c (MQ below (va_Qi (fun r w => ∃ σ' : VS, Q r σ' ∧ w = wm E B σ') (AftU E A) A) (#[.ref (B 0), .int p1, .int p2, .int p3, .int p4, .int p5]) s (({ frames := 1, cells := 0, slots := 0, locals := 22 } : Room)).cells (({ frames := 1, cells := 0, slots := 0, locals := 22 } : Room)).slots A) A E (wm E B) 25 155 [(0, .ref (B 0)), (1, .int l1), (2, .int l2), (5, .int l5), (6, .int l6), (7, .int l7), (8, .int l8), (9, .int l9), (10, .int l10), (11, .int l11), (12, .long l12)] [.long k0] σ := by
    intro l1 l2 l5 l6 l7 l8 l9 l10 l11 l12 k0 σ hw
    unfold b_lookUp_155 at hw
    refine R_lstore (lv' := [(14, .long k0), (0, .ref (B 0)), (1, .int l1), (2, .int l2), (5, .int l5), (6, .int l6), (7, .int l7), (8, .int l8), (9, .int l9), (10, .int l10), (11, .int l11), (12, .long l12)]) F dX10_lookUp_155 (by decide) rfl ?_
    refine R_iload F dX10_lookUp_157 5 rfl ?_
    refine R_iload F dX10_lookUp_159 7 rfl ?_
    refine R_callIS (As := [.int l8]) (C := RX10) (q0 := 0) (ci := 10) (b := 0) (N := 69) (T := TX10) (fs := mfl B) F (ct_loadAt l E B _ l8 _ hw) (va_cwS 1 F.2.2.2.2.2.2.2.2.2.2 g_lookUp_loadAt_228 rfl rfl rfl (by decide +kernel) ⟨Nat.le_of_ble_eq_true rfl, Nat.le_of_ble_eq_true rfl⟩) ⟨rfl, rfl⟩ rfl rfl (Nat.le_of_ble_eq_true rfl) dX10_lookUp_161 (fun r17 σ18 hw => ?_)
    refine R_isub F dX10_lookUp_164 ?_
    refine R_i2l F dX10_lookUp_165 ?_
    refine R_topl (fun x19 ex19 => ?_)
    replace hw := hw x19 ex19
    refine R_lstore (lv' := [(16, .long x19), (14, .long k0), (0, .ref (B 0)), (1, .int l1), (2, .int l2), (5, .int l5), (6, .int l6), (7, .int l7), (8, .int l8), (9, .int l9), (10, .int l10), (11, .int l11), (12, .long l12)]) F dX10_lookUp_166 (by decide) rfl ?_
    refine R_iload F dX10_lookUp_168 7 rfl ?_
    refine R_iload F dX10_lookUp_170 9 rfl ?_
    refine R_callIS (As := [.int l9]) (C := RX10) (q0 := 0) (ci := 10) (b := 0) (N := 69) (T := TX10) (fs := mfl B) F (ct_slopeAt l E B _ l9 _ hw) (va_cwS 1 F.2.2.2.2.2.2.2.2.2.2 g_lookUp_slopeAt_232 rfl rfl rfl (by decide +kernel) ⟨Nat.le_of_ble_eq_true rfl, Nat.le_of_ble_eq_true rfl⟩) ⟨rfl, rfl⟩ rfl rfl (Nat.le_of_ble_eq_true rfl) dX10_lookUp_172 (fun r20 σ21 hw => ?_)
    refine R_isub F dX10_lookUp_175 ?_
    refine R_i2l F dX10_lookUp_176 ?_
    refine R_topl (fun x22 ex22 => ?_)
    replace hw := hw x22 ex22
    refine R_lstore (lv' := [(18, .long x22), (16, .long x19), (14, .long k0), (0, .ref (B 0)), (1, .int l1), (2, .int l2), (5, .int l5), (6, .int l6), (7, .int l7), (8, .int l8), (9, .int l9), (10, .int l10), (11, .int l11), (12, .long l12)]) F dX10_lookUp_177 (by decide) rfl ?_
    refine R_bipush F 8 dX10_lookUp_179 (by decide) ?_
    refine R_iload_n F dX10_lookUp_181 rfl 4 rfl ?_
    refine R_imul F dX10_lookUp_182 ?_
    refine R_iconst F 4 dX10_lookUp_183 (by decide) ?_
    refine R_iload_n F dX10_lookUp_184 rfl 5 rfl ?_
    refine R_imul F dX10_lookUp_185 ?_
    refine R_iadd F dX10_lookUp_186 ?_
    refine R_iload F dX10_lookUp_187 9 rfl ?_
    refine R_iadd F dX10_lookUp_189 ?_
    refine R_topi (fun x23 ex23 => ?_)
    replace hw := hw x23 ex23
    refine R_istore (lv' := [(20, .int x23), (18, .long x22), (16, .long x19), (14, .long k0), (0, .ref (B 0)), (1, .int l1), (2, .int l2), (5, .int l5), (6, .int l6), (7, .int l7), (8, .int l8), (9, .int l9), (10, .int l10), (11, .int l11), (12, .long l12)]) F dX10_lookUp_190 (by decide) rfl ?_
    refine R_lload F dX10_lookUp_192 14 rfl ?_
    refine R_lload F dX10_lookUp_194 2 rfl ?_
    refine R_lsub F dX10_lookUp_196 ?_
    refine R_lload F dX10_lookUp_197 3 rfl ?_
    refine R_lload F dX10_lookUp_199 1 rfl ?_
    refine R_lsub F dX10_lookUp_201 ?_
    refine R_lmul F dX10_lookUp_202 ?_
    refine R_aload_n F dX10_lookUp_203 rfl 4 rfl ?_
    refine R_iload F dX10_lookUp_204 0 rfl ?_
    refine R_iload F dX10_lookUp_206 11 rfl ?_
    refine R_callL (As := [.int x23, .int l9]) (C := RX10) (q0 := 0) (ci := 10) (N := 69) (T := TX10) (fs := mfl B) F (ct_number l E B _ x23 l9 _ hw) (cwV 2 F.2.2.2.2.2.2.2.2.2.2 g_lookUp_number_235 rfl rfl rfl (by decide +kernel) ⟨Nat.le_of_ble_eq_true rfl, Nat.le_of_ble_eq_true rfl⟩) ⟨rfl, rfl⟩ rfl (fun _ => rfl) rfl rfl (Nat.le_of_ble_eq_true rfl) dX10_lookUp_208 (fun r24 σ25 hw => ?_)
    refine R_lmul F dX10_lookUp_211 ?_
    refine R_topl (fun x26 ex26 => ?_)
    replace hw := hw x26 ex26
    refine R_lstore (lv' := [(21, .long x26), (20, .int x23), (18, .long x22), (16, .long x19), (14, .long k0), (0, .ref (B 0)), (1, .int l1), (2, .int l2), (5, .int l5), (6, .int l6), (7, .int l7), (8, .int l8), (9, .int l9), (10, .int l10), (11, .int l11), (12, .long l12)]) F dX10_lookUp_212 (by decide) rfl ?_
    refine R_iload F dX10_lookUp_214 14 rfl ?_
    refine R_if_eq (tgt := 243) F dX10_lookUp_216 (by decide) (fun hc => ?_) (fun hc => ?_)
    · replace hw := hw.1 hc
      exact R_sub [5, 8, 12, 13, 14, 15, 4, 3, 2, 1, 0] rfl (J_243 l5 l9 l10 l11 l12 k0 x19 x22 x23 x26 σ25 hw)
    · replace hw := hw.2 hc
      refine R_lload F dX10_lookUp_219 0 rfl ?_
      refine R_lload F dX10_lookUp_221 15 rfl ?_
      refine R_lload F dX10_lookUp_223 3 rfl ?_
      refine R_lsub F dX10_lookUp_225 ?_
      refine R_lload F dX10_lookUp_226 2 rfl ?_
      refine R_lmul F dX10_lookUp_228 ?_
      refine R_aload_n F dX10_lookUp_229 rfl 5 rfl ?_
      refine R_iload F dX10_lookUp_230 1 rfl ?_
      refine R_iload F dX10_lookUp_232 12 rfl ?_
      refine R_iconst F 1 dX10_lookUp_234 (by decide) ?_
      refine R_iadd F dX10_lookUp_235 ?_
      refine R_callL (As := [.int x23, .int (l9 + 1)]) (C := RX10) (q0 := 0) (ci := 10) (N := 69) (T := TX10) (fs := mfl B) F (ct_number l E B _ x23 (l9 + 1) _ hw) (cwV 2 F.2.2.2.2.2.2.2.2.2.2 g_lookUp_number_235 rfl rfl rfl (by decide +kernel) ⟨Nat.le_of_ble_eq_true rfl, Nat.le_of_ble_eq_true rfl⟩) ⟨rfl, rfl⟩ rfl (fun _ => rfl) rfl rfl (Nat.le_of_ble_eq_true rfl) dX10_lookUp_236 (fun r27 σ28 hw => ?_)
      refine R_lmul F dX10_lookUp_239 ?_
      refine R_ladd F dX10_lookUp_240 ?_
      refine R_topl (fun x29 ex29 => ?_)
      replace hw := hw x29 ex29
      refine R_lstore (lv' := [(21, .long x29), (20, .int x23), (18, .long x22), (16, .long x19), (14, .long k0), (0, .ref (B 0)), (1, .int l1), (2, .int l2), (5, .int l5), (6, .int l6), (7, .int l7), (8, .int l8), (9, .int l9), (10, .int l10), (11, .int l11), (12, .long l12)]) F dX10_lookUp_241 (by decide) rfl ?_
      exact R_sub [5, 8, 12, 13, 14, 15, 4, 3, 2, 1, 0] rfl (J_243 l5 l9 l10 l11 l12 k0 x19 x22 x23 x29 σ28 hw)
  have J_130 : ∀ (l1 : Int32) (l2 : Int32) (l5 : Int32) (l6 : Int32) (l7 : Int32) (l8 : Int32) (l9 : Int32) (l10 : Int32) (l11 : Int32) (k0 : Int64) (σ : VS), b_lookUp_130 X38 X57 Q l1 l2 l5 l6 l7 l8 l9 l10 l11 k0 σ → WB p l e (({ frames := 1, cells := 0, slots := 0, locals := 22 } : Room)) s m (#[.ref (B 0), .int p1, .int p2, .int p3, .int p4, .int p5]) below meth c (MQ below (va_Qi (fun r w => ∃ σ' : VS, Q r σ' ∧ w = wm E B σ') (AftU E A) A) (#[.ref (B 0), .int p1, .int p2, .int p3, .int p4, .int p5]) s (({ frames := 1, cells := 0, slots := 0, locals := 22 } : Room)).cells (({ frames := 1, cells := 0, slots := 0, locals := 22 } : Room)).slots A) A E (wm E B) 25 130 [(0, .ref (B 0)), (1, .int l1), (2, .int l2), (5, .int l5), (6, .int l6), (7, .int l7), (8, .int l8), (9, .int l9), (10, .int l10), (11, .int l11)] [.long k0] σ := by
    intro l1 l2 l5 l6 l7 l8 l9 l10 l11 k0 σ hw
    unfold b_lookUp_130 at hw
    refine R_lstore (lv' := [(12, .long k0), (0, .ref (B 0)), (1, .int l1), (2, .int l2), (5, .int l5), (6, .int l6), (7, .int l7), (8, .int l8), (9, .int l9), (10, .int l10), (11, .int l11)]) F dX10_lookUp_130 (by decide) rfl ?_
    refine R_iload F dX10_lookUp_132 10 rfl ?_
    refine R_if_eq (tgt := 154) F dX10_lookUp_134 (by decide) (fun hc => ?_) (fun hc => ?_)
    · replace hw := hw.1 hc
      refine R_lconst F 1 dX10_lookUp_154 (by decide) ?_
      exact R_sub [1, 2, 3, 4, 5, 6, 7, 8, 9, 10, 0] rfl (J_155 l1 l2 l5 l6 l7 l8 l9 l10 l11 k0 (1 : Int64) σ hw)
    · replace hw := hw.2 hc
      refine R_iload F dX10_lookUp_137 8 rfl ?_
      refine R_iconst F 1 dX10_lookUp_139 (by decide) ?_
      refine R_iadd F dX10_lookUp_140 ?_
      refine R_callIS (As := [.int (l9 + 1)]) (C := RX10) (q0 := 0) (ci := 10) (b := 0) (N := 69) (T := TX10) (fs := mfl B) F (ct_slopeAt l E B _ (l9 + 1) _ hw) (va_cwS 1 F.2.2.2.2.2.2.2.2.2.2 g_lookUp_slopeAt_232 rfl rfl rfl (by decide +kernel) ⟨Nat.le_of_ble_eq_true rfl, Nat.le_of_ble_eq_true rfl⟩) ⟨rfl, rfl⟩ rfl rfl (Nat.le_of_ble_eq_true rfl) dX10_lookUp_141 (fun r13 σ14 hw => ?_)
      refine R_iload F dX10_lookUp_144 8 rfl ?_
      refine R_callIS (As := [.int l9]) (C := RX10) (q0 := 0) (ci := 10) (b := 0) (N := 69) (T := TX10) (fs := mfl B) F (ct_slopeAt l E B _ l9 _ hw) (va_cwS 1 F.2.2.2.2.2.2.2.2.2.2 g_lookUp_slopeAt_232 rfl rfl rfl (by decide +kernel) ⟨Nat.le_of_ble_eq_true rfl, Nat.le_of_ble_eq_true rfl⟩) ⟨rfl, rfl⟩ rfl rfl (Nat.le_of_ble_eq_true rfl) dX10_lookUp_146 (fun r15 σ16 hw => ?_)
      refine R_isub F dX10_lookUp_149 ?_
      refine R_i2l F dX10_lookUp_150 ?_
      refine R_goto (tgt := 155) F dX10_lookUp_151 (by decide) ?_
      exact R_sub [1, 2, 3, 4, 5, 6, 7, 8, 9, 10, 0] rfl (J_155 l1 l2 l5 l6 l7 l8 l9 l10 l11 k0 (((r13 - r15)).toInt64) σ16 hw)
  have J_105 : ∀ (l1 : Int32) (l2 : Int32) (l5 : Int32) (l6 : Int32) (l7 : Int32) (l8 : Int32) (l9 : Int32) (l10 : Int32) (k0 : Int32) (σ : VS), b_lookUp_105 X38 X57 Q l1 l2 l5 l6 l7 l8 l9 l10 k0 σ → WB p l e (({ frames := 1, cells := 0, slots := 0, locals := 22 } : Room)) s m (#[.ref (B 0), .int p1, .int p2, .int p3, .int p4, .int p5]) below meth c (MQ below (va_Qi (fun r w => ∃ σ' : VS, Q r σ' ∧ w = wm E B σ') (AftU E A) A) (#[.ref (B 0), .int p1, .int p2, .int p3, .int p4, .int p5]) s (({ frames := 1, cells := 0, slots := 0, locals := 22 } : Room)).cells (({ frames := 1, cells := 0, slots := 0, locals := 22 } : Room)).slots A) A E (wm E B) 25 105 [(0, .ref (B 0)), (1, .int l1), (2, .int l2), (5, .int l5), (6, .int l6), (7, .int l7), (8, .int l8), (9, .int l9), (10, .int l10)] [.int k0] σ := by
    intro l1 l2 l5 l6 l7 l8 l9 l10 k0 σ hw
    unfold b_lookUp_105 at hw
    refine R_istore (lv' := [(11, .int k0), (0, .ref (B 0)), (1, .int l1), (2, .int l2), (5, .int l5), (6, .int l6), (7, .int l7), (8, .int l8), (9, .int l9), (10, .int l10)]) F dX10_lookUp_105 (by decide) rfl ?_
    refine R_iload F dX10_lookUp_107 9 rfl ?_
    refine R_if_eq (tgt := 129) F dX10_lookUp_109 (by decide) (fun hc => ?_) (fun hc => ?_)
    · replace hw := hw.1 hc
      refine R_lconst F 1 dX10_lookUp_129 (by decide) ?_
      exact R_sub [1, 2, 3, 4, 5, 6, 7, 8, 9, 0] rfl (J_130 l1 l2 l5 l6 l7 l8 l9 l10 k0 (1 : Int64) σ hw)
    · replace hw := hw.2 hc
      refine R_iload F dX10_lookUp_112 7 rfl ?_
      refine R_iconst F 1 dX10_lookUp_114 (by decide) ?_
      refine R_iadd F dX10_lookUp_115 ?_
      refine R_callIS (As := [.int (l8 + 1)]) (C := RX10) (q0 := 0) (ci := 10) (b := 0) (N := 69) (T := TX10) (fs := mfl B) F (ct_loadAt l E B _ (l8 + 1) _ hw) (va_cwS 1 F.2.2.2.2.2.2.2.2.2.2 g_lookUp_loadAt_228 rfl rfl rfl (by decide +kernel) ⟨Nat.le_of_ble_eq_true rfl, Nat.le_of_ble_eq_true rfl⟩) ⟨rfl, rfl⟩ rfl rfl (Nat.le_of_ble_eq_true rfl) dX10_lookUp_116 (fun r9 σ10 hw => ?_)
      refine R_iload F dX10_lookUp_119 7 rfl ?_
      refine R_callIS (As := [.int l8]) (C := RX10) (q0 := 0) (ci := 10) (b := 0) (N := 69) (T := TX10) (fs := mfl B) F (ct_loadAt l E B _ l8 _ hw) (va_cwS 1 F.2.2.2.2.2.2.2.2.2.2 g_lookUp_loadAt_228 rfl rfl rfl (by decide +kernel) ⟨Nat.le_of_ble_eq_true rfl, Nat.le_of_ble_eq_true rfl⟩) ⟨rfl, rfl⟩ rfl rfl (Nat.le_of_ble_eq_true rfl) dX10_lookUp_121 (fun r11 σ12 hw => ?_)
      refine R_isub F dX10_lookUp_124 ?_
      refine R_i2l F dX10_lookUp_125 ?_
      refine R_goto (tgt := 130) F dX10_lookUp_126 (by decide) ?_
      exact R_sub [1, 2, 3, 4, 5, 6, 7, 8, 9, 0] rfl (J_130 l1 l2 l5 l6 l7 l8 l9 l10 k0 (((r9 - r11)).toInt64) σ12 hw)
  have J_88 : ∀ (l1 : Int32) (l2 : Int32) (l5 : Int32) (l6 : Int32) (l7 : Int32) (l8 : Int32) (l9 : Int32) (k0 : Int32) (σ : VS), b_lookUp_88 X38 X57 Q l1 l2 l5 l6 l7 l8 l9 k0 σ → WB p l e (({ frames := 1, cells := 0, slots := 0, locals := 22 } : Room)) s m (#[.ref (B 0), .int p1, .int p2, .int p3, .int p4, .int p5]) below meth c (MQ below (va_Qi (fun r w => ∃ σ' : VS, Q r σ' ∧ w = wm E B σ') (AftU E A) A) (#[.ref (B 0), .int p1, .int p2, .int p3, .int p4, .int p5]) s (({ frames := 1, cells := 0, slots := 0, locals := 22 } : Room)).cells (({ frames := 1, cells := 0, slots := 0, locals := 22 } : Room)).slots A) A E (wm E B) 25 88 [(0, .ref (B 0)), (1, .int l1), (2, .int l2), (5, .int l5), (6, .int l6), (7, .int l7), (8, .int l8), (9, .int l9)] [.int k0] σ := by
    intro l1 l2 l5 l6 l7 l8 l9 k0 σ hw
    unfold b_lookUp_88 at hw
    refine R_istore (lv' := [(10, .int k0), (0, .ref (B 0)), (1, .int l1), (2, .int l2), (5, .int l5), (6, .int l6), (7, .int l7), (8, .int l8), (9, .int l9)]) F dX10_lookUp_88 (by decide) rfl ?_
    refine R_iload F dX10_lookUp_90 8 rfl ?_
    refine R_callIS (As := [.int l9]) (C := RX10) (q0 := 0) (ci := 10) (b := 0) (N := 69) (T := TX10) (fs := mfl B) F (ct_slopeAt l E B _ l9 _ hw) (va_cwS 1 F.2.2.2.2.2.2.2.2.2.2 g_lookUp_slopeAt_232 rfl rfl rfl (by decide +kernel) ⟨Nat.le_of_ble_eq_true rfl, Nat.le_of_ble_eq_true rfl⟩) ⟨rfl, rfl⟩ rfl rfl (Nat.le_of_ble_eq_true rfl) dX10_lookUp_92 (fun r7 σ8 hw => ?_)
    refine R_iload F dX10_lookUp_95 6 rfl ?_
    refine R_icmp_ge (tgt := 104) F dX10_lookUp_97 (by decide) (fun hc => ?_) (fun hc => ?_)
    · replace hw := hw.1 hc
      refine R_iconst F 0 dX10_lookUp_104 (by decide) ?_
      exact R_sub [1, 2, 3, 4, 5, 6, 7, 8, 0] rfl (J_105 l1 l2 l5 l6 l7 l8 l9 k0 0 σ8 hw)
    · replace hw := hw.2 hc
      refine R_iconst F 1 dX10_lookUp_100 (by decide) ?_
      refine R_goto (tgt := 105) F dX10_lookUp_101 (by decide) ?_
      exact R_sub [1, 2, 3, 4, 5, 6, 7, 8, 0] rfl (J_105 l1 l2 l5 l6 l7 l8 l9 k0 1 σ8 hw)
  have J_33 : ∀ (l1 : Int32) (l2 : Int32) (l5 : Int32) (l6 : Int32) (k0 : Int32) (σ : VS), b_lookUp_33 X38 X57 Q l1 l2 l5 l6 k0 σ → WB p l e (({ frames := 1, cells := 0, slots := 0, locals := 22 } : Room)) s m (#[.ref (B 0), .int p1, .int p2, .int p3, .int p4, .int p5]) below meth c (MQ below (va_Qi (fun r w => ∃ σ' : VS, Q r σ' ∧ w = wm E B σ') (AftU E A) A) (#[.ref (B 0), .int p1, .int p2, .int p3, .int p4, .int p5]) s (({ frames := 1, cells := 0, slots := 0, locals := 22 } : Room)).cells (({ frames := 1, cells := 0, slots := 0, locals := 22 } : Room)).slots A) A E (wm E B) 25 33 [(0, .ref (B 0)), (1, .int l1), (2, .int l2), (5, .int l5), (6, .int l6)] [.int k0] σ := by
    intro l1 l2 l5 l6 k0 σ hw
    unfold b_lookUp_33 at hw
    refine R_istore (lv' := [(7, .int k0), (0, .ref (B 0)), (1, .int l1), (2, .int l2), (5, .int l5), (6, .int l6)]) F dX10_lookUp_33 (by decide) rfl ?_
    refine R_iconst F 3 dX10_lookUp_35 (by decide) ?_
    refine R_istore (lv' := [(8, .int 3), (7, .int k0), (0, .ref (B 0)), (1, .int l1), (2, .int l2), (5, .int l5), (6, .int l6)]) F dX10_lookUp_36 (by decide) rfl ?_
    exact R_sub [2, 3, 4, 5, 6, 1, 0] rfl (U_38 l1 l2 l5 l6 k0 3 σ hw)
  have J_17 : ∀ (l1 : Int32) (l2 : Int32) (l4 : Int32) (l5 : Int32) (k0 : Int32) (σ : VS), b_lookUp_17 X38 X57 Q l1 l2 l4 l5 k0 σ → WB p l e (({ frames := 1, cells := 0, slots := 0, locals := 22 } : Room)) s m (#[.ref (B 0), .int p1, .int p2, .int p3, .int p4, .int p5]) below meth c (MQ below (va_Qi (fun r w => ∃ σ' : VS, Q r σ' ∧ w = wm E B σ') (AftU E A) A) (#[.ref (B 0), .int p1, .int p2, .int p3, .int p4, .int p5]) s (({ frames := 1, cells := 0, slots := 0, locals := 22 } : Room)).cells (({ frames := 1, cells := 0, slots := 0, locals := 22 } : Room)).slots A) A E (wm E B) 25 17 [(0, .ref (B 0)), (1, .int l1), (2, .int l2), (4, .int l4), (5, .int l5)] [.int k0] σ := by
    intro l1 l2 l4 l5 k0 σ hw
    unfold b_lookUp_17 at hw
    refine R_istore (lv' := [(6, .int k0), (0, .ref (B 0)), (1, .int l1), (2, .int l2), (4, .int l4), (5, .int l5)]) F dX10_lookUp_17 (by decide) rfl ?_
    refine R_iload F dX10_lookUp_19 4 rfl ?_
    refine R_bipush F 64 dX10_lookUp_21 (by decide) ?_
    refine R_icmp_le (tgt := 31) F dX10_lookUp_23 (by decide) (fun hc => ?_) (fun hc => ?_)
    · replace hw := hw.1 hc
      refine R_iload F dX10_lookUp_31 4 rfl ?_
      exact R_sub [1, 2, 3, 5, 0] rfl (J_33 l1 l2 l5 k0 l4 σ hw)
    · replace hw := hw.2 hc
      refine R_bipush F 64 dX10_lookUp_26 (by decide) ?_
      refine R_goto (tgt := 33) F dX10_lookUp_28 (by decide) ?_
      exact R_sub [1, 2, 3, 5, 0] rfl (J_33 l1 l2 l5 k0 64 σ hw)
  have C_38 : ∀ (l1 : Int32) (l2 : Int32) (l5 : Int32) (l6 : Int32) (l7 : Int32) (l8 : Int32) (σ : VS), b_lookUp_38 X38 X57 Q l1 l2 l5 l6 l7 l8 σ → X38 l1 l2 l5 l6 l7 l8 σ := by
    intro l1 l2 l5 l6 l7 l8 σ hw
    unfold b_lookUp_38 at hw
    rw [hX38]
    show WB p l e (({ frames := 1, cells := 0, slots := 0, locals := 22 } : Room)) s m (#[.ref (B 0), .int p1, .int p2, .int p3, .int p4, .int p5]) below meth c (MQ below (va_Qi (fun r w => ∃ σ' : VS, Q r σ' ∧ w = wm E B σ') (AftU E A) A) (#[.ref (B 0), .int p1, .int p2, .int p3, .int p4, .int p5]) s (({ frames := 1, cells := 0, slots := 0, locals := 22 } : Room)).cells (({ frames := 1, cells := 0, slots := 0, locals := 22 } : Room)).slots A) A E (wm E B) 25 38 [(0, .ref (B 0)), (1, .int l1), (2, .int l2), (5, .int l5), (6, .int l6), (7, .int l7), (8, .int l8)] [] σ
    refine R_iload F dX10_lookUp_38 6 rfl ?_
    refine R_callIS (As := [.int l8]) (C := RX10) (q0 := 0) (ci := 10) (b := 0) (N := 69) (T := TX10) (fs := mfl B) F (ct_loadAt l E B _ l8 _ hw) (va_cwS 1 F.2.2.2.2.2.2.2.2.2.2 g_lookUp_loadAt_228 rfl rfl rfl (by decide +kernel) ⟨Nat.le_of_ble_eq_true rfl, Nat.le_of_ble_eq_true rfl⟩) ⟨rfl, rfl⟩ rfl rfl (Nat.le_of_ble_eq_true rfl) dX10_lookUp_40 (fun r1 σ2 hw => ?_)
    refine R_iload F dX10_lookUp_43 4 rfl ?_
    refine R_icmp_le (tgt := 54) F dX10_lookUp_45 (by decide) (fun hc => ?_) (fun hc => ?_)
    · replace hw := hw.1 hc
      refine R_iconst F 2 dX10_lookUp_54 (by decide) ?_
      refine R_istore (lv' := [(9, .int 2), (0, .ref (B 0)), (1, .int l1), (2, .int l2), (5, .int l5), (6, .int l6), (7, .int l7), (8, .int l8)]) F dX10_lookUp_55 (by decide) rfl ?_
      exact R_sub [1, 2, 3, 4, 5, 6, 7, 0] rfl (U_57 l1 l2 l5 l6 l7 l8 2 σ2 hw)
    · replace hw := hw.2 hc
      refine R_iinc (q := 6) (v := (l8 + (-1))) (lv' := [(8, .int (l8 + (-1))), (0, .ref (B 0)), (1, .int l1), (2, .int l2), (5, .int l5), (6, .int l6), (7, .int l7)]) F dX10_lookUp_48 rfl rfl (by decide) rfl ?_
      refine R_goto (tgt := 38) F dX10_lookUp_51 (by decide) ?_
      exact R_sub [1, 2, 3, 4, 5, 6, 0] rfl (U_38 l1 l2 l5 l6 l7 (l8 + (-1)) σ2 hw)
  have C_57 : ∀ (l1 : Int32) (l2 : Int32) (l5 : Int32) (l6 : Int32) (l7 : Int32) (l8 : Int32) (l9 : Int32) (σ : VS), b_lookUp_57 X38 X57 Q l1 l2 l5 l6 l7 l8 l9 σ → X57 l1 l2 l5 l6 l7 l8 l9 σ := by
    intro l1 l2 l5 l6 l7 l8 l9 σ hw
    unfold b_lookUp_57 at hw
    rw [hX57]
    show WB p l e (({ frames := 1, cells := 0, slots := 0, locals := 22 } : Room)) s m (#[.ref (B 0), .int p1, .int p2, .int p3, .int p4, .int p5]) below meth c (MQ below (va_Qi (fun r w => ∃ σ' : VS, Q r σ' ∧ w = wm E B σ') (AftU E A) A) (#[.ref (B 0), .int p1, .int p2, .int p3, .int p4, .int p5]) s (({ frames := 1, cells := 0, slots := 0, locals := 22 } : Room)).cells (({ frames := 1, cells := 0, slots := 0, locals := 22 } : Room)).slots A) A E (wm E B) 25 57 [(0, .ref (B 0)), (1, .int l1), (2, .int l2), (5, .int l5), (6, .int l6), (7, .int l7), (8, .int l8), (9, .int l9)] [] σ
    refine R_iload F dX10_lookUp_57 7 rfl ?_
    refine R_callIS (As := [.int l9]) (C := RX10) (q0 := 0) (ci := 10) (b := 0) (N := 69) (T := TX10) (fs := mfl B) F (ct_slopeAt l E B _ l9 _ hw) (va_cwS 1 F.2.2.2.2.2.2.2.2.2.2 g_lookUp_slopeAt_232 rfl rfl rfl (by decide +kernel) ⟨Nat.le_of_ble_eq_true rfl, Nat.le_of_ble_eq_true rfl⟩) ⟨rfl, rfl⟩ rfl rfl (Nat.le_of_ble_eq_true rfl) dX10_lookUp_59 (fun r3 σ4 hw => ?_)
    refine R_iload F dX10_lookUp_62 5 rfl ?_
    refine R_icmp_le (tgt := 73) F dX10_lookUp_64 (by decide) (fun hc => ?_) (fun hc => ?_)
    · replace hw := hw.1 hc
      refine R_iload F dX10_lookUp_73 6 rfl ?_
      refine R_callIS (As := [.int l8]) (C := RX10) (q0 := 0) (ci := 10) (b := 0) (N := 69) (T := TX10) (fs := mfl B) F (ct_loadAt l E B _ l8 _ hw) (va_cwS 1 F.2.2.2.2.2.2.2.2.2.2 g_lookUp_loadAt_228 rfl rfl rfl (by decide +kernel) ⟨Nat.le_of_ble_eq_true rfl, Nat.le_of_ble_eq_true rfl⟩) ⟨rfl, rfl⟩ rfl rfl (Nat.le_of_ble_eq_true rfl) dX10_lookUp_75 (fun r5 σ6 hw => ?_)
      refine R_iload F dX10_lookUp_78 4 rfl ?_
      refine R_icmp_ge (tgt := 87) F dX10_lookUp_80 (by decide) (fun hc => ?_) (fun hc => ?_)
      · replace hw := hw.1 hc
        refine R_iconst F 0 dX10_lookUp_87 (by decide) ?_
        exact R_sub [0, 1, 2, 3, 4, 5, 6, 7] rfl (J_88 l1 l2 l5 l6 l7 l8 l9 0 σ6 hw)
      · replace hw := hw.2 hc
        refine R_iconst F 1 dX10_lookUp_83 (by decide) ?_
        refine R_goto (tgt := 88) F dX10_lookUp_84 (by decide) ?_
        exact R_sub [0, 1, 2, 3, 4, 5, 6, 7] rfl (J_88 l1 l2 l5 l6 l7 l8 l9 1 σ6 hw)
    · replace hw := hw.2 hc
      refine R_iinc (q := 7) (v := (l9 + (-1))) (lv' := [(9, .int (l9 + (-1))), (0, .ref (B 0)), (1, .int l1), (2, .int l2), (5, .int l5), (6, .int l6), (7, .int l7), (8, .int l8)]) F dX10_lookUp_67 rfl rfl (by decide) rfl ?_
      refine R_goto (tgt := 57) F dX10_lookUp_70 (by decide) ?_
      exact R_sub [1, 2, 3, 4, 5, 6, 7, 0] rfl (U_57 l1 l2 l5 l6 l7 l8 (l9 + (-1)) σ4 hw)
  unfold wp_lookUp at hw
  replace hw := hw X38 X57 C_38 C_57
  refine R_aload_n F dX10_lookUp_0 rfl 0 rfl ?_
  refine R_iconst F 0 dX10_lookUp_1 (by decide) ?_
  refine pm_30 F in_lookUp dX10_lookUp_2 ?_
  refine R_iload_n F dX10_lookUp_5 rfl 3 rfl ?_
  refine R_bipush F 64 dX10_lookUp_6 (by decide) ?_
  refine R_icmp_le (tgt := 16) F dX10_lookUp_8 (by decide) (fun hc => ?_) (fun hc => ?_)
  · replace hw := hw.1 hc
    refine R_iload_n F dX10_lookUp_16 rfl 3 rfl ?_
    exact R_sub [0, 1, 2, 4, 5] rfl (J_17 p1 p2 p4 p5 p3 (sf σ 30 0) hw)
  · replace hw := hw.2 hc
    refine R_bipush F 64 dX10_lookUp_11 (by decide) ?_
    refine R_goto (tgt := 17) F dX10_lookUp_13 (by decide) ?_
    exact R_sub [0, 1, 2, 4, 5] rfl (J_17 p1 p2 p4 p5 64 (sf σ 30 0) hw)
def b_arcs_462 (X32 : Int32 → Int32 → Int32 → Int32 → VS → Prop) (X44 : Int32 → Int32 → Int32 → Int32 → Int32 → Int32 → VS → Prop) (Q : VS → Prop) (l1 : Int32) (l4 : Int32) (l5 : Int32) (l6 : Int32) (l7 : Int32) (l8 : Int32) (σ : VS) : Prop := X44 l1 l4 l5 l6 l7 (l8 + 1) σ
def b_arcs_458 (X32 : Int32 → Int32 → Int32 → Int32 → VS → Prop) (X44 : Int32 → Int32 → Int32 → Int32 → Int32 → Int32 → VS → Prop) (Q : VS → Prop) (l1 : Int32) (l4 : Int32) (l5 : Int32) (l6 : Int32) (l8 : Int32) (k0 : Int32) (k1 : Int32) (σ : VS) : Prop := (In k1 100 ∧ b_arcs_462 X32 X44 Q l1 l4 l5 l6 1 l8 (sa σ 39 k1 k0))
def b_arcs_421 (X32 : Int32 → Int32 → Int32 → Int32 → VS → Prop) (X44 : Int32 → Int32 → Int32 → Int32 → Int32 → Int32 → VS → Prop) (Q : VS → Prop) (l1 : Int32) (l4 : Int32) (l5 : Int32) (l6 : Int32) (l7 : Int32) (l8 : Int32) (l18 : Int32) (k0 : Int32) (k1 : Int32) (σ : VS) : Prop := (In k1 100 ∧ ((l7.toInt = 0 → b_arcs_458 X32 X44 Q l1 l4 l5 l6 l8 l18 ((2 * l1) + l6) (sa σ 38 k1 k0)) ∧ (l7.toInt ≠ 0 → (In ((2 * l1) + l6) 100 ∧ b_arcs_458 X32 X44 Q l1 l4 l5 l6 l8 (imin (rd (sa σ 38 k1 k0) 39 ((2 * l1) + l6)) l18) ((2 * l1) + l6) (sa σ 38 k1 k0)))))
def b_arcs_323 (X32 : Int32 → Int32 → Int32 → Int32 → VS → Prop) (X44 : Int32 → Int32 → Int32 → Int32 → Int32 → Int32 → VS → Prop) (Q : VS → Prop) (l1 : Int32) (l4 : Int32) (l5 : Int32) (l6 : Int32) (l7 : Int32) (l8 : Int32) (l13 : Int32) (l15 : Int32) (l16 : Int32) (l17 : Int32) (l18 : Int32) (k0 : Int32) (σ : VS) : Prop := (In l13 400 ∧ (In l13 400 ∧ ((l7.toInt = 0 → b_arcs_421 X32 X44 Q l1 l4 l5 l6 l7 l8 l18 l16 ((2 * l1) + l6) (sa (sa σ 36 l13 ((((((((l15).toInt64) * (((1000 + (σ.1 18))).toInt64)) + (999 : Int64)) / (1000 : Int64))).toInt32) + k0)) 37 l13 (((((((l17).toInt64) * (((1000 - ((sa σ 36 l13 ((((((((l15).toInt64) * (((1000 + (σ.1 18))).toInt64)) + (999 : Int64)) / (1000 : Int64))).toInt32) + k0)).1 19))).toInt64)) / (1000 : Int64))).toInt32) + k0))) ∧ (l7.toInt ≠ 0 → (In ((2 * l1) + l6) 100 ∧ b_arcs_421 X32 X44 Q l1 l4 l5 l6 l7 l8 l18 (imax (rd (sa (sa σ 36 l13 ((((((((l15).toInt64) * (((1000 + (σ.1 18))).toInt64)) + (999 : Int64)) / (1000 : Int64))).toInt32) + k0)) 37 l13 (((((((l17).toInt64) * (((1000 - ((sa σ 36 l13 ((((((((l15).toInt64) * (((1000 + (σ.1 18))).toInt64)) + (999 : Int64)) / (1000 : Int64))).toInt32) + k0)).1 19))).toInt64)) / (1000 : Int64))).toInt32) + k0)) 38 ((2 * l1) + l6)) l16) ((2 * l1) + l6) (sa (sa σ 36 l13 ((((((((l15).toInt64) * (((1000 + (σ.1 18))).toInt64)) + (999 : Int64)) / (1000 : Int64))).toInt32) + k0)) 37 l13 (((((((l17).toInt64) * (((1000 - ((sa σ 36 l13 ((((((((l15).toInt64) * (((1000 + (σ.1 18))).toInt64)) + (999 : Int64)) / (1000 : Int64))).toInt32) + k0)).1 19))).toInt64)) / (1000 : Int64))).toInt32) + k0)))))))
def b_arcs_286 (X32 : Int32 → Int32 → Int32 → Int32 → VS → Prop) (X44 : Int32 → Int32 → Int32 → Int32 → Int32 → Int32 → VS → Prop) (Q : VS → Prop) (l1 : Int32) (l4 : Int32) (l5 : Int32) (l6 : Int32) (l7 : Int32) (l8 : Int32) (l13 : Int32) (l14 : Int32) (l15 : Int32) (l16 : Int32) (l17 : Int32) (k0 : Int32) (σ : VS) : Prop := (((σ.1 30).toInt = 0 → ((l6.toInt ≠ 1 → b_arcs_323 X32 X44 Q l1 l4 l5 l6 l7 l8 l13 l15 l16 l17 k0 0 σ) ∧ (l6.toInt = 1 → (In l14 8 ∧ b_arcs_323 X32 X44 Q l1 l4 l5 l6 l7 l8 l13 l15 l16 l17 k0 (rd σ 17 l14) σ)))) ∧ ((σ.1 30).toInt ≠ 0 → (In l1 50 ∧ Q (sa σ 35 l1 (σ.1 30)))))
def b_arcs_261 (X32 : Int32 → Int32 → Int32 → Int32 → VS → Prop) (X44 : Int32 → Int32 → Int32 → Int32 → Int32 → Int32 → VS → Prop) (Q : VS → Prop) (l1 : Int32) (l4 : Int32) (l5 : Int32) (l6 : Int32) (l7 : Int32) (l8 : Int32) (l12 : Int32) (l13 : Int32) (l14 : Int32) (l15 : Int32) (l16 : Int32) (k0 : Int32) (σ : VS) : Prop := (((σ.1 30).toInt ≠ 0 → b_arcs_286 X32 X44 Q l1 l4 l5 l6 l7 l8 l13 l14 l15 l16 k0 0 σ) ∧ ((σ.1 30).toInt = 0 → wp_lookUp (fun (r14 : Int32) (σ15 : VS) => b_arcs_286 X32 X44 Q l1 l4 l5 l6 l7 l8 l13 l14 l15 l16 k0 r14 σ15) l14 1 l5 l12 0 σ))
def b_arcs_236 (X32 : Int32 → Int32 → Int32 → Int32 → VS → Prop) (X44 : Int32 → Int32 → Int32 → Int32 → Int32 → Int32 → VS → Prop) (Q : VS → Prop) (l1 : Int32) (l4 : Int32) (l5 : Int32) (l6 : Int32) (l7 : Int32) (l8 : Int32) (l12 : Int32) (l13 : Int32) (l14 : Int32) (l15 : Int32) (k0 : Int32) (σ : VS) : Prop := (((σ.1 30).toInt ≠ 0 → b_arcs_261 X32 X44 Q l1 l4 l5 l6 l7 l8 l12 l13 l14 l15 k0 0 σ) ∧ ((σ.1 30).toInt = 0 → wp_lookUp (fun (r12 : Int32) (σ13 : VS) => b_arcs_261 X32 X44 Q l1 l4 l5 l6 l7 l8 l12 l13 l14 l15 k0 r12 σ13) l14 0 l5 l12 0 σ))
def b_arcs_175 (X32 : Int32 → Int32 → Int32 → Int32 → VS → Prop) (X44 : Int32 → Int32 → Int32 → Int32 → Int32 → Int32 → VS → Prop) (Q : VS → Prop) (l1 : Int32) (l4 : Int32) (l5 : Int32) (l6 : Int32) (l7 : Int32) (l8 : Int32) (l11 : Int32) (k0 : Int32) (σ : VS) : Prop := (∀ x6 : Int32, x6 = (((8 * l1) + (2 * l8)) + l6) → (In l1 50 ∧ (∀ x7 : Int32, x7 = (rd σ 4 l1) → wp_lookUp (fun (r8 : Int32) (σ9 : VS) => (((σ9.1 30).toInt ≠ 0 → b_arcs_236 X32 X44 Q l1 l4 l5 l6 l7 l8 k0 x6 x7 r8 0 σ9) ∧ ((σ9.1 30).toInt = 0 → wp_lookUp (fun (r10 : Int32) (σ11 : VS) => b_arcs_236 X32 X44 Q l1 l4 l5 l6 l7 l8 k0 x6 x7 r8 r10 σ11) x7 1 l4 l11 1 σ9))) x7 0 l4 l11 1 σ)))
def b_arcs_152 (X32 : Int32 → Int32 → Int32 → Int32 → VS → Prop) (X44 : Int32 → Int32 → Int32 → Int32 → Int32 → Int32 → VS → Prop) (Q : VS → Prop) (l1 : Int32) (l4 : Int32) (l5 : Int32) (l6 : Int32) (l7 : Int32) (l8 : Int32) (l9 : Int32) (l10 : Int32) (k0 : Int32) (σ : VS) : Prop := ((0 ≤ l9.toInt → (In ((2 * l9) + l10) 100 ∧ b_arcs_175 X32 X44 Q l1 l4 l5 l6 l7 l8 k0 (rd σ 39 ((2 * l9) + l10)) σ)) ∧ (l9.toInt < 0 → b_arcs_175 X32 X44 Q l1 l4 l5 l6 l7 l8 k0 0 σ))
def b_arcs_129 (X32 : Int32 → Int32 → Int32 → Int32 → VS → Prop) (X44 : Int32 → Int32 → Int32 → Int32 → Int32 → Int32 → VS → Prop) (Q : VS → Prop) (l1 : Int32) (l4 : Int32) (l5 : Int32) (l6 : Int32) (l7 : Int32) (l8 : Int32) (l9 : Int32) (k0 : Int32) (σ : VS) : Prop := ((0 ≤ l9.toInt → (In ((2 * l9) + k0) 100 ∧ b_arcs_152 X32 X44 Q l1 l4 l5 l6 l7 l8 l9 k0 (rd σ 38 ((2 * l9) + k0)) σ)) ∧ (l9.toInt < 0 → b_arcs_152 X32 X44 Q l1 l4 l5 l6 l7 l8 l9 k0 0 σ))
def b_arcs_110 (X32 : Int32 → Int32 → Int32 → Int32 → VS → Prop) (X44 : Int32 → Int32 → Int32 → Int32 → Int32 → Int32 → VS → Prop) (Q : VS → Prop) (l1 : Int32) (l4 : Int32) (l5 : Int32) (l6 : Int32) (l7 : Int32) (l8 : Int32) (l9 : Int32) (σ : VS) : Prop := (In l1 50 ∧ (((rd σ 2 l1).toInt ≠ 2 → b_arcs_129 X32 X44 Q l1 l4 l5 l6 l7 l8 l9 l6 σ) ∧ ((rd σ 2 l1).toInt = 2 → b_arcs_129 X32 X44 Q l1 l4 l5 l6 l7 l8 l9 (1 - l6) σ)))
def b_arcs_80 (X32 : Int32 → Int32 → Int32 → Int32 → VS → Prop) (X44 : Int32 → Int32 → Int32 → Int32 → Int32 → Int32 → VS → Prop) (Q : VS → Prop) (l1 : Int32) (l4 : Int32) (l5 : Int32) (l6 : Int32) (l7 : Int32) (l8 : Int32) (k0 : Int32) (σ : VS) : Prop := (In l1 50 ∧ (((rd σ 2 l1).toInt = 4 → b_arcs_110 X32 X44 Q l1 l4 l5 l6 l7 l8 k0 σ) ∧ ((rd σ 2 l1).toInt ≠ 4 → ((k0.toInt < 0 → b_arcs_462 X32 X44 Q l1 l4 l5 l6 l7 l8 σ) ∧ (0 ≤ k0.toInt → (In k0 50 ∧ (((rd σ 34 k0).toInt ≠ 0 → b_arcs_110 X32 X44 Q l1 l4 l5 l6 l7 l8 k0 σ) ∧ ((rd σ 34 k0).toInt = 0 → b_arcs_462 X32 X44 Q l1 l4 l5 l6 l7 l8 σ))))))))
def b_arcs_44 (X32 : Int32 → Int32 → Int32 → Int32 → VS → Prop) (X44 : Int32 → Int32 → Int32 → Int32 → Int32 → Int32 → VS → Prop) (Q : VS → Prop) (l1 : Int32) (l4 : Int32) (l5 : Int32) (l6 : Int32) (l7 : Int32) (l8 : Int32) (σ : VS) : Prop := (In l1 50 ∧ (((rd σ 3 l1).toInt ≤ l8.toInt → X32 l1 l4 l5 (l6 + 1) σ) ∧ (l8.toInt < (rd σ 3 l1).toInt → (In l1 50 ∧ (((rd σ 2 l1).toInt ≠ 4 → (In ((4 * l1) + l8) 200 ∧ b_arcs_80 X32 X44 Q l1 l4 l5 l6 l7 l8 (rd σ 7 ((4 * l1) + l8)) σ)) ∧ ((rd σ 2 l1).toInt = 4 → b_arcs_80 X32 X44 Q l1 l4 l5 l6 l7 l8 (-1) σ))))))
def b_arcs_32 (X32 : Int32 → Int32 → Int32 → Int32 → VS → Prop) (X44 : Int32 → Int32 → Int32 → Int32 → Int32 → Int32 → VS → Prop) (Q : VS → Prop) (l1 : Int32) (l4 : Int32) (l5 : Int32) (l6 : Int32) (σ : VS) : Prop := ((2 ≤ l6.toInt → Q σ) ∧ (l6.toInt < 2 → X44 l1 l4 l5 l6 0 0 σ))
def wp_arcs (Q : VS → Prop) (p1 : Int32) (σ : VS) : Prop := ∀ (X32 : Int32 → Int32 → Int32 → Int32 → VS → Prop) (X44 : Int32 → Int32 → Int32 → Int32 → Int32 → Int32 → VS → Prop), (∀ (l1 : Int32) (l4 : Int32) (l5 : Int32) (l6 : Int32) (σ : VS), b_arcs_32 X32 X44 Q l1 l4 l5 l6 σ → X32 l1 l4 l5 l6 σ) → (∀ (l1 : Int32) (l4 : Int32) (l5 : Int32) (l6 : Int32) (l7 : Int32) (l8 : Int32) (σ : VS), b_arcs_44 X32 X44 Q l1 l4 l5 l6 l7 l8 σ → X44 l1 l4 l5 l6 l7 l8 σ) → wp_load (fun (r1 : Int32) (σ2 : VS) => (In p1 50 ∧ (∀ x3 : Int32, x3 = (1 + (rd σ2 5 p1)) → (¬ x3 = 0 ∧ (∀ x4 : Int32, x4 = (((r1 + x3) - 1) / x3) → (¬ x3 = 0 ∧ (∀ x5 : Int32, x5 = (r1 / x3) → X32 p1 x4 x5 0 σ2))))))) p1 σ
theorem dX10_arcs_0 : decode cX10_arcs 0 = .ok (.aload_n 0, 1) := by decide +kernel
theorem dX10_arcs_1 : decode cX10_arcs 1 = .ok (.iload_n 1, 1) := by decide +kernel
theorem dX10_arcs_2 : decode cX10_arcs 2 = .ok (.invokevirtual 249, 3) := by decide +kernel
theorem dX10_arcs_5 : decode cX10_arcs 5 = .ok (.istore_n 2, 1) := by decide +kernel
theorem dX10_arcs_6 : decode cX10_arcs 6 = .ok (.iconst 1, 1) := by decide +kernel
theorem dX10_arcs_7 : decode cX10_arcs 7 = .ok (.aload_n 0, 1) := by decide +kernel
theorem dX10_arcs_8 : decode cX10_arcs 8 = .ok (.getfield 24, 3) := by decide +kernel
theorem dX10_arcs_11 : decode cX10_arcs 11 = .ok (.iload_n 1, 1) := by decide +kernel
theorem dX10_arcs_12 : decode cX10_arcs 12 = .ok (.iaload, 1) := by decide +kernel
theorem dX10_arcs_13 : decode cX10_arcs 13 = .ok (.iadd, 1) := by decide +kernel
theorem dX10_arcs_14 : decode cX10_arcs 14 = .ok (.istore_n 3, 1) := by decide +kernel
theorem dX10_arcs_15 : decode cX10_arcs 15 = .ok (.iload_n 2, 1) := by decide +kernel
theorem dX10_arcs_16 : decode cX10_arcs 16 = .ok (.iload_n 3, 1) := by decide +kernel
theorem dX10_arcs_17 : decode cX10_arcs 17 = .ok (.iadd, 1) := by decide +kernel
theorem dX10_arcs_18 : decode cX10_arcs 18 = .ok (.iconst 1, 1) := by decide +kernel
theorem dX10_arcs_19 : decode cX10_arcs 19 = .ok (.isub, 1) := by decide +kernel
theorem dX10_arcs_20 : decode cX10_arcs 20 = .ok (.iload_n 3, 1) := by decide +kernel
theorem dX10_arcs_21 : decode cX10_arcs 21 = .ok (.idiv, 1) := by decide +kernel
theorem dX10_arcs_22 : decode cX10_arcs 22 = .ok (.istore 4, 2) := by decide +kernel
theorem dX10_arcs_24 : decode cX10_arcs 24 = .ok (.iload_n 2, 1) := by decide +kernel
theorem dX10_arcs_25 : decode cX10_arcs 25 = .ok (.iload_n 3, 1) := by decide +kernel
theorem dX10_arcs_26 : decode cX10_arcs 26 = .ok (.idiv, 1) := by decide +kernel
theorem dX10_arcs_27 : decode cX10_arcs 27 = .ok (.istore 5, 2) := by decide +kernel
theorem dX10_arcs_29 : decode cX10_arcs 29 = .ok (.iconst 0, 1) := by decide +kernel
theorem dX10_arcs_30 : decode cX10_arcs 30 = .ok (.istore 6, 2) := by decide +kernel
theorem dX10_arcs_32 : decode cX10_arcs 32 = .ok (.iload 6, 2) := by decide +kernel
theorem dX10_arcs_34 : decode cX10_arcs 34 = .ok (.iconst 2, 1) := by decide +kernel
theorem dX10_arcs_35 : decode cX10_arcs 35 = .ok (.if_icmp .ge 439, 3) := by decide +kernel
theorem dX10_arcs_474 : decode cX10_arcs 474 = .ok (.return_, 1) := by decide +kernel
theorem dX10_arcs_38 : decode cX10_arcs 38 = .ok (.iconst 0, 1) := by decide +kernel
theorem dX10_arcs_39 : decode cX10_arcs 39 = .ok (.istore 7, 2) := by decide +kernel
theorem dX10_arcs_41 : decode cX10_arcs 41 = .ok (.iconst 0, 1) := by decide +kernel
theorem dX10_arcs_42 : decode cX10_arcs 42 = .ok (.istore 8, 2) := by decide +kernel
theorem dX10_arcs_44 : decode cX10_arcs 44 = .ok (.iload 8, 2) := by decide +kernel
theorem dX10_arcs_46 : decode cX10_arcs 46 = .ok (.aload_n 0, 1) := by decide +kernel
theorem dX10_arcs_47 : decode cX10_arcs 47 = .ok (.getfield 14, 3) := by decide +kernel
theorem dX10_arcs_50 : decode cX10_arcs 50 = .ok (.iload_n 1, 1) := by decide +kernel
theorem dX10_arcs_51 : decode cX10_arcs 51 = .ok (.iaload, 1) := by decide +kernel
theorem dX10_arcs_52 : decode cX10_arcs 52 = .ok (.if_icmp .ge 416, 3) := by decide +kernel
theorem dX10_arcs_468 : decode cX10_arcs 468 = .ok (.iinc 6 1, 3) := by decide +kernel
theorem dX10_arcs_471 : decode cX10_arcs 471 = .ok (.goto (-439), 3) := by decide +kernel
theorem dX10_arcs_55 : decode cX10_arcs 55 = .ok (.aload_n 0, 1) := by decide +kernel
theorem dX10_arcs_56 : decode cX10_arcs 56 = .ok (.getfield 18, 3) := by decide +kernel
theorem dX10_arcs_59 : decode cX10_arcs 59 = .ok (.iload_n 1, 1) := by decide +kernel
theorem dX10_arcs_60 : decode cX10_arcs 60 = .ok (.iaload, 1) := by decide +kernel
theorem dX10_arcs_61 : decode cX10_arcs 61 = .ok (.iconst 4, 1) := by decide +kernel
theorem dX10_arcs_62 : decode cX10_arcs 62 = .ok (.if_icmp .ne 7, 3) := by decide +kernel
theorem dX10_arcs_69 : decode cX10_arcs 69 = .ok (.aload_n 0, 1) := by decide +kernel
theorem dX10_arcs_70 : decode cX10_arcs 70 = .ok (.getfield 30, 3) := by decide +kernel
theorem dX10_arcs_73 : decode cX10_arcs 73 = .ok (.iconst 4, 1) := by decide +kernel
theorem dX10_arcs_74 : decode cX10_arcs 74 = .ok (.iload_n 1, 1) := by decide +kernel
theorem dX10_arcs_75 : decode cX10_arcs 75 = .ok (.imul, 1) := by decide +kernel
theorem dX10_arcs_76 : decode cX10_arcs 76 = .ok (.iload 8, 2) := by decide +kernel
theorem dX10_arcs_78 : decode cX10_arcs 78 = .ok (.iadd, 1) := by decide +kernel
theorem dX10_arcs_79 : decode cX10_arcs 79 = .ok (.iaload, 1) := by decide +kernel
theorem dX10_arcs_65 : decode cX10_arcs 65 = .ok (.iconst (-1), 1) := by decide +kernel
theorem dX10_arcs_66 : decode cX10_arcs 66 = .ok (.goto 14, 3) := by decide +kernel
theorem dX10_arcs_80 : decode cX10_arcs 80 = .ok (.istore 9, 2) := by decide +kernel
theorem dX10_arcs_82 : decode cX10_arcs 82 = .ok (.aload_n 0, 1) := by decide +kernel
theorem dX10_arcs_83 : decode cX10_arcs 83 = .ok (.getfield 18, 3) := by decide +kernel
theorem dX10_arcs_86 : decode cX10_arcs 86 = .ok (.iload_n 1, 1) := by decide +kernel
theorem dX10_arcs_87 : decode cX10_arcs 87 = .ok (.iaload, 1) := by decide +kernel
theorem dX10_arcs_88 : decode cX10_arcs 88 = .ok (.iconst 4, 1) := by decide +kernel
theorem dX10_arcs_89 : decode cX10_arcs 89 = .ok (.if_icmp .eq 21, 3) := by decide +kernel
theorem dX10_arcs_92 : decode cX10_arcs 92 = .ok (.iload 9, 2) := by decide +kernel
theorem dX10_arcs_94 : decode cX10_arcs 94 = .ok (.ifCond .lt 368, 3) := by decide +kernel
theorem dX10_arcs_97 : decode cX10_arcs 97 = .ok (.aload_n 0, 1) := by decide +kernel
theorem dX10_arcs_98 : decode cX10_arcs 98 = .ok (.getfield 117, 3) := by decide +kernel
theorem dX10_arcs_101 : decode cX10_arcs 101 = .ok (.iload 9, 2) := by decide +kernel
theorem dX10_arcs_103 : decode cX10_arcs 103 = .ok (.baload, 1) := by decide +kernel
theorem dX10_arcs_104 : decode cX10_arcs 104 = .ok (.ifCond .ne 6, 3) := by decide +kernel
theorem dX10_arcs_107 : decode cX10_arcs 107 = .ok (.goto 355, 3) := by decide +kernel
theorem dX10_arcs_110 : decode cX10_arcs 110 = .ok (.aload_n 0, 1) := by decide +kernel
theorem dX10_arcs_111 : decode cX10_arcs 111 = .ok (.getfield 18, 3) := by decide +kernel
theorem dX10_arcs_114 : decode cX10_arcs 114 = .ok (.iload_n 1, 1) := by decide +kernel
theorem dX10_arcs_115 : decode cX10_arcs 115 = .ok (.iaload, 1) := by decide +kernel
theorem dX10_arcs_116 : decode cX10_arcs 116 = .ok (.iconst 2, 1) := by decide +kernel
theorem dX10_arcs_117 : decode cX10_arcs 117 = .ok (.if_icmp .ne 10, 3) := by decide +kernel
theorem dX10_arcs_127 : decode cX10_arcs 127 = .ok (.iload 6, 2) := by decide +kernel
theorem dX10_arcs_120 : decode cX10_arcs 120 = .ok (.iconst 1, 1) := by decide +kernel
theorem dX10_arcs_121 : decode cX10_arcs 121 = .ok (.iload 6, 2) := by decide +kernel
theorem dX10_arcs_123 : decode cX10_arcs 123 = .ok (.isub, 1) := by decide +kernel
theorem dX10_arcs_124 : decode cX10_arcs 124 = .ok (.goto 5, 3) := by decide +kernel
theorem dX10_arcs_462 : decode cX10_arcs 462 = .ok (.iinc 8 1, 3) := by decide +kernel
theorem dX10_arcs_465 : decode cX10_arcs 465 = .ok (.goto (-421), 3) := by decide +kernel
theorem dX10_arcs_129 : decode cX10_arcs 129 = .ok (.istore 10, 2) := by decide +kernel
theorem dX10_arcs_131 : decode cX10_arcs 131 = .ok (.iload 9, 2) := by decide +kernel
theorem dX10_arcs_133 : decode cX10_arcs 133 = .ok (.ifCond .ge 7, 3) := by decide +kernel
theorem dX10_arcs_140 : decode cX10_arcs 140 = .ok (.aload_n 0, 1) := by decide +kernel
theorem dX10_arcs_141 : decode cX10_arcs 141 = .ok (.getfield 129, 3) := by decide +kernel
theorem dX10_arcs_144 : decode cX10_arcs 144 = .ok (.iconst 2, 1) := by decide +kernel
theorem dX10_arcs_145 : decode cX10_arcs 145 = .ok (.iload 9, 2) := by decide +kernel
theorem dX10_arcs_147 : decode cX10_arcs 147 = .ok (.imul, 1) := by decide +kernel
theorem dX10_arcs_148 : decode cX10_arcs 148 = .ok (.iload 10, 2) := by decide +kernel
theorem dX10_arcs_150 : decode cX10_arcs 150 = .ok (.iadd, 1) := by decide +kernel
theorem dX10_arcs_151 : decode cX10_arcs 151 = .ok (.iaload, 1) := by decide +kernel
theorem dX10_arcs_136 : decode cX10_arcs 136 = .ok (.iconst 0, 1) := by decide +kernel
theorem dX10_arcs_137 : decode cX10_arcs 137 = .ok (.goto 15, 3) := by decide +kernel
theorem dX10_arcs_152 : decode cX10_arcs 152 = .ok (.istore 11, 2) := by decide +kernel
theorem dX10_arcs_154 : decode cX10_arcs 154 = .ok (.iload 9, 2) := by decide +kernel
theorem dX10_arcs_156 : decode cX10_arcs 156 = .ok (.ifCond .ge 7, 3) := by decide +kernel
theorem dX10_arcs_163 : decode cX10_arcs 163 = .ok (.aload_n 0, 1) := by decide +kernel
theorem dX10_arcs_164 : decode cX10_arcs 164 = .ok (.getfield 132, 3) := by decide +kernel
theorem dX10_arcs_167 : decode cX10_arcs 167 = .ok (.iconst 2, 1) := by decide +kernel
theorem dX10_arcs_168 : decode cX10_arcs 168 = .ok (.iload 9, 2) := by decide +kernel
theorem dX10_arcs_170 : decode cX10_arcs 170 = .ok (.imul, 1) := by decide +kernel
theorem dX10_arcs_171 : decode cX10_arcs 171 = .ok (.iload 10, 2) := by decide +kernel
theorem dX10_arcs_173 : decode cX10_arcs 173 = .ok (.iadd, 1) := by decide +kernel
theorem dX10_arcs_174 : decode cX10_arcs 174 = .ok (.iaload, 1) := by decide +kernel
theorem dX10_arcs_159 : decode cX10_arcs 159 = .ok (.iconst 0, 1) := by decide +kernel
theorem dX10_arcs_160 : decode cX10_arcs 160 = .ok (.goto 15, 3) := by decide +kernel
theorem dX10_arcs_175 : decode cX10_arcs 175 = .ok (.istore 12, 2) := by decide +kernel
theorem dX10_arcs_177 : decode cX10_arcs 177 = .ok (.bipush 8, 2) := by decide +kernel
theorem dX10_arcs_179 : decode cX10_arcs 179 = .ok (.iload_n 1, 1) := by decide +kernel
theorem dX10_arcs_180 : decode cX10_arcs 180 = .ok (.imul, 1) := by decide +kernel
theorem dX10_arcs_181 : decode cX10_arcs 181 = .ok (.iconst 2, 1) := by decide +kernel
theorem dX10_arcs_182 : decode cX10_arcs 182 = .ok (.iload 8, 2) := by decide +kernel
theorem dX10_arcs_184 : decode cX10_arcs 184 = .ok (.imul, 1) := by decide +kernel
theorem dX10_arcs_185 : decode cX10_arcs 185 = .ok (.iadd, 1) := by decide +kernel
theorem dX10_arcs_186 : decode cX10_arcs 186 = .ok (.iload 6, 2) := by decide +kernel
theorem dX10_arcs_188 : decode cX10_arcs 188 = .ok (.iadd, 1) := by decide +kernel
theorem dX10_arcs_189 : decode cX10_arcs 189 = .ok (.istore 13, 2) := by decide +kernel
theorem dX10_arcs_191 : decode cX10_arcs 191 = .ok (.aload_n 0, 1) := by decide +kernel
theorem dX10_arcs_192 : decode cX10_arcs 192 = .ok (.getfield 21, 3) := by decide +kernel
theorem dX10_arcs_195 : decode cX10_arcs 195 = .ok (.iload_n 1, 1) := by decide +kernel
theorem dX10_arcs_196 : decode cX10_arcs 196 = .ok (.iaload, 1) := by decide +kernel
theorem dX10_arcs_197 : decode cX10_arcs 197 = .ok (.istore 14, 2) := by decide +kernel
theorem dX10_arcs_199 : decode cX10_arcs 199 = .ok (.aload_n 0, 1) := by decide +kernel
theorem dX10_arcs_200 : decode cX10_arcs 200 = .ok (.iload 14, 2) := by decide +kernel
theorem dX10_arcs_202 : decode cX10_arcs 202 = .ok (.iconst 0, 1) := by decide +kernel
theorem dX10_arcs_203 : decode cX10_arcs 203 = .ok (.iload 4, 2) := by decide +kernel
theorem dX10_arcs_205 : decode cX10_arcs 205 = .ok (.iload 11, 2) := by decide +kernel
theorem dX10_arcs_207 : decode cX10_arcs 207 = .ok (.iconst 1, 1) := by decide +kernel
theorem dX10_arcs_208 : decode cX10_arcs 208 = .ok (.invokevirtual 252, 3) := by decide +kernel
theorem dX10_arcs_211 : decode cX10_arcs 211 = .ok (.istore 15, 2) := by decide +kernel
theorem dX10_arcs_213 : decode cX10_arcs 213 = .ok (.aload_n 0, 1) := by decide +kernel
theorem dX10_arcs_214 : decode cX10_arcs 214 = .ok (.getfield 225, 3) := by decide +kernel
theorem dX10_arcs_217 : decode cX10_arcs 217 = .ok (.ifCond .ne 18, 3) := by decide +kernel
theorem dX10_arcs_235 : decode cX10_arcs 235 = .ok (.iconst 0, 1) := by decide +kernel
theorem dX10_arcs_220 : decode cX10_arcs 220 = .ok (.aload_n 0, 1) := by decide +kernel
theorem dX10_arcs_221 : decode cX10_arcs 221 = .ok (.iload 14, 2) := by decide +kernel
theorem dX10_arcs_223 : decode cX10_arcs 223 = .ok (.iconst 1, 1) := by decide +kernel
theorem dX10_arcs_224 : decode cX10_arcs 224 = .ok (.iload 4, 2) := by decide +kernel
theorem dX10_arcs_226 : decode cX10_arcs 226 = .ok (.iload 11, 2) := by decide +kernel
theorem dX10_arcs_228 : decode cX10_arcs 228 = .ok (.iconst 1, 1) := by decide +kernel
theorem dX10_arcs_229 : decode cX10_arcs 229 = .ok (.invokevirtual 252, 3) := by decide +kernel
theorem dX10_arcs_232 : decode cX10_arcs 232 = .ok (.goto 4, 3) := by decide +kernel
theorem dX10_arcs_236 : decode cX10_arcs 236 = .ok (.istore 16, 2) := by decide +kernel
theorem dX10_arcs_238 : decode cX10_arcs 238 = .ok (.aload_n 0, 1) := by decide +kernel
theorem dX10_arcs_239 : decode cX10_arcs 239 = .ok (.getfield 225, 3) := by decide +kernel
theorem dX10_arcs_242 : decode cX10_arcs 242 = .ok (.ifCond .ne 18, 3) := by decide +kernel
theorem dX10_arcs_260 : decode cX10_arcs 260 = .ok (.iconst 0, 1) := by decide +kernel
theorem dX10_arcs_245 : decode cX10_arcs 245 = .ok (.aload_n 0, 1) := by decide +kernel
theorem dX10_arcs_246 : decode cX10_arcs 246 = .ok (.iload 14, 2) := by decide +kernel
theorem dX10_arcs_248 : decode cX10_arcs 248 = .ok (.iconst 0, 1) := by decide +kernel
theorem dX10_arcs_249 : decode cX10_arcs 249 = .ok (.iload 5, 2) := by decide +kernel
theorem dX10_arcs_251 : decode cX10_arcs 251 = .ok (.iload 12, 2) := by decide +kernel
theorem dX10_arcs_253 : decode cX10_arcs 253 = .ok (.iconst 0, 1) := by decide +kernel
theorem dX10_arcs_254 : decode cX10_arcs 254 = .ok (.invokevirtual 252, 3) := by decide +kernel
theorem dX10_arcs_257 : decode cX10_arcs 257 = .ok (.goto 4, 3) := by decide +kernel
theorem dX10_arcs_261 : decode cX10_arcs 261 = .ok (.istore 17, 2) := by decide +kernel
theorem dX10_arcs_263 : decode cX10_arcs 263 = .ok (.aload_n 0, 1) := by decide +kernel
theorem dX10_arcs_264 : decode cX10_arcs 264 = .ok (.getfield 225, 3) := by decide +kernel
theorem dX10_arcs_267 : decode cX10_arcs 267 = .ok (.ifCond .ne 18, 3) := by decide +kernel
theorem dX10_arcs_285 : decode cX10_arcs 285 = .ok (.iconst 0, 1) := by decide +kernel
theorem dX10_arcs_270 : decode cX10_arcs 270 = .ok (.aload_n 0, 1) := by decide +kernel
theorem dX10_arcs_271 : decode cX10_arcs 271 = .ok (.iload 14, 2) := by decide +kernel
theorem dX10_arcs_273 : decode cX10_arcs 273 = .ok (.iconst 1, 1) := by decide +kernel
theorem dX10_arcs_274 : decode cX10_arcs 274 = .ok (.iload 5, 2) := by decide +kernel
theorem dX10_arcs_276 : decode cX10_arcs 276 = .ok (.iload 12, 2) := by decide +kernel
theorem dX10_arcs_278 : decode cX10_arcs 278 = .ok (.iconst 0, 1) := by decide +kernel
theorem dX10_arcs_279 : decode cX10_arcs 279 = .ok (.invokevirtual 252, 3) := by decide +kernel
theorem dX10_arcs_282 : decode cX10_arcs 282 = .ok (.goto 4, 3) := by decide +kernel
theorem dX10_arcs_286 : decode cX10_arcs 286 = .ok (.istore 18, 2) := by decide +kernel
theorem dX10_arcs_288 : decode cX10_arcs 288 = .ok (.aload_n 0, 1) := by decide +kernel
theorem dX10_arcs_289 : decode cX10_arcs 289 = .ok (.getfield 225, 3) := by decide +kernel
theorem dX10_arcs_292 : decode cX10_arcs 292 = .ok (.ifCond .eq 14, 3) := by decide +kernel
theorem dX10_arcs_306 : decode cX10_arcs 306 = .ok (.iload 6, 2) := by decide +kernel
theorem dX10_arcs_308 : decode cX10_arcs 308 = .ok (.iconst 1, 1) := by decide +kernel
theorem dX10_arcs_309 : decode cX10_arcs 309 = .ok (.if_icmp .ne 13, 3) := by decide +kernel
theorem dX10_arcs_322 : decode cX10_arcs 322 = .ok (.iconst 0, 1) := by decide +kernel
theorem dX10_arcs_312 : decode cX10_arcs 312 = .ok (.aload_n 0, 1) := by decide +kernel
theorem dX10_arcs_313 : decode cX10_arcs 313 = .ok (.getfield 84, 3) := by decide +kernel
theorem dX10_arcs_316 : decode cX10_arcs 316 = .ok (.iload 14, 2) := by decide +kernel
theorem dX10_arcs_318 : decode cX10_arcs 318 = .ok (.iaload, 1) := by decide +kernel
theorem dX10_arcs_319 : decode cX10_arcs 319 = .ok (.goto 4, 3) := by decide +kernel
theorem dX10_arcs_295 : decode cX10_arcs 295 = .ok (.aload_n 0, 1) := by decide +kernel
theorem dX10_arcs_296 : decode cX10_arcs 296 = .ok (.getfield 120, 3) := by decide +kernel
theorem dX10_arcs_299 : decode cX10_arcs 299 = .ok (.iload_n 1, 1) := by decide +kernel
theorem dX10_arcs_300 : decode cX10_arcs 300 = .ok (.aload_n 0, 1) := by decide +kernel
theorem dX10_arcs_301 : decode cX10_arcs 301 = .ok (.getfield 225, 3) := by decide +kernel
theorem dX10_arcs_304 : decode cX10_arcs 304 = .ok (.iastore, 1) := by decide +kernel
theorem dX10_arcs_305 : decode cX10_arcs 305 = .ok (.return_, 1) := by decide +kernel
theorem dX10_arcs_323 : decode cX10_arcs 323 = .ok (.istore 19, 2) := by decide +kernel
theorem dX10_arcs_325 : decode cX10_arcs 325 = .ok (.aload_n 0, 1) := by decide +kernel
theorem dX10_arcs_326 : decode cX10_arcs 326 = .ok (.getfield 123, 3) := by decide +kernel
theorem dX10_arcs_329 : decode cX10_arcs 329 = .ok (.iload 13, 2) := by decide +kernel
theorem dX10_arcs_331 : decode cX10_arcs 331 = .ok (.iload 15, 2) := by decide +kernel
theorem dX10_arcs_333 : decode cX10_arcs 333 = .ok (.i2l, 1) := by decide +kernel
theorem dX10_arcs_334 : decode cX10_arcs 334 = .ok (.sipush 1000, 3) := by decide +kernel
theorem dX10_arcs_337 : decode cX10_arcs 337 = .ok (.aload_n 0, 1) := by decide +kernel
theorem dX10_arcs_338 : decode cX10_arcs 338 = .ok (.getfield 212, 3) := by decide +kernel
theorem dX10_arcs_341 : decode cX10_arcs 341 = .ok (.iadd, 1) := by decide +kernel
theorem dX10_arcs_342 : decode cX10_arcs 342 = .ok (.i2l, 1) := by decide +kernel
theorem dX10_arcs_343 : decode cX10_arcs 343 = .ok (.lmul, 1) := by decide +kernel
theorem dX10_arcs_344 : decode cX10_arcs 344 = .ok (.ldc2_w 256, 3) := by decide +kernel
theorem dX10_arcs_347 : decode cX10_arcs 347 = .ok (.ladd, 1) := by decide +kernel
theorem dX10_arcs_348 : decode cX10_arcs 348 = .ok (.ldc2_w 258, 3) := by decide +kernel
theorem dX10_arcs_351 : decode cX10_arcs 351 = .ok (.ldiv, 1) := by decide +kernel
theorem dX10_arcs_352 : decode cX10_arcs 352 = .ok (.l2i, 1) := by decide +kernel
theorem dX10_arcs_353 : decode cX10_arcs 353 = .ok (.iload 19, 2) := by decide +kernel
theorem dX10_arcs_355 : decode cX10_arcs 355 = .ok (.iadd, 1) := by decide +kernel
theorem dX10_arcs_356 : decode cX10_arcs 356 = .ok (.iastore, 1) := by decide +kernel
theorem dX10_arcs_357 : decode cX10_arcs 357 = .ok (.aload_n 0, 1) := by decide +kernel
theorem dX10_arcs_358 : decode cX10_arcs 358 = .ok (.getfield 126, 3) := by decide +kernel
theorem dX10_arcs_361 : decode cX10_arcs 361 = .ok (.iload 13, 2) := by decide +kernel
theorem dX10_arcs_363 : decode cX10_arcs 363 = .ok (.iload 17, 2) := by decide +kernel
theorem dX10_arcs_365 : decode cX10_arcs 365 = .ok (.i2l, 1) := by decide +kernel
theorem dX10_arcs_366 : decode cX10_arcs 366 = .ok (.sipush 1000, 3) := by decide +kernel
theorem dX10_arcs_369 : decode cX10_arcs 369 = .ok (.aload_n 0, 1) := by decide +kernel
theorem dX10_arcs_370 : decode cX10_arcs 370 = .ok (.getfield 215, 3) := by decide +kernel
theorem dX10_arcs_373 : decode cX10_arcs 373 = .ok (.isub, 1) := by decide +kernel
theorem dX10_arcs_374 : decode cX10_arcs 374 = .ok (.i2l, 1) := by decide +kernel
theorem dX10_arcs_375 : decode cX10_arcs 375 = .ok (.lmul, 1) := by decide +kernel
theorem dX10_arcs_376 : decode cX10_arcs 376 = .ok (.ldc2_w 258, 3) := by decide +kernel
theorem dX10_arcs_379 : decode cX10_arcs 379 = .ok (.ldiv, 1) := by decide +kernel
theorem dX10_arcs_380 : decode cX10_arcs 380 = .ok (.l2i, 1) := by decide +kernel
theorem dX10_arcs_381 : decode cX10_arcs 381 = .ok (.iload 19, 2) := by decide +kernel
theorem dX10_arcs_383 : decode cX10_arcs 383 = .ok (.iadd, 1) := by decide +kernel
theorem dX10_arcs_384 : decode cX10_arcs 384 = .ok (.iastore, 1) := by decide +kernel
theorem dX10_arcs_385 : decode cX10_arcs 385 = .ok (.aload_n 0, 1) := by decide +kernel
theorem dX10_arcs_386 : decode cX10_arcs 386 = .ok (.getfield 129, 3) := by decide +kernel
theorem dX10_arcs_389 : decode cX10_arcs 389 = .ok (.iconst 2, 1) := by decide +kernel
theorem dX10_arcs_390 : decode cX10_arcs 390 = .ok (.iload_n 1, 1) := by decide +kernel
theorem dX10_arcs_391 : decode cX10_arcs 391 = .ok (.imul, 1) := by decide +kernel
theorem dX10_arcs_392 : decode cX10_arcs 392 = .ok (.iload 6, 2) := by decide +kernel
theorem dX10_arcs_394 : decode cX10_arcs 394 = .ok (.iadd, 1) := by decide +kernel
theorem dX10_arcs_395 : decode cX10_arcs 395 = .ok (.iload 7, 2) := by decide +kernel
theorem dX10_arcs_397 : decode cX10_arcs 397 = .ok (.ifCond .eq 22, 3) := by decide +kernel
theorem dX10_arcs_419 : decode cX10_arcs 419 = .ok (.iload 16, 2) := by decide +kernel
theorem dX10_arcs_400 : decode cX10_arcs 400 = .ok (.aload_n 0, 1) := by decide +kernel
theorem dX10_arcs_401 : decode cX10_arcs 401 = .ok (.getfield 129, 3) := by decide +kernel
theorem dX10_arcs_404 : decode cX10_arcs 404 = .ok (.iconst 2, 1) := by decide +kernel
theorem dX10_arcs_405 : decode cX10_arcs 405 = .ok (.iload_n 1, 1) := by decide +kernel
theorem dX10_arcs_406 : decode cX10_arcs 406 = .ok (.imul, 1) := by decide +kernel
theorem dX10_arcs_407 : decode cX10_arcs 407 = .ok (.iload 6, 2) := by decide +kernel
theorem dX10_arcs_409 : decode cX10_arcs 409 = .ok (.iadd, 1) := by decide +kernel
theorem dX10_arcs_410 : decode cX10_arcs 410 = .ok (.iaload, 1) := by decide +kernel
theorem dX10_arcs_411 : decode cX10_arcs 411 = .ok (.iload 16, 2) := by decide +kernel
theorem dX10_arcs_413 : decode cX10_arcs 413 = .ok (.invokestatic 260, 3) := by decide +kernel
theorem dX10_arcs_416 : decode cX10_arcs 416 = .ok (.goto 5, 3) := by decide +kernel
theorem dX10_arcs_421 : decode cX10_arcs 421 = .ok (.iastore, 1) := by decide +kernel
theorem dX10_arcs_422 : decode cX10_arcs 422 = .ok (.aload_n 0, 1) := by decide +kernel
theorem dX10_arcs_423 : decode cX10_arcs 423 = .ok (.getfield 132, 3) := by decide +kernel
theorem dX10_arcs_426 : decode cX10_arcs 426 = .ok (.iconst 2, 1) := by decide +kernel
theorem dX10_arcs_427 : decode cX10_arcs 427 = .ok (.iload_n 1, 1) := by decide +kernel
theorem dX10_arcs_428 : decode cX10_arcs 428 = .ok (.imul, 1) := by decide +kernel
theorem dX10_arcs_429 : decode cX10_arcs 429 = .ok (.iload 6, 2) := by decide +kernel
theorem dX10_arcs_431 : decode cX10_arcs 431 = .ok (.iadd, 1) := by decide +kernel
theorem dX10_arcs_432 : decode cX10_arcs 432 = .ok (.iload 7, 2) := by decide +kernel
theorem dX10_arcs_434 : decode cX10_arcs 434 = .ok (.ifCond .eq 22, 3) := by decide +kernel
theorem dX10_arcs_456 : decode cX10_arcs 456 = .ok (.iload 18, 2) := by decide +kernel
theorem dX10_arcs_437 : decode cX10_arcs 437 = .ok (.aload_n 0, 1) := by decide +kernel
theorem dX10_arcs_438 : decode cX10_arcs 438 = .ok (.getfield 132, 3) := by decide +kernel
theorem dX10_arcs_441 : decode cX10_arcs 441 = .ok (.iconst 2, 1) := by decide +kernel
theorem dX10_arcs_442 : decode cX10_arcs 442 = .ok (.iload_n 1, 1) := by decide +kernel
theorem dX10_arcs_443 : decode cX10_arcs 443 = .ok (.imul, 1) := by decide +kernel
theorem dX10_arcs_444 : decode cX10_arcs 444 = .ok (.iload 6, 2) := by decide +kernel
theorem dX10_arcs_446 : decode cX10_arcs 446 = .ok (.iadd, 1) := by decide +kernel
theorem dX10_arcs_447 : decode cX10_arcs 447 = .ok (.iaload, 1) := by decide +kernel
theorem dX10_arcs_448 : decode cX10_arcs 448 = .ok (.iload 18, 2) := by decide +kernel
theorem dX10_arcs_450 : decode cX10_arcs 450 = .ok (.invokestatic 266, 3) := by decide +kernel
theorem dX10_arcs_453 : decode cX10_arcs 453 = .ok (.goto 5, 3) := by decide +kernel
theorem dX10_arcs_458 : decode cX10_arcs 458 = .ok (.iastore, 1) := by decide +kernel
theorem dX10_arcs_459 : decode cX10_arcs 459 = .ok (.iconst 1, 1) := by decide +kernel
theorem dX10_arcs_460 : decode cX10_arcs 460 = .ok (.istore 7, 2) := by decide +kernel
def wo_arcs : List Cond := [.code yX10_arcs cX10_arcs 20 none, .methodLink RX10 249 yX10_load, .instanceMethod yX10_load, .selects RX10 yX10_load yX10_load, .initialized RX10, .methodLink RX10 252 yX10_lookUp, .instanceMethod yX10_lookUp, .selects RX10 yX10_lookUp yX10_lookUp, .constantLong RX10 256 999, .constantLong RX10 258 1000, .methodLink RX10 260 Lib.Math.max.name, .static Lib.Math.max.name, .initialized "java/lang/Math", .code Lib.Math.max.name Lib.Math.max.code 2 (some .int), .methodLink RX10 266 Lib.Math.min.name, .static Lib.Math.min.name, .code Lib.Math.min.name Lib.Math.min.code 2 (some .int)]
def wr_arcs : List Cond := (wfX10 ++ (w_load ++ (w_lookUp ++ ([]))))
def w_arcs : List Cond := wo_arcs ++ wr_arcs
theorem wg_arcs : GW w_arcs := GW_app (GW_of (by decide +kernel)) (GW_app (wg_fX10) (GW_app (wg_load) (GW_app (wg_lookUp) (GW_nil))))
theorem in_arcs : ∀ w ∈ wfX10, w ∈ w_arcs := fun _ h => List.mem_append_right _ (List.mem_append_left _ h)
theorem g_arcs_load_249 : GoodIn w_arcs (wsV RX10 249 RX10 yX10_load w_load) := goodIn_app (gi_left (goodIn_of _ (by decide +kernel))) (fun w h => ⟨List.mem_append_right _ (List.mem_append_right _ (List.mem_append_left _ h)), wg_load w h⟩)
theorem g_arcs_lookUp_252 : GoodIn w_arcs (wsV RX10 252 RX10 yX10_lookUp w_lookUp) := goodIn_app (gi_left (goodIn_of _ (by decide +kernel))) (fun w h => ⟨List.mem_append_right _ (List.mem_append_right _ (List.mem_append_right _ (List.mem_append_left _ h))), wg_lookUp w h⟩)
set_option maxHeartbeats 4000000 in
set_option maxRecDepth 100000 in
theorem ct_arcs (l : Launch) (E : gE) (B : Nat → Nat) (Q : VS → Prop) (p1 : Int32) (σ : VS) (hw : wp_arcs Q p1 σ) : CtV l E yX10_arcs w_arcs (({ frames := 2, cells := 0, slots := 0, locals := 66 } : Room)) (wm E B σ) [.ref (B 0), .int p1] (fun w => ∃ σ' : VS, Q σ' ∧ w = wm E B σ') := by
  refine VC_V (cc := cX10_arcs) (mL := 20) (rt := none) (lv0 := [(0, .ref (B 0)), (1, .int p1)]) rfl (by decide) rfl (Nat.le_of_ble_eq_true rfl) ?_
  intro p e s m below meth c A F
  replace F : Fx p s m _ meth c A E cX10_arcs 20 none RX10 w_arcs := F
  obtain ⟨X32, hX32⟩ : ∃ X : Int32 → Int32 → Int32 → Int32 → VS → Prop, X = fun l1 l4 l5 l6 σ => WB p l e (({ frames := 2, cells := 0, slots := 0, locals := 66 } : Room)) s m (#[.ref (B 0), .int p1]) below meth c (MQ below (va_Qv (fun w => ∃ σ' : VS, Q σ' ∧ w = wm E B σ') (AftU E A) A) (#[.ref (B 0), .int p1]) s (({ frames := 2, cells := 0, slots := 0, locals := 66 } : Room)).cells (({ frames := 2, cells := 0, slots := 0, locals := 66 } : Room)).slots A) A E (wm E B) 20 32 [(0, .ref (B 0)), (1, .int l1), (4, .int l4), (5, .int l5), (6, .int l6)] [] σ := ⟨_, rfl⟩
  have U_32 : ∀ (l1 : Int32) (l4 : Int32) (l5 : Int32) (l6 : Int32) (σ : VS), X32 l1 l4 l5 l6 σ → WB p l e (({ frames := 2, cells := 0, slots := 0, locals := 66 } : Room)) s m (#[.ref (B 0), .int p1]) below meth c (MQ below (va_Qv (fun w => ∃ σ' : VS, Q σ' ∧ w = wm E B σ') (AftU E A) A) (#[.ref (B 0), .int p1]) s (({ frames := 2, cells := 0, slots := 0, locals := 66 } : Room)).cells (({ frames := 2, cells := 0, slots := 0, locals := 66 } : Room)).slots A) A E (wm E B) 20 32 [(0, .ref (B 0)), (1, .int l1), (4, .int l4), (5, .int l5), (6, .int l6)] [] σ := by
    intro l1 l4 l5 l6 σ hw; rw [hX32] at hw; exact hw
  obtain ⟨X44, hX44⟩ : ∃ X : Int32 → Int32 → Int32 → Int32 → Int32 → Int32 → VS → Prop, X = fun l1 l4 l5 l6 l7 l8 σ => WB p l e (({ frames := 2, cells := 0, slots := 0, locals := 66 } : Room)) s m (#[.ref (B 0), .int p1]) below meth c (MQ below (va_Qv (fun w => ∃ σ' : VS, Q σ' ∧ w = wm E B σ') (AftU E A) A) (#[.ref (B 0), .int p1]) s (({ frames := 2, cells := 0, slots := 0, locals := 66 } : Room)).cells (({ frames := 2, cells := 0, slots := 0, locals := 66 } : Room)).slots A) A E (wm E B) 20 44 [(0, .ref (B 0)), (1, .int l1), (4, .int l4), (5, .int l5), (6, .int l6), (7, .int l7), (8, .int l8)] [] σ := ⟨_, rfl⟩
  have U_44 : ∀ (l1 : Int32) (l4 : Int32) (l5 : Int32) (l6 : Int32) (l7 : Int32) (l8 : Int32) (σ : VS), X44 l1 l4 l5 l6 l7 l8 σ → WB p l e (({ frames := 2, cells := 0, slots := 0, locals := 66 } : Room)) s m (#[.ref (B 0), .int p1]) below meth c (MQ below (va_Qv (fun w => ∃ σ' : VS, Q σ' ∧ w = wm E B σ') (AftU E A) A) (#[.ref (B 0), .int p1]) s (({ frames := 2, cells := 0, slots := 0, locals := 66 } : Room)).cells (({ frames := 2, cells := 0, slots := 0, locals := 66 } : Room)).slots A) A E (wm E B) 20 44 [(0, .ref (B 0)), (1, .int l1), (4, .int l4), (5, .int l5), (6, .int l6), (7, .int l7), (8, .int l8)] [] σ := by
    intro l1 l4 l5 l6 l7 l8 σ hw; rw [hX44] at hw; exact hw
  have J_462 : ∀ (l1 : Int32) (l4 : Int32) (l5 : Int32) (l6 : Int32) (l7 : Int32) (l8 : Int32) (σ : VS), b_arcs_462 X32 X44 Q l1 l4 l5 l6 l7 l8 σ → WB p l e (({ frames := 2, cells := 0, slots := 0, locals := 66 } : Room)) s m (#[.ref (B 0), .int p1]) below meth c (MQ below (va_Qv (fun w => ∃ σ' : VS, Q σ' ∧ w = wm E B σ') (AftU E A) A) (#[.ref (B 0), .int p1]) s (({ frames := 2, cells := 0, slots := 0, locals := 66 } : Room)).cells (({ frames := 2, cells := 0, slots := 0, locals := 66 } : Room)).slots A) A E (wm E B) 20 462 [(0, .ref (B 0)), (1, .int l1), (4, .int l4), (5, .int l5), (6, .int l6), (7, .int l7), (8, .int l8)] [] σ := by
    intro l1 l4 l5 l6 l7 l8 σ hw
    unfold b_arcs_462 at hw
    refine R_iinc (q := 6) (v := (l8 + 1)) (lv' := [(8, .int (l8 + 1)), (0, .ref (B 0)), (1, .int l1), (4, .int l4), (5, .int l5), (6, .int l6), (7, .int l7)]) F dX10_arcs_462 rfl rfl (by decide) rfl ?_
    refine R_goto (tgt := 44) F dX10_arcs_465 (by decide) ?_
    exact R_sub [1, 2, 3, 4, 5, 6, 0] rfl (U_44 l1 l4 l5 l6 l7 (l8 + 1) σ hw)
  have J_458 : ∀ (l1 : Int32) (l4 : Int32) (l5 : Int32) (l6 : Int32) (l8 : Int32) (k0 : Int32) (k1 : Int32) (σ : VS), b_arcs_458 X32 X44 Q l1 l4 l5 l6 l8 k0 k1 σ → WB p l e (({ frames := 2, cells := 0, slots := 0, locals := 66 } : Room)) s m (#[.ref (B 0), .int p1]) below meth c (MQ below (va_Qv (fun w => ∃ σ' : VS, Q σ' ∧ w = wm E B σ') (AftU E A) A) (#[.ref (B 0), .int p1]) s (({ frames := 2, cells := 0, slots := 0, locals := 66 } : Room)).cells (({ frames := 2, cells := 0, slots := 0, locals := 66 } : Room)).slots A) A E (wm E B) 20 458 [(0, .ref (B 0)), (1, .int l1), (4, .int l4), (5, .int l5), (6, .int l6), (8, .int l8)] [.int k0, .int k1, .ref (B 39)] σ := by
    intro l1 l4 l5 l6 l8 k0 k1 σ hw
    unfold b_arcs_458 at hw
    have hi := hw.1
    replace hw := hw.2
    refine R_sti F qm_39 um_39 dX10_arcs_458 hi ?_
    refine R_iconst F 1 dX10_arcs_459 (by decide) ?_
    refine R_istore (lv' := [(7, .int 1), (0, .ref (B 0)), (1, .int l1), (4, .int l4), (5, .int l5), (6, .int l6), (8, .int l8)]) F dX10_arcs_460 (by decide) rfl ?_
    exact R_sub [1, 2, 3, 4, 5, 0, 6] rfl (J_462 l1 l4 l5 l6 1 l8 (sa σ 39 k1 k0) hw)
  have J_421 : ∀ (l1 : Int32) (l4 : Int32) (l5 : Int32) (l6 : Int32) (l7 : Int32) (l8 : Int32) (l18 : Int32) (k0 : Int32) (k1 : Int32) (σ : VS), b_arcs_421 X32 X44 Q l1 l4 l5 l6 l7 l8 l18 k0 k1 σ → WB p l e (({ frames := 2, cells := 0, slots := 0, locals := 66 } : Room)) s m (#[.ref (B 0), .int p1]) below meth c (MQ below (va_Qv (fun w => ∃ σ' : VS, Q σ' ∧ w = wm E B σ') (AftU E A) A) (#[.ref (B 0), .int p1]) s (({ frames := 2, cells := 0, slots := 0, locals := 66 } : Room)).cells (({ frames := 2, cells := 0, slots := 0, locals := 66 } : Room)).slots A) A E (wm E B) 20 421 [(0, .ref (B 0)), (1, .int l1), (4, .int l4), (5, .int l5), (6, .int l6), (7, .int l7), (8, .int l8), (18, .int l18)] [.int k0, .int k1, .ref (B 38)] σ := by
    intro l1 l4 l5 l6 l7 l8 l18 k0 k1 σ hw
    unfold b_arcs_421 at hw
    have hi := hw.1
    replace hw := hw.2
    refine R_sti F qm_38 um_38 dX10_arcs_421 hi ?_
    refine R_aload_n F dX10_arcs_422 rfl 0 rfl ?_
    refine gm_39 F in_arcs dX10_arcs_423 ?_
    refine R_iconst F 2 dX10_arcs_426 (by decide) ?_
    refine R_iload_n F dX10_arcs_427 rfl 1 rfl ?_
    refine R_imul F dX10_arcs_428 ?_
    refine R_iload F dX10_arcs_429 4 rfl ?_
    refine R_iadd F dX10_arcs_431 ?_
    refine R_iload F dX10_arcs_432 5 rfl ?_
    refine R_if_eq (tgt := 456) F dX10_arcs_434 (by decide) (fun hc => ?_) (fun hc => ?_)
    · replace hw := hw.1 hc
      refine R_iload F dX10_arcs_456 7 rfl ?_
      exact R_sub [0, 1, 2, 3, 4, 6] rfl (J_458 l1 l4 l5 l6 l8 l18 ((2 * l1) + l6) (sa σ 38 k1 k0) hw)
    · replace hw := hw.2 hc
      refine R_aload_n F dX10_arcs_437 rfl 0 rfl ?_
      refine gm_39 F in_arcs dX10_arcs_438 ?_
      refine R_iconst F 2 dX10_arcs_441 (by decide) ?_
      refine R_iload_n F dX10_arcs_442 rfl 1 rfl ?_
      refine R_imul F dX10_arcs_443 ?_
      refine R_iload F dX10_arcs_444 4 rfl ?_
      refine R_iadd F dX10_arcs_446 ?_
      refine R_ldi F qm_39 dX10_arcs_447 hw.1 ?_
      replace hw := hw.2
      refine R_iload F dX10_arcs_448 7 rfl ?_
      refine R_mmin F (List.mem_append_left _ (show Cond.methodLink RX10 266 Lib.Math.min.name ∈ wo_arcs by decide +kernel)) (List.mem_append_left _ (show Cond.static Lib.Math.min.name ∈ wo_arcs by decide +kernel)) (List.mem_append_left _ (show Cond.initialized "java/lang/Math" ∈ wo_arcs by decide +kernel)) (List.mem_append_left _ (show Cond.code Lib.Math.min.name Lib.Math.min.code 2 (some .int) ∈ wo_arcs by decide +kernel)) (Nat.le_of_ble_eq_true rfl) (Nat.le_of_ble_eq_true rfl) dX10_arcs_450 ?_
      refine R_goto (tgt := 458) F dX10_arcs_453 (by decide) ?_
      exact R_sub [0, 1, 2, 3, 4, 6] rfl (J_458 l1 l4 l5 l6 l8 (imin (rd (sa σ 38 k1 k0) 39 ((2 * l1) + l6)) l18) ((2 * l1) + l6) (sa σ 38 k1 k0) hw)
  have J_323 : ∀ (l1 : Int32) (l4 : Int32) (l5 : Int32) (l6 : Int32) (l7 : Int32) (l8 : Int32) (l13 : Int32) (l15 : Int32) (l16 : Int32) (l17 : Int32) (l18 : Int32) (k0 : Int32) (σ : VS), b_arcs_323 X32 X44 Q l1 l4 l5 l6 l7 l8 l13 l15 l16 l17 l18 k0 σ → WB p l e (({ frames := 2, cells := 0, slots := 0, locals := 66 } : Room)) s m (#[.ref (B 0), .int p1]) below meth c (MQ below (va_Qv (fun w => ∃ σ' : VS, Q σ' ∧ w = wm E B σ') (AftU E A) A) (#[.ref (B 0), .int p1]) s (({ frames := 2, cells := 0, slots := 0, locals := 66 } : Room)).cells (({ frames := 2, cells := 0, slots := 0, locals := 66 } : Room)).slots A) A E (wm E B) 20 323 [(0, .ref (B 0)), (1, .int l1), (4, .int l4), (5, .int l5), (6, .int l6), (7, .int l7), (8, .int l8), (13, .int l13), (15, .int l15), (16, .int l16), (17, .int l17), (18, .int l18)] [.int k0] σ := by
    intro l1 l4 l5 l6 l7 l8 l13 l15 l16 l17 l18 k0 σ hw
    unfold b_arcs_323 at hw
    refine R_istore (lv' := [(19, .int k0), (0, .ref (B 0)), (1, .int l1), (4, .int l4), (5, .int l5), (6, .int l6), (7, .int l7), (8, .int l8), (13, .int l13), (15, .int l15), (16, .int l16), (17, .int l17), (18, .int l18)]) F dX10_arcs_323 (by decide) rfl ?_
    refine R_aload_n F dX10_arcs_325 rfl 1 rfl ?_
    refine gm_36 F in_arcs dX10_arcs_326 ?_
    refine R_iload F dX10_arcs_329 8 rfl ?_
    refine R_iload F dX10_arcs_331 9 rfl ?_
    refine R_i2l F dX10_arcs_333 ?_
    refine R_sipush F 1000 dX10_arcs_334 (by decide) ?_
    refine R_aload_n F dX10_arcs_337 rfl 1 rfl ?_
    refine gm_18 F in_arcs dX10_arcs_338 ?_
    refine R_iadd F dX10_arcs_341 ?_
    refine R_i2l F dX10_arcs_342 ?_
    refine R_lmul F dX10_arcs_343 ?_
    refine R_ldc2 F 999 (List.mem_append_left _ (show Cond.constantLong RX10 256 999 ∈ wo_arcs by decide +kernel)) dX10_arcs_344 ?_
    refine R_ladd F dX10_arcs_347 ?_
    refine R_ldc2 F 1000 (List.mem_append_left _ (show Cond.constantLong RX10 258 1000 ∈ wo_arcs by decide +kernel)) dX10_arcs_348 ?_
    refine R_ldiv F dX10_arcs_351 (by decide) ?_
    refine R_l2i F dX10_arcs_352 ?_
    refine R_iload F dX10_arcs_353 0 rfl ?_
    refine R_iadd F dX10_arcs_355 ?_
    have hi := hw.1
    replace hw := hw.2
    refine R_sti F qm_36 um_36 dX10_arcs_356 hi ?_
    refine R_aload_n F dX10_arcs_357 rfl 1 rfl ?_
    refine gm_37 F in_arcs dX10_arcs_358 ?_
    refine R_iload F dX10_arcs_361 8 rfl ?_
    refine R_iload F dX10_arcs_363 11 rfl ?_
    refine R_i2l F dX10_arcs_365 ?_
    refine R_sipush F 1000 dX10_arcs_366 (by decide) ?_
    refine R_aload_n F dX10_arcs_369 rfl 1 rfl ?_
    refine gm_19 F in_arcs dX10_arcs_370 ?_
    refine R_isub F dX10_arcs_373 ?_
    refine R_i2l F dX10_arcs_374 ?_
    refine R_lmul F dX10_arcs_375 ?_
    refine R_ldc2 F 1000 (List.mem_append_left _ (show Cond.constantLong RX10 258 1000 ∈ wo_arcs by decide +kernel)) dX10_arcs_376 ?_
    refine R_ldiv F dX10_arcs_379 (by decide) ?_
    refine R_l2i F dX10_arcs_380 ?_
    refine R_iload F dX10_arcs_381 0 rfl ?_
    refine R_iadd F dX10_arcs_383 ?_
    have hi := hw.1
    replace hw := hw.2
    refine R_sti F qm_37 um_37 dX10_arcs_384 hi ?_
    refine R_aload_n F dX10_arcs_385 rfl 1 rfl ?_
    refine gm_38 F in_arcs dX10_arcs_386 ?_
    refine R_iconst F 2 dX10_arcs_389 (by decide) ?_
    refine R_iload_n F dX10_arcs_390 rfl 2 rfl ?_
    refine R_imul F dX10_arcs_391 ?_
    refine R_iload F dX10_arcs_392 5 rfl ?_
    refine R_iadd F dX10_arcs_394 ?_
    refine R_iload F dX10_arcs_395 6 rfl ?_
    refine R_if_eq (tgt := 419) F dX10_arcs_397 (by decide) (fun hc => ?_) (fun hc => ?_)
    · replace hw := hw.1 hc
      refine R_iload F dX10_arcs_419 10 rfl ?_
      exact R_sub [1, 2, 3, 4, 5, 6, 7, 12] rfl (J_421 l1 l4 l5 l6 l7 l8 l18 l16 ((2 * l1) + l6) (sa (sa σ 36 l13 ((((((((l15).toInt64) * (((1000 + (σ.1 18))).toInt64)) + (999 : Int64)) / (1000 : Int64))).toInt32) + k0)) 37 l13 (((((((l17).toInt64) * (((1000 - ((sa σ 36 l13 ((((((((l15).toInt64) * (((1000 + (σ.1 18))).toInt64)) + (999 : Int64)) / (1000 : Int64))).toInt32) + k0)).1 19))).toInt64)) / (1000 : Int64))).toInt32) + k0)) hw)
    · replace hw := hw.2 hc
      refine R_aload_n F dX10_arcs_400 rfl 1 rfl ?_
      refine gm_38 F in_arcs dX10_arcs_401 ?_
      refine R_iconst F 2 dX10_arcs_404 (by decide) ?_
      refine R_iload_n F dX10_arcs_405 rfl 2 rfl ?_
      refine R_imul F dX10_arcs_406 ?_
      refine R_iload F dX10_arcs_407 5 rfl ?_
      refine R_iadd F dX10_arcs_409 ?_
      refine R_ldi F qm_38 dX10_arcs_410 hw.1 ?_
      replace hw := hw.2
      refine R_iload F dX10_arcs_411 10 rfl ?_
      refine R_mmax F (List.mem_append_left _ (show Cond.methodLink RX10 260 Lib.Math.max.name ∈ wo_arcs by decide +kernel)) (List.mem_append_left _ (show Cond.static Lib.Math.max.name ∈ wo_arcs by decide +kernel)) (List.mem_append_left _ (show Cond.initialized "java/lang/Math" ∈ wo_arcs by decide +kernel)) (List.mem_append_left _ (show Cond.code Lib.Math.max.name Lib.Math.max.code 2 (some .int) ∈ wo_arcs by decide +kernel)) (Nat.le_of_ble_eq_true rfl) (Nat.le_of_ble_eq_true rfl) dX10_arcs_413 ?_
      refine R_goto (tgt := 421) F dX10_arcs_416 (by decide) ?_
      exact R_sub [1, 2, 3, 4, 5, 6, 7, 12] rfl (J_421 l1 l4 l5 l6 l7 l8 l18 (imax (rd (sa (sa σ 36 l13 ((((((((l15).toInt64) * (((1000 + (σ.1 18))).toInt64)) + (999 : Int64)) / (1000 : Int64))).toInt32) + k0)) 37 l13 (((((((l17).toInt64) * (((1000 - ((sa σ 36 l13 ((((((((l15).toInt64) * (((1000 + (σ.1 18))).toInt64)) + (999 : Int64)) / (1000 : Int64))).toInt32) + k0)).1 19))).toInt64)) / (1000 : Int64))).toInt32) + k0)) 38 ((2 * l1) + l6)) l16) ((2 * l1) + l6) (sa (sa σ 36 l13 ((((((((l15).toInt64) * (((1000 + (σ.1 18))).toInt64)) + (999 : Int64)) / (1000 : Int64))).toInt32) + k0)) 37 l13 (((((((l17).toInt64) * (((1000 - ((sa σ 36 l13 ((((((((l15).toInt64) * (((1000 + (σ.1 18))).toInt64)) + (999 : Int64)) / (1000 : Int64))).toInt32) + k0)).1 19))).toInt64)) / (1000 : Int64))).toInt32) + k0)) hw)
  have J_286 : ∀ (l1 : Int32) (l4 : Int32) (l5 : Int32) (l6 : Int32) (l7 : Int32) (l8 : Int32) (l13 : Int32) (l14 : Int32) (l15 : Int32) (l16 : Int32) (l17 : Int32) (k0 : Int32) (σ : VS), b_arcs_286 X32 X44 Q l1 l4 l5 l6 l7 l8 l13 l14 l15 l16 l17 k0 σ → WB p l e (({ frames := 2, cells := 0, slots := 0, locals := 66 } : Room)) s m (#[.ref (B 0), .int p1]) below meth c (MQ below (va_Qv (fun w => ∃ σ' : VS, Q σ' ∧ w = wm E B σ') (AftU E A) A) (#[.ref (B 0), .int p1]) s (({ frames := 2, cells := 0, slots := 0, locals := 66 } : Room)).cells (({ frames := 2, cells := 0, slots := 0, locals := 66 } : Room)).slots A) A E (wm E B) 20 286 [(0, .ref (B 0)), (1, .int l1), (4, .int l4), (5, .int l5), (6, .int l6), (7, .int l7), (8, .int l8), (13, .int l13), (14, .int l14), (15, .int l15), (16, .int l16), (17, .int l17)] [.int k0] σ := by
    intro l1 l4 l5 l6 l7 l8 l13 l14 l15 l16 l17 k0 σ hw
    unfold b_arcs_286 at hw
    refine R_istore (lv' := [(18, .int k0), (0, .ref (B 0)), (1, .int l1), (4, .int l4), (5, .int l5), (6, .int l6), (7, .int l7), (8, .int l8), (13, .int l13), (14, .int l14), (15, .int l15), (16, .int l16), (17, .int l17)]) F dX10_arcs_286 (by decide) rfl ?_
    refine R_aload_n F dX10_arcs_288 rfl 1 rfl ?_
    refine gm_30 F in_arcs dX10_arcs_289 ?_
    refine R_if_eq (tgt := 306) F dX10_arcs_292 (by decide) (fun hc => ?_) (fun hc => ?_)
    · replace hw := hw.1 hc
      refine R_iload F dX10_arcs_306 5 rfl ?_
      refine R_iconst F 1 dX10_arcs_308 (by decide) ?_
      refine R_icmp_ne (tgt := 322) F dX10_arcs_309 (by decide) (fun hc => ?_) (fun hc => ?_)
      · replace hw := hw.1 hc
        refine R_iconst F 0 dX10_arcs_322 (by decide) ?_
        exact R_sub [1, 2, 3, 4, 5, 6, 7, 8, 10, 11, 12, 0] rfl (J_323 l1 l4 l5 l6 l7 l8 l13 l15 l16 l17 k0 0 σ hw)
      · replace hw := hw.2 hc
        refine R_aload_n F dX10_arcs_312 rfl 1 rfl ?_
        refine gm_17 F in_arcs dX10_arcs_313 ?_
        refine R_iload F dX10_arcs_316 9 rfl ?_
        refine R_ldi F qm_17 dX10_arcs_318 hw.1 ?_
        replace hw := hw.2
        refine R_goto (tgt := 323) F dX10_arcs_319 (by decide) ?_
        exact R_sub [1, 2, 3, 4, 5, 6, 7, 8, 10, 11, 12, 0] rfl (J_323 l1 l4 l5 l6 l7 l8 l13 l15 l16 l17 k0 (rd σ 17 l14) σ hw)
    · replace hw := hw.2 hc
      refine R_aload_n F dX10_arcs_295 rfl 1 rfl ?_
      refine gm_35 F in_arcs dX10_arcs_296 ?_
      refine R_iload_n F dX10_arcs_299 rfl 2 rfl ?_
      refine R_aload_n F dX10_arcs_300 rfl 1 rfl ?_
      refine gm_30 F in_arcs dX10_arcs_301 ?_
      have hi := hw.1
      replace hw := hw.2
      refine R_sti F qm_35 um_35 dX10_arcs_304 hi ?_
      exact R_vret (Qc := Q) F dX10_arcs_305 hw
  have J_261 : ∀ (l1 : Int32) (l4 : Int32) (l5 : Int32) (l6 : Int32) (l7 : Int32) (l8 : Int32) (l12 : Int32) (l13 : Int32) (l14 : Int32) (l15 : Int32) (l16 : Int32) (k0 : Int32) (σ : VS), b_arcs_261 X32 X44 Q l1 l4 l5 l6 l7 l8 l12 l13 l14 l15 l16 k0 σ → WB p l e (({ frames := 2, cells := 0, slots := 0, locals := 66 } : Room)) s m (#[.ref (B 0), .int p1]) below meth c (MQ below (va_Qv (fun w => ∃ σ' : VS, Q σ' ∧ w = wm E B σ') (AftU E A) A) (#[.ref (B 0), .int p1]) s (({ frames := 2, cells := 0, slots := 0, locals := 66 } : Room)).cells (({ frames := 2, cells := 0, slots := 0, locals := 66 } : Room)).slots A) A E (wm E B) 20 261 [(0, .ref (B 0)), (1, .int l1), (4, .int l4), (5, .int l5), (6, .int l6), (7, .int l7), (8, .int l8), (12, .int l12), (13, .int l13), (14, .int l14), (15, .int l15), (16, .int l16)] [.int k0] σ := by
    intro l1 l4 l5 l6 l7 l8 l12 l13 l14 l15 l16 k0 σ hw
    unfold b_arcs_261 at hw
    refine R_istore (lv' := [(17, .int k0), (0, .ref (B 0)), (1, .int l1), (4, .int l4), (5, .int l5), (6, .int l6), (7, .int l7), (8, .int l8), (12, .int l12), (13, .int l13), (14, .int l14), (15, .int l15), (16, .int l16)]) F dX10_arcs_261 (by decide) rfl ?_
    refine R_aload_n F dX10_arcs_263 rfl 1 rfl ?_
    refine gm_30 F in_arcs dX10_arcs_264 ?_
    refine R_if_ne (tgt := 285) F dX10_arcs_267 (by decide) (fun hc => ?_) (fun hc => ?_)
    · replace hw := hw.1 hc
      refine R_iconst F 0 dX10_arcs_285 (by decide) ?_
      exact R_sub [1, 2, 3, 4, 5, 6, 7, 9, 10, 11, 12, 0] rfl (J_286 l1 l4 l5 l6 l7 l8 l13 l14 l15 l16 k0 0 σ hw)
    · replace hw := hw.2 hc
      refine R_aload_n F dX10_arcs_270 rfl 1 rfl ?_
      refine R_iload F dX10_arcs_271 10 rfl ?_
      refine R_iconst F 1 dX10_arcs_273 (by decide) ?_
      refine R_iload F dX10_arcs_274 4 rfl ?_
      refine R_iload F dX10_arcs_276 8 rfl ?_
      refine R_iconst F 0 dX10_arcs_278 (by decide) ?_
      refine R_callI (As := [.int l14, .int 1, .int l5, .int l12, .int 0]) (C := RX10) (q0 := 0) (ci := 10) (N := 69) (T := TX10) (fs := mfl B) F (ct_lookUp l E B _ l14 1 l5 l12 0 _ hw) (cwV 5 F.2.2.2.2.2.2.2.2.2.2 g_arcs_lookUp_252 rfl rfl rfl (by decide +kernel) ⟨Nat.le_of_ble_eq_true rfl, Nat.le_of_ble_eq_true rfl⟩) ⟨rfl, rfl⟩ rfl (fun _ => rfl) rfl rfl (Nat.le_of_ble_eq_true rfl) dX10_arcs_279 (fun r14 σ15 hw => ?_)
      refine R_goto (tgt := 286) F dX10_arcs_282 (by decide) ?_
      exact R_sub [1, 2, 3, 4, 5, 6, 7, 9, 10, 11, 12, 0] rfl (J_286 l1 l4 l5 l6 l7 l8 l13 l14 l15 l16 k0 r14 σ15 hw)
  have J_236 : ∀ (l1 : Int32) (l4 : Int32) (l5 : Int32) (l6 : Int32) (l7 : Int32) (l8 : Int32) (l12 : Int32) (l13 : Int32) (l14 : Int32) (l15 : Int32) (k0 : Int32) (σ : VS), b_arcs_236 X32 X44 Q l1 l4 l5 l6 l7 l8 l12 l13 l14 l15 k0 σ → WB p l e (({ frames := 2, cells := 0, slots := 0, locals := 66 } : Room)) s m (#[.ref (B 0), .int p1]) below meth c (MQ below (va_Qv (fun w => ∃ σ' : VS, Q σ' ∧ w = wm E B σ') (AftU E A) A) (#[.ref (B 0), .int p1]) s (({ frames := 2, cells := 0, slots := 0, locals := 66 } : Room)).cells (({ frames := 2, cells := 0, slots := 0, locals := 66 } : Room)).slots A) A E (wm E B) 20 236 [(0, .ref (B 0)), (1, .int l1), (4, .int l4), (5, .int l5), (6, .int l6), (7, .int l7), (8, .int l8), (12, .int l12), (13, .int l13), (14, .int l14), (15, .int l15)] [.int k0] σ := by
    intro l1 l4 l5 l6 l7 l8 l12 l13 l14 l15 k0 σ hw
    unfold b_arcs_236 at hw
    refine R_istore (lv' := [(16, .int k0), (0, .ref (B 0)), (1, .int l1), (4, .int l4), (5, .int l5), (6, .int l6), (7, .int l7), (8, .int l8), (12, .int l12), (13, .int l13), (14, .int l14), (15, .int l15)]) F dX10_arcs_236 (by decide) rfl ?_
    refine R_aload_n F dX10_arcs_238 rfl 1 rfl ?_
    refine gm_30 F in_arcs dX10_arcs_239 ?_
    refine R_if_ne (tgt := 260) F dX10_arcs_242 (by decide) (fun hc => ?_) (fun hc => ?_)
    · replace hw := hw.1 hc
      refine R_iconst F 0 dX10_arcs_260 (by decide) ?_
      exact R_sub [1, 2, 3, 4, 5, 6, 7, 8, 9, 10, 11, 0] rfl (J_261 l1 l4 l5 l6 l7 l8 l12 l13 l14 l15 k0 0 σ hw)
    · replace hw := hw.2 hc
      refine R_aload_n F dX10_arcs_245 rfl 1 rfl ?_
      refine R_iload F dX10_arcs_246 10 rfl ?_
      refine R_iconst F 0 dX10_arcs_248 (by decide) ?_
      refine R_iload F dX10_arcs_249 4 rfl ?_
      refine R_iload F dX10_arcs_251 8 rfl ?_
      refine R_iconst F 0 dX10_arcs_253 (by decide) ?_
      refine R_callI (As := [.int l14, .int 0, .int l5, .int l12, .int 0]) (C := RX10) (q0 := 0) (ci := 10) (N := 69) (T := TX10) (fs := mfl B) F (ct_lookUp l E B _ l14 0 l5 l12 0 _ hw) (cwV 5 F.2.2.2.2.2.2.2.2.2.2 g_arcs_lookUp_252 rfl rfl rfl (by decide +kernel) ⟨Nat.le_of_ble_eq_true rfl, Nat.le_of_ble_eq_true rfl⟩) ⟨rfl, rfl⟩ rfl (fun _ => rfl) rfl rfl (Nat.le_of_ble_eq_true rfl) dX10_arcs_254 (fun r12 σ13 hw => ?_)
      refine R_goto (tgt := 261) F dX10_arcs_257 (by decide) ?_
      exact R_sub [1, 2, 3, 4, 5, 6, 7, 8, 9, 10, 11, 0] rfl (J_261 l1 l4 l5 l6 l7 l8 l12 l13 l14 l15 k0 r12 σ13 hw)
  have J_175 : ∀ (l1 : Int32) (l4 : Int32) (l5 : Int32) (l6 : Int32) (l7 : Int32) (l8 : Int32) (l11 : Int32) (k0 : Int32) (σ : VS), b_arcs_175 X32 X44 Q l1 l4 l5 l6 l7 l8 l11 k0 σ → WB p l e (({ frames := 2, cells := 0, slots := 0, locals := 66 } : Room)) s m (#[.ref (B 0), .int p1]) below meth c (MQ below (va_Qv (fun w => ∃ σ' : VS, Q σ' ∧ w = wm E B σ') (AftU E A) A) (#[.ref (B 0), .int p1]) s (({ frames := 2, cells := 0, slots := 0, locals := 66 } : Room)).cells (({ frames := 2, cells := 0, slots := 0, locals := 66 } : Room)).slots A) A E (wm E B) 20 175 [(0, .ref (B 0)), (1, .int l1), (4, .int l4), (5, .int l5), (6, .int l6), (7, .int l7), (8, .int l8), (11, .int l11)] [.int k0] σ := by
    intro l1 l4 l5 l6 l7 l8 l11 k0 σ hw
    unfold b_arcs_175 at hw
    refine R_istore (lv' := [(12, .int k0), (0, .ref (B 0)), (1, .int l1), (4, .int l4), (5, .int l5), (6, .int l6), (7, .int l7), (8, .int l8), (11, .int l11)]) F dX10_arcs_175 (by decide) rfl ?_
    refine R_bipush F 8 dX10_arcs_177 (by decide) ?_
    refine R_iload_n F dX10_arcs_179 rfl 2 rfl ?_
    refine R_imul F dX10_arcs_180 ?_
    refine R_iconst F 2 dX10_arcs_181 (by decide) ?_
    refine R_iload F dX10_arcs_182 7 rfl ?_
    refine R_imul F dX10_arcs_184 ?_
    refine R_iadd F dX10_arcs_185 ?_
    refine R_iload F dX10_arcs_186 5 rfl ?_
    refine R_iadd F dX10_arcs_188 ?_
    refine R_topi (fun x6 ex6 => ?_)
    replace hw := hw x6 ex6
    refine R_istore (lv' := [(13, .int x6), (12, .int k0), (0, .ref (B 0)), (1, .int l1), (4, .int l4), (5, .int l5), (6, .int l6), (7, .int l7), (8, .int l8), (11, .int l11)]) F dX10_arcs_189 (by decide) rfl ?_
    refine R_aload_n F dX10_arcs_191 rfl 2 rfl ?_
    refine gm_4 F in_arcs dX10_arcs_192 ?_
    refine R_iload_n F dX10_arcs_195 rfl 3 rfl ?_
    refine R_ldi F qm_4 dX10_arcs_196 hw.1 ?_
    replace hw := hw.2
    refine R_topi (fun x7 ex7 => ?_)
    replace hw := hw x7 ex7
    refine R_istore (lv' := [(14, .int x7), (13, .int x6), (12, .int k0), (0, .ref (B 0)), (1, .int l1), (4, .int l4), (5, .int l5), (6, .int l6), (7, .int l7), (8, .int l8), (11, .int l11)]) F dX10_arcs_197 (by decide) rfl ?_
    refine R_aload_n F dX10_arcs_199 rfl 3 rfl ?_
    refine R_iload F dX10_arcs_200 0 rfl ?_
    refine R_iconst F 0 dX10_arcs_202 (by decide) ?_
    refine R_iload F dX10_arcs_203 5 rfl ?_
    refine R_iload F dX10_arcs_205 10 rfl ?_
    refine R_iconst F 1 dX10_arcs_207 (by decide) ?_
    refine R_callI (As := [.int x7, .int 0, .int l4, .int l11, .int 1]) (C := RX10) (q0 := 0) (ci := 10) (N := 69) (T := TX10) (fs := mfl B) F (ct_lookUp l E B _ x7 0 l4 l11 1 _ hw) (cwV 5 F.2.2.2.2.2.2.2.2.2.2 g_arcs_lookUp_252 rfl rfl rfl (by decide +kernel) ⟨Nat.le_of_ble_eq_true rfl, Nat.le_of_ble_eq_true rfl⟩) ⟨rfl, rfl⟩ rfl (fun _ => rfl) rfl rfl (Nat.le_of_ble_eq_true rfl) dX10_arcs_208 (fun r8 σ9 hw => ?_)
    refine R_istore (lv' := [(15, .int r8), (14, .int x7), (13, .int x6), (12, .int k0), (0, .ref (B 0)), (1, .int l1), (4, .int l4), (5, .int l5), (6, .int l6), (7, .int l7), (8, .int l8), (11, .int l11)]) F dX10_arcs_211 (by decide) rfl ?_
    refine R_aload_n F dX10_arcs_213 rfl 4 rfl ?_
    refine gm_30 F in_arcs dX10_arcs_214 ?_
    refine R_if_ne (tgt := 235) F dX10_arcs_217 (by decide) (fun hc => ?_) (fun hc => ?_)
    · replace hw := hw.1 hc
      refine R_iconst F 0 dX10_arcs_235 (by decide) ?_
      exact R_sub [4, 5, 6, 7, 8, 9, 10, 3, 2, 1, 0] rfl (J_236 l1 l4 l5 l6 l7 l8 k0 x6 x7 r8 0 σ9 hw)
    · replace hw := hw.2 hc
      refine R_aload_n F dX10_arcs_220 rfl 4 rfl ?_
      refine R_iload F dX10_arcs_221 1 rfl ?_
      refine R_iconst F 1 dX10_arcs_223 (by decide) ?_
      refine R_iload F dX10_arcs_224 6 rfl ?_
      refine R_iload F dX10_arcs_226 11 rfl ?_
      refine R_iconst F 1 dX10_arcs_228 (by decide) ?_
      refine R_callI (As := [.int x7, .int 1, .int l4, .int l11, .int 1]) (C := RX10) (q0 := 0) (ci := 10) (N := 69) (T := TX10) (fs := mfl B) F (ct_lookUp l E B _ x7 1 l4 l11 1 _ hw) (cwV 5 F.2.2.2.2.2.2.2.2.2.2 g_arcs_lookUp_252 rfl rfl rfl (by decide +kernel) ⟨Nat.le_of_ble_eq_true rfl, Nat.le_of_ble_eq_true rfl⟩) ⟨rfl, rfl⟩ rfl (fun _ => rfl) rfl rfl (Nat.le_of_ble_eq_true rfl) dX10_arcs_229 (fun r10 σ11 hw => ?_)
      refine R_goto (tgt := 236) F dX10_arcs_232 (by decide) ?_
      exact R_sub [4, 5, 6, 7, 8, 9, 10, 3, 2, 1, 0] rfl (J_236 l1 l4 l5 l6 l7 l8 k0 x6 x7 r8 r10 σ11 hw)
  have J_152 : ∀ (l1 : Int32) (l4 : Int32) (l5 : Int32) (l6 : Int32) (l7 : Int32) (l8 : Int32) (l9 : Int32) (l10 : Int32) (k0 : Int32) (σ : VS), b_arcs_152 X32 X44 Q l1 l4 l5 l6 l7 l8 l9 l10 k0 σ → WB p l e (({ frames := 2, cells := 0, slots := 0, locals := 66 } : Room)) s m (#[.ref (B 0), .int p1]) below meth c (MQ below (va_Qv (fun w => ∃ σ' : VS, Q σ' ∧ w = wm E B σ') (AftU E A) A) (#[.ref (B 0), .int p1]) s (({ frames := 2, cells := 0, slots := 0, locals := 66 } : Room)).cells (({ frames := 2, cells := 0, slots := 0, locals := 66 } : Room)).slots A) A E (wm E B) 20 152 [(0, .ref (B 0)), (1, .int l1), (4, .int l4), (5, .int l5), (6, .int l6), (7, .int l7), (8, .int l8), (9, .int l9), (10, .int l10)] [.int k0] σ := by
    intro l1 l4 l5 l6 l7 l8 l9 l10 k0 σ hw
    unfold b_arcs_152 at hw
    refine R_istore (lv' := [(11, .int k0), (0, .ref (B 0)), (1, .int l1), (4, .int l4), (5, .int l5), (6, .int l6), (7, .int l7), (8, .int l8), (9, .int l9), (10, .int l10)]) F dX10_arcs_152 (by decide) rfl ?_
    refine R_iload F dX10_arcs_154 8 rfl ?_
    refine R_if_ge (tgt := 163) F dX10_arcs_156 (by decide) (fun hc => ?_) (fun hc => ?_)
    · replace hw := hw.1 hc
      refine R_aload_n F dX10_arcs_163 rfl 1 rfl ?_
      refine gm_39 F in_arcs dX10_arcs_164 ?_
      refine R_iconst F 2 dX10_arcs_167 (by decide) ?_
      refine R_iload F dX10_arcs_168 8 rfl ?_
      refine R_imul F dX10_arcs_170 ?_
      refine R_iload F dX10_arcs_171 9 rfl ?_
      refine R_iadd F dX10_arcs_173 ?_
      refine R_ldi F qm_39 dX10_arcs_174 hw.1 ?_
      replace hw := hw.2
      exact R_sub [1, 2, 3, 4, 5, 6, 7, 0] rfl (J_175 l1 l4 l5 l6 l7 l8 k0 (rd σ 39 ((2 * l9) + l10)) σ hw)
    · replace hw := hw.2 hc
      refine R_iconst F 0 dX10_arcs_159 (by decide) ?_
      refine R_goto (tgt := 175) F dX10_arcs_160 (by decide) ?_
      exact R_sub [1, 2, 3, 4, 5, 6, 7, 0] rfl (J_175 l1 l4 l5 l6 l7 l8 k0 0 σ hw)
  have J_129 : ∀ (l1 : Int32) (l4 : Int32) (l5 : Int32) (l6 : Int32) (l7 : Int32) (l8 : Int32) (l9 : Int32) (k0 : Int32) (σ : VS), b_arcs_129 X32 X44 Q l1 l4 l5 l6 l7 l8 l9 k0 σ → WB p l e (({ frames := 2, cells := 0, slots := 0, locals := 66 } : Room)) s m (#[.ref (B 0), .int p1]) below meth c (MQ below (va_Qv (fun w => ∃ σ' : VS, Q σ' ∧ w = wm E B σ') (AftU E A) A) (#[.ref (B 0), .int p1]) s (({ frames := 2, cells := 0, slots := 0, locals := 66 } : Room)).cells (({ frames := 2, cells := 0, slots := 0, locals := 66 } : Room)).slots A) A E (wm E B) 20 129 [(0, .ref (B 0)), (1, .int l1), (4, .int l4), (5, .int l5), (6, .int l6), (7, .int l7), (8, .int l8), (9, .int l9)] [.int k0] σ := by
    intro l1 l4 l5 l6 l7 l8 l9 k0 σ hw
    unfold b_arcs_129 at hw
    refine R_istore (lv' := [(10, .int k0), (0, .ref (B 0)), (1, .int l1), (4, .int l4), (5, .int l5), (6, .int l6), (7, .int l7), (8, .int l8), (9, .int l9)]) F dX10_arcs_129 (by decide) rfl ?_
    refine R_iload F dX10_arcs_131 8 rfl ?_
    refine R_if_ge (tgt := 140) F dX10_arcs_133 (by decide) (fun hc => ?_) (fun hc => ?_)
    · replace hw := hw.1 hc
      refine R_aload_n F dX10_arcs_140 rfl 1 rfl ?_
      refine gm_38 F in_arcs dX10_arcs_141 ?_
      refine R_iconst F 2 dX10_arcs_144 (by decide) ?_
      refine R_iload F dX10_arcs_145 8 rfl ?_
      refine R_imul F dX10_arcs_147 ?_
      refine R_iload F dX10_arcs_148 0 rfl ?_
      refine R_iadd F dX10_arcs_150 ?_
      refine R_ldi F qm_38 dX10_arcs_151 hw.1 ?_
      replace hw := hw.2
      exact R_sub [1, 2, 3, 4, 5, 6, 7, 8, 0] rfl (J_152 l1 l4 l5 l6 l7 l8 l9 k0 (rd σ 38 ((2 * l9) + k0)) σ hw)
    · replace hw := hw.2 hc
      refine R_iconst F 0 dX10_arcs_136 (by decide) ?_
      refine R_goto (tgt := 152) F dX10_arcs_137 (by decide) ?_
      exact R_sub [1, 2, 3, 4, 5, 6, 7, 8, 0] rfl (J_152 l1 l4 l5 l6 l7 l8 l9 k0 0 σ hw)
  have J_110 : ∀ (l1 : Int32) (l4 : Int32) (l5 : Int32) (l6 : Int32) (l7 : Int32) (l8 : Int32) (l9 : Int32) (σ : VS), b_arcs_110 X32 X44 Q l1 l4 l5 l6 l7 l8 l9 σ → WB p l e (({ frames := 2, cells := 0, slots := 0, locals := 66 } : Room)) s m (#[.ref (B 0), .int p1]) below meth c (MQ below (va_Qv (fun w => ∃ σ' : VS, Q σ' ∧ w = wm E B σ') (AftU E A) A) (#[.ref (B 0), .int p1]) s (({ frames := 2, cells := 0, slots := 0, locals := 66 } : Room)).cells (({ frames := 2, cells := 0, slots := 0, locals := 66 } : Room)).slots A) A E (wm E B) 20 110 [(0, .ref (B 0)), (1, .int l1), (4, .int l4), (5, .int l5), (6, .int l6), (7, .int l7), (8, .int l8), (9, .int l9)] [] σ := by
    intro l1 l4 l5 l6 l7 l8 l9 σ hw
    unfold b_arcs_110 at hw
    refine R_aload_n F dX10_arcs_110 rfl 0 rfl ?_
    refine gm_2 F in_arcs dX10_arcs_111 ?_
    refine R_iload_n F dX10_arcs_114 rfl 1 rfl ?_
    refine R_ldi F qm_2 dX10_arcs_115 hw.1 ?_
    replace hw := hw.2
    refine R_iconst F 2 dX10_arcs_116 (by decide) ?_
    refine R_icmp_ne (tgt := 127) F dX10_arcs_117 (by decide) (fun hc => ?_) (fun hc => ?_)
    · replace hw := hw.1 hc
      refine R_iload F dX10_arcs_127 4 rfl ?_
      exact R_sub [0, 1, 2, 3, 4, 5, 6, 7] rfl (J_129 l1 l4 l5 l6 l7 l8 l9 l6 σ hw)
    · replace hw := hw.2 hc
      refine R_iconst F 1 dX10_arcs_120 (by decide) ?_
      refine R_iload F dX10_arcs_121 4 rfl ?_
      refine R_isub F dX10_arcs_123 ?_
      refine R_goto (tgt := 129) F dX10_arcs_124 (by decide) ?_
      exact R_sub [0, 1, 2, 3, 4, 5, 6, 7] rfl (J_129 l1 l4 l5 l6 l7 l8 l9 (1 - l6) σ hw)
  have J_80 : ∀ (l1 : Int32) (l4 : Int32) (l5 : Int32) (l6 : Int32) (l7 : Int32) (l8 : Int32) (k0 : Int32) (σ : VS), b_arcs_80 X32 X44 Q l1 l4 l5 l6 l7 l8 k0 σ → WB p l e (({ frames := 2, cells := 0, slots := 0, locals := 66 } : Room)) s m (#[.ref (B 0), .int p1]) below meth c (MQ below (va_Qv (fun w => ∃ σ' : VS, Q σ' ∧ w = wm E B σ') (AftU E A) A) (#[.ref (B 0), .int p1]) s (({ frames := 2, cells := 0, slots := 0, locals := 66 } : Room)).cells (({ frames := 2, cells := 0, slots := 0, locals := 66 } : Room)).slots A) A E (wm E B) 20 80 [(0, .ref (B 0)), (1, .int l1), (4, .int l4), (5, .int l5), (6, .int l6), (7, .int l7), (8, .int l8)] [.int k0] σ := by
    intro l1 l4 l5 l6 l7 l8 k0 σ hw
    unfold b_arcs_80 at hw
    refine R_istore (lv' := [(9, .int k0), (0, .ref (B 0)), (1, .int l1), (4, .int l4), (5, .int l5), (6, .int l6), (7, .int l7), (8, .int l8)]) F dX10_arcs_80 (by decide) rfl ?_
    refine R_aload_n F dX10_arcs_82 rfl 1 rfl ?_
    refine gm_2 F in_arcs dX10_arcs_83 ?_
    refine R_iload_n F dX10_arcs_86 rfl 2 rfl ?_
    refine R_ldi F qm_2 dX10_arcs_87 hw.1 ?_
    replace hw := hw.2
    refine R_iconst F 4 dX10_arcs_88 (by decide) ?_
    refine R_icmp_eq (tgt := 110) F dX10_arcs_89 (by decide) (fun hc => ?_) (fun hc => ?_)
    · replace hw := hw.1 hc
      exact R_sub [1, 2, 3, 4, 5, 6, 7, 0] rfl (J_110 l1 l4 l5 l6 l7 l8 k0 σ hw)
    · replace hw := hw.2 hc
      refine R_iload F dX10_arcs_92 0 rfl ?_
      refine R_if_lt (tgt := 462) F dX10_arcs_94 (by decide) (fun hc => ?_) (fun hc => ?_)
      · replace hw := hw.1 hc
        exact R_sub [1, 2, 3, 4, 5, 6, 7] rfl (J_462 l1 l4 l5 l6 l7 l8 σ hw)
      · replace hw := hw.2 hc
        refine R_aload_n F dX10_arcs_97 rfl 1 rfl ?_
        refine gm_34 F in_arcs dX10_arcs_98 ?_
        refine R_iload F dX10_arcs_101 0 rfl ?_
        refine R_ldz F qm_34 dX10_arcs_103 hw.1 ?_
        replace hw := hw.2
        refine R_if_ne (tgt := 110) F dX10_arcs_104 (by decide) (fun hc => ?_) (fun hc => ?_)
        · replace hw := hw.1 hc
          exact R_sub [1, 2, 3, 4, 5, 6, 7, 0] rfl (J_110 l1 l4 l5 l6 l7 l8 k0 σ hw)
        · replace hw := hw.2 hc
          refine R_goto (tgt := 462) F dX10_arcs_107 (by decide) ?_
          exact R_sub [1, 2, 3, 4, 5, 6, 7] rfl (J_462 l1 l4 l5 l6 l7 l8 σ hw)
  have C_32 : ∀ (l1 : Int32) (l4 : Int32) (l5 : Int32) (l6 : Int32) (σ : VS), b_arcs_32 X32 X44 Q l1 l4 l5 l6 σ → X32 l1 l4 l5 l6 σ := by
    intro l1 l4 l5 l6 σ hw
    unfold b_arcs_32 at hw
    rw [hX32]
    show WB p l e (({ frames := 2, cells := 0, slots := 0, locals := 66 } : Room)) s m (#[.ref (B 0), .int p1]) below meth c (MQ below (va_Qv (fun w => ∃ σ' : VS, Q σ' ∧ w = wm E B σ') (AftU E A) A) (#[.ref (B 0), .int p1]) s (({ frames := 2, cells := 0, slots := 0, locals := 66 } : Room)).cells (({ frames := 2, cells := 0, slots := 0, locals := 66 } : Room)).slots A) A E (wm E B) 20 32 [(0, .ref (B 0)), (1, .int l1), (4, .int l4), (5, .int l5), (6, .int l6)] [] σ
    refine R_iload F dX10_arcs_32 4 rfl ?_
    refine R_iconst F 2 dX10_arcs_34 (by decide) ?_
    refine R_icmp_ge (tgt := 474) F dX10_arcs_35 (by decide) (fun hc => ?_) (fun hc => ?_)
    · replace hw := hw.1 hc
      exact R_vret (Qc := Q) F dX10_arcs_474 hw
    · replace hw := hw.2 hc
      refine R_iconst F 0 dX10_arcs_38 (by decide) ?_
      refine R_istore (lv' := [(7, .int 0), (0, .ref (B 0)), (1, .int l1), (4, .int l4), (5, .int l5), (6, .int l6)]) F dX10_arcs_39 (by decide) rfl ?_
      refine R_iconst F 0 dX10_arcs_41 (by decide) ?_
      refine R_istore (lv' := [(8, .int 0), (7, .int 0), (0, .ref (B 0)), (1, .int l1), (4, .int l4), (5, .int l5), (6, .int l6)]) F dX10_arcs_42 (by decide) rfl ?_
      exact R_sub [2, 3, 4, 5, 6, 1, 0] rfl (U_44 l1 l4 l5 l6 0 0 σ hw)
  have C_44 : ∀ (l1 : Int32) (l4 : Int32) (l5 : Int32) (l6 : Int32) (l7 : Int32) (l8 : Int32) (σ : VS), b_arcs_44 X32 X44 Q l1 l4 l5 l6 l7 l8 σ → X44 l1 l4 l5 l6 l7 l8 σ := by
    intro l1 l4 l5 l6 l7 l8 σ hw
    unfold b_arcs_44 at hw
    rw [hX44]
    show WB p l e (({ frames := 2, cells := 0, slots := 0, locals := 66 } : Room)) s m (#[.ref (B 0), .int p1]) below meth c (MQ below (va_Qv (fun w => ∃ σ' : VS, Q σ' ∧ w = wm E B σ') (AftU E A) A) (#[.ref (B 0), .int p1]) s (({ frames := 2, cells := 0, slots := 0, locals := 66 } : Room)).cells (({ frames := 2, cells := 0, slots := 0, locals := 66 } : Room)).slots A) A E (wm E B) 20 44 [(0, .ref (B 0)), (1, .int l1), (4, .int l4), (5, .int l5), (6, .int l6), (7, .int l7), (8, .int l8)] [] σ
    refine R_iload F dX10_arcs_44 6 rfl ?_
    refine R_aload_n F dX10_arcs_46 rfl 0 rfl ?_
    refine gm_3 F in_arcs dX10_arcs_47 ?_
    refine R_iload_n F dX10_arcs_50 rfl 1 rfl ?_
    refine R_ldi F qm_3 dX10_arcs_51 hw.1 ?_
    replace hw := hw.2
    refine R_icmp_ge (tgt := 468) F dX10_arcs_52 (by decide) (fun hc => ?_) (fun hc => ?_)
    · replace hw := hw.1 hc
      refine R_iinc (q := 4) (v := (l6 + 1)) (lv' := [(6, .int (l6 + 1)), (0, .ref (B 0)), (1, .int l1), (4, .int l4), (5, .int l5), (7, .int l7), (8, .int l8)]) F dX10_arcs_468 rfl rfl (by decide) rfl ?_
      refine R_goto (tgt := 32) F dX10_arcs_471 (by decide) ?_
      exact R_sub [1, 2, 3, 4, 0] rfl (U_32 l1 l4 l5 (l6 + 1) σ hw)
    · replace hw := hw.2 hc
      refine R_aload_n F dX10_arcs_55 rfl 0 rfl ?_
      refine gm_2 F in_arcs dX10_arcs_56 ?_
      refine R_iload_n F dX10_arcs_59 rfl 1 rfl ?_
      refine R_ldi F qm_2 dX10_arcs_60 hw.1 ?_
      replace hw := hw.2
      refine R_iconst F 4 dX10_arcs_61 (by decide) ?_
      refine R_icmp_ne (tgt := 69) F dX10_arcs_62 (by decide) (fun hc => ?_) (fun hc => ?_)
      · replace hw := hw.1 hc
        refine R_aload_n F dX10_arcs_69 rfl 0 rfl ?_
        refine gm_7 F in_arcs dX10_arcs_70 ?_
        refine R_iconst F 4 dX10_arcs_73 (by decide) ?_
        refine R_iload_n F dX10_arcs_74 rfl 1 rfl ?_
        refine R_imul F dX10_arcs_75 ?_
        refine R_iload F dX10_arcs_76 6 rfl ?_
        refine R_iadd F dX10_arcs_78 ?_
        refine R_ldi F qm_7 dX10_arcs_79 hw.1 ?_
        replace hw := hw.2
        exact R_sub [0, 1, 2, 3, 4, 5, 6] rfl (J_80 l1 l4 l5 l6 l7 l8 (rd σ 7 ((4 * l1) + l8)) σ hw)
      · replace hw := hw.2 hc
        refine R_iconst F (-1) dX10_arcs_65 (by decide) ?_
        refine R_goto (tgt := 80) F dX10_arcs_66 (by decide) ?_
        exact R_sub [0, 1, 2, 3, 4, 5, 6] rfl (J_80 l1 l4 l5 l6 l7 l8 (-1) σ hw)
  unfold wp_arcs at hw
  replace hw := hw X32 X44 C_32 C_44
  refine R_aload_n F dX10_arcs_0 rfl 0 rfl ?_
  refine R_iload_n F dX10_arcs_1 rfl 1 rfl ?_
  refine R_callI (As := [.int p1]) (C := RX10) (q0 := 0) (ci := 10) (N := 69) (T := TX10) (fs := mfl B) F (ct_load l E B _ p1 _ hw) (cwV 1 F.2.2.2.2.2.2.2.2.2.2 g_arcs_load_249 rfl rfl rfl (by decide +kernel) ⟨Nat.le_of_ble_eq_true rfl, Nat.le_of_ble_eq_true rfl⟩) ⟨rfl, rfl⟩ rfl (fun _ => rfl) rfl rfl (Nat.le_of_ble_eq_true rfl) dX10_arcs_2 (fun r1 σ2 hw => ?_)
  refine R_istore_n (lv' := [(2, .int r1), (0, .ref (B 0)), (1, .int p1)]) F dX10_arcs_5 rfl (by decide) rfl ?_
  refine R_iconst F 1 dX10_arcs_6 (by decide) ?_
  refine R_aload_n F dX10_arcs_7 rfl 1 rfl ?_
  refine gm_5 F in_arcs dX10_arcs_8 ?_
  refine R_iload_n F dX10_arcs_11 rfl 2 rfl ?_
  refine R_ldi F qm_5 dX10_arcs_12 hw.1 ?_
  replace hw := hw.2
  refine R_iadd F dX10_arcs_13 ?_
  refine R_topi (fun x3 ex3 => ?_)
  replace hw := hw x3 ex3
  refine R_istore_n (lv' := [(3, .int x3), (2, .int r1), (0, .ref (B 0)), (1, .int p1)]) F dX10_arcs_14 rfl (by decide) rfl ?_
  refine R_iload_n F dX10_arcs_15 rfl 1 rfl ?_
  refine R_iload_n F dX10_arcs_16 rfl 0 rfl ?_
  refine R_iadd F dX10_arcs_17 ?_
  refine R_iconst F 1 dX10_arcs_18 (by decide) ?_
  refine R_isub F dX10_arcs_19 ?_
  refine R_iload_n F dX10_arcs_20 rfl 0 rfl ?_
  refine R_idiv F dX10_arcs_21 hw.1 ?_
  replace hw := hw.2
  refine R_topi (fun x4 ex4 => ?_)
  replace hw := hw x4 ex4
  refine R_istore (lv' := [(4, .int x4), (3, .int x3), (2, .int r1), (0, .ref (B 0)), (1, .int p1)]) F dX10_arcs_22 (by decide) rfl ?_
  refine R_iload_n F dX10_arcs_24 rfl 2 rfl ?_
  refine R_iload_n F dX10_arcs_25 rfl 1 rfl ?_
  refine R_idiv F dX10_arcs_26 hw.1 ?_
  replace hw := hw.2
  refine R_topi (fun x5 ex5 => ?_)
  replace hw := hw x5 ex5
  refine R_istore (lv' := [(5, .int x5), (4, .int x4), (3, .int x3), (2, .int r1), (0, .ref (B 0)), (1, .int p1)]) F dX10_arcs_27 (by decide) rfl ?_
  refine R_iconst F 0 dX10_arcs_29 (by decide) ?_
  refine R_istore (lv' := [(6, .int 0), (5, .int x5), (4, .int x4), (3, .int x3), (2, .int r1), (0, .ref (B 0)), (1, .int p1)]) F dX10_arcs_30 (by decide) rfl ?_
  exact R_sub [5, 6, 2, 1, 0] rfl (U_32 p1 x4 x5 0 σ2 hw)
def b_knownS_315 (K : (VS → Prop) → Int32 → VS → Prop) (X25 : Int32 → Int32 → Int32 → VS → Prop) (X140 : Int32 → Int32 → Int32 → VS → Prop) (X205 : Int32 → Int32 → Int32 → VS → Prop) (Q : VS → Prop) (σ : VS) : Prop := Q σ
def b_knownS_292 (K : (VS → Prop) → Int32 → VS → Prop) (X25 : Int32 → Int32 → Int32 → VS → Prop) (X140 : Int32 → Int32 → Int32 → VS → Prop) (X205 : Int32 → Int32 → Int32 → VS → Prop) (Q : VS → Prop) (l1 : Int32) (σ : VS) : Prop := (In l1 50 ∧ (((rd σ 34 l1).toInt = 0 → b_knownS_315 K X25 X140 X205 Q σ) ∧ ((rd σ 34 l1).toInt ≠ 0 → (In l1 50 ∧ (((rd σ 35 l1).toInt ≠ 0 → b_knownS_315 K X25 X140 X205 Q σ) ∧ ((rd σ 35 l1).toInt = 0 → wp_arcs (fun (σ7 : VS) => b_knownS_315 K X25 X140 X205 Q σ7) l1 σ))))))
def b_knownS_286 (K : (VS → Prop) → Int32 → VS → Prop) (X25 : Int32 → Int32 → Int32 → VS → Prop) (X140 : Int32 → Int32 → Int32 → VS → Prop) (X205 : Int32 → Int32 → Int32 → VS → Prop) (Q : VS → Prop) (l1 : Int32) (l2 : Int32) (l3 : Int32) (σ : VS) : Prop := X205 l1 l2 (l3 + 1) σ
def b_knownS_268 (K : (VS → Prop) → Int32 → VS → Prop) (X25 : Int32 → Int32 → Int32 → VS → Prop) (X140 : Int32 → Int32 → Int32 → VS → Prop) (X205 : Int32 → Int32 → Int32 → VS → Prop) (Q : VS → Prop) (l1 : Int32) (l2 : Int32) (l3 : Int32) (l4 : Int32) (k0 : Int32) (k1 : Int32) (σ : VS) : Prop := (In k1 50 ∧ (Bo k0 ∧ (In l4 50 ∧ (((rd (sa σ 34 k1 k0) 35 l4).toInt = 0 → b_knownS_286 K X25 X140 X205 Q l1 l2 l3 (sa σ 34 k1 k0)) ∧ ((rd (sa σ 34 k1 k0) 35 l4).toInt ≠ 0 → (In l1 50 ∧ b_knownS_286 K X25 X140 X205 Q l1 l2 l3 (sa (sa σ 34 k1 k0) 35 l1 1)))))))
def b_knownS_263 (K : (VS → Prop) → Int32 → VS → Prop) (X25 : Int32 → Int32 → Int32 → VS → Prop) (X140 : Int32 → Int32 → Int32 → VS → Prop) (X205 : Int32 → Int32 → Int32 → VS → Prop) (Q : VS → Prop) (l1 : Int32) (l2 : Int32) (l3 : Int32) (l4 : Int32) (k0 : Int32) (σ : VS) : Prop := b_knownS_268 K X25 X140 X205 Q l1 l2 l3 l4 1 k0 σ
def b_knownS_205 (K : (VS → Prop) → Int32 → VS → Prop) (X25 : Int32 → Int32 → Int32 → VS → Prop) (X140 : Int32 → Int32 → Int32 → VS → Prop) (X205 : Int32 → Int32 → Int32 → VS → Prop) (Q : VS → Prop) (l1 : Int32) (l2 : Int32) (l3 : Int32) (σ : VS) : Prop := (In l1 50 ∧ (((rd σ 3 l1).toInt ≤ l3.toInt → b_knownS_292 K X25 X140 X205 Q l1 σ) ∧ (l3.toInt < (rd σ 3 l1).toInt → ((l2.toInt = 0 → b_knownS_292 K X25 X140 X205 Q l1 σ) ∧ (l2.toInt ≠ 0 → (In ((4 * l1) + l3) 200 ∧ (∀ x5 : Int32, x5 = (rd σ 7 ((4 * l1) + l3)) → ((0 ≤ x5.toInt → (In l1 50 ∧ (((rd σ 34 l1).toInt ≠ 0 → b_knownS_263 K X25 X140 X205 Q l1 l2 l3 x5 l1 σ) ∧ ((rd σ 34 l1).toInt = 0 → (In x5 50 ∧ (((rd σ 34 x5).toInt = 0 → b_knownS_268 K X25 X140 X205 Q l1 l2 l3 x5 0 l1 σ) ∧ ((rd σ 34 x5).toInt ≠ 0 → b_knownS_263 K X25 X140 X205 Q l1 l2 l3 x5 l1 σ))))))) ∧ (x5.toInt < 0 → b_knownS_286 K X25 X140 X205 Q l1 l2 l3 σ)))))))))
def b_knownS_202 (K : (VS → Prop) → Int32 → VS → Prop) (X25 : Int32 → Int32 → Int32 → VS → Prop) (X140 : Int32 → Int32 → Int32 → VS → Prop) (X205 : Int32 → Int32 → Int32 → VS → Prop) (Q : VS → Prop) (σ : VS) : Prop := Q σ
def b_knownS_183 (K : (VS → Prop) → Int32 → VS → Prop) (X25 : Int32 → Int32 → Int32 → VS → Prop) (X140 : Int32 → Int32 → Int32 → VS → Prop) (X205 : Int32 → Int32 → Int32 → VS → Prop) (Q : VS → Prop) (l1 : Int32) (l2 : Int32) (σ : VS) : Prop := (In l1 50 ∧ (((rd σ 2 l1).toInt = 0 → b_knownS_202 K X25 X140 X205 Q σ) ∧ ((rd σ 2 l1).toInt ≠ 0 → (In l1 50 ∧ (((rd σ 2 l1).toInt ≠ 5 → X205 l1 l2 0 σ) ∧ ((rd σ 2 l1).toInt = 5 → b_knownS_202 K X25 X140 X205 Q σ))))))
def b_knownS_140 (K : (VS → Prop) → Int32 → VS → Prop) (X25 : Int32 → Int32 → Int32 → VS → Prop) (X140 : Int32 → Int32 → Int32 → VS → Prop) (X205 : Int32 → Int32 → Int32 → VS → Prop) (Q : VS → Prop) (l1 : Int32) (l2 : Int32) (l3 : Int32) (σ : VS) : Prop := ((2 ≤ l3.toInt → b_knownS_183 K X25 X140 X205 Q l1 l2 σ) ∧ (l3.toInt < 2 → (In l1 50 ∧ (In ((2 * l1) + l3) 100 ∧ (In l1 50 ∧ (In ((2 * l1) + l3) 100 ∧ X140 l1 l2 (l3 + 1) (sa (sa σ 38 ((2 * l1) + l3) (rd σ 10 l1)) 39 ((2 * l1) + l3) (rd (sa σ 38 ((2 * l1) + l3) (rd σ 10 l1)) 10 l1))))))))
def b_knownS_128 (K : (VS → Prop) → Int32 → VS → Prop) (X25 : Int32 → Int32 → Int32 → VS → Prop) (X140 : Int32 → Int32 → Int32 → VS → Prop) (X205 : Int32 → Int32 → Int32 → VS → Prop) (Q : VS → Prop) (l1 : Int32) (l2 : Int32) (k0 : Int32) (k1 : Int32) (σ : VS) : Prop := (In k1 50 ∧ (Bo k0 ∧ (In l1 50 ∧ (((rd (sa σ 34 k1 k0) 2 l1).toInt ≠ 0 → b_knownS_183 K X25 X140 X205 Q l1 l2 (sa σ 34 k1 k0)) ∧ ((rd (sa σ 34 k1 k0) 2 l1).toInt = 0 → X140 l1 l2 0 (sa σ 34 k1 k0))))))
def b_knownS_123 (K : (VS → Prop) → Int32 → VS → Prop) (X25 : Int32 → Int32 → Int32 → VS → Prop) (X140 : Int32 → Int32 → Int32 → VS → Prop) (X205 : Int32 → Int32 → Int32 → VS → Prop) (Q : VS → Prop) (l1 : Int32) (l2 : Int32) (k0 : Int32) (σ : VS) : Prop := b_knownS_128 K X25 X140 X205 Q l1 l2 1 k0 σ
def b_knownS_66 (K : (VS → Prop) → Int32 → VS → Prop) (X25 : Int32 → Int32 → Int32 → VS → Prop) (X140 : Int32 → Int32 → Int32 → VS → Prop) (X205 : Int32 → Int32 → Int32 → VS → Prop) (Q : VS → Prop) (l1 : Int32) (l2 : Int32) (l3 : Int32) (σ : VS) : Prop := X25 l1 l2 (l3 + 1) σ
def b_knownS_25 (K : (VS → Prop) → Int32 → VS → Prop) (X25 : Int32 → Int32 → Int32 → VS → Prop) (X140 : Int32 → Int32 → Int32 → VS → Prop) (X205 : Int32 → Int32 → Int32 → VS → Prop) (Q : VS → Prop) (l1 : Int32) (l2 : Int32) (l3 : Int32) (σ : VS) : Prop := (In l1 50 ∧ (((rd σ 3 l1).toInt ≤ l3.toInt → (In (σ.1 32) 50 ∧ (In l1 50 ∧ (In l1 50 ∧ (((rd (sa (sf (sa σ 31 (σ.1 32) l1) 32 (((sa σ 31 (σ.1 32) l1).1 32) + 1)) 35 l1 0) 2 l1).toInt = 0 → b_knownS_123 K X25 X140 X205 Q l1 l2 l1 (sa (sf (sa σ 31 (σ.1 32) l1) 32 (((sa σ 31 (σ.1 32) l1).1 32) + 1)) 35 l1 0)) ∧ ((rd (sa (sf (sa σ 31 (σ.1 32) l1) 32 (((sa σ 31 (σ.1 32) l1).1 32) + 1)) 35 l1 0) 2 l1).toInt ≠ 0 → (In l1 50 ∧ (((rd (sa (sf (sa σ 31 (σ.1 32) l1) 32 (((sa σ 31 (σ.1 32) l1).1 32) + 1)) 35 l1 0) 2 l1).toInt ≠ 4 → b_knownS_128 K X25 X140 X205 Q l1 l2 0 l1 (sa (sf (sa σ 31 (σ.1 32) l1) 32 (((sa σ 31 (σ.1 32) l1).1 32) + 1)) 35 l1 0)) ∧ ((rd (sa (sf (sa σ 31 (σ.1 32) l1) 32 (((sa σ 31 (σ.1 32) l1).1 32) + 1)) 35 l1 0) 2 l1).toInt = 4 → b_knownS_123 K X25 X140 X205 Q l1 l2 l1 (sa (sf (sa σ 31 (σ.1 32) l1) 32 (((sa σ 31 (σ.1 32) l1).1 32) + 1)) 35 l1 0)))))))))) ∧ (l3.toInt < (rd σ 3 l1).toInt → (In ((4 * l1) + l3) 200 ∧ (((rd σ 7 ((4 * l1) + l3)).toInt < 0 → b_knownS_66 K X25 X140 X205 Q l1 l2 l3 σ) ∧ (0 ≤ (rd σ 7 ((4 * l1) + l3)).toInt → ((l2.toInt = 0 → b_knownS_66 K X25 X140 X205 Q l1 l2 l3 σ) ∧ (l2.toInt ≠ 0 → (In ((4 * l1) + l3) 200 ∧ K (fun (σ4 : VS) => b_knownS_66 K X25 X140 X205 Q l1 l2 l3 σ4) (rd σ 7 ((4 * l1) + l3)) σ)))))))))
def wp_knownS (K : (VS → Prop) → Int32 → VS → Prop) (Q : VS → Prop) (p1 : Int32) (σ : VS) : Prop := ∀ (X25 : Int32 → Int32 → Int32 → VS → Prop) (X140 : Int32 → Int32 → Int32 → VS → Prop) (X205 : Int32 → Int32 → Int32 → VS → Prop), (∀ (l1 : Int32) (l2 : Int32) (l3 : Int32) (σ : VS), b_knownS_25 K X25 X140 X205 Q l1 l2 l3 σ → X25 l1 l2 l3 σ) → (∀ (l1 : Int32) (l2 : Int32) (l3 : Int32) (σ : VS), b_knownS_140 K X25 X140 X205 Q l1 l2 l3 σ → X140 l1 l2 l3 σ) → (∀ (l1 : Int32) (l2 : Int32) (l3 : Int32) (σ : VS), b_knownS_205 K X25 X140 X205 Q l1 l2 l3 σ → X205 l1 l2 l3 σ) → (In p1 50 ∧ (((rd σ 33 p1).toInt = 0 → (In p1 50 ∧ wp_isGate (fun (r1 : Int32) (σ2 : VS) => X25 p1 r1 0 σ2) p1 (sa σ 33 p1 1))) ∧ ((rd σ 33 p1).toInt ≠ 0 → Q σ)))
theorem dX10_known_0 : decode cX10_known 0 = .ok (.aload_n 0, 1) := by decide +kernel
theorem dX10_known_1 : decode cX10_known 1 = .ok (.getfield 114, 3) := by decide +kernel
theorem dX10_known_4 : decode cX10_known 4 = .ok (.iload_n 1, 1) := by decide +kernel
theorem dX10_known_5 : decode cX10_known 5 = .ok (.baload, 1) := by decide +kernel
theorem dX10_known_6 : decode cX10_known 6 = .ok (.ifCond .eq 4, 3) := by decide +kernel
theorem dX10_known_10 : decode cX10_known 10 = .ok (.aload_n 0, 1) := by decide +kernel
theorem dX10_known_11 : decode cX10_known 11 = .ok (.getfield 114, 3) := by decide +kernel
theorem dX10_known_14 : decode cX10_known 14 = .ok (.iload_n 1, 1) := by decide +kernel
theorem dX10_known_15 : decode cX10_known 15 = .ok (.iconst 1, 1) := by decide +kernel
theorem dX10_known_16 : decode cX10_known 16 = .ok (.bastore, 1) := by decide +kernel
theorem dX10_known_17 : decode cX10_known 17 = .ok (.aload_n 0, 1) := by decide +kernel
theorem dX10_known_18 : decode cX10_known 18 = .ok (.iload_n 1, 1) := by decide +kernel
theorem dX10_known_19 : decode cX10_known 19 = .ok (.invokevirtual 55, 3) := by decide +kernel
theorem dX10_known_22 : decode cX10_known 22 = .ok (.istore_n 2, 1) := by decide +kernel
theorem dX10_known_23 : decode cX10_known 23 = .ok (.iconst 0, 1) := by decide +kernel
theorem dX10_known_24 : decode cX10_known 24 = .ok (.istore_n 3, 1) := by decide +kernel
theorem dX10_known_9 : decode cX10_known 9 = .ok (.return_, 1) := by decide +kernel
theorem dX10_known_25 : decode cX10_known 25 = .ok (.iload_n 3, 1) := by decide +kernel
theorem dX10_known_26 : decode cX10_known 26 = .ok (.aload_n 0, 1) := by decide +kernel
theorem dX10_known_27 : decode cX10_known 27 = .ok (.getfield 14, 3) := by decide +kernel
theorem dX10_known_30 : decode cX10_known 30 = .ok (.iload_n 1, 1) := by decide +kernel
theorem dX10_known_31 : decode cX10_known 31 = .ok (.iaload, 1) := by decide +kernel
theorem dX10_known_32 : decode cX10_known 32 = .ok (.if_icmp .ge 40, 3) := by decide +kernel
theorem dX10_known_72 : decode cX10_known 72 = .ok (.aload_n 0, 1) := by decide +kernel
theorem dX10_known_73 : decode cX10_known 73 = .ok (.getfield 111, 3) := by decide +kernel
theorem dX10_known_76 : decode cX10_known 76 = .ok (.aload_n 0, 1) := by decide +kernel
theorem dX10_known_77 : decode cX10_known 77 = .ok (.getfield 239, 3) := by decide +kernel
theorem dX10_known_80 : decode cX10_known 80 = .ok (.iload_n 1, 1) := by decide +kernel
theorem dX10_known_81 : decode cX10_known 81 = .ok (.iastore, 1) := by decide +kernel
theorem dX10_known_82 : decode cX10_known 82 = .ok (.aload_n 0, 1) := by decide +kernel
theorem dX10_known_83 : decode cX10_known 83 = .ok (.dup, 1) := by decide +kernel
theorem dX10_known_84 : decode cX10_known 84 = .ok (.getfield 239, 3) := by decide +kernel
theorem dX10_known_87 : decode cX10_known 87 = .ok (.iconst 1, 1) := by decide +kernel
theorem dX10_known_88 : decode cX10_known 88 = .ok (.iadd, 1) := by decide +kernel
theorem dX10_known_89 : decode cX10_known 89 = .ok (.putfield 239, 3) := by decide +kernel
theorem dX10_known_92 : decode cX10_known 92 = .ok (.aload_n 0, 1) := by decide +kernel
theorem dX10_known_93 : decode cX10_known 93 = .ok (.getfield 120, 3) := by decide +kernel
theorem dX10_known_96 : decode cX10_known 96 = .ok (.iload_n 1, 1) := by decide +kernel
theorem dX10_known_97 : decode cX10_known 97 = .ok (.iconst 0, 1) := by decide +kernel
theorem dX10_known_98 : decode cX10_known 98 = .ok (.iastore, 1) := by decide +kernel
theorem dX10_known_99 : decode cX10_known 99 = .ok (.aload_n 0, 1) := by decide +kernel
theorem dX10_known_100 : decode cX10_known 100 = .ok (.getfield 117, 3) := by decide +kernel
theorem dX10_known_103 : decode cX10_known 103 = .ok (.iload_n 1, 1) := by decide +kernel
theorem dX10_known_104 : decode cX10_known 104 = .ok (.aload_n 0, 1) := by decide +kernel
theorem dX10_known_105 : decode cX10_known 105 = .ok (.getfield 18, 3) := by decide +kernel
theorem dX10_known_108 : decode cX10_known 108 = .ok (.iload_n 1, 1) := by decide +kernel
theorem dX10_known_109 : decode cX10_known 109 = .ok (.iaload, 1) := by decide +kernel
theorem dX10_known_110 : decode cX10_known 110 = .ok (.ifCond .eq 13, 3) := by decide +kernel
theorem dX10_known_113 : decode cX10_known 113 = .ok (.aload_n 0, 1) := by decide +kernel
theorem dX10_known_114 : decode cX10_known 114 = .ok (.getfield 18, 3) := by decide +kernel
theorem dX10_known_117 : decode cX10_known 117 = .ok (.iload_n 1, 1) := by decide +kernel
theorem dX10_known_118 : decode cX10_known 118 = .ok (.iaload, 1) := by decide +kernel
theorem dX10_known_119 : decode cX10_known 119 = .ok (.iconst 4, 1) := by decide +kernel
theorem dX10_known_120 : decode cX10_known 120 = .ok (.if_icmp .ne 7, 3) := by decide +kernel
theorem dX10_known_127 : decode cX10_known 127 = .ok (.iconst 0, 1) := by decide +kernel
theorem dX10_known_35 : decode cX10_known 35 = .ok (.aload_n 0, 1) := by decide +kernel
theorem dX10_known_36 : decode cX10_known 36 = .ok (.getfield 30, 3) := by decide +kernel
theorem dX10_known_39 : decode cX10_known 39 = .ok (.iconst 4, 1) := by decide +kernel
theorem dX10_known_40 : decode cX10_known 40 = .ok (.iload_n 1, 1) := by decide +kernel
theorem dX10_known_41 : decode cX10_known 41 = .ok (.imul, 1) := by decide +kernel
theorem dX10_known_42 : decode cX10_known 42 = .ok (.iload_n 3, 1) := by decide +kernel
theorem dX10_known_43 : decode cX10_known 43 = .ok (.iadd, 1) := by decide +kernel
theorem dX10_known_44 : decode cX10_known 44 = .ok (.iaload, 1) := by decide +kernel
theorem dX10_known_45 : decode cX10_known 45 = .ok (.ifCond .lt 21, 3) := by decide +kernel
theorem dX10_known_48 : decode cX10_known 48 = .ok (.iload_n 2, 1) := by decide +kernel
theorem dX10_known_49 : decode cX10_known 49 = .ok (.ifCond .eq 17, 3) := by decide +kernel
theorem dX10_known_52 : decode cX10_known 52 = .ok (.aload_n 0, 1) := by decide +kernel
theorem dX10_known_53 : decode cX10_known 53 = .ok (.aload_n 0, 1) := by decide +kernel
theorem dX10_known_54 : decode cX10_known 54 = .ok (.getfield 30, 3) := by decide +kernel
theorem dX10_known_57 : decode cX10_known 57 = .ok (.iconst 4, 1) := by decide +kernel
theorem dX10_known_58 : decode cX10_known 58 = .ok (.iload_n 1, 1) := by decide +kernel
theorem dX10_known_59 : decode cX10_known 59 = .ok (.imul, 1) := by decide +kernel
theorem dX10_known_60 : decode cX10_known 60 = .ok (.iload_n 3, 1) := by decide +kernel
theorem dX10_known_61 : decode cX10_known 61 = .ok (.iadd, 1) := by decide +kernel
theorem dX10_known_62 : decode cX10_known 62 = .ok (.iaload, 1) := by decide +kernel
theorem dX10_known_63 : decode cX10_known 63 = .ok (.invokevirtual 242, 3) := by decide +kernel
theorem dX10_known_123 : decode cX10_known 123 = .ok (.iconst 1, 1) := by decide +kernel
theorem dX10_known_124 : decode cX10_known 124 = .ok (.goto 4, 3) := by decide +kernel
theorem dX10_known_128 : decode cX10_known 128 = .ok (.bastore, 1) := by decide +kernel
theorem dX10_known_129 : decode cX10_known 129 = .ok (.aload_n 0, 1) := by decide +kernel
theorem dX10_known_130 : decode cX10_known 130 = .ok (.getfield 18, 3) := by decide +kernel
theorem dX10_known_133 : decode cX10_known 133 = .ok (.iload_n 1, 1) := by decide +kernel
theorem dX10_known_134 : decode cX10_known 134 = .ok (.iaload, 1) := by decide +kernel
theorem dX10_known_135 : decode cX10_known 135 = .ok (.ifCond .ne 48, 3) := by decide +kernel
theorem dX10_known_138 : decode cX10_known 138 = .ok (.iconst 0, 1) := by decide +kernel
theorem dX10_known_139 : decode cX10_known 139 = .ok (.istore_n 3, 1) := by decide +kernel
theorem dX10_known_66 : decode cX10_known 66 = .ok (.iinc 3 1, 3) := by decide +kernel
theorem dX10_known_69 : decode cX10_known 69 = .ok (.goto (-44), 3) := by decide +kernel
theorem dX10_known_183 : decode cX10_known 183 = .ok (.aload_n 0, 1) := by decide +kernel
theorem dX10_known_184 : decode cX10_known 184 = .ok (.getfield 18, 3) := by decide +kernel
theorem dX10_known_187 : decode cX10_known 187 = .ok (.iload_n 1, 1) := by decide +kernel
theorem dX10_known_188 : decode cX10_known 188 = .ok (.iaload, 1) := by decide +kernel
theorem dX10_known_189 : decode cX10_known 189 = .ok (.ifCond .eq 13, 3) := by decide +kernel
theorem dX10_known_192 : decode cX10_known 192 = .ok (.aload_n 0, 1) := by decide +kernel
theorem dX10_known_193 : decode cX10_known 193 = .ok (.getfield 18, 3) := by decide +kernel
theorem dX10_known_196 : decode cX10_known 196 = .ok (.iload_n 1, 1) := by decide +kernel
theorem dX10_known_197 : decode cX10_known 197 = .ok (.iaload, 1) := by decide +kernel
theorem dX10_known_198 : decode cX10_known 198 = .ok (.iconst 5, 1) := by decide +kernel
theorem dX10_known_199 : decode cX10_known 199 = .ok (.if_icmp .ne 4, 3) := by decide +kernel
theorem dX10_known_203 : decode cX10_known 203 = .ok (.iconst 0, 1) := by decide +kernel
theorem dX10_known_204 : decode cX10_known 204 = .ok (.istore_n 3, 1) := by decide +kernel
theorem dX10_known_140 : decode cX10_known 140 = .ok (.iload_n 3, 1) := by decide +kernel
theorem dX10_known_141 : decode cX10_known 141 = .ok (.iconst 2, 1) := by decide +kernel
theorem dX10_known_142 : decode cX10_known 142 = .ok (.if_icmp .ge 41, 3) := by decide +kernel
theorem dX10_known_145 : decode cX10_known 145 = .ok (.aload_n 0, 1) := by decide +kernel
theorem dX10_known_146 : decode cX10_known 146 = .ok (.getfield 129, 3) := by decide +kernel
theorem dX10_known_149 : decode cX10_known 149 = .ok (.iconst 2, 1) := by decide +kernel
theorem dX10_known_150 : decode cX10_known 150 = .ok (.iload_n 1, 1) := by decide +kernel
theorem dX10_known_151 : decode cX10_known 151 = .ok (.imul, 1) := by decide +kernel
theorem dX10_known_152 : decode cX10_known 152 = .ok (.iload_n 3, 1) := by decide +kernel
theorem dX10_known_153 : decode cX10_known 153 = .ok (.iadd, 1) := by decide +kernel
theorem dX10_known_154 : decode cX10_known 154 = .ok (.aload_n 0, 1) := by decide +kernel
theorem dX10_known_155 : decode cX10_known 155 = .ok (.getfield 39, 3) := by decide +kernel
theorem dX10_known_158 : decode cX10_known 158 = .ok (.iload_n 1, 1) := by decide +kernel
theorem dX10_known_159 : decode cX10_known 159 = .ok (.iaload, 1) := by decide +kernel
theorem dX10_known_160 : decode cX10_known 160 = .ok (.iastore, 1) := by decide +kernel
theorem dX10_known_161 : decode cX10_known 161 = .ok (.aload_n 0, 1) := by decide +kernel
theorem dX10_known_162 : decode cX10_known 162 = .ok (.getfield 132, 3) := by decide +kernel
theorem dX10_known_165 : decode cX10_known 165 = .ok (.iconst 2, 1) := by decide +kernel
theorem dX10_known_166 : decode cX10_known 166 = .ok (.iload_n 1, 1) := by decide +kernel
theorem dX10_known_167 : decode cX10_known 167 = .ok (.imul, 1) := by decide +kernel
theorem dX10_known_168 : decode cX10_known 168 = .ok (.iload_n 3, 1) := by decide +kernel
theorem dX10_known_169 : decode cX10_known 169 = .ok (.iadd, 1) := by decide +kernel
theorem dX10_known_170 : decode cX10_known 170 = .ok (.aload_n 0, 1) := by decide +kernel
theorem dX10_known_171 : decode cX10_known 171 = .ok (.getfield 39, 3) := by decide +kernel
theorem dX10_known_174 : decode cX10_known 174 = .ok (.iload_n 1, 1) := by decide +kernel
theorem dX10_known_175 : decode cX10_known 175 = .ok (.iaload, 1) := by decide +kernel
theorem dX10_known_176 : decode cX10_known 176 = .ok (.iastore, 1) := by decide +kernel
theorem dX10_known_177 : decode cX10_known 177 = .ok (.iinc 3 1, 3) := by decide +kernel
theorem dX10_known_180 : decode cX10_known 180 = .ok (.goto (-40), 3) := by decide +kernel
theorem dX10_known_202 : decode cX10_known 202 = .ok (.return_, 1) := by decide +kernel
theorem dX10_known_205 : decode cX10_known 205 = .ok (.iload_n 3, 1) := by decide +kernel
theorem dX10_known_206 : decode cX10_known 206 = .ok (.aload_n 0, 1) := by decide +kernel
theorem dX10_known_207 : decode cX10_known 207 = .ok (.getfield 14, 3) := by decide +kernel
theorem dX10_known_210 : decode cX10_known 210 = .ok (.iload_n 1, 1) := by decide +kernel
theorem dX10_known_211 : decode cX10_known 211 = .ok (.iaload, 1) := by decide +kernel
theorem dX10_known_212 : decode cX10_known 212 = .ok (.if_icmp .ge 80, 3) := by decide +kernel
theorem dX10_known_215 : decode cX10_known 215 = .ok (.iload_n 2, 1) := by decide +kernel
theorem dX10_known_216 : decode cX10_known 216 = .ok (.ifCond .eq 76, 3) := by decide +kernel
theorem dX10_known_219 : decode cX10_known 219 = .ok (.aload_n 0, 1) := by decide +kernel
theorem dX10_known_220 : decode cX10_known 220 = .ok (.getfield 30, 3) := by decide +kernel
theorem dX10_known_223 : decode cX10_known 223 = .ok (.iconst 4, 1) := by decide +kernel
theorem dX10_known_224 : decode cX10_known 224 = .ok (.iload_n 1, 1) := by decide +kernel
theorem dX10_known_225 : decode cX10_known 225 = .ok (.imul, 1) := by decide +kernel
theorem dX10_known_226 : decode cX10_known 226 = .ok (.iload_n 3, 1) := by decide +kernel
theorem dX10_known_227 : decode cX10_known 227 = .ok (.iadd, 1) := by decide +kernel
theorem dX10_known_228 : decode cX10_known 228 = .ok (.iaload, 1) := by decide +kernel
theorem dX10_known_229 : decode cX10_known 229 = .ok (.istore 4, 2) := by decide +kernel
theorem dX10_known_231 : decode cX10_known 231 = .ok (.iload 4, 2) := by decide +kernel
theorem dX10_known_233 : decode cX10_known 233 = .ok (.ifCond .ge 6, 3) := by decide +kernel
theorem dX10_known_239 : decode cX10_known 239 = .ok (.aload_n 0, 1) := by decide +kernel
theorem dX10_known_240 : decode cX10_known 240 = .ok (.getfield 117, 3) := by decide +kernel
theorem dX10_known_243 : decode cX10_known 243 = .ok (.iload_n 1, 1) := by decide +kernel
theorem dX10_known_244 : decode cX10_known 244 = .ok (.aload_n 0, 1) := by decide +kernel
theorem dX10_known_245 : decode cX10_known 245 = .ok (.getfield 117, 3) := by decide +kernel
theorem dX10_known_248 : decode cX10_known 248 = .ok (.iload_n 1, 1) := by decide +kernel
theorem dX10_known_249 : decode cX10_known 249 = .ok (.baload, 1) := by decide +kernel
theorem dX10_known_250 : decode cX10_known 250 = .ok (.ifCond .ne 13, 3) := by decide +kernel
theorem dX10_known_253 : decode cX10_known 253 = .ok (.aload_n 0, 1) := by decide +kernel
theorem dX10_known_254 : decode cX10_known 254 = .ok (.getfield 117, 3) := by decide +kernel
theorem dX10_known_257 : decode cX10_known 257 = .ok (.iload 4, 2) := by decide +kernel
theorem dX10_known_259 : decode cX10_known 259 = .ok (.baload, 1) := by decide +kernel
theorem dX10_known_260 : decode cX10_known 260 = .ok (.ifCond .eq 7, 3) := by decide +kernel
theorem dX10_known_267 : decode cX10_known 267 = .ok (.iconst 0, 1) := by decide +kernel
theorem dX10_known_236 : decode cX10_known 236 = .ok (.goto 50, 3) := by decide +kernel
theorem dX10_known_292 : decode cX10_known 292 = .ok (.aload_n 0, 1) := by decide +kernel
theorem dX10_known_293 : decode cX10_known 293 = .ok (.getfield 117, 3) := by decide +kernel
theorem dX10_known_296 : decode cX10_known 296 = .ok (.iload_n 1, 1) := by decide +kernel
theorem dX10_known_297 : decode cX10_known 297 = .ok (.baload, 1) := by decide +kernel
theorem dX10_known_298 : decode cX10_known 298 = .ok (.ifCond .eq 17, 3) := by decide +kernel
theorem dX10_known_301 : decode cX10_known 301 = .ok (.aload_n 0, 1) := by decide +kernel
theorem dX10_known_302 : decode cX10_known 302 = .ok (.getfield 120, 3) := by decide +kernel
theorem dX10_known_305 : decode cX10_known 305 = .ok (.iload_n 1, 1) := by decide +kernel
theorem dX10_known_306 : decode cX10_known 306 = .ok (.iaload, 1) := by decide +kernel
theorem dX10_known_307 : decode cX10_known 307 = .ok (.ifCond .ne 8, 3) := by decide +kernel
theorem dX10_known_310 : decode cX10_known 310 = .ok (.aload_n 0, 1) := by decide +kernel
theorem dX10_known_311 : decode cX10_known 311 = .ok (.iload_n 1, 1) := by decide +kernel
theorem dX10_known_312 : decode cX10_known 312 = .ok (.invokevirtual 246, 3) := by decide +kernel
theorem dX10_known_263 : decode cX10_known 263 = .ok (.iconst 1, 1) := by decide +kernel
theorem dX10_known_264 : decode cX10_known 264 = .ok (.goto 4, 3) := by decide +kernel
theorem dX10_known_268 : decode cX10_known 268 = .ok (.bastore, 1) := by decide +kernel
theorem dX10_known_269 : decode cX10_known 269 = .ok (.aload_n 0, 1) := by decide +kernel
theorem dX10_known_270 : decode cX10_known 270 = .ok (.getfield 120, 3) := by decide +kernel
theorem dX10_known_273 : decode cX10_known 273 = .ok (.iload 4, 2) := by decide +kernel
theorem dX10_known_275 : decode cX10_known 275 = .ok (.iaload, 1) := by decide +kernel
theorem dX10_known_276 : decode cX10_known 276 = .ok (.ifCond .eq 10, 3) := by decide +kernel
theorem dX10_known_279 : decode cX10_known 279 = .ok (.aload_n 0, 1) := by decide +kernel
theorem dX10_known_280 : decode cX10_known 280 = .ok (.getfield 120, 3) := by decide +kernel
theorem dX10_known_283 : decode cX10_known 283 = .ok (.iload_n 1, 1) := by decide +kernel
theorem dX10_known_284 : decode cX10_known 284 = .ok (.iconst 1, 1) := by decide +kernel
theorem dX10_known_285 : decode cX10_known 285 = .ok (.iastore, 1) := by decide +kernel
theorem dX10_known_286 : decode cX10_known 286 = .ok (.iinc 3 1, 3) := by decide +kernel
theorem dX10_known_289 : decode cX10_known 289 = .ok (.goto (-84), 3) := by decide +kernel
theorem dX10_known_315 : decode cX10_known 315 = .ok (.return_, 1) := by decide +kernel
def wo_knownS : List Cond := [.code yX10_known cX10_known 5 none, .methodLink RX10 55 yX10_isGate, .instanceMethod yX10_isGate, .selects RX10 yX10_isGate yX10_isGate, .initialized RX10, .methodLink RX10 242 yX10_known, .instanceMethod yX10_known, .selects RX10 yX10_known yX10_known, .methodLink RX10 246 yX10_arcs, .instanceMethod yX10_arcs, .selects RX10 yX10_arcs yX10_arcs]
def wr_knownS : List Cond := (wfX10 ++ (w_isGate ++ (w_arcs ++ ([]))))
def w_knownS : List Cond := wo_knownS ++ wr_knownS
theorem wg_knownS : GW w_knownS := GW_app (GW_of (by decide +kernel)) (GW_app (wg_fX10) (GW_app (wg_isGate) (GW_app (wg_arcs) (GW_nil))))
theorem in_knownS : ∀ w ∈ wfX10, w ∈ w_knownS := fun _ h => List.mem_append_right _ (List.mem_append_left _ h)
theorem g_knownS_isGate_55 : GoodIn w_knownS (wsV RX10 55 RX10 yX10_isGate w_isGate) := goodIn_app (gi_left (goodIn_of _ (by decide +kernel))) (fun w h => ⟨List.mem_append_right _ (List.mem_append_right _ (List.mem_append_left _ h)), wg_isGate w h⟩)
theorem g_knownS_knownS_242 : GoodIn w_knownS (wsV RX10 242 RX10 yX10_known w_knownS) := goodIn_app (gi_left (goodIn_of _ (by decide +kernel))) (fun w h => ⟨h, wg_knownS w h⟩)
theorem g_knownS_arcs_246 : GoodIn w_knownS (wsV RX10 246 RX10 yX10_arcs w_arcs) := goodIn_app (gi_left (goodIn_of _ (by decide +kernel))) (fun w h => ⟨List.mem_append_right _ (List.mem_append_right _ (List.mem_append_right _ (List.mem_append_left _ h))), wg_arcs w h⟩)
set_option maxHeartbeats 4000000 in
set_option maxRecDepth 100000 in
theorem ct_knownS_step (l : Launch) (E : gE) (B : Nat → Nat) (K : (VS → Prop) → Int32 → VS → Prop) (r0 r1 : Room) (h00 : r0.cells = 0 ∧ r0.slots = 0) (h10 : r1.cells = 0 ∧ r1.slots = 0) (hfr : r0.frames + 1 ≤ r1.frames) (hlo : 8 + (5 + 11) + r0.locals ≤ r1.locals) (hfm : 3 ≤ r1.frames) (hlm : 105 ≤ r1.locals) (hrec : ∀ (Q : VS → Prop) (p1 : Int32) (σ : VS), K Q p1 σ → CtV l E yX10_known w_knownS r0 (wm E B σ) [.ref (B 0), .int p1] (fun w => ∃ σ' : VS, Q σ' ∧ w = wm E B σ')) (Q : VS → Prop) (p1 : Int32) (σ : VS) (hw : wp_knownS K Q p1 σ) : CtV l E yX10_known w_knownS r1 (wm E B σ) [.ref (B 0), .int p1] (fun w => ∃ σ' : VS, Q σ' ∧ w = wm E B σ') := by
  refine VC_V (cc := cX10_known) (mL := 5) (rt := none) (lv0 := [(0, .ref (B 0)), (1, .int p1)]) rfl (by decide) rfl (Nat.le_of_ble_eq_true rfl) ?_
  intro p e s m below meth c A F
  replace F : Fx p s m _ meth c A E cX10_known 5 none RX10 w_knownS := F
  obtain ⟨X25, hX25⟩ : ∃ X : Int32 → Int32 → Int32 → VS → Prop, X = fun l1 l2 l3 σ => WB p l e (r1) s m (#[.ref (B 0), .int p1]) below meth c (MQ below (va_Qv (fun w => ∃ σ' : VS, Q σ' ∧ w = wm E B σ') (AftU E A) A) (#[.ref (B 0), .int p1]) s (r1).cells (r1).slots A) A E (wm E B) 5 25 [(0, .ref (B 0)), (1, .int l1), (2, .int l2), (3, .int l3)] [] σ := ⟨_, rfl⟩
  have U_25 : ∀ (l1 : Int32) (l2 : Int32) (l3 : Int32) (σ : VS), X25 l1 l2 l3 σ → WB p l e (r1) s m (#[.ref (B 0), .int p1]) below meth c (MQ below (va_Qv (fun w => ∃ σ' : VS, Q σ' ∧ w = wm E B σ') (AftU E A) A) (#[.ref (B 0), .int p1]) s (r1).cells (r1).slots A) A E (wm E B) 5 25 [(0, .ref (B 0)), (1, .int l1), (2, .int l2), (3, .int l3)] [] σ := by
    intro l1 l2 l3 σ hw; rw [hX25] at hw; exact hw
  obtain ⟨X140, hX140⟩ : ∃ X : Int32 → Int32 → Int32 → VS → Prop, X = fun l1 l2 l3 σ => WB p l e (r1) s m (#[.ref (B 0), .int p1]) below meth c (MQ below (va_Qv (fun w => ∃ σ' : VS, Q σ' ∧ w = wm E B σ') (AftU E A) A) (#[.ref (B 0), .int p1]) s (r1).cells (r1).slots A) A E (wm E B) 5 140 [(0, .ref (B 0)), (1, .int l1), (2, .int l2), (3, .int l3)] [] σ := ⟨_, rfl⟩
  have U_140 : ∀ (l1 : Int32) (l2 : Int32) (l3 : Int32) (σ : VS), X140 l1 l2 l3 σ → WB p l e (r1) s m (#[.ref (B 0), .int p1]) below meth c (MQ below (va_Qv (fun w => ∃ σ' : VS, Q σ' ∧ w = wm E B σ') (AftU E A) A) (#[.ref (B 0), .int p1]) s (r1).cells (r1).slots A) A E (wm E B) 5 140 [(0, .ref (B 0)), (1, .int l1), (2, .int l2), (3, .int l3)] [] σ := by
    intro l1 l2 l3 σ hw; rw [hX140] at hw; exact hw
  obtain ⟨X205, hX205⟩ : ∃ X : Int32 → Int32 → Int32 → VS → Prop, X = fun l1 l2 l3 σ => WB p l e (r1) s m (#[.ref (B 0), .int p1]) below meth c (MQ below (va_Qv (fun w => ∃ σ' : VS, Q σ' ∧ w = wm E B σ') (AftU E A) A) (#[.ref (B 0), .int p1]) s (r1).cells (r1).slots A) A E (wm E B) 5 205 [(0, .ref (B 0)), (1, .int l1), (2, .int l2), (3, .int l3)] [] σ := ⟨_, rfl⟩
  have U_205 : ∀ (l1 : Int32) (l2 : Int32) (l3 : Int32) (σ : VS), X205 l1 l2 l3 σ → WB p l e (r1) s m (#[.ref (B 0), .int p1]) below meth c (MQ below (va_Qv (fun w => ∃ σ' : VS, Q σ' ∧ w = wm E B σ') (AftU E A) A) (#[.ref (B 0), .int p1]) s (r1).cells (r1).slots A) A E (wm E B) 5 205 [(0, .ref (B 0)), (1, .int l1), (2, .int l2), (3, .int l3)] [] σ := by
    intro l1 l2 l3 σ hw; rw [hX205] at hw; exact hw
  have J_315 : ∀ (σ : VS), b_knownS_315 K X25 X140 X205 Q σ → WB p l e (r1) s m (#[.ref (B 0), .int p1]) below meth c (MQ below (va_Qv (fun w => ∃ σ' : VS, Q σ' ∧ w = wm E B σ') (AftU E A) A) (#[.ref (B 0), .int p1]) s (r1).cells (r1).slots A) A E (wm E B) 5 315 [] [] σ := by
    intro σ hw
    unfold b_knownS_315 at hw
    exact R_vret (Qc := Q) F dX10_known_315 hw
  have J_292 : ∀ (l1 : Int32) (σ : VS), b_knownS_292 K X25 X140 X205 Q l1 σ → WB p l e (r1) s m (#[.ref (B 0), .int p1]) below meth c (MQ below (va_Qv (fun w => ∃ σ' : VS, Q σ' ∧ w = wm E B σ') (AftU E A) A) (#[.ref (B 0), .int p1]) s (r1).cells (r1).slots A) A E (wm E B) 5 292 [(0, .ref (B 0)), (1, .int l1)] [] σ := by
    intro l1 σ hw
    unfold b_knownS_292 at hw
    refine R_aload_n F dX10_known_292 rfl 0 rfl ?_
    refine gm_34 F in_knownS dX10_known_293 ?_
    refine R_iload_n F dX10_known_296 rfl 1 rfl ?_
    refine R_ldz F qm_34 dX10_known_297 hw.1 ?_
    replace hw := hw.2
    refine R_if_eq (tgt := 315) F dX10_known_298 (by decide) (fun hc => ?_) (fun hc => ?_)
    · replace hw := hw.1 hc
      exact R_sub [] rfl (J_315 σ hw)
    · replace hw := hw.2 hc
      refine R_aload_n F dX10_known_301 rfl 0 rfl ?_
      refine gm_35 F in_knownS dX10_known_302 ?_
      refine R_iload_n F dX10_known_305 rfl 1 rfl ?_
      refine R_ldi F qm_35 dX10_known_306 hw.1 ?_
      replace hw := hw.2
      refine R_if_ne (tgt := 315) F dX10_known_307 (by decide) (fun hc => ?_) (fun hc => ?_)
      · replace hw := hw.1 hc
        exact R_sub [] rfl (J_315 σ hw)
      · replace hw := hw.2 hc
        refine R_aload_n F dX10_known_310 rfl 0 rfl ?_
        refine R_iload_n F dX10_known_311 rfl 1 rfl ?_
        refine R_callV (As := [.int l1]) (C := RX10) (q0 := 0) (ci := 10) (N := 69) (T := TX10) (fs := mfl B) F (ct_arcs l E B _ l1 _ hw) (cwV 1 F.2.2.2.2.2.2.2.2.2.2 g_knownS_arcs_246 rfl rfl rfl (by decide +kernel) ⟨Nat.le_trans (Nat.le_of_ble_eq_true rfl) hfm, Nat.le_trans (Nat.le_of_ble_eq_true rfl) hlm⟩) ⟨rfl, rfl⟩ rfl (fun _ => rfl) rfl rfl (Nat.le_of_ble_eq_true rfl) dX10_known_312 (fun σ7 hw => ?_)
        exact R_sub [] rfl (J_315 σ7 hw)
  have J_286 : ∀ (l1 : Int32) (l2 : Int32) (l3 : Int32) (σ : VS), b_knownS_286 K X25 X140 X205 Q l1 l2 l3 σ → WB p l e (r1) s m (#[.ref (B 0), .int p1]) below meth c (MQ below (va_Qv (fun w => ∃ σ' : VS, Q σ' ∧ w = wm E B σ') (AftU E A) A) (#[.ref (B 0), .int p1]) s (r1).cells (r1).slots A) A E (wm E B) 5 286 [(0, .ref (B 0)), (1, .int l1), (2, .int l2), (3, .int l3)] [] σ := by
    intro l1 l2 l3 σ hw
    unfold b_knownS_286 at hw
    refine R_iinc (q := 3) (v := (l3 + 1)) (lv' := [(3, .int (l3 + 1)), (0, .ref (B 0)), (1, .int l1), (2, .int l2)]) F dX10_known_286 rfl rfl (by decide) rfl ?_
    refine R_goto (tgt := 205) F dX10_known_289 (by decide) ?_
    exact R_sub [1, 2, 3, 0] rfl (U_205 l1 l2 (l3 + 1) σ hw)
  have J_268 : ∀ (l1 : Int32) (l2 : Int32) (l3 : Int32) (l4 : Int32) (k0 : Int32) (k1 : Int32) (σ : VS), b_knownS_268 K X25 X140 X205 Q l1 l2 l3 l4 k0 k1 σ → WB p l e (r1) s m (#[.ref (B 0), .int p1]) below meth c (MQ below (va_Qv (fun w => ∃ σ' : VS, Q σ' ∧ w = wm E B σ') (AftU E A) A) (#[.ref (B 0), .int p1]) s (r1).cells (r1).slots A) A E (wm E B) 5 268 [(0, .ref (B 0)), (1, .int l1), (2, .int l2), (3, .int l3), (4, .int l4)] [.int k0, .int k1, .ref (B 34)] σ := by
    intro l1 l2 l3 l4 k0 k1 σ hw
    unfold b_knownS_268 at hw
    have hi := hw.1
    replace hw := hw.2
    have hbo := hw.1
    replace hw := hw.2
    refine R_stz F qm_34 um_34 dX10_known_268 hi hbo ?_
    refine R_aload_n F dX10_known_269 rfl 0 rfl ?_
    refine gm_35 F in_knownS dX10_known_270 ?_
    refine R_iload F dX10_known_273 4 rfl ?_
    refine R_ldi F qm_35 dX10_known_275 hw.1 ?_
    replace hw := hw.2
    refine R_if_eq (tgt := 286) F dX10_known_276 (by decide) (fun hc => ?_) (fun hc => ?_)
    · replace hw := hw.1 hc
      exact R_sub [0, 1, 2, 3] rfl (J_286 l1 l2 l3 (sa σ 34 k1 k0) hw)
    · replace hw := hw.2 hc
      refine R_aload_n F dX10_known_279 rfl 0 rfl ?_
      refine gm_35 F in_knownS dX10_known_280 ?_
      refine R_iload_n F dX10_known_283 rfl 1 rfl ?_
      refine R_iconst F 1 dX10_known_284 (by decide) ?_
      have hi := hw.1
      replace hw := hw.2
      refine R_sti F qm_35 um_35 dX10_known_285 hi ?_
      exact R_sub [0, 1, 2, 3] rfl (J_286 l1 l2 l3 (sa (sa σ 34 k1 k0) 35 l1 1) hw)
  have J_263 : ∀ (l1 : Int32) (l2 : Int32) (l3 : Int32) (l4 : Int32) (k0 : Int32) (σ : VS), b_knownS_263 K X25 X140 X205 Q l1 l2 l3 l4 k0 σ → WB p l e (r1) s m (#[.ref (B 0), .int p1]) below meth c (MQ below (va_Qv (fun w => ∃ σ' : VS, Q σ' ∧ w = wm E B σ') (AftU E A) A) (#[.ref (B 0), .int p1]) s (r1).cells (r1).slots A) A E (wm E B) 5 263 [(0, .ref (B 0)), (1, .int l1), (2, .int l2), (3, .int l3), (4, .int l4)] [.int k0, .ref (B 34)] σ := by
    intro l1 l2 l3 l4 k0 σ hw
    unfold b_knownS_263 at hw
    refine R_iconst F 1 dX10_known_263 (by decide) ?_
    refine R_goto (tgt := 268) F dX10_known_264 (by decide) ?_
    exact R_sub [0, 1, 2, 3, 4] rfl (J_268 l1 l2 l3 l4 1 k0 σ hw)
  have J_202 : ∀ (σ : VS), b_knownS_202 K X25 X140 X205 Q σ → WB p l e (r1) s m (#[.ref (B 0), .int p1]) below meth c (MQ below (va_Qv (fun w => ∃ σ' : VS, Q σ' ∧ w = wm E B σ') (AftU E A) A) (#[.ref (B 0), .int p1]) s (r1).cells (r1).slots A) A E (wm E B) 5 202 [] [] σ := by
    intro σ hw
    unfold b_knownS_202 at hw
    exact R_vret (Qc := Q) F dX10_known_202 hw
  have J_183 : ∀ (l1 : Int32) (l2 : Int32) (σ : VS), b_knownS_183 K X25 X140 X205 Q l1 l2 σ → WB p l e (r1) s m (#[.ref (B 0), .int p1]) below meth c (MQ below (va_Qv (fun w => ∃ σ' : VS, Q σ' ∧ w = wm E B σ') (AftU E A) A) (#[.ref (B 0), .int p1]) s (r1).cells (r1).slots A) A E (wm E B) 5 183 [(0, .ref (B 0)), (1, .int l1), (2, .int l2)] [] σ := by
    intro l1 l2 σ hw
    unfold b_knownS_183 at hw
    refine R_aload_n F dX10_known_183 rfl 0 rfl ?_
    refine gm_2 F in_knownS dX10_known_184 ?_
    refine R_iload_n F dX10_known_187 rfl 1 rfl ?_
    refine R_ldi F qm_2 dX10_known_188 hw.1 ?_
    replace hw := hw.2
    refine R_if_eq (tgt := 202) F dX10_known_189 (by decide) (fun hc => ?_) (fun hc => ?_)
    · replace hw := hw.1 hc
      exact R_sub [] rfl (J_202 σ hw)
    · replace hw := hw.2 hc
      refine R_aload_n F dX10_known_192 rfl 0 rfl ?_
      refine gm_2 F in_knownS dX10_known_193 ?_
      refine R_iload_n F dX10_known_196 rfl 1 rfl ?_
      refine R_ldi F qm_2 dX10_known_197 hw.1 ?_
      replace hw := hw.2
      refine R_iconst F 5 dX10_known_198 (by decide) ?_
      refine R_icmp_ne (tgt := 203) F dX10_known_199 (by decide) (fun hc => ?_) (fun hc => ?_)
      · replace hw := hw.1 hc
        refine R_iconst F 0 dX10_known_203 (by decide) ?_
        refine R_istore_n (lv' := [(3, .int 0), (0, .ref (B 0)), (1, .int l1), (2, .int l2)]) F dX10_known_204 rfl (by decide) rfl ?_
        exact R_sub [1, 2, 3, 0] rfl (U_205 l1 l2 0 σ hw)
      · replace hw := hw.2 hc
        exact R_sub [] rfl (J_202 σ hw)
  have J_128 : ∀ (l1 : Int32) (l2 : Int32) (k0 : Int32) (k1 : Int32) (σ : VS), b_knownS_128 K X25 X140 X205 Q l1 l2 k0 k1 σ → WB p l e (r1) s m (#[.ref (B 0), .int p1]) below meth c (MQ below (va_Qv (fun w => ∃ σ' : VS, Q σ' ∧ w = wm E B σ') (AftU E A) A) (#[.ref (B 0), .int p1]) s (r1).cells (r1).slots A) A E (wm E B) 5 128 [(0, .ref (B 0)), (1, .int l1), (2, .int l2)] [.int k0, .int k1, .ref (B 34)] σ := by
    intro l1 l2 k0 k1 σ hw
    unfold b_knownS_128 at hw
    have hi := hw.1
    replace hw := hw.2
    have hbo := hw.1
    replace hw := hw.2
    refine R_stz F qm_34 um_34 dX10_known_128 hi hbo ?_
    refine R_aload_n F dX10_known_129 rfl 0 rfl ?_
    refine gm_2 F in_knownS dX10_known_130 ?_
    refine R_iload_n F dX10_known_133 rfl 1 rfl ?_
    refine R_ldi F qm_2 dX10_known_134 hw.1 ?_
    replace hw := hw.2
    refine R_if_ne (tgt := 183) F dX10_known_135 (by decide) (fun hc => ?_) (fun hc => ?_)
    · replace hw := hw.1 hc
      exact R_sub [0, 1, 2] rfl (J_183 l1 l2 (sa σ 34 k1 k0) hw)
    · replace hw := hw.2 hc
      refine R_iconst F 0 dX10_known_138 (by decide) ?_
      refine R_istore_n (lv' := [(3, .int 0), (0, .ref (B 0)), (1, .int l1), (2, .int l2)]) F dX10_known_139 rfl (by decide) rfl ?_
      exact R_sub [1, 2, 3, 0] rfl (U_140 l1 l2 0 (sa σ 34 k1 k0) hw)
  have J_123 : ∀ (l1 : Int32) (l2 : Int32) (k0 : Int32) (σ : VS), b_knownS_123 K X25 X140 X205 Q l1 l2 k0 σ → WB p l e (r1) s m (#[.ref (B 0), .int p1]) below meth c (MQ below (va_Qv (fun w => ∃ σ' : VS, Q σ' ∧ w = wm E B σ') (AftU E A) A) (#[.ref (B 0), .int p1]) s (r1).cells (r1).slots A) A E (wm E B) 5 123 [(0, .ref (B 0)), (1, .int l1), (2, .int l2)] [.int k0, .ref (B 34)] σ := by
    intro l1 l2 k0 σ hw
    unfold b_knownS_123 at hw
    refine R_iconst F 1 dX10_known_123 (by decide) ?_
    refine R_goto (tgt := 128) F dX10_known_124 (by decide) ?_
    exact R_sub [0, 1, 2] rfl (J_128 l1 l2 1 k0 σ hw)
  have J_66 : ∀ (l1 : Int32) (l2 : Int32) (l3 : Int32) (σ : VS), b_knownS_66 K X25 X140 X205 Q l1 l2 l3 σ → WB p l e (r1) s m (#[.ref (B 0), .int p1]) below meth c (MQ below (va_Qv (fun w => ∃ σ' : VS, Q σ' ∧ w = wm E B σ') (AftU E A) A) (#[.ref (B 0), .int p1]) s (r1).cells (r1).slots A) A E (wm E B) 5 66 [(0, .ref (B 0)), (1, .int l1), (2, .int l2), (3, .int l3)] [] σ := by
    intro l1 l2 l3 σ hw
    unfold b_knownS_66 at hw
    refine R_iinc (q := 3) (v := (l3 + 1)) (lv' := [(3, .int (l3 + 1)), (0, .ref (B 0)), (1, .int l1), (2, .int l2)]) F dX10_known_66 rfl rfl (by decide) rfl ?_
    refine R_goto (tgt := 25) F dX10_known_69 (by decide) ?_
    exact R_sub [1, 2, 3, 0] rfl (U_25 l1 l2 (l3 + 1) σ hw)
  have C_25 : ∀ (l1 : Int32) (l2 : Int32) (l3 : Int32) (σ : VS), b_knownS_25 K X25 X140 X205 Q l1 l2 l3 σ → X25 l1 l2 l3 σ := by
    intro l1 l2 l3 σ hw
    unfold b_knownS_25 at hw
    rw [hX25]
    show WB p l e (r1) s m (#[.ref (B 0), .int p1]) below meth c (MQ below (va_Qv (fun w => ∃ σ' : VS, Q σ' ∧ w = wm E B σ') (AftU E A) A) (#[.ref (B 0), .int p1]) s (r1).cells (r1).slots A) A E (wm E B) 5 25 [(0, .ref (B 0)), (1, .int l1), (2, .int l2), (3, .int l3)] [] σ
    refine R_iload_n F dX10_known_25 rfl 3 rfl ?_
    refine R_aload_n F dX10_known_26 rfl 0 rfl ?_
    refine gm_3 F in_knownS dX10_known_27 ?_
    refine R_iload_n F dX10_known_30 rfl 1 rfl ?_
    refine R_ldi F qm_3 dX10_known_31 hw.1 ?_
    replace hw := hw.2
    refine R_icmp_ge (tgt := 72) F dX10_known_32 (by decide) (fun hc => ?_) (fun hc => ?_)
    · replace hw := hw.1 hc
      refine R_aload_n F dX10_known_72 rfl 0 rfl ?_
      refine gm_31 F in_knownS dX10_known_73 ?_
      refine R_aload_n F dX10_known_76 rfl 0 rfl ?_
      refine gm_32 F in_knownS dX10_known_77 ?_
      refine R_iload_n F dX10_known_80 rfl 1 rfl ?_
      have hi := hw.1
      replace hw := hw.2
      refine R_sti F qm_31 um_31 dX10_known_81 hi ?_
      refine R_aload_n F dX10_known_82 rfl 0 rfl ?_
      refine R_dup F dX10_known_83 rfl ?_
      refine gm_32 F in_knownS dX10_known_84 ?_
      refine R_iconst F 1 dX10_known_87 (by decide) ?_
      refine R_iadd F dX10_known_88 ?_
      refine pm_32 F in_knownS dX10_known_89 ?_
      refine R_aload_n F dX10_known_92 rfl 0 rfl ?_
      refine gm_35 F in_knownS dX10_known_93 ?_
      refine R_iload_n F dX10_known_96 rfl 1 rfl ?_
      refine R_iconst F 0 dX10_known_97 (by decide) ?_
      have hi := hw.1
      replace hw := hw.2
      refine R_sti F qm_35 um_35 dX10_known_98 hi ?_
      refine R_aload_n F dX10_known_99 rfl 0 rfl ?_
      refine gm_34 F in_knownS dX10_known_100 ?_
      refine R_iload_n F dX10_known_103 rfl 1 rfl ?_
      refine R_aload_n F dX10_known_104 rfl 0 rfl ?_
      refine gm_2 F in_knownS dX10_known_105 ?_
      refine R_iload_n F dX10_known_108 rfl 1 rfl ?_
      refine R_ldi F qm_2 dX10_known_109 hw.1 ?_
      replace hw := hw.2
      refine R_if_eq (tgt := 123) F dX10_known_110 (by decide) (fun hc => ?_) (fun hc => ?_)
      · replace hw := hw.1 hc
        exact R_sub [0, 1, 2] rfl (J_123 l1 l2 l1 (sa (sf (sa σ 31 (σ.1 32) l1) 32 (((sa σ 31 (σ.1 32) l1).1 32) + 1)) 35 l1 0) hw)
      · replace hw := hw.2 hc
        refine R_aload_n F dX10_known_113 rfl 0 rfl ?_
        refine gm_2 F in_knownS dX10_known_114 ?_
        refine R_iload_n F dX10_known_117 rfl 1 rfl ?_
        refine R_ldi F qm_2 dX10_known_118 hw.1 ?_
        replace hw := hw.2
        refine R_iconst F 4 dX10_known_119 (by decide) ?_
        refine R_icmp_ne (tgt := 127) F dX10_known_120 (by decide) (fun hc => ?_) (fun hc => ?_)
        · replace hw := hw.1 hc
          refine R_iconst F 0 dX10_known_127 (by decide) ?_
          exact R_sub [0, 1, 2] rfl (J_128 l1 l2 0 l1 (sa (sf (sa σ 31 (σ.1 32) l1) 32 (((sa σ 31 (σ.1 32) l1).1 32) + 1)) 35 l1 0) hw)
        · replace hw := hw.2 hc
          exact R_sub [0, 1, 2] rfl (J_123 l1 l2 l1 (sa (sf (sa σ 31 (σ.1 32) l1) 32 (((sa σ 31 (σ.1 32) l1).1 32) + 1)) 35 l1 0) hw)
    · replace hw := hw.2 hc
      refine R_aload_n F dX10_known_35 rfl 0 rfl ?_
      refine gm_7 F in_knownS dX10_known_36 ?_
      refine R_iconst F 4 dX10_known_39 (by decide) ?_
      refine R_iload_n F dX10_known_40 rfl 1 rfl ?_
      refine R_imul F dX10_known_41 ?_
      refine R_iload_n F dX10_known_42 rfl 3 rfl ?_
      refine R_iadd F dX10_known_43 ?_
      refine R_ldi F qm_7 dX10_known_44 hw.1 ?_
      replace hw := hw.2
      refine R_if_lt (tgt := 66) F dX10_known_45 (by decide) (fun hc => ?_) (fun hc => ?_)
      · replace hw := hw.1 hc
        exact R_sub [0, 1, 2, 3] rfl (J_66 l1 l2 l3 σ hw)
      · replace hw := hw.2 hc
        refine R_iload_n F dX10_known_48 rfl 2 rfl ?_
        refine R_if_eq (tgt := 66) F dX10_known_49 (by decide) (fun hc => ?_) (fun hc => ?_)
        · replace hw := hw.1 hc
          exact R_sub [0, 1, 2, 3] rfl (J_66 l1 l2 l3 σ hw)
        · replace hw := hw.2 hc
          refine R_aload_n F dX10_known_52 rfl 0 rfl ?_
          refine R_aload_n F dX10_known_53 rfl 0 rfl ?_
          refine gm_7 F in_knownS dX10_known_54 ?_
          refine R_iconst F 4 dX10_known_57 (by decide) ?_
          refine R_iload_n F dX10_known_58 rfl 1 rfl ?_
          refine R_imul F dX10_known_59 ?_
          refine R_iload_n F dX10_known_60 rfl 3 rfl ?_
          refine R_iadd F dX10_known_61 ?_
          refine R_ldi F qm_7 dX10_known_62 hw.1 ?_
          replace hw := hw.2
          refine R_callV (As := [.int (rd σ 7 ((4 * l1) + l3))]) (C := RX10) (q0 := 0) (ci := 10) (N := 69) (T := TX10) (fs := mfl B) F (hrec _ (rd σ 7 ((4 * l1) + l3)) _ hw) (cwV 1 F.2.2.2.2.2.2.2.2.2.2 g_knownS_knownS_242 rfl rfl rfl (by decide +kernel) ⟨hfr, hlo⟩) h00 rfl (fun _ => rfl) rfl rfl (Nat.le_of_ble_eq_true rfl) dX10_known_63 (fun σ4 hw => ?_)
          exact R_sub [0, 1, 2, 3] rfl (J_66 l1 l2 l3 σ4 hw)
  have C_140 : ∀ (l1 : Int32) (l2 : Int32) (l3 : Int32) (σ : VS), b_knownS_140 K X25 X140 X205 Q l1 l2 l3 σ → X140 l1 l2 l3 σ := by
    intro l1 l2 l3 σ hw
    unfold b_knownS_140 at hw
    rw [hX140]
    show WB p l e (r1) s m (#[.ref (B 0), .int p1]) below meth c (MQ below (va_Qv (fun w => ∃ σ' : VS, Q σ' ∧ w = wm E B σ') (AftU E A) A) (#[.ref (B 0), .int p1]) s (r1).cells (r1).slots A) A E (wm E B) 5 140 [(0, .ref (B 0)), (1, .int l1), (2, .int l2), (3, .int l3)] [] σ
    refine R_iload_n F dX10_known_140 rfl 3 rfl ?_
    refine R_iconst F 2 dX10_known_141 (by decide) ?_
    refine R_icmp_ge (tgt := 183) F dX10_known_142 (by decide) (fun hc => ?_) (fun hc => ?_)
    · replace hw := hw.1 hc
      exact R_sub [0, 1, 2] rfl (J_183 l1 l2 σ hw)
    · replace hw := hw.2 hc
      refine R_aload_n F dX10_known_145 rfl 0 rfl ?_
      refine gm_38 F in_knownS dX10_known_146 ?_
      refine R_iconst F 2 dX10_known_149 (by decide) ?_
      refine R_iload_n F dX10_known_150 rfl 1 rfl ?_
      refine R_imul F dX10_known_151 ?_
      refine R_iload_n F dX10_known_152 rfl 3 rfl ?_
      refine R_iadd F dX10_known_153 ?_
      refine R_aload_n F dX10_known_154 rfl 0 rfl ?_
      refine gm_10 F in_knownS dX10_known_155 ?_
      refine R_iload_n F dX10_known_158 rfl 1 rfl ?_
      refine R_ldi F qm_10 dX10_known_159 hw.1 ?_
      replace hw := hw.2
      have hi := hw.1
      replace hw := hw.2
      refine R_sti F qm_38 um_38 dX10_known_160 hi ?_
      refine R_aload_n F dX10_known_161 rfl 0 rfl ?_
      refine gm_39 F in_knownS dX10_known_162 ?_
      refine R_iconst F 2 dX10_known_165 (by decide) ?_
      refine R_iload_n F dX10_known_166 rfl 1 rfl ?_
      refine R_imul F dX10_known_167 ?_
      refine R_iload_n F dX10_known_168 rfl 3 rfl ?_
      refine R_iadd F dX10_known_169 ?_
      refine R_aload_n F dX10_known_170 rfl 0 rfl ?_
      refine gm_10 F in_knownS dX10_known_171 ?_
      refine R_iload_n F dX10_known_174 rfl 1 rfl ?_
      refine R_ldi F qm_10 dX10_known_175 hw.1 ?_
      replace hw := hw.2
      have hi := hw.1
      replace hw := hw.2
      refine R_sti F qm_39 um_39 dX10_known_176 hi ?_
      refine R_iinc (q := 3) (v := (l3 + 1)) (lv' := [(3, .int (l3 + 1)), (0, .ref (B 0)), (1, .int l1), (2, .int l2)]) F dX10_known_177 rfl rfl (by decide) rfl ?_
      refine R_goto (tgt := 140) F dX10_known_180 (by decide) ?_
      exact R_sub [1, 2, 3, 0] rfl (U_140 l1 l2 (l3 + 1) (sa (sa σ 38 ((2 * l1) + l3) (rd σ 10 l1)) 39 ((2 * l1) + l3) (rd (sa σ 38 ((2 * l1) + l3) (rd σ 10 l1)) 10 l1)) hw)
  have C_205 : ∀ (l1 : Int32) (l2 : Int32) (l3 : Int32) (σ : VS), b_knownS_205 K X25 X140 X205 Q l1 l2 l3 σ → X205 l1 l2 l3 σ := by
    intro l1 l2 l3 σ hw
    unfold b_knownS_205 at hw
    rw [hX205]
    show WB p l e (r1) s m (#[.ref (B 0), .int p1]) below meth c (MQ below (va_Qv (fun w => ∃ σ' : VS, Q σ' ∧ w = wm E B σ') (AftU E A) A) (#[.ref (B 0), .int p1]) s (r1).cells (r1).slots A) A E (wm E B) 5 205 [(0, .ref (B 0)), (1, .int l1), (2, .int l2), (3, .int l3)] [] σ
    refine R_iload_n F dX10_known_205 rfl 3 rfl ?_
    refine R_aload_n F dX10_known_206 rfl 0 rfl ?_
    refine gm_3 F in_knownS dX10_known_207 ?_
    refine R_iload_n F dX10_known_210 rfl 1 rfl ?_
    refine R_ldi F qm_3 dX10_known_211 hw.1 ?_
    replace hw := hw.2
    refine R_icmp_ge (tgt := 292) F dX10_known_212 (by decide) (fun hc => ?_) (fun hc => ?_)
    · replace hw := hw.1 hc
      exact R_sub [0, 1] rfl (J_292 l1 σ hw)
    · replace hw := hw.2 hc
      refine R_iload_n F dX10_known_215 rfl 2 rfl ?_
      refine R_if_eq (tgt := 292) F dX10_known_216 (by decide) (fun hc => ?_) (fun hc => ?_)
      · replace hw := hw.1 hc
        exact R_sub [0, 1] rfl (J_292 l1 σ hw)
      · replace hw := hw.2 hc
        refine R_aload_n F dX10_known_219 rfl 0 rfl ?_
        refine gm_7 F in_knownS dX10_known_220 ?_
        refine R_iconst F 4 dX10_known_223 (by decide) ?_
        refine R_iload_n F dX10_known_224 rfl 1 rfl ?_
        refine R_imul F dX10_known_225 ?_
        refine R_iload_n F dX10_known_226 rfl 3 rfl ?_
        refine R_iadd F dX10_known_227 ?_
        refine R_ldi F qm_7 dX10_known_228 hw.1 ?_
        replace hw := hw.2
        refine R_topi (fun x5 ex5 => ?_)
        replace hw := hw x5 ex5
        refine R_istore (lv' := [(4, .int x5), (0, .ref (B 0)), (1, .int l1), (2, .int l2), (3, .int l3)]) F dX10_known_229 (by decide) rfl ?_
        refine R_iload F dX10_known_231 0 rfl ?_
        refine R_if_ge (tgt := 239) F dX10_known_233 (by decide) (fun hc => ?_) (fun hc => ?_)
        · replace hw := hw.1 hc
          refine R_aload_n F dX10_known_239 rfl 1 rfl ?_
          refine gm_34 F in_knownS dX10_known_240 ?_
          refine R_iload_n F dX10_known_243 rfl 2 rfl ?_
          refine R_aload_n F dX10_known_244 rfl 1 rfl ?_
          refine gm_34 F in_knownS dX10_known_245 ?_
          refine R_iload_n F dX10_known_248 rfl 2 rfl ?_
          refine R_ldz F qm_34 dX10_known_249 hw.1 ?_
          replace hw := hw.2
          refine R_if_ne (tgt := 263) F dX10_known_250 (by decide) (fun hc => ?_) (fun hc => ?_)
          · replace hw := hw.1 hc
            exact R_sub [1, 2, 3, 4, 0] rfl (J_263 l1 l2 l3 x5 l1 σ hw)
          · replace hw := hw.2 hc
            refine R_aload_n F dX10_known_253 rfl 1 rfl ?_
            refine gm_34 F in_knownS dX10_known_254 ?_
            refine R_iload F dX10_known_257 0 rfl ?_
            refine R_ldz F qm_34 dX10_known_259 hw.1 ?_
            replace hw := hw.2
            refine R_if_eq (tgt := 267) F dX10_known_260 (by decide) (fun hc => ?_) (fun hc => ?_)
            · replace hw := hw.1 hc
              refine R_iconst F 0 dX10_known_267 (by decide) ?_
              exact R_sub [1, 2, 3, 4, 0] rfl (J_268 l1 l2 l3 x5 0 l1 σ hw)
            · replace hw := hw.2 hc
              exact R_sub [1, 2, 3, 4, 0] rfl (J_263 l1 l2 l3 x5 l1 σ hw)
        · replace hw := hw.2 hc
          refine R_goto (tgt := 286) F dX10_known_236 (by decide) ?_
          exact R_sub [1, 2, 3, 4] rfl (J_286 l1 l2 l3 σ hw)
  unfold wp_knownS at hw
  replace hw := hw X25 X140 X205 C_25 C_140 C_205
  refine R_aload_n F dX10_known_0 rfl 0 rfl ?_
  refine gm_33 F in_knownS dX10_known_1 ?_
  refine R_iload_n F dX10_known_4 rfl 1 rfl ?_
  refine R_ldz F qm_33 dX10_known_5 hw.1 ?_
  replace hw := hw.2
  refine R_if_eq (tgt := 10) F dX10_known_6 (by decide) (fun hc => ?_) (fun hc => ?_)
  · replace hw := hw.1 hc
    refine R_aload_n F dX10_known_10 rfl 0 rfl ?_
    refine gm_33 F in_knownS dX10_known_11 ?_
    refine R_iload_n F dX10_known_14 rfl 1 rfl ?_
    refine R_iconst F 1 dX10_known_15 (by decide) ?_
    have hi := hw.1
    replace hw := hw.2
    refine R_stz F qm_33 um_33 dX10_known_16 hi (⟨by decide, by decide⟩ : Bo 1) ?_
    refine R_aload_n F dX10_known_17 rfl 0 rfl ?_
    refine R_iload_n F dX10_known_18 rfl 1 rfl ?_
    refine R_callI (As := [.int p1]) (C := RX10) (q0 := 0) (ci := 10) (N := 69) (T := TX10) (fs := mfl B) F (ct_isGate l E B _ p1 _ hw) (cwV 1 F.2.2.2.2.2.2.2.2.2.2 g_knownS_isGate_55 rfl rfl rfl (by decide +kernel) ⟨Nat.le_trans (Nat.le_of_ble_eq_true rfl) hfm, Nat.le_trans (Nat.le_of_ble_eq_true rfl) hlm⟩) ⟨rfl, rfl⟩ rfl (fun _ => rfl) rfl rfl (Nat.le_of_ble_eq_true rfl) dX10_known_19 (fun r1 σ2 hw => ?_)
    refine R_istore_n (lv' := [(2, .int r1), (0, .ref (B 0)), (1, .int p1)]) F dX10_known_22 rfl (by decide) rfl ?_
    refine R_iconst F 0 dX10_known_23 (by decide) ?_
    refine R_istore_n (lv' := [(3, .int 0), (2, .int r1), (0, .ref (B 0)), (1, .int p1)]) F dX10_known_24 rfl (by decide) rfl ?_
    exact R_sub [2, 3, 1, 0] rfl (U_25 p1 r1 0 σ2 hw)
  · replace hw := hw.2 hc
    exact R_vret (Qc := Q) F dX10_known_9 hw
def kn : Nat → (VS → Prop) → Int32 → VS → Prop
  | 0 => fun _ _ _ => False
  | n + 1 => fun Q c σ => wp_knownS (kn n) Q c σ
theorem ct_known_n (l : Launch) (E : gE) (B : Nat → Nat) (n : Nat) : ∀ (Q : VS → Prop) (p1 : Int32) (σ : VS), kn n Q p1 σ → CtV l E yX10_known w_knownS ({ frames := n + 3, cells := 0, slots := 0, locals := n * 24 + 105 } : Room) (wm E B σ) [.ref (B 0), .int p1] (fun w => ∃ σ' : VS, Q σ' ∧ w = wm E B σ') := by
  induction n with
  | zero => intro Q p1 σ hw; exact hw.elim
  | succ n ih =>
    intro Q p1 σ hw
    exact ct_knownS_step l E B (kn n) _ _ ⟨rfl, rfl⟩ ⟨rfl, rfl⟩ (by show n + 3 + 1 ≤ n + 1 + 3; omega) (by show 8 + (5 + 11) + (n * 24 + 105) ≤ (n + 1) * 24 + 105; omega) (by show 3 ≤ n + 1 + 3; omega) (by show 105 ≤ (n + 1) * 24 + 105; omega) ih Q p1 σ hw
def wp_known (Q : VS → Prop) (p1 : Int32) (σ : VS) : Prop := kn 52 Q p1 σ
def w_known : List Cond := w_knownS
theorem wg_known : GW w_known := wg_knownS
theorem ct_known (l : Launch) (E : gE) (B : Nat → Nat) (Q : VS → Prop) (p1 : Int32) (σ : VS) (hw : wp_known Q p1 σ) : CtV l E yX10_known w_known ({ frames := 55, cells := 0, slots := 0, locals := 1353 } : Room) (wm E B σ) [.ref (B 0), .int p1] (fun w => ∃ σ' : VS, Q σ' ∧ w = wm E B σ') := ct_known_n l E B 52 Q p1 σ hw
