def b_make_119 (X119 : Int32 → Int32 → VS → Prop) (Q : Int32 → VS → Prop) (l4 : Int32) (l5 : Int32) (σ : VS) : Prop := ((4 ≤ l5.toInt → (In l4 50 ∧ (In l4 50 ∧ (In l4 50 ∧ (In l4 50 ∧ (In l4 50 ∧ (In l4 50 ∧ Q l4 (sf (sa (sa (sa (sa (sa (sa σ 8 l4 0) 9 l4 0) 10 l4 0) 11 l4 (-1)) 12 l4 0) 13 l4 0) 1 (((sa (sa (sa (sa (sa (sa σ 8 l4 0) 9 l4 0) 10 l4 0) 11 l4 (-1)) 12 l4 0) 13 l4 0).1 1) + 1))))))))) ∧ (l5.toInt < 4 → (In ((4 * l4) + l5) 200 ∧ X119 l4 (l5 + 1) (sa σ 7 ((4 * l4) + l5) (-1)))))
def b_make_91 (X119 : Int32 → Int32 → VS → Prop) (Q : Int32 → VS → Prop) (l3 : Int32) (l4 : Int32) (k0 : Int32) (k1 : Int32) (σ : VS) : Prop := (In k1 50 ∧ (In l4 50 ∧ (In l4 50 ∧ (In l4 50 ∧ X119 l4 0 (sa (sa (sa (sa σ 3 k1 k0) 4 l4 l3) 5 l4 0) 6 l4 0)))))
def b_make_41 (X119 : Int32 → Int32 → VS → Prop) (Q : Int32 → VS → Prop) (l1 : Int32) (l2 : Int32) (l3 : Int32) (σ : VS) : Prop := (((σ.1 1).toInt ≠ 50 → (∀ x1 : Int32, x1 = (σ.1 1) → (In x1 50 ∧ ((l1.toInt ≠ 0 → ((l1.toInt ≤ 2 → b_make_91 X119 Q l3 x1 l2 x1 (sa σ 2 x1 l1)) ∧ (2 < l1.toInt → b_make_91 X119 Q l3 x1 1 x1 (sa σ 2 x1 l1)))) ∧ (l1.toInt = 0 → b_make_91 X119 Q l3 x1 0 x1 (sa σ 2 x1 l1)))))) ∧ ((σ.1 1).toInt = 50 → Q (-3) σ))
def b_make_39 (X119 : Int32 → Int32 → VS → Prop) (Q : Int32 → VS → Prop) (σ : VS) : Prop := Q (-1) σ
def b_make_29 (X119 : Int32 → Int32 → VS → Prop) (Q : Int32 → VS → Prop) (l1 : Int32) (l2 : Int32) (l3 : Int32) (σ : VS) : Prop := ((l2.toInt < 1 → b_make_39 X119 Q σ) ∧ (1 ≤ l2.toInt → ((l2.toInt ≤ 4 → b_make_41 X119 Q l1 l2 l3 σ) ∧ (4 < l2.toInt → b_make_39 X119 Q σ))))
def wp_make (Q : Int32 → VS → Prop) (p1 : Int32) (p2 : Int32) (p3 : Int32) (σ : VS) : Prop := ∀ (X119 : Int32 → Int32 → VS → Prop), (∀ (l4 : Int32) (l5 : Int32) (σ : VS), b_make_119 X119 Q l4 l5 σ → X119 l4 l5 σ) → ((p1.toInt < 0 → b_make_39 X119 Q σ) ∧ (0 ≤ p1.toInt → ((5 < p1.toInt → b_make_39 X119 Q σ) ∧ (p1.toInt ≤ 5 → ((p3.toInt < 0 → b_make_39 X119 Q σ) ∧ (0 ≤ p3.toInt → ((7 < p3.toInt → b_make_39 X119 Q σ) ∧ (p3.toInt ≤ 7 → ((p1.toInt = 1 → b_make_29 X119 Q p1 p2 p3 σ) ∧ (p1.toInt ≠ 1 → ((p1.toInt ≠ 2 → b_make_41 X119 Q p1 p2 p3 σ) ∧ (p1.toInt = 2 → b_make_29 X119 Q p1 p2 p3 σ))))))))))))
theorem dX10_make_0 : decode cX10_make 0 = .ok (.iload_n 1, 1) := by decide +kernel
theorem dX10_make_1 : decode cX10_make 1 = .ok (.ifCond .lt 38, 3) := by decide +kernel
theorem dX10_make_4 : decode cX10_make 4 = .ok (.iload_n 1, 1) := by decide +kernel
theorem dX10_make_5 : decode cX10_make 5 = .ok (.iconst 5, 1) := by decide +kernel
theorem dX10_make_6 : decode cX10_make 6 = .ok (.if_icmp .gt 33, 3) := by decide +kernel
theorem dX10_make_9 : decode cX10_make 9 = .ok (.iload_n 3, 1) := by decide +kernel
theorem dX10_make_10 : decode cX10_make 10 = .ok (.ifCond .lt 29, 3) := by decide +kernel
theorem dX10_make_13 : decode cX10_make 13 = .ok (.iload_n 3, 1) := by decide +kernel
theorem dX10_make_14 : decode cX10_make 14 = .ok (.bipush 7, 2) := by decide +kernel
theorem dX10_make_16 : decode cX10_make 16 = .ok (.if_icmp .gt 23, 3) := by decide +kernel
theorem dX10_make_19 : decode cX10_make 19 = .ok (.iload_n 1, 1) := by decide +kernel
theorem dX10_make_20 : decode cX10_make 20 = .ok (.iconst 1, 1) := by decide +kernel
theorem dX10_make_21 : decode cX10_make 21 = .ok (.if_icmp .eq 8, 3) := by decide +kernel
theorem dX10_make_24 : decode cX10_make 24 = .ok (.iload_n 1, 1) := by decide +kernel
theorem dX10_make_25 : decode cX10_make 25 = .ok (.iconst 2, 1) := by decide +kernel
theorem dX10_make_26 : decode cX10_make 26 = .ok (.if_icmp .ne 15, 3) := by decide +kernel
theorem dX10_make_39 : decode cX10_make 39 = .ok (.iconst (-1), 1) := by decide +kernel
theorem dX10_make_40 : decode cX10_make 40 = .ok (.ireturn, 1) := by decide +kernel
theorem dX10_make_29 : decode cX10_make 29 = .ok (.iload_n 2, 1) := by decide +kernel
theorem dX10_make_30 : decode cX10_make 30 = .ok (.iconst 1, 1) := by decide +kernel
theorem dX10_make_31 : decode cX10_make 31 = .ok (.if_icmp .lt 8, 3) := by decide +kernel
theorem dX10_make_34 : decode cX10_make 34 = .ok (.iload_n 2, 1) := by decide +kernel
theorem dX10_make_35 : decode cX10_make 35 = .ok (.iconst 4, 1) := by decide +kernel
theorem dX10_make_36 : decode cX10_make 36 = .ok (.if_icmp .le 5, 3) := by decide +kernel
theorem dX10_make_41 : decode cX10_make 41 = .ok (.aload_n 0, 1) := by decide +kernel
theorem dX10_make_42 : decode cX10_make 42 = .ok (.getfield 7, 3) := by decide +kernel
theorem dX10_make_45 : decode cX10_make 45 = .ok (.bipush 50, 2) := by decide +kernel
theorem dX10_make_47 : decode cX10_make 47 = .ok (.if_icmp .ne 6, 3) := by decide +kernel
theorem dX10_make_53 : decode cX10_make 53 = .ok (.aload_n 0, 1) := by decide +kernel
theorem dX10_make_54 : decode cX10_make 54 = .ok (.getfield 7, 3) := by decide +kernel
theorem dX10_make_57 : decode cX10_make 57 = .ok (.istore 4, 2) := by decide +kernel
theorem dX10_make_59 : decode cX10_make 59 = .ok (.aload_n 0, 1) := by decide +kernel
theorem dX10_make_60 : decode cX10_make 60 = .ok (.getfield 18, 3) := by decide +kernel
theorem dX10_make_63 : decode cX10_make 63 = .ok (.iload 4, 2) := by decide +kernel
theorem dX10_make_65 : decode cX10_make 65 = .ok (.iload_n 1, 1) := by decide +kernel
theorem dX10_make_66 : decode cX10_make 66 = .ok (.iastore, 1) := by decide +kernel
theorem dX10_make_67 : decode cX10_make 67 = .ok (.aload_n 0, 1) := by decide +kernel
theorem dX10_make_68 : decode cX10_make 68 = .ok (.getfield 14, 3) := by decide +kernel
theorem dX10_make_71 : decode cX10_make 71 = .ok (.iload 4, 2) := by decide +kernel
theorem dX10_make_73 : decode cX10_make 73 = .ok (.iload_n 1, 1) := by decide +kernel
theorem dX10_make_74 : decode cX10_make 74 = .ok (.ifCond .ne 7, 3) := by decide +kernel
theorem dX10_make_81 : decode cX10_make 81 = .ok (.iload_n 1, 1) := by decide +kernel
theorem dX10_make_82 : decode cX10_make 82 = .ok (.iconst 2, 1) := by decide +kernel
theorem dX10_make_83 : decode cX10_make 83 = .ok (.if_icmp .le 7, 3) := by decide +kernel
theorem dX10_make_90 : decode cX10_make 90 = .ok (.iload_n 2, 1) := by decide +kernel
theorem dX10_make_86 : decode cX10_make 86 = .ok (.iconst 1, 1) := by decide +kernel
theorem dX10_make_87 : decode cX10_make 87 = .ok (.goto 4, 3) := by decide +kernel
theorem dX10_make_77 : decode cX10_make 77 = .ok (.iconst 0, 1) := by decide +kernel
theorem dX10_make_78 : decode cX10_make 78 = .ok (.goto 13, 3) := by decide +kernel
theorem dX10_make_50 : decode cX10_make 50 = .ok (.bipush (-3), 2) := by decide +kernel
theorem dX10_make_52 : decode cX10_make 52 = .ok (.ireturn, 1) := by decide +kernel
theorem dX10_make_91 : decode cX10_make 91 = .ok (.iastore, 1) := by decide +kernel
theorem dX10_make_92 : decode cX10_make 92 = .ok (.aload_n 0, 1) := by decide +kernel
theorem dX10_make_93 : decode cX10_make 93 = .ok (.getfield 21, 3) := by decide +kernel
theorem dX10_make_96 : decode cX10_make 96 = .ok (.iload 4, 2) := by decide +kernel
theorem dX10_make_98 : decode cX10_make 98 = .ok (.iload_n 3, 1) := by decide +kernel
theorem dX10_make_99 : decode cX10_make 99 = .ok (.iastore, 1) := by decide +kernel
theorem dX10_make_100 : decode cX10_make 100 = .ok (.aload_n 0, 1) := by decide +kernel
theorem dX10_make_101 : decode cX10_make 101 = .ok (.getfield 24, 3) := by decide +kernel
theorem dX10_make_104 : decode cX10_make 104 = .ok (.iload 4, 2) := by decide +kernel
theorem dX10_make_106 : decode cX10_make 106 = .ok (.iconst 0, 1) := by decide +kernel
theorem dX10_make_107 : decode cX10_make 107 = .ok (.iastore, 1) := by decide +kernel
theorem dX10_make_108 : decode cX10_make 108 = .ok (.aload_n 0, 1) := by decide +kernel
theorem dX10_make_109 : decode cX10_make 109 = .ok (.getfield 27, 3) := by decide +kernel
theorem dX10_make_112 : decode cX10_make 112 = .ok (.iload 4, 2) := by decide +kernel
theorem dX10_make_114 : decode cX10_make 114 = .ok (.iconst 0, 1) := by decide +kernel
theorem dX10_make_115 : decode cX10_make 115 = .ok (.iastore, 1) := by decide +kernel
theorem dX10_make_116 : decode cX10_make 116 = .ok (.iconst 0, 1) := by decide +kernel
theorem dX10_make_117 : decode cX10_make 117 = .ok (.istore 5, 2) := by decide +kernel
theorem dX10_make_119 : decode cX10_make 119 = .ok (.iload 5, 2) := by decide +kernel
theorem dX10_make_121 : decode cX10_make 121 = .ok (.iconst 4, 1) := by decide +kernel
theorem dX10_make_122 : decode cX10_make 122 = .ok (.if_icmp .ge 22, 3) := by decide +kernel
theorem dX10_make_144 : decode cX10_make 144 = .ok (.aload_n 0, 1) := by decide +kernel
theorem dX10_make_145 : decode cX10_make 145 = .ok (.getfield 33, 3) := by decide +kernel
theorem dX10_make_148 : decode cX10_make 148 = .ok (.iload 4, 2) := by decide +kernel
theorem dX10_make_150 : decode cX10_make 150 = .ok (.iconst 0, 1) := by decide +kernel
theorem dX10_make_151 : decode cX10_make 151 = .ok (.iastore, 1) := by decide +kernel
theorem dX10_make_152 : decode cX10_make 152 = .ok (.aload_n 0, 1) := by decide +kernel
theorem dX10_make_153 : decode cX10_make 153 = .ok (.getfield 36, 3) := by decide +kernel
theorem dX10_make_156 : decode cX10_make 156 = .ok (.iload 4, 2) := by decide +kernel
theorem dX10_make_158 : decode cX10_make 158 = .ok (.iconst 0, 1) := by decide +kernel
theorem dX10_make_159 : decode cX10_make 159 = .ok (.iastore, 1) := by decide +kernel
theorem dX10_make_160 : decode cX10_make 160 = .ok (.aload_n 0, 1) := by decide +kernel
theorem dX10_make_161 : decode cX10_make 161 = .ok (.getfield 39, 3) := by decide +kernel
theorem dX10_make_164 : decode cX10_make 164 = .ok (.iload 4, 2) := by decide +kernel
theorem dX10_make_166 : decode cX10_make 166 = .ok (.iconst 0, 1) := by decide +kernel
theorem dX10_make_167 : decode cX10_make 167 = .ok (.iastore, 1) := by decide +kernel
theorem dX10_make_168 : decode cX10_make 168 = .ok (.aload_n 0, 1) := by decide +kernel
theorem dX10_make_169 : decode cX10_make 169 = .ok (.getfield 42, 3) := by decide +kernel
theorem dX10_make_172 : decode cX10_make 172 = .ok (.iload 4, 2) := by decide +kernel
theorem dX10_make_174 : decode cX10_make 174 = .ok (.iconst (-1), 1) := by decide +kernel
theorem dX10_make_175 : decode cX10_make 175 = .ok (.iastore, 1) := by decide +kernel
theorem dX10_make_176 : decode cX10_make 176 = .ok (.aload_n 0, 1) := by decide +kernel
theorem dX10_make_177 : decode cX10_make 177 = .ok (.getfield 45, 3) := by decide +kernel
theorem dX10_make_180 : decode cX10_make 180 = .ok (.iload 4, 2) := by decide +kernel
theorem dX10_make_182 : decode cX10_make 182 = .ok (.iconst 0, 1) := by decide +kernel
theorem dX10_make_183 : decode cX10_make 183 = .ok (.iastore, 1) := by decide +kernel
theorem dX10_make_184 : decode cX10_make 184 = .ok (.aload_n 0, 1) := by decide +kernel
theorem dX10_make_185 : decode cX10_make 185 = .ok (.getfield 48, 3) := by decide +kernel
theorem dX10_make_188 : decode cX10_make 188 = .ok (.iload 4, 2) := by decide +kernel
theorem dX10_make_190 : decode cX10_make 190 = .ok (.iconst 0, 1) := by decide +kernel
theorem dX10_make_191 : decode cX10_make 191 = .ok (.iastore, 1) := by decide +kernel
theorem dX10_make_192 : decode cX10_make 192 = .ok (.aload_n 0, 1) := by decide +kernel
theorem dX10_make_193 : decode cX10_make 193 = .ok (.dup, 1) := by decide +kernel
theorem dX10_make_194 : decode cX10_make 194 = .ok (.getfield 7, 3) := by decide +kernel
theorem dX10_make_197 : decode cX10_make 197 = .ok (.iconst 1, 1) := by decide +kernel
theorem dX10_make_198 : decode cX10_make 198 = .ok (.iadd, 1) := by decide +kernel
theorem dX10_make_199 : decode cX10_make 199 = .ok (.putfield 7, 3) := by decide +kernel
theorem dX10_make_202 : decode cX10_make 202 = .ok (.iload 4, 2) := by decide +kernel
theorem dX10_make_204 : decode cX10_make 204 = .ok (.ireturn, 1) := by decide +kernel
theorem dX10_make_125 : decode cX10_make 125 = .ok (.aload_n 0, 1) := by decide +kernel
theorem dX10_make_126 : decode cX10_make 126 = .ok (.getfield 30, 3) := by decide +kernel
theorem dX10_make_129 : decode cX10_make 129 = .ok (.iconst 4, 1) := by decide +kernel
theorem dX10_make_130 : decode cX10_make 130 = .ok (.iload 4, 2) := by decide +kernel
theorem dX10_make_132 : decode cX10_make 132 = .ok (.imul, 1) := by decide +kernel
theorem dX10_make_133 : decode cX10_make 133 = .ok (.iload 5, 2) := by decide +kernel
theorem dX10_make_135 : decode cX10_make 135 = .ok (.iadd, 1) := by decide +kernel
theorem dX10_make_136 : decode cX10_make 136 = .ok (.iconst (-1), 1) := by decide +kernel
theorem dX10_make_137 : decode cX10_make 137 = .ok (.iastore, 1) := by decide +kernel
theorem dX10_make_138 : decode cX10_make 138 = .ok (.iinc 5 1, 3) := by decide +kernel
theorem dX10_make_141 : decode cX10_make 141 = .ok (.goto (-22), 3) := by decide +kernel
def wo_make : List Cond := [.code yX10_make cX10_make 6 (some .int)]
def wr_make : List Cond := (wfX10 ++ ([]))
def w_make : List Cond := wo_make ++ wr_make
theorem wg_make : GW w_make := GW_app (GW_of (by decide +kernel)) (GW_app (wg_fX10) (GW_nil))
theorem in_make : ∀ w ∈ wfX10, w ∈ w_make := fun _ h => List.mem_append_right _ (List.mem_append_left _ h)
set_option maxHeartbeats 4000000 in
set_option maxRecDepth 100000 in
theorem ct_make (l : Launch) (E : gE) (B : Nat → Nat) (Q : Int32 → VS → Prop) (p1 : Int32) (p2 : Int32) (p3 : Int32) (σ : VS) (hw : wp_make Q p1 p2 p3 σ) : CtI l E yX10_make w_make (({ frames := 0, cells := 0, slots := 0, locals := 0 } : Room)) (wm E B σ) [.ref (B 0), .int p1, .int p2, .int p3] (fun r w => ∃ σ' : VS, Q r σ' ∧ w = wm E B σ') := by
  refine VC_I (cc := cX10_make) (mL := 6) (rt := (some .int)) (lv0 := [(0, .ref (B 0)), (1, .int p1), (2, .int p2), (3, .int p3)]) rfl (by decide) rfl (Nat.le_of_ble_eq_true rfl) ?_
  intro p e s m below meth c A F
  replace F : Fx p s m _ meth c A E cX10_make 6 (some .int) RX10 w_make := F
  obtain ⟨X119, hX119⟩ : ∃ X : Int32 → Int32 → VS → Prop, X = fun l4 l5 σ => WB p l e (({ frames := 0, cells := 0, slots := 0, locals := 0 } : Room)) s m (#[.ref (B 0), .int p1, .int p2, .int p3]) below meth c (MQ below (va_Qi (fun r w => ∃ σ' : VS, Q r σ' ∧ w = wm E B σ') (AftU E A) A) (#[.ref (B 0), .int p1, .int p2, .int p3]) s (({ frames := 0, cells := 0, slots := 0, locals := 0 } : Room)).cells (({ frames := 0, cells := 0, slots := 0, locals := 0 } : Room)).slots A) A E (wm E B) 6 119 [(0, .ref (B 0)), (4, .int l4), (5, .int l5)] [] σ := ⟨_, rfl⟩
  have U_119 : ∀ (l4 : Int32) (l5 : Int32) (σ : VS), X119 l4 l5 σ → WB p l e (({ frames := 0, cells := 0, slots := 0, locals := 0 } : Room)) s m (#[.ref (B 0), .int p1, .int p2, .int p3]) below meth c (MQ below (va_Qi (fun r w => ∃ σ' : VS, Q r σ' ∧ w = wm E B σ') (AftU E A) A) (#[.ref (B 0), .int p1, .int p2, .int p3]) s (({ frames := 0, cells := 0, slots := 0, locals := 0 } : Room)).cells (({ frames := 0, cells := 0, slots := 0, locals := 0 } : Room)).slots A) A E (wm E B) 6 119 [(0, .ref (B 0)), (4, .int l4), (5, .int l5)] [] σ := by
    intro l4 l5 σ hw; rw [hX119] at hw; exact hw
  have J_91 : ∀ (l3 : Int32) (l4 : Int32) (k0 : Int32) (k1 : Int32) (σ : VS), b_make_91 X119 Q l3 l4 k0 k1 σ → WB p l e (({ frames := 0, cells := 0, slots := 0, locals := 0 } : Room)) s m (#[.ref (B 0), .int p1, .int p2, .int p3]) below meth c (MQ below (va_Qi (fun r w => ∃ σ' : VS, Q r σ' ∧ w = wm E B σ') (AftU E A) A) (#[.ref (B 0), .int p1, .int p2, .int p3]) s (({ frames := 0, cells := 0, slots := 0, locals := 0 } : Room)).cells (({ frames := 0, cells := 0, slots := 0, locals := 0 } : Room)).slots A) A E (wm E B) 6 91 [(0, .ref (B 0)), (3, .int l3), (4, .int l4)] [.int k0, .int k1, .ref (B 3)] σ := by
    intro l3 l4 k0 k1 σ hw
    unfold b_make_91 at hw
    have hi := hw.1
    replace hw := hw.2
    refine R_sti F qm_3 um_3 dX10_make_91 hi ?_
    refine R_aload_n F dX10_make_92 rfl 0 rfl ?_
    refine gm_4 F in_make dX10_make_93 ?_
    refine R_iload F dX10_make_96 2 rfl ?_
    refine R_iload_n F dX10_make_98 rfl 1 rfl ?_
    have hi := hw.1
    replace hw := hw.2
    refine R_sti F qm_4 um_4 dX10_make_99 hi ?_
    refine R_aload_n F dX10_make_100 rfl 0 rfl ?_
    refine gm_5 F in_make dX10_make_101 ?_
    refine R_iload F dX10_make_104 2 rfl ?_
    refine R_iconst F 0 dX10_make_106 (by decide) ?_
    have hi := hw.1
    replace hw := hw.2
    refine R_sti F qm_5 um_5 dX10_make_107 hi ?_
    refine R_aload_n F dX10_make_108 rfl 0 rfl ?_
    refine gm_6 F in_make dX10_make_109 ?_
    refine R_iload F dX10_make_112 2 rfl ?_
    refine R_iconst F 0 dX10_make_114 (by decide) ?_
    have hi := hw.1
    replace hw := hw.2
    refine R_sti F qm_6 um_6 dX10_make_115 hi ?_
    refine R_iconst F 0 dX10_make_116 (by decide) ?_
    refine R_istore (lv' := [(5, .int 0), (0, .ref (B 0)), (3, .int l3), (4, .int l4)]) F dX10_make_117 (by decide) rfl ?_
    exact R_sub [1, 3, 0] rfl (U_119 l4 0 (sa (sa (sa (sa σ 3 k1 k0) 4 l4 l3) 5 l4 0) 6 l4 0) hw)
  have J_41 : ∀ (l1 : Int32) (l2 : Int32) (l3 : Int32) (σ : VS), b_make_41 X119 Q l1 l2 l3 σ → WB p l e (({ frames := 0, cells := 0, slots := 0, locals := 0 } : Room)) s m (#[.ref (B 0), .int p1, .int p2, .int p3]) below meth c (MQ below (va_Qi (fun r w => ∃ σ' : VS, Q r σ' ∧ w = wm E B σ') (AftU E A) A) (#[.ref (B 0), .int p1, .int p2, .int p3]) s (({ frames := 0, cells := 0, slots := 0, locals := 0 } : Room)).cells (({ frames := 0, cells := 0, slots := 0, locals := 0 } : Room)).slots A) A E (wm E B) 6 41 [(0, .ref (B 0)), (1, .int l1), (2, .int l2), (3, .int l3)] [] σ := by
    intro l1 l2 l3 σ hw
    unfold b_make_41 at hw
    refine R_aload_n F dX10_make_41 rfl 0 rfl ?_
    refine gm_1 F in_make dX10_make_42 ?_
    refine R_bipush F 50 dX10_make_45 (by decide) ?_
    refine R_icmp_ne (tgt := 53) F dX10_make_47 (by decide) (fun hc => ?_) (fun hc => ?_)
    · replace hw := hw.1 hc
      refine R_aload_n F dX10_make_53 rfl 0 rfl ?_
      refine gm_1 F in_make dX10_make_54 ?_
      refine R_topi (fun x1 ex1 => ?_)
      replace hw := hw x1 ex1
      refine R_istore (lv' := [(4, .int x1), (0, .ref (B 0)), (1, .int l1), (2, .int l2), (3, .int l3)]) F dX10_make_57 (by decide) rfl ?_
      refine R_aload_n F dX10_make_59 rfl 1 rfl ?_
      refine gm_2 F in_make dX10_make_60 ?_
      refine R_iload F dX10_make_63 0 rfl ?_
      refine R_iload_n F dX10_make_65 rfl 2 rfl ?_
      have hi := hw.1
      replace hw := hw.2
      refine R_sti F qm_2 um_2 dX10_make_66 hi ?_
      refine R_aload_n F dX10_make_67 rfl 1 rfl ?_
      refine gm_3 F in_make dX10_make_68 ?_
      refine R_iload F dX10_make_71 0 rfl ?_
      refine R_iload_n F dX10_make_73 rfl 2 rfl ?_
      refine R_if_ne (tgt := 81) F dX10_make_74 (by decide) (fun hc => ?_) (fun hc => ?_)
      · replace hw := hw.1 hc
        refine R_iload_n F dX10_make_81 rfl 2 rfl ?_
        refine R_iconst F 2 dX10_make_82 (by decide) ?_
        refine R_icmp_le (tgt := 90) F dX10_make_83 (by decide) (fun hc => ?_) (fun hc => ?_)
        · replace hw := hw.1 hc
          refine R_iload_n F dX10_make_90 rfl 3 rfl ?_
          exact R_sub [1, 4, 0] rfl (J_91 l3 x1 l2 x1 (sa σ 2 x1 l1) hw)
        · replace hw := hw.2 hc
          refine R_iconst F 1 dX10_make_86 (by decide) ?_
          refine R_goto (tgt := 91) F dX10_make_87 (by decide) ?_
          exact R_sub [1, 4, 0] rfl (J_91 l3 x1 1 x1 (sa σ 2 x1 l1) hw)
      · replace hw := hw.2 hc
        refine R_iconst F 0 dX10_make_77 (by decide) ?_
        refine R_goto (tgt := 91) F dX10_make_78 (by decide) ?_
        exact R_sub [1, 4, 0] rfl (J_91 l3 x1 0 x1 (sa σ 2 x1 l1) hw)
    · replace hw := hw.2 hc
      refine R_bipush F (-3) dX10_make_50 (by decide) ?_
      exact R_iret (Qc := Q) F rfl dX10_make_52 hw
  have J_39 : ∀ (σ : VS), b_make_39 X119 Q σ → WB p l e (({ frames := 0, cells := 0, slots := 0, locals := 0 } : Room)) s m (#[.ref (B 0), .int p1, .int p2, .int p3]) below meth c (MQ below (va_Qi (fun r w => ∃ σ' : VS, Q r σ' ∧ w = wm E B σ') (AftU E A) A) (#[.ref (B 0), .int p1, .int p2, .int p3]) s (({ frames := 0, cells := 0, slots := 0, locals := 0 } : Room)).cells (({ frames := 0, cells := 0, slots := 0, locals := 0 } : Room)).slots A) A E (wm E B) 6 39 [] [] σ := by
    intro σ hw
    unfold b_make_39 at hw
    refine R_iconst F (-1) dX10_make_39 (by decide) ?_
    exact R_iret (Qc := Q) F rfl dX10_make_40 hw
  have J_29 : ∀ (l1 : Int32) (l2 : Int32) (l3 : Int32) (σ : VS), b_make_29 X119 Q l1 l2 l3 σ → WB p l e (({ frames := 0, cells := 0, slots := 0, locals := 0 } : Room)) s m (#[.ref (B 0), .int p1, .int p2, .int p3]) below meth c (MQ below (va_Qi (fun r w => ∃ σ' : VS, Q r σ' ∧ w = wm E B σ') (AftU E A) A) (#[.ref (B 0), .int p1, .int p2, .int p3]) s (({ frames := 0, cells := 0, slots := 0, locals := 0 } : Room)).cells (({ frames := 0, cells := 0, slots := 0, locals := 0 } : Room)).slots A) A E (wm E B) 6 29 [(0, .ref (B 0)), (1, .int l1), (2, .int l2), (3, .int l3)] [] σ := by
    intro l1 l2 l3 σ hw
    unfold b_make_29 at hw
    refine R_iload_n F dX10_make_29 rfl 2 rfl ?_
    refine R_iconst F 1 dX10_make_30 (by decide) ?_
    refine R_icmp_lt (tgt := 39) F dX10_make_31 (by decide) (fun hc => ?_) (fun hc => ?_)
    · replace hw := hw.1 hc
      exact R_sub [] rfl (J_39 σ hw)
    · replace hw := hw.2 hc
      refine R_iload_n F dX10_make_34 rfl 2 rfl ?_
      refine R_iconst F 4 dX10_make_35 (by decide) ?_
      refine R_icmp_le (tgt := 41) F dX10_make_36 (by decide) (fun hc => ?_) (fun hc => ?_)
      · replace hw := hw.1 hc
        exact R_sub [0, 1, 2, 3] rfl (J_41 l1 l2 l3 σ hw)
      · replace hw := hw.2 hc
        exact R_sub [] rfl (J_39 σ hw)
  have C_119 : ∀ (l4 : Int32) (l5 : Int32) (σ : VS), b_make_119 X119 Q l4 l5 σ → X119 l4 l5 σ := by
    intro l4 l5 σ hw
    unfold b_make_119 at hw
    rw [hX119]
    show WB p l e (({ frames := 0, cells := 0, slots := 0, locals := 0 } : Room)) s m (#[.ref (B 0), .int p1, .int p2, .int p3]) below meth c (MQ below (va_Qi (fun r w => ∃ σ' : VS, Q r σ' ∧ w = wm E B σ') (AftU E A) A) (#[.ref (B 0), .int p1, .int p2, .int p3]) s (({ frames := 0, cells := 0, slots := 0, locals := 0 } : Room)).cells (({ frames := 0, cells := 0, slots := 0, locals := 0 } : Room)).slots A) A E (wm E B) 6 119 [(0, .ref (B 0)), (4, .int l4), (5, .int l5)] [] σ
    refine R_iload F dX10_make_119 2 rfl ?_
    refine R_iconst F 4 dX10_make_121 (by decide) ?_
    refine R_icmp_ge (tgt := 144) F dX10_make_122 (by decide) (fun hc => ?_) (fun hc => ?_)
    · replace hw := hw.1 hc
      refine R_aload_n F dX10_make_144 rfl 0 rfl ?_
      refine gm_8 F in_make dX10_make_145 ?_
      refine R_iload F dX10_make_148 1 rfl ?_
      refine R_iconst F 0 dX10_make_150 (by decide) ?_
      have hi := hw.1
      replace hw := hw.2
      refine R_sti F qm_8 um_8 dX10_make_151 hi ?_
      refine R_aload_n F dX10_make_152 rfl 0 rfl ?_
      refine gm_9 F in_make dX10_make_153 ?_
      refine R_iload F dX10_make_156 1 rfl ?_
      refine R_iconst F 0 dX10_make_158 (by decide) ?_
      have hi := hw.1
      replace hw := hw.2
      refine R_sti F qm_9 um_9 dX10_make_159 hi ?_
      refine R_aload_n F dX10_make_160 rfl 0 rfl ?_
      refine gm_10 F in_make dX10_make_161 ?_
      refine R_iload F dX10_make_164 1 rfl ?_
      refine R_iconst F 0 dX10_make_166 (by decide) ?_
      have hi := hw.1
      replace hw := hw.2
      refine R_sti F qm_10 um_10 dX10_make_167 hi ?_
      refine R_aload_n F dX10_make_168 rfl 0 rfl ?_
      refine gm_11 F in_make dX10_make_169 ?_
      refine R_iload F dX10_make_172 1 rfl ?_
      refine R_iconst F (-1) dX10_make_174 (by decide) ?_
      have hi := hw.1
      replace hw := hw.2
      refine R_sti F qm_11 um_11 dX10_make_175 hi ?_
      refine R_aload_n F dX10_make_176 rfl 0 rfl ?_
      refine gm_12 F in_make dX10_make_177 ?_
      refine R_iload F dX10_make_180 1 rfl ?_
      refine R_iconst F 0 dX10_make_182 (by decide) ?_
      have hi := hw.1
      replace hw := hw.2
      refine R_sti F qm_12 um_12 dX10_make_183 hi ?_
      refine R_aload_n F dX10_make_184 rfl 0 rfl ?_
      refine gm_13 F in_make dX10_make_185 ?_
      refine R_iload F dX10_make_188 1 rfl ?_
      refine R_iconst F 0 dX10_make_190 (by decide) ?_
      have hi := hw.1
      replace hw := hw.2
      refine R_sti F qm_13 um_13 dX10_make_191 hi ?_
      refine R_aload_n F dX10_make_192 rfl 0 rfl ?_
      refine R_dup F dX10_make_193 rfl ?_
      refine gm_1 F in_make dX10_make_194 ?_
      refine R_iconst F 1 dX10_make_197 (by decide) ?_
      refine R_iadd F dX10_make_198 ?_
      refine pm_1 F in_make dX10_make_199 ?_
      refine R_iload F dX10_make_202 1 rfl ?_
      exact R_iret (Qc := Q) F rfl dX10_make_204 hw
    · replace hw := hw.2 hc
      refine R_aload_n F dX10_make_125 rfl 0 rfl ?_
      refine gm_7 F in_make dX10_make_126 ?_
      refine R_iconst F 4 dX10_make_129 (by decide) ?_
      refine R_iload F dX10_make_130 1 rfl ?_
      refine R_imul F dX10_make_132 ?_
      refine R_iload F dX10_make_133 2 rfl ?_
      refine R_iadd F dX10_make_135 ?_
      refine R_iconst F (-1) dX10_make_136 (by decide) ?_
      have hi := hw.1
      replace hw := hw.2
      refine R_sti F qm_7 um_7 dX10_make_137 hi ?_
      refine R_iinc (q := 2) (v := (l5 + 1)) (lv' := [(5, .int (l5 + 1)), (0, .ref (B 0)), (4, .int l4)]) F dX10_make_138 rfl rfl (by decide) rfl ?_
      refine R_goto (tgt := 119) F dX10_make_141 (by decide) ?_
      exact R_sub [1, 2, 0] rfl (U_119 l4 (l5 + 1) (sa σ 7 ((4 * l4) + l5) (-1)) hw)
  unfold wp_make at hw
  replace hw := hw X119 C_119
  refine R_iload_n F dX10_make_0 rfl 1 rfl ?_
  refine R_if_lt (tgt := 39) F dX10_make_1 (by decide) (fun hc => ?_) (fun hc => ?_)
  · replace hw := hw.1 hc
    exact R_sub [] rfl (J_39 σ hw)
  · replace hw := hw.2 hc
    refine R_iload_n F dX10_make_4 rfl 1 rfl ?_
    refine R_iconst F 5 dX10_make_5 (by decide) ?_
    refine R_icmp_gt (tgt := 39) F dX10_make_6 (by decide) (fun hc => ?_) (fun hc => ?_)
    · replace hw := hw.1 hc
      exact R_sub [] rfl (J_39 σ hw)
    · replace hw := hw.2 hc
      refine R_iload_n F dX10_make_9 rfl 3 rfl ?_
      refine R_if_lt (tgt := 39) F dX10_make_10 (by decide) (fun hc => ?_) (fun hc => ?_)
      · replace hw := hw.1 hc
        exact R_sub [] rfl (J_39 σ hw)
      · replace hw := hw.2 hc
        refine R_iload_n F dX10_make_13 rfl 3 rfl ?_
        refine R_bipush F 7 dX10_make_14 (by decide) ?_
        refine R_icmp_gt (tgt := 39) F dX10_make_16 (by decide) (fun hc => ?_) (fun hc => ?_)
        · replace hw := hw.1 hc
          exact R_sub [] rfl (J_39 σ hw)
        · replace hw := hw.2 hc
          refine R_iload_n F dX10_make_19 rfl 1 rfl ?_
          refine R_iconst F 1 dX10_make_20 (by decide) ?_
          refine R_icmp_eq (tgt := 29) F dX10_make_21 (by decide) (fun hc => ?_) (fun hc => ?_)
          · replace hw := hw.1 hc
            exact R_sub [0, 1, 2, 3] rfl (J_29 p1 p2 p3 σ hw)
          · replace hw := hw.2 hc
            refine R_iload_n F dX10_make_24 rfl 1 rfl ?_
            refine R_iconst F 2 dX10_make_25 (by decide) ?_
            refine R_icmp_ne (tgt := 41) F dX10_make_26 (by decide) (fun hc => ?_) (fun hc => ?_)
            · replace hw := hw.1 hc
              exact R_sub [0, 1, 2, 3] rfl (J_41 p1 p2 p3 σ hw)
            · replace hw := hw.2 hc
              exact R_sub [0, 1, 2, 3] rfl (J_29 p1 p2 p3 σ hw)
def b_extra_19 (Q : Int32 → VS → Prop) (σ : VS) : Prop := Q (-1) σ
def wp_extra (Q : Int32 → VS → Prop) (p1 : Int32) (p2 : Int32) (σ : VS) : Prop := wp_isCell (fun (r1 : Int32) (σ2 : VS) => ((r1.toInt = 0 → b_extra_19 Q σ2) ∧ (r1.toInt ≠ 0 → ((p2.toInt < 0 → b_extra_19 Q σ2) ∧ (0 ≤ p2.toInt → ((p2.toInt ≤ 1000 → (In p1 50 ∧ (((rd σ2 2 p1).toInt ≠ 5 → (In p1 50 ∧ (∀ x3 : Int32, x3 = (rd σ2 6 p1) → (In p1 50 ∧ Q x3 (sa σ2 6 p1 p2))))) ∧ ((rd σ2 2 p1).toInt = 5 → Q (-2) σ2)))) ∧ (1000 < p2.toInt → b_extra_19 Q σ2))))))) p1 σ
theorem dX10_extra_0 : decode cX10_extra 0 = .ok (.aload_n 0, 1) := by decide +kernel
theorem dX10_extra_1 : decode cX10_extra 1 = .ok (.iload_n 1, 1) := by decide +kernel
theorem dX10_extra_2 : decode cX10_extra 2 = .ok (.invokevirtual 10, 3) := by decide +kernel
theorem dX10_extra_5 : decode cX10_extra 5 = .ok (.ifCond .eq 14, 3) := by decide +kernel
theorem dX10_extra_8 : decode cX10_extra 8 = .ok (.iload_n 2, 1) := by decide +kernel
theorem dX10_extra_9 : decode cX10_extra 9 = .ok (.ifCond .lt 10, 3) := by decide +kernel
theorem dX10_extra_12 : decode cX10_extra 12 = .ok (.iload_n 2, 1) := by decide +kernel
theorem dX10_extra_13 : decode cX10_extra 13 = .ok (.sipush 1000, 3) := by decide +kernel
theorem dX10_extra_16 : decode cX10_extra 16 = .ok (.if_icmp .le 5, 3) := by decide +kernel
theorem dX10_extra_21 : decode cX10_extra 21 = .ok (.aload_n 0, 1) := by decide +kernel
theorem dX10_extra_22 : decode cX10_extra 22 = .ok (.getfield 18, 3) := by decide +kernel
theorem dX10_extra_25 : decode cX10_extra 25 = .ok (.iload_n 1, 1) := by decide +kernel
theorem dX10_extra_26 : decode cX10_extra 26 = .ok (.iaload, 1) := by decide +kernel
theorem dX10_extra_27 : decode cX10_extra 27 = .ok (.iconst 5, 1) := by decide +kernel
theorem dX10_extra_28 : decode cX10_extra 28 = .ok (.if_icmp .ne 6, 3) := by decide +kernel
theorem dX10_extra_34 : decode cX10_extra 34 = .ok (.aload_n 0, 1) := by decide +kernel
theorem dX10_extra_35 : decode cX10_extra 35 = .ok (.getfield 27, 3) := by decide +kernel
theorem dX10_extra_38 : decode cX10_extra 38 = .ok (.iload_n 1, 1) := by decide +kernel
theorem dX10_extra_39 : decode cX10_extra 39 = .ok (.iaload, 1) := by decide +kernel
theorem dX10_extra_40 : decode cX10_extra 40 = .ok (.istore_n 3, 1) := by decide +kernel
theorem dX10_extra_41 : decode cX10_extra 41 = .ok (.aload_n 0, 1) := by decide +kernel
theorem dX10_extra_42 : decode cX10_extra 42 = .ok (.getfield 27, 3) := by decide +kernel
theorem dX10_extra_45 : decode cX10_extra 45 = .ok (.iload_n 1, 1) := by decide +kernel
theorem dX10_extra_46 : decode cX10_extra 46 = .ok (.iload_n 2, 1) := by decide +kernel
theorem dX10_extra_47 : decode cX10_extra 47 = .ok (.iastore, 1) := by decide +kernel
theorem dX10_extra_48 : decode cX10_extra 48 = .ok (.iload_n 3, 1) := by decide +kernel
theorem dX10_extra_49 : decode cX10_extra 49 = .ok (.ireturn, 1) := by decide +kernel
theorem dX10_extra_31 : decode cX10_extra 31 = .ok (.bipush (-2), 2) := by decide +kernel
theorem dX10_extra_33 : decode cX10_extra 33 = .ok (.ireturn, 1) := by decide +kernel
theorem dX10_extra_19 : decode cX10_extra 19 = .ok (.iconst (-1), 1) := by decide +kernel
theorem dX10_extra_20 : decode cX10_extra 20 = .ok (.ireturn, 1) := by decide +kernel
def wo_extra : List Cond := [.code yX10_extra cX10_extra 4 (some .int), .methodLink RX10 10 yX10_isCell, .instanceMethod yX10_isCell, .selects RX10 yX10_isCell yX10_isCell, .initialized RX10]
def wr_extra : List Cond := (wfX10 ++ (w_isCell ++ ([])))
def w_extra : List Cond := wo_extra ++ wr_extra
theorem wg_extra : GW w_extra := GW_app (GW_of (by decide +kernel)) (GW_app (wg_fX10) (GW_app (wg_isCell) (GW_nil)))
theorem in_extra : ∀ w ∈ wfX10, w ∈ w_extra := fun _ h => List.mem_append_right _ (List.mem_append_left _ h)
theorem g_extra_isCell_10 : GoodIn w_extra (wsV RX10 10 RX10 yX10_isCell w_isCell) := goodIn_app (gi_left (goodIn_of _ (by decide +kernel))) (fun w h => ⟨List.mem_append_right _ (List.mem_append_right _ (List.mem_append_left _ h)), wg_isCell w h⟩)
set_option maxHeartbeats 4000000 in
set_option maxRecDepth 100000 in
theorem ct_extra (l : Launch) (E : gE) (B : Nat → Nat) (Q : Int32 → VS → Prop) (p1 : Int32) (p2 : Int32) (σ : VS) (hw : wp_extra Q p1 p2 σ) : CtI l E yX10_extra w_extra (({ frames := 1, cells := 0, slots := 0, locals := 21 } : Room)) (wm E B σ) [.ref (B 0), .int p1, .int p2] (fun r w => ∃ σ' : VS, Q r σ' ∧ w = wm E B σ') := by
  refine VC_I (cc := cX10_extra) (mL := 4) (rt := (some .int)) (lv0 := [(0, .ref (B 0)), (1, .int p1), (2, .int p2)]) rfl (by decide) rfl (Nat.le_of_ble_eq_true rfl) ?_
  intro p e s m below meth c A F
  replace F : Fx p s m _ meth c A E cX10_extra 4 (some .int) RX10 w_extra := F
  have J_19 : ∀ (σ : VS), b_extra_19 Q σ → WB p l e (({ frames := 1, cells := 0, slots := 0, locals := 21 } : Room)) s m (#[.ref (B 0), .int p1, .int p2]) below meth c (MQ below (va_Qi (fun r w => ∃ σ' : VS, Q r σ' ∧ w = wm E B σ') (AftU E A) A) (#[.ref (B 0), .int p1, .int p2]) s (({ frames := 1, cells := 0, slots := 0, locals := 21 } : Room)).cells (({ frames := 1, cells := 0, slots := 0, locals := 21 } : Room)).slots A) A E (wm E B) 4 19 [] [] σ := by
    intro σ hw
    unfold b_extra_19 at hw
    refine R_iconst F (-1) dX10_extra_19 (by decide) ?_
    exact R_iret (Qc := Q) F rfl dX10_extra_20 hw
  unfold wp_extra at hw
  refine R_aload_n F dX10_extra_0 rfl 0 rfl ?_
  refine R_iload_n F dX10_extra_1 rfl 1 rfl ?_
  refine R_callI (As := [.int p1]) (C := RX10) (q0 := 0) (ci := 10) (N := 69) (T := TX10) (fs := mfl B) F (ct_isCell l E B _ p1 _ hw) (cwV 1 F.2.2.2.2.2.2.2.2.2.2 g_extra_isCell_10 rfl rfl rfl (by decide +kernel) ⟨Nat.le_of_ble_eq_true rfl, Nat.le_of_ble_eq_true rfl⟩) ⟨rfl, rfl⟩ rfl (fun _ => rfl) rfl rfl (Nat.le_of_ble_eq_true rfl) dX10_extra_2 (fun r1 σ2 hw => ?_)
  refine R_if_eq (tgt := 19) F dX10_extra_5 (by decide) (fun hc => ?_) (fun hc => ?_)
  · replace hw := hw.1 hc
    exact R_sub [] rfl (J_19 σ2 hw)
  · replace hw := hw.2 hc
    refine R_iload_n F dX10_extra_8 rfl 2 rfl ?_
    refine R_if_lt (tgt := 19) F dX10_extra_9 (by decide) (fun hc => ?_) (fun hc => ?_)
    · replace hw := hw.1 hc
      exact R_sub [] rfl (J_19 σ2 hw)
    · replace hw := hw.2 hc
      refine R_iload_n F dX10_extra_12 rfl 2 rfl ?_
      refine R_sipush F 1000 dX10_extra_13 (by decide) ?_
      refine R_icmp_le (tgt := 21) F dX10_extra_16 (by decide) (fun hc => ?_) (fun hc => ?_)
      · replace hw := hw.1 hc
        refine R_aload_n F dX10_extra_21 rfl 0 rfl ?_
        refine gm_2 F in_extra dX10_extra_22 ?_
        refine R_iload_n F dX10_extra_25 rfl 1 rfl ?_
        refine R_ldi F qm_2 dX10_extra_26 hw.1 ?_
        replace hw := hw.2
        refine R_iconst F 5 dX10_extra_27 (by decide) ?_
        refine R_icmp_ne (tgt := 34) F dX10_extra_28 (by decide) (fun hc => ?_) (fun hc => ?_)
        · replace hw := hw.1 hc
          refine R_aload_n F dX10_extra_34 rfl 0 rfl ?_
          refine gm_6 F in_extra dX10_extra_35 ?_
          refine R_iload_n F dX10_extra_38 rfl 1 rfl ?_
          refine R_ldi F qm_6 dX10_extra_39 hw.1 ?_
          replace hw := hw.2
          refine R_topi (fun x3 ex3 => ?_)
          replace hw := hw x3 ex3
          refine R_istore_n (lv' := [(3, .int x3), (0, .ref (B 0)), (1, .int p1), (2, .int p2)]) F dX10_extra_40 rfl (by decide) rfl ?_
          refine R_aload_n F dX10_extra_41 rfl 1 rfl ?_
          refine gm_6 F in_extra dX10_extra_42 ?_
          refine R_iload_n F dX10_extra_45 rfl 2 rfl ?_
          refine R_iload_n F dX10_extra_46 rfl 3 rfl ?_
          have hi := hw.1
          replace hw := hw.2
          refine R_sti F qm_6 um_6 dX10_extra_47 hi ?_
          refine R_iload_n F dX10_extra_48 rfl 0 rfl ?_
          exact R_iret (Qc := Q) F rfl dX10_extra_49 hw
        · replace hw := hw.2 hc
          refine R_bipush F (-2) dX10_extra_31 (by decide) ?_
          exact R_iret (Qc := Q) F rfl dX10_extra_33 hw
      · replace hw := hw.2 hc
        exact R_sub [] rfl (J_19 σ2 hw)
def b_size_38 (Q : Int32 → VS → Prop) (σ : VS) : Prop := Q (-2) σ
def b_size_17 (Q : Int32 → VS → Prop) (σ : VS) : Prop := Q (-1) σ
def wp_size (Q : Int32 → VS → Prop) (p1 : Int32) (p2 : Int32) (σ : VS) : Prop := wp_isCell (fun (r1 : Int32) (σ2 : VS) => ((r1.toInt = 0 → b_size_17 Q σ2) ∧ (r1.toInt ≠ 0 → ((p2.toInt < 0 → b_size_17 Q σ2) ∧ (0 ≤ p2.toInt → ((p2.toInt ≤ 2 → (In p1 50 ∧ (((rd σ2 2 p1).toInt = 0 → b_size_38 Q σ2) ∧ ((rd σ2 2 p1).toInt ≠ 0 → (In p1 50 ∧ (((rd σ2 2 p1).toInt ≠ 5 → (In p1 50 ∧ (∀ x3 : Int32, x3 = (rd σ2 5 p1) → (In p1 50 ∧ Q x3 (sa σ2 5 p1 p2))))) ∧ ((rd σ2 2 p1).toInt = 5 → b_size_38 Q σ2))))))) ∧ (2 < p2.toInt → b_size_17 Q σ2))))))) p1 σ
theorem dX10_size_0 : decode cX10_size 0 = .ok (.aload_n 0, 1) := by decide +kernel
theorem dX10_size_1 : decode cX10_size 1 = .ok (.iload_n 1, 1) := by decide +kernel
theorem dX10_size_2 : decode cX10_size 2 = .ok (.invokevirtual 10, 3) := by decide +kernel
theorem dX10_size_5 : decode cX10_size 5 = .ok (.ifCond .eq 12, 3) := by decide +kernel
theorem dX10_size_8 : decode cX10_size 8 = .ok (.iload_n 2, 1) := by decide +kernel
theorem dX10_size_9 : decode cX10_size 9 = .ok (.ifCond .lt 8, 3) := by decide +kernel
theorem dX10_size_12 : decode cX10_size 12 = .ok (.iload_n 2, 1) := by decide +kernel
theorem dX10_size_13 : decode cX10_size 13 = .ok (.iconst 2, 1) := by decide +kernel
theorem dX10_size_14 : decode cX10_size 14 = .ok (.if_icmp .le 5, 3) := by decide +kernel
theorem dX10_size_19 : decode cX10_size 19 = .ok (.aload_n 0, 1) := by decide +kernel
theorem dX10_size_20 : decode cX10_size 20 = .ok (.getfield 18, 3) := by decide +kernel
theorem dX10_size_23 : decode cX10_size 23 = .ok (.iload_n 1, 1) := by decide +kernel
theorem dX10_size_24 : decode cX10_size 24 = .ok (.iaload, 1) := by decide +kernel
theorem dX10_size_25 : decode cX10_size 25 = .ok (.ifCond .eq 13, 3) := by decide +kernel
theorem dX10_size_28 : decode cX10_size 28 = .ok (.aload_n 0, 1) := by decide +kernel
theorem dX10_size_29 : decode cX10_size 29 = .ok (.getfield 18, 3) := by decide +kernel
theorem dX10_size_32 : decode cX10_size 32 = .ok (.iload_n 1, 1) := by decide +kernel
theorem dX10_size_33 : decode cX10_size 33 = .ok (.iaload, 1) := by decide +kernel
theorem dX10_size_34 : decode cX10_size 34 = .ok (.iconst 5, 1) := by decide +kernel
theorem dX10_size_35 : decode cX10_size 35 = .ok (.if_icmp .ne 6, 3) := by decide +kernel
theorem dX10_size_41 : decode cX10_size 41 = .ok (.aload_n 0, 1) := by decide +kernel
theorem dX10_size_42 : decode cX10_size 42 = .ok (.getfield 24, 3) := by decide +kernel
theorem dX10_size_45 : decode cX10_size 45 = .ok (.iload_n 1, 1) := by decide +kernel
theorem dX10_size_46 : decode cX10_size 46 = .ok (.iaload, 1) := by decide +kernel
theorem dX10_size_47 : decode cX10_size 47 = .ok (.istore_n 3, 1) := by decide +kernel
theorem dX10_size_48 : decode cX10_size 48 = .ok (.aload_n 0, 1) := by decide +kernel
theorem dX10_size_49 : decode cX10_size 49 = .ok (.getfield 24, 3) := by decide +kernel
theorem dX10_size_52 : decode cX10_size 52 = .ok (.iload_n 1, 1) := by decide +kernel
theorem dX10_size_53 : decode cX10_size 53 = .ok (.iload_n 2, 1) := by decide +kernel
theorem dX10_size_54 : decode cX10_size 54 = .ok (.iastore, 1) := by decide +kernel
theorem dX10_size_55 : decode cX10_size 55 = .ok (.iload_n 3, 1) := by decide +kernel
theorem dX10_size_56 : decode cX10_size 56 = .ok (.ireturn, 1) := by decide +kernel
theorem dX10_size_17 : decode cX10_size 17 = .ok (.iconst (-1), 1) := by decide +kernel
theorem dX10_size_18 : decode cX10_size 18 = .ok (.ireturn, 1) := by decide +kernel
theorem dX10_size_38 : decode cX10_size 38 = .ok (.bipush (-2), 2) := by decide +kernel
theorem dX10_size_40 : decode cX10_size 40 = .ok (.ireturn, 1) := by decide +kernel
def wo_size : List Cond := [.code yX10_size cX10_size 4 (some .int), .methodLink RX10 10 yX10_isCell, .instanceMethod yX10_isCell, .selects RX10 yX10_isCell yX10_isCell, .initialized RX10]
def wr_size : List Cond := (wfX10 ++ (w_isCell ++ ([])))
def w_size : List Cond := wo_size ++ wr_size
theorem wg_size : GW w_size := GW_app (GW_of (by decide +kernel)) (GW_app (wg_fX10) (GW_app (wg_isCell) (GW_nil)))
theorem in_size : ∀ w ∈ wfX10, w ∈ w_size := fun _ h => List.mem_append_right _ (List.mem_append_left _ h)
theorem g_size_isCell_10 : GoodIn w_size (wsV RX10 10 RX10 yX10_isCell w_isCell) := goodIn_app (gi_left (goodIn_of _ (by decide +kernel))) (fun w h => ⟨List.mem_append_right _ (List.mem_append_right _ (List.mem_append_left _ h)), wg_isCell w h⟩)
set_option maxHeartbeats 4000000 in
set_option maxRecDepth 100000 in
theorem ct_size (l : Launch) (E : gE) (B : Nat → Nat) (Q : Int32 → VS → Prop) (p1 : Int32) (p2 : Int32) (σ : VS) (hw : wp_size Q p1 p2 σ) : CtI l E yX10_size w_size (({ frames := 1, cells := 0, slots := 0, locals := 21 } : Room)) (wm E B σ) [.ref (B 0), .int p1, .int p2] (fun r w => ∃ σ' : VS, Q r σ' ∧ w = wm E B σ') := by
  refine VC_I (cc := cX10_size) (mL := 4) (rt := (some .int)) (lv0 := [(0, .ref (B 0)), (1, .int p1), (2, .int p2)]) rfl (by decide) rfl (Nat.le_of_ble_eq_true rfl) ?_
  intro p e s m below meth c A F
  replace F : Fx p s m _ meth c A E cX10_size 4 (some .int) RX10 w_size := F
  have J_38 : ∀ (σ : VS), b_size_38 Q σ → WB p l e (({ frames := 1, cells := 0, slots := 0, locals := 21 } : Room)) s m (#[.ref (B 0), .int p1, .int p2]) below meth c (MQ below (va_Qi (fun r w => ∃ σ' : VS, Q r σ' ∧ w = wm E B σ') (AftU E A) A) (#[.ref (B 0), .int p1, .int p2]) s (({ frames := 1, cells := 0, slots := 0, locals := 21 } : Room)).cells (({ frames := 1, cells := 0, slots := 0, locals := 21 } : Room)).slots A) A E (wm E B) 4 38 [] [] σ := by
    intro σ hw
    unfold b_size_38 at hw
    refine R_bipush F (-2) dX10_size_38 (by decide) ?_
    exact R_iret (Qc := Q) F rfl dX10_size_40 hw
  have J_17 : ∀ (σ : VS), b_size_17 Q σ → WB p l e (({ frames := 1, cells := 0, slots := 0, locals := 21 } : Room)) s m (#[.ref (B 0), .int p1, .int p2]) below meth c (MQ below (va_Qi (fun r w => ∃ σ' : VS, Q r σ' ∧ w = wm E B σ') (AftU E A) A) (#[.ref (B 0), .int p1, .int p2]) s (({ frames := 1, cells := 0, slots := 0, locals := 21 } : Room)).cells (({ frames := 1, cells := 0, slots := 0, locals := 21 } : Room)).slots A) A E (wm E B) 4 17 [] [] σ := by
    intro σ hw
    unfold b_size_17 at hw
    refine R_iconst F (-1) dX10_size_17 (by decide) ?_
    exact R_iret (Qc := Q) F rfl dX10_size_18 hw
  unfold wp_size at hw
  refine R_aload_n F dX10_size_0 rfl 0 rfl ?_
  refine R_iload_n F dX10_size_1 rfl 1 rfl ?_
  refine R_callI (As := [.int p1]) (C := RX10) (q0 := 0) (ci := 10) (N := 69) (T := TX10) (fs := mfl B) F (ct_isCell l E B _ p1 _ hw) (cwV 1 F.2.2.2.2.2.2.2.2.2.2 g_size_isCell_10 rfl rfl rfl (by decide +kernel) ⟨Nat.le_of_ble_eq_true rfl, Nat.le_of_ble_eq_true rfl⟩) ⟨rfl, rfl⟩ rfl (fun _ => rfl) rfl rfl (Nat.le_of_ble_eq_true rfl) dX10_size_2 (fun r1 σ2 hw => ?_)
  refine R_if_eq (tgt := 17) F dX10_size_5 (by decide) (fun hc => ?_) (fun hc => ?_)
  · replace hw := hw.1 hc
    exact R_sub [] rfl (J_17 σ2 hw)
  · replace hw := hw.2 hc
    refine R_iload_n F dX10_size_8 rfl 2 rfl ?_
    refine R_if_lt (tgt := 17) F dX10_size_9 (by decide) (fun hc => ?_) (fun hc => ?_)
    · replace hw := hw.1 hc
      exact R_sub [] rfl (J_17 σ2 hw)
    · replace hw := hw.2 hc
      refine R_iload_n F dX10_size_12 rfl 2 rfl ?_
      refine R_iconst F 2 dX10_size_13 (by decide) ?_
      refine R_icmp_le (tgt := 19) F dX10_size_14 (by decide) (fun hc => ?_) (fun hc => ?_)
      · replace hw := hw.1 hc
        refine R_aload_n F dX10_size_19 rfl 0 rfl ?_
        refine gm_2 F in_size dX10_size_20 ?_
        refine R_iload_n F dX10_size_23 rfl 1 rfl ?_
        refine R_ldi F qm_2 dX10_size_24 hw.1 ?_
        replace hw := hw.2
        refine R_if_eq (tgt := 38) F dX10_size_25 (by decide) (fun hc => ?_) (fun hc => ?_)
        · replace hw := hw.1 hc
          exact R_sub [] rfl (J_38 σ2 hw)
        · replace hw := hw.2 hc
          refine R_aload_n F dX10_size_28 rfl 0 rfl ?_
          refine gm_2 F in_size dX10_size_29 ?_
          refine R_iload_n F dX10_size_32 rfl 1 rfl ?_
          refine R_ldi F qm_2 dX10_size_33 hw.1 ?_
          replace hw := hw.2
          refine R_iconst F 5 dX10_size_34 (by decide) ?_
          refine R_icmp_ne (tgt := 41) F dX10_size_35 (by decide) (fun hc => ?_) (fun hc => ?_)
          · replace hw := hw.1 hc
            refine R_aload_n F dX10_size_41 rfl 0 rfl ?_
            refine gm_5 F in_size dX10_size_42 ?_
            refine R_iload_n F dX10_size_45 rfl 1 rfl ?_
            refine R_ldi F qm_5 dX10_size_46 hw.1 ?_
            replace hw := hw.2
            refine R_topi (fun x3 ex3 => ?_)
            replace hw := hw x3 ex3
            refine R_istore_n (lv' := [(3, .int x3), (0, .ref (B 0)), (1, .int p1), (2, .int p2)]) F dX10_size_47 rfl (by decide) rfl ?_
            refine R_aload_n F dX10_size_48 rfl 1 rfl ?_
            refine gm_5 F in_size dX10_size_49 ?_
            refine R_iload_n F dX10_size_52 rfl 2 rfl ?_
            refine R_iload_n F dX10_size_53 rfl 3 rfl ?_
            have hi := hw.1
            replace hw := hw.2
            refine R_sti F qm_5 um_5 dX10_size_54 hi ?_
            refine R_iload_n F dX10_size_55 rfl 0 rfl ?_
            exact R_iret (Qc := Q) F rfl dX10_size_56 hw
          · replace hw := hw.2 hc
            exact R_sub [] rfl (J_38 σ2 hw)
      · replace hw := hw.2 hc
        exact R_sub [] rfl (J_17 σ2 hw)
def b_port_40 (Q : Int32 → VS → Prop) (σ : VS) : Prop := Q (-1) σ
def wp_port (Q : Int32 → VS → Prop) (p1 : Int32) (p2 : Int32) (p3 : Int32) (p4 : Int32) (σ : VS) : Prop := wp_isCell (fun (r1 : Int32) (σ2 : VS) => ((r1.toInt = 0 → b_port_40 Q σ2) ∧ (r1.toInt ≠ 0 → ((p2.toInt < 0 → b_port_40 Q σ2) ∧ (0 ≤ p2.toInt → ((100000 < p2.toInt → b_port_40 Q σ2) ∧ (p2.toInt ≤ 100000 → ((p3.toInt < 0 → b_port_40 Q σ2) ∧ (0 ≤ p3.toInt → ((100000 < p3.toInt → b_port_40 Q σ2) ∧ (p3.toInt ≤ 100000 → ((p4.toInt < 0 → b_port_40 Q σ2) ∧ (0 ≤ p4.toInt → ((p4.toInt ≤ 100000 → (In p1 50 ∧ (((rd σ2 2 p1).toInt = 0 → (In p1 50 ∧ (In p1 50 ∧ (In p1 50 ∧ Q 0 (sa (sa (sa σ2 8 p1 p2) 9 p1 p3) 10 p1 p4))))) ∧ ((rd σ2 2 p1).toInt ≠ 0 → Q (-2) σ2)))) ∧ (100000 < p4.toInt → b_port_40 Q σ2))))))))))))))) p1 σ
theorem dX10_port_0 : decode cX10_port 0 = .ok (.aload_n 0, 1) := by decide +kernel
theorem dX10_port_1 : decode cX10_port 1 = .ok (.iload_n 1, 1) := by decide +kernel
theorem dX10_port_2 : decode cX10_port 2 = .ok (.invokevirtual 10, 3) := by decide +kernel
theorem dX10_port_5 : decode cX10_port 5 = .ok (.ifCond .eq 35, 3) := by decide +kernel
theorem dX10_port_8 : decode cX10_port 8 = .ok (.iload_n 2, 1) := by decide +kernel
theorem dX10_port_9 : decode cX10_port 9 = .ok (.ifCond .lt 31, 3) := by decide +kernel
theorem dX10_port_12 : decode cX10_port 12 = .ok (.iload_n 2, 1) := by decide +kernel
theorem dX10_port_13 : decode cX10_port 13 = .ok (.ldc 65, 2) := by decide +kernel
theorem dX10_port_15 : decode cX10_port 15 = .ok (.if_icmp .gt 25, 3) := by decide +kernel
theorem dX10_port_18 : decode cX10_port 18 = .ok (.iload_n 3, 1) := by decide +kernel
theorem dX10_port_19 : decode cX10_port 19 = .ok (.ifCond .lt 21, 3) := by decide +kernel
theorem dX10_port_22 : decode cX10_port 22 = .ok (.iload_n 3, 1) := by decide +kernel
theorem dX10_port_23 : decode cX10_port 23 = .ok (.ldc 65, 2) := by decide +kernel
theorem dX10_port_25 : decode cX10_port 25 = .ok (.if_icmp .gt 15, 3) := by decide +kernel
theorem dX10_port_28 : decode cX10_port 28 = .ok (.iload 4, 2) := by decide +kernel
theorem dX10_port_30 : decode cX10_port 30 = .ok (.ifCond .lt 10, 3) := by decide +kernel
theorem dX10_port_33 : decode cX10_port 33 = .ok (.iload 4, 2) := by decide +kernel
theorem dX10_port_35 : decode cX10_port 35 = .ok (.ldc 65, 2) := by decide +kernel
theorem dX10_port_37 : decode cX10_port 37 = .ok (.if_icmp .le 5, 3) := by decide +kernel
theorem dX10_port_42 : decode cX10_port 42 = .ok (.aload_n 0, 1) := by decide +kernel
theorem dX10_port_43 : decode cX10_port 43 = .ok (.getfield 18, 3) := by decide +kernel
theorem dX10_port_46 : decode cX10_port 46 = .ok (.iload_n 1, 1) := by decide +kernel
theorem dX10_port_47 : decode cX10_port 47 = .ok (.iaload, 1) := by decide +kernel
theorem dX10_port_48 : decode cX10_port 48 = .ok (.ifCond .eq 6, 3) := by decide +kernel
theorem dX10_port_54 : decode cX10_port 54 = .ok (.aload_n 0, 1) := by decide +kernel
theorem dX10_port_55 : decode cX10_port 55 = .ok (.getfield 33, 3) := by decide +kernel
theorem dX10_port_58 : decode cX10_port 58 = .ok (.iload_n 1, 1) := by decide +kernel
theorem dX10_port_59 : decode cX10_port 59 = .ok (.iload_n 2, 1) := by decide +kernel
theorem dX10_port_60 : decode cX10_port 60 = .ok (.iastore, 1) := by decide +kernel
theorem dX10_port_61 : decode cX10_port 61 = .ok (.aload_n 0, 1) := by decide +kernel
theorem dX10_port_62 : decode cX10_port 62 = .ok (.getfield 36, 3) := by decide +kernel
theorem dX10_port_65 : decode cX10_port 65 = .ok (.iload_n 1, 1) := by decide +kernel
theorem dX10_port_66 : decode cX10_port 66 = .ok (.iload_n 3, 1) := by decide +kernel
theorem dX10_port_67 : decode cX10_port 67 = .ok (.iastore, 1) := by decide +kernel
theorem dX10_port_68 : decode cX10_port 68 = .ok (.aload_n 0, 1) := by decide +kernel
theorem dX10_port_69 : decode cX10_port 69 = .ok (.getfield 39, 3) := by decide +kernel
theorem dX10_port_72 : decode cX10_port 72 = .ok (.iload_n 1, 1) := by decide +kernel
theorem dX10_port_73 : decode cX10_port 73 = .ok (.iload 4, 2) := by decide +kernel
theorem dX10_port_75 : decode cX10_port 75 = .ok (.iastore, 1) := by decide +kernel
theorem dX10_port_76 : decode cX10_port 76 = .ok (.iconst 0, 1) := by decide +kernel
theorem dX10_port_77 : decode cX10_port 77 = .ok (.ireturn, 1) := by decide +kernel
theorem dX10_port_51 : decode cX10_port 51 = .ok (.bipush (-2), 2) := by decide +kernel
theorem dX10_port_53 : decode cX10_port 53 = .ok (.ireturn, 1) := by decide +kernel
theorem dX10_port_40 : decode cX10_port 40 = .ok (.iconst (-1), 1) := by decide +kernel
theorem dX10_port_41 : decode cX10_port 41 = .ok (.ireturn, 1) := by decide +kernel
def wo_port : List Cond := [.code yX10_port cX10_port 5 (some .int), .methodLink RX10 10 yX10_isCell, .instanceMethod yX10_isCell, .selects RX10 yX10_isCell yX10_isCell, .initialized RX10, .constant RX10 65 100000]
def wr_port : List Cond := (wfX10 ++ (w_isCell ++ ([])))
def w_port : List Cond := wo_port ++ wr_port
theorem wg_port : GW w_port := GW_app (GW_of (by decide +kernel)) (GW_app (wg_fX10) (GW_app (wg_isCell) (GW_nil)))
theorem in_port : ∀ w ∈ wfX10, w ∈ w_port := fun _ h => List.mem_append_right _ (List.mem_append_left _ h)
theorem g_port_isCell_10 : GoodIn w_port (wsV RX10 10 RX10 yX10_isCell w_isCell) := goodIn_app (gi_left (goodIn_of _ (by decide +kernel))) (fun w h => ⟨List.mem_append_right _ (List.mem_append_right _ (List.mem_append_left _ h)), wg_isCell w h⟩)
set_option maxHeartbeats 4000000 in
set_option maxRecDepth 100000 in
theorem ct_port (l : Launch) (E : gE) (B : Nat → Nat) (Q : Int32 → VS → Prop) (p1 : Int32) (p2 : Int32) (p3 : Int32) (p4 : Int32) (σ : VS) (hw : wp_port Q p1 p2 p3 p4 σ) : CtI l E yX10_port w_port (({ frames := 1, cells := 0, slots := 0, locals := 21 } : Room)) (wm E B σ) [.ref (B 0), .int p1, .int p2, .int p3, .int p4] (fun r w => ∃ σ' : VS, Q r σ' ∧ w = wm E B σ') := by
  refine VC_I (cc := cX10_port) (mL := 5) (rt := (some .int)) (lv0 := [(0, .ref (B 0)), (1, .int p1), (2, .int p2), (3, .int p3), (4, .int p4)]) rfl (by decide) rfl (Nat.le_of_ble_eq_true rfl) ?_
  intro p e s m below meth c A F
  replace F : Fx p s m _ meth c A E cX10_port 5 (some .int) RX10 w_port := F
  have J_40 : ∀ (σ : VS), b_port_40 Q σ → WB p l e (({ frames := 1, cells := 0, slots := 0, locals := 21 } : Room)) s m (#[.ref (B 0), .int p1, .int p2, .int p3, .int p4]) below meth c (MQ below (va_Qi (fun r w => ∃ σ' : VS, Q r σ' ∧ w = wm E B σ') (AftU E A) A) (#[.ref (B 0), .int p1, .int p2, .int p3, .int p4]) s (({ frames := 1, cells := 0, slots := 0, locals := 21 } : Room)).cells (({ frames := 1, cells := 0, slots := 0, locals := 21 } : Room)).slots A) A E (wm E B) 5 40 [] [] σ := by
    intro σ hw
    unfold b_port_40 at hw
    refine R_iconst F (-1) dX10_port_40 (by decide) ?_
    exact R_iret (Qc := Q) F rfl dX10_port_41 hw
  unfold wp_port at hw
  refine R_aload_n F dX10_port_0 rfl 0 rfl ?_
  refine R_iload_n F dX10_port_1 rfl 1 rfl ?_
  refine R_callI (As := [.int p1]) (C := RX10) (q0 := 0) (ci := 10) (N := 69) (T := TX10) (fs := mfl B) F (ct_isCell l E B _ p1 _ hw) (cwV 1 F.2.2.2.2.2.2.2.2.2.2 g_port_isCell_10 rfl rfl rfl (by decide +kernel) ⟨Nat.le_of_ble_eq_true rfl, Nat.le_of_ble_eq_true rfl⟩) ⟨rfl, rfl⟩ rfl (fun _ => rfl) rfl rfl (Nat.le_of_ble_eq_true rfl) dX10_port_2 (fun r1 σ2 hw => ?_)
  refine R_if_eq (tgt := 40) F dX10_port_5 (by decide) (fun hc => ?_) (fun hc => ?_)
  · replace hw := hw.1 hc
    exact R_sub [] rfl (J_40 σ2 hw)
  · replace hw := hw.2 hc
    refine R_iload_n F dX10_port_8 rfl 2 rfl ?_
    refine R_if_lt (tgt := 40) F dX10_port_9 (by decide) (fun hc => ?_) (fun hc => ?_)
    · replace hw := hw.1 hc
      exact R_sub [] rfl (J_40 σ2 hw)
    · replace hw := hw.2 hc
      refine R_iload_n F dX10_port_12 rfl 2 rfl ?_
      refine R_ldc F 100000 (List.mem_append_left _ (show Cond.constant RX10 65 100000 ∈ wo_port by decide +kernel)) dX10_port_13 ?_
      refine R_icmp_gt (tgt := 40) F dX10_port_15 (by decide) (fun hc => ?_) (fun hc => ?_)
      · replace hw := hw.1 hc
        exact R_sub [] rfl (J_40 σ2 hw)
      · replace hw := hw.2 hc
        refine R_iload_n F dX10_port_18 rfl 3 rfl ?_
        refine R_if_lt (tgt := 40) F dX10_port_19 (by decide) (fun hc => ?_) (fun hc => ?_)
        · replace hw := hw.1 hc
          exact R_sub [] rfl (J_40 σ2 hw)
        · replace hw := hw.2 hc
          refine R_iload_n F dX10_port_22 rfl 3 rfl ?_
          refine R_ldc F 100000 (List.mem_append_left _ (show Cond.constant RX10 65 100000 ∈ wo_port by decide +kernel)) dX10_port_23 ?_
          refine R_icmp_gt (tgt := 40) F dX10_port_25 (by decide) (fun hc => ?_) (fun hc => ?_)
          · replace hw := hw.1 hc
            exact R_sub [] rfl (J_40 σ2 hw)
          · replace hw := hw.2 hc
            refine R_iload F dX10_port_28 4 rfl ?_
            refine R_if_lt (tgt := 40) F dX10_port_30 (by decide) (fun hc => ?_) (fun hc => ?_)
            · replace hw := hw.1 hc
              exact R_sub [] rfl (J_40 σ2 hw)
            · replace hw := hw.2 hc
              refine R_iload F dX10_port_33 4 rfl ?_
              refine R_ldc F 100000 (List.mem_append_left _ (show Cond.constant RX10 65 100000 ∈ wo_port by decide +kernel)) dX10_port_35 ?_
              refine R_icmp_le (tgt := 42) F dX10_port_37 (by decide) (fun hc => ?_) (fun hc => ?_)
              · replace hw := hw.1 hc
                refine R_aload_n F dX10_port_42 rfl 0 rfl ?_
                refine gm_2 F in_port dX10_port_43 ?_
                refine R_iload_n F dX10_port_46 rfl 1 rfl ?_
                refine R_ldi F qm_2 dX10_port_47 hw.1 ?_
                replace hw := hw.2
                refine R_if_eq (tgt := 54) F dX10_port_48 (by decide) (fun hc => ?_) (fun hc => ?_)
                · replace hw := hw.1 hc
                  refine R_aload_n F dX10_port_54 rfl 0 rfl ?_
                  refine gm_8 F in_port dX10_port_55 ?_
                  refine R_iload_n F dX10_port_58 rfl 1 rfl ?_
                  refine R_iload_n F dX10_port_59 rfl 2 rfl ?_
                  have hi := hw.1
                  replace hw := hw.2
                  refine R_sti F qm_8 um_8 dX10_port_60 hi ?_
                  refine R_aload_n F dX10_port_61 rfl 0 rfl ?_
                  refine gm_9 F in_port dX10_port_62 ?_
                  refine R_iload_n F dX10_port_65 rfl 1 rfl ?_
                  refine R_iload_n F dX10_port_66 rfl 3 rfl ?_
                  have hi := hw.1
                  replace hw := hw.2
                  refine R_sti F qm_9 um_9 dX10_port_67 hi ?_
                  refine R_aload_n F dX10_port_68 rfl 0 rfl ?_
                  refine gm_10 F in_port dX10_port_69 ?_
                  refine R_iload_n F dX10_port_72 rfl 1 rfl ?_
                  refine R_iload F dX10_port_73 4 rfl ?_
                  have hi := hw.1
                  replace hw := hw.2
                  refine R_sti F qm_10 um_10 dX10_port_75 hi ?_
                  refine R_iconst F 0 dX10_port_76 (by decide) ?_
                  exact R_iret (Qc := Q) F rfl dX10_port_77 hw
                · replace hw := hw.2 hc
                  refine R_bipush F (-2) dX10_port_51 (by decide) ?_
                  exact R_iret (Qc := Q) F rfl dX10_port_53 hw
              · replace hw := hw.2 hc
                exact R_sub [] rfl (J_40 σ2 hw)
def b_target_67 (Q : Int32 → VS → Prop) (l1 : Int32) (l2 : Int32) (l3 : Int32) (l4 : Int32) (σ : VS) : Prop := wp_isTarget (fun (r3 : Int32) (σ4 : VS) => ((r3.toInt ≠ 0 → (In l1 50 ∧ (In l1 50 ∧ (In l1 50 ∧ Q 0 (sa (sa (sa σ4 11 l1 l2) 12 l1 l3) 13 l1 l4))))) ∧ (r3.toInt = 0 → Q (-2) σ4))) l1 σ
def b_target_65 (Q : Int32 → VS → Prop) (σ : VS) : Prop := Q (-1) σ
def wp_target (Q : Int32 → VS → Prop) (p1 : Int32) (p2 : Int32) (p3 : Int32) (p4 : Int32) (σ : VS) : Prop := wp_isCell (fun (r1 : Int32) (σ2 : VS) => ((r1.toInt = 0 → b_target_65 Q σ2) ∧ (r1.toInt ≠ 0 → ((p2.toInt < (-1) → b_target_65 Q σ2) ∧ ((-1) ≤ p2.toInt → (((σ2.1 21).toInt ≤ p2.toInt → b_target_65 Q σ2) ∧ (p2.toInt < (σ2.1 21).toInt → ((p3.toInt < (-10000) → b_target_65 Q σ2) ∧ ((-10000) ≤ p3.toInt → ((10000 < p3.toInt → b_target_65 Q σ2) ∧ (p3.toInt ≤ 10000 → ((p4.toInt < (-10000) → b_target_65 Q σ2) ∧ ((-10000) ≤ p4.toInt → ((10000 < p4.toInt → b_target_65 Q σ2) ∧ (p4.toInt ≤ 10000 → (In p1 50 ∧ (((rd σ2 2 p1).toInt ≠ 5 → b_target_67 Q p1 p2 p3 p4 σ2) ∧ ((rd σ2 2 p1).toInt = 5 → ((p2.toInt < 0 → b_target_67 Q p1 p2 p3 p4 σ2) ∧ (0 ≤ p2.toInt → b_target_65 Q σ2)))))))))))))))))))) p1 σ
theorem dX10_target_0 : decode cX10_target 0 = .ok (.aload_n 0, 1) := by decide +kernel
theorem dX10_target_1 : decode cX10_target 1 = .ok (.iload_n 1, 1) := by decide +kernel
theorem dX10_target_2 : decode cX10_target 2 = .ok (.invokevirtual 10, 3) := by decide +kernel
theorem dX10_target_5 : decode cX10_target 5 = .ok (.ifCond .eq 60, 3) := by decide +kernel
theorem dX10_target_8 : decode cX10_target 8 = .ok (.iload_n 2, 1) := by decide +kernel
theorem dX10_target_9 : decode cX10_target 9 = .ok (.iconst (-1), 1) := by decide +kernel
theorem dX10_target_10 : decode cX10_target 10 = .ok (.if_icmp .lt 55, 3) := by decide +kernel
theorem dX10_target_13 : decode cX10_target 13 = .ok (.iload_n 2, 1) := by decide +kernel
theorem dX10_target_14 : decode cX10_target 14 = .ok (.aload_n 0, 1) := by decide +kernel
theorem dX10_target_15 : decode cX10_target 15 = .ok (.getfield 66, 3) := by decide +kernel
theorem dX10_target_18 : decode cX10_target 18 = .ok (.if_icmp .ge 47, 3) := by decide +kernel
theorem dX10_target_21 : decode cX10_target 21 = .ok (.iload_n 3, 1) := by decide +kernel
theorem dX10_target_22 : decode cX10_target 22 = .ok (.sipush (-10000), 3) := by decide +kernel
theorem dX10_target_25 : decode cX10_target 25 = .ok (.if_icmp .lt 40, 3) := by decide +kernel
theorem dX10_target_28 : decode cX10_target 28 = .ok (.iload_n 3, 1) := by decide +kernel
theorem dX10_target_29 : decode cX10_target 29 = .ok (.sipush 10000, 3) := by decide +kernel
theorem dX10_target_32 : decode cX10_target 32 = .ok (.if_icmp .gt 33, 3) := by decide +kernel
theorem dX10_target_35 : decode cX10_target 35 = .ok (.iload 4, 2) := by decide +kernel
theorem dX10_target_37 : decode cX10_target 37 = .ok (.sipush (-10000), 3) := by decide +kernel
theorem dX10_target_40 : decode cX10_target 40 = .ok (.if_icmp .lt 25, 3) := by decide +kernel
theorem dX10_target_43 : decode cX10_target 43 = .ok (.iload 4, 2) := by decide +kernel
theorem dX10_target_45 : decode cX10_target 45 = .ok (.sipush 10000, 3) := by decide +kernel
theorem dX10_target_48 : decode cX10_target 48 = .ok (.if_icmp .gt 17, 3) := by decide +kernel
theorem dX10_target_51 : decode cX10_target 51 = .ok (.aload_n 0, 1) := by decide +kernel
theorem dX10_target_52 : decode cX10_target 52 = .ok (.getfield 18, 3) := by decide +kernel
theorem dX10_target_55 : decode cX10_target 55 = .ok (.iload_n 1, 1) := by decide +kernel
theorem dX10_target_56 : decode cX10_target 56 = .ok (.iaload, 1) := by decide +kernel
theorem dX10_target_57 : decode cX10_target 57 = .ok (.iconst 5, 1) := by decide +kernel
theorem dX10_target_58 : decode cX10_target 58 = .ok (.if_icmp .ne 9, 3) := by decide +kernel
theorem dX10_target_61 : decode cX10_target 61 = .ok (.iload_n 2, 1) := by decide +kernel
theorem dX10_target_62 : decode cX10_target 62 = .ok (.ifCond .lt 5, 3) := by decide +kernel
theorem dX10_target_65 : decode cX10_target 65 = .ok (.iconst (-1), 1) := by decide +kernel
theorem dX10_target_66 : decode cX10_target 66 = .ok (.ireturn, 1) := by decide +kernel
theorem dX10_target_67 : decode cX10_target 67 = .ok (.aload_n 0, 1) := by decide +kernel
theorem dX10_target_68 : decode cX10_target 68 = .ok (.iload_n 1, 1) := by decide +kernel
theorem dX10_target_69 : decode cX10_target 69 = .ok (.invokevirtual 69, 3) := by decide +kernel
theorem dX10_target_72 : decode cX10_target 72 = .ok (.ifCond .ne 6, 3) := by decide +kernel
theorem dX10_target_78 : decode cX10_target 78 = .ok (.aload_n 0, 1) := by decide +kernel
theorem dX10_target_79 : decode cX10_target 79 = .ok (.getfield 42, 3) := by decide +kernel
theorem dX10_target_82 : decode cX10_target 82 = .ok (.iload_n 1, 1) := by decide +kernel
theorem dX10_target_83 : decode cX10_target 83 = .ok (.iload_n 2, 1) := by decide +kernel
theorem dX10_target_84 : decode cX10_target 84 = .ok (.iastore, 1) := by decide +kernel
theorem dX10_target_85 : decode cX10_target 85 = .ok (.aload_n 0, 1) := by decide +kernel
theorem dX10_target_86 : decode cX10_target 86 = .ok (.getfield 45, 3) := by decide +kernel
theorem dX10_target_89 : decode cX10_target 89 = .ok (.iload_n 1, 1) := by decide +kernel
theorem dX10_target_90 : decode cX10_target 90 = .ok (.iload_n 3, 1) := by decide +kernel
theorem dX10_target_91 : decode cX10_target 91 = .ok (.iastore, 1) := by decide +kernel
theorem dX10_target_92 : decode cX10_target 92 = .ok (.aload_n 0, 1) := by decide +kernel
theorem dX10_target_93 : decode cX10_target 93 = .ok (.getfield 48, 3) := by decide +kernel
theorem dX10_target_96 : decode cX10_target 96 = .ok (.iload_n 1, 1) := by decide +kernel
theorem dX10_target_97 : decode cX10_target 97 = .ok (.iload 4, 2) := by decide +kernel
theorem dX10_target_99 : decode cX10_target 99 = .ok (.iastore, 1) := by decide +kernel
theorem dX10_target_100 : decode cX10_target 100 = .ok (.iconst 0, 1) := by decide +kernel
theorem dX10_target_101 : decode cX10_target 101 = .ok (.ireturn, 1) := by decide +kernel
theorem dX10_target_75 : decode cX10_target 75 = .ok (.bipush (-2), 2) := by decide +kernel
theorem dX10_target_77 : decode cX10_target 77 = .ok (.ireturn, 1) := by decide +kernel
def wo_target : List Cond := [.code yX10_target cX10_target 5 (some .int), .methodLink RX10 10 yX10_isCell, .instanceMethod yX10_isCell, .selects RX10 yX10_isCell yX10_isCell, .initialized RX10, .methodLink RX10 69 yX10_isTarget, .instanceMethod yX10_isTarget, .selects RX10 yX10_isTarget yX10_isTarget]
def wr_target : List Cond := (wfX10 ++ (w_isCell ++ (w_isTarget ++ ([]))))
def w_target : List Cond := wo_target ++ wr_target
theorem wg_target : GW w_target := GW_app (GW_of (by decide +kernel)) (GW_app (wg_fX10) (GW_app (wg_isCell) (GW_app (wg_isTarget) (GW_nil))))
theorem in_target : ∀ w ∈ wfX10, w ∈ w_target := fun _ h => List.mem_append_right _ (List.mem_append_left _ h)
theorem g_target_isCell_10 : GoodIn w_target (wsV RX10 10 RX10 yX10_isCell w_isCell) := goodIn_app (gi_left (goodIn_of _ (by decide +kernel))) (fun w h => ⟨List.mem_append_right _ (List.mem_append_right _ (List.mem_append_left _ h)), wg_isCell w h⟩)
theorem g_target_isTarget_69 : GoodIn w_target (wsV RX10 69 RX10 yX10_isTarget w_isTarget) := goodIn_app (gi_left (goodIn_of _ (by decide +kernel))) (fun w h => ⟨List.mem_append_right _ (List.mem_append_right _ (List.mem_append_right _ (List.mem_append_left _ h))), wg_isTarget w h⟩)
set_option maxHeartbeats 4000000 in
set_option maxRecDepth 100000 in
theorem ct_target (l : Launch) (E : gE) (B : Nat → Nat) (Q : Int32 → VS → Prop) (p1 : Int32) (p2 : Int32) (p3 : Int32) (p4 : Int32) (σ : VS) (hw : wp_target Q p1 p2 p3 p4 σ) : CtI l E yX10_target w_target (({ frames := 1, cells := 0, slots := 0, locals := 21 } : Room)) (wm E B σ) [.ref (B 0), .int p1, .int p2, .int p3, .int p4] (fun r w => ∃ σ' : VS, Q r σ' ∧ w = wm E B σ') := by
  refine VC_I (cc := cX10_target) (mL := 5) (rt := (some .int)) (lv0 := [(0, .ref (B 0)), (1, .int p1), (2, .int p2), (3, .int p3), (4, .int p4)]) rfl (by decide) rfl (Nat.le_of_ble_eq_true rfl) ?_
  intro p e s m below meth c A F
  replace F : Fx p s m _ meth c A E cX10_target 5 (some .int) RX10 w_target := F
  have J_67 : ∀ (l1 : Int32) (l2 : Int32) (l3 : Int32) (l4 : Int32) (σ : VS), b_target_67 Q l1 l2 l3 l4 σ → WB p l e (({ frames := 1, cells := 0, slots := 0, locals := 21 } : Room)) s m (#[.ref (B 0), .int p1, .int p2, .int p3, .int p4]) below meth c (MQ below (va_Qi (fun r w => ∃ σ' : VS, Q r σ' ∧ w = wm E B σ') (AftU E A) A) (#[.ref (B 0), .int p1, .int p2, .int p3, .int p4]) s (({ frames := 1, cells := 0, slots := 0, locals := 21 } : Room)).cells (({ frames := 1, cells := 0, slots := 0, locals := 21 } : Room)).slots A) A E (wm E B) 5 67 [(0, .ref (B 0)), (1, .int l1), (2, .int l2), (3, .int l3), (4, .int l4)] [] σ := by
    intro l1 l2 l3 l4 σ hw
    unfold b_target_67 at hw
    refine R_aload_n F dX10_target_67 rfl 0 rfl ?_
    refine R_iload_n F dX10_target_68 rfl 1 rfl ?_
    refine R_callI (As := [.int l1]) (C := RX10) (q0 := 0) (ci := 10) (N := 69) (T := TX10) (fs := mfl B) F (ct_isTarget l E B _ l1 _ hw) (cwV 1 F.2.2.2.2.2.2.2.2.2.2 g_target_isTarget_69 rfl rfl rfl (by decide +kernel) ⟨Nat.le_of_ble_eq_true rfl, Nat.le_of_ble_eq_true rfl⟩) ⟨rfl, rfl⟩ rfl (fun _ => rfl) rfl rfl (Nat.le_of_ble_eq_true rfl) dX10_target_69 (fun r3 σ4 hw => ?_)
    refine R_if_ne (tgt := 78) F dX10_target_72 (by decide) (fun hc => ?_) (fun hc => ?_)
    · replace hw := hw.1 hc
      refine R_aload_n F dX10_target_78 rfl 0 rfl ?_
      refine gm_11 F in_target dX10_target_79 ?_
      refine R_iload_n F dX10_target_82 rfl 1 rfl ?_
      refine R_iload_n F dX10_target_83 rfl 2 rfl ?_
      have hi := hw.1
      replace hw := hw.2
      refine R_sti F qm_11 um_11 dX10_target_84 hi ?_
      refine R_aload_n F dX10_target_85 rfl 0 rfl ?_
      refine gm_12 F in_target dX10_target_86 ?_
      refine R_iload_n F dX10_target_89 rfl 1 rfl ?_
      refine R_iload_n F dX10_target_90 rfl 3 rfl ?_
      have hi := hw.1
      replace hw := hw.2
      refine R_sti F qm_12 um_12 dX10_target_91 hi ?_
      refine R_aload_n F dX10_target_92 rfl 0 rfl ?_
      refine gm_13 F in_target dX10_target_93 ?_
      refine R_iload_n F dX10_target_96 rfl 1 rfl ?_
      refine R_iload F dX10_target_97 4 rfl ?_
      have hi := hw.1
      replace hw := hw.2
      refine R_sti F qm_13 um_13 dX10_target_99 hi ?_
      refine R_iconst F 0 dX10_target_100 (by decide) ?_
      exact R_iret (Qc := Q) F rfl dX10_target_101 hw
    · replace hw := hw.2 hc
      refine R_bipush F (-2) dX10_target_75 (by decide) ?_
      exact R_iret (Qc := Q) F rfl dX10_target_77 hw
  have J_65 : ∀ (σ : VS), b_target_65 Q σ → WB p l e (({ frames := 1, cells := 0, slots := 0, locals := 21 } : Room)) s m (#[.ref (B 0), .int p1, .int p2, .int p3, .int p4]) below meth c (MQ below (va_Qi (fun r w => ∃ σ' : VS, Q r σ' ∧ w = wm E B σ') (AftU E A) A) (#[.ref (B 0), .int p1, .int p2, .int p3, .int p4]) s (({ frames := 1, cells := 0, slots := 0, locals := 21 } : Room)).cells (({ frames := 1, cells := 0, slots := 0, locals := 21 } : Room)).slots A) A E (wm E B) 5 65 [] [] σ := by
    intro σ hw
    unfold b_target_65 at hw
    refine R_iconst F (-1) dX10_target_65 (by decide) ?_
    exact R_iret (Qc := Q) F rfl dX10_target_66 hw
  unfold wp_target at hw
  refine R_aload_n F dX10_target_0 rfl 0 rfl ?_
  refine R_iload_n F dX10_target_1 rfl 1 rfl ?_
  refine R_callI (As := [.int p1]) (C := RX10) (q0 := 0) (ci := 10) (N := 69) (T := TX10) (fs := mfl B) F (ct_isCell l E B _ p1 _ hw) (cwV 1 F.2.2.2.2.2.2.2.2.2.2 g_target_isCell_10 rfl rfl rfl (by decide +kernel) ⟨Nat.le_of_ble_eq_true rfl, Nat.le_of_ble_eq_true rfl⟩) ⟨rfl, rfl⟩ rfl (fun _ => rfl) rfl rfl (Nat.le_of_ble_eq_true rfl) dX10_target_2 (fun r1 σ2 hw => ?_)
  refine R_if_eq (tgt := 65) F dX10_target_5 (by decide) (fun hc => ?_) (fun hc => ?_)
  · replace hw := hw.1 hc
    exact R_sub [] rfl (J_65 σ2 hw)
  · replace hw := hw.2 hc
    refine R_iload_n F dX10_target_8 rfl 2 rfl ?_
    refine R_iconst F (-1) dX10_target_9 (by decide) ?_
    refine R_icmp_lt (tgt := 65) F dX10_target_10 (by decide) (fun hc => ?_) (fun hc => ?_)
    · replace hw := hw.1 hc
      exact R_sub [] rfl (J_65 σ2 hw)
    · replace hw := hw.2 hc
      refine R_iload_n F dX10_target_13 rfl 2 rfl ?_
      refine R_aload_n F dX10_target_14 rfl 0 rfl ?_
      refine gm_21 F in_target dX10_target_15 ?_
      refine R_icmp_ge (tgt := 65) F dX10_target_18 (by decide) (fun hc => ?_) (fun hc => ?_)
      · replace hw := hw.1 hc
        exact R_sub [] rfl (J_65 σ2 hw)
      · replace hw := hw.2 hc
        refine R_iload_n F dX10_target_21 rfl 3 rfl ?_
        refine R_sipush F (-10000) dX10_target_22 (by decide) ?_
        refine R_icmp_lt (tgt := 65) F dX10_target_25 (by decide) (fun hc => ?_) (fun hc => ?_)
        · replace hw := hw.1 hc
          exact R_sub [] rfl (J_65 σ2 hw)
        · replace hw := hw.2 hc
          refine R_iload_n F dX10_target_28 rfl 3 rfl ?_
          refine R_sipush F 10000 dX10_target_29 (by decide) ?_
          refine R_icmp_gt (tgt := 65) F dX10_target_32 (by decide) (fun hc => ?_) (fun hc => ?_)
          · replace hw := hw.1 hc
            exact R_sub [] rfl (J_65 σ2 hw)
          · replace hw := hw.2 hc
            refine R_iload F dX10_target_35 4 rfl ?_
            refine R_sipush F (-10000) dX10_target_37 (by decide) ?_
            refine R_icmp_lt (tgt := 65) F dX10_target_40 (by decide) (fun hc => ?_) (fun hc => ?_)
            · replace hw := hw.1 hc
              exact R_sub [] rfl (J_65 σ2 hw)
            · replace hw := hw.2 hc
              refine R_iload F dX10_target_43 4 rfl ?_
              refine R_sipush F 10000 dX10_target_45 (by decide) ?_
              refine R_icmp_gt (tgt := 65) F dX10_target_48 (by decide) (fun hc => ?_) (fun hc => ?_)
              · replace hw := hw.1 hc
                exact R_sub [] rfl (J_65 σ2 hw)
              · replace hw := hw.2 hc
                refine R_aload_n F dX10_target_51 rfl 0 rfl ?_
                refine gm_2 F in_target dX10_target_52 ?_
                refine R_iload_n F dX10_target_55 rfl 1 rfl ?_
                refine R_ldi F qm_2 dX10_target_56 hw.1 ?_
                replace hw := hw.2
                refine R_iconst F 5 dX10_target_57 (by decide) ?_
                refine R_icmp_ne (tgt := 67) F dX10_target_58 (by decide) (fun hc => ?_) (fun hc => ?_)
                · replace hw := hw.1 hc
                  exact R_sub [0, 1, 2, 3, 4] rfl (J_67 p1 p2 p3 p4 σ2 hw)
                · replace hw := hw.2 hc
                  refine R_iload_n F dX10_target_61 rfl 2 rfl ?_
                  refine R_if_lt (tgt := 67) F dX10_target_62 (by decide) (fun hc => ?_) (fun hc => ?_)
                  · replace hw := hw.1 hc
                    exact R_sub [0, 1, 2, 3, 4] rfl (J_67 p1 p2 p3 p4 σ2 hw)
                  · replace hw := hw.2 hc
                    exact R_sub [] rfl (J_65 σ2 hw)
def b_entry_33 (Q : Int32 → VS → Prop) (σ : VS) : Prop := Q (-1) σ
def wp_entry (Q : Int32 → VS → Prop) (p1 : Int32) (p2 : Int32) (p3 : Int32) (p4 : Int32) (p5 : Int32) (σ : VS) : Prop := wp_isRow (fun (r1 : Int32) (σ2 : VS) => ((r1.toInt = 0 → b_entry_33 Q σ2) ∧ (r1.toInt ≠ 0 → ((p4.toInt < 0 → b_entry_33 Q σ2) ∧ (0 ≤ p4.toInt → ((2 < p4.toInt → b_entry_33 Q σ2) ∧ (p4.toInt ≤ 2 → ((p5.toInt < 0 → b_entry_33 Q σ2) ∧ (0 ≤ p5.toInt → ((p5.toInt ≤ 3000 → (∀ x3 : Int32, x3 = (((8 * p1) + (4 * p2)) + p3) → (In x3 64 ∧ (((rd σ2 16 x3).toInt ≠ 0 → (In x3 64 ∧ ((p4.toInt < (rd σ2 16 x3).toInt → (In ((3 * x3) + p4) 192 ∧ (∀ x4 : Int32, x4 = (rd σ2 15 ((3 * x3) + p4)) → (In ((3 * x3) + p4) 192 ∧ Q x4 (sa σ2 15 ((3 * x3) + p4) p5))))) ∧ ((rd σ2 16 x3).toInt ≤ p4.toInt → Q (-12) σ2)))) ∧ ((rd σ2 16 x3).toInt = 0 → Q (-11) σ2))))) ∧ (3000 < p5.toInt → b_entry_33 Q σ2))))))))))) p1 p2 p3 σ
theorem dX10_entry_0 : decode cX10_entry 0 = .ok (.iload_n 1, 1) := by decide +kernel
theorem dX10_entry_1 : decode cX10_entry 1 = .ok (.iload_n 2, 1) := by decide +kernel
theorem dX10_entry_2 : decode cX10_entry 2 = .ok (.iload_n 3, 1) := by decide +kernel
theorem dX10_entry_3 : decode cX10_entry 3 = .ok (.invokestatic 208, 3) := by decide +kernel
theorem dX10_entry_6 : decode cX10_entry 6 = .ok (.ifCond .eq 27, 3) := by decide +kernel
theorem dX10_entry_9 : decode cX10_entry 9 = .ok (.iload 4, 2) := by decide +kernel
theorem dX10_entry_11 : decode cX10_entry 11 = .ok (.ifCond .lt 22, 3) := by decide +kernel
theorem dX10_entry_14 : decode cX10_entry 14 = .ok (.iload 4, 2) := by decide +kernel
theorem dX10_entry_16 : decode cX10_entry 16 = .ok (.iconst 2, 1) := by decide +kernel
theorem dX10_entry_17 : decode cX10_entry 17 = .ok (.if_icmp .gt 16, 3) := by decide +kernel
theorem dX10_entry_20 : decode cX10_entry 20 = .ok (.iload 5, 2) := by decide +kernel
theorem dX10_entry_22 : decode cX10_entry 22 = .ok (.ifCond .lt 11, 3) := by decide +kernel
theorem dX10_entry_25 : decode cX10_entry 25 = .ok (.iload 5, 2) := by decide +kernel
theorem dX10_entry_27 : decode cX10_entry 27 = .ok (.sipush 3000, 3) := by decide +kernel
theorem dX10_entry_30 : decode cX10_entry 30 = .ok (.if_icmp .le 5, 3) := by decide +kernel
theorem dX10_entry_35 : decode cX10_entry 35 = .ok (.bipush 8, 2) := by decide +kernel
theorem dX10_entry_37 : decode cX10_entry 37 = .ok (.iload_n 1, 1) := by decide +kernel
theorem dX10_entry_38 : decode cX10_entry 38 = .ok (.imul, 1) := by decide +kernel
theorem dX10_entry_39 : decode cX10_entry 39 = .ok (.iconst 4, 1) := by decide +kernel
theorem dX10_entry_40 : decode cX10_entry 40 = .ok (.iload_n 2, 1) := by decide +kernel
theorem dX10_entry_41 : decode cX10_entry 41 = .ok (.imul, 1) := by decide +kernel
theorem dX10_entry_42 : decode cX10_entry 42 = .ok (.iadd, 1) := by decide +kernel
theorem dX10_entry_43 : decode cX10_entry 43 = .ok (.iload_n 3, 1) := by decide +kernel
theorem dX10_entry_44 : decode cX10_entry 44 = .ok (.iadd, 1) := by decide +kernel
theorem dX10_entry_45 : decode cX10_entry 45 = .ok (.istore 6, 2) := by decide +kernel
theorem dX10_entry_47 : decode cX10_entry 47 = .ok (.aload_n 0, 1) := by decide +kernel
theorem dX10_entry_48 : decode cX10_entry 48 = .ok (.getfield 81, 3) := by decide +kernel
theorem dX10_entry_51 : decode cX10_entry 51 = .ok (.iload 6, 2) := by decide +kernel
theorem dX10_entry_53 : decode cX10_entry 53 = .ok (.iaload, 1) := by decide +kernel
theorem dX10_entry_54 : decode cX10_entry 54 = .ok (.ifCond .ne 6, 3) := by decide +kernel
theorem dX10_entry_60 : decode cX10_entry 60 = .ok (.iload 4, 2) := by decide +kernel
theorem dX10_entry_62 : decode cX10_entry 62 = .ok (.aload_n 0, 1) := by decide +kernel
theorem dX10_entry_63 : decode cX10_entry 63 = .ok (.getfield 81, 3) := by decide +kernel
theorem dX10_entry_66 : decode cX10_entry 66 = .ok (.iload 6, 2) := by decide +kernel
theorem dX10_entry_68 : decode cX10_entry 68 = .ok (.iaload, 1) := by decide +kernel
theorem dX10_entry_69 : decode cX10_entry 69 = .ok (.if_icmp .lt 6, 3) := by decide +kernel
theorem dX10_entry_75 : decode cX10_entry 75 = .ok (.aload_n 0, 1) := by decide +kernel
theorem dX10_entry_76 : decode cX10_entry 76 = .ok (.getfield 78, 3) := by decide +kernel
theorem dX10_entry_79 : decode cX10_entry 79 = .ok (.iconst 3, 1) := by decide +kernel
theorem dX10_entry_80 : decode cX10_entry 80 = .ok (.iload 6, 2) := by decide +kernel
theorem dX10_entry_82 : decode cX10_entry 82 = .ok (.imul, 1) := by decide +kernel
theorem dX10_entry_83 : decode cX10_entry 83 = .ok (.iload 4, 2) := by decide +kernel
theorem dX10_entry_85 : decode cX10_entry 85 = .ok (.iadd, 1) := by decide +kernel
theorem dX10_entry_86 : decode cX10_entry 86 = .ok (.iaload, 1) := by decide +kernel
theorem dX10_entry_87 : decode cX10_entry 87 = .ok (.istore 7, 2) := by decide +kernel
theorem dX10_entry_89 : decode cX10_entry 89 = .ok (.aload_n 0, 1) := by decide +kernel
theorem dX10_entry_90 : decode cX10_entry 90 = .ok (.getfield 78, 3) := by decide +kernel
theorem dX10_entry_93 : decode cX10_entry 93 = .ok (.iconst 3, 1) := by decide +kernel
theorem dX10_entry_94 : decode cX10_entry 94 = .ok (.iload 6, 2) := by decide +kernel
theorem dX10_entry_96 : decode cX10_entry 96 = .ok (.imul, 1) := by decide +kernel
theorem dX10_entry_97 : decode cX10_entry 97 = .ok (.iload 4, 2) := by decide +kernel
theorem dX10_entry_99 : decode cX10_entry 99 = .ok (.iadd, 1) := by decide +kernel
theorem dX10_entry_100 : decode cX10_entry 100 = .ok (.iload 5, 2) := by decide +kernel
theorem dX10_entry_102 : decode cX10_entry 102 = .ok (.iastore, 1) := by decide +kernel
theorem dX10_entry_103 : decode cX10_entry 103 = .ok (.iload 7, 2) := by decide +kernel
theorem dX10_entry_105 : decode cX10_entry 105 = .ok (.ireturn, 1) := by decide +kernel
theorem dX10_entry_72 : decode cX10_entry 72 = .ok (.bipush (-12), 2) := by decide +kernel
theorem dX10_entry_74 : decode cX10_entry 74 = .ok (.ireturn, 1) := by decide +kernel
theorem dX10_entry_57 : decode cX10_entry 57 = .ok (.bipush (-11), 2) := by decide +kernel
theorem dX10_entry_59 : decode cX10_entry 59 = .ok (.ireturn, 1) := by decide +kernel
theorem dX10_entry_33 : decode cX10_entry 33 = .ok (.iconst (-1), 1) := by decide +kernel
theorem dX10_entry_34 : decode cX10_entry 34 = .ok (.ireturn, 1) := by decide +kernel
def wo_entry : List Cond := [.code yX10_entry cX10_entry 8 (some .int), .methodLink RX10 208 yX10_isRow, .static yX10_isRow, .initialized RX10]
def wr_entry : List Cond := (wfX10 ++ (w_isRow ++ ([])))
def w_entry : List Cond := wo_entry ++ wr_entry
theorem wg_entry : GW w_entry := GW_app (GW_of (by decide +kernel)) (GW_app (wg_fX10) (GW_app (wg_isRow) (GW_nil)))
theorem in_entry : ∀ w ∈ wfX10, w ∈ w_entry := fun _ h => List.mem_append_right _ (List.mem_append_left _ h)
theorem g_entry_isRow_208 : GoodIn w_entry (va_wsS RX10 208 yX10_isRow w_isRow) := goodIn_app (gi_left (goodIn_of _ (by decide +kernel))) (fun w h => ⟨List.mem_append_right _ (List.mem_append_right _ (List.mem_append_left _ h)), wg_isRow w h⟩)
set_option maxHeartbeats 4000000 in
set_option maxRecDepth 100000 in
theorem ct_entry (l : Launch) (E : gE) (B : Nat → Nat) (Q : Int32 → VS → Prop) (p1 : Int32) (p2 : Int32) (p3 : Int32) (p4 : Int32) (p5 : Int32) (σ : VS) (hw : wp_entry Q p1 p2 p3 p4 p5 σ) : CtI l E yX10_entry w_entry (({ frames := 1, cells := 0, slots := 0, locals := 22 } : Room)) (wm E B σ) [.ref (B 0), .int p1, .int p2, .int p3, .int p4, .int p5] (fun r w => ∃ σ' : VS, Q r σ' ∧ w = wm E B σ') := by
  refine VC_I (cc := cX10_entry) (mL := 8) (rt := (some .int)) (lv0 := [(0, .ref (B 0)), (1, .int p1), (2, .int p2), (3, .int p3), (4, .int p4), (5, .int p5)]) rfl (by decide) rfl (Nat.le_of_ble_eq_true rfl) ?_
  intro p e s m below meth c A F
  replace F : Fx p s m _ meth c A E cX10_entry 8 (some .int) RX10 w_entry := F
  have J_33 : ∀ (σ : VS), b_entry_33 Q σ → WB p l e (({ frames := 1, cells := 0, slots := 0, locals := 22 } : Room)) s m (#[.ref (B 0), .int p1, .int p2, .int p3, .int p4, .int p5]) below meth c (MQ below (va_Qi (fun r w => ∃ σ' : VS, Q r σ' ∧ w = wm E B σ') (AftU E A) A) (#[.ref (B 0), .int p1, .int p2, .int p3, .int p4, .int p5]) s (({ frames := 1, cells := 0, slots := 0, locals := 22 } : Room)).cells (({ frames := 1, cells := 0, slots := 0, locals := 22 } : Room)).slots A) A E (wm E B) 8 33 [] [] σ := by
    intro σ hw
    unfold b_entry_33 at hw
    refine R_iconst F (-1) dX10_entry_33 (by decide) ?_
    exact R_iret (Qc := Q) F rfl dX10_entry_34 hw
  unfold wp_entry at hw
  refine R_iload_n F dX10_entry_0 rfl 1 rfl ?_
  refine R_iload_n F dX10_entry_1 rfl 2 rfl ?_
  refine R_iload_n F dX10_entry_2 rfl 3 rfl ?_
  refine R_callIS (As := [.int p1, .int p2, .int p3]) (C := RX10) (q0 := 0) (ci := 10) (b := 0) (N := 69) (T := TX10) (fs := fun _ => []) F (ct_isRow l E B _ p1 p2 p3 _ hw) (va_cwS 3 F.2.2.2.2.2.2.2.2.2.2 g_entry_isRow_208 rfl rfl rfl (by decide +kernel) ⟨Nat.le_of_ble_eq_true rfl, Nat.le_of_ble_eq_true rfl⟩) ⟨rfl, rfl⟩ rfl rfl (Nat.le_of_ble_eq_true rfl) dX10_entry_3 (fun r1 σ2 hw => ?_)
  refine R_if_eq (tgt := 33) F dX10_entry_6 (by decide) (fun hc => ?_) (fun hc => ?_)
  · replace hw := hw.1 hc
    exact R_sub [] rfl (J_33 σ2 hw)
  · replace hw := hw.2 hc
    refine R_iload F dX10_entry_9 4 rfl ?_
    refine R_if_lt (tgt := 33) F dX10_entry_11 (by decide) (fun hc => ?_) (fun hc => ?_)
    · replace hw := hw.1 hc
      exact R_sub [] rfl (J_33 σ2 hw)
    · replace hw := hw.2 hc
      refine R_iload F dX10_entry_14 4 rfl ?_
      refine R_iconst F 2 dX10_entry_16 (by decide) ?_
      refine R_icmp_gt (tgt := 33) F dX10_entry_17 (by decide) (fun hc => ?_) (fun hc => ?_)
      · replace hw := hw.1 hc
        exact R_sub [] rfl (J_33 σ2 hw)
      · replace hw := hw.2 hc
        refine R_iload F dX10_entry_20 5 rfl ?_
        refine R_if_lt (tgt := 33) F dX10_entry_22 (by decide) (fun hc => ?_) (fun hc => ?_)
        · replace hw := hw.1 hc
          exact R_sub [] rfl (J_33 σ2 hw)
        · replace hw := hw.2 hc
          refine R_iload F dX10_entry_25 5 rfl ?_
          refine R_sipush F 3000 dX10_entry_27 (by decide) ?_
          refine R_icmp_le (tgt := 35) F dX10_entry_30 (by decide) (fun hc => ?_) (fun hc => ?_)
          · replace hw := hw.1 hc
            refine R_bipush F 8 dX10_entry_35 (by decide) ?_
            refine R_iload_n F dX10_entry_37 rfl 1 rfl ?_
            refine R_imul F dX10_entry_38 ?_
            refine R_iconst F 4 dX10_entry_39 (by decide) ?_
            refine R_iload_n F dX10_entry_40 rfl 2 rfl ?_
            refine R_imul F dX10_entry_41 ?_
            refine R_iadd F dX10_entry_42 ?_
            refine R_iload_n F dX10_entry_43 rfl 3 rfl ?_
            refine R_iadd F dX10_entry_44 ?_
            refine R_topi (fun x3 ex3 => ?_)
            replace hw := hw x3 ex3
            refine R_istore (lv' := [(6, .int x3), (0, .ref (B 0)), (1, .int p1), (2, .int p2), (3, .int p3), (4, .int p4), (5, .int p5)]) F dX10_entry_45 (by decide) rfl ?_
            refine R_aload_n F dX10_entry_47 rfl 1 rfl ?_
            refine gm_16 F in_entry dX10_entry_48 ?_
            refine R_iload F dX10_entry_51 0 rfl ?_
            refine R_ldi F qm_16 dX10_entry_53 hw.1 ?_
            replace hw := hw.2
            refine R_if_ne (tgt := 60) F dX10_entry_54 (by decide) (fun hc => ?_) (fun hc => ?_)
            · replace hw := hw.1 hc
              refine R_iload F dX10_entry_60 5 rfl ?_
              refine R_aload_n F dX10_entry_62 rfl 1 rfl ?_
              refine gm_16 F in_entry dX10_entry_63 ?_
              refine R_iload F dX10_entry_66 0 rfl ?_
              refine R_ldi F qm_16 dX10_entry_68 hw.1 ?_
              replace hw := hw.2
              refine R_icmp_lt (tgt := 75) F dX10_entry_69 (by decide) (fun hc => ?_) (fun hc => ?_)
              · replace hw := hw.1 hc
                refine R_aload_n F dX10_entry_75 rfl 1 rfl ?_
                refine gm_15 F in_entry dX10_entry_76 ?_
                refine R_iconst F 3 dX10_entry_79 (by decide) ?_
                refine R_iload F dX10_entry_80 0 rfl ?_
                refine R_imul F dX10_entry_82 ?_
                refine R_iload F dX10_entry_83 5 rfl ?_
                refine R_iadd F dX10_entry_85 ?_
                refine R_ldi F qm_15 dX10_entry_86 hw.1 ?_
                replace hw := hw.2
                refine R_topi (fun x4 ex4 => ?_)
                replace hw := hw x4 ex4
                refine R_istore (lv' := [(7, .int x4), (6, .int x3), (0, .ref (B 0)), (1, .int p1), (2, .int p2), (3, .int p3), (4, .int p4), (5, .int p5)]) F dX10_entry_87 (by decide) rfl ?_
                refine R_aload_n F dX10_entry_89 rfl 2 rfl ?_
                refine gm_15 F in_entry dX10_entry_90 ?_
                refine R_iconst F 3 dX10_entry_93 (by decide) ?_
                refine R_iload F dX10_entry_94 1 rfl ?_
                refine R_imul F dX10_entry_96 ?_
                refine R_iload F dX10_entry_97 6 rfl ?_
                refine R_iadd F dX10_entry_99 ?_
                refine R_iload F dX10_entry_100 7 rfl ?_
                have hi := hw.1
                replace hw := hw.2
                refine R_sti F qm_15 um_15 dX10_entry_102 hi ?_
                refine R_iload F dX10_entry_103 0 rfl ?_
                exact R_iret (Qc := Q) F rfl dX10_entry_105 hw
              · replace hw := hw.2 hc
                refine R_bipush F (-12) dX10_entry_72 (by decide) ?_
                exact R_iret (Qc := Q) F rfl dX10_entry_74 hw
            · replace hw := hw.2 hc
              refine R_bipush F (-11) dX10_entry_57 (by decide) ?_
              exact R_iret (Qc := Q) F rfl dX10_entry_59 hw
          · replace hw := hw.2 hc
            exact R_sub [] rfl (J_33 σ2 hw)
def b_tear_47 (X47 : Int32 → Int32 → Int32 → Int32 → VS → Prop) (Q : Int32 → VS → Prop) (l4 : Int32) (l5 : Int32) (l6 : Int32) (l7 : Int32) (σ : VS) : Prop := ((l4.toInt ≤ l7.toInt → (In l5 64 ∧ Q l6 (sa σ 16 l5 l4))) ∧ (l7.toInt < l4.toInt → (In ((3 * l5) + l7) 192 ∧ X47 l4 l5 l6 (l7 + 1) (sa σ 15 ((3 * l5) + l7) 10))))
def b_tear_20 (X47 : Int32 → Int32 → Int32 → Int32 → VS → Prop) (Q : Int32 → VS → Prop) (σ : VS) : Prop := Q (-1) σ
def wp_tear (Q : Int32 → VS → Prop) (p1 : Int32) (p2 : Int32) (p3 : Int32) (p4 : Int32) (σ : VS) : Prop := ∀ (X47 : Int32 → Int32 → Int32 → Int32 → VS → Prop), (∀ (l4 : Int32) (l5 : Int32) (l6 : Int32) (l7 : Int32) (σ : VS), b_tear_47 X47 Q l4 l5 l6 l7 σ → X47 l4 l5 l6 l7 σ) → wp_isRow (fun (r1 : Int32) (σ2 : VS) => ((r1.toInt = 0 → b_tear_20 X47 Q σ2) ∧ (r1.toInt ≠ 0 → ((p4.toInt < 0 → b_tear_20 X47 Q σ2) ∧ (0 ≤ p4.toInt → ((p4.toInt ≤ 3 → (∀ x3 : Int32, x3 = (((8 * p1) + (4 * p2)) + p3) → (In x3 64 ∧ (∀ x4 : Int32, x4 = (rd σ2 16 x3) → X47 p4 x3 x4 x4 σ2)))) ∧ (3 < p4.toInt → b_tear_20 X47 Q σ2))))))) p1 p2 p3 σ
theorem dX10_tear_0 : decode cX10_tear 0 = .ok (.iload_n 1, 1) := by decide +kernel
theorem dX10_tear_1 : decode cX10_tear 1 = .ok (.iload_n 2, 1) := by decide +kernel
theorem dX10_tear_2 : decode cX10_tear 2 = .ok (.iload_n 3, 1) := by decide +kernel
theorem dX10_tear_3 : decode cX10_tear 3 = .ok (.invokestatic 208, 3) := by decide +kernel
theorem dX10_tear_6 : decode cX10_tear 6 = .ok (.ifCond .eq 14, 3) := by decide +kernel
theorem dX10_tear_9 : decode cX10_tear 9 = .ok (.iload 4, 2) := by decide +kernel
theorem dX10_tear_11 : decode cX10_tear 11 = .ok (.ifCond .lt 9, 3) := by decide +kernel
theorem dX10_tear_14 : decode cX10_tear 14 = .ok (.iload 4, 2) := by decide +kernel
theorem dX10_tear_16 : decode cX10_tear 16 = .ok (.iconst 3, 1) := by decide +kernel
theorem dX10_tear_17 : decode cX10_tear 17 = .ok (.if_icmp .le 5, 3) := by decide +kernel
theorem dX10_tear_22 : decode cX10_tear 22 = .ok (.bipush 8, 2) := by decide +kernel
theorem dX10_tear_24 : decode cX10_tear 24 = .ok (.iload_n 1, 1) := by decide +kernel
theorem dX10_tear_25 : decode cX10_tear 25 = .ok (.imul, 1) := by decide +kernel
theorem dX10_tear_26 : decode cX10_tear 26 = .ok (.iconst 4, 1) := by decide +kernel
theorem dX10_tear_27 : decode cX10_tear 27 = .ok (.iload_n 2, 1) := by decide +kernel
theorem dX10_tear_28 : decode cX10_tear 28 = .ok (.imul, 1) := by decide +kernel
theorem dX10_tear_29 : decode cX10_tear 29 = .ok (.iadd, 1) := by decide +kernel
theorem dX10_tear_30 : decode cX10_tear 30 = .ok (.iload_n 3, 1) := by decide +kernel
theorem dX10_tear_31 : decode cX10_tear 31 = .ok (.iadd, 1) := by decide +kernel
theorem dX10_tear_32 : decode cX10_tear 32 = .ok (.istore 5, 2) := by decide +kernel
theorem dX10_tear_34 : decode cX10_tear 34 = .ok (.aload_n 0, 1) := by decide +kernel
theorem dX10_tear_35 : decode cX10_tear 35 = .ok (.getfield 81, 3) := by decide +kernel
theorem dX10_tear_38 : decode cX10_tear 38 = .ok (.iload 5, 2) := by decide +kernel
theorem dX10_tear_40 : decode cX10_tear 40 = .ok (.iaload, 1) := by decide +kernel
theorem dX10_tear_41 : decode cX10_tear 41 = .ok (.istore 6, 2) := by decide +kernel
theorem dX10_tear_43 : decode cX10_tear 43 = .ok (.iload 6, 2) := by decide +kernel
theorem dX10_tear_45 : decode cX10_tear 45 = .ok (.istore 7, 2) := by decide +kernel
theorem dX10_tear_20 : decode cX10_tear 20 = .ok (.iconst (-1), 1) := by decide +kernel
theorem dX10_tear_21 : decode cX10_tear 21 = .ok (.ireturn, 1) := by decide +kernel
theorem dX10_tear_47 : decode cX10_tear 47 = .ok (.iload 7, 2) := by decide +kernel
theorem dX10_tear_49 : decode cX10_tear 49 = .ok (.iload 4, 2) := by decide +kernel
theorem dX10_tear_51 : decode cX10_tear 51 = .ok (.if_icmp .ge 23, 3) := by decide +kernel
theorem dX10_tear_74 : decode cX10_tear 74 = .ok (.aload_n 0, 1) := by decide +kernel
theorem dX10_tear_75 : decode cX10_tear 75 = .ok (.getfield 81, 3) := by decide +kernel
theorem dX10_tear_78 : decode cX10_tear 78 = .ok (.iload 5, 2) := by decide +kernel
theorem dX10_tear_80 : decode cX10_tear 80 = .ok (.iload 4, 2) := by decide +kernel
theorem dX10_tear_82 : decode cX10_tear 82 = .ok (.iastore, 1) := by decide +kernel
theorem dX10_tear_83 : decode cX10_tear 83 = .ok (.iload 6, 2) := by decide +kernel
theorem dX10_tear_85 : decode cX10_tear 85 = .ok (.ireturn, 1) := by decide +kernel
theorem dX10_tear_54 : decode cX10_tear 54 = .ok (.aload_n 0, 1) := by decide +kernel
theorem dX10_tear_55 : decode cX10_tear 55 = .ok (.getfield 78, 3) := by decide +kernel
theorem dX10_tear_58 : decode cX10_tear 58 = .ok (.iconst 3, 1) := by decide +kernel
theorem dX10_tear_59 : decode cX10_tear 59 = .ok (.iload 5, 2) := by decide +kernel
theorem dX10_tear_61 : decode cX10_tear 61 = .ok (.imul, 1) := by decide +kernel
theorem dX10_tear_62 : decode cX10_tear 62 = .ok (.iload 7, 2) := by decide +kernel
theorem dX10_tear_64 : decode cX10_tear 64 = .ok (.iadd, 1) := by decide +kernel
theorem dX10_tear_65 : decode cX10_tear 65 = .ok (.bipush 10, 2) := by decide +kernel
theorem dX10_tear_67 : decode cX10_tear 67 = .ok (.iastore, 1) := by decide +kernel
theorem dX10_tear_68 : decode cX10_tear 68 = .ok (.iinc 7 1, 3) := by decide +kernel
theorem dX10_tear_71 : decode cX10_tear 71 = .ok (.goto (-24), 3) := by decide +kernel
def wo_tear : List Cond := [.code yX10_tear cX10_tear 8 (some .int), .methodLink RX10 208 yX10_isRow, .static yX10_isRow, .initialized RX10]
def wr_tear : List Cond := (wfX10 ++ (w_isRow ++ ([])))
def w_tear : List Cond := wo_tear ++ wr_tear
theorem wg_tear : GW w_tear := GW_app (GW_of (by decide +kernel)) (GW_app (wg_fX10) (GW_app (wg_isRow) (GW_nil)))
theorem in_tear : ∀ w ∈ wfX10, w ∈ w_tear := fun _ h => List.mem_append_right _ (List.mem_append_left _ h)
theorem g_tear_isRow_208 : GoodIn w_tear (va_wsS RX10 208 yX10_isRow w_isRow) := goodIn_app (gi_left (goodIn_of _ (by decide +kernel))) (fun w h => ⟨List.mem_append_right _ (List.mem_append_right _ (List.mem_append_left _ h)), wg_isRow w h⟩)
set_option maxHeartbeats 4000000 in
set_option maxRecDepth 100000 in
theorem ct_tear (l : Launch) (E : gE) (B : Nat → Nat) (Q : Int32 → VS → Prop) (p1 : Int32) (p2 : Int32) (p3 : Int32) (p4 : Int32) (σ : VS) (hw : wp_tear Q p1 p2 p3 p4 σ) : CtI l E yX10_tear w_tear (({ frames := 1, cells := 0, slots := 0, locals := 22 } : Room)) (wm E B σ) [.ref (B 0), .int p1, .int p2, .int p3, .int p4] (fun r w => ∃ σ' : VS, Q r σ' ∧ w = wm E B σ') := by
  refine VC_I (cc := cX10_tear) (mL := 8) (rt := (some .int)) (lv0 := [(0, .ref (B 0)), (1, .int p1), (2, .int p2), (3, .int p3), (4, .int p4)]) rfl (by decide) rfl (Nat.le_of_ble_eq_true rfl) ?_
  intro p e s m below meth c A F
  replace F : Fx p s m _ meth c A E cX10_tear 8 (some .int) RX10 w_tear := F
  obtain ⟨X47, hX47⟩ : ∃ X : Int32 → Int32 → Int32 → Int32 → VS → Prop, X = fun l4 l5 l6 l7 σ => WB p l e (({ frames := 1, cells := 0, slots := 0, locals := 22 } : Room)) s m (#[.ref (B 0), .int p1, .int p2, .int p3, .int p4]) below meth c (MQ below (va_Qi (fun r w => ∃ σ' : VS, Q r σ' ∧ w = wm E B σ') (AftU E A) A) (#[.ref (B 0), .int p1, .int p2, .int p3, .int p4]) s (({ frames := 1, cells := 0, slots := 0, locals := 22 } : Room)).cells (({ frames := 1, cells := 0, slots := 0, locals := 22 } : Room)).slots A) A E (wm E B) 8 47 [(0, .ref (B 0)), (4, .int l4), (5, .int l5), (6, .int l6), (7, .int l7)] [] σ := ⟨_, rfl⟩
  have U_47 : ∀ (l4 : Int32) (l5 : Int32) (l6 : Int32) (l7 : Int32) (σ : VS), X47 l4 l5 l6 l7 σ → WB p l e (({ frames := 1, cells := 0, slots := 0, locals := 22 } : Room)) s m (#[.ref (B 0), .int p1, .int p2, .int p3, .int p4]) below meth c (MQ below (va_Qi (fun r w => ∃ σ' : VS, Q r σ' ∧ w = wm E B σ') (AftU E A) A) (#[.ref (B 0), .int p1, .int p2, .int p3, .int p4]) s (({ frames := 1, cells := 0, slots := 0, locals := 22 } : Room)).cells (({ frames := 1, cells := 0, slots := 0, locals := 22 } : Room)).slots A) A E (wm E B) 8 47 [(0, .ref (B 0)), (4, .int l4), (5, .int l5), (6, .int l6), (7, .int l7)] [] σ := by
    intro l4 l5 l6 l7 σ hw; rw [hX47] at hw; exact hw
  have J_20 : ∀ (σ : VS), b_tear_20 X47 Q σ → WB p l e (({ frames := 1, cells := 0, slots := 0, locals := 22 } : Room)) s m (#[.ref (B 0), .int p1, .int p2, .int p3, .int p4]) below meth c (MQ below (va_Qi (fun r w => ∃ σ' : VS, Q r σ' ∧ w = wm E B σ') (AftU E A) A) (#[.ref (B 0), .int p1, .int p2, .int p3, .int p4]) s (({ frames := 1, cells := 0, slots := 0, locals := 22 } : Room)).cells (({ frames := 1, cells := 0, slots := 0, locals := 22 } : Room)).slots A) A E (wm E B) 8 20 [] [] σ := by
    intro σ hw
    unfold b_tear_20 at hw
    refine R_iconst F (-1) dX10_tear_20 (by decide) ?_
    exact R_iret (Qc := Q) F rfl dX10_tear_21 hw
  have C_47 : ∀ (l4 : Int32) (l5 : Int32) (l6 : Int32) (l7 : Int32) (σ : VS), b_tear_47 X47 Q l4 l5 l6 l7 σ → X47 l4 l5 l6 l7 σ := by
    intro l4 l5 l6 l7 σ hw
    unfold b_tear_47 at hw
    rw [hX47]
    show WB p l e (({ frames := 1, cells := 0, slots := 0, locals := 22 } : Room)) s m (#[.ref (B 0), .int p1, .int p2, .int p3, .int p4]) below meth c (MQ below (va_Qi (fun r w => ∃ σ' : VS, Q r σ' ∧ w = wm E B σ') (AftU E A) A) (#[.ref (B 0), .int p1, .int p2, .int p3, .int p4]) s (({ frames := 1, cells := 0, slots := 0, locals := 22 } : Room)).cells (({ frames := 1, cells := 0, slots := 0, locals := 22 } : Room)).slots A) A E (wm E B) 8 47 [(0, .ref (B 0)), (4, .int l4), (5, .int l5), (6, .int l6), (7, .int l7)] [] σ
    refine R_iload F dX10_tear_47 4 rfl ?_
    refine R_iload F dX10_tear_49 1 rfl ?_
    refine R_icmp_ge (tgt := 74) F dX10_tear_51 (by decide) (fun hc => ?_) (fun hc => ?_)
    · replace hw := hw.1 hc
      refine R_aload_n F dX10_tear_74 rfl 0 rfl ?_
      refine gm_16 F in_tear dX10_tear_75 ?_
      refine R_iload F dX10_tear_78 2 rfl ?_
      refine R_iload F dX10_tear_80 1 rfl ?_
      have hi := hw.1
      replace hw := hw.2
      refine R_sti F qm_16 um_16 dX10_tear_82 hi ?_
      refine R_iload F dX10_tear_83 3 rfl ?_
      exact R_iret (Qc := Q) F rfl dX10_tear_85 hw
    · replace hw := hw.2 hc
      refine R_aload_n F dX10_tear_54 rfl 0 rfl ?_
      refine gm_15 F in_tear dX10_tear_55 ?_
      refine R_iconst F 3 dX10_tear_58 (by decide) ?_
      refine R_iload F dX10_tear_59 2 rfl ?_
      refine R_imul F dX10_tear_61 ?_
      refine R_iload F dX10_tear_62 4 rfl ?_
      refine R_iadd F dX10_tear_64 ?_
      refine R_bipush F 10 dX10_tear_65 (by decide) ?_
      have hi := hw.1
      replace hw := hw.2
      refine R_sti F qm_15 um_15 dX10_tear_67 hi ?_
      refine R_iinc (q := 4) (v := (l7 + 1)) (lv' := [(7, .int (l7 + 1)), (0, .ref (B 0)), (4, .int l4), (5, .int l5), (6, .int l6)]) F dX10_tear_68 rfl rfl (by decide) rfl ?_
      refine R_goto (tgt := 47) F dX10_tear_71 (by decide) ?_
      exact R_sub [1, 2, 3, 4, 0] rfl (U_47 l4 l5 l6 (l7 + 1) (sa σ 15 ((3 * l5) + l7) 10) hw)
  unfold wp_tear at hw
  replace hw := hw X47 C_47
  refine R_iload_n F dX10_tear_0 rfl 1 rfl ?_
  refine R_iload_n F dX10_tear_1 rfl 2 rfl ?_
  refine R_iload_n F dX10_tear_2 rfl 3 rfl ?_
  refine R_callIS (As := [.int p1, .int p2, .int p3]) (C := RX10) (q0 := 0) (ci := 10) (b := 0) (N := 69) (T := TX10) (fs := fun _ => []) F (ct_isRow l E B _ p1 p2 p3 _ hw) (va_cwS 3 F.2.2.2.2.2.2.2.2.2.2 g_tear_isRow_208 rfl rfl rfl (by decide +kernel) ⟨Nat.le_of_ble_eq_true rfl, Nat.le_of_ble_eq_true rfl⟩) ⟨rfl, rfl⟩ rfl rfl (Nat.le_of_ble_eq_true rfl) dX10_tear_3 (fun r1 σ2 hw => ?_)
  refine R_if_eq (tgt := 20) F dX10_tear_6 (by decide) (fun hc => ?_) (fun hc => ?_)
  · replace hw := hw.1 hc
    exact R_sub [] rfl (J_20 σ2 hw)
  · replace hw := hw.2 hc
    refine R_iload F dX10_tear_9 4 rfl ?_
    refine R_if_lt (tgt := 20) F dX10_tear_11 (by decide) (fun hc => ?_) (fun hc => ?_)
    · replace hw := hw.1 hc
      exact R_sub [] rfl (J_20 σ2 hw)
    · replace hw := hw.2 hc
      refine R_iload F dX10_tear_14 4 rfl ?_
      refine R_iconst F 3 dX10_tear_16 (by decide) ?_
      refine R_icmp_le (tgt := 22) F dX10_tear_17 (by decide) (fun hc => ?_) (fun hc => ?_)
      · replace hw := hw.1 hc
        refine R_bipush F 8 dX10_tear_22 (by decide) ?_
        refine R_iload_n F dX10_tear_24 rfl 1 rfl ?_
        refine R_imul F dX10_tear_25 ?_
        refine R_iconst F 4 dX10_tear_26 (by decide) ?_
        refine R_iload_n F dX10_tear_27 rfl 2 rfl ?_
        refine R_imul F dX10_tear_28 ?_
        refine R_iadd F dX10_tear_29 ?_
        refine R_iload_n F dX10_tear_30 rfl 3 rfl ?_
        refine R_iadd F dX10_tear_31 ?_
        refine R_topi (fun x3 ex3 => ?_)
        replace hw := hw x3 ex3
        refine R_istore (lv' := [(5, .int x3), (0, .ref (B 0)), (1, .int p1), (2, .int p2), (3, .int p3), (4, .int p4)]) F dX10_tear_32 (by decide) rfl ?_
        refine R_aload_n F dX10_tear_34 rfl 1 rfl ?_
        refine gm_16 F in_tear dX10_tear_35 ?_
        refine R_iload F dX10_tear_38 0 rfl ?_
        refine R_ldi F qm_16 dX10_tear_40 hw.1 ?_
        replace hw := hw.2
        refine R_topi (fun x4 ex4 => ?_)
        replace hw := hw x4 ex4
        refine R_istore (lv' := [(6, .int x4), (5, .int x3), (0, .ref (B 0)), (1, .int p1), (2, .int p2), (3, .int p3), (4, .int p4)]) F dX10_tear_41 (by decide) rfl ?_
        refine R_iload F dX10_tear_43 0 rfl ?_
        refine R_istore (lv' := [(7, .int x4), (6, .int x4), (5, .int x3), (0, .ref (B 0)), (1, .int p1), (2, .int p2), (3, .int p3), (4, .int p4)]) F dX10_tear_45 (by decide) rfl ?_
        exact R_sub [3, 7, 2, 1, 0] rfl (U_47 p4 x3 x4 x4 σ2 hw)
      · replace hw := hw.2 hc
        exact R_sub [] rfl (J_20 σ2 hw)
def b_fall_21 (Q : Int32 → VS → Prop) (σ : VS) : Prop := Q (-1) σ
def wp_fall (Q : Int32 → VS → Prop) (p1 : Int32) (p2 : Int32) (σ : VS) : Prop := ((p1.toInt < 0 → b_fall_21 Q σ) ∧ (0 ≤ p1.toInt → ((7 < p1.toInt → b_fall_21 Q σ) ∧ (p1.toInt ≤ 7 → ((p2.toInt < 0 → b_fall_21 Q σ) ∧ (0 ≤ p2.toInt → ((p2.toInt ≤ 1000 → (In p1 8 ∧ (∀ x1 : Int32, x1 = (rd σ 17 p1) → (In p1 8 ∧ Q x1 (sa σ 17 p1 p2))))) ∧ (1000 < p2.toInt → b_fall_21 Q σ))))))))
theorem dX10_fall_0 : decode cX10_fall 0 = .ok (.iload_n 1, 1) := by decide +kernel
theorem dX10_fall_1 : decode cX10_fall 1 = .ok (.ifCond .lt 20, 3) := by decide +kernel
theorem dX10_fall_4 : decode cX10_fall 4 = .ok (.iload_n 1, 1) := by decide +kernel
theorem dX10_fall_5 : decode cX10_fall 5 = .ok (.bipush 7, 2) := by decide +kernel
theorem dX10_fall_7 : decode cX10_fall 7 = .ok (.if_icmp .gt 14, 3) := by decide +kernel
theorem dX10_fall_10 : decode cX10_fall 10 = .ok (.iload_n 2, 1) := by decide +kernel
theorem dX10_fall_11 : decode cX10_fall 11 = .ok (.ifCond .lt 10, 3) := by decide +kernel
theorem dX10_fall_14 : decode cX10_fall 14 = .ok (.iload_n 2, 1) := by decide +kernel
theorem dX10_fall_15 : decode cX10_fall 15 = .ok (.sipush 1000, 3) := by decide +kernel
theorem dX10_fall_18 : decode cX10_fall 18 = .ok (.if_icmp .le 5, 3) := by decide +kernel
theorem dX10_fall_23 : decode cX10_fall 23 = .ok (.aload_n 0, 1) := by decide +kernel
theorem dX10_fall_24 : decode cX10_fall 24 = .ok (.getfield 84, 3) := by decide +kernel
theorem dX10_fall_27 : decode cX10_fall 27 = .ok (.iload_n 1, 1) := by decide +kernel
theorem dX10_fall_28 : decode cX10_fall 28 = .ok (.iaload, 1) := by decide +kernel
theorem dX10_fall_29 : decode cX10_fall 29 = .ok (.istore_n 3, 1) := by decide +kernel
theorem dX10_fall_30 : decode cX10_fall 30 = .ok (.aload_n 0, 1) := by decide +kernel
theorem dX10_fall_31 : decode cX10_fall 31 = .ok (.getfield 84, 3) := by decide +kernel
theorem dX10_fall_34 : decode cX10_fall 34 = .ok (.iload_n 1, 1) := by decide +kernel
theorem dX10_fall_35 : decode cX10_fall 35 = .ok (.iload_n 2, 1) := by decide +kernel
theorem dX10_fall_36 : decode cX10_fall 36 = .ok (.iastore, 1) := by decide +kernel
theorem dX10_fall_37 : decode cX10_fall 37 = .ok (.iload_n 3, 1) := by decide +kernel
theorem dX10_fall_38 : decode cX10_fall 38 = .ok (.ireturn, 1) := by decide +kernel
theorem dX10_fall_21 : decode cX10_fall 21 = .ok (.iconst (-1), 1) := by decide +kernel
theorem dX10_fall_22 : decode cX10_fall 22 = .ok (.ireturn, 1) := by decide +kernel
def wo_fall : List Cond := [.code yX10_fall cX10_fall 4 (some .int)]
def wr_fall : List Cond := (wfX10 ++ ([]))
def w_fall : List Cond := wo_fall ++ wr_fall
theorem wg_fall : GW w_fall := GW_app (GW_of (by decide +kernel)) (GW_app (wg_fX10) (GW_nil))
theorem in_fall : ∀ w ∈ wfX10, w ∈ w_fall := fun _ h => List.mem_append_right _ (List.mem_append_left _ h)
set_option maxHeartbeats 4000000 in
set_option maxRecDepth 100000 in
theorem ct_fall (l : Launch) (E : gE) (B : Nat → Nat) (Q : Int32 → VS → Prop) (p1 : Int32) (p2 : Int32) (σ : VS) (hw : wp_fall Q p1 p2 σ) : CtI l E yX10_fall w_fall (({ frames := 0, cells := 0, slots := 0, locals := 0 } : Room)) (wm E B σ) [.ref (B 0), .int p1, .int p2] (fun r w => ∃ σ' : VS, Q r σ' ∧ w = wm E B σ') := by
  refine VC_I (cc := cX10_fall) (mL := 4) (rt := (some .int)) (lv0 := [(0, .ref (B 0)), (1, .int p1), (2, .int p2)]) rfl (by decide) rfl (Nat.le_of_ble_eq_true rfl) ?_
  intro p e s m below meth c A F
  replace F : Fx p s m _ meth c A E cX10_fall 4 (some .int) RX10 w_fall := F
  have J_21 : ∀ (σ : VS), b_fall_21 Q σ → WB p l e (({ frames := 0, cells := 0, slots := 0, locals := 0 } : Room)) s m (#[.ref (B 0), .int p1, .int p2]) below meth c (MQ below (va_Qi (fun r w => ∃ σ' : VS, Q r σ' ∧ w = wm E B σ') (AftU E A) A) (#[.ref (B 0), .int p1, .int p2]) s (({ frames := 0, cells := 0, slots := 0, locals := 0 } : Room)).cells (({ frames := 0, cells := 0, slots := 0, locals := 0 } : Room)).slots A) A E (wm E B) 4 21 [] [] σ := by
    intro σ hw
    unfold b_fall_21 at hw
    refine R_iconst F (-1) dX10_fall_21 (by decide) ?_
    exact R_iret (Qc := Q) F rfl dX10_fall_22 hw
  unfold wp_fall at hw
  refine R_iload_n F dX10_fall_0 rfl 1 rfl ?_
  refine R_if_lt (tgt := 21) F dX10_fall_1 (by decide) (fun hc => ?_) (fun hc => ?_)
  · replace hw := hw.1 hc
    exact R_sub [] rfl (J_21 σ hw)
  · replace hw := hw.2 hc
    refine R_iload_n F dX10_fall_4 rfl 1 rfl ?_
    refine R_bipush F 7 dX10_fall_5 (by decide) ?_
    refine R_icmp_gt (tgt := 21) F dX10_fall_7 (by decide) (fun hc => ?_) (fun hc => ?_)
    · replace hw := hw.1 hc
      exact R_sub [] rfl (J_21 σ hw)
    · replace hw := hw.2 hc
      refine R_iload_n F dX10_fall_10 rfl 2 rfl ?_
      refine R_if_lt (tgt := 21) F dX10_fall_11 (by decide) (fun hc => ?_) (fun hc => ?_)
      · replace hw := hw.1 hc
        exact R_sub [] rfl (J_21 σ hw)
      · replace hw := hw.2 hc
        refine R_iload_n F dX10_fall_14 rfl 2 rfl ?_
        refine R_sipush F 1000 dX10_fall_15 (by decide) ?_
        refine R_icmp_le (tgt := 23) F dX10_fall_18 (by decide) (fun hc => ?_) (fun hc => ?_)
        · replace hw := hw.1 hc
          refine R_aload_n F dX10_fall_23 rfl 0 rfl ?_
          refine gm_17 F in_fall dX10_fall_24 ?_
          refine R_iload_n F dX10_fall_27 rfl 1 rfl ?_
          refine R_ldi F qm_17 dX10_fall_28 hw.1 ?_
          replace hw := hw.2
          refine R_topi (fun x1 ex1 => ?_)
          replace hw := hw x1 ex1
          refine R_istore_n (lv' := [(3, .int x1), (0, .ref (B 0)), (1, .int p1), (2, .int p2)]) F dX10_fall_29 rfl (by decide) rfl ?_
          refine R_aload_n F dX10_fall_30 rfl 1 rfl ?_
          refine gm_17 F in_fall dX10_fall_31 ?_
          refine R_iload_n F dX10_fall_34 rfl 2 rfl ?_
          refine R_iload_n F dX10_fall_35 rfl 3 rfl ?_
          have hi := hw.1
          replace hw := hw.2
          refine R_sti F qm_17 um_17 dX10_fall_36 hi ?_
          refine R_iload_n F dX10_fall_37 rfl 0 rfl ?_
          exact R_iret (Qc := Q) F rfl dX10_fall_38 hw
        · replace hw := hw.2 hc
          exact R_sub [] rfl (J_21 σ hw)
def b_corner_22 (Q : Int32 → VS → Prop) (σ : VS) : Prop := Q (-1) σ
def wp_corner (Q : Int32 → VS → Prop) (p1 : Int32) (p2 : Int32) (σ : VS) : Prop := ((p1.toInt < 0 → b_corner_22 Q σ) ∧ (0 ≤ p1.toInt → ((500 < p1.toInt → b_corner_22 Q σ) ∧ (p1.toInt ≤ 500 → ((p2.toInt < 0 → b_corner_22 Q σ) ∧ (0 ≤ p2.toInt → ((p2.toInt ≤ 500 → Q 0 (sf (sf σ 18 p1) 19 p2)) ∧ (500 < p2.toInt → b_corner_22 Q σ))))))))
theorem dX10_corner_0 : decode cX10_corner 0 = .ok (.iload_n 1, 1) := by decide +kernel
theorem dX10_corner_1 : decode cX10_corner 1 = .ok (.ifCond .lt 21, 3) := by decide +kernel
theorem dX10_corner_4 : decode cX10_corner 4 = .ok (.iload_n 1, 1) := by decide +kernel
theorem dX10_corner_5 : decode cX10_corner 5 = .ok (.sipush 500, 3) := by decide +kernel
theorem dX10_corner_8 : decode cX10_corner 8 = .ok (.if_icmp .gt 14, 3) := by decide +kernel
theorem dX10_corner_11 : decode cX10_corner 11 = .ok (.iload_n 2, 1) := by decide +kernel
theorem dX10_corner_12 : decode cX10_corner 12 = .ok (.ifCond .lt 10, 3) := by decide +kernel
theorem dX10_corner_15 : decode cX10_corner 15 = .ok (.iload_n 2, 1) := by decide +kernel
theorem dX10_corner_16 : decode cX10_corner 16 = .ok (.sipush 500, 3) := by decide +kernel
theorem dX10_corner_19 : decode cX10_corner 19 = .ok (.if_icmp .le 5, 3) := by decide +kernel
theorem dX10_corner_24 : decode cX10_corner 24 = .ok (.aload_n 0, 1) := by decide +kernel
theorem dX10_corner_25 : decode cX10_corner 25 = .ok (.iload_n 1, 1) := by decide +kernel
theorem dX10_corner_26 : decode cX10_corner 26 = .ok (.putfield 212, 3) := by decide +kernel
theorem dX10_corner_29 : decode cX10_corner 29 = .ok (.aload_n 0, 1) := by decide +kernel
theorem dX10_corner_30 : decode cX10_corner 30 = .ok (.iload_n 2, 1) := by decide +kernel
theorem dX10_corner_31 : decode cX10_corner 31 = .ok (.putfield 215, 3) := by decide +kernel
theorem dX10_corner_34 : decode cX10_corner 34 = .ok (.iconst 0, 1) := by decide +kernel
theorem dX10_corner_35 : decode cX10_corner 35 = .ok (.ireturn, 1) := by decide +kernel
theorem dX10_corner_22 : decode cX10_corner 22 = .ok (.iconst (-1), 1) := by decide +kernel
theorem dX10_corner_23 : decode cX10_corner 23 = .ok (.ireturn, 1) := by decide +kernel
def wo_corner : List Cond := [.code yX10_corner cX10_corner 3 (some .int)]
def wr_corner : List Cond := (wfX10 ++ ([]))
def w_corner : List Cond := wo_corner ++ wr_corner
theorem wg_corner : GW w_corner := GW_app (GW_of (by decide +kernel)) (GW_app (wg_fX10) (GW_nil))
theorem in_corner : ∀ w ∈ wfX10, w ∈ w_corner := fun _ h => List.mem_append_right _ (List.mem_append_left _ h)
set_option maxHeartbeats 4000000 in
set_option maxRecDepth 100000 in
theorem ct_corner (l : Launch) (E : gE) (B : Nat → Nat) (Q : Int32 → VS → Prop) (p1 : Int32) (p2 : Int32) (σ : VS) (hw : wp_corner Q p1 p2 σ) : CtI l E yX10_corner w_corner (({ frames := 0, cells := 0, slots := 0, locals := 0 } : Room)) (wm E B σ) [.ref (B 0), .int p1, .int p2] (fun r w => ∃ σ' : VS, Q r σ' ∧ w = wm E B σ') := by
  refine VC_I (cc := cX10_corner) (mL := 3) (rt := (some .int)) (lv0 := [(0, .ref (B 0)), (1, .int p1), (2, .int p2)]) rfl (by decide) rfl (Nat.le_of_ble_eq_true rfl) ?_
  intro p e s m below meth c A F
  replace F : Fx p s m _ meth c A E cX10_corner 3 (some .int) RX10 w_corner := F
  have J_22 : ∀ (σ : VS), b_corner_22 Q σ → WB p l e (({ frames := 0, cells := 0, slots := 0, locals := 0 } : Room)) s m (#[.ref (B 0), .int p1, .int p2]) below meth c (MQ below (va_Qi (fun r w => ∃ σ' : VS, Q r σ' ∧ w = wm E B σ') (AftU E A) A) (#[.ref (B 0), .int p1, .int p2]) s (({ frames := 0, cells := 0, slots := 0, locals := 0 } : Room)).cells (({ frames := 0, cells := 0, slots := 0, locals := 0 } : Room)).slots A) A E (wm E B) 3 22 [] [] σ := by
    intro σ hw
    unfold b_corner_22 at hw
    refine R_iconst F (-1) dX10_corner_22 (by decide) ?_
    exact R_iret (Qc := Q) F rfl dX10_corner_23 hw
  unfold wp_corner at hw
  refine R_iload_n F dX10_corner_0 rfl 1 rfl ?_
  refine R_if_lt (tgt := 22) F dX10_corner_1 (by decide) (fun hc => ?_) (fun hc => ?_)
  · replace hw := hw.1 hc
    exact R_sub [] rfl (J_22 σ hw)
  · replace hw := hw.2 hc
    refine R_iload_n F dX10_corner_4 rfl 1 rfl ?_
    refine R_sipush F 500 dX10_corner_5 (by decide) ?_
    refine R_icmp_gt (tgt := 22) F dX10_corner_8 (by decide) (fun hc => ?_) (fun hc => ?_)
    · replace hw := hw.1 hc
      exact R_sub [] rfl (J_22 σ hw)
    · replace hw := hw.2 hc
      refine R_iload_n F dX10_corner_11 rfl 2 rfl ?_
      refine R_if_lt (tgt := 22) F dX10_corner_12 (by decide) (fun hc => ?_) (fun hc => ?_)
      · replace hw := hw.1 hc
        exact R_sub [] rfl (J_22 σ hw)
      · replace hw := hw.2 hc
        refine R_iload_n F dX10_corner_15 rfl 2 rfl ?_
        refine R_sipush F 500 dX10_corner_16 (by decide) ?_
        refine R_icmp_le (tgt := 24) F dX10_corner_19 (by decide) (fun hc => ?_) (fun hc => ?_)
        · replace hw := hw.1 hc
          refine R_aload_n F dX10_corner_24 rfl 0 rfl ?_
          refine R_iload_n F dX10_corner_25 rfl 1 rfl ?_
          refine pm_18 F in_corner dX10_corner_26 ?_
          refine R_aload_n F dX10_corner_29 rfl 0 rfl ?_
          refine R_iload_n F dX10_corner_30 rfl 2 rfl ?_
          refine pm_19 F in_corner dX10_corner_31 ?_
          refine R_iconst F 0 dX10_corner_34 (by decide) ?_
          exact R_iret (Qc := Q) F rfl dX10_corner_35 hw
        · replace hw := hw.2 hc
          exact R_sub [] rfl (J_22 σ hw)
def b_period_11 (Q : Int32 → VS → Prop) (σ : VS) : Prop := Q (-1) σ
def wp_period (Q : Int32 → VS → Prop) (p1 : Int32) (σ : VS) : Prop := ((p1.toInt < 1 → b_period_11 Q σ) ∧ (1 ≤ p1.toInt → ((p1.toInt ≤ 1000000 → (∀ x1 : Int32, x1 = (σ.1 20) → Q x1 (sf σ 20 p1))) ∧ (1000000 < p1.toInt → b_period_11 Q σ))))
theorem dX10_period_0 : decode cX10_period 0 = .ok (.iload_n 1, 1) := by decide +kernel
theorem dX10_period_1 : decode cX10_period 1 = .ok (.iconst 1, 1) := by decide +kernel
theorem dX10_period_2 : decode cX10_period 2 = .ok (.if_icmp .lt 9, 3) := by decide +kernel
theorem dX10_period_5 : decode cX10_period 5 = .ok (.iload_n 1, 1) := by decide +kernel
theorem dX10_period_6 : decode cX10_period 6 = .ok (.ldc 218, 2) := by decide +kernel
theorem dX10_period_8 : decode cX10_period 8 = .ok (.if_icmp .le 5, 3) := by decide +kernel
theorem dX10_period_13 : decode cX10_period 13 = .ok (.aload_n 0, 1) := by decide +kernel
theorem dX10_period_14 : decode cX10_period 14 = .ok (.getfield 87, 3) := by decide +kernel
theorem dX10_period_17 : decode cX10_period 17 = .ok (.istore_n 2, 1) := by decide +kernel
theorem dX10_period_18 : decode cX10_period 18 = .ok (.aload_n 0, 1) := by decide +kernel
theorem dX10_period_19 : decode cX10_period 19 = .ok (.iload_n 1, 1) := by decide +kernel
theorem dX10_period_20 : decode cX10_period 20 = .ok (.putfield 87, 3) := by decide +kernel
theorem dX10_period_23 : decode cX10_period 23 = .ok (.iload_n 2, 1) := by decide +kernel
theorem dX10_period_24 : decode cX10_period 24 = .ok (.ireturn, 1) := by decide +kernel
theorem dX10_period_11 : decode cX10_period 11 = .ok (.iconst (-1), 1) := by decide +kernel
theorem dX10_period_12 : decode cX10_period 12 = .ok (.ireturn, 1) := by decide +kernel
def wo_period : List Cond := [.code yX10_period cX10_period 3 (some .int), .constant RX10 218 1000000]
def wr_period : List Cond := (wfX10 ++ ([]))
def w_period : List Cond := wo_period ++ wr_period
theorem wg_period : GW w_period := GW_app (GW_of (by decide +kernel)) (GW_app (wg_fX10) (GW_nil))
theorem in_period : ∀ w ∈ wfX10, w ∈ w_period := fun _ h => List.mem_append_right _ (List.mem_append_left _ h)
set_option maxHeartbeats 4000000 in
set_option maxRecDepth 100000 in
theorem ct_period (l : Launch) (E : gE) (B : Nat → Nat) (Q : Int32 → VS → Prop) (p1 : Int32) (σ : VS) (hw : wp_period Q p1 σ) : CtI l E yX10_period w_period (({ frames := 0, cells := 0, slots := 0, locals := 0 } : Room)) (wm E B σ) [.ref (B 0), .int p1] (fun r w => ∃ σ' : VS, Q r σ' ∧ w = wm E B σ') := by
  refine VC_I (cc := cX10_period) (mL := 3) (rt := (some .int)) (lv0 := [(0, .ref (B 0)), (1, .int p1)]) rfl (by decide) rfl (Nat.le_of_ble_eq_true rfl) ?_
  intro p e s m below meth c A F
  replace F : Fx p s m _ meth c A E cX10_period 3 (some .int) RX10 w_period := F
  have J_11 : ∀ (σ : VS), b_period_11 Q σ → WB p l e (({ frames := 0, cells := 0, slots := 0, locals := 0 } : Room)) s m (#[.ref (B 0), .int p1]) below meth c (MQ below (va_Qi (fun r w => ∃ σ' : VS, Q r σ' ∧ w = wm E B σ') (AftU E A) A) (#[.ref (B 0), .int p1]) s (({ frames := 0, cells := 0, slots := 0, locals := 0 } : Room)).cells (({ frames := 0, cells := 0, slots := 0, locals := 0 } : Room)).slots A) A E (wm E B) 3 11 [] [] σ := by
    intro σ hw
    unfold b_period_11 at hw
    refine R_iconst F (-1) dX10_period_11 (by decide) ?_
    exact R_iret (Qc := Q) F rfl dX10_period_12 hw
  unfold wp_period at hw
  refine R_iload_n F dX10_period_0 rfl 1 rfl ?_
  refine R_iconst F 1 dX10_period_1 (by decide) ?_
  refine R_icmp_lt (tgt := 11) F dX10_period_2 (by decide) (fun hc => ?_) (fun hc => ?_)
  · replace hw := hw.1 hc
    exact R_sub [] rfl (J_11 σ hw)
  · replace hw := hw.2 hc
    refine R_iload_n F dX10_period_5 rfl 1 rfl ?_
    refine R_ldc F 1000000 (List.mem_append_left _ (show Cond.constant RX10 218 1000000 ∈ wo_period by decide +kernel)) dX10_period_6 ?_
    refine R_icmp_le (tgt := 13) F dX10_period_8 (by decide) (fun hc => ?_) (fun hc => ?_)
    · replace hw := hw.1 hc
      refine R_aload_n F dX10_period_13 rfl 0 rfl ?_
      refine gm_20 F in_period dX10_period_14 ?_
      refine R_topi (fun x1 ex1 => ?_)
      replace hw := hw x1 ex1
      refine R_istore_n (lv' := [(2, .int x1), (0, .ref (B 0)), (1, .int p1)]) F dX10_period_17 rfl (by decide) rfl ?_
      refine R_aload_n F dX10_period_18 rfl 1 rfl ?_
      refine R_iload_n F dX10_period_19 rfl 2 rfl ?_
      refine pm_20 F in_period dX10_period_20 ?_
      refine R_iload_n F dX10_period_23 rfl 0 rfl ?_
      exact R_iret (Qc := Q) F rfl dX10_period_24 hw
    · replace hw := hw.2 hc
      exact R_sub [] rfl (J_11 σ hw)
def b_node_28 (Q : Int32 → VS → Prop) (σ : VS) : Prop := Q (-1) σ
def wp_node (Q : Int32 → VS → Prop) (p1 : Int32) (p2 : Int32) (p3 : Int32) (σ : VS) : Prop := ((p1.toInt < (-1) → b_node_28 Q σ) ∧ ((-1) ≤ p1.toInt → (((σ.1 21).toInt ≤ p1.toInt → b_node_28 Q σ) ∧ (p1.toInt < (σ.1 21).toInt → ((p2.toInt < 0 → b_node_28 Q σ) ∧ (0 ≤ p2.toInt → ((p3.toInt < p2.toInt → b_node_28 Q σ) ∧ (p2.toInt ≤ p3.toInt → ((p3.toInt ≤ 100000 → (((σ.1 21).toInt ≠ 20 → (In (σ.1 21) 20 ∧ (In ((sa σ 22 (σ.1 21) p1).1 21) 20 ∧ (In ((sa (sa σ 22 (σ.1 21) p1) 23 ((sa σ 22 (σ.1 21) p1).1 21) p2).1 21) 20 ∧ Q (((sf (sa (sa (sa σ 22 (σ.1 21) p1) 23 ((sa σ 22 (σ.1 21) p1).1 21) p2) 24 ((sa (sa σ 22 (σ.1 21) p1) 23 ((sa σ 22 (σ.1 21) p1).1 21) p2).1 21) p3) 21 (((sa (sa (sa σ 22 (σ.1 21) p1) 23 ((sa σ 22 (σ.1 21) p1).1 21) p2) 24 ((sa (sa σ 22 (σ.1 21) p1) 23 ((sa σ 22 (σ.1 21) p1).1 21) p2).1 21) p3).1 21) + 1)).1 21) - 1) (sf (sa (sa (sa σ 22 (σ.1 21) p1) 23 ((sa σ 22 (σ.1 21) p1).1 21) p2) 24 ((sa (sa σ 22 (σ.1 21) p1) 23 ((sa σ 22 (σ.1 21) p1).1 21) p2).1 21) p3) 21 (((sa (sa (sa σ 22 (σ.1 21) p1) 23 ((sa σ 22 (σ.1 21) p1).1 21) p2) 24 ((sa (sa σ 22 (σ.1 21) p1) 23 ((sa σ 22 (σ.1 21) p1).1 21) p2).1 21) p3).1 21) + 1)))))) ∧ ((σ.1 21).toInt = 20 → Q (-3) σ))) ∧ (100000 < p3.toInt → b_node_28 Q σ))))))))))
theorem dX10_node_0 : decode cX10_node 0 = .ok (.iload_n 1, 1) := by decide +kernel
theorem dX10_node_1 : decode cX10_node 1 = .ok (.iconst (-1), 1) := by decide +kernel
theorem dX10_node_2 : decode cX10_node 2 = .ok (.if_icmp .lt 26, 3) := by decide +kernel
theorem dX10_node_5 : decode cX10_node 5 = .ok (.iload_n 1, 1) := by decide +kernel
theorem dX10_node_6 : decode cX10_node 6 = .ok (.aload_n 0, 1) := by decide +kernel
theorem dX10_node_7 : decode cX10_node 7 = .ok (.getfield 66, 3) := by decide +kernel
theorem dX10_node_10 : decode cX10_node 10 = .ok (.if_icmp .ge 18, 3) := by decide +kernel
theorem dX10_node_13 : decode cX10_node 13 = .ok (.iload_n 2, 1) := by decide +kernel
theorem dX10_node_14 : decode cX10_node 14 = .ok (.ifCond .lt 14, 3) := by decide +kernel
theorem dX10_node_17 : decode cX10_node 17 = .ok (.iload_n 2, 1) := by decide +kernel
theorem dX10_node_18 : decode cX10_node 18 = .ok (.iload_n 3, 1) := by decide +kernel
theorem dX10_node_19 : decode cX10_node 19 = .ok (.if_icmp .gt 9, 3) := by decide +kernel
theorem dX10_node_22 : decode cX10_node 22 = .ok (.iload_n 3, 1) := by decide +kernel
theorem dX10_node_23 : decode cX10_node 23 = .ok (.ldc 65, 2) := by decide +kernel
theorem dX10_node_25 : decode cX10_node 25 = .ok (.if_icmp .le 5, 3) := by decide +kernel
theorem dX10_node_30 : decode cX10_node 30 = .ok (.aload_n 0, 1) := by decide +kernel
theorem dX10_node_31 : decode cX10_node 31 = .ok (.getfield 66, 3) := by decide +kernel
theorem dX10_node_34 : decode cX10_node 34 = .ok (.bipush 20, 2) := by decide +kernel
theorem dX10_node_36 : decode cX10_node 36 = .ok (.if_icmp .ne 6, 3) := by decide +kernel
theorem dX10_node_42 : decode cX10_node 42 = .ok (.aload_n 0, 1) := by decide +kernel
theorem dX10_node_43 : decode cX10_node 43 = .ok (.getfield 90, 3) := by decide +kernel
theorem dX10_node_46 : decode cX10_node 46 = .ok (.aload_n 0, 1) := by decide +kernel
theorem dX10_node_47 : decode cX10_node 47 = .ok (.getfield 66, 3) := by decide +kernel
theorem dX10_node_50 : decode cX10_node 50 = .ok (.iload_n 1, 1) := by decide +kernel
theorem dX10_node_51 : decode cX10_node 51 = .ok (.iastore, 1) := by decide +kernel
theorem dX10_node_52 : decode cX10_node 52 = .ok (.aload_n 0, 1) := by decide +kernel
theorem dX10_node_53 : decode cX10_node 53 = .ok (.getfield 93, 3) := by decide +kernel
theorem dX10_node_56 : decode cX10_node 56 = .ok (.aload_n 0, 1) := by decide +kernel
theorem dX10_node_57 : decode cX10_node 57 = .ok (.getfield 66, 3) := by decide +kernel
theorem dX10_node_60 : decode cX10_node 60 = .ok (.iload_n 2, 1) := by decide +kernel
theorem dX10_node_61 : decode cX10_node 61 = .ok (.iastore, 1) := by decide +kernel
theorem dX10_node_62 : decode cX10_node 62 = .ok (.aload_n 0, 1) := by decide +kernel
theorem dX10_node_63 : decode cX10_node 63 = .ok (.getfield 96, 3) := by decide +kernel
theorem dX10_node_66 : decode cX10_node 66 = .ok (.aload_n 0, 1) := by decide +kernel
theorem dX10_node_67 : decode cX10_node 67 = .ok (.getfield 66, 3) := by decide +kernel
theorem dX10_node_70 : decode cX10_node 70 = .ok (.iload_n 3, 1) := by decide +kernel
theorem dX10_node_71 : decode cX10_node 71 = .ok (.iastore, 1) := by decide +kernel
theorem dX10_node_72 : decode cX10_node 72 = .ok (.aload_n 0, 1) := by decide +kernel
theorem dX10_node_73 : decode cX10_node 73 = .ok (.dup, 1) := by decide +kernel
theorem dX10_node_74 : decode cX10_node 74 = .ok (.getfield 66, 3) := by decide +kernel
theorem dX10_node_77 : decode cX10_node 77 = .ok (.iconst 1, 1) := by decide +kernel
theorem dX10_node_78 : decode cX10_node 78 = .ok (.iadd, 1) := by decide +kernel
theorem dX10_node_79 : decode cX10_node 79 = .ok (.putfield 66, 3) := by decide +kernel
theorem dX10_node_82 : decode cX10_node 82 = .ok (.aload_n 0, 1) := by decide +kernel
theorem dX10_node_83 : decode cX10_node 83 = .ok (.getfield 66, 3) := by decide +kernel
theorem dX10_node_86 : decode cX10_node 86 = .ok (.iconst 1, 1) := by decide +kernel
theorem dX10_node_87 : decode cX10_node 87 = .ok (.isub, 1) := by decide +kernel
theorem dX10_node_88 : decode cX10_node 88 = .ok (.ireturn, 1) := by decide +kernel
theorem dX10_node_39 : decode cX10_node 39 = .ok (.bipush (-3), 2) := by decide +kernel
theorem dX10_node_41 : decode cX10_node 41 = .ok (.ireturn, 1) := by decide +kernel
theorem dX10_node_28 : decode cX10_node 28 = .ok (.iconst (-1), 1) := by decide +kernel
theorem dX10_node_29 : decode cX10_node 29 = .ok (.ireturn, 1) := by decide +kernel
def wo_node : List Cond := [.code yX10_node cX10_node 4 (some .int), .constant RX10 65 100000]
def wr_node : List Cond := (wfX10 ++ ([]))
def w_node : List Cond := wo_node ++ wr_node
theorem wg_node : GW w_node := GW_app (GW_of (by decide +kernel)) (GW_app (wg_fX10) (GW_nil))
theorem in_node : ∀ w ∈ wfX10, w ∈ w_node := fun _ h => List.mem_append_right _ (List.mem_append_left _ h)
set_option maxHeartbeats 4000000 in
set_option maxRecDepth 100000 in
theorem ct_node (l : Launch) (E : gE) (B : Nat → Nat) (Q : Int32 → VS → Prop) (p1 : Int32) (p2 : Int32) (p3 : Int32) (σ : VS) (hw : wp_node Q p1 p2 p3 σ) : CtI l E yX10_node w_node (({ frames := 0, cells := 0, slots := 0, locals := 0 } : Room)) (wm E B σ) [.ref (B 0), .int p1, .int p2, .int p3] (fun r w => ∃ σ' : VS, Q r σ' ∧ w = wm E B σ') := by
  refine VC_I (cc := cX10_node) (mL := 4) (rt := (some .int)) (lv0 := [(0, .ref (B 0)), (1, .int p1), (2, .int p2), (3, .int p3)]) rfl (by decide) rfl (Nat.le_of_ble_eq_true rfl) ?_
  intro p e s m below meth c A F
  replace F : Fx p s m _ meth c A E cX10_node 4 (some .int) RX10 w_node := F
  have J_28 : ∀ (σ : VS), b_node_28 Q σ → WB p l e (({ frames := 0, cells := 0, slots := 0, locals := 0 } : Room)) s m (#[.ref (B 0), .int p1, .int p2, .int p3]) below meth c (MQ below (va_Qi (fun r w => ∃ σ' : VS, Q r σ' ∧ w = wm E B σ') (AftU E A) A) (#[.ref (B 0), .int p1, .int p2, .int p3]) s (({ frames := 0, cells := 0, slots := 0, locals := 0 } : Room)).cells (({ frames := 0, cells := 0, slots := 0, locals := 0 } : Room)).slots A) A E (wm E B) 4 28 [] [] σ := by
    intro σ hw
    unfold b_node_28 at hw
    refine R_iconst F (-1) dX10_node_28 (by decide) ?_
    exact R_iret (Qc := Q) F rfl dX10_node_29 hw
  unfold wp_node at hw
  refine R_iload_n F dX10_node_0 rfl 1 rfl ?_
  refine R_iconst F (-1) dX10_node_1 (by decide) ?_
  refine R_icmp_lt (tgt := 28) F dX10_node_2 (by decide) (fun hc => ?_) (fun hc => ?_)
  · replace hw := hw.1 hc
    exact R_sub [] rfl (J_28 σ hw)
  · replace hw := hw.2 hc
    refine R_iload_n F dX10_node_5 rfl 1 rfl ?_
    refine R_aload_n F dX10_node_6 rfl 0 rfl ?_
    refine gm_21 F in_node dX10_node_7 ?_
    refine R_icmp_ge (tgt := 28) F dX10_node_10 (by decide) (fun hc => ?_) (fun hc => ?_)
    · replace hw := hw.1 hc
      exact R_sub [] rfl (J_28 σ hw)
    · replace hw := hw.2 hc
      refine R_iload_n F dX10_node_13 rfl 2 rfl ?_
      refine R_if_lt (tgt := 28) F dX10_node_14 (by decide) (fun hc => ?_) (fun hc => ?_)
      · replace hw := hw.1 hc
        exact R_sub [] rfl (J_28 σ hw)
      · replace hw := hw.2 hc
        refine R_iload_n F dX10_node_17 rfl 2 rfl ?_
        refine R_iload_n F dX10_node_18 rfl 3 rfl ?_
        refine R_icmp_gt (tgt := 28) F dX10_node_19 (by decide) (fun hc => ?_) (fun hc => ?_)
        · replace hw := hw.1 hc
          exact R_sub [] rfl (J_28 σ hw)
        · replace hw := hw.2 hc
          refine R_iload_n F dX10_node_22 rfl 3 rfl ?_
          refine R_ldc F 100000 (List.mem_append_left _ (show Cond.constant RX10 65 100000 ∈ wo_node by decide +kernel)) dX10_node_23 ?_
          refine R_icmp_le (tgt := 30) F dX10_node_25 (by decide) (fun hc => ?_) (fun hc => ?_)
          · replace hw := hw.1 hc
            refine R_aload_n F dX10_node_30 rfl 0 rfl ?_
            refine gm_21 F in_node dX10_node_31 ?_
            refine R_bipush F 20 dX10_node_34 (by decide) ?_
            refine R_icmp_ne (tgt := 42) F dX10_node_36 (by decide) (fun hc => ?_) (fun hc => ?_)
            · replace hw := hw.1 hc
              refine R_aload_n F dX10_node_42 rfl 0 rfl ?_
              refine gm_22 F in_node dX10_node_43 ?_
              refine R_aload_n F dX10_node_46 rfl 0 rfl ?_
              refine gm_21 F in_node dX10_node_47 ?_
              refine R_iload_n F dX10_node_50 rfl 1 rfl ?_
              have hi := hw.1
              replace hw := hw.2
              refine R_sti F qm_22 um_22 dX10_node_51 hi ?_
              refine R_aload_n F dX10_node_52 rfl 0 rfl ?_
              refine gm_23 F in_node dX10_node_53 ?_
              refine R_aload_n F dX10_node_56 rfl 0 rfl ?_
              refine gm_21 F in_node dX10_node_57 ?_
              refine R_iload_n F dX10_node_60 rfl 2 rfl ?_
              have hi := hw.1
              replace hw := hw.2
              refine R_sti F qm_23 um_23 dX10_node_61 hi ?_
              refine R_aload_n F dX10_node_62 rfl 0 rfl ?_
              refine gm_24 F in_node dX10_node_63 ?_
              refine R_aload_n F dX10_node_66 rfl 0 rfl ?_
              refine gm_21 F in_node dX10_node_67 ?_
              refine R_iload_n F dX10_node_70 rfl 3 rfl ?_
              have hi := hw.1
              replace hw := hw.2
              refine R_sti F qm_24 um_24 dX10_node_71 hi ?_
              refine R_aload_n F dX10_node_72 rfl 0 rfl ?_
              refine R_dup F dX10_node_73 rfl ?_
              refine gm_21 F in_node dX10_node_74 ?_
              refine R_iconst F 1 dX10_node_77 (by decide) ?_
              refine R_iadd F dX10_node_78 ?_
              refine pm_21 F in_node dX10_node_79 ?_
              refine R_aload_n F dX10_node_82 rfl 0 rfl ?_
              refine gm_21 F in_node dX10_node_83 ?_
              refine R_iconst F 1 dX10_node_86 (by decide) ?_
              refine R_isub F dX10_node_87 ?_
              exact R_iret (Qc := Q) F rfl dX10_node_88 hw
            · replace hw := hw.2 hc
              refine R_bipush F (-3) dX10_node_39 (by decide) ?_
              exact R_iret (Qc := Q) F rfl dX10_node_41 hw
          · replace hw := hw.2 hc
            exact R_sub [] rfl (J_28 σ hw)
def b_except_54 (Q : Int32 → VS → Prop) (l1 : Int32) (l2 : Int32) (l3 : Int32) (l4 : Int32) (σ : VS) : Prop := (((σ.1 25).toInt ≠ 4 → (In (σ.1 25) 4 ∧ (In ((sa σ 26 (σ.1 25) l1).1 25) 4 ∧ (In ((sa (sa σ 26 (σ.1 25) l1) 27 ((sa σ 26 (σ.1 25) l1).1 25) l2).1 25) 4 ∧ (In ((sa (sa (sa σ 26 (σ.1 25) l1) 27 ((sa σ 26 (σ.1 25) l1).1 25) l2) 28 ((sa (sa σ 26 (σ.1 25) l1) 27 ((sa σ 26 (σ.1 25) l1).1 25) l2).1 25) l3).1 25) 4 ∧ Q (((sf (sa (sa (sa (sa σ 26 (σ.1 25) l1) 27 ((sa σ 26 (σ.1 25) l1).1 25) l2) 28 ((sa (sa σ 26 (σ.1 25) l1) 27 ((sa σ 26 (σ.1 25) l1).1 25) l2).1 25) l3) 29 ((sa (sa (sa σ 26 (σ.1 25) l1) 27 ((sa σ 26 (σ.1 25) l1).1 25) l2) 28 ((sa (sa σ 26 (σ.1 25) l1) 27 ((sa σ 26 (σ.1 25) l1).1 25) l2).1 25) l3).1 25) l4) 25 (((sa (sa (sa (sa σ 26 (σ.1 25) l1) 27 ((sa σ 26 (σ.1 25) l1).1 25) l2) 28 ((sa (sa σ 26 (σ.1 25) l1) 27 ((sa σ 26 (σ.1 25) l1).1 25) l2).1 25) l3) 29 ((sa (sa (sa σ 26 (σ.1 25) l1) 27 ((sa σ 26 (σ.1 25) l1).1 25) l2) 28 ((sa (sa σ 26 (σ.1 25) l1) 27 ((sa σ 26 (σ.1 25) l1).1 25) l2).1 25) l3).1 25) l4).1 25) + 1)).1 25) - 1) (sf (sa (sa (sa (sa σ 26 (σ.1 25) l1) 27 ((sa σ 26 (σ.1 25) l1).1 25) l2) 28 ((sa (sa σ 26 (σ.1 25) l1) 27 ((sa σ 26 (σ.1 25) l1).1 25) l2).1 25) l3) 29 ((sa (sa (sa σ 26 (σ.1 25) l1) 27 ((sa σ 26 (σ.1 25) l1).1 25) l2) 28 ((sa (sa σ 26 (σ.1 25) l1) 27 ((sa σ 26 (σ.1 25) l1).1 25) l2).1 25) l3).1 25) l4) 25 (((sa (sa (sa (sa σ 26 (σ.1 25) l1) 27 ((sa σ 26 (σ.1 25) l1).1 25) l2) 28 ((sa (sa σ 26 (σ.1 25) l1) 27 ((sa σ 26 (σ.1 25) l1).1 25) l2).1 25) l3) 29 ((sa (sa (sa σ 26 (σ.1 25) l1) 27 ((sa σ 26 (σ.1 25) l1).1 25) l2) 28 ((sa (sa σ 26 (σ.1 25) l1) 27 ((sa σ 26 (σ.1 25) l1).1 25) l2).1 25) l3).1 25) l4).1 25) + 1))))))) ∧ ((σ.1 25).toInt = 4 → Q (-3) σ))
def b_except_52 (Q : Int32 → VS → Prop) (σ : VS) : Prop := Q (-1) σ
def b_except_14 (Q : Int32 → VS → Prop) (l1 : Int32) (l2 : Int32) (l3 : Int32) (l4 : Int32) (σ : VS) : Prop := wp_mayBe (fun (r1 : Int32) (σ2 : VS) => ((r1.toInt = 0 → b_except_52 Q σ2) ∧ (r1.toInt ≠ 0 → wp_mayBe (fun (r3 : Int32) (σ4 : VS) => ((r3.toInt = 0 → b_except_52 Q σ4) ∧ (r3.toInt ≠ 0 → wp_mayBe (fun (r5 : Int32) (σ6 : VS) => ((r5.toInt = 0 → b_except_52 Q σ6) ∧ (r5.toInt ≠ 0 → ((0 ≤ l2.toInt → b_except_54 Q l1 l2 l3 l4 σ6) ∧ (l2.toInt < 0 → ((0 ≤ l3.toInt → b_except_54 Q l1 l2 l3 l4 σ6) ∧ (l3.toInt < 0 → ((0 ≤ l4.toInt → b_except_54 Q l1 l2 l3 l4 σ6) ∧ (l4.toInt < 0 → b_except_52 Q σ6))))))))) l4 σ4))) l3 σ2))) l2 σ
def wp_except (Q : Int32 → VS → Prop) (p1 : Int32) (p2 : Int32) (p3 : Int32) (p4 : Int32) (σ : VS) : Prop := ((p1.toInt = 0 → b_except_14 Q p1 p2 p3 p4 σ) ∧ (p1.toInt ≠ 0 → ((p1.toInt < 2 → b_except_52 Q σ) ∧ (2 ≤ p1.toInt → ((4 < p1.toInt → b_except_52 Q σ) ∧ (p1.toInt ≤ 4 → b_except_14 Q p1 p2 p3 p4 σ))))))
theorem dX10_except_0 : decode cX10_except 0 = .ok (.iload_n 1, 1) := by decide +kernel
theorem dX10_except_1 : decode cX10_except 1 = .ok (.ifCond .eq 13, 3) := by decide +kernel
theorem dX10_except_4 : decode cX10_except 4 = .ok (.iload_n 1, 1) := by decide +kernel
theorem dX10_except_5 : decode cX10_except 5 = .ok (.iconst 2, 1) := by decide +kernel
theorem dX10_except_6 : decode cX10_except 6 = .ok (.if_icmp .lt 46, 3) := by decide +kernel
theorem dX10_except_9 : decode cX10_except 9 = .ok (.iload_n 1, 1) := by decide +kernel
theorem dX10_except_10 : decode cX10_except 10 = .ok (.iconst 4, 1) := by decide +kernel
theorem dX10_except_11 : decode cX10_except 11 = .ok (.if_icmp .gt 41, 3) := by decide +kernel
theorem dX10_except_14 : decode cX10_except 14 = .ok (.aload_n 0, 1) := by decide +kernel
theorem dX10_except_15 : decode cX10_except 15 = .ok (.iload_n 2, 1) := by decide +kernel
theorem dX10_except_16 : decode cX10_except 16 = .ok (.invokevirtual 219, 3) := by decide +kernel
theorem dX10_except_19 : decode cX10_except 19 = .ok (.ifCond .eq 33, 3) := by decide +kernel
theorem dX10_except_22 : decode cX10_except 22 = .ok (.aload_n 0, 1) := by decide +kernel
theorem dX10_except_23 : decode cX10_except 23 = .ok (.iload_n 3, 1) := by decide +kernel
theorem dX10_except_24 : decode cX10_except 24 = .ok (.invokevirtual 219, 3) := by decide +kernel
theorem dX10_except_27 : decode cX10_except 27 = .ok (.ifCond .eq 25, 3) := by decide +kernel
theorem dX10_except_30 : decode cX10_except 30 = .ok (.aload_n 0, 1) := by decide +kernel
theorem dX10_except_31 : decode cX10_except 31 = .ok (.iload 4, 2) := by decide +kernel
theorem dX10_except_33 : decode cX10_except 33 = .ok (.invokevirtual 219, 3) := by decide +kernel
theorem dX10_except_36 : decode cX10_except 36 = .ok (.ifCond .eq 16, 3) := by decide +kernel
theorem dX10_except_39 : decode cX10_except 39 = .ok (.iload_n 2, 1) := by decide +kernel
theorem dX10_except_40 : decode cX10_except 40 = .ok (.ifCond .ge 14, 3) := by decide +kernel
theorem dX10_except_43 : decode cX10_except 43 = .ok (.iload_n 3, 1) := by decide +kernel
theorem dX10_except_44 : decode cX10_except 44 = .ok (.ifCond .ge 10, 3) := by decide +kernel
theorem dX10_except_47 : decode cX10_except 47 = .ok (.iload 4, 2) := by decide +kernel
theorem dX10_except_49 : decode cX10_except 49 = .ok (.ifCond .ge 5, 3) := by decide +kernel
theorem dX10_except_52 : decode cX10_except 52 = .ok (.iconst (-1), 1) := by decide +kernel
theorem dX10_except_53 : decode cX10_except 53 = .ok (.ireturn, 1) := by decide +kernel
theorem dX10_except_54 : decode cX10_except 54 = .ok (.aload_n 0, 1) := by decide +kernel
theorem dX10_except_55 : decode cX10_except 55 = .ok (.getfield 222, 3) := by decide +kernel
theorem dX10_except_58 : decode cX10_except 58 = .ok (.iconst 4, 1) := by decide +kernel
theorem dX10_except_59 : decode cX10_except 59 = .ok (.if_icmp .ne 6, 3) := by decide +kernel
theorem dX10_except_65 : decode cX10_except 65 = .ok (.aload_n 0, 1) := by decide +kernel
theorem dX10_except_66 : decode cX10_except 66 = .ok (.getfield 99, 3) := by decide +kernel
theorem dX10_except_69 : decode cX10_except 69 = .ok (.aload_n 0, 1) := by decide +kernel
theorem dX10_except_70 : decode cX10_except 70 = .ok (.getfield 222, 3) := by decide +kernel
theorem dX10_except_73 : decode cX10_except 73 = .ok (.iload_n 1, 1) := by decide +kernel
theorem dX10_except_74 : decode cX10_except 74 = .ok (.iastore, 1) := by decide +kernel
theorem dX10_except_75 : decode cX10_except 75 = .ok (.aload_n 0, 1) := by decide +kernel
theorem dX10_except_76 : decode cX10_except 76 = .ok (.getfield 102, 3) := by decide +kernel
theorem dX10_except_79 : decode cX10_except 79 = .ok (.aload_n 0, 1) := by decide +kernel
theorem dX10_except_80 : decode cX10_except 80 = .ok (.getfield 222, 3) := by decide +kernel
theorem dX10_except_83 : decode cX10_except 83 = .ok (.iload_n 2, 1) := by decide +kernel
theorem dX10_except_84 : decode cX10_except 84 = .ok (.iastore, 1) := by decide +kernel
theorem dX10_except_85 : decode cX10_except 85 = .ok (.aload_n 0, 1) := by decide +kernel
theorem dX10_except_86 : decode cX10_except 86 = .ok (.getfield 105, 3) := by decide +kernel
theorem dX10_except_89 : decode cX10_except 89 = .ok (.aload_n 0, 1) := by decide +kernel
theorem dX10_except_90 : decode cX10_except 90 = .ok (.getfield 222, 3) := by decide +kernel
theorem dX10_except_93 : decode cX10_except 93 = .ok (.iload_n 3, 1) := by decide +kernel
theorem dX10_except_94 : decode cX10_except 94 = .ok (.iastore, 1) := by decide +kernel
theorem dX10_except_95 : decode cX10_except 95 = .ok (.aload_n 0, 1) := by decide +kernel
theorem dX10_except_96 : decode cX10_except 96 = .ok (.getfield 108, 3) := by decide +kernel
theorem dX10_except_99 : decode cX10_except 99 = .ok (.aload_n 0, 1) := by decide +kernel
theorem dX10_except_100 : decode cX10_except 100 = .ok (.getfield 222, 3) := by decide +kernel
theorem dX10_except_103 : decode cX10_except 103 = .ok (.iload 4, 2) := by decide +kernel
theorem dX10_except_105 : decode cX10_except 105 = .ok (.iastore, 1) := by decide +kernel
theorem dX10_except_106 : decode cX10_except 106 = .ok (.aload_n 0, 1) := by decide +kernel
theorem dX10_except_107 : decode cX10_except 107 = .ok (.dup, 1) := by decide +kernel
theorem dX10_except_108 : decode cX10_except 108 = .ok (.getfield 222, 3) := by decide +kernel
theorem dX10_except_111 : decode cX10_except 111 = .ok (.iconst 1, 1) := by decide +kernel
theorem dX10_except_112 : decode cX10_except 112 = .ok (.iadd, 1) := by decide +kernel
theorem dX10_except_113 : decode cX10_except 113 = .ok (.putfield 222, 3) := by decide +kernel
theorem dX10_except_116 : decode cX10_except 116 = .ok (.aload_n 0, 1) := by decide +kernel
theorem dX10_except_117 : decode cX10_except 117 = .ok (.getfield 222, 3) := by decide +kernel
theorem dX10_except_120 : decode cX10_except 120 = .ok (.iconst 1, 1) := by decide +kernel
theorem dX10_except_121 : decode cX10_except 121 = .ok (.isub, 1) := by decide +kernel
theorem dX10_except_122 : decode cX10_except 122 = .ok (.ireturn, 1) := by decide +kernel
theorem dX10_except_62 : decode cX10_except 62 = .ok (.bipush (-3), 2) := by decide +kernel
theorem dX10_except_64 : decode cX10_except 64 = .ok (.ireturn, 1) := by decide +kernel
def wo_except : List Cond := [.code yX10_except cX10_except 5 (some .int), .methodLink RX10 219 yX10_mayBe, .instanceMethod yX10_mayBe, .selects RX10 yX10_mayBe yX10_mayBe, .initialized RX10]
def wr_except : List Cond := (wfX10 ++ (w_mayBe ++ ([])))
def w_except : List Cond := wo_except ++ wr_except
theorem wg_except : GW w_except := GW_app (GW_of (by decide +kernel)) (GW_app (wg_fX10) (GW_app (wg_mayBe) (GW_nil)))
theorem in_except : ∀ w ∈ wfX10, w ∈ w_except := fun _ h => List.mem_append_right _ (List.mem_append_left _ h)
theorem g_except_mayBe_219 : GoodIn w_except (wsV RX10 219 RX10 yX10_mayBe w_mayBe) := goodIn_app (gi_left (goodIn_of _ (by decide +kernel))) (fun w h => ⟨List.mem_append_right _ (List.mem_append_right _ (List.mem_append_left _ h)), wg_mayBe w h⟩)
set_option maxHeartbeats 4000000 in
set_option maxRecDepth 100000 in
theorem ct_except (l : Launch) (E : gE) (B : Nat → Nat) (Q : Int32 → VS → Prop) (p1 : Int32) (p2 : Int32) (p3 : Int32) (p4 : Int32) (σ : VS) (hw : wp_except Q p1 p2 p3 p4 σ) : CtI l E yX10_except w_except (({ frames := 2, cells := 0, slots := 0, locals := 42 } : Room)) (wm E B σ) [.ref (B 0), .int p1, .int p2, .int p3, .int p4] (fun r w => ∃ σ' : VS, Q r σ' ∧ w = wm E B σ') := by
  refine VC_I (cc := cX10_except) (mL := 5) (rt := (some .int)) (lv0 := [(0, .ref (B 0)), (1, .int p1), (2, .int p2), (3, .int p3), (4, .int p4)]) rfl (by decide) rfl (Nat.le_of_ble_eq_true rfl) ?_
  intro p e s m below meth c A F
  replace F : Fx p s m _ meth c A E cX10_except 5 (some .int) RX10 w_except := F
  have J_54 : ∀ (l1 : Int32) (l2 : Int32) (l3 : Int32) (l4 : Int32) (σ : VS), b_except_54 Q l1 l2 l3 l4 σ → WB p l e (({ frames := 2, cells := 0, slots := 0, locals := 42 } : Room)) s m (#[.ref (B 0), .int p1, .int p2, .int p3, .int p4]) below meth c (MQ below (va_Qi (fun r w => ∃ σ' : VS, Q r σ' ∧ w = wm E B σ') (AftU E A) A) (#[.ref (B 0), .int p1, .int p2, .int p3, .int p4]) s (({ frames := 2, cells := 0, slots := 0, locals := 42 } : Room)).cells (({ frames := 2, cells := 0, slots := 0, locals := 42 } : Room)).slots A) A E (wm E B) 5 54 [(0, .ref (B 0)), (1, .int l1), (2, .int l2), (3, .int l3), (4, .int l4)] [] σ := by
    intro l1 l2 l3 l4 σ hw
    unfold b_except_54 at hw
    refine R_aload_n F dX10_except_54 rfl 0 rfl ?_
    refine gm_25 F in_except dX10_except_55 ?_
    refine R_iconst F 4 dX10_except_58 (by decide) ?_
    refine R_icmp_ne (tgt := 65) F dX10_except_59 (by decide) (fun hc => ?_) (fun hc => ?_)
    · replace hw := hw.1 hc
      refine R_aload_n F dX10_except_65 rfl 0 rfl ?_
      refine gm_26 F in_except dX10_except_66 ?_
      refine R_aload_n F dX10_except_69 rfl 0 rfl ?_
      refine gm_25 F in_except dX10_except_70 ?_
      refine R_iload_n F dX10_except_73 rfl 1 rfl ?_
      have hi := hw.1
      replace hw := hw.2
      refine R_sti F qm_26 um_26 dX10_except_74 hi ?_
      refine R_aload_n F dX10_except_75 rfl 0 rfl ?_
      refine gm_27 F in_except dX10_except_76 ?_
      refine R_aload_n F dX10_except_79 rfl 0 rfl ?_
      refine gm_25 F in_except dX10_except_80 ?_
      refine R_iload_n F dX10_except_83 rfl 2 rfl ?_
      have hi := hw.1
      replace hw := hw.2
      refine R_sti F qm_27 um_27 dX10_except_84 hi ?_
      refine R_aload_n F dX10_except_85 rfl 0 rfl ?_
      refine gm_28 F in_except dX10_except_86 ?_
      refine R_aload_n F dX10_except_89 rfl 0 rfl ?_
      refine gm_25 F in_except dX10_except_90 ?_
      refine R_iload_n F dX10_except_93 rfl 3 rfl ?_
      have hi := hw.1
      replace hw := hw.2
      refine R_sti F qm_28 um_28 dX10_except_94 hi ?_
      refine R_aload_n F dX10_except_95 rfl 0 rfl ?_
      refine gm_29 F in_except dX10_except_96 ?_
      refine R_aload_n F dX10_except_99 rfl 0 rfl ?_
      refine gm_25 F in_except dX10_except_100 ?_
      refine R_iload F dX10_except_103 4 rfl ?_
      have hi := hw.1
      replace hw := hw.2
      refine R_sti F qm_29 um_29 dX10_except_105 hi ?_
      refine R_aload_n F dX10_except_106 rfl 0 rfl ?_
      refine R_dup F dX10_except_107 rfl ?_
      refine gm_25 F in_except dX10_except_108 ?_
      refine R_iconst F 1 dX10_except_111 (by decide) ?_
      refine R_iadd F dX10_except_112 ?_
      refine pm_25 F in_except dX10_except_113 ?_
      refine R_aload_n F dX10_except_116 rfl 0 rfl ?_
      refine gm_25 F in_except dX10_except_117 ?_
      refine R_iconst F 1 dX10_except_120 (by decide) ?_
      refine R_isub F dX10_except_121 ?_
      exact R_iret (Qc := Q) F rfl dX10_except_122 hw
    · replace hw := hw.2 hc
      refine R_bipush F (-3) dX10_except_62 (by decide) ?_
      exact R_iret (Qc := Q) F rfl dX10_except_64 hw
  have J_52 : ∀ (σ : VS), b_except_52 Q σ → WB p l e (({ frames := 2, cells := 0, slots := 0, locals := 42 } : Room)) s m (#[.ref (B 0), .int p1, .int p2, .int p3, .int p4]) below meth c (MQ below (va_Qi (fun r w => ∃ σ' : VS, Q r σ' ∧ w = wm E B σ') (AftU E A) A) (#[.ref (B 0), .int p1, .int p2, .int p3, .int p4]) s (({ frames := 2, cells := 0, slots := 0, locals := 42 } : Room)).cells (({ frames := 2, cells := 0, slots := 0, locals := 42 } : Room)).slots A) A E (wm E B) 5 52 [] [] σ := by
    intro σ hw
    unfold b_except_52 at hw
    refine R_iconst F (-1) dX10_except_52 (by decide) ?_
    exact R_iret (Qc := Q) F rfl dX10_except_53 hw
  have J_14 : ∀ (l1 : Int32) (l2 : Int32) (l3 : Int32) (l4 : Int32) (σ : VS), b_except_14 Q l1 l2 l3 l4 σ → WB p l e (({ frames := 2, cells := 0, slots := 0, locals := 42 } : Room)) s m (#[.ref (B 0), .int p1, .int p2, .int p3, .int p4]) below meth c (MQ below (va_Qi (fun r w => ∃ σ' : VS, Q r σ' ∧ w = wm E B σ') (AftU E A) A) (#[.ref (B 0), .int p1, .int p2, .int p3, .int p4]) s (({ frames := 2, cells := 0, slots := 0, locals := 42 } : Room)).cells (({ frames := 2, cells := 0, slots := 0, locals := 42 } : Room)).slots A) A E (wm E B) 5 14 [(0, .ref (B 0)), (1, .int l1), (2, .int l2), (3, .int l3), (4, .int l4)] [] σ := by
    intro l1 l2 l3 l4 σ hw
    unfold b_except_14 at hw
    refine R_aload_n F dX10_except_14 rfl 0 rfl ?_
    refine R_iload_n F dX10_except_15 rfl 2 rfl ?_
    refine R_callI (As := [.int l2]) (C := RX10) (q0 := 0) (ci := 10) (N := 69) (T := TX10) (fs := mfl B) F (ct_mayBe l E B _ l2 _ hw) (cwV 1 F.2.2.2.2.2.2.2.2.2.2 g_except_mayBe_219 rfl rfl rfl (by decide +kernel) ⟨Nat.le_of_ble_eq_true rfl, Nat.le_of_ble_eq_true rfl⟩) ⟨rfl, rfl⟩ rfl (fun _ => rfl) rfl rfl (Nat.le_of_ble_eq_true rfl) dX10_except_16 (fun r1 σ2 hw => ?_)
    refine R_if_eq (tgt := 52) F dX10_except_19 (by decide) (fun hc => ?_) (fun hc => ?_)
    · replace hw := hw.1 hc
      exact R_sub [] rfl (J_52 σ2 hw)
    · replace hw := hw.2 hc
      refine R_aload_n F dX10_except_22 rfl 0 rfl ?_
      refine R_iload_n F dX10_except_23 rfl 3 rfl ?_
      refine R_callI (As := [.int l3]) (C := RX10) (q0 := 0) (ci := 10) (N := 69) (T := TX10) (fs := mfl B) F (ct_mayBe l E B _ l3 _ hw) (cwV 1 F.2.2.2.2.2.2.2.2.2.2 g_except_mayBe_219 rfl rfl rfl (by decide +kernel) ⟨Nat.le_of_ble_eq_true rfl, Nat.le_of_ble_eq_true rfl⟩) ⟨rfl, rfl⟩ rfl (fun _ => rfl) rfl rfl (Nat.le_of_ble_eq_true rfl) dX10_except_24 (fun r3 σ4 hw => ?_)
      refine R_if_eq (tgt := 52) F dX10_except_27 (by decide) (fun hc => ?_) (fun hc => ?_)
      · replace hw := hw.1 hc
        exact R_sub [] rfl (J_52 σ4 hw)
      · replace hw := hw.2 hc
        refine R_aload_n F dX10_except_30 rfl 0 rfl ?_
        refine R_iload F dX10_except_31 4 rfl ?_
        refine R_callI (As := [.int l4]) (C := RX10) (q0 := 0) (ci := 10) (N := 69) (T := TX10) (fs := mfl B) F (ct_mayBe l E B _ l4 _ hw) (cwV 1 F.2.2.2.2.2.2.2.2.2.2 g_except_mayBe_219 rfl rfl rfl (by decide +kernel) ⟨Nat.le_of_ble_eq_true rfl, Nat.le_of_ble_eq_true rfl⟩) ⟨rfl, rfl⟩ rfl (fun _ => rfl) rfl rfl (Nat.le_of_ble_eq_true rfl) dX10_except_33 (fun r5 σ6 hw => ?_)
        refine R_if_eq (tgt := 52) F dX10_except_36 (by decide) (fun hc => ?_) (fun hc => ?_)
        · replace hw := hw.1 hc
          exact R_sub [] rfl (J_52 σ6 hw)
        · replace hw := hw.2 hc
          refine R_iload_n F dX10_except_39 rfl 2 rfl ?_
          refine R_if_ge (tgt := 54) F dX10_except_40 (by decide) (fun hc => ?_) (fun hc => ?_)
          · replace hw := hw.1 hc
            exact R_sub [0, 1, 2, 3, 4] rfl (J_54 l1 l2 l3 l4 σ6 hw)
          · replace hw := hw.2 hc
            refine R_iload_n F dX10_except_43 rfl 3 rfl ?_
            refine R_if_ge (tgt := 54) F dX10_except_44 (by decide) (fun hc => ?_) (fun hc => ?_)
            · replace hw := hw.1 hc
              exact R_sub [0, 1, 2, 3, 4] rfl (J_54 l1 l2 l3 l4 σ6 hw)
            · replace hw := hw.2 hc
              refine R_iload F dX10_except_47 4 rfl ?_
              refine R_if_ge (tgt := 54) F dX10_except_49 (by decide) (fun hc => ?_) (fun hc => ?_)
              · replace hw := hw.1 hc
                exact R_sub [0, 1, 2, 3, 4] rfl (J_54 l1 l2 l3 l4 σ6 hw)
              · replace hw := hw.2 hc
                exact R_sub [] rfl (J_52 σ6 hw)
  unfold wp_except at hw
  refine R_iload_n F dX10_except_0 rfl 1 rfl ?_
  refine R_if_eq (tgt := 14) F dX10_except_1 (by decide) (fun hc => ?_) (fun hc => ?_)
  · replace hw := hw.1 hc
    exact R_sub [0, 1, 2, 3, 4] rfl (J_14 p1 p2 p3 p4 σ hw)
  · replace hw := hw.2 hc
    refine R_iload_n F dX10_except_4 rfl 1 rfl ?_
    refine R_iconst F 2 dX10_except_5 (by decide) ?_
    refine R_icmp_lt (tgt := 52) F dX10_except_6 (by decide) (fun hc => ?_) (fun hc => ?_)
    · replace hw := hw.1 hc
      exact R_sub [] rfl (J_52 σ hw)
    · replace hw := hw.2 hc
      refine R_iload_n F dX10_except_9 rfl 1 rfl ?_
      refine R_iconst F 4 dX10_except_10 (by decide) ?_
      refine R_icmp_gt (tgt := 52) F dX10_except_11 (by decide) (fun hc => ?_) (fun hc => ?_)
      · replace hw := hw.1 hc
        exact R_sub [] rfl (J_52 σ hw)
      · replace hw := hw.2 hc
        exact R_sub [0, 1, 2, 3, 4] rfl (J_14 p1 p2 p3 p4 σ hw)
def wp_unexcept (Q : Int32 → VS → Prop) (σ : VS) : Prop := (((σ.1 25).toInt ≠ 0 → Q ((sf σ 25 ((σ.1 25) - 1)).1 25) (sf σ 25 ((σ.1 25) - 1))) ∧ ((σ.1 25).toInt = 0 → Q (-1) σ))
theorem dX10_unexcept_0 : decode cX10_unexcept 0 = .ok (.aload_n 0, 1) := by decide +kernel
theorem dX10_unexcept_1 : decode cX10_unexcept 1 = .ok (.getfield 222, 3) := by decide +kernel
theorem dX10_unexcept_4 : decode cX10_unexcept 4 = .ok (.ifCond .ne 5, 3) := by decide +kernel
theorem dX10_unexcept_9 : decode cX10_unexcept 9 = .ok (.aload_n 0, 1) := by decide +kernel
theorem dX10_unexcept_10 : decode cX10_unexcept 10 = .ok (.dup, 1) := by decide +kernel
theorem dX10_unexcept_11 : decode cX10_unexcept 11 = .ok (.getfield 222, 3) := by decide +kernel
theorem dX10_unexcept_14 : decode cX10_unexcept 14 = .ok (.iconst 1, 1) := by decide +kernel
theorem dX10_unexcept_15 : decode cX10_unexcept 15 = .ok (.isub, 1) := by decide +kernel
theorem dX10_unexcept_16 : decode cX10_unexcept 16 = .ok (.putfield 222, 3) := by decide +kernel
theorem dX10_unexcept_19 : decode cX10_unexcept 19 = .ok (.aload_n 0, 1) := by decide +kernel
theorem dX10_unexcept_20 : decode cX10_unexcept 20 = .ok (.getfield 222, 3) := by decide +kernel
theorem dX10_unexcept_23 : decode cX10_unexcept 23 = .ok (.ireturn, 1) := by decide +kernel
theorem dX10_unexcept_7 : decode cX10_unexcept 7 = .ok (.iconst (-1), 1) := by decide +kernel
theorem dX10_unexcept_8 : decode cX10_unexcept 8 = .ok (.ireturn, 1) := by decide +kernel
def wo_unexcept : List Cond := [.code yX10_unexcept cX10_unexcept 1 (some .int)]
def wr_unexcept : List Cond := (wfX10 ++ ([]))
def w_unexcept : List Cond := wo_unexcept ++ wr_unexcept
theorem wg_unexcept : GW w_unexcept := GW_app (GW_of (by decide +kernel)) (GW_app (wg_fX10) (GW_nil))
theorem in_unexcept : ∀ w ∈ wfX10, w ∈ w_unexcept := fun _ h => List.mem_append_right _ (List.mem_append_left _ h)
set_option maxHeartbeats 4000000 in
set_option maxRecDepth 100000 in
theorem ct_unexcept (l : Launch) (E : gE) (B : Nat → Nat) (Q : Int32 → VS → Prop) (σ : VS) (hw : wp_unexcept Q σ) : CtI l E yX10_unexcept w_unexcept (({ frames := 0, cells := 0, slots := 0, locals := 0 } : Room)) (wm E B σ) [.ref (B 0)] (fun r w => ∃ σ' : VS, Q r σ' ∧ w = wm E B σ') := by
  refine VC_I (cc := cX10_unexcept) (mL := 1) (rt := (some .int)) (lv0 := [(0, .ref (B 0))]) rfl (by decide) rfl (Nat.le_of_ble_eq_true rfl) ?_
  intro p e s m below meth c A F
  replace F : Fx p s m _ meth c A E cX10_unexcept 1 (some .int) RX10 w_unexcept := F
  unfold wp_unexcept at hw
  refine R_aload_n F dX10_unexcept_0 rfl 0 rfl ?_
  refine gm_25 F in_unexcept dX10_unexcept_1 ?_
  refine R_if_ne (tgt := 9) F dX10_unexcept_4 (by decide) (fun hc => ?_) (fun hc => ?_)
  · replace hw := hw.1 hc
    refine R_aload_n F dX10_unexcept_9 rfl 0 rfl ?_
    refine R_dup F dX10_unexcept_10 rfl ?_
    refine gm_25 F in_unexcept dX10_unexcept_11 ?_
    refine R_iconst F 1 dX10_unexcept_14 (by decide) ?_
    refine R_isub F dX10_unexcept_15 ?_
    refine pm_25 F in_unexcept dX10_unexcept_16 ?_
    refine R_aload_n F dX10_unexcept_19 rfl 0 rfl ?_
    refine gm_25 F in_unexcept dX10_unexcept_20 ?_
    exact R_iret (Qc := Q) F rfl dX10_unexcept_23 hw
  · replace hw := hw.2 hc
    refine R_iconst F (-1) dX10_unexcept_7 (by decide) ?_
    exact R_iret (Qc := Q) F rfl dX10_unexcept_8 hw
def b_takes_41 (Q : Int32 → VS → Prop) (k0 : Int32) (σ : VS) : Prop := Q k0 σ
def wp_takes (Q : Int32 → VS → Prop) (p1 : Int32) (p2 : Int32) (σ : VS) : Prop := wp_isInput (fun (r1 : Int32) (σ2 : VS) => ((r1.toInt ≠ 0 → (In ((4 * p1) + p2) 200 ∧ ((0 ≤ (rd σ2 7 ((4 * p1) + p2)).toInt → (In ((4 * p1) + p2) 200 ∧ b_takes_41 Q (rd σ2 7 ((4 * p1) + p2)) σ2)) ∧ ((rd σ2 7 ((4 * p1) + p2)).toInt < 0 → b_takes_41 Q (-5) σ2)))) ∧ (r1.toInt = 0 → b_takes_41 Q (-1) σ2))) p1 p2 σ
theorem dX10_takes_0 : decode cX10_takes 0 = .ok (.aload_n 0, 1) := by decide +kernel
theorem dX10_takes_1 : decode cX10_takes 1 = .ok (.iload_n 1, 1) := by decide +kernel
theorem dX10_takes_2 : decode cX10_takes 2 = .ok (.iload_n 2, 1) := by decide +kernel
theorem dX10_takes_3 : decode cX10_takes 3 = .ok (.invokevirtual 58, 3) := by decide +kernel
theorem dX10_takes_6 : decode cX10_takes 6 = .ok (.ifCond .ne 7, 3) := by decide +kernel
theorem dX10_takes_13 : decode cX10_takes 13 = .ok (.aload_n 0, 1) := by decide +kernel
theorem dX10_takes_14 : decode cX10_takes 14 = .ok (.getfield 30, 3) := by decide +kernel
theorem dX10_takes_17 : decode cX10_takes 17 = .ok (.iconst 4, 1) := by decide +kernel
theorem dX10_takes_18 : decode cX10_takes 18 = .ok (.iload_n 1, 1) := by decide +kernel
theorem dX10_takes_19 : decode cX10_takes 19 = .ok (.imul, 1) := by decide +kernel
theorem dX10_takes_20 : decode cX10_takes 20 = .ok (.iload_n 2, 1) := by decide +kernel
theorem dX10_takes_21 : decode cX10_takes 21 = .ok (.iadd, 1) := by decide +kernel
theorem dX10_takes_22 : decode cX10_takes 22 = .ok (.iaload, 1) := by decide +kernel
theorem dX10_takes_23 : decode cX10_takes 23 = .ok (.ifCond .ge 8, 3) := by decide +kernel
theorem dX10_takes_31 : decode cX10_takes 31 = .ok (.aload_n 0, 1) := by decide +kernel
theorem dX10_takes_32 : decode cX10_takes 32 = .ok (.getfield 30, 3) := by decide +kernel
theorem dX10_takes_35 : decode cX10_takes 35 = .ok (.iconst 4, 1) := by decide +kernel
theorem dX10_takes_36 : decode cX10_takes 36 = .ok (.iload_n 1, 1) := by decide +kernel
theorem dX10_takes_37 : decode cX10_takes 37 = .ok (.imul, 1) := by decide +kernel
theorem dX10_takes_38 : decode cX10_takes 38 = .ok (.iload_n 2, 1) := by decide +kernel
theorem dX10_takes_39 : decode cX10_takes 39 = .ok (.iadd, 1) := by decide +kernel
theorem dX10_takes_40 : decode cX10_takes 40 = .ok (.iaload, 1) := by decide +kernel
theorem dX10_takes_26 : decode cX10_takes 26 = .ok (.bipush (-5), 2) := by decide +kernel
theorem dX10_takes_28 : decode cX10_takes 28 = .ok (.goto 13, 3) := by decide +kernel
theorem dX10_takes_9 : decode cX10_takes 9 = .ok (.iconst (-1), 1) := by decide +kernel
theorem dX10_takes_10 : decode cX10_takes 10 = .ok (.goto 31, 3) := by decide +kernel
theorem dX10_takes_41 : decode cX10_takes 41 = .ok (.ireturn, 1) := by decide +kernel
def wo_takes : List Cond := [.code yX10_takes cX10_takes 3 (some .int), .methodLink RX10 58 yX10_isInput, .instanceMethod yX10_isInput, .selects RX10 yX10_isInput yX10_isInput, .initialized RX10]
def wr_takes : List Cond := (wfX10 ++ (w_isInput ++ ([])))
def w_takes : List Cond := wo_takes ++ wr_takes
theorem wg_takes : GW w_takes := GW_app (GW_of (by decide +kernel)) (GW_app (wg_fX10) (GW_app (wg_isInput) (GW_nil)))
theorem in_takes : ∀ w ∈ wfX10, w ∈ w_takes := fun _ h => List.mem_append_right _ (List.mem_append_left _ h)
theorem g_takes_isInput_58 : GoodIn w_takes (wsV RX10 58 RX10 yX10_isInput w_isInput) := goodIn_app (gi_left (goodIn_of _ (by decide +kernel))) (fun w h => ⟨List.mem_append_right _ (List.mem_append_right _ (List.mem_append_left _ h)), wg_isInput w h⟩)
set_option maxHeartbeats 4000000 in
set_option maxRecDepth 100000 in
theorem ct_takes (l : Launch) (E : gE) (B : Nat → Nat) (Q : Int32 → VS → Prop) (p1 : Int32) (p2 : Int32) (σ : VS) (hw : wp_takes Q p1 p2 σ) : CtI l E yX10_takes w_takes (({ frames := 2, cells := 0, slots := 0, locals := 43 } : Room)) (wm E B σ) [.ref (B 0), .int p1, .int p2] (fun r w => ∃ σ' : VS, Q r σ' ∧ w = wm E B σ') := by
  refine VC_I (cc := cX10_takes) (mL := 3) (rt := (some .int)) (lv0 := [(0, .ref (B 0)), (1, .int p1), (2, .int p2)]) rfl (by decide) rfl (Nat.le_of_ble_eq_true rfl) ?_
  intro p e s m below meth c A F
  replace F : Fx p s m _ meth c A E cX10_takes 3 (some .int) RX10 w_takes := F
  have J_41 : ∀ (k0 : Int32) (σ : VS), b_takes_41 Q k0 σ → WB p l e (({ frames := 2, cells := 0, slots := 0, locals := 43 } : Room)) s m (#[.ref (B 0), .int p1, .int p2]) below meth c (MQ below (va_Qi (fun r w => ∃ σ' : VS, Q r σ' ∧ w = wm E B σ') (AftU E A) A) (#[.ref (B 0), .int p1, .int p2]) s (({ frames := 2, cells := 0, slots := 0, locals := 43 } : Room)).cells (({ frames := 2, cells := 0, slots := 0, locals := 43 } : Room)).slots A) A E (wm E B) 3 41 [] [.int k0] σ := by
    intro k0 σ hw
    unfold b_takes_41 at hw
    exact R_iret (Qc := Q) F rfl dX10_takes_41 hw
  unfold wp_takes at hw
  refine R_aload_n F dX10_takes_0 rfl 0 rfl ?_
  refine R_iload_n F dX10_takes_1 rfl 1 rfl ?_
  refine R_iload_n F dX10_takes_2 rfl 2 rfl ?_
  refine R_callI (As := [.int p1, .int p2]) (C := RX10) (q0 := 0) (ci := 10) (N := 69) (T := TX10) (fs := mfl B) F (ct_isInput l E B _ p1 p2 _ hw) (cwV 2 F.2.2.2.2.2.2.2.2.2.2 g_takes_isInput_58 rfl rfl rfl (by decide +kernel) ⟨Nat.le_of_ble_eq_true rfl, Nat.le_of_ble_eq_true rfl⟩) ⟨rfl, rfl⟩ rfl (fun _ => rfl) rfl rfl (Nat.le_of_ble_eq_true rfl) dX10_takes_3 (fun r1 σ2 hw => ?_)
  refine R_if_ne (tgt := 13) F dX10_takes_6 (by decide) (fun hc => ?_) (fun hc => ?_)
  · replace hw := hw.1 hc
    refine R_aload_n F dX10_takes_13 rfl 0 rfl ?_
    refine gm_7 F in_takes dX10_takes_14 ?_
    refine R_iconst F 4 dX10_takes_17 (by decide) ?_
    refine R_iload_n F dX10_takes_18 rfl 1 rfl ?_
    refine R_imul F dX10_takes_19 ?_
    refine R_iload_n F dX10_takes_20 rfl 2 rfl ?_
    refine R_iadd F dX10_takes_21 ?_
    refine R_ldi F qm_7 dX10_takes_22 hw.1 ?_
    replace hw := hw.2
    refine R_if_ge (tgt := 31) F dX10_takes_23 (by decide) (fun hc => ?_) (fun hc => ?_)
    · replace hw := hw.1 hc
      refine R_aload_n F dX10_takes_31 rfl 0 rfl ?_
      refine gm_7 F in_takes dX10_takes_32 ?_
      refine R_iconst F 4 dX10_takes_35 (by decide) ?_
      refine R_iload_n F dX10_takes_36 rfl 1 rfl ?_
      refine R_imul F dX10_takes_37 ?_
      refine R_iload_n F dX10_takes_38 rfl 2 rfl ?_
      refine R_iadd F dX10_takes_39 ?_
      refine R_ldi F qm_7 dX10_takes_40 hw.1 ?_
      replace hw := hw.2
      exact R_sub [] rfl (J_41 (rd σ2 7 ((4 * p1) + p2)) σ2 hw)
    · replace hw := hw.2 hc
      refine R_bipush F (-5) dX10_takes_26 (by decide) ?_
      refine R_goto (tgt := 41) F dX10_takes_28 (by decide) ?_
      exact R_sub [] rfl (J_41 (-5) σ2 hw)
  · replace hw := hw.2 hc
    refine R_iconst F (-1) dX10_takes_9 (by decide) ?_
    refine R_goto (tgt := 41) F dX10_takes_10 (by decide) ?_
    exact R_sub [] rfl (J_41 (-1) σ2 hw)
def b_step_106 (Q : Int32 → VS → Prop) (k0 : Int32) (σ : VS) : Prop := Q k0 σ
def b_step_55 (Q : Int32 → VS → Prop) (σ : VS) : Prop := Q 1000000000 σ
def b_step_34 (Q : Int32 → VS → Prop) (l1 : Int32) (l2 : Int32) (σ : VS) : Prop := ((l1.toInt < 0 → b_step_55 Q σ) ∧ (0 ≤ l1.toInt → (((σ.1 62).toInt ≤ l1.toInt → b_step_55 Q σ) ∧ (l1.toInt < (σ.1 62).toInt → ((l2.toInt < 0 → b_step_55 Q σ) ∧ (0 ≤ l2.toInt → ((l2.toInt ≤ 3 → ((l2.toInt ≠ 0 → ((l2.toInt ≠ 1 → ((l2.toInt ≠ 2 → (In l1 52 ∧ b_step_106 Q (rd σ 66 l1) σ)) ∧ (l2.toInt = 2 → (In l1 52 ∧ b_step_106 Q (rd σ 65 l1) σ)))) ∧ (l2.toInt = 1 → (In l1 52 ∧ b_step_106 Q (rd σ 64 l1) σ)))) ∧ (l2.toInt = 0 → (In l1 52 ∧ b_step_106 Q (rd σ 63 l1) σ)))) ∧ (3 < l2.toInt → b_step_55 Q σ))))))))
def b_step_17 (Q : Int32 → VS → Prop) (l1 : Int32) (l2 : Int32) (σ : VS) : Prop := (((σ.1 62).toInt ≤ 0 → b_step_34 Q l1 l2 σ) ∧ (0 < (σ.1 62).toInt → ((l2.toInt ≠ 5 → b_step_34 Q l1 l2 σ) ∧ (l2.toInt = 5 → Q (σ.1 68) σ))))
def wp_step (Q : Int32 → VS → Prop) (p1 : Int32) (p2 : Int32) (σ : VS) : Prop := (((σ.1 62).toInt ≤ 0 → b_step_17 Q p1 p2 σ) ∧ (0 < (σ.1 62).toInt → ((p2.toInt ≠ 4 → b_step_17 Q p1 p2 σ) ∧ (p2.toInt = 4 → Q (σ.1 67) σ))))
theorem dX10_step_0 : decode cX10_step 0 = .ok (.aload_n 0, 1) := by decide +kernel
theorem dX10_step_1 : decode cX10_step 1 = .ok (.getfield 349, 3) := by decide +kernel
theorem dX10_step_4 : decode cX10_step 4 = .ok (.ifCond .le 13, 3) := by decide +kernel
theorem dX10_step_7 : decode cX10_step 7 = .ok (.iload_n 2, 1) := by decide +kernel
theorem dX10_step_8 : decode cX10_step 8 = .ok (.iconst 4, 1) := by decide +kernel
theorem dX10_step_9 : decode cX10_step 9 = .ok (.if_icmp .ne 8, 3) := by decide +kernel
theorem dX10_step_12 : decode cX10_step 12 = .ok (.aload_n 0, 1) := by decide +kernel
theorem dX10_step_13 : decode cX10_step 13 = .ok (.getfield 352, 3) := by decide +kernel
theorem dX10_step_16 : decode cX10_step 16 = .ok (.ireturn, 1) := by decide +kernel
theorem dX10_step_17 : decode cX10_step 17 = .ok (.aload_n 0, 1) := by decide +kernel
theorem dX10_step_18 : decode cX10_step 18 = .ok (.getfield 349, 3) := by decide +kernel
theorem dX10_step_21 : decode cX10_step 21 = .ok (.ifCond .le 13, 3) := by decide +kernel
theorem dX10_step_24 : decode cX10_step 24 = .ok (.iload_n 2, 1) := by decide +kernel
theorem dX10_step_25 : decode cX10_step 25 = .ok (.iconst 5, 1) := by decide +kernel
theorem dX10_step_26 : decode cX10_step 26 = .ok (.if_icmp .ne 8, 3) := by decide +kernel
theorem dX10_step_29 : decode cX10_step 29 = .ok (.aload_n 0, 1) := by decide +kernel
theorem dX10_step_30 : decode cX10_step 30 = .ok (.getfield 355, 3) := by decide +kernel
theorem dX10_step_33 : decode cX10_step 33 = .ok (.ireturn, 1) := by decide +kernel
theorem dX10_step_34 : decode cX10_step 34 = .ok (.iload_n 1, 1) := by decide +kernel
theorem dX10_step_35 : decode cX10_step 35 = .ok (.ifCond .lt 20, 3) := by decide +kernel
theorem dX10_step_38 : decode cX10_step 38 = .ok (.iload_n 1, 1) := by decide +kernel
theorem dX10_step_39 : decode cX10_step 39 = .ok (.aload_n 0, 1) := by decide +kernel
theorem dX10_step_40 : decode cX10_step 40 = .ok (.getfield 349, 3) := by decide +kernel
theorem dX10_step_43 : decode cX10_step 43 = .ok (.if_icmp .ge 12, 3) := by decide +kernel
theorem dX10_step_46 : decode cX10_step 46 = .ok (.iload_n 2, 1) := by decide +kernel
theorem dX10_step_47 : decode cX10_step 47 = .ok (.ifCond .lt 8, 3) := by decide +kernel
theorem dX10_step_50 : decode cX10_step 50 = .ok (.iload_n 2, 1) := by decide +kernel
theorem dX10_step_51 : decode cX10_step 51 = .ok (.iconst 3, 1) := by decide +kernel
theorem dX10_step_52 : decode cX10_step 52 = .ok (.if_icmp .le 7, 3) := by decide +kernel
theorem dX10_step_59 : decode cX10_step 59 = .ok (.iload_n 2, 1) := by decide +kernel
theorem dX10_step_60 : decode cX10_step 60 = .ok (.ifCond .ne 12, 3) := by decide +kernel
theorem dX10_step_72 : decode cX10_step 72 = .ok (.iload_n 2, 1) := by decide +kernel
theorem dX10_step_73 : decode cX10_step 73 = .ok (.iconst 1, 1) := by decide +kernel
theorem dX10_step_74 : decode cX10_step 74 = .ok (.if_icmp .ne 12, 3) := by decide +kernel
theorem dX10_step_86 : decode cX10_step 86 = .ok (.iload_n 2, 1) := by decide +kernel
theorem dX10_step_87 : decode cX10_step 87 = .ok (.iconst 2, 1) := by decide +kernel
theorem dX10_step_88 : decode cX10_step 88 = .ok (.if_icmp .ne 12, 3) := by decide +kernel
theorem dX10_step_100 : decode cX10_step 100 = .ok (.aload_n 0, 1) := by decide +kernel
theorem dX10_step_101 : decode cX10_step 101 = .ok (.getfield 205, 3) := by decide +kernel
theorem dX10_step_104 : decode cX10_step 104 = .ok (.iload_n 1, 1) := by decide +kernel
theorem dX10_step_105 : decode cX10_step 105 = .ok (.iaload, 1) := by decide +kernel
theorem dX10_step_91 : decode cX10_step 91 = .ok (.aload_n 0, 1) := by decide +kernel
theorem dX10_step_92 : decode cX10_step 92 = .ok (.getfield 202, 3) := by decide +kernel
theorem dX10_step_95 : decode cX10_step 95 = .ok (.iload_n 1, 1) := by decide +kernel
theorem dX10_step_96 : decode cX10_step 96 = .ok (.iaload, 1) := by decide +kernel
theorem dX10_step_97 : decode cX10_step 97 = .ok (.goto 9, 3) := by decide +kernel
theorem dX10_step_77 : decode cX10_step 77 = .ok (.aload_n 0, 1) := by decide +kernel
theorem dX10_step_78 : decode cX10_step 78 = .ok (.getfield 199, 3) := by decide +kernel
theorem dX10_step_81 : decode cX10_step 81 = .ok (.iload_n 1, 1) := by decide +kernel
theorem dX10_step_82 : decode cX10_step 82 = .ok (.iaload, 1) := by decide +kernel
theorem dX10_step_83 : decode cX10_step 83 = .ok (.goto 23, 3) := by decide +kernel
theorem dX10_step_63 : decode cX10_step 63 = .ok (.aload_n 0, 1) := by decide +kernel
theorem dX10_step_64 : decode cX10_step 64 = .ok (.getfield 196, 3) := by decide +kernel
theorem dX10_step_67 : decode cX10_step 67 = .ok (.iload_n 1, 1) := by decide +kernel
theorem dX10_step_68 : decode cX10_step 68 = .ok (.iaload, 1) := by decide +kernel
theorem dX10_step_69 : decode cX10_step 69 = .ok (.goto 37, 3) := by decide +kernel
theorem dX10_step_55 : decode cX10_step 55 = .ok (.ldc_w 302, 3) := by decide +kernel
theorem dX10_step_58 : decode cX10_step 58 = .ok (.ireturn, 1) := by decide +kernel
theorem dX10_step_106 : decode cX10_step 106 = .ok (.ireturn, 1) := by decide +kernel
def wo_step : List Cond := [.code yX10_step cX10_step 3 (some .int), .constant RX10 302 1000000000]
def wr_step : List Cond := (wfX10 ++ ([]))
def w_step : List Cond := wo_step ++ wr_step
theorem wg_step : GW w_step := GW_app (GW_of (by decide +kernel)) (GW_app (wg_fX10) (GW_nil))
theorem in_step : ∀ w ∈ wfX10, w ∈ w_step := fun _ h => List.mem_append_right _ (List.mem_append_left _ h)
set_option maxHeartbeats 4000000 in
set_option maxRecDepth 100000 in
theorem ct_step (l : Launch) (E : gE) (B : Nat → Nat) (Q : Int32 → VS → Prop) (p1 : Int32) (p2 : Int32) (σ : VS) (hw : wp_step Q p1 p2 σ) : CtI l E yX10_step w_step (({ frames := 0, cells := 0, slots := 0, locals := 0 } : Room)) (wm E B σ) [.ref (B 0), .int p1, .int p2] (fun r w => ∃ σ' : VS, Q r σ' ∧ w = wm E B σ') := by
  refine VC_I (cc := cX10_step) (mL := 3) (rt := (some .int)) (lv0 := [(0, .ref (B 0)), (1, .int p1), (2, .int p2)]) rfl (by decide) rfl (Nat.le_of_ble_eq_true rfl) ?_
  intro p e s m below meth c A F
  replace F : Fx p s m _ meth c A E cX10_step 3 (some .int) RX10 w_step := F
  have J_106 : ∀ (k0 : Int32) (σ : VS), b_step_106 Q k0 σ → WB p l e (({ frames := 0, cells := 0, slots := 0, locals := 0 } : Room)) s m (#[.ref (B 0), .int p1, .int p2]) below meth c (MQ below (va_Qi (fun r w => ∃ σ' : VS, Q r σ' ∧ w = wm E B σ') (AftU E A) A) (#[.ref (B 0), .int p1, .int p2]) s (({ frames := 0, cells := 0, slots := 0, locals := 0 } : Room)).cells (({ frames := 0, cells := 0, slots := 0, locals := 0 } : Room)).slots A) A E (wm E B) 3 106 [] [.int k0] σ := by
    intro k0 σ hw
    unfold b_step_106 at hw
    exact R_iret (Qc := Q) F rfl dX10_step_106 hw
  have J_55 : ∀ (σ : VS), b_step_55 Q σ → WB p l e (({ frames := 0, cells := 0, slots := 0, locals := 0 } : Room)) s m (#[.ref (B 0), .int p1, .int p2]) below meth c (MQ below (va_Qi (fun r w => ∃ σ' : VS, Q r σ' ∧ w = wm E B σ') (AftU E A) A) (#[.ref (B 0), .int p1, .int p2]) s (({ frames := 0, cells := 0, slots := 0, locals := 0 } : Room)).cells (({ frames := 0, cells := 0, slots := 0, locals := 0 } : Room)).slots A) A E (wm E B) 3 55 [] [] σ := by
    intro σ hw
    unfold b_step_55 at hw
    refine R_ldcw F 1000000000 (List.mem_append_left _ (show Cond.constant RX10 302 1000000000 ∈ wo_step by decide +kernel)) dX10_step_55 ?_
    exact R_iret (Qc := Q) F rfl dX10_step_58 hw
  have J_34 : ∀ (l1 : Int32) (l2 : Int32) (σ : VS), b_step_34 Q l1 l2 σ → WB p l e (({ frames := 0, cells := 0, slots := 0, locals := 0 } : Room)) s m (#[.ref (B 0), .int p1, .int p2]) below meth c (MQ below (va_Qi (fun r w => ∃ σ' : VS, Q r σ' ∧ w = wm E B σ') (AftU E A) A) (#[.ref (B 0), .int p1, .int p2]) s (({ frames := 0, cells := 0, slots := 0, locals := 0 } : Room)).cells (({ frames := 0, cells := 0, slots := 0, locals := 0 } : Room)).slots A) A E (wm E B) 3 34 [(0, .ref (B 0)), (1, .int l1), (2, .int l2)] [] σ := by
    intro l1 l2 σ hw
    unfold b_step_34 at hw
    refine R_iload_n F dX10_step_34 rfl 1 rfl ?_
    refine R_if_lt (tgt := 55) F dX10_step_35 (by decide) (fun hc => ?_) (fun hc => ?_)
    · replace hw := hw.1 hc
      exact R_sub [] rfl (J_55 σ hw)
    · replace hw := hw.2 hc
      refine R_iload_n F dX10_step_38 rfl 1 rfl ?_
      refine R_aload_n F dX10_step_39 rfl 0 rfl ?_
      refine gm_62 F in_step dX10_step_40 ?_
      refine R_icmp_ge (tgt := 55) F dX10_step_43 (by decide) (fun hc => ?_) (fun hc => ?_)
      · replace hw := hw.1 hc
        exact R_sub [] rfl (J_55 σ hw)
      · replace hw := hw.2 hc
        refine R_iload_n F dX10_step_46 rfl 2 rfl ?_
        refine R_if_lt (tgt := 55) F dX10_step_47 (by decide) (fun hc => ?_) (fun hc => ?_)
        · replace hw := hw.1 hc
          exact R_sub [] rfl (J_55 σ hw)
        · replace hw := hw.2 hc
          refine R_iload_n F dX10_step_50 rfl 2 rfl ?_
          refine R_iconst F 3 dX10_step_51 (by decide) ?_
          refine R_icmp_le (tgt := 59) F dX10_step_52 (by decide) (fun hc => ?_) (fun hc => ?_)
          · replace hw := hw.1 hc
            refine R_iload_n F dX10_step_59 rfl 2 rfl ?_
            refine R_if_ne (tgt := 72) F dX10_step_60 (by decide) (fun hc => ?_) (fun hc => ?_)
            · replace hw := hw.1 hc
              refine R_iload_n F dX10_step_72 rfl 2 rfl ?_
              refine R_iconst F 1 dX10_step_73 (by decide) ?_
              refine R_icmp_ne (tgt := 86) F dX10_step_74 (by decide) (fun hc => ?_) (fun hc => ?_)
              · replace hw := hw.1 hc
                refine R_iload_n F dX10_step_86 rfl 2 rfl ?_
                refine R_iconst F 2 dX10_step_87 (by decide) ?_
                refine R_icmp_ne (tgt := 100) F dX10_step_88 (by decide) (fun hc => ?_) (fun hc => ?_)
                · replace hw := hw.1 hc
                  refine R_aload_n F dX10_step_100 rfl 0 rfl ?_
                  refine gm_66 F in_step dX10_step_101 ?_
                  refine R_iload_n F dX10_step_104 rfl 1 rfl ?_
                  refine R_ldi F qm_66 dX10_step_105 hw.1 ?_
                  replace hw := hw.2
                  exact R_sub [] rfl (J_106 (rd σ 66 l1) σ hw)
                · replace hw := hw.2 hc
                  refine R_aload_n F dX10_step_91 rfl 0 rfl ?_
                  refine gm_65 F in_step dX10_step_92 ?_
                  refine R_iload_n F dX10_step_95 rfl 1 rfl ?_
                  refine R_ldi F qm_65 dX10_step_96 hw.1 ?_
                  replace hw := hw.2
                  refine R_goto (tgt := 106) F dX10_step_97 (by decide) ?_
                  exact R_sub [] rfl (J_106 (rd σ 65 l1) σ hw)
              · replace hw := hw.2 hc
                refine R_aload_n F dX10_step_77 rfl 0 rfl ?_
                refine gm_64 F in_step dX10_step_78 ?_
                refine R_iload_n F dX10_step_81 rfl 1 rfl ?_
                refine R_ldi F qm_64 dX10_step_82 hw.1 ?_
                replace hw := hw.2
                refine R_goto (tgt := 106) F dX10_step_83 (by decide) ?_
                exact R_sub [] rfl (J_106 (rd σ 64 l1) σ hw)
            · replace hw := hw.2 hc
              refine R_aload_n F dX10_step_63 rfl 0 rfl ?_
              refine gm_63 F in_step dX10_step_64 ?_
              refine R_iload_n F dX10_step_67 rfl 1 rfl ?_
              refine R_ldi F qm_63 dX10_step_68 hw.1 ?_
              replace hw := hw.2
              refine R_goto (tgt := 106) F dX10_step_69 (by decide) ?_
              exact R_sub [] rfl (J_106 (rd σ 63 l1) σ hw)
          · replace hw := hw.2 hc
            exact R_sub [] rfl (J_55 σ hw)
  have J_17 : ∀ (l1 : Int32) (l2 : Int32) (σ : VS), b_step_17 Q l1 l2 σ → WB p l e (({ frames := 0, cells := 0, slots := 0, locals := 0 } : Room)) s m (#[.ref (B 0), .int p1, .int p2]) below meth c (MQ below (va_Qi (fun r w => ∃ σ' : VS, Q r σ' ∧ w = wm E B σ') (AftU E A) A) (#[.ref (B 0), .int p1, .int p2]) s (({ frames := 0, cells := 0, slots := 0, locals := 0 } : Room)).cells (({ frames := 0, cells := 0, slots := 0, locals := 0 } : Room)).slots A) A E (wm E B) 3 17 [(0, .ref (B 0)), (1, .int l1), (2, .int l2)] [] σ := by
    intro l1 l2 σ hw
    unfold b_step_17 at hw
    refine R_aload_n F dX10_step_17 rfl 0 rfl ?_
    refine gm_62 F in_step dX10_step_18 ?_
    refine R_if_le (tgt := 34) F dX10_step_21 (by decide) (fun hc => ?_) (fun hc => ?_)
    · replace hw := hw.1 hc
      exact R_sub [0, 1, 2] rfl (J_34 l1 l2 σ hw)
    · replace hw := hw.2 hc
      refine R_iload_n F dX10_step_24 rfl 2 rfl ?_
      refine R_iconst F 5 dX10_step_25 (by decide) ?_
      refine R_icmp_ne (tgt := 34) F dX10_step_26 (by decide) (fun hc => ?_) (fun hc => ?_)
      · replace hw := hw.1 hc
        exact R_sub [0, 1, 2] rfl (J_34 l1 l2 σ hw)
      · replace hw := hw.2 hc
        refine R_aload_n F dX10_step_29 rfl 0 rfl ?_
        refine gm_68 F in_step dX10_step_30 ?_
        exact R_iret (Qc := Q) F rfl dX10_step_33 hw
  unfold wp_step at hw
  refine R_aload_n F dX10_step_0 rfl 0 rfl ?_
  refine gm_62 F in_step dX10_step_1 ?_
  refine R_if_le (tgt := 17) F dX10_step_4 (by decide) (fun hc => ?_) (fun hc => ?_)
  · replace hw := hw.1 hc
    exact R_sub [0, 1, 2] rfl (J_17 p1 p2 σ hw)
  · replace hw := hw.2 hc
    refine R_iload_n F dX10_step_7 rfl 2 rfl ?_
    refine R_iconst F 4 dX10_step_8 (by decide) ?_
    refine R_icmp_ne (tgt := 17) F dX10_step_9 (by decide) (fun hc => ?_) (fun hc => ?_)
    · replace hw := hw.1 hc
      exact R_sub [0, 1, 2] rfl (J_17 p1 p2 σ hw)
    · replace hw := hw.2 hc
      refine R_aload_n F dX10_step_12 rfl 0 rfl ?_
      refine gm_67 F in_step dX10_step_13 ?_
      exact R_iret (Qc := Q) F rfl dX10_step_16 hw
def b_area_49 (X4 : Int32 → Int32 → VS → Prop) (Q : Int32 → VS → Prop) (l1 : Int32) (l2 : Int32) (σ : VS) : Prop := X4 l1 (l2 + 1) σ
def b_area_4 (X4 : Int32 → Int32 → VS → Prop) (Q : Int32 → VS → Prop) (l1 : Int32) (l2 : Int32) (σ : VS) : Prop := (((σ.1 1).toInt ≤ l2.toInt → Q l1 σ) ∧ (l2.toInt < (σ.1 1).toInt → (In l2 50 ∧ (((rd σ 2 l2).toInt ≤ 0 → b_area_49 X4 Q l1 l2 σ) ∧ (0 < (rd σ 2 l2).toInt → (In l2 50 ∧ ((5 ≤ (rd σ 2 l2).toInt → b_area_49 X4 Q l1 l2 σ) ∧ ((rd σ 2 l2).toInt < 5 → (In l2 50 ∧ (In l2 50 ∧ (∀ x1 : Int32, x1 = (l1 + ((1 + (rd σ 5 l2)) * (rd σ 3 l2))) → b_area_49 X4 Q x1 l2 σ)))))))))))
def wp_area (Q : Int32 → VS → Prop) (σ : VS) : Prop := ∀ (X4 : Int32 → Int32 → VS → Prop), (∀ (l1 : Int32) (l2 : Int32) (σ : VS), b_area_4 X4 Q l1 l2 σ → X4 l1 l2 σ) → X4 0 0 σ
theorem dX10_area_0 : decode cX10_area 0 = .ok (.iconst 0, 1) := by decide +kernel
theorem dX10_area_1 : decode cX10_area 1 = .ok (.istore_n 1, 1) := by decide +kernel
theorem dX10_area_2 : decode cX10_area 2 = .ok (.iconst 0, 1) := by decide +kernel
theorem dX10_area_3 : decode cX10_area 3 = .ok (.istore_n 2, 1) := by decide +kernel
theorem dX10_area_4 : decode cX10_area 4 = .ok (.iload_n 2, 1) := by decide +kernel
theorem dX10_area_5 : decode cX10_area 5 = .ok (.aload_n 0, 1) := by decide +kernel
theorem dX10_area_6 : decode cX10_area 6 = .ok (.getfield 7, 3) := by decide +kernel
theorem dX10_area_9 : decode cX10_area 9 = .ok (.if_icmp .ge 46, 3) := by decide +kernel
theorem dX10_area_55 : decode cX10_area 55 = .ok (.iload_n 1, 1) := by decide +kernel
theorem dX10_area_56 : decode cX10_area 56 = .ok (.ireturn, 1) := by decide +kernel
theorem dX10_area_12 : decode cX10_area 12 = .ok (.aload_n 0, 1) := by decide +kernel
theorem dX10_area_13 : decode cX10_area 13 = .ok (.getfield 18, 3) := by decide +kernel
theorem dX10_area_16 : decode cX10_area 16 = .ok (.iload_n 2, 1) := by decide +kernel
theorem dX10_area_17 : decode cX10_area 17 = .ok (.iaload, 1) := by decide +kernel
theorem dX10_area_18 : decode cX10_area 18 = .ok (.ifCond .le 31, 3) := by decide +kernel
theorem dX10_area_21 : decode cX10_area 21 = .ok (.aload_n 0, 1) := by decide +kernel
theorem dX10_area_22 : decode cX10_area 22 = .ok (.getfield 18, 3) := by decide +kernel
theorem dX10_area_25 : decode cX10_area 25 = .ok (.iload_n 2, 1) := by decide +kernel
theorem dX10_area_26 : decode cX10_area 26 = .ok (.iaload, 1) := by decide +kernel
theorem dX10_area_27 : decode cX10_area 27 = .ok (.iconst 5, 1) := by decide +kernel
theorem dX10_area_28 : decode cX10_area 28 = .ok (.if_icmp .ge 21, 3) := by decide +kernel
theorem dX10_area_31 : decode cX10_area 31 = .ok (.iload_n 1, 1) := by decide +kernel
theorem dX10_area_32 : decode cX10_area 32 = .ok (.iconst 1, 1) := by decide +kernel
theorem dX10_area_33 : decode cX10_area 33 = .ok (.aload_n 0, 1) := by decide +kernel
theorem dX10_area_34 : decode cX10_area 34 = .ok (.getfield 24, 3) := by decide +kernel
theorem dX10_area_37 : decode cX10_area 37 = .ok (.iload_n 2, 1) := by decide +kernel
theorem dX10_area_38 : decode cX10_area 38 = .ok (.iaload, 1) := by decide +kernel
theorem dX10_area_39 : decode cX10_area 39 = .ok (.iadd, 1) := by decide +kernel
theorem dX10_area_40 : decode cX10_area 40 = .ok (.aload_n 0, 1) := by decide +kernel
theorem dX10_area_41 : decode cX10_area 41 = .ok (.getfield 14, 3) := by decide +kernel
theorem dX10_area_44 : decode cX10_area 44 = .ok (.iload_n 2, 1) := by decide +kernel
theorem dX10_area_45 : decode cX10_area 45 = .ok (.iaload, 1) := by decide +kernel
theorem dX10_area_46 : decode cX10_area 46 = .ok (.imul, 1) := by decide +kernel
theorem dX10_area_47 : decode cX10_area 47 = .ok (.iadd, 1) := by decide +kernel
theorem dX10_area_48 : decode cX10_area 48 = .ok (.istore_n 1, 1) := by decide +kernel
theorem dX10_area_49 : decode cX10_area 49 = .ok (.iinc 2 1, 3) := by decide +kernel
theorem dX10_area_52 : decode cX10_area 52 = .ok (.goto (-48), 3) := by decide +kernel
def wo_area : List Cond := [.code yX10_area cX10_area 3 (some .int)]
def wr_area : List Cond := (wfX10 ++ ([]))
def w_area : List Cond := wo_area ++ wr_area
theorem wg_area : GW w_area := GW_app (GW_of (by decide +kernel)) (GW_app (wg_fX10) (GW_nil))
theorem in_area : ∀ w ∈ wfX10, w ∈ w_area := fun _ h => List.mem_append_right _ (List.mem_append_left _ h)
set_option maxHeartbeats 4000000 in
set_option maxRecDepth 100000 in
theorem ct_area (l : Launch) (E : gE) (B : Nat → Nat) (Q : Int32 → VS → Prop) (σ : VS) (hw : wp_area Q σ) : CtI l E yX10_area w_area (({ frames := 0, cells := 0, slots := 0, locals := 0 } : Room)) (wm E B σ) [.ref (B 0)] (fun r w => ∃ σ' : VS, Q r σ' ∧ w = wm E B σ') := by
  refine VC_I (cc := cX10_area) (mL := 3) (rt := (some .int)) (lv0 := [(0, .ref (B 0))]) rfl (by decide) rfl (Nat.le_of_ble_eq_true rfl) ?_
  intro p e s m below meth c A F
  replace F : Fx p s m _ meth c A E cX10_area 3 (some .int) RX10 w_area := F
  obtain ⟨X4, hX4⟩ : ∃ X : Int32 → Int32 → VS → Prop, X = fun l1 l2 σ => WB p l e (({ frames := 0, cells := 0, slots := 0, locals := 0 } : Room)) s m (#[.ref (B 0)]) below meth c (MQ below (va_Qi (fun r w => ∃ σ' : VS, Q r σ' ∧ w = wm E B σ') (AftU E A) A) (#[.ref (B 0)]) s (({ frames := 0, cells := 0, slots := 0, locals := 0 } : Room)).cells (({ frames := 0, cells := 0, slots := 0, locals := 0 } : Room)).slots A) A E (wm E B) 3 4 [(0, .ref (B 0)), (1, .int l1), (2, .int l2)] [] σ := ⟨_, rfl⟩
  have U_4 : ∀ (l1 : Int32) (l2 : Int32) (σ : VS), X4 l1 l2 σ → WB p l e (({ frames := 0, cells := 0, slots := 0, locals := 0 } : Room)) s m (#[.ref (B 0)]) below meth c (MQ below (va_Qi (fun r w => ∃ σ' : VS, Q r σ' ∧ w = wm E B σ') (AftU E A) A) (#[.ref (B 0)]) s (({ frames := 0, cells := 0, slots := 0, locals := 0 } : Room)).cells (({ frames := 0, cells := 0, slots := 0, locals := 0 } : Room)).slots A) A E (wm E B) 3 4 [(0, .ref (B 0)), (1, .int l1), (2, .int l2)] [] σ := by
    intro l1 l2 σ hw; rw [hX4] at hw; exact hw
  have J_49 : ∀ (l1 : Int32) (l2 : Int32) (σ : VS), b_area_49 X4 Q l1 l2 σ → WB p l e (({ frames := 0, cells := 0, slots := 0, locals := 0 } : Room)) s m (#[.ref (B 0)]) below meth c (MQ below (va_Qi (fun r w => ∃ σ' : VS, Q r σ' ∧ w = wm E B σ') (AftU E A) A) (#[.ref (B 0)]) s (({ frames := 0, cells := 0, slots := 0, locals := 0 } : Room)).cells (({ frames := 0, cells := 0, slots := 0, locals := 0 } : Room)).slots A) A E (wm E B) 3 49 [(0, .ref (B 0)), (1, .int l1), (2, .int l2)] [] σ := by
    intro l1 l2 σ hw
    unfold b_area_49 at hw
    refine R_iinc (q := 2) (v := (l2 + 1)) (lv' := [(2, .int (l2 + 1)), (0, .ref (B 0)), (1, .int l1)]) F dX10_area_49 rfl rfl (by decide) rfl ?_
    refine R_goto (tgt := 4) F dX10_area_52 (by decide) ?_
    exact R_sub [1, 2, 0] rfl (U_4 l1 (l2 + 1) σ hw)
  have C_4 : ∀ (l1 : Int32) (l2 : Int32) (σ : VS), b_area_4 X4 Q l1 l2 σ → X4 l1 l2 σ := by
    intro l1 l2 σ hw
    unfold b_area_4 at hw
    rw [hX4]
    show WB p l e (({ frames := 0, cells := 0, slots := 0, locals := 0 } : Room)) s m (#[.ref (B 0)]) below meth c (MQ below (va_Qi (fun r w => ∃ σ' : VS, Q r σ' ∧ w = wm E B σ') (AftU E A) A) (#[.ref (B 0)]) s (({ frames := 0, cells := 0, slots := 0, locals := 0 } : Room)).cells (({ frames := 0, cells := 0, slots := 0, locals := 0 } : Room)).slots A) A E (wm E B) 3 4 [(0, .ref (B 0)), (1, .int l1), (2, .int l2)] [] σ
    refine R_iload_n F dX10_area_4 rfl 2 rfl ?_
    refine R_aload_n F dX10_area_5 rfl 0 rfl ?_
    refine gm_1 F in_area dX10_area_6 ?_
    refine R_icmp_ge (tgt := 55) F dX10_area_9 (by decide) (fun hc => ?_) (fun hc => ?_)
    · replace hw := hw.1 hc
      refine R_iload_n F dX10_area_55 rfl 1 rfl ?_
      exact R_iret (Qc := Q) F rfl dX10_area_56 hw
    · replace hw := hw.2 hc
      refine R_aload_n F dX10_area_12 rfl 0 rfl ?_
      refine gm_2 F in_area dX10_area_13 ?_
      refine R_iload_n F dX10_area_16 rfl 2 rfl ?_
      refine R_ldi F qm_2 dX10_area_17 hw.1 ?_
      replace hw := hw.2
      refine R_if_le (tgt := 49) F dX10_area_18 (by decide) (fun hc => ?_) (fun hc => ?_)
      · replace hw := hw.1 hc
        exact R_sub [0, 1, 2] rfl (J_49 l1 l2 σ hw)
      · replace hw := hw.2 hc
        refine R_aload_n F dX10_area_21 rfl 0 rfl ?_
        refine gm_2 F in_area dX10_area_22 ?_
        refine R_iload_n F dX10_area_25 rfl 2 rfl ?_
        refine R_ldi F qm_2 dX10_area_26 hw.1 ?_
        replace hw := hw.2
        refine R_iconst F 5 dX10_area_27 (by decide) ?_
        refine R_icmp_ge (tgt := 49) F dX10_area_28 (by decide) (fun hc => ?_) (fun hc => ?_)
        · replace hw := hw.1 hc
          exact R_sub [0, 1, 2] rfl (J_49 l1 l2 σ hw)
        · replace hw := hw.2 hc
          refine R_iload_n F dX10_area_31 rfl 1 rfl ?_
          refine R_iconst F 1 dX10_area_32 (by decide) ?_
          refine R_aload_n F dX10_area_33 rfl 0 rfl ?_
          refine gm_5 F in_area dX10_area_34 ?_
          refine R_iload_n F dX10_area_37 rfl 2 rfl ?_
          refine R_ldi F qm_5 dX10_area_38 hw.1 ?_
          replace hw := hw.2
          refine R_iadd F dX10_area_39 ?_
          refine R_aload_n F dX10_area_40 rfl 0 rfl ?_
          refine gm_3 F in_area dX10_area_41 ?_
          refine R_iload_n F dX10_area_44 rfl 2 rfl ?_
          refine R_ldi F qm_3 dX10_area_45 hw.1 ?_
          replace hw := hw.2
          refine R_imul F dX10_area_46 ?_
          refine R_iadd F dX10_area_47 ?_
          refine R_topi (fun x1 ex1 => ?_)
          replace hw := hw x1 ex1
          refine R_istore_n (lv' := [(1, .int x1), (0, .ref (B 0)), (2, .int l2)]) F dX10_area_48 rfl (by decide) rfl ?_
          exact R_sub [1, 0, 2] rfl (J_49 x1 l2 σ hw)
  unfold wp_area at hw
  replace hw := hw X4 C_4
  refine R_iconst F 0 dX10_area_0 (by decide) ?_
  refine R_istore_n (lv' := [(1, .int 0), (0, .ref (B 0))]) F dX10_area_1 rfl (by decide) rfl ?_
  refine R_iconst F 0 dX10_area_2 (by decide) ?_
  refine R_istore_n (lv' := [(2, .int 0), (1, .int 0), (0, .ref (B 0))]) F dX10_area_3 rfl (by decide) rfl ?_
  exact R_sub [2, 1, 0] rfl (U_4 0 0 σ hw)
def b_count_48 (Q : Int32 → VS → Prop) (k0 : Int32) (σ : VS) : Prop := Q k0 σ
def wp_count (Q : Int32 → VS → Prop) (p1 : Int32) (σ : VS) : Prop := ((p1.toInt ≠ 0 → ((p1.toInt ≠ 1 → ((p1.toInt ≠ 2 → ((p1.toInt ≠ 3 → b_count_48 Q (-1) σ) ∧ (p1.toInt = 3 → b_count_48 Q (σ.1 20) σ))) ∧ (p1.toInt = 2 → b_count_48 Q (σ.1 25) σ))) ∧ (p1.toInt = 1 → b_count_48 Q (σ.1 21) σ))) ∧ (p1.toInt = 0 → b_count_48 Q (σ.1 1) σ))
theorem dX10_count_0 : decode cX10_count 0 = .ok (.iload_n 1, 1) := by decide +kernel
theorem dX10_count_1 : decode cX10_count 1 = .ok (.ifCond .ne 10, 3) := by decide +kernel
theorem dX10_count_11 : decode cX10_count 11 = .ok (.iload_n 1, 1) := by decide +kernel
theorem dX10_count_12 : decode cX10_count 12 = .ok (.iconst 1, 1) := by decide +kernel
theorem dX10_count_13 : decode cX10_count 13 = .ok (.if_icmp .ne 10, 3) := by decide +kernel
theorem dX10_count_23 : decode cX10_count 23 = .ok (.iload_n 1, 1) := by decide +kernel
theorem dX10_count_24 : decode cX10_count 24 = .ok (.iconst 2, 1) := by decide +kernel
theorem dX10_count_25 : decode cX10_count 25 = .ok (.if_icmp .ne 10, 3) := by decide +kernel
theorem dX10_count_35 : decode cX10_count 35 = .ok (.iload_n 1, 1) := by decide +kernel
theorem dX10_count_36 : decode cX10_count 36 = .ok (.iconst 3, 1) := by decide +kernel
theorem dX10_count_37 : decode cX10_count 37 = .ok (.if_icmp .ne 10, 3) := by decide +kernel
theorem dX10_count_47 : decode cX10_count 47 = .ok (.iconst (-1), 1) := by decide +kernel
theorem dX10_count_40 : decode cX10_count 40 = .ok (.aload_n 0, 1) := by decide +kernel
theorem dX10_count_41 : decode cX10_count 41 = .ok (.getfield 87, 3) := by decide +kernel
theorem dX10_count_44 : decode cX10_count 44 = .ok (.goto 4, 3) := by decide +kernel
theorem dX10_count_28 : decode cX10_count 28 = .ok (.aload_n 0, 1) := by decide +kernel
theorem dX10_count_29 : decode cX10_count 29 = .ok (.getfield 222, 3) := by decide +kernel
theorem dX10_count_32 : decode cX10_count 32 = .ok (.goto 16, 3) := by decide +kernel
theorem dX10_count_16 : decode cX10_count 16 = .ok (.aload_n 0, 1) := by decide +kernel
theorem dX10_count_17 : decode cX10_count 17 = .ok (.getfield 66, 3) := by decide +kernel
theorem dX10_count_20 : decode cX10_count 20 = .ok (.goto 28, 3) := by decide +kernel
theorem dX10_count_4 : decode cX10_count 4 = .ok (.aload_n 0, 1) := by decide +kernel
theorem dX10_count_5 : decode cX10_count 5 = .ok (.getfield 7, 3) := by decide +kernel
theorem dX10_count_8 : decode cX10_count 8 = .ok (.goto 40, 3) := by decide +kernel
theorem dX10_count_48 : decode cX10_count 48 = .ok (.ireturn, 1) := by decide +kernel
def wo_count : List Cond := [.code yX10_count cX10_count 2 (some .int)]
def wr_count : List Cond := (wfX10 ++ ([]))
def w_count : List Cond := wo_count ++ wr_count
theorem wg_count : GW w_count := GW_app (GW_of (by decide +kernel)) (GW_app (wg_fX10) (GW_nil))
theorem in_count : ∀ w ∈ wfX10, w ∈ w_count := fun _ h => List.mem_append_right _ (List.mem_append_left _ h)
set_option maxHeartbeats 4000000 in
set_option maxRecDepth 100000 in
theorem ct_count (l : Launch) (E : gE) (B : Nat → Nat) (Q : Int32 → VS → Prop) (p1 : Int32) (σ : VS) (hw : wp_count Q p1 σ) : CtI l E yX10_count w_count (({ frames := 0, cells := 0, slots := 0, locals := 0 } : Room)) (wm E B σ) [.ref (B 0), .int p1] (fun r w => ∃ σ' : VS, Q r σ' ∧ w = wm E B σ') := by
  refine VC_I (cc := cX10_count) (mL := 2) (rt := (some .int)) (lv0 := [(0, .ref (B 0)), (1, .int p1)]) rfl (by decide) rfl (Nat.le_of_ble_eq_true rfl) ?_
  intro p e s m below meth c A F
  replace F : Fx p s m _ meth c A E cX10_count 2 (some .int) RX10 w_count := F
  have J_48 : ∀ (k0 : Int32) (σ : VS), b_count_48 Q k0 σ → WB p l e (({ frames := 0, cells := 0, slots := 0, locals := 0 } : Room)) s m (#[.ref (B 0), .int p1]) below meth c (MQ below (va_Qi (fun r w => ∃ σ' : VS, Q r σ' ∧ w = wm E B σ') (AftU E A) A) (#[.ref (B 0), .int p1]) s (({ frames := 0, cells := 0, slots := 0, locals := 0 } : Room)).cells (({ frames := 0, cells := 0, slots := 0, locals := 0 } : Room)).slots A) A E (wm E B) 2 48 [] [.int k0] σ := by
    intro k0 σ hw
    unfold b_count_48 at hw
    exact R_iret (Qc := Q) F rfl dX10_count_48 hw
  unfold wp_count at hw
  refine R_iload_n F dX10_count_0 rfl 1 rfl ?_
  refine R_if_ne (tgt := 11) F dX10_count_1 (by decide) (fun hc => ?_) (fun hc => ?_)
  · replace hw := hw.1 hc
    refine R_iload_n F dX10_count_11 rfl 1 rfl ?_
    refine R_iconst F 1 dX10_count_12 (by decide) ?_
    refine R_icmp_ne (tgt := 23) F dX10_count_13 (by decide) (fun hc => ?_) (fun hc => ?_)
    · replace hw := hw.1 hc
      refine R_iload_n F dX10_count_23 rfl 1 rfl ?_
      refine R_iconst F 2 dX10_count_24 (by decide) ?_
      refine R_icmp_ne (tgt := 35) F dX10_count_25 (by decide) (fun hc => ?_) (fun hc => ?_)
      · replace hw := hw.1 hc
        refine R_iload_n F dX10_count_35 rfl 1 rfl ?_
        refine R_iconst F 3 dX10_count_36 (by decide) ?_
        refine R_icmp_ne (tgt := 47) F dX10_count_37 (by decide) (fun hc => ?_) (fun hc => ?_)
        · replace hw := hw.1 hc
          refine R_iconst F (-1) dX10_count_47 (by decide) ?_
          exact R_sub [] rfl (J_48 (-1) σ hw)
        · replace hw := hw.2 hc
          refine R_aload_n F dX10_count_40 rfl 0 rfl ?_
          refine gm_20 F in_count dX10_count_41 ?_
          refine R_goto (tgt := 48) F dX10_count_44 (by decide) ?_
          exact R_sub [] rfl (J_48 (σ.1 20) σ hw)
      · replace hw := hw.2 hc
        refine R_aload_n F dX10_count_28 rfl 0 rfl ?_
        refine gm_25 F in_count dX10_count_29 ?_
        refine R_goto (tgt := 48) F dX10_count_32 (by decide) ?_
        exact R_sub [] rfl (J_48 (σ.1 25) σ hw)
    · replace hw := hw.2 hc
      refine R_aload_n F dX10_count_16 rfl 0 rfl ?_
      refine gm_21 F in_count dX10_count_17 ?_
      refine R_goto (tgt := 48) F dX10_count_20 (by decide) ?_
      exact R_sub [] rfl (J_48 (σ.1 21) σ hw)
  · replace hw := hw.2 hc
    refine R_aload_n F dX10_count_4 rfl 0 rfl ?_
    refine gm_1 F in_count dX10_count_5 ?_
    refine R_goto (tgt := 48) F dX10_count_8 (by decide) ?_
    exact R_sub [] rfl (J_48 (σ.1 1) σ hw)
