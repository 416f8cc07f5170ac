section
variable {X38 : Int32 → Int32 → Int32 → Int32 → Int32 → Int32 → VS → Prop} {X57 : Int32 → Int32 → Int32 → Int32 → Int32 → Int32 → Int32 → VS → Prop} {Q : Int32 → VS → Prop}
theorem mk_272 {A B C D : Int} {l5 l9 l10 l11 l20 : Int32} {l12 l14 l16 l18 l21 : Int64} {σ : VS} (hA : 0 ≤ A) (hB : 0 ≤ B) (hC : 0 ≤ C) (hD : 0 ≤ D) (hAB : 1 ≤ A + B ∧ A + B ≤ 40) (hCD : 1 ≤ C + D ∧ C + D ≤ 48) (h12 : l12.toInt = A + B) (h14 : l14.toInt = C + D) (h16 : l16.toInt = B) (h18 : l18.toInt = D) (h20 : 0 ≤ l20.toInt ∧ l20.toInt ≤ 63) (h9 : 0 ≤ l9.toInt ∧ l9.toInt ≤ 2) (h10 : l10.toInt ≠ 0 → l20.toInt ≤ 62) (h11 : l11.toInt ≠ 0 → l9.toInt ≤ 1) (h21 : 0 ≤ l21.toInt ∧ l21.toInt ≤ (A * C + A * D + B * C) * 3000) (hM : MI σ) (hq : ∀ (r : Int32) (σ' : VS), 0 ≤ r.toInt ∧ r.toInt ≤ 3000 → MI σ' → Eo [30] [] σ σ' → Q r σ') : b_lookUp_272 X38 X57 Q l5 l9 l10 l11 l12 l14 l16 l18 l20 l21 σ := by
  have e : l12.toInt * l14.toInt = A * C + A * D + B * C + B * D := by rw [h12, h14, Int.add_mul, Int.mul_add, Int.mul_add]; omega
  have p1 := (mu_bd (a := A) (b := C) (A := 40) (B := 48) (by omega) (by omega))
  have p2 := (mu_bd (a := A) (b := D) (A := 40) (B := 48) (by omega) (by omega))
  have p3 := (mu_bd (a := B) (b := C) (A := 40) (B := 48) (by omega) (by omega))
  have p4 := (mu_bd (a := B) (b := D) (A := 40) (B := 48) (by omega) (by omega))
  unfold b_lookUp_272
  have h305 : b_lookUp_305 X38 X57 Q l5 l12 l14 l21 σ := mk_305 (by omega) (by omega) ⟨h21.1, by rw [e]; omega⟩ (fun r hr => hq r σ hr hM Eo.rfl)
  refine ⟨fun _ => h305, fun a => ⟨fun _ => h305, fun b => ?_⟩⟩
  have k1 := h10 a
  have k2 := h11 b
  have t1 : (l20 + 1).toInt = l20.toInt + 1 := i3_addc rfl rfl rfl (by omega)
  have t2 : (l9 + 1).toInt = l9.toInt + 1 := i3_addc rfl rfl rfl (by omega)
  refine rg_number (by omega) (by omega) hM (fun r τ hr hT hE => ?_)
  intro x hx
  have s1 : (l16 * l18).toInt = l16.toInt * l18.toInt := i6_mul rfl (by rw [h16, h18]; omega)
  rw [h16, h18] at s1
  have m4 := mu_bd (a := B * D) (b := r.toInt) (A := B * D) (B := 3000) ⟨p4.1, Int.le_refl _⟩ hr
  have s2 : ((l16 * l18) * r).toInt = (l16 * l18).toInt * r.toInt := i6_mul rfl (by rw [s1]; omega)
  rw [s1] at s2
  have s3 := i6_add hx (by omega)
  exact mk_305 (by omega) (by omega) ⟨by omega, by rw [e]; omega⟩ (fun r2 hr2 => hq r2 τ hr2 hT hE)
theorem mk_243 {A B C D : Int} {l5 l9 l10 l11 l20 : Int32} {l12 l14 l16 l18 l21 : Int64} {σ : VS} (hA : 0 ≤ A) (hB : 0 ≤ B) (hC : 0 ≤ C) (hD : 0 ≤ D) (hAB : 1 ≤ A + B ∧ A + B ≤ 40) (hCD : 1 ≤ C + D ∧ C + D ≤ 48) (h12 : l12.toInt = A + B) (h14 : l14.toInt = C + D) (h16 : l16.toInt = B) (h18 : l18.toInt = D) (h20 : 0 ≤ l20.toInt ∧ l20.toInt ≤ 63) (h9 : 0 ≤ l9.toInt ∧ l9.toInt ≤ 2) (h10 : l10.toInt ≠ 0 → l20.toInt ≤ 62) (h11 : l11.toInt ≠ 0 → l9.toInt ≤ 1) (h21 : 0 ≤ l21.toInt ∧ l21.toInt ≤ (A * C + A * D) * 3000) (hM : MI σ) (hq : ∀ (r : Int32) (σ' : VS), 0 ≤ r.toInt ∧ r.toInt ≤ 3000 → MI σ' → Eo [30] [] σ σ' → Q r σ') : b_lookUp_243 X38 X57 Q l5 l9 l10 l11 l12 l14 l16 l18 l20 l21 σ := by
  have p1 := (mu_bd (a := A) (b := C) (A := 40) (B := 48) (by omega) (by omega))
  have p2 := (mu_bd (a := A) (b := D) (A := 40) (B := 48) (by omega) (by omega))
  have p3 := (mu_bd (a := B) (b := C) (A := 40) (B := 48) (by omega) (by omega))
  unfold b_lookUp_243
  refine ⟨fun _ => mk_272 hA hB hC hD hAB hCD h12 h14 h16 h18 h20 h9 h10 h11 ⟨h21.1, by omega⟩ hM hq, fun a => ?_⟩
  have k1 := h10 a
  have t1 : (l20 + 1).toInt = l20.toInt + 1 := i3_addc rfl rfl rfl (by omega)
  refine rg_number (by omega) h9 hM (fun r τ hr hT hE => ?_)
  intro x hx
  have s0 : (l14 - l18).toInt = l14.toInt - l18.toInt := i6_sub rfl (by omega)
  have s00 : (l14 - l18).toInt = C := by omega
  have s1 : (l16 * (l14 - l18)).toInt = l16.toInt * (l14 - l18).toInt := i6_mul rfl (by rw [h16, s00]; omega)
  rw [h16, s00] at s1
  have m4 := mu_bd (a := B * C) (b := r.toInt) (A := B * C) (B := 3000) ⟨p3.1, Int.le_refl _⟩ hr
  have s2 : ((l16 * (l14 - l18)) * r).toInt = (l16 * (l14 - l18)).toInt * r.toInt := i6_mul rfl (by rw [s1]; omega)
  rw [s1] at s2
  have s3 := i6_add hx (by omega)
  exact mk_272 hA hB hC hD hAB hCD h12 h14 h16 h18 h20 h9 h10 h11 ⟨by omega, by omega⟩ hT (fun r2 τ2 hr2 hT2 hE2 => hq r2 τ2 hr2 hT2 (hE.trans hE2))
theorem mk_155 {l1 l2 l5 l6 l7 l8 l9 l10 l11 : Int32} {l12 k0 : Int64} {σ : VS} (h1 : 0 ≤ l1.toInt ∧ l1.toInt ≤ 7) (h2 : 0 ≤ l2.toInt ∧ l2.toInt ≤ 1) (h6 : 0 ≤ l6.toInt ∧ l6.toInt ≤ 64) (h7 : 0 ≤ l7.toInt ∧ l7.toInt ≤ 64) (h8 : 0 ≤ l8.toInt ∧ l8.toInt ≤ 3) (h9 : 0 ≤ l9.toInt ∧ l9.toInt ≤ 2) (h10 : l10.toInt ≠ 0 → l8.toInt ≤ 2) (h11 : l11.toInt ≠ 0 → l9.toInt ≤ 1)
    (hx : ∀ r : Int32, (l8.toInt = 0 → r.toInt = 0) → (l8.toInt = 1 → r.toInt = 8) → (l8.toInt = 2 → r.toInt = 24) → (l8.toInt ≠ 0 → l8.toInt ≠ 1 → l8.toInt ≠ 2 → r.toInt = 64) → 0 ≤ l6.toInt - r.toInt ∧ l6.toInt - r.toInt ≤ l12.toInt) (hy : ∀ r : Int32, (l9.toInt = 0 → r.toInt = 0) → (l9.toInt = 1 → r.toInt = 16) → (l9.toInt ≠ 0 → l9.toInt ≠ 1 → r.toInt = 64) → 0 ≤ l7.toInt - r.toInt ∧ l7.toInt - r.toInt ≤ k0.toInt) (h12 : 1 ≤ l12.toInt ∧ l12.toInt ≤ 40) (hk : 1 ≤ k0.toInt ∧ k0.toInt ≤ 48) (hM : MI σ) (hq : ∀ (r : Int32) (σ' : VS), 0 ≤ r.toInt ∧ r.toInt ≤ 3000 → MI σ' → Eo [30] [] σ σ' → Q r σ') : b_lookUp_155 X38 X57 Q l1 l2 l5 l6 l7 l8 l9 l10 l11 l12 k0 σ := by
  unfold b_lookUp_155
  refine ld_s (fun r a0 a1 a2 a3 => ?_)
  have hx1 := hx r a0 a1 a2 a3
  intro x19 e19
  refine sl_s (fun r2 b0 b1 b2 => ?_)
  have hy1 := hy r2 b0 b1 b2
  intro x22 e22 x23 e23
  have t6 : (l6 - r).toInt = l6.toInt - r.toInt := i3_sub rfl (by omega)
  have t7 : (l7 - r2).toInt = l7.toInt - r2.toInt := i3_sub rfl (by omega)
  have s19 : x19.toInt = l6.toInt - r.toInt := by rw [e19, i6_of]; exact t6
  have s22 : x22.toInt = l7.toInt - r2.toInt := by rw [e22, i6_of]; exact t7
  have u1 : (8 * l1).toInt = 8 * l1.toInt := i3_mulc rfl rfl rfl (by omega)
  have u2 : (4 * l2).toInt = 4 * l2.toInt := i3_mulc rfl rfl rfl (by omega)
  have u3 : (8 * l1 + 4 * l2).toInt = (8 * l1).toInt + (4 * l2).toInt := i3_addc rfl rfl rfl (by omega)
  have u4 : x23.toInt = (8 * l1 + 4 * l2).toInt + l8.toInt := i3_addc rfl rfl e23 (by omega)
  obtain ⟨A, hA⟩ : ∃ A : Int, A = l12.toInt - x19.toInt := ⟨_, rfl⟩
  obtain ⟨C, hC⟩ : ∃ A : Int, A = k0.toInt - x22.toInt := ⟨_, rfl⟩
  obtain ⟨D, hD⟩ : ∃ A : Int, A = x22.toInt := ⟨_, rfl⟩
  obtain ⟨B, hB⟩ : ∃ A : Int, A = x19.toInt := ⟨_, rfl⟩
  have p1 := (mu_bd (a := A) (b := C) (A := 40) (B := 48) (by omega) (by omega))
  have p2 := (mu_bd (a := A) (b := D) (A := 40) (B := 48) (by omega) (by omega))
  have v1 : (l12 - x19).toInt = A := by rw [i6_sub rfl (by omega)]; omega
  have v2 : (k0 - x22).toInt = C := by rw [i6_sub rfl (by omega)]; omega
  have v3 : ((l12 - x19) * (k0 - x22)).toInt = A * C := by rw [i6_mul rfl (by rw [v1, v2]; omega), v1, v2]
  have v4 : ((l12 - x19) * x22).toInt = A * D := by rw [i6_mul rfl (by rw [v1, ← hD]; omega), v1, ← hD]
  refine rg_number (by omega) h9 hM (fun n1 τ hn1 hT hE => ?_)
  intro x26 e26
  have m1 := mu_bd (a := A * C) (b := n1.toInt) (A := A * C) (B := 3000) ⟨p1.1, Int.le_refl _⟩ hn1
  have s26 : x26.toInt = A * C * n1.toInt := by rw [i6_mul e26 (by rw [v3]; omega), v3]
  refine ⟨fun _ => ?_, fun b => ?_⟩
  · exact mk_243 (A := A) (B := B) (C := C) (D := D) (by omega) (by omega) (by omega) (by omega) (by omega) (by omega) (by omega) (by omega) (by omega) (by omega) (by omega) h9 (fun h => by have := h10 h; omega) h11 ⟨by omega, by omega⟩ hT (fun r2 τ2 hr2 hT2 hE2 => hq r2 τ2 hr2 hT2 (hE.trans hE2))
  · have k2 := h11 b
    have t2 : (l9 + 1).toInt = l9.toInt + 1 := i3_addc rfl rfl rfl (by omega)
    refine rg_number (by omega) (by omega) hT (fun n2 τ2 hn2 hT2 hE2 => ?_)
    intro x29 e29
    have m2 := mu_bd (a := A * D) (b := n2.toInt) (A := A * D) (B := 3000) ⟨p2.1, Int.le_refl _⟩ hn2
    have s28 : (((l12 - x19) * x22) * n2).toInt = A * D * n2.toInt := by rw [i6_mul rfl (by rw [v4]; omega), v4]
    have s29 := i6_add e29 (by omega)
    exact mk_243 (A := A) (B := B) (C := C) (D := D) (by omega) (by omega) (by omega) (by omega) (by omega) (by omega) (by omega) (by omega) (by omega) (by omega) (by omega) h9 (fun h => by have := h10 h; omega) h11 ⟨by omega, by omega⟩ hT2 (fun r3 τ3 hr3 hT3 hE3 => hq r3 τ3 hr3 hT3 ((hE.trans hE2).trans hE3))
/-- where x lies among the marks -/
def atL (x r : Int) : Prop := (r = 3 ∧ x = 64) ∨ (r = 2 ∧ 24 ≤ x ∧ x < 64) ∨ (r = 1 ∧ 8 ≤ x ∧ x < 24) ∨ (r = 0 ∧ 0 ≤ x ∧ x < 8)
def atS (y k : Int) : Prop := (k = 2 ∧ y = 64) ∨ (k = 1 ∧ 16 ≤ y ∧ y < 64) ∨ (k = 0 ∧ 0 ≤ y ∧ y < 16)
theorem mk_130 {l1 l2 l5 l6 l7 l8 l9 l10 l11 : Int32} {k0 : Int64} {σ : VS} (h1 : 0 ≤ l1.toInt ∧ l1.toInt ≤ 7) (h2 : 0 ≤ l2.toInt ∧ l2.toInt ≤ 1) (hL : atL l6.toInt l8.toInt) (hS : atS l7.toInt l9.toInt) (h10 : l10.toInt ≠ 0 → l8.toInt ≤ 2) (h11 : (l11.toInt ≠ 0 ∧ l9.toInt ≤ 1) ∨ (l11.toInt = 0 ∧ ∀ r : Int32, (l9.toInt = 0 → r.toInt = 0) → (l9.toInt = 1 → r.toInt = 16) → (l9.toInt ≠ 0 → l9.toInt ≠ 1 → r.toInt = 64) → l7.toInt = r.toInt))
    (hx : ∀ r : Int32, (l8.toInt = 0 → r.toInt = 0) → (l8.toInt = 1 → r.toInt = 8) → (l8.toInt = 2 → r.toInt = 24) → (l8.toInt ≠ 0 → l8.toInt ≠ 1 → l8.toInt ≠ 2 → r.toInt = 64) → 0 ≤ l6.toInt - r.toInt ∧ l6.toInt - r.toInt ≤ k0.toInt) (hk : 1 ≤ k0.toInt ∧ k0.toInt ≤ 40) (hM : MI σ) (hq : ∀ (r : Int32) (σ' : VS), 0 ≤ r.toInt ∧ r.toInt ≤ 3000 → MI σ' → Eo [30] [] σ σ' → Q r σ') : b_lookUp_130 X38 X57 Q l1 l2 l5 l6 l7 l8 l9 l10 l11 k0 σ := by
  unfold atL at hL
  unfold atS at hS
  unfold b_lookUp_130
  refine ⟨fun a => ?_, fun a => ?_⟩
  · have hy : ∀ r : Int32, (l9.toInt = 0 → r.toInt = 0) → (l9.toInt = 1 → r.toInt = 16) → (l9.toInt ≠ 0 → l9.toInt ≠ 1 → r.toInt = 64) → 0 ≤ l7.toInt - r.toInt ∧ l7.toInt - r.toInt ≤ (1 : Int64).toInt := by
      intro r b0 b1 b2
      have e1 : (1 : Int64).toInt = 1 := rfl
      rcases h11 with h | h
      · exact absurd a h.1
      · have := h.2 r b0 b1 b2
        omega
    exact mk_155 h1 h2 (by omega) (by omega) (by omega) (by omega) h10 (fun h => absurd a h) hx hy hk (by decide) hM hq
  · have k2 : l9.toInt ≤ 1 := by
      rcases h11 with h | h
      · exact h.2
      · exact absurd h.1 a
    have t2 : (l9 + 1).toInt = l9.toInt + 1 := i3_addc rfl rfl rfl (by omega)
    refine sl_s (fun r b0 b1 b2 => ?_)
    refine sl_s (fun r2 c0 c1 c2 => ?_)
    have t3 : (r - r2).toInt = r.toInt - r2.toInt := i3_sub rfl (by omega)
    have hy : ∀ r' : Int32, (l9.toInt = 0 → r'.toInt = 0) → (l9.toInt = 1 → r'.toInt = 16) → (l9.toInt ≠ 0 → l9.toInt ≠ 1 → r'.toInt = 64) → 0 ≤ l7.toInt - r'.toInt ∧ l7.toInt - r'.toInt ≤ (r - r2).toInt64.toInt := by
      intro r' d0 d1 d2
      rw [i6_of]
      omega
    exact mk_155 h1 h2 (by omega) (by omega) (by omega) (by omega) h10 (fun _ => k2) hx hy hk (by rw [i6_of]; omega) hM hq
theorem mk_105 {l1 l2 l5 l6 l7 l8 l9 l10 k0 : Int32} {σ : VS} (h1 : 0 ≤ l1.toInt ∧ l1.toInt ≤ 7) (h2 : 0 ≤ l2.toInt ∧ l2.toInt ≤ 1) (hL : atL l6.toInt l8.toInt) (hS : atS l7.toInt l9.toInt) (h10 : (l10.toInt ≠ 0 ∧ l8.toInt ≤ 2) ∨ (l10.toInt = 0 ∧ ∀ r : Int32, (l8.toInt = 0 → r.toInt = 0) → (l8.toInt = 1 → r.toInt = 8) → (l8.toInt = 2 → r.toInt = 24) → (l8.toInt ≠ 0 → l8.toInt ≠ 1 → l8.toInt ≠ 2 → r.toInt = 64) → l6.toInt = r.toInt)) (h11 : (k0.toInt ≠ 0 ∧ l9.toInt ≤ 1) ∨ (k0.toInt = 0 ∧ ∀ r : Int32, (l9.toInt = 0 → r.toInt = 0) → (l9.toInt = 1 → r.toInt = 16) → (l9.toInt ≠ 0 → l9.toInt ≠ 1 → r.toInt = 64) → l7.toInt = r.toInt)) (hM : MI σ) (hq : ∀ (r : Int32) (σ' : VS), 0 ≤ r.toInt ∧ r.toInt ≤ 3000 → MI σ' → Eo [30] [] σ σ' → Q r σ') : b_lookUp_105 X38 X57 Q l1 l2 l5 l6 l7 l8 l9 l10 k0 σ := by
  have hL2 := hL
  unfold atL at hL2
  unfold b_lookUp_105
  refine ⟨fun a => ?_, fun a => ?_⟩
  · refine mk_130 h1 h2 hL hS (fun h => absurd a h) h11 ?_ (by decide) hM hq
    intro r b0 b1 b2 b3
    have e1 : (1 : Int64).toInt = 1 := rfl
    rcases h10 with h | h
    · exact absurd a h.1
    · have := h.2 r b0 b1 b2 b3
      omega
  · have k2 : l8.toInt ≤ 2 := by
      rcases h10 with h | h
      · exact h.2
      · exact absurd h.1 a
    have t2 : (l8 + 1).toInt = l8.toInt + 1 := i3_addc rfl rfl rfl (by omega)
    refine ld_s (fun r b0 b1 b2 b3 => ?_)
    refine ld_s (fun r2 c0 c1 c2 c3 => ?_)
    have t3 : (r - r2).toInt = r.toInt - r2.toInt := i3_sub rfl (by omega)
    refine mk_130 h1 h2 hL hS (fun _ => k2) h11 ?_ (by rw [i6_of]; omega) hM hq
    intro r' d0 d1 d2 d3
    rw [i6_of]
    omega
end
set_option maxHeartbeats 2000000 in
theorem rg_lookUp {Q : Int32 → VS → Prop} {p1 p2 p3 p4 p5 : Int32} {σ : VS} (h1 : 0 ≤ p1.toInt ∧ p1.toInt ≤ 7) (h2 : 0 ≤ p2.toInt ∧ p2.toInt ≤ 1) (h3 : 0 ≤ p3.toInt ∧ p3.toInt ≤ 1000000) (h4 : 0 ≤ p4.toInt ∧ p4.toInt ≤ 1000000) (hM : MI σ) (hq : ∀ (r : Int32) (σ' : VS), 0 ≤ r.toInt ∧ r.toInt ≤ 3000 → MI σ' → Eo [30] [] σ σ' → Q r σ') : wp_lookUp Q p1 p2 p3 p4 p5 σ := by
  unfold wp_lookUp
  intro X38 X57 H38 H57
  have L57 : ∀ (d : Nat) (l6 l7 l8 l9 : Int32) (τ : VS), l9.toInt < (d : Int) → atL l6.toInt l8.toInt → 0 ≤ l7.toInt ∧ l7.toInt ≤ 64 → 0 ≤ l9.toInt ∧ l9.toInt ≤ 2 → (l9.toInt = 1 → l7.toInt < 64) → (l9.toInt = 0 → l7.toInt < 16) → MI τ → Eo [30] [] σ τ → X57 p1 p2 p5 l6 l7 l8 l9 τ := by
    intro d
    induction d with
    | zero => intro l6 l7 l8 l9 τ k1 k2 k3 k4; omega
    | succ d ih =>
      intro l6 l7 l8 l9 τ k1 hL k3 k4 k5 k6 hT hE
      refine H57 _ _ _ _ _ _ _ _ ?_
      unfold b_lookUp_57
      have hq' : ∀ (r : Int32) (σ' : VS), 0 ≤ r.toInt ∧ r.toInt ≤ 3000 → MI σ' → Eo [30] [] τ σ' → Q r σ' := fun r σ' a b c => hq r σ' a b (hE.trans c)
      refine sl_s (fun r a0 a1 a2 => ⟨fun hle => ?_, fun hlt => ?_⟩)
      · have hS : atS l7.toInt l9.toInt := by unfold atS; omega
        have hL2 := hL
        unfold atL at hL2
        have h88 : ∀ k0 : Int32, ((k0.toInt ≠ 0 ∧ l8.toInt ≤ 2) ∨ (k0.toInt = 0 ∧ ∀ r : Int32, (l8.toInt = 0 → r.toInt = 0) → (l8.toInt = 1 → r.toInt = 8) → (l8.toInt = 2 → r.toInt = 24) → (l8.toInt ≠ 0 → l8.toInt ≠ 1 → l8.toInt ≠ 2 → r.toInt = 64) → l6.toInt = r.toInt)) → b_lookUp_88 X38 X57 Q p1 p2 p5 l6 l7 l8 l9 k0 τ := by
          intro k0 hk
          unfold b_lookUp_88
          refine sl_s (fun r2 c0 c1 c2 => ⟨fun hle2 => ?_, fun hlt2 => ?_⟩)
          · refine mk_105 h1 h2 hL hS hk (Or.inr ⟨rfl, fun r3 d0 d1 d2 => by omega⟩) hT hq'
          · refine mk_105 h1 h2 hL hS hk (Or.inl ⟨by decide, by omega⟩) hT hq'
        refine ld_s (fun r2 c0 c1 c2 c3 => ⟨fun hle2 => h88 0 (Or.inr ⟨rfl, fun r3 d0 d1 d2 d3 => by omega⟩), fun hlt2 => h88 1 (Or.inl ⟨by decide, by omega⟩)⟩)
      · have t9 : (l9 + (-1)).toInt = l9.toInt + (-1) := i3_addc rfl rfl rfl (by omega)
        exact ih l6 l7 l8 (l9 + (-1)) τ (by omega) hL k3 (by omega) (by omega) (by omega) hT hE
  have L38 : ∀ (d : Nat) (l6 l7 l8 : Int32) (τ : VS), l8.toInt < (d : Int) → 0 ≤ l6.toInt ∧ l6.toInt ≤ 64 → 0 ≤ l7.toInt ∧ l7.toInt ≤ 64 → 0 ≤ l8.toInt ∧ l8.toInt ≤ 3 → (l8.toInt = 2 → l6.toInt < 64) → (l8.toInt = 1 → l6.toInt < 24) → (l8.toInt = 0 → l6.toInt < 8) → MI τ → Eo [30] [] σ τ → X38 p1 p2 p5 l6 l7 l8 τ := by
    intro d
    induction d with
    | zero => intro l6 l7 l8 τ k1 k2 k3 k4; omega
    | succ d ih =>
      intro l6 l7 l8 τ k1 k2 k3 k4 k5 k6 k7 hT hE
      refine H38 _ _ _ _ _ _ _ ?_
      unfold b_lookUp_38
      refine ld_s (fun r a0 a1 a2 a3 => ⟨fun hle => ?_, fun hlt => ?_⟩)
      · exact L57 3 l6 l7 l8 2 τ (by decide) (by unfold atL; omega) k3 (by decide) (fun h => absurd h (by decide)) (fun h => absurd h (by decide)) hT hE
      · have t9 : (l8 + (-1)).toInt = l8.toInt + (-1) := i3_addc rfl rfl rfl (by omega)
        exact ih l6 l7 (l8 + (-1)) τ (by omega) k2 k3 (by omega) (by omega) (by omega) (by omega) hT hE
  have h17 : ∀ k0 : Int32, 0 ≤ k0.toInt ∧ k0.toInt ≤ 64 → b_lookUp_17 X38 X57 Q p1 p2 p4 p5 k0 (sf σ 30 0) := by
    intro k0 hk
    have hT := hM.sf 30 0 (i3_bd _)
    have hE : Eo [30] [] σ (sf σ 30 0) := Eo.rfl.sf 30 0 (by decide)
    unfold b_lookUp_17 b_lookUp_33
    exact ⟨fun h => L38 4 k0 p4 3 _ (by decide) hk (by omega) (by decide) (fun h => absurd h (by decide)) (fun h => absurd h (by decide)) (fun h => absurd h (by decide)) hT hE, fun h => L38 4 k0 64 3 _ (by decide) hk (by decide) (by decide) (fun h => absurd h (by decide)) (fun h => absurd h (by decide)) (fun h => absurd h (by decide)) hT hE⟩
  exact ⟨fun h => h17 p3 (by omega), fun _ => h17 64 (by decide)⟩

