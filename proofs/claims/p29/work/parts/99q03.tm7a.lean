def LUw (lf : Int → Int) (t part load slope : Int) : Int := whyM lf (8 * t + 4 * part + rowOf (min load 64)) (colOf (min slope 64)) (min load 64 - ldM (rowOf (min load 64))) (min slope 64 - slM (colOf (min slope 64)))
theorem at_row {x r : Int} (h : atL x r) : r = rowOf x := by
  unfold atL at h
  unfold rowOf
  rcases h with ⟨e, a⟩ | ⟨e, a⟩ | ⟨e, a⟩ | ⟨e, a⟩
  · rw [if_pos (by omega)]; exact e
  · rw [if_neg (by omega), if_pos (by omega)]; exact e
  · rw [if_neg (by omega), if_neg (by omega), if_pos (by omega)]; exact e
  · rw [if_neg (by omega), if_neg (by omega), if_neg (by omega)]; exact e
theorem at_col {y k : Int} (h : atS y k) : k = colOf y := by
  unfold atS at h
  unfold colOf
  rcases h with ⟨e, a⟩ | ⟨e, a⟩ | ⟨e, a⟩
  · rw [if_pos (by omega)]; exact e
  · rw [if_neg (by omega), if_pos (by omega)]; exact e
  · rw [if_neg (by omega), if_neg (by omega)]; exact e
/-- where nothing fails, the look-up is the number; where it fails, it is the reason -/
theorem LU_of {nm lf : Int → Int} {t part load slope : Int} {up : Prop} {dec : Decidable up} : (LUw lf t part load slope = 0 → LU nm lf t part load slope up dec = (LUs nm (8 * t + 4 * part + rowOf (min load 64)) (colOf (min slope 64)) (min load 64 - ldM (rowOf (min load 64))) (min slope 64 - slM (colOf (min slope 64))) (if 0 < min load 64 - ldM (rowOf (min load 64)) then ldM (rowOf (min load 64) + 1) - ldM (rowOf (min load 64)) else 1) (if 0 < min slope 64 - slM (colOf (min slope 64)) then slM (colOf (min slope 64) + 1) - slM (colOf (min slope 64)) else 1) + @ite Int up dec ((if 0 < min load 64 - ldM (rowOf (min load 64)) then ldM (rowOf (min load 64) + 1) - ldM (rowOf (min load 64)) else 1) * (if 0 < min slope 64 - slM (colOf (min slope 64)) then slM (colOf (min slope 64) + 1) - slM (colOf (min slope 64)) else 1) - 1) 0) / ((if 0 < min load 64 - ldM (rowOf (min load 64)) then ldM (rowOf (min load 64) + 1) - ldM (rowOf (min load 64)) else 1) * (if 0 < min slope 64 - slM (colOf (min slope 64)) then slM (colOf (min slope 64) + 1) - slM (colOf (min slope 64)) else 1))) ∧ (LUw lf t part load slope ≠ 0 → LU nm lf t part load slope up dec = LUw lf t part load slope) := by
  unfold LU LUr LUw whyM stp
  generalize min load 64 - ldM (rowOf (min load 64)) = bx
  generalize min slope 64 - slM (colOf (min slope 64)) = bo
  generalize wyA lf (8 * t + 4 * part + rowOf (min load 64)) (if 0 < bo then colOf (min slope 64) + 1 else colOf (min slope 64)) = a
  generalize wyA lf (8 * t + 4 * part + rowOf (min load 64) + 1) (if 0 < bo then colOf (min slope 64) + 1 else colOf (min slope 64)) = b
  by_cases c : a ≠ 0
  · rw [if_pos c, if_pos c]
    exact ⟨fun h => absurd h c, fun _ => rfl⟩
  · rw [if_neg c, if_neg c]
    by_cases d : 0 < bx
    · rw [if_pos d]
      refine ⟨fun h => ?_, fun h => ?_⟩
      · rw [if_neg (fun k => k.2 h)]
      · rw [if_pos ⟨d, h⟩]
    · rw [if_neg d, if_neg (fun k => d k.1)]
      exact ⟨fun _ => rfl, fun h => absurd rfl h⟩
set_option maxHeartbeats 2000000 in
theorem rx_lookUp {Q : Int32 → VS → Prop} {p1 p2 p3 p4 p5 : Int32} {σ : VS} (h1 : 0 ≤ p1.toInt ∧ p1.toInt ≤ 7) (h2 : 0 ≤ p2.toInt ∧ p2.toInt ≤ 1) (h3 : 0 ≤ p3.toInt) (h4 : 0 ≤ p4.toInt) (hM : MI σ) (hq : ∀ (r : Int32) (σ' : VS), MI σ' → Eo [30] [] σ σ' → (σ'.1 30).toInt = LUw (lfM σ) p1.toInt p2.toInt p3.toInt p4.toInt → ((σ'.1 30).toInt = 0 → r.toInt = LU (nmM σ) (lfM σ) p1.toInt p2.toInt p3.toInt p4.toInt (p5.toInt ≠ 0) inferInstance) → Q r σ') : wp_lookUp Q p1 p2 p3 p4 p5 σ := by
  unfold wp_lookUp
  intro X38 X57 H38 H57
  obtain ⟨τ, hτ⟩ : ∃ τ : VS, τ = sf σ 30 0 := ⟨_, rfl⟩
  have hT : MI τ := by rw [hτ]; exact hM.sf 30 0 (i3_bd _)
  have hE : Eo [30] [] σ τ := by rw [hτ]; exact Eo.rfl.sf 30 0 (by decide)
  have h0 : (τ.1 30).toInt = 0 := by rw [hτ, sf_same]; rfl
  have el : lfM τ = lfM σ := by unfold lfM; rw [hE.2 16 (by decide)]
  have en : nmM τ = nmM σ := by unfold nmM; rw [hE.2 15 (by decide)]
  have hlu : ∀ l6 l7 l8 l9 : Int32, l6.toInt = min p3.toInt 64 → l7.toInt = min p4.toInt 64 → atL l6.toInt l8.toInt → atS l7.toInt l9.toInt → LUm τ p1 p2 p5 l6 l7 l8 l9 Q := by
    intro l6 l7 l8 l9 e6 e7 hL hS r σ' a b c d
    rw [at_row hL, at_col hS, e6, e7, el] at c
    rw [at_row hL, at_col hS, e6, e7, en] at d
    refine hq r σ' a (hE.trans b) c (fun z => ?_)
    rw [d z]
    exact ((LU_of (nm := nmM σ) (lf := lfM σ) (up := p5.toInt ≠ 0) (dec := inferInstance)).1 (by unfold LUw; rw [← c]; exact z)).symm
  rw [← hτ]
  have L57 : ∀ (d : Nat) (l6 l7 l8 l9 : Int32), l9.toInt < (d : Int) → l6.toInt = min p3.toInt 64 → l7.toInt = min p4.toInt 64 → atL l6.toInt l8.toInt → 0 ≤ l9.toInt ∧ l9.toInt ≤ 2 → (l9.toInt = 1 → l7.toInt < 64) → (l9.toInt = 0 → l7.toInt < 16) → X57 p1 p2 p5 l6 l7 l8 l9 τ := by
    intro d
    induction d with
    | zero => intro l6 l7 l8 l9 k1 _ _ _ k4; omega
    | succ d ih =>
      intro l6 l7 l8 l9 k1 e6 e7 hL k4 k5 k6
      refine H57 _ _ _ _ _ _ _ _ ?_
      unfold b_lookUp_57
      have d0 : slM 0 = 0 := by decide
      have d1 : slM 1 = 16 := by decide
      have d2 : slM 2 = 64 := by decide
      refine sl_x k4 (fun r er => ⟨fun hle => ?_, fun hlt => ?_⟩)
      · have hS : atS l7.toInt l9.toInt := by
          unfold atS
          rcases (show l9.toInt = 0 ∨ l9.toInt = 1 ∨ l9.toInt = 2 by omega) with e | e | e <;> rw [e] at er ⊢
          · rw [d0] at er; omega
          · rw [d1] at er; have := k5 e; omega
          · rw [d2] at er; omega
        have f1 := fitL hL
        have f2 := fitS hS
        have h88 : ∀ k0 : Int32, (k0.toInt ≠ 0 ↔ 0 < l6.toInt - ldM l8.toInt) → b_lookUp_88 X38 X57 Q p1 p2 p5 l6 l7 l8 l9 k0 τ := by
          intro k0 hk
          unfold b_lookUp_88
          refine sl_x k4 (fun r2 er2 => ⟨fun hle2 => ?_, fun hlt2 => ?_⟩)
          · exact mx_105 h1 h2 hL hS hk ⟨fun z => absurd rfl z, fun z => by omega⟩ hT h0 (hlu l6 l7 l8 l9 e6 e7 hL hS)
          · exact mx_105 h1 h2 hL hS hk ⟨fun z => by omega, fun z => by decide⟩ hT h0 (hlu l6 l7 l8 l9 e6 e7 hL hS)
        refine ld_x f1.2.1 (fun r2 er2 => ⟨fun hle2 => h88 0 ⟨fun z => absurd rfl z, fun z => by omega⟩, fun hlt2 => h88 1 ⟨fun z => by omega, fun z => by decide⟩⟩)
      · have hne : l9.toInt ≠ 0 := fun e => by rw [e, d0] at er; omega
        obtain ⟨y9, q9⟩ : ∃ y9 : Int32, y9 = l9 + (-1) := ⟨_, rfl⟩
        rw [← q9]
        have t9 : y9.toInt = l9.toInt + (-1) := i3_addc rfl (show (-1 : Int32).toInt = -1 from rfl) q9 (by omega)
        clear q9
        refine ih l6 l7 l8 y9 (by omega) e6 e7 hL (by omega) (fun e => ?_) (fun e => ?_)
        · have e2 : l9.toInt = 2 := by omega
          rw [e2, d2] at er; omega
        · have e2 : l9.toInt = 1 := by omega
          rw [e2, d1] at er; omega
  have L38 : ∀ (d : Nat) (l6 l7 l8 : Int32), l8.toInt < (d : Int) → l6.toInt = min p3.toInt 64 → l7.toInt = min p4.toInt 64 → 0 ≤ l8.toInt ∧ l8.toInt ≤ 3 → (l8.toInt = 2 → l6.toInt < 64) → (l8.toInt = 1 → l6.toInt < 24) → (l8.toInt = 0 → l6.toInt < 8) → X38 p1 p2 p5 l6 l7 l8 τ := by
    intro d
    induction d with
    | zero => intro l6 l7 l8 k1 _ _ k4; omega
    | succ d ih =>
      intro l6 l7 l8 k1 e6 e7 k4 k5 k6 k7
      refine H38 _ _ _ _ _ _ _ ?_
      unfold b_lookUp_38
      have d0 : ldM 0 = 0 := by decide
      have d1 : ldM 1 = 8 := by decide
      have d2 : ldM 2 = 24 := by decide
      have d3 : ldM 3 = 64 := by decide
      refine ld_x k4 (fun r er => ⟨fun hle => ?_, fun hlt => ?_⟩)
      · refine L57 3 l6 l7 l8 2 (by decide) e6 e7 ?_ (by decide) (fun h => absurd h (by decide)) (fun h => absurd h (by decide))
        unfold atL
        rcases (show l8.toInt = 0 ∨ l8.toInt = 1 ∨ l8.toInt = 2 ∨ l8.toInt = 3 by omega) with e | e | e | e <;> rw [e] at er ⊢
        · rw [d0] at er; have := k7 e; omega
        · rw [d1] at er; have := k6 e; omega
        · rw [d2] at er; have := k5 e; omega
        · rw [d3] at er; omega
      · have hne : l8.toInt ≠ 0 := fun e => by rw [e, d0] at er; omega
        obtain ⟨y8, q8⟩ : ∃ y8 : Int32, y8 = l8 + (-1) := ⟨_, rfl⟩
        rw [← q8]
        have t9 : y8.toInt = l8.toInt + (-1) := i3_addc rfl (show (-1 : Int32).toInt = -1 from rfl) q8 (by omega)
        clear q8
        refine ih l6 l7 y8 (by omega) e6 e7 (by omega) (fun e => ?_) (fun e => ?_) (fun e => ?_)
        · have e2 : l8.toInt = 3 := by omega
          rw [e2, d3] at er; omega
        · have e2 : l8.toInt = 2 := by omega
          rw [e2, d2] at er; omega
        · have e2 : l8.toInt = 1 := by omega
          rw [e2, d1] at er; omega
  have e64 : (64 : Int32).toInt = 64 := rfl
  have h17 : ∀ k0 : Int32, k0.toInt = min p3.toInt 64 → b_lookUp_17 X38 X57 Q p1 p2 p4 p5 k0 τ := by
    intro k0 hk
    unfold b_lookUp_17 b_lookUp_33
    exact ⟨fun h => L38 4 k0 p4 3 (by decide) hk (by omega) (by decide) (fun e => absurd e (by decide)) (fun e => absurd e (by decide)) (fun e => absurd e (by decide)), fun h => L38 4 k0 64 3 (by decide) hk (by omega) (by decide) (fun e => absurd e (by decide)) (fun e => absurd e (by decide)) (fun e => absurd e (by decide))⟩
  exact ⟨fun h => h17 p3 (by omega), fun h => h17 64 (by omega)⟩
