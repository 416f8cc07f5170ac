theorem i6_bd (a : Int64) : -9223372036854775808 ≤ a.toInt ∧ a.toInt ≤ 9223372036854775807 := by
  have h1 := Int64.minValue_le_toInt a
  have h2 := Int64.toInt_lt a
  have e : (Int64.minValue).toInt = -9223372036854775808 := by decide
  omega
theorem i6_bm {n : Int} (h : -9223372036854775808 ≤ n ∧ n ≤ 9223372036854775807) : n.bmod (2 ^ 64) = n := by
  rw [Int.bmod_def]
  omega
theorem i6_add {x a b : Int64} (e : x = a + b) (h : -9223372036854775808 ≤ a.toInt + b.toInt ∧ a.toInt + b.toInt ≤ 9223372036854775807) : x.toInt = a.toInt + b.toInt := by
  rw [e, Int64.toInt_add]; exact i6_bm h
theorem i6_sub {x a b : Int64} (e : x = a - b) (h : -9223372036854775808 ≤ a.toInt - b.toInt ∧ a.toInt - b.toInt ≤ 9223372036854775807) : x.toInt = a.toInt - b.toInt := by
  rw [e, Int64.toInt_sub]; exact i6_bm h
theorem i6_mul {x a b : Int64} (e : x = a * b) (h : -9223372036854775808 ≤ a.toInt * b.toInt ∧ a.toInt * b.toInt ≤ 9223372036854775807) : x.toInt = a.toInt * b.toInt := by
  rw [e, Int64.toInt_mul]; exact i6_bm h
theorem i6_div {x a b : Int64} (e : x = a / b) (h0 : 0 ≤ a.toInt) (h1 : 0 < b.toInt) : x.toInt = a.toInt / b.toInt := by
  have hbd := i6_bd a
  rw [e, Int64.toInt_div, Int.tdiv_eq_ediv_of_nonneg h0]
  have h2 : a.toInt / b.toInt ≤ a.toInt := Int.ediv_le_self _ h0
  have h3 : 0 ≤ a.toInt / b.toInt := Int.ediv_nonneg h0 (by omega)
  exact i6_bm (by omega)
theorem i6_of (a : Int32) : a.toInt64.toInt = a.toInt := Int32.toInt_toInt64 a
theorem i6_to {x : Int32} {a : Int64} (e : x = a.toInt32) (h : -2147483648 ≤ a.toInt ∧ a.toInt ≤ 2147483647) : x.toInt = a.toInt := by
  rw [e, Int64.toInt_toInt32]; exact i3_bm h
theorem i6_nz {y : Int64} (h : 0 < y.toInt) : ¬ y = 0 := by
  intro q
  rw [q] at h
  exact absurd h (by decide)
/-- a product of two numbers at least 0 -/
theorem mu_bd {a b A B : Int} (ha : 0 ≤ a ∧ a ≤ A) (hb : 0 ≤ b ∧ b ≤ B) : 0 ≤ a * b ∧ a * b ≤ A * B := ⟨Int.mul_nonneg ha.1 hb.1, Int.mul_le_mul ha.2 hb.2 hb.1 (by omega)⟩
theorem rg_number {Q : Int64 → VS → Prop} {p1 p2 : Int32} {σ : VS} (h1 : 0 ≤ p1.toInt ∧ p1.toInt ≤ 63) (h2 : 0 ≤ p2.toInt ∧ p2.toInt ≤ 2) (hM : MI σ) (hq : ∀ (r : Int64) (σ' : VS), 0 ≤ r.toInt ∧ r.toInt ≤ 3000 → MI σ' → Eo [30] [] σ σ' → Q r σ') : wp_number Q p1 p2 σ := by
  have h41 : ∀ τ : VS, MI τ → Eo [30] [] σ τ → b_number_41 Q p1 p2 τ := by
    intro τ hT hE
    unfold b_number_41 b_number_63
    have t1 : (3 * p1).toInt = 3 * p1.toInt := i3_mulc rfl rfl rfl (by omega)
    have t2 : (3 * p1 + p2).toInt = (3 * p1).toInt + p2.toInt := i3_addc rfl rfl rfl (by omega)
    have a1 : 0 ≤ (rd τ 15 (3 * p1 + p2)).toInt ∧ (rd τ 15 (3 * p1 + p2)).toInt ≤ 3000 := hT.2 15 _
    exact ⟨fun _ => ⟨⟨by omega, by omega⟩, hq _ τ (by rw [i6_of]; exact a1) hT hE⟩, fun _ => hq 0 τ (by decide) hT hE⟩
  have h38 : ∀ k : Int32, b_number_38 Q p1 p2 k σ := fun k => h41 _ (hM.sf 30 k (i3_bd _)) (Eo.rfl.sf 30 k (by decide))
  unfold wp_number
  exact ⟨fun _ => h41 σ hM Eo.rfl, fun _ => ⟨⟨by omega, by omega⟩, fun _ => ⟨⟨by omega, by omega⟩, fun _ => h38 0, fun _ => h38 _⟩, fun _ => h38 _⟩⟩
theorem ld_s {Q : Int32 → VS → Prop} {p1 : Int32} {σ : VS} (hq : ∀ r : Int32, (p1.toInt = 0 → r.toInt = 0) → (p1.toInt = 1 → r.toInt = 8) → (p1.toInt = 2 → r.toInt = 24) → (p1.toInt ≠ 0 → p1.toInt ≠ 1 → p1.toInt ≠ 2 → r.toInt = 64) → Q r σ) : wp_loadAt Q p1 σ := by
  unfold wp_loadAt b_loadAt_30
  exact ⟨fun a => ⟨fun b => ⟨fun c => hq 64 (fun h => absurd h a) (fun h => absurd h b) (fun h => absurd h c) (fun _ _ _ => rfl), fun c => hq 24 (fun h => absurd h a) (fun h => absurd h b) (fun _ => rfl) (fun _ _ h => absurd c h)⟩, fun b => hq 8 (fun h => absurd h a) (fun _ => rfl) (fun h => by omega) (fun _ h _ => absurd b h)⟩, fun a => hq 0 (fun _ => rfl) (fun h => by omega) (fun h => by omega) (fun h _ _ => absurd a h)⟩
theorem sl_s {Q : Int32 → VS → Prop} {p1 : Int32} {σ : VS} (hq : ∀ r : Int32, (p1.toInt = 0 → r.toInt = 0) → (p1.toInt = 1 → r.toInt = 16) → (p1.toInt ≠ 0 → p1.toInt ≠ 1 → r.toInt = 64) → Q r σ) : wp_slopeAt Q p1 σ := by
  unfold wp_slopeAt b_slopeAt_20
  exact ⟨fun a => ⟨fun b => hq 64 (fun h => absurd h a) (fun h => absurd h b) (fun _ _ => rfl), fun b => hq 16 (fun h => absurd h a) (fun _ => rfl) (fun _ h => absurd b h)⟩, fun a => hq 0 (fun _ => rfl) (fun h => by omega) (fun h _ => absurd a h)⟩
section
variable {X38 : Int32 → Int32 → Int32 → Int32 → Int32 → Int32 → VS → Prop} {X57 : Int32 → Int32 → Int32 → Int32 → Int32 → Int32 → Int32 → VS → Prop} {Q : Int32 → VS → Prop}
theorem mk_305 {l5 : Int32} {l12 l14 l21 : Int64} {σ : VS} (h12 : 1 ≤ l12.toInt ∧ l12.toInt ≤ 40) (h14 : 1 ≤ l14.toInt ∧ l14.toInt ≤ 48) (h21 : 0 ≤ l21.toInt ∧ l21.toInt ≤ l12.toInt * l14.toInt * 3000) (hq : ∀ r : Int32, 0 ≤ r.toInt ∧ r.toInt ≤ 3000 → Q r σ) : b_lookUp_305 X38 X57 Q l5 l12 l14 l21 σ := by
  intro x hx
  have hp1 : 1 * 1 ≤ l12.toInt * l14.toInt := Int.mul_le_mul h12.1 h14.1 (by decide) (by omega)
  have hp2 : l12.toInt * l14.toInt ≤ 40 * 48 := Int.mul_le_mul h12.2 h14.2 (by omega) (by decide)
  have tx := i6_mul hx (by omega)
  obtain ⟨P, hP⟩ : ∃ P : Int, P = l12.toInt * l14.toInt := ⟨_, rfl⟩
  rw [← hP] at tx hp1 hp2 h21
  refine ⟨fun _ => ⟨i6_nz (by omega), ?_⟩, fun _ => ⟨i6_nz (by omega), ?_⟩⟩
  · unfold b_lookUp_335
    have t1 := i6_div (x := l21 / x) rfl (by omega) (by omega)
    have h3 : 0 ≤ l21.toInt / x.toInt := Int.ediv_nonneg (by omega) (by omega)
    have h4 : l21.toInt / x.toInt ≤ 3000 := by
      have : l21.toInt / x.toInt < 3001 := Int.ediv_lt_of_lt_mul (by omega) (by rw [tx]; omega)
      omega
    have t2 := i6_to (x := (l21 / x).toInt32) rfl (by omega)
    exact hq _ (by omega)
  · unfold b_lookUp_335
    have t1 : (l21 + x).toInt = l21.toInt + x.toInt := i6_add rfl (by omega)
    have t2 : (l21 + x - 1).toInt = (l21 + x).toInt - (1 : Int64).toInt := i6_sub rfl (by have e : (1 : Int64).toInt = 1 := rfl; omega)
    have e1 : (1 : Int64).toInt = 1 := rfl
    have t3 := i6_div (x := (l21 + x - 1) / x) rfl (by omega) (by omega)
    have h3 : 0 ≤ (l21 + x - 1).toInt / x.toInt := Int.ediv_nonneg (by omega) (by omega)
    have h4 : (l21 + x - 1).toInt / x.toInt ≤ 3000 := by
      have : (l21 + x - 1).toInt / x.toInt < 3001 := Int.ediv_lt_of_lt_mul (by omega) (by rw [tx]; omega)
      omega
    have t4 := i6_to (x := ((l21 + x - 1) / x).toInt32) rfl (by omega)
    exact hq _ (by omega)
end

