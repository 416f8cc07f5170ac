theorem i6_bd (a : Int64) : -9223372036854775808 ≤ a.toInt ∧ a.toInt ≤ 9223372036854775807 := by
  have h1 := Int64.minValue_le_toInt a
  have h2 := Int64.toInt_lt a
  have e : (Int64.minValue).toInt = -9223372036854775808 := by decide
  omega
theorem i6_bm {n : Int} (h : -9223372036854775808 ≤ n ∧ n ≤ 9223372036854775807) : n.bmod (2 ^ 64) = n := by
  rw [Int.bmod_def]
  omega
theorem i6_add {x a b : Int64} (e : x = a + b) (h : -9223372036854775808 ≤ a.toInt + b.toInt ∧ a.toInt + b.toInt ≤ 9223372036854775807) : x.toInt = a.toInt + b.toInt := by
  rw [e, Int64.toInt_add]; exact i6_bm h
theorem i6_sub {x a b : Int64} (e : x = a - b) (h : -9223372036854775808 ≤ a.toInt - b.toInt ∧ a.toInt - b.toInt ≤ 9223372036854775807) : x.toInt = a.toInt - b.toInt := by
  rw [e, Int64.toInt_sub]; exact i6_bm h
theorem i6_mul {x a b : Int64} (e : x = a * b) (h : -9223372036854775808 ≤ a.toInt * b.toInt ∧ a.toInt * b.toInt ≤ 9223372036854775807) : x.toInt = a.toInt * b.toInt := by
  rw [e, Int64.toInt_mul]; exact i6_bm h
theorem i6_div {x a b : Int64} (e : x = a / b) (h0 : 0 ≤ a.toInt) (h1 : 0 < b.toInt) : x.toInt = a.toInt / b.toInt := by
  have hbd := i6_bd a
  rw [e, Int64.toInt_div, Int.tdiv_eq_ediv_of_nonneg h0]
  have h2 : a.toInt / b.toInt ≤ a.toInt := Int.ediv_le_self _ h0
  have h3 : 0 ≤ a.toInt / b.toInt := Int.ediv_nonneg h0 (by omega)
  exact i6_bm (by omega)
theorem i6_of (a : Int32) : a.toInt64.toInt = a.toInt := Int32.toInt_toInt64 a
theorem i6_to {x : Int32} {a : Int64} (e : x = a.toInt32) (h : -2147483648 ≤ a.toInt ∧ a.toInt ≤ 2147483647) : x.toInt = a.toInt := by
  rw [e, Int64.toInt_toInt32]; exact i3_bm h
theorem i6_nz {y : Int64} (h : 0 < y.toInt) : ¬ y = 0 := by
  intro q
  rw [q] at h
  exact absurd h (by decide)
/-- a product of two numbers at least 0 -/
theorem mu_bd {a b A B : Int} (ha : 0 ≤ a ∧ a ≤ A) (hb : 0 ≤ b ∧ b ≤ B) : 0 ≤ a * b ∧ a * b ≤ A * B := ⟨Int.mul_nonneg ha.1 hb.1, Int.mul_le_mul ha.2 hb.2 hb.1 (by omega)⟩
theorem ld_s {Q : Int32 → VS → Prop} {p1 : Int32} {σ : VS} (hq : ∀ r : Int32, (p1.toInt = 0 → r.toInt = 0) → (p1.toInt = 1 → r.toInt = 8) → (p1.toInt = 2 → r.toInt = 24) → (p1.toInt ≠ 0 → p1.toInt ≠ 1 → p1.toInt ≠ 2 → r.toInt = 64) → Q r σ) : wp_loadAt Q p1 σ := by
  unfold wp_loadAt b_loadAt_30
  exact ⟨fun a => ⟨fun b => ⟨fun c => hq 64 (fun h => absurd h a) (fun h => absurd h b) (fun h => absurd h c) (fun _ _ _ => rfl), fun c => hq 24 (fun h => absurd h a) (fun h => absurd h b) (fun _ => rfl) (fun _ _ h => absurd c h)⟩, fun b => hq 8 (fun h => absurd h a) (fun _ => rfl) (fun h => by omega) (fun _ h _ => absurd b h)⟩, fun a => hq 0 (fun _ => rfl) (fun h => by omega) (fun h => by omega) (fun h _ _ => absurd a h)⟩
theorem sl_s {Q : Int32 → VS → Prop} {p1 : Int32} {σ : VS} (hq : ∀ r : Int32, (p1.toInt = 0 → r.toInt = 0) → (p1.toInt = 1 → r.toInt = 16) → (p1.toInt ≠ 0 → p1.toInt ≠ 1 → r.toInt = 64) → Q r σ) : wp_slopeAt Q p1 σ := by
  unfold wp_slopeAt b_slopeAt_20
  exact ⟨fun a => ⟨fun b => hq 64 (fun h => absurd h a) (fun h => absurd h b) (fun _ _ => rfl), fun b => hq 16 (fun h => absurd h a) (fun _ => rfl) (fun _ h => absurd b h)⟩, fun a => hq 0 (fun _ => rfl) (fun h => by omega) (fun h _ => absurd a h)⟩
section
variable {X38 : Int32 → Int32 → Int32 → Int32 → Int32 → Int32 → VS → Prop} {X57 : Int32 → Int32 → Int32 → Int32 → Int32 → Int32 → Int32 → VS → Prop} {Q : Int32 → VS → Prop}
end
