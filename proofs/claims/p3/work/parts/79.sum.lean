/-- sums -/
def sm : Nat → (Nat → Nat) → Nat
  | 0, _ => 0
  | n + 1, f => sm n f + f n
theorem sm_s (n : Nat) (f : Nat → Nat) : sm (n + 1) f = sm n f + f n := rfl
theorem sm_le {n : Nat} {f g : Nat → Nat} (h : ∀ i, i < n → f i ≤ g i) : sm n f ≤ sm n g := by
  induction n with
  | zero => exact Nat.le_refl _
  | succ n ih =>
    rw [sm_s, sm_s]
    have h1 := ih (fun i hi => h i (by omega))
    have h2 := h n (by omega)
    omega
theorem sm_eq {n : Nat} {f g : Nat → Nat} (h : ∀ i, i < n → f i = g i) : sm n f = sm n g := by
  induction n with
  | zero => rfl
  | succ n ih => rw [sm_s, sm_s, ih (fun i hi => h i (by omega)), h n (by omega)]
theorem sm_zero (n : Nat) : sm n (fun _ => 0) = 0 := by
  induction n with
  | zero => rfl
  | succ n ih => rw [sm_s, ih]
theorem sm_add (n : Nat) (f g : Nat → Nat) : sm n (fun i => f i + g i) = sm n f + sm n g := by
  induction n with
  | zero => rfl
  | succ n ih => rw [sm_s, sm_s, sm_s, ih]; omega
theorem sm_mul (n : Nat) (c : Nat) (f : Nat → Nat) : sm n (fun i => c * f i) = c * sm n f := by
  induction n with
  | zero => rfl
  | succ n ih => rw [sm_s, sm_s, ih, Nat.mul_add]
theorem sm_swap (n m : Nat) (f : Nat → Nat → Nat) : sm n (fun i => sm m (fun j => f i j)) = sm m (fun j => sm n (fun i => f i j)) := by
  induction n with
  | zero => rw [show (fun j => sm 0 (fun i => f i j)) = fun _ => 0 from rfl, sm_zero]; rfl
  | succ n ih => rw [sm_s, ih, ← sm_add]; rfl
theorem sm_at {n : Nat} {f : Nat → Nat} {k : Nat} (hk : k < n) : f k ≤ sm n f := by
  induction n with
  | zero => omega
  | succ n ih =>
    rw [sm_s]
    by_cases e : k = n
    · subst e; omega
    · have := ih (by omega); omega
theorem sm_one {n : Nat} {f : Nat → Nat} {k : Nat} (hk : k < n) (h0 : ∀ i, i < n → i ≠ k → f i = 0) : sm n f = f k := by
  induction n with
  | zero => omega
  | succ n ih =>
    rw [sm_s]
    by_cases e : k = n
    · subst e
      have : sm k f = 0 := by
        rw [← sm_zero k]
        exact sm_eq (fun i hi => h0 i (by omega) (by omega))
      omega
    · rw [ih (by omega) (fun i hi h => h0 i (by omega) h), h0 n (by omega) (fun q => e q.symm)]
      omega
theorem sm_none {n : Nat} {f : Nat → Nat} (h0 : ∀ i, i < n → f i = 0) : sm n f = 0 := by
  rw [← sm_zero n]
  exact sm_eq h0
/-- one term more -/
theorem sm_more {n : Nat} {f g : Nat → Nat} {k : Nat} (hk : k < n) (h : ∀ i, i < n → i ≠ k → g i = f i) : sm n g + f k = sm n f + g k := by
  induction n with
  | zero => omega
  | succ n ih =>
    rw [sm_s, sm_s]
    by_cases e : k = n
    · subst e
      have : sm k g = sm k f := sm_eq (fun i hi => h i (by omega) (by omega))
      omega
    · have h1 := ih (by omega) (fun i hi q => h i (by omega) q)
      have h2 := h n (by omega) (fun q => e q.symm)
      omega
section
variable (N M : Nat) (a : Nat → Nat → Bool) (dst : Nat → Nat → Nat) (tgt : Nat → Nat)
def Bn : Nat → Nat → Nat
  | 0, _ => 0
  | n + 1, X => tgt X + sm M (fun w => if a X w = true then Bn n (dst X w) else 0)
theorem Bn_s (n X : Nat) : Bn M a dst tgt (n + 1) X = tgt X + sm M (fun w => if a X w = true then Bn M a dst tgt n (dst X w) else 0) := rfl
theorem Bn_stable {R : Nat} {rk : Nat → Nat} (hr : ∀ X w, w < M → a X w = true → rk X < rk (dst X w) ∧ rk (dst X w) ≤ R) : ∀ (n X : Nat), rk X ≤ R → R < n + rk X → Bn M a dst tgt n X = Bn M a dst tgt (n + 1) X := by
  intro n
  induction n with
  | zero => intro X h1 h2; omega
  | succ n ih =>
    intro X h1 h2
    rw [Bn_s, Bn_s]
    congr 1
    refine sm_eq (fun w hw => ?_)
    by_cases e : a X w = true
    · rw [if_pos e, if_pos e]
      have := hr X w hw e
      exact ih _ this.2 (by omega)
    · rw [if_neg e, if_neg e]
theorem Bn_count {R : Nat} {rk : Nat → Nat} (hr : ∀ X w, w < M → a X w = true → rk X < rk (dst X w) ∧ rk (dst X w) ≤ R) (hR : ∀ X, X < N → rk X ≤ R) (hN : ∀ X w, X < N → w < M → a X w = true → dst X w < N) (H st : Nat → Nat) (hT : sm N (fun X => H X * tgt X) < 1000)
    (hW : ∀ Y, Y < N → min 1000 (st Y + sm N (fun X => sm M (fun w => if a X w = true ∧ dst X w = Y then H X else 0))) ≤ H Y) : sm N (fun Y => Bn M a dst tgt (R + 1) Y * st Y) ≤ sm N (fun X => H X * tgt X) := by
  obtain ⟨B, hB⟩ : ∃ B : Nat → Nat, B = Bn M a dst tgt (R + 1) := ⟨_, rfl⟩
  have hfix : ∀ X, X < N → B X = tgt X + sm M (fun w => if a X w = true then B (dst X w) else 0) := by
    intro X hX
    rw [hB]
    rw [Bn_stable M a dst tgt hr (R + 1) X (hR X hX) (by omega), Bn_s]
  have hrel : ∀ (n X : Nat), X < N → 0 < Bn M a dst tgt n X → min 1000 (H X) ≤ sm N (fun X => H X * tgt X) := by
    intro n
    induction n with
    | zero => intro X _ h; exact absurd h (Nat.lt_irrefl 0)
    | succ n ih =>
      intro X hX h
      rw [Bn_s] at h
      by_cases e : 0 < tgt X
      · have h1 := sm_at (f := fun X => H X * tgt X) hX
        have h2 : H X * 1 ≤ H X * tgt X := Nat.mul_le_mul_left _ e
        have h3 : (fun X => H X * tgt X) X = H X * tgt X := rfl
        omega
      · have hs : 0 < sm M (fun w => if a X w = true then Bn M a dst tgt n (dst X w) else 0) := by omega
        have hex : ∃ w, w < M ∧ a X w = true ∧ 0 < Bn M a dst tgt n (dst X w) := by
          apply Classical.byContradiction
          intro hno
          have : sm M (fun w => if a X w = true then Bn M a dst tgt n (dst X w) else 0) = 0 := by
            refine sm_none (fun w hw => ?_)
            by_cases e2 : a X w = true
            · rw [if_pos e2]
              apply Classical.byContradiction
              intro h9
              exact hno ⟨w, hw, e2, by omega⟩
            · rw [if_neg e2]
          omega
        obtain ⟨w, hw, e2, hp⟩ := hex
        have hd := hN X w hX hw e2
        have h1 := ih (dst X w) hd hp
        have h2 := hW (dst X w) hd
        have h3 : H X ≤ sm N (fun X' => sm M (fun w' => if a X' w' = true ∧ dst X' w' = dst X w then H X' else 0)) := by
          have h4 := sm_at (f := fun X' => sm M (fun w' => if a X' w' = true ∧ dst X' w' = dst X w then H X' else 0)) hX
          have h5 := sm_at (f := fun w' => if a X w' = true ∧ dst X w' = dst X w then H X else 0) hw
          have h6 : (if a X w = true ∧ dst X w = dst X w then H X else 0) = H X := if_pos ⟨e2, rfl⟩
          replace h5 : (if a X w = true ∧ dst X w = dst X w then H X else 0) ≤ _ := h5
          rw [h6] at h5
          exact Nat.le_trans h5 h4
        omega
  -- the two ways of counting
  have hS1 : sm N (fun X => H X * B X) = sm N (fun X => H X * tgt X) + sm N (fun X => sm M (fun w => if a X w = true then H X * B (dst X w) else 0)) := by
    rw [← sm_add]
    refine sm_eq (fun X hX => ?_)
    show H X * B X = H X * tgt X + sm M (fun w => if a X w = true then H X * B (dst X w) else 0)
    rw [hfix X hX, Nat.mul_add, ← sm_mul]
    congr 1
    refine sm_eq (fun w hw => ?_)
    by_cases e : a X w = true
    · rw [if_pos e, if_pos e]
    · rw [if_neg e, if_neg e, Nat.mul_zero]
  have hS2 : sm N (fun Y => B Y * sm N (fun X => sm M (fun w => if a X w = true ∧ dst X w = Y then H X else 0))) = sm N (fun X => sm M (fun w => if a X w = true then H X * B (dst X w) else 0)) := by
    have h1 : sm N (fun Y => B Y * sm N (fun X => sm M (fun w => if a X w = true ∧ dst X w = Y then H X else 0))) = sm N (fun Y => sm N (fun X => sm M (fun w => if a X w = true ∧ dst X w = Y then H X * B Y else 0))) := by
      refine sm_eq (fun Y _ => ?_)
      rw [← sm_mul]
      refine sm_eq (fun X _ => ?_)
      rw [← sm_mul]
      refine sm_eq (fun w _ => ?_)
      by_cases e : a X w = true ∧ dst X w = Y
      · rw [if_pos e, if_pos e, Nat.mul_comm]
      · rw [if_neg e, if_neg e, Nat.mul_zero]
    rw [h1, sm_swap]
    refine sm_eq (fun X hX => ?_)
    show sm N (fun Y => sm M (fun w => if a X w = true ∧ dst X w = Y then H X * B Y else 0)) = _
    rw [sm_swap]
    refine sm_eq (fun w hw => ?_)
    by_cases e : a X w = true
    · rw [if_pos e]
      rw [sm_one (hN X w hX hw e) (fun Y _ hY => if_neg (fun h => hY h.2.symm))]
      exact if_pos ⟨e, rfl⟩
    · rw [if_neg e]
      exact sm_none (fun Y _ => if_neg (fun h => e h.1))
  have hS3 : sm N (fun Y => B Y * sm N (fun X => sm M (fun w => if a X w = true ∧ dst X w = Y then H X else 0))) + sm N (fun Y => B Y * st Y) ≤ sm N (fun X => H X * B X) := by
    rw [← sm_add]
    refine sm_le (fun Y hY => ?_)
    show B Y * _ + B Y * st Y ≤ H Y * B Y
    by_cases e : B Y = 0
    · rw [e]; simp
    · have h1 := hrel (R + 1) Y hY (by rw [hB] at e; omega)
      have h2 := hW Y hY
      rw [← Nat.mul_add, Nat.mul_comm (H Y)]
      exact Nat.mul_le_mul_left _ (by omega)
  rw [← hB]
  omega
end

