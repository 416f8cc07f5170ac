/-! SUMMARIES AT AN END -/
def En (n : Nat) (M : Int → Int → Prop) (w l g : Int) : Prop := w = min 1000 (n : Int) ∧ (0 < n ↔ ∃ a b, M a b) ∧ (∀ a b, M a b → l ≤ a ∧ g ≤ b) ∧ (l ≤ 1000000000 ∧ (l = 1000000000 ∨ ∃ a b, M a b ∧ a = l)) ∧ (g ≤ 1000000000 ∧ (g = 1000000000 ∨ ∃ a b, M a b ∧ b = g))
theorem En.cg {n n' : Nat} {M M' : Int → Int → Prop} {w l g : Int} (hn : n = n') (hM : ∀ a b, M a b ↔ M' a b) (h : En n M w l g) : En n' M' w l g := by
  have e : M = M' := by
    funext a b
    exact propext (hM a b)
  rw [← hn, ← e]
  exact h
theorem En.nil {M : Int → Int → Prop} (hM : ∀ a b, ¬ M a b) : En 0 M 0 1000000000 1000000000 := ⟨rfl, ⟨fun h => by omega, fun ⟨a, b, m⟩ => absurd m (hM a b)⟩, fun a b m => absurd m (hM a b), ⟨by omega, Or.inl rfl⟩, ⟨by omega, Or.inl rfl⟩⟩
theorem En.un {n : Nat} {M : Int → Int → Prop} {w l g w' l' g' : Int} (h : En n M w l g) (h' : En n M w' l' g') : w = w' ∧ l = l' ∧ g = g' := by
  obtain ⟨h1, _, h3, ⟨h4, h5⟩, ⟨h6, h7⟩⟩ := h
  obtain ⟨k1, _, k3, ⟨k4, k5⟩, ⟨k6, k7⟩⟩ := h'
  refine ⟨h1.trans k1.symm, ?_, ?_⟩
  · have q1 : l ≤ l' := by
      rcases k5 with z | ⟨a, b, m, z⟩
      · omega
      · have := (h3 a b m).1; omega
    have q2 : l' ≤ l := by
      rcases h5 with z | ⟨a, b, m, z⟩
      · omega
      · have := (k3 a b m).1; omega
    omega
  · have q1 : g ≤ g' := by
      rcases k7 with z | ⟨a, b, m, z⟩
      · omega
      · have := (h3 a b m).2; omega
    have q2 : g' ≤ g := by
      rcases h7 with z | ⟨a, b, m, z⟩
      · omega
      · have := (k3 a b m).2; omega
    omega
/-- a group of paths with the same number of periods comes to the end -/
theorem En.add {n n' : Nat} {M M' : Int → Int → Prop} {w l g w' l' g' x y : Int} (h : En n M w l g) (h' : Sm3 n' M' w' l' g') (hp : 0 < w') : En (n + n') (fun a b => M a b ∨ ∃ u v, M' u v ∧ x - u = a ∧ v + y = b) (min 1000 (w + w')) (min l (x - l')) (min g (g' + y)) := by
  have n1 := h'.pos.mp hp
  have hw : min 1000 (w + w') = min 1000 ((n + n' : Nat) : Int) := by
    have a := h.1
    have b := h'.1
    omega
  have hl := h.2.2.2.1.1
  have hg := h.2.2.2.2.1
  obtain ⟨a1, ⟨x1, y1, m1, e1⟩, ⟨x2, y2, m2, e2⟩⟩ := h'.2.2 n1
  refine ⟨hw, ⟨fun _ => ⟨x - x1, y1 + y, Or.inr ⟨x1, y1, m1, rfl, rfl⟩⟩, fun _ => by omega⟩, fun a b m => ?_, ⟨by omega, ?_⟩, ⟨by omega, ?_⟩⟩
  · rcases m with m | ⟨u, v, m, e3, e4⟩
    · have q := h.2.2.1 a b m
      omega
    · have q := a1 u v m
      omega
  · by_cases c : l ≤ x - l'
    · rcases h.2.2.2.1.2 with z | ⟨a, b, m, z⟩
      · exact Or.inl (by omega)
      · exact Or.inr ⟨a, b, Or.inl m, by omega⟩
    · exact Or.inr ⟨x - x1, y1 + y, Or.inr ⟨x1, y1, m1, rfl, rfl⟩, by omega⟩
  · by_cases c : g ≤ g' + y
    · rcases h.2.2.2.2.2 with z | ⟨a, b, m, z⟩
      · exact Or.inl (by omega)
      · exact Or.inr ⟨a, b, Or.inl m, by omega⟩
    · exact Or.inr ⟨x - x2, y2 + y, Or.inr ⟨x2, y2, m2, rfl, rfl⟩, by omega⟩
/-- the least period: no less than 1, no less than what any path needs, and one of these -/
def Nd (M : Int → Prop) (v : Int) : Prop := (1 ≤ v ∧ ∀ a, M a → a ≤ v) ∧ (v = 1 ∨ M v)
theorem Nd.un {M : Int → Prop} {v v' : Int} (h : Nd M v) (h' : Nd M v') : v = v' := by
  have q1 : v ≤ v' := by
    rcases h.2 with z | z
    · have := h'.1.1; omega
    · exact h'.1.2 v z
  have q2 : v' ≤ v := by
    rcases h'.2 with z | z
    · have := h.1.1; omega
    · exact h.1.2 v' z
  omega
/-- what a path of n periods, with so much left beside them, needs -/
def ndP (n bare : Int) : Int := if bare < 0 then (n - 1 - bare) / n else 1
theorem ndP_mono {n x y : Int} (hn : 0 < n) (h : x ≤ y) : ndP n y ≤ ndP n x := by
  unfold ndP
  by_cases b : y < 0
  · rw [if_pos b, if_pos (by omega)]
    exact Int.ediv_le_ediv hn (by omega)
  · rw [if_neg b]
    by_cases a : x < 0
    · rw [if_pos a]
      exact (Int.le_ediv_iff_mul_le hn).mpr (by omega)
    · rw [if_neg a]; exact Int.le_refl _
/-- a period keeps a path's slack from falling below 0 just if it is no less than this -/
theorem ndP_ok {n bare p : Int} (hn : 0 < n) (hp : 1 ≤ p) : 0 ≤ n * p + bare ↔ ndP n bare ≤ p := by
  unfold ndP
  have np : 0 < n * p := Int.mul_pos hn (by omega)
  by_cases a : bare < 0
  · rw [if_pos a]
    have c : p * n = n * p := Int.mul_comm p n
    refine ⟨fun h => Int.le_of_lt_add_one ((Int.ediv_lt_iff_lt_mul hn).mpr ?_), fun h => ?_⟩
    · rw [Int.add_mul, c]; omega
    · have h2 : (n - 1 - bare) / n < p + 1 := by omega
      have h3 := (Int.ediv_lt_iff_lt_mul hn).mp h2
      rw [Int.add_mul, c] at h3
      omega
  · rw [if_neg a]
    exact ⟨fun _ => hp, fun _ => by omega⟩
