/-! ONE ARC: what is written -/
def vv (σ : VS) (k j : Nat) : Int := (σ.2.1 k j).toInt
def fu (f : Nat → Int) (i : Nat) (v : Int) : Nat → Int := fun j => if j = i then v else f j
theorem fu_eq (f : Nat → Int) (i : Nat) (v : Int) : fu f i v i = v := by unfold fu; rw [if_pos rfl]
theorem fu_ne {f : Nat → Int} {i j : Nat} {v : Int} (h : j ≠ i) : fu f i v j = f j := by unfold fu; rw [if_neg h]
theorem vv_sa (σ : VS) (k : Nat) (i v : Int32) {n : Nat} (h : i.toInt = (n : Int)) : vv (sa σ k i v) k = fu (vv σ k) n v.toInt := by
  funext j
  unfold vv fu
  rw [sa_at σ k i v h j]
  by_cases e : j = n
  · rw [if_pos e, if_pos e]
  · rw [if_neg e, if_neg e]
theorem vv_so {k2 k : Nat} (h : k2 ≠ k) (σ : VS) (i v : Int32) : vv (sa σ k i v) k2 = vv σ k2 := by
  funext j
  unfold vv
  rw [sa_other h]
theorem vv_eo {F A : List Nat} {σ τ : VS} (h : Eo F A σ τ) {k : Nat} (hk : k ∉ A) : vv τ k = vv σ k := by
  funext j
  unfold vv
  rw [h.2 k hk]
theorem vv_rd {σ : VS} {k : Nat} {i : Int32} {n : Nat} (h : i.toInt = (n : Int)) : (rd σ k i).toInt = vv σ k n := by
  rw [rd_at σ k i h]
  rfl
theorem imax_x (a b : Int32) : (imax a b).toInt = max a.toInt b.toInt := by
  unfold imax
  by_cases h : a < b
  · rw [if_pos h]; have := i3_lt h; omega
  · rw [if_neg h]; have := i3_nlt h; omega
theorem stp_p {F w : Int} (h : F ≠ 0) : stp F w = F := by unfold stp; rw [if_pos h]
theorem stp_v {F w : Int} (h1 : F = 0 ∨ F = -11 ∨ F = -12) (h2 : w = 0 ∨ w = -11 ∨ w = -12) : stp F w = 0 ∨ stp F w = -11 ∨ stp F w = -12 := by
  unfold stp
  by_cases a : F ≠ 0
  · rw [if_pos a]; exact h1
  · rw [if_neg a]; exact h2
theorem wy_v (lf : Int → Int) (p k : Int) : wyA lf p k = 0 ∨ wyA lf p k = -11 ∨ wyA lf p k = -12 := by
  unfold wyA
  by_cases a : lf p = 0
  · rw [if_pos a]; exact Or.inr (Or.inl rfl)
  · rw [if_neg a]
    by_cases b : k < lf p
    · rw [if_pos b]; exact Or.inl rfl
    · rw [if_neg b]; exact Or.inr (Or.inr rfl)
theorem LUw_v (lf : Int → Int) (t q l s : Int) : LUw lf t q l s = 0 ∨ LUw lf t q l s = -11 ∨ LUw lf t q l s = -12 := by
  unfold LUw whyM
  refine stp_v (wy_v _ _ _) ?_
  by_cases a : 0 < min l 64 - ldM (rowOf (min l 64))
  · rw [if_pos a]; exact wy_v _ _ _
  · rw [if_neg a]; exact Or.inl rfl
theorem LU_up {nm lf : Int → Int} {t q l s : Int} {up : Prop} {dec : Decidable up} (h : up) : LU nm lf t q l s up dec = LU nm lf t q l s True instDecidableTrue := by
  unfold LU LUr
  rw [if_pos h, if_pos trivial]
theorem LU_dn {nm lf : Int → Int} {t q l s : Int} {up : Prop} {dec : Decidable up} (h : ¬ up) : LU nm lf t q l s up dec = LU nm lf t q l s False instDecidableFalse := by
  unfold LU LUr
  rw [if_neg h, if_neg (fun k : False => k)]
theorem weigh_b {nm : Int → Int} (hn : ∀ i, 0 ≤ nm i ∧ nm i ≤ 3000) {p k b w : Int} (hb : 0 ≤ b ∧ b ≤ w) : 0 ≤ weigh nm p k b w ∧ weigh nm p k b w ≤ 3000 * w := by
  unfold weigh
  have a1 := mu_bd (a := nm (3 * p + k)) (b := w - b) (A := 3000) (B := w - b) (hn _) ⟨by omega, Int.le_refl _⟩
  by_cases c : 0 < b
  · rw [if_pos c]
    have a2 := mu_bd (a := nm (3 * p + k + 1)) (b := b) (A := 3000) (B := b) (hn _) ⟨by omega, Int.le_refl _⟩
    omega
  · rw [if_neg c]; omega
theorem LUs_b {nm : Int → Int} (hn : ∀ i, 0 ≤ nm i ∧ nm i ≤ 3000) {p k bx bo h w : Int} (hx : 0 ≤ bx ∧ bx ≤ h) (hy : 0 ≤ bo ∧ bo ≤ w) : 0 ≤ LUs nm p k bx bo h w ∧ LUs nm p k bx bo h w ≤ 3000 * (h * w) := by
  unfold LUs
  have w1 := weigh_b hn (p := p) (k := k) hy
  have w2 := weigh_b hn (p := p + 1) (k := k) hy
  have a1 := mu_bd (a := h - bx) (b := weigh nm p k bo w) (A := h - bx) (B := 3000 * w) ⟨by omega, Int.le_refl _⟩ w1
  have a2 := mu_bd (a := bx) (b := weigh nm (p + 1) k bo w) (A := bx) (B := 3000 * w) ⟨hx.1, Int.le_refl _⟩ w2
  have e1 : (h - bx) * (3000 * w) = 3000 * (h * w) - 3000 * (bx * w) := by rw [Int.sub_mul, Int.mul_left_comm h 3000 w, Int.mul_left_comm bx 3000 w]
  have e2 : bx * (3000 * w) = 3000 * (bx * w) := Int.mul_left_comm bx 3000 w
  have e3 : 0 ≤ bx * w := Int.mul_nonneg hx.1 (by omega)
  rw [e1] at a1
  rw [e2] at a2
  by_cases c : 0 < bx
  · rw [if_pos c]; omega
  · rw [if_neg c]; omega
theorem LU_b {nm lf : Int → Int} (hn : ∀ i, 0 ≤ nm i ∧ nm i ≤ 3000) {t q l s : Int} (hl : 0 ≤ l) (hs : 0 ≤ s) {up : Prop} {dec : Decidable up} (h0 : LUw lf t q l s = 0) : 0 ≤ LU nm lf t q l s up dec ∧ LU nm lf t q l s up dec ≤ 3000 := by
  rw [(LU_of (nm := nm) (lf := lf) (up := up) (dec := dec)).1 h0]
  have f1 := row_fit (x := min l 64) (by omega)
  have f2 := col_fit (y := min s 64) (by omega)
  generalize rowOf (min l 64) = r at f1 ⊢
  generalize colOf (min s 64) = k at f2 ⊢
  generalize min l 64 - ldM r = bx at f1 ⊢
  generalize min s 64 - slM k = bo at f2 ⊢
  have h1 : 1 ≤ (if 0 < bx then ldM (r + 1) - ldM r else 1) ∧ bx ≤ (if 0 < bx then ldM (r + 1) - ldM r else 1) := by
    by_cases c : 0 < bx
    · rw [if_pos c]; have := f1.2.2 c; omega
    · rw [if_neg c]; omega
  have w1 : 1 ≤ (if 0 < bo then slM (k + 1) - slM k else 1) ∧ bo ≤ (if 0 < bo then slM (k + 1) - slM k else 1) := by
    by_cases c : 0 < bo
    · rw [if_pos c]; have := f2.2.2 c; omega
    · rw [if_neg c]; omega
  generalize (if 0 < bx then ldM (r + 1) - ldM r else 1) = h at h1 ⊢
  generalize (if 0 < bo then slM (k + 1) - slM k else 1) = w at w1 ⊢
  have S := LUs_b hn (p := 8 * t + 4 * q + r) (k := k) (h := h) (w := w) (bx := bx) (bo := bo) ⟨f1.2.1, h1.2⟩ ⟨f2.2.1, w1.2⟩
  have P : 1 * 1 ≤ h * w := Int.mul_le_mul h1.1 w1.1 (by decide) (by omega)
  generalize LUs nm (8 * t + 4 * q + r) k bx bo h w = S0 at S ⊢
  generalize h * w = P0 at S P ⊢
  have U : 0 ≤ @ite Int up dec (P0 - 1) 0 ∧ @ite Int up dec (P0 - 1) 0 ≤ P0 - 1 := by
    by_cases c : up
    · rw [if_pos c]; omega
    · rw [if_neg c]; omega
  generalize @ite Int up dec (P0 - 1) 0 = U0 at U ⊢
  exact ⟨Int.ediv_nonneg (by omega) (by omega), Int.le_of_lt_add_one (Int.ediv_lt_of_lt_mul (by omega) (by omega))⟩
theorem LU_neg {nm lf : Int → Int} (hn : ∀ i, 0 ≤ nm i ∧ nm i ≤ 3000) {t q l s : Int} (hl : 0 ≤ l) (hs : 0 ≤ s) {up : Prop} {dec : Decidable up} : (LU nm lf t q l s up dec < 0 → LUw lf t q l s ≠ 0 ∧ LU nm lf t q l s up dec = LUw lf t q l s) ∧ (0 ≤ LU nm lf t q l s up dec → LUw lf t q l s = 0 ∧ LU nm lf t q l s up dec ≤ 3000) := by
  have v := LUw_v lf t q l s
  by_cases h0 : LUw lf t q l s = 0
  · have b := LU_b hn hl hs (up := up) (dec := dec) h0
    exact ⟨fun h => by omega, fun _ => ⟨h0, b.2⟩⟩
  · have e := (LU_of (nm := nm) (lf := lf) (t := t) (part := q) (load := l) (slope := s) (up := up) (dec := dec)).2 h0
    exact ⟨fun _ => ⟨h0, e⟩, fun h => by omega⟩
/-- why an arc fails; its delays -/
def AW (lf : Int → Int) (t L E ls es : Int) : Int := stp (LUw lf t 0 L ls) (stp (LUw lf t 1 L ls) (stp (LUw lf t 0 E es) (LUw lf t 1 E es)))
def LUt (nm lf : Int → Int) (t q l s : Int) : Int := LU nm lf t q l s True instDecidableTrue
def LUf (nm lf : Int → Int) (t q l s : Int) : Int := LU nm lf t q l s False instDecidableFalse
def dlA (v lc more : Int) : Int := (v * (1000 + lc) + 999) / 1000 + more
def deA (v ec more : Int) : Int := v * (1000 - ec) / 1000 + more
theorem nmC_b {σ : VS} (hM : CI σ) (i : Int) : 0 ≤ nmC σ i ∧ nmC σ i ≤ 3000 := hM.2 36 _
