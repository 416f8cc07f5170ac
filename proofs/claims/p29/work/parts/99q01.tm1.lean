/-! THE LOOK-UP IN A TABLE -/
def nmC (σ : VS) (i : Int) : Int := (σ.2.1 36 i.toNat).toInt
def lfC (σ : VS) (i : Int) : Int := (σ.2.1 37 i.toNat).toInt
def rowOf (x : Int) : Int := if 64 ≤ x then 3 else if 24 ≤ x then 2 else if 8 ≤ x then 1 else 0
def colOf (y : Int) : Int := if 64 ≤ y then 2 else if 16 ≤ y then 1 else 0
def ldM (r : Int) : Int := if r = 0 then 0 else if r = 1 then 8 else if r = 2 then 24 else 64
def slM (k : Int) : Int := if k = 0 then 0 else if k = 1 then 16 else 64
def wyA (lf : Int → Int) (p k : Int) : Int := if lf p = 0 then -11 else if k < lf p then 0 else -12
def weigh (nm : Int → Int) (p k b w : Int) : Int := nm (3 * p + k) * (w - b) + (if 0 < b then nm (3 * p + k + 1) * b else 0)
def LUs (nm : Int → Int) (p k bx bo h w : Int) : Int := (h - bx) * weigh nm p k bo w + (if 0 < bx then bx * weigh nm (p + 1) k bo w else 0)
def LUr (nm lf : Int → Int) (p r k bx bo : Int) (up : Prop) (dec : Decidable up) : Int :=
  if wyA lf p (if 0 < bo then k + 1 else k) ≠ 0 then wyA lf p (if 0 < bo then k + 1 else k)
  else if 0 < bx ∧ wyA lf (p + 1) (if 0 < bo then k + 1 else k) ≠ 0 then wyA lf (p + 1) (if 0 < bo then k + 1 else k)
  else (LUs nm p k bx bo (if 0 < bx then ldM (r + 1) - ldM r else 1) (if 0 < bo then slM (k + 1) - slM k else 1) + @ite Int up dec ((if 0 < bx then ldM (r + 1) - ldM r else 1) * (if 0 < bo then slM (k + 1) - slM k else 1) - 1) 0) / ((if 0 < bx then ldM (r + 1) - ldM r else 1) * (if 0 < bo then slM (k + 1) - slM k else 1))
def LU (nm lf : Int → Int) (t part load slope : Int) (up : Prop) (dec : Decidable up) : Int :=
  LUr nm lf (8 * t + 4 * part + rowOf (min load 64)) (rowOf (min load 64)) (colOf (min slope 64)) (min load 64 - ldM (rowOf (min load 64))) (min slope 64 - slM (colOf (min slope 64))) up dec
theorem weigh_x {Q : Int32 → VS → Prop} {p1 p2 p3 p4 : Int32} {σ : VS} (h1 : 0 ≤ p1.toInt ∧ p1.toInt ≤ 63) (h2 : 0 ≤ p2.toInt ∧ p2.toInt ≤ 2) (h3 : 0 ≤ p3.toInt ∧ p3.toInt ≤ p4.toInt) (h4 : 1 ≤ p4.toInt ∧ p4.toInt ≤ 64) (h23 : 0 < p3.toInt → p2.toInt ≤ 1) (hM : CI σ) (hq : ∀ r : Int32, r.toInt = weigh (nmC σ) p1.toInt p2.toInt p3.toInt p4.toInt → 0 ≤ r.toInt ∧ r.toInt ≤ 3000 * p4.toInt → Q r σ) : wp_X5weighRow Q p1 p2 p3 p4 σ := by
  unfold wp_X5weighRow b_X5weighRow_44
  intro x1 e1
  have a1 : (p1 * 3).toInt = p1.toInt * 3 := i3_mulc rfl rfl rfl (by omega)
  have a2 : x1.toInt = p1.toInt * 3 + p2.toInt := i3_addc a1 rfl e1 (by omega)
  have hn1 : 0 ≤ (rd σ 36 x1).toInt ∧ (rd σ 36 x1).toInt ≤ 3000 := hM.2 36 _
  have en : nmC σ (3 * p1.toInt + p2.toInt) = (rd σ 36 x1).toInt := by
    unfold nmC
    rw [rd_at σ 36 x1 (n := (3 * p1.toInt + p2.toInt).toNat) (by omega)]
  have a3 : (p4 - p3).toInt = p4.toInt - p3.toInt := i3_subc rfl rfl rfl (by omega)
  have b1 := mu_bd (a := (rd σ 36 x1).toInt) (b := p4.toInt - p3.toInt) (A := 3000) (B := p4.toInt - p3.toInt) hn1 ⟨by omega, by omega⟩
  refine ⟨⟨by omega, by omega⟩, fun x2 e2 => ?_⟩
  have a4 : x2.toInt = (rd σ 36 x1).toInt * (p4.toInt - p3.toInt) := i3_mulc rfl a3 e2 (by omega)
  have a5 : (x1 + 1).toInt = x1.toInt + 1 := i3_addc rfl rfl rfl (by have e9 : (1 : Int32).toInt = 1 := rfl; omega)
  refine ⟨fun hz => hq x2 ?_ (by omega), fun hz => ⟨⟨by omega, by omega⟩, ?_⟩⟩
  · unfold weigh
    rw [if_neg (by omega), en, a4]; omega
  · have hn2 : 0 ≤ (rd σ 36 (x1 + 1)).toInt ∧ (rd σ 36 (x1 + 1)).toInt ≤ 3000 := hM.2 36 _
    have en2 : nmC σ (3 * p1.toInt + p2.toInt + 1) = (rd σ 36 (x1 + 1)).toInt := by
      unfold nmC
      rw [rd_at σ 36 (x1 + 1) (n := (3 * p1.toInt + p2.toInt + 1).toNat) (by omega)]
    have b2 := mu_bd (a := (rd σ 36 (x1 + 1)).toInt) (b := p3.toInt) (A := 3000) (B := p3.toInt) hn2 ⟨by omega, by omega⟩
    have a6 : (rd σ 36 (x1 + 1) * p3).toInt = (rd σ 36 (x1 + 1)).toInt * p3.toInt := i3_mulc rfl rfl rfl (by omega)
    have a7 : (x2 + rd σ 36 (x1 + 1) * p3).toInt = x2.toInt + (rd σ 36 (x1 + 1)).toInt * p3.toInt := i3_addc rfl a6 rfl (by omega)
    refine hq _ ?_ (by omega)
    unfold weigh
    rw [if_pos hz, en, en2, a7, a4]
theorem why_x {Q : Int32 → VS → Prop} {p1 p2 : Int32} {σ : VS} (h1 : 0 ≤ p1.toInt ∧ p1.toInt ≤ 63) (hq : ∀ r : Int32, r.toInt = wyA (lfC σ) p1.toInt p2.toInt → Q r σ) : wp_X5whyAbsent Q p1 p2 σ := by
  have el : lfC σ p1.toInt = (rd σ 37 p1).toInt := by
    unfold lfC
    rw [rd_at σ 37 p1 (n := p1.toInt.toNat) (by omega)]
  unfold wp_X5whyAbsent b_X5whyAbsent_28
  unfold wyA at hq
  rw [el] at hq
  refine ⟨⟨by omega, by omega⟩, fun a => ⟨⟨by omega, by omega⟩, fun b => hq _ ?_, fun b => hq _ ?_⟩, fun a => hq _ ?_⟩
  · rw [if_neg a, if_neg (by omega)]; rfl
  · rw [if_neg a, if_pos b]; rfl
  · rw [if_pos a]; rfl
theorem imin_x (a b : Int32) : (imin a b).toInt = min a.toInt b.toInt := by
  unfold imin
  by_cases h : b < a
  · rw [if_pos h]; have := i3_lt h; omega
  · rw [if_neg h]; have := i3_nlt h; omega
theorem lx_229 {Q : Int32 → VS → Prop} {l5 l15 l16 l17 : Int32} {σ : VS} (h15 : 1 ≤ l15.toInt ∧ l15.toInt ≤ 64) (h16 : 1 ≤ l16.toInt ∧ l16.toInt ≤ 64) (h17 : 0 ≤ l17.toInt ∧ l17.toInt ≤ 50000000) (hq : ∀ r : Int32, r.toInt = (l17.toInt + (if l5.toInt ≠ 0 then l15.toInt * l16.toInt - 1 else 0)) / (l15.toInt * l16.toInt) → Q r σ) : b_X5lookUp_229 Q l5 l15 l16 l17 σ := by
  unfold b_X5lookUp_229 b_X5lookUp_259
  intro x e
  have b1 := mu_bd (a := l15.toInt) (b := l16.toInt) (A := 64) (B := 64) ⟨by omega, h15.2⟩ ⟨by omega, h16.2⟩
  have b2 : 0 < l15.toInt * l16.toInt := Int.mul_pos (by omega) (by omega)
  have a1 : x.toInt = l15.toInt * l16.toInt := i3_mulc rfl rfl e (by omega)
  obtain ⟨P, hP⟩ : ∃ P, P = l15.toInt * l16.toInt := ⟨_, rfl⟩
  rw [← hP] at b1 b2 a1 hq
  have hnz : ¬ x = 0 := fun h => by rw [h] at a1; have e0 : (0 : Int32).toInt = 0 := rfl; omega
  refine ⟨fun h => ⟨hnz, hq _ ?_⟩, fun h => ⟨hnz, hq _ ?_⟩⟩
  · rw [if_neg (fun k => k h), i3_divc (x := l17 / x) rfl a1 rfl (by omega) (by omega)]
    congr 1; omega
  · have a2 : (l17 + x).toInt = l17.toInt + P := i3_addc rfl a1 rfl (by omega)
    have a3 : (l17 + x - 1).toInt = l17.toInt + P - 1 := i3_subc a2 (show (1 : Int32).toInt = 1 from rfl) rfl (by omega)
    rw [if_pos h, i3_divc (x := (l17 + x - 1) / x) a3 a1 rfl (by omega) (by omega)]
    congr 1; omega
theorem lx_180 {Q : Int32 → VS → Prop} {l5 l9 l10 l11 l12 l15 k0 : Int32} {σ : VS} (hM : CI σ) (h9 : 0 ≤ l9.toInt ∧ l9.toInt ≤ 2) (h12 : 0 ≤ l12.toInt ∧ l12.toInt ≤ 63) (h12b : 0 < l10.toInt → l12.toInt ≤ 62) (h10 : 0 ≤ l10.toInt ∧ l10.toInt ≤ l15.toInt) (h11 : 0 ≤ l11.toInt ∧ l11.toInt ≤ k0.toInt) (h11b : 0 < l11.toInt → l9.toInt ≤ 1) (h15 : 1 ≤ l15.toInt ∧ l15.toInt ≤ 64) (hk : 1 ≤ k0.toInt ∧ k0.toInt ≤ 64) (hq : ∀ r : Int32, r.toInt = (LUs (nmC σ) l12.toInt l9.toInt l10.toInt l11.toInt l15.toInt k0.toInt + (if l5.toInt ≠ 0 then l15.toInt * k0.toInt - 1 else 0)) / (l15.toInt * k0.toInt) → Q r σ) : b_X5lookUp_180 Q l5 l9 l10 l11 l12 l15 k0 σ := by
  unfold b_X5lookUp_180
  unfold LUs at hq
  refine weigh_x h12 h9 h11 hk h11b hM (fun r1 e1 b1 x17 e17 => ?_)
  rw [← e1] at hq
  have a1 : (l15 - l10).toInt = l15.toInt - l10.toInt := i3_subc rfl rfl rfl (by omega)
  have c1 := mu_bd (a := l15.toInt - l10.toInt) (b := r1.toInt) (A := 64) (B := 192000) ⟨by omega, by omega⟩ ⟨b1.1, by omega⟩
  have a2 : x17.toInt = (l15.toInt - l10.toInt) * r1.toInt := i3_mulc a1 rfl e17 (by omega)
  rw [← a2] at hq c1
  refine ⟨fun hz => ?_, fun hz => ?_⟩
  · rw [if_neg (by omega)] at hq
    refine lx_229 h15 hk (by omega) (fun r e => hq r ?_)
    rw [e, Int.add_zero]
  · have a3 : (l12 + 1).toInt = l12.toInt + 1 := i3_addc rfl rfl rfl (by have e9 : (1 : Int32).toInt = 1 := rfl; omega)
    refine weigh_x (by omega) h9 h11 hk h11b hM (fun r2 e2 b2 x20 e20 => ?_)
    rw [a3] at e2
    rw [if_pos hz, ← e2] at hq
    have c2 := mu_bd (a := l10.toInt) (b := r2.toInt) (A := 64) (B := 192000) ⟨by omega, by omega⟩ ⟨b2.1, by omega⟩
    have a4 : (l10 * r2).toInt = l10.toInt * r2.toInt := i3_mulc rfl rfl rfl (by omega)
    have a5 : x20.toInt = x17.toInt + l10.toInt * r2.toInt := i3_addc rfl a4 e20 (by omega)
    rw [← a5] at hq
    exact lx_229 h15 hk (by omega) hq
theorem ldM_x {r : Int32} (h : 0 ≤ r.toInt ∧ r.toInt ≤ 3) : (lm_load.getD r.toNatClampNeg 0).toInt = ldM r.toInt := by
  have : r = 0 ∨ r = 1 ∨ r = 2 ∨ r = 3 := by
    have e0 : (0 : Int32).toInt = 0 := rfl
    have e1 : (1 : Int32).toInt = 1 := rfl
    have e2 : (2 : Int32).toInt = 2 := rfl
    have e3 : (3 : Int32).toInt = 3 := rfl
    rcases (show r.toInt = 0 ∨ r.toInt = 1 ∨ r.toInt = 2 ∨ r.toInt = 3 by omega) with h | h | h | h
    · exact Or.inl (ti_inj (by omega))
    · exact Or.inr (Or.inl (ti_inj (by omega)))
    · exact Or.inr (Or.inr (Or.inl (ti_inj (by omega))))
    · exact Or.inr (Or.inr (Or.inr (ti_inj (by omega))))
  rcases this with h | h | h | h <;> rw [h] <;> decide
theorem slM_x {r : Int32} (h : 0 ≤ r.toInt ∧ r.toInt ≤ 2) : (lm_slope.getD r.toNatClampNeg 0).toInt = slM r.toInt := by
  have : r = 0 ∨ r = 1 ∨ r = 2 := by
    have e0 : (0 : Int32).toInt = 0 := rfl
    have e1 : (1 : Int32).toInt = 1 := rfl
    have e2 : (2 : Int32).toInt = 2 := rfl
    rcases (show r.toInt = 0 ∨ r.toInt = 1 ∨ r.toInt = 2 by omega) with h | h | h
    · exact Or.inl (ti_inj (by omega))
    · exact Or.inr (Or.inl (ti_inj (by omega)))
    · exact Or.inr (Or.inr (ti_inj (by omega)))
  rcases this with h | h | h <;> rw [h] <;> decide
/-- the row's and the column's place, and what lies beyond their marks -/
theorem row_fit {x : Int} (h : 0 ≤ x ∧ x ≤ 64) : (0 ≤ rowOf x ∧ rowOf x ≤ 3) ∧ 0 ≤ x - ldM (rowOf x) ∧ (0 < x - ldM (rowOf x) → rowOf x ≤ 2 ∧ x - ldM (rowOf x) ≤ ldM (rowOf x + 1) - ldM (rowOf x) ∧ 1 ≤ ldM (rowOf x + 1) - ldM (rowOf x) ∧ ldM (rowOf x + 1) - ldM (rowOf x) ≤ 64) := by
  unfold rowOf
  by_cases a : 64 ≤ x
  · rw [if_pos a]
    have e : ldM 3 = 64 := by decide
    rw [e]; exact ⟨⟨by omega, by omega⟩, by omega, fun h => by omega⟩
  · rw [if_neg a]
    by_cases b : 24 ≤ x
    · rw [if_pos b]
      have e : ldM 2 = 24 := by decide
      have e2 : ldM (2 + 1) = 64 := by decide
      rw [e, e2]; exact ⟨⟨by omega, by omega⟩, by omega, fun h => ⟨by omega, by omega, by omega, by omega⟩⟩
    · rw [if_neg b]
      by_cases c : 8 ≤ x
      · rw [if_pos c]
        have e : ldM 1 = 8 := by decide
        have e2 : ldM (1 + 1) = 24 := by decide
        rw [e, e2]; exact ⟨⟨by omega, by omega⟩, by omega, fun h => ⟨by omega, by omega, by omega, by omega⟩⟩
      · rw [if_neg c]
        have e : ldM 0 = 0 := by decide
        have e2 : ldM (0 + 1) = 8 := by decide
        rw [e, e2]; exact ⟨⟨by omega, by omega⟩, by omega, fun h => ⟨by omega, by omega, by omega, by omega⟩⟩
theorem col_fit {y : Int} (h : 0 ≤ y ∧ y ≤ 64) : (0 ≤ colOf y ∧ colOf y ≤ 2) ∧ 0 ≤ y - slM (colOf y) ∧ (0 < y - slM (colOf y) → colOf y ≤ 1 ∧ y - slM (colOf y) ≤ slM (colOf y + 1) - slM (colOf y) ∧ 1 ≤ slM (colOf y + 1) - slM (colOf y) ∧ slM (colOf y + 1) - slM (colOf y) ≤ 64) := by
  unfold colOf
  by_cases a : 64 ≤ y
  · rw [if_pos a]
    have e : slM 2 = 64 := by decide
    rw [e]; exact ⟨⟨by omega, by omega⟩, by omega, fun h => by omega⟩
  · rw [if_neg a]
    by_cases b : 16 ≤ y
    · rw [if_pos b]
      have e : slM 1 = 16 := by decide
      have e2 : slM (1 + 1) = 64 := by decide
      rw [e, e2]; exact ⟨⟨by omega, by omega⟩, by omega, fun h => ⟨by omega, by omega, by omega, by omega⟩⟩
    · rw [if_neg b]
      have e : slM 0 = 0 := by decide
      have e2 : slM (0 + 1) = 16 := by decide
      rw [e, e2]; exact ⟨⟨by omega, by omega⟩, by omega, fun h => ⟨by omega, by omega, by omega, by omega⟩⟩
theorem lx_154 {Q : Int32 → VS → Prop} {l5 l9 l10 l11 l12 k0 : Int32} {σ : VS} (hM : CI σ) (h9 : 0 ≤ l9.toInt ∧ l9.toInt ≤ 2) (h12 : 0 ≤ l12.toInt ∧ l12.toInt ≤ 63) (h12b : 0 < l10.toInt → l12.toInt ≤ 62) (h10 : 0 ≤ l10.toInt ∧ l10.toInt ≤ k0.toInt) (h11 : 0 ≤ l11.toInt) (h11b : 0 < l11.toInt → l9.toInt ≤ 1 ∧ l11.toInt ≤ slM (l9.toInt + 1) - slM l9.toInt ∧ 1 ≤ slM (l9.toInt + 1) - slM l9.toInt ∧ slM (l9.toInt + 1) - slM l9.toInt ≤ 64) (hk : 1 ≤ k0.toInt ∧ k0.toInt ≤ 64) (hq : ∀ r : Int32, r.toInt = (LUs (nmC σ) l12.toInt l9.toInt l10.toInt l11.toInt k0.toInt (if 0 < l11.toInt then slM (l9.toInt + 1) - slM l9.toInt else 1) + (if l5.toInt ≠ 0 then k0.toInt * (if 0 < l11.toInt then slM (l9.toInt + 1) - slM l9.toInt else 1) - 1 else 0)) / (k0.toInt * (if 0 < l11.toInt then slM (l9.toInt + 1) - slM l9.toInt else 1)) → Q r σ) : b_X5lookUp_154 Q l5 l9 l10 l11 l12 k0 σ := by
  unfold b_X5lookUp_154
  refine ⟨fun hz => ?_, fun hz => ?_⟩
  · rw [if_neg (by omega)] at hq
    exact lx_180 hM h9 h12 h12b h10 ⟨h11, by have e9 : (1 : Int32).toInt = 1 := rfl; omega⟩ (fun k => by omega) hk ⟨by decide, by decide⟩ hq
  · have hb := h11b hz
    have t : (l9 + 1).toInt = l9.toInt + 1 := i3_addc rfl rfl rfl (by have e9 : (1 : Int32).toInt = 1 := rfl; omega)
    have s1 := slM_x (r := l9) h9
    have s2 := slM_x (r := l9 + 1) (by omega)
    rw [t] at s2
    have d : ((lm_slope.getD (l9 + 1).toNatClampNeg 0) - (lm_slope.getD l9.toNatClampNeg 0)).toInt = slM (l9.toInt + 1) - slM l9.toInt := i3_subc s2 s1 rfl (by omega)
    rw [if_pos hz, ← d] at hq
    exact ⟨⟨by omega, by omega⟩, ⟨by omega, by omega⟩, lx_180 hM h9 h12 h12b h10 ⟨h11, by rw [d]; omega⟩ (fun _ => hb.1) hk (by rw [d]; omega) hq⟩
theorem lx_122 {Q : Int32 → VS → Prop} {l5 l8 l9 l10 l11 l12 l14 : Int32} {σ : VS} (hM : CI σ) (h8 : 0 ≤ l8.toInt ∧ l8.toInt ≤ 3) (h9 : 0 ≤ l9.toInt ∧ l9.toInt ≤ 2) (h12 : 0 ≤ l12.toInt ∧ l12.toInt ≤ 63) (h12b : 0 < l10.toInt → l12.toInt ≤ 62) (h10 : 0 ≤ l10.toInt) (h10b : 0 < l10.toInt → l8.toInt ≤ 2 ∧ l10.toInt ≤ ldM (l8.toInt + 1) - ldM l8.toInt ∧ 1 ≤ ldM (l8.toInt + 1) - ldM l8.toInt ∧ ldM (l8.toInt + 1) - ldM l8.toInt ≤ 64) (h11 : 0 ≤ l11.toInt) (h11b : 0 < l11.toInt → l9.toInt ≤ 1 ∧ l11.toInt ≤ slM (l9.toInt + 1) - slM l9.toInt ∧ 1 ≤ slM (l9.toInt + 1) - slM l9.toInt ∧ slM (l9.toInt + 1) - slM l9.toInt ≤ 64) (hn : l14.toInt ≠ 0 → Q l14 σ)
    (hq : l14.toInt = 0 → ∀ r : Int32, r.toInt = (LUs (nmC σ) l12.toInt l9.toInt l10.toInt l11.toInt (if 0 < l10.toInt then ldM (l8.toInt + 1) - ldM l8.toInt else 1) (if 0 < l11.toInt then slM (l9.toInt + 1) - slM l9.toInt else 1) + (if l5.toInt ≠ 0 then (if 0 < l10.toInt then ldM (l8.toInt + 1) - ldM l8.toInt else 1) * (if 0 < l11.toInt then slM (l9.toInt + 1) - slM l9.toInt else 1) - 1 else 0)) / ((if 0 < l10.toInt then ldM (l8.toInt + 1) - ldM l8.toInt else 1) * (if 0 < l11.toInt then slM (l9.toInt + 1) - slM l9.toInt else 1)) → Q r σ) : b_X5lookUp_122 Q l5 l8 l9 l10 l11 l12 l14 σ := by
  unfold b_X5lookUp_122
  refine ⟨fun h0 => ⟨fun hz => ?_, fun hz => ?_⟩, hn⟩
  · have hq' := hq h0
    rw [if_neg (show ¬ 0 < l10.toInt by omega)] at hq'
    exact lx_154 hM h9 h12 h12b ⟨h10, by have e9 : (1 : Int32).toInt = 1 := rfl; omega⟩ h11 h11b ⟨by decide, by decide⟩ hq'
  · have hq' := hq h0
    have hb := h10b hz
    have t : (l8 + 1).toInt = l8.toInt + 1 := i3_addc rfl rfl rfl (by have e9 : (1 : Int32).toInt = 1 := rfl; omega)
    have s1 := ldM_x (r := l8) h8
    have s2 := ldM_x (r := l8 + 1) (by omega)
    rw [t] at s2
    have d : ((lm_load.getD (l8 + 1).toNatClampNeg 0) - (lm_load.getD l8.toNatClampNeg 0)).toInt = ldM (l8.toInt + 1) - ldM l8.toInt := i3_subc s2 s1 rfl (by omega)
    rw [if_pos hz, ← d] at hq'
    exact ⟨⟨by omega, by omega⟩, ⟨by omega, by omega⟩, lx_154 hM h9 h12 h12b ⟨h10, by rw [d]; omega⟩ h11 h11b (by rw [d]; omega) hq'⟩
theorem cx_lookUp {Q : Int32 → VS → Prop} {p1 p2 p3 p4 p5 : Int32} {σ : VS} (h1 : 0 ≤ p1.toInt ∧ p1.toInt ≤ 7) (h2 : 0 ≤ p2.toInt ∧ p2.toInt ≤ 1) (h3 : 0 ≤ p3.toInt) (h4 : 0 ≤ p4.toInt) (hM : CI σ) (hq : ∀ r : Int32, r.toInt = LU (nmC σ) (lfC σ) p1.toInt p2.toInt p3.toInt p4.toInt (p5.toInt ≠ 0) inferInstance → Q r σ) : wp_X5lookUp Q p1 p2 p3 p4 p5 σ := by
  unfold wp_X5lookUp
  intro x1 e1 x2 e2
  have e64 : (64 : Int32).toInt = 64 := rfl
  have t1 : x1.toInt = min p3.toInt 64 := by rw [e1, imin_x, e64]
  have t2 : x2.toInt = min p4.toInt 64 := by rw [e2, imin_x, e64]
  unfold LU at hq
  rw [← t1, ← t2] at hq
  have f1 := row_fit (x := x1.toInt) (by omega)
  have f2 := col_fit (y := x2.toInt) (by omega)
  refine rg_X5lastL (fun r3 c3 => rg_X5lastS (fun r5 c5 => ?_))
  have u3 : r3.toInt = rowOf x1.toInt := by
    unfold rowOf
    rcases c3 with ⟨e, a⟩ | ⟨e, a, b⟩ | ⟨e, a, b⟩ | ⟨e, a⟩
    · rw [e, if_pos a]; rfl
    · rw [e, if_neg (by omega), if_pos a]; rfl
    · rw [e, if_neg (by omega), if_neg (by omega), if_pos a]; rfl
    · rw [e, if_neg (by omega), if_neg (by omega), if_neg (by omega)]; rfl
  have u5 : r5.toInt = colOf x2.toInt := by
    unfold colOf
    rcases c5 with ⟨e, a⟩ | ⟨e, a, b⟩ | ⟨e, a⟩
    · rw [e, if_pos a]; rfl
    · rw [e, if_neg (by omega), if_pos a]; rfl
    · rw [e, if_neg (by omega), if_neg (by omega)]; rfl
  rw [← u3, ← u5] at hq
  rw [← u3] at f1
  rw [← u5] at f2
  have s1 := ldM_x (r := r3) f1.1
  have s2 := slM_x (r := r5) f2.1
  refine ⟨⟨by omega, by omega⟩, fun x7 e7 => ⟨⟨by omega, by omega⟩, fun x8 e8 => ?_⟩⟩
  have v7 : x7.toInt = x1.toInt - ldM r3.toInt := i3_subc rfl s1 e7 (by omega)
  have v8 : x8.toInt = x2.toInt - slM r5.toInt := i3_subc rfl s2 e8 (by omega)
  rw [← v7] at f1 hq
  rw [← v8] at f2 hq
  have ok : okR p1 p2 r3 := ⟨by omega, by omega, by omega⟩
  unfold wp_X5rowPlace
  obtain ⟨r9, e9⟩ : ∃ r9, r9 = ((((p1 * 2) + p2) * 4) + r3) := ⟨_, rfl⟩
  have v9 : r9.toInt = 8 * p1.toInt + 4 * p2.toInt + r3.toInt := by rw [e9]; exact row_c ok
  rw [← e9]
  rw [← v9] at hq
  have h9b : 0 ≤ r9.toInt ∧ r9.toInt ≤ 63 := by omega
  have h9c : 0 < x7.toInt → r9.toInt ≤ 62 := fun h => by have := (f1.2.2 h).1; omega
  have t9 : 0 < x7.toInt → (r9 + 1).toInt = r9.toInt + 1 := fun h => i3_addc rfl rfl rfl (by have e9 : (1 : Int32).toInt = 1 := rfl; have := h9c h; omega)
  unfold LUr at hq
  have h88 : ∀ k0 : Int32, k0.toInt = (if 0 < x8.toInt then r5.toInt + 1 else r5.toInt) → b_X5lookUp_88 Q p5 r3 r5 x7 x8 r9 k0 σ := by
    intro k0 hk
    rw [← hk] at hq
    unfold b_X5lookUp_88
    refine why_x h9b (fun r11 w1 => ?_)
    rw [← w1] at hq
    refine ⟨fun hz => ?_, fun hz => ⟨fun hx => ?_, fun hx => ?_⟩⟩
    · rw [if_pos hz] at hq
      exact lx_122 hM f1.1 f2.1 h9b h9c f1.2.1 f1.2.2 f2.2.1 f2.2.2 (fun _ => hq r11 rfl) (fun h => absurd h hz)
    · rw [if_neg (fun k => k hz), if_neg (fun k => by omega)] at hq
      exact lx_122 hM f1.1 f2.1 h9b h9c f1.2.1 f1.2.2 f2.2.1 f2.2.2 (fun h => absurd hz h) (fun _ => hq)
    · have hb := h9c hx
      have t := t9 hx
      refine why_x (by omega) (fun r13 w2 => ?_)
      rw [t] at w2
      rw [if_neg (fun k => k hz), ← w2] at hq
      refine lx_122 hM f1.1 f2.1 h9b h9c f1.2.1 f1.2.2 f2.2.1 f2.2.2 (fun h => hq r13 (by rw [if_pos ⟨hx, h⟩])) (fun h => ?_)
      rw [if_neg (fun k => k.2 h)] at hq
      exact hq
  have t5 : 0 < x8.toInt → (r5 + 1).toInt = r5.toInt + 1 := fun h => i3_addc rfl rfl rfl (by have e9 : (1 : Int32).toInt = 1 := rfl; have := f2.1; omega)
  exact ⟨fun h => h88 r5 (by rw [if_neg (by omega)]), fun h => h88 (r5 + 1) (by rw [if_pos h]; exact t5 h)⟩
