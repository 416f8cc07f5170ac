/-! WHAT FIXING IS, BY THE DATA ALONE -/
def JA (D U : Nat → Nat → Int) (n R : Nat) (len : Int) (sh : Nat → Nat → Int) (w l g : Nat → Int) : Prop := ∀ t, t < n → (tgD D t → Jg D U n R len sh t (w t) (l t) (g t)) ∧ (¬ tgD D t → w t = 0 ∧ l t = 1000000000 ∧ g t = 1000000000)
theorem JA.un {D U : Nat → Nat → Int} {n R : Nat} {len : Int} {sh : Nat → Nat → Int} {w l g w' l' g' : Nat → Int} {ρ : Nat → Nat} (hW : Wo D n ρ) (h : JA D U n R len sh w l g) (h' : JA D U n R len sh w' l' g') : ∀ t, t < n → w t = w' t ∧ l t = l' t ∧ g t = g' t := fun t ht => by
  by_cases k : tgD D t
  · exact Jg.un hW ht ((h t ht).1 k) ((h' t ht).1 k)
  · have a := (h t ht).2 k
    have b := (h' t ht).2 k
    omega
theorem JA.cg {D U : Nat → Nat → Int} {n R : Nat} {len : Int} {sh sh' : Nat → Nat → Int} {w l g w' l' g' : Nat → Int} (h : JA D U n R len sh w l g) (e : ∀ t, t < n → w t = w' t ∧ l t = l' t ∧ g t = g' t) : JA D U n R len sh w' l' g' := fun t ht => by
  obtain ⟨a, b, c⟩ := e t ht
  rw [← a, ← b, ← c]
  exact h t ht
def LO (n : Nat) (w v : Nat → Int) (r : Int) : Prop := (r = -5 ∧ ∀ t, t < n → ¬ 0 < w t) ∨ ∃ c : Nat, c < n ∧ r = (c : Int) ∧ 0 < w c ∧ (∀ t, t < n → 0 < w t → v c ≤ v t) ∧ ∀ t, t < c → 0 < w t → v c < v t
theorem LO.un {n : Nat} {w v w' v' : Nat → Int} {r r' : Int} (h : LO n w v r) (h' : LO n w' v' r') (e : ∀ t, t < n → w t = w' t ∧ v t = v' t) : r = r' := by
  rcases h with ⟨a, b⟩ | ⟨c, hc, ec, pc, lc, mc⟩
  · rcases h' with ⟨a', b'⟩ | ⟨c', hc', ec', pc', lc', mc'⟩
    · omega
    · have q := b c' hc'
      rw [(e c' hc').1] at q
      exact absurd pc' q
  · rcases h' with ⟨a', b'⟩ | ⟨c', hc', ec', pc', lc', mc'⟩
    · have q := b' c hc
      rw [← (e c hc).1] at q
      exact absurd pc q
    · have e1 := e c hc
      have e2 := e c' hc'
      have q1 := lc c' hc' (by omega)
      have q2 := lc' c hc (by omega)
      by_cases z : c < c'
      · have q := mc' c z (by omega)
        omega
      · by_cases z2 : c' < c
        · have q := mc c' z2 (by omega)
          omega
        · omega
/-- one cell one size larger -/
def cwN (src : Nat → Int) (j c : Nat) : Nat → Int
  | 0 => 0
  | w + 1 => cwN src j c w + (if src w = (j : Int) ∧ w / 4 = c then 1 else 0)
def gD (D : Nat → Nat → Int) (n c k j : Nat) : Int := match k with
  | 3 => if j < n then D 3 j + cwN (D 5) j c (4 * n) else D 3 j
  | 4 => if j = c then D 4 j + 1 else D 4 j
  | k => D k j
theorem gD_o {D : Nat → Nat → Int} {n c k : Nat} (h3 : k ≠ 3) (h4 : k ≠ 4) : gD D n c k = D k := by
  funext j
  unfold gD
  split
  · exact absurd rfl h3
  · exact absurd rfl h4
  · rfl
theorem Wo.gr {D : Nat → Nat → Int} {n c : Nat} {ρ : Nat → Nat} (h : Wo D n ρ) : Wo (gD D n c) n ρ := by
  unfold Wo Rk ipN gN
  rw [gD_o (k := 0) (by decide) (by decide), gD_o (k := 1) (by decide) (by decide), gD_o (k := 5) (by decide) (by decide)]
  exact h
theorem ldF_up {x : Int} {src sz : Nat → Int} {j c : Nat} : ∀ W : Nat, ldF x src (fu sz c (sz c + 1)) (j : Int) W = ldF x src sz (j : Int) W + cwN src j c W
  | 0 => by
    show x = x + 0
    omega
  | W + 1 => by
    have ih := ldF_up (x := x) (src := src) (sz := sz) (j := j) (c := c) W
    rw [ldF_s, ldF_s, ih]
    show _ = _ + (cwN src j c W + (if src W = (j : Int) ∧ W / 4 = c then 1 else 0))
    by_cases a : src W = (j : Int)
    · rw [if_pos a, if_pos a]
      by_cases b : W / 4 = c
      · rw [if_pos ⟨a, b⟩, b, fu_eq]; omega
      · rw [if_neg (fun z => b z.2), fu_ne b]; omega
    · rw [if_neg a, if_neg a, if_neg (fun z => a z.1)]; omega
theorem cwN_c {src src' : Nat → Int} {j c : Nat} : ∀ W : Nat, (∀ w, w < W → (src w = (j : Int) ↔ src' w = (j : Int))) → cwN src j c W = cwN src' j c W
  | 0, _ => rfl
  | W + 1, h => by
    have ih := cwN_c (c := c) W (fun w hw => h w (by omega))
    have q := h W (by omega)
    show cwN src j c W + (if src W = (j : Int) ∧ W / 4 = c then 1 else 0) = cwN src' j c W + (if src' W = (j : Int) ∧ W / 4 = c then 1 else 0)
    rw [ih]
    by_cases a : src W = (j : Int) ∧ W / 4 = c
    · rw [if_pos a, if_pos ⟨q.mp a.1, a.2⟩]
    · rw [if_neg a, if_neg (fun z => a ⟨q.mpr z.1, z.2⟩)]
def celF (x : Nat × Nat × List Nat) : List Nat := x.1 :: gsP x.2.2
/-- one cell larger mends it -/
def Tr1 (D U : Nat → Nat → Int) (n R : Nat) (len : Int) (sh : Nat → Nat → Int) (a h : Int) (c : Nat) : Prop := D 0 c ≠ 0 ∧ D 4 c < 2 ∧ ∃ (w l g : Nat → Int) (r rh : Nat), JA (gD D n c) U n R len sh w l g ∧ LO n w l (r : Int) ∧ LO n w g (rh : Int) ∧ a < l r ∧ h ≤ g rh
noncomputable def grF (P : Nat → Prop) : List Nat → Option Nat
  | [] => none
  | c :: cs => @ite (Option Nat) (P c) (Classical.propDecidable (P c)) (some c) (grF P cs)
theorem grF_y {P : Nat → Prop} {c : Nat} {cs : List Nat} (h : P c) : grF P (c :: cs) = some c := by
  show @ite (Option Nat) (P c) (Classical.propDecidable (P c)) (some c) (grF P cs) = _
  rw [if_pos h]
theorem grF_n {P : Nat → Prop} {c : Nat} {cs : List Nat} (h : ¬ P c) : grF P (c :: cs) = grF P cs := by
  show @ite (Option Nat) (P c) (Classical.propDecidable (P c)) (some c) (grF P cs) = _
  rw [if_neg h]
def StpF (w l : Nat → Int) (r0 : Int) : Prop := r0 < 0 ∨ ∃ t : Nat, r0 = (t : Int) ∧ (0 ≤ l t ∨ 1000 ≤ w t)
def FxR (U : Nat → Nat → Int) (n R : Nat) (len : Int) (sh : Nat → Nat → Int) : Nat → (Nat → Nat → Int) → Int → (Nat → Nat → Int) → Prop
  | 0, D, r, D' => r = 0 ∧ D' = D
  | k + 1, D, r, D' => ∃ (w l g : Nat → Int) (r0 : Int), JA D U n R len sh w l g ∧ LO n w l r0 ∧ ((StpF w l r0 ∧ r = 0 ∧ D' = D) ∨ (¬ StpF w l r0 ∧ ∃ (t rh : Nat) (x : Nat × Nat × List Nat), r0 = (t : Int) ∧ LO n w g (rh : Int) ∧ PA D U n R len sh t 0 x ∧ ((grF (Tr1 D U n R len sh (l t) (g rh)) (celF x) = none ∧ r = 0 ∧ D' = D) ∨ ∃ (c : Nat) (r1 : Int), grF (Tr1 D U n R len sh (l t) (g rh)) (celF x) = some c ∧ r = r1 + 1 ∧ FxR U n R len sh k (gD D n c) r1 D')))
theorem FxR.un {U : Nat → Nat → Int} {n R : Nat} {len : Int} {sh : Nat → Nat → Int} {ρ : Nat → Nat} : ∀ (k : Nat) (D : Nat → Nat → Int) (r r' : Int) (D1 D2 : Nat → Nat → Int), Wo D n ρ → (∀ t, t < n → tgD D t → D 1 t = 1) → FxR U n R len sh k D r D1 → FxR U n R len sh k D r' D2 → r = r' ∧ D1 = D2
  | 0, D, r, r', D1, D2, _, _, h, h' => by
    obtain ⟨a, b⟩ := h
    obtain ⟨a', b'⟩ := h'
    exact ⟨by rw [a, a'], by rw [b, b']⟩
  | k + 1, D, r, r', D1, D2, hW, hT, h, h' => by
    obtain ⟨w, l, g, r0, j, lo, h⟩ := h
    obtain ⟨w', l', g', r0', j', lo', h'⟩ := h'
    have e := JA.un hW j j'
    have er : r0 = r0' := LO.un lo lo' (fun t ht => ⟨(e t ht).1, (e t ht).2.1⟩)
    have inb : ∀ t : Nat, r0 = (t : Int) → t < n ∧ 0 < w t := fun t et => by
      rcases lo with ⟨a, _⟩ | ⟨c, hc, ec, pc, _⟩
      · omega
      · have z : t = c := by omega
        rw [z]; exact ⟨hc, pc⟩
    have st : StpF w l r0 ↔ StpF w' l' r0' := by
      unfold StpF
      rw [← er]
      refine ⟨fun z => z.imp (fun y => y) (fun ⟨t, a, b⟩ => ⟨t, a, ?_⟩), fun z => z.imp (fun y => y) (fun ⟨t, a, b⟩ => ⟨t, a, ?_⟩)⟩
      · have q := e t (inb t a).1
        omega
      · have q := e t (inb t a).1
        omega
    rcases h with ⟨s, a, b⟩ | ⟨s, t, rh, x, et, lh, px, h⟩
    · rcases h' with ⟨s', a', b'⟩ | ⟨s', _⟩
      · exact ⟨by rw [a, a'], by rw [b, b']⟩
      · exact absurd (st.mp s) s'
    · rcases h' with ⟨s', _⟩ | ⟨s', t', rh', x', et', lh', px', h'⟩
      · exact absurd (st.mpr s') s
      · have tt : t = t' := by omega
        have rr : (rh : Int) = (rh' : Int) := LO.un lh lh' (fun t ht => ⟨(e t ht).1, (e t ht).2.2⟩)
        have rr2 : rh = rh' := by omega
        have tn := inb t et
        have hn : rh < n := by
          rcases lh with ⟨a, _⟩ | ⟨c, hc, ec, _⟩
          · omega
          · omega
        have tg : tgD D t := by
          refine Classical.byContradiction (fun z => ?_)
          have q := ((j t tn.1).2 z).1
          omega
        rw [← tt] at px' h'
        have xx := PA.un hW (hT t tn.1 tg) px px'
        rw [← xx, ← rr2, ← (e t tn.1).2.1, ← (e rh hn).2.2] at h'
        rcases h with ⟨a, b, c⟩ | ⟨c, r1, a, b, f⟩
        · rcases h' with ⟨a', b', c'⟩ | ⟨c', r1', a', b', f'⟩
          · exact ⟨by rw [b, b'], by rw [c, c']⟩
          · rw [a] at a'
            cases a'
        · rcases h' with ⟨a', b', c'⟩ | ⟨c', r1', a', b', f'⟩
          · rw [a] at a'
            cases a'
          · rw [a] at a'
            injection a' with a'
            rw [← a'] at f'
            have q := FxR.un k (gD D n c) r1 r1' D1 D2 hW.gr (fun t ht tg => by
              rw [gD_o (k := 1) (by decide) (by decide)]
              refine hT t ht ?_
              unfold tgD at tg ⊢
              rw [gD_o (k := 0) (by decide) (by decide)] at tg
              exact tg) f f'
            exact ⟨by rw [b, b', q.1], q.2⟩
