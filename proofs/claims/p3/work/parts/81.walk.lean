/-- node X: output X / 32 at edge X / 16 % 2 with the exceptions X % 16 met; wire w leads from there on -/
def aB (τ : VS) (X w : Nat) : Bool := decide (w / 4 < nC τ ∧ 0 < Kd τ (w / 4) ∧ Kd τ (w / 4) < 4 ∧ (τ.2.1 34 (w / 4)).toInt ≠ 0 ∧ (τ.2.1 35 (w / 4)).toInt = 0 ∧ ((w % 4 : Nat) : Int) < Ip τ (w / 4) ∧ Tk τ w = ((X / 32 : Nat) : Int) ∧ (τ.2.1 34 (X / 32)).toInt ≠ 0)
def outE (τ : VS) (d e : Nat) : Nat := if Kd τ d = 2 then 1 - e else e
def dN (τ : VS) (X w : Nat) : Nat := 16 * (2 * (w / 4) + outE τ (w / 4) (X / 16 % 2)) + (X % 16 ||| metN τ (w / 4))
def hw (τ : VS) (X : Nat) : Nat := (τ.2.1 42 X).toInt.toNat
/-- the numbers of ways hold at least what came over the wires of P -/
def WI (g : Nat → Nat → Nat) (st : Nat → Nat) (P : Nat → Nat → Bool) (h : Nat → Nat) : Prop := ∀ Y, Y < 1600 → min 1000 (st Y + sm 1600 (fun X => sm 200 (fun w => if P X w = true ∧ g X w = Y then h X else 0))) ≤ h Y
theorem WI.mono {g : Nat → Nat → Nat} {st : Nat → Nat} {P P2 : Nat → Nat → Bool} {h : Nat → Nat} (hI : WI g st P h) (hP : ∀ X w, X < 1600 → w < 200 → P2 X w = true → P X w = true) : WI g st P2 h := by
  intro Y hY
  have h1 := hI Y hY
  have h2 : sm 1600 (fun X => sm 200 (fun w => if P2 X w = true ∧ g X w = Y then h X else 0)) ≤ sm 1600 (fun X => sm 200 (fun w => if P X w = true ∧ g X w = Y then h X else 0)) := by
    refine sm_le (fun X hX => sm_le (fun w hw => ?_))
    by_cases e : P2 X w = true ∧ g X w = Y
    · rw [if_pos e, if_pos ⟨hP X w hX hw e.1, e.2⟩]; exact Nat.le_refl _
    · rw [if_neg e]; exact Nat.zero_le _
  omega
theorem WI.step {g : Nat → Nat → Nat} {st : Nat → Nat} {P P2 : Nat → Nat → Bool} {h h2 : Nat → Nat} {X0 w0 : Nat} (hI : WI g st P h) (hX : X0 < 1600) (hw : w0 < 200) (hP : ∀ X w, P2 X w = true → P X w = true ∨ (X = X0 ∧ w = w0)) (hne : ∀ X w, P X w = true → X ≠ g X0 w0) (hne0 : X0 ≠ g X0 w0) (hh : ∀ Y, h2 Y = if Y = g X0 w0 then min 1000 (h Y + h X0) else h Y) (hb : ∀ Y, h Y ≤ 1000) : WI g st P2 h2 := by
  intro Y hY
  have h1 := hI Y hY
  obtain ⟨f, hf⟩ : ∃ f : Nat → Nat → Nat, f = fun X w => if P X w = true ∧ g X w = Y then h X else 0 := ⟨_, rfl⟩
  obtain ⟨f2, hf2⟩ : ∃ f9 : Nat → Nat → Nat, f9 = fun X w => f X w + (if X = X0 ∧ w = w0 ∧ g X0 w0 = Y then h X0 else 0) := ⟨_, rfl⟩
  have hle : sm 1600 (fun X => sm 200 (fun w => if P2 X w = true ∧ g X w = Y then h2 X else 0)) ≤ sm 1600 (fun X => sm 200 (fun w => f2 X w)) := by
    refine sm_le (fun X _ => sm_le (fun w _ => ?_))
    rw [hf2]
    show _ ≤ f X w + (if X = X0 ∧ w = w0 ∧ g X0 w0 = Y then h X0 else 0)
    by_cases e : P2 X w = true ∧ g X w = Y
    · rw [if_pos e]
      rcases hP X w e.1 with q | q
      · rw [hh X, if_neg (hne X w q), hf]
        show _ ≤ (if P X w = true ∧ g X w = Y then h X else 0) + _
        rw [if_pos ⟨q, e.2⟩]
        exact Nat.le_add_right _ _
      · obtain ⟨rfl, rfl⟩ := q
        rw [hh X, if_neg hne0, if_pos ⟨rfl, rfl, e.2⟩]
        exact Nat.le_add_left _ _
    · rw [if_neg e]; exact Nat.zero_le _
  have hs : sm 1600 (fun X => sm 200 (fun w => f2 X w)) = sm 1600 (fun X => sm 200 (fun w => f X w)) + (if g X0 w0 = Y then h X0 else 0) := by
    have e1 : sm 1600 (fun X => sm 200 (fun w => f2 X w)) = sm 1600 (fun X => sm 200 (fun w => f X w)) + sm 1600 (fun X => sm 200 (fun w => if X = X0 ∧ w = w0 ∧ g X0 w0 = Y then h X0 else 0)) := by
      rw [← sm_add]
      refine sm_eq (fun X _ => ?_)
      show sm 200 (fun w => f2 X w) = sm 200 (fun w => f X w) + sm 200 (fun w => if X = X0 ∧ w = w0 ∧ g X0 w0 = Y then h X0 else 0)
      rw [← sm_add, hf2]
    have e2 : sm 1600 (fun X => sm 200 (fun w => if X = X0 ∧ w = w0 ∧ g X0 w0 = Y then h X0 else 0)) = if g X0 w0 = Y then h X0 else 0 := by
      rw [sm_one hX (fun X _ hq => sm_none (fun w _ => if_neg (fun z => hq z.1)))]
      show sm 200 (fun w => if X0 = X0 ∧ w = w0 ∧ g X0 w0 = Y then h X0 else 0) = _
      rw [sm_one hw (fun w _ hq => if_neg (fun z => hq z.2.1))]
      by_cases e : g X0 w0 = Y
      · rw [if_pos e]; exact if_pos ⟨rfl, rfl, e⟩
      · rw [if_neg e]; exact if_neg (fun z => e z.2.2)
    rw [e1, e2]
  have h1' : min 1000 (st Y + sm 1600 (fun X => sm 200 (fun w => f X w))) ≤ h Y := by rw [hf]; exact h1
  rw [hh Y]
  have hbY := hb Y
  have hbX := hb X0
  by_cases e : g X0 w0 = Y
  · rw [if_pos e.symm]
    rw [if_pos e] at hs
    omega
  · rw [if_neg (fun q => e q.symm)]
    rw [if_neg e] at hs
    omega
set_option maxHeartbeats 2000000 in
theorem rg_passes {Q : VS → Prop} {p1 p2 p3 p4 : Int32} {σ : VS} {f d i e : Nat} {st : Nat → Nat} {P : Nat → Nat → Bool} (hf : p1.toInt = (f : Int)) (hd : p2.toInt = (d : Int)) (hi : p3.toInt = (i : Int)) (he : p4.toInt = (e : Int)) (hf50 : f < 50) (hd50 : d < 50) (hi4 : i < 4) (he2 : e < 2) (hfd : f ≠ d) (hM : MI σ) (hI : WI (dN σ) st P (hw σ)) (hP : ∀ X w, P X w = true → X / 32 ≠ d)
    (hq : ∀ τ : VS, MI τ → Eo [] [42, 43, 44] σ τ → (∀ P2 : Nat → Nat → Bool, (∀ X w, P2 X w = true → P X w = true ∨ (w = 4 * d + i ∧ X / 16 = 2 * f + e)) → WI (dN σ) st P2 (hw τ)) → Q τ) : wp_passes Q p1 p2 p3 p4 σ := by
  have hrk := rd_at σ 2 p2 hd
  have hmet := metN_eq hM d
  unfold wp_passes
  intro X31 H31
  have L : ∀ (n m : Nat) (l7 l5 : Int32) (x : VS), l7.toInt = (m : Int) → m ≤ 16 → 16 - m < n → l5.toInt = (outE σ d e : Int) → MI x → Eo [] [42, 43, 44] σ x → WI (dN σ) st (fun X w => P X w || (decide (w = 4 * d + i ∧ X / 16 = 2 * f + e ∧ X % 16 < m))) (hw x) → X31 p1 p2 p3 p4 l5 (metV σ p2.toInt) l7 x := by
    intro n
    induction n with
    | zero => intro m l7 l5 x h1 h2 h3; omega
    | succ n ih =>
      intro m l7 l5 x h1 h2 h3 h5 hMx hEx hIx
      refine H31 _ _ _ _ _ _ _ _ ?_
      unfold b_passes_31
      refine ⟨fun hge => ?_, fun hlt x3 e3 => ?_⟩
      · refine hq x hMx hEx (fun P2 hP2 => hIx.mono (fun X w _ _ h => ?_))
        rcases hP2 X w h with q | q
        · show (P X w || _) = true
          rw [q]; rfl
        · show (P X w || decide (w = 4 * d + i ∧ X / 16 = 2 * f + e ∧ X % 16 < m)) = true
          rw [decide_eq_true (⟨q.1, q.2, by omega⟩ : w = 4 * d + i ∧ X / 16 = 2 * f + e ∧ X % 16 < m)]
          exact Bool.or_true _
      · have hout : outE σ d e < 2 := by unfold outE; split <;> omega
        obtain ⟨X0, hX0⟩ : ∃ X : Nat, X = 16 * (2 * f + e) + m := ⟨_, rfl⟩
        obtain ⟨Y0, hY0⟩ : ∃ Y : Nat, Y = dN σ X0 (4 * d + i) := ⟨_, rfl⟩
        have hw4 : (4 * d + i) / 4 = d := by omega
        have hX16 : X0 / 16 % 2 = e := by omega
        have hXm : X0 % 16 = m := by omega
        have hor := or_lt (m := m) (k := metN σ d) (by omega) hmet.2
        have hYv : Y0 = 16 * (2 * d + outE σ d e) + (m ||| metN σ d) := by rw [hY0]; unfold dN; rw [hw4, hX16, hXm]
        have u1 : (2 * p1).toInt = 2 * p1.toInt := i3_mulc rfl rfl rfl (by omega)
        have u2 : (2 * p1 + p4).toInt = (2 * p1).toInt + p4.toInt := i3_addc rfl rfl rfl (by omega)
        have u3 : (16 * (2 * p1 + p4)).toInt = 16 * (2 * p1 + p4).toInt := i3_mulc rfl rfl rfl (by omega)
        have u4 : x3.toInt = (16 * (2 * p1 + p4)).toInt + l7.toInt := i3_addc rfl rfl e3 (by omega)
        have t1 : (l7 + 1).toInt = l7.toInt + 1 := i3_addc rfl rfl rfl (by omega)
        have hr0 := rd_at x 42 x3 (n := X0) (by omega)
        have hbX : 0 ≤ (x.2.1 42 X0).toInt ∧ (x.2.1 42 X0).toInt ≤ 1000 := hMx.2 42 X0
        have hb : ∀ Y, hw x Y ≤ 1000 := fun Y => by have : 0 ≤ (x.2.1 42 Y).toInt ∧ (x.2.1 42 Y).toInt ≤ 1000 := hMx.2 42 Y; unfold hw; omega
        have hstep : ∀ h2 : Nat → Nat, (∀ Y, h2 Y = if Y = Y0 then min 1000 (hw x Y + hw x X0) else hw x Y) → WI (dN σ) st (fun X w => P X w || (decide (w = 4 * d + i ∧ X / 16 = 2 * f + e ∧ X % 16 < m + 1))) h2 := by
          intro h2 hh2
          refine WI.step (X0 := X0) (w0 := 4 * d + i) hIx (by omega) (by omega) (fun X w h => ?_) (fun X w h => ?_) (by rw [← hY0]; omega) (by rw [← hY0]; exact hh2) hb
          · replace h : (P X w || decide (w = 4 * d + i ∧ X / 16 = 2 * f + e ∧ X % 16 < m + 1)) = true := h
            rcases Bool.or_eq_true_iff.mp h with q | q
            · exact Or.inl (by show (P X w || _) = true; rw [q]; rfl)
            · have q := of_decide_eq_true q
              by_cases e9 : X % 16 = m
              · exact Or.inr ⟨by omega, q.1⟩
              · refine Or.inl ?_
                show (P X w || decide (w = 4 * d + i ∧ X / 16 = 2 * f + e ∧ X % 16 < m)) = true
                rw [decide_eq_true (⟨q.1, q.2.1, by omega⟩ : w = 4 * d + i ∧ X / 16 = 2 * f + e ∧ X % 16 < m)]
                exact Bool.or_true _
          · replace h : (P X w || decide (w = 4 * d + i ∧ X / 16 = 2 * f + e ∧ X % 16 < m)) = true := h
            rw [← hY0]
            rcases Bool.or_eq_true_iff.mp h with q | q
            · have := hP X w q; omega
            · have q := of_decide_eq_true q; omega
        rw [hr0]
        refine ⟨⟨by omega, by omega⟩, fun hne x4 e4 => ?_, fun hz => ?_⟩
        · have v1 : (2 * p2).toInt = 2 * p2.toInt := i3_mulc rfl rfl rfl (by omega)
          have v2 : (2 * p2 + l5).toInt = (2 * p2).toInt + l5.toInt := i3_addc rfl rfl rfl (by omega)
          have v3 : (16 * (2 * p2 + l5)).toInt = 16 * (2 * p2 + l5).toInt := i3_mulc rfl rfl rfl (by omega)
          have hm2 : (metV σ p2.toInt).toInt = (metN σ d : Int) := by rw [hd]; exact hmet.1
          have v4 := or_nat h1 hm2 (by omega) hmet.2
          have v5 : x4.toInt = (16 * (2 * p2 + l5)).toInt + (l7 ||| metV σ p2.toInt).toInt := i3_addc rfl rfl e4 (by omega)
          have w1 : (8 * p2).toInt = 8 * p2.toInt := i3_mulc rfl rfl rfl (by omega)
          have w2 : (2 * p3).toInt = 2 * p3.toInt := i3_mulc rfl rfl rfl (by omega)
          have w3 : (8 * p2 + 2 * p3).toInt = (8 * p2).toInt + (2 * p3).toInt := i3_addc rfl rfl rfl (by omega)
          have w4 : (8 * p2 + 2 * p3 + l5).toInt = (8 * p2 + 2 * p3).toInt + l5.toInt := i3_addc rfl rfl rfl (by omega)
          have hx4 : x4.toInt = (Y0 : Int) := by omega
          have h201 : ∀ (k0 : Int32) (y : VS), MI y → Eo [] [43] x y → b_passes_201 X31 Q p1 p2 p3 p4 l5 (metV σ p2.toInt) l7 x3 x4 k0 x4 y := by
            intro k0 y hMy hEy
            unfold b_passes_201
            refine ⟨⟨by omega, by omega⟩, ⟨by omega, by omega⟩, ⟨by omega, by omega⟩, ⟨by omega, by omega⟩, ?_⟩
            have hMz := hMy.sa 44 x4 k0 (i3_bd _)
            have r1 : rd (sa y 44 x4 k0) 42 x4 = x.2.1 42 Y0 := by rw [rd_at _ 42 x4 hx4, sa_other (by decide), hEy.2 42 (by decide)]
            have r2 : rd (sa y 44 x4 k0) 42 x3 = x.2.1 42 X0 := by rw [rd_at _ 42 x3 (n := X0) (by omega), sa_other (by decide), hEy.2 42 (by decide)]
            rw [r1, r2]
            have hbY : 0 ≤ (x.2.1 42 Y0).toInt ∧ (x.2.1 42 Y0).toInt ≤ 1000 := hMx.2 42 Y0
            have q1 : (x.2.1 42 Y0 + x.2.1 42 X0).toInt = (x.2.1 42 Y0).toInt + (x.2.1 42 X0).toInt := i3_add rfl (by omega)
            have q2 : ((imin 1000 (x.2.1 42 Y0 + x.2.1 42 X0)).toInt ≤ 1000 ∧ (imin 1000 (x.2.1 42 Y0 + x.2.1 42 X0)).toInt ≤ (x.2.1 42 Y0 + x.2.1 42 X0).toInt) ∧ ((imin 1000 (x.2.1 42 Y0 + x.2.1 42 X0)).toInt = 1000 ∨ (imin 1000 (x.2.1 42 Y0 + x.2.1 42 X0)).toInt = (x.2.1 42 Y0 + x.2.1 42 X0).toInt) := i3_min rfl
            unfold b_passes_230
            refine ih (m + 1) (l7 + 1) l5 _ (by omega) (by omega) (by omega) h5 (hMz.sa 42 x4 _ (show 0 ≤ (imin 1000 (x.2.1 42 Y0 + x.2.1 42 X0)).toInt ∧ (imin 1000 (x.2.1 42 Y0 + x.2.1 42 X0)).toInt ≤ 1000 by omega)) (((hEx.of hEy (by decide) (by decide)).sa 44 _ _ (by decide)).sa 42 _ _ (by decide)) (hstep _ (fun Y => ?_))
            show (((sa (sa y 44 x4 k0) 42 x4 (imin 1000 (x.2.1 42 Y0 + x.2.1 42 X0))).2.1 42 Y).toInt).toNat = _
            rw [sa_at _ 42 x4 _ hx4]
            by_cases e9 : Y = Y0
            · rw [if_pos e9, if_pos e9, e9]
              unfold hw
              omega
            · rw [if_neg e9, if_neg e9, sa_other (by decide), hEy.2 42 (by decide)]
              rfl
          have h167 : ∀ (k0 l11 : Int32), b_passes_167 X31 Q p1 p2 p3 p4 l5 (metV σ p2.toInt) l7 x3 x4 l11 k0 x4 x := by
            intro k0 l11
            have hMy := hMx.sa 43 x4 k0 (i3_bd _)
            have hEy : Eo [] [43] x (sa x 43 x4 k0) := Eo.rfl.sa 43 _ _ (by decide)
            unfold b_passes_167
            exact ⟨⟨by omega, by omega⟩, ⟨by omega, by omega⟩, fun _ => ⟨⟨by omega, by omega⟩, h201 _ _ hMy hEy⟩, fun _ => h201 _ _ hMy hEy⟩
          exact ⟨⟨by omega, by omega⟩, ⟨by omega, by omega⟩, fun x5 _ => ⟨⟨by omega, by omega⟩, ⟨by omega, by omega⟩, fun x6 _ => ⟨⟨by omega, by omega⟩, fun _ => ⟨⟨by omega, by omega⟩, h167 _ _⟩, fun _ => h167 _ _⟩⟩⟩
        · unfold b_passes_230
          refine ih (m + 1) (l7 + 1) l5 x (by omega) (by omega) (by omega) h5 hMx hEx (hstep _ (fun Y => ?_))
          have hz2 : hw x X0 = 0 := by unfold hw; omega
          have := hb Y
          rw [hz2]
          by_cases e9 : Y = Y0
          · rw [if_pos e9]; omega
          · rw [if_neg e9]
  have h19 : ∀ k0 : Int32, k0.toInt = (outE σ d e : Int) → b_passes_19 X31 Q p1 p2 p3 p4 k0 σ := by
    intro k0 hk
    unfold b_passes_19
    refine met_s hM ?_
    refine L 17 0 0 k0 σ rfl (by omega) (by omega) hk hM Eo.rfl (hI.mono (fun X w _ _ h => ?_))
    replace h : (P X w || decide (w = 4 * d + i ∧ X / 16 = 2 * f + e ∧ X % 16 < 0)) = true := h
    rcases Bool.or_eq_true_iff.mp h with q | q
    · exact q
    · have q := of_decide_eq_true q; omega
  rw [hrk]
  refine ⟨⟨by omega, by omega⟩, fun hk => h19 p4 ?_, fun hk => h19 (1 - p4) ?_⟩
  · unfold outE Kd; rw [if_neg hk]; exact he
  · have t : (1 - p4).toInt = 1 - p4.toInt := i3_subc rfl rfl rfl (by omega)
    unfold outE Kd; rw [if_pos hk]; omega

