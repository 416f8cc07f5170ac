/-! REFRESHING -/
theorem CBt.rc {σ τ : VS} (B : CBt σ τ) : (σ.1 6).toInt = ((rC σ : Nat) : Int) ∧ rC σ ≤ 4 := by
  have h : 0 ≤ (σ.1 6).toInt ∧ (σ.1 6).toInt ≤ 4 := B.ci.1 6
  unfold rC
  omega
theorem cx_refreshTiming {Q : VS → Prop} {σ τ : VS} (B : CBt σ τ) (hT : CTm σ) (hR : CRc σ τ) (hq : ∀ x : VS, CBt x τ → Eo [0] [39, 40, 41, 42, 43, 44, 45, 46] σ x → (x.1 0).toInt ≠ 0 → CTm x → CRc x τ → Q x) : wp_X9refreshTiming Q σ := by
  have hM := B.ci
  unfold wp_X9refreshTiming b_X9refreshTiming_19
  refine ⟨fun z => hq σ B Eo.rfl z hT hR, fun z => ?_⟩
  refine cx_run hM B.1.2.2.2.2.2 B.1.2.2.2.2.1 B.1.1.1.1.2.1 (B.1.wel2 B.2.1) (fun y My Ey Sy => ?_)
  have Mx : CI (sf y 0 1) := My.sf 0 1 (by decide)
  have Ex : Eo [0] [39, 40, 41, 42, 43, 44, 45, 46] σ (sf y 0 1) := (Ey.mono (fun k hk => by cases hk) (fun k hk => hk)).sf 0 1 (by decide)
  have r0 : (σ.1 1).toInt = 0 := Decidable.not_not.mp (fun w => (hR w).1 z)
  have d : dC (sf y 0 1) = dC σ := dC_q Ex (by decide) (by decide) (vv_eo Ex (by decide))
  have nn : nCl (sf y 0 1) = nCl σ := by unfold nCl; rw [Ex.1 2 (by decide)]
  refine hq _ (B.qc Mx (Ex.mono (by decide) (by decide))) Ex (by rw [sf_same]; decide) (fun _ c hc => ?_) (fun w => ?_)
  · rw [nn] at hc
    exact StC.mv d (Sy c hc)
  · rw [Ex.1 1 (by decide)] at w
    exact absurd r0 w
theorem cx_raceGo {Q : VS → Prop} {σ τ : VS} (B : CBt σ τ) (hSt : ∀ c, c < nCl σ → StC σ (vC σ) c 2400000) (hq : ∀ x : VS, CI x → Eo [9, 10] [47, 48, 49, 50, 51, 52] σ x → JAc x τ → Q x) : wp_X2run Q σ := by
  have hM := B.ci
  have hM2 : MI τ := B.1.1.1.1.2.2.1
  obtain ⟨hR, hR4⟩ := B.rc
  obtain ⟨ρ, hW⟩ := B.1.wo
  obtain ⟨BB, hBB⟩ := BB_ex hW.1 (vC σ 1)
  have rce : Rce σ (rC σ) (bC (vv σ 33) (rC σ)) BB (shF τ) := ⟨hR, B.2.2, fun c => orN_lt _ _, hBB, hSt, B.1.wel2 B.2.1, fun s t => shM_b hM2 B.2.1.2.1 s t, fun x Mx Ex s t p1 p2 Q h1 h2 hs ht hq => cx_shEq (B.1.qc Mx (Ex.mono (by decide) (by decide))) h1 h2 (by unfold nCl; rw [Ex.1 2 (by decide)]; exact hs) (by unfold nCl; rw [Ex.1 2 (by decide)]; exact ht) (hq _ rfl)⟩
  refine cx_race hM B.1.2.2.2.2.1 B.1.1.1.1.2.1 rce (fun x Mx Ex q1 q2 q3 => hq x Mx Ex ?_)
  unfold JAc rC nCl
  rw [dC_q Ex (by decide) (by decide) (vv_eo Ex (by decide)), UC_same Ex (by decide), Ex.1 2 (by decide), Ex.1 6 (by decide), Ex.1 4 (by decide)]
  refine ⟨fun t ht => ⟨fun k => cx_jg hM rce ht (q1 t ht ((isT_D hM ht).mpr k)), fun k => q2 t ht (fun w => k ((isT_D hM ht).mp w))⟩, cx_ng hM rce q3⟩
theorem cx_refreshRace {Q : VS → Prop} {σ τ : VS} (B : CBt σ τ) (hT : CTm σ) (hR : CRc σ τ) (hq : ∀ x : VS, CBt x τ → Eo [0, 1, 9, 10] [39, 40, 41, 42, 43, 44, 45, 46, 47, 48, 49, 50, 51, 52] σ x → (x.1 1).toInt ≠ 0 → CTm x → CRc x τ → Q x) : wp_X9refreshRace Q σ := by
  have hM := B.ci
  have go : ∀ y : VS, CI y → Eo [] [39, 40, 41, 42, 43, 44, 45, 46] σ y → (∀ c, c < nCl y → StC y (vC y) c 2400000) → b_X9refreshRace_22 Q y := fun y My Ey Sy => by
    unfold b_X9refreshRace_22
    have By : CBt y τ := B.qc My (Ey.mono (fun k hk => by cases hk) (by decide))
    refine cx_raceGo By Sy (fun x Mx Ex Jx => ?_)
    have M2 : CI (sf (sf x 0 1) 1 1) := (Mx.sf 0 1 (by decide)).sf 1 1 (by decide)
    have E1 : Eo [0, 1] [] x (sf (sf x 0 1) 1 1) := (Eo.rfl.sf 0 1 (by decide)).sf 1 1 (by decide)
    have E2 : Eo [0, 1, 9, 10] [39, 40, 41, 42, 43, 44, 45, 46, 47, 48, 49, 50, 51, 52] σ (sf (sf x 0 1) 1 1) := ((Ey.mono (fun k hk => by cases hk) (by decide)).trans (Ex.mono (by decide) (by decide))).trans (E1.mono (by decide) (fun k hk => by cases hk))
    have E3 : Eo [0, 1, 9, 10] [47, 48, 49, 50, 51, 52] y (sf (sf x 0 1) 1 1) := (Ex.mono (by decide) (fun k hk => hk)).trans (E1.mono (by decide) (fun k hk => by cases hk))
    have J2 : JAc (sf (sf x 0 1) 1 1) τ := Jx.same E1 (by decide) (by decide)
    have f0 : ((sf (sf x 0 1) 1 1).1 0).toInt ≠ 0 := by rw [sf_other (by decide), sf_same]; decide
    exact hq _ (B.qc M2 (E2.mono (by decide) (by decide))) E2 (by rw [sf_same]; decide) (fun _ => St_mv My E3 (by decide) (by decide) Sy) (fun _ => ⟨f0, J2⟩)
  unfold wp_X9refreshRace
  refine ⟨fun z => ⟨fun w => go σ hM Eo.rfl (hT w), fun w => ?_⟩, fun z => hq σ B Eo.rfl z hT hR⟩
  refine cx_run hM B.1.2.2.2.2.2 B.1.2.2.2.2.1 B.1.1.1.1.2.1 (B.1.wel2 B.2.1) (fun y My Ey Sy => ?_)
  have d : dC y = dC σ := dC_q Ey (by decide) (by decide) (vv_eo Ey (by decide))
  have nn : nCl y = nCl σ := by unfold nCl; rw [Ey.1 2 (by decide)]
  exact go y My Ey (fun c hc => StC.mv d (Sy c (by omega)))
theorem LO.skip {k : Nat} {w v : Nat → Int} {r : Int} (h : LO k w v r) (n : ¬ 0 < w k) : LO (k + 1) w v r := by
  rcases h with ⟨a, b⟩ | ⟨c, hc, ec, pc, lc, mc⟩
  · refine Or.inl ⟨a, fun t ht => ?_⟩
    by_cases z : t = k
    · rw [z]; exact n
    · exact b t (by omega)
  · refine Or.inr ⟨c, by omega, ec, pc, fun t ht q => ?_, mc⟩
    by_cases z : t = k
    · exact absurd (z ▸ q) n
    · exact lc t (by omega) q
theorem LO.first {k : Nat} {w v : Nat → Int} {r : Int} (h : LO k w v r) (hr : r < 0) (p : 0 < w k) : LO (k + 1) w v (k : Int) := by
  rcases h with ⟨a, b⟩ | ⟨c, hc, ec, pc, lc, mc⟩
  · refine Or.inr ⟨k, by omega, rfl, p, fun t ht q => ?_, fun t ht q => absurd q (b t ht)⟩
    by_cases z : t = k
    · rw [z]; exact Int.le_refl _
    · exact absurd q (b t (by omega))
  · omega
theorem LO.stay {k c : Nat} {w v : Nat → Int} (h : LO k w v (c : Int)) (l : v c ≤ v k) : LO (k + 1) w v (c : Int) := by
  rcases h with ⟨a, b⟩ | ⟨c', hc, ec, pc, lc, mc⟩
  · omega
  · have e : c = c' := by omega
    rw [← e] at hc pc lc mc
    refine Or.inr ⟨c, by omega, rfl, pc, fun t ht q => ?_, mc⟩
    by_cases z : t = k
    · rw [z]; exact l
    · exact lc t (by omega) q
theorem LO.less {k c : Nat} {w v : Nat → Int} (h : LO k w v (c : Int)) (p : 0 < w k) (l : v k < v c) : LO (k + 1) w v (k : Int) := by
  rcases h with ⟨a, b⟩ | ⟨c', hc, ec, pc, lc, mc⟩
  · omega
  · have e : c = c' := by omega
    rw [← e] at hc pc lc mc
    refine Or.inr ⟨k, by omega, rfl, p, fun t ht q => ?_, fun t ht q => ?_⟩
    · by_cases z : t = k
      · rw [z]; exact Int.le_refl _
      · have y := lc t (by omega) q
        omega
    · have y := lc t ht q
      omega
theorem LO.bd {k : Nat} {w v : Nat → Int} {r : Int} (h : LO k w v r) : (r = -5) ∨ ∃ c : Nat, c < k ∧ r = (c : Int) ∧ 0 < w c := by
  rcases h with ⟨a, b⟩ | ⟨c, hc, ec, pc, _⟩
  · exact Or.inl a
  · exact Or.inr ⟨c, hc, ec, pc⟩
theorem cx_leastOfS {Q : Int32 → VS → Prop} {σ : VS} (hM : CI σ) (hq : ∀ r : Int32, LO (nCl σ) (vv σ 50) (vv σ 51) r.toInt → Q r σ) : wp_X2leastOfS Q σ := by
  have a2 : 0 ≤ (σ.1 2).toInt ∧ (σ.1 2).toInt ≤ 50 := hM.1 2
  have en : (σ.1 2).toInt = ((nCl σ : Nat) : Int) := by unfold nCl; omega
  unfold wp_X2leastOfS
  intro X5 H
  have Z : ∀ (d k : Nat) (l2 l3 : Int32), nCl σ + 1 ≤ d + k → k ≤ nCl σ → l3.toInt = (k : Int) → LO k (vv σ 50) (vv σ 51) l2.toInt → X5 l2 l3 σ := by
    intro d
    induction d with
    | zero => intro k l2 l3 a b; omega
    | succ d ih =>
      intro k l2 l3 a b e3 hL
      refine H l2 l3 σ ?_
      unfold b_X2leastOfS_5 b_X2leastOfS_38 b_X2leastOfS_40
      rw [en]
      refine ⟨fun z => ?_, fun z => ?_⟩
      · have ek : k = nCl σ := by omega
        rw [ek] at hL
        exact hq l2 hL
      · have t3 : (l3 + 1).toInt = ((k + 1 : Nat) : Int) := by
          have w := i3_addc (x := l3 + 1) e3 (show (1 : Int32).toInt = 1 from rfl) rfl (by omega)
          omega
        have r50 : (rd σ 50 l3).toInt = vv σ 50 k := vv_rd e3
        have rv : (rd σ 51 l3).toInt = vv σ 51 k := vv_rd e3
        rw [r50]
        refine ⟨⟨by omega, by omega⟩, fun w => ih (k + 1) l2 (l3 + 1) (by omega) (by omega) t3 (hL.skip (by omega)), fun w => ⟨fun y => ih (k + 1) l3 (l3 + 1) (by omega) (by omega) t3 (by rw [e3]; exact hL.first y w), fun y => ?_⟩⟩
        rcases hL.bd with c | ⟨c, hc, ec, _⟩
        · omega
        · rw [ec] at hL
          have rc : (rd σ 51 l2).toInt = vv σ 51 c := vv_rd ec
          rw [rv, rc]
          exact ⟨⟨by omega, by omega⟩, ⟨by omega, by omega⟩, fun v => ih (k + 1) l2 (l3 + 1) (by omega) (by omega) t3 (by rw [ec]; exact hL.stay v), fun v => ih (k + 1) l3 (l3 + 1) (by omega) (by omega) t3 (by rw [e3]; exact hL.less w v)⟩
  exact Z (nCl σ + 1) 0 (-5) 0 (by omega) (by omega) rfl (Or.inl ⟨rfl, fun t ht => by omega⟩)
theorem cx_leastOfH {Q : Int32 → VS → Prop} {σ : VS} (hM : CI σ) (hq : ∀ r : Int32, LO (nCl σ) (vv σ 50) (vv σ 52) r.toInt → Q r σ) : wp_X2leastOfH Q σ := by
  have a2 : 0 ≤ (σ.1 2).toInt ∧ (σ.1 2).toInt ≤ 50 := hM.1 2
  have en : (σ.1 2).toInt = ((nCl σ : Nat) : Int) := by unfold nCl; omega
  unfold wp_X2leastOfH
  intro X5 H
  have Z : ∀ (d k : Nat) (l2 l3 : Int32), nCl σ + 1 ≤ d + k → k ≤ nCl σ → l3.toInt = (k : Int) → LO k (vv σ 50) (vv σ 52) l2.toInt → X5 l2 l3 σ := by
    intro d
    induction d with
    | zero => intro k l2 l3 a b; omega
    | succ d ih =>
      intro k l2 l3 a b e3 hL
      refine H l2 l3 σ ?_
      unfold b_X2leastOfH_5 b_X2leastOfH_38 b_X2leastOfH_40
      rw [en]
      refine ⟨fun z => ?_, fun z => ?_⟩
      · have ek : k = nCl σ := by omega
        rw [ek] at hL
        exact hq l2 hL
      · have t3 : (l3 + 1).toInt = ((k + 1 : Nat) : Int) := by
          have w := i3_addc (x := l3 + 1) e3 (show (1 : Int32).toInt = 1 from rfl) rfl (by omega)
          omega
        have r50 : (rd σ 50 l3).toInt = vv σ 50 k := vv_rd e3
        have rv : (rd σ 52 l3).toInt = vv σ 52 k := vv_rd e3
        rw [r50]
        refine ⟨⟨by omega, by omega⟩, fun w => ih (k + 1) l2 (l3 + 1) (by omega) (by omega) t3 (hL.skip (by omega)), fun w => ⟨fun y => ih (k + 1) l3 (l3 + 1) (by omega) (by omega) t3 (by rw [e3]; exact hL.first y w), fun y => ?_⟩⟩
        rcases hL.bd with c | ⟨c, hc, ec, _⟩
        · omega
        · rw [ec] at hL
          have rc : (rd σ 52 l2).toInt = vv σ 52 c := vv_rd ec
          rw [rv, rc]
          exact ⟨⟨by omega, by omega⟩, ⟨by omega, by omega⟩, fun v => ih (k + 1) l2 (l3 + 1) (by omega) (by omega) t3 (by rw [ec]; exact hL.stay v), fun v => ih (k + 1) l3 (l3 + 1) (by omega) (by omega) t3 (by rw [e3]; exact hL.less w v)⟩
  exact Z (nCl σ + 1) 0 (-5) 0 (by omega) (by omega) rfl (Or.inl ⟨rfl, fun t ht => by omega⟩)
theorem cx_hasSize {Q : Int32 → VS → Prop} {p1 : Int32} {σ : VS} {c : Nat} (h1 : p1.toInt = (c : Int)) (hc : c < 50) (hy : vv σ 11 c ≠ 0 → vv σ 11 c ≠ 5 → Q 1 σ) (hn : (vv σ 11 c = 0 ∨ vv σ 11 c = 5) → Q 0 σ) : wp_X1hasSize Q p1 σ := by
  have r : (rd σ 11 p1).toInt = vv σ 11 c := vv_rd h1
  unfold wp_X1hasSize b_X1hasSize_23 b_X1hasSize_24
  rw [r]
  exact ⟨⟨by omega, by omega⟩, fun a => ⟨⟨by decide, by decide⟩, hn (Or.inl a)⟩, fun a => ⟨⟨by omega, by omega⟩, fun b => ⟨⟨by decide, by decide⟩, hn (Or.inr b)⟩, fun b => ⟨⟨by decide, by decide⟩, hy a b⟩⟩⟩
