/-- worstOf: none, or a cell to which paths are counted -/
theorem worst_s {Q : Int32 → VS → Prop} {p1 : Int32} {σ : VS} (hM : MI σ) (hq : ∀ r : Int32, (r.toInt = -5 ∧ ∀ t, t < nC σ → pT σ t = 0) ∨ (0 ≤ r.toInt ∧ r.toInt < (σ.1 1).toInt ∧ pT σ r.toInt.toNat ≠ 0) → Q r σ) : wp_worstOf Q p1 σ := by
  have hc : 0 ≤ (σ.1 1).toInt ∧ (σ.1 1).toInt ≤ 50 := hM.1 1
  have hnc : (nC σ : Int) = (σ.1 1).toInt := by unfold nC; omega
  unfold wp_worstOf
  intro X10 H x1 e1
  have u1 : x1.toInt = (σ.1 1).toInt - 1 := i3_subc rfl rfl e1 (by omega)
  have L : ∀ (n : Nat) (l2 l3 : Int32), l3.toInt + 1 < (n : Int) → -1 ≤ l3.toInt ∧ l3.toInt < (σ.1 1).toInt → ((l2.toInt = -5 ∧ ∀ t : Nat, l3.toInt < (t : Int) → t < nC σ → pT σ t = 0) ∨ (0 ≤ l2.toInt ∧ l2.toInt < (σ.1 1).toInt ∧ pT σ l2.toInt.toNat ≠ 0)) → X10 p1 l2 l3 σ := by
    intro n
    induction n with
    | zero => intro l2 l3 k1 k2; omega
    | succ n ih =>
      intro l2 l3 k1 k2 hI
      refine H _ _ _ _ ?_
      unfold b_worstOf_10
      refine ⟨fun hneg => hq l2 ?_, fun hpos => ⟨⟨by omega, by omega⟩, ?_⟩⟩
      · rcases hI with h | h
        · exact Or.inl ⟨h.1, fun t ht => h.2 t (by omega) ht⟩
        · exact Or.inr h
      · obtain ⟨k, hk⟩ : ∃ k : Nat, l3.toInt = (k : Int) := ⟨l3.toInt.toNat, by omega⟩
        have hr : (rd σ 45 l3).toInt = (pT σ k : Int) := by
          rw [rd_at σ 45 l3 hk]
          have : 0 ≤ (σ.2.1 45 k).toInt ∧ (σ.2.1 45 k).toInt ≤ 1000 := hM.2 45 k
          unfold pT; omega
        have hkt : l3.toInt.toNat = k := by omega
        obtain ⟨lm, hlm⟩ : ∃ z : Int32, z = l3 + (-1) := ⟨_, rfl⟩
        have v2 : lm.toInt = l3.toInt + (-1) := i3_addc rfl rfl hlm (by omega)
        have h79 : ∀ l : Int32, ((l.toInt = -5 ∧ ∀ t : Nat, lm.toInt < (t : Int) → t < nC σ → pT σ t = 0) ∨ (0 ≤ l.toInt ∧ l.toInt < (σ.1 1).toInt ∧ pT σ l.toInt.toNat ≠ 0)) → b_worstOf_79 X10 Q p1 l l3 σ := by
          intro l hl
          unfold b_worstOf_79
          rw [← hlm]
          exact ih l lm (by omega) (by omega) hl
        clear hlm
        rw [hr]
        refine ⟨fun hne => ?_, fun hz => h79 l2 ?_⟩
        · have h77 : b_worstOf_77 X10 Q p1 l3 σ := by
            unfold b_worstOf_77
            exact h79 l3 (Or.inr ⟨by omega, by omega, by rw [hkt]; omega⟩)
          have h45 : ∀ k0 : Int32, b_worstOf_45 X10 Q p1 l2 l3 k0 σ := by
            intro k0
            unfold b_worstOf_45
            refine ⟨fun _ => h77, fun hl2 => ?_⟩
            have h2 : 0 ≤ l2.toInt ∧ l2.toInt < (σ.1 1).toInt ∧ pT σ l2.toInt.toNat ≠ 0 := by
              rcases hI with h | h
              · exact absurd h.1 hl2
              · exact h
            have h74 : ∀ a b : Int32, b_worstOf_74 X10 Q p1 l2 l3 a b σ := by
              intro a b
              unfold b_worstOf_74
              exact ⟨fun _ => h79 l2 (Or.inr h2), fun _ => h77⟩
            exact ⟨fun _ => ⟨⟨by omega, by omega⟩, h74 _ _⟩, fun _ => ⟨⟨by omega, by omega⟩, h74 _ _⟩⟩
          exact ⟨fun _ => ⟨⟨by omega, by omega⟩, h45 _⟩, fun _ => ⟨⟨by omega, by omega⟩, h45 _⟩⟩
        · rcases hI with h | h
          · refine Or.inl ⟨h.1, fun t h1 h2 => ?_⟩
            by_cases e : t = k
            · rw [e]; omega
            · exact h.2 t (by omega) h2
          · exact Or.inr h
  exact L 52 (-5) x1 (by omega) (by omega) (Or.inl ⟨rfl, fun t h1 h2 => by omega⟩)
set_option maxHeartbeats 4000000 in
theorem rg_path {Q : Int32 → VS → Prop} {p1 p2 : Int32} {σ : VS} (hS : SI σ) (hM : MI σ) (hLI : LI σ) (hq : ∀ (r : Int32) (σ' : VS), MI σ' → LI σ' → Eo [30, 32, 48, 61, 62, 67, 68] [31, 33, 34, 35, 36, 37, 38, 39, 42, 43, 44, 45, 46, 47, 49, 50, 51, 52, 53, 54, 55, 56, 57, 58, 59, 60, 63, 64, 65, 66] σ σ' → Q r σ') : wp_path Q p1 p2 σ := by
  unfold wp_path
  intro X114 H114
  have hc : 0 ≤ (σ.1 1).toInt ∧ (σ.1 1).toInt ≤ 50 := hM.1 1
  refine rg_isCell hM (fun r σ2 _ himp hM2 hE2 => ⟨fun hr => ?_, fun _ => hq _ _ hM2 (hLI.same hE2 (by decide)) (hE2.mono (by decide) (by decide))⟩)
  have hp1 := himp hr
  have hL2 : LI σ2 := hLI.same hE2 (by decide)
  obtain ⟨t, ht⟩ : ∃ t : Nat, p1.toInt = (t : Int) := ⟨p1.toInt.toNat, by omega⟩
  refine isTarget_s ht (by omega) (fun hK => ⟨fun _ => ?_, fun h => absurd h (by decide)⟩) (fun _ => ⟨fun h => absurd rfl h, fun _ => hq _ _ hM2 hL2 (hE2.mono (by decide) (by decide))⟩)
  refine rg_judge (hS.same hE2 (by decide)) hM2 (fun τ hMt hEt hDt hJt => ?_)
  have hE0 : Eo [30, 32] [31, 33, 34, 35, 36, 37, 38, 39, 42, 43, 44, 45, 46, 47] σ τ := (hE2.mono (by decide) (by decide)).trans hEt
  have hLt : LI τ := hL2.same hEt (by decide)
  have hEo : ∀ {x : VS}, Eo [48, 61, 62, 67, 68] [49, 50, 51, 52, 53, 54, 55, 56, 57, 58, 59, 60, 63, 64, 65, 66] τ x → Eo [30, 32, 48, 61, 62, 67, 68] [31, 33, 34, 35, 36, 37, 38, 39, 42, 43, 44, 45, 46, 47, 49, 50, 51, 52, 53, 54, 55, 56, 57, 58, 59, 60, 63, 64, 65, 66] σ x := fun h => (hE0.mono (by decide) (by decide)).of h (by decide) (by decide)
  have h51 : b_path_51 X114 Q τ := hq _ _ hMt hLt (hEo Eo.rfl)
  have hr45 : (rd τ 45 p1).toInt = (pT τ t : Int) := by
    rw [rd_at τ 45 p1 ht]
    have : 0 ≤ (τ.2.1 45 t).toInt ∧ (τ.2.1 45 t).toInt ≤ 1000 := hMt.2 45 t
    unfold pT; omega
  have hb45 : 0 ≤ (rd τ 45 p1).toInt ∧ (rd τ 45 p1).toInt ≤ 1000 := hMt.2 45 _
  have hct : (τ.1 1).toInt = (σ.1 1).toInt := by rw [hE0.1 1 (by decide)]
  refine ⟨⟨by omega, by omega⟩, fun _ => h51, fun hne => ⟨fun _ => h51, fun h20 => ⟨⟨by omega, by omega⟩, fun hlt => ?_, fun _ => h51⟩⟩⟩
  have hSt := hS.same hE0 (by decide)
  refine rg_list ht (by unfold nC; omega) (by unfold Kd at hK ⊢; rw [hEt.2 2 (by decide)]; exact hK) (by omega) hSt hMt hLt hDt hJt (fun y hMy hLy hEy => ?_)
  have b55 : 0 ≤ (rd y 55 p2).toInt ∧ (rd y 55 p2).toInt ≤ 999 := hMy.2 55 _
  refine ⟨⟨by omega, by omega⟩, fun x9 e9 => ?_⟩
  rw [← e9] at b55
  refine ⟨⟨by omega, by omega⟩, fun x10 e10 => ⟨⟨by omega, by omega⟩, fun x11 e11 => ?_⟩⟩
  have b10 : 0 ≤ x10.toInt ∧ x10.toInt ≤ 49 := by rw [e10]; exact hMy.2 50 _
  have b11 : 0 ≤ x11.toInt ∧ x11.toInt ≤ 1 := by rw [e11]; exact hMy.2 51 _
  have hcy : (y.1 1).toInt = (σ.1 1).toInt := by rw [hEy.1 1 (by decide)]; exact hct
  have h10c : x10.toInt < (σ.1 1).toInt := by
    have h9 := hLy.1 x9.toNatClampNeg
    have e9 : x10 = y.2.1 50 x9.toNatClampNeg := e10
    rw [← e9, hcy] at h9
    omega
  have hSy := hSt.same hEy (by decide)
  refine rg_startLate (by omega) b11 hSy hMy (fun r12 z hMz hEz => ?_)
  have hcz : (z.1 1).toInt = (σ.1 1).toInt := by rw [hEz.1 1 (by decide)]; exact hcy
  refine rg_startEarly (by omega) b11 (hSy.same hEz (by decide)) hMz (fun r14 u hMu hEu => ⟨⟨by omega, by omega⟩, ?_⟩)
  have hEyu : Eo [] [] y u := hEz.trans hEu
  have hLu : LI u := hLy.same hEyu (by decide)
  have hE1 : Eo [48, 61, 62, 67, 68] [49, 50, 51, 52, 53, 54, 55, 56, 57, 58, 59, 60, 63, 64, 65, 66] τ u := (hEy.mono (by decide) (by decide)).of hEyu (by decide) (by decide)
  have b52 : 0 ≤ (rd u 52 x9).toInt ∧ (rd u 52 x9).toInt ≤ 52 := hMu.2 52 _
  have L : ∀ (n : Nat) (l5 l6 l7 l8 : Int32) (x : VS), 52 - l8.toInt < (n : Int) → 0 ≤ l8.toInt ∧ l8.toInt ≤ 52 → 0 ≤ l5.toInt ∧ l5.toInt ≤ 1 → MI x → LI x → Eo [48, 61, 62, 67, 68] [49, 50, 51, 52, 53, 54, 55, 56, 57, 58, 59, 60, 63, 64, 65, 66] τ x → X114 p1 x9 x10 l5 l6 l7 l8 x := by
    intro n
    induction n with
    | zero => intro l5 l6 l7 l8 x k1 k2; omega
    | succ n ih =>
      intro l5 l6 l7 l8 x k1 k2 k5 hMx hLx hEx
      refine H114 _ _ _ _ _ _ _ _ ?_
      unfold b_path_114
      have b62 : 0 ≤ (x.1 62).toInt ∧ (x.1 62).toInt ≤ 52 := hMx.1 62
      refine ⟨fun _ => ⟨⟨by omega, by omega⟩, ⟨by omega, by omega⟩, ?_⟩, fun hl8 => ?_⟩
      · obtain ⟨v, hv⟩ : ∃ v : VS, v = sf x 67 (rd x 49 x9) := ⟨_, rfl⟩
        rw [← hv]
        have hMv : MI v := by rw [hv]; exact hMx.sf 67 _ (i3_bd _)
        have hEv : Eo [48, 61, 62, 67, 68] [49, 50, 51, 52, 53, 54, 55, 56, 57, 58, 59, 60, 63, 64, 65, 66] τ v := by rw [hv]; exact hEx.sf 67 _ (by decide)
        have hLv : LI v := by rw [hv]; exact hLx.same (Eo.rfl.sf 67 _ (by decide) : Eo [67] [] x _) (by decide)
        have hcv : (v.1 1).toInt = (σ.1 1).toInt := by rw [hEv.1 1 (by decide)]; exact hct
        have hSv := hSt.same hEv (by decide)
        refine rg_lateOf (nd_ok hSv hMv (by omega)) hSv hMv (fun r16 w hMw hEw => ⟨⟨by omega, by omega⟩, ?_⟩)
        have hcw : (w.1 1).toInt = (σ.1 1).toInt := by rw [hEw.1 1 (by decide)]; exact hcv
        refine rg_shared (by omega) (by omega) (hSv.same hEw (by decide)) hMw (fun r18 a hMa hEa => ?_)
        refine hq _ _ (hMa.sf 68 _ (i3_bd _)) (((hLv.same hEw (by decide)).same hEa (by decide)).same (Eo.rfl.sf 68 _ (by decide) : Eo [68] [] a _) (by decide)) (hEo ?_)
        exact ((hEv.of hEw (by decide) (by decide)).of hEa (by decide) (by decide)).sf 68 _ (by decide)
      · have u1 : (52 * x9).toInt = 52 * x9.toInt := i3_mulc rfl rfl rfl (by omega)
        have u2 : (52 * x9 + l8).toInt = (52 * x9).toInt + l8.toInt := i3_addc rfl rfl rfl (by omega)
        have u8 : (l8 + 1).toInt = l8.toInt + 1 := i3_addc rfl rfl rfl (by omega)
        refine ⟨⟨by omega, by omega⟩, fun x20 e20 => ?_⟩
        have b20 : 0 ≤ x20.toInt ∧ x20.toInt ≤ 49 := by rw [e20]; exact hMx.2 53 _
        have hM1 := hMx.sa 63 l8 x20 (show 0 ≤ x20.toInt ∧ x20.toInt ≤ 49 from b20)
        obtain ⟨i54, h54⟩ : ∃ i : Int32, i = rd (sa x 63 l8 x20) 54 (52 * x9 + l8) := ⟨_, rfl⟩
        rw [← h54]
        have b54 : -1 ≤ i54.toInt ∧ i54.toInt ≤ 3 := by rw [h54]; exact hM1.2 54 _
        have c54 : 0 < l8.toInt → l8.toInt < 52 → 0 ≤ i54.toInt := by
          intro h1 h2
          rw [h54, rd_at _ 54 (52 * x9 + l8) (n := (52 * x9 + l8).toInt.toNat) (by omega), sa_other (by decide)]
          exact hLx.2 _ (by omega)
        obtain ⟨v, hv⟩ : ∃ v : VS, v = sa (sa x 63 l8 x20) 64 l8 i54 := ⟨_, rfl⟩
        rw [← hv]
        have hMv : MI v := by rw [hv]; exact hM1.sa 64 _ _ (show -1 ≤ i54.toInt ∧ i54.toInt ≤ 3 from b54)
        have hEv : Eo [48, 61, 62, 67, 68] [49, 50, 51, 52, 53, 54, 55, 56, 57, 58, 59, 60, 63, 64, 65, 66] τ v := by rw [hv]; exact (hEx.sa 63 _ _ (by decide)).sa 64 _ _ (by decide)
        have hLv : LI v := by rw [hv]; exact hLx.same ((Eo.rfl.sa 63 _ _ (by decide)).sa 64 _ _ (by decide) : Eo [] [63, 64] x _) (by decide)
        have h62 : v.1 62 = x.1 62 := by rw [hv]; rfl
        have r64 : rd v 64 l8 = i54 := by rw [hv, rd_sa]
        rw [h62]
        have t62 : (x.1 62 - 1).toInt = (x.1 62).toInt - 1 := i3_subc rfl rfl rfl (by omega)
        have h259 : ∀ (k0 a b : Int32), 0 ≤ k0.toInt ∧ k0.toInt ≤ 1 → b_path_259 X114 Q p1 x9 x10 k0 a b l8 v := by
          intro k0 a b hk0
          unfold b_path_259
          refine ⟨⟨by omega, by omega⟩, ⟨by omega, by omega⟩, ih k0 a b (l8 + 1) _ (by omega) (by omega) hk0 ((hMv.sa 65 _ _ (show 0 ≤ k0.toInt ∧ k0.toInt ≤ 1 from hk0)).sa 66 _ _ (i3_bd _)) (hLv.same ((Eo.rfl.sa 65 _ _ (by decide)).sa 66 _ _ (by decide) : Eo [] [65, 66] v _) (by decide)) ((hEv.sa 65 _ _ (by decide)).sa 66 _ _ (by decide))⟩
        have h201 : ∀ k0 : Int32, 0 ≤ k0.toInt ∧ k0.toInt ≤ 1 → 0 < l8.toInt → l8.toInt < 52 → b_path_201 X114 Q p1 x9 x10 l6 l7 l8 x20 k0 v := by
          intro k0 hk0 h1 h2
          have h3 := c54 h1 h2
          unfold b_path_201
          rw [r64]
          have w1 : (8 * x20).toInt = 8 * x20.toInt := i3_mulc rfl rfl rfl (by omega)
          have w2 : (2 * i54).toInt = 2 * i54.toInt := i3_mulc rfl rfl rfl (by omega)
          have w3 : (8 * x20 + 2 * i54).toInt = (8 * x20).toInt + (2 * i54).toInt := i3_addc rfl rfl rfl (by omega)
          have w4 : (8 * x20 + 2 * i54 + k0).toInt = (8 * x20 + 2 * i54).toInt + k0.toInt := i3_addc rfl rfl rfl (by omega)
          exact ⟨⟨by omega, by omega⟩, ⟨by omega, by omega⟩, fun x21 _ => ⟨⟨by omega, by omega⟩, ⟨by omega, by omega⟩, fun x22 _ => h259 k0 x21 x22 hk0⟩⟩
        refine ⟨⟨by omega, by omega⟩, ⟨by omega, by omega⟩, ⟨by omega, by omega⟩, fun _ => h259 l5 l6 l7 k5, fun h0 => ⟨fun _ => h259 l5 l6 l7 k5, fun hlt2 => ⟨⟨by omega, by omega⟩, fun _ => h201 l5 k5 h0 (by omega), fun _ => h201 (1 - l5) ?_ h0 (by omega)⟩⟩⟩
        have t5 : (1 - l5).toInt = 1 - l5.toInt := i3_subc rfl rfl rfl (by omega)
        omega
  exact L 53 x11 r12 r14 0 _ (by decide) (by decide) b11 (hMu.sf 62 _ b52) (hLu.same (Eo.rfl.sf 62 _ (by decide) : Eo [62] [] u _) (by decide)) (hE1.sf 62 _ (by decide))

