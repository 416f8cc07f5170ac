set_option maxHeartbeats 4000000 in
theorem rg_judge {Q : VS → Prop} {σ : VS} (hS : SI σ) (hM : MI σ) (hq : ∀ τ : VS, MI τ → Eo [30, 32] [31, 33, 34, 35, 36, 37, 38, 39, 42, 43, 44, 45, 46, 47] σ τ → TD τ → JC τ → Q τ) : wp_judge Q σ := by
  unfold wp_judge
  intro X6 X47 X73 H6 H47 H73
  refine rg_time hS hM (fun τ hMt hEt hDt => ?_)
  have hSt := hS.same hEt (by decide)
  have hc : 0 ≤ (τ.1 1).toInt ∧ (τ.1 1).toInt ≤ 50 := hMt.1 1
  have hnc : (nC τ : Int) = (τ.1 1).toInt := by unfold nC; omega
  -- the count so far: starts below s
  obtain ⟨J, hJ⟩ : ∃ J : Nat → Nat → Nat → Prop, J = fun s t p => (3 < Kd τ t → p < 1000 → sm s (fun s' => if sB τ s' = true then cB τ s' t else 0) ≤ p) ∧ (p ≠ 0 → 3 < Kd τ t) := ⟨_, rfl⟩
  have hfin : ∀ x : VS, MI x → Eo [] [42, 43, 44, 45, 46, 47] τ x → (∀ t, t < nC τ → J (nC τ) t (pT x t)) → Q x := by
    intro x hMx hEx hall
    refine hq x hMx ((hEt.mono (by decide) (by decide)).of hEx (by decide) (by decide)) (hDt.same hEx (by decide)) ?_
    obtain ⟨-, -, -, -, h5, h6, h7⟩ := env_same hEx (by decide)
    have h8 := (cB_same hEx (by decide)).1
    unfold JC
    rw [h5, h6, h7, h8]
    rw [hJ] at hall
    exact ⟨fun t ht => (hall t ht).1, fun t ht => (hall t ht).2⟩
  have L47 : ∀ (n s : Nat) (l1 : Int32) (x : VS), l1.toInt = (s : Int) → s ≤ nC τ → nC τ - s < n → MI x → Eo [] [42, 43, 44, 45, 46, 47] τ x → (∀ t, t < nC τ → J s t (pT x t)) → X47 l1 x := by
    intro n
    induction n with
    | zero => intro s l1 x h1 h2 h3; omega
    | succ n ih =>
      intro s l1 x h1 h2 h3 hMx hEx hall
      refine H47 _ _ ?_
      unfold b_judge_47
      have hcx : (x.1 1).toInt = (τ.1 1).toInt := by rw [hEx.1 1 (by decide)]
      have hnx : nC x = nC τ := by unfold nC; rw [hcx]
      refine ⟨fun hge => ?_, fun hlt => ?_⟩
      · have e : s = nC τ := by omega
        rw [e] at hall
        exact hfin x hMx hEx hall
      · have t1 : (l1 + 1).toInt = l1.toInt + 1 := i3_addc rfl rfl rfl (by omega)
        refine isStart_s h1 (by omega) (fun hk hop => ⟨fun _ => ?_, fun h9 => absurd h9 (by decide)⟩) (fun hno => ⟨fun h9 => absurd rfl h9, fun _ => ?_⟩)
        · have hsB : sB τ s = true := by
            unfold sB
            refine decide_eq_true ⟨?_, ?_⟩
            · unfold Kd at hk ⊢; rw [hEx.2 2 (by decide)] at hk; exact hk
            · rw [hEx.2 35 (by decide)] at hop; exact hop
          obtain ⟨e1, e2, e3, e4, -⟩ := env_same hEx (by decide)
          refine rg_walkFrom h1 (by omega) (hSt.same hEx (by decide)) hMx (hDt.same hEx (by decide)) (fun y hMy hEy hIy => ?_)
          rw [e1, e2, e4] at hIy
          have hEy2 : Eo [] [42, 43, 44, 45, 46, 47] τ y := hEx.of hEy (by decide) (by decide)
          have hpy : ∀ t, pT y t = pT x t := fun t => by unfold pT; rw [hEy.2 45 (by decide)]
          have L73 : ∀ (n2 t : Nat) (l2 : Int32) (z : VS), l2.toInt = (t : Int) → t ≤ nC τ → nC τ - t < n2 → MI z → Eo [] [42, 43, 44, 45, 46, 47] τ z → (∀ X, hw z X = hw y X) → (∀ t', t' < t → J (s + 1) t' (pT z t')) → (∀ t', t ≤ t' → t' < nC τ → J s t' (pT z t')) → X73 l1 l2 z := by
            intro n2
            induction n2 with
            | zero => intro t l2 z k1 k2 k3; omega
            | succ n2 ih2 =>
              intro t l2 z k1 k2 k3 hMz hEz hwz hA hB
              refine H73 _ _ _ ?_
              unfold b_judge_73
              have hcz : (z.1 1).toInt = (τ.1 1).toInt := by rw [hEz.1 1 (by decide)]
              have hnz : nC z = nC τ := by unfold nC; rw [hcz]
              rw [hcz]
              refine ⟨fun hge => ?_, fun hlt2 => ?_⟩
              · unfold b_judge_128
                exact ih (s + 1) (l1 + 1) z (by omega) (by omega) (by omega) hMz hEz (fun t' ht' => hA t' (by omega))
              · have t2 : (l2 + 1).toInt = l2.toInt + 1 := i3_addc rfl rfl rfl (by omega)
                have hBt := hB t (by omega) (by omega)
                -- nothing comes to t from s
                have hnone : (3 < Kd τ t → cB τ s t = 0) → b_judge_122 X6 X47 X73 Q l1 l2 z := by
                  intro h0
                  unfold b_judge_122
                  refine ih2 (t + 1) (l2 + 1) z (by omega) (by omega) (by omega) hMz hEz hwz (fun t' ht' => ?_) (fun t' a b => hB t' (by omega) b)
                  by_cases e9 : t' = t
                  · rw [e9, hJ]
                    rw [hJ] at hBt
                    refine ⟨fun hk hp => ?_, hBt.2⟩
                    have := hBt.1 hk hp
                    rw [sm_s, if_pos hsB, h0 hk]
                    exact this
                  · exact hA t' (by omega)
                have hKz : Kd z t = Kd τ t := by unfold Kd; rw [hEz.2 2 (by decide)]
                have hTz : Tk z (4 * t) = Tk τ (4 * t) := by unfold Tk; rw [hEz.2 7 (by decide)]
                have u1 : (4 * l2).toInt = 4 * l2.toInt := i3_mulc rfl rfl rfl (by omega)
                have hTlt := hSt.1 (4 * t) (by omega)
                refine isTarget_s k1 (by omega) (fun hk => ⟨fun h9 => absurd h9 (by decide), fun _ => ?_⟩) (fun hk => ⟨fun _ => hnone (fun h => by omega), fun h9 => absurd rfl h9⟩)
                have hr7 : rd z 7 (4 * l2) = z.2.1 7 (4 * t) := rd_at z 7 (4 * l2) (n := 4 * t) (by omega)
                have hr7i : (rd z 7 (4 * l2)).toInt = Tk τ (4 * t) := by rw [hr7]; exact hTz
                have hzero : (∀ X, tgN τ s t X = 0) → cB τ s t = 0 := by
                  intro h0
                  unfold cB BB
                  refine sm_none (fun Y _ => ?_)
                  rw [Bn_zero h0, Nat.zero_mul]
                refine ⟨⟨by omega, by omega⟩, fun hneg => hnone (fun _ => hzero (fun X => ?_)), fun hpos => ⟨⟨by omega, by omega⟩, ⟨by omega, by omega⟩, fun hop2 => hnone (fun _ => hzero (fun X => ?_)), fun hop2 => ?_⟩⟩
                · unfold tgN
                  rw [if_neg (fun h => ?_)]
                  have := h.1; omega
                · obtain ⟨f, hf⟩ : ∃ f : Nat, (rd z 7 (4 * l2)).toInt = (f : Int) := ⟨(rd z 7 (4 * l2)).toInt.toNat, by omega⟩
                  rw [rd_at z 35 _ hf, hEz.2 35 (by decide)] at hop2
                  unfold tgN
                  rw [if_neg (fun h => ?_)]
                  have h9 := h.1
                  have h10 := h.2.1
                  have e9 : X / 32 = f := by omega
                  rw [e9] at h10
                  exact hop2 h10
                · obtain ⟨f, hf⟩ : ∃ f : Nat, (rd z 7 (4 * l2)).toInt = (f : Int) := ⟨(rd z 7 (4 * l2)).toInt.toNat, by omega⟩
                  rw [rd_at z 35 _ hf] at hop2
                  have eft : (Tk z (4 * t)).toNat = f := by rw [hTz]; omega
                  refine rg_reach (s := s) (t := t) h1 k1 (by omega) (by omega) (by omega) (by rw [eft]; exact hop2) (hSt.same hEz (by decide)) hMz (fun u hMu hEu hoth hmin => ?_)
                  unfold b_judge_122
                  have hEu2 : Eo [] [42, 43, 44, 45, 46, 47] τ u := hEz.of hEu (by decide) (by decide)
                  obtain ⟨-, -, g3, -⟩ := env_same hEz (by decide)
                  have hfun : (fun X => hw z X * tgN z s t X) = fun X => hw y X * tgN τ s t X := by funext X; rw [hwz, g3]
                  rw [hfun] at hmin
                  refine ih2 (t + 1) (l2 + 1) u (by omega) (by omega) (by omega) hMu hEu2 (fun X => ?_) (fun t' ht' => ?_) (fun t' a b => ?_)
                  · unfold hw; rw [hEu.2 42 (by decide)]; exact hwz X
                  · by_cases e9 : t' = t
                    · rw [e9, hJ]
                      rw [hJ] at hBt
                      refine ⟨fun _ hp => ?_, fun _ => by omega⟩
                      have hT : sm 1600 (fun X => hw y X * tgN τ s t X) < 1000 := by omega
                      have h9 := cB_le hSt hMt hDt hIy hT
                      have h10 := hBt.1 (by omega) (by omega)
                      rw [sm_s, if_pos hsB]
                      omega
                    · rw [hoth t' e9]; exact hA t' (by omega)
                  · rw [hoth t' (by omega)]; exact hB t' (by omega) b
          exact L73 (nC τ + 1) 0 0 y rfl (by omega) (by omega) hMy hEy2 (fun _ => rfl) (fun t' h => by omega) (fun t' _ h => by rw [hpy]; exact hall t' h)
        · have hsB : ¬ sB τ s = true := by
            intro h
            have h := of_decide_eq_true h
            refine hno ⟨?_, ?_⟩
            · unfold Kd at h ⊢; rw [hEx.2 2 (by decide)]; exact h.1
            · rw [hEx.2 35 (by decide)]; exact h.2
          unfold b_judge_128
          refine ih (s + 1) (l1 + 1) x (by omega) (by omega) (by omega) hMx hEx (fun t ht => ?_)
          have := hall t ht
          rw [hJ] at this ⊢
          refine ⟨fun a b => ?_, this.2⟩
          have h9 := this.1 a b
          rw [sm_s, if_neg hsB]
          exact h9
  have L6 : ∀ (n : Nat) (l1 : Int32) (x : VS), 50 - l1.toInt < (n : Int) → 0 ≤ l1.toInt ∧ l1.toInt ≤ 50 → MI x → Eo [] [42, 43, 44, 45, 46, 47] τ x → (∀ t : Nat, (t : Int) < l1.toInt → pT x t = 0) → X6 l1 x := by
    intro n
    induction n with
    | zero => intro l1 x h1 h2; omega
    | succ n ih =>
      intro l1 x h1 h2 hMx hEx hall
      refine H6 _ _ ?_
      unfold b_judge_6
      rw [hEx.1 1 (by decide)]
      refine ⟨fun hge => ?_, fun hlt => ⟨⟨by omega, by omega⟩, ⟨by omega, by omega⟩, ⟨by omega, by omega⟩, ?_⟩⟩
      · refine L47 (nC τ + 1) 0 0 x rfl (by omega) (by omega) hMx hEx (fun t ht => ?_)
        rw [hall t (by omega), hJ]
        exact ⟨fun _ _ => Nat.le_refl _, fun h => absurd rfl h⟩
      · have t1 : (l1 + 1).toInt = l1.toInt + 1 := i3_addc rfl rfl rfl (by omega)
        obtain ⟨i, hi⟩ : ∃ i : Nat, l1.toInt = (i : Int) := ⟨l1.toInt.toNat, by omega⟩
        refine ih (l1 + 1) _ (by omega) (by omega) (((hMx.sa 45 l1 0 (show 0 ≤ (0 : Int32).toInt ∧ (0 : Int32).toInt ≤ 1000 by decide)).sa 46 _ _ (i3_bd _)).sa 47 _ _ (i3_bd _)) (((hEx.sa 45 l1 0 (by decide)).sa 46 _ _ (by decide)).sa 47 _ _ (by decide)) (fun t ht => ?_)
        unfold pT
        rw [sa_other (by decide), sa_other (by decide), sa_at x 45 l1 0 hi]
        by_cases e9 : t = i
        · rw [if_pos e9]; rfl
        · rw [if_neg e9]; exact hall t (by omega)
  exact L6 51 0 τ (by decide) (by decide) hMt Eo.rfl (fun t h => by have e : (0 : Int32).toInt = 0 := rfl; omega)

