theorem met_same {F A : List Nat} {σ τ : VS} (e : Eo F A σ τ) (hk : 25 ∉ F ∧ 28 ∉ A) (c : Int) : metV τ c = metV σ c := by
  have h : ∀ k, metL τ c k = metL σ c k := by
    intro k
    induction k with
    | zero => rfl
    | succ k ih =>
      show metL τ c k ||| _ = metL σ c k ||| _
      rw [ih, e.2 28 hk.2]
  unfold metV
  rw [e.1 25 hk.1, h]
theorem metN_same {F A : List Nat} {σ τ : VS} (e : Eo F A σ τ) (hk : 25 ∉ F ∧ 28 ∉ A) (c : Nat) : metN τ c = metN σ c := by
  unfold metN
  rw [met_same e hk]
theorem dN_same {F A : List Nat} {σ τ : VS} (e : Eo F A σ τ) (hk : 25 ∉ F ∧ 28 ∉ A ∧ 2 ∉ A) : dN τ = dN σ := by
  funext X w
  unfold dN outE Kd
  rw [metN_same e ⟨hk.1, hk.2.1⟩, e.2 2 hk.2.2]
theorem aB_out {τ : VS} {X w : Nat} (h : aB τ X w = true) : w / 4 < nC τ ∧ gate τ (w / 4) ∧ (τ.2.1 34 (w / 4)).toInt ≠ 0 ∧ (τ.2.1 35 (w / 4)).toInt = 0 ∧ ((w % 4 : Nat) : Int) < Ip τ (w / 4) ∧ Tk τ w = ((X / 32 : Nat) : Int) ∧ (τ.2.1 34 (X / 32)).toInt ≠ 0 := by
  have h := of_decide_eq_true h
  exact ⟨h.1, ⟨h.2.1, h.2.2.1⟩, h.2.2.2⟩
theorem TD.pos {σ : VS} (h : TD σ) : ∃ pos : Nat → Nat, (∀ c, c < nC σ → pos c < oL σ ∧ oN σ (pos c) = c) ∧ (∀ k, k < oL σ → pos (oN σ k) = k) ∧ ∀ d i : Nat, d < nC σ → gate σ d → (i : Int) < Ip σ d → 0 ≤ Tk σ (4 * d + i) → (Tk σ (4 * d + i)).toNat < nC σ → pos (Tk σ (4 * d + i)).toNat < pos d := by
  have ⟨pos, hpos⟩ : ∃ pos : Nat → Nat, ∀ c, c < nC σ → pos c < oL σ ∧ oN σ (pos c) = c := by
    refine ⟨fun c => if hc : c < nC σ then Classical.choose (h.1 c hc) else 0, fun c hc => ?_⟩
    show (if hc : c < nC σ then Classical.choose (h.1 c hc) else 0) < oL σ ∧ oN σ (if hc : c < nC σ then Classical.choose (h.1 c hc) else 0) = c
    rw [dif_pos hc]
    exact Classical.choose_spec (h.1 c hc)
  have hinv : ∀ k, k < oL σ → pos (oN σ k) = k := fun k hk => by
    have h1 := hpos (oN σ k) (h.2.1 k hk)
    exact h.2.2.1 _ _ h1.1 hk h1.2
  refine ⟨pos, hpos, hinv, fun d i hd hg hi h0 hs => ?_⟩
  have h1 := hpos d hd
  obtain ⟨k', a, b⟩ := h.2.2.2.1 (pos d) h1.1 (by rw [h1.2]; exact hg) i (by rw [h1.2]; exact hi) (by rw [h1.2]; exact h0)
  rw [h1.2] at b
  have h2 := hinv k' (by omega)
  rw [b] at h2
  omega
def stS (σ : VS) (s Y : Nat) : Nat := if Y = 16 * (2 * s) + metN σ s ∨ Y = 16 * (2 * s + 1) + metN σ s then 1 else 0
set_option maxHeartbeats 4000000 in
theorem rg_walkFrom {Q : VS → Prop} {p1 : Int32} {σ : VS} {s : Nat} (hs : p1.toInt = (s : Int)) (hsn : s < nC σ) (hS : SI σ) (hM : MI σ) (hD : TD σ) (hq : ∀ τ : VS, MI τ → Eo [] [42, 43, 44] σ τ → WI (dN σ) (stS σ s) (aB σ) (hw τ) → Q τ) : wp_walkFrom Q p1 σ := by
  obtain ⟨pos, hpos, hinv, hsrc⟩ := hD.pos
  have hc : 0 ≤ (σ.1 1).toInt ∧ (σ.1 1).toInt ≤ 50 := hM.1 1
  have ho : 0 ≤ (σ.1 32).toInt ∧ (σ.1 32).toInt ≤ 50 := hM.1 32
  have hnc : (nC σ : Int) = (σ.1 1).toInt := by unfold nC; omega
  have hol : (oL σ : Int) = (σ.1 32).toInt := by unfold oL; omega
  have hmet := metN_eq hM s
  have hapos : ∀ X w, aB σ X w = true → pos (X / 32) < pos (w / 4) ∧ X / 32 < nC σ := by
    intro X w h
    have h := aB_out h
    have e : 4 * (w / 4) + w % 4 = w := by omega
    have hlt := hS.1 w (by omega)
    have := hsrc (w / 4) (w % 4) h.1 h.2.1 h.2.2.2.2.1 (by rw [e, h.2.2.2.2.2.1]; omega) (by rw [e]; omega)
    rw [e, h.2.2.2.2.2.1, (rfl : (((X / 32 : Nat) : Int)).toNat = X / 32)] at this
    exact ⟨this, by omega⟩
  unfold wp_walkFrom
  intro X2 X28 X87 X134 X179 H2 H28 H87 H134 H179
  -- over the order
  have L87 : ∀ (n k : Nat) (l2 : Int32) (x : VS), l2.toInt = (k : Int) → k ≤ oL σ → oL σ - k < n → MI x → Eo [] [42, 43, 44] σ x → WI (dN σ) (stS σ s) (fun X w => aB σ X w && decide (pos (w / 4) < k)) (hw x) → X87 l2 x := by
    intro n
    induction n with
    | zero => intro k l2 x h1 h2 h3; omega
    | succ n ih =>
      intro k l2 x h1 h2 h3 hMx hEx hIx
      refine H87 _ _ ?_
      unfold b_walkFrom_87
      rw [hEx.1 32 (by decide)]
      have t1 : l2.toInt < 50 → (l2 + 1).toInt = l2.toInt + 1 := fun h => i3_addc rfl rfl rfl (by omega)
      refine ⟨fun hge => ?_, fun hlt => ⟨⟨by omega, by omega⟩, fun x8 e8 => ?_⟩⟩
      · refine hq x hMx hEx (hIx.mono (fun X w _ _ h => ?_))
        have h9 := hpos (w / 4) (aB_out h).1
        show (aB σ X w && decide (pos (w / 4) < k)) = true
        rw [h, decide_eq_true (by omega : pos (w / 4) < k)]; rfl
      · have t1 := t1 (by omega)
        have a8 : 0 ≤ x8.toInt ∧ x8.toInt ≤ 49 := by rw [e8]; exact hMx.2 31 _
        obtain ⟨d, hd⟩ : ∃ d : Nat, x8.toInt = (d : Int) := ⟨x8.toInt.toNat, by omega⟩
        have hdk : oN σ k = d := by
          have : x8 = σ.2.1 31 k := by rw [e8, rd_at x 31 l2 h1, hEx.2 31 (by decide)]
          unfold oN; rw [← this]; omega
        have hpd : pos d = k := by rw [← hdk]; exact hinv k (by omega)
        have hdn : d < nC σ := by rw [← hdk]; exact hD.2.1 k (by omega)
        -- gates that pass nothing on
        have hskip : ∀ y : VS, MI y → Eo [] [42, 43, 44] σ y → WI (dN σ) (stS σ s) (fun X w => aB σ X w && decide (pos (w / 4) < k)) (hw y) → (∀ X w, aB σ X w = true → w / 4 ≠ d) → b_walkFrom_208 X2 X28 X87 X134 X179 Q l2 y := by
          intro y hMy hEy hIy hno
          unfold b_walkFrom_208
          refine ih (k + 1) (l2 + 1) y (by omega) (by omega) (by omega) hMy hEy (hIy.mono (fun X w _ _ h => ?_))
          obtain ⟨ha, hb⟩ := Bool.and_eq_true_iff.mp h
          have hb := of_decide_eq_true hb
          have h1 := hno X w ha
          have h2 := hpos (w / 4) (aB_out ha).1
          have h3 : pos (w / 4) ≠ k := fun q => h1 (by rw [← h2.2, q]; exact hdk)
          show (aB σ X w && decide (pos (w / 4) < k)) = true
          rw [ha, decide_eq_true (by omega : pos (w / 4) < k)]; rfl
        refine isGate_s hd (by omega) (fun hg => ⟨fun h9 => absurd h9 (by decide), fun _ => ?_⟩) (fun hg => ⟨fun _ => hskip x hMx hEx hIx (fun X w h q => hg ?_), fun h9 => absurd rfl h9⟩)
        · rw [rd_at x 34 x8 hd, rd_at x 35 x8 hd, hEx.2 34 (by decide), hEx.2 35 (by decide)]
          refine ⟨⟨by omega, by omega⟩, fun hz => hskip x hMx hEx hIx (fun X w h q => ?_), fun hrd => ⟨⟨by omega, by omega⟩, fun hop => ?_, fun hop => hskip x hMx hEx hIx (fun X w h q => ?_)⟩⟩
          · have := (aB_out h).2.2.1; rw [q] at this; exact this hz
          · -- the inputs of d
            have hgσ : gate σ d := (gate_same hEx (by decide) d).mp hg
            have hIpd : 0 ≤ Ip σ d ∧ Ip σ d ≤ 4 := hM.2 3 d
            have L134 : ∀ (n2 i : Nat) (l4 : Int32) (y : VS), l4.toInt = (i : Int) → i ≤ 4 → 4 - i < n2 → MI y → Eo [] [42, 43, 44] σ y → WI (dN σ) (stS σ s) (fun X w => aB σ X w && decide (pos (w / 4) < k ∨ (w / 4 = d ∧ w % 4 < i))) (hw y) → X134 l2 x8 l4 y := by
              intro n2
              induction n2 with
              | zero => intro i l4 y k1 k2 k3; omega
              | succ n2 ih2 =>
                intro i l4 y k1 k2 k3 hMy hEy hIy
                refine H134 _ _ _ _ ?_
                unfold b_walkFrom_134
                have hr3 : (rd y 3 x8).toInt = Ip σ d := by rw [rd_at y 3 x8 hd, hEy.2 3 (by decide)]; rfl
                rw [hr3]
                refine ⟨⟨by omega, by omega⟩, fun hge => ?_, fun hlt2 => ?_⟩
                · unfold b_walkFrom_208
                  refine ih (k + 1) (l2 + 1) y (by omega) (by omega) (by omega) hMy hEy (hIy.mono (fun X w _ _ h => ?_))
                  obtain ⟨ha, hb⟩ := Bool.and_eq_true_iff.mp h
                  have hb := of_decide_eq_true hb
                  have h2 := hpos (w / 4) (aB_out ha).1
                  have hif := (aB_out ha).2.2.2.2.1
                  show (aB σ X w && decide (pos (w / 4) < k ∨ (w / 4 = d ∧ w % 4 < i))) = true
                  rw [ha, decide_eq_true (?_ : pos (w / 4) < k ∨ (w / 4 = d ∧ w % 4 < i))]
                  · rfl
                  · by_cases e9 : pos (w / 4) = k
                    · have e10 : w / 4 = d := by rw [← h2.2, e9]; exact hdk
                      rw [e10] at hif
                      exact Or.inr ⟨e10, by omega⟩
                    · exact Or.inl (by omega)
                · have u1 : (4 * x8).toInt = 4 * x8.toInt := i3_mulc rfl rfl rfl (by omega)
                  have u2 : (4 * x8 + l4).toInt = (4 * x8).toInt + l4.toInt := i3_addc rfl rfl rfl (by omega)
                  have u3 : (l4 + 1).toInt = l4.toInt + 1 := i3_addc rfl rfl rfl (by omega)
                  refine ⟨⟨by omega, by omega⟩, fun x11 e11 => ?_⟩
                  have hx11 : x11.toInt = Tk σ (4 * d + i) := by rw [e11, rd_at y 7 (4 * x8 + l4) (n := 4 * d + i) (by omega), hEy.2 7 (by decide)]; rfl
                  have hlt3 := hS.1 (4 * d + i) (by omega)
                  -- nothing over this input
                  have hnone : (∀ X w, aB σ X w = true → w ≠ 4 * d + i) → b_walkFrom_202 X2 X28 X87 X134 X179 Q l2 x8 l4 y := by
                    intro hno
                    unfold b_walkFrom_202
                    refine ih2 (i + 1) (l4 + 1) y (by omega) (by omega) (by omega) hMy hEy (hIy.mono (fun X w _ _ h => ?_))
                    obtain ⟨ha, hb⟩ := Bool.and_eq_true_iff.mp h
                    have hb := of_decide_eq_true hb
                    have h1 := hno X w ha
                    show (aB σ X w && decide (pos (w / 4) < k ∨ (w / 4 = d ∧ w % 4 < i))) = true
                    rw [ha, decide_eq_true (by omega : pos (w / 4) < k ∨ (w / 4 = d ∧ w % 4 < i))]; rfl
                  refine ⟨fun hneg => hnone (fun X w h q => ?_), fun hpos2 => ?_⟩
                  · have := (aB_out h).2.2.2.2.2.1
                    rw [q] at this; omega
                  · obtain ⟨f, hf⟩ : ∃ f : Nat, x11.toInt = (f : Int) := ⟨x11.toInt.toNat, by omega⟩
                    rw [rd_at y 34 x11 hf, hEy.2 34 (by decide)]
                    have hfn : f < nC σ := by omega
                    have hpf : pos f < pos d := by
                      have := hsrc d i hdn hgσ (by omega) (by omega) (by omega)
                      have e9 : (Tk σ (4 * d + i)).toNat = f := by omega
                      rw [e9] at this
                      exact this
                    have hfd : f ≠ d := fun q => by rw [q] at hpf; omega
                    refine ⟨⟨by omega, by omega⟩, fun hrf => ?_, fun hrf => hnone (fun X w h q => ?_)⟩
                    · have L179 : ∀ (n3 e : Nat) (l6 : Int32) (z : VS), l6.toInt = (e : Int) → e ≤ 2 → 2 - e < n3 → MI z → Eo [] [42, 43, 44] σ z → WI (dN σ) (stS σ s) (fun X w => (aB σ X w && decide (pos (w / 4) < k ∨ (w / 4 = d ∧ w % 4 < i))) || decide (w = 4 * d + i ∧ X / 16 % 2 < e ∧ X / 32 = f)) (hw z) → X179 l2 x8 l4 x11 l6 z := by
                        intro n3
                        induction n3 with
                        | zero => intro e l6 z j1 j2 j3; omega
                        | succ n3 ih3 =>
                          intro e l6 z j1 j2 j3 hMz hEz hIz
                          refine H179 _ _ _ _ _ _ ?_
                          unfold b_walkFrom_179
                          refine ⟨fun hge => ?_, fun hlt4 => ?_⟩
                          · unfold b_walkFrom_202
                            refine ih2 (i + 1) (l4 + 1) z (by omega) (by omega) (by omega) hMz hEz (hIz.mono (fun X w _ _ h => ?_))
                            obtain ⟨ha, hb⟩ := Bool.and_eq_true_iff.mp h
                            have hb := of_decide_eq_true hb
                            have hT := (aB_out ha).2.2.2.2.2.1
                            refine Bool.or_eq_true_iff.mpr ?_
                            by_cases e9 : w = 4 * d + i
                            · refine Or.inr (decide_eq_true ⟨e9, by omega, ?_⟩)
                              rw [e9] at hT; omega
                            · refine Or.inl (Bool.and_eq_true_iff.mpr ⟨ha, decide_eq_true ?_⟩)
                              omega
                          · have u6 : (l6 + 1).toInt = l6.toInt + 1 := i3_addc rfl rfl rfl (by omega)
                            have hdz := dN_same hEz (by decide)
                            refine rg_passes (f := f) (d := d) (i := i) (e := e) (st := stS σ s) hf hd k1 j1 (by omega) (by omega) (by omega) (by omega) hfd hMz (by rw [hdz]; exact hIz) (fun X w h => ?_) (fun τ hMτ hEτ hIτ => ?_)
                            · rcases Bool.or_eq_true_iff.mp h with q | q
                              · obtain ⟨ha, hb⟩ := Bool.and_eq_true_iff.mp q
                                have hb := of_decide_eq_true hb
                                have h9 := hapos X w ha
                                intro q9
                                rw [q9] at h9
                                rcases hb with hb | hb
                                · omega
                                · rw [hb.1] at h9; omega
                              · have q := of_decide_eq_true q; omega
                            · refine ih3 (e + 1) (l6 + 1) τ (by omega) (by omega) (by omega) hMτ (hEz.trans hEτ) ?_
                              have := hIτ (fun X w => (aB σ X w && decide (pos (w / 4) < k ∨ (w / 4 = d ∧ w % 4 < i))) || decide (w = 4 * d + i ∧ X / 16 % 2 < e + 1 ∧ X / 32 = f)) (fun X w h => ?_)
                              · rw [hdz] at this; exact this
                              · rcases Bool.or_eq_true_iff.mp h with q | q
                                · exact Or.inl (Bool.or_eq_true_iff.mpr (Or.inl q))
                                · have q := of_decide_eq_true q
                                  by_cases e9 : X / 16 % 2 = e
                                  · exact Or.inr ⟨q.1, by omega⟩
                                  · exact Or.inl (Bool.or_eq_true_iff.mpr (Or.inr (decide_eq_true ⟨q.1, by omega, q.2.2⟩)))
                      refine L179 3 0 0 y rfl (by omega) (by omega) hMy hEy (hIy.mono (fun X w _ _ h => ?_))
                      rcases Bool.or_eq_true_iff.mp h with q | q
                      · exact q
                      · have q := of_decide_eq_true q; omega
                    · have h9 := aB_out h
                      have hT := h9.2.2.2.2.2.1
                      rw [q] at hT
                      have e9 : X / 32 = f := by omega
                      have := h9.2.2.2.2.2.2
                      rw [e9] at this
                      exact this hrf
            refine L134 5 0 0 x rfl (by omega) (by omega) hMx hEx (hIx.mono (fun X w _ _ h => ?_))
            obtain ⟨ha, hb⟩ := Bool.and_eq_true_iff.mp h
            have hb := of_decide_eq_true hb
            exact Bool.and_eq_true_iff.mpr ⟨ha, decide_eq_true (by omega)⟩
          · have := (aB_out h).2.2.2.1; rw [q] at this; exact hop this
        · have := (aB_out h).2.1
          rw [q] at this
          exact (gate_same hEx (by decide) d).mpr this
  -- the start
  have L28 : ∀ (n e : Nat) (l2 : Int32) (x : VS), l2.toInt = (e : Int) → e ≤ 2 → 2 - e < n → MI x → Eo [] [42, 43, 44] σ x → (∀ e', e' < e → hw x (16 * (2 * s + e') + metN σ s) = 1) → X28 p1 l2 x := by
    intro n
    induction n with
    | zero => intro e l2 x h1 h2 h3; omega
    | succ n ih =>
      intro e l2 x h1 h2 h3 hMx hEx hall
      refine H28 _ _ _ ?_
      unfold b_walkFrom_28
      refine ⟨fun hge => ?_, fun hlt => ?_⟩
      · refine L87 (oL σ + 1) 0 0 x rfl (by omega) (by omega) hMx hEx (fun Y hY => ?_)
        have hz : sm 1600 (fun X => sm 200 (fun w => if (aB σ X w && decide (pos (w / 4) < 0)) = true ∧ dN σ X w = Y then hw x X else 0)) = 0 := by
          refine sm_none (fun X _ => sm_none (fun w _ => if_neg (fun h => ?_)))
          have := of_decide_eq_true (Bool.and_eq_true_iff.mp h.1).2
          omega
        rw [hz]
        unfold stS
        have h0 := hall 0 (by omega)
        have h1 := hall 1 (by omega)
        by_cases e9 : Y = 16 * (2 * s) + metN σ s ∨ Y = 16 * (2 * s + 1) + metN σ s
        · rw [if_pos e9]
          rcases e9 with q | q
          · rw [q]; rw [show 16 * (2 * s) + metN σ s = 16 * (2 * s + 0) + metN σ s from rfl, h0]; decide
          · rw [q, h1]; decide
        · rw [if_neg e9]
          omega
      · refine met_s hMx ?_
        have hmx : metV x p1.toInt = metV σ s := by rw [met_same hEx (by decide), hs]
        rw [hmx]
        intro x3 e3
        have u1 : (2 * p1).toInt = 2 * p1.toInt := i3_mulc rfl rfl rfl (by omega)
        have u2 : (2 * p1 + l2).toInt = (2 * p1).toInt + l2.toInt := i3_addc rfl rfl rfl (by omega)
        have u3 : (16 * (2 * p1 + l2)).toInt = 16 * (2 * p1 + l2).toInt := i3_mulc rfl rfl rfl (by omega)
        have u4 : x3.toInt = (16 * (2 * p1 + l2)).toInt + (metV σ s).toInt := i3_addc rfl rfl e3 (by omega)
        have u5 : (l2 + 1).toInt = l2.toInt + 1 := i3_addc rfl rfl rfl (by omega)
        have hx3 : x3.toInt = ((16 * (2 * s + e) + metN σ s : Nat) : Int) := by omega
        refine ⟨⟨by omega, by omega⟩, ?_⟩
        have hM1 := hMx.sa 42 x3 1 (show 0 ≤ (1 : Int32).toInt ∧ (1 : Int32).toInt ≤ 1000 by decide)
        have hE1 := hEx.sa 42 x3 1 (by decide)
        have hc1 : ((sa x 42 x3 1).1 1).toInt = (σ.1 1).toInt := by rw [hE1.1 1 (by decide)]
        refine rg_startLate (by omega) (by omega) (hS.same hE1 (by decide)) hM1 (fun r4 y hMy hEy => ⟨⟨by omega, by omega⟩, ?_⟩)
        have hM2 := hMy.sa 43 x3 r4 (i3_bd _)
        have hE2 := (hE1.of hEy (by decide) (by decide)).sa 43 x3 r4 (by decide)
        have hc2 : ((sa y 43 x3 r4).1 1).toInt = (σ.1 1).toInt := by rw [hE2.1 1 (by decide)]
        refine rg_startEarly (by omega) (by omega) (hS.same hE2 (by decide)) hM2 (fun r6 z hMz hEz => ⟨⟨by omega, by omega⟩, ?_⟩)
        refine ih (e + 1) (l2 + 1) _ (by omega) (by omega) (by omega) (hMz.sa 44 x3 r6 (i3_bd _)) ((hE2.of hEz (by decide) (by decide)).sa 44 x3 r6 (by decide)) (fun e' he' => ?_)
        have hz42 : ∀ Y, (sa z 44 x3 r6).2.1 42 Y = if Y = 16 * (2 * s + e) + metN σ s then 1 else x.2.1 42 Y := by
          intro Y
          rw [sa_other (by decide), hEz.2 42 (by decide), sa_other (by decide), hEy.2 42 (by decide), sa_at x 42 x3 1 hx3]
        unfold hw
        rw [hz42]
        by_cases e9 : e' = e
        · rw [if_pos (by rw [e9])]; rfl
        · rw [if_neg (by omega)]
          exact hall e' (by omega)
  have L2 : ∀ (n : Nat) (l2 : Int32) (x : VS), 1600 - l2.toInt < (n : Int) → 0 ≤ l2.toInt ∧ l2.toInt ≤ 1600 → MI x → Eo [] [42, 43, 44] σ x → X2 p1 l2 x := by
    intro n
    induction n with
    | zero => intro l2 x h1 h2; omega
    | succ n ih =>
      intro l2 x h1 h2 hMx hEx
      refine H2 _ _ _ ?_
      unfold b_walkFrom_2
      have hcx : 0 ≤ (x.1 1).toInt ∧ (x.1 1).toInt ≤ 50 := hMx.1 1
      have u1 : (32 * (x.1 1)).toInt = 32 * (x.1 1).toInt := i3_mulc rfl rfl rfl (by omega)
      refine ⟨fun _ => L28 3 0 0 x rfl (by omega) (by omega) hMx hEx (fun e' h => by omega), fun hlt => ⟨⟨by omega, by omega⟩, ?_⟩⟩
      have u5 : (l2 + 1).toInt = l2.toInt + 1 := i3_addc rfl rfl rfl (by omega)
      exact ih (l2 + 1) _ (by omega) (by omega) (hMx.sa 42 l2 0 (show 0 ≤ (0 : Int32).toInt ∧ (0 : Int32).toInt ≤ 1000 by decide)) (hEx.sa 42 l2 0 (by decide))
  exact L2 1601 0 σ (by decide) (by decide) hM Eo.rfl

