def sn (x : VS) (c : Nat) : Prop := (x.2.1 14 c).toInt ≠ 0
set_option maxHeartbeats 4000000 in
theorem rg_leads {Q : Int32 → VS → Prop} {p1 p2 : Int32} {σ : VS} {a b : Nat} (ha : p1.toInt = (a : Int)) (hb : p2.toInt = (b : Int)) (han : a < nC σ) (hbn : b < nC σ) (hTk : ∀ w : Nat, (w : Int) < 4 * (σ.1 1).toInt → Tk σ w < (σ.1 1).toInt) (hM : MI σ) (hq : ∀ (r : Int32) (σ' : VS), MI σ' → Eo [] [14] σ σ' → (r.toInt = 0 → ∃ S : Nat → Bool, S a = true ∧ S b = false ∧ ∀ d i : Nat, d < nC σ → gate σ d → (i : Int) < Ip σ d → 0 ≤ Tk σ (4 * d + i) → S (Tk σ (4 * d + i)).toNat = true → S d = true) → Q r σ') : wp_leads Q p1 p2 σ := by
  have hc : 0 ≤ (σ.1 1).toInt ∧ (σ.1 1).toInt ≤ 50 := hM.1 1
  have hnc : (nC σ : Int) = (σ.1 1).toInt := by unfold nC; omega
  unfold wp_leads
  intro X2 X34 X43 X77 H2 H34 H43 H77
  have main : ∀ (u : Nat) (x : VS), und (x.2.1 14) (nC σ) < u → MI x → Eo [] [14] σ x → sn x a → X43 p2 0 0 x := by
    intro u
    induction u with
    | zero => intro x h; omega
    | succ u ihu =>
      intro x0 hu hM0 hE0 hs0
      -- one pass
      have L43 : ∀ (n c : Nat) (l3 l4 : Int32) (x : VS), l4.toInt = (c : Int) → c ≤ nC σ → nC σ - c < n → (l3.toInt ≠ 0 → und (x.2.1 14) (nC σ) < u) → (l3.toInt = 0 → und (x.2.1 14) (nC σ) < u + 1 ∧ ∀ d i : Nat, d < c → gate σ d → (i : Int) < Ip σ d → 0 ≤ Tk σ (4 * d + i) → sn x (Tk σ (4 * d + i)).toNat → sn x d) → MI x → Eo [] [14] σ x → sn x a → X43 p2 l3 l4 x := by
        intro n
        induction n with
        | zero => intro c l3 l4 x k1 k2 k3; omega
        | succ n ih =>
          intro c l3 l4 x k1 k2 k3 hch hno hMx hEx hsa
          refine H43 _ _ _ _ ?_
          unfold b_leads_43
          rw [hEx.1 1 (by decide)]
          refine ⟨fun hge => ?_, fun hlt => ?_⟩
          · refine H34 _ _ _ ?_
            unfold b_leads_34
            have b14 : 0 ≤ (rd x 14 p2).toInt ∧ (rd x 14 p2).toInt ≤ 1 := hMx.2 14 _
            refine ⟨fun hz => ⟨⟨by omega, by omega⟩, b14, hq _ _ hMx hEx (fun hr => ?_)⟩, fun hnz => ihu x (hch hnz) hMx hEx hsa⟩
            rw [rd_at x 14 p2 hb] at hr
            refine ⟨fun d => decide ((x.2.1 14 d).toInt ≠ 0), decide_eq_true hsa, decide_eq_false (fun h => h hr), fun d i h1 h2 h3 h4 h5 => ?_⟩
            have h6 : (x.2.1 14 (Tk σ (4 * d + i)).toNat).toInt ≠ 0 := of_decide_eq_true h5
            have h7 : (x.2.1 14 d).toInt ≠ 0 := (hno hz).2 d i (by omega) h2 h3 h4 h6
            exact decide_eq_true h7
          · have u4 : (l4 + 1).toInt = l4.toInt + 1 := i3_addc rfl rfl rfl (by omega)
            have hcn : c < nC σ := by omega
            rw [rd_at x 14 l4 k1]
            refine ⟨⟨by omega, by omega⟩, fun hsn => ?_, fun hun => ?_⟩
            · unfold b_leads_137
              refine ih (c + 1) l3 (l4 + 1) x (by omega) (by omega) (by omega) hch (fun hz => ⟨(hno hz).1, fun d i h1 h2 h3 h4 h5 => ?_⟩) hMx hEx hsa
              by_cases e : d = c
              · rw [e]; exact hsn
              · exact (hno hz).2 d i (by omega) h2 h3 h4 h5
            · refine isGate_s k1 (by omega) (fun hg => ⟨fun _ => ?_, fun h => absurd h (by decide)⟩) (fun hg => ⟨fun h => absurd rfl h, fun _ => ?_⟩)
              · have hgσ : gate σ c := (gate_same hEx (by decide) c).mp hg
                have hIc : 0 ≤ Ip σ c ∧ Ip σ c ≤ 4 := hM.2 3 c
                -- the inputs of c
                have L77 : ∀ (n2 i : Nat) (l3 l5 : Int32) (y : VS), l5.toInt = (i : Int) → i ≤ 4 → 4 - i < n2 → (l3.toInt ≠ 0 → und (y.2.1 14) (nC σ) < u) → (l3.toInt = 0 → y = x ∧ ((∀ d i : Nat, d < c → gate σ d → (i : Int) < Ip σ d → 0 ≤ Tk σ (4 * d + i) → sn x (Tk σ (4 * d + i)).toNat → sn x d) ∧ und (x.2.1 14) (nC σ) < u + 1) ∧ ∀ i' : Nat, i' < i → (i' : Int) < Ip σ c → 0 ≤ Tk σ (4 * c + i') → ¬ sn x (Tk σ (4 * c + i')).toNat) → (y = x ∨ sn y c) → (und (y.2.1 14) (nC σ) < u + 1) → MI y → Eo [] [14] σ y → sn y a → X77 p2 l3 l4 l5 y := by
                  intro n2
                  induction n2 with
                  | zero => intro i l3 l5 y j1 j2 j3; omega
                  | succ n2 ih2 =>
                    intro i l3 l5 y j1 j2 j3 hch2 hno2 hyx huy hMy hEy hsy
                    refine H77 _ _ _ _ _ ?_
                    unfold b_leads_77
                    have hr3 : (rd y 3 l4).toInt = Ip σ c := by rw [rd_at y 3 l4 k1, hEy.2 3 (by decide)]; rfl
                    rw [hr3]
                    refine ⟨⟨by omega, by omega⟩, fun hge => ?_, fun hlt2 => ?_⟩
                    · unfold b_leads_137
                      refine ih (c + 1) l3 (l4 + 1) y (by omega) (by omega) (by omega) hch2 (fun hz => ?_) hMy hEy hsy
                      obtain ⟨e1, e2, e3⟩ := hno2 hz
                      rw [e1]
                      refine ⟨e2.2, fun d i' h1 h2 h3 h4 h5 => ?_⟩
                      by_cases e : d = c
                      · rw [e] at h3 h4 h5
                        exact absurd h5 (e3 i' (by omega) h3 h4)
                      · exact e2.1 d i' (by omega) h2 h3 h4 h5
                    · have v1 : (4 * l4).toInt = 4 * l4.toInt := i3_mulc rfl rfl rfl (by omega)
                      have v2 : (4 * l4 + l5).toInt = (4 * l4).toInt + l5.toInt := i3_addc rfl rfl rfl (by omega)
                      have v5 : (l5 + 1).toInt = l5.toInt + 1 := i3_addc rfl rfl rfl (by omega)
                      refine ⟨⟨by omega, by omega⟩, fun x3 e3 => ?_⟩
                      have hx3 : x3.toInt = Tk σ (4 * c + i) := by rw [e3, rd_at y 7 (4 * l4 + l5) (n := 4 * c + i) (by omega), hEy.2 7 (by decide)]; rfl
                      have hlt3 := hTk (4 * c + i) (by omega)
                      have hstay : (l3.toInt = 0 → 0 ≤ Tk σ (4 * c + i) → ¬ sn x (Tk σ (4 * c + i)).toNat) → b_leads_131 X2 X34 X43 X77 Q p2 l3 l4 l5 y := by
                        intro hnn
                        unfold b_leads_131
                        refine ih2 (i + 1) l3 (l5 + 1) y (by omega) (by omega) (by omega) hch2 (fun hz => ?_) hyx huy hMy hEy hsy
                        obtain ⟨e1, e2, e4⟩ := hno2 hz
                        refine ⟨e1, e2, fun i' h1 h2 h3 => ?_⟩
                        by_cases e : i' = i
                        · rw [e] at h3 ⊢; exact hnn hz h3
                        · exact e4 i' (by omega) h2 h3
                      refine ⟨fun hneg => hstay (fun _ h => by omega), fun hpos => ?_⟩
                      obtain ⟨f, hf⟩ : ∃ f : Nat, x3.toInt = (f : Int) := ⟨x3.toInt.toNat, by omega⟩
                      have hft : (Tk σ (4 * c + i)).toNat = f := by omega
                      rw [rd_at y 14 x3 hf]
                      refine ⟨⟨by omega, by omega⟩, fun hsf => ⟨⟨by omega, by omega⟩, ?_⟩, fun hsf => hstay (fun hz _ h => ?_)⟩
                      · unfold b_leads_131
                        have z14 : ∀ d, (sa y 14 l4 1).2.1 14 d = if d = c then 1 else y.2.1 14 d := fun d => sa_at y 14 l4 1 k1 d
                        have hund : und ((sa y 14 l4 1).2.1 14) (nC σ) < u := by
                          rcases hyx with e | e
                          · have h9 := und_set (f := y.2.1 14) (g := (sa y 14 l4 1).2.1 14) (p := c) (by rw [e]; exact hun) (by rw [z14, if_pos rfl]; decide) (fun d hd => by rw [z14, if_neg hd]) (nC σ) hcn
                            omega
                          · have e5 : l3.toInt ≠ 0 := fun hz => by
                              have := (hno2 hz).1
                              rw [this] at e
                              exact e hun
                            have h9 := und_mono (f := y.2.1 14) (g := (sa y 14 l4 1).2.1 14) (fun d hd => by
                              rw [z14]
                              by_cases e6 : d = c
                              · rw [if_pos e6]; decide
                              · rw [if_neg e6]; exact hd) (nC σ)
                            have := hch2 e5
                            omega
                        refine ih2 (i + 1) 1 (l5 + 1) _ (by omega) (by omega) (by omega) (fun _ => hund) (fun h => absurd h (by decide)) (Or.inr ?_) (by omega) (hMy.sa 14 _ _ (show 0 ≤ (1 : Int32).toInt ∧ (1 : Int32).toInt ≤ 1 by decide)) (hEy.sa 14 _ _ (by decide)) ?_
                        · unfold sn; rw [z14, if_pos rfl]; decide
                        · unfold sn; rw [z14]
                          by_cases e6 : a = c
                          · rw [if_pos e6]; decide
                          · rw [if_neg e6]; exact hsy
                      · rw [hft] at h
                        have e1 := (hno2 hz).1
                        rw [e1] at hsf
                        exact h hsf
                have hux : und (x.2.1 14) (nC σ) < u + 1 := by
                  by_cases e : l3.toInt = 0
                  · exact (hno e).1
                  · have := hch e; omega
                exact L77 5 0 l3 0 x rfl (by omega) (by omega) hch (fun hz => ⟨rfl, ⟨(hno hz).2, hux⟩, fun i' h => by omega⟩) (Or.inl rfl) hux hMx hEx hsa
              · unfold b_leads_137
                have hgσ : ¬ gate σ c := fun h => hg ((gate_same hEx (by decide) c).mpr h)
                refine ih (c + 1) l3 (l4 + 1) x (by omega) (by omega) (by omega) hch (fun hz => ⟨(hno hz).1, fun d i h1 h2 h3 h4 h5 => ?_⟩) hMx hEx hsa
                by_cases e : d = c
                · rw [e] at h2; exact absurd h2 hgσ
                · exact (hno hz).2 d i (by omega) h2 h3 h4 h5
      exact L43 (nC σ + 1) 0 0 0 x0 rfl (by omega) (by omega) (fun h => absurd rfl h) (fun _ => ⟨hu, fun d i h => by omega⟩) hM0 hE0 hs0
  have L2 : ∀ (n : Nat) (l3 : Int32) (x : VS), 50 - l3.toInt < (n : Int) → 0 ≤ l3.toInt ∧ l3.toInt ≤ 50 → MI x → Eo [] [14] σ x → ((a : Int) < l3.toInt → sn x a) → X2 p1 p2 l3 x := by
    intro n
    induction n with
    | zero => intro l3 x k1 k2; omega
    | succ n ih =>
      intro l3 x k1 k2 hMx hEx hsa
      refine H2 _ _ _ _ ?_
      unfold b_leads_2
      rw [hEx.1 1 (by decide)]
      refine ⟨fun hge => ?_, fun hlt => ?_⟩
      · refine H34 _ _ _ ?_
        unfold b_leads_34
        refine ⟨fun h => absurd h (by decide), fun _ => main (und (x.2.1 14) (nC σ) + 1) x (by omega) hMx hEx (hsa (by omega))⟩
      · have u3 : (l3 + 1).toInt = l3.toInt + 1 := i3_addc rfl rfl rfl (by omega)
        obtain ⟨i, hi⟩ : ∃ i : Nat, l3.toInt = (i : Int) := ⟨l3.toInt.toNat, by omega⟩
        unfold b_leads_25
        refine ⟨fun hne => ⟨⟨by omega, by omega⟩, ⟨by decide, by decide⟩, ih (l3 + 1) _ (by omega) (by omega) (hMx.sa 14 _ _ (show 0 ≤ (0 : Int32).toInt ∧ (0 : Int32).toInt ≤ 1 by decide)) (hEx.sa 14 _ _ (by decide)) (fun h => ?_)⟩, fun heq => ⟨⟨by omega, by omega⟩, ⟨by decide, by decide⟩, ih (l3 + 1) _ (by omega) (by omega) (hMx.sa 14 _ _ (show 0 ≤ (1 : Int32).toInt ∧ (1 : Int32).toInt ≤ 1 by decide)) (hEx.sa 14 _ _ (by decide)) (fun h => ?_)⟩⟩
        · unfold sn; rw [sa_at x 14 l3 0 hi, if_neg (by omega)]; exact hsa (by omega)
        · unfold sn; rw [sa_at x 14 l3 1 hi, if_pos (by omega)]; decide
  exact L2 51 0 σ (by decide) (by decide) hM Eo.rfl (fun h => by have e : (0 : Int32).toInt = 0 := rfl; omega)

