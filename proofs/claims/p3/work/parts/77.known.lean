set_option maxHeartbeats 4000000 in
theorem kn_ok (ρ : Nat → Nat) (m : Nat) : ∀ (Q : VS → Prop) (p1 : Int32) (τ : VS) (S : Nat → Prop), und (τ.2.1 33) (nC τ) < m → 0 ≤ p1.toInt ∧ p1.toInt < (τ.1 1).toInt → MI τ → SI τ → Rho ρ τ → TIv S τ → RIv S τ → (∀ a, S a → a < nC τ ∧ dn τ a ∧ gate τ a ∧ (gate τ p1.toInt.toNat → ρ p1.toInt.toNat < ρ a)) → (∀ τ' : VS, MI τ' → Eo [30, 32] [31, 33, 34, 35, 36, 37, 38, 39] τ τ' → TIv S τ' → RIv S τ' → Later τ τ' → (∃ k, k < oL τ' ∧ oN τ' k = p1.toInt.toNat) → Q τ') → kn m Q p1 τ := by
  induction m with
  | zero => intro Q p1 τ S h; omega
  | succ m ihm =>
    intro Q p1 τ S hu hp hM hS hR hT hRI hA hq
    show wp_knownS (kn m) Q p1 τ
    have hc : 0 ≤ (τ.1 1).toInt ∧ (τ.1 1).toInt ≤ 50 := hM.1 1
    obtain ⟨p, hpn⟩ : ∃ p : Nat, p1.toInt = (p : Int) := ⟨p1.toInt.toNat, by omega⟩
    have hpt : p1.toInt.toNat = p := by omega
    rw [hpt] at hA
    have hnc : nC τ = (τ.1 1).toInt.toNat := rfl
    have hpS : ¬ S p := fun h => by have h1 := hA p h; have := h1.2.2.2 h1.2.2.1; omega
    have hrd33 : rd τ 33 p1 = τ.2.1 33 p := rd_at τ 33 p1 hpn
    unfold wp_knownS
    intro X25 X140 X205 H25 H140 H205
    refine ⟨⟨by omega, by omega⟩, fun hnd => ⟨⟨by omega, by omega⟩, ?_⟩, fun hd => ?_⟩
    · rw [hrd33] at hnd
      -- p is done now
      obtain ⟨τ1, e1⟩ : ∃ z : VS, z = sa τ 33 p1 1 := ⟨_, rfl⟩
      have f33 : ∀ c : Nat, τ1.2.1 33 c = if c = p then 1 else τ.2.1 33 c := fun c => by rw [e1]; exact sa_at τ 33 p1 1 hpn c
      have hM1 : MI τ1 := by rw [e1]; exact hM.sa 33 _ _ (show 0 ≤ (1 : Int32).toInt ∧ (1 : Int32).toInt ≤ 1 by decide)
      have hE1 : Eo [30, 32] [31, 33, 34, 35, 36, 37, 38, 39] τ τ1 := by rw [e1]; exact Eo.rfl.sa 33 _ _ (by decide)
      have hE1' : Eo [] [33] τ τ1 := by rw [e1]; exact Eo.rfl.sa 33 _ _ (by decide)
      rw [← e1]
      have hdp : dn τ1 p := by unfold dn; rw [f33, if_pos rfl]; decide
      have hdm : ∀ c, dn τ c → dn τ1 c := by
        intro c h
        unfold dn at h ⊢
        rw [f33]
        by_cases e : c = p
        · rw [if_pos e]; decide
        · rw [if_neg e]; exact h
      have hdb : ∀ c, dn τ1 c → c ≠ p → dn τ c := by
        intro c h e
        unfold dn at h ⊢
        rw [f33, if_neg e] at h
        exact h
      have hu1 : und (τ1.2.1 33) (nC τ) < m := by
        have := und_set (f := τ.2.1 33) (g := τ1.2.1 33) (p := p) hnd (by rw [f33, if_pos rfl]; decide) (fun c hcp => by rw [f33, if_neg hcp]) (nC τ) (by omega)
        omega
      have hT1 : TIv (fun a => S a ∨ a = p) τ1 := by
        have g1 : nC τ1 = nC τ := by unfold nC; rw [hE1'.1 1 (by decide)]
        have g2 : oL τ1 = oL τ := by unfold oL; rw [hE1'.1 32 (by decide)]
        have g3 : ∀ k, oN τ1 k = oN τ k := fun k => by unfold oN; rw [hE1'.2 31 (by decide)]
        refine ⟨fun c h1 h2 => ?_, fun k hk => ?_, fun i j hi hj he => ?_, fun k hk hg i hi h0 => ?_⟩
        · by_cases e : c = p
          · exact Or.inl (Or.inr e)
          · rcases hT.1 c (by omega) (hdb c h2 e) with h | ⟨k, hk, hk2⟩
            · exact Or.inl (Or.inl h)
            · exact Or.inr ⟨k, by omega, by rw [g3]; exact hk2⟩
        · have := hT.2.1 k (by omega)
          rw [g3, g1]
          refine ⟨this.1, hdm _ this.2.1, fun h => ?_⟩
          rcases h with h | h
          · exact this.2.2 h
          · have h9 := this.2.1
            rw [h] at h9
            exact h9 hnd
        · rw [g3, g3] at he
          exact hT.2.2.1 i j (by omega) (by omega) he
        · rw [g3] at hg hi h0 ⊢
          have := hT.2.2.2 k (by omega) ((gate_same hE1' (by decide) _).mp hg) i (by unfold Ip at hi ⊢; rw [hE1'.2 3 (by decide)] at hi; exact hi) (by unfold Tk at h0 ⊢; rw [hE1'.2 7 (by decide)] at h0; exact h0)
          obtain ⟨k', a, b⟩ := this
          refine ⟨k', a, ?_⟩
          rw [g3, b]
          unfold Tk
          rw [hE1'.2 7 (by decide)]
      have hRI1 : RIv (fun a => S a ∨ a = p) τ1 := by
        intro a h1 h2 h3 h4
        rw [hE1'.2 34 (by decide)]
        have e : a ≠ p := fun e => h3 (Or.inr e)
        refine hRI a (by unfold nC at h1 ⊢; rw [hE1'.1 1 (by decide)] at h1; exact h1) (hdb a h2 e) (fun h => h3 (Or.inl h)) ?_
        unfold Kd at h4 ⊢
        rw [hE1'.2 2 (by decide)] at h4
        exact h4
      have hL1 : Later τ τ1 := ⟨by unfold oL; rw [hE1'.1 32 (by decide)]; exact Nat.le_refl _, fun k _ => by unfold oN; rw [hE1'.2 31 (by decide)], hdm⟩
      have hIp0 : 0 ≤ Ip τ p ∧ Ip τ p ≤ 4 := hM.2 3 p
      -- what holds once p is in order
      obtain ⟨G, hG⟩ : ∃ G : VS → Prop, G = fun x => MI x ∧ Eo [30, 32] [31, 33, 34, 35, 36, 37, 38, 39] τ x ∧ TIv S x ∧ RIv S x ∧ Later τ x ∧ ∃ k, k < oL x ∧ oN x k = p1.toInt.toNat := ⟨_, rfl⟩
      have GQ : ∀ x, G x → Q x := fun x h => by rw [hG] at h; exact hq x h.1 h.2.1 h.2.2.1 h.2.2.2.1 h.2.2.2.2.1 h.2.2.2.2.2
      have Gsame : ∀ x y, G x → MI y → Eo [30] [35, 36, 37, 38, 39] x y → G y := by
        intro x y h hMy hEy
        rw [hG] at h ⊢
        obtain ⟨a1, a2, a3, a4, a5, k, a6, a7⟩ := h
        refine ⟨hMy, a2.of hEy (by decide) (by decide), a3.same hEy (by decide), a4.same hEy (by decide), a5.trans (Later.same hEy (by decide)), k, ?_, ?_⟩
        · unfold oL at a6 ⊢; rw [hEy.1 32 (by decide)]; exact a6
        · unfold oN at a7 ⊢; rw [hEy.2 31 (by decide)]; exact a7
      have Greach : ∀ x (v : Int32), G x → Bo v → gate τ p → G (sa x 34 p1 v) := by
        intro x v h hv hgp
        rw [hG] at h ⊢
        obtain ⟨a1, a2, a3, a4, a5, k, a6, a7⟩ := h
        have e34 : Eo [] [34] x (sa x 34 p1 v) := Eo.rfl.sa 34 _ _ (by decide)
        refine ⟨a1.sa 34 _ _ hv, a2.sa 34 _ _ (by decide), a3.same e34 (by decide), ?_, a5.trans (Later.same e34 (by decide)), k, a6, ?_⟩
        · intro a h1 h2 h3 h4
          have e : a ≠ p := by
            intro e
            unfold Kd at h4
            rw [e34.2 2 (by decide), a2.2 2 (by decide), e] at h4
            unfold gate Kd at hgp
            omega
          rw [sa_at x 34 p1 v hpn, if_neg e]
          have e2 : dn x a := by unfold dn at h2 ⊢; rw [e34.2 33 (by decide)] at h2; exact h2
          refine a4 a h1 e2 h3 ?_
          unfold Kd at h4 ⊢
          rw [e34.2 2 (by decide)] at h4
          exact h4
        · unfold oN at a7 ⊢; rw [e34.2 31 (by decide)]; exact a7
      have h292 : ∀ x, G x → b_knownS_292 (kn m) X25 X140 X205 Q p1 x := by
        intro x h
        have h' := h
        rw [hG] at h'
        unfold b_knownS_292 b_knownS_315
        refine ⟨⟨by omega, by omega⟩, fun _ => GQ x h, fun _ => ⟨⟨by omega, by omega⟩, fun _ => GQ x h, fun _ => ?_⟩⟩
        exact rg_arcs ⟨by omega, by omega⟩ h'.1 (fun y hy hEy => GQ y (Gsame x y h hy hEy))
      have L205 : ∀ (d : Nat) (l2 l3 : Int32) (x : VS), 4 - l3.toInt < (d : Int) → 0 ≤ l3.toInt ∧ l3.toInt ≤ 4 → (l2.toInt ≠ 0 → gate τ p) → G x → X205 p1 l2 l3 x := by
        intro d
        induction d with
        | zero => intro l2 l3 x k1 k2; omega
        | succ d ih =>
          intro l2 l3 x k1 k2 hfl h
          have h' := h
          rw [hG] at h'
          have hMx := h'.1
          have a3 : 0 ≤ (rd x 3 p1).toInt ∧ (rd x 3 p1).toInt ≤ 4 := hMx.2 3 _
          refine H205 _ _ _ _ ?_
          unfold b_knownS_205
          refine ⟨⟨by omega, by omega⟩, fun _ => h292 x h, fun hlt => ⟨fun _ => h292 x h, fun hl2 => ?_⟩⟩
          have u1 : (4 * p1).toInt = 4 * p1.toInt := i3_mulc rfl rfl rfl (by omega)
          have u2 : (4 * p1 + l3).toInt = (4 * p1).toInt + l3.toInt := i3_addc rfl rfl rfl (by omega)
          have u3 : (l3 + 1).toInt = l3.toInt + 1 := i3_addc rfl rfl rfl (by omega)
          have hgp := hfl hl2
          refine ⟨⟨by omega, by omega⟩, fun x5 e5 => ?_⟩
          have a5 : -1 ≤ x5.toInt ∧ x5.toInt ≤ 49 := by rw [e5]; exact hMx.2 7 _
          have h286 : ∀ y, G y → b_knownS_286 (kn m) X25 X140 X205 Q p1 l2 l3 y := fun y hy => by
            unfold b_knownS_286
            exact ih l2 (l3 + 1) y (by omega) (by omega) hfl hy
          have h268 : 0 ≤ x5.toInt → ∀ k0 : Int32, Bo k0 → b_knownS_268 (kn m) X25 X140 X205 Q p1 l2 l3 x5 k0 p1 x := by
            intro h5 k0 hk0
            have g1 := Greach x k0 h hk0 hgp
            have g1' := g1
            rw [hG] at g1'
            unfold b_knownS_268
            refine ⟨⟨by omega, by omega⟩, hk0, ⟨by omega, by omega⟩, fun _ => h286 _ g1, fun _ => ⟨⟨by omega, by omega⟩, h286 _ (Gsame _ _ g1 (g1'.1.sa 35 _ _ (i3_bd _)) (Eo.rfl.sa 35 _ _ (by decide)))⟩⟩
          refine ⟨fun h5 => ⟨⟨by omega, by omega⟩, fun _ => ?_, fun _ => ⟨⟨by omega, by omega⟩, fun _ => h268 h5 0 ⟨by decide, by decide⟩, fun _ => ?_⟩⟩, fun _ => h286 x h⟩
          · unfold b_knownS_263; exact h268 h5 1 ⟨by decide, by decide⟩
          · unfold b_knownS_263; exact h268 h5 1 ⟨by decide, by decide⟩
      have h183 : ∀ (l2 : Int32) (x : VS), (l2.toInt ≠ 0 → gate τ p) → G x → b_knownS_183 (kn m) X25 X140 X205 Q p1 l2 x := by
        intro l2 x hfl h
        unfold b_knownS_183 b_knownS_202
        exact ⟨⟨by omega, by omega⟩, fun _ => GQ x h, fun _ => ⟨⟨by omega, by omega⟩, fun _ => L205 5 l2 0 x (by decide) (by decide) hfl h, fun _ => GQ x h⟩⟩
      have L140 : ∀ (d : Nat) (l2 l3 : Int32) (x : VS), 2 - l3.toInt < (d : Int) → 0 ≤ l3.toInt ∧ l3.toInt ≤ 2 → (l2.toInt ≠ 0 → gate τ p) → G x → X140 p1 l2 l3 x := by
        intro d
        induction d with
        | zero => intro l2 l3 x k1 k2; omega
        | succ d ih =>
          intro l2 l3 x k1 k2 hfl h
          have h' := h
          rw [hG] at h'
          have hMx := h'.1
          refine H140 _ _ _ _ ?_
          unfold b_knownS_140
          refine ⟨fun _ => h183 l2 x hfl h, fun hlt => ?_⟩
          have u1 : (2 * p1).toInt = 2 * p1.toInt := i3_mulc rfl rfl rfl (by omega)
          have u2 : (2 * p1 + l3).toInt = (2 * p1).toInt + l3.toInt := i3_addc rfl rfl rfl (by omega)
          have u3 : (l3 + 1).toInt = l3.toInt + 1 := i3_addc rfl rfl rfl (by omega)
          have b1 : 0 ≤ (rd x 10 p1).toInt ∧ (rd x 10 p1).toInt ≤ 100000 := hMx.2 10 _
          have hM2 := hMx.sa 38 (2 * p1 + l3) (rd x 10 p1) (show 0 ≤ (rd x 10 p1).toInt ∧ (rd x 10 p1).toInt ≤ 100000 from b1)
          have b2 : 0 ≤ (rd (sa x 38 (2 * p1 + l3) (rd x 10 p1)) 10 p1).toInt ∧ (rd (sa x 38 (2 * p1 + l3) (rd x 10 p1)) 10 p1).toInt ≤ 100000 := hM2.2 10 _
          refine ⟨⟨by omega, by omega⟩, ⟨by omega, by omega⟩, ⟨by omega, by omega⟩, ⟨by omega, by omega⟩, ?_⟩
          exact ih l2 (l3 + 1) _ (by omega) (by omega) hfl (Gsame x _ h (hM2.sa 39 _ _ b2) ((Eo.rfl.sa 38 _ _ (by decide)).sa 39 _ _ (by decide)))
      have L25 : ∀ (d : Nat) (l2 l3 : Int32) (x : VS), 4 - l3.toInt < (d : Int) → 0 ≤ l3.toInt ∧ l3.toInt ≤ 4 → (l2.toInt ≠ 0 → gate τ p) → (gate τ p → l2.toInt ≠ 0) → MI x → Eo [30, 32] [31, 33, 34, 35, 36, 37, 38, 39] τ x → TIv (fun a => S a ∨ a = p) x → RIv (fun a => S a ∨ a = p) x → Later τ1 x → (gate τ p → ∀ j : Nat, (j : Int) < l3.toInt → (j : Int) < Ip τ p → 0 ≤ Tk τ (4 * p + j) → ∃ k, k < oL x ∧ oN x k = (Tk τ (4 * p + j)).toNat) → X25 p1 l2 l3 x := by
        intro d
        induction d with
        | zero => intro l2 l3 x k1 k2; omega
        | succ d ih =>
          intro l2 l3 x k1 k2 hfl hfl2 hMx hEx hTx hRx hLx hsrc
          refine H25 _ _ _ _ ?_
          unfold b_knownS_25
          have hrd3 : (rd x 3 p1).toInt = Ip τ p := by rw [rd_at x 3 p1 hpn, hEx.2 3 (by decide)]; rfl
          have hncx : nC x = nC τ := by unfold nC; rw [hEx.1 1 (by decide)]
          refine ⟨⟨by omega, by omega⟩, fun hge => ?_, fun hlt => ?_⟩
          · -- p comes into order
            have ho : 0 ≤ (x.1 32).toInt ∧ (x.1 32).toInt ≤ 50 := hMx.1 32
            have hol : oL x < 50 := by
              have := php_new (m := 50) (n := oL x) (f := oN x) (t := p) (fun i hi => by have := (hTx.2.1 i hi).1; omega) hTx.2.2.1 (by omega) (fun i hi e => (hTx.2.1 i hi).2.2 (Or.inr e))
              exact this
            have hoeq : (x.1 32).toInt = (oL x : Int) := by unfold oL; omega
            have t9 : ((sa x 31 (x.1 32) p1).1 32 + 1).toInt = (x.1 32).toInt + 1 := i3_addc rfl rfl rfl (by have e1 : (1 : Int32).toInt = 1 := rfl; omega)
            obtain ⟨y, ey⟩ : ∃ z : VS, z = sa (sf (sa x 31 (x.1 32) p1) 32 ((sa x 31 (x.1 32) p1).1 32 + 1)) 35 p1 0 := ⟨_, rfl⟩
            have hMy : MI y := by
              rw [ey]
              exact ((hMx.sa 31 _ _ (show 0 ≤ p1.toInt ∧ p1.toInt ≤ 49 by omega)).sf 32 _ (show 0 ≤ ((sa x 31 (x.1 32) p1).1 32 + 1).toInt ∧ ((sa x 31 (x.1 32) p1).1 32 + 1).toInt ≤ 50 by omega)).sa 35 _ _ (i3_bd _)
            have hEy0 : Eo [32] [31, 35] x y := by rw [ey]; exact ((Eo.rfl.sa 31 _ _ (by decide)).sf 32 _ (by decide)).sa 35 _ _ (by decide)
            have hEy : Eo [30, 32] [31, 33, 34, 35, 36, 37, 38, 39] τ y := hEx.of hEy0 (by decide) (by decide)
            have oLy : oL y = oL x + 1 := by
              have e1 : y.1 32 = (sa x 31 (x.1 32) p1).1 32 + 1 := by rw [ey]; rfl
              unfold oL
              rw [e1]
              unfold oL at hoeq
              omega
            have oNy : ∀ k, oN y k = if k = oL x then p else oN x k := by
              intro k
              have e1 : y.2.1 31 k = (sa x 31 (x.1 32) p1).2.1 31 k := by rw [ey]; exact congrFun (sa_other (by decide) _ _ _) k
              unfold oN
              rw [e1, sa_at x 31 (x.1 32) p1 hoeq]
              by_cases e : k = oL x
              · rw [if_pos e, if_pos e]; exact hpt
              · rw [if_neg e, if_neg e]
            have hTy : TIv S y := by
              have g1 : nC y = nC x := by unfold nC; rw [hEy0.1 1 (by decide)]
              have gd : ∀ c, dn y c ↔ dn x c := fun c => by unfold dn; rw [hEy0.2 33 (by decide)]
              have gI : ∀ c, Ip y c = Ip x c := fun c => by unfold Ip; rw [hEy0.2 3 (by decide)]
              have gT : ∀ w, Tk y w = Tk x w := fun w => by unfold Tk; rw [hEy0.2 7 (by decide)]
              refine ⟨fun c h1 h2 => ?_, fun k hk => ?_, fun i j hi hj he => ?_, fun k hk hg i hi h0 => ?_⟩
              · rcases hTx.1 c (by omega) ((gd c).mp h2) with (h | h) | ⟨k, hk, hk2⟩
                · exact Or.inl h
                · exact Or.inr ⟨oL x, by omega, by rw [oNy, if_pos rfl]; exact h.symm⟩
                · exact Or.inr ⟨k, by omega, by rw [oNy, if_neg (by omega)]; exact hk2⟩
              · rw [oNy, g1]
                by_cases e : k = oL x
                · rw [if_pos e]
                  exact ⟨by omega, (gd p).mpr (hLx.2.2 p hdp), hpS⟩
                · rw [if_neg e]
                  have := hTx.2.1 k (by omega)
                  exact ⟨this.1, (gd _).mpr this.2.1, fun h => this.2.2 (Or.inl h)⟩
              · rw [oNy, oNy] at he
                by_cases a : i = oL x
                · by_cases b : j = oL x
                  · omega
                  · rw [if_pos a, if_neg b] at he
                    exact absurd (Or.inr he.symm) (hTx.2.1 j (by omega)).2.2
                · by_cases b : j = oL x
                  · rw [if_neg a, if_pos b] at he
                    exact absurd (Or.inr he) (hTx.2.1 i (by omega)).2.2
                  · rw [if_neg a, if_neg b] at he
                    exact hTx.2.2.1 i j (by omega) (by omega) he
              · rw [oNy] at hg hi h0 ⊢
                by_cases e : k = oL x
                · rw [if_pos e] at hg hi h0 ⊢
                  have hgp : gate τ p := (gate_same hEy (by decide) p).mp hg
                  have eT : Tk y (4 * p + i) = Tk τ (4 * p + i) := by unfold Tk; rw [hEy.2 7 (by decide)]
                  have eI : Ip y p = Ip τ p := by unfold Ip; rw [hEy.2 3 (by decide)]
                  rw [eT] at h0 ⊢
                  rw [eI] at hi
                  obtain ⟨k', a, b⟩ := hsrc hgp i (by omega) hi h0
                  exact ⟨k', by omega, by rw [oNy, if_neg (by omega)]; exact b⟩
                · rw [if_neg e] at hg hi h0 ⊢
                  rw [gT] at h0 ⊢
                  rw [gI] at hi
                  obtain ⟨k', a, b⟩ := hTx.2.2.2 k (by omega) ((gate_same hEy0 (by decide) _).mp hg) i hi h0
                  exact ⟨k', a, by rw [oNy, if_neg (by omega)]; exact b⟩
            have hLy : Later τ y := by
              refine hL1.trans (hLx.trans ⟨by omega, fun k hk => by rw [oNy, if_neg (by omega)], fun c h => ?_⟩)
              unfold dn at h ⊢
              rw [hEy0.2 33 (by decide)]
              exact h
            have hRy : RIv (fun a => S a ∨ a = p) y := hRx.same hEy0 (by decide)
            have hKy : (rd y 2 p1).toInt = Kd τ p := by rw [rd_at y 2 p1 hpn, hEy.2 2 (by decide)]; rfl
            have h128 : ∀ k0 : Int32, Bo k0 → ((Kd τ p = 0 ∨ Kd τ p = 4) → k0.toInt ≠ 0) → b_knownS_128 (kn m) X25 X140 X205 Q p1 l2 k0 p1 y := by
              intro k0 hk0 hkk
              have hEz : Eo [] [34] y (sa y 34 p1 k0) := Eo.rfl.sa 34 _ _ (by decide)
              have hGz : G (sa y 34 p1 k0) := by
                rw [hG]
                refine ⟨hMy.sa 34 _ _ hk0, hEy.sa 34 _ _ (by decide), hTy.same hEz (by decide), ?_, hLy.trans (Later.same hEz (by decide)), oL x, ?_, ?_⟩
                · intro a h1 h2 h3 h4
                  rw [sa_at y 34 p1 k0 hpn]
                  by_cases e : a = p
                  · rw [if_pos e]
                    refine hkk ?_
                    unfold Kd at h4 ⊢
                    rw [hEz.2 2 (by decide), hEy.2 2 (by decide), e] at h4
                    exact h4
                  · rw [if_neg e]
                    refine hRy a h1 ?_ (fun h => h.elim h3 e) ?_
                    · unfold dn at h2 ⊢; rw [hEz.2 33 (by decide)] at h2; exact h2
                    · unfold Kd at h4 ⊢; rw [hEz.2 2 (by decide)] at h4; exact h4
                · show oL x < oL y; omega
                · show oN (sa y 34 p1 k0) (oL x) = p1.toInt.toNat
                  have : oN (sa y 34 p1 k0) (oL x) = oN y (oL x) := by unfold oN; rw [hEz.2 31 (by decide)]
                  rw [this, oNy, if_pos rfl]; exact hpt.symm
              unfold b_knownS_128
              exact ⟨⟨by omega, by omega⟩, hk0, ⟨by omega, by omega⟩, fun _ => h183 l2 _ hfl hGz, fun _ => L140 3 l2 0 _ (by decide) (by decide) hfl hGz⟩
            rw [← ey]
            rw [hKy]
            refine ⟨⟨by omega, by omega⟩, ⟨by omega, by omega⟩, ⟨by omega, by omega⟩, fun _ => ?_, fun h0 => ⟨⟨by omega, by omega⟩, fun h4 => ?_, fun _ => ?_⟩⟩
            · unfold b_knownS_123; exact h128 1 ⟨by decide, by decide⟩ (fun _ => by decide)
            · exact h128 0 ⟨by decide, by decide⟩ (fun h => by omega)
            · unfold b_knownS_123; exact h128 1 ⟨by decide, by decide⟩ (fun _ => by decide)
          · -- the next input
            have u1 : (4 * p1).toInt = 4 * p1.toInt := i3_mulc rfl rfl rfl (by omega)
            have u2 : (4 * p1 + l3).toInt = (4 * p1).toInt + l3.toInt := i3_addc rfl rfl rfl (by omega)
            have u3 : (l3 + 1).toInt = l3.toInt + 1 := i3_addc rfl rfl rfl (by omega)
            obtain ⟨i, hi⟩ : ∃ i : Nat, l3.toInt = (i : Int) := ⟨l3.toInt.toNat, by omega⟩
            have hrd7 : (rd x 7 (4 * p1 + l3)).toInt = Tk τ (4 * p + i) := by rw [rd_at x 7 (4 * p1 + l3) (n := 4 * p + i) (by omega), hEx.2 7 (by decide)]; rfl
            have hTlt := hS.1 (4 * p + i) (by omega)
            refine ⟨⟨by omega, by omega⟩, fun hneg => ?_, fun hpos => ⟨fun hl0 => ?_, fun hl2 => ⟨⟨by omega, by omega⟩, ?_⟩⟩⟩
            · unfold b_knownS_66
              exact ih l2 (l3 + 1) x (by omega) (by omega) hfl hfl2 hMx hEx hTx hRx hLx (fun hg j h1 h2 h3 => by
                by_cases e : j = i
                · subst e; omega
                · exact hsrc hg j (by omega) h2 h3)
            · unfold b_knownS_66
              exact ih l2 (l3 + 1) x (by omega) (by omega) hfl hfl2 hMx hEx hTx hRx hLx (fun hg => absurd hl0 (hfl2 hg))
            · have hgp := hfl hl2
              have hcx : (x.1 1).toInt = (τ.1 1).toInt := by rw [hEx.1 1 (by decide)]
              have hst : (rd x 7 (4 * p1 + l3)).toInt.toNat = (Tk τ (4 * p + i)).toNat := by rw [hrd7]
              refine ihm _ _ x (fun a => S a ∨ a = p) ?_ (by omega) hMx (hS.same hEx (by decide)) (hR.same hEx (by decide)) hTx hRx ?_ ?_
              · rw [hncx]
                have := und_mono (f := τ1.2.1 33) (g := x.2.1 33) (fun c h => hLx.2.2 c h) (nC τ)
                omega
              · intro a ha
                rw [hst, gate_same hEx (by decide), gate_same hEx (by decide), hncx]
                rcases ha with ha | ha
                · have h1 := hA a ha
                  refine ⟨h1.1, hLx.2.2 a (hdm a h1.2.1), h1.2.2.1, fun hg => ?_⟩
                  have h2 := hR p i (by omega) (by omega) hgp (by omega) hg
                  have h3 := h1.2.2.2 hgp
                  omega
                · subst ha
                  exact ⟨by omega, hLx.2.2 a hdp, hgp, fun hg => hR a i (by omega) (by omega) hgp (by omega) hg⟩
              · intro z hMz hEz hTz hRz hLz hkz
                unfold b_knownS_66
                refine ih l2 (l3 + 1) z (by omega) (by omega) hfl hfl2 hMz (hEx.trans hEz) hTz hRz (hLx.trans hLz) (fun hg j h1 h2 h3 => ?_)
                by_cases e : j = i
                · subst e
                  rw [hst] at hkz
                  exact hkz
                · obtain ⟨k, a, b⟩ := hsrc hg j (by omega) h2 h3
                  exact ⟨k, Nat.lt_of_lt_of_le a hLz.1, by rw [hLz.2.1 k a]; exact b⟩
      have hE1r : gate τ1 p ↔ gate τ p := gate_same hE1 (by decide) p
      refine isGate_s hpn (by omega) (fun hg => ?_) (fun hg => ?_)
      · exact L25 5 1 0 τ1 (by decide) (by decide) (fun _ => hE1r.mp hg) (fun _ => by decide) hM1 hE1 hT1 hRI1 Later.rfl (fun _ j h => absurd h (by have e : (0 : Int32).toInt = 0 := rfl; omega))
      · exact L25 5 0 0 τ1 (by decide) (by decide) (fun h => absurd rfl h) (fun h => absurd (hE1r.mpr h) hg) hM1 hE1 hT1 hRI1 Later.rfl (fun _ j h => absurd h (by have e : (0 : Int32).toInt = 0 := rfl; omega))
    · rw [hrd33] at hd
      refine hq τ hM Eo.rfl hT hRI Later.rfl ?_
      rcases hT.1 p (by omega) hd with h | h
      · exact absurd h hpS
      · rw [hpt]; exact h

