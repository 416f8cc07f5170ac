/-! THE REFERENCE: ALL OUTPUTS -/
def LEI (x : VS) : Prop := ∀ k, k < oL x → LE2 (dM x) (vM x) (vM x) (oN x k)
def WRm (x : VS) : Prop := ∀ w : Nat, w < nC x * 4 → 0 ≤ vv x 7 w → ((w % 4 : Nat) : Int) < vv x 3 (w / 4)
theorem WRm.same {F A : List Nat} {σ τ : VS} (h : WRm σ) (e : Eo F A σ τ) (hk : 1 ∉ F ∧ 3 ∉ A ∧ 7 ∉ A) : WRm τ := by
  unfold WRm nC
  rw [vv_eo e hk.2.1, vv_eo e hk.2.2, e.1 1 hk.1]
  exact h
theorem ip_4m {σ : VS} (hM : MI σ) (c : Nat) : ipN (dM σ) c ≤ 4 := by
  have q : dM σ 1 c ≤ 4 := by
    by_cases h : c < nC σ
    · rw [dM_1 h]; exact (hM.2 3 c).2
    · show (if c < nC σ then vv σ 3 c else 0) ≤ 4
      rw [if_neg h]; decide
  unfold ipN
  omega
theorem gM_is {σ : VS} {c : Nat} (h : c < nC σ) : gN (dM σ) c ↔ gate σ c := by
  unfold gN
  rw [dM_0 h]
  exact Iff.rfl
theorem d5M {σ : VS} (hM : MI σ) {w : Nat} (h : w < 4 * nC σ) : dM σ 5 w = Tk σ w := by
  have r7 : -1 ≤ vv σ 7 w ∧ vv σ 7 w ≤ 49 := hM.2 7 w
  rw [dM_5 h]
  show max (vv σ 7 w) (-1) = vv σ 7 w
  omega
set_option maxHeartbeats 4000000 in
theorem kn_ex (ρ : Nat → Nat) (m : Nat) : ∀ (Q : VS → Prop) (p1 : Int32) (τ : VS) (S : Nat → Prop), und (τ.2.1 33) (nC τ) < m → 0 ≤ p1.toInt ∧ p1.toInt < (τ.1 1).toInt → MI τ → SI τ → Rho ρ τ → TIv S τ → RIv S τ → WRm τ → LEI τ → (∀ a, S a → a < nC τ ∧ dn τ a ∧ gate τ a ∧ (gate τ p1.toInt.toNat → ρ p1.toInt.toNat < ρ a)) → (∀ τ' : VS, MI τ' → Eo [30, 32] [31, 33, 34, 35, 36, 37, 38, 39] τ τ' → TIv S τ' → RIv S τ' → Later τ τ' → (∃ k, k < oL τ' ∧ oN τ' k = p1.toInt.toNat) → LEI τ' → Q τ') → kn m Q p1 τ := by
  induction m with
  | zero => intro Q p1 τ S h; omega
  | succ m ihm =>
    intro Q p1 τ S hu hp hM hS hR hT hRI hWr hLE hA hq
    show wp_knownS (kn m) Q p1 τ
    have hc : 0 ≤ (τ.1 1).toInt ∧ (τ.1 1).toInt ≤ 50 := hM.1 1
    obtain ⟨p, hpn⟩ : ∃ p : Nat, p1.toInt = (p : Int) := ⟨p1.toInt.toNat, by omega⟩
    have hpt : p1.toInt.toNat = p := by omega
    rw [hpt] at hA
    have hnc : nC τ = (τ.1 1).toInt.toNat := rfl
    have hpS : ¬ S p := fun h => by have h1 := hA p h; have := h1.2.2.2 h1.2.2.1; omega
    have hrd33 : rd τ 33 p1 = τ.2.1 33 p := rd_at τ 33 p1 hpn
    unfold wp_knownS
    intro X25 X140 X205 H25 H140 H205
    refine ⟨⟨by omega, by omega⟩, fun hnd => ⟨⟨by omega, by omega⟩, ?_⟩, fun hd => ?_⟩
    · rw [hrd33] at hnd
      -- p is done now
      obtain ⟨τ1, e1⟩ : ∃ z : VS, z = sa τ 33 p1 1 := ⟨_, rfl⟩
      have f33 : ∀ c : Nat, τ1.2.1 33 c = if c = p then 1 else τ.2.1 33 c := fun c => by rw [e1]; exact sa_at τ 33 p1 1 hpn c
      have hM1 : MI τ1 := by rw [e1]; exact hM.sa 33 _ _ (show 0 ≤ (1 : Int32).toInt ∧ (1 : Int32).toInt ≤ 1 by decide)
      have hE1 : Eo [30, 32] [31, 33, 34, 35, 36, 37, 38, 39] τ τ1 := by rw [e1]; exact Eo.rfl.sa 33 _ _ (by decide)
      have hE1' : Eo [] [33] τ τ1 := by rw [e1]; exact Eo.rfl.sa 33 _ _ (by decide)
      rw [← e1]
      have hdp : dn τ1 p := by unfold dn; rw [f33, if_pos rfl]; decide
      have hdm : ∀ c, dn τ c → dn τ1 c := by
        intro c h
        unfold dn at h ⊢
        rw [f33]
        by_cases e : c = p
        · rw [if_pos e]; decide
        · rw [if_neg e]; exact h
      have hdb : ∀ c, dn τ1 c → c ≠ p → dn τ c := by
        intro c h e
        unfold dn at h ⊢
        rw [f33, if_neg e] at h
        exact h
      have hu1 : und (τ1.2.1 33) (nC τ) < m := by
        have := und_set (f := τ.2.1 33) (g := τ1.2.1 33) (p := p) hnd (by rw [f33, if_pos rfl]; decide) (fun c hcp => by rw [f33, if_neg hcp]) (nC τ) (by omega)
        omega
      have hT1 : TIv (fun a => S a ∨ a = p) τ1 := by
        have g1 : nC τ1 = nC τ := by unfold nC; rw [hE1'.1 1 (by decide)]
        have g2 : oL τ1 = oL τ := by unfold oL; rw [hE1'.1 32 (by decide)]
        have g3 : ∀ k, oN τ1 k = oN τ k := fun k => by unfold oN; rw [hE1'.2 31 (by decide)]
        refine ⟨fun c h1 h2 => ?_, fun k hk => ?_, fun i j hi hj he => ?_, fun k hk hg i hi h0 => ?_⟩
        · by_cases e : c = p
          · exact Or.inl (Or.inr e)
          · rcases hT.1 c (by omega) (hdb c h2 e) with h | ⟨k, hk, hk2⟩
            · exact Or.inl (Or.inl h)
            · exact Or.inr ⟨k, by omega, by rw [g3]; exact hk2⟩
        · have := hT.2.1 k (by omega)
          rw [g3, g1]
          refine ⟨this.1, hdm _ this.2.1, fun h => ?_⟩
          rcases h with h | h
          · exact this.2.2 h
          · have h9 := this.2.1
            rw [h] at h9
            exact h9 hnd
        · rw [g3, g3] at he
          exact hT.2.2.1 i j (by omega) (by omega) he
        · rw [g3] at hg hi h0 ⊢
          have := hT.2.2.2 k (by omega) ((gate_same hE1' (by decide) _).mp hg) i (by unfold Ip at hi ⊢; rw [hE1'.2 3 (by decide)] at hi; exact hi) (by unfold Tk at h0 ⊢; rw [hE1'.2 7 (by decide)] at h0; exact h0)
          obtain ⟨k', a, b⟩ := this
          refine ⟨k', a, ?_⟩
          rw [g3, b]
          unfold Tk
          rw [hE1'.2 7 (by decide)]
      have hRI1 : RIv (fun a => S a ∨ a = p) τ1 := by
        intro a h1 h2 h3 h4
        rw [hE1'.2 34 (by decide)]
        have e : a ≠ p := fun e => h3 (Or.inr e)
        refine hRI a (by unfold nC at h1 ⊢; rw [hE1'.1 1 (by decide)] at h1; exact h1) (hdb a h2 e) (fun h => h3 (Or.inl h)) ?_
        unfold Kd at h4 ⊢
        rw [hE1'.2 2 (by decide)] at h4
        exact h4
      have hL1 : Later τ τ1 := ⟨by unfold oL; rw [hE1'.1 32 (by decide)]; exact Nat.le_refl _, fun k _ => by unfold oN; rw [hE1'.2 31 (by decide)], hdm⟩
      have hIp0 : 0 ≤ Ip τ p ∧ Ip τ p ≤ 4 := hM.2 3 p
      have hLE1 : LEI τ1 := by
        have g2 : oL τ1 = oL τ := by unfold oL; rw [hE1'.1 32 (by decide)]
        have g3 : ∀ k, oN τ1 k = oN τ k := fun k => by unfold oN; rw [hE1'.2 31 (by decide)]
        have gv : vM τ1 = vM τ := by
          funext k j
          show vv τ1 (34 + k) j = vv τ (34 + k) j
          rw [vv_eo hE1' (show 34 + k ∉ [33] by intro h; have := List.mem_singleton.mp h; omega)]
        intro k hk
        rw [g2] at hk
        rw [g3, gv, dM_same hE1' (by decide) (by decide)]
        exact hLE k hk
      have L25 : ∀ (d : Nat) (l2 l3 : Int32) (x : VS), 4 - l3.toInt < (d : Int) → 0 ≤ l3.toInt ∧ l3.toInt ≤ 4 → (l2.toInt ≠ 0 → gate τ p) → (gate τ p → l2.toInt ≠ 0) → MI x → Eo [30, 32] [31, 33, 34, 35, 36, 37, 38, 39] τ x → TIv (fun a => S a ∨ a = p) x → RIv (fun a => S a ∨ a = p) x → Later τ1 x → LEI x → (gate τ p → ∀ j : Nat, (j : Int) < l3.toInt → (j : Int) < Ip τ p → 0 ≤ Tk τ (4 * p + j) → ∃ k, k < oL x ∧ oN x k = (Tk τ (4 * p + j)).toNat) → X25 p1 l2 l3 x := by
        intro d
        induction d with
        | zero => intro l2 l3 x k1 k2; omega
        | succ d ih =>
          intro l2 l3 x k1 k2 hfl hfl2 hMx hEx hTx hRx hLx hLEx hsrc
          refine H25 _ _ _ _ ?_
          unfold b_knownS_25
          have hrd3 : (rd x 3 p1).toInt = Ip τ p := by rw [rd_at x 3 p1 hpn, hEx.2 3 (by decide)]; rfl
          have hncx : nC x = nC τ := by unfold nC; rw [hEx.1 1 (by decide)]
          refine ⟨⟨by omega, by omega⟩, fun hge => ?_, fun hlt => ?_⟩
          · -- p comes into order
            have ho : 0 ≤ (x.1 32).toInt ∧ (x.1 32).toInt ≤ 50 := hMx.1 32
            have hol : oL x < 50 := by
              have := php_new (m := 50) (n := oL x) (f := oN x) (t := p) (fun i hi => by have := (hTx.2.1 i hi).1; omega) hTx.2.2.1 (by omega) (fun i hi e => (hTx.2.1 i hi).2.2 (Or.inr e))
              exact this
            have hoeq : (x.1 32).toInt = (oL x : Int) := by unfold oL; omega
            have t9 : ((sa x 31 (x.1 32) p1).1 32 + 1).toInt = (x.1 32).toInt + 1 := i3_addc rfl rfl rfl (by have e1 : (1 : Int32).toInt = 1 := rfl; omega)
            obtain ⟨y, ey⟩ : ∃ z : VS, z = sa (sf (sa x 31 (x.1 32) p1) 32 ((sa x 31 (x.1 32) p1).1 32 + 1)) 35 p1 0 := ⟨_, rfl⟩
            have hMy : MI y := by
              rw [ey]
              exact ((hMx.sa 31 _ _ (show 0 ≤ p1.toInt ∧ p1.toInt ≤ 49 by omega)).sf 32 _ (show 0 ≤ ((sa x 31 (x.1 32) p1).1 32 + 1).toInt ∧ ((sa x 31 (x.1 32) p1).1 32 + 1).toInt ≤ 50 by omega)).sa 35 _ _ (i3_bd _)
            have hEy0 : Eo [32] [31, 35] x y := by rw [ey]; exact ((Eo.rfl.sa 31 _ _ (by decide)).sf 32 _ (by decide)).sa 35 _ _ (by decide)
            have hEy : Eo [30, 32] [31, 33, 34, 35, 36, 37, 38, 39] τ y := hEx.of hEy0 (by decide) (by decide)
            have oLy : oL y = oL x + 1 := by
              have e1 : y.1 32 = (sa x 31 (x.1 32) p1).1 32 + 1 := by rw [ey]; rfl
              unfold oL
              rw [e1]
              unfold oL at hoeq
              omega
            have oNy : ∀ k, oN y k = if k = oL x then p else oN x k := by
              intro k
              have e1 : y.2.1 31 k = (sa x 31 (x.1 32) p1).2.1 31 k := by rw [ey]; exact congrFun (sa_other (by decide) _ _ _) k
              unfold oN
              rw [e1, sa_at x 31 (x.1 32) p1 hoeq]
              by_cases e : k = oL x
              · rw [if_pos e, if_pos e]; exact hpt
              · rw [if_neg e, if_neg e]
            have hTy : TIv S y := by
              have g1 : nC y = nC x := by unfold nC; rw [hEy0.1 1 (by decide)]
              have gd : ∀ c, dn y c ↔ dn x c := fun c => by unfold dn; rw [hEy0.2 33 (by decide)]
              have gI : ∀ c, Ip y c = Ip x c := fun c => by unfold Ip; rw [hEy0.2 3 (by decide)]
              have gT : ∀ w, Tk y w = Tk x w := fun w => by unfold Tk; rw [hEy0.2 7 (by decide)]
              refine ⟨fun c h1 h2 => ?_, fun k hk => ?_, fun i j hi hj he => ?_, fun k hk hg i hi h0 => ?_⟩
              · rcases hTx.1 c (by omega) ((gd c).mp h2) with (h | h) | ⟨k, hk, hk2⟩
                · exact Or.inl h
                · exact Or.inr ⟨oL x, by omega, by rw [oNy, if_pos rfl]; exact h.symm⟩
                · exact Or.inr ⟨k, by omega, by rw [oNy, if_neg (by omega)]; exact hk2⟩
              · rw [oNy, g1]
                by_cases e : k = oL x
                · rw [if_pos e]
                  exact ⟨by omega, (gd p).mpr (hLx.2.2 p hdp), hpS⟩
                · rw [if_neg e]
                  have := hTx.2.1 k (by omega)
                  exact ⟨this.1, (gd _).mpr this.2.1, fun h => this.2.2 (Or.inl h)⟩
              · rw [oNy, oNy] at he
                by_cases a : i = oL x
                · by_cases b : j = oL x
                  · omega
                  · rw [if_pos a, if_neg b] at he
                    exact absurd (Or.inr he.symm) (hTx.2.1 j (by omega)).2.2
                · by_cases b : j = oL x
                  · rw [if_neg a, if_pos b] at he
                    exact absurd (Or.inr he) (hTx.2.1 i (by omega)).2.2
                  · rw [if_neg a, if_neg b] at he
                    exact hTx.2.2.1 i j (by omega) (by omega) he
              · rw [oNy] at hg hi h0 ⊢
                by_cases e : k = oL x
                · rw [if_pos e] at hg hi h0 ⊢
                  have hgp : gate τ p := (gate_same hEy (by decide) p).mp hg
                  have eT : Tk y (4 * p + i) = Tk τ (4 * p + i) := by unfold Tk; rw [hEy.2 7 (by decide)]
                  have eI : Ip y p = Ip τ p := by unfold Ip; rw [hEy.2 3 (by decide)]
                  rw [eT] at h0 ⊢
                  rw [eI] at hi
                  obtain ⟨k', a, b⟩ := hsrc hgp i (by omega) hi h0
                  exact ⟨k', by omega, by rw [oNy, if_neg (by omega)]; exact b⟩
                · rw [if_neg e] at hg hi h0 ⊢
                  rw [gT] at h0 ⊢
                  rw [gI] at hi
                  obtain ⟨k', a, b⟩ := hTx.2.2.2 k (by omega) ((gate_same hEy0 (by decide) _).mp hg) i hi h0
                  exact ⟨k', a, by rw [oNy, if_neg (by omega)]; exact b⟩
            have hLy : Later τ y := by
              refine hL1.trans (hLx.trans ⟨by omega, fun k hk => by rw [oNy, if_neg (by omega)], fun c h => ?_⟩)
              unfold dn at h ⊢
              rw [hEy0.2 33 (by decide)]
              exact h
            have hRy : RIv (fun a => S a ∨ a = p) y := hRx.same hEy0 (by decide)
            have hKy : (rd y 2 p1).toInt = Kd τ p := by rw [rd_at y 2 p1 hpn, hEy.2 2 (by decide)]; rfl
            have eK : vv y 2 p = Kd τ p := by show (y.2.1 2 p).toInt = _; rw [hEy.2 2 (by decide)]; rfl
            have eI : vv y 3 p = Ip τ p := by show (y.2.1 3 p).toInt = _; rw [hEy.2 3 (by decide)]; rfl
            have eT : ∀ w, vv y 7 w = Tk τ w := fun w => by show (y.2.1 7 w).toInt = _; rw [hEy.2 7 (by decide)]; rfl
            obtain ⟨mm, hmm⟩ : ∃ mm : Nat, Ip τ p = (mm : Int) := ⟨(Ip τ p).toNat, by omega⟩
            have hny : nC y = nC τ := by unfold nC; rw [hEy.1 1 (by decide)]
            have hselfT : gate τ p → ∀ i, i < mm → Tk τ (4 * p + i) ≠ (p : Int) := fun hg i hi e => by
              have g2 : gate τ (Tk τ (4 * p + i)).toNat := by
                have e2 : (Tk τ (4 * p + i)).toNat = p := by omega
                rw [e2]; exact hg
              have q := hR p i (by omega) (by omega) hg (by omega) g2
              have e2 : (Tk τ (4 * p + i)).toNat = p := by omega
              rw [e2] at q
              omega
            have y35 : vv y 35 = fu (vv x 35) p 0 := by
              rw [ey, vv_sa _ 35 p1 0 hpn]
              have q : vv (sf (sa x 31 (x.1 32) p1) 32 ((sa x 31 (x.1 32) p1).1 32 + 1)) 35 = vv x 35 := vv_so (show 35 ≠ 31 by decide) x _ _
              rw [q]; rfl
            have Fxy : FrM p x y := by
              refine ⟨fun j hj => ?_, fun k j hk _ => ?_, fun k j hk _ => ?_⟩
              · rw [y35, fu_ne hj, vv_eo hEy0 (by decide)]; exact ⟨rfl, rfl⟩
              · rw [vv_eo hEy0 (by rcases hk with k1 | k1 <;> subst k1 <;> decide)]
              · rw [vv_eo hEy0 (by rcases hk with k1 | k1 | k1 | k1 <;> subst k1 <;> decide)]
            have h128 : ∀ k0 : Int32, ((k0.toInt = 1 ∧ (vv y 2 p = 0 ∨ vv y 2 p = 4)) ∨ (k0.toInt = 0 ∧ vv y 2 p ≠ 0 ∧ vv y 2 p ≠ 4)) → b_knownS_128 (kn m) X25 X140 X205 Q p1 l2 k0 p1 y := by
              intro k0 hk0
              refine rx_cell (m := mm) H140 H205 hpn (by omega) hMy (hWr.same hEy (by decide)) (by rw [eI]; exact hmm) (fun hg i hi => ?_) (fun h4 => ?_) (by rw [y35, fu_eq]) ?_ hk0 (fun z Mz Ez Fz Lz => ?_)
              · rw [eT]
                exact hselfT (by unfold gate; rw [← eK]; exact hg) i hi
              · have q := hS.2.2.2.1 p (by omega) (by rw [← eK]; omega)
                omega
              · rw [eK]
                exact ⟨fun h => hfl h, fun h => hfl2 h⟩
              · have dzy : dM z = dM y := dM_same Ez (by decide) (by decide)
                have dyx : dM y = dM x := dM_same hEy0 (by decide) (by decide)
                have Fxz := Fxy.trans Fz
                have oLz : oL z = oL x + 1 := by
                  have q : oL z = oL y := by unfold oL; rw [Ez.1 32 (by decide)]
                  omega
                have oNz : ∀ k, oN z k = oN y k := fun k => by unfold oN; rw [Ez.2 31 (by decide)]
                have EzT : Eo [30, 32] [31, 33, 34, 35, 36, 37, 38, 39] τ z := hEy.of Ez (by decide) (by decide)
                have hnz : nC z = nC τ := by unfold nC; rw [EzT.1 1 (by decide)]
                refine hq z Mz EzT (hTy.same Ez (by decide)) ?_ (hLy.trans (Later.same Ez (by decide))) ⟨oL x, by omega, by rw [oNz, oNy, if_pos rfl]; exact hpt.symm⟩ ?_
                · intro a h1 h2 h3 h4
                  have e4 : Kd z a = Kd y a := by unfold Kd; rw [Ez.2 2 (by decide)]
                  rw [e4] at h4
                  by_cases e : a = p
                  · rw [e] at h4 ⊢
                    show vM z 0 p ≠ 0
                    have dk : dM y 0 p = Kd y p := by rw [dM_0 (by omega)]; rfl
                    rcases h4 with h4 | h4
                    · rw [(Lz.1 (by omega)).1]; decide
                    · rw [Lz.2.2.1 (by omega)]; decide
                  · have q : vv z 34 a = vv y 34 a := (Fz.1 a e).1
                    show vv z 34 a ≠ 0
                    rw [q]
                    refine hRy a (by omega) ?_ (fun h => h.elim h3 e) h4
                    unfold dn at h2 ⊢
                    rw [Ez.2 33 (by decide)] at h2
                    exact h2
                · intro k hk
                  rw [oNz, oNy]
                  by_cases e : k = oL x
                  · rw [if_pos e, dzy]
                    refine LE2_c (ip_4m hMy p) (fun i hi g q => Fz.ec (fun e2 => ?_)) Ec.id Lz
                    have gp : gate τ p := by
                      have g2 := (gM_is (by omega)).mp g
                      exact (gate_same hEy (by decide) p).mp g2
                    have i4 := Nat.lt_of_lt_of_le hi (ip_4m hMy p)
                    have im : i < mm := by
                      have q2 : ipN (dM y) p = mm := by unfold ipN; rw [dM_1 (by omega), eI, hmm]; omega
                      omega
                    have e5 : dM y 5 (4 * p + i) = Tk τ (4 * p + i) := by rw [d5M hMy (by omega)]; exact eT _
                    rw [e5] at q e2
                    exact hselfT gp i im (by omega)
                  · rw [if_neg e, dzy, dyx]
                    have tk := hTx.2.1 k (by omega)
                    have qn : oN x k ≠ p := fun e2 => tk.2.2 (Or.inr e2)
                    refine LE2_c (ip_4m hMx (oN x k)) (fun i hi g q => Fxz.ec (fun e2 => ?_)) (Fxz.ec qn) (hLEx k (by omega))
                    have g2 := (gM_is tk.1).mp g
                    have i4 := Nat.lt_of_lt_of_le hi (ip_4m hMx (oN x k))
                    have iI : (i : Int) < Ip x (oN x k) := by
                      have q2 : ipN (dM x) (oN x k) = (Ip x (oN x k)).toNat := by unfold ipN; rw [dM_1 tk.1]; rfl
                      omega
                    have e5 : dM x 5 (4 * oN x k + i) = Tk x (4 * oN x k + i) := d5M hMx (by have := tk.1; omega)
                    rw [e5] at q e2
                    obtain ⟨k', hk', e6⟩ := hTx.2.2.2 k (by omega) g2 i iI q
                    exact (hTx.2.1 k' (by omega)).2.2 (Or.inr (by rw [e6]; exact e2))
            rw [← ey]
            rw [hKy]
            refine ⟨⟨by omega, by omega⟩, ⟨by omega, by omega⟩, ⟨by omega, by omega⟩, fun h0 => ?_, fun h0 => ⟨⟨by omega, by omega⟩, fun h4 => ?_, fun h4 => ?_⟩⟩
            · unfold b_knownS_123; exact h128 1 (Or.inl ⟨rfl, Or.inl (by omega)⟩)
            · exact h128 0 (Or.inr ⟨rfl, by omega, by omega⟩)
            · unfold b_knownS_123; exact h128 1 (Or.inl ⟨rfl, Or.inr (by omega)⟩)
          · -- the next input
            have u1 : (4 * p1).toInt = 4 * p1.toInt := i3_mulc rfl rfl rfl (by omega)
            have u2 : (4 * p1 + l3).toInt = (4 * p1).toInt + l3.toInt := i3_addc rfl rfl rfl (by omega)
            have u3 : (l3 + 1).toInt = l3.toInt + 1 := i3_addc rfl rfl rfl (by omega)
            obtain ⟨i, hi⟩ : ∃ i : Nat, l3.toInt = (i : Int) := ⟨l3.toInt.toNat, by omega⟩
            have hrd7 : (rd x 7 (4 * p1 + l3)).toInt = Tk τ (4 * p + i) := by rw [rd_at x 7 (4 * p1 + l3) (n := 4 * p + i) (by omega), hEx.2 7 (by decide)]; rfl
            have hTlt := hS.1 (4 * p + i) (by omega)
            refine ⟨⟨by omega, by omega⟩, fun hneg => ?_, fun hpos => ⟨fun hl0 => ?_, fun hl2 => ⟨⟨by omega, by omega⟩, ?_⟩⟩⟩
            · unfold b_knownS_66
              exact ih l2 (l3 + 1) x (by omega) (by omega) hfl hfl2 hMx hEx hTx hRx hLx hLEx (fun hg j h1 h2 h3 => by
                by_cases e : j = i
                · subst e; omega
                · exact hsrc hg j (by omega) h2 h3)
            · unfold b_knownS_66
              exact ih l2 (l3 + 1) x (by omega) (by omega) hfl hfl2 hMx hEx hTx hRx hLx hLEx (fun hg => absurd hl0 (hfl2 hg))
            · have hgp := hfl hl2
              have hcx : (x.1 1).toInt = (τ.1 1).toInt := by rw [hEx.1 1 (by decide)]
              have hst : (rd x 7 (4 * p1 + l3)).toInt.toNat = (Tk τ (4 * p + i)).toNat := by rw [hrd7]
              refine ihm _ _ x (fun a => S a ∨ a = p) ?_ (by omega) hMx (hS.same hEx (by decide)) (hR.same hEx (by decide)) hTx hRx (hWr.same hEx (by decide)) hLEx ?_ ?_
              · rw [hncx]
                have := und_mono (f := τ1.2.1 33) (g := x.2.1 33) (fun c h => hLx.2.2 c h) (nC τ)
                omega
              · intro a ha
                rw [hst, gate_same hEx (by decide), gate_same hEx (by decide), hncx]
                rcases ha with ha | ha
                · have h1 := hA a ha
                  refine ⟨h1.1, hLx.2.2 a (hdm a h1.2.1), h1.2.2.1, fun hg => ?_⟩
                  have h2 := hR p i (by omega) (by omega) hgp (by omega) hg
                  have h3 := h1.2.2.2 hgp
                  omega
                · subst ha
                  exact ⟨by omega, hLx.2.2 a hdp, hgp, fun hg => hR a i (by omega) (by omega) hgp (by omega) hg⟩
              · intro z hMz hEz hTz hRz hLz hkz hLEz
                unfold b_knownS_66
                refine ih l2 (l3 + 1) z (by omega) (by omega) hfl hfl2 hMz (hEx.trans hEz) hTz hRz (hLx.trans hLz) hLEz (fun hg j h1 h2 h3 => ?_)
                by_cases e : j = i
                · subst e
                  rw [hst] at hkz
                  exact hkz
                · obtain ⟨k, a, b⟩ := hsrc hg j (by omega) h2 h3
                  exact ⟨k, Nat.lt_of_lt_of_le a hLz.1, by rw [hLz.2.1 k a]; exact b⟩
      have hE1r : gate τ1 p ↔ gate τ p := gate_same hE1 (by decide) p
      refine isGate_s hpn (by omega) (fun hg => ?_) (fun hg => ?_)
      · exact L25 5 1 0 τ1 (by decide) (by decide) (fun _ => hE1r.mp hg) (fun _ => by decide) hM1 hE1 hT1 hRI1 Later.rfl hLE1 (fun _ j h => absurd h (by have e : (0 : Int32).toInt = 0 := rfl; omega))
      · exact L25 5 0 0 τ1 (by decide) (by decide) (fun h => absurd rfl h) (fun h => absurd (hE1r.mpr h) hg) hM1 hE1 hT1 hRI1 Later.rfl hLE1 (fun _ j h => absurd h (by have e : (0 : Int32).toInt = 0 := rfl; omega))
    · rw [hrd33] at hd
      refine hq τ hM Eo.rfl hT hRI Later.rfl ?_ hLE
      rcases hT.1 p (by omega) hd with h | h
      · exact absurd h hpS
      · rw [hpt]; exact h

set_option maxHeartbeats 2000000 in
theorem rx_time {Q : VS → Prop} {σ : VS} (hS : SI σ) (hM : MI σ) (hWr : WRm σ) (hq : ∀ τ : VS, MI τ → Eo [30, 32] [31, 33, 34, 35, 36, 37, 38, 39] σ τ → TD τ → (∀ c, c < nC τ → LE2 (dM τ) (vM τ) (vM τ) c) → Q τ) : wp_time Q σ := by
  obtain ⟨ρ, hR⟩ : ∃ ρ, Rho ρ σ := hS.2.2.2.2
  have hc : 0 ≤ (σ.1 1).toInt ∧ (σ.1 1).toInt ≤ 50 := hM.1 1
  unfold wp_time
  intro X7 X30 H7 H30
  have hn : nC σ = (σ.1 1).toInt.toNat := rfl
  have L2 : ∀ (d : Nat) (l1 : Int32) (x : VS), (σ.1 1).toInt - l1.toInt < (d : Int) → 0 ≤ l1.toInt ∧ l1.toInt ≤ (σ.1 1).toInt → MI x → Eo [30, 32] [31, 33, 34, 35, 36, 37, 38, 39] σ x → TIv (fun _ => False) x → RIv (fun _ => False) x → LEI x → (∀ c : Nat, (c : Int) < l1.toInt → ∃ k, k < oL x ∧ oN x k = c) → X30 l1 x := by
    intro d
    induction d with
    | zero => intro l1 x k1 k2; omega
    | succ d ih =>
      intro l1 x k1 k2 hMx hEx hTx hRx hLE hall
      refine H30 _ _ ?_
      unfold b_time_30
      have hcx : (x.1 1).toInt = (σ.1 1).toInt := by rw [hEx.1 1 (by decide)]
      have hnx : nC x = (σ.1 1).toInt.toNat := by unfold nC; rw [hcx]
      refine ⟨fun hge => ?_, fun hlt => ?_⟩
      · refine hq x hMx hEx ⟨fun c h => hall c (by omega), fun k hk => (hTx.2.1 k hk).1, hTx.2.2.1, hTx.2.2.2, fun a ha hk => ?_⟩ (fun c h => ?_)
        · obtain ⟨k, h1, h2⟩ := hall a (by omega)
          have := (hTx.2.1 k h1).2.1
          rw [h2] at this
          exact hRx a ha this (fun h => h) hk
        · obtain ⟨k, h1, h2⟩ := hall c (by omega)
          have q := hLE k h1
          rw [h2] at q
          exact q
      · have u3 : (l1 + 1).toInt = l1.toInt + 1 := i3_addc rfl rfl rfl (by omega)
        have hu := und_le (x.2.1 33) (nC x)
        refine kn_ex ρ 52 _ l1 x (fun _ => False) (by omega) (by omega) hMx (hS.same hEx (by decide)) (hR.same hEx (by decide)) hTx hRx (hWr.same hEx (by decide)) hLE (fun a h => h.elim) (fun y hMy hEy hTy hRy hLy hky hLEy => ?_)
        refine ih (l1 + 1) y (by omega) (by omega) hMy (hEx.trans hEy) hTy hRy hLEy (fun c h => ?_)
        by_cases e : (c : Int) = l1.toInt
        · have e2 : l1.toInt.toNat = c := by omega
          rw [e2] at hky
          exact hky
        · obtain ⟨k, a, b⟩ := hall c (by omega)
          exact ⟨k, Nat.lt_of_lt_of_le a hLy.1, by rw [hLy.2.1 k a]; exact b⟩
  have L1 : ∀ (d : Nat) (l1 : Int32) (x : VS), (σ.1 1).toInt - l1.toInt < (d : Int) → 0 ≤ l1.toInt ∧ l1.toInt ≤ (σ.1 1).toInt → MI x → Eo [30, 32] [31, 33, 34, 35, 36, 37, 38, 39] σ x → oL x = 0 → (∀ c : Nat, (c : Int) < l1.toInt → (x.2.1 33 c).toInt = 0) → X7 l1 x := by
    intro d
    induction d with
    | zero => intro l1 x k1 k2; omega
    | succ d ih =>
      intro l1 x k1 k2 hMx hEx hox hall
      refine H7 _ _ ?_
      unfold b_time_7
      have hcx : (x.1 1).toInt = (σ.1 1).toInt := by rw [hEx.1 1 (by decide)]
      have hnx : nC x = (σ.1 1).toInt.toNat := by unfold nC; rw [hcx]
      refine ⟨fun hge => ?_, fun hlt => ⟨⟨by omega, by omega⟩, ?_⟩⟩
      · refine L2 51 0 x (by have e : (0 : Int32).toInt = 0 := rfl; omega) (by have e : (0 : Int32).toInt = 0 := rfl; omega) hMx hEx ⟨fun c h1 h2 => absurd (hall c (by omega)) h2, fun k hk => by omega, fun i j hi => by omega, fun k hk => by omega⟩ (fun a h1 h2 => absurd (hall a (by omega)) h2) (fun k hk => by omega) (fun c h => by have e : (0 : Int32).toInt = 0 := rfl; omega)
      · have u3 : (l1 + 1).toInt = l1.toInt + 1 := i3_addc rfl rfl rfl (by omega)
        obtain ⟨i, hi⟩ : ∃ i : Nat, l1.toInt = (i : Int) := ⟨l1.toInt.toNat, by omega⟩
        refine ih (l1 + 1) _ (by omega) (by omega) (hMx.sa 33 _ _ (show 0 ≤ (0 : Int32).toInt ∧ (0 : Int32).toInt ≤ 1 by decide)) (hEx.sa 33 _ _ (by decide)) hox (fun c h => ?_)
        rw [sa_at x 33 l1 0 hi]
        by_cases e : c = i
        · rw [if_pos e]; rfl
        · rw [if_neg e]; exact hall c (by omega)
  exact L1 51 0 _ (by have e : (0 : Int32).toInt = 0 := rfl; omega) (by have e : (0 : Int32).toInt = 0 := rfl; omega) (hM.sf 32 0 (show 0 ≤ (0 : Int32).toInt ∧ (0 : Int32).toInt ≤ 50 by decide)) (Eo.rfl.sf 32 0 (by decide)) rfl (fun c h => by have e : (0 : Int32).toInt = 0 := rfl; omega)
