theorem sfl_at (σ : VS) (k : Nat) (v : Int32) (j : Nat) : vv (sfl σ k v) k j = v.toInt := by
  show ((if k = k then (fun _ => v) else σ.2.1 k) j).toInt = v.toInt
  rw [if_pos rfl]
theorem sfl_ne {k2 k : Nat} (h : k2 ≠ k) (σ : VS) (v : Int32) : vv (sfl σ k v) k2 = vv σ k2 := by
  funext j
  show ((if k2 = k then (fun _ => v) else σ.2.1 k2) j).toInt = (σ.2.1 k2 j).toInt
  rw [if_neg h]
theorem Nd.cg {M M' : Int → Prop} {v : Int} (h : ∀ x, M x ↔ M' x) (k : Nd M v) : Nd M' v := by
  have e : M = M' := by
    funext x
    exact propext (h x)
  rw [← e]; exact k
set_option maxHeartbeats 1000000 in
theorem cx_race {Q : VS → Prop} {σ : VS} {R : Nat} {b : Nat → Nat} {BB : Nat → Nat → Nat → List (List Nat)} {sh : Nat → Nat → Int} (hM : CI σ) (hO : TO σ) (hC : CSrc σ) (h : Rce σ R b BB sh) (hq : ∀ τ : VS, CI τ → Eo [9, 10] [47, 48, 49, 50, 51, 52] σ τ → (∀ t, t < nCl σ → isT σ t → EnT (isS σ) (cnS σ R b BB) (cmS σ R b BB sh) (nCl σ) t (vv τ 50 t) (vv τ 51 t) (vv τ 52 t)) → (∀ t, t < nCl σ → ¬ isT σ t → vv τ 50 t = 0 ∧ vv τ 51 t = 1000000000 ∧ vv τ 52 t = 1000000000) → Nd (dT (isS σ) (isT σ) (cdS σ R b BB sh) (nCl σ) (nCl σ)) (τ.1 10).toInt → Q τ) : wp_X2run Q σ := by
  have h0 := h
  obtain ⟨hR, hb, hbK, hB, hT, hW, bsh, hsh⟩ := h0
  have hR4 : 0 ≤ (σ.1 6).toInt ∧ (σ.1 6).toInt ≤ 4 := hM.1 6
  have a2 : 0 ≤ (σ.1 2).toInt ∧ (σ.1 2).toInt ≤ 50 := hM.1 2
  have en : (σ.1 2).toInt = ((nCl σ : Nat) : Int) := by unfold nCl; omega
  have kk := K_le R (by omega)
  have hbm : ∀ s p, mkP b s p < 2 ^ R := fun s p => mkP_lt (s := s) or_K hbK p
  unfold wp_X2run
  intro X44 X85 H44 H85
  -- the ends of one START
  have Z85 : ∀ (d k j : Nat) (l1 l2 : Int32) (τ : VS), nCl σ + 1 ≤ d + j → j ≤ nCl σ → k < nCl σ → isS σ k → l1.toInt = (k : Int) → l2.toInt = (j : Int) → CI τ → Eo [9, 10] [47, 48, 49, 50, 51, 52] σ τ → (τ.1 9).toInt = ((2 ^ R : Nat) : Int) → (∀ c e, c < nCl σ → e < 2 → RO b k (2 ^ R) (LaS σ k) (EaS σ k) (BB k c e) c e τ) → (∀ t, t < nCl σ → isT σ t → (t < j → EnT (isS σ) (cnS σ R b BB) (cmS σ R b BB sh) (k + 1) t (vv τ 50 t) (vv τ 51 t) (vv τ 52 t)) ∧ (j ≤ t → EnT (isS σ) (cnS σ R b BB) (cmS σ R b BB sh) k t (vv τ 50 t) (vv τ 51 t) (vv τ 52 t))) → (∀ t, t < nCl σ → ¬ isT σ t → vv τ 50 t = 0 ∧ vv τ 51 t = 1000000000 ∧ vv τ 52 t = 1000000000) → Nd (fun x => dT (isS σ) (isT σ) (cdS σ R b BB sh) (nCl σ) k x ∨ ∃ t, t < j ∧ isT σ t ∧ cdS σ R b BB sh k t x) (τ.1 10).toInt → (∀ τ2 : VS, CI τ2 → Eo [9, 10] [47, 48, 49, 50, 51, 52] σ τ2 → (τ2.1 9).toInt = ((2 ^ R : Nat) : Int) → (∀ t, t < nCl σ → isT σ t → EnT (isS σ) (cnS σ R b BB) (cmS σ R b BB sh) (k + 1) t (vv τ2 50 t) (vv τ2 51 t) (vv τ2 52 t)) → (∀ t, t < nCl σ → ¬ isT σ t → vv τ2 50 t = 0 ∧ vv τ2 51 t = 1000000000 ∧ vv τ2 52 t = 1000000000) → Nd (dT (isS σ) (isT σ) (cdS σ R b BB sh) (nCl σ) (k + 1)) (τ2.1 10).toInt → X44 (l1 + 1) τ2) → X85 l1 l2 τ := by
    intro d
    induction d with
    | zero => intro k j l1 l2 τ a c; omega
    | succ d ih =>
      intro k j l1 l2 τ a c hk hS e1 e2 hMt hE h9 hRO hEn hno hNd K44
      refine H85 l1 l2 τ ?_
      unfold b_X2run_85 b_X2run_137 b_X2run_131
      rw [hE.1 2 (by decide)]
      refine ⟨fun z => ?_, fun z => ?_⟩
      · have ej : j = nCl σ := by omega
        refine K44 τ hMt hE h9 (fun t ht hT2 => (hEn t ht hT2).1 (by omega)) hno (Nd.cg (fun x => ⟨fun q => ?_, fun ⟨s, t, q1, q2, q3, q4, q5⟩ => ?_⟩) hNd)
        · rcases q with ⟨s, t, q1, q2, q3⟩ | ⟨t, q1, q2, q3⟩
          · exact ⟨s, t, by omega, q2, q3⟩
          · exact ⟨k, t, by omega, by omega, hS, q2, q3⟩
        · by_cases w : s = k
          · rw [w] at q5
            exact Or.inr ⟨t, by omega, q4, q5⟩
          · exact Or.inl ⟨s, t, by omega, q2, q3, q4, q5⟩
      · have hj : j < nCl σ := by omega
        have t2 : (l2 + 1).toInt = ((j + 1 : Nat) : Int) := by
          have q := i3_addc (x := l2 + 1) e2 (show (1 : Int32).toInt = 1 from rfl) rfl (by omega)
          omega
        have e11 : vv τ 11 j = vv σ 11 j := by rw [vv_eo hE (by decide)]
        -- nothing comes to this end
        have skip : (isT σ j → cnS σ R b BB k j = 0 ∧ ∀ e p, e < 2 → 0 ≤ dC σ 5 (4 * j) → ¬ p ∈ BB k (fS σ j) e) → X85 l1 (l2 + 1) τ := fun emp => by
          refine ih k (j + 1) l1 (l2 + 1) τ (by omega) (by omega) hk hS e1 t2 hMt hE h9 hRO (fun t ht hT2 => ⟨fun w => ?_, fun w => (hEn t ht hT2).2 (by omega)⟩) hno (Nd.cg (fun x => ⟨fun q => ?_, fun q => ?_⟩) hNd) K44
          · by_cases w2 : t = j
            · rw [w2] at hT2 ⊢
              refine ((hEn j hj hT2).2 (Nat.le_refl j)).none (emp hT2).1 (fun x y q => ?_)
              obtain ⟨q0, e, p, he, hp, _⟩ := q
              exact (emp hT2).2 e p he q0 hp
            · exact (hEn t ht hT2).1 (by omega)
          · exact q.imp (fun w => w) (fun ⟨t, q1, q2, q3⟩ => ⟨t, by omega, q2, q3⟩)
          · rcases q with q | ⟨t, q1, q2, q3⟩
            · exact Or.inl q
            · by_cases w2 : t = j
              · rw [w2] at q2 q3
                obtain ⟨q0, e, p, he, hp, _⟩ := q3
                exact absurd hp ((emp q2).2 e p he q0)
              · exact Or.inr ⟨t, by omega, q2, q3⟩
        refine cx_isTarget (c := j) e2 (by omega) (fun hT2 => ⟨fun w => absurd w (by decide), fun _ => ?_⟩) (fun hT2 => ⟨fun _ => skip (fun w => absurd w (by rw [e11] at hT2; exact hT2)), fun w => absurd rfl w⟩)
        rw [e11] at hT2
        have hT3 : isT σ j := hT2
        have u1 : (l2 * 4).toInt = ((4 * j : Nat) : Int) := by
          have q := i3_mulc (x := l2 * 4) e2 (show (4 : Int32).toInt = 4 from rfl) rfl (by omega)
          omega
        have r16 : (rd τ 16 (l2 * 4)).toInt = vv σ 16 (4 * j) := by rw [vv_rd u1, vv_eo hE (by decide)]
        have d5 : dC σ 5 (4 * j) = max (vv σ 16 (4 * j)) (-1) := dC_5 (by omega)
        have c16 : vv σ 16 (4 * j) < (σ.1 2).toInt := hC (4 * j)
        refine ⟨⟨by omega, by omega⟩, ?_⟩
        by_cases neg : vv σ 16 (4 * j) < 0
        · have nd : ¬ 0 ≤ dC σ 5 (4 * j) := by omega
          unfold wp_X2isSpreadTo
          intro X8 _
          refine ⟨fun w => by omega, fun _ => ⟨fun _ => skip (fun _ => ⟨by unfold cnS; rw [if_neg nd], fun e p _ w => absurd w nd⟩), fun w => absurd rfl w⟩⟩
        · have yd : 0 ≤ dC σ 5 (4 * j) := by omega
          have ff : fS σ j = (vv σ 16 (4 * j)).toNat := by unfold fS; omega
          have fe : vv σ 16 (4 * j) = ((fS σ j : Nat) : Int) := by omega
          have fl : fS σ j < nCl σ := by omega
          have rst := h.rst hM hMt hE h9 hk hS
          have nn : nCl τ = nCl σ := by unfold nCl; rw [hE.1 2 (by decide)]
          have oT : TO τ := by
            unfold TO Gw gtC srcf
            rw [hE.1 3 (by decide), hE.1 2 (by decide), hE.2 19 (by decide), hE.2 11 (by decide), hE.2 16 (by decide)]
            exact hO
          have cT : CSrc τ := by
            unfold CSrc
            rw [hE.1 2 (by decide), hE.2 16 (by decide)]
            exact hC
          have bdp := rst.bd hMt oT cT
          refine cx_isSpreadTo (s := k) (K := 2 ^ R) (sr := fS σ j) (L := BB k (fS σ j) 0) (by rw [r16]; exact fe) (by omega) h9 kk (fun p _ => hbm k p) (hRO _ 0 fl (by decide)) (fun _ => ⟨fun w => absurd w (by decide), fun _ => ?_⟩) (fun none => ⟨fun _ => ?_, fun w => absurd rfl w⟩)
          · have w13 := hW.2 j hj
            have dcl : dC τ = dC σ := by
              obtain ⟨_, _, _, _, rB, _, _, rT, _⟩ := rst
              exact (by
                funext a c2
                unfold dC nCl
                rw [vv_eo hE (show 11 ∉ [47, 48, 49, 50, 51, 52] by decide), vv_eo hE (show 12 ∉ [47, 48, 49, 50, 51, 52] by decide), vv_eo hE (show 13 ∉ [47, 48, 49, 50, 51, 52] by decide), vv_eo hE (show 14 ∉ [47, 48, 49, 50, 51, 52] by decide), vv_eo hE (show 15 ∉ [47, 48, 49, 50, 51, 52] by decide), vv_eo hE (show 16 ∉ [47, 48, 49, 50, 51, 52] by decide), vv_eo hE (show 22 ∉ [47, 48, 49, 50, 51, 52] by decide), vv_eo hE (show 23 ∉ [47, 48, 49, 50, 51, 52] by decide), vv_eo hE (show 24 ∉ [47, 48, 49, 50, 51, 52] by decide), vv_eo hE (show 36 ∉ [47, 48, 49, 50, 51, 52] by decide), vv_eo hE (show 37 ∉ [47, 48, 49, 50, 51, 52] by decide), vv_eo hE (show 38 ∉ [47, 48, 49, 50, 51, 52] by decide), hE.2 25 (by decide), hE.2 29 (by decide), hE.2 30 (by decide), hE.1 2 (by decide), hE.1 7 (by decide), hE.1 8 (by decide)])
            refine cx_finish (s := k) (t := j) (K := 2 ^ R) (fs := fS σ j) (R := R) (b := b) (L := BB k (fS σ j)) (La := LaS σ k) (Ea := EaS σ k) (sh := sh k j) (rm := rmS σ sh k j) (hr := hrS σ sh k j) (N := NS σ R b k j) e1 e2 (by omega) (by omega) hMt h9 kk or_K (by rw [vv_eo hE (by decide)]; exact hb j (by omega)) hbK (by rw [hE.1 6 (by decide)]; exact hR) (by rw [vv_eo hE (by decide)]; exact fe) (by omega) (fun e he => hRO _ e fl he) (fun e p he hp => bdp _ (by omega) e p hp he) (fun Q2 q => hsh τ hMt hE k j l1 l2 Q2 e1 e2 hk hj q) (bsh k j) (by rw [dcl]; exact w13.1) (by rw [dcl]; exact w13.2) (by rw [dcl, vv_eo hE (by decide)]; rfl) (by rw [dcl, vv_eo hE (by decide)]; rfl) (fun p => by rw [vv_eo hE (show 31 ∉ [47, 48, 49, 50, 51, 52] by decide), vv_eo hE (show 32 ∉ [47, 48, 49, 50, 51, 52] by decide), vv_eo hE (show 34 ∉ [47, 48, 49, 50, 51, 52] by decide)]; rfl) ((hEn j hj hT3).2 (Nat.le_refl j)) hNd (fun τ2 M2 E2 F2 En2 Nd2 => ?_)
            have E2' : Eo [9, 10] [47, 48, 49, 50, 51, 52] σ τ2 := hE.of E2 (by decide) (by decide)
            have l4 : (τ.1 4).toInt = (σ.1 4).toInt := by rw [hE.1 4 (by decide)]
            have rsame : ∀ c e, c < nCl σ → e < 2 → RO b k (2 ^ R) (LaS σ k) (EaS σ k) (BB k c e) c e τ2 := fun c e hc he t ht => by
              rw [vv_eo E2 (show 47 ∉ [50, 51, 52] by decide), vv_eo E2 (show 48 ∉ [50, 51, 52] by decide), vv_eo E2 (show 49 ∉ [50, 51, 52] by decide)]
              exact hRO c e hc he t ht
            have jn : ∀ t, ¬ isT σ t → t ≠ j := fun t w w2 => w (w2 ▸ hT3)
            refine ih k (j + 1) l1 (l2 + 1) τ2 (by omega) (by omega) hk hS e1 t2 M2 E2' (by rw [E2.1 9 (by decide)]; exact h9) rsame (fun t ht hT4 => ⟨fun w => ?_, fun w => ?_⟩) (fun t ht w => ?_) (Nd.cg (fun x => ⟨fun q => ?_, fun q => ?_⟩) Nd2) K44
            · by_cases w2 : t = j
              · rw [w2]
                have cj : cnS σ R b BB k j = nP (NS σ R b k j) (BB k (fS σ j)) := by unfold cnS; rw [if_pos yd]
                refine EnT.add hS (En.cg (by rw [cj, cG_nP (hbm k)]) (fun x y => ?_) En2)
                rw [MG_mP (hbm k), l4]
                exact ⟨fun q => q.imp (fun z => z) (fun z => ⟨yd, z⟩), fun q => q.imp (fun z => z) (fun z => z.2)⟩
              · have q := F2 t w2
                rw [q.1, q.2.1, q.2.2]
                exact (hEn t ht hT4).1 (by omega)
            · have q := F2 t (by omega)
              rw [q.1, q.2.1, q.2.2]
              exact (hEn t ht hT4).2 (by omega)
            · have q := F2 t (jn t w)
              rw [q.1, q.2.1, q.2.2]
              exact hno t ht w
            · rcases q with (q | ⟨t, q1, q2⟩) | q
              · exact Or.inl q
              · exact Or.inr ⟨t, by omega, q2⟩
              · exact Or.inr ⟨j, by omega, hT3, yd, (DG_dP (hbm k) x).mp q⟩
            · rcases q with q | ⟨t, q1, q2, q3⟩
              · exact Or.inl (Or.inl q)
              · by_cases w2 : t = j
                · rw [w2] at q3
                  exact Or.inr ((DG_dP (hbm k) x).mpr q3.2)
                · exact Or.inl (Or.inr ⟨t, by omega, q2, q3⟩)
          · have emp : ∀ e p, e < 2 → ¬ p ∈ BB k (fS σ j) e := fun e p he hp => by
              obtain ⟨ρ, hRk, _, _⟩ := TO.rk hM hO hC
              obtain ⟨p2, hp2⟩ := BP_edge (V := vC σ) (hB k) hRk _ fl e 0 he (by decide) ⟨p, hp⟩
              exact none p2 hp2
            refine skip (fun _ => ⟨?_, fun e p he _ => emp e p he⟩)
            unfold cnS nP
            rw [if_pos yd, cP_all (fun p hp => absurd hp (emp 0 p (by decide))), cP_all (fun p hp => absurd hp (emp 1 p (by decide)))]
  have Z44 : ∀ (d k : Nat) (l1 : Int32) (τ : VS), nCl σ + 1 ≤ d + k → k ≤ nCl σ → l1.toInt = (k : Int) → CI τ → Eo [9, 10] [47, 48, 49, 50, 51, 52] σ τ → (τ.1 9).toInt = ((2 ^ R : Nat) : Int) → (∀ t, t < nCl σ → isT σ t → EnT (isS σ) (cnS σ R b BB) (cmS σ R b BB sh) k t (vv τ 50 t) (vv τ 51 t) (vv τ 52 t)) → (∀ t, t < nCl σ → ¬ isT σ t → vv τ 50 t = 0 ∧ vv τ 51 t = 1000000000 ∧ vv τ 52 t = 1000000000) → Nd (dT (isS σ) (isT σ) (cdS σ R b BB sh) (nCl σ) k) (τ.1 10).toInt → X44 l1 τ := by
    intro d
    induction d with
    | zero => intro k l1 τ a c; omega
    | succ d ih =>
      intro k l1 τ a c e1 hMt hE h9 hEn hno hNd
      refine H44 l1 τ ?_
      unfold b_X2run_44 b_X2run_137
      rw [hE.1 2 (by decide)]
      refine ⟨fun z => ?_, fun z => ?_⟩
      · have ek : k = nCl σ := by omega
        rw [ek] at hEn hNd
        exact hq τ hMt hE hEn hno hNd
      · have hk : k < nCl σ := by omega
        have t1 : (l1 + 1).toInt = ((k + 1 : Nat) : Int) := by
          have q := i3_addc (x := l1 + 1) e1 (show (1 : Int32).toInt = 1 from rfl) rfl (by omega)
          omega
        have e11 : vv τ 11 k = vv σ 11 k := by rw [vv_eo hE (by decide)]
        have r40 : (rd τ 40 l1).toInt = vC σ 1 k := by rw [vv_rd e1, vv_eo hE (by decide)]; rfl
        have skip : ¬ isS σ k → X44 (l1 + 1) τ := fun ns => ih (k + 1) (l1 + 1) τ (by omega) (by omega) t1 hMt hE h9 (fun t ht hT2 => (hEn t ht hT2).skip ns) hno (Nd.cg (fun x => ⟨fun ⟨s, t, q1, q2⟩ => ⟨s, t, by omega, q2⟩, fun ⟨s, t, q1, q2, q3, q4⟩ => ⟨s, t, by
          by_cases w : s = k
          · exact absurd (w ▸ q3) ns
          · omega, q2, q3, q4⟩⟩) hNd)
        refine cx_isStart (c := k) e1 (by omega) (fun y => ⟨fun w => absurd w (by decide), fun _ => ⟨⟨by omega, by omega⟩, fun w => skip (fun q => ?_), fun w => ?_⟩⟩) (fun y => ⟨fun _ => skip (fun q => y (by rw [e11]; exact q.1)), fun w => absurd rfl w⟩)
        · rw [r40] at w
          exact w q.2
        · rw [e11] at y
          rw [r40] at w
          have hS : isS σ k := ⟨y, w⟩
          have rst := h.rst hM hMt hE h9 hk hS
          have nn : nCl τ = nCl σ := by unfold nCl; rw [hE.1 2 (by decide)]
          have oT : TO τ := by
            unfold TO Gw gtC srcf
            rw [hE.1 3 (by decide), hE.1 2 (by decide), hE.2 19 (by decide), hE.2 11 (by decide), hE.2 16 (by decide)]
            exact hO
          have cT : CSrc τ := by
            unfold CSrc
            rw [hE.1 2 (by decide), hE.2 16 (by decide)]
            exact hC
          refine cx_spreadFrom e1 hMt oT cT rst (fun τ2 M2 E2 RO2 => ?_)
          rw [nn] at RO2
          have E2' : Eo [9, 10] [47, 48, 49, 50, 51, 52] σ τ2 := hE.of E2 (by decide) (by decide)
          have s50 : vv τ2 50 = vv τ 50 := vv_eo E2 (by decide)
          have s51 : vv τ2 51 = vv τ 51 := vv_eo E2 (by decide)
          have s52 : vv τ2 52 = vv τ 52 := vv_eo E2 (by decide)
          refine Z85 (nCl σ + 1) k 0 l1 0 τ2 (by omega) (by omega) hk hS e1 rfl M2 E2' (by rw [E2.1 9 (by decide)]; exact h9) RO2 (fun t ht hT2 => ⟨fun q => by omega, fun _ => by rw [s50, s51, s52]; exact hEn t ht hT2⟩) (fun t ht q => by rw [s50, s51, s52]; exact hno t ht q) (by rw [E2.1 10 (by decide)]; exact Nd.cg (fun x => ⟨fun q => Or.inl q, fun q => q.elim (fun w2 => w2) (fun ⟨t, w2, _⟩ => by omega)⟩) hNd) (fun τ3 M3 E3 n3 q1 q2 q3 => ih (k + 1) (l1 + 1) τ3 (by omega) (by omega) t1 M3 E3 n3 q1 q2 q3)
  unfold wp_X3masks
  obtain ⟨r1, er⟩ : ∃ r1 : Int32, r1 = (1 : Int32) <<< (σ.1 6 &&& 31) := ⟨_, rfl⟩
  have tr : r1.toInt = ((2 ^ R : Nat) : Int) := by rw [er]; exact shl_x hR (by omega)
  rw [← er]
  obtain ⟨z, hz⟩ : ∃ z : VS, z = sfl (sfl (sfl (sf (sf σ 9 r1) 10 1) 50 0) 51 1000000000) 52 1000000000 := ⟨_, rfl⟩
  show X44 0 (sfl (sfl (sfl (sf (sf σ 9 r1) 10 1) 50 0) 51 1000000000) 52 1000000000)
  rw [← hz]
  have Mz : CI z := by rw [hz]; exact ((((hM.sf 9 r1 (show 1 ≤ r1.toInt ∧ r1.toInt ≤ 16 by omega)).sf 10 1 (i3_bd _)).sfl 50 0 (i3_bd _)).sfl 51 1000000000 (i3_bd _)).sfl 52 1000000000 (i3_bd _)
  have Ez : Eo [9, 10] [47, 48, 49, 50, 51, 52] σ z := by rw [hz]; exact ((((Eo.rfl.sf 9 r1 (by decide)).sf 10 1 (by decide)).sfl 50 0 (by decide)).sfl 51 1000000000 (by decide)).sfl 52 1000000000 (by decide)
  have z9 : (z.1 9).toInt = ((2 ^ R : Nat) : Int) := by rw [hz]; exact tr
  have z10 : (z.1 10).toInt = 1 := by rw [hz]; rfl
  have z50 : ∀ j, vv z 50 j = 0 := fun j => by rw [hz, sfl_ne (show 50 ≠ 52 by decide), sfl_ne (show 50 ≠ 51 by decide), sfl_at]; rfl
  have z51 : ∀ j, vv z 51 j = 1000000000 := fun j => by rw [hz, sfl_ne (show 51 ≠ 52 by decide), sfl_at]; rfl
  have z52 : ∀ j, vv z 52 j = 1000000000 := fun j => by rw [hz, sfl_at]; rfl
  refine Z44 (nCl σ + 1) 0 0 z (by omega) (by omega) rfl Mz Ez z9 (fun t _ _ => by rw [z50, z51, z52]; exact En.nil (fun x y ⟨s, q, _⟩ => by omega)) (fun t _ _ => ⟨z50 t, z51 t, z52 t⟩) ⟨⟨by omega, fun x ⟨s, t, q, _⟩ => by omega⟩, Or.inl z10⟩
