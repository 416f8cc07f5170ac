/-! THE LEAST PERIOD -/
theorem ng_iff {D U : Nat → Nat → Int} {n R : Nat} {sh : Nat → Nat → Int} {ρ : Nat → Nat} {v p : Int} {w l g : Nat → Int} (hW : Wo D n ρ) (hN : Ng D U n R sh v) (hp : 1 ≤ p) (j : JA D U n R p sh w l g) : (∀ t, t < n → 0 < w t → 0 ≤ l t) ↔ v ≤ p := by
  obtain ⟨V, BB, hO, ⟨h1, hub⟩, hat⟩ := hN
  have E : ∀ t, t < n → tgD D t → EnT (isD D V) (cnD D U R BB) (cmD D V U R p sh BB) n t (w t) (l t) (g t) := fun t ht k => by
    obtain ⟨V', BB', hO', hE⟩ := (j t ht).1 k
    exact Jg.mv hW ht hO' hO hE
  refine ⟨fun h => ?_, fun hv t ht hw => ?_⟩
  · rcases hat with e | ⟨s, t, hs, ht, S, T, hd, e', q, he, hq, hn, hv⟩
    · omega
    · have Et := E t ht T
      have M : mT (isD D V) (cmD D V U R p sh BB) n t (npD U R s t q * p + rmD D U sh s t - laD D V s q e') (eaD D V s q e' + hrD D U sh s t) := ⟨s, hs, S, hd, e', q, he, hq, hn, rfl, rfl⟩
      have c := Et.2.1.mpr ⟨_, _, M⟩
      have c2 := Et.1
      have lb := (Et.2.2.1 _ _ M).1
      have nn := h t ht (by omega)
      rw [← hv]
      exact (ndP_ok hn hp).mp (by omega)
  · have T : tgD D t := Classical.byContradiction (fun z => by
      have q := ((j t ht).2 z).1
      omega)
    have Et := E t ht T
    rcases Et.2.2.2.1.2 with z | ⟨a, b, ⟨s, hs, S, hd, e', q, he, hq, hn, ha, hb⟩, ea⟩
    · omega
    · have le := hub (ndP (npD U R s t q) (rmD D U sh s t - laD D V s q e')) ⟨s, t, hs, ht, S, T, hd, e', q, he, hq, hn, rfl⟩
      have ok := (ndP_ok hn hp).mpr (show ndP (npD U R s t q) (rmD D U sh s t - laD D V s q e') ≤ p by omega)
      omega
theorem rx_holdsAt {Q : Int32 → VS → Prop} {p1 : Int32} {τ : VS} {v : Int} (B : RB τ) (hp : 1 ≤ p1.toInt ∧ p1.toInt ≤ 1000000) (hN : Ng (dM τ) (UM τ) (nC τ) (rM τ) (shF τ) v) (hq : ∀ (r : Int32) (x : VS), RQ τ x → (r.toInt ≠ 0 ↔ v ≤ p1.toInt) → Q r x) : wp_holdsAt Q p1 τ := by
  obtain ⟨M, S, W, Z, I⟩ := B
  obtain ⟨ρ, hW⟩ := SI.wo M S W
  have b20 : 1 ≤ (τ.1 20).toInt ∧ (τ.1 20).toInt ≤ 1000000 := M.1 20
  unfold wp_holdsAt
  intro x1 e1
  have Ez : Eo [20] [] τ (sf τ 20 p1) := Eo.rfl.sf 20 p1 (by decide)
  have Mz : MI (sf τ 20 p1) := M.sf 20 p1 hp
  have Zz : Dz (sf τ 20 p1) := Z.sz Ez (by decide) (fun c _ => rfl)
  refine rx_judgeJ Mz (S.same Ez (by decide)) (W.same Ez (by decide)) Zz.2.1 (fun y My Ey Gy Jy => ?_)
  have dz : dM (sf τ 20 p1) = dM τ := dM_q Ez (by decide) (by decide) rfl
  have nz : nC (sf τ 20 p1) = nC τ := by unfold nC; rw [Ez.1 1 (by decide)]
  have rz : rM (sf τ 20 p1) = rM τ := by unfold rM; rw [Ez.1 25 (by decide)]
  rw [dz, UM_same Ez (by decide), nz, rz, shF_same Ez (by decide), sf_same] at Jy
  have iff := ng_iff hW hN hp.1 Jy
  have Mu : MI (sf y 20 x1) := My.sf 20 x1 (by rw [e1]; exact b20)
  have Eu : Eo [30, 32] [31, 33, 34, 35, 36, 37, 38, 39, 40, 41, 42, 43, 44, 45, 46, 47] τ (sf y 20 x1) := by
    refine ⟨fun k hk => ?_, fun k hk => ?_⟩
    · by_cases e : k = 20
      · rw [e, sf_same]; exact e1
      · rw [sf_other e, Ey.1 k hk, sf_other e]
    · show y.2.1 k = τ.2.1 k
      have h2 : ∀ a, a ∈ [31, 33, 34, 35, 36, 37, 38, 39, 42, 43, 44, 45, 46, 47] → a ∈ [31, 33, 34, 35, 36, 37, 38, 39, 40, 41, 42, 43, 44, 45, 46, 47] := by decide
      rw [Ey.2 k (fun z => hk (h2 k z))]; rfl
  have nu : nC (sf y 20 x1) = nC τ := by unfold nC; rw [Eu.1 1 (by decide)]
  have Ru : RQ τ (sf y 20 x1) := ⟨⟨Mu, S.same Eu (by decide), W.same Eu (by decide), Z.sz Eu (by decide) (fun c _ => by rw [vv_eo Eu (by decide)]), I.same Eu (by decide)⟩, Eu⟩
  refine rx_worstS Mu (fun r4 L4 => ?_)
  rw [nu] at L4
  have L5 : LO (nC τ) (vv y 45) (vv y 46) r4.toInt := L4
  unfold b_holdsAt_40 b_holdsAt_45
  rcases L5 with ⟨a, b⟩ | ⟨c, hc, ec, pc, lc, mc⟩
  · refine ⟨fun _ => ⟨⟨by decide, by decide⟩, hq 1 _ Ru ⟨fun _ => iff.mp (fun t ht q => absurd q (b t ht)), fun _ => by decide⟩⟩, fun z => absurd a z⟩
  · have a1 : 0 ≤ (τ.1 1).toInt ∧ (τ.1 1).toInt ≤ 50 := M.1 1
    have n50 : nC τ ≤ 50 := by unfold nC; omega
    have r46 : (rd (sf y 20 x1) 46 r4).toInt = vv y 46 c := vv_rd ec
    refine ⟨fun z => by omega, fun _ => ⟨⟨by omega, by omega⟩, fun neg => ⟨⟨by decide, by decide⟩, hq 0 _ Ru ⟨fun z => absurd rfl z, fun z => ?_⟩⟩, fun pos => ⟨⟨by decide, by decide⟩, hq 1 _ Ru ⟨fun _ => iff.mp (fun t ht q => ?_), fun _ => by decide⟩⟩⟩⟩
    · have q := iff.mpr z c hc pc
      omega
    · have q2 := lc t ht q
      omega
theorem RQ.trans {a b c : VS} (h : RQ a b) (g : RQ b c) : RQ a c := ⟨g.1, h.2.trans g.2⟩
theorem qu_least {p1 : Int32} {σ τ : VS} (J : Ju σ τ) : wp_X9least (fun r σ' => wp_least (fun r2 τ' => r = r2 ∧ Ju σ' τ') p1 τ) p1 σ := by
  obtain ⟨wd, wu, wn, wr, wl⟩ := J.wd
  have i1 : (1 : Int32).toInt = 1 := rfl
  have im : (1000000 : Int32).toInt = 1000000 := rfl
  unfold wp_X9least b_X9least_38
  refine xwithin_x (fun h => ⟨fun _ => ?_, fun w => absurd w (by decide)⟩) (fun h => ⟨fun w => absurd rfl w, fun _ => ?_⟩)
  · refine cx_raceQ J (fun x Cx _ nx _ => ?_)
    rw [wd, wu, wn, wr] at nx
    have v1 : 1 ≤ (x.1 10).toInt := by
      obtain ⟨_, _, _, ⟨q, _⟩, _⟩ := nx
      exact q
    have ng : ∀ y : VS, RQ τ y → Ng (dM y) (UM y) (nC y) (rM y) (shF y) (x.1 10).toInt := fun y Ry => by
      have dy : dM y = dM τ := dM_q Ry.2 (by decide) (by decide) (vv_eo Ry.2 (by decide))
      have ny : nC y = nC τ := by unfold nC; rw [Ry.2.1 1 (by decide)]
      have ry : rM y = rM τ := by unfold rM; rw [Ry.2.1 25 (by decide)]
      rw [dy, ny, ry, UM_same Ry.2 (by decide), shF_same Ry.2 (by decide)]
      exact nx
    have go : ∀ r : Int32, (p1.toInt < (x.1 10).toInt → r = 0) → ((x.1 10).toInt ≤ p1.toInt → r = x.1 10) → wp_least (fun r2 τ' => r = r2 ∧ Ju x τ') p1 τ := fun r hr0 hr1 => by
      unfold wp_least b_least_11
      intro X27 H
      have Z : ∀ (d : Nat) (l2 l3 : Int32) (y : VS), l3.toInt - l2.toInt < (d : Int) → 0 ≤ l2.toInt → l2.toInt < (x.1 10).toInt → (x.1 10).toInt ≤ l3.toInt → l3.toInt ≤ p1.toInt → RQ τ y → X27 l2 l3 y := by
        intro d
        induction d with
        | zero => intro l2 l3 y a b c e; omega
        | succ d ih =>
          intro l2 l3 y a b c e f Ry
          refine H l2 l3 y ?_
          unfold b_least_27 b_least_59
          have u1 : (l3 - l2).toInt = l3.toInt - l2.toInt := i3_subc rfl rfl rfl (by omega)
          rw [u1]
          refine ⟨fun z => ⟨?_, J.qq Cx Ry⟩, fun z x3 e3 => ?_⟩
          · rw [hr1 (by omega)]
            exact Int32.toInt_inj.mp (by omega)
          · have u2 : (l3 + l2).toInt = l3.toInt + l2.toInt := i3_addc rfl rfl rfl (by omega)
            have u3 : x3.toInt = (l3.toInt + l2.toInt) / 2 := i3_divc u2 (show (2 : Int32).toInt = 2 from rfl) e3 (by omega) (by decide)
            refine rx_holdsAt Ry.1 (by omega) (ng y Ry) (fun r4 y2 R2 q => ⟨fun z2 => ?_, fun z2 => ?_⟩)
            · have nle : ¬ (x.1 10).toInt ≤ x3.toInt := fun w => (q.mpr w) z2
              exact ih x3 l3 y2 (by omega) (by omega) (by omega) e f (Ry.trans R2)
            · have le := q.mp z2
              exact ih l2 x3 y2 (by omega) b c le (by omega) (Ry.trans R2)
      refine ⟨fun z => by omega, fun _ => ⟨fun _ => ?_, fun z => by omega⟩⟩
      refine rx_holdsAt J.rb (by omega) nx (fun r1 y Ry q => ⟨fun z => ?_, fun z => ⟨hr0 ?_, J.qq Cx Ry⟩⟩)
      · have le := q.mp z
        have i0 : (0 : Int32).toInt = 0 := rfl
        exact Z 1000001 0 p1 y (by omega) (by omega) (by omega) le (Int.le_refl _) Ry
      · refine Int.not_le.mp (fun w => (q.mpr w) z)
    exact ⟨fun z => go 0 (fun _ => rfl) (fun w => by omega), fun z => go _ (fun w => by omega) (fun _ => rfl)⟩
  · unfold wp_least b_least_11
    intro X27 H
    exact ⟨fun _ => ⟨rfl, J⟩, fun p => ⟨fun q => absurd ⟨by omega, by omega⟩ h, fun _ => ⟨rfl, J⟩⟩⟩
/-! STEP, AREA, SIZE -/
theorem qu_step {p1 p2 : Int32} {σ τ : VS} (J : Ju σ τ) : wp_X9step (fun r σ' => wp_step (fun r2 τ' => r = r2 ∧ Ju σ' τ') p1 p2 τ) p1 p2 σ := by
  obtain ⟨s1, s2, s3⟩ := J.2.2.2.2.2.2
  have b16 : 0 ≤ (σ.1 16).toInt ∧ (σ.1 16).toInt ≤ 51 := J.cbt.ci.1 16
  have i0 : (0 : Int32).toInt = 0 := rfl
  have ref : ∀ r : Int32, ((0 < (σ.1 16).toInt → p2.toInt = 4 → r = σ.1 17) ∧ (0 < (σ.1 16).toInt → p2.toInt = 5 → r = σ.1 18) ∧ (¬ (0 < (σ.1 16).toInt ∧ (p2.toInt = 4 ∨ p2.toInt = 5)) → ¬ ((0 ≤ p1.toInt ∧ p1.toInt < (σ.1 16).toInt) ∧ 0 ≤ p2.toInt ∧ p2.toInt ≤ 3) → r = 1000000000) ∧ (0 ≤ p1.toInt → p1.toInt < (σ.1 16).toInt → (p2.toInt = 0 → r = rd σ 55 p1) ∧ (p2.toInt = 1 → r = rd σ 56 p1) ∧ (p2.toInt = 2 → r = rd σ 57 p1) ∧ (p2.toInt = 3 → r = rd σ 58 p1))) → wp_step (fun r2 τ' => r = r2 ∧ Ju σ τ') p1 p2 τ := fun r ⟨h4, h5, hn, hy⟩ => by
    unfold wp_step b_step_17 b_step_34 b_step_55 b_step_106
    rw [← s1]
    have at' : 0 ≤ p1.toInt → p1.toInt < (σ.1 16).toInt → rd σ 55 p1 = rd τ 63 p1 ∧ rd σ 56 p1 = rd τ 64 p1 ∧ rd σ 57 p1 = rd τ 65 p1 ∧ rd σ 58 p1 = rd τ 66 p1 := fun a b => by
      obtain ⟨c, ec⟩ : ∃ c : Nat, p1.toInt = (c : Int) := ⟨p1.toInt.toNat, by omega⟩
      have q := s3 c (by omega)
      rw [rd_at σ 55 p1 ec, rd_at σ 56 p1 ec, rd_at σ 57 p1 ec, rd_at σ 58 p1 ec, rd_at τ 63 p1 ec, rd_at τ 64 p1 ec, rd_at τ 65 p1 ec, rd_at τ 66 p1 ec]
      exact q
    have body : ¬ (0 < (σ.1 16).toInt ∧ (p2.toInt = 4 ∨ p2.toInt = 5)) → ((p1.toInt < 0 → r = 1000000000 ∧ Ju σ τ) ∧ (0 ≤ p1.toInt → (((σ.1 16).toInt ≤ p1.toInt → r = 1000000000 ∧ Ju σ τ) ∧ (p1.toInt < (σ.1 16).toInt → ((p2.toInt < 0 → r = 1000000000 ∧ Ju σ τ) ∧ (0 ≤ p2.toInt → ((p2.toInt ≤ 3 → ((p2.toInt ≠ 0 → ((p2.toInt ≠ 1 → ((p2.toInt ≠ 2 → (In p1 52 ∧ (r = rd τ 66 p1 ∧ Ju σ τ))) ∧ (p2.toInt = 2 → (In p1 52 ∧ (r = rd τ 65 p1 ∧ Ju σ τ))))) ∧ (p2.toInt = 1 → (In p1 52 ∧ (r = rd τ 64 p1 ∧ Ju σ τ))))) ∧ (p2.toInt = 0 → (In p1 52 ∧ (r = rd τ 63 p1 ∧ Ju σ τ))))) ∧ (3 < p2.toInt → r = 1000000000 ∧ Ju σ τ)))))))) := fun nb => by
      refine ⟨fun z => ⟨hn nb (fun q => by omega), J⟩, fun a => ⟨fun z => ⟨hn nb (fun q => by omega), J⟩, fun b => ⟨fun z => ⟨hn nb (fun q => by omega), J⟩, fun c => ⟨fun d => ?_, fun z => ⟨hn nb (fun q => by omega), J⟩⟩⟩⟩⟩
      obtain ⟨e0, e1, e2, e3⟩ := hy a b
      obtain ⟨f0, f1, f2, f3⟩ := at' a b
      refine ⟨fun n0 => ⟨fun n1 => ⟨fun n2 => ⟨⟨by omega, by omega⟩, by rw [← f3]; exact e3 (by omega), J⟩, fun n2 => ⟨⟨by omega, by omega⟩, by rw [← f2]; exact e2 n2, J⟩⟩, fun n1 => ⟨⟨by omega, by omega⟩, by rw [← f1]; exact e1 n1, J⟩⟩, fun n0 => ⟨⟨by omega, by omega⟩, by rw [← f0]; exact e0 n0, J⟩⟩
    refine ⟨fun z => ⟨fun _ => body (fun q => by omega), fun w => by omega⟩, fun z => ⟨fun n4 => ⟨fun w => by omega, fun _ => ⟨fun n5 => body (fun q => by omega), fun y5 => ⟨by rw [h5 z y5]; exact (s2 (by omega)).2, J⟩⟩⟩, fun y4 => ⟨by rw [h4 z y4]; exact (s2 (by omega)).1, J⟩⟩⟩
  unfold wp_X9step
  refine ⟨fun nz => ⟨fun n4 => ⟨fun n5 => ?_, fun y5 => ref _ ⟨fun _ w => by omega, fun _ _ => rfl, fun w => absurd ⟨by omega, Or.inr y5⟩ w, fun _ _ => ⟨fun w => by omega, fun w => by omega, fun w => by omega, fun w => by omega⟩⟩⟩, fun y4 => ref _ ⟨fun _ _ => rfl, fun _ w => by omega, fun w => absurd ⟨by omega, Or.inl y4⟩ w, fun _ _ => ⟨fun w => by omega, fun w => by omega, fun w => by omega, fun w => by omega⟩⟩⟩, fun z => ref _ ⟨fun w => by omega, fun w => by omega, fun _ _ => rfl, fun a b => by omega⟩⟩
  have u1 : ((σ.1 16) - 1).toInt = (σ.1 16).toInt - 1 := i3_subc rfl (show (1 : Int32).toInt = 1 from rfl) rfl (by omega)
  refine xwithin_x (fun h => ⟨fun _ => ?_, fun w => absurd w (by decide)⟩) (fun h => ⟨fun w => absurd rfl w, fun _ => ?_⟩)
  · rw [u1, i0] at h
    refine ⟨fun e => ⟨⟨by omega, by omega⟩, ?_⟩, fun e => ⟨⟨by omega, by omega⟩, ?_⟩, fun e => ⟨⟨by omega, by omega⟩, ?_⟩, fun e => ⟨⟨by omega, by omega⟩, ?_⟩, fun e => ?_⟩
    · exact ref _ ⟨fun _ w => by omega, fun _ w => by omega, fun _ w => absurd ⟨⟨by omega, by omega⟩, by omega, by omega⟩ w, fun _ _ => ⟨fun _ => rfl, fun w => by omega, fun w => by omega, fun w => by omega⟩⟩
    · exact ref _ ⟨fun _ w => by omega, fun _ w => by omega, fun _ w => absurd ⟨⟨by omega, by omega⟩, by omega, by omega⟩ w, fun _ _ => ⟨fun w => by omega, fun _ => rfl, fun w => by omega, fun w => by omega⟩⟩
    · exact ref _ ⟨fun _ w => by omega, fun _ w => by omega, fun _ w => absurd ⟨⟨by omega, by omega⟩, by omega, by omega⟩ w, fun _ _ => ⟨fun w => by omega, fun w => by omega, fun _ => rfl, fun w => by omega⟩⟩
    · exact ref _ ⟨fun _ w => by omega, fun _ w => by omega, fun _ w => absurd ⟨⟨by omega, by omega⟩, by omega, by omega⟩ w, fun _ _ => ⟨fun w => by omega, fun w => by omega, fun w => by omega, fun _ => rfl⟩⟩
    · exact ref _ ⟨fun _ w => by omega, fun _ w => by omega, fun _ _ => rfl, fun _ _ => ⟨fun w => by omega, fun w => by omega, fun w => by omega, fun w => by omega⟩⟩
  · rw [u1, i0] at h
    exact ref _ ⟨fun _ w => by omega, fun _ w => by omega, fun _ _ => rfl, fun a b => absurd ⟨by omega, by omega⟩ h⟩
def arF (D : Nat → Nat → Int) : Nat → Int
  | 0 => 0
  | c + 1 => arF D c + (if D 0 c = 0 ∨ D 0 c = 5 then 0 else (1 + D 4 c) * D 1 c)
theorem arF_b {D : Nat → Nat → Int} : ∀ k : Nat, (∀ c, c < k → (0 ≤ D 4 c ∧ D 4 c ≤ 2) ∧ (0 ≤ D 1 c ∧ D 1 c ≤ 4)) → 0 ≤ arF D k ∧ arF D k ≤ 12 * (k : Int)
  | 0, _ => by
    show (0 : Int) ≤ 0 ∧ (0 : Int) ≤ 12 * ((0 : Nat) : Int)
    omega
  | k + 1, h => by
    have ih := arF_b (D := D) k (fun c hc => h c (by omega))
    obtain ⟨a, b⟩ := h k (by omega)
    have m := mu_bd (a := 1 + D 4 k) (b := D 1 k) (A := 3) (B := 4) ⟨by omega, by omega⟩ b
    show 0 ≤ arF D k + (if D 0 k = 0 ∨ D 0 k = 5 then 0 else (1 + D 4 k) * D 1 k) ∧ arF D k + (if D 0 k = 0 ∨ D 0 k = 5 then 0 else (1 + D 4 k) * D 1 k) ≤ 12 * ((k + 1 : Nat) : Int)
    by_cases z : D 0 k = 0 ∨ D 0 k = 5
    · rw [if_pos z]; omega
    · rw [if_neg z]; omega
theorem cx_area {Q : Int32 → VS → Prop} {σ : VS} (hM : CI σ) (hq : ∀ r : Int32, r.toInt = arF (dC σ) (nCl σ) → Q r σ) : wp_X9area Q σ := by
  have a2 : 0 ≤ (σ.1 2).toInt ∧ (σ.1 2).toInt ≤ 50 := hM.1 2
  have en : (σ.1 2).toInt = ((nCl σ : Nat) : Int) := by unfold nCl; omega
  have bd : ∀ k, k ≤ nCl σ → 0 ≤ arF (dC σ) k ∧ arF (dC σ) k ≤ 12 * (k : Int) := fun k hk => arF_b k (fun c hc => by rw [dC_4 (by omega), dC_1 (by omega)]; exact ⟨hM.2 14 c, hM.2 12 c⟩)
  unfold wp_X9area
  intro X4 H
  have Z : ∀ (d k : Nat) (l1 l2 : Int32), nCl σ + 1 ≤ d + k → k ≤ nCl σ → l2.toInt = (k : Int) → l1.toInt = arF (dC σ) k → X4 l1 l2 σ := by
    intro d
    induction d with
    | zero => intro k l1 l2 a b; omega
    | succ d ih =>
      intro k l1 l2 a b e2 e1
      refine H l1 l2 σ ?_
      unfold b_X9area_4 b_X9area_50
      rw [en]
      refine ⟨fun z => hq l1 ?_, fun z => ?_⟩
      · have ek : k = nCl σ := by omega
        rw [← ek]; exact e1
      · have kn : k < nCl σ := by omega
        have t2 : (l2 + 1).toInt = ((k + 1 : Nat) : Int) := by
          have w := i3_addc (x := l2 + 1) e2 (show (1 : Int32).toInt = 1 from rfl) rfl (by omega)
          omega
        have d0 : dC σ 0 k = vv σ 11 k := dC_0 kn
        have d1 : dC σ 1 k = vv σ 12 k := dC_1 kn
        have d4 : dC σ 4 k = vv σ 14 k := dC_4 kn
        have bk := bd k (by omega)
        have b14 : 0 ≤ vv σ 14 k ∧ vv σ 14 k ≤ 2 := hM.2 14 k
        have b12 : 0 ≤ vv σ 12 k ∧ vv σ 12 k ≤ 4 := hM.2 12 k
        refine cx_hasSize e2 (by omega) (fun n0 n5 => ⟨fun w => absurd w (by decide), fun _ => ⟨⟨by omega, by omega⟩, ⟨by omega, by omega⟩, fun x3 e3 => ?_⟩⟩) (fun k2 => ⟨fun _ => ih (k + 1) l1 (l2 + 1) (by omega) (by omega) t2 ?_, fun w => absurd rfl w⟩)
        · have m := mu_bd (a := 1 + vv σ 14 k) (b := vv σ 12 k) (A := 3) (B := 4) ⟨by omega, by omega⟩ b12
          have u1 : (1 + rd σ 14 l2).toInt = 1 + vv σ 14 k := i3_addc (show (1 : Int32).toInt = 1 from rfl) (vv_rd e2) rfl (by omega)
          have u2 : ((1 + rd σ 14 l2) * rd σ 12 l2).toInt = (1 + vv σ 14 k) * vv σ 12 k := i3_mulc u1 (vv_rd e2) rfl (by omega)
          have u3 := i3_addc (x := x3) e1 u2 e3 (by omega)
          refine ih (k + 1) x3 (l2 + 1) (by omega) (by omega) t2 ?_
          rw [u3]
          show _ = arF (dC σ) k + (if dC σ 0 k = 0 ∨ dC σ 0 k = 5 then 0 else (1 + dC σ 4 k) * dC σ 1 k)
          rw [if_neg (by rw [d0]; omega), d1, d4]
        · rw [e1]
          show _ = arF (dC σ) k + (if dC σ 0 k = 0 ∨ dC σ 0 k = 5 then 0 else (1 + dC σ 4 k) * dC σ 1 k)
          rw [if_pos (by rw [d0]; exact k2)]
          omega
  exact Z (nCl σ + 1) 0 0 0 (by omega) (by omega) rfl rfl
theorem rx_area {Q : Int32 → VS → Prop} {σ : VS} (hM : MI σ) (hq : ∀ r : Int32, r.toInt = arF (dM σ) (nC σ) → Q r σ) : wp_area Q σ := by
  have a1 : 0 ≤ (σ.1 1).toInt ∧ (σ.1 1).toInt ≤ 50 := hM.1 1
  have en : (σ.1 1).toInt = ((nC σ : Nat) : Int) := by unfold nC; omega
  have bd : ∀ k, k ≤ nC σ → 0 ≤ arF (dM σ) k ∧ arF (dM σ) k ≤ 12 * (k : Int) := fun k hk => arF_b k (fun c hc => by rw [dM_4 (by omega), dM_1 (by omega)]; exact ⟨hM.2 5 c, hM.2 3 c⟩)
  unfold wp_area
  intro X4 H
  have Z : ∀ (d k : Nat) (l1 l2 : Int32), nC σ + 1 ≤ d + k → k ≤ nC σ → l2.toInt = (k : Int) → l1.toInt = arF (dM σ) k → X4 l1 l2 σ := by
    intro d
    induction d with
    | zero => intro k l1 l2 a b; omega
    | succ d ih =>
      intro k l1 l2 a b e2 e1
      refine H l1 l2 σ ?_
      unfold b_area_4 b_area_49
      rw [en]
      refine ⟨fun z => hq l1 ?_, fun z => ?_⟩
      · have ek : k = nC σ := by omega
        rw [← ek]; exact e1
      · have kn : k < nC σ := by omega
        have t2 : (l2 + 1).toInt = ((k + 1 : Nat) : Int) := by
          have w := i3_addc (x := l2 + 1) e2 (show (1 : Int32).toInt = 1 from rfl) rfl (by omega)
          omega
        have d0 : dM σ 0 k = vv σ 2 k := dM_0 kn
        have d1 : dM σ 1 k = vv σ 3 k := dM_1 kn
        have d4 : dM σ 4 k = vv σ 5 k := dM_4 kn
        have bk := bd k (by omega)
        have b5 : 0 ≤ vv σ 5 k ∧ vv σ 5 k ≤ 2 := hM.2 5 k
        have b3 : 0 ≤ vv σ 3 k ∧ vv σ 3 k ≤ 4 := hM.2 3 k
        have b2 : 0 ≤ vv σ 2 k ∧ vv σ 2 k ≤ 5 := hM.2 2 k
        have r2 : (rd σ 2 l2).toInt = vv σ 2 k := vv_rd e2
        have skip : (vv σ 2 k = 0 ∨ vv σ 2 k = 5) → X4 l1 (l2 + 1) σ := fun k2 => by
          refine ih (k + 1) l1 (l2 + 1) (by omega) (by omega) t2 ?_
          rw [e1]
          show _ = arF (dM σ) k + (if dM σ 0 k = 0 ∨ dM σ 0 k = 5 then 0 else (1 + dM σ 4 k) * dM σ 1 k)
          rw [if_pos (by rw [d0]; exact k2)]
          omega
        rw [r2]
        refine ⟨⟨by omega, by omega⟩, fun w => skip (by omega), fun w => ⟨⟨by omega, by omega⟩, fun y => skip (by omega), fun y => ⟨⟨by omega, by omega⟩, ⟨by omega, by omega⟩, fun x3 e3 => ?_⟩⟩⟩
        have m := mu_bd (a := 1 + vv σ 5 k) (b := vv σ 3 k) (A := 3) (B := 4) ⟨by omega, by omega⟩ b3
        have u1 : (1 + rd σ 5 l2).toInt = 1 + vv σ 5 k := i3_addc (show (1 : Int32).toInt = 1 from rfl) (vv_rd e2) rfl (by omega)
        have u2 : ((1 + rd σ 5 l2) * rd σ 3 l2).toInt = (1 + vv σ 5 k) * vv σ 3 k := i3_mulc u1 (vv_rd e2) rfl (by omega)
        have u3 := i3_addc (x := x3) e1 u2 e3 (by omega)
        refine ih (k + 1) x3 (l2 + 1) (by omega) (by omega) t2 ?_
        rw [u3]
        show _ = arF (dM σ) k + (if dM σ 0 k = 0 ∨ dM σ 0 k = 5 then 0 else (1 + dM σ 4 k) * dM σ 1 k)
        rw [if_neg (by rw [d0]; omega), d1, d4]
  exact Z (nC σ + 1) 0 0 0 (by omega) (by omega) rfl rfl
theorem qu_area {σ τ : VS} (J : Ju σ τ) : wp_X9area (fun r σ' => wp_area (fun r2 τ' => r = r2 ∧ Ju σ' τ') τ) σ := by
  obtain ⟨wd, wu, wn, wr, wl⟩ := J.wd
  refine cx_area J.cbt.ci (fun r hr => rx_area J.rb.1 (fun r2 hr2 => ⟨?_, J⟩))
  rw [← wd, ← wn] at hr2
  exact Int32.toInt_inj.mp (by rw [hr, hr2])
