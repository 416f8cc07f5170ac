theorem ffF_z {act : Nat → Prop} {fl : Nat → Int} : ∀ (m : Nat), ffF act fl m = 0 → ∀ i, i < m → act i → fl i = 0
  | 0, _ => fun i hi => by omega
  | m + 1, h => fun i hi a => by
    by_cases am : act m
    · rw [ffF_y am] at h
      have q := stp_i h
      by_cases e : i = m
      · rw [e]; exact q.2
      · exact ffF_z m q.1 i (by omega) a
    · rw [ffF_n am] at h
      have ne : i ≠ m := fun e => am (e ▸ a)
      exact ffF_z m h i (by omega) a
theorem arc_b {σ : VS} {c e i : Nat} (hM : CI σ) (hc : c < nCl σ) (l4 : 0 ≤ lsN (dC σ) (vC σ) 4 c e i) (l5 : 0 ≤ lsN (dC σ) (vC σ) 5 c e i) (z : flN (dC σ) (vC σ) c e i = 0) : (0 ≤ dlN (dC σ) (vC σ) c e i ∧ dlN (dC σ) (vC σ) c e i ≤ 6000) ∧ (0 ≤ deN (dC σ) (vC σ) c e i ∧ deN (dC σ) (vC σ) c e i ≤ 6000) ∧ (0 ≤ glN (dC σ) (vC σ) c e i ∧ glN (dC σ) (vC σ) c e i ≤ 3000) ∧ (0 ≤ geN (dC σ) (vC σ) c e i ∧ geN (dC σ) (vC σ) c e i ≤ 3000) := by
  have hn : ∀ j, 0 ≤ nmN (dC σ) j ∧ nmN (dC σ) j ≤ 3000 := fun j => hM.2 36 _
  have k3 : 0 ≤ dC σ 3 c := by
    rw [dC_3 hc]
    exact (ldF_b (hM.2 15 c) (fun j => hM.2 14 j) _).1
  have k4 : 0 ≤ dC σ 4 c := by rw [dC_4 hc]; exact (hM.2 14 c).1
  have pL : 0 ≤ LN (dC σ) c := Int.ediv_nonneg (by omega) (by omega)
  have pE : 0 ≤ EN (dC σ) c := Int.ediv_nonneg (by omega) (by omega)
  have A := AW_0 (show AW (lfN (dC σ)) (dC σ 2 c) (LN (dC σ) c) (EN (dC σ) c) (lsN (dC σ) (vC σ) 4 c e i) (lsN (dC σ) (vC σ) 5 c e i) = 0 from z)
  have kl : 0 ≤ dC σ 9 0 ∧ dC σ 9 0 ≤ 500 := hM.1 7
  have ke : 0 ≤ dC σ 9 1 ∧ dC σ 9 1 ≤ 500 := hM.1 8
  have km : 0 ≤ moN (dC σ) c e ∧ moN (dC σ) c e ≤ 1000 := by
    unfold moN
    by_cases q : e = 1
    · rw [if_pos q]; exact hM.2 38 _
    · rw [if_neg q]; omega
  exact ⟨dlA_b (LU_b hn pL l4 A.1) kl km, deA_b (LU_b hn pE l5 A.2.2.1) ke km, LU_b hn pL l4 A.2.1, LU_b hn pE l5 A.2.2.2⟩
set_option maxHeartbeats 1000000 in
theorem cx_gateIn {σ : VS} {c m : Nat} {b : Int} {p1 x1 r2 : Int32} {Q : VS → Prop} {X21 : Int32 → Int32 → Int32 → Int32 → VS → Prop} {X64 : Int32 → Int32 → Int32 → Int32 → Int32 → Int32 → VS → Prop} (H64 : ∀ (l1 : Int32) (l2 : Int32) (l3 : Int32) (l4 : Int32) (l5 : Int32) (l6 : Int32) (σ : VS), b_X6timeGate_64 X21 X64 Q l1 l2 l3 l4 l5 l6 σ → X64 l1 l2 l3 l4 l5 l6 σ) (h1 : p1.toInt = (c : Int)) (hc : c < nCl σ) (hM : CI σ) (hg : gtC σ c) (hm : vv σ 12 c = (m : Int)) (hself : ∀ i, i < m → vv σ 16 (4 * c + i) ≠ (c : Int)) (hb0 : 0 ≤ b ∧ b ≤ 3000000) (t4 : x1.toInt = 4 * (c : Int)) (er : r2.toInt = dC σ 3 c) (br : 0 ≤ r2.toInt ∧ r2.toInt ≤ 1600)
    (hB : ∀ i, i < m → aC σ c i → ¬ oC σ c i → OB (vC σ) (vv σ 16 (4 * c + i)).toNat b) {e : Nat} {l4 l5 : Int32} {R P : Int} (he : e < 2) (e4 : l4.toInt = (e : Int)) (e5 : l5.toInt = ((feN (dC σ) c e : Nat) : Int)) (hP : P = 0 → ∀ i, i < m → ¬ oC σ c i) (K : ∀ τ, OIv σ c m (e + 1) R (stp P (ffF (acN (dC σ) (vC σ) c) (flN (dC σ) (vC σ) c e) m)) τ → X21 p1 x1 r2 (l4 + 1) τ) : ∀ (d i : Nat) (l6 : Int32) (τ : VS), m + 1 ≤ d + i → i ≤ m → l6.toInt = 4 * (c : Int) + (i : Int) → GIv σ c m e i R P τ → X64 p1 x1 r2 l4 l5 l6 τ := by
  have hn50 : nCl σ ≤ 50 := by
    have a : 0 ≤ (σ.1 2).toInt ∧ (σ.1 2).toInt ≤ 50 := hM.1 2
    unfold nCl; omega
  have m4 : 0 ≤ vv σ 12 c ∧ vv σ 12 c ≤ 4 := hM.2 12 c
  have ff := feN_lt (dC σ) c he
  intro d
  induction d with
  | zero => intro i l6 τ a b'; omega
  | succ d ih =>
    intro i l6 τ a b' e6 G
    have G0 := G
    obtain ⟨hT1, hE2, hF, hR, ho, hz⟩ := G0
    refine H64 p1 x1 r2 l4 l5 l6 τ ?_
    unfold b_X6timeGate_64 b_X6timeGate_181 b_X6timeGate_175
    have r12 : (rd τ 12 p1).toInt = (m : Int) := by rw [vv_rd h1, vv_eo hE2 (by decide), hm]
    have t2 : (x1 + rd τ 12 p1).toInt = 4 * (c : Int) + (m : Int) := i3_addc t4 r12 rfl (by omega)
    have r40 : (rd τ 40 p1).toInt = vv τ 40 c := vv_rd h1
    refine ⟨⟨by omega, by omega⟩, fun z => ?_, fun z => ⟨⟨by omega, by omega⟩, fun w => K τ (G.stop b' (by rw [← r40]; exact w)), fun w => ?_⟩⟩
    · have ei : i = m := by omega
      rw [ei] at G
      exact K τ G.done
    · rw [r40] at w
      have e16 : vv τ 16 = vv σ 16 := vv_eo hE2 (by decide)
      have r16 : vv σ 16 (4 * c + i) ≤ 49 := (hM.2 16 (4 * c + i)).2
      have hi : i < m := by omega
      have ns0 : 0 ≤ vv σ 16 (4 * c + i) → (vv σ 16 (4 * c + i)).toNat ≠ c := fun q e0 => hself i hi (by omega)
      have t7 : (l6 + 1).toInt = 4 * (c : Int) + ((i + 1 : Nat) : Int) := by
        have q := i3_addc (x := l6 + 1) e6 (show (1 : Int32).toInt = 1 from rfl) rfl (by omega)
        omega
      refine cx_inR (w := 4 * c + i) (by omega) (by omega) hT1 (fun q1 q2 => ?_) (fun q => ?_)
      · rw [e16] at q1 q2
        rw [(hF.1 _ (ns0 q1)).1] at q2
        have y0 : aC σ c i := ⟨q1, q2⟩
        have y := (ac_is hM hc hm hg hi).mpr y0
        have P0 : P = 0 := by rw [ho] at w; exact (stp_i w).1
        have no := hP P0 i hi
        have B0 := hB i hi y0 no (feN (dC σ) c e) ff
        have ns := ns0 q1
        obtain ⟨s, hs⟩ : ∃ s, s = (vv σ 16 (4 * c + i)).toNat := ⟨_, rfl⟩
        rw [← hs] at B0 ns
        have B1 : 0 ≤ vv σ 43 (2 * s + feN (dC σ) c e) ∧ 0 ≤ vv σ 44 (2 * s + feN (dC σ) c e) ∧ (0 ≤ vv σ 45 (2 * s + feN (dC σ) c e) ∧ vv σ 45 (2 * s + feN (dC σ) c e) ≤ b) ∧ 0 ≤ vv σ 46 (2 * s + feN (dC σ) c e) ∧ vv σ 46 (2 * s + feN (dC σ) c e) ≤ b := B0
        have ls4 : lsN (dC σ) (vC σ) 4 c e i = vv σ 43 (2 * s + feN (dC σ) c e) := by rw [hs]; exact (ls_is hM hc hm hg hi y0 4 e).1
        have ls5 : lsN (dC σ) (vC σ) 5 c e i = vv σ 44 (2 * s + feN (dC σ) c e) := by rw [hs]; exact (ls_is hM hc hm hg hi y0 5 e).1
        have al6 : alN (dC σ) (vC σ) 6 c e i = vv σ 45 (2 * s + feN (dC σ) c e) := by rw [hs]; exact (ls_is hM hc hm hg hi y0 6 e).2
        have al7 : alN (dC σ) (vC σ) 7 c e i = vv σ 46 (2 * s + feN (dC σ) c e) := by rw [hs]; exact (ls_is hM hc hm hg hi y0 7 e).2
        have hl4 : 0 ≤ lsN (dC σ) (vC σ) 4 c e i := by rw [ls4]; exact B1.1
        have hl5 : 0 ≤ lsN (dC σ) (vC σ) 5 c e i := by rw [ls5]; exact B1.2.1
        have sb : (s : Int) ≤ 49 ∧ (s : Int) = vv σ 16 (4 * c + i) := by omega
        refine ⟨fun z0 => absurd z0 (by decide), fun _ => ⟨⟨by omega, by omega⟩, fun x10 e10 => ?_⟩⟩
        have rs : (rd τ 16 l6).toInt = (s : Int) := by rw [vv_rd (n := 4 * c + i) (by omega), e16]; exact sb.2.symm
        have t10 : x10.toInt = ((2 * s + feN (dC σ) c e : Nat) : Int) := by
          have u1 : (rd τ 16 l6 * 2).toInt = (s : Int) * 2 := i3_mulc rs rfl rfl (by omega)
          have u2 := i3_addc (x := x10) u1 e5 e10 (by omega)
          omega
        refine ⟨⟨by omega, by omega⟩, ⟨by omega, by omega⟩, ?_⟩
        have v43 : (rd τ 43 x10).toInt = lsN (dC σ) (vC σ) 4 c e i := by rw [vv_rd t10, hF.2.2 43 _ (Or.inl rfl) (by omega), ls4]
        have v44 : (rd τ 44 x10).toInt = lsN (dC σ) (vC σ) 5 c e i := by rw [vv_rd t10, hF.2.2 44 _ (Or.inr (Or.inl rfl)) (by omega), ls5]
        have elf : lfC τ = lfN (dC σ) := by funext j; unfold lfC; rw [hE2.2 37 (by decide)]; rfl
        have enm : nmC τ = nmN (dC σ) := by funext j; unfold nmC; rw [hE2.2 36 (by decide)]; rfl
        have et : vv τ 13 c = dC σ 2 c := by rw [vv_eo hE2 (by decide), dC_2 hc]
        have ez : 1 + vv τ 14 c = 1 + dC σ 4 c := by rw [vv_eo hE2 (by decide), dC_4 hc]
        have eL : (r2.toInt + (1 + dC σ 4 c) - 1) / (1 + dC σ 4 c) = LN (dC σ) c := by rw [er]; rfl
        have eE : r2.toInt / (1 + dC σ 4 c) = EN (dC σ) c := by rw [er]; rfl
        have em : (if e = 1 then vv τ 38 (dC σ 2 c).toNat else 0) = moN (dC σ) c e := by rw [vv_eo hE2 (by decide)]; rfl
        have el7 : (τ.1 7).toInt = dC σ 9 0 := by rw [hE2.1 7 (by decide)]; rfl
        have el8 : (τ.1 8).toInt = dC σ 9 1 := by rw [hE2.1 8 (by decide)]; rfl
        have eA : AW (lfC τ) (dC σ 2 c) (LN (dC σ) c) (EN (dC σ) c) (rd τ 43 x10).toInt (rd τ 44 x10).toInt = flN (dC σ) (vC σ) c e i := by rw [elf, v43, v44]; rfl
        refine cx_timeArc (c := c) (i := i) (e := e) e6 (by omega) (by omega) e4 he ⟨by omega, by omega⟩ (by rw [v43]; exact hl4) (by rw [v44]; exact hl5) hT1 et ez eL eE em (fun r nz hr => ?_) (fun nz τa ha hEa f1 f2 f3 f4 => ?_)
        · rw [eA] at nz hr
          refine ⟨⟨by omega, by omega⟩, ⟨by omega, by omega⟩, fun _ => ih (i + 1) (l6 + 1) _ (by omega) (by omega) t7 (G.bad h1 w y nz hr), fun z0 => ?_⟩
          rw [rd_sa, hr] at z0
          exact absurd z0 nz
        · rw [eA] at nz
          have g1 : vv τa 41 = fu (vv τ 41) (8 * c + 2 * i + e) (dlN (dC σ) (vC σ) c e i) := by rw [f1, enm, elf, v43, el7]; rfl
          have g2 : vv τa 42 = fu (vv τ 42) (8 * c + 2 * i + e) (deN (dC σ) (vC σ) c e i) := by rw [f2, enm, elf, v44, el8]; rfl
          have g3 : vv τa 43 = fu (vv τ 43) (2 * c + e) (max (vv τ 43 (2 * c + e)) (glN (dC σ) (vC σ) c e i)) := by rw [f3, enm, elf, v43]; rfl
          have g4 : vv τa 44 = fu (vv τ 44) (2 * c + e) (min (vv τ 44 (2 * c + e)) (geN (dC σ) (vC σ) c e i)) := by rw [f4, enm, elf, v44]; rfl
          clear f1 f2 f3 f4
          have ab := arc_b hM hc hl4 hl5 nz
          have Fa : Fr c τ τa := Fr.arc (by omega) he hEa g1 g2 g3 g4
          refine ⟨⟨by omega, by omega⟩, ⟨by omega, by omega⟩, fun z0 => absurd (by rw [rd_sa]; rfl) z0, fun _ => ⟨⟨by omega, by omega⟩, ⟨by omega, by omega⟩, ?_⟩⟩
          have v45 : (rd (sa τa 40 p1 0) 45 x10).toInt = alN (dC σ) (vC σ) 6 c e i := by
            rw [vv_rd t10, vv_so (show 45 ≠ 40 by decide), Fa.2.2 45 _ (Or.inr (Or.inr (Or.inl rfl))) (by omega), hF.2.2 45 _ (Or.inr (Or.inr (Or.inl rfl))) (by omega), al6]
          have v46 : (rd (sa τa 40 p1 0) 46 x10).toInt = alN (dC σ) (vC σ) 7 c e i := by
            rw [vv_rd t10, vv_so (show 46 ≠ 40 by decide), Fa.2.2 46 _ (Or.inr (Or.inr (Or.inr rfl))) (by omega), hF.2.2 46 _ (Or.inr (Or.inr (Or.inr rfl))) (by omega), al7]
          have w41 : vv (sa τa 40 p1 0) 41 (8 * c + 2 * i + e) = dlN (dC σ) (vC σ) c e i := by rw [vv_so (show 41 ≠ 40 by decide), g1, fu_eq]
          have w42 : vv (sa τa 40 p1 0) 42 (8 * c + 2 * i + e) = deN (dC σ) (vC σ) c e i := by rw [vv_so (show 42 ≠ 40 by decide), g2, fu_eq]
          rw [← al6, ← al7] at B1
          refine cx_arrive (c := c) (i := i) (e := e) e6 (by omega) (by omega) e4 he (ha.sa 40 p1 0 (i3_bd _)) (by rw [v45, w41]; omega) (by rw [v46, w42]; omega) (fun τc hMc hEc k1 k2 => ?_)
          rw [v45, w41] at k1
          rw [v46, w42] at k2
          have Fc := Fr.arr he hEc k1 k2
          refine ih (i + 1) (l6 + 1) τc (by omega) (by omega) t7 (G.ok (τ' := τc) (by omega) (by omega) he w y nz hMc ?_ ((Fa.trans (Fr.opn h1)).trans Fc) ?_ ?_ ?_ ?_ ?_ ?_ ?_)
          · exact ((hEa.mono (fun k hk => hk) (by decide)).sa 40 p1 0 (by decide)).trans (hEc.mono (fun k hk => hk) (by decide))
          · rw [vv_eo hEc (by decide), vv_sa τa 40 p1 0 h1, fu_eq]; rfl
          · rw [vv_eo hEc (by decide), vv_so (show 41 ≠ 40 by decide), g1]
          · rw [vv_eo hEc (by decide), vv_so (show 42 ≠ 40 by decide), g2]
          · rw [vv_eo hEc (by decide), vv_so (show 43 ≠ 40 by decide), g3]
          · rw [vv_eo hEc (by decide), vv_so (show 44 ≠ 40 by decide), g4]
          · rw [k1, vv_so (show 45 ≠ 40 by decide), vv_eo hEa (show 45 ∉ [41, 42, 43, 44] by decide)]
          · rw [k2, vv_so (show 46 ≠ 40 by decide), vv_eo hEa (show 46 ∉ [41, 42, 43, 44] by decide)]
      · rw [e16] at q
        refine ⟨fun _ => ih (i + 1) (l6 + 1) τ (by omega) (by omega) t7 (G.skip (fun ya => q ?_)), fun z0 => (z0 rfl).elim⟩
        have y0 := (ac_is hM hc hm hg hi).mp ya
        exact ⟨y0.1, by rw [(hF.1 _ (ns0 y0.1)).1]; exact y0.2⟩
theorem gate_fin {σ τ : VS} {c m : Nat} {b R o1 : Int} (hc : c < nCl σ) (hM : CI σ) (hg : gtC σ c) (hm : vv σ 12 c = (m : Int)) (hb0 : 0 ≤ b ∧ b ≤ 3000000) (hB : ∀ i, i < m → aC σ c i → ¬ oC σ c i → OB (vC σ) (vv σ 16 (4 * c + i)).toNat b) (hA : IvA (aC σ c) R m) (hI : IvA (oC σ c) o1 m)
    (h : OIv σ c m 2 R (stp (stp o1 (ffF (acN (dC σ) (vC σ) c) (flN (dC σ) (vC σ) c 0) m)) (ffF (acN (dC σ) (vC σ) c) (flN (dC σ) (vC σ) c 1) m)) τ) : LE2 (dC σ) (vC σ) (vC τ) c ∧ LA2 (dC σ) (vC σ) (vC τ) c ∧ (vC τ 0 c ≠ 0 → vC τ 1 c = 0 → OB (vC τ) c (b + 6000)) := by
  obtain ⟨hT, hE, hF, hR, ho, hz⟩ := h
  have hg2 : 0 < vv σ 11 c ∧ vv σ 11 c < 4 := hg
  have dk : dC σ 0 c = vv σ 11 c := dC_0 hc
  have ipm : ipN (dC σ) c = m := by unfold ipN; rw [dC_1 hc, hm]; omega
  have acI : ∀ i, i < m → (acN (dC σ) (vC σ) c i ↔ aC σ c i) := fun i hi => ac_is hM hc hm hg hi
  have opI := op_is hM hc hm
  have hR' : vC τ 0 c = R := hR
  have ho' : vC τ 1 c = stp (stp o1 (ffF (acN (dC σ) (vC σ) c) (flN (dC σ) (vC σ) c 0) m)) (ffF (acN (dC σ) (vC σ) c) (flN (dC σ) (vC σ) c 1) m) := ho
  have hz' : vC τ 1 c = 0 → ∀ f, f < 2 → EdC (dC σ) (vC σ) (vC τ) c f m := hz
  refine ⟨⟨fun k => by omega, fun k => by omega, fun k => by omega, fun _ => ?_, fun _ k => ?_, fun _ _ no => ?_⟩, ⟨fun k => by omega, fun _ _ _ z e he => ?_⟩, fun r z e he => ?_⟩
  · rw [hR', ipm]
    rcases hA with ⟨v, i, hi, a⟩ | ⟨v, n⟩
    · exact Or.inl ⟨v, i, hi, (acI i hi).mpr a⟩
    · exact Or.inr ⟨v, fun i hi a => n i hi ((acI i hi).mp a)⟩
  · obtain ⟨i, hi, q⟩ := opI.mp k
    rcases hI with ⟨v, _⟩ | ⟨_, n⟩
    · rw [ho', v, stp_p (show (1 : Int) ≠ 0 by decide), stp_p (show (1 : Int) ≠ 0 by decide)]
    · exact absurd q (n i hi)
  · have o0 : o1 = 0 := by
      rcases hI with ⟨_, i, hi, q⟩ | ⟨v, _⟩
      · exact absurd (opI.mpr ⟨i, hi, q⟩) (no ⟨by omega, by omega⟩)
      · exact v
    rw [ipm]
    refine ⟨by rw [ho', o0, stp_0], fun _ z e he => ?_⟩
    have E := hz' z e he
    exact ⟨E.1, E.2.1, E.2.2.1⟩
  · have E := hz' z e he
    rw [ipm]
    exact ⟨E.2.2.2.1.trans (mxF_c m (fun _ _ => Iff.rfl) (fun i hi a => by show alN (dC σ) (vC σ) 6 c e i + dlN (dC σ) (vC σ) c e i = alN (dC σ) (vC σ) 6 c e i + vC τ 2 (8 * c + 2 * i + e); rw [(E.1 i hi a).1])), E.2.2.2.2.trans (mnF_c m (fun _ _ => Iff.rfl) (fun i hi a => by show alN (dC σ) (vC σ) 7 c e i + deN (dC σ) (vC σ) c e i = alN (dC σ) (vC σ) 7 c e i + vC τ 3 (8 * c + 2 * i + e); rw [(E.1 i hi a).2]))⟩
  · have E := hz' z e he
    rw [ho'] at z
    have z1 := stp_i z
    have z2 := stp_i z1.1
    have fz : ffF (acN (dC σ) (vC σ) c) (flN (dC σ) (vC σ) c e) m = 0 := by
      rcases (show e = 0 ∨ e = 1 by omega) with q | q
      · rw [q]; exact z2.2
      · rw [q]; exact z1.2
    have no : ∀ i, i < m → ¬ oC σ c i := by
      rcases hI with ⟨v, _⟩ | ⟨_, n⟩
      · rw [z2.1] at v; omega
      · exact n
    have hx : ∃ i, i < m ∧ acN (dC σ) (vC σ) c i := by
      rcases hA with ⟨_, i, hi, a⟩ | ⟨v, _⟩
      · exact ⟨i, hi, (acI i hi).mpr a⟩
      · rw [hR', v] at r; exact absurd rfl r
    have A : ∀ i, i < m → acN (dC σ) (vC σ) c i → ((0 ≤ dlN (dC σ) (vC σ) c e i ∧ dlN (dC σ) (vC σ) c e i ≤ 6000) ∧ (0 ≤ deN (dC σ) (vC σ) c e i ∧ deN (dC σ) (vC σ) c e i ≤ 6000) ∧ (0 ≤ glN (dC σ) (vC σ) c e i ∧ glN (dC σ) (vC σ) c e i ≤ 3000) ∧ (0 ≤ geN (dC σ) (vC σ) c e i ∧ geN (dC σ) (vC σ) c e i ≤ 3000)) ∧ (0 ≤ alN (dC σ) (vC σ) 6 c e i ∧ alN (dC σ) (vC σ) 6 c e i ≤ b) ∧ 0 ≤ alN (dC σ) (vC σ) 7 c e i ∧ alN (dC σ) (vC σ) 7 c e i ≤ b := by
      intro i hi a
      have y0 := (acI i hi).mp a
      have B0 := hB i hi y0 (no i hi) (feN (dC σ) c e) (feN_lt _ _ he)
      have l4 := (ls_is hM hc hm hg hi y0 4 e).1
      have l5 := (ls_is hM hc hm hg hi y0 5 e).1
      have a6 := (ls_is hM hc hm hg hi y0 6 e).2
      have a7 := (ls_is hM hc hm hg hi y0 7 e).2
      exact ⟨arc_b hM hc (by rw [l4]; exact B0.1) (by rw [l5]; exact B0.2.1) (ffF_z m fz i hi a), by rw [a6]; exact B0.2.2.1, by rw [a7]; exact B0.2.2.2⟩
    have f4 := mxF_b (act := acN (dC σ) (vC σ) c) (g := glN (dC σ) (vC σ) c e) (b := 3000) (by decide) m (fun i hi a => (A i hi a).1.2.2.1.2)
    have f5 := mnF_b (act := acN (dC σ) (vC σ) c) (g := geN (dC σ) (vC σ) c e) m (fun i hi a => (A i hi a).1.2.2.2.1)
    have f6 := mxF_b (act := acN (dC σ) (vC σ) c) (g := fun j => alN (dC σ) (vC σ) 6 c e j + dlN (dC σ) (vC σ) c e j) (b := b + 6000) (by omega) m (fun i hi a => by
      show alN (dC σ) (vC σ) 6 c e i + dlN (dC σ) (vC σ) c e i ≤ b + 6000
      have k1 := (A i hi a).1.1
      have k2 := (A i hi a).2.1
      omega)
    have f7 := mnF_b (act := acN (dC σ) (vC σ) c) (g := fun j => alN (dC σ) (vC σ) 7 c e j + deN (dC σ) (vC σ) c e j) m (fun i hi a => by
      show 0 ≤ alN (dC σ) (vC σ) 7 c e i + deN (dC σ) (vC σ) c e i
      have k1 := (A i hi a).1.2.1
      have k2 := (A i hi a).2.2
      omega)
    have f8 := mnF_u (act := acN (dC σ) (vC σ) c) (g := fun j => alN (dC σ) (vC σ) 7 c e j + deN (dC σ) (vC σ) c e j) (b := b + 6000) m (fun i hi a => by
      show alN (dC σ) (vC σ) 7 c e i + deN (dC σ) (vC σ) c e i ≤ b + 6000
      have k1 := (A i hi a).1.2.1
      have k2 := (A i hi a).2.2
      omega) hx
    rw [E.2.1, E.2.2.1, E.2.2.2.1, E.2.2.2.2]
    exact ⟨f4.1, f5.1, f6, f7.1, f8⟩
theorem cx_timeGate {Q : VS → Prop} {p1 : Int32} {σ : VS} {c m : Nat} {b : Int} (h1 : p1.toInt = (c : Int)) (hc : c < nCl σ) (hM : CI σ) (hT : TkL σ) (hg : gtC σ c) (hm : vv σ 12 c = (m : Int)) (hself : ∀ i, i < m → vv σ 16 (4 * c + i) ≠ (c : Int)) (h0 : vv σ 39 c = 0) (hO : vv σ 40 c = 0) (hb0 : 0 ≤ b ∧ b ≤ 3000000)
    (hB : ∀ i, i < m → aC σ c i → ¬ oC σ c i → OB (vC σ) (vv σ 16 (4 * c + i)).toNat b)
    (hq : ∀ σ' : VS, CI σ' → Eo [] [39, 40, 41, 42, 43, 44, 45, 46] σ σ' → Fr c σ σ' → LE2 (dC σ) (vC σ) (vC σ') c → LA2 (dC σ) (vC σ) (vC σ') c → (vC σ' 0 c ≠ 0 → vC σ' 1 c = 0 → OB (vC σ') c (b + 6000)) → Q σ') : wp_X6timeGate Q p1 σ := by
  have hn50 : nCl σ ≤ 50 := by
    have a : 0 ≤ (σ.1 2).toInt ∧ (σ.1 2).toInt ≤ 50 := hM.1 2
    unfold nCl; omega
  have m4 : 0 ≤ vv σ 12 c ∧ vv σ 12 c ≤ 4 := hM.2 12 c
  have dk : dC σ 0 c = vv σ 11 c := dC_0 hc
  unfold wp_X6timeGate
  intro X21 X64 H21 H64 x1 e1
  have t4 : x1.toInt = 4 * (c : Int) := by
    have a := i3_mulc (x := x1) h1 (show (4 : Int32).toInt = 4 from rfl) e1 (by omega)
    omega
  clear e1
  refine cx_loadOf h1 hc hM hT (fun r2 er br => ?_)
  rw [← dC_3 hc] at er
  refine cx_takeInputs h1 (by omega) hM hm hself h0 hO (fun σ1 hM1 hE1 hF1 hA1 hB1 => ?_)
  have hF2 : Fr c σ σ1 := ⟨hF1, fun k j hk _ => by rw [vv_eo hE1 (by rcases hk with k1 | k1 <;> subst k1 <;> decide)], fun k j hk _ => by rw [vv_eo hE1 (by rcases hk with k1 | k1 | k1 | k1 <;> subst k1 <;> decide)]⟩
  have no1 : vv σ1 40 c = 0 → ∀ i, i < m → ¬ oC σ c i := fun z => by
    rcases hB1 with ⟨v, _⟩ | ⟨_, n⟩
    · omega
    · exact n
  have ST : ∀ (e : Nat) (l4 : Int32) (P : Int) (τ : VS), e < 2 → l4.toInt = (e : Int) → (P = 0 → ∀ i, i < m → ¬ oC σ c i) → (∀ τ', OIv σ c m (e + 1) (vv σ1 39 c) (stp P (ffF (acN (dC σ) (vC σ) c) (flN (dC σ) (vC σ) c e) m)) τ' → X21 p1 x1 r2 (l4 + 1) τ') → OIv σ c m e (vv σ1 39 c) P τ → X21 p1 x1 r2 l4 τ := by
    intro e l4 P τ he e4 hP K O
    refine H21 p1 x1 r2 l4 τ ?_
    unfold b_X6timeGate_21 b_X6timeGate_49
    have r11 : (rd τ 11 p1).toInt = dC σ 0 c := by rw [vv_rd h1, vv_eo O.2.1 (by decide), dk]
    have u1 : (p1 * 2).toInt = (c : Int) * 2 := i3_mulc h1 rfl rfl (by omega)
    have u2 : (p1 * 2 + l4).toInt = (c : Int) * 2 + (e : Int) := i3_addc u1 e4 rfl (by omega)
    have go : ∀ l5 : Int32, l5.toInt = ((feN (dC σ) c e : Nat) : Int) → wp_X6clearPlace (fun (σ7 : VS) => X64 p1 x1 r2 l4 l5 x1 σ7) (p1 * 2 + l4) τ := fun l5 e5 => cx_clear (n := 2 * c + e) (by omega) (by omega) O.1 (fun τ' hMt hEt g4 g5 g6 g7 => cx_gateIn H64 h1 hc hM hg hm hself hb0 t4 er br hB he e4 e5 hP K (m + 1) 0 x1 τ' (by omega) (by omega) (by omega) (O.clear (by omega) he hMt hEt g4 g5 g6 g7))
    refine ⟨fun z => by omega, fun _ => ⟨⟨by omega, by omega⟩, fun z => go l4 ?_, fun z => go (1 - l4) ?_⟩⟩
    · rw [r11] at z
      unfold feN
      rw [if_neg z]; exact e4
    · rw [r11] at z
      unfold feN
      rw [if_pos z]
      have q := i3_subc (x := 1 - l4) (show (1 : Int32).toInt = 1 from rfl) e4 rfl (by omega)
      omega
  have a1 : ((0 : Int32) + 1).toInt = 1 := rfl
  have a2 : ((0 : Int32) + 1 + 1).toInt = 2 := rfl
  refine ST 0 0 (vv σ1 40 c) σ1 (by decide) rfl no1 (fun τ O1 => ST 1 (0 + 1) _ τ (by decide) a1 (fun z => no1 (stp_i z).1) (fun τ2 O2 => ?_) O1) ⟨hM1, Eo.rfl.of hE1 (by decide) (by decide), hF2, rfl, rfl, fun _ f hf => by omega⟩
  refine H21 p1 x1 r2 (0 + 1 + 1) τ2 ?_
  unfold b_X6timeGate_21
  refine ⟨fun _ => ?_, fun z => by omega⟩
  have F := gate_fin hc hM hg hm hb0 hB hA1 hB1 O2
  exact hq τ2 O2.1 O2.2.1 O2.2.2.1 F.1 F.2.1 F.2.2
