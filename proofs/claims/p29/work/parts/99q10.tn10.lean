/-! A PORT'S OUTPUT, A FLOP'S -/
theorem cx_timePort {Q : VS → Prop} {p1 : Int32} {σ : VS} {c : Nat} (h1 : p1.toInt = (c : Int)) (hc : c < 50) (hM : CI σ) (hq : ∀ σ' : VS, CI σ' → Eo [] [43, 44, 45, 46] σ σ' → Fr c σ σ' → (∀ e, e < 2 → vv σ' 43 (2 * c + e) = vv σ 24 c ∧ vv σ' 44 (2 * c + e) = vv σ 24 c ∧ vv σ' 45 (2 * c + e) = vv σ 23 c ∧ vv σ' 46 (2 * c + e) = vv σ 22 c) → Q σ') : wp_X6timePort Q p1 σ := by
  unfold wp_X6timePort
  intro X4 H
  have t1 : (p1 * 2).toInt = (c : Int) * 2 := i3_mulc h1 rfl rfl (by omega)
  have t2 : (p1 * 2 + 2).toInt = (c : Int) * 2 + 2 := i3_addc t1 rfl rfl (by have q : (2 : Int32).toInt = 2 := rfl; omega)
  have L : ∀ (d k : Nat) (l2 : Int32) (τ : VS), 3 ≤ d + k → k ≤ 2 → l2.toInt = 2 * (c : Int) + (k : Int) → CI τ → Eo [] [43, 44, 45, 46] σ τ → Fr c σ τ → (∀ e, e < k → vv τ 43 (2 * c + e) = vv σ 24 c ∧ vv τ 44 (2 * c + e) = vv σ 24 c ∧ vv τ 45 (2 * c + e) = vv σ 23 c ∧ vv τ 46 (2 * c + e) = vv σ 22 c) → X4 p1 l2 τ := by
    intro d
    induction d with
    | zero => intro k l2 τ a b; omega
    | succ d ih =>
      intro k l2 τ a b e2 hT hE hF hV
      refine H p1 l2 τ ?_
      unfold b_X6timePort_4
      refine ⟨fun z => ?_, fun z => ⟨⟨by omega, by omega⟩, ⟨by omega, by omega⟩, ⟨by omega, by omega⟩, ⟨by omega, by omega⟩, ⟨by omega, by omega⟩, ⟨by omega, by omega⟩, ⟨by omega, by omega⟩, ⟨by omega, by omega⟩, ?_⟩⟩
      · have ek : k = 2 := by omega
        rw [ek] at hV
        exact hq τ hT hE hF hV
      · have n2 : l2.toInt = ((2 * c + k : Nat) : Int) := by omega
        have t3 : (l2 + 1).toInt = 2 * (c : Int) + ((k + 1 : Nat) : Int) := by
          have q := i3_addc (x := l2 + 1) e2 (show (1 : Int32).toInt = 1 from rfl) rfl (by omega)
          omega
        obtain ⟨V1, hV1⟩ : ∃ V1 : Int32, V1 = rd τ 24 p1 := ⟨_, rfl⟩
        have y1 : V1.toInt = vv σ 24 c := by rw [hV1, vv_rd h1, vv_eo hE (by decide)]
        rw [← hV1]
        obtain ⟨V2, hV2⟩ : ∃ V2 : Int32, V2 = rd (sa τ 43 l2 V1) 24 p1 := ⟨_, rfl⟩
        have y2 : V2.toInt = vv σ 24 c := by rw [hV2, vv_rd h1, vv_so (show 24 ≠ 43 by decide), vv_eo hE (by decide)]
        rw [← hV2]
        obtain ⟨V3, hV3⟩ : ∃ V3 : Int32, V3 = rd (sa (sa τ 43 l2 V1) 44 l2 V2) 23 p1 := ⟨_, rfl⟩
        have y3 : V3.toInt = vv σ 23 c := by rw [hV3, vv_rd h1, vv_so (show 23 ≠ 44 by decide), vv_so (show 23 ≠ 43 by decide), vv_eo hE (by decide)]
        rw [← hV3]
        obtain ⟨V4, hV4⟩ : ∃ V4 : Int32, V4 = rd (sa (sa (sa τ 43 l2 V1) 44 l2 V2) 45 l2 V3) 22 p1 := ⟨_, rfl⟩
        have y4 : V4.toInt = vv σ 22 c := by rw [hV4, vv_rd h1, vv_so (show 22 ≠ 45 by decide), vv_so (show 22 ≠ 44 by decide), vv_so (show 22 ≠ 43 by decide), vv_eo hE (by decide)]
        rw [← hV4]
        obtain ⟨τ2, hτ⟩ : ∃ τ2 : VS, τ2 = sa (sa (sa (sa τ 43 l2 V1) 44 l2 V2) 45 l2 V3) 46 l2 V4 := ⟨_, rfl⟩
        have g3 : vv τ2 43 = fu (vv τ 43) (2 * c + k) (vv σ 24 c) := by rw [hτ, vv_so (show 43 ≠ 46 by decide), vv_so (show 43 ≠ 45 by decide), vv_so (show 43 ≠ 44 by decide), vv_sa τ 43 l2 V1 n2, y1]
        have g4 : vv τ2 44 = fu (vv τ 44) (2 * c + k) (vv σ 24 c) := by rw [hτ, vv_so (show 44 ≠ 46 by decide), vv_so (show 44 ≠ 45 by decide), vv_sa _ 44 l2 V2 n2, vv_so (show 44 ≠ 43 by decide), y2]
        have g5 : vv τ2 45 = fu (vv τ 45) (2 * c + k) (vv σ 23 c) := by rw [hτ, vv_so (show 45 ≠ 46 by decide), vv_sa _ 45 l2 V3 n2, vv_so (show 45 ≠ 44 by decide), vv_so (show 45 ≠ 43 by decide), y3]
        have g6 : vv τ2 46 = fu (vv τ 46) (2 * c + k) (vv σ 22 c) := by rw [hτ, vv_sa _ 46 l2 V4 n2, vv_so (show 46 ≠ 45 by decide), vv_so (show 46 ≠ 44 by decide), vv_so (show 46 ≠ 43 by decide), y4]
        have hEt : Eo [] [43, 44, 45, 46] τ τ2 := by rw [hτ]; exact (((Eo.rfl.sa 43 l2 V1 (by decide)).sa 44 l2 V2 (by decide)).sa 45 l2 V3 (by decide)).sa 46 l2 V4 (by decide)
        have hMt : CI τ2 := by rw [hτ]; exact (((hT.sa 43 l2 V1 (i3_bd _)).sa 44 l2 V2 (i3_bd _)).sa 45 l2 V3 (i3_bd _)).sa 46 l2 V4 (i3_bd _)
        rw [← hτ]
        refine ih (k + 1) (l2 + 1) τ2 (by omega) (by omega) t3 hMt (hE.trans hEt) (hF.trans (Fr.clr (by omega) hEt g3 g4 g5 g6)) (fun e he => ?_)
        rw [g3, g4, g5, g6]
        by_cases q : e = k
        · rw [q, fu_eq, fu_eq, fu_eq, fu_eq]; exact ⟨rfl, rfl, rfl, rfl⟩
        · rw [fu_ne (by omega), fu_ne (by omega), fu_ne (by omega), fu_ne (by omega)]; exact hV e (by omega)
  intro x1 e1
  exact L 3 0 x1 σ (by omega) (by omega) (by rw [e1]; omega) hM Eo.rfl Fr.id (fun e he => by omega)
theorem flop_fin {σ τ : VS} {c : Nat} {R : Int} (hc : c < nCl σ) (hM : CI σ) (hk : vv σ 11 c = 4) (hm : vv σ 12 c = 1) (hR1 : R = 1) (hL : 0 ≤ dC σ 13 c ∧ dC σ 13 c ≤ 2000000) (hEa : 0 ≤ dC σ 14 c ∧ dC σ 14 c ≤ 2000000)
    (h : OIv σ c 1 2 R (stp (stp 0 (ffF (acN (dC σ) (vC σ) c) (flN (dC σ) (vC σ) c 0) 1)) (ffF (acN (dC σ) (vC σ) c) (flN (dC σ) (vC σ) c 1) 1)) τ) : LE2 (dC σ) (vC σ) (vC τ) c ∧ LA2 (dC σ) (vC σ) (vC τ) c ∧ (vC τ 1 c = 0 → OB (vC τ) c 2010000) := by
  obtain ⟨hT, hE, hF, hR, ho, hz⟩ := h
  have dk : dC σ 0 c = 4 := by rw [dC_0 hc, hk]
  have ipm : ipN (dC σ) c = 1 := by unfold ipN; rw [dC_1 hc, hm]; rfl
  have hR' : vC τ 0 c = 1 := by rw [← hR1]; exact hR
  have ho' : vC τ 1 c = stp (stp 0 (ffF (acN (dC σ) (vC σ) c) (flN (dC σ) (vC σ) c 0) 1)) (ffF (acN (dC σ) (vC σ) c) (flN (dC σ) (vC σ) c 1) 1) := ho
  have hz' : vC τ 1 c = 0 → ∀ f, f < 2 → EdC (dC σ) (vC σ) (vC τ) c f 1 := hz
  have ng : ¬ gN (dC σ) c := fun g => by have := g.2; omega
  have ya : acN (dC σ) (vC σ) c 0 := Or.inl dk
  refine ⟨⟨fun k => by omega, fun k => by omega, fun _ => hR', fun g => absurd g ng, fun g => absurd g ng, fun _ _ _ => ?_⟩, ⟨fun k => by omega, fun _ _ _ z e he => ?_⟩, fun z e he => ?_⟩
  · rw [ipm]
    refine ⟨by rw [ho', stp_0], fun _ z e he => ?_⟩
    have E := hz' z e he
    exact ⟨E.1, E.2.1, E.2.2.1⟩
  · have E := hz' z e he
    rw [ipm]
    exact ⟨E.2.2.2.1.trans (mxF_c 1 (fun _ _ => Iff.rfl) (fun i hi a => by show alN (dC σ) (vC σ) 6 c e i + dlN (dC σ) (vC σ) c e i = alN (dC σ) (vC σ) 6 c e i + vC τ 2 (8 * c + 2 * i + e); rw [(E.1 i hi a).1])), E.2.2.2.2.trans (mnF_c 1 (fun _ _ => Iff.rfl) (fun i hi a => by show alN (dC σ) (vC σ) 7 c e i + deN (dC σ) (vC σ) c e i = alN (dC σ) (vC σ) 7 c e i + vC τ 3 (8 * c + 2 * i + e); rw [(E.1 i hi a).2]))⟩
  · have E := hz' z e he
    rw [ho'] at z
    have z1 := stp_i z
    have z2 := stp_i z1.1
    have fz : ffF (acN (dC σ) (vC σ) c) (flN (dC σ) (vC σ) c e) 1 = 0 := by
      rcases (show e = 0 ∨ e = 1 by omega) with q | q
      · rw [q]; exact z2.2
      · rw [q]; exact z1.2
    have l0 : ∀ k, lsN (dC σ) (vC σ) k c e 0 = 0 := fun k => by unfold lsN; rw [if_pos dk]
    have a6 : alN (dC σ) (vC σ) 6 c e 0 = dC σ 13 c := by unfold alN; rw [if_pos dk]
    have a7 : alN (dC σ) (vC σ) 7 c e 0 = dC σ 14 c := by unfold alN; rw [if_pos dk]
    have A := arc_b hM hc (e := e) (i := 0) (by rw [l0]; decide) (by rw [l0]; decide) (ffF_z 1 fz 0 (by decide) ya)
    have x4 : mxF (acN (dC σ) (vC σ) c) (glN (dC σ) (vC σ) c e) 1 = max 0 (glN (dC σ) (vC σ) c e 0) := mxF_y ya
    have x5 : mnF (acN (dC σ) (vC σ) c) (geN (dC σ) (vC σ) c e) 1 = min 1000000000 (geN (dC σ) (vC σ) c e 0) := mnF_y ya
    have x6 : mxF (acN (dC σ) (vC σ) c) (fun j => alN (dC σ) (vC σ) 6 c e j + dlN (dC σ) (vC σ) c e j) 1 = max 0 (alN (dC σ) (vC σ) 6 c e 0 + dlN (dC σ) (vC σ) c e 0) := mxF_y ya
    have x7 : mnF (acN (dC σ) (vC σ) c) (fun j => alN (dC σ) (vC σ) 7 c e j + deN (dC σ) (vC σ) c e j) 1 = min 1000000000 (alN (dC σ) (vC σ) 7 c e 0 + deN (dC σ) (vC σ) c e 0) := mnF_y ya
    rw [a6] at x6
    rw [a7] at x7
    rw [E.2.1, E.2.2.1, E.2.2.2.1, E.2.2.2.2, x4, x5, x6, x7]
    omega
set_option maxHeartbeats 1000000 in
theorem cx_timeFlop {Q : VS → Prop} {p1 : Int32} {σ : VS} {c : Nat} (h1 : p1.toInt = (c : Int)) (hc : c < nCl σ) (hM : CI σ) (hT : TkL σ) (hk : vv σ 11 c = 4) (hm : vv σ 12 c = 1) (h0 : vv σ 39 c = 1) (hO : vv σ 40 c = 0) (hL : 0 ≤ dC σ 13 c ∧ dC σ 13 c ≤ 2000000) (hD : 0 ≤ dC σ 14 c ∧ dC σ 14 c ≤ 2000000)
    (hq : ∀ σ' : VS, CI σ' → Eo [] [39, 40, 41, 42, 43, 44, 45, 46] σ σ' → Fr c σ σ' → LE2 (dC σ) (vC σ) (vC σ') c → LA2 (dC σ) (vC σ) (vC σ') c → (vC σ' 1 c = 0 → OB (vC σ') c 2010000) → Q σ') : wp_X6timeFlop Q p1 σ := by
  have hn50 : nCl σ ≤ 50 := by
    have a : 0 ≤ (σ.1 2).toInt ∧ (σ.1 2).toInt ≤ 50 := hM.1 2
    unfold nCl; omega
  have dk : dC σ 0 c = 4 := by rw [dC_0 hc, hk]
  have ya : acN (dC σ) (vC σ) c 0 := Or.inl dk
  unfold wp_X6timeFlop
  intro X27 H x1 e1
  have t4 : x1.toInt = 4 * (c : Int) + ((0 : Nat) : Int) := by
    have a := i3_mulc (x := x1) h1 (show (4 : Int32).toInt = 4 from rfl) e1 (by omega)
    omega
  clear e1
  refine cx_loadOf h1 hc hM hT (fun r2 er br => ⟨⟨by omega, by omega⟩, fun x4 e4 => ?_⟩)
  rw [← dC_3 hc] at er
  have ex4 : x4 = σ.2.1 25 c := by rw [e4]; exact rd_at σ 25 p1 h1
  have b4 : -1 ≤ x4.toInt ∧ x4.toInt ≤ 19 := by rw [ex4]; exact hM.2 25 c
  have i0 : (0 : Int32).toInt = 0 := rfl
  have ST : ∀ (e : Nat) (l5 : Int32) (P : Int) (τ : VS), e < 2 → l5.toInt = (e : Int) → (P ≠ 0 → OIv σ c 1 e 1 P τ → Q τ) → (∀ τ', OIv σ c 1 (e + 1) 1 (stp P (ffF (acN (dC σ) (vC σ) c) (flN (dC σ) (vC σ) c e) 1)) τ' → X27 p1 x1 r2 x4 (l5 + 1) τ') → OIv σ c 1 e 1 P τ → X27 p1 x1 r2 x4 l5 τ := by
    intro e l5 P τ he e5 hX K O
    refine H p1 x1 r2 x4 l5 τ ?_
    unfold b_X6timeFlop_27 b_X6timeFlop_102 b_X6timeFlop_108
    have r40 : (rd τ 40 p1).toInt = P := by rw [vv_rd h1]; exact O.2.2.2.2.1
    refine ⟨fun z => by omega, fun _ => ⟨⟨by omega, by omega⟩, fun w => hX (by rw [← r40]; exact w) O, fun w => ?_⟩⟩
    have u1 : (p1 * 2).toInt = (c : Int) * 2 := i3_mulc h1 rfl rfl (by omega)
    have u2 : (p1 * 2 + l5).toInt = (c : Int) * 2 + (e : Int) := i3_addc u1 e5 rfl (by omega)
    refine cx_clear (n := 2 * c + e) (by omega) (by omega) O.1 (fun τ1 hMt hEt g4 g5 g6 g7 => ?_)
    have G := O.clear (by decide) he hMt hEt g4 g5 g6 g7
    have G0 := G
    obtain ⟨hT1, hE2, hF, hR, ho, hz⟩ := G0
    have w1 : vv τ1 40 c = 0 := by rw [vv_eo hEt (by decide), ← vv_rd h1]; exact w
    have elf : lfC τ1 = lfN (dC σ) := by funext j; unfold lfC; rw [hE2.2 37 (by decide)]; rfl
    have enm : nmC τ1 = nmN (dC σ) := by funext j; unfold nmC; rw [hE2.2 36 (by decide)]; rfl
    have et : vv τ1 13 c = dC σ 2 c := by rw [vv_eo hE2 (by decide), dC_2 hc]
    have ez : 1 + vv τ1 14 c = 1 + dC σ 4 c := by rw [vv_eo hE2 (by decide), dC_4 hc]
    have eL : (r2.toInt + (1 + dC σ 4 c) - 1) / (1 + dC σ 4 c) = LN (dC σ) c := by rw [er]; rfl
    have eE : r2.toInt / (1 + dC σ 4 c) = EN (dC σ) c := by rw [er]; rfl
    have em : (if e = 1 then vv τ1 38 (dC σ 2 c).toNat else 0) = moN (dC σ) c e := by rw [vv_eo hE2 (by decide)]; rfl
    have el7 : (τ1.1 7).toInt = dC σ 9 0 := by rw [hE2.1 7 (by decide)]; rfl
    have el8 : (τ1.1 8).toInt = dC σ 9 1 := by rw [hE2.1 8 (by decide)]; rfl
    have l0 : ∀ k, lsN (dC σ) (vC σ) k c e 0 = 0 := fun k => by unfold lsN; rw [if_pos dk]
    have v0 : ∀ k, (0 : Int32).toInt = lsN (dC σ) (vC σ) k c e 0 := fun k => by rw [l0 k]; rfl
    have eA : AW (lfC τ1) (dC σ 2 c) (LN (dC σ) c) (EN (dC σ) c) (0 : Int32).toInt (0 : Int32).toInt = flN (dC σ) (vC σ) c e 0 := by
      unfold flN
      rw [elf, l0, l0]; rfl
    refine cx_timeArc (c := c) (i := 0) (e := e) t4 (by omega) (by decide) e5 he ⟨by omega, by omega⟩ (by decide) (by decide) hT1 et ez eL eE em (fun r nz hr => ?_) (fun nz τa ha hEa f1 f2 f3 f4 => ?_)
    · rw [eA] at nz hr
      refine ⟨⟨by omega, by omega⟩, ⟨by omega, by omega⟩, fun _ => K _ (G.bad h1 w1 ya nz hr).done, fun z0 => ?_⟩
      rw [rd_sa, hr] at z0
      exact absurd z0 nz
    · rw [eA] at nz
      have g1 : vv τa 41 = fu (vv τ1 41) (8 * c + 2 * 0 + e) (dlN (dC σ) (vC σ) c e 0) := by rw [f1, enm, elf, v0 4, el7]; rfl
      have g2 : vv τa 42 = fu (vv τ1 42) (8 * c + 2 * 0 + e) (deN (dC σ) (vC σ) c e 0) := by rw [f2, enm, elf, v0 5, el8]; rfl
      have g3 : vv τa 43 = fu (vv τ1 43) (2 * c + e) (max (vv τ1 43 (2 * c + e)) (glN (dC σ) (vC σ) c e 0)) := by rw [f3, enm, elf, v0 4]; rfl
      have g4 : vv τa 44 = fu (vv τ1 44) (2 * c + e) (min (vv τ1 44 (2 * c + e)) (geN (dC σ) (vC σ) c e 0)) := by rw [f4, enm, elf, v0 5]; rfl
      clear f1 f2 f3 f4
      have ab := arc_b hM hc (by rw [l0]; decide) (by rw [l0]; decide) nz
      have Fa : Fr c τ1 τa := Fr.arc (by decide) he hEa g1 g2 g3 g4
      refine ⟨⟨by omega, by omega⟩, ⟨by omega, by omega⟩, fun z0 => absurd (by rw [rd_sa]; rfl) z0, fun _ => ?_⟩
      have hEb : Eo [] [39, 40, 41, 42, 43, 44, 45, 46] σ (sa τa 40 p1 0) := (hE2.of hEa (by decide) (by decide)).sa 40 p1 0 (by decide)
      have a6 : alN (dC σ) (vC σ) 6 c e 0 = dC σ 13 c := by unfold alN; rw [if_pos dk]
      have a7 : alN (dC σ) (vC σ) 7 c e 0 = dC σ 14 c := by unfold alN; rw [if_pos dk]
      refine late_x ⟨by omega, by omega⟩ (early_x ⟨by omega, by omega⟩ ?_)
      have v13 : (ex ((sa τa 40 p1 0).2.1 30) x4).toInt = alN (dC σ) (vC σ) 6 c e 0 := by rw [hEb.2 30 (by decide), ex4, a6, dC_13 hc]
      have v14 : (ex ((sa τa 40 p1 0).2.1 29) x4).toInt = alN (dC σ) (vC σ) 7 c e 0 := by rw [hEb.2 29 (by decide), ex4, a7, dC_14 hc]
      have w41 : vv (sa τa 40 p1 0) 41 (8 * c + 2 * 0 + e) = dlN (dC σ) (vC σ) c e 0 := by rw [vv_so (show 41 ≠ 40 by decide), g1, fu_eq]
      have w42 : vv (sa τa 40 p1 0) 42 (8 * c + 2 * 0 + e) = deN (dC σ) (vC σ) c e 0 := by rw [vv_so (show 42 ≠ 40 by decide), g2, fu_eq]
      rw [← a6] at hL
      rw [← a7] at hD
      refine cx_arrive (c := c) (i := 0) (e := e) t4 (by omega) (by decide) e5 he (ha.sa 40 p1 0 (i3_bd _)) (by rw [v13, w41]; omega) (by rw [v14, w42]; omega) (fun τc hMc hEc k1 k2 => ?_)
      rw [v13, w41] at k1
      rw [v14, w42] at k2
      have Fc := Fr.arr he hEc k1 k2
      refine K τc (GIv.done (G.ok (τ' := τc) (by decide) (by decide) he w1 ya nz hMc ?_ ((Fa.trans (Fr.opn h1)).trans Fc) ?_ ?_ ?_ ?_ ?_ ?_ ?_))
      · exact ((hEa.mono (fun k hk => hk) (by decide)).sa 40 p1 0 (by decide)).trans (hEc.mono (fun k hk => hk) (by decide))
      · rw [vv_eo hEc (by decide), vv_sa τa 40 p1 0 h1, fu_eq]; rfl
      · rw [vv_eo hEc (by decide), vv_so (show 41 ≠ 40 by decide), g1]
      · rw [vv_eo hEc (by decide), vv_so (show 42 ≠ 40 by decide), g2]
      · rw [vv_eo hEc (by decide), vv_so (show 43 ≠ 40 by decide), g3]
      · rw [vv_eo hEc (by decide), vv_so (show 44 ≠ 40 by decide), g4]
      · rw [k1, vv_so (show 45 ≠ 40 by decide), vv_eo hEa (show 45 ∉ [41, 42, 43, 44] by decide)]
      · rw [k2, vv_so (show 46 ≠ 40 by decide), vv_eo hEa (show 46 ∉ [41, 42, 43, 44] by decide)]
  have a1 : ((0 : Int32) + 1).toInt = 1 := rfl
  have a2 : ((0 : Int32) + 1 + 1).toInt = 2 := rfl
  have FIN : ∀ τ, OIv σ c 1 2 1 (stp (stp 0 (ffF (acN (dC σ) (vC σ) c) (flN (dC σ) (vC σ) c 0) 1)) (ffF (acN (dC σ) (vC σ) c) (flN (dC σ) (vC σ) c 1) 1)) τ → Q τ := fun τ O => by
    have F := flop_fin hc hM hk hm rfl hL hD O
    exact hq τ O.1 O.2.1 O.2.2.1 F.1 F.2.1 F.2.2
  refine ST 0 0 0 σ (by decide) rfl (fun z => absurd rfl z) (fun τ O1 => ST 1 (0 + 1) _ τ (by decide) a1 (fun nz O => FIN τ ?_) (fun τ2 O2 => ?_) O1) ⟨hM, Eo.rfl, Fr.id, h0, hO, fun _ f hf => by omega⟩
  · obtain ⟨q1, q2, q3, q4, q5, _⟩ := O
    refine ⟨q1, q2, q3, q4, by rw [stp_p nz]; exact q5, fun z => absurd ?_ nz⟩
    rw [← q5]; exact z
  · refine H p1 x1 r2 x4 (0 + 1 + 1) τ2 ?_
    unfold b_X6timeFlop_27 b_X6timeFlop_108
    exact ⟨fun _ => FIN τ2 O2, fun z => by omega⟩
