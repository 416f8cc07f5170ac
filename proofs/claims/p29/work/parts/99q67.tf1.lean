/-! WHAT IS TOLD OF THE RACE -/
theorem Jg.z {D U : Nat → Nat → Int} {n R : Nat} {len : Int} {sh : Nat → Nat → Int} {t : Nat} {w l g : Int} (h : Jg D U n R len sh t w l g) (k : ¬ 0 < w) : l = 1000000000 ∧ g = 1000000000 := by
  obtain ⟨V, BB, _, hE⟩ := h
  obtain ⟨e, iff, lb, ⟨l1, l2⟩, g1, g2⟩ := hE
  have nz : ¬ 0 < nT (isD D V) (cnD D U R BB) n t := by
    clear iff lb l2 g2
    omega
  have n0 : ¬ ∃ a b, mT (isD D V) (cmD D V U R len sh BB) n t a b := fun z => nz (iff.mpr z)
  exact ⟨l2.resolve_right (fun ⟨a, b, m, _⟩ => n0 ⟨a, b, m⟩), g2.resolve_right (fun ⟨a, b, m, _⟩ => n0 ⟨a, b, m⟩)⟩
theorem JA.z {D U : Nat → Nat → Int} {n R : Nat} {len : Int} {sh : Nat → Nat → Int} {w l g : Nat → Int} {t : Nat} (h : JA D U n R len sh w l g) (ht : t < n) (k : ¬ 0 < w t) : l t = 1000000000 ∧ g t = 1000000000 := by
  by_cases z : tgD D t
  · exact ((h t ht).1 z).z k
  · exact ((h t ht).2 z).2
def CQ (σ τ σ' : VS) : Prop := CBt σ' τ ∧ Eo [0, 1, 9, 10] [39, 40, 41, 42, 43, 44, 45, 46, 47, 48, 49, 50, 51, 52] σ σ' ∧ CTm σ' ∧ CRc σ' τ
def RQ (τ τ' : VS) : Prop := RB τ' ∧ Eo [30, 32] [31, 33, 34, 35, 36, 37, 38, 39, 40, 41, 42, 43, 44, 45, 46, 47] τ τ'
theorem Ju.cq {σ τ : VS} (J : Ju σ τ) : CQ σ τ σ := ⟨J.cbt, Eo.rfl, J.2.2.2.2.1, J.2.2.2.2.2.1⟩
theorem Ju.rq {σ τ : VS} (J : Ju σ τ) : RQ τ τ := ⟨J.rb, Eo.rfl⟩
theorem Ju.qq {σ τ σ' τ' : VS} (J : Ju σ τ) (c : CQ σ τ σ') (r : RQ τ τ') : Ju σ' τ' := by
  obtain ⟨c1, c2, c3, c4⟩ := c
  obtain ⟨r1, r2⟩ := r
  refine ⟨c1.1.mq r1 r2 (by decide) (by decide) (by decide) (by decide), r1.2.2.2.1, ?_, c1.2.2, c3, c4.sh (shF_same r2 (by decide)), J.2.2.2.2.2.2.same c2 r2 (by decide) (by decide)⟩
  unfold Sz nCl
  rw [c2.2 14 (by decide), c2.1 2 (by decide), r2.2 5 (by decide)]
  exact J.2.2.1
theorem cx_raceQ {Q : VS → Prop} {σ τ : VS} (J : Ju σ τ) (hq : ∀ x : VS, CQ σ τ x → JA (dC σ) (UC σ) (nCl σ) (rC σ) (σ.1 4).toInt (shF τ) (vv x 50) (vv x 51) (vv x 52) → Ng (dC σ) (UC σ) (nCl σ) (rC σ) (shF τ) (x.1 10).toInt → (∀ c, c < nCl σ → LE2 (dC σ) (vC x) (vC x) c) → Q x) : wp_X9refreshRace Q σ := by
  refine cx_refreshRace J.cbt J.2.2.2.2.1 J.2.2.2.2.2.1 (fun x Bx Ex x1 Tx Rx => ?_)
  have dx : dC x = dC σ := dC_q Ex (by decide) (by decide) (vv_eo Ex (by decide))
  have nx : nCl x = nCl σ := by unfold nCl; rw [Ex.1 2 (by decide)]
  have Ux : UC x = UC σ := UC_same Ex (by decide)
  have Rcx : rC x = rC σ := by unfold rC; rw [Ex.1 6 (by decide)]
  have j := (Rx x1).2
  have st := Tx (Rx x1).1
  obtain ⟨j1, j2⟩ := j
  rw [dx, Ux, nx, Rcx, Ex.1 4 (by decide)] at j1
  rw [dx, Ux, nx, Rcx] at j2
  refine hq x ⟨Bx, Ex, Tx, Rx⟩ j1 j2 (fun c hc => ?_)
  have q := (st c (by omega)).1
  rw [dx] at q
  exact q
theorem rx_judgeQ {Q : VS → Prop} {τ : VS} (B : RB τ) (hq : ∀ x : VS, RQ τ x → RfE x (rM τ) → JA (dM τ) (UM τ) (nC τ) (rM τ) (τ.1 20).toInt (shF τ) (vv x 45) (vv x 46) (vv x 47) → Q x) : wp_judge Q τ := by
  obtain ⟨M, S, W, Z, I⟩ := B
  refine rx_judgeJ M S W Z.2.1 (fun x Mx Ex Gx Jx => hq x ⟨⟨Mx, Gx.2.1, Gx.2.2.2.1, Z.sz Ex (by decide) (fun c _ => by rw [vv_eo Ex (by decide)]), I.same Ex (by decide)⟩, Ex.mono (by decide) (by decide)⟩ Gx Jx)
theorem Ju.ja {σ τ x y : VS} (J : Ju σ τ) (jc : JA (dC σ) (UC σ) (nCl σ) (rC σ) (σ.1 4).toInt (shF τ) (vv x 50) (vv x 51) (vv x 52)) (jr : JA (dM τ) (UM τ) (nC τ) (rM τ) (τ.1 20).toInt (shF τ) (vv y 45) (vv y 46) (vv y 47)) : ∀ t, t < nCl σ → vv x 50 t = vv y 45 t ∧ vv x 51 t = vv y 46 t ∧ vv x 52 t = vv y 47 t := by
  obtain ⟨wd, wu, wn, wr, wl⟩ := J.wd
  obtain ⟨ρ, hW⟩ := J.1.wo
  rw [← wu, ← wn, ← wr, ← wl, ← wd] at jr
  exact JA.un hW jc jr
theorem Ju.cell {σ τ : VS} (J : Ju σ τ) {p1 : Int32} (h : 0 ≤ p1.toInt ∧ p1.toInt < (σ.1 2).toInt) : ∃ c : Nat, p1.toInt = (c : Int) ∧ c < nCl σ ∧ c < 50 ∧ vv σ 11 c = vv τ 2 c ∧ (0 ≤ vv σ 11 c ∧ vv σ 11 c ≤ 5) := by
  have a2 : 0 ≤ (σ.1 2).toInt ∧ (σ.1 2).toInt ≤ 50 := J.cbt.ci.1 2
  obtain ⟨c, hc⟩ : ∃ c : Nat, p1.toInt = (c : Int) := ⟨p1.toInt.toNat, by omega⟩
  have cn : c < nCl σ := by unfold nCl; omega
  exact ⟨c, hc, cn, by omega, J.1.cell (q := (11, 2)) (by decide) cn, J.cbt.ci.2 11 c⟩
theorem Ju.nn {σ τ : VS} (J : Ju σ τ) : (σ.1 2).toInt = (τ.1 1).toInt := by
  have q : σ.1 2 = τ.1 1 := J.1.1.1.1.2.2.2.2.2.1
  rw [q]
theorem rd_e {x y : VS} {a b c : Nat} {p : Int32} (hp : p.toInt = (c : Int)) (h : vv x a c = vv y b c) : rd x a p = rd y b p := Int32.toInt_inj.mp (by rw [vv_rd hp, vv_rd hp]; exact h)
theorem qu_paths {p1 : Int32} {σ τ : VS} (J : Ju σ τ) : wp_X9paths (fun r σ' => wp_paths (fun r2 τ' => r = r2 ∧ Ju σ' τ') p1 τ) p1 σ := by
  have nn := J.nn
  unfold wp_X9paths
  refine xhas_x (fun h => ⟨fun _ => ?_, fun w => absurd w (by decide)⟩) (fun h => ⟨fun w => absurd rfl w, fun _ => ?_⟩)
  · obtain ⟨c, ec, cn, c5, kd, kb⟩ := J.cell h
    have kM : Kd τ c = vv σ 11 c := kd.symm
    refine cx_isTarget ec c5 (fun k => ⟨fun _ => ?_, fun w => absurd w (by decide)⟩) (fun k => ⟨fun w => absurd rfl w, fun _ => ?_⟩)
    · refine cx_raceQ J (fun x Cx jx _ _ => ⟨⟨by omega, by omega⟩, ?_⟩)
      unfold wp_paths
      refine cell_x (fun _ => ⟨fun _ => isTarget_s ec c5 (fun k2 => ⟨fun _ => rx_judgeQ J.rb (fun y Ry _ jy => ⟨⟨by omega, by omega⟩, rd_e ec (J.ja jx jy c cn).1, J.qq Cx Ry⟩), fun w => absurd w (by decide)⟩) (fun k2 => by omega), fun w => absurd w (by decide)⟩) (fun z => absurd ⟨by omega, by omega⟩ z)
    · unfold wp_paths
      exact cell_x (fun _ => ⟨fun _ => isTarget_s ec c5 (fun k2 => absurd (by omega) k) (fun k2 => ⟨fun w => absurd rfl w, fun _ => ⟨rfl, J⟩⟩), fun w => absurd w (by decide)⟩) (fun z => absurd ⟨by omega, by omega⟩ z)
  · unfold wp_paths
    exact cell_x (fun z => absurd ⟨by omega, by omega⟩ h) (fun _ => ⟨fun w => absurd rfl w, fun _ => ⟨rfl, J⟩⟩)
theorem qu_slack {p1 : Int32} {σ τ : VS} (J : Ju σ τ) : wp_X9slack (fun r σ' => wp_slack (fun r2 τ' => r = r2 ∧ Ju σ' τ') p1 τ) p1 σ := by
  have nn := J.nn
  unfold wp_X9slack wp_X9isTold b_X9isTold_22 b_X9isTold_45 b_X9slack_22
  refine xhas_x (fun h => ⟨fun w => absurd w (by decide), fun _ => ?_⟩) (fun h => ⟨fun _ => ⟨fun _ => ?_, fun w => absurd rfl w⟩, fun w => absurd rfl w⟩)
  · obtain ⟨c, ec, cn, c5, kd, kb⟩ := J.cell h
    have kM : Kd τ c = vv σ 11 c := kd.symm
    refine cx_isTarget ec c5 (fun k => ⟨fun _ => ?_, fun w => absurd w (by decide)⟩) (fun k => ⟨fun w => absurd rfl w, fun _ => ⟨fun _ => ?_, fun w => absurd rfl w⟩⟩)
    · refine cx_raceQ J (fun x Cx jx _ _ => ?_)
      have ref : ∀ r : Int32, (∀ y : VS, JA (dM τ) (UM τ) (nC τ) (rM τ) (τ.1 20).toInt (shF τ) (vv y 45) (vv y 46) (vv y 47) → r = rd y 46 p1) → wp_slack (fun r2 τ' => r = r2 ∧ Ju x τ') p1 τ := fun r hr => by
        unfold wp_slack
        refine cell_x (fun _ => ⟨fun w => absurd w (by decide), fun _ => isTarget_s ec c5 (fun k2 => ⟨fun _ => rx_judgeQ J.rb (fun y Ry _ jy => ⟨⟨by omega, by omega⟩, hr y jy, J.qq Cx Ry⟩), fun w => absurd w (by decide)⟩) (fun k2 => by omega)⟩) (fun z => absurd ⟨by omega, by omega⟩ z)
      have r50 : (rd x 50 p1).toInt = vv x 50 c := vv_rd ec
      refine ⟨⟨by omega, by omega⟩, fun z => ⟨⟨by decide, by decide⟩, fun _ => ref _ (fun y jy => ?_), fun w => absurd rfl w⟩, fun z => ⟨⟨by decide, by decide⟩, fun w => absurd w (by decide), fun _ => ⟨⟨by omega, by omega⟩, ref _ (fun y jy => rd_e ec (J.ja jx jy c cn).2.1)⟩⟩⟩
      have q := JA.z jx cn (by omega)
      have e := (J.ja jx jy c cn).2.1
      refine Int32.toInt_inj.mp ?_
      rw [vv_rd ec, ← e, q.1]; rfl
    · unfold wp_slack b_slack_16
      exact cell_x (fun _ => ⟨fun w => absurd w (by decide), fun _ => isTarget_s ec c5 (fun k2 => absurd (by omega) k) (fun k2 => ⟨fun w => absurd rfl w, fun _ => ⟨rfl, J⟩⟩)⟩) (fun z => absurd ⟨by omega, by omega⟩ z)
  · unfold wp_slack b_slack_16
    exact cell_x (fun z => absurd ⟨by omega, by omega⟩ h) (fun _ => ⟨fun _ => ⟨rfl, J⟩, fun w => absurd rfl w⟩)
theorem qu_hold {p1 : Int32} {σ τ : VS} (J : Ju σ τ) : wp_X9hold (fun r σ' => wp_hold (fun r2 τ' => r = r2 ∧ Ju σ' τ') p1 τ) p1 σ := by
  have nn := J.nn
  unfold wp_X9hold wp_X9isTold b_X9isTold_22 b_X9isTold_45 b_X9hold_22
  refine xhas_x (fun h => ⟨fun w => absurd w (by decide), fun _ => ?_⟩) (fun h => ⟨fun _ => ⟨fun _ => ?_, fun w => absurd rfl w⟩, fun w => absurd rfl w⟩)
  · obtain ⟨c, ec, cn, c5, kd, kb⟩ := J.cell h
    have kM : Kd τ c = vv σ 11 c := kd.symm
    refine cx_isTarget ec c5 (fun k => ⟨fun _ => ?_, fun w => absurd w (by decide)⟩) (fun k => ⟨fun w => absurd rfl w, fun _ => ⟨fun _ => ?_, fun w => absurd rfl w⟩⟩)
    · refine cx_raceQ J (fun x Cx jx _ _ => ?_)
      have ref : ∀ r : Int32, (∀ y : VS, JA (dM τ) (UM τ) (nC τ) (rM τ) (τ.1 20).toInt (shF τ) (vv y 45) (vv y 46) (vv y 47) → r = rd y 47 p1) → wp_hold (fun r2 τ' => r = r2 ∧ Ju x τ') p1 τ := fun r hr => by
        unfold wp_hold
        refine cell_x (fun _ => ⟨fun w => absurd w (by decide), fun _ => isTarget_s ec c5 (fun k2 => ⟨fun _ => rx_judgeQ J.rb (fun y Ry _ jy => ⟨⟨by omega, by omega⟩, hr y jy, J.qq Cx Ry⟩), fun w => absurd w (by decide)⟩) (fun k2 => by omega)⟩) (fun z => absurd ⟨by omega, by omega⟩ z)
      have r50 : (rd x 50 p1).toInt = vv x 50 c := vv_rd ec
      refine ⟨⟨by omega, by omega⟩, fun z => ⟨⟨by decide, by decide⟩, fun _ => ref _ (fun y jy => ?_), fun w => absurd rfl w⟩, fun z => ⟨⟨by decide, by decide⟩, fun w => absurd w (by decide), fun _ => ⟨⟨by omega, by omega⟩, ref _ (fun y jy => rd_e ec (J.ja jx jy c cn).2.2)⟩⟩⟩
      have q := JA.z jx cn (by omega)
      have e := (J.ja jx jy c cn).2.2
      refine Int32.toInt_inj.mp ?_
      rw [vv_rd ec, ← e, q.2]; rfl
    · unfold wp_hold b_hold_16
      exact cell_x (fun _ => ⟨fun w => absurd w (by decide), fun _ => isTarget_s ec c5 (fun k2 => absurd (by omega) k) (fun k2 => ⟨fun w => absurd rfl w, fun _ => ⟨rfl, J⟩⟩)⟩) (fun z => absurd ⟨by omega, by omega⟩ z)
  · unfold wp_hold b_hold_16
    exact cell_x (fun z => absurd ⟨by omega, by omega⟩ h) (fun _ => ⟨fun _ => ⟨rfl, J⟩, fun w => absurd rfl w⟩)
theorem qu_worst {p1 : Int32} {σ τ : VS} (J : Ju σ τ) : wp_X9worst (fun r σ' => wp_worst (fun r2 τ' => r = r2 ∧ Ju σ' τ') p1 τ) p1 σ := by
  obtain ⟨wd, wu, wn, wr, wl⟩ := J.wd
  have i0 : (0 : Int32).toInt = 0 := rfl
  have i1 : (1 : Int32).toInt = 1 := rfl
  unfold wp_X9worst
  refine xwithin_x (fun h => ⟨fun _ => ?_, fun w => absurd w (by decide)⟩) (fun h => ⟨fun w => absurd rfl w, fun _ => ?_⟩)
  · refine cx_raceQ J (fun x Cx jx _ _ => ?_)
    have nx : nCl x = nCl σ := by unfold nCl; rw [Cx.2.1.1 2 (by decide)]
    refine ⟨fun p => cx_leastOfH Cx.1.ci (fun r L => ?_), fun p => cx_leastOfS Cx.1.ci (fun r L => ?_)⟩
    · unfold wp_worst b_worst_26
      refine ⟨fun z => by omega, fun _ => ⟨fun _ => rx_judgeQ J.rb (fun y Ry _ jy => ⟨fun z => by omega, fun _ => rx_worstH Ry.1.1 (fun r2 L2 => ⟨?_, J.qq Cx Ry⟩)⟩), fun z => by omega⟩⟩
      have ny : nC y = nC τ := by unfold nC; rw [Ry.2.1 1 (by decide)]
      rw [nx] at L
      rw [ny, ← wn] at L2
      exact Int32.toInt_inj.mp (LO.un L L2 (fun t ht => ⟨(J.ja jx jy t ht).1, (J.ja jx jy t ht).2.2⟩))
    · unfold wp_worst b_worst_26
      refine ⟨fun z => by omega, fun _ => ⟨fun _ => rx_judgeQ J.rb (fun y Ry _ jy => ⟨fun _ => rx_worstS Ry.1.1 (fun r2 L2 => ⟨?_, J.qq Cx Ry⟩), fun z => by omega⟩), fun z => by omega⟩⟩
      have ny : nC y = nC τ := by unfold nC; rw [Ry.2.1 1 (by decide)]
      rw [nx] at L
      rw [ny, ← wn] at L2
      exact Int32.toInt_inj.mp (LO.un L L2 (fun t ht => ⟨(J.ja jx jy t ht).1, (J.ja jx jy t ht).2.1⟩))
  · unfold wp_worst b_worst_9
    exact ⟨fun _ => ⟨rfl, J⟩, fun p => ⟨fun q => absurd ⟨by omega, by omega⟩ h, fun _ => ⟨rfl, J⟩⟩⟩
theorem Ju.v1 {σ τ x y : VS} (J : Ju σ τ) (lx : ∀ c, c < nCl σ → LE2 (dC σ) (vC x) (vC x) c) (Ry : RQ τ y) (gy : RfE y (rM τ)) : ∀ c, c < nCl σ → Sm (vC x) (vM y) c ∧ Dl (dC σ) (vC x) (vM y) c := by
  obtain ⟨wd, wu, wn, wr, wl⟩ := J.wd
  obtain ⟨ρ, hW⟩ := J.1.wo
  have dy : dM y = dM τ := dM_q Ry.2 (by decide) (by decide) (vv_eo Ry.2 (by decide))
  have ny : nC y = nC τ := by unfold nC; rw [Ry.2.1 1 (by decide)]
  refine un_le hW.1 hW.2.1 lx (fun c hc => ?_)
  have q := gy.2.2.2.2.2.1 c (by omega)
  rw [dy, ← wd] at q
  exact q
theorem qu_told {p1 : Int32} {σ τ : VS} (J : Ju σ τ) : wp_X9told (fun r σ' => wp_told (fun r2 τ' => r = r2 ∧ Ju σ' τ') p1 τ) p1 σ := by
  have nn := J.nn
  unfold wp_X9told b_X9told_63
  refine xhas_x (fun h => ⟨fun _ => ?_, fun w => absurd w (by decide)⟩) (fun h => ⟨fun w => absurd rfl w, fun _ => ?_⟩)
  · obtain ⟨c, ec, cn, c5, kd, kb⟩ := J.cell h
    have kM : Kd τ c = vv σ 11 c := kd.symm
    refine cx_isTarget ec c5 (fun k => ⟨fun _ => ?_, fun w => absurd w (by decide)⟩) (fun k => ⟨fun w => absurd rfl w, fun _ => ?_⟩)
    · refine cx_raceQ J (fun x Cx jx _ lx => ?_)
      have u1 : (p1 * 4).toInt = ((4 * c : Nat) : Int) := by
        have q := i3_mulc (x := p1 * 4) ec (show (4 : Int32).toInt = 4 from rfl) rfl (by omega)
        omega
      have u2 : (4 * p1).toInt = ((4 * c : Nat) : Int) := by
        have q := i3_mulc (x := 4 * p1) (show (4 : Int32).toInt = 4 from rfl) ec rfl (by omega)
        omega
      have x16 : vv x 16 = vv σ 16 := vv_eo Cx.2.1 (by decide)
      have r50 : (rd x 50 p1).toInt = vv x 50 c := vv_rd ec
      have src := (J.1.src (w := 4 * c) (by omega)).1
      have cs : vv σ 16 (4 * c) < ((nCl σ : Nat) : Int) := by
        have q : (σ.2.1 16 (4 * c)).toInt < (σ.1 2).toInt := J.1.1.1.1.2.1 (4 * c)
        have q2 : (σ.2.1 16 (4 * c)).toInt = vv σ 16 (4 * c) := rfl
        have a2 : 0 ≤ (σ.1 2).toInt ∧ (σ.1 2).toInt ≤ 50 := J.cbt.ci.1 2
        unfold nCl
        omega
      have op : ∀ y : VS, RQ τ y → RfE y (rM τ) → 0 ≤ vv σ 16 (4 * c) → vv x 40 (vv σ 16 (4 * c)).toNat = vv y 35 (vv σ 16 (4 * c)).toNat := fun y Ry gy p => (J.v1 lx Ry gy _ (by omega)).1.2.1
      have ref : ∀ r : Int32, (∀ y : VS, RQ τ y → RfE y (rM τ) → JA (dM τ) (UM τ) (nC τ) (rM τ) (τ.1 20).toInt (shF τ) (vv y 45) (vv y 46) (vv y 47) → ((0 ≤ vv σ 16 (4 * c) ∧ vv y 35 (vv σ 16 (4 * c)).toNat ≠ 0 → r = 2) ∧ (¬ (0 ≤ vv σ 16 (4 * c) ∧ vv y 35 (vv σ 16 (4 * c)).toNat ≠ 0) → (vv y 45 c ≤ 0 → r = 0) ∧ (0 < vv y 45 c → r = 1)))) → wp_told (fun r2 τ' => r = r2 ∧ Ju x τ') p1 τ := fun r hr => by
        unfold wp_told b_told_51
        refine cell_x (fun _ => ⟨fun _ => isTarget_s ec c5 (fun k2 => ⟨fun _ => rx_judgeQ J.rb (fun y Ry gy jy => ?_), fun w => absurd w (by decide)⟩) (fun k2 => by omega), fun w => absurd w (by decide)⟩) (fun z => absurd ⟨by omega, by omega⟩ z)
        have h2 := hr y Ry gy jy
        have y7 : (rd y 7 (4 * p1)).toInt = vv τ 7 (4 * c) := by rw [vv_rd u2, vv_eo Ry.2 (by decide)]
        have b7 : -1 ≤ vv τ 7 (4 * c) ∧ vv τ 7 (4 * c) ≤ 49 := J.rb.1.2 7 _
        have y45 : (rd y 45 p1).toInt = vv y 45 c := vv_rd ec
        show wp_isOpenTarget _ p1 y
        unfold wp_isOpenTarget b_isOpenTarget_31 b_isOpenTarget_32
        have no : ¬ (0 ≤ vv σ 16 (4 * c) ∧ vv y 35 (vv σ 16 (4 * c)).toNat ≠ 0) → (In p1 50 ∧ (((rd y 45 p1).toInt ≤ 0 → r = 0 ∧ Ju x y) ∧ (0 < (rd y 45 p1).toInt → r = 1 ∧ Ju x y))) := fun z => ⟨⟨by omega, by omega⟩, fun q => ⟨(h2.2 z).1 (by omega), J.qq Cx Ry⟩, fun q => ⟨(h2.2 z).2 (by omega), J.qq Cx Ry⟩⟩
        refine ⟨⟨by omega, by omega⟩, fun neg => ⟨⟨by decide, by decide⟩, fun _ => no (fun q => by omega), fun w => absurd rfl w⟩, fun pos => ⟨⟨by omega, by omega⟩, ⟨by omega, by omega⟩, ?_⟩⟩
        have e7 : vv τ 7 (4 * c) = vv σ 16 (4 * c) := by omega
        have y35 : (rd y 35 (rd y 7 (4 * p1))).toInt = vv y 35 (vv σ 16 (4 * c)).toNat := vv_rd (by rw [y7]; omega)
        exact ⟨fun z => ⟨⟨by decide, by decide⟩, fun _ => no (fun q => q.2 (by rw [← y35]; exact z)), fun w => absurd rfl w⟩, fun z => ⟨⟨by decide, by decide⟩, fun w => absurd w (by decide), fun _ => ⟨h2.1 ⟨by omega, by rw [← y35]; exact z⟩, J.qq Cx Ry⟩⟩⟩
      refine cx_inO u1 (by omega) Cx.1.ci (fun a b => ⟨fun w => absurd w (by decide), fun _ => ref 2 (fun y Ry gy jy => ?_)⟩) (fun a => ⟨fun _ => ?_, fun w => absurd rfl w⟩)
      · rw [x16] at a b
        exact ⟨fun _ => rfl, fun z => absurd ⟨a, by rw [← op y Ry gy a]; exact b⟩ z⟩
      · rw [x16] at a
        have na : ∀ y : VS, RQ τ y → RfE y (rM τ) → ¬ (0 ≤ vv σ 16 (4 * c) ∧ vv y 35 (vv σ 16 (4 * c)).toNat ≠ 0) := fun y Ry gy q => a ⟨q.1, by rw [op y Ry gy q.1]; exact q.2⟩
        refine ⟨⟨by omega, by omega⟩, fun z => ref 0 (fun y Ry gy jy => ⟨fun q => absurd q (na y Ry gy), fun _ => ⟨fun _ => rfl, fun q => ?_⟩⟩), fun z => ref 1 (fun y Ry gy jy => ⟨fun q => absurd q (na y Ry gy), fun _ => ⟨fun q => ?_, fun _ => rfl⟩⟩)⟩
        · have e := (J.ja jx jy c cn).1
          omega
        · have e := (J.ja jx jy c cn).1
          omega
    · unfold wp_told
      exact cell_x (fun _ => ⟨fun _ => isTarget_s ec c5 (fun k2 => absurd (by omega) k) (fun k2 => ⟨fun w => absurd rfl w, fun _ => ⟨rfl, J⟩⟩), fun w => absurd w (by decide)⟩) (fun z => absurd ⟨by omega, by omega⟩ z)
  · unfold wp_told
    exact cell_x (fun z => absurd ⟨by omega, by omega⟩ h) (fun _ => ⟨fun w => absurd rfl w, fun _ => ⟨rfl, J⟩⟩)
