/-! A PATH IS LAID ALIKE -/
theorem rx_pathN {Q : Int32 → VS → Prop} {p1 p2 : Int32} {τ : VS} (B : RB τ) (h : p2.toInt < 0) (hq : ∀ (r : Int32) (y : VS), RQ τ y → Q r y) : wp_path Q p1 p2 τ := by
  have a1 : 0 ≤ (τ.1 1).toInt ∧ (τ.1 1).toInt ≤ 50 := B.1.1 1
  have R0 : RQ τ τ := ⟨B, Eo.rfl⟩
  unfold wp_path b_path_51
  intro X114 H
  refine cell_x (fun z => ⟨fun _ => ?_, fun w => absurd w (by decide)⟩) (fun _ => ⟨fun w => absurd rfl w, fun _ => hq _ τ R0⟩)
  obtain ⟨c, ec⟩ : ∃ c : Nat, p1.toInt = (c : Int) := ⟨p1.toInt.toNat, by omega⟩
  exact isTarget_s ec (by omega) (fun _ => ⟨fun _ => rx_judgeQ B (fun y Ry _ _ => ⟨⟨by omega, by omega⟩, fun _ => hq _ y Ry, fun _ => ⟨fun _ => hq _ y Ry, fun w => by omega⟩⟩), fun w => absurd w (by decide)⟩) (fun _ => ⟨fun w => absurd rfl w, fun _ => hq _ τ R0⟩)
set_option maxHeartbeats 1000000 in
theorem qu_path {p1 p2 : Int32} {σ τ : VS} (J : Ju σ τ) : wp_X9path (fun _ σ' => wp_path (fun _ τ' => Ju σ' τ') p1 p2 τ) p1 p2 σ := by
  obtain ⟨wd, wu, wn, wr, wl⟩ := J.wd
  have nn := J.nn
  unfold wp_X9path b_X9path_15 b_X9path_63
  refine xhas_x (fun h => ⟨fun w => absurd w (by decide), fun _ => ⟨fun kp => ?_, fun neg => rx_pathN J.rb neg (fun _ y Ry => J.qq J.cq Ry)⟩⟩) (fun h => ⟨fun _ => ?_, fun w => absurd rfl w⟩)
  · obtain ⟨c, ec, cn, c5, kd, kb⟩ := J.cell h
    have kM : Kd τ c = vv σ 11 c := kd.symm
    obtain ⟨k, ek⟩ : ∃ k : Nat, p2.toInt = (k : Int) := ⟨p2.toInt.toNat, by omega⟩
    refine cx_isTarget ec c5 (fun kt => ⟨fun _ => ?_, fun w => absurd w (by decide)⟩) (fun kt => ⟨fun w => absurd rfl w, fun _ => ?_⟩)
    · have tg0 : 3 < vv τ 2 c := by omega
      have tgd : tgD (dC σ) c := by
        unfold tgD
        rw [dC_0 cn]
        omega
      have h1 := J.1.tg1 c cn tgd
      refine cx_refreshRace J.cbt J.2.2.2.2.1 J.2.2.2.2.2.1 (fun u Bu Eu u1 Tu Ru => ?_)
      have Cu : CQ σ τ u := ⟨Bu, Eu, Tu, Ru⟩
      have du : dC u = dC σ := dC_q Eu (by decide) (by decide) (vv_eo Eu (by decide))
      have nu : nCl u = nCl σ := by unfold nCl; rw [Eu.1 2 (by decide)]
      have Uu : UC u = UC σ := UC_same Eu (by decide)
      have Rcu : rC u = rC σ := by unfold rC; rw [Eu.1 6 (by decide)]
      have L4 : u.1 4 = σ.1 4 := Eu.1 4 (by decide)
      have Jc := (Ru u1).2
      have Su := Tu (Ru u1).1
      have J1 := Jc.1
      rw [du, Uu, nu, Rcu, L4] at J1
      have r50 : (rd u 50 p1).toInt = vv u 50 c := vv_rd ec
      have bad : (1000 ≤ vv u 50 c ∨ vv u 50 c ≤ (k : Int)) → wp_path (fun _ τ' => Ju u τ') p1 p2 τ := fun bd => rx_path J.rb ec ek (by omega) tg0 (fun θ Rθ _ _ => J.qq Cu Rθ) (fun θ x y jr l1 l2 _ _ _ _ => by
        exfalso
        have q := (J.ja J1 jr c cn).1
        omega)
      refine ⟨⟨by omega, by omega⟩, fun z => bad (Or.inl (by omega)), fun z => ⟨⟨by omega, by omega⟩, fun y => ?_, fun y => bad (Or.inr (by omega))⟩⟩
      have pt : 0 < vv u 50 c := by omega
      have lt : vv u 50 c < 1000 := by omega
      have kl : (k : Int) < vv u 50 c := by omega
      obtain ⟨ρ, hW⟩ := Bu.1.wo
      obtain ⟨FF, hF⟩ := FF_ex (U := UC u) (R := rC u) hW c
      obtain ⟨tp, alen, eb⟩ := Bu.trp Su Jc hF (by omega) pt lt
      refine cx_traceS (k := k) (t := c) ec ek Bu.ci (Bu.lye Su) hW tp (by omega) (fun v i yy Mv Ev hyy kr lay => ?_)
      have Bv : CBt v τ := Bu.qc Mv (Ev.mono (by decide) (by decide))
      have Tv : CTm v := Tu.same Bu.ci Ev (by decide) (by decide)
      have Rv : CRc v τ := Ru.same Ev (by decide) (by decide) (by decide)
      have hWs : Wo (dC σ) (nCl σ) ρ := by rw [← du, ← nu]; exact hW
      have hFs : OkF (dC σ) (UC σ) (nCl σ) (rC σ) c FF := by rw [← du, ← Uu, ← nu, ← Rcu]; exact hF
      have paC : PA (dC σ) (UC σ) (nCl σ) (rC σ) (σ.1 4).toInt (shF τ) c k yy := by
        rw [← du, ← Uu, ← nu, ← Rcu, ← L4]
        refine ⟨vC u, FF, i, fun c hc => (Su c hc).1, tp.2.2.2.1, hF, by rw [eb]; exact hyy, ⟨by rw [eb]; omega, by rw [eb]; omega⟩, ?_⟩
        unfold slD
        rw [eb, ← rm_D (by omega)]
        exact kr
      have hyM : yy ∈ APk (dC σ) FF (bC (UC σ 2) (rC σ)) (nCl σ) := by
        rw [← du, ← Uu, ← nu, ← Rcu, eb]
        exact List.mem_of_getElem? hyy
      have hLu : ∀ a, a < nCl σ → LE2 (dC σ) (vC u) (vC u) a := fun a ha => by
        have q := (Su a (by omega)).1
        rw [du] at q
        exact q
      have ho : vC u 1 (fD (dC σ) c) = 0 := by rw [← du]; exact tp.2.2.2.1
      have lyC : LyX (fun k j => vv v (55 + k) j) (v.1 16).toInt (v.1 17).toInt (v.1 18).toInt (dC σ) (vC u) (UC σ) (rC σ) (σ.1 4).toInt (shF τ) c yy := by
        obtain ⟨y0, y1, y2, y3⟩ := lay
        rw [← du, ← Uu, ← Rcu, ← L4]
        refine ⟨y0, y1, ?_, ?_⟩
        · rw [y2]
          unfold slD slkA rmD
          rw [eb, (UC_4 (by omega)).1]
        · rw [y3]
          unfold hrD
          rw [(UC_4 (by omega)).2]
      refine rx_path J.rb ec ek (by omega) tg0 (fun θ Rθ jr bd => ?_) (fun θ x y jr l1 l2 Bx Ex pa ⟨V, hL, ly⟩ => ?_)
      · exfalso
        have q := (J.ja J1 jr c cn).1
        omega
      · rw [← wu, ← wn, ← wr, ← wl, ← wd] at pa
        rw [← wn, ← wd] at hL
        rw [← wu, ← wr, ← wl, ← wd] at ly
        have eyy : yy = y := PA.un hWs h1 paC pa
        rw [← eyy] at ly
        obtain ⟨g0, g1, g2, g3⟩ := LyX.un hWs hLu hL h1 ho hFs hyM lyC ly
        have Jx : Jt v x := Bv.1.mq Bx Ex (by decide) (by decide) (by decide) (by decide)
        refine ⟨Jx, Bx.2.2.2.1, ?_, Bv.2.2, Tv, Rv.sh (shF_same Ex (by decide)), g0, fun _ => ⟨Int32.toInt_inj.mp g1, Int32.toInt_inj.mp g2⟩, fun j hj => ⟨Int32.toInt_inj.mp (g3 0 j (by omega) hj), Int32.toInt_inj.mp (g3 1 j (by omega) hj), Int32.toInt_inj.mp (g3 2 j (by omega) hj), Int32.toInt_inj.mp (g3 3 j (by omega) hj)⟩⟩
        unfold Sz nCl
        rw [Ev.2 14 (by decide), Ev.1 2 (by decide), Eu.2 14 (by decide), Eu.1 2 (by decide), Ex.2 5 (by decide)]
        exact J.2.2.1
    · unfold wp_path
      intro X114 H
      exact cell_x (fun _ => ⟨fun _ => isTarget_s ec c5 (fun k2 => absurd (by omega) kt) (fun k2 => ⟨fun w => absurd rfl w, fun _ => J⟩), fun w => absurd w (by decide)⟩) (fun z => absurd ⟨by omega, by omega⟩ z)
  · unfold wp_path
    intro X114 H
    exact cell_x (fun z => absurd ⟨by omega, by omega⟩ h) (fun _ => ⟨fun w => absurd rfl w, fun _ => J⟩)
