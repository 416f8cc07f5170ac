/-! PATHS ON BOTH SIDES -/
abbrev PFX : List Nat := [30, 32, 48, 61, 62, 67, 68]
abbrev PAX : List Nat := [31, 33, 34, 35, 36, 37, 38, 39, 40, 41, 42, 43, 44, 45, 46, 47, 49, 50, 51, 52, 53, 54, 55, 56, 57, 58, 59, 60, 63, 64, 65, 66]
set_option maxHeartbeats 4000000 in
theorem rx_path {Q : Int32 → VS → Prop} {p1 p2 : Int32} {τ : VS} {t k : Nat} (B : RB τ) (e1 : p1.toInt = (t : Int)) (e2 : p2.toInt = (k : Int)) (ht0 : t < nC τ) (tg0 : 3 < vv τ 2 t) (hq0 : ∀ θ : VS, RQ τ θ → JA (dM τ) (UM τ) (nC τ) (rM τ) (τ.1 20).toInt (shF τ) (vv θ 45) (vv θ 46) (vv θ 47) → (1000 ≤ vv θ 45 t ∨ vv θ 45 t ≤ (k : Int)) → Q (-1) θ) (hq1 : ∀ (θ x : VS) (y : Nat × Nat × List Nat), JA (dM τ) (UM τ) (nC τ) (rM τ) (τ.1 20).toInt (shF τ) (vv θ 45) (vv θ 46) (vv θ 47) → vv θ 45 t < 1000 → (k : Int) < vv θ 45 t → RB x → Eo PFX PAX τ x → PA (dM τ) (UM τ) (nC τ) (rM τ) (τ.1 20).toInt (shF τ) t k y → (∃ V, (∀ c, c < nC τ → LE2 (dM τ) V V c) ∧ LyX (fun k j => vv x (63 + k) j) (x.1 62).toInt (x.1 67).toInt (x.1 68).toInt (dM τ) V (UM τ) (rM τ) (τ.1 20).toInt (shF τ) t y) → Q (x.1 62) x) : wp_path Q p1 p2 τ := by
  have a1' : 0 ≤ (τ.1 1).toInt ∧ (τ.1 1).toInt ≤ 50 := B.1.1 1
  have en' : (τ.1 1).toInt = ((nC τ : Nat) : Int) := by unfold nC; omega
  have kM : Kd τ t = vv τ 2 t := rfl
  unfold wp_path
  intro X114 H
  refine cell_x (fun _ => ⟨fun _ => isTarget_s e1 (by omega) (fun _ => ⟨fun _ => ?_, fun w => absurd w (by decide)⟩) (fun w => by omega), fun w => absurd w (by decide)⟩) (fun z => absurd ⟨by omega, by omega⟩ z)
  refine rx_judgeQ B (fun θ Rθ G Jθ => ?_)
  have dθ : dM θ = dM τ := dM_q Rθ.2 (by decide) (by decide) (vv_eo Rθ.2 (by decide))
  have nθ : nC θ = nC τ := by unfold nC; rw [Rθ.2.1 1 (by decide)]
  have rθ : rM θ = rM τ := by unfold rM; rw [Rθ.2.1 25 (by decide)]
  have Uθ : UM θ = UM τ := UM_same Rθ.2 (by decide)
  have lθ : θ.1 20 = τ.1 20 := Rθ.2.1 20 (by decide)
  have sθ : shF θ = shF τ := shF_same Rθ.2 (by decide)
  have r45 : (rd θ 45 p1).toInt = vv θ 45 t := vv_rd e1
  have b45 : 0 ≤ vv θ 45 t ∧ vv θ 45 t ≤ 1000 := Rθ.1.1.2 45 t
  refine ⟨⟨by omega, by omega⟩, fun w => hq0 θ Rθ Jθ (Or.inl (by omega)), fun w => ⟨fun neg => by omega, fun _ => ⟨⟨by omega, by omega⟩, fun lt => ?_, fun ge => hq0 θ Rθ Jθ (Or.inr (by omega))⟩⟩⟩
  have hp : vv θ 45 t < 1000 := by omega
  have kp : (k : Int) < vv θ 45 t := by omega
  have J : JA (dM θ) (UM θ) (nC θ) (rM θ) (θ.1 20).toInt (shF θ) (vv θ 45) (vv θ 46) (vv θ 47) := by
    rw [dθ, Uθ, nθ, rθ, lθ, sθ]
    exact Jθ
  rw [← rθ] at G
  have G0 := G
  obtain ⟨hM, hS, hD, hWr, hN, hL, hR⟩ := G0
  have a1 : 0 ≤ (θ.1 1).toInt ∧ (θ.1 1).toInt ≤ 50 := hM.1 1
  have en : (θ.1 1).toInt = ((nC θ : Nat) : Int) := by unfold nC; omega
  have n50 : nC θ ≤ 50 := by omega
  have tn : t < nC θ := by omega
  obtain ⟨ρ, hW, hρ⟩ := TD.wo hM hS hWr hD
  have tg : tgD (dM θ) t := Classical.byContradiction (fun z => by
    have q := ((J t tn).2 z).1
    omega)
  have ht1 : dM θ 1 t = 1 := by
    rw [dM_1 tn]
    unfold tgD at tg
    rw [dM_0 tn] at tg
    exact hS.2.2.2.1 t (by omega) tg
  obtain ⟨V, BB, hO, hE⟩ := (J t tn).1 tg
  have w0 := hE.1
  have pos0 : 0 < nT (isD (dM θ) V) (cnD (dM θ) (UM θ) (rM θ) BB) (nC θ) t := by omega
  have op := nT_opn hW hO tn pos0
  obtain ⟨FF, hF⟩ := FF_ex (U := UM θ) (R := rM θ) hW t
  have alen := APk_len hW hO hF tn tg ht1 op.1 op.2 (nC θ) (Nat.le_refl _)
  have U0 := un_le hW.1 hW.2.1 hO.1 hL
  have ho : vM θ 1 (fD (dM θ) t) = 0 := by rw [← (U0 _ (fD_lt hW tn op.1)).1.2.1]; exact op.2
  obtain ⟨FFR, hFR⟩ : ∃ FFR : Nat → Nat → Nat → List (List Nat), ∀ s c m, c < nC θ → FFR s c m = FPs (dM θ) (nmR θ (rM θ) t s) (bR (vv θ 28) (rM θ)) t (nC θ) (FFR s) c m := Classical.axiomOfChoice (fun s => FP_ex hW (nmR θ (rM θ) t s) (bR (vv θ 28) (rM θ)) t)
  have ap := AP_R hM hR hW hFR hF (θ.1 20).toInt (fun s => rmD (dM θ) (UM θ) (shF θ) s t)
  have hLI : LI θ := Rθ.1.2.2.2.2
  have hZ : Dz θ := Rθ.1.2.2.2.1
  refine rx_list (R := rM θ) (nmS := nmR θ (rM θ) t) (FF := FFR) (b := bR (vv θ 28) (rM θ)) e1 tn hLI G hW hρ (fun s hs => ⟨rfl, fun m _ => rfl, hFR s, tn, ht1, tg, ho⟩) (by rw [ap.1, alen]; omega) (fun x Mx Ex Ix En Rk => ?_)
  have slEq : slkA (dM θ) (vM θ) (nmR θ (rM θ) t) (bR (vv θ 28) (rM θ)) (θ.1 20).toInt (fun s => rmD (dM θ) (UM θ) (shF θ) s t) = slD (dM θ) (vM θ) (UM θ) (rM θ) (θ.1 20).toInt (shF θ) t := funext ap.2
  rw [ap.1, slEq] at Rk
  rw [ap.1, slEq] at En
  obtain ⟨i, ei, kr⟩ := Rk k (by rw [alen]; omega)
  obtain ⟨y, hy⟩ := get_ex (L := APk (dM θ) FF (bC (UM θ 2) (rM θ)) (nC θ)) (j := i) (by obtain ⟨_, _, _, _, q⟩ := kr; exact q)
  have pa : PA (dM θ) (UM θ) (nC θ) (rM θ) (θ.1 20).toInt (shF θ) t k y := ⟨vM θ, FF, i, hL, ho, hF, hy, ⟨by rw [alen]; omega, by rw [alen]; omega⟩, kr⟩
  have ent := En i y hy
  have i1000 : i < 1000 := by
    have q := (List.getElem?_eq_some_iff.mp hy).1
    rw [alen] at q
    omega
  have ym := List.mem_of_getElem? hy
  have mem := APk_mem _ ym
  have ng : ¬ gN (dM θ) y.1 := fun g => by
    have g1 := g.1
    have g2 := g.2
    have kk := mem.2.1
    omega
  have pl := FP_pl hW (hF y.1) mem.1 ng mem.2.2.2
  have dx : dM x = dM θ := dM_q Ex (by decide) (by decide) (vv_eo Ex (by decide))
  have nx : nC x = nC θ := by unfold nC; rw [Ex.1 1 (by decide)]
  have vx : ∀ k, 34 + k ∉ AL → vM x k = vM θ k := fun k hk => by
    funext j
    show vv x (34 + k) j = vv θ (34 + k) j
    rw [vv_eo Ex hk]
  have hLx : ∀ c, c < nC x → LE2 (dM x) (vM x) (vM x) c := fun c hc => by
    rw [dx]
    exact LE2_v (vx 0 (by decide)) (vx 1 (by decide)) (vx 2 (by decide)) (vx 3 (by decide)) (vx 4 (by decide)) (vx 5 (by decide)) (hL c (by omega))
  have hWx : Wo (dM x) (nC x) ρ := by rw [dx, nx]; exact hW
  have hFx : ∀ c m, c < nC x → FF y.1 c m = FPs (dM x) (nmD (UM θ) (rM θ) y.1 t) (bC (UM θ 2) (rM θ)) t (nC x) (FF y.1) c m := by
    rw [dx, nx]
    exact hF y.1
  have hox : vM x 1 (fD (dM x) t) = 0 := by rw [vx 1 (by decide), dx]; exact ho
  have Sx : SI x := hS.same Ex (by decide)
  have Nx : NdR x := hN.same Ex (by decide)
  have Wx : WRm x := hWr.same Ex (by decide)
  have Zx : Dz x := hZ.sz Ex (by decide) (fun c _ => by rw [vv_eo Ex (by decide)])
  have oy : vM θ 1 y.1 = 0 := FP_opn hW hL (hF y.1) ht1 ho y.1 mem.1 _ _ mem.2.2.2
  have hSd : isD (dM θ) (vM θ) y.1 := ⟨mem.2.1, oy⟩
  have ry : vM θ 0 y.1 ≠ 0 := isD_r (hL _ mem.1) hSd
  have sn : y.1 < nC x := by have q := mem.1; omega
  have he : y.2.1 < 2 := mem.2.2.1
  have kx : vv x 2 y.1 = 0 ∨ vv x 2 y.1 = 4 := by
    have q := mem.2.1
    rw [← dx, dM_0 sn] at q
    exact q
  obtain ⟨ρ2, hRk⟩ := SI.rk Mx Sx
  obtain ⟨Bp, hB⟩ := BP_ex hRk (vM x 1) y.1
  have rs : RsM x (rM θ) y.1 Bp := ⟨by rw [Ex.1 25 (by decide)]; exact hR, hB, hLx, ⟨sn, kx, by rw [vx 1 (by decide)]; exact oy⟩, Nx⟩
  have q := rs.st Mx Sx he
  have sL := saL_D sn he
  have ent1 := ent.1
  refine ⟨⟨by omega, by omega⟩, fun x9 e9 => ?_⟩
  have t9 : x9.toInt = (i : Int) := by rw [e9, vv_rd e2]; exact ei
  refine ⟨⟨by omega, by omega⟩, fun x10 e10 => ⟨⟨by omega, by omega⟩, fun x11 e11 => ?_⟩⟩
  have t10 : x10.toInt = (y.1 : Int) := by rw [e10, vv_rd t9]; exact ent1.2.1
  have t11 : x11.toInt = (y.2.1 : Int) := by rw [e11, vv_rd t9]; exact ent1.2.2.1
  refine rx_startLate t10 t11 sn he Sx Mx Nx (fun kk => (q.1 kk).1) (fun r12 e12 => rx_startEarly t10 t11 sn he Sx Mx Nx (fun kk => (q.1 kk).2) (fun r14 e14 => ⟨⟨by omega, by omega⟩, ?_⟩))
  have b12 := q.2.1
  have b14 := q.2.2
  rw [← e12] at b12
  rw [← e14] at b14
  rw [sL.1] at e12
  rw [sL.2] at e14
  obtain ⟨v52, h52⟩ : ∃ v : Int32, v = rd x 52 x9 := ⟨_, rfl⟩
  rw [← h52]
  have t52 : v52.toInt = ((y.2.2.length + 1 : Nat) : Int) := by rw [h52, vv_rd t9]; exact ent1.2.2.2
  obtain ⟨z0, hz0⟩ : ∃ z : VS, z = sf x 62 v52 := ⟨_, rfl⟩
  rw [← hz0]
  have Mz0 : MI z0 := by rw [hz0]; exact Mx.sf 62 _ (show 0 ≤ v52.toInt ∧ v52.toInt ≤ 52 by omega)
  have Ez0 : Eo [62] [63, 64, 65, 66] x z0 := by rw [hz0]; exact Eo.rfl.sf 62 _ (by decide)
  have z62 : (z0.1 62).toInt = ((y.2.2.length + 1 : Nat) : Int) := by rw [hz0, sf_same]; exact t52
  have i0 : (0 : Int32).toInt = ((0 : Nat) : Int) := rfl
  have i0' : (0 : Int32).toInt = 0 := rfl
  have u1 : (52 * x9).toInt = 52 * (i : Int) := i3_mulc rfl t9 rfl (by have w : (52 : Int32).toInt = 52 := rfl; omega)
  have u2 : ((52 * x9) + 0).toInt = ((52 * i : Nat) : Int) := by
    have w := i3_addc (x := (52 * x9) + 0) u1 i0' rfl (by omega)
    omega
  refine H _ _ _ _ _ _ _ _ ?_
  unfold b_path_114 b_path_201 b_path_259
  refine ⟨fun w => by omega, fun _ => ⟨⟨by omega, by omega⟩, fun x20 e20 => ?_⟩⟩
  have t20 : x20.toInt = (y.1 : Int) := by rw [e20, vv_rd u2, vv_eo Ez0 (by decide)]; exact ent.2.2.1.1
  obtain ⟨i54, e54⟩ : ∃ i54 : Int32, i54 = rd (sa z0 63 0 x20) 54 ((52 * x9) + 0) := ⟨_, rfl⟩
  rw [← e54]
  have t54 : i54.toInt = -1 := by rw [e54, vv_rd u2, vv_so (by decide), vv_eo Ez0 (by decide)]; exact ent.2.2.1.2
  refine ⟨⟨by omega, by omega⟩, ⟨by omega, by omega⟩, ⟨by omega, by omega⟩, fun _ => ⟨⟨by omega, by omega⟩, ⟨by omega, by omega⟩, ?_⟩, fun w => by omega⟩
  refine pt_w (P := fun u => X114 p1 x9 x10 x11 r12 r14 (0 + 1) u) i0 Mz0 ⟨by omega, by omega⟩ ⟨by omega, by omega⟩ ⟨by omega, by omega⟩ (fun z' M' E' s62 hne hat => ?_)
  have Lrun := pt_run (X114 := X114) (Q := Q) (l1 := p1) (l4 := x10) H Mx hWx hLx hFx (by rw [dx]; exact ht1) (by omega) hox t9 i1000 y.1 sn (bC (UM θ 2) (rM θ) y.1) y.2.2 mem.2.2.2 (by rw [vx 0 (by decide)]; exact ry) 1 y.2.1 x11 r12 r14 (0 + 1) z' rfl (by omega) (by rw [s62, z62]; omega) (by omega) t11 he ⟨by omega, by omega⟩ ⟨by omega, by omega⟩ M' (Ez0.trans E') (fun kk w hw => by
    exact ent.2.2.2 kk w hw)
  refine Lrun (fun l5' l6' l7' l8' z'' t8'' M'' E'' s62'' keep ste e7 b7' => ?_)
  refine H _ _ _ _ _ _ _ _ ?_
  unfold b_path_114
  have zz62 : (z''.1 62).toInt = ((1 + y.2.2.length : Nat) : Int) := by
    rw [s62'', s62, z62]
    omega
  refine ⟨fun _ => ⟨⟨by omega, by omega⟩, ⟨by omega, by omega⟩, ?_⟩, fun w => by omega⟩
  obtain ⟨u, hu⟩ : ∃ u : VS, u = sf z'' 67 (rd z'' 49 x9) := ⟨_, rfl⟩
  rw [← hu]
  have Mu : MI u := by rw [hu]; exact M''.sf 67 _ (i3_bd _)
  have Eu : Eo [62, 67, 68] [63, 64, 65, 66] x u := by rw [hu]; exact (E''.mono (by decide) (by decide)).sf 67 _ (by decide)
  have Su : SI u := Sx.same Eu (by decide)
  have Nu : NdR u := Nx.same Eu (by decide)
  have nu : nC u = nC x := by unfold nC; rw [Eu.1 1 (by decide)]
  have du : dM u = dM x := dM_q Eu (by decide) (by decide) (vv_eo Eu (by decide))
  have cu : (u.1 1).toInt = ((nC x : Nat) : Int) := by rw [Eu.1 1 (by decide), Ex.1 1 (by decide), en, nx]
  have u67 : (u.1 67).toInt = slD (dM θ) (vM θ) (UM θ) (rM θ) (θ.1 20).toInt (shF θ) t y := by
    rw [hu, sf_same, vv_rd t9, vv_eo E'' (by decide)]
    exact ent1.1
  refine rx_lateOf (nd_ok Su Mu ⟨by omega, by omega⟩) Su Mu Nu (fun r16 e16 b16 => ⟨⟨by omega, by omega⟩, rx_sharedM t10 e1 (by omega) (by omega) Su Mu ?_⟩)
  have l16 : r16.toInt = dM θ 13 t := by
    rw [e16, vv_rd e1, ← dx, ← du, dM_13 (by omega)]
  have r13 : (rd u 13 p1).toInt = UM θ 5 t := by
    rw [vv_rd e1, vv_eo Eu (by decide), vv_eo Ex (by decide), (UM_4 tn).2]
  have b13 : -10000 ≤ (rd u 13 p1).toInt ∧ (rd u 13 p1).toInt ≤ 10000 := by
    rw [vv_rd e1]
    exact Mu.2 13 t
  have shu : (shM u y.1 t).toInt = shF θ y.1 t := by
    show shF u y.1 t = shF θ y.1 t
    rw [shF_same Eu (by decide), shF_same Ex (by decide)]
  have bsh := shM_b Mu Nu y.1 t
  obtain ⟨v, hv⟩ : ∃ v : Int32, v = ((l7' - r16) - (rd u 13 p1)) + shM u y.1 t := ⟨_, rfl⟩
  rw [← hv]
  have w1 : (l7' - r16).toInt = l7'.toInt - r16.toInt := i3_subc rfl rfl rfl (by omega)
  have w2 : ((l7' - r16) - (rd u 13 p1)).toInt = l7'.toInt - r16.toInt - (rd u 13 p1).toInt := i3_subc w1 rfl rfl (by omega)
  have tv : v.toInt = l7'.toInt - r16.toInt - (rd u 13 p1).toInt + (shM u y.1 t).toInt := i3_addc w2 rfl hv (by omega)
  obtain ⟨g, hg⟩ : ∃ g : VS, g = sf u 68 v := ⟨_, rfl⟩
  rw [← hg]
  have Mg : MI g := by rw [hg]; exact Mu.sf 68 _ (i3_bd _)
  have Eg : Eo [62, 67, 68] [63, 64, 65, 66] x g := by rw [hg]; exact Eu.sf 68 _ (by decide)
  have Bg : RB g := ⟨Mg, Sx.same Eg (by decide), Wx.same Eg (by decide), Zx.sz Eg (by decide) (fun c _ => by rw [vv_eo Eg (by decide)]), Ix.same Eg (by decide)⟩
  have Eτ : Eo PFX PAX τ g := ((Rθ.2.mono (by decide) (by decide)).of Ex (by decide) (by decide)).of Eg (by decide) (by decide)
  have g62 : (g.1 62).toInt = ((1 + y.2.2.length : Nat) : Int) := by rw [hg, sf_other (by decide), hu, sf_other (by decide)]; exact zz62
  have g67 : g.1 67 = u.1 67 := by rw [hg, sf_other (by decide)]
  have g68 : (g.1 68).toInt = v.toInt := by rw [hg, sf_same]
  have gA : ∀ k j, k < 4 → vv g (63 + k) j = vv z'' (63 + k) j := fun k j hk => by
    rw [hg, hu]
    rfl
  rw [dθ, Uθ, nθ, rθ, lθ, sθ] at pa
  refine hq1 θ g y Jθ hp kp Bg Eτ pa ⟨vM x, fun c hc => ?_, ?_, ⟨⟨?_, ?_, ?_, ?_⟩, ?_⟩, ?_, ?_⟩
  · have qq := hLx c (by omega)
    rw [dx, dθ] at qq
    exact qq
  · exact g62
  · show vv g (63 + 0) 0 = (y.1 : Int)
    rw [gA 0 0 (by omega), keep 0 0 (by omega) (by omega), ← t20]; exact hat.1
  · show vv g (63 + 1) 0 = -1
    rw [gA 1 0 (by omega), keep 1 0 (by omega) (by omega), ← t54]; exact hat.2.1
  · show vv g (63 + 2) 0 = (y.2.1 : Int)
    rw [gA 2 0 (by omega), keep 2 0 (by omega) (by omega), ← t11]; exact hat.2.2.1
  · show vv g (63 + 3) 0 = saD (dM τ) (vM x) (2 * y.1 + y.2.1)
    rw [gA 3 0 (by omega), keep 3 0 (by omega) (by omega), ← dθ, ← dx, ← e12]; exact hat.2.2.2
  · rw [← dθ, ← dx, ← e12]
    refine Ste_k (fun k j hk => (gA k j hk).symm) _ _ ste
  · rw [g67, u67, ← dθ, ← Uθ, ← rθ, ← lθ, ← sθ]
    have qq := slD_c (len := (θ.1 20).toInt) (sh := shF θ) hW hL (V' := vM x) (fun c hc => by
      have q3 := hLx c (by omega)
      rw [dx] at q3
      exact q3) ht1 ho hF ym
    exact qq.2
  · rw [g68, tv, e7, l16, r13, shu, e14, ← dθ, ← Uθ, ← sθ, dx]
    unfold hrD
    omega
