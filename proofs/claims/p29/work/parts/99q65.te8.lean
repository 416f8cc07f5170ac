/-! THE REFERENCE FIXES -/
abbrev RFX : List Nat := [30, 32, 48, 61]
abbrev RAX : List Nat := [5, 31, 33, 34, 35, 36, 37, 38, 39, 42, 43, 44, 45, 46, 47, 49, 50, 51, 52, 53, 54, 55, 56, 57, 58, 59, 60]
def RB (τ : VS) : Prop := MI τ ∧ SI τ ∧ WRm τ ∧ Dz τ ∧ LI τ
theorem Dz.sz {F A : List Nat} {σ τ : VS} (h : Dz σ) (e : Eo F A σ τ) (hk : (1 ∉ F ∧ 21 ∉ F) ∧ 2 ∉ A ∧ 6 ∉ A ∧ 7 ∉ A ∧ 23 ∉ A ∧ 24 ∉ A) (h5 : ∀ c, vv σ 2 c = 5 → vv τ 5 c = vv σ 5 c) : Dz τ := by
  obtain ⟨⟨f1, f21⟩, a2, a6, a7, a23, a24⟩ := hk
  have nn : nC τ = nC σ := by unfold nC; rw [e.1 1 f1]
  refine ⟨fun c hc k => ?_, h.2.1.same e ⟨f21, a23, a24⟩, ?_⟩
  · rw [vv_eo e a2] at k
    rw [vv_eo e a6, h5 c k]
    exact h.1 c (by omega) k
  · rw [vv_eo e a2, vv_eo e a7, nn]
    exact h.2.2
theorem TD.wo {θ : VS} (hM : MI θ) (hS : SI θ) (hWr : WRm θ) (hD : TD θ) : ∃ ρ, Wo (dM θ) (nC θ) ρ ∧ ∀ c, c < nC θ → ρ c < 50 := by
  obtain ⟨ρ, hR, hb⟩ := hD.rk hM hS
  obtain ⟨ρ0, hW⟩ := SI.wo hM hS hWr
  exact ⟨ρ, ⟨hR, hW.2⟩, hb⟩
theorem nmMm_D {σ : VS} {R s t m : Nat} (hR : (σ.1 25).toInt = (R : Int)) : perK (vv σ 26) (hitC (vv σ 27) (vv σ 29) s t (m ||| bC (vv σ 28) R t)) R = nmD (UM σ) R s t m := by
  have eb : bC (UM σ 2) R = bC (vv σ 28) R := bC_c (fun i hi => (UM_r hR hi).2.2.1)
  unfold nmD
  rw [eb]
  exact perK_c R (fun k hk => ⟨hitC_c (UM_r hR hk).2.1.symm (UM_r hR hk).2.2.2.symm, (UM_r hR hk).1.symm⟩)
def nmR (θ : VS) (R t s m : Nat) : Int := perK (vv θ 26) (hitR (vv θ 27) (vv θ 28) (vv θ 29) s t (m ||| bR (vv θ 28) R t)) R
/-- the reference's list is the list of both -/
theorem AP_R {θ : VS} {R t : Nat} {ρ : Nat → Nat} {FFR FF : Nat → Nat → Nat → List (List Nat)} (hM : MI θ) (hR : (θ.1 25).toInt = (R : Int)) (hW : Wo (dM θ) (nC θ) ρ) (hFR : ∀ s c m, c < nC θ → FFR s c m = FPs (dM θ) (nmR θ R t s) (bR (vv θ 28) R) t (nC θ) (FFR s) c m) (hF : OkF (dM θ) (UM θ) (nC θ) R t FF) (len : Int) (rm : Nat → Int) : APk (dM θ) FFR (bR (vv θ 28) R) (nC θ) = APk (dM θ) FF (bC (UM θ 2) R) (nC θ) ∧ ∀ x, slkA (dM θ) (vM θ) (nmR θ R t) (bR (vv θ 28) R) len rm x = slkA (dM θ) (vM θ) (fun s => nmD (UM θ) R s t) (bC (UM θ 2) R) len rm x := by
  have eb : bC (UM θ 2) R = bC (vv θ 28) R := bC_c (fun i hi => (UM_r hR hi).2.2.1)
  have pe : ∀ s m m', CoM (vv θ 28) R m m' → nmD (UM θ) R s t m = nmR θ R t s m' := fun s m m' h => by
    rw [← nmMm_D hR]
    exact per_Co (fun k _ => (hM.2 27 k).1) (fun k _ => (hM.2 28 k).1) (fun k _ => (hM.2 29 k).1) h
  rw [eb]
  refine ⟨(APk_c (nC θ) (fun s hs => ?_)).symm, fun x => ?_⟩
  · have hF2 : ∀ c m, c < nC θ → FF s c m = FPs (dM θ) (nmD (UM θ) R s t) (bC (vv θ 28) R) t (nC θ) (FF s) c m := fun c m hc => by
      have q := hF s c m hc
      rw [eb] at q
      exact q
    exact FP_cr hW hF2 (hFR s) (Co := CoM (vv θ 28) R) (fun m m' h => pe s m m' h) (fun c m m' _ h => h.or) s hs _ _ CoM.b
  · unfold slkA
    have q := pe x.1 _ _ (endM_Co x.2.2 (bC (vv θ 28) R x.1) (bR (vv θ 28) R x.1) CoM.b)
    rw [← q]
theorem Ent_cel {x : VS} {j : Nat} {y : Nat × Nat × List Nat} {sl : Int} (h : Ent x j y sl) : ∀ k c, (celF y)[k]? = some c → vv x 53 (52 * j + k) = ((c : Nat) : Int) := fun k c hc => by
  cases k with
  | zero =>
    have e : some y.1 = some c := hc
    injection e with e
    rw [Nat.add_zero, ← e]
    exact h.2.2.1.1
  | succ k =>
    have hc2 : (gsP y.2.2)[k]? = some c := hc
    unfold gsP at hc2
    rw [List.getElem?_map] at hc2
    obtain ⟨w, hw, e⟩ := Option.map_eq_some_iff.mp hc2
    rw [List.getElem?_dropLast] at hw
    by_cases z : k < y.2.2.length - 1
    · rw [if_pos z] at hw
      have q := (h.2.2.2 k w hw).1
      rw [show 52 * j + (k + 1) = 52 * j + 1 + k by omega, q, ← e]
    · rw [if_neg z] at hw
      cases hw
set_option maxHeartbeats 4000000 in
theorem rx_grows {Q : Int32 → VS → Prop} {p1 : Int32} {θ : VS} {t rh : Nat} (G : RfE θ (rM θ)) (hz : Dz θ) (hLI : LI θ) (J : JA (dM θ) (UM θ) (nC θ) (rM θ) (θ.1 20).toInt (shF θ) (vv θ 45) (vv θ 46) (vv θ 47)) (h1 : p1.toInt = (t : Int)) (ls : LO (nC θ) (vv θ 45) (vv θ 46) (t : Int)) (lh : LO (nC θ) (vv θ 45) (vv θ 47) (rh : Int)) (hp : vv θ 45 t < 1000) (hq : ∀ (r : Int32) (x : VS) (y : Nat × Nat × List Nat), RB x → Eo RFX RAX θ x → PA (dM θ) (UM θ) (nC θ) (rM θ) (θ.1 20).toInt (shF θ) t 0 y → ((r.toInt = 0 ∧ grF (Tr1 (dM θ) (UM θ) (nC θ) (rM θ) (θ.1 20).toInt (shF θ) (vv θ 46 t) (vv θ 47 rh)) (celF y) = none ∧ dM x = dM θ) ∨ ∃ c, r.toInt ≠ 0 ∧ grF (Tr1 (dM θ) (UM θ) (nC θ) (rM θ) (θ.1 20).toInt (shF θ) (vv θ 46 t) (vv θ 47 rh)) (celF y) = some c ∧ dM x = gD (dM θ) (nC θ) c) → Q r x) : wp_grows Q p1 θ := by
  have G0 := G
  obtain ⟨hM, hS, hD, hWr, hN, hL, hR⟩ := G0
  have a1 : 0 ≤ (θ.1 1).toInt ∧ (θ.1 1).toInt ≤ 50 := hM.1 1
  have en : (θ.1 1).toInt = ((nC θ : Nat) : Int) := by unfold nC; omega
  have n50 : nC θ ≤ 50 := by omega
  obtain ⟨ρ, hW, hρ⟩ := TD.wo hM hS hWr hD
  have tb : t < nC θ ∧ 0 < vv θ 45 t := by
    rcases ls.bd with z | ⟨z, z1, z2, z3⟩
    · omega
    · have e : z = t := by omega
      rw [e] at z1 z3
      exact ⟨z1, z3⟩
  have rb : rh < nC θ := by
    rcases lh.bd with z | ⟨z, z1, z2, _⟩
    · omega
    · omega
  have tg : tgD (dM θ) t := Classical.byContradiction (fun z => by
    have q := ((J t tb.1).2 z).1
    omega)
  have ht1 : dM θ 1 t = 1 := by
    rw [dM_1 tb.1]
    unfold tgD at tg
    rw [dM_0 tb.1] at tg
    exact hS.2.2.2.1 t (by omega) tg
  obtain ⟨V, BB, hO, hE⟩ := (J t tb.1).1 tg
  have w0 := hE.1
  have pos0 : 0 < nT (isD (dM θ) V) (cnD (dM θ) (UM θ) (rM θ) BB) (nC θ) t := by omega
  have op := nT_opn hW hO tb.1 pos0
  obtain ⟨FF, hF⟩ := FF_ex (U := UM θ) (R := rM θ) hW t
  have alen := APk_len hW hO hF tb.1 tg ht1 op.1 op.2 (nC θ) (Nat.le_refl _)
  have U0 := un_le hW.1 hW.2.1 hO.1 hL
  have ho : vM θ 1 (fD (dM θ) t) = 0 := by rw [← (U0 _ (fD_lt hW tb.1 op.1)).1.2.1]; exact op.2
  obtain ⟨FFR, hFR⟩ : ∃ FFR : Nat → Nat → Nat → List (List Nat), ∀ s c m, c < nC θ → FFR s c m = FPs (dM θ) (nmR θ (rM θ) t s) (bR (vv θ 28) (rM θ)) t (nC θ) (FFR s) c m := Classical.axiomOfChoice (fun s => FP_ex hW (nmR θ (rM θ) t s) (bR (vv θ 28) (rM θ)) t)
  have ap := AP_R hM hR hW hFR hF (θ.1 20).toInt (fun s => rmD (dM θ) (UM θ) (shF θ) s t)
  obtain ⟨P, hP⟩ : ∃ P : Nat → Prop, P = Tr1 (dM θ) (UM θ) (nC θ) (rM θ) (θ.1 20).toInt (shF θ) (vv θ 46 t) (vv θ 47 rh) := ⟨_, rfl⟩
  rw [← hP] at hq
  unfold wp_grows
  intro X34 H
  refine ⟨⟨by omega, by omega⟩, fun x1 e1 => ?_⟩
  have t1 : x1.toInt = vv θ 46 t := by rw [e1]; exact vv_rd h1
  refine rx_worstH hM (fun r2 L2 => ?_)
  have er2 : r2.toInt = (rh : Int) := LO.un L2 lh (fun t _ => ⟨rfl, rfl⟩)
  refine ⟨⟨by omega, by omega⟩, fun x4 e4 => ?_⟩
  have t4 : x4.toInt = vv θ 47 rh := by rw [e4]; exact vv_rd er2
  refine rx_list (R := rM θ) (nmS := nmR θ (rM θ) t) (FF := FFR) (b := bR (vv θ 28) (rM θ)) h1 tb.1 hLI G hW hρ (fun s hs => ⟨rfl, fun m _ => rfl, hFR s, tb.1, ht1, tg, ho⟩) (by rw [ap.1, alen]; omega) (fun x Mx Ex Ix En Rk x7 e7 => ?_)
  have slEq : slkA (dM θ) (vM θ) (nmR θ (rM θ) t) (bR (vv θ 28) (rM θ)) (θ.1 20).toInt (fun s => rmD (dM θ) (UM θ) (shF θ) s t) = slD (dM θ) (vM θ) (UM θ) (rM θ) (θ.1 20).toInt (shF θ) t := funext ap.2
  rw [ap.1, slEq] at Rk
  rw [ap.1] at En
  obtain ⟨i, ei, kr⟩ := Rk 0 (by rw [alen]; omega)
  obtain ⟨y, hy⟩ := get_ex (L := APk (dM θ) FF (bC (UM θ 2) (rM θ)) (nC θ)) (j := i) (by obtain ⟨_, _, _, _, q⟩ := kr; exact q)
  have pa : PA (dM θ) (UM θ) (nC θ) (rM θ) (θ.1 20).toInt (shF θ) t 0 y := ⟨vM θ, FF, i, hL, ho, hF, hy, ⟨by rw [alen]; omega, by rw [alen]; omega⟩, kr⟩
  have ent := En i y hy
  have i1000 : i < 1000 := by
    have q := (List.getElem?_eq_some_iff.mp hy).1
    rw [alen] at q
    omega
  have i0 : (0 : Int32).toInt = ((0 : Nat) : Int) := rfl
  have t7 : x7.toInt = (i : Int) := by rw [e7, vv_rd i0]; exact ei
  have mem := APk_mem _ (List.mem_of_getElem? hy)
  have gs := FP_gs hW (hF y.1) y.1 mem.1 _ _ mem.2.2.2
  have cl : (celF y).length = y.2.2.length := by
    show (gsP y.2.2).length + 1 = _
    rw [gs.2]
  have cin : ∀ c, c ∈ celF y → c < nC θ ∧ vv θ 2 c ≠ 5 := fun c cm => by
    rcases List.mem_cons.mp cm with w | w
    · rw [w]
      have k := mem.2.1
      rw [dM_0 mem.1] at k
      exact ⟨mem.1, by omega⟩
    · have q := gs.1 c w
      have g1 := q.2.1
      have g2 := q.2.2
      rw [dM_0 q.1] at g1 g2
      exact ⟨q.1, by omega⟩
  obtain ⟨cs, ecs⟩ : ∃ cs, cs = celF y := ⟨_, rfl⟩
  have cel := Ent_cel ent
  have l51 := ent.2.1
  have l52 := ent.1.2.2.2
  rw [← ecs] at cl cin cel
  have Z : ∀ (d k : Nat) (l5 : Int32) (u : VS), cs.length + 1 ≤ d + k → k ≤ cs.length → l5.toInt = (k : Int) → RB u → Eo RFX RAX θ u → vv u 5 = vv θ 5 → vv u 52 = vv x 52 → vv u 53 = vv x 53 → grF P cs = grF P (cs.drop k) → X34 x1 x4 x7 l5 u := by
    intro d
    induction d with
    | zero => intro k l5 u a b; omega
    | succ d ih =>
      intro k l5 u hd hk e5 Bu Eu u5 u52 u53 hg
      obtain ⟨Mu, Su, Wu, Zu, Iu⟩ := Bu
      refine H x1 x4 x7 l5 u ?_
      unfold b_grows_34
      have r52 : (rd u 52 x7).toInt = ((y.2.2.length + 1 : Nat) : Int) := by rw [vv_rd t7, u52]; exact l52
      have t52 : ((rd u 52 x7) - 1).toInt = ((cs.length : Nat) : Int) := by
        have w := i3_subc (x := (rd u 52 x7) - 1) r52 (show (1 : Int32).toInt = 1 from rfl) rfl (by omega)
        omega
      have du : dM u = dM θ := dM_q Eu (by decide) (by decide) u5
      have nu : nC u = nC θ := by unfold nC; rw [Eu.1 1 (by decide)]
      rw [t52]
      refine ⟨⟨by omega, by omega⟩, fun z => ?_, fun z => ?_⟩
      · have ek : k = cs.length := by omega
        rw [ek, List.drop_length] at hg
        exact hq 0 u y ⟨Mu, Su, Wu, Zu, Iu⟩ Eu pa (Or.inl ⟨rfl, by rw [← ecs]; exact hg, du⟩)
      · obtain ⟨c, hc⟩ := get_ex (L := cs) (j := k) (by omega)
        obtain ⟨cn, c5⟩ := cin c (List.mem_of_getElem? hc)
        have c53 := cel k c hc
        have hd2 := drop_c hc
        have t5 : (l5 + 1).toInt = ((k + 1 : Nat) : Int) := by
          have w := i3_addc (x := l5 + 1) e5 (show (1 : Int32).toInt = 1 from rfl) rfl (by omega)
          omega
        have next : ∀ v : VS, RB v → Eo RFX RAX θ v → vv v 5 = vv θ 5 → vv v 52 = vv x 52 → vv v 53 = vv x 53 → ¬ P c → b_grows_154 X34 Q x1 x4 x7 l5 v := fun v Bv Ev v5 v52 v53 np => by
          unfold b_grows_154
          refine ih (k + 1) (l5 + 1) v (by omega) (by omega) t5 Bv Ev v5 v52 v53 ?_
          rw [hg, hd2, grF_n np]
        have u1 : (52 * x7).toInt = 52 * (i : Int) := i3_mulc rfl t7 rfl (by have w : (52 : Int32).toInt = 52 := rfl; omega)
        have u2 : ((52 * x7) + l5).toInt = ((52 * i + k : Nat) : Int) := by
          have w := i3_addc (x := (52 * x7) + l5) u1 e5 rfl (by omega)
          omega
        refine ⟨⟨by omega, by omega⟩, fun x8 e8 => ?_⟩
        have t8 : x8.toInt = (c : Int) := by rw [e8, vv_rd u2, u53]; exact c53
        have d0 : dM θ 0 c = vv θ 2 c := dM_0 cn
        have d4 : dM θ 4 c = vv θ 5 c := dM_4 cn
        have r2' : (rd u 2 x8).toInt = vv θ 2 c := by rw [vv_rd t8, vv_eo Eu (by decide)]
        have r5 : (rd u 5 x8).toInt = vv θ 5 c := by rw [vv_rd t8, u5]
        have b5 : 0 ≤ vv θ 5 c ∧ vv θ 5 c ≤ 2 := hM.2 5 c
        rw [r2', r5]
        refine ⟨⟨by omega, by omega⟩, fun k0 => next u ⟨Mu, Su, Wu, Zu, Iu⟩ Eu u5 u52 u53 (fun q => ?_), fun k0 => ⟨⟨by omega, by omega⟩, fun w => ⟨⟨by omega, by omega⟩, ⟨by omega, by omega⟩, ?_⟩, fun w => next u ⟨Mu, Su, Wu, Zu, Iu⟩ Eu u5 u52 u53 (fun q => ?_)⟩⟩
        · rw [hP] at q
          have q2 := q.1
          omega
        · obtain ⟨v1, hv1⟩ : ∃ v : Int32, v = (rd u 5 x8) + 1 := ⟨_, rfl⟩
          have tv1 : v1.toInt = vv θ 5 c + 1 := i3_addc r5 (show (1 : Int32).toInt = 1 from rfl) hv1 (by omega)
          rw [← hv1]
          have Mz : MI (sa u 5 x8 v1) := Mu.sa 5 x8 v1 ⟨by show (0 : Int) ≤ _; omega, by show _ ≤ (2 : Int); omega⟩
          have Euz : Eo [] [5] u (sa u 5 x8 v1) := Eo.rfl.sa 5 x8 v1 (by decide)
          have z5 : vv (sa u 5 x8 v1) 5 = fu (vv u 5) c (vv u 5 c + 1) := by rw [vv_sa u 5 x8 v1 t8, tv1, u5]
          have u2c : vv u 2 = vv θ 2 := vv_eo Eu (by decide)
          have dz : dM (sa u 5 x8 v1) = gD (dM θ) (nC θ) c := by
            have q := dM_gr Mu Euz (by decide) (by decide) (by omega) (by rw [u2c]; exact c5) z5
            rw [q, du, nu]
          have Ez : Eo RFX RAX θ (sa u 5 x8 v1) := Eu.trans (Euz.mono (fun k hk => by cases hk) (by decide))
          have Zz : Dz (sa u 5 x8 v1) := Zu.sz Euz (by decide) (fun c' k5 => by
            rw [z5, fu_ne (fun e => ?_)]
            rw [e, u2c] at k5
            exact c5 k5)
          have Sz' := Su.same Euz (by decide)
          have Wz := Wu.same Euz (by decide)
          refine rx_judgeJ Mz Sz' Wz Zz.2.1 (fun m Mm Em Gm' Jm => ?_)
          have Exm : Eo RFX RAX θ m := Ez.trans (Em.mono (by decide) (by decide))
          have Bm : RB m := ⟨Mm, Sz'.same Em (by decide), Wz.same Em (by decide), Zz.sz Em (by decide) (fun c' _ => by rw [vv_eo Em (by decide)]), (Iu.same Euz (by decide)).same Em (by decide)⟩
          have m5 : vv m 5 = vv (sa u 5 x8 v1) 5 := vv_eo Em (by decide)
          have dm : dM m = gD (dM θ) (nC θ) c := by rw [dM_q Em (by decide) (by decide) m5]; exact dz
          have nm : nC m = nC θ := by unfold nC; rw [Exm.1 1 (by decide)]
          have nz : nC (sa u 5 x8 v1) = nC θ := by unfold nC; rw [Ez.1 1 (by decide)]
          have rz : rM (sa u 5 x8 v1) = rM θ := by unfold rM; rw [Ez.1 25 (by decide)]
          rw [dz, UM_same Ez (by decide), nz, rz, Ez.1 20 (by decide), shF_same Ez (by decide)] at Jm
          have m52 : vv m 52 = vv x 52 := by rw [vv_eo Em (by decide), vv_so (by decide)]; exact u52
          have m53 : vv m 53 = vv x 53 := by rw [vv_eo Em (by decide), vv_so (by decide)]; exact u53
          have rm5 : (rd m 5 x8).toInt = vv θ 5 c + 1 := by rw [vv_rd t8, m5, z5, fu_eq, u5]
          have undo : ¬ P c → b_grows_143 X34 Q x1 x4 x7 l5 x8 m := fun np => by
            unfold b_grows_143
            obtain ⟨v2, hv2⟩ : ∃ v : Int32, v = (rd m 5 x8) - 1 := ⟨_, rfl⟩
            have tv2 : v2.toInt = vv θ 5 c := by
              have q := i3_subc (x := v2) rm5 (show (1 : Int32).toInt = 1 from rfl) hv2 (by omega)
              omega
            rw [← hv2]
            have M3 : MI (sa m 5 x8 v2) := Mm.sa 5 x8 v2 ⟨by show (0 : Int) ≤ _; omega, by show _ ≤ (2 : Int); omega⟩
            have E3 : Eo [] [5] m (sa m 5 x8 v2) := Eo.rfl.sa 5 x8 v2 (by decide)
            have z35 : vv (sa m 5 x8 v2) 5 = vv θ 5 := by
              rw [vv_sa m 5 x8 v2 t8, tv2, m5, z5, u5]
              funext j
              by_cases q : j = c
              · rw [q, fu_eq]
              · rw [fu_ne q, fu_ne q]
            have E3θ : Eo RFX RAX θ (sa m 5 x8 v2) := Exm.trans (E3.mono (fun k hk => by cases hk) (by decide))
            have Z3 : Dz (sa m 5 x8 v2) := Bm.2.2.2.1.sz E3 (by decide) (fun c' k5 => by
              rw [z35, m5, z5, u5]
              by_cases q : c' = c
              · rw [q, vv_eo Exm (by decide)] at k5
                exact absurd k5 c5
              · rw [fu_ne q])
            exact ⟨⟨by omega, by omega⟩, ⟨by omega, by omega⟩, next _ ⟨M3, Bm.2.1.same E3 (by decide), Bm.2.2.1.same E3 (by decide), Z3, Bm.2.2.2.2.same E3 (by decide)⟩ E3θ z35 (by rw [vv_so (by decide)]; exact m52) (by rw [vv_so (by decide)]; exact m53) np⟩
          have un : ∀ (w l g : Nat → Int) (r rh' : Nat), JA (gD (dM θ) (nC θ) c) (UM θ) (nC θ) (rM θ) (θ.1 20).toInt (shF θ) w l g → LO (nC θ) w l (r : Int) → LO (nC θ) w g (rh' : Int) → ∀ r1 r2 : Int, LO (nC θ) (vv m 45) (vv m 46) r1 → LO (nC θ) (vv m 45) (vv m 47) r2 → r1 = (r : Int) ∧ r2 = (rh' : Int) ∧ l r = vv m 46 r ∧ g rh' = vv m 47 rh' := fun w l g r rh' j lo lo2 r1 r2 k1 k2 => by
            have e := JA.un hW.gr j Jm
            have q1 := LO.un lo k1 (fun t ht => ⟨(e t ht).1, (e t ht).2.1⟩)
            have q2 := LO.un lo2 k2 (fun t ht => ⟨(e t ht).1, (e t ht).2.2⟩)
            have hr' : r < nC θ := by
              rcases lo.bd with z | ⟨z, z1, z2, _⟩
              · omega
              · omega
            have hh' : rh' < nC θ := by
              rcases lo2.bd with z | ⟨z, z1, z2, _⟩
              · omega
              · omega
            exact ⟨q1.symm, q2.symm, (e r hr').2.1, (e rh' hh').2.2⟩
          obtain ⟨rr, hrr⟩ := LO.ex (vv m 45) (vv m 47) (nC θ)
          refine rx_worstS Mm (fun r11 L1 => ?_)
          rw [nm] at L1
          refine ⟨fun neg => undo (fun q => ?_), fun pos => ?_⟩
          · rw [hP] at q
            obtain ⟨_, _, w, l, g, r, rh', j, lo, lo2, _, _⟩ := q
            have q := (un w l g r rh' j lo lo2 r11.toInt rr L1 hrr).1
            omega
          · obtain ⟨ra, hra, era, pra⟩ : ∃ ra : Nat, ra < nC θ ∧ r11.toInt = (ra : Int) ∧ 0 < vv m 45 ra := by
              rcases L1.bd with z | ⟨z, z1, z2, z3⟩
              · exact absurd z pos
              · exact ⟨z, z1, z2, z3⟩
            have rv : (rd m 46 r11).toInt = vv m 46 ra := vv_rd era
            rw [rv, t1]
            refine ⟨⟨by omega, by omega⟩, fun le => undo (fun q => ?_), fun gt => ?_⟩
            · rw [hP] at q
              obtain ⟨_, _, w, l, g, r, rh', j, lo, lo2, q1, q2⟩ := q
              have q := un w l g r rh' j lo lo2 r11.toInt rr L1 hrr
              have er2 : r = ra := by omega
              rw [q.2.2.1, er2] at q1
              omega
            · obtain ⟨rb', hrb, erb⟩ := hrr.pos hra pra
              refine rx_worstH Mm (fun r13 L2 => ?_)
              rw [nm] at L2
              have er3 : r13.toInt = (rb' : Int) := by rw [LO.un L2 hrr (fun t _ => ⟨rfl, rfl⟩)]; exact erb
              have rv2 : (rd m 47 r13).toInt = vv m 47 rb' := vv_rd er3
              refine ⟨⟨by omega, by omega⟩, fun lt => undo (fun q => ?_), fun ge => ?_⟩
              · rw [hP] at q
                obtain ⟨_, _, w, l, g, r, rh', j, lo, lo2, q1, q2⟩ := q
                have q := un w l g r rh' j lo lo2 r11.toInt rr L1 hrr
                have er4 : rh' = rb' := by omega
                rw [q.2.2.2, er4] at q2
                omega
              · rw [era] at L1
                rw [erb] at hrr
                have yes : P c := by
                  rw [hP]
                  exact ⟨by omega, by omega, vv m 45, vv m 46, vv m 47, ra, rb', Jm, L1, hrr, by omega, by omega⟩
                refine hq 1 m y Bm Exm pa (Or.inr ⟨c, by decide, ?_, dm⟩)
                rw [← ecs, hg, hd2, grF_y yes]
        · rw [hP] at q
          have q2 := q.2.1
          omega
  have Exθ : Eo RFX RAX θ x := Ex.mono (by decide) (by decide)
  exact Z (cs.length + 1) 0 0 x (by omega) (by omega) rfl ⟨Mx, hS.same Exθ (by decide), hWr.same Exθ (by decide), hz.sz Ex (by decide) (fun c _ => by rw [vv_eo Ex (by decide)]), Ix⟩ Exθ (vv_eo Ex (by decide)) rfl rfl rfl
set_option maxHeartbeats 2000000 in
theorem rx_fix {Q : Int32 → VS → Prop} {τ : VS} (B : RB τ) (hq : ∀ (r : Int32) (x : VS), RB x → Eo RFX RAX τ x → FxR (UM τ) (nC τ) (rM τ) (τ.1 20).toInt (shF τ) 100 (dM τ) r.toInt (dM x) → Q r x) : wp_fix Q τ := by
  unfold wp_fix
  intro X4 H
  have Z : ∀ (k : Nat) (l1 l2 : Int32) (x : VS), k ≤ 100 → l1.toInt = 100 - (k : Int) → l2.toInt ≠ 0 → RB x → Eo RFX RAX τ x → (∀ (r : Int32) (x' : VS), RB x' → Eo RFX RAX τ x' → (∃ r1 : Int, r.toInt = l1.toInt + r1 ∧ FxR (UM τ) (nC τ) (rM τ) (τ.1 20).toInt (shF τ) k (dM x) r1 (dM x')) → Q r x') → X4 l1 l2 x := by
    intro k
    induction k with
    | zero =>
      intro l1 l2 x hk e1 e2 Bx Ex K
      refine H l1 l2 x ?_
      unfold b_fix_4 b_fix_74
      exact ⟨fun z => absurd z e2, fun _ => ⟨fun _ => K l1 x Bx Ex ⟨0, by omega, rfl, rfl⟩, fun z => by omega⟩⟩
    | succ k ih =>
      intro l1 l2 x hk e1 e2 Bx Ex K
      refine H l1 l2 x ?_
      unfold b_fix_4 b_fix_74 b_fix_51
      refine ⟨fun z => absurd z e2, fun _ => ⟨fun z => by omega, fun _ => ?_⟩⟩
      obtain ⟨Mx, Sx, Wx, Zx, Ix⟩ := Bx
      refine rx_judgeJ Mx Sx Wx Zx.2.1 (fun u Mu Eu Gu Ju => ?_)
      have Exu : Eo RFX RAX τ u := Ex.trans (Eu.mono (by decide) (by decide))
      have u5 : vv u 5 = vv x 5 := vv_eo Eu (by decide)
      have du : dM u = dM x := dM_q Eu (by decide) (by decide) u5
      have nx : nC x = nC τ := by unfold nC; rw [Ex.1 1 (by decide)]
      have nu : nC u = nC τ := by unfold nC; rw [Exu.1 1 (by decide)]
      have Ux : UM x = UM τ := UM_same Ex (by decide)
      have Uu : UM u = UM τ := UM_same Exu (by decide)
      have Rx : rM x = rM τ := by unfold rM; rw [Ex.1 25 (by decide)]
      have Ru : rM u = rM τ := by unfold rM; rw [Exu.1 25 (by decide)]
      have sx : shF x = shF τ := shF_same Ex (by decide)
      have su : shF u = shF τ := shF_same Exu (by decide)
      have L2x : x.1 20 = τ.1 20 := Ex.1 20 (by decide)
      have L2u : u.1 20 = τ.1 20 := Exu.1 20 (by decide)
      have Bu : RB u := ⟨Mu, Gu.2.1, Gu.2.2.2.1, Zx.sz Eu (by decide) (fun c _ => by rw [u5]), Ix.same Eu (by decide)⟩
      rw [Ux, nx, Rx, sx, L2x] at Ju
      have stop : ∀ r3 : Int32, LO (nC τ) (vv u 45) (vv u 46) r3.toInt → StpF (vv u 45) (vv u 46) r3.toInt → Q l1 u := fun r3 L3 S => K l1 u Bu Exu ⟨0, by omega, vv u 45, vv u 46, vv u 47, r3.toInt, Ju, L3, Or.inl ⟨S, rfl, du⟩⟩
      refine rx_worstS Mu (fun r3 L3 => ?_)
      rw [nu] at L3
      refine ⟨fun neg => stop r3 L3 (Or.inl (by omega)), fun pos => ?_⟩
      obtain ⟨t, ht, et, pt⟩ : ∃ t : Nat, t < nC τ ∧ r3.toInt = (t : Int) ∧ 0 < vv u 45 t := by
        rcases L3.bd with z | ⟨z, z1, z2, z3⟩
        · exact absurd z pos
        · exact ⟨z, z1, z2, z3⟩
      have a1 : 0 ≤ (u.1 1).toInt ∧ (u.1 1).toInt ≤ 50 := Mu.1 1
      have n50 : nC τ ≤ 50 := by rw [← nu]; unfold nC; omega
      have r46 : (rd u 46 r3).toInt = vv u 46 t := vv_rd et
      have r45 : (rd u 45 r3).toInt = vv u 45 t := vv_rd et
      have b45 : 0 ≤ vv u 45 t ∧ vv u 45 t ≤ 1000 := Mu.2 45 t
      rw [r46, r45]
      refine ⟨⟨by omega, by omega⟩, fun z => stop r3 L3 (Or.inr ⟨t, et, Or.inl z⟩), fun z => ⟨⟨by omega, by omega⟩, fun y => ?_, fun y => stop r3 L3 (Or.inr ⟨t, et, Or.inr (by omega)⟩)⟩⟩
      obtain ⟨rh, hrh⟩ := LO.ex (vv u 45) (vv u 47) (nC τ)
      obtain ⟨h, hh, eh⟩ := hrh.pos ht pt
      rw [eh] at hrh
      rw [et] at L3
      have nstp : ¬ StpF (vv u 45) (vv u 46) (t : Int) := fun s => by
        rcases s with s | ⟨t', e', s⟩
        · omega
        · have tt : t' = t := by omega
          rw [tt] at s
          omega
      have Gu2 : RfE u (rM u) := by rw [Ru, ← Rx]; exact Gu
      have Ju2 : JA (dM u) (UM u) (nC u) (rM u) (u.1 20).toInt (shF u) (vv u 45) (vv u 46) (vv u 47) := by rw [du, Uu, nu, Ru, su, L2u]; exact Ju
      refine rx_grows (t := t) (rh := h) Gu2 Bu.2.2.2.1 Bu.2.2.2.2 Ju2 et (by rw [nu]; exact L3) (by rw [nu]; exact hrh) (by omega) (fun r5 z7 yy B7 E7 pa alt => ?_)
      have E7s : Eo RFX RAX τ z7 := Exu.trans E7
      rw [du, Uu, nu, Ru, su, L2u] at pa alt
      unfold b_fix_69
      rcases alt with ⟨r0, g0, d0⟩ | ⟨c, r0, g0, d0⟩
      · refine ⟨fun _ x7 e7 => ?_, fun w => absurd r0 w⟩
        have t7 : x7.toInt = l1.toInt := by
          have w := i3_addc (x := x7) rfl (show (0 : Int32).toInt = 0 from rfl) e7 (by omega)
          omega
        refine H x7 r5 z7 ?_
        unfold b_fix_4 b_fix_74
        exact ⟨fun _ => K x7 z7 B7 E7s ⟨0, by omega, vv u 45, vv u 46, vv u 47, (t : Int), Ju, L3, Or.inr ⟨nstp, t, h, yy, rfl, hrh, pa, Or.inl ⟨g0, rfl, d0⟩⟩⟩, fun w => absurd r0 w⟩
      · refine ⟨fun w => absurd w r0, fun _ x7 e7 => ?_⟩
        have t7 : x7.toInt = l1.toInt + 1 := i3_addc rfl (show (1 : Int32).toInt = 1 from rfl) e7 (by omega)
        refine ih x7 r5 z7 (by omega) (by omega) r0 B7 E7s (fun r x' B' E' ⟨r1, q1, q2⟩ => ?_)
        rw [d0] at q2
        exact K r x' B' E' ⟨r1 + 1, by omega, vv u 45, vv u 46, vv u 47, (t : Int), Ju, L3, Or.inr ⟨nstp, t, h, yy, rfl, hrh, pa, Or.inr ⟨c, r1, g0, rfl, q2⟩⟩⟩
  refine Z 100 0 1 τ (by omega) rfl (by decide) B Eo.rfl (fun r x Bx Ex ⟨r1, q1, q2⟩ => hq r x Bx Ex ?_)
  have i0 : (0 : Int32).toInt = 0 := rfl
  have e : r.toInt = r1 := by omega
  rw [e]
  exact q2
