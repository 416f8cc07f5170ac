/-! THE CLASS FIXES -/
theorem FP_gs {D : Nat → Nat → Int} {nm : Nat → Int} {b : Nat → Nat} {t n : Nat} {ρ : Nat → Nat} {F : Nat → Nat → List (List Nat)} (hW : Wo D n ρ) (hF : ∀ c m, c < n → F c m = FPs D nm b t n F c m) : ∀ c, c < n → ∀ m p, p ∈ F c m → (∀ d, d ∈ gsP p → d < n ∧ gN D d) ∧ p.length = (gsP p).length + 1 := by
  refine FP_ind hW hF (P := fun _ _ p => (∀ d, d ∈ gsP p → d < n ∧ gN D d) ∧ p.length = (gsP p).length + 1) (fun c m w hw e hc a z => ⟨fun d hd => (by cases hd), rfl⟩) (fun c m w q hw e hc a g hn hq ih => ?_)
  cases q with
  | nil => exact absurd rfl (FP_ne hF hn hq)
  | cons v q2 =>
    have eg : gsP (w :: v :: q2) = w / 4 :: gsP (v :: q2) := rfl
    rw [eg]
    refine ⟨fun d hd => ?_, by rw [List.length_cons, ih.2, List.length_cons]⟩
    rcases List.mem_cons.mp hd with z | z
    · rw [z]; exact ⟨hn, g⟩
    · exact ih.1 d z
theorem Ste_at {A : Nat → Nat → Int} : ∀ (L : List (Nat × Int × Nat × Int)) (o : Nat), Ste A o L → ∀ i x, L[i]? = some x → A 0 (o + i) = (x.1 : Int) ∧ A 1 (o + i) = x.2.1 ∧ A 2 (o + i) = (x.2.2.1 : Int) ∧ A 3 (o + i) = x.2.2.2
  | [], _, _, i, x, hx => by cases hx
  | y :: L, o, h, 0, x, hx => by
    have e : some y = some x := hx
    injection e with e
    rw [← e, Nat.add_zero]
    exact h.1
  | y :: L, o, h, i + 1, x, hx => by
    have q := Ste_at L (o + 1) h.2 i x hx
    rw [show o + (i + 1) = o + 1 + i by omega]
    exact q
theorem runP_c {D V : Nat → Nat → Int} : ∀ (p : List Nat) (e : Nat) (l : Int), (runP D V e l p).map (fun x => x.1) = p.map (fun w => w / 4)
  | [], _, _ => rfl
  | [_], _, _ => rfl
  | w :: v :: p, e, l => by
    have ih := runP_c (D := D) (V := V) (v :: p) (feN D (w / 4) e) (l + V 2 (2 * w + feN D (w / 4) e))
    show w / 4 :: (runP D V (feN D (w / 4) e) (l + V 2 (2 * w + feN D (w / 4) e)) (v :: p)).map (fun x => x.1) = w / 4 :: (v :: p).map (fun w => w / 4)
    rw [ih]
theorem cel_at {D V : Nat → Nat → Int} {A : Nat → Nat → Int} {y : Nat × Nat × List Nat} {l : Int} (h : Ste A 0 ((y.1, -1, y.2.1, l) :: runP D V y.2.1 l y.2.2)) : ∀ i c, (celF y)[i]? = some c → A 0 i = ((c : Nat) : Int) := fun i c hc => by
  have L : ((y.1, (-1 : Int), y.2.1, l) :: runP D V y.2.1 l y.2.2).map (fun x => x.1) = y.1 :: y.2.2.map (fun w => w / 4) := by
    rw [List.map_cons, runP_c]
  have up : (y.1 :: y.2.2.map (fun w => w / 4))[i]? = some c := by
    cases i with
    | zero => exact hc
    | succ i =>
      have hc2 : (gsP y.2.2)[i]? = some c := hc
      show (y.2.2.map (fun w => w / 4))[i]? = some c
      unfold gsP at hc2
      rw [List.getElem?_map] at hc2 ⊢
      obtain ⟨w, hw, e⟩ := Option.map_eq_some_iff.mp hc2
      rw [List.getElem?_dropLast] at hw
      by_cases z : i < y.2.2.length - 1
      · rw [if_pos z] at hw
        rw [hw, ← e]; rfl
      · rw [if_neg z] at hw
        cases hw
  rw [← L, List.getElem?_map] at up
  obtain ⟨x, hx, e⟩ := Option.map_eq_some_iff.mp up
  have q := (Ste_at _ 0 h i x hx).1
  rw [Nat.zero_add] at q
  rw [q, ← e]
theorem FF_ex {D U : Nat → Nat → Int} {n R : Nat} {ρ : Nat → Nat} (hW : Wo D n ρ) (t : Nat) : ∃ FF, OkF D U n R t FF := Classical.axiomOfChoice (fun s => FP_ex hW (nmD U R s t) (bC (U 2) R) t)
theorem CBt.lye {σ τ : VS} (B : CBt σ τ) (hSt : ∀ c, c < nCl σ → StC σ (vC σ) c 2400000) : LyE σ (rC σ) (bC (vv σ 33) (rC σ)) (shF τ) := by
  have hM2 : MI τ := B.1.1.1.1.2.2.1
  exact ⟨B.1.2.2.2.2.2, B.1.2.2.2.2.1, B.1.1.1.1.2.1, B.1.wel2 B.2.1, hSt, B.rc.1, B.2.2, fun c => orN_lt _ _, fun s t => shM_b hM2 B.2.1.2.1 s t, fun x Mx Ex s t p1 p2 Q h1 h2 hs ht hq => cx_shEq (B.1.qc Mx (Ex.mono (by decide) (by decide))) h1 h2 (by unfold nCl; rw [Ex.1 2 (by decide)]; exact hs) (by unfold nCl; rw [Ex.1 2 (by decide)]; exact ht) (hq _ rfl)⟩
/-- the end of a path that is told: what the search needs to know of it -/
theorem CBt.trp {σ τ : VS} {t : Nat} {FF : Nat → Nat → Nat → List (List Nat)} (B : CBt σ τ) (hSt : ∀ c, c < nCl σ → StC σ (vC σ) c 2400000) (J : JAc σ τ) (hF : OkF (dC σ) (UC σ) (nCl σ) (rC σ) t FF) (ht : t < nCl σ) (hp : 0 < vv σ 50 t) (hl : vv σ 50 t < 1000) : TrP σ (rC σ) t (bC (vv σ 33) (rC σ)) (fun s => nmD (UC σ) (rC σ) s t) FF ∧ (((APk (dC σ) FF (bC (vv σ 33) (rC σ)) (nCl σ)).length : Nat) : Int) = vv σ 50 t ∧ bC (UC σ 2) (rC σ) = bC (vv σ 33) (rC σ) := by
  obtain ⟨hR, hR4⟩ := B.rc
  obtain ⟨ρ, hW⟩ := B.1.wo
  have eb : bC (UC σ 2) (rC σ) = bC (vv σ 33) (rC σ) := bC_c (fun i hi => (UC_r hR hi).2.2.1)
  have tg : tgD (dC σ) t := Classical.byContradiction (fun z => by
    have q := ((J.1 t ht).2 z).1
    omega)
  have h1 := B.1.tg1 t ht tg
  obtain ⟨V, BB, hO, hE⟩ := (J.1 t ht).1 tg
  have w := hE.1
  have pos : 0 < nT (isD (dC σ) V) (cnD (dC σ) (UC σ) (rC σ) BB) (nCl σ) t := by omega
  have op := nT_opn hW hO ht pos
  have len := APk_len hW hO hF ht tg h1 op.1 op.2 (nCl σ) (Nat.le_refl _)
  rw [eb] at len
  have U0 := un_le hW.1 hW.2.1 hO.1 (fun c hc => (hSt c hc).1)
  have ho : vC σ 1 (fD (dC σ) t) = 0 := by rw [← (U0 _ (fD_lt hW ht op.1)).1.2.1]; exact op.2
  refine ⟨⟨ht, h1, tg, ho, fun s m _ _ => (nmC_D hR).symm, fun s c m hc => ?_, by omega⟩, by omega, eb⟩
  have q := hF s c m hc
  rw [eb] at q
  exact q
theorem rm_D {σ τ : VS} {t : Nat} (ht : t < nCl σ) : (fun s => dC σ 14 t - vv σ 26 t + shF τ s t) = fun s => rmD (dC σ) (UC σ) (shF τ) s t := by
  funext s
  unfold rmD
  rw [(UC_4 ht).1]
set_option maxHeartbeats 2000000 in
theorem cx_fix {Q : Int32 → VS → Prop} {σ τ : VS} (B : CBt σ τ) (hT : CTm σ) (hR : CRc σ τ) (hq : ∀ (r : Int32) (x : VS), CBt x τ → Eo CFX CAX σ x → CTm x → CRc x τ → (∀ j, nCl σ ≤ j → vv x 14 j = vv σ 14 j) → FxR (UC σ) (nCl σ) (rC σ) (σ.1 4).toInt (shF τ) 100 (dC σ) r.toInt (dC x) → Q r x) : wp_X9fix Q σ := by
  have hM := B.ci
  have a2 : 0 ≤ (σ.1 2).toInt ∧ (σ.1 2).toInt ≤ 50 := hM.1 2
  have n50 : nCl σ ≤ 50 := by unfold nCl; omega
  unfold wp_X9fix
  intro X2 H
  have Z : ∀ (k : Nat) (l1 : Int32) (x : VS), k ≤ 100 → l1.toInt = 100 - (k : Int) → CBt x τ → Eo CFX CAX σ x → CTm x → CRc x τ → (∀ j, nCl σ ≤ j → vv x 14 j = vv σ 14 j) → (∀ (r : Int32) (x' : VS), CBt x' τ → Eo CFX CAX σ x' → CTm x' → CRc x' τ → (∀ j, nCl σ ≤ j → vv x' 14 j = vv σ 14 j) → (∃ r1 : Int, r.toInt = l1.toInt + r1 ∧ FxR (UC σ) (nCl σ) (rC σ) (σ.1 4).toInt (shF τ) k (dC x) r1 (dC x')) → Q r x') → X2 l1 x := by
    intro k
    induction k with
    | zero =>
      intro l1 x hk e1 Bx Ex Tx Rx Hx K
      refine H l1 x ?_
      unfold b_X9fix_2
      refine ⟨fun _ => K 100 x Bx Ex Tx Rx Hx ⟨0, ?_, rfl, rfl⟩, fun z => by omega⟩
      have w : (100 : Int32).toInt = 100 := rfl
      omega
    | succ k ih =>
      intro l1 x hk e1 Bx Ex Tx Rx Hx K
      refine H l1 x ?_
      unfold b_X9fix_2 b_X9fix_58
      refine ⟨fun z => by omega, fun _ => ?_⟩
      refine cx_refreshRace Bx Tx Rx (fun u Bu Eu u1 Tu Ru => ?_)
      have Mu := Bu.ci
      have Exu : Eo CFX CAX σ u := Ex.trans (Eu.mono (by decide) (by decide))
      have u14 : vv u 14 = vv x 14 := vv_eo Eu (by decide)
      have du : dC u = dC x := dC_q Eu (by decide) (by decide) u14
      have nu : nCl u = nCl σ := by unfold nCl; rw [Exu.1 2 (by decide)]
      have Uu : UC u = UC σ := UC_same Exu (by decide)
      have Rcu : rC u = rC σ := by unfold rC; rw [Exu.1 6 (by decide)]
      have L4 : u.1 4 = σ.1 4 := Exu.1 4 (by decide)
      have Ju := (Ru u1).2
      have Su := Tu (Ru u1).1
      have J1 := Ju.1
      rw [du, Uu, nu, Rcu, L4] at J1
      have stop : ∀ r3 : Int32, LO (nCl σ) (vv u 50) (vv u 51) r3.toInt → StpF (vv u 50) (vv u 51) r3.toInt → Q l1 u := fun r3 L3 S => K l1 u Bu Exu Tu Ru (fun j hj => by rw [u14]; exact Hx j hj) ⟨0, by omega, vv u 50, vv u 51, vv u 52, r3.toInt, J1, L3, Or.inl ⟨S, rfl, du⟩⟩
      refine cx_leastOfS Mu (fun r3 L3 => ?_)
      rw [nu] at L3
      refine ⟨fun neg => stop r3 L3 (Or.inl neg), fun pos => ?_⟩
      obtain ⟨t, ht, et, pt⟩ : ∃ t : Nat, t < nCl σ ∧ r3.toInt = (t : Int) ∧ 0 < vv u 50 t := by
        rcases L3.bd with z | ⟨z, z1, z2, z3⟩
        · omega
        · exact ⟨z, z1, z2, z3⟩
      have r51 : (rd u 51 r3).toInt = vv u 51 t := vv_rd et
      have r50 : (rd u 50 r3).toInt = vv u 50 t := vv_rd et
      rw [r51, r50]
      refine ⟨⟨by omega, by omega⟩, fun z => stop r3 L3 (Or.inr ⟨t, et, Or.inl z⟩), fun z => ⟨⟨by omega, by omega⟩, fun y => ?_, fun y => stop r3 L3 (Or.inr ⟨t, et, Or.inr y⟩)⟩⟩
      obtain ⟨ρ, hW⟩ := Bu.1.wo
      obtain ⟨FF, hF⟩ := FF_ex (U := UC u) (R := rC u) hW t
      obtain ⟨tp, alen, eb⟩ := Bu.trp Su Ju hF (by omega) pt y
      have al : (APk (dC u) FF (bC (vv u 33) (rC u)) (nCl u)).length < 1000 := by omega
      refine cx_traceT (k := 0) (t := t) et rfl Mu (Bu.lye Su) hW tp (by omega) (fun v i yy Mv Ev hyy kr lay => ?_)
      have Ev2 : Eo CFX CAX σ v := Exu.trans (Ev.mono (by decide) (by decide))
      have Bv : CBt v τ := Bu.qc Mv (Ev.mono (by decide) (by decide))
      have Tv : CTm v := Tu.same Mu Ev (by decide) (by decide)
      have Rv : CRc v τ := Ru.same Ev (by decide) (by decide) (by decide)
      have dv : dC v = dC x := by rw [dC_q Ev (by decide) (by decide) (vv_eo Ev (by decide)), du]
      have nv : nCl v = nCl σ := by unfold nCl; rw [Ev2.1 2 (by decide)]
      have mem := APk_mem _ (List.mem_of_getElem? hyy)
      have gs := FP_gs hW (tp.2.2.2.2.2.1 yy.1) yy.1 mem.1 _ _ mem.2.2.2
      have cl : (celF yy).length = yy.2.2.length := by
        show (gsP yy.2.2).length + 1 = _
        rw [gs.2]
      have ng : ¬ gN (dC u) yy.1 := fun g => by
        have g1 := g.1
        have g2 := g.2
        have k := mem.2.1
        omega
      have pl := FP_pl hW (tp.2.2.2.2.2.1 yy.1) mem.1 ng mem.2.2.2
      obtain ⟨rh, hrh⟩ := LO.ex (vv u 50) (vv u 52) (nCl σ)
      obtain ⟨h, hh, eh⟩ := hrh.pos ht pt
      rw [eh] at hrh
      rw [et] at L3
      have pa : PA (dC x) (UC σ) (nCl σ) (rC σ) (σ.1 4).toInt (shF τ) t 0 yy := by
        rw [← du, ← Uu, ← nu, ← Rcu, ← L4]
        refine ⟨vC u, FF, i, fun c hc => (Su c hc).1, tp.2.2.2.1, hF, by rw [eb]; exact hyy, ⟨by rw [eb]; omega, by rw [eb]; omega⟩, ?_⟩
        unfold slD
        rw [eb, ← rm_D (by omega)]
        exact kr
      have nstp : ¬ StpF (vv u 50) (vv u 51) (t : Int) := fun s => by
        rcases s with s | ⟨t', e', s⟩
        · omega
        · have tt : t' = t := by omega
          rw [tt] at s
          omega
      have v50 : vv v 50 = vv u 50 := vv_eo Ev (by decide)
      have v51 : vv v 51 = vv u 51 := vv_eo Ev (by decide)
      have v52 : vv v 52 = vv u 52 := vv_eo Ev (by decide)
      refine cx_grow (y := yy) (t := t) (rh := h) Bv Tv Rv (by rw [lay.1, cl]; omega) (by omega) (fun i c hc => ?_) (by rw [nv, v50, v51]; exact L3) (by rw [nv, v50, v52]; exact hrh) (fun r7 z7 B7 E7 T7 R7 H7 alt => ?_)
      · have s11 : vv v 11 = vv u 11 := vv_eo Ev (by decide)
        refine ⟨cel_at lay.2.1 i c hc, ?_⟩
        have cm := List.mem_of_getElem? hc
        rw [s11, nv]
        rcases List.mem_cons.mp cm with w | w
        · rw [w]
          have k := mem.2.1
          rw [dC_0 mem.1] at k
          have l := mem.1
          exact ⟨by omega, by omega⟩
        · have q := gs.1 c w
          have g1 := q.2.1
          have g2 := q.2.2
          rw [dC_0 q.1] at g1 g2
          have l := q.1
          exact ⟨by omega, by omega⟩
      · have E7s : Eo CFX CAX σ z7 := Ev2.trans E7
        have H7s : ∀ j, nCl σ ≤ j → vv z7 14 j = vv σ 14 j := fun j hj => by rw [H7 j (by omega), vv_eo Ev (by decide), u14]; exact Hx j hj
        have Uv : UC v = UC σ := UC_same Ev2 (by decide)
        have Rcv : rC v = rC σ := by unfold rC; rw [Ev2.1 6 (by decide)]
        have L4v : v.1 4 = σ.1 4 := Ev2.1 4 (by decide)
        rw [dv, Uv, nv, Rcv, L4v, v51, v52] at alt
        rcases alt with ⟨r0, g0, d0⟩ | ⟨c, r0, g0, d0⟩
        · refine ⟨fun w => absurd r0 w, fun _ => K l1 z7 B7 E7s T7 R7 H7s ⟨0, by omega, vv u 50, vv u 51, vv u 52, (t : Int), J1, L3, Or.inr ⟨nstp, t, h, yy, rfl, hrh, pa, Or.inl ⟨g0, rfl, d0⟩⟩⟩⟩
        · refine ⟨fun _ => ?_, fun w => absurd w r0⟩
          have t1 : (l1 + 1).toInt = 100 - (k : Int) := by
            have w := i3_addc (x := l1 + 1) rfl (show (1 : Int32).toInt = 1 from rfl) rfl (by omega)
            omega
          refine ih (l1 + 1) z7 (by omega) t1 B7 E7s T7 R7 H7s (fun r x' B' E' T' R' H' ⟨r1, q1, q2⟩ => ?_)
          rw [d0] at q2
          exact K r x' B' E' T' R' H' ⟨r1 + 1, by omega, vv u 50, vv u 51, vv u 52, (t : Int), J1, L3, Or.inr ⟨nstp, t, h, yy, rfl, hrh, pa, Or.inr ⟨c, r1, g0, rfl, q2⟩⟩⟩
  refine Z 100 0 σ (by omega) rfl B Eo.rfl hT hR (fun j _ => rfl) (fun r x Bx Ex Tx Rx Hx ⟨r1, q1, q2⟩ => hq r x Bx Ex Tx Rx Hx ?_)
  have i0 : (0 : Int32).toInt = 0 := rfl
  have e : r.toInt = r1 := by omega
  rw [e]
  exact q2
