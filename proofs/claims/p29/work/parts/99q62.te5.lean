/-! THE CLASS GROWS ONE CELL -/
abbrev CFX : List Nat := [0, 1, 9, 10, 11, 12, 13, 14, 15, 19, 20, 21]
abbrev CAX : List Nat := [14, 39, 40, 41, 42, 43, 44, 45, 46, 47, 48, 49, 50, 51, 52, 53, 59, 60, 61, 62]
theorem LO.ex (w v : Nat → Int) : ∀ n : Nat, ∃ r, LO n w v r
  | 0 => ⟨-5, Or.inl ⟨rfl, fun t ht => by omega⟩⟩
  | n + 1 => by
    obtain ⟨r, h⟩ := LO.ex w v n
    by_cases p : 0 < w n
    · rcases h.bd with c | ⟨c, hc, ec, _⟩
      · exact ⟨n, h.first (by omega) p⟩
      · rw [ec] at h
        by_cases l : v c ≤ v n
        · exact ⟨c, h.stay l⟩
        · exact ⟨n, h.less p (by omega)⟩
    · exact ⟨r, h.skip p⟩
theorem LO.pos {n t : Nat} {w v : Nat → Int} {r : Int} (h : LO n w v r) (ht : t < n) (p : 0 < w t) : ∃ c : Nat, c < n ∧ r = (c : Int) := by
  rcases h with ⟨a, b⟩ | ⟨c, hc, ec, _⟩
  · exact absurd p (b t ht)
  · exact ⟨c, hc, ec⟩
theorem drop_c {α : Type} {L : List α} {i : Nat} {c : α} (h : L[i]? = some c) : L.drop i = c :: L.drop (i + 1) := by
  obtain ⟨hi, e⟩ := List.getElem?_eq_some_iff.mp h
  rw [List.drop_eq_getElem_cons hi, e]
set_option maxHeartbeats 2000000 in
theorem cx_grow {Q : Int32 → VS → Prop} {σ τ : VS} {y : Nat × Nat × List Nat} {t rh : Nat} (B : CBt σ τ) (hT : CTm σ) (hR : CRc σ τ) (hl : (σ.1 19).toInt = (((celF y).length + 1 : Nat) : Int)) (hl5 : (celF y).length ≤ 50) (hcs : ∀ i c, (celF y)[i]? = some c → vv σ 59 i = ((c : Nat) : Int) ∧ c < nCl σ ∧ vv σ 11 c ≠ 5) (ls : LO (nCl σ) (vv σ 50) (vv σ 51) (t : Int)) (lh : LO (nCl σ) (vv σ 50) (vv σ 52) (rh : Int)) (hq : ∀ (r : Int32) (x : VS), CBt x τ → Eo CFX CAX σ x → CTm x → CRc x τ → (∀ j, nCl σ ≤ j → vv x 14 j = vv σ 14 j) → ((r.toInt = 0 ∧ grF (Tr1 (dC σ) (UC σ) (nCl σ) (rC σ) (σ.1 4).toInt (shF τ) (vv σ 51 t) (vv σ 52 rh)) (celF y) = none ∧ dC x = dC σ) ∨ ∃ c, r.toInt ≠ 0 ∧ grF (Tr1 (dC σ) (UC σ) (nCl σ) (rC σ) (σ.1 4).toInt (shF τ) (vv σ 51 t) (vv σ 52 rh)) (celF y) = some c ∧ dC x = gD (dC σ) (nCl σ) c) → Q r x) : wp_X9growOneOfTrial Q σ := by
  have hM := B.ci
  have a2 : 0 ≤ (σ.1 2).toInt ∧ (σ.1 2).toInt ≤ 50 := hM.1 2
  have n50 : nCl σ ≤ 50 := by unfold nCl; omega
  obtain ⟨ρ, hW⟩ := B.1.wo
  obtain ⟨P, hP⟩ : ∃ P : Nat → Prop, P = Tr1 (dC σ) (UC σ) (nCl σ) (rC σ) (σ.1 4).toInt (shF τ) (vv σ 51 t) (vv σ 52 rh) := ⟨_, rfl⟩
  rw [← hP] at hq
  obtain ⟨cs, ecs⟩ : ∃ cs, cs = celF y := ⟨_, rfl⟩
  rw [← ecs] at hq hl hcs hl5
  unfold wp_X9growOneOfTrial
  intro X18 H
  have Z : ∀ (d i : Nat) (l1 l2 l3 : Int32) (x : VS), cs.length + 1 ≤ d + i → i ≤ cs.length → l1.toInt = vv σ 51 t → l2.toInt = vv σ 52 rh → l3.toInt = (i : Int) → CBt x τ → Eo CFX CAX σ x → x.1 19 = σ.1 19 → vv x 59 = vv σ 59 → vv x 14 = vv σ 14 → CTm x → CRc x τ → grF P cs = grF P (cs.drop i) → X18 l1 l2 l3 x := by
    intro d
    induction d with
    | zero => intro i l1 l2 l3 x a b; omega
    | succ d ih =>
      intro i l1 l2 l3 x hd hi e1 e2 e3 Bx Ex x19 x59 x14 Tx Rx hg
      refine H l1 l2 l3 x ?_
      unfold b_X9growOneOfTrial_18
      have Mx := Bx.ci
      have t19 : ((x.1 19) - 1).toInt = ((cs.length : Nat) : Int) := by
        rw [x19]
        have w := i3_subc (x := (σ.1 19) - 1) hl (show (1 : Int32).toInt = 1 from rfl) rfl (by omega)
        omega
      have dx : dC x = dC σ := dC_q Ex (by decide) (by decide) x14
      have nx : nCl x = nCl σ := by unfold nCl; rw [Ex.1 2 (by decide)]
      rw [t19]
      refine ⟨fun z => ?_, fun z => ?_⟩
      · have ei : i = cs.length := by omega
        rw [ei, List.drop_length] at hg
        exact hq 0 x Bx Ex Tx Rx (fun j _ => by rw [x14]) (Or.inl ⟨rfl, hg, dx⟩)
      · obtain ⟨c, hc⟩ := get_ex (L := cs) (j := i) (by omega)
        obtain ⟨c59, cn, c5⟩ := hcs i c hc
        have hd2 := drop_c hc
        have t3 : (l3 + 1).toInt = ((i + 1 : Nat) : Int) := by
          have w := i3_addc (x := l3 + 1) e3 (show (1 : Int32).toInt = 1 from rfl) rfl (by omega)
          omega
        have next : ∀ u : VS, CBt u τ → Eo CFX CAX σ u → u.1 19 = σ.1 19 → vv u 59 = vv σ 59 → vv u 14 = vv σ 14 → CTm u → CRc u τ → ¬ P c → b_X9growOneOfTrial_142 X18 Q l1 l2 l3 u := fun u Bu Eu u19 u59 u14 Tu Ru np => by
          unfold b_X9growOneOfTrial_142
          refine ih (i + 1) l1 l2 (l3 + 1) u (by omega) (by omega) e1 e2 t3 Bu Eu u19 u59 u14 Tu Ru ?_
          rw [hg, hd2, grF_n np]
        have d0 : dC σ 0 c = vv σ 11 c := dC_0 cn
        have d4 : dC σ 4 c = vv σ 14 c := dC_4 cn
        refine ⟨⟨by omega, by omega⟩, fun x5 e5 => ?_⟩
        have t5 : x5.toInt = (c : Int) := by rw [e5, vv_rd e3, x59]; exact c59
        have v11 : vv x 11 c = vv σ 11 c := by rw [vv_eo Ex (by decide)]
        refine cx_hasSize t5 (by omega) (fun k0 k5 => ⟨fun w => absurd w (by decide), fun _ => ?_⟩) (fun k => ⟨fun _ => next x Bx Ex x19 x59 x14 Tx Rx (fun q => ?_), fun w => absurd rfl w⟩)
        · have r14 : (rd x 14 x5).toInt = vv σ 14 c := by rw [vv_rd t5, x14]
          have b14 : 0 ≤ vv σ 14 c ∧ vv σ 14 c ≤ 2 := hM.2 14 c
          rw [r14]
          refine ⟨⟨by omega, by omega⟩, fun w => next x Bx Ex x19 x59 x14 Tx Rx (fun q => ?_), fun w => ⟨⟨by omega, by omega⟩, ⟨by omega, by omega⟩, ?_⟩⟩
          · rw [hP] at q
            have q2 := q.2.1
            omega
          · unfold wp_X9forget
            obtain ⟨v1, hv1⟩ : ∃ v : Int32, v = (rd x 14 x5) + 1 := ⟨_, rfl⟩
            have tv1 : v1.toInt = vv σ 14 c + 1 := i3_addc r14 (show (1 : Int32).toInt = 1 from rfl) hv1 (by omega)
            rw [← hv1]
            obtain ⟨z2, hz2⟩ : ∃ z : VS, z = sf (sf (sa x 14 x5 v1) 0 0) 1 0 := ⟨_, rfl⟩
            rw [← hz2]
            have Mz : CI z2 := by
              rw [hz2]
              exact ((Mx.sa 14 x5 v1 ⟨by show (0 : Int) ≤ _; omega, by show _ ≤ (2 : Int); omega⟩).sf 0 0 (by decide)).sf 1 0 (by decide)
            have Exz : Eo [0, 1] [14] x z2 := by
              rw [hz2]
              exact ((Eo.rfl.sa 14 x5 v1 (by decide)).sf 0 0 (by decide)).sf 1 0 (by decide)
            have z14 : vv z2 14 = fu (vv x 14) c (vv x 14 c + 1) := by
              rw [hz2]
              show vv (sa x 14 x5 v1) 14 = _
              rw [vv_sa x 14 x5 v1 t5, tv1, x14]
            have Bz : CBt z2 τ := Bx.qc Mz (Exz.mono (by decide) (by decide))
            have dz : dC z2 = gD (dC σ) (nCl σ) c := by
              have q := dC_gr Exz (by decide) (by decide) (by omega) z14
              rw [q, dx, nx]
            have f0 : (z2.1 0).toInt = 0 := by rw [hz2, sf_other (by decide), sf_same]; rfl
            have f1 : (z2.1 1).toInt = 0 := by rw [hz2, sf_same]; rfl
            refine cx_refreshRace Bz (fun w => absurd f0 w) (fun w => absurd f1 w) (fun u Bu Eu u1 Tu Ru => ?_)
            have Mu := Bu.ci
            have Exu : Eo CFX CAX σ u := (Ex.trans (Exz.mono (by decide) (by decide))).trans (Eu.mono (by decide) (by decide))
            have u14 : vv u 14 = vv z2 14 := vv_eo Eu (by decide)
            have du : dC u = gD (dC σ) (nCl σ) c := by rw [dC_q Eu (by decide) (by decide) u14]; exact dz
            have nu : nCl u = nCl σ := by unfold nCl; rw [Exu.1 2 (by decide)]
            have Ju := ((Ru u1).2).1
            unfold rC at Ju
            rw [du, UC_same Exu (by decide), nu, Exu.1 6 (by decide), Exu.1 4 (by decide)] at Ju
            have Ju2 : JA (gD (dC σ) (nCl σ) c) (UC σ) (nCl σ) (rC σ) (σ.1 4).toInt (shF τ) (vv u 50) (vv u 51) (vv u 52) := Ju
            have u19 : u.1 19 = σ.1 19 := by rw [Eu.1 19 (by decide), Exz.1 19 (by decide)]; exact x19
            have u59 : vv u 59 = vv σ 59 := by rw [vv_eo Eu (by decide), vv_eo Exz (by decide)]; exact x59
            have ru14 : (rd u 14 x5).toInt = vv σ 14 c + 1 := by rw [vv_rd t5, u14, z14, fu_eq, x14]
            have undo : ¬ P c → b_X9growOneOfTrial_124 X18 Q l1 l2 l3 x5 u := fun np => by
              unfold b_X9growOneOfTrial_124 wp_X9forget
              obtain ⟨v2, hv2⟩ : ∃ v : Int32, v = (rd u 14 x5) - 1 := ⟨_, rfl⟩
              have tv2 : v2.toInt = vv σ 14 c := by
                have q := i3_subc (x := v2) ru14 (show (1 : Int32).toInt = 1 from rfl) hv2 (by omega)
                omega
              rw [← hv2]
              obtain ⟨z3, hz3⟩ : ∃ z : VS, z = sf (sf (sa u 14 x5 v2) 0 0) 1 0 := ⟨_, rfl⟩
              rw [← hz3]
              have M3 : CI z3 := by
                rw [hz3]
                exact ((Mu.sa 14 x5 v2 ⟨by show (0 : Int) ≤ _; omega, by show _ ≤ (2 : Int); omega⟩).sf 0 0 (by decide)).sf 1 0 (by decide)
              have E3 : Eo [0, 1] [14] u z3 := by
                rw [hz3]
                exact ((Eo.rfl.sa 14 x5 v2 (by decide)).sf 0 0 (by decide)).sf 1 0 (by decide)
              have z314 : vv z3 14 = vv σ 14 := by
                rw [hz3]
                show vv (sa u 14 x5 v2) 14 = _
                rw [vv_sa u 14 x5 v2 t5, tv2, u14, z14, x14]
                funext j
                by_cases q : j = c
                · rw [q, fu_eq]
                · rw [fu_ne q, fu_ne q]
              have g0 : (z3.1 0).toInt = 0 := by rw [hz3, sf_other (by decide), sf_same]; rfl
              have g1 : (z3.1 1).toInt = 0 := by rw [hz3, sf_same]; rfl
              exact ⟨⟨by omega, by omega⟩, ⟨by omega, by omega⟩, next z3 (Bu.qc M3 (E3.mono (by decide) (by decide))) (Exu.trans (E3.mono (by decide) (by decide))) (by rw [E3.1 19 (by decide)]; exact u19) (by rw [vv_eo E3 (by decide)]; exact u59) z314 (fun q => absurd g0 q) (fun q => absurd g1 q) np⟩
            -- what it would need to be P
            have un : ∀ (w l g : Nat → Int) (r rh' : Nat), JA (gD (dC σ) (nCl σ) c) (UC σ) (nCl σ) (rC σ) (σ.1 4).toInt (shF τ) w l g → LO (nCl σ) w l (r : Int) → LO (nCl σ) w g (rh' : Int) → ∀ r1 r2 : Int, LO (nCl σ) (vv u 50) (vv u 51) r1 → LO (nCl σ) (vv u 50) (vv u 52) r2 → r1 = (r : Int) ∧ r2 = (rh' : Int) ∧ l r = vv u 51 r ∧ g rh' = vv u 52 rh' := fun w l g r rh' j lo lo2 r1 r2 k1 k2 => by
              have e := JA.un hW.gr j Ju2
              have q1 := LO.un lo k1 (fun t ht => ⟨(e t ht).1, (e t ht).2.1⟩)
              have q2 := LO.un lo2 k2 (fun t ht => ⟨(e t ht).1, (e t ht).2.2⟩)
              have hr' : r < nCl σ := by
                rcases lo.bd with z | ⟨z, z1, z2, _⟩
                · omega
                · omega
              have hh' : rh' < nCl σ := by
                rcases lo2.bd with z | ⟨z, z1, z2, _⟩
                · omega
                · omega
              exact ⟨q1.symm, q2.symm, (e r hr').2.1, (e rh' hh').2.2⟩
            obtain ⟨r2, hr2⟩ := LO.ex (vv u 50) (vv u 52) (nCl σ)
            unfold wp_X2isAnyTold b_X2isAnyTold_16
            refine cx_leastOfS Mu (fun r1 L1 => ?_)
            rw [nu] at L1
            refine ⟨fun neg => ⟨⟨by decide, by decide⟩, fun _ => undo (fun q => ?_), fun w => absurd rfl w⟩, fun pos => ⟨⟨by decide, by decide⟩, fun w => absurd w (by decide), fun _ => ?_⟩⟩
            · rw [hP] at q
              obtain ⟨_, _, w, l, g, r, rh', j, lo, lo2, _, _⟩ := q
              have q := (un w l g r rh' j lo lo2 r1.toInt r2 L1 hr2).1
              omega
            · obtain ⟨ra, hra, era⟩ : ∃ ra : Nat, ra < nCl σ ∧ r1.toInt = (ra : Int) := by
                rcases L1.bd with z | ⟨z, z1, z2, _⟩
                · omega
                · exact ⟨z, z1, z2⟩
              have ptold : 0 < vv u 50 ra := by
                rcases L1.bd with z | ⟨z, z1, z2, z3⟩
                · omega
                · have z4 : z = ra := by omega
                  rw [← z4]; exact z3
              unfold wp_X2leastSlack b_X2leastSlack_24
              refine cx_leastOfS Mu (fun r1' L1' => ?_)
              rw [nu] at L1'
              have er : r1'.toInt = (ra : Int) := by rw [LO.un L1' L1 (fun t _ => ⟨rfl, rfl⟩)]; exact era
              refine ⟨fun _ => ⟨⟨by omega, by omega⟩, ?_⟩, fun z => by omega⟩
              have rs1 : (rd u 51 r1').toInt = vv u 51 ra := vv_rd er
              refine ⟨fun le => undo (fun q => ?_), fun gt => ?_⟩
              · rw [hP] at q
                obtain ⟨_, _, w, l, g, r, rh', j, lo, lo2, q1, q2⟩ := q
                have q := un w l g r rh' j lo lo2 r1.toInt r2 L1 hr2
                have er2 : r = ra := by omega
                rw [q.2.2.1, er2] at q1
                omega
              · obtain ⟨rb, hrb, erb⟩ := hr2.pos hra ptold
                unfold wp_X2leastHold b_X2leastHold_24
                refine cx_leastOfH Mu (fun r2' L2' => ?_)
                rw [nu] at L2'
                have er2 : r2'.toInt = (rb : Int) := by rw [LO.un L2' hr2 (fun t _ => ⟨rfl, rfl⟩)]; exact erb
                refine ⟨fun _ => ⟨⟨by omega, by omega⟩, ?_⟩, fun z => by omega⟩
                have rs2 : (rd u 52 r2').toInt = vv u 52 rb := vv_rd er2
                refine ⟨fun lt => undo (fun q => ?_), fun ge => ?_⟩
                · rw [hP] at q
                  obtain ⟨_, _, w, l, g, r, rh', j, lo, lo2, q1, q2⟩ := q
                  have q := un w l g r rh' j lo lo2 r1.toInt r2 L1 hr2
                  have er3 : rh' = rb := by omega
                  rw [q.2.2.2, er3] at q2
                  omega
                · rw [era] at L1
                  rw [erb] at hr2
                  have yes : P c := by
                    rw [hP]
                    exact ⟨by omega, by omega, vv u 50, vv u 51, vv u 52, ra, rb, Ju2, L1, hr2, by omega, by omega⟩
                  refine hq 1 u Bu Exu Tu Ru (fun j hj => by rw [u14, z14, fu_ne (by omega), x14]) (Or.inr ⟨c, by decide, ?_, du⟩)
                  rw [hg, hd2, grF_y yes]
        · rw [v11] at k
          rw [hP] at q
          have q2 := q.1
          omega
  unfold wp_X2leastSlack b_X2leastSlack_24
  refine cx_leastOfS hM (fun r1 L1 => ?_)
  have er1 : r1.toInt = (t : Int) := LO.un L1 ls (fun t _ => ⟨rfl, rfl⟩)
  have tb : t < nCl σ := by
    rcases ls.bd with z | ⟨z, z1, z2, _⟩
    · omega
    · omega
  have rb : rh < nCl σ := by
    rcases lh.bd with z | ⟨z, z1, z2, _⟩
    · omega
    · omega
  refine ⟨fun _ => ⟨⟨by omega, by omega⟩, ?_⟩, fun z => by omega⟩
  unfold wp_X2leastHold b_X2leastHold_24
  refine cx_leastOfH hM (fun r2 L2 => ?_)
  have er2 : r2.toInt = (rh : Int) := LO.un L2 lh (fun t _ => ⟨rfl, rfl⟩)
  refine ⟨fun _ => ⟨⟨by omega, by omega⟩, ?_⟩, fun z => by omega⟩
  exact Z (cs.length + 1) 0 _ _ 0 σ (by omega) (by omega) (vv_rd er1) (vv_rd er2) rfl B Eo.rfl rfl rfl rfl hT hR rfl
