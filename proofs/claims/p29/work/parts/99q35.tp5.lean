set_option maxHeartbeats 1000000 in
theorem rx_reach {Q : VS → Prop} {p1 p2 : Int32} {σ : VS} {s t fs R n0 : Nat} {b : Nat → Nat} {L : Nat → List (List Nat)} {La Ea : List Nat → Nat → Int} {rm hr : Int} {N : List Nat → Int} {M0 : Int → Int → Prop} (h1 : p1.toInt = (s : Int)) (h2 : p2.toInt = (t : Int)) (hs : s < nC σ) (ht : t < nC σ) (hM : MI σ) (hS : SI σ) (hNd : NdR σ) (hb0 : b = bR (vv σ 28) R) (hR : (σ.1 25).toInt = (R : Int)) (hfs : vv σ 7 (4 * t) = (fs : Int)) (hf50 : fs < 50) (hL : ∀ e, e < 2 → RM b s La Ea (L e) fs e σ) (bp : ∀ e p, e < 2 → p ∈ L e → (0 ≤ La p e ∧ La p e ≤ 3000000) ∧ 0 ≤ Ea p e ∧ Ea p e ≤ 3000000) (hrm : rm = dM σ 14 t - vv σ 12 t + (shM σ s t).toInt) (hhr : hr = (shM σ s t).toInt - dM σ 13 t - vv σ 13 t) (hN : ∀ p, N p = perK (vv σ 26) (hitR (vv σ 27) (vv σ 28) (vv σ 29) s t (mkP b s p ||| b t)) R) (hE0 : En n0 M0 (vv σ 45 t) (vv σ 46 t) (vv σ 47 t))
    (hq : ∀ τ : VS, MI τ → Eo [] [45, 46, 47] σ τ → (∀ j, j ≠ t → vv τ 45 j = vv σ 45 j ∧ vv τ 46 j = vv σ 46 j ∧ vv τ 47 j = vv σ 47 j) → En (n0 + cG b s 16 (2 * 16) N (L 0) (L 1)) (fun x y => M0 x y ∨ MG b s 16 (2 * 16) N La Ea L (σ.1 20).toInt rm hr x y) (vv τ 45 t) (vv τ 46 t) (vv τ 47 t) → Q τ) : wp_reach Q p1 p2 σ := by
  have a1 : 0 ≤ (σ.1 1).toInt ∧ (σ.1 1).toInt ≤ 50 := hM.1 1
  have en : (σ.1 1).toInt = ((nC σ : Nat) : Int) := by unfold nC; omega
  have hR4 : 0 ≤ (σ.1 25).toInt ∧ (σ.1 25).toInt ≤ 4 := hM.1 25
  have b16 : ∀ c, b c < 16 := fun c => by rw [hb0]; exact bR_16 _ (by omega) c
  have hbm : ∀ p, mkP b s p < 16 := fun p => mkP_lt (s := s) or_16 b16 p
  have bsh := shM_b hM hNd s t
  unfold wp_reach
  intro X27 X36 H27 H36
  have u1 : (4 * p2).toInt = ((4 * t : Nat) : Int) := by
    have q := i3_mulc (x := 4 * p2) (show (4 : Int32).toInt = 4 from rfl) h2 rfl (by omega)
    omega
  refine ⟨⟨by omega, by omega⟩, fun x1 e1 => met_s hM ?_⟩
  have t1 : x1.toInt = (fs : Int) := by rw [e1, vv_rd u1, hfs]
  clear e1
  rw [h2]
  obtain ⟨l4, hl4⟩ : ∃ l4 : Int32, l4 = metV σ (t : Int) := ⟨_, rfl⟩
  have t4 : l4.toInt = ((b t : Nat) : Int) := by rw [hl4, hb0]; exact metN_bR hM hR t
  rw [← hl4]
  clear hl4
  have Z : ∀ l5 : Int32, l5.toInt = (shM σ s t).toInt → X27 p1 p2 x1 l4 l5 0 σ := by
    intro l5 t5
    have G36 : ∀ (f : Nat) (l6 : Int32), f < 2 → l6.toInt = (f : Int) → (∀ τ : VS, MI τ → Eo [] [45, 46, 47] σ τ → (∀ j, j ≠ t → vv τ 45 j = vv σ 45 j ∧ vv τ 46 j = vv σ 46 j ∧ vv τ 47 j = vv σ 47 j) → En (n0 + cG b s 16 ((f + 1) * 16) N (L 0) (L 1)) (fun x y => M0 x y ∨ MG b s 16 ((f + 1) * 16) N La Ea L (σ.1 20).toInt rm hr x y) (vv τ 45 t) (vv τ 46 t) (vv τ 47 t) → X27 p1 p2 x1 l4 l5 (l6 + 1) τ) → ∀ (d m : Nat) (l7 : Int32) (τ : VS), 17 ≤ d + m → m ≤ 16 → l7.toInt = (m : Int) → MI τ → Eo [] [45, 46, 47] σ τ → (∀ j, j ≠ t → vv τ 45 j = vv σ 45 j ∧ vv τ 46 j = vv σ 46 j ∧ vv τ 47 j = vv σ 47 j) → En (n0 + cG b s 16 (f * 16 + m) N (L 0) (L 1)) (fun x y => M0 x y ∨ MG b s 16 (f * 16 + m) N La Ea L (σ.1 20).toInt rm hr x y) (vv τ 45 t) (vv τ 46 t) (vv τ 47 t) → X36 p1 p2 x1 l4 l5 l6 l7 τ := by
      intro f l6 hf e6 K27 d
      induction d with
      | zero => intro m l7 τ a c; omega
      | succ d ih =>
        intro m l7 τ a c e7 hMt hE hF hEn
        refine H36 p1 p2 x1 l4 l5 l6 l7 τ ?_
        unfold b_reach_36
        refine ⟨fun z => ?_, fun z => ?_⟩
        · have em : f * 16 + m = (f + 1) * 16 := by omega
          rw [em] at hEn
          exact K27 τ hMt hE hF hEn
        · have hm : m < 16 := by omega
          have t7 : (l7 + 1).toInt = ((m + 1 : Nat) : Int) := by
            have q := i3_addc (x := l7 + 1) e7 (show (1 : Int32).toInt = 1 from rfl) rfl (by omega)
            omega
          intro x6 ex6
          have v1 : (2 * x1).toInt = 2 * (fs : Int) := i3_mulc rfl t1 rfl (by have q : (2 : Int32).toInt = 2 := rfl; omega)
          have v2 : (2 * x1 + l6).toInt = 2 * (fs : Int) + (f : Int) := i3_addc v1 e6 rfl (by omega)
          have v3 : (16 * (2 * x1 + l6)).toInt = 16 * (2 * (fs : Int) + (f : Int)) := i3_mulc rfl v2 rfl (by have q : (16 : Int32).toInt = 16 := rfl; omega)
          have t6 : x6.toInt = (((2 * fs + f) * 16 + m : Nat) : Int) := by
            have q := i3_addc (x := x6) v3 e7 ex6 (by omega)
            omega
          clear ex6
          have src := hL f hf m hm
          have f42 : vv τ 42 = vv σ 42 := vv_eo hE (by decide)
          have f43 : vv τ 43 = vv σ 43 := vv_eo hE (by decide)
          have f44 : vv τ 44 = vv σ 44 := vv_eo hE (by decide)
          have r42 : (rd τ 42 x6).toInt = vv σ 42 ((2 * fs + f) * 16 + m) := by rw [vv_rd t6, f42]
          have wb := src.1
          have keep : (∀ p, p ∈ L f → mkP b s p = m → ¬ 0 < N p) → X36 p1 p2 x1 l4 l5 l6 (l7 + 1) τ := fun hk => by
            have G := cG_keep (L := L) (N := N) hf hm hbm hk
            refine ih (m + 1) (l7 + 1) τ (by omega) (by omega) t7 hMt hE hF ?_
            refine En.cg (by rw [← Nat.add_assoc, G.1]) (fun x y => ?_) hEn
            rw [← Nat.add_assoc, MG_same G.2]
          rw [r42]
          refine ⟨⟨by omega, by omega⟩, fun z1 => per_s hMt ?_, fun z1 => ?_⟩
          · have z1' : 0 < vv σ 42 ((2 * fs + f) * 16 + m) := by omega
            have mk1 : (l7 ||| l4).toInt = ((m ||| b t : Nat) : Int) := or_nat e7 t4 hm (b16 t)
            obtain ⟨r7, hr7⟩ : ∃ r7 : Int32, r7 = perV τ p1.toInt p2.toInt (l7 ||| l4) := ⟨_, rfl⟩
            have er7 : r7.toInt = perK (vv σ 26) (hitR (vv σ 27) (vv σ 28) (vv σ 29) s t (m ||| b t)) R := by
              rw [hr7, h1, h2]
              unfold perV
              rw [hE.1 25 (by decide), show (σ.1 25).toInt.toNat = R by omega, per_R mk1 (or_16 _ _ hm (b16 t)) R (by omega), vv_eo hE (show 26 ∉ [45, 46, 47] by decide), vv_eo hE (show 27 ∉ [45, 46, 47] by decide), vv_eo hE (show 28 ∉ [45, 46, 47] by decide), vv_eo hE (show 29 ∉ [45, 46, 47] by decide)]
            have br7 : 0 ≤ r7.toInt ∧ r7.toInt ≤ 4 := by
              rw [er7]
              exact perK_b R (fun k _ => hM.2 26 k)
            rw [← hr7]
            have NG : ∀ p, p ∈ L f → mkP b s p = m → N p = r7.toInt := fun p _ w => by rw [hN p, w, er7]
            by_cases zr : r7.toInt = 0
            · unfold b_reach_82 b_reach_212
              exact ⟨fun k => absurd zr k, fun _ => keep (fun p hp w k => by rw [NG p hp w] at k; omega)⟩
            · obtain ⟨pp, qq, m1, m2, mm, ev1, ev2⟩ := src.val z1'
              have bb1 := (bp f pp hf m1).1
              have bb2 := (bp f qq hf m2).2
              have G := cG_add (L := L) (N := N) hf hm hbm NG (by omega)
              have dt : dM τ = dM σ := dM_same hE (by decide) (by decide)
              have nt : nC τ = nC σ := by unfold nC; rw [hE.1 1 (by decide)]
              have ndt : NdR τ := by
                unfold NdR
                rw [vv_eo hE (show 23 ∉ [45, 46, 47] by decide), vv_eo hE (show 24 ∉ [45, 46, 47] by decide), hE.1 21 (by decide)]
                exact hNd
              refine rx_rea1 (t := t) (x := (2 * fs + f) * 16 + m) (sh := (shM σ s t).toInt) h2 (by omega) t6 (by omega) hMt (hS.same hE (by decide)) ndt (by omega) t5 bsh (by rw [f42]; omega) (by rw [f43]; omega) (by rw [f44]; omega) (fun τ2 M2 E2 g1 g2 g3 => ?_)
              rw [f42] at g1
              rw [f43, dt, vv_eo hE (show 12 ∉ [45, 46, 47] by decide), hE.1 20 (by decide), ← hrm] at g2
              rw [f44, dt, vv_eo hE (show 13 ∉ [45, 46, 47] by decide), ← hhr] at g3
              refine ih (m + 1) (l7 + 1) τ2 (by omega) (by omega) t7 M2 (hE.trans E2) (fun j hj => ?_) ?_
              · rw [g1, g2, g3, fu_ne hj, fu_ne hj, fu_ne hj]; exact hF j hj
              · rw [g1, g2, g3, fu_eq, fu_eq, fu_eq]
                have A := En.add (x := r7.toInt * (σ.1 20).toInt + rm) (y := hr) hEn src z1'
                refine En.cg (by rw [← Nat.add_assoc (f * 16), G.1]; omega) (fun x y => ⟨fun k => ?_, fun k => ?_⟩) A
                · rcases k with (k | ⟨e, p, he, hp, w, r⟩) | ⟨u, v, ⟨p, hp, w, r1, r2⟩, k1, k2⟩
                  · exact Or.inl k
                  · exact Or.inr ⟨e, p, he, hp, (G.2 e p he hp).mpr (Or.inl w), r⟩
                  · exact Or.inr ⟨f, p, hf, hp, (G.2 f p hf hp).mpr (Or.inr ⟨rfl, w⟩), by rw [NG p hp w, r1]; exact k1, by rw [r2]; exact k2⟩
                · rcases k with k | ⟨e, p, he, hp, w, r1, r2⟩
                  · exact Or.inl (Or.inl k)
                  · rcases (G.2 e p he hp).mp w with w | ⟨w1, w2⟩
                    · exact Or.inl (Or.inr ⟨e, p, he, hp, w, r1, r2⟩)
                    · rw [w1] at hp r1 r2
                      rw [NG p hp w2] at r1
                      exact Or.inr ⟨La p f, Ea p f, ⟨p, hp, w2, rfl, rfl⟩, r1, r2⟩
          · unfold b_reach_82 b_reach_212
            refine ⟨fun k => absurd rfl k, fun _ => keep (fun p hp w _ => ?_)⟩
            have n1 := (cP_pos (φ := fun p => mkP b s p = m) (L f)).mpr ⟨p, hp, w⟩
            have n2 := (Sm3.pos src).mpr n1
            omega
    have base : ∀ e p, Gp b s 16 0 N e p → False := fun e p k => by have := k.1; omega
    have c0 : cG b s 16 0 N (L 0) (L 1) = 0 := by
      unfold cG
      rw [cP_all (fun p _ => base 0 p), cP_all (fun p _ => base 1 p)]
    have st : En (n0 + cG b s 16 (0 * 16 + 0) N (L 0) (L 1)) (fun x y => M0 x y ∨ MG b s 16 (0 * 16 + 0) N La Ea L (σ.1 20).toInt rm hr x y) (vv σ 45 t) (vv σ 46 t) (vv σ 47 t) := En.cg (by show n0 = n0 + cG b s 16 0 N (L 0) (L 1); rw [c0, Nat.add_zero]) (fun x y => ⟨fun k => Or.inl k, fun k => k.elim (fun w => w) (fun ⟨e, p, _, _, w, _⟩ => absurd w (base e p))⟩) hE0
    refine H27 p1 p2 x1 l4 l5 0 σ ?_
    unfold b_reach_27
    refine ⟨fun z => absurd z (by decide), fun _ => G36 0 0 (by decide) rfl (fun τ q1 q2 q3 q4 => ?_) 17 0 0 σ (by omega) (by omega) rfl hM Eo.rfl (fun j _ => ⟨rfl, rfl, rfl⟩) st⟩
    refine H27 p1 p2 x1 l4 l5 (0 + 1) τ ?_
    unfold b_reach_27
    refine ⟨fun z => absurd z (by decide), fun _ => G36 1 (0 + 1) (by decide) rfl (fun τ2 w1 w2 w3 w4 => ?_) 17 0 0 τ (by omega) (by omega) rfl q1 q2 q3 q4⟩
    refine H27 p1 p2 x1 l4 l5 (0 + 1 + 1) τ2 ?_
    unfold b_reach_27
    exact ⟨fun _ => hq τ2 w1 w2 w3 w4, fun z => absurd z (by decide)⟩
  refine rx_shared (by omega) (by omega) hS hM (fun k N2 hN2 => Z _ ?_) (fun k => Z 0 ?_)
  · have a2 : (rd σ 2 p1).toInt = vv σ 2 s := vv_rd h1
    have a3 : (rd σ 2 p2).toInt = vv σ 2 t := vv_rd h2
    unfold shM
    rw [if_pos ⟨by rw [← a2]; exact k.1, by rw [← a3]; exact k.2⟩, vv_rd h1, vv_rd h2, show (σ.1 21).toInt.toNat = N2 by omega]
  · have a2 : (rd σ 2 p1).toInt = vv σ 2 s := vv_rd h1
    have a3 : (rd σ 2 p2).toInt = vv σ 2 t := vv_rd h2
    unfold shM
    rw [if_neg (fun q => k ⟨by rw [a2]; exact q.1, by rw [a3]; exact q.2⟩)]
