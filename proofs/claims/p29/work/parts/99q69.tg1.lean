/-! ARRIVALS OF THE REFERENCE -/
theorem rx_timeQ {Q : VS → Prop} {τ : VS} (B : RB τ) (hq : ∀ x : VS, RQ τ x → TD x → (∀ c, c < nC τ → LE2 (dM τ) (vM x) (vM x) c) → Q x) : wp_time Q τ := by
  obtain ⟨M, S, W, Z, I⟩ := B
  refine rx_time S M W (fun x Mx Ex Dx Lx => ?_)
  have dx : dM x = dM τ := dM_q Ex (by decide) (by decide) (vv_eo Ex (by decide))
  have nx : nC x = nC τ := by unfold nC; rw [Ex.1 1 (by decide)]
  refine hq x ⟨⟨Mx, S.same Ex (by decide), W.same Ex (by decide), Z.sz Ex (by decide) (fun c _ => by rw [vv_eo Ex (by decide)]), I.same Ex (by decide)⟩, Ex.mono (by decide) (by decide)⟩ Dx (fun c hc => ?_)
  have q := Lx c (by omega)
  rw [dx] at q
  exact q
theorem cx_timeQ {Q : VS → Prop} {σ τ : VS} (J : Ju σ τ) (hq : ∀ x : VS, CQ σ τ x → (∀ c, c < nCl σ → LE2 (dC σ) (vC x) (vC x) c) → (∀ c, c < nCl σ → LA2 (dC σ) (vC x) (vC x) c) → Q x) : wp_X9refreshTiming Q σ := by
  refine cx_refreshTiming J.cbt J.2.2.2.2.1 J.2.2.2.2.2.1 (fun x Bx Ex x0 Tx Rx => ?_)
  have dx : dC x = dC σ := dC_q Ex (by decide) (by decide) (vv_eo Ex (by decide))
  have nx : nCl x = nCl σ := by unfold nCl; rw [Ex.1 2 (by decide)]
  have st := Tx x0
  refine hq x ⟨Bx, Ex.mono (by decide) (by decide), Tx, Rx⟩ (fun c hc => ?_) (fun c hc => ?_)
  · have q := (st c (by omega)).1
    rw [dx] at q
    exact q
  · have q := (st c (by omega)).2.1
    rw [dx] at q
    exact q
/-- what arrive(d, e) leaves -/
def ArM (D V : Nat → Nat → Int) (d e : Nat) (l g : Int) : Prop := (D 0 d = 0 → l = D 11 d ∧ g = D 12 d) ∧ (D 0 d ≠ 0 → l = mxF (acN D V d) (fun i => alN D V 6 d e i + V 2 (8 * d + 2 * i + e)) (ipN D d) ∧ g = mnF (acN D V d) (fun i => alN D V 7 d e i + V 3 (8 * d + 2 * i + e)) (ipN D d))
set_option maxHeartbeats 1000000 in
theorem rx_arrive {Q : VS → Prop} {p1 p2 : Int32} {σ : VS} {d e : Nat} {b : Int} {ρ : Nat → Nat} (h1 : p1.toInt = (d : Int)) (h2 : p2.toInt = (e : Int)) (hd : d < nC σ) (he : e < 2) (hM : MI σ) (hS : SI σ) (hN : NdR σ) (hW : Wo (dM σ) (nC σ) ρ) (hR0 : ∃ R, (σ.1 25).toInt = ((R : Nat) : Int)) (hL : ∀ c, c < nC σ → LE2 (dM σ) (vM σ) (vM σ) c) (k5 : dM σ 0 d ≠ 5) (r : vM σ 0 d ≠ 0) (o : vM σ 1 d = 0) (hb : 2400000 ≤ b ∧ b ≤ 3000000) (hO : gN (dM σ) d → ∀ i, i < ipN (dM σ) d → acN (dM σ) (vM σ) d i → ∀ f, f < 2 → (0 ≤ vv σ 40 (2 * (dM σ 5 (4 * d + i)).toNat + f) ∧ vv σ 40 (2 * (dM σ 5 (4 * d + i)).toNat + f) ≤ b) ∧ 0 ≤ vv σ 41 (2 * (dM σ 5 (4 * d + i)).toNat + f) ∧ vv σ 41 (2 * (dM σ 5 (4 * d + i)).toNat + f) ≤ b) (hns : gN (dM σ) d → ∀ i, i < ipN (dM σ) d → 0 ≤ dM σ 5 (4 * d + i) → (dM σ 5 (4 * d + i)).toNat ≠ d) (hq : ∀ (x : VS) (l g : Int), MI x → Eo [] [40, 41] σ x → vv x 40 = fu (vv σ 40) (2 * d + e) l → vv x 41 = fu (vv σ 41) (2 * d + e) g → (0 ≤ l ∧ l ≤ b + 6000) → (0 ≤ g ∧ g ≤ b + 6000) → ArM (dM σ) (vM σ) d e l g → Q x) : wp_arrive Q p1 p2 σ := by
  have a1 : 0 ≤ (σ.1 1).toInt ∧ (σ.1 1).toInt ≤ 50 := hM.1 1
  have n50 : nC σ ≤ 50 := by unfold nC; omega
  have d0 : dM σ 0 d = vv σ 2 d := dM_0 hd
  have kb : 0 ≤ vv σ 2 d ∧ vv σ 2 d ≤ 5 := hM.2 2 d
  have u1 : (2 * p1).toInt = 2 * (d : Int) := i3_mulc rfl h1 rfl (by have w : (2 : Int32).toInt = 2 := rfl; omega)
  have u2 : ((2 * p1) + p2).toInt = ((2 * d + e : Nat) : Int) := by
    have w := i3_addc (x := (2 * p1) + p2) u1 h2 rfl (by omega)
    omega
  unfold wp_arrive
  intro X46 H
  refine isGate_s h1 (by omega) (fun g => ⟨fun _ => ?_, fun w => absurd w (by decide)⟩) (fun g => ⟨fun w => absurd rfl w, fun _ => ?_⟩)
  · have gD : gN (dM σ) d := (gM_is hd).mpr g
    have g1 := gD.1
    have g2 := gD.2
    have b3 : 0 ≤ vv σ 3 d ∧ vv σ 3 d ≤ 4 := hM.2 3 d
    obtain ⟨m, hm⟩ : ∃ m : Nat, vv σ 3 d = (m : Int) := ⟨(vv σ 3 d).toNat, by omega⟩
    have ipm : ipN (dM σ) d = m := by unfold ipN; rw [dM_1 hd, hm]; rfl
    have n4 : dM σ 0 d ≠ 4 := by omega
    have ac : ∀ i, acN (dM σ) (vM σ) d i ↔ (0 ≤ dM σ 5 (4 * d + i) ∧ vM σ 0 (dM σ 5 (4 * d + i)).toNat ≠ 0) := fun i => ⟨fun z => z.resolve_left n4, fun z => Or.inr z⟩
    rw [ipm] at hO hns
    have fl := feN_lt (dM σ) d he
    have Z : ∀ (f i : Nat) (l3 l4 : Int32) (x : VS), m + 1 ≤ f + i → i ≤ m → l4.toInt = (i : Int) → MI x → Eo [] [40, 41] σ x → (∀ j, j ≠ 2 * d + e → vv x 40 j = vv σ 40 j ∧ vv x 41 j = vv σ 41 j) → ((l3.toInt = 0 ∧ ∀ j, j < i → ¬ acN (dM σ) (vM σ) d j) ∨ (l3.toInt ≠ 0 ∧ (∃ j, j < i ∧ acN (dM σ) (vM σ) d j) ∧ vv x 40 (2 * d + e) = mxF (acN (dM σ) (vM σ) d) (fun i => alN (dM σ) (vM σ) 6 d e i + vM σ 2 (8 * d + 2 * i + e)) i ∧ vv x 41 (2 * d + e) = mnF (acN (dM σ) (vM σ) d) (fun i => alN (dM σ) (vM σ) 7 d e i + vM σ 3 (8 * d + 2 * i + e)) i)) → X46 p1 p2 l3 l4 x := by
      have bnd : ∀ i, i < m → acN (dM σ) (vM σ) d i → (0 ≤ alN (dM σ) (vM σ) 6 d e i + vM σ 2 (8 * d + 2 * i + e) ∧ alN (dM σ) (vM σ) 6 d e i + vM σ 2 (8 * d + 2 * i + e) ≤ b + 6000) ∧ (0 ≤ alN (dM σ) (vM σ) 7 d e i + vM σ 3 (8 * d + 2 * i + e) ∧ alN (dM σ) (vM σ) 7 d e i + vM σ 3 (8 * d + 2 * i + e) ≤ b + 6000) := fun i hi a => by
        have q := hO gD i hi a (feN (dM σ) d e) fl
        have dl := dlm_b hM hL hd ⟨by omega, by omega⟩ r o (by rw [ipm]; exact hi) he a
        have e6 : alN (dM σ) (vM σ) 6 d e i = vv σ 40 (2 * (dM σ 5 (4 * d + i)).toNat + feN (dM σ) d e) := by unfold alN; rw [if_neg n4]; rfl
        have e7 : alN (dM σ) (vM σ) 7 d e i = vv σ 41 (2 * (dM σ 5 (4 * d + i)).toNat + feN (dM σ) d e) := by unfold alN; rw [if_neg n4]; rfl
        rw [e6, e7]
        omega
      intro f
      induction f with
      | zero => intro i l3 l4 x a b'; omega
      | succ f ih =>
        intro i l3 l4 x ha hi e4 hMx hEx hF hV
        refine H p1 p2 l3 l4 x ?_
        unfold b_arrive_46 b_arrive_239
        have r3 : (rd x 3 p1).toInt = (m : Int) := by rw [vv_rd h1, vv_eo hEx (by decide)]; exact hm
        refine ⟨⟨by omega, by omega⟩, fun z => ?_, fun z => ?_⟩
        · rw [r3, e4] at z
          have ei : i = m := by omega
          rcases hV with ⟨_, no⟩ | ⟨_, ⟨j, hj, aj⟩, v40, v41⟩
          · exfalso
            rcases (hL d hd).2.2.2.1 gD with ⟨_, j, hj, aj⟩ | ⟨v, _⟩
            · rw [ipm] at hj
              exact no j (by omega) aj
            · exact r v
          · rw [ei] at v40 v41 hj
            have mb := mxF_b (act := acN (dM σ) (vM σ) d) (g := fun i => alN (dM σ) (vM σ) 6 d e i + vM σ 2 (8 * d + 2 * i + e)) (b := b + 6000) (by omega) m (fun i hi a => (bnd i hi a).1.2)
            have nb := mnF_b (act := acN (dM σ) (vM σ) d) (g := fun i => alN (dM σ) (vM σ) 7 d e i + vM σ 3 (8 * d + 2 * i + e)) m (fun i hi a => (bnd i hi a).2.1)
            have nu := mnF_u (act := acN (dM σ) (vM σ) d) (g := fun i => alN (dM σ) (vM σ) 7 d e i + vM σ 3 (8 * d + 2 * i + e)) (b := b + 6000) m (fun i hi a => (bnd i hi a).2.2) ⟨j, hj, aj⟩
            refine hq x _ _ hMx hEx ?_ ?_ mb ⟨nb.1, nu⟩ ⟨fun w => by omega, fun _ => by rw [ipm]; exact ⟨rfl, rfl⟩⟩
            · funext j
              by_cases w : j = 2 * d + e
              · rw [w, fu_eq, v40]
              · rw [fu_ne w]; exact (hF j w).1
            · funext j
              by_cases w : j = 2 * d + e
              · rw [w, fu_eq, v41]
              · rw [fu_ne w]; exact (hF j w).2
        · rw [r3, e4] at z
          have im : i < m := by omega
          have u3 : (4 * p1).toInt = 4 * (d : Int) := i3_mulc rfl h1 rfl (by have w : (4 : Int32).toInt = 4 := rfl; omega)
          have u4 : ((4 * p1) + l4).toInt = ((4 * d + i : Nat) : Int) := by
            have w := i3_addc (x := (4 * p1) + l4) u3 e4 rfl (by omega)
            omega
          have d5 : dM σ 5 (4 * d + i) = vv σ 7 (4 * d + i) := d5M hM (by omega)
          have t4 : (l4 + 1).toInt = ((i + 1 : Nat) : Int) := by
            have w := i3_addc (x := l4 + 1) e4 (show (1 : Int32).toInt = 1 from rfl) rfl (by omega)
            omega
          refine ⟨⟨by omega, by omega⟩, fun x7 e7 => ?_⟩
          have t7 : x7.toInt = dM σ 5 (4 * d + i) := by rw [e7, vv_rd u4, vv_eo hEx (by decide), d5]
          have skip : ¬ acN (dM σ) (vM σ) d i → X46 p1 p2 l3 (l4 + 1) x := fun na => by
            refine ih (i + 1) l3 (l4 + 1) x (by omega) (by omega) t4 hMx hEx hF ?_
            rcases hV with ⟨z0, no⟩ | ⟨z0, ⟨j, hj, aj⟩, v40, v41⟩
            · refine Or.inl ⟨z0, fun j hj => ?_⟩
              by_cases w : j = i
              · rw [w]; exact na
              · exact no j (by omega)
            · exact Or.inr ⟨z0, ⟨j, by omega, aj⟩, by rw [mxF_n na]; exact v40, by rw [mnF_n na]; exact v41⟩
          refine ⟨fun neg => skip (fun a => by have q := ((ac i).mp a).1; omega), fun pos => ?_⟩
          have sn := (hW.2.2.2.2 (4 * d + i) (by omega) (by omega)).1
          obtain ⟨s, es⟩ : ∃ s : Nat, dM σ 5 (4 * d + i) = (s : Int) := ⟨(dM σ 5 (4 * d + i)).toNat, by omega⟩
          have es2 : (dM σ 5 (4 * d + i)).toNat = s := by omega
          have t7s : x7.toInt = (s : Int) := by omega
          have r34 : (rd x 34 x7).toInt = vM σ 0 s := by rw [vv_rd t7s, vv_eo hEx (by decide)]; rfl
          refine ⟨⟨by omega, by omega⟩, fun nz => ?_, fun z0 => skip (fun a => by
            have q := ((ac i).mp a).2
            rw [es2] at q
            omega)⟩
          rw [r34] at nz
          have a : acN (dM σ) (vM σ) d i := (ac i).mpr ⟨by omega, by rw [es2]; exact nz⟩
          have bo := hO gD i im a
          rw [es2] at bo
          have ns := hns gD i im (by omega)
          rw [es2] at ns
          have dl := dlm_b hM hL hd ⟨by omega, by omega⟩ r o (by rw [ipm]; exact im) he a
          have go : ∀ k0 : Int32, k0.toInt = ((feN (dM σ) d e : Nat) : Int) → b_arrive_105 X46 Q p1 p2 l3 l4 x7 k0 x := fun k0 ek0 => by
            unfold b_arrive_105
            have bq := bo _ fl
            have w1 : (2 * x7).toInt = 2 * (s : Int) := i3_mulc rfl t7s rfl (by have w : (2 : Int32).toInt = 2 := rfl; omega)
            have w2 : ((2 * x7) + k0).toInt = ((2 * s + feN (dM σ) d e : Nat) : Int) := by
              have w := i3_addc (x := (2 * x7) + k0) w1 ek0 rfl (by omega)
              omega
            have w3 : (8 * p1).toInt = 8 * (d : Int) := i3_mulc rfl h1 rfl (by have w : (8 : Int32).toInt = 8 := rfl; omega)
            have w4 : (2 * l4).toInt = 2 * (i : Int) := i3_mulc rfl e4 rfl (by have w : (2 : Int32).toInt = 2 := rfl; omega)
            have w5 : ((8 * p1) + (2 * l4)).toInt = 8 * (d : Int) + 2 * (i : Int) := i3_addc w3 w4 rfl (by omega)
            have w6 : (((8 * p1) + (2 * l4)) + p2).toInt = ((8 * d + 2 * i + e : Nat) : Int) := by
              have w := i3_addc (x := ((8 * p1) + (2 * l4)) + p2) w5 h2 rfl (by omega)
              omega
            have nei : 2 * s + feN (dM σ) d e ≠ 2 * d + e := by omega
            have r40 : (rd x 40 ((2 * x7) + k0)).toInt = vv σ 40 (2 * s + feN (dM σ) d e) := by rw [vv_rd w2]; exact (hF _ nei).1
            have r41 : (rd x 41 ((2 * x7) + k0)).toInt = vv σ 41 (2 * s + feN (dM σ) d e) := by rw [vv_rd w2]; exact (hF _ nei).2
            have r36 : (rd x 36 (((8 * p1) + (2 * l4)) + p2)).toInt = vM σ 2 (8 * d + 2 * i + e) := by rw [vv_rd w6, vv_eo hEx (by decide)]; rfl
            have r37 : (rd x 37 (((8 * p1) + (2 * l4)) + p2)).toInt = vM σ 3 (8 * d + 2 * i + e) := by rw [vv_rd w6, vv_eo hEx (by decide)]; rfl
            have e6 : alN (dM σ) (vM σ) 6 d e i = vv σ 40 (2 * s + feN (dM σ) d e) := by unfold alN; rw [if_neg n4, es2]; rfl
            have e7' : alN (dM σ) (vM σ) 7 d e i = vv σ 41 (2 * s + feN (dM σ) d e) := by unfold alN; rw [if_neg n4, es2]; rfl
            refine ⟨⟨by omega, by omega⟩, ⟨by omega, by omega⟩, fun x8 e8 => ⟨⟨by omega, by omega⟩, ⟨by omega, by omega⟩, fun x9 e9 => ?_⟩⟩
            have t8 : x8.toInt = alN (dM σ) (vM σ) 6 d e i + vM σ 2 (8 * d + 2 * i + e) := by
              rw [e6]
              exact i3_addc r40 r36 e8 (by omega)
            have t9 : x9.toInt = alN (dM σ) (vM σ) 7 d e i + vM σ 3 (8 * d + 2 * i + e) := by
              rw [e7']
              exact i3_addc r41 r37 e9 (by omega)
            have bb := bnd i im a
            have put : ∀ L G : Int32, L.toInt = mxF (acN (dM σ) (vM σ) d) (fun i => alN (dM σ) (vM σ) 6 d e i + vM σ 2 (8 * d + 2 * i + e)) (i + 1) → G.toInt = mnF (acN (dM σ) (vM σ) d) (fun i => alN (dM σ) (vM σ) 7 d e i + vM σ 3 (8 * d + 2 * i + e)) (i + 1) → X46 p1 p2 1 (l4 + 1) (sa (sa x 40 ((2 * p1) + p2) L) 41 ((2 * p1) + p2) G) := fun L G eL eG => by
              refine ih (i + 1) 1 (l4 + 1) _ (by omega) (by omega) t4 ((hMx.sa 40 _ L (i3_bd L)).sa 41 _ G (i3_bd G)) ((hEx.sa 40 _ L (by decide)).sa 41 _ G (by decide)) (fun j hj => ?_) (Or.inr ⟨by decide, ⟨i, by omega, a⟩, ?_, ?_⟩)
              · rw [vv_so (by decide), vv_sa x 40 _ L u2, vv_sa _ 41 _ G u2, vv_so (by decide), fu_ne hj, fu_ne hj]
                exact hF j hj
              · rw [vv_so (by decide), vv_sa x 40 _ L u2, fu_eq, eL]
              · rw [vv_sa _ 41 _ G u2, fu_eq, eG]
            unfold b_arrive_202 b_arrive_236 b_arrive_239
            rcases hV with ⟨z0, no⟩ | ⟨z0, _, v40, v41⟩
            · have m0 := mxF_0 (fl := fun i => alN (dM σ) (vM σ) 6 d e i + vM σ 2 (8 * d + 2 * i + e)) i no
              have n0 := mnF_0 (fl := fun i => alN (dM σ) (vM σ) 7 d e i + vM σ 3 (8 * d + 2 * i + e)) i no
              refine ⟨fun _ => ⟨⟨by omega, by omega⟩, fun _ => ⟨⟨by omega, by omega⟩, put x8 x9 ?_ ?_⟩, fun w => absurd z0 w⟩, fun w => absurd z0 w⟩
              · rw [mxF_y a, m0, t8]
                show _ = max 0 (alN (dM σ) (vM σ) 6 d e i + vM σ 2 (8 * d + 2 * i + e))
                omega
              · rw [mnF_y a, n0, t9]
                show _ = min 1000000000 (alN (dM σ) (vM σ) 7 d e i + vM σ 3 (8 * d + 2 * i + e))
                omega
            · have rm : (rd x 40 ((2 * p1) + p2)).toInt = vv x 40 (2 * d + e) := vv_rd u2
              refine ⟨fun w => absurd w z0, fun _ => ⟨⟨by omega, by omega⟩, ⟨by omega, by omega⟩, fun w => absurd w z0, fun _ => ⟨⟨by omega, by omega⟩, ⟨by omega, by omega⟩, ?_⟩⟩⟩
              have rn : (rd (sa x 40 ((2 * p1) + p2) (imax (rd x 40 ((2 * p1) + p2)) x8)) 41 ((2 * p1) + p2)).toInt = vv x 41 (2 * d + e) := by rw [vv_rd u2, vv_so (by decide)]
              refine put _ _ ?_ ?_
              · rw [mxF_y a, ← v40, imax_x, rm, t8]
              · rw [mnF_y a, ← v41, imin_x, rn, t9]
          have r2 : (rd x 2 p1).toInt = dM σ 0 d := by rw [vv_rd h1, vv_eo hEx (by decide), d0]
          refine ⟨⟨by omega, by omega⟩, fun k2 => go p2 ?_, fun k2 => go (1 - p2) ?_⟩
          · rw [r2] at k2
            unfold feN
            rw [if_neg k2]; exact h2
          · rw [r2] at k2
            unfold feN
            rw [if_pos k2]
            have w := i3_subc (x := 1 - p2) (show (1 : Int32).toInt = 1 from rfl) h2 rfl (by omega)
            omega
    exact Z (m + 1) 0 0 0 σ (by omega) (by omega) rfl hM Eo.rfl (fun _ _ => ⟨rfl, rfl⟩) (Or.inl ⟨rfl, fun j hj => by omega⟩)
  · have k04 : dM σ 0 d = 0 ∨ dM σ 0 d = 4 := by
      have ng : ¬ (0 < vv σ 2 d ∧ vv σ 2 d < 4) := fun z => g z
      omega
    have hSt : isD (dM σ) (vM σ) d := ⟨k04, o⟩
    obtain ⟨R, hR⟩ := hR0
    obtain ⟨ρ2, hRk⟩ := SI.rk hM hS
    obtain ⟨B, hB⟩ := BP_ex hRk (vM σ 1) d
    have rs : RsM σ R d B := ⟨hR, hB, hL, ⟨hd, by rw [← d0]; exact k04, o⟩, hN⟩
    have q := rs.st hM hS he
    have sL := saL_D hd he
    refine rx_startLate h1 h2 hd he hS hM hN (fun k => (q.1 k).1) (fun r3 e3 => ⟨⟨by omega, by omega⟩, ?_⟩)
    obtain ⟨y, hy⟩ : ∃ y : VS, y = sa σ 40 ((2 * p1) + p2) r3 := ⟨_, rfl⟩
    rw [← hy]
    have My : MI y := by rw [hy]; exact hM.sa 40 _ r3 (i3_bd _)
    have Ey : Eo [] [40] σ y := by rw [hy]; exact Eo.rfl.sa 40 _ r3 (by decide)
    have ny : nC y = nC σ := by unfold nC; rw [Ey.1 1 (fun z => by cases z)]
    have vy3 : vM y 3 = vM σ 3 := by
      funext j
      show vv y 37 j = vv σ 37 j
      rw [vv_eo Ey (by decide)]
    have saEq : saE y = saE σ := by
      funext j
      unfold saE
      rw [vv_eo Ey (show 2 ∉ [40] by decide), vv_eo Ey (show 8 ∉ [40] by decide), dM_q Ey (by decide) (by decide) (vv_eo Ey (by decide)), vy3]
    refine rx_startEarly h1 h2 (by omega) he (hS.same Ey (by decide)) My (hN.same Ey (by decide)) (fun k => ?_) (fun r5 e5 => ⟨⟨by omega, by omega⟩, ?_⟩)
    · rw [vv_eo Ey (by decide)] at k
      rw [vy3]
      exact (q.1 k).2
    · rw [saEq] at e5
      refine hq _ r3.toInt r5.toInt (My.sa 41 _ r5 (i3_bd _)) ((Ey.mono (fun k hk => hk) (by decide)).sa 41 _ r5 (by decide)) ?_ ?_ (by rw [e3]; omega) (by rw [e5]; omega) ⟨fun z => ?_, fun z => ?_⟩
      · rw [vv_so (by decide), hy, vv_sa σ 40 _ r3 u2]
      · rw [vv_sa _ 41 _ r5 u2, vv_eo Ey (by decide)]
      · rw [e3, e5, sL.1, sL.2]
        unfold saD seD
        rw [show (2 * d + e) / 2 = d by omega, if_pos z, if_pos z]
        exact ⟨rfl, rfl⟩
      · have z4 : dM σ 0 d = 4 := k04.resolve_left z
        have ip1 : ipN (dM σ) d = 1 := by
          unfold ipN
          rw [hW.2.2.2.1 d hd z4]; rfl
        have ac : acN (dM σ) (vM σ) d 0 := Or.inl z4
        have q1 : mxF (acN (dM σ) (vM σ) d) (fun i => alN (dM σ) (vM σ) 6 d e i + vM σ 2 (8 * d + 2 * i + e)) 1 = max 0 (alN (dM σ) (vM σ) 6 d e 0 + vM σ 2 (8 * d + 2 * 0 + e)) := mxF_y (i := 0) ac
        have q2 : mnF (acN (dM σ) (vM σ) d) (fun i => alN (dM σ) (vM σ) 7 d e i + vM σ 3 (8 * d + 2 * i + e)) 1 = min 1000000000 (alN (dM σ) (vM σ) 7 d e 0 + vM σ 3 (8 * d + 2 * 0 + e)) := mnF_y (i := 0) ac
        have a6 : alN (dM σ) (vM σ) 6 d e 0 = dM σ 13 d := by unfold alN; rw [if_pos z4]
        have a7 : alN (dM σ) (vM σ) 7 d e 0 = dM σ 14 d := by unfold alN; rw [if_pos z4]
        have b1 := q.2.1
        have b2 := q.2.2
        rw [sL.1] at e3 b1
        rw [sL.2] at e5 b2
        unfold saD at e3 b1
        unfold seD at e5 b2
        rw [show (2 * d + e) / 2 = d by omega, show (2 * d + e) % 2 = e by omega, if_neg z] at e3 b1 e5 b2
        rw [ip1, q1, q2, a6, a7, show 8 * d + 2 * 0 + e = 8 * d + e by omega]
        omega
