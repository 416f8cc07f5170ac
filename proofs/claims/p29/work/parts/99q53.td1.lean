/-! THE REFERENCE MARKS WHAT LEADS TO AN END -/
theorem rx_metBy {Q : Int32 → VS → Prop} {p1 : Int32} {σ : VS} {c R : Nat} (h1 : p1.toInt = (c : Int)) (hM : MI σ) (hR : (σ.1 25).toInt = (R : Int)) (hq : ∀ r : Int32, r.toInt = ((bR (vv σ 28) R c : Nat) : Int) → Q r σ) : wp_metBy Q p1 σ := by
  refine met_s hM (hq _ ?_)
  rw [h1]
  exact metN_bR hM hR c
theorem rx_periodsOf {Q : Int32 → VS → Prop} {p1 p2 p3 : Int32} {σ : VS} {s t m R : Nat} (h1 : p1.toInt = (s : Int)) (h2 : p2.toInt = (t : Int)) (h3 : p3.toInt = (m : Int)) (hm : m < 16) (hM : MI σ) (hR : (σ.1 25).toInt = (R : Int)) (hq : ∀ r : Int32, r.toInt = perK (vv σ 26) (hitR (vv σ 27) (vv σ 28) (vv σ 29) s t m) R → 0 ≤ r.toInt ∧ r.toInt ≤ 4 → Q r σ) : wp_periodsOf Q p1 p2 p3 σ := by
  have h25 : 0 ≤ (σ.1 25).toInt ∧ (σ.1 25).toInt ≤ 4 := hM.1 25
  have e : (perV σ p1.toInt p2.toInt p3).toInt = perK (vv σ 26) (hitR (vv σ 27) (vv σ 28) (vv σ 29) s t m) R := by
    have q := per_R (σ := σ) (s := s) (t := t) h3 hm R (by omega)
    rw [h1, h2]
    unfold perV
    rw [hR]
    exact q
  exact per_s hM (hq _ e (by rw [e]; exact perK_b R (fun k _ => hM.2 26 k)))
abbrev FL : List Nat := [48, 61]
abbrev AL : List Nat := [49, 50, 51, 52, 53, 54, 55, 56, 57, 58, 59, 60]
/-- what the list of the reference rests on -/
def RfE (θ : VS) (R : Nat) : Prop := MI θ ∧ SI θ ∧ TD θ ∧ WRm θ ∧ NdR θ ∧ (∀ c, c < nC θ → LE2 (dM θ) (vM θ) (vM θ) c) ∧ (θ.1 25).toInt = (R : Int)
def RfP (θ : VS) (R s t : Nat) (b : Nat → Nat) (nm : Nat → Int) (F : Nat → Nat → List (List Nat)) : Prop := b = bR (vv θ 28) R ∧ (∀ m, m < 16 → nm m = perK (vv θ 26) (hitR (vv θ 27) (vv θ 28) (vv θ 29) s t (m ||| b t)) R) ∧ (∀ c m, c < nC θ → F c m = FPs (dM θ) nm b t (nC θ) F c m) ∧ t < nC θ ∧ dM θ 1 t = 1 ∧ tgD (dM θ) t ∧ vM θ 1 (fD (dM θ) t) = 0
theorem rc_up {D V : Nat → Nat → Int} {n c w : Nat} {ρ : Nat → Nat} (hW : Wo D n ρ) (hL : ∀ c, c < n → LE2 D V V c) (hw : w < 4 * n) (e : D 5 w = (c : Int)) (g : gN D (w / 4)) (r : V 0 c ≠ 0) : V 0 (w / 4) ≠ 0 := by
  have ip := (hW.2.2.2.2 w hw (by omega)).2
  have e4 : 4 * (w / 4) + w % 4 = w := by omega
  have ec : (D 5 w).toNat = c := by omega
  rcases (hL (w / 4) (by omega)).2.2.2.1 g with ⟨v, _⟩ | ⟨_, k⟩
  · omega
  · exact absurd (Or.inr ⟨by rw [e4]; omega, by rw [e4, ec]; exact r⟩) (k _ ip)
set_option maxHeartbeats 1000000 in
theorem rx_isGood {Q : Int32 → VS → Prop} {p1 p2 p3 p4 p5 : Int32} {θ τ : VS} {R s t c e m : Nat} {b : Nat → Nat} {nm : Nat → Int} {F : Nat → Nat → List (List Nat)} {ρ : Nat → Nat} (h1 : p1.toInt = (s : Int)) (h2 : p2.toInt = (t : Int)) (h3 : p3.toInt = (c : Int)) (h4 : p4.toInt = (e : Int)) (h5 : p5.toInt = (m : Int)) (hc : c < nC θ) (he : e < 2) (hm : m < 16) (hM : MI τ) (hE : Eo FL AL θ τ) (G : RfE θ R) (hW : Wo (dM θ) (nC θ) ρ) (P : RfP θ R s t b nm F) (rc : vM θ 0 c ≠ 0) (hG : ∀ w, w < 4 * nC θ → dM θ 5 w = (c : Int) → gN (dM θ) (w / 4) → vM θ 0 (w / 4) ≠ 0 → vM θ 1 (w / 4) = 0 → F (w / 4) (m ||| b (w / 4)) ≠ [] → vv τ 56 (16 * (2 * (w / 4) + feN (dM θ) (w / 4) e) + (m ||| b (w / 4))) ≠ 0) (hq : ∀ r : Int32, 0 ≤ r.toInt ∧ r.toInt ≤ 1 → (F c m ≠ [] → r.toInt ≠ 0) → Q r τ) : wp_isGood Q p1 p2 p3 p4 p5 τ := by
  obtain ⟨hMθ, hS, hD, hWr, hN, hL, hR⟩ := G
  obtain ⟨hb, hnm, hF, ht, ht1, htg, ho⟩ := P
  have a1 : 0 ≤ (θ.1 1).toInt ∧ (θ.1 1).toInt ≤ 50 := hMθ.1 1
  have en : (θ.1 1).toInt = ((nC θ : Nat) : Int) := by unfold nC; omega
  have hR4 : 0 ≤ (θ.1 25).toInt ∧ (θ.1 25).toInt ≤ 4 := hMθ.1 25
  have f25 : (τ.1 25).toInt = (R : Int) := by rw [hE.1 25 (by decide)]; exact hR
  have s28 : vv τ 28 = vv θ 28 := vv_eo hE (by decide)
  have s2 : vv τ 2 = vv θ 2 := vv_eo hE (by decide)
  have s3 : vv τ 3 = vv θ 3 := vv_eo hE (by decide)
  have s7 : vv τ 7 = vv θ 7 := vv_eo hE (by decide)
  have s34 : vv τ 34 = vv θ 34 := vv_eo hE (by decide)
  have s35 : vv τ 35 = vv θ 35 := vv_eo hE (by decide)
  have b16 : ∀ c, b c < 16 := fun c => by rw [hb]; exact bR_16 _ (by omega) c
  have d5 : ∀ w, w < 4 * nC θ → dM θ 5 w = vv θ 7 w := fun w hw => d5M hMθ hw
  unfold wp_isGood
  intro X34 X100 H34 H100
  have Y : (∀ w, w < 4 * nC θ → dM θ 5 w = (c : Int) → w / 4 = t → ¬ 0 < nm m) → X34 p3 p4 p5 0 τ := by
    intro noT
    have Z34 : ∀ (d k : Nat) (l6 : Int32), nC θ + 1 ≤ d + k → k ≤ nC θ → l6.toInt = (k : Int) → (∀ w, w < 4 * k → dM θ 5 w = (c : Int) → gN (dM θ) (w / 4) → F (w / 4) (m ||| b (w / 4)) = []) → X34 p3 p4 p5 l6 τ := by
      intro d
      induction d with
      | zero => intro k l6 a b'; omega
      | succ d ih =>
        intro k l6 a b' e6 hI
        refine H34 p3 p4 p5 l6 τ ?_
        unfold b_isGood_34 b_isGood_164 b_isGood_95
        rw [hE.1 1 (by decide), en]
        refine ⟨fun z => ?_, fun z => ?_⟩
        · have ek : k = nC θ := by omega
          refine hq 0 (by decide) (fun ne => absurd ?_ ne)
          refine List.eq_nil_iff_forall_not_mem.mpr (fun p hp => ?_)
          obtain ⟨w, hw, e5, k2⟩ := (FP_mem hF hc).mp hp
          rcases k2 with ⟨q1, q2, _⟩ | ⟨q1, q2, q, q3, _⟩
          · exact noT w hw e5 q1 q2
          · rw [hI w (by omega) e5 q2] at q3
            cases q3
        · have hk : k < nC θ := by omega
          have t6 : (l6 + 1).toInt = ((k + 1 : Nat) : Int) := by
            have w := i3_addc (x := l6 + 1) e6 (show (1 : Int32).toInt = 1 from rfl) rfl (by omega)
            omega
          have nxt : (∀ w, w / 4 = k → dM θ 5 w = (c : Int) → gN (dM θ) k → F k (m ||| b k) = []) → X34 p3 p4 p5 (l6 + 1) τ := fun hx => by
            refine ih (k + 1) (l6 + 1) (by omega) (by omega) t6 (fun w hw e5 g => ?_)
            by_cases y : w < 4 * k
            · exact hI w y e5 g
            · have wk : w / 4 = k := by omega
              rw [wk] at g ⊢
              exact hx w wk e5 g
          have kd : Kd τ k = vv θ 2 k := by show vv τ 2 k = _; rw [s2]
          refine isGate_s e6 (by omega) (fun g => ⟨fun w => absurd w (by decide), fun _ => ?_⟩) (fun g => ⟨fun _ => nxt (fun w wk e5 g2 => absurd ?_ g), fun w => absurd rfl w⟩)
          · have gD : gN (dM θ) k := by
              unfold gN
              rw [dM_0 hk, ← kd]
              exact g
            have r34 : (rd τ 34 l6).toInt = vM θ 0 k := by rw [vv_rd e6, s34]; rfl
            have r35 : (rd τ 35 l6).toInt = vM θ 1 k := by rw [vv_rd e6, s35]; rfl
            have r2 : (rd τ 2 l6).toInt = dM θ 0 k := by rw [vv_rd e6, s2, dM_0 hk]
            refine ⟨⟨by omega, by omega⟩, fun v0 => nxt (fun w wk e5 g2 => ?_), fun v0 => ⟨⟨by omega, by omega⟩, fun v1 => ?_, fun v1 => nxt (fun w wk e5 g2 => ?_)⟩⟩
            · exfalso
              have u := rc_up hW hL (show w < 4 * nC θ by omega) e5 (by rw [wk]; exact g2) rc
              rw [wk] at u
              omega
            · rw [r34] at v0
              rw [r35] at v1
              have ipk : ipN (dM θ) k = (vv θ 3 k).toNat := by unfold ipN; rw [dM_1 hk]
              have b3 : 0 ≤ vv θ 3 k ∧ vv θ 3 k ≤ 4 := hMθ.2 3 k
              have r3 : (rd τ 3 l6).toInt = vv θ 3 k := by rw [vv_rd e6, s3]
              have go : ∀ l7 : Int32, l7.toInt = ((feN (dM θ) k e : Nat) : Int) → X100 p3 p4 p5 l6 l7 0 τ := fun l7 e7 => by
                have f2 := feN_lt (dM θ) k he
                have Z100 : ∀ (f i : Nat) (l8 : Int32), 5 ≤ f + i → i ≤ 4 → (i : Int) ≤ vv θ 3 k → l8.toInt = (i : Int) → (∀ w, w < 4 * k + i → dM θ 5 w = (c : Int) → gN (dM θ) (w / 4) → F (w / 4) (m ||| b (w / 4)) = []) → X100 p3 p4 p5 l6 l7 l8 τ := by
                  intro f
                  induction f with
                  | zero => intro i l8 a b'; omega
                  | succ f ihf =>
                    intro i l8 a2 b2 c2 e8 hI2
                    refine H100 p3 p4 p5 l6 l7 l8 τ ?_
                    unfold b_isGood_100 b_isGood_158 b_isGood_164
                    rw [r3]
                    refine ⟨⟨by omega, by omega⟩, fun v => ?_, fun v => ?_⟩
                    · refine ih (k + 1) (l6 + 1) (by omega) (by omega) t6 (fun w hw e5 g2 => ?_)
                      by_cases y : w < 4 * k + i
                      · exact hI2 w y e5 g2
                      · exfalso
                        have q := (hW.2.2.2.2 w (by omega) (by omega)).2
                        rw [show w / 4 = k by omega, ipk] at q
                        omega
                    · have i4 : i < 4 := by omega
                      have u1 : (4 * l6).toInt = 4 * (k : Int) := i3_mulc rfl e6 rfl (by have w : (4 : Int32).toInt = 4 := rfl; omega)
                      have u2 : ((4 * l6) + l8).toInt = ((4 * k + i : Nat) : Int) := by
                        have w := i3_addc (x := (4 * l6) + l8) u1 e8 rfl (by omega)
                        omega
                      have w4 : (4 * k + i) / 4 = k := by omega
                      have r7 : (rd τ 7 ((4 * l6) + l8)).toInt = dM θ 5 (4 * k + i) := by rw [vv_rd u2, s7, d5 _ (by omega)]
                      have t8 : (l8 + 1).toInt = ((i + 1 : Nat) : Int) := by
                        have w := i3_addc (x := l8 + 1) e8 (show (1 : Int32).toInt = 1 from rfl) rfl (by omega)
                        omega
                      have nx2 : (dM θ 5 (4 * k + i) = (c : Int) → F k (m ||| b k) = []) → X100 p3 p4 p5 l6 l7 (l8 + 1) τ := fun hx => by
                        refine ihf (i + 1) (l8 + 1) (by omega) (by omega) (by omega) t8 (fun w hw e5 g2 => ?_)
                        by_cases y : w < 4 * k + i
                        · exact hI2 w y e5 g2
                        · have ew : w = 4 * k + i := by omega
                          rw [ew] at e5 ⊢
                          rw [w4]
                          exact hx e5
                      rw [r7, h3]
                      refine ⟨⟨by omega, by omega⟩, fun v7 => nx2 (fun y => absurd y v7), fun v7 => ?_⟩
                      refine rx_metBy e6 hM f25 (fun r7' e7' => ?_)
                      rw [s28, ← hb] at e7'
                      have bk := b16 k
                      have t9 : (p5 ||| r7').toInt = ((m ||| b k : Nat) : Int) := or_nat h5 e7' hm bk
                      have ml : m ||| b k < 16 := or_16 _ _ hm bk
                      have u3 : (2 * l6).toInt = 2 * (k : Int) := i3_mulc rfl e6 rfl (by have w : (2 : Int32).toInt = 2 := rfl; omega)
                      have u4 : ((2 * l6) + l7).toInt = 2 * (k : Int) + ((feN (dM θ) k e : Nat) : Int) := i3_addc u3 e7 rfl (by omega)
                      have u5 : (16 * ((2 * l6) + l7)).toInt = 16 * (2 * (k : Int) + ((feN (dM θ) k e : Nat) : Int)) := i3_mulc rfl u4 rfl (by have w : (16 : Int32).toInt = 16 := rfl; omega)
                      have u6 : ((16 * ((2 * l6) + l7)) + (p5 ||| r7')).toInt = ((16 * (2 * k + feN (dM θ) k e) + (m ||| b k) : Nat) : Int) := by
                        have w := i3_addc (x := (16 * ((2 * l6) + l7)) + (p5 ||| r7')) u5 t9 rfl (by omega)
                        omega
                      rw [vv_rd u6]
                      have hx := hG (4 * k + i) (by omega) v7 (by rw [w4]; exact gD) (by rw [w4]; exact v0) (by rw [w4]; exact v1)
                      rw [w4] at hx
                      refine ⟨⟨by omega, by omega⟩, fun y => nx2 (fun _ => ?_), fun y => hq 1 (by decide) (fun _ => by decide)⟩
                      exact Decidable.not_not.mp (fun ne => hx ne y)
                exact Z100 5 0 0 (by omega) (by omega) (by omega) rfl (fun w hw => hI w (by omega))
              refine ⟨⟨by omega, by omega⟩, fun k2 => go p4 ?_, fun k2 => go (1 - p4) ?_⟩
              · rw [r2] at k2
                unfold feN
                rw [if_neg k2]; exact h4
              · rw [r2] at k2
                unfold feN
                rw [if_pos k2]
                have q := i3_subc (x := 1 - p4) (show (1 : Int32).toInt = 1 from rfl) h4 rfl (by omega)
                omega
            · refine List.eq_nil_iff_forall_not_mem.mpr (fun p hp => ?_)
              have o := FP_opn hW hL hF ht1 ho k hk _ p hp
              omega
          · have g3 : gN (dM θ) k := g2
            unfold gN at g3
            rw [dM_0 hk, ← kd] at g3
            exact g3
    exact Z34 (nC θ + 1) 0 0 (by omega) (by omega) rfl (fun w hw => by omega)
  unfold b_isGood_31
  have u1 : (4 * p2).toInt = ((4 * t : Nat) : Int) := by
    have w := i3_mulc (x := 4 * p2) (show (4 : Int32).toInt = 4 from rfl) h2 rfl (by omega)
    omega
  have r7 : (rd τ 7 (4 * p2)).toInt = dM θ 5 (4 * t) := by rw [vv_rd u1, s7, d5 _ (by omega)]
  have only : ∀ w, w < 4 * nC θ → dM θ 5 w = (c : Int) → w / 4 = t → w = 4 * t := fun w hw e5 wt => by
    have q := (hW.2.2.2.2 w hw (by omega)).2
    rw [wt] at q
    unfold ipN at q
    rw [ht1] at q
    have : (1 : Int).toNat = 1 := rfl
    omega
  rw [r7, h3]
  refine ⟨⟨by omega, by omega⟩, fun z => Y (fun w hw e5 wt => ?_), fun z => ?_⟩
  · rw [only w hw e5 wt] at e5
    exact absurd e5 z
  · refine rx_metBy h2 hM f25 (fun r1 e1 => ?_)
    rw [s28, ← hb] at e1
    have t9 : (p5 ||| r1).toInt = ((m ||| b t : Nat) : Int) := or_nat h5 e1 hm (b16 t)
    refine rx_periodsOf h1 h2 t9 (or_16 _ _ hm (b16 t)) hM f25 (fun r3 e3 b3 => ⟨fun y => Y (fun w hw e5 wt pos => ?_), fun y => hq 1 (by decide) (fun _ => by decide)⟩)
    rw [vv_eo hE (show 26 ∉ AL by decide), vv_eo hE (show 27 ∉ AL by decide), s28, vv_eo hE (show 29 ∉ AL by decide), ← hnm m hm] at e3
    omega
