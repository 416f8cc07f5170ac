def GoT (x θ : VS) (F : Nat → Nat → List (List Nat)) : Prop := ∀ c, c < nC θ → dM θ 0 c ≠ 5 → vM θ 0 c ≠ 0 → vM θ 1 c = 0 → ∀ e m, e < 2 → m < 16 → F c m ≠ [] → vv x 56 (16 * (2 * c + e) + m) ≠ 0
set_option maxHeartbeats 1000000 in
theorem rx_markGood {Q : VS → Prop} {p1 p2 : Int32} {θ τ : VS} {R s t : Nat} {b : Nat → Nat} {nm : Nat → Int} {F : Nat → Nat → List (List Nat)} {ρ : Nat → Nat} (h1 : p1.toInt = (s : Int)) (h2 : p2.toInt = (t : Int)) (hM : MI τ) (hE : Eo FL AL θ τ) (G : RfE θ R) (hW : Wo (dM θ) (nC θ) ρ) (P : RfP θ R s t b nm F) (hq : ∀ x : VS, MI x → Eo [] [56] τ x → GoT x θ F → Q x) : wp_markGood Q p1 p2 τ := by
  have G0 := G
  obtain ⟨hMθ, hS, hD, hWr, hN, hL, hR⟩ := G0
  have P0 := P
  obtain ⟨hb, hnm, hF, ht, ht1, htg, ho⟩ := P0
  obtain ⟨D1, D2, D3, D4, D5⟩ := hD
  have a1 : 0 ≤ (θ.1 1).toInt ∧ (θ.1 1).toInt ≤ 50 := hMθ.1 1
  have a32 : 0 ≤ (θ.1 32).toInt ∧ (θ.1 32).toInt ≤ 50 := hMθ.1 32
  have en : (θ.1 1).toInt = ((nC θ : Nat) : Int) := by unfold nC; omega
  have eo : (θ.1 32).toInt = ((oL θ : Nat) : Int) := by unfold oL; omega
  have hR4 : 0 ≤ (θ.1 25).toInt ∧ (θ.1 25).toInt ≤ 4 := hMθ.1 25
  have b16 : ∀ c, b c < 16 := fun c => by rw [hb]; exact bR_16 _ (by omega) c
  unfold wp_markGood
  intro X2 X33 X82 X91 H2 H33 H82 H91
  have inv : ∀ j, (θ.2.1 31 j).toInt = ((oN θ j : Nat) : Int) := fun j => by
    have q : 0 ≤ (θ.2.1 31 j).toInt ∧ (θ.2.1 31 j).toInt ≤ 49 := hMθ.2 31 j
    unfold oN
    omega
  have Z33 : ∀ (k : Nat) (l3 : Int32) (x : VS), k ≤ oL θ → l3.toInt = (k : Int) - 1 → MI x → Eo [] [56] τ x → (∀ j, k ≤ j → j < oL θ → dM θ 0 (oN θ j) ≠ 5 → vM θ 0 (oN θ j) ≠ 0 → vM θ 1 (oN θ j) = 0 → ∀ e m, e < 2 → m < 16 → F (oN θ j) m ≠ [] → vv x 56 (16 * (2 * oN θ j + e) + m) ≠ 0) → X33 p1 p2 l3 x := by
    intro k
    induction k with
    | zero =>
      intro l3 x hk e3 hMx hEx hI
      refine H33 p1 p2 l3 x ?_
      unfold b_markGood_33
      refine ⟨fun _ => hq x hMx hEx (fun c hc k5 r o e m he hm ne => ?_), fun z => by omega⟩
      obtain ⟨j, hj, ej⟩ := D1 c hc
      have q := hI j (by omega) hj
      rw [ej] at q
      exact q k5 r o e m he hm ne
    | succ k ih =>
      intro l3 x hk e3 hMx hEx hI
      refine H33 p1 p2 l3 x ?_
      have Ex : Eo FL AL θ x := hE.trans (hEx.mono (fun k hk => by cases hk) (by decide))
      unfold b_markGood_33 b_markGood_140
      obtain ⟨l3b, hl3b⟩ : ∃ y : Int32, y = l3 + (-1) := ⟨_, rfl⟩
      have e3i : l3.toInt = (k : Int) := by omega
      have t3 : l3b.toInt = (k : Int) + (-1) := i3_addc e3i (show (-1 : Int32).toInt = -1 from rfl) hl3b (by omega)
      have cn := D2 k (by omega)
      have c50 : oN θ k < 50 := by omega
      have r31 : (rd x 31 l3).toInt = ((oN θ k : Nat) : Int) := by
        rw [vv_rd e3i, vv_eo Ex (by decide)]
        exact inv k
      have nxt : ∀ y : VS, MI y → Eo [] [56] τ y → (∀ j, k + 1 ≤ j → j < oL θ → dM θ 0 (oN θ j) ≠ 5 → vM θ 0 (oN θ j) ≠ 0 → vM θ 1 (oN θ j) = 0 → ∀ e m, e < 2 → m < 16 → F (oN θ j) m ≠ [] → vv y 56 (16 * (2 * oN θ j + e) + m) ≠ 0) → (dM θ 0 (oN θ k) ≠ 5 → vM θ 0 (oN θ k) ≠ 0 → vM θ 1 (oN θ k) = 0 → ∀ e m, e < 2 → m < 16 → F (oN θ k) m ≠ [] → vv y 56 (16 * (2 * oN θ k + e) + m) ≠ 0) → X33 p1 p2 (l3 + (-1)) y := fun y My Ey hy1 hy2 => by
        rw [← hl3b]
        refine ih l3b y (by omega) (by omega) My Ey (fun j hj hj2 => ?_)
        by_cases z : j = k
        · rw [z]; exact hy2
        · exact hy1 j (by omega) hj2
      clear hl3b t3
      refine ⟨fun z => by omega, fun _ => ⟨⟨by omega, by omega⟩, fun x2 ex2 => ?_⟩⟩
      have t2 : x2.toInt = ((oN θ k : Nat) : Int) := by rw [ex2]; exact r31
      have r2 : (rd x 2 x2).toInt = dM θ 0 (oN θ k) := by rw [vv_rd t2, vv_eo Ex (by decide), dM_0 cn]
      have r34 : (rd x 34 x2).toInt = vM θ 0 (oN θ k) := by rw [vv_rd t2, vv_eo Ex (by decide)]; rfl
      have r35 : (rd x 35 x2).toInt = vM θ 1 (oN θ k) := by rw [vv_rd t2, vv_eo Ex (by decide)]; rfl
      rw [r2, r34, r35]
      refine ⟨⟨by omega, by omega⟩, fun k5 => nxt x hMx hEx hI (fun z => absurd k5 z), fun k5 => ⟨⟨by omega, by omega⟩, fun v0 => nxt x hMx hEx hI (fun _ z => absurd v0 z), fun v0 => ⟨⟨by omega, by omega⟩, fun v1 => ?_, fun v1 => nxt x hMx hEx hI (fun _ _ z => absurd z v1)⟩⟩⟩
      have Z91 : ∀ (d e m : Nat) (l5 l6 : Int32) (y : VS), 17 ≤ d + m → m ≤ 16 → e < 2 → l5.toInt = (e : Int) → l6.toInt = (m : Int) → MI y → Eo [] [56] τ y → (∀ j, k + 1 ≤ j → j < oL θ → dM θ 0 (oN θ j) ≠ 5 → vM θ 0 (oN θ j) ≠ 0 → vM θ 1 (oN θ j) = 0 → ∀ e m, e < 2 → m < 16 → F (oN θ j) m ≠ [] → vv y 56 (16 * (2 * oN θ j + e) + m) ≠ 0) → (∀ e' m', (e' < e ∨ (e' = e ∧ m' < m)) → m' < 16 → F (oN θ k) m' ≠ [] → vv y 56 (16 * (2 * oN θ k + e') + m') ≠ 0) → (∀ y2 : VS, MI y2 → Eo [] [56] τ y2 → (∀ j, k + 1 ≤ j → j < oL θ → dM θ 0 (oN θ j) ≠ 5 → vM θ 0 (oN θ j) ≠ 0 → vM θ 1 (oN θ j) = 0 → ∀ e m, e < 2 → m < 16 → F (oN θ j) m ≠ [] → vv y2 56 (16 * (2 * oN θ j + e) + m) ≠ 0) → (∀ e' m', e' < e + 1 → m' < 16 → F (oN θ k) m' ≠ [] → vv y2 56 (16 * (2 * oN θ k + e') + m') ≠ 0) → X82 p1 p2 l3 x2 (l5 + 1) y2) → X91 p1 p2 l3 x2 l5 l6 y := by
        intro d
        induction d with
        | zero => intro e m l5 l6 y a b'; omega
        | succ d ihd =>
          intro e m l5 l6 y a b' he e5 e6 My Ey hI1 hI2 K
          refine H91 p1 p2 l3 x2 l5 l6 y ?_
          have Ey2 : Eo FL AL θ y := hE.trans (Ey.mono (fun k hk => by cases hk) (by decide))
          unfold b_markGood_91
          refine ⟨fun z => K y My Ey hI1 (fun e' m' h1 h2 => hI2 e' m' (by omega) h2), fun z => ?_⟩
          refine rx_isGood h1 h2 t2 e5 e6 cn he (by omega) My Ey2 G hW P v0 (fun w hw d5 g v02 v12 ne => ?_) (fun r br hr => ?_)
          · obtain ⟨j, hj, ej⟩ := D1 (w / 4) (by omega)
            have q := (hW.2.2.2.2 w hw (by omega)).2
            have wn : w / 4 < nC θ := by omega
            have e4 : 4 * (w / 4) + w % 4 = w := by omega
            have gg : gate θ (oN θ j) := by rw [ej]; exact (gM_is wn).mp g
            have ip : ((w % 4 : Nat) : Int) < Ip θ (oN θ j) := by
              rw [ej]
              unfold ipN at q
              rw [dM_1 wn] at q
              show ((w % 4 : Nat) : Int) < vv θ 3 (w / 4)
              omega
            have tk : Tk θ w = ((oN θ k : Nat) : Int) := by rw [← d5M hMθ hw]; exact d5
            obtain ⟨k', hk', ek'⟩ := D4 j hj gg (w % 4) ip (by rw [ej, e4, tk]; omega)
            rw [ej, e4, tk] at ek'
            have kk : k' = k := D3 k' k (by omega) (by omega) (by omega)
            have g1 := g.1
            have g2 := g.2
            have q2 := hI1 j (by omega) hj
            rw [ej] at q2
            exact q2 (by omega) v02 v12 _ _ (feN_lt _ _ he) (or_16 _ _ (by omega) (b16 _)) ne
          · have u3 : (2 * x2).toInt = 2 * ((oN θ k : Nat) : Int) := i3_mulc rfl t2 rfl (by have w : (2 : Int32).toInt = 2 := rfl; omega)
            have u4 : ((2 * x2) + l5).toInt = 2 * ((oN θ k : Nat) : Int) + (e : Int) := i3_addc u3 e5 rfl (by omega)
            have u5 : (16 * ((2 * x2) + l5)).toInt = 16 * (2 * ((oN θ k : Nat) : Int) + (e : Int)) := i3_mulc rfl u4 rfl (by have w : (16 : Int32).toInt = 16 := rfl; omega)
            have u6 : ((16 * ((2 * x2) + l5)) + l6).toInt = ((16 * (2 * oN θ k + e) + m : Nat) : Int) := by
              have w := i3_addc (x := (16 * ((2 * x2) + l5)) + l6) u5 e6 rfl (by omega)
              omega
            have t6 : (l6 + 1).toInt = ((m + 1 : Nat) : Int) := by
              have w := i3_addc (x := l6 + 1) e6 (show (1 : Int32).toInt = 1 from rfl) rfl (by omega)
              omega
            refine ⟨⟨by omega, by omega⟩, br, ihd e (m + 1) l5 (l6 + 1) _ (by omega) (by omega) he e5 t6 (My.sa 56 _ r br) (Ey.sa 56 _ r (by decide)) (fun j hj hj2 k5 r0 r1 e' m' he' hm' ne => ?_) (fun e' m' hh hm' ne => ?_) K⟩
            · rw [vv_sa y 56 _ r u6]
              have nek : oN θ j ≠ oN θ k := fun z => by
                have z2 := D3 j k hj2 (by omega) z
                omega
              rw [fu_ne (by omega)]
              exact hI1 j hj hj2 k5 r0 r1 e' m' he' hm' ne
            · rw [vv_sa y 56 _ r u6]
              by_cases z2 : e' = e ∧ m' = m
              · rw [z2.1, z2.2, fu_eq]
                rw [z2.2] at ne
                exact hr ne
              · rw [fu_ne (by omega)]
                exact hI2 e' m' (by omega) hm' ne
      have Z82 : ∀ (d e : Nat) (l5 : Int32) (y : VS), 3 ≤ d + e → e ≤ 2 → l5.toInt = (e : Int) → MI y → Eo [] [56] τ y → (∀ j, k + 1 ≤ j → j < oL θ → dM θ 0 (oN θ j) ≠ 5 → vM θ 0 (oN θ j) ≠ 0 → vM θ 1 (oN θ j) = 0 → ∀ e m, e < 2 → m < 16 → F (oN θ j) m ≠ [] → vv y 56 (16 * (2 * oN θ j + e) + m) ≠ 0) → (∀ e' m', e' < e → m' < 16 → F (oN θ k) m' ≠ [] → vv y 56 (16 * (2 * oN θ k + e') + m') ≠ 0) → X82 p1 p2 l3 x2 l5 y := by
        intro d
        induction d with
        | zero => intro e l5 y a b'; omega
        | succ d ihd =>
          intro e l5 y a b' e5 My Ey hI1 hI2
          refine H82 p1 p2 l3 x2 l5 y ?_
          unfold b_markGood_82 b_markGood_140
          refine ⟨fun z => nxt y My Ey hI1 (fun _ _ _ e' m' he' hm' ne => hI2 e' m' (by omega) hm' ne), fun z => ?_⟩
          have t5 : (l5 + 1).toInt = ((e + 1 : Nat) : Int) := by
            have w := i3_addc (x := l5 + 1) e5 (show (1 : Int32).toInt = 1 from rfl) rfl (by omega)
            omega
          exact Z91 17 e 0 l5 0 y (by omega) (by omega) (by omega) e5 rfl My Ey hI1 (fun e' m' hh hm' ne => hI2 e' m' (by omega) hm' ne) (fun y2 M2 E2 q1 q2 => ihd (e + 1) (l5 + 1) y2 (by omega) (by omega) t5 M2 E2 q1 q2)
      exact Z82 3 0 0 x (by omega) (by omega) rfl hMx hEx hI (fun e' m' hh => by omega)
  have Z2 : ∀ (d k : Nat) (l3 : Int32) (x : VS), 32 * nC θ + 1 ≤ d + k → k ≤ 32 * nC θ → l3.toInt = (k : Int) → MI x → Eo [] [56] τ x → X2 p1 p2 l3 x := by
    intro d
    induction d with
    | zero => intro k l3 x a b'; omega
    | succ d ih =>
      intro k l3 x a b' e3 hMx hEx
      refine H2 p1 p2 l3 x ?_
      have Ex : Eo FL AL θ x := hE.trans (hEx.mono (fun k hk => by cases hk) (by decide))
      unfold b_markGood_2
      have f1 : (x.1 1).toInt = ((nC θ : Nat) : Int) := by rw [Ex.1 1 (by decide)]; exact en
      have u1 : (32 * (x.1 1)).toInt = 32 * ((nC θ : Nat) : Int) := i3_mulc rfl f1 rfl (by have w : (32 : Int32).toInt = 32 := rfl; omega)
      have f32 : (x.1 32).toInt = ((oL θ : Nat) : Int) := by rw [Ex.1 32 (by decide)]; exact eo
      rw [u1]
      have t3 : (l3 + 1).toInt = ((k + 1 : Nat) : Int) := by
        have w := i3_addc (x := l3 + 1) e3 (show (1 : Int32).toInt = 1 from rfl) rfl (by omega)
        omega
      refine ⟨fun z x1 ex1 => ?_, fun z => ⟨⟨by omega, by omega⟩, ih (k + 1) (l3 + 1) _ (by omega) (by omega) t3 (hMx.sa 56 l3 0 (by decide)) (hEx.sa 56 l3 0 (by decide))⟩⟩
      have t1 : x1.toInt = ((oL θ : Nat) : Int) - 1 := i3_subc f32 (show (1 : Int32).toInt = 1 from rfl) ex1 (by omega)
      exact Z33 (oL θ) x1 x (Nat.le_refl _) t1 hMx hEx (fun j hj hj2 => by omega)
  exact Z2 (32 * nC θ + 1) 0 0 τ (by omega) (by omega) rfl hM Eo.rfl
