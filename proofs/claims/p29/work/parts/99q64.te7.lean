/-! THE REFERENCE'S JUDGEMENT -/
def rM (τ : VS) : Nat := (τ.1 25).toInt.toNat
theorem UM_same {F A : List Nat} {σ τ : VS} (h : Eo F A σ τ) (hk : (1 ∉ F ∧ 25 ∉ F) ∧ 12 ∉ A ∧ 13 ∉ A ∧ 26 ∉ A ∧ 27 ∉ A ∧ 28 ∉ A ∧ 29 ∉ A) : UM τ = UM σ := by
  obtain ⟨⟨f1, f25⟩, a12, a13, a26, a27, a28, a29⟩ := hk
  funext k j
  unfold UM nC
  rw [h.1 1 f1, h.1 25 f25, vv_eo h a12, vv_eo h a13, vv_eo h a26, vv_eo h a27, vv_eo h a28, vv_eo h a29]
theorem shF_same {F A : List Nat} {σ τ : VS} (h : Eo F A σ τ) (hk : 21 ∉ F ∧ 2 ∉ A ∧ 11 ∉ A ∧ 22 ∉ A ∧ 23 ∉ A ∧ 24 ∉ A) : shF τ = shF σ := by
  obtain ⟨f21, a2, a11, a22, a23, a24⟩ := hk
  funext s t
  unfold shF shM
  rw [vv_eo h a2, vv_eo h a11, h.2 22 a22, h.2 23 a23, h.2 24 a24, h.1 21 f21]
theorem dM_q {F A : List Nat} {σ τ : VS} (h : Eo F A σ τ) (hF : 1 ∉ F ∧ 18 ∉ F ∧ 19 ∉ F) (hA : 2 ∉ A ∧ 3 ∉ A ∧ 4 ∉ A ∧ 6 ∉ A ∧ 7 ∉ A ∧ 8 ∉ A ∧ 9 ∉ A ∧ 10 ∉ A ∧ 15 ∉ A ∧ 16 ∉ A ∧ 17 ∉ A ∧ 11 ∉ A ∧ 22 ∉ A ∧ 23 ∉ A ∧ 24 ∉ A) (h5 : vv τ 5 = vv σ 5) : dM τ = dM σ := by
  obtain ⟨a2, a3, a4, a6, a7, a8, a9, a10, a15, a16, a17, a11, a22, a23, a24⟩ := hA
  have e1 : szM τ = szM σ := by funext j; unfold szM; rw [vv_eo h a2, h5]
  have e2 : xtM τ = xtM σ := by funext j; unfold xtM; rw [vv_eo h a2, vv_eo h a6]
  funext k j
  unfold dM nC
  rw [e1, e2, vv_eo h a2, vv_eo h a3, vv_eo h a4, h5, vv_eo h a7, vv_eo h a8, vv_eo h a9, vv_eo h a10, vv_eo h a15, vv_eo h a16, vv_eo h a17, vv_eo h a11, vv_eo h a22, vv_eo h a23, vv_eo h a24, h.1 1 hF.1, h.1 18 hF.2.1, h.1 19 hF.2.2]
theorem dM_gr {F A : List Nat} {σ τ : VS} {c : Nat} (hM : MI σ) (h : Eo F A σ τ) (hF : 1 ∉ F ∧ 18 ∉ F ∧ 19 ∉ F) (hA : 2 ∉ A ∧ 3 ∉ A ∧ 4 ∉ A ∧ 6 ∉ A ∧ 7 ∉ A ∧ 8 ∉ A ∧ 9 ∉ A ∧ 10 ∉ A ∧ 15 ∉ A ∧ 16 ∉ A ∧ 17 ∉ A ∧ 11 ∉ A ∧ 22 ∉ A ∧ 23 ∉ A ∧ 24 ∉ A) (hc : c < nC σ) (k5 : vv σ 2 c ≠ 5) (h5 : vv τ 5 = fu (vv σ 5) c (vv σ 5 c + 1)) : dM τ = gD (dM σ) (nC σ) c := by
  obtain ⟨a2, a3, a4, a6, a7, a8, a9, a10, a15, a16, a17, a11, a22, a23, a24⟩ := hA
  have nn : nC τ = nC σ := by unfold nC; rw [h.1 1 hF.1]
  have e1 : szM τ = fu (szM σ) c (szM σ c + 1) := by
    funext j
    unfold szM
    rw [vv_eo h a2, h5]
    by_cases z : j = c
    · rw [z, fu_eq, fu_eq, if_neg k5, if_neg k5]
    · rw [fu_ne z, fu_ne z]
  have e2 : xtM τ = xtM σ := by funext j; unfold xtM; rw [vv_eo h a2, vv_eo h a6]
  have k3 : ∀ j, dM τ 3 j = gD (dM σ) (nC σ) c 3 j := fun j => by
    show (if j < nC τ then ldF (xtM τ j) (vv τ 7) (szM τ) (j : Int) (nC τ * 4) else 0) = (if j < nC σ then dM σ 3 j + cwN (dM σ 5) j c (4 * nC σ) else dM σ 3 j)
    rw [nn]
    by_cases z : j < nC σ
    · rw [if_pos z, if_pos z, dM_3 z, e1, e2, vv_eo h a7, ldF_up, show nC σ * 4 = 4 * nC σ by omega]
      rw [cwN_c (src := vv σ 7) (src' := dM σ 5) (4 * nC σ) (fun w hw => by rw [dM_5 hw]; omega)]
    · rw [if_neg z, if_neg z]
      exact (if_neg z).symm
  have k4 : ∀ j, dM τ 4 j = gD (dM σ) (nC σ) c 4 j := fun j => by
    show (if j < nC τ then vv τ 5 j else 0) = (if j = c then dM σ 4 j + 1 else dM σ 4 j)
    rw [nn, h5]
    by_cases z : j < nC σ
    · rw [if_pos z, dM_4 z]
      by_cases y : j = c
      · rw [if_pos y, y, fu_eq]
      · rw [if_neg y, fu_ne y]
    · have y : ¬ j = c := fun y => z (by omega)
      rw [if_neg z, if_neg y]
      exact (if_neg z).symm
  have ot : ∀ k, k ≠ 3 → k ≠ 4 → dM τ k = dM σ k := fun k n3 n4 => by
    funext j
    by_cases t : 15 ≤ k
    · obtain ⟨m, e⟩ : ∃ m, k = m + 15 := ⟨k - 15, by omega⟩
      rw [e, dM_top, dM_top]
    · rcases (show k = 0 ∨ k = 1 ∨ k = 2 ∨ k = 5 ∨ k = 6 ∨ k = 7 ∨ k = 8 ∨ k = 9 ∨ k = 10 ∨ k = 11 ∨ k = 12 ∨ k = 13 ∨ k = 14 by omega) with e | e | e | e | e | e | e | e | e | e | e | e | e
      · rw [e]; exact ite_n nn (fun _ => by rw [vv_eo h a2])
      · rw [e]; exact ite_n nn (fun _ => by rw [vv_eo h a3])
      · rw [e]; exact ite_n nn (fun _ => by rw [vv_eo h a4])
      · rw [e]
        show (if j < 4 * nC τ then max (vv τ 7 j) (-1) else -1) = (if j < 4 * nC σ then max (vv σ 7 j) (-1) else -1)
        rw [nn, vv_eo h a7]
      · rw [e]; exact congrFun (vv_eo h a15) j
      · rw [e]; exact congrFun (vv_eo h a16) j
      · rw [e]; exact congrFun (vv_eo h a17) j
      · rw [e]
        show (if j = 0 then (τ.1 18).toInt else (τ.1 19).toInt) = (if j = 0 then (σ.1 18).toInt else (σ.1 19).toInt)
        rw [h.1 18 hF.2.1, h.1 19 hF.2.2]
      · rw [e]; exact ite_n nn (fun _ => by rw [vv_eo h a10])
      · rw [e]; exact ite_n nn (fun _ => by rw [vv_eo h a9])
      · rw [e]; exact ite_n nn (fun _ => by rw [vv_eo h a8])
      · rw [e]; exact ite_n nn (fun _ => by rw [vv_eo h a22, vv_eo h a24, vv_eo h a11])
      · rw [e]; exact ite_n nn (fun _ => by rw [vv_eo h a22, vv_eo h a23, vv_eo h a11])
  funext k j
  by_cases n3 : k = 3
  · rw [n3]; exact k3 j
  · by_cases n4 : k = 4
    · rw [n4]; exact k4 j
    · rw [gD_o n3 n4, ot k n3 n4]
theorem NdR.same {F A : List Nat} {σ τ : VS} (h : NdR σ) (e : Eo F A σ τ) (hk : 21 ∉ F ∧ 23 ∉ A ∧ 24 ∉ A) : NdR τ := by
  unfold NdR
  rw [vv_eo e hk.2.1, vv_eo e hk.2.2, e.1 21 hk.1]
  exact h
theorem rx_judgeJ {Q : VS → Prop} {τ : VS} (hM : MI τ) (hS : SI τ) (hWr : WRm τ) (hN : NdR τ) (hq : ∀ x : VS, MI x → Eo [30, 32] [31, 33, 34, 35, 36, 37, 38, 39, 42, 43, 44, 45, 46, 47] τ x → RfE x (rM τ) → JA (dM τ) (UM τ) (nC τ) (rM τ) (τ.1 20).toInt (shF τ) (vv x 45) (vv x 46) (vv x 47) → Q x) : wp_judge Q τ := by
  have h25 : 0 ≤ (τ.1 25).toInt ∧ (τ.1 25).toInt ≤ 4 := hM.1 25
  have hR : (τ.1 25).toInt = ((rM τ : Nat) : Int) := by unfold rM; omega
  refine rx_judge (R := rM τ) hS hM hWr hN hR (fun θ x BB Mθ Eθ Dθ Lθ hBB Mx Ex q1 q2 => ?_)
  have E2 : Eo [30, 32] [31, 33, 34, 35, 36, 37, 38, 39, 42, 43, 44, 45, 46, 47] τ x := (Eθ.mono (fun k hk => hk) (by decide)).trans (Ex.mono (fun k hk => by cases hk) (by decide))
  have dθ : dM θ = dM τ := dM_q Eθ (by decide) (by decide) (vv_eo Eθ (by decide))
  have dx : dM x = dM θ := dM_q Ex (by decide) (by decide) (vv_eo Ex (by decide))
  have nθ : nC θ = nC τ := by unfold nC; rw [Eθ.1 1 (by decide)]
  have nx : nC x = nC θ := by unfold nC; rw [Ex.1 1 (by decide)]
  have v : ∀ k, k < 8 → vM x k = vM θ k := fun k hk => by
    funext j
    show vv x (34 + k) j = vv θ (34 + k) j
    rw [vv_eo Ex]
    intro z
    have q : ∀ a, a ∈ [42, 43, 44, 45, 46, 47] → 42 ≤ a := by decide
    have w := q _ z
    omega
  have ec : ∀ c, Ec (vM θ) (vM x) c := fun c => ⟨by rw [v 0 (by decide)], by rw [v 1 (by decide)], fun e he => by rw [v 4 (by decide), v 5 (by decide), v 6 (by decide), v 7 (by decide)]; exact ⟨rfl, rfl, rfl, rfl⟩, fun i e hi he => by rw [v 2 (by decide), v 3 (by decide)]; exact ⟨rfl, rfl⟩⟩
  have Lx : ∀ c, c < nC x → LE2 (dM x) (vM x) (vM x) c := fun c hc => by
    rw [dx]
    exact LE2_c (by rw [← dx]; exact ip_4m Mx c) (fun i hi g q => ec _) (ec c) (Lθ c (by omega))
  refine hq x Mx E2 ⟨Mx, hS.same E2 (by decide), Dθ.same Ex (by decide), hWr.same E2 (by decide), hN.same E2 (by decide), Lx, by rw [E2.1 25 (by decide)]; exact hR⟩ (fun t ht => ?_)
  have tg : isTM θ t ↔ tgD (dM τ) t := by
    unfold isTM tgD
    rw [dM_0 ht, vv_eo Eθ (by decide)]
  refine ⟨fun k => ?_, fun k => q2 t (by omega) (fun w => k (tg.mp w))⟩
  have j := rx_jg Mθ (by rw [Eθ.1 25 (by decide)]; exact hR) Lθ hBB (by omega) (q1 t (by omega) (tg.mpr k))
  rw [dθ, UM_same Eθ (by decide), nθ, Eθ.1 20 (by decide), shF_same Eθ (by decide)] at j
  exact j
def LOd (k n : Nat) (w v : Nat → Int) (r : Int) : Prop := (r = -5 ∧ ∀ t, k ≤ t → t < n → ¬ 0 < w t) ∨ ∃ c : Nat, k ≤ c ∧ c < n ∧ r = (c : Int) ∧ 0 < w c ∧ (∀ t, k ≤ t → t < n → 0 < w t → v c ≤ v t) ∧ ∀ t, k ≤ t → t < c → 0 < w t → v c < v t
theorem LOd.bd {k n : Nat} {w v : Nat → Int} {r : Int} (h : LOd k n w v r) : r = -5 ∨ ∃ c : Nat, c < n ∧ r = (c : Int) := by
  rcases h with ⟨a, _⟩ | ⟨c, _, hc, ec, _⟩
  · exact Or.inl a
  · exact Or.inr ⟨c, hc, ec⟩
theorem LOd.skip {k n : Nat} {w v : Nat → Int} {r : Int} (h : LOd (k + 1) n w v r) (p : ¬ 0 < w k) : LOd k n w v r := by
  rcases h with ⟨a, b⟩ | ⟨c, h1, hc, ec, pc, lc, mc⟩
  · refine Or.inl ⟨a, fun t h1 h2 => ?_⟩
    by_cases z : t = k
    · rw [z]; exact p
    · exact b t (by omega) h2
  · refine Or.inr ⟨c, by omega, hc, ec, pc, fun t h1 h2 q => ?_, fun t h1 h2 q => ?_⟩
    · by_cases z : t = k
      · exact absurd (z ▸ q) p
      · exact lc t (by omega) h2 q
    · by_cases z : t = k
      · exact absurd (z ▸ q) p
      · exact mc t (by omega) h2 q
theorem LOd.take {k n : Nat} {w v : Nat → Int} {r : Int} (h : LOd (k + 1) n w v r) (hk : k < n) (p : 0 < w k) (l : ∀ c : Nat, r = (c : Int) → v k ≤ v c) : LOd k n w v (k : Int) := by
  rcases h with ⟨a, b⟩ | ⟨c, h1, hc, ec, pc, lc, mc⟩
  · refine Or.inr ⟨k, Nat.le_refl k, hk, rfl, p, fun t h1 h2 q => ?_, fun t h1 h2 => by omega⟩
    by_cases z : t = k
    · rw [z]; exact Int.le_refl _
    · exact absurd q (b t (by omega) h2)
  · refine Or.inr ⟨k, Nat.le_refl k, hk, rfl, p, fun t h1 h2 q => ?_, fun t h1 h2 => by omega⟩
    by_cases z : t = k
    · rw [z]; exact Int.le_refl _
    · have y := lc t (by omega) h2 q
      have y2 := l c ec
      omega
theorem LOd.stay {k n c : Nat} {w v : Nat → Int} (h : LOd (k + 1) n w v (c : Int)) (l : v c < v k) : LOd k n w v (c : Int) := by
  rcases h with ⟨a, b⟩ | ⟨c', h1, hc, ec, pc, lc, mc⟩
  · omega
  · have e : c = c' := by omega
    rw [← e] at h1 hc pc lc mc
    refine Or.inr ⟨c, by omega, hc, rfl, pc, fun t h1 h2 q => ?_, fun t h1 h2 q => ?_⟩
    · by_cases z : t = k
      · rw [z]; omega
      · exact lc t (by omega) h2 q
    · by_cases z : t = k
      · rw [z]; exact l
      · exact mc t (by omega) h2 q
theorem LOd.lo {n : Nat} {w v : Nat → Int} {r : Int} (h : LOd 0 n w v r) : LO n w v r := by
  rcases h with ⟨a, b⟩ | ⟨c, h1, hc, ec, pc, lc, mc⟩
  · exact Or.inl ⟨a, fun t ht => b t (by omega) ht⟩
  · exact Or.inr ⟨c, hc, ec, pc, fun t ht => lc t (by omega) ht, fun t ht => mc t (by omega) ht⟩
theorem rx_worstS {Q : Int32 → VS → Prop} {σ : VS} (hM : MI σ) (hq : ∀ r : Int32, LO (nC σ) (vv σ 45) (vv σ 46) r.toInt → Q r σ) : wp_worstOf Q 0 σ := by
  have a1 : 0 ≤ (σ.1 1).toInt ∧ (σ.1 1).toInt ≤ 50 := hM.1 1
  have en : (σ.1 1).toInt = ((nC σ : Nat) : Int) := by unfold nC; omega
  unfold wp_worstOf
  intro X10 H x1 e1
  have Z : ∀ (k : Nat) (l2 l3 : Int32), k ≤ nC σ → l3.toInt = (k : Int) - 1 → LOd k (nC σ) (vv σ 45) (vv σ 46) l2.toInt → X10 0 l2 l3 σ := by
    intro k
    induction k with
    | zero =>
      intro l2 l3 hk e3 hL
      refine H 0 l2 l3 σ ?_
      unfold b_worstOf_10
      exact ⟨fun _ => hq l2 hL.lo, fun z => by omega⟩
    | succ k ih =>
      intro l2 l3 hk e3 hL
      refine H 0 l2 l3 σ ?_
      unfold b_worstOf_10 b_worstOf_45 b_worstOf_74 b_worstOf_77 b_worstOf_79
      have e3i : l3.toInt = (k : Int) := by omega
      obtain ⟨l3b, hl3b⟩ : ∃ y : Int32, y = l3 + (-1) := ⟨_, rfl⟩
      have t3 : l3b.toInt = (k : Int) + (-1) := i3_addc e3i (show (-1 : Int32).toInt = -1 from rfl) hl3b (by omega)
      rw [← hl3b]
      clear hl3b
      have nx : ∀ l2 : Int32, LOd k (nC σ) (vv σ 45) (vv σ 46) l2.toInt → X10 0 l2 l3b σ := fun l2 h => ih l2 l3b (by omega) (by omega) h
      have r45 : (rd σ 45 l3).toInt = vv σ 45 k := vv_rd e3i
      have rv : (rd σ 46 l3).toInt = vv σ 46 k := vv_rd e3i
      have b45 : 0 ≤ vv σ 45 k ∧ vv σ 45 k ≤ 1000 := hM.2 45 k
      have go : vv σ 45 k ≠ 0 → ((l2.toInt = (-5) → X10 0 l3 l3b σ) ∧ (l2.toInt ≠ (-5) → (In l2 50 ∧ (((rd σ 46 l2).toInt < (rd σ 46 l3).toInt → X10 0 l2 l3b σ) ∧ ((rd σ 46 l3).toInt ≤ (rd σ 46 l2).toInt → X10 0 l3 l3b σ))))) := fun nz => by
        have p : 0 < vv σ 45 k := by omega
        refine ⟨fun z => nx l3 (by rw [e3i]; exact hL.take (by omega) p (fun c ec => by omega)), fun z => ?_⟩
        rcases hL.bd with y | ⟨c, hc, ec⟩
        · exact absurd y z
        · have rc : (rd σ 46 l2).toInt = vv σ 46 c := vv_rd ec
          rw [rc, rv]
          refine ⟨⟨by omega, by omega⟩, fun lt => nx l2 (by rw [ec] at hL ⊢; exact hL.stay lt), fun le => nx l3 (by rw [e3i]; exact hL.take (by omega) p (fun c' ec' => by
            have ee : c' = c := by omega
            rw [ee]; exact le))⟩
      rw [r45]
      refine ⟨fun z => by omega, fun _ => ⟨⟨by omega, by omega⟩, fun nz => ?_, fun z => nx l2 (hL.skip (by omega))⟩⟩
      have g := go nz
      exact ⟨fun _ => ⟨⟨by omega, by omega⟩, g.1, fun y => ⟨fun _ => g.2 y, fun w => absurd rfl w⟩⟩, fun w => absurd rfl w⟩
  have t1 : x1.toInt = ((nC σ : Nat) : Int) - 1 := i3_subc en (show (1 : Int32).toInt = 1 from rfl) e1 (by omega)
  exact Z (nC σ) (-5) x1 (Nat.le_refl _) t1 (Or.inl ⟨rfl, fun t h1 h2 => by omega⟩)
theorem rx_worstH {Q : Int32 → VS → Prop} {σ : VS} (hM : MI σ) (hq : ∀ r : Int32, LO (nC σ) (vv σ 45) (vv σ 47) r.toInt → Q r σ) : wp_worstOf Q 1 σ := by
  have a1 : 0 ≤ (σ.1 1).toInt ∧ (σ.1 1).toInt ≤ 50 := hM.1 1
  have en : (σ.1 1).toInt = ((nC σ : Nat) : Int) := by unfold nC; omega
  unfold wp_worstOf
  intro X10 H x1 e1
  have Z : ∀ (k : Nat) (l2 l3 : Int32), k ≤ nC σ → l3.toInt = (k : Int) - 1 → LOd k (nC σ) (vv σ 45) (vv σ 47) l2.toInt → X10 1 l2 l3 σ := by
    intro k
    induction k with
    | zero =>
      intro l2 l3 hk e3 hL
      refine H 1 l2 l3 σ ?_
      unfold b_worstOf_10
      exact ⟨fun _ => hq l2 hL.lo, fun z => by omega⟩
    | succ k ih =>
      intro l2 l3 hk e3 hL
      refine H 1 l2 l3 σ ?_
      unfold b_worstOf_10 b_worstOf_45 b_worstOf_74 b_worstOf_77 b_worstOf_79
      have e3i : l3.toInt = (k : Int) := by omega
      obtain ⟨l3b, hl3b⟩ : ∃ y : Int32, y = l3 + (-1) := ⟨_, rfl⟩
      have t3 : l3b.toInt = (k : Int) + (-1) := i3_addc e3i (show (-1 : Int32).toInt = -1 from rfl) hl3b (by omega)
      rw [← hl3b]
      clear hl3b
      have nx : ∀ l2 : Int32, LOd k (nC σ) (vv σ 45) (vv σ 47) l2.toInt → X10 1 l2 l3b σ := fun l2 h => ih l2 l3b (by omega) (by omega) h
      have r45 : (rd σ 45 l3).toInt = vv σ 45 k := vv_rd e3i
      have rv : (rd σ 47 l3).toInt = vv σ 47 k := vv_rd e3i
      have b45 : 0 ≤ vv σ 45 k ∧ vv σ 45 k ≤ 1000 := hM.2 45 k
      have go : vv σ 45 k ≠ 0 → ((l2.toInt = (-5) → X10 1 l3 l3b σ) ∧ (l2.toInt ≠ (-5) → (In l2 50 ∧ (((rd σ 47 l2).toInt < (rd σ 47 l3).toInt → X10 1 l2 l3b σ) ∧ ((rd σ 47 l3).toInt ≤ (rd σ 47 l2).toInt → X10 1 l3 l3b σ))))) := fun nz => by
        have p : 0 < vv σ 45 k := by omega
        refine ⟨fun z => nx l3 (by rw [e3i]; exact hL.take (by omega) p (fun c ec => by omega)), fun z => ?_⟩
        rcases hL.bd with y | ⟨c, hc, ec⟩
        · exact absurd y z
        · have rc : (rd σ 47 l2).toInt = vv σ 47 c := vv_rd ec
          rw [rc, rv]
          refine ⟨⟨by omega, by omega⟩, fun lt => nx l2 (by rw [ec] at hL ⊢; exact hL.stay lt), fun le => nx l3 (by rw [e3i]; exact hL.take (by omega) p (fun c' ec' => by
            have ee : c' = c := by omega
            rw [ee]; exact le))⟩
      rw [r45]
      refine ⟨fun z => by omega, fun _ => ⟨⟨by omega, by omega⟩, fun nz => ?_, fun z => nx l2 (hL.skip (by omega))⟩⟩
      have g := go nz
      exact ⟨fun w => absurd w (by decide), fun _ => ⟨⟨by omega, by omega⟩, g.1, fun y => ⟨fun w => absurd w (by decide), fun _ => g.2 y⟩⟩⟩
  have t1 : x1.toInt = ((nC σ : Nat) : Int) - 1 := i3_subc en (show (1 : Int32).toInt = 1 from rfl) e1 (by omega)
  exact Z (nC σ) (-5) x1 (Nat.le_refl _) t1 (Or.inl ⟨rfl, fun t h1 h2 => by omega⟩)
