/-! THE RULES' BITS -/
theorem orN_y {P : Nat → Bool} {k : Nat} (h : P k = true) : orN P (k + 1) = orN P k ||| 2 ^ k := by
  show orN P k ||| (if P k then 2 ^ k else 0) = _
  rw [if_pos h]
theorem orN_no {P : Nat → Bool} {k : Nat} (h : P k = false) : orN P (k + 1) = orN P k := by
  show orN P k ||| (if P k then 2 ^ k else 0) = _
  rw [if_neg (by rw [h]; decide), Nat.or_zero]
set_option maxHeartbeats 1000000 in
theorem cx_spread {Q : VS → Prop} {σ : VS} (hM : CI σ) (hq : ∀ σ' : VS, CI σ' → Eo [] [35] σ σ' → (∀ c, c < 50 → vv σ' 35 c = ((bC (vv σ 33) (rC σ) c : Nat) : Int)) → Q σ') : wp_X3spreadBits Q σ := by
  have h6 : 0 ≤ (σ.1 6).toInt ∧ (σ.1 6).toInt ≤ 4 := hM.1 6
  have hR : (σ.1 6).toInt = ((rC σ : Nat) : Int) := by unfold rC; omega
  obtain ⟨R, eR⟩ : ∃ R : Nat, R = rC σ := ⟨_, rfl⟩
  rw [← eR] at hR hq
  have R4 : R ≤ 4 := by omega
  unfold wp_X3spreadBits
  intro X2 X17 H2 H17
  have Z2 : ∀ (d c : Nat) (l1 : Int32) (x : VS), 51 ≤ d + c → c ≤ 50 → l1.toInt = (c : Int) → CI x → Eo [] [35] σ x → (∀ j, j < c → vv x 35 j = ((bC (vv σ 33) R j : Nat) : Int)) → X2 l1 x := by
    intro d
    induction d with
    | zero => intro c l1 x a b; omega
    | succ d ih =>
      intro c l1 x a b e1 Mx Ex hx
      refine H2 l1 x ?_
      unfold b_X3spreadBits_2
      refine ⟨fun z => hq x Mx Ex (fun j hj => hx j (by omega)), fun z => ⟨⟨by omega, by omega⟩, ?_⟩⟩
      have c50 : c < 50 := by omega
      have t1 : (l1 + 1).toInt = ((c + 1 : Nat) : Int) := by
        have w := i3_addc (x := l1 + 1) e1 (show (1 : Int32).toInt = 1 from rfl) rfl (by omega)
        omega
      have Z17 : ∀ (m k : Nat) (l2 : Int32) (y : VS), R + 1 ≤ m + k → k ≤ R → l2.toInt = (k : Int) → CI y → Eo [] [35] σ y → (∀ j, j < c → vv y 35 j = ((bC (vv σ 33) R j : Nat) : Int)) → vv y 35 c = ((orN (fun k => decide (vv σ 33 k = -1) || decide (vv σ 33 k = (c : Int))) k : Nat) : Int) → X17 l1 l2 y := by
        intro m
        induction m with
        | zero => intro k l2 y a b; omega
        | succ m ih2 =>
          intro k l2 y a b e2 My Ey hy hc
          refine H17 l1 l2 y ?_
          unfold b_X3spreadBits_17 b_X3spreadBits_45 b_X3spreadBits_57
          have y6 : (y.1 6).toInt = (R : Int) := by rw [Ey.1 6 (by decide)]; exact hR
          rw [y6]
          refine ⟨fun z => ih (c + 1) (l1 + 1) y (by omega) (by omega) t1 My Ey (fun j hj => ?_), fun z => ⟨⟨by omega, by omega⟩, ?_⟩⟩
          · by_cases q : j = c
            · have ek : k = R := by omega
              rw [q, hc, ek]
              rfl
            · exact hy j (by omega)
          · have t2 : (l2 + 1).toInt = ((k + 1 : Nat) : Int) := by
              have w := i3_addc (x := l2 + 1) e2 (show (1 : Int32).toInt = 1 from rfl) rfl (by omega)
              omega
            have r33 : (rd y 33 l2).toInt = vv σ 33 k := by rw [vv_rd e2, vv_eo Ey (by decide)]
            have lt := orN_lt (fun k => decide (vv σ 33 k = -1) || decide (vv σ 33 k = (c : Int))) k
            have pw : 2 ^ k ≤ 8 := by
              rcases (show k = 0 ∨ k = 1 ∨ k = 2 ∨ k = 3 by omega) with e | e | e | e <;> rw [e] <;> decide
            have r35 : (rd y 35 l1).toInt = ((orN (fun k => decide (vv σ 33 k = -1) || decide (vv σ 33 k = (c : Int))) k : Nat) : Int) := by rw [vv_rd e1]; exact hc
            have sh := shl_x e2 (by omega)
            have orv := or_nat r35 sh (by omega) (by omega)
            have rng := i3_or15 (x := rd y 35 l1 ||| (1 <<< (l2 &&& 31))) rfl ⟨by omega, by omega⟩ ⟨by omega, by omega⟩
            have put : (decide (vv σ 33 k = -1) || decide (vv σ 33 k = (c : Int))) = true → X17 l1 (l2 + 1) (sa y 35 l1 ((rd y 35 l1) ||| (1 <<< (l2 &&& 31)))) := fun pk => by
              refine ih2 (k + 1) (l2 + 1) _ (by omega) (by omega) t2 (My.sa 35 l1 _ rng) (Ey.sa 35 l1 _ (by decide)) (fun j hj => ?_) ?_
              · rw [vv_sa y 35 l1 _ e1, fu_ne (by omega)]
                exact hy j hj
              · rw [vv_sa y 35 l1 _ e1, fu_eq, orv, orN_y pk]
            have skip : (decide (vv σ 33 k = -1) || decide (vv σ 33 k = (c : Int))) = false → X17 l1 (l2 + 1) y := fun pk => by
              refine ih2 (k + 1) (l2 + 1) y (by omega) (by omega) t2 My Ey hy ?_
              rw [hc, orN_no pk]
            rw [r33, e1]
            refine ⟨fun w => ⟨⟨by omega, by omega⟩, ⟨by omega, by omega⟩, put ?_⟩, fun w => ⟨⟨by omega, by omega⟩, fun w2 => skip ?_, fun w2 => ⟨⟨by omega, by omega⟩, ⟨by omega, by omega⟩, put ?_⟩⟩⟩
            · rw [decide_eq_true w, Bool.true_or]
            · rw [decide_eq_false w, decide_eq_false w2]; rfl
            · rw [decide_eq_true w2, Bool.or_true]
      refine Z17 (R + 1) 0 0 (sa x 35 l1 0) (by omega) (by omega) rfl (Mx.sa 35 l1 0 ⟨by decide, by decide⟩) (Ex.sa 35 l1 0 (by decide)) (fun j hj => ?_) ?_
      · rw [vv_sa x 35 l1 0 e1, fu_ne (by omega)]
        exact hx j hj
      · rw [vv_sa x 35 l1 0 e1, fu_eq]
        rfl
  exact Z2 51 0 0 σ (by omega) (by omega) rfl hM Eo.rfl (fun j hj => by omega)
theorem Bt.of {σ τ : VS} (e : Eo [] [35] σ τ) (h : ∀ c, c < 50 → vv τ 35 c = ((bC (vv σ 33) (rC σ) c : Nat) : Int)) : Bt τ := fun c hc => by
  have r : rC τ = rC σ := by unfold rC; rw [e.1 6 (by decide)]
  rw [r, vv_eo e (show 33 ∉ [35] by decide)]
  exact h c hc
theorem kp_unexcept {σ : VS} (hM : CI σ) : wp_X9unexcept (fun r σ' => (σ' = σ ∧ r.toInt < 0) ∨ (Fz σ' ∧ Bt σ')) σ := by
  have hb : 0 ≤ (σ.1 6).toInt ∧ (σ.1 6).toInt ≤ 4 := hM.1 6
  unfold wp_X9unexcept wp_X9forget wp_X3dropLatest
  refine ⟨fun h => ?_, fun h => Or.inl ⟨rfl, by decide⟩⟩
  have t : (σ.1 6 - 1).toInt = (σ.1 6).toInt - 1 := i3_subc rfl rfl rfl (by have e9 : (1 : Int32).toInt = 1 := rfl; omega)
  have h6 : (fg σ).1 6 = σ.1 6 := (fg_eo σ).1 6 (by decide)
  show wp_X3spreadBits _ (sf (fg σ) 6 ((fg σ).1 6 - 1))
  rw [h6]
  have ez : Eo [6] [] (fg σ) (sf (fg σ) 6 (σ.1 6 - 1)) := Eo.rfl.sf 6 _ (by decide)
  exact cx_spread ((fg_ci hM).sf 6 _ (show 0 ≤ (σ.1 6 - 1).toInt ∧ (σ.1 6 - 1).toInt ≤ 4 by omega)) (fun τ hMt hEt hb2 => Or.inr ⟨((fg_z σ).same ez (by decide)).same hEt (by decide), Bt.of hEt hb2⟩)
theorem kp_except {p1 p2 p3 p4 : Int32} {σ : VS} (hM : CI σ) : wp_X9except (fun r σ' => (σ' = σ ∧ r.toInt < 0) ∨ (Fz σ' ∧ Bt σ')) p1 p2 p3 p4 σ := by
  have hc : 0 ≤ (σ.1 2).toInt ∧ (σ.1 2).toInt ≤ 50 := hM.1 2
  have hb : 0 ≤ (σ.1 6).toInt ∧ (σ.1 6).toInt ≤ 4 := hM.1 6
  have e2 : (2 : Int32).toInt = 2 := rfl
  have e4 : (4 : Int32).toInt = 4 := rfl
  have hno : b_X9except_38 (fun r σ' => (σ' = σ ∧ r.toInt < 0) ∨ (Fz σ' ∧ Bt σ')) σ := Or.inl ⟨rfl, by decide⟩
  have h58 : okE (σ.1 2).toInt p1 p2 p3 p4 → b_X9except_58 (fun r σ' => (σ' = σ ∧ r.toInt < 0) ∨ (Fz σ' ∧ Bt σ')) p1 p2 p3 p4 σ := by
    intro ok
    have ok' := ok
    unfold okE mayB at ok'
    unfold b_X9except_58 wp_X9forget wp_X3addRule
    refine ⟨fun h6 x1 ex => ?_, fun h6 => Or.inl ⟨rfl, by decide⟩⟩
    have t : (σ.1 6 + 1).toInt = (σ.1 6).toInt + 1 := i3_addc rfl rfl rfl (by have e9 : (1 : Int32).toInt = 1 := rfl; omega)
    have hf6 : (fg σ).1 6 = σ.1 6 := (fg_eo σ).1 6 (by decide)
    have ex' : x1 = (fg σ).1 6 := ex
    have hx : x1.toInt = (σ.1 6).toInt := by rw [ex', hf6]
    refine ⟨⟨by omega, by omega⟩, ⟨by omega, by omega⟩, ⟨by omega, by omega⟩, ⟨by omega, by omega⟩, ?_⟩
    show wp_X3spreadBits _ (sa (sa (sa (sa (sf (fg σ) 6 ((fg σ).1 6 + 1)) 31 x1 p1) 32 x1 p2) 33 x1 p3) 34 x1 p4)
    rw [hf6]
    have ez : Eo [6] [31, 32, 33, 34] (fg σ) (sa (sa (sa (sa (sf (fg σ) 6 (σ.1 6 + 1)) 31 x1 p1) 32 x1 p2) 33 x1 p3) 34 x1 p4) := ((((Eo.rfl.sf 6 _ (by decide)).sa 31 _ _ (by decide)).sa 32 _ _ (by decide)).sa 33 _ _ (by decide)).sa 34 _ _ (by decide)
    exact cx_spread ((((((fg_ci hM).sf 6 _ (show 0 ≤ (σ.1 6 + 1).toInt ∧ (σ.1 6 + 1).toInt ≤ 4 by omega)).sa 31 _ _ (show 0 ≤ p1.toInt ∧ p1.toInt ≤ 4 by omega)).sa 32 _ _ (show -1 ≤ p2.toInt ∧ p2.toInt ≤ 49 by omega)).sa 33 _ _ (show -1 ≤ p3.toInt ∧ p3.toInt ≤ 49 by omega)).sa 34 _ _ (show -1 ≤ p4.toInt ∧ p4.toInt ≤ 49 by omega)) (fun τ hMt hEt hb2 => Or.inr ⟨((fg_z σ).same ez (by decide)).same hEt (by decide), Bt.of hEt hb2⟩)
  have h13 : (p1.toInt = 0 ∨ (2 ≤ p1.toInt ∧ p1.toInt ≤ 4)) → b_X9except_13 (fun r σ' => (σ' = σ ∧ r.toInt < 0) ∨ (Fz σ' ∧ Bt σ')) p1 p2 p3 p4 σ := by
    intro h1
    unfold b_X9except_13
    refine xany_x hc.1 (fun a => ⟨fun z => absurd z (by decide), fun _ => ?_⟩) (fun a => ⟨fun _ => hno, fun z => absurd rfl z⟩)
    refine xany_x hc.1 (fun b => ⟨fun z => absurd z (by decide), fun _ => ?_⟩) (fun a => ⟨fun _ => hno, fun z => absurd rfl z⟩)
    refine xany_x hc.1 (fun c => ⟨fun _ => ?_, fun z => absurd z (by decide)⟩) (fun a => ⟨fun z => absurd rfl z, fun _ => hno⟩)
    exact ⟨fun d => h58 ⟨h1, a, b, c, by unfold mayB at a; omega⟩, fun d => ⟨fun d2 => h58 ⟨h1, a, b, c, by unfold mayB at b; omega⟩, fun d2 => ⟨fun d3 => h58 ⟨h1, a, b, c, by unfold mayB at c; omega⟩, fun d3 => Or.inl ⟨rfl, by decide⟩⟩⟩⟩
  unfold wp_X9except
  exact ⟨fun h => h13 (Or.inl h), fun h => xwithin_x (fun k => ⟨fun z => absurd z (by decide), fun _ => h13 (Or.inr (by omega))⟩) (fun k => ⟨fun _ => hno, fun z => absurd rfl z⟩)⟩
theorem qu_except {p1 p2 p3 p4 : Int32} {σ τ : VS} (J : Ju σ τ) : wp_X9except (fun r σ' => wp_except (fun r2 τ' => r = r2 ∧ Ju σ' τ') p1 p2 p3 p4 τ) p1 p2 p3 p4 σ := by
  have a1 : wp_X9except (fun _ σ' => Eo [0, 1, 6] [31, 32, 33, 34, 35] σ σ') p1 p2 p3 p4 σ := cs_except J.cbt.ci J.1.1.1.1.2.1 (fun _ _ _ _ e _ => e)
  have a : wp_X9except (fun r σ' => Eo [0, 1, 6] [31, 32, 33, 34, 35] σ σ' ∧ ((σ' = σ ∧ r.toInt < 0) ∨ (Fz σ' ∧ Bt σ'))) p1 p2 p3 p4 σ := am_X9except a1 (kp_except J.cbt.ci) (fun _ _ u v => ⟨u, v⟩)
  have b : wp_except (fun _ τ' => Eo [25] [26, 27, 28, 29] τ τ') p1 p2 p3 p4 τ := rs_except J.rb.2.1 J.rb.1 J.rb.2.2.2.2 (fun _ _ _ _ _ e _ => e)
  refine am_X9except (qt_except J.1) a (fun r σ' u v => am_except u b (fun r2 τ' x y => ⟨x.1, x.2, J.set0 v.1 y ?_ (J.rb.2.2.2.1.sz y (by decide) (fun c _ => by rw [vv_eo y (by decide)])) ?_ (by decide) (by decide)⟩))
  · rcases v.2 with w | w
    · exact Or.inl ⟨by rw [w.1]; exact Eo.rfl, shF_same y (by decide)⟩
    · exact Or.inr w.1
  · rcases v.2 with w | w
    · rw [w.1]; exact J.2.2.2.1
    · exact w.2
theorem qu_unexcept {σ τ : VS} (J : Ju σ τ) : wp_X9unexcept (fun r σ' => wp_unexcept (fun r2 τ' => r = r2 ∧ Ju σ' τ') τ) σ := by
  have a1 : wp_X9unexcept (fun _ σ' => Eo [0, 1, 6] [35] σ σ') σ := cs_unexcept J.cbt.ci J.1.1.1.1.2.1 (fun _ _ _ _ e _ => e)
  have a : wp_X9unexcept (fun r σ' => Eo [0, 1, 6] [35] σ σ' ∧ ((σ' = σ ∧ r.toInt < 0) ∨ (Fz σ' ∧ Bt σ'))) σ := am_X9unexcept a1 (kp_unexcept J.cbt.ci) (fun _ _ u v => ⟨u, v⟩)
  have b : wp_unexcept (fun _ τ' => Eo [25] [] τ τ') τ := rs_unexcept J.rb.2.1 J.rb.1 J.rb.2.2.2.2 (fun _ _ _ _ _ e _ => e)
  refine am_X9unexcept (qt_unexcept J.1) a (fun r σ' u v => am_unexcept u b (fun r2 τ' x y => ⟨x.1, x.2, J.set0 v.1 y ?_ (J.rb.2.2.2.1.sz y (by decide) (fun c _ => by rw [vv_eo y (by decide)])) ?_ (by decide) (by decide)⟩))
  · rcases v.2 with w | w
    · exact Or.inl ⟨by rw [w.1]; exact Eo.rfl, shF_same y (by decide)⟩
    · exact Or.inr w.1
  · rcases v.2 with w | w
    · rw [w.1]; exact J.2.2.2.1
    · exact w.2
