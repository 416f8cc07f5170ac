/-! BOTH SIDES' PERIODS ARE ONE -/
theorem dec_neg {x : Int} (h : -1 ≤ x) : decide (x < 0) = decide (x = -1) := by
  by_cases z : x = -1
  · rw [decide_eq_true z, decide_eq_true (show x < 0 by omega)]
  · rw [decide_eq_false z, decide_eq_false (show ¬ x < 0 by omega)]
theorem per_CR {pr fr th to : Nat → Int} {R s t : Nat} (h1 : ∀ k, k < R → -1 ≤ fr k) (h2 : ∀ k, k < R → -1 ≤ th k) (h3 : ∀ k, k < R → -1 ≤ to k) (p : List Nat) : perK pr (hitC fr to s t (mkP (bC th R) s p ||| bC th R t)) R = perK pr (hitR fr th to s t (mkP (bR th R) s p ||| bR th R t)) R := by
  refine perK_c R (fun k hk => ⟨?_, rfl⟩)
  have a := mk_CR (th := th) (s := s) hk p
  have b : (bC th R t).testBit k = (decide (th k = -1) || (bR th R t).testBit k) := by
    unfold bC bR
    rw [orN_t, orN_t, decide_eq_true hk, Bool.true_and, Bool.true_and]
  unfold hitC hitR
  rw [Nat.testBit_or, Nat.testBit_or, a, b, dec_neg (h1 k hk), dec_neg (h2 k hk), dec_neg (h3 k hk)]
  cases decide (th k = -1) <;> cases (mkP (bR th R) s p).testBit k <;> cases (bR th R t).testBit k <;> cases decide (fr k = -1) <;> cases decide (fr k = (s : Int)) <;> cases decide (to k = -1) <;> cases decide (to k = (t : Int)) <;> rfl
