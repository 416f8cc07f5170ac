/-! MASKS AND PERIODS -/
def orN (P : Nat → Bool) : Nat → Nat
  | 0 => 0
  | k + 1 => orN P k ||| (if P k then 2 ^ k else 0)
theorem orN_t (P : Nat → Bool) : ∀ k i : Nat, (orN P k).testBit i = (decide (i < k) && P i)
  | 0, i => by
    show (0 : Nat).testBit i = _
    rw [Nat.zero_testBit]
    have q : ¬ i < 0 := by omega
    rw [decide_eq_false q, Bool.false_and]
  | k + 1, i => by
    show (orN P k ||| (if P k then 2 ^ k else 0)).testBit i = _
    rw [Nat.testBit_or, orN_t P k i]
    by_cases a : i < k
    · have b : i < k + 1 := by omega
      have c : ¬ k = i := by omega
      rw [decide_eq_true a, decide_eq_true b, Bool.true_and]
      cases hp : P k
      · rw [if_neg (by decide), Nat.zero_testBit, Bool.or_false]
      · rw [if_pos rfl, Nat.testBit_two_pow, decide_eq_false c, Bool.or_false]
    · rw [decide_eq_false a, Bool.false_and, Bool.false_or]
      by_cases c : k = i
      · have b : i < k + 1 := by omega
        rw [decide_eq_true b, Bool.true_and, ← c]
        cases hp : P k
        · rw [if_neg (by decide), Nat.zero_testBit]
        · rw [if_pos rfl, Nat.testBit_two_pow, decide_eq_true rfl]
      · have b : ¬ i < k + 1 := by omega
        rw [decide_eq_false b, Bool.false_and]
        cases hp : P k
        · rw [if_neg (by decide), Nat.zero_testBit]
        · rw [if_pos rfl, Nat.testBit_two_pow, decide_eq_false c]
theorem orN_lt (P : Nat → Bool) : ∀ k : Nat, orN P k < 2 ^ k
  | 0 => by show 0 < 2 ^ 0; decide
  | k + 1 => by
    show orN P k ||| (if P k then 2 ^ k else 0) < 2 ^ (k + 1)
    have ih := orN_lt P k
    refine Nat.or_lt_two_pow (by rw [Nat.pow_succ]; omega) ?_
    cases hp : P k
    · rw [if_neg (by decide)]; exact Nat.two_pow_pos _
    · rw [if_pos rfl, Nat.pow_succ]
      have q : 0 < 2 ^ k := Nat.two_pow_pos k
      omega
/-- the masks of a cell: with the rules that hold everywhere, and without -/
def bC (th : Nat → Int) (R c : Nat) : Nat := orN (fun k => decide (th k = -1) || decide (th k = (c : Int))) R
def bR (th : Nat → Int) (R c : Nat) : Nat := orN (fun k => decide (th k = (c : Int))) R
theorem mk_CR {th : Nat → Int} {R s i : Nat} (hi : i < R) : ∀ p : List Nat, (mkP (bC th R) s p).testBit i = (decide (th i = -1) || (mkP (bR th R) s p).testBit i)
  | [] => by
    show (bC th R s).testBit i = (decide (th i = -1) || (bR th R s).testBit i)
    unfold bC bR
    rw [orN_t, orN_t, decide_eq_true hi, Bool.true_and, Bool.true_and]
  | w :: p => by
    show (mkP (bC th R) s p ||| bC th R (w / 4)).testBit i = (decide (th i = -1) || (mkP (bR th R) s p ||| bR th R (w / 4)).testBit i)
    rw [Nat.testBit_or, Nat.testBit_or, mk_CR hi p]
    have q : (bC th R (w / 4)).testBit i = (decide (th i = -1) || (bR th R (w / 4)).testBit i) := by
      unfold bC bR
      rw [orN_t, orN_t, decide_eq_true hi, Bool.true_and, Bool.true_and]
    rw [q]
    cases decide (th i = -1) <;> cases (mkP (bR th R) s p).testBit i <;> cases (bR th R (w / 4)).testBit i <;> rfl
def perK (pr : Nat → Int) (hit : Nat → Bool) : Nat → Int
  | 0 => 1
  | k + 1 => if hit k then pr k else perK pr hit k
theorem perK_c {pr pr' : Nat → Int} {h h' : Nat → Bool} : ∀ R : Nat, (∀ k, k < R → h k = h' k ∧ pr k = pr' k) → perK pr h R = perK pr' h' R
  | 0, _ => rfl
  | R + 1, q => by
    have ih := perK_c R (fun k hk => q k (by omega))
    show (if h R then pr R else perK pr h R) = (if h' R then pr' R else perK pr' h' R)
    rw [(q R (by omega)).1, (q R (by omega)).2, ih]
theorem perK_b {pr : Nat → Int} {h : Nat → Bool} : ∀ R : Nat, (∀ k, k < R → 0 ≤ pr k ∧ pr k ≤ 4) → 0 ≤ perK pr h R ∧ perK pr h R ≤ 4
  | 0, _ => by show (0 : Int) ≤ 1 ∧ (1 : Int) ≤ 4; omega
  | R + 1, q => by
    have ih := perK_b (h := h) R (fun k hk => q k (by omega))
    show 0 ≤ (if h R then pr R else perK pr h R) ∧ (if h R then pr R else perK pr h R) ≤ 4
    cases hp : h R
    · rw [if_neg (by decide)]; exact ih
    · rw [if_pos rfl]; exact q R (by omega)
def hitC (fr to : Nat → Int) (s t m : Nat) (k : Nat) : Bool := m.testBit k && (decide (fr k = -1) || decide (fr k = (s : Int))) && (decide (to k = -1) || decide (to k = (t : Int)))
theorem bit_t : ∀ m : Fin 16, ∀ k : Fin 4, (((Int32.ofNat m.val >>> (Int32.ofNat k.val &&& 31)) &&& 1).toInt = 1) = (m.val.testBit k.val = true) := by decide
theorem bit_x {a b : Int32} {m k : Nat} (ha : a.toInt = (m : Int)) (hb : b.toInt = (k : Int)) (hm : m < 16) (hk : k < 4) : ((a >>> (b &&& 31)) &&& 1).toInt = 1 ↔ m.testBit k = true := by
  rw [i3_of ha (by omega), i3_of hb (by omega)]
  exact Iff.of_eq (bit_t ⟨m, hm⟩ ⟨k, hk⟩)
theorem cx_periodsOf {Q : Int32 → VS → Prop} {p1 p2 p3 : Int32} {σ : VS} {s t m R : Nat} (h1 : p1.toInt = (s : Int)) (h2 : p2.toInt = (t : Int)) (h3 : p3.toInt = (m : Int)) (hm : m < 16) (hM : CI σ) (hR : (σ.1 6).toInt = (R : Int)) (hq : ∀ r : Int32, r.toInt = perK (vv σ 31) (hitC (vv σ 32) (vv σ 34) s t m) R → 0 ≤ r.toInt ∧ r.toInt ≤ 4 → Q r σ) : wp_X3periodsOf Q p1 p2 p3 σ := by
  have hR4 : 0 ≤ (σ.1 6).toInt ∧ (σ.1 6).toInt ≤ 4 := hM.1 6
  have pb := perK_b (pr := vv σ 31) (h := hitC (vv σ 32) (vv σ 34) s t m) R (fun k _ => hM.2 31 k)
  unfold wp_X3periodsOf
  intro X8 H
  have L : ∀ (k : Nat) (l4 : Int32), k ≤ R → l4.toInt = (k : Int) - 1 → perK (vv σ 31) (hitC (vv σ 32) (vv σ 34) s t m) R = perK (vv σ 31) (hitC (vv σ 32) (vv σ 34) s t m) k → X8 p1 p2 p3 l4 σ := by
    intro k
    induction k with
    | zero =>
      intro l4 _ e4 e
      refine H p1 p2 p3 l4 σ ?_
      unfold b_X3periodsOf_8
      refine ⟨fun _ => hq 1 ?_ (by decide), fun z => by omega⟩
      rw [e]; rfl
    | succ k ih =>
      intro l4 hk e4 e
      refine H p1 p2 p3 l4 σ ?_
      have e4' : l4.toInt = (k : Int) := by omega
      have ek : perK (vv σ 31) (hitC (vv σ 32) (vv σ 34) s t m) (k + 1) = (if hitC (vv σ 32) (vv σ 34) s t m k then vv σ 31 k else perK (vv σ 31) (hitC (vv σ 32) (vv σ 34) s t m) k) := rfl
      have bx := bit_x h3 e4' hm (by omega)
      have r31 : (rd σ 31 l4).toInt = vv σ 31 k := vv_rd e4'
      have r32 : (rd σ 32 l4).toInt = vv σ 32 k := vv_rd e4'
      have r34 : (rd σ 34 l4).toInt = vv σ 34 k := vv_rd e4'
      have b31 : 0 ≤ vv σ 31 k ∧ vv σ 31 k ≤ 4 := hM.2 31 k
      have no : hitC (vv σ 32) (vv σ 34) s t m k = false → b_X3periodsOf_71 X8 Q p1 p2 p3 l4 σ := fun f => by
        unfold b_X3periodsOf_71 b_X3periodsOf_72
        refine ⟨fun _ => ?_, fun z => absurd rfl z⟩
        obtain ⟨y, ey⟩ : ∃ y : Int32, y = l4 + (-1) := ⟨_, rfl⟩
        rw [← ey]
        have ty : y.toInt = (k : Int) + (-1) := i3_addc e4' (show (-1 : Int32).toInt = -1 from rfl) ey (by omega)
        refine ih y (by omega) (by omega) ?_
        rw [e, ek, f, if_neg (by decide)]
      have yes : hitC (vv σ 32) (vv σ 34) s t m k = true → b_X3periodsOf_67 X8 Q p1 p2 p3 l4 σ := fun f => by
        unfold b_X3periodsOf_67 b_X3periodsOf_72
        refine ⟨fun z => absurd z (by decide), fun _ => ⟨⟨by omega, by omega⟩, hq _ ?_ (by rw [r31]; exact b31)⟩⟩
        rw [e, ek, f, if_pos rfl, r31]
      have h45 : m.testBit k = true → (vv σ 32 k = -1 ∨ vv σ 32 k = (s : Int)) → b_X3periodsOf_45 X8 Q p1 p2 p3 l4 σ := fun fb ff => by
        have f1 : (decide (vv σ 32 k = -1) || decide (vv σ 32 k = (s : Int))) = true := by
          rcases ff with z | z
          · rw [decide_eq_true z, Bool.true_or]
          · rw [decide_eq_true z, Bool.or_true]
        unfold b_X3periodsOf_45
        rw [r34, h2]
        refine ⟨⟨by omega, by omega⟩, fun z => yes ?_, fun z => ⟨⟨by omega, by omega⟩, fun z2 => no ?_, fun z2 => yes ?_⟩⟩
        · unfold hitC
          rw [fb, f1, decide_eq_true z, Bool.true_or]; rfl
        · unfold hitC
          rw [decide_eq_false z, decide_eq_false z2, Bool.or_false, Bool.and_false]
        · unfold hitC
          rw [fb, f1, decide_eq_true z2, Bool.or_true]; rfl
      unfold b_X3periodsOf_8
      rw [r32, h1]
      refine ⟨fun z => by omega, fun _ => ⟨fun z => no ?_, fun z => ⟨⟨by omega, by omega⟩, fun z2 => h45 (bx.mp z) (Or.inl z2), fun z2 => ⟨⟨by omega, by omega⟩, fun z3 => no ?_, fun z3 => h45 (bx.mp z) (Or.inr z3)⟩⟩⟩⟩
      · have f : m.testBit k = false := by
          cases hb : m.testBit k
          · rfl
          · exact absurd (bx.mpr hb) z
        unfold hitC
        rw [f, Bool.false_and, Bool.false_and]
      · unfold hitC
        rw [decide_eq_false z2, decide_eq_false z3, Bool.or_false, Bool.and_false, Bool.false_and]
  intro x1 e1
  have t1 : x1.toInt = (R : Int) - 1 := by
    have q := i3_subc (x := x1) hR (show (1 : Int32).toInt = 1 from rfl) e1 (by omega)
    exact q
  exact L R x1 (Nat.le_refl R) t1 rfl
