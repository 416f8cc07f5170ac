/-! KEYS AND THEIR ORDER -/
theorem j6_bm {n : Int} (h : -9223372036854775808 ≤ n ∧ n ≤ 9223372036854775807) : n.bmod (2 ^ 64) = n := by
  rw [Int.bmod_def]
  omega
theorem j6_shl (x : Int64) : x <<< (10 : Int64) = x * 1024 := by
  apply Int64.toBitVec_inj.mp
  rw [Int64.toBitVec_shiftLeft, Int64.toBitVec_mul]
  have m : ((10 : Int64).toBitVec.smod 64) = 10#64 := by decide
  have t : BitVec.twoPow 64 10 = (1024 : Int64).toBitVec := by decide
  rw [m, BitVec.shiftLeft_eq', show (10#64).toNat = 10 from rfl, BitVec.shiftLeft_eq_mul_twoPow, t]
theorem j6_key (a q : Int32) : ((a.toInt64 <<< ((10 : Int32).toInt64 &&& 63)) + q.toInt64).toInt = a.toInt * 1024 + q.toInt := by
  have e : ((10 : Int32).toInt64 &&& 63) = (10 : Int64) := by decide
  have c : (1024 : Int64).toInt = 1024 := by decide
  have b1 := i3_bd a
  have b2 := i3_bd q
  rw [e, j6_shl, Int64.toInt_add, Int64.toInt_mul, Int32.toInt_toInt64, Int32.toInt_toInt64, c, j6_bm (n := a.toInt * 1024) (by omega), j6_bm (by omega)]
theorem j6_and {x : Int64} {a : Int} {q : Nat} (h : x.toInt = a * 1024 + (q : Int)) (hq : q < 1024) : ((x &&& (1023 : Int64)).toInt32).toInt = (q : Int) := by
  have n1 : (x &&& (1023 : Int64)).toBitVec.toNat = x.toBitVec.toNat % 1024 := by
    rw [Int64.toBitVec_and, BitVec.toNat_and, show (1023 : Int64).toBitVec.toNat = 2 ^ 10 - 1 from rfl, Nat.and_two_pow_sub_one_eq_mod]
  have n2 : x.toInt = ((x.toBitVec.toNat : Nat) : Int).bmod (2 ^ 64) := by
    rw [← Int64.toInt_toBitVec, BitVec.toInt_eq_toNat_bmod]
  have lt : x.toBitVec.toNat < 2 ^ 64 := x.toBitVec.isLt
  have n3 : x.toBitVec.toNat % 1024 = q := by
    rw [Int.bmod_def] at n2
    split at n2 <;> omega
  have n4 : (x &&& (1023 : Int64)).toInt = (q : Int) := by
    rw [← Int64.toInt_toBitVec, BitVec.toInt_eq_toNat_of_lt (by rw [n1, n3]; omega), n1, n3]
  rw [Int64.toInt_toInt32, n4, i3_bm (by omega)]
theorem lgc (x y : Int64) : 0 < (lg_cmp x y).toInt ↔ y.toInt < x.toInt := by
  have z : (0 : Int32).toInt = 0 := rfl
  have q := lg_cmp_gt x y
  rw [Int32.lt_iff_toInt_lt, Int64.lt_iff_toInt_lt, z] at q
  exact q
def jv (σ : VS) (j : Nat) : Int := (σ.2.2 54 j).toInt
theorem jv_slj (σ : VS) (i : Int32) (v : Int64) {n : Nat} (h : i.toInt = (n : Int)) : jv (slj σ 54 i v) = fu (jv σ) n v.toInt := by
  have e : i.toNatClampNeg = n := by
    have q := i3_nat (i := i) (by omega)
    omega
  funext j
  unfold jv slj fu
  show ((if (54 : Nat) = 54 then vp_updL (σ.2.2 54) i.toNatClampNeg v else σ.2.2 54) j).toInt = _
  rw [if_pos rfl, e]
  show (if j = n then v else σ.2.2 54 j).toInt = _
  by_cases z : j = n
  · rw [if_pos z, if_pos z]
  · rw [if_neg z, if_neg z]
theorem jv_rdj {σ : VS} {i : Int32} {n : Nat} (h : i.toInt = (n : Int)) : (rdj σ 54 i).toInt = jv σ n := by
  have e : i.toNatClampNeg = n := by
    have q := i3_nat (i := i) (by omega)
    omega
  unfold rdj jv
  rw [e]
def Ij (q : Nat) (a : Nat → Int) : Prop := ∀ i j, i < q → j < q → a i = a j → i = j
def Rg (q : Nat) (a : Nat → Int) (v : Int) : Prop := ∃ i, i < q ∧ a i = v
def sw2 (x y j : Nat) : Nat := if j = x then y else if j = y then x else j
theorem sw2_lt {x y j q : Nat} (hx : x < q) (hy : y < q) (hj : j < q) : sw2 x y j < q := by
  unfold sw2
  by_cases a : j = x
  · rw [if_pos a]; exact hy
  · rw [if_neg a]
    by_cases b : j = y
    · rw [if_pos b]; exact hx
    · rw [if_neg b]; exact hj
theorem sw2_inv (x y j : Nat) : sw2 x y (sw2 x y j) = j := by
  unfold sw2
  by_cases a : j = x
  · rw [if_pos a]
    by_cases c : y = x
    · rw [if_pos c]; omega
    · rw [if_neg c, if_pos rfl]; exact a.symm
  · rw [if_neg a]
    by_cases b : j = y
    · rw [if_pos b, if_pos rfl]; exact b.symm
    · rw [if_neg b, if_neg a, if_neg b]
theorem fu_sw {a : Nat → Int} {x y : Nat} {k : Int} (h : x ≠ y) : fu (fu a x (a y)) y k = fun j => fu a x k (sw2 x y j) := by
  funext j
  unfold sw2
  by_cases c : j = y
  · rw [c, fu_eq, if_neg (fun z => h z.symm), if_pos rfl, fu_eq]
  · rw [fu_ne c]
    by_cases d : j = x
    · rw [d, fu_eq, if_pos rfl, fu_ne (fun z => h z.symm)]
    · rw [fu_ne d, if_neg d, if_neg c, fu_ne d]
theorem Ij.sw {q x y : Nat} {A : Nat → Int} (hx : x < q) (hy : y < q) (h : Ij q A) : Ij q (fun j => A (sw2 x y j)) := fun i j hi hj e => by
  have z := h _ _ (sw2_lt hx hy hi) (sw2_lt hx hy hj) e
  rw [← sw2_inv x y i, z, sw2_inv]
theorem Rg.sw {q x y : Nat} {A : Nat → Int} {v : Int} (hx : x < q) (hy : y < q) : Rg q A v ↔ Rg q (fun j => A (sw2 x y j)) v := ⟨fun ⟨i, hi, e⟩ => ⟨sw2 x y i, sw2_lt hx hy hi, by show A (sw2 x y (sw2 x y i)) = v; rw [sw2_inv]; exact e⟩, fun ⟨i, hi, e⟩ => ⟨sw2 x y i, sw2_lt hx hy hi, e⟩⟩
theorem gap_b (l3 : Int32) (h : 0 ≤ l3.toInt ∧ l3.toInt < 8) : 1 ≤ (lm_gaps.getD l3.toNatClampNeg 0).toInt ∧ (lm_gaps.getD l3.toNatClampNeg 0).toInt ≤ 701 ∧ (l3.toInt = 7 → (lm_gaps.getD l3.toNatClampNeg 0).toInt = 1) := by
  have e := i3_nat (i := l3) h.1
  obtain ⟨n, hn⟩ : ∃ n, n = l3.toNatClampNeg := ⟨_, rfl⟩
  rw [← hn] at e ⊢
  have D : ∀ k : Fin 8, 1 ≤ (lm_gaps.getD k.val 0).toInt ∧ (lm_gaps.getD k.val 0).toInt ≤ 701 ∧ (k.val = 7 → (lm_gaps.getD k.val 0).toInt = 1) := by decide
  have q := D ⟨n, by omega⟩
  exact ⟨q.1, q.2.1, fun z => q.2.2 (by show n = 7; omega)⟩
set_option maxHeartbeats 1000000 in
theorem cx_sortKeys {Q : VS → Prop} {σ : VS} {q : Nat} (hM : CI σ) (h15 : (σ.1 15).toInt = (q : Int)) (hI : Ij q (jv σ)) (hq : ∀ τ : VS, CI τ → Eo [] [] σ τ → (∀ v, Rg q (jv σ) v ↔ Rg q (jv τ) v) → (∀ x y, x < y → y < q → jv τ x < jv τ y) → Q τ) : wp_X7sortKeys Q σ := by
  have a15 : 0 ≤ (σ.1 15).toInt ∧ (σ.1 15).toInt ≤ 1000 := hM.1 15
  unfold wp_X7sortKeys
  intro X9 X23 X45 H9 H23 H45
  have Z45 : ∀ (d at' i gap : Nat) (l2 l3 l4 l5 : Int32) (l6 : Int64) (l8 : Int32) (τ : VS), at' < d → at' ≤ i → i < q → 1 ≤ gap → l4.toInt = (gap : Int) → l5.toInt = (i : Int) → l8.toInt = (at' : Int) → CI τ → Eo [] [] σ τ → Ij q (fu (jv τ) at' l6.toInt) → (∀ v, Rg q (jv σ) v ↔ Rg q (fu (jv τ) at' l6.toInt) v) → (gap = 1 → (∀ x y, x < y → y ≤ i → x ≠ at' → y ≠ at' → jv τ x < jv τ y) ∧ ∀ y, at' < y → y ≤ i → l6.toInt < jv τ y) → (∀ τ2 : VS, CI τ2 → Eo [] [] σ τ2 → Ij q (jv τ2) → (∀ v, Rg q (jv σ) v ↔ Rg q (jv τ2) v) → (gap = 1 → ∀ x y, x < y → y < i + 1 → jv τ2 x < jv τ2 y) → X23 l2 l3 l4 (l5 + 1) τ2) → X45 l2 l3 l4 l5 l6 l8 τ := by
    intro d
    induction d with
    | zero => intro at' i gap l2 l3 l4 l5 l6 l8 τ a; omega
    | succ d ih =>
      intro at' i gap l2 l3 l4 l5 l6 l8 τ ha hai hi hg e4 e5 e8 hMt hE hIj hRg hs K
      refine H45 l2 l3 l4 l5 l6 l8 τ ?_
      have fin : (gap = 1 → at' = 0 ∨ jv τ (at' - 1) ≤ l6.toInt) → b_X7sortKeys_95 X9 X23 X45 Q l2 l3 l4 l5 l6 l8 τ := fun c => by
        unfold b_X7sortKeys_95
        have ej := jv_slj τ l8 l6 e8
        refine ⟨⟨by omega, by omega⟩, K _ (hMt.slj 54 l8 l6) (hE.slj 54 l8 l6) (by rw [ej]; exact hIj) (by rw [ej]; exact hRg) (fun g x y hxy hy => ?_)⟩
        rw [ej]
        obtain ⟨s1, s2⟩ := hs g
        by_cases z1 : y = at'
        · rw [z1, fu_eq, fu_ne (by omega)]
          have c2 := c g
          have ne : jv τ (at' - 1) ≠ l6.toInt := fun w => by
            have w2 := hIj (at' - 1) at' (by omega) (by omega) (by rw [fu_eq, fu_ne (by omega)]; exact w)
            omega
          by_cases z2 : x = at' - 1
          · rw [z2]; omega
          · have w := s1 x (at' - 1) (by omega) (by omega) (by omega) (by omega)
            omega
        · by_cases z2 : x = at'
          · rw [z2, fu_eq, fu_ne z1]
            exact s2 y (by omega) (by omega)
          · rw [fu_ne z1, fu_ne z2]
            exact s1 x y hxy (by omega) z2 z1
      unfold b_X7sortKeys_45
      refine ⟨fun z => fin (fun g => Or.inl (by omega)), fun z => ?_⟩
      have t1 : (l8 - l4).toInt = ((at' - gap : Nat) : Int) := by
        have w := i3_subc (x := l8 - l4) e8 e4 rfl (by omega)
        omega
      have r1 : (rdj τ 54 (l8 - l4)).toInt = jv τ (at' - gap) := jv_rdj t1
      refine ⟨⟨by omega, by omega⟩, fun c => fin (fun g => Or.inr ?_), fun c => ⟨⟨by omega, by omega⟩, ⟨by omega, by omega⟩, fun x3 ex3 => ?_⟩⟩
      · have w : ¬ l6.toInt < jv τ (at' - gap) := fun y => by
          rw [← r1] at y
          have y2 := (lgc _ _).mpr y
          omega
        rw [g] at w
        omega
      · have w := (lgc _ _).mp c
        rw [r1] at w
        have ej := jv_slj τ l8 (rdj τ 54 (l8 - l4)) e8
        rw [r1] at ej
        have fs : fu (fu (jv τ) at' (jv τ (at' - gap))) (at' - gap) l6.toInt = fun j => fu (jv τ) at' l6.toInt (sw2 at' (at' - gap) j) := fu_sw (by omega)
        refine ih (at' - gap) i gap l2 l3 l4 l5 l6 x3 (slj τ 54 l8 (rdj τ 54 (l8 - l4))) (by omega) (by omega) hi hg e4 e5 (by rw [ex3]; exact t1) (hMt.slj 54 _ _) (hE.slj 54 _ _) ?_ (fun v => ?_) (fun g => ?_) K
        · rw [ej, fs]
          exact hIj.sw (by omega) (by omega)
        · rw [ej, fs]
          exact (hRg v).trans (Rg.sw (by omega) (by omega))
        · obtain ⟨s1, s2⟩ := hs g
          rw [ej]
          rw [g] at w ⊢
          refine ⟨fun x y hxy hy nx ny => ?_, fun y hy hyi => ?_⟩
          · by_cases z1 : y = at'
            · rw [z1, fu_eq, fu_ne (by omega)]
              exact s1 x (at' - 1) (by omega) (by omega) (by omega) (by omega)
            · rw [fu_ne z1]
              by_cases z2 : x = at'
              · rw [z2, fu_eq]
                exact s1 (at' - 1) y (by omega) hy (by omega) z1
              · rw [fu_ne z2]
                exact s1 x y hxy hy z2 z1
          · by_cases z1 : y = at'
            · rw [z1, fu_eq]; exact w
            · rw [fu_ne z1]
              exact s2 y (by omega) hyi
  have Z23 : ∀ (d i gap : Nat) (l2 l3 l4 l5 : Int32) (τ : VS), q + 1 ≤ d + i → 1 ≤ gap → gap ≤ 701 → i ≤ 2000 → l4.toInt = (gap : Int) → l5.toInt = (i : Int) → CI τ → Eo [] [] σ τ → Ij q (jv τ) → (∀ v, Rg q (jv σ) v ↔ Rg q (jv τ) v) → (gap = 1 → ∀ x y, x < y → y < i → y < q → jv τ x < jv τ y) → (∀ τ2 : VS, CI τ2 → Eo [] [] σ τ2 → Ij q (jv τ2) → (∀ v, Rg q (jv σ) v ↔ Rg q (jv τ2) v) → (gap = 1 → ∀ x y, x < y → y < q → jv τ2 x < jv τ2 y) → X9 l2 (l3 + 1) τ2) → X23 l2 l3 l4 l5 τ := by
    intro d
    induction d with
    | zero =>
      intro i gap l2 l3 l4 l5 τ a hg hg2 hi2 e4 e5 hMt hE hIj hRg hs K
      refine H23 l2 l3 l4 l5 τ ?_
      unfold b_X7sortKeys_23
      have f15 : (τ.1 15).toInt = (q : Int) := by rw [hE.1 15 (fun z => by cases z)]; exact h15
      exact ⟨fun z => K τ hMt hE hIj hRg (fun g x y hxy hy => hs g x y hxy (by omega) hy), fun z => by omega⟩
    | succ d ih =>
      intro i gap l2 l3 l4 l5 τ a hg hg2 hi2 e4 e5 hMt hE hIj hRg hs K
      refine H23 l2 l3 l4 l5 τ ?_
      unfold b_X7sortKeys_23
      have f15 : (τ.1 15).toInt = (q : Int) := by rw [hE.1 15 (fun z => by cases z)]; exact h15
      refine ⟨fun z => K τ hMt hE hIj hRg (fun g x y hxy hy => hs g x y hxy (by omega) hy), fun z => ⟨⟨by omega, by omega⟩, fun x2 ex2 => ?_⟩⟩
      have e6 : x2.toInt = jv τ i := by rw [ex2]; exact jv_rdj e5
      have fid : fu (jv τ) i x2.toInt = jv τ := by
        funext j
        by_cases w : j = i
        · rw [w, fu_eq, e6]
        · rw [fu_ne w]
      have t5 : (l5 + 1).toInt = ((i + 1 : Nat) : Int) := by
        have w := i3_addc (x := l5 + 1) e5 (show (1 : Int32).toInt = 1 from rfl) rfl (by omega)
        omega
      refine Z45 (i + 1) i i gap l2 l3 l4 l5 x2 l5 τ (by omega) (Nat.le_refl i) (by omega) hg e4 e5 e5 hMt hE (by rw [fid]; exact hIj) (by rw [fid]; exact hRg) (fun g => ⟨fun x y hxy hy nx ny => hs g x y hxy (by omega) (by omega), fun y h1 h2 => by omega⟩) (fun τ2 M2 E2 I2 R2 S2 => ?_)
      exact ih (i + 1) gap l2 l3 l4 (l5 + 1) τ2 (by omega) hg hg2 (by omega) e4 t5 M2 E2 I2 R2 (fun g x y hxy hy _ => S2 g x y hxy hy) K
  have Z9 : ∀ (d g : Nat) (l3 : Int32) (τ : VS), 9 ≤ d + g → g ≤ 8 → l3.toInt = (g : Int) → CI τ → Eo [] [] σ τ → Ij q (jv τ) → (∀ v, Rg q (jv σ) v ↔ Rg q (jv τ) v) → (g = 8 → ∀ x y, x < y → y < q → jv τ x < jv τ y) → X9 8 l3 τ := by
    intro d
    induction d with
    | zero => intro g l3 τ a b; omega
    | succ d ih =>
      intro g l3 τ a b e3 hMt hE hIj hRg hs
      refine H9 8 l3 τ ?_
      unfold b_X7sortKeys_9
      have e8 : (8 : Int32).toInt = 8 := rfl
      rw [e8]
      refine ⟨fun z => hq τ hMt hE hRg (hs (by omega)), fun z => ⟨⟨by omega, by omega⟩, fun x1 ex1 => ?_⟩⟩
      have gb := gap_b l3 ⟨by omega, by omega⟩
      rw [← ex1] at gb
      obtain ⟨gp, hgp⟩ : ∃ gp : Nat, x1.toInt = (gp : Int) := ⟨x1.toInt.toNat, by omega⟩
      have t3 : (l3 + 1).toInt = ((g + 1 : Nat) : Int) := by
        have w := i3_addc (x := l3 + 1) e3 (show (1 : Int32).toInt = 1 from rfl) rfl (by omega)
        omega
      exact Z23 (q + 1) gp gp 8 l3 x1 x1 τ (by omega) (by omega) (by omega) (by omega) hgp hgp hMt hE hIj hRg (fun w x y hxy hy _ => by omega) (fun τ2 M2 E2 I2 R2 S2 => ih (g + 1) (l3 + 1) τ2 (by omega) (by omega) t3 M2 E2 I2 R2 (fun w => S2 (by omega)))
  exact Z9 9 0 0 σ (by omega) (by omega) rfl hM Eo.rfl hI (fun v => Iff.rfl) (fun w => by omega)
/-- the k-th of the keys in their order -/
def KR (κ : Nat → Int) (N k i : Nat) : Prop := ∃ a : Nat → Int, (∀ x y, x < y → y < N → a x < a y) ∧ (∀ v, Rg N κ v ↔ Rg N a v) ∧ a k = κ i ∧ i < N
theorem mono_un {N : Nat} {a a' : Nat → Int} (h : ∀ x y, x < y → y < N → a x < a y) (h' : ∀ x y, x < y → y < N → a' x < a' y) (r : ∀ v, Rg N a v ↔ Rg N a' v) : ∀ k, k < N → a k = a' k := by
  have L : ∀ (d k : Nat), k < d → k < N → a k = a' k := by
    intro d
    induction d with
    | zero => intro k z; omega
    | succ d ih =>
      intro k hk hN
      obtain ⟨j, hj, ej⟩ := (r (a k)).mp ⟨k, hN, rfl⟩
      obtain ⟨i, hi, ei⟩ := (r (a' k)).mpr ⟨k, hN, rfl⟩
      have j1 : ¬ j < k := fun z => by
        have w := ih j (by omega) hj
        have w2 := h j k z hN
        omega
      have i1 : ¬ i < k := fun z => by
        have w := ih i (by omega) hi
        have w2 := h' i k z hN
        omega
      by_cases z : j = k
      · rw [← ej, z]
      · have w := h' k j (by omega) hj
        by_cases z2 : i = k
        · rw [← ei, z2]
        · have w2 := h k i (by omega) hi
          omega
  exact fun k hk => L (k + 1) k (by omega) hk
theorem KR.un {κ : Nat → Int} {N k i i' : Nat} (hI : Ij N κ) (hk : k < N) (h : KR κ N k i) (h' : KR κ N k i') : i = i' := by
  obtain ⟨a, m, r, e, hi⟩ := h
  obtain ⟨a', m', r', e', hi'⟩ := h'
  have q := mono_un m m' (fun v => (r v).symm.trans (r' v)) k hk
  exact hI i i' hi hi' (by rw [← e, ← e', q])
