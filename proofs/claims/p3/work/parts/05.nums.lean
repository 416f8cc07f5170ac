theorem W_hl {p : Program} {l : Launch} {e : Env} {R : Room} {s : State} {m : MethodId} {args : Array Value} {below : List Frame} {meth : Method} {c : Code} {H : Heap} {locs : List Loc} {cells slots : Nat} {Q : State → Prop} {g : JFrame} (h : H = s.heap) (h2 : locs = []) (k : W p l e R s m args below meth c H locs cells slots Q g) : W p l e R s m args below meth c s.heap [] cells slots Q g := by subst h; subst h2; exact k
theorem nb_01 {x : Int32} (h : 0 ≤ x.toInt ∧ x.toInt ≤ 1) : narrow .boolean (.int x) = .int x := by
  rcases (show x.toInt = 0 ∨ x.toInt = 1 by omega) with q | q
  · have : x = 0 := Int32.toInt_inj.mp (by rw [q]; decide)
    subst this; rfl
  · have : x = 1 := Int32.toInt_inj.mp (by rw [q]; decide)
    subst this; rfl
theorem i3_cs {k : Int32} {n : Int} {c : Int32} (h : k.toInt = n) (hc : c.toInt = n) : k = c := Int32.toInt_inj.mp (by rw [h, hc])
theorem i3_shl1 {x k : Int32} (e : x = 1 <<< (k &&& 31)) (h : 0 ≤ k.toInt ∧ k.toInt ≤ 4) : 1 ≤ x.toInt ∧ x.toInt ≤ 16 := by
  rcases (show k.toInt = 0 ∨ k.toInt = 1 ∨ k.toInt = 2 ∨ k.toInt = 3 ∨ k.toInt = 4 by omega) with q | q | q | q | q
  · have := i3_cs (c := 0) q (by decide); subst this; subst e; decide
  · have := i3_cs (c := 1) q (by decide); subst this; subst e; decide
  · have := i3_cs (c := 2) q (by decide); subst this; subst e; decide
  · have := i3_cs (c := 3) q (by decide); subst this; subst e; decide
  · have := i3_cs (c := 4) q (by decide); subst this; subst e; decide
theorem i3_shl3 {x k : Int32} (e : x = 1 <<< (k &&& 31)) (h : 0 ≤ k.toInt ∧ k.toInt ≤ 3) : 1 ≤ x.toInt ∧ x.toInt ≤ 8 := by
  rcases (show k.toInt = 0 ∨ k.toInt = 1 ∨ k.toInt = 2 ∨ k.toInt = 3 by omega) with q | q | q | q
  · have := i3_cs (c := 0) q (by decide); subst this; subst e; decide
  · have := i3_cs (c := 1) q (by decide); subst this; subst e; decide
  · have := i3_cs (c := 2) q (by decide); subst this; subst e; decide
  · have := i3_cs (c := 3) q (by decide); subst this; subst e; decide
theorem i3_min {z x y : Int32} (e : z = if y < x then y else x) : (z.toInt ≤ x.toInt ∧ z.toInt ≤ y.toInt) ∧ (z.toInt = x.toInt ∨ z.toInt = y.toInt) := by
  by_cases h : y < x
  · rw [if_pos h] at e; subst e; have := i3_lt h; omega
  · rw [if_neg h] at e; subst e; have := i3_nlt h; omega
theorem i3_max {z x y : Int32} (e : z = if x < y then y else x) : (z.toInt ≥ x.toInt ∧ z.toInt ≥ y.toInt) ∧ (z.toInt = x.toInt ∨ z.toInt = y.toInt) := by
  by_cases h : x < y
  · rw [if_pos h] at e; subst e; have := i3_lt h; omega
  · rw [if_neg h] at e; subst e; have := i3_nlt h; omega
theorem ar_lm_load : AR (fun j => lm_load.getD j 0) 4 0 64 := by
  intro j hj
  rcases (show j = 0 ∨ j = 1 ∨ j = 2 ∨ j = 3 by omega) with rfl | rfl | rfl | rfl <;> decide
theorem ar_lm_slope : AR (fun j => lm_slope.getD j 0) 3 0 64 := by
  intro j hj
  rcases (show j = 0 ∨ j = 1 ∨ j = 2 by omega) with rfl | rfl | rfl <;> decide
theorem ar_lm_gaps : AR (fun j => lm_gaps.getD j 0) 8 1 701 := by
  intro j hj
  rcases (show j = 0 ∨ j = 1 ∨ j = 2 ∨ j = 3 ∨ j = 4 ∨ j = 5 ∨ j = 6 ∨ j = 7 by omega) with rfl | rfl | rfl | rfl | rfl | rfl | rfl | rfl <;> decide
theorem i3_nn {x : Int32} (h : 0 ≤ x.toInt) : x.toInt = (x.toBitVec.toNat : Int) := by
  have h1 : x.toInt = x.toBitVec.toInt := rfl
  have h2 := BitVec.toInt_eq_toNat_bmod x.toBitVec
  have h3 := x.toBitVec.isLt
  rw [Int.bmod_def] at h2
  omega
theorem i3_ofn {x : Int32} {n : Nat} (h : x.toBitVec.toNat = n) (hn : n < 2147483648) : x.toInt = (n : Int) := by
  have h1 : x.toInt = x.toBitVec.toInt := rfl
  have h2 := BitVec.toInt_eq_toNat_bmod x.toBitVec
  rw [Int.bmod_def, h] at h2
  omega
theorem i3_or15 {x a b : Int32} (e : x = a ||| b) (ha : 0 ≤ a.toInt ∧ a.toInt ≤ 15) (hb : 0 ≤ b.toInt ∧ b.toInt ≤ 15) : 0 ≤ x.toInt ∧ x.toInt ≤ 15 := by
  have h1 := i3_nn ha.1
  have h2 := i3_nn hb.1
  have h3 : x.toBitVec.toNat = a.toBitVec.toNat ||| b.toBitVec.toNat := by rw [e]; exact BitVec.toNat_or _ _
  have h4 : a.toBitVec.toNat ||| b.toBitVec.toNat < 2 ^ 4 := Nat.or_lt_two_pow (by omega) (by omega)
  have h5 := i3_ofn h3 (by omega)
  omega
theorem i3_and1 {x a : Int32} (e : x = a &&& 1) : 0 ≤ x.toInt ∧ x.toInt ≤ 1 := by
  have h3 : x.toBitVec.toNat = a.toBitVec.toNat &&& 1 := by rw [e]; exact BitVec.toNat_and _ _
  have h4 : a.toBitVec.toNat &&& 1 ≤ 1 := Nat.and_le_right
  have h5 := i3_ofn h3 (by omega)
  omega
