theorem nb_01 {x : Int32} (h : 0 ≤ x.toInt ∧ x.toInt ≤ 1) : narrow .boolean (.int x) = .int x := by
  rcases (show x.toInt = 0 ∨ x.toInt = 1 by omega) with q | q
  · have : x = 0 := Int32.toInt_inj.mp (by rw [q]; decide)
    subst this; rfl
  · have : x = 1 := Int32.toInt_inj.mp (by rw [q]; decide)
    subst this; rfl
theorem i3_cs {k : Int32} {n : Int} {c : Int32} (h : k.toInt = n) (hc : c.toInt = n) : k = c := Int32.toInt_inj.mp (by rw [h, hc])
theorem i3_shl3 {x k : Int32} (e : x = 1 <<< (k &&& 31)) (h : 0 ≤ k.toInt ∧ k.toInt ≤ 3) : 1 ≤ x.toInt ∧ x.toInt ≤ 8 := by
  rcases (show k.toInt = 0 ∨ k.toInt = 1 ∨ k.toInt = 2 ∨ k.toInt = 3 by omega) with q | q | q | q
  · have := i3_cs (c := 0) q (by decide); subst this; subst e; decide
  · have := i3_cs (c := 1) q (by decide); subst this; subst e; decide
  · have := i3_cs (c := 2) q (by decide); subst this; subst e; decide
  · have := i3_cs (c := 3) q (by decide); subst this; subst e; decide
theorem i3_nn {x : Int32} (h : 0 ≤ x.toInt) : x.toInt = (x.toBitVec.toNat : Int) := by
  have h1 : x.toInt = x.toBitVec.toInt := rfl
  have h2 := BitVec.toInt_eq_toNat_bmod x.toBitVec
  have h3 := x.toBitVec.isLt
  rw [Int.bmod_def] at h2
  omega
theorem i3_ofn {x : Int32} {n : Nat} (h : x.toBitVec.toNat = n) (hn : n < 2147483648) : x.toInt = (n : Int) := by
  have h1 : x.toInt = x.toBitVec.toInt := rfl
  have h2 := BitVec.toInt_eq_toNat_bmod x.toBitVec
  rw [Int.bmod_def, h] at h2
  omega
theorem i3_or15 {x a b : Int32} (e : x = a ||| b) (ha : 0 ≤ a.toInt ∧ a.toInt ≤ 15) (hb : 0 ≤ b.toInt ∧ b.toInt ≤ 15) : 0 ≤ x.toInt ∧ x.toInt ≤ 15 := by
  have h1 := i3_nn ha.1
  have h2 := i3_nn hb.1
  have h3 : x.toBitVec.toNat = a.toBitVec.toNat ||| b.toBitVec.toNat := by rw [e]; exact BitVec.toNat_or _ _
  have h4 : a.toBitVec.toNat ||| b.toBitVec.toNat < 2 ^ 4 := Nat.or_lt_two_pow (by omega) (by omega)
  have h5 := i3_ofn h3 (by omega)
  omega
