/-! WHAT TWO ENDS OF THE CLOCK SHARE -/
noncomputable def shM (τ : VS) (s t : Nat) : Int32 := if vv τ 2 s = 4 ∧ vv τ 2 t = 4 then sumC (fun l => OnW (τ.2.1 22) (vv τ 11 s) l ∧ OnW (τ.2.1 22) (vv τ 11 t) l) (fun j => τ.2.1 24 j - τ.2.1 23 j) (τ.1 21).toInt.toNat else 0
theorem sumC_b {C : Nat → Prop} {d : Nat → Int32} : ∀ n : Nat, n ≤ 20 → (∀ j, j < n → -100000 ≤ (d j).toInt ∧ (d j).toInt ≤ 100000) → -(100000 * (n : Int)) ≤ (sumC C d n).toInt ∧ (sumC C d n).toInt ≤ 100000 * (n : Int)
  | 0, _, _ => by
    show -(100000 * ((0 : Nat) : Int)) ≤ (0 : Int32).toInt ∧ (0 : Int32).toInt ≤ 100000 * ((0 : Nat) : Int)
    decide
  | n + 1, hn, h => by
    have ih := sumC_b (C := C) n (by omega) (fun j hj => h j (by omega))
    have k := h n (by omega)
    by_cases c : C n
    · have e : sumC C d (n + 1) = sumC C d n + d n := by
        show @ite Int32 (C n) (Classical.propDecidable (C n)) (sumC C d n + d n) (sumC C d n) = _
        rw [if_pos c]
      have q := i3_addc (x := sumC C d (n + 1)) rfl rfl e (by omega)
      rw [q]; omega
    · have e : sumC C d (n + 1) = sumC C d n := by
        show @ite Int32 (C n) (Classical.propDecidable (C n)) (sumC C d n + d n) (sumC C d n) = _
        rw [if_neg c]
      rw [e]; omega
theorem shM_b {τ : VS} (hM : MI τ) (hN : NdR τ) (s t : Nat) : -2000000 ≤ (shM τ s t).toInt ∧ (shM τ s t).toInt ≤ 2000000 := by
  have h20 : 0 ≤ (τ.1 21).toInt ∧ (τ.1 21).toInt ≤ 20 := hM.1 21
  unfold shM
  by_cases c : vv τ 2 s = 4 ∧ vv τ 2 t = 4
  · rw [if_pos c]
    have q := sumC_b (C := fun l => OnW (τ.2.1 22) (vv τ 11 s) l ∧ OnW (τ.2.1 22) (vv τ 11 t) l) (d := fun j => τ.2.1 24 j - τ.2.1 23 j) (τ.1 21).toInt.toNat (by omega) (fun j hj => by
      have k := hN j (by omega)
      have k1 : 0 ≤ vv τ 24 j ∧ vv τ 24 j ≤ 100000 := k.2
      have k2 : 0 ≤ vv τ 23 j ∧ vv τ 23 j ≤ 100000 := k.1
      have e : (τ.2.1 24 j - τ.2.1 23 j).toInt = vv τ 24 j - vv τ 23 j := i3_subc rfl rfl rfl (by omega)
      rw [e]; omega)
    omega
  · rw [if_neg c]; decide
theorem cx_shEq {Q : Int32 → VS → Prop} {p1 p2 : Int32} {σ τ : VS} {s t : Nat} (hJ : Jt σ τ) (e1 : p1.toInt = (s : Int)) (e2 : p2.toInt = (t : Int)) (hs : s < nCl σ) (ht : t < nCl σ) (hq : Q (shM τ s t) σ) : wp_X2sharedOf Q p1 p2 σ := by
  have J : Jn σ τ := hJ.1.1.1
  have D : Dt σ τ := hJ.1.1.2
  have N : Dn σ τ := hJ.1.2
  obtain ⟨hM, hC, hM2, hS, hL, k1, k2, -⟩ := J
  have t1 : (σ.1 2).toInt = (τ.1 1).toInt := by rw [k1]
  have hc : 0 ≤ (σ.1 2).toInt ∧ (σ.1 2).toInt ≤ 50 := hM.1 2
  have hb : 0 ≤ (τ.1 21).toInt ∧ (τ.1 21).toInt ≤ 20 := hM2.1 21
  have en : (σ.1 2).toInt = ((nCl σ : Nat) : Int) := by unfold nCl; omega
  have h1 : 0 ≤ p1.toInt ∧ p1.toInt < (σ.1 2).toInt := by omega
  have h2 : 0 ≤ p2.toInt ∧ p2.toInt < (σ.1 2).toInt := by omega
  have kd1 : rd σ 11 p1 = rd τ 2 p1 := D.cell (q := (11, 2)) (by decide) h1
  have kd2 : rd σ 11 p2 = rd τ 2 p2 := D.cell (q := (11, 2)) (by decide) h2
  have nd1 : rd σ 25 p1 = rd τ 11 p1 := D.cell (q := (25, 11)) (by decide) h1
  have nd2 : rd σ 25 p2 = rd τ 11 p2 := D.cell (q := (25, 11)) (by decide) h2
  have o1 := nd_ok hS hM2 (p1 := p1) (by omega)
  have o2 := nd_ok hS hM2 (p1 := p2) (by omega)
  have a1 : (rd τ 2 p1).toInt = vv τ 2 s := vv_rd e1
  have a2 : (rd τ 2 p2).toInt = vv τ 2 t := vv_rd e2
  have a3 : (rd τ 11 p1).toInt = vv τ 11 s := vv_rd e1
  have a4 : (rd τ 11 p2).toInt = vv τ 11 t := vv_rd e2
  obtain ⟨n, hn⟩ : ∃ n : Nat, (τ.1 21).toInt = (n : Int) := ⟨(τ.1 21).toInt.toNat, by omega⟩
  have nn : (τ.1 21).toInt.toNat = n := by omega
  have t5 : (σ.1 5).toInt = (n : Int) := by rw [k2]; exact hn
  have hP : ∀ j : Nat, j < n → -1 ≤ (σ.2.1 28 j).toInt ∧ (σ.2.1 28 j).toInt < (j : Int) := fun j hj => by
    have a := (N j (by omega)).1
    have b := hS.2.1 j (by omega)
    have c : -1 ≤ (σ.2.1 28 j).toInt ∧ (σ.2.1 28 j).toInt ≤ 19 := hM.2 28 j
    rw [← a] at b
    exact ⟨c.1, b⟩
  have no : ¬ (vv τ 2 s = 4 ∧ vv τ 2 t = 4) → Q 0 σ := fun k => by
    unfold shM at hq
    rw [if_neg k] at hq
    exact hq
  unfold wp_X2sharedOf b_X2sharedOf_26
  rw [kd1, kd2, nd1, nd2]
  refine ⟨⟨by omega, by omega⟩, fun c => no (fun z => c (by rw [a1]; exact z.1)), fun c => ⟨⟨by omega, by omega⟩, fun d => ⟨⟨by omega, by omega⟩, ⟨by omega, by omega⟩, ?_⟩, fun d => no (fun z => d (by rw [a2]; exact z.2))⟩⟩
  refine cx_shared (N := n) (by omega) (by omega) (by omega) hP (fun m hm hi => ?_)
  have hs2 : ∀ j, j < n → τ.2.1 22 j = σ.2.1 28 j := fun j hj => (N j (by omega)).1.symm
  have key : sumC (fun l => OnW (τ.2.1 22) (rd τ 11 p1).toInt l ∧ OnW (τ.2.1 22) (rd τ 11 p2).toInt l) (fun j => τ.2.1 24 j - τ.2.1 23 j) n = ex (fun j => σ.2.1 30 j - σ.2.1 29 j) m := by
    rw [← sum_way (P := σ.2.1 28) (d := fun j => τ.2.1 24 j - τ.2.1 23 j) (S := fun j => σ.2.1 30 j - σ.2.1 29 j) (N := n) hP (fun j hj => ?_) (n + 1) m (by omega) (by omega)]
    · refine sumC_same n (fun l hl => ?_)
      rw [hi l, ow_same (fun j hj => (hP j hj).2) hs2 n _ l (by omega) (by omega), ow_same (fun j hj => (hP j hj).2) hs2 n _ l (by omega) (by omega)]
    · have a := N j (by omega)
      have hpj := hP j hj
      show σ.2.1 30 j - σ.2.1 29 j = _
      rw [a.2.1, a.2.2]
      by_cases c : (σ.2.1 28 j).toInt < 0
      · rw [ex_neg c, ex_neg c, ex_neg c, S_step]; rw [Int32.sub_self]
      · obtain ⟨i, hi2⟩ : ∃ i : Nat, (σ.2.1 28 j).toInt = (i : Int) := ⟨(σ.2.1 28 j).toInt.toNat, by omega⟩
        rw [ex_of hi2, ex_of hi2, ex_of hi2, S_step]
  rw [← key, a3, a4]
  unfold shM at hq
  rw [if_pos ⟨by rw [← a1]; exact c, by rw [← a2]; exact d⟩, nn] at hq
  exact hq
/-! ALL STARTS, ALL ENDS -/
noncomputable def sT (C : Nat → Prop) (g : Nat → Nat) : Nat → Nat
  | 0 => 0
  | k + 1 => sT C g k + @ite Nat (C k) (Classical.propDecidable (C k)) (g k) 0
theorem sT_y {C : Nat → Prop} {g : Nat → Nat} {k : Nat} (h : C k) : sT C g (k + 1) = sT C g k + g k := by
  show sT C g k + @ite Nat (C k) (Classical.propDecidable (C k)) (g k) 0 = _
  rw [if_pos h]
theorem sT_n {C : Nat → Prop} {g : Nat → Nat} {k : Nat} (h : ¬ C k) : sT C g (k + 1) = sT C g k := by
  show sT C g k + @ite Nat (C k) (Classical.propDecidable (C k)) (g k) 0 = _
  rw [if_neg h, Nat.add_zero]
theorem cG_full {b : Nat → Nat} {s K : Nat} {N : List Nat → Int} {L : Nat → List (List Nat)} (hbm : ∀ p, mkP b s p < K) {e : Nat} (he : e < 2) (p : List Nat) : Gp b s K (2 * K) N e p ↔ 0 < N p := by
  unfold Gp
  have q := hbm p
  refine ⟨fun k => k.2, fun k => ⟨?_, k⟩⟩
  rcases (show e = 0 ∨ e = 1 by omega) with z | z
  · rw [z, Nat.zero_mul]; omega
  · rw [z, Nat.one_mul]; omega
/-- how many paths of a START come to an end; which slacks they have there -/
noncomputable def nP (N : List Nat → Int) (L : Nat → List (List Nat)) : Nat := cP (fun p => 0 < N p) (L 0) + cP (fun p => 0 < N p) (L 1)
def mP (N : List Nat → Int) (La Ea : List Nat → Nat → Int) (L : Nat → List (List Nat)) (len rm hr x y : Int) : Prop := ∃ e p, e < 2 ∧ p ∈ L e ∧ 0 < N p ∧ N p * len + rm - La p e = x ∧ Ea p e + hr = y
def dP (N : List Nat → Int) (La : List Nat → Nat → Int) (L : Nat → List (List Nat)) (rm x : Int) : Prop := ∃ e p, e < 2 ∧ p ∈ L e ∧ 0 < N p ∧ ndP (N p) (rm - La p e) = x
theorem cG_nP {b : Nat → Nat} {s K : Nat} {N : List Nat → Int} {L : Nat → List (List Nat)} (hbm : ∀ p, mkP b s p < K) : cG b s K (2 * K) N (L 0) (L 1) = nP N L := by
  unfold cG nP
  rw [cP_c (L 0) (fun p _ => cG_full (L := L) hbm (by decide) p), cP_c (L 1) (fun p _ => cG_full (L := L) hbm (by decide) p)]
theorem MG_mP {b : Nat → Nat} {s K : Nat} {N : List Nat → Int} {La Ea : List Nat → Nat → Int} {L : Nat → List (List Nat)} {len rm hr : Int} (hbm : ∀ p, mkP b s p < K) (x y : Int) : MG b s K (2 * K) N La Ea L len rm hr x y ↔ mP N La Ea L len rm hr x y := ⟨fun ⟨e, p, he, hp, q, r⟩ => ⟨e, p, he, hp, (cG_full (L := L) hbm he p).mp q, r⟩, fun ⟨e, p, he, hp, q, r⟩ => ⟨e, p, he, hp, (cG_full (L := L) hbm he p).mpr q, r⟩⟩
theorem DG_dP {b : Nat → Nat} {s K : Nat} {N : List Nat → Int} {La : List Nat → Nat → Int} {L : Nat → List (List Nat)} {rm : Int} (hbm : ∀ p, mkP b s p < K) (x : Int) : DG b s K (2 * K) N La L rm x ↔ dP N La L rm x := ⟨fun ⟨e, p, he, hp, q, r⟩ => ⟨e, p, he, hp, (cG_full (L := L) hbm he p).mp q, r⟩, fun ⟨e, p, he, hp, q, r⟩ => ⟨e, p, he, hp, (cG_full (L := L) hbm he p).mpr q, r⟩⟩
theorem cx_isTarget {Q : Int32 → VS → Prop} {p1 : Int32} {σ : VS} {c : Nat} (h1 : p1.toInt = (c : Int)) (hc : c < 50) (hy : (vv σ 11 c = 4 ∨ vv σ 11 c = 5) → Q 1 σ) (hn : ¬ (vv σ 11 c = 4 ∨ vv σ 11 c = 5) → Q 0 σ) : wp_X1isTarget Q p1 σ := by
  have r : (rd σ 11 p1).toInt = vv σ 11 c := vv_rd h1
  unfold wp_X1isTarget b_X1isTarget_20 b_X1isTarget_25
  rw [r]
  exact ⟨⟨by omega, by omega⟩, fun a => ⟨⟨by decide, by decide⟩, hy (Or.inl a)⟩, fun a => ⟨⟨by omega, by omega⟩, fun b => ⟨⟨by decide, by decide⟩, hn (fun k => by omega)⟩, fun b => ⟨⟨by decide, by decide⟩, hy (Or.inr b)⟩⟩⟩
theorem shl_t : ∀ k : Fin 5, ((1 : Int32) <<< (Int32.ofNat k.val &&& 31)).toInt = ((2 ^ k.val : Nat) : Int) := by decide
theorem shl_x {a : Int32} {k : Nat} (ha : a.toInt = (k : Int)) (hk : k ≤ 4) : ((1 : Int32) <<< (a &&& 31)).toInt = ((2 ^ k : Nat) : Int) := by
  rw [i3_of ha (by omega)]
  exact shl_t ⟨k, by omega⟩
theorem or_K {R : Nat} (x y : Nat) (hx : x < 2 ^ R) (hy : y < 2 ^ R) : x ||| y < 2 ^ R := Nat.or_lt_two_pow hx hy
theorem K_le : ∀ R : Nat, R ≤ 4 → 1 ≤ 2 ^ R ∧ 2 ^ R ≤ 16 := fun R h => ⟨Nat.two_pow_pos R, by
  have q : 2 ^ R ≤ 2 ^ 4 := Nat.pow_le_pow_right (by decide) h
  exact q⟩
