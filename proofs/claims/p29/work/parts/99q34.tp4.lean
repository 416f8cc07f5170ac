/-! THE REFERENCE'S RACE: AN END -/
theorem rx_rea1 {X27 : Int32 → Int32 → Int32 → Int32 → Int32 → Int32 → VS → Prop} {X36 : Int32 → Int32 → Int32 → Int32 → Int32 → Int32 → Int32 → VS → Prop} {Q : VS → Prop} {l1 l2 l3 l4 l5 l6 l7 l8 k0 : Int32} {τ : VS} {t x : Nat} {sh : Int} (h2 : l2.toInt = (t : Int)) (ht : t < nC τ) (h8 : l8.toInt = (x : Int)) (hx : x < 1600) (hM : MI τ) (hS : SI τ) (hN : NdR τ) (hk : 1 ≤ k0.toInt ∧ k0.toInt ≤ 4) (h5 : l5.toInt = sh) (bsh : -2000000 ≤ sh ∧ sh ≤ 2000000) (w42 : 0 ≤ vv τ 42 x ∧ vv τ 42 x ≤ 1000) (w43 : 0 ≤ vv τ 43 x ∧ vv τ 43 x ≤ 3000000) (w44 : 0 ≤ vv τ 44 x ∧ vv τ 44 x ≤ 3000000)
    (K : ∀ τ' : VS, MI τ' → Eo [] [45, 46, 47] τ τ' → vv τ' 45 = fu (vv τ 45) t (min 1000 (vv τ 45 t + vv τ 42 x)) → vv τ' 46 = fu (vv τ 46) t (min (vv τ 46 t) (k0.toInt * (τ.1 20).toInt + (dM τ 14 t - vv τ 12 t + sh) - vv τ 43 x)) → vv τ' 47 = fu (vv τ 47) t (min (vv τ 47 t) (vv τ 44 x + (sh - dM τ 13 t - vv τ 13 t))) → X36 l1 l2 l3 l4 l5 l6 (l7 + 1) τ') : b_reach_82 X27 X36 Q l1 l2 l3 l4 l5 l6 l7 l8 k0 τ := by
  have a1 : 0 ≤ (τ.1 1).toInt ∧ (τ.1 1).toInt ≤ 50 := hM.1 1
  have en : (τ.1 1).toInt = ((nC τ : Nat) : Int) := by unfold nC; omega
  have w45 : 0 ≤ vv τ 45 t ∧ vv τ 45 t ≤ 1000 := hM.2 45 t
  have b12 : -10000 ≤ vv τ 12 t ∧ vv τ 12 t ≤ 10000 := hM.2 12 t
  have b13 : -10000 ≤ vv τ 13 t ∧ vv τ 13 t ≤ 10000 := hM.2 13 t
  have ln : 1 ≤ (τ.1 20).toInt ∧ (τ.1 20).toInt ≤ 1000000 := hM.1 20
  have m1 := mu_bd (a := k0.toInt) (b := (τ.1 20).toInt) (A := 4) (B := 1000000) ⟨by omega, hk.2⟩ ⟨by omega, ln.2⟩
  have i1000 : (1000 : Int32).toInt = 1000 := rfl
  unfold b_reach_82 b_reach_212
  refine ⟨fun _ => ⟨⟨by omega, by omega⟩, ⟨by omega, by omega⟩, ⟨by omega, by omega⟩, ⟨by omega, by omega⟩, ⟨by omega, by omega⟩, ?_⟩, fun z => by omega⟩
  obtain ⟨A, hA⟩ : ∃ A : Int32, A = imin 1000 ((rd τ 45 l2) + (rd τ 42 l8)) := ⟨_, rfl⟩
  have yA : A.toInt = min 1000 (vv τ 45 t + vv τ 42 x) := by rw [hA, imin_x, i1000, i3_addc (x := (rd τ 45 l2) + (rd τ 42 l8)) (vv_rd h2) (vv_rd h8) rfl (by omega)]
  rw [← hA]
  have Ma : MI (sa τ 45 l2 A) := hM.sa 45 l2 A (show 0 ≤ A.toInt ∧ A.toInt ≤ 1000 by omega)
  have Ea : Eo [] [45, 46, 47] τ (sa τ 45 l2 A) := Eo.rfl.sa 45 l2 A (by decide)
  have same : ∀ ρ : VS, Eo [] [45, 46, 47] τ ρ → SI ρ ∧ NdR ρ := fun ρ hE => by
    refine ⟨hS.same hE (by decide), ?_⟩
    unfold NdR
    rw [vv_eo hE (show 23 ∉ [45, 46, 47] by decide), vv_eo hE (show 24 ∉ [45, 46, 47] by decide), hE.1 21 (by decide)]
    exact hN
  have nd : ∀ ρ : VS, Eo [] [45, 46, 47] τ ρ → MI ρ → -1 ≤ (rd ρ 11 l2).toInt ∧ (rd ρ 11 l2).toInt < (ρ.1 21).toInt := fun ρ hE hMr => nd_ok (same ρ hE).1 hMr (by rw [hE.1 1 (by decide)]; omega)
  have r11 : ∀ ρ : VS, Eo [] [45, 46, 47] τ ρ → (rd ρ 11 l2).toInt = vv τ 11 t := fun ρ hE => by rw [vv_rd h2, vv_eo hE (by decide)]
  refine rx_earlyOf (nd _ Ea Ma) (same _ Ea).1 Ma (same _ Ea).2 (fun r9 e9 b9 => ?_)
  rw [r11 _ Ea, vv_eo Ea (show 22 ∉ [45, 46, 47] by decide), vv_eo Ea (show 23 ∉ [45, 46, 47] by decide), ← dM_14 ht] at e9
  refine ⟨⟨by omega, by omega⟩, ⟨by omega, by omega⟩, ⟨by omega, by omega⟩, ⟨by omega, by omega⟩, ⟨by omega, by omega⟩, ⟨by omega, by omega⟩, ?_⟩
  have v1 : (k0 * (sa τ 45 l2 A).1 20).toInt = k0.toInt * (τ.1 20).toInt := i3_mulc rfl (show ((sa τ 45 l2 A).1 20).toInt = (τ.1 20).toInt from rfl) rfl (by omega)
  have v2 : (k0 * (sa τ 45 l2 A).1 20 + r9).toInt = k0.toInt * (τ.1 20).toInt + dM τ 14 t := i3_addc v1 e9 rfl (by omega)
  have r12 : (rd (sa τ 45 l2 A) 12 l2).toInt = vv τ 12 t := by rw [vv_rd h2, vv_so (show 12 ≠ 45 by decide)]
  have v3 : (k0 * (sa τ 45 l2 A).1 20 + r9 - rd (sa τ 45 l2 A) 12 l2).toInt = k0.toInt * (τ.1 20).toInt + dM τ 14 t - vv τ 12 t := i3_subc v2 r12 rfl (by omega)
  have v4 : (k0 * (sa τ 45 l2 A).1 20 + r9 - rd (sa τ 45 l2 A) 12 l2 + l5).toInt = k0.toInt * (τ.1 20).toInt + dM τ 14 t - vv τ 12 t + sh := i3_addc v3 h5 rfl (by omega)
  have r43 : (rd (sa τ 45 l2 A) 43 l8).toInt = vv τ 43 x := by rw [vv_rd h8, vv_so (show 43 ≠ 45 by decide)]
  have v5 : (k0 * (sa τ 45 l2 A).1 20 + r9 - rd (sa τ 45 l2 A) 12 l2 + l5 - rd (sa τ 45 l2 A) 43 l8).toInt = k0.toInt * (τ.1 20).toInt + dM τ 14 t - vv τ 12 t + sh - vv τ 43 x := i3_subc v4 r43 rfl (by omega)
  obtain ⟨Bv, hB⟩ : ∃ Bv : Int32, Bv = imin (rd (sa τ 45 l2 A) 46 l2) (k0 * (sa τ 45 l2 A).1 20 + r9 - rd (sa τ 45 l2 A) 12 l2 + l5 - rd (sa τ 45 l2 A) 43 l8) := ⟨_, rfl⟩
  have yB : Bv.toInt = min (vv τ 46 t) (k0.toInt * (τ.1 20).toInt + (dM τ 14 t - vv τ 12 t + sh) - vv τ 43 x) := by
    rw [hB, imin_x, vv_rd h2, vv_so (show 46 ≠ 45 by decide), v5]
    congr 1
    omega
  rw [← hB]
  have Mb : MI (sa (sa τ 45 l2 A) 46 l2 Bv) := Ma.sa 46 l2 Bv (i3_bd _)
  have Eb : Eo [] [45, 46, 47] τ (sa (sa τ 45 l2 A) 46 l2 Bv) := Ea.sa 46 l2 Bv (by decide)
  refine rx_lateOf (nd _ Eb Mb) (same _ Eb).1 Mb (same _ Eb).2 (fun r11v e11 b11 => ?_)
  rw [r11 _ Eb, vv_eo Eb (show 22 ∉ [45, 46, 47] by decide), vv_eo Eb (show 24 ∉ [45, 46, 47] by decide), ← dM_13 ht] at e11
  refine ⟨⟨by omega, by omega⟩, ⟨by omega, by omega⟩, ?_⟩
  have r44 : (rd (sa (sa τ 45 l2 A) 46 l2 Bv) 44 l8).toInt = vv τ 44 x := by rw [vv_rd h8, vv_so (show 44 ≠ 46 by decide), vv_so (show 44 ≠ 45 by decide)]
  have r13 : (rd (sa (sa τ 45 l2 A) 46 l2 Bv) 13 l2).toInt = vv τ 13 t := by rw [vv_rd h2, vv_so (show 13 ≠ 46 by decide), vv_so (show 13 ≠ 45 by decide)]
  have u1 : (rd (sa (sa τ 45 l2 A) 46 l2 Bv) 44 l8 - r11v).toInt = vv τ 44 x - dM τ 13 t := i3_subc r44 e11 rfl (by omega)
  have u2 : (rd (sa (sa τ 45 l2 A) 46 l2 Bv) 44 l8 - r11v - rd (sa (sa τ 45 l2 A) 46 l2 Bv) 13 l2).toInt = vv τ 44 x - dM τ 13 t - vv τ 13 t := i3_subc u1 r13 rfl (by omega)
  have u3 : (rd (sa (sa τ 45 l2 A) 46 l2 Bv) 44 l8 - r11v - rd (sa (sa τ 45 l2 A) 46 l2 Bv) 13 l2 + l5).toInt = vv τ 44 x - dM τ 13 t - vv τ 13 t + sh := i3_addc u2 h5 rfl (by omega)
  obtain ⟨C, hC⟩ : ∃ C : Int32, C = imin (rd (sa (sa τ 45 l2 A) 46 l2 Bv) 47 l2) (rd (sa (sa τ 45 l2 A) 46 l2 Bv) 44 l8 - r11v - rd (sa (sa τ 45 l2 A) 46 l2 Bv) 13 l2 + l5) := ⟨_, rfl⟩
  have yC : C.toInt = min (vv τ 47 t) (vv τ 44 x + (sh - dM τ 13 t - vv τ 13 t)) := by
    rw [hC, imin_x, vv_rd h2, vv_so (show 47 ≠ 46 by decide), vv_so (show 47 ≠ 45 by decide), u3]
    congr 1
    omega
  rw [← hC]
  refine K _ (Mb.sa 47 l2 C (i3_bd _)) (Eb.sa 47 l2 C (by decide)) ?_ ?_ ?_
  · rw [vv_so (show 45 ≠ 47 by decide), vv_so (show 45 ≠ 46 by decide), vv_sa τ 45 l2 A h2, yA]
  · rw [vv_so (show 46 ≠ 47 by decide), vv_sa _ 46 l2 Bv h2, vv_so (show 46 ≠ 45 by decide), yB]
  · rw [vv_sa _ 47 l2 C h2, vv_so (show 47 ≠ 46 by decide), vv_so (show 47 ≠ 45 by decide), yC]
/-- the reference's periods, as the other side's are written -/
def hitR (fr th to : Nat → Int) (s t m : Nat) (k : Nat) : Bool := (decide (fr k < 0) || decide (fr k = (s : Int))) && (decide (th k < 0) || m.testBit k) && (decide (to k < 0) || decide (to k = (t : Int)))
theorem per_R {σ : VS} {s t m : Nat} {mk : Int32} (hm : mk.toInt = (m : Int)) (h16 : m < 16) : ∀ k : Nat, k ≤ 4 → (perL σ (s : Int) (t : Int) mk k).toInt = perK (vv σ 26) (hitR (vv σ 27) (vv σ 28) (vv σ 29) s t m) k
  | 0, _ => rfl
  | k + 1, h => by
    have ih := per_R (σ := σ) (s := s) (t := t) hm h16 k (by omega)
    have kk : (Int32.ofNat k).toInt = (k : Int) := Int32.toInt_ofNat_of_lt (by omega)
    have bx := bit_x hm kk h16 (show k < 4 by omega)
    show (if ((σ.2.1 27 k).toInt < 0 ∨ (σ.2.1 27 k).toInt = (s : Int)) ∧ ((σ.2.1 28 k).toInt < 0 ∨ ((mk >>> (Int32.ofNat k &&& 31)) &&& 1).toInt = 1) ∧ ((σ.2.1 29 k).toInt < 0 ∨ (σ.2.1 29 k).toInt = (t : Int)) then σ.2.1 26 k else perL σ (s : Int) (t : Int) mk k).toInt = (if hitR (vv σ 27) (vv σ 28) (vv σ 29) s t m k then vv σ 26 k else perK (vv σ 26) (hitR (vv σ 27) (vv σ 28) (vv σ 29) s t m) k)
    have iff : (hitR (vv σ 27) (vv σ 28) (vv σ 29) s t m k = true) ↔ (((σ.2.1 27 k).toInt < 0 ∨ (σ.2.1 27 k).toInt = (s : Int)) ∧ ((σ.2.1 28 k).toInt < 0 ∨ ((mk >>> (Int32.ofNat k &&& 31)) &&& 1).toInt = 1) ∧ ((σ.2.1 29 k).toInt < 0 ∨ (σ.2.1 29 k).toInt = (t : Int))) := by
      unfold hitR
      rw [Bool.and_eq_true, Bool.and_eq_true, Bool.or_eq_true, Bool.or_eq_true, Bool.or_eq_true, decide_eq_true_iff, decide_eq_true_iff, decide_eq_true_iff, decide_eq_true_iff, decide_eq_true_iff, bx, and_assoc]
      exact Iff.rfl
    by_cases c : hitR (vv σ 27) (vv σ 28) (vv σ 29) s t m k = true
    · rw [if_pos (iff.mp c), if_pos c]; rfl
    · rw [if_neg (fun q => c (iff.mpr q)), if_neg c, ih]
