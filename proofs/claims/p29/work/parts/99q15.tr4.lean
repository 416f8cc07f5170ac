/-! THE REFERENCE: ONE CELL -/
theorem Ec.symm {V V' : Nat → Nat → Int} {c : Nat} (h : Ec V V' c) : Ec V' V c := ⟨h.1.symm, h.2.1.symm, fun e he => ⟨(h.2.2.1 e he).1.symm, (h.2.2.1 e he).2.1.symm, (h.2.2.1 e he).2.2.1.symm, (h.2.2.1 e he).2.2.2.symm⟩, fun i e hi he => ⟨(h.2.2.2 i e hi he).1.symm, (h.2.2.2 i e hi he).2.symm⟩⟩
def aM (σ : VS) (c i : Nat) : Prop := 0 ≤ vv σ 7 (4 * c + i) ∧ vv σ 34 (vv σ 7 (4 * c + i)).toNat ≠ 0
def oM (σ : VS) (c i : Nat) : Prop := 0 ≤ vv σ 7 (4 * c + i) ∧ vv σ 35 (vv σ 7 (4 * c + i)).toNat ≠ 0
theorem opM_is {σ : VS} {c m : Nat} (hM : MI σ) (hc : c < nC σ) (hm : vv σ 3 c = (m : Int)) : opN (dM σ) (vM σ) c ↔ ∃ i, i < m ∧ oM σ c i := by
  have m4 : 0 ≤ vv σ 3 c ∧ vv σ 3 c ≤ 4 := hM.2 3 c
  have d5 : ∀ i, i < m → dM σ 5 (4 * c + i) = vv σ 7 (4 * c + i) := fun i hi => by
    have r7 : -1 ≤ vv σ 7 (4 * c + i) ∧ vv σ 7 (4 * c + i) ≤ 49 := hM.2 7 _
    rw [dM_5 (by omega)]; omega
  have ipm : ipN (dM σ) c = m := by unfold ipN; rw [dM_1 hc, hm]; omega
  unfold opN oM
  rw [ipm]
  constructor
  · intro ⟨i, hi, q, k⟩
    rw [d5 i hi] at q k
    exact ⟨i, hi, q, k⟩
  · intro ⟨i, hi, q, k⟩
    refine ⟨i, hi, ?_, ?_⟩
    · rw [d5 i hi]; exact q
    · rw [d5 i hi]; exact k
section
variable {K : (VS → Prop) → Int32 → VS → Prop} {X25 X140 X205 : Int32 → Int32 → Int32 → VS → Prop} {Q : VS → Prop}
/-- the end of known(): the arcs, if the output is reached and does not fail -/
theorem rx_end {p1 : Int32} {y z : VS} {p m : Nat} (h1 : p1.toInt = (p : Int)) (hp : p < nC y) (hMy : MI y) (hW : ∀ w : Nat, w < nC y * 4 → 0 ≤ vv y 7 w → ((w % 4 : Nat) : Int) < vv y 3 (w / 4)) (hm : vv y 3 p = (m : Int)) (hkd : 0 < vv y 2 p ∧ vv y 2 p < 5) (hself : vv y 2 p ≠ 4 → ∀ i, i < m → vv y 7 (4 * p + i) ≠ (p : Int)) (hflop : vv y 2 p = 4 → m = 1) (hMz : MI z) (hE : Eo [30] [34, 35, 36, 37, 38, 39] y z) (hF : FrM p y z)
    (hr4 : vv y 2 p = 4 → vv z 34 p = 1 ∧ vv z 35 p = 0) (hrg : vv y 2 p ≠ 4 → IvA (aM y p) (vv z 34 p) m ∧ IvA (oM y p) (vv z 35 p) m) (hq : ∀ x : VS, MI x → Eo [30] [34, 35, 36, 37, 38, 39] y x → FrM p y x → LE2 (dM y) (vM y) (vM x) p → Q x) : b_knownS_292 K X25 X140 X205 Q p1 z := by
  have hn50 : nC y ≤ 50 := by
    have a : 0 ≤ (y.1 1).toInt ∧ (y.1 1).toInt ≤ 50 := hMy.1 1
    unfold nC; omega
  have m4 : 0 ≤ vv y 3 p ∧ vv y 3 p ≤ 4 := hMy.2 3 p
  have ipm : ipN (dM y) p = m := by unfold ipN; rw [dM_1 hp, hm]; omega
  have dk : dM y 0 p = vv y 2 p := dM_0 hp
  have dz : dM z = dM y := dM_same hE (by decide) (by decide)
  have nz : nC z = nC y := by unfold nC; rw [hE.1 1 (by decide)]
  have r34 : (rd z 34 p1).toInt = vv z 34 p := vv_rd h1
  have r35 : (rd z 35 p1).toInt = vv z 35 p := vv_rd h1
  have opI := opM_is hMy hp hm
  have ip4 : ipN (dM y) p ≤ 4 := by omega
  have srcE : ∀ i, i < ipN (dM y) p → gN (dM y) p → 0 ≤ dM y 5 (4 * p + i) → (dM y 5 (4 * p + i)).toNat ≠ p := fun i hi g q e => by
    rw [ipm] at hi
    have r7 : -1 ≤ vv y 7 (4 * p + i) ∧ vv y 7 (4 * p + i) ≤ 49 := hMy.2 7 _
    have d5 : dM y 5 (4 * p + i) = vv y 7 (4 * p + i) := by rw [dM_5 (by omega)]; omega
    rw [d5] at q e
    have g2 : dM y 0 p < 4 := g.2
    exact hself (by omega) i hi (by omega)
  have fin : ∀ x : VS, MI x → Eo [30] [34, 35, 36, 37, 38, 39] z x → FrM p z x → vv x 34 p = vv z 34 p → LE2 (dM y) (vM y) (vM x) p → Q x := fun x a b c2 d e => hq x a (hE.trans b) (hF.trans c2) e
  unfold b_knownS_292 b_knownS_315
  -- no arcs: not reached, or an input fails
  have nogo : (vv z 34 p = 0 ∨ vv z 35 p ≠ 0) → LE2 (dM y) (vM y) (vM z) p := by
    intro h
    have n4 : vv y 2 p ≠ 4 := fun k => by have := hr4 k; omega
    have iv := hrg n4
    have acI : ∀ i, i < m → (acN (dM y) (vM y) p i ↔ aM y p i) := fun i hi => acM_is hMy hp hm hi n4
    refine ⟨fun k => by omega, fun k => by omega, fun k => by omega, fun _ => ?_, fun _ k => ?_, fun _ _ no => ?_⟩
    · rw [ipm]
      rcases iv.1 with ⟨v, i, hi, a⟩ | ⟨v, n⟩
      · exact Or.inl ⟨v, i, hi, (acI i hi).mpr a⟩
      · exact Or.inr ⟨v, fun i hi a => n i hi ((acI i hi).mp a)⟩
    · obtain ⟨i, hi, q⟩ := opI.mp k
      rcases iv.2 with ⟨v, _⟩ | ⟨_, n⟩
      · exact v
      · exact absurd q (n i hi)
    · have o0 : vv z 35 p = 0 := by
        rcases iv.2 with ⟨_, i, hi, q⟩ | ⟨v, _⟩
        · exact absurd (opI.mpr ⟨i, hi, q⟩) (no ⟨by omega, by omega⟩)
        · exact v
      have r0 : vv z 34 p = 0 := h.resolve_right (fun k => k o0)
      have na : ∀ i, i < m → ¬ acN (dM y) (vM y) p i := by
        rcases iv.1 with ⟨v, _⟩ | ⟨_, n⟩
        · omega
        · exact fun i hi a => n i hi ((acI i hi).mp a)
      rw [ipm, ffF_0 m na, ffF_0 m na, stp_0]
      exact ⟨o0, fun k => absurd r0 k⟩
  refine ⟨⟨by omega, by omega⟩, fun q => ?_, fun q => ⟨⟨by omega, by omega⟩, fun q2 => ?_, fun q2 => ?_⟩⟩
  · rw [r34] at q
    exact fin z hMz Eo.rfl FrM.id rfl (nogo (Or.inl q))
  · rw [r35] at q2
    exact fin z hMz Eo.rfl FrM.id rfl (nogo (Or.inr q2))
  · rw [r34] at q
    rw [r35] at q2
    have acz : ∀ i, i < m → (acN (dM y) (vM y) p i ↔ acN (dM z) (vM z) p i) := fun i hi => by
      rw [dz]
      refine acN_e (fun g q => hF.ec (srcE i (by omega) g q)) ?_
      unfold gN
      omega
    have hx : ∃ i, i < m ∧ acN (dM z) (vM z) p i := by
      by_cases k4 : vv y 2 p = 4
      · exact ⟨0, by rw [hflop k4]; decide, Or.inl (by rw [dz, dk]; exact k4)⟩
      · rcases (hrg k4).1 with ⟨_, i, hi, a⟩ | ⟨v, _⟩
        · exact ⟨i, hi, (acz i hi).mp ((acM_is hMy hp hm hi k4).mpr a)⟩
        · exact absurd v q
    have e2 : vv z 2 = vv y 2 := vv_eo hE (by decide)
    have e3 : vv z 3 = vv y 3 := vv_eo hE (by decide)
    have e7 : vv z 7 = vv y 7 := vv_eo hE (by decide)
    refine rx_arcs (c := p) (m := m) h1 (by rw [nz]; exact hp) hMz (by rw [nz, e7, e3]; exact hW) (by rw [e3]; exact hm) (by rw [e2, e7]; exact hself) q2 hx (fun x Mx Ex Fx vo ve => ?_)
    have x34 : vv x 34 p = vv z 34 p := by rw [vv_eo Ex (by decide)]
    refine fin x Mx (Ex.mono (by decide) (by decide)) Fx x34 ?_
    rw [dz] at vo ve
    have no : gN (dM y) p → ¬ opN (dM y) (vM y) p := fun g k => by
      obtain ⟨i, hi, w⟩ := opI.mp k
      have g2 : dM y 0 p < 4 := g.2
      rcases (hrg (by omega)).2 with ⟨v, _⟩ | ⟨_, n⟩
      · omega
      · exact n i hi w
    have L : LE2 (dM y) (vM z) (vM x) p := by
      have r1 : vM x 0 p = vv z 34 p := x34
      have opz : gN (dM y) p → (opN (dM y) (vM y) p ↔ opN (dM y) (vM z) p) := fun g => opN_c (fun i hi w => (hF.ec (srcE i hi g w)).sm)
      rw [dz] at acz
      refine ⟨fun k => by omega, fun k => by omega, fun k => ?_, fun g => ?_, fun g k => absurd ((opz g).mpr k) (no g), fun _ _ _ => ?_⟩
      · rw [r1]; exact (hr4 (by omega)).1
      · have g2 : dM y 0 p < 4 := g.2
        rw [r1, ipm]
        rcases (hrg (by omega)).1 with ⟨v, i, hi, a⟩ | ⟨v, _⟩
        · exact Or.inl ⟨v, i, hi, (acz i hi).mp ((acM_is hMy hp hm hi (by omega)).mpr a)⟩
        · exact absurd v q
      · rw [ipm]
        exact ⟨vo, fun _ k e he => ve k e he⟩
    exact LE2_c ip4 (fun i hi g w => (hF.ec (srcE i hi g w)).symm) Ec.id L
set_option maxHeartbeats 1000000 in
theorem rx_cell {p1 l2 k0 : Int32} {y : VS} {p m : Nat} (H140 : ∀ (l1 : Int32) (l2 : Int32) (l3 : Int32) (σ : VS), b_knownS_140 K X25 X140 X205 Q l1 l2 l3 σ → X140 l1 l2 l3 σ) (H205 : ∀ (l1 : Int32) (l2 : Int32) (l3 : Int32) (σ : VS), b_knownS_205 K X25 X140 X205 Q l1 l2 l3 σ → X205 l1 l2 l3 σ) (h1 : p1.toInt = (p : Int)) (hp : p < nC y) (hMy : MI y) (hW : ∀ w : Nat, w < nC y * 4 → 0 ≤ vv y 7 w → ((w % 4 : Nat) : Int) < vv y 3 (w / 4)) (hm : vv y 3 p = (m : Int)) (hself : 0 < vv y 2 p ∧ vv y 2 p < 4 → ∀ i, i < m → vv y 7 (4 * p + i) ≠ (p : Int)) (hflop : vv y 2 p = 4 → m = 1) (h35 : vv y 35 p = 0) (hl2 : l2.toInt ≠ 0 ↔ (0 < vv y 2 p ∧ vv y 2 p < 4)) (hk0 : (k0.toInt = 1 ∧ (vv y 2 p = 0 ∨ vv y 2 p = 4)) ∨ (k0.toInt = 0 ∧ vv y 2 p ≠ 0 ∧ vv y 2 p ≠ 4)) (hq : ∀ x : VS, MI x → Eo [30] [34, 35, 36, 37, 38, 39] y x → FrM p y x → LE2 (dM y) (vM y) (vM x) p → Q x) : b_knownS_128 K X25 X140 X205 Q p1 l2 k0 p1 y := by
  have hn50 : nC y ≤ 50 := by
    have a : 0 ≤ (y.1 1).toInt ∧ (y.1 1).toInt ≤ 50 := hMy.1 1
    unfold nC; omega
  have m4 : 0 ≤ vv y 3 p ∧ vv y 3 p ≤ 4 := hMy.2 3 p
  have k5 : 0 ≤ vv y 2 p ∧ vv y 2 p ≤ 5 := hMy.2 2 p
  have dk : dM y 0 p = vv y 2 p := dM_0 hp
  have bk : 0 ≤ k0.toInt ∧ k0.toInt ≤ 1 := by omega
  obtain ⟨z, hz⟩ : ∃ z : VS, z = sa y 34 p1 k0 := ⟨_, rfl⟩
  have z34 : vv z 34 = fu (vv y 34) p k0.toInt := by rw [hz, vv_sa y 34 p1 k0 h1]
  have Mz : MI z := by rw [hz]; exact hMy.sa 34 p1 k0 bk
  have Ez1 : Eo [] [34] y z := by rw [hz]; exact Eo.rfl.sa 34 p1 k0 (by decide)
  have Ez : Eo [30] [34, 35, 36, 37, 38, 39] y z := Ez1.mono (by decide) (by decide)
  have Fz : FrM p y z := ⟨fun j hj => by rw [z34, fu_ne hj, vv_eo Ez1 (by decide)]; exact ⟨rfl, rfl⟩, fun k j hk _ => by rw [vv_eo Ez1 (by rcases hk with k1 | k1 <;> subst k1 <;> decide)], fun k j hk _ => by rw [vv_eo Ez1 (by rcases hk with k1 | k1 | k1 | k1 <;> subst k1 <;> decide)]⟩
  have z35 : vv z 35 p = 0 := by rw [vv_eo Ez1 (by decide)]; exact h35
  have r2 : ∀ x : VS, Eo [30] [34, 35, 36, 37, 38, 39] y x → (rd x 2 p1).toInt = vv y 2 p := fun x h => by rw [vv_rd h1, vv_eo h (by decide)]
  have ng0 : vv y 2 p = 0 → ¬ gN (dM y) p := fun k g => by have := g.1; omega
  have ng5 : vv y 2 p = 5 → ¬ gN (dM y) p := fun k g => by have := g.2; omega
  unfold b_knownS_128
  rw [← hz, r2 z Ez]
  -- a gate's inputs
  have L205 : 0 < vv y 2 p ∧ vv y 2 p < 4 → ∀ (d i : Nat) (l3 : Int32) (x : VS), m + 1 ≤ d + i → i ≤ m → l3.toInt = (i : Int) → MI x → Eo [30] [34, 35, 36, 37, 38, 39] y x → FrM p y x → IvA (aM y p) (vv x 34 p) i → IvA (oM y p) (vv x 35 p) i → X205 p1 l2 l3 x := by
    intro hg d
    have n4 : vv y 2 p ≠ 4 := by omega
    induction d with
    | zero => intro i l3 x a b; omega
    | succ d ih =>
      intro i l3 x a b e3 Mx Ex Fx hA hB
      refine H205 p1 l2 l3 x ?_
      unfold b_knownS_205
      have r3 : (rd x 3 p1).toInt = (m : Int) := by rw [vv_rd h1, vv_eo Ex (by decide), hm]
      refine ⟨⟨by omega, by omega⟩, fun q => ?_, fun q => ⟨fun q2 => absurd q2 (hl2.mpr hg), fun _ => ?_⟩⟩
      · have ei : i = m := by omega
        rw [ei] at hA hB
        exact rx_end h1 hp hMy hW hm (by omega) (fun _ => hself hg) hflop Mx Ex Fx (fun k => absurd k n4) (fun _ => ⟨hA, hB⟩) hq
      · have hi : i < m := by omega
        have t3 : (l3 + 1).toInt = ((i + 1 : Nat) : Int) := by
          have w := i3_addc (x := l3 + 1) e3 (show (1 : Int32).toInt = 1 from rfl) rfl (by omega)
          omega
        have v1 : (4 * p1).toInt = 4 * (p : Int) := i3_mulc rfl h1 rfl (by have w : (4 : Int32).toInt = 4 := rfl; omega)
        have v2 : (4 * p1 + l3).toInt = 4 * (p : Int) + (i : Int) := i3_addc v1 e3 rfl (by omega)
        have r7 : -1 ≤ vv y 7 (4 * p + i) ∧ vv y 7 (4 * p + i) ≤ 49 := hMy.2 7 _
        refine ⟨⟨by omega, by omega⟩, fun x5 e5 => ?_⟩
        have t5 : x5.toInt = vv y 7 (4 * p + i) := by rw [e5, vv_rd (n := 4 * p + i) (by omega), vv_eo Ex (by decide)]
        clear e5
        have ns : 0 ≤ vv y 7 (4 * p + i) → (vv y 7 (4 * p + i)).toNat ≠ p := fun w0 w => hself hg i hi (by omega)
        have s34 : 0 ≤ x5.toInt → (rd x 34 x5).toInt = vv y 34 (vv y 7 (4 * p + i)).toNat := fun w => by rw [vv_rd (n := (vv y 7 (4 * p + i)).toNat) (by omega), (Fx.1 _ (ns (by omega))).1]
        have r34 : (rd x 34 p1).toInt = vv x 34 p := vv_rd h1
        unfold b_knownS_263 b_knownS_286
        -- what is written for this input
        have h268 : 0 ≤ x5.toInt → ∀ v : Int32, 0 ≤ v.toInt ∧ v.toInt ≤ 1 → IvA (aM y p) v.toInt (i + 1) → b_knownS_268 K X25 X140 X205 Q p1 l2 l3 x5 v p1 x := by
          intro w v bv hA2
          unfold b_knownS_268 b_knownS_286
          obtain ⟨x1, hx1⟩ : ∃ x1 : VS, x1 = sa x 34 p1 v := ⟨_, rfl⟩
          have f34 : vv x1 34 = fu (vv x 34) p v.toInt := by rw [hx1, vv_sa x 34 p1 v h1]
          have M1 : MI x1 := by rw [hx1]; exact Mx.sa 34 p1 v bv
          have E1 : Eo [] [34] x x1 := by rw [hx1]; exact Eo.rfl.sa 34 p1 v (by decide)
          have E1' : Eo [30] [34, 35, 36, 37, 38, 39] y x1 := Ex.of E1 (by decide) (by decide)
          have F1 : FrM p y x1 := Fx.trans ⟨fun j hj => by rw [f34, fu_ne hj, vv_eo E1 (by decide)]; exact ⟨rfl, rfl⟩, fun k j hk _ => by rw [vv_eo E1 (by rcases hk with k1 | k1 <;> subst k1 <;> decide)], fun k j hk _ => by rw [vv_eo E1 (by rcases hk with k1 | k1 | k1 | k1 <;> subst k1 <;> decide)]⟩
          have s35 : (rd x1 35 x5).toInt = vv y 35 (vv y 7 (4 * p + i)).toNat := by rw [vv_rd (n := (vv y 7 (4 * p + i)).toNat) (by omega), (F1.1 _ (ns (by omega))).2]
          have A1 : IvA (aM y p) (vv x1 34 p) (i + 1) := by rw [f34, fu_eq]; exact hA2
          have B1 : vv x1 35 = vv x 35 := vv_eo E1 (by decide)
          rw [← hx1, s35]
          refine ⟨⟨by omega, by omega⟩, bv, ⟨by omega, by omega⟩, fun k => ?_, fun k => ⟨⟨by omega, by omega⟩, ?_⟩⟩
          · refine ih (i + 1) (l3 + 1) x1 (by omega) (by omega) t3 M1 E1' F1 A1 ?_
            rw [B1]
            exact hB.n (fun o => o.2 k)
          · have f35 : vv (sa x1 35 p1 1) 35 = fu (vv x1 35) p 1 := vv_sa x1 35 p1 1 h1
            have E2 : Eo [] [35] x1 (sa x1 35 p1 1) := Eo.rfl.sa 35 p1 1 (by decide)
            refine ih (i + 1) (l3 + 1) _ (by omega) (by omega) t3 (M1.sa 35 p1 1 (i3_bd _)) (E1'.of E2 (by decide) (by decide)) (F1.trans ⟨fun j hj => by rw [f35, fu_ne hj, vv_so (show 34 ≠ 35 by decide)]; exact ⟨rfl, rfl⟩, fun k j hk _ => by rw [vv_eo E2 (by rcases hk with k1 | k1 <;> subst k1 <;> decide)], fun k j hk _ => by rw [vv_eo E2 (by rcases hk with k1 | k1 | k1 | k1 <;> subst k1 <;> decide)]⟩) ?_ ?_
            · rw [vv_so (show 34 ≠ 35 by decide)]; exact A1
            · rw [f35, fu_eq]; exact IvA.y ⟨by omega, k⟩
        have hA1 : vv x 34 p ≠ 0 → IvA (aM y p) 1 (i + 1) := fun w => by
          rcases hA with ⟨_, j, hj, q⟩ | ⟨v, _⟩
          · exact Or.inl ⟨rfl, j, by omega, q⟩
          · exact absurd v w
        refine ⟨fun w => ⟨⟨by omega, by omega⟩, fun k => h268 w 1 (by decide) (hA1 (by rw [← r34]; exact k)), fun k => ⟨⟨by omega, by omega⟩, fun k2 => h268 w 0 (by decide) ?_, fun k2 => h268 w 1 (by decide) ?_⟩⟩, fun w => ih (i + 1) (l3 + 1) x (by omega) (by omega) t3 Mx Ex Fx (hA.n (fun o => by have := o.1; omega)) (hB.n (fun o => by have := o.1; omega))⟩
        · rw [r34] at k
          rw [s34 w] at k2
          have q2 := hA.n (fun o => o.2 k2)
          rw [k] at q2
          exact q2
        · rw [s34 w] at k2
          exact IvA.y ⟨by omega, k2⟩
  have h183 : ∀ x : VS, MI x → Eo [30] [34, 35, 36, 37, 38, 39] y x → FrM p y x → vv x 34 p = k0.toInt → vv x 35 p = 0 → (vv y 2 p = 0 → ∀ e, e < 2 → vv x 38 (2 * p + e) = vv y 10 p ∧ vv x 39 (2 * p + e) = vv y 10 p) → b_knownS_183 K X25 X140 X205 Q p1 l2 x := by
    intro x Mx Ex Fx v34 v35 hs
    have x0 : vM x 0 p = k0.toInt := v34
    have x1 : vM x 1 p = 0 := v35
    unfold b_knownS_183 b_knownS_202
    rw [r2 x Ex]
    refine ⟨⟨by omega, by omega⟩, fun k => ?_, fun k => ⟨⟨by omega, by omega⟩, fun n5 => ?_, fun y5 => ?_⟩⟩
    · refine hq x Mx Ex Fx ⟨fun _ => ⟨by rw [x0]; omega, x1, fun e he => ?_⟩, fun w => by omega, fun w => by omega, fun g => absurd g (ng0 k), fun g => absurd g (ng0 k), fun w => by omega⟩
      rw [dM_10 hp]
      exact hs k e he
    · by_cases g : 0 < vv y 2 p ∧ vv y 2 p < 4
      · have kz : k0.toInt = 0 := by omega
        refine L205 g (m + 1) 0 0 x (by omega) (by omega) rfl Mx Ex Fx (Or.inr ⟨by rw [v34, kz], fun i hi => by omega⟩) (Or.inr ⟨v35, fun i hi => by omega⟩)
      · have y4 : vv y 2 p = 4 := by omega
        have l0 : l2.toInt = 0 := Decidable.not_not.mp (fun w => g (hl2.mp w))
        refine H205 p1 l2 0 x ?_
        unfold b_knownS_205
        have e292 : b_knownS_292 K X25 X140 X205 Q p1 x := rx_end h1 hp hMy hW hm (by omega) (fun w => absurd y4 w) hflop Mx Ex Fx (fun _ => ⟨by rw [v34]; omega, v35⟩) (fun w => absurd y4 w) hq
        exact ⟨⟨by omega, by omega⟩, fun _ => e292, fun _ => ⟨fun _ => e292, fun w => absurd l0 w⟩⟩
    · refine hq x Mx Ex Fx ⟨fun w => by omega, fun _ => ⟨by rw [x0]; omega, x1⟩, fun w => by omega, fun g => absurd g (ng5 y5), fun g => absurd g (ng5 y5), fun _ w => by omega⟩
  refine ⟨⟨by omega, by omega⟩, bk, ⟨by omega, by omega⟩, fun k => h183 z Mz Ez Fz (by rw [z34, fu_eq]) z35 (fun w => absurd w k), fun k => ?_⟩
  -- the slopes of a PORT
  have L140 : ∀ (d i : Nat) (l3 : Int32) (x : VS), 3 ≤ d + i → i ≤ 2 → l3.toInt = (i : Int) → MI x → Eo [30] [34, 35, 36, 37, 38, 39] y x → FrM p y x → vv x 34 p = k0.toInt → vv x 35 p = 0 → (∀ e, e < i → vv x 38 (2 * p + e) = vv y 10 p ∧ vv x 39 (2 * p + e) = vv y 10 p) → X140 p1 l2 l3 x := by
    intro d
    induction d with
    | zero => intro i l3 x a b; omega
    | succ d ih =>
      intro i l3 x a b e3 Mx Ex Fx v34 v35 hs
      refine H140 p1 l2 l3 x ?_
      unfold b_knownS_140
      have u1 : (2 * p1).toInt = 2 * (p : Int) := i3_mulc rfl h1 rfl (by have w : (2 : Int32).toInt = 2 := rfl; omega)
      have u2 : (2 * p1 + l3).toInt = 2 * (p : Int) + (i : Int) := i3_addc u1 e3 rfl (by omega)
      have u3 : (2 * p1 + l3).toInt = ((2 * p + i : Nat) : Int) := by omega
      refine ⟨fun q => ?_, fun q => ⟨⟨by omega, by omega⟩, ⟨by omega, by omega⟩, ⟨by omega, by omega⟩, ⟨by omega, by omega⟩, ?_⟩⟩
      · have ei : i = 2 := by omega
        rw [ei] at hs
        exact h183 x Mx Ex Fx v34 v35 (fun _ => hs)
      · have t3 : (l3 + 1).toInt = ((i + 1 : Nat) : Int) := by
          have w := i3_addc (x := l3 + 1) e3 (show (1 : Int32).toInt = 1 from rfl) rfl (by omega)
          omega
        have b10 : 0 ≤ vv y 10 p ∧ vv y 10 p ≤ 100000 := hMy.2 10 p
        obtain ⟨V1, hV1⟩ : ∃ V1 : Int32, V1 = rd x 10 p1 := ⟨_, rfl⟩
        have y1 : V1.toInt = vv y 10 p := by rw [hV1, vv_rd h1, vv_eo Ex (by decide)]
        rw [← hV1]
        obtain ⟨V2, hV2⟩ : ∃ V2 : Int32, V2 = rd (sa x 38 (2 * p1 + l3) V1) 10 p1 := ⟨_, rfl⟩
        have y2 : V2.toInt = vv y 10 p := by rw [hV2, vv_rd h1, vv_so (show 10 ≠ 38 by decide), vv_eo Ex (by decide)]
        rw [← hV2]
        obtain ⟨x2, hx2⟩ : ∃ x2 : VS, x2 = sa (sa x 38 (2 * p1 + l3) V1) 39 (2 * p1 + l3) V2 := ⟨_, rfl⟩
        have g3 : vv x2 38 = fu (vv x 38) (2 * p + i) (vv y 10 p) := by rw [hx2, vv_so (show 38 ≠ 39 by decide), vv_sa x 38 _ V1 u3, y1]
        have g4 : vv x2 39 = fu (vv x 39) (2 * p + i) (vv y 10 p) := by rw [hx2, vv_sa _ 39 _ V2 u3, vv_so (show 39 ≠ 38 by decide), y2]
        have M2 : MI x2 := by rw [hx2]; exact (Mx.sa 38 _ V1 (by rw [y1]; exact b10)).sa 39 _ V2 (by rw [y2]; exact b10)
        have E2 : Eo [] [38, 39] x x2 := by rw [hx2]; exact (Eo.rfl.sa 38 _ V1 (by decide)).sa 39 _ V2 (by decide)
        have F2 : FrM p x x2 := by
          refine ⟨fun j _ => ?_, fun k2 j hk _ => ?_, fun k2 j hk w => ?_⟩
          · rw [vv_eo E2 (show 34 ∉ [38, 39] by decide), vv_eo E2 (show 35 ∉ [38, 39] by decide)]; exact ⟨rfl, rfl⟩
          · rw [vv_eo E2 (by rcases hk with k1 | k1 <;> subst k1 <;> decide)]
          · rcases hk with k1 | k1 | k1 | k1 <;> subst k1
            · rw [g3, fu_ne (by omega)]
            · rw [g4, fu_ne (by omega)]
            · rw [vv_eo E2 (show 40 ∉ [38, 39] by decide)]
            · rw [vv_eo E2 (show 41 ∉ [38, 39] by decide)]
        rw [← hx2]
        refine ih (i + 1) (l3 + 1) x2 (by omega) (by omega) t3 M2 (Ex.of E2 (by decide) (by decide)) (Fx.trans F2) (by rw [vv_eo E2 (by decide)]; exact v34) (by rw [vv_eo E2 (by decide)]; exact v35) (fun e he => ?_)
        rw [g3, g4]
        by_cases w : e = i
        · rw [w, fu_eq, fu_eq]; exact ⟨rfl, rfl⟩
        · rw [fu_ne (by omega), fu_ne (by omega)]; exact hs e (by omega)
  exact L140 3 0 0 z (by omega) (by omega) rfl Mz Ez Fz (by rw [z34, fu_eq]) z35 (fun e he => by omega)
end
