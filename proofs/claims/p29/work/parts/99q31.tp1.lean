/-! THE REFERENCE'S RACE: ONE ARC -/
theorem met_or (σ : VS) (c : Int) : ∀ k : Nat, k ≤ 4 → (metL σ c k).toInt = ((orN (fun i => decide ((σ.2.1 28 i).toInt = c)) k : Nat) : Int)
  | 0, _ => rfl
  | k + 1, h => by
    have ih := met_or σ c k (by omega)
    have lt := orN_lt (fun i => decide ((σ.2.1 28 i).toInt = c)) k
    have p16 := (K_le k (by omega)).2
    have p17 := (K_le (k + 1) h).2
    have kk : (Int32.ofNat k).toInt = (k : Int) := Int32.toInt_ofNat_of_lt (by omega)
    have e2 : ((if (σ.2.1 28 k).toInt = c then (1 <<< (Int32.ofNat k &&& 31) : Int32) else 0)).toInt = (((if decide ((σ.2.1 28 k).toInt = c) then 2 ^ k else 0) : Nat) : Int) := by
      by_cases z : (σ.2.1 28 k).toInt = c
      · rw [if_pos z, decide_eq_true z, if_pos rfl]
        exact shl_x kk (by omega)
      · rw [if_neg z, decide_eq_false z, if_neg (by decide)]
        rfl
    have b2 : (if decide ((σ.2.1 28 k).toInt = c) then 2 ^ k else 0) < 16 := by
      have q : 2 ^ k < 2 ^ (k + 1) := by rw [Nat.pow_succ]; have := Nat.two_pow_pos k; omega
      by_cases z : (σ.2.1 28 k).toInt = c
      · rw [decide_eq_true z, if_pos rfl]; omega
      · rw [decide_eq_false z, if_neg (by decide)]; omega
    exact or_nat ih e2 (by omega) b2
theorem metN_bR {σ : VS} (hM : MI σ) {R : Nat} (hR : (σ.1 25).toInt = (R : Int)) (c : Nat) : (metV σ (c : Int)).toInt = ((bR (vv σ 28) R c : Nat) : Int) := by
  have h4 : 0 ≤ (σ.1 25).toInt ∧ (σ.1 25).toInt ≤ 4 := hM.1 25
  unfold metV
  rw [show (σ.1 25).toInt.toNat = R by omega]
  exact met_or σ (c : Int) R (by omega)
theorem bR_16 (th : Nat → Int) {R : Nat} (h : R ≤ 4) (c : Nat) : bR th R c < 16 := by
  have q := orN_lt (fun k => decide (th k = (c : Int))) R
  have p := (K_le R h).2
  unfold bR
  omega
theorem or_16 (x y : Nat) (hx : x < 16) (hy : y < 16) : x ||| y < 16 := or_lt hx hy
def RM (b : Nat → Nat) (s : Nat) (La Ea : List Nat → Nat → Int) (L : List (List Nat)) (c e : Nat) (τ : VS) : Prop := ∀ t, t < 16 → SpO b s La Ea L e t (vv τ 42 ((2 * c + e) * 16 + t)) (vv τ 43 ((2 * c + e) * 16 + t)) (vv τ 44 ((2 * c + e) * 16 + t))
def FwM (a : Nat) (τ τ' : VS) : Prop := ∀ j, j / 16 ≠ a → vv τ' 42 j = vv τ 42 j ∧ vv τ' 43 j = vv τ 43 j ∧ vv τ' 44 j = vv τ 44 j
theorem RM.same {b : Nat → Nat} {s : Nat} {La Ea : List Nat → Nat → Int} {L : List (List Nat)} {c e a : Nat} {τ τ' : VS} (h : RM b s La Ea L c e τ) (f : FwM a τ τ') (hne : 2 * c + e ≠ a) : RM b s La Ea L c e τ' := fun t ht => by
  have q := f ((2 * c + e) * 16 + t) (by omega)
  rw [q.1, q.2.1, q.2.2]
  exact h t ht
set_option maxHeartbeats 1000000 in
theorem rx_passes {Q : VS → Prop} {p1 p2 p3 p4 : Int32} {σ : VS} {f d i eo e s R : Nat} {La Ea : List Nat → Nat → Int} {Lt Ls : List (List Nat)} {dl de : Int} (h1 : p1.toInt = (f : Int)) (h2 : p2.toInt = (d : Int)) (h3 : p3.toInt = (i : Int)) (h4 : p4.toInt = (e : Int)) (hf : f < 50) (hd : d < 50) (hi : i < 4) (he : e < 2) (hfd : f ≠ d) (heo : eo = (if vv σ 2 d = 2 then 1 - e else e)) (hM : MI σ) (hR : (σ.1 25).toInt = (R : Int)) (hdl : vv σ 36 (8 * d + 2 * i + eo) = dl) (hde : vv σ 37 (8 * d + 2 * i + eo) = de) (bd : (0 ≤ dl ∧ dl ≤ 6000) ∧ 0 ≤ de ∧ de ≤ 6000) (bp : ∀ p, p ∈ Ls → (0 ≤ La p e ∧ La p e ≤ 3000000) ∧ 0 ≤ Ea p e ∧ Ea p e ≤ 3000000) (hLa : ∀ p, p ∈ Ls → La ((4 * d + i) :: p) eo = La p e + dl) (hEa : ∀ p, p ∈ Ls → Ea ((4 * d + i) :: p) eo = Ea p e + de) (hS : RM (bR (vv σ 28) R) s La Ea Ls f e σ) (hT : RM (bR (vv σ 28) R) s La Ea Lt d eo σ)
    (hq : ∀ σ' : VS, MI σ' → Eo [] [42, 43, 44] σ σ' → FwM (2 * d + eo) σ σ' → RM (bR (vv σ 28) R) s La Ea (Lt ++ Ls.map (fun p => (4 * d + i) :: p)) d eo σ' → Q σ') : wp_passes Q p1 p2 p3 p4 σ := by
  have hR4 : 0 ≤ (σ.1 25).toInt ∧ (σ.1 25).toInt ≤ 4 := hM.1 25
  have eo2 : eo < 2 := by
    rw [heo]
    by_cases z : vv σ 2 d = 2
    · rw [if_pos z]; omega
    · rw [if_neg z]; exact he
  obtain ⟨b, hb⟩ : ∃ b : Nat → Nat, b = bR (vv σ 28) R := ⟨_, rfl⟩
  have b16 : ∀ c, b c < 16 := fun c => by rw [hb]; exact bR_16 _ (by omega) c
  have hbm : ∀ p, mkP b s p < 16 := fun p => mkP_lt (s := s) or_16 b16 p
  rw [← hb] at hS hT hq
  have dw : (4 * d + i) / 4 = d := by omega
  unfold wp_passes
  intro X31 H
  have r2 : (rd σ 2 p2).toInt = vv σ 2 d := vv_rd h2
  have u1 : (2 * p1).toInt = 2 * (f : Int) := i3_mulc rfl h1 rfl (by have q : (2 : Int32).toInt = 2 := rfl; omega)
  have u2 : (2 * p1 + p4).toInt = 2 * (f : Int) + (e : Int) := i3_addc u1 h4 rfl (by omega)
  have u3 : (16 * (2 * p1 + p4)).toInt = 16 * (2 * (f : Int) + (e : Int)) := i3_mulc rfl u2 rfl (by have q : (16 : Int32).toInt = 16 := rfl; omega)
  have go : ∀ l5 : Int32, l5.toInt = (eo : Int) → b_passes_19 X31 Q p1 p2 p3 p4 l5 σ := by
    intro l5 h5
    unfold b_passes_19
    refine met_s hM ?_
    rw [h2]
    have e6 : (metV σ (d : Int)).toInt = ((b d : Nat) : Int) := by rw [hb]; exact metN_bR hM hR d
    obtain ⟨l6, hl6⟩ : ∃ l6 : Int32, l6 = metV σ (d : Int) := ⟨_, rfl⟩
    rw [← hl6] at e6 ⊢
    have w1 : (2 * p2).toInt = 2 * (d : Int) := i3_mulc rfl h2 rfl (by have q : (2 : Int32).toInt = 2 := rfl; omega)
    have w2 : (2 * p2 + l5).toInt = 2 * (d : Int) + (eo : Int) := i3_addc w1 h5 rfl (by omega)
    have w3 : (16 * (2 * p2 + l5)).toInt = 16 * (2 * (d : Int) + (eo : Int)) := i3_mulc rfl w2 rfl (by have q : (16 : Int32).toInt = 16 := rfl; omega)
    have y1 : (8 * p2).toInt = 8 * (d : Int) := i3_mulc rfl h2 rfl (by have q : (8 : Int32).toInt = 8 := rfl; omega)
    have y2 : (2 * p3).toInt = 2 * (i : Int) := i3_mulc rfl h3 rfl (by have q : (2 : Int32).toInt = 2 := rfl; omega)
    have y3 : (8 * p2 + 2 * p3).toInt = 8 * (d : Int) + 2 * (i : Int) := i3_addc y1 y2 rfl (by omega)
    have y4 : (8 * p2 + 2 * p3 + l5).toInt = ((8 * d + 2 * i + eo : Nat) : Int) := by
      have q := i3_addc (x := 8 * p2 + 2 * p3 + l5) y3 h5 rfl (by omega)
      omega
    have Z : ∀ (g k : Nat) (l7 : Int32) (τ : VS), 17 ≤ g + k → k ≤ 16 → l7.toInt = (k : Int) → MI τ → Eo [] [42, 43, 44] σ τ → FwM (2 * d + eo) σ τ → (∀ t, t < 16 → SpA b s La Ea Lt Ls eo e (b d) dl de t k (vv τ 42 ((2 * d + eo) * 16 + t)) (vv τ 43 ((2 * d + eo) * 16 + t)) (vv τ 44 ((2 * d + eo) * 16 + t))) → X31 p1 p2 p3 p4 l5 l6 l7 τ := by
      intro g
      induction g with
      | zero => intro k l7 τ a c; omega
      | succ g ih =>
        intro k l7 τ a c e7 hMt hE hF hA
        refine H p1 p2 p3 p4 l5 l6 l7 τ ?_
        unfold b_passes_31 b_passes_230
        refine ⟨fun z => ?_, fun z => ?_⟩
        · have ek : k = 16 := by omega
          refine hq τ hMt hE hF (fun t ht => ?_)
          have q := hA t ht
          rw [ek] at q
          have q2 : SpA b s La Ea Lt Ls eo e (b ((4 * d + i) / 4)) dl de t 16 (vv τ 42 ((2 * d + eo) * 16 + t)) (vv τ 43 ((2 * d + eo) * 16 + t)) (vv τ 44 ((2 * d + eo) * 16 + t)) := by rw [dw]; exact q
          exact q2.done (fun p _ => hbm p) hLa hEa
        · have hk : k < 16 := by omega
          have t7 : (l7 + 1).toInt = ((k + 1 : Nat) : Int) := by
            have q := i3_addc (x := l7 + 1) e7 (show (1 : Int32).toInt = 1 from rfl) rfl (by omega)
            omega
          intro x3 ex3
          have t3 : x3.toInt = (((2 * f + e) * 16 + k : Nat) : Int) := by
            have q := i3_addc (x := x3) u3 e7 ex3 (by omega)
            omega
          clear ex3
          have fr := hF ((2 * f + e) * 16 + k) (by omega)
          have src := hS k hk
          rw [← fr.1, ← fr.2.1, ← fr.2.2] at src
          have r42 : (rd τ 42 x3).toInt = vv τ 42 ((2 * f + e) * 16 + k) := vv_rd t3
          have r43 : (rd τ 43 x3).toInt = vv τ 43 ((2 * f + e) * 16 + k) := vv_rd t3
          have r44 : (rd τ 44 x3).toInt = vv τ 44 ((2 * f + e) * 16 + k) := vv_rd t3
          have wb := src.1
          refine ⟨⟨by omega, by omega⟩, fun z2 => ?_, fun z2 => ?_⟩
          · rw [r42] at z2
            have z3 : 0 < vv τ 42 ((2 * f + e) * 16 + k) := by omega
            obtain ⟨pp, qq, m1, m2, _, ev1, ev2⟩ := src.val z3
            have b1 := (bp pp m1).1
            have b2 := (bp qq m2).2
            intro x4 ex4
            have ob : (l7 ||| l6).toInt = ((k ||| b d : Nat) : Int) := or_nat e7 e6 hk (b16 d)
            have okt := or_16 k (b d) hk (b16 d)
            have t4 : x4.toInt = (((2 * d + eo) * 16 + (k ||| b d) : Nat) : Int) := by
              have q := i3_addc (x := x4) w3 ob ex4 (by omega)
              omega
            clear ex4
            refine ⟨⟨by omega, by omega⟩, ⟨by omega, by omega⟩, fun x5 e5 => ⟨⟨by omega, by omega⟩, ⟨by omega, by omega⟩, fun x6 e66 => ⟨⟨by omega, by omega⟩, ?_⟩⟩⟩
            have t5 : x5.toInt = vv τ 43 ((2 * f + e) * 16 + k) + dl := i3_addc r43 (by rw [vv_rd y4, vv_eo hE (by decide), hdl]) e5 (by omega)
            have t6 : x6.toInt = vv τ 44 ((2 * f + e) * 16 + k) + de := i3_addc r44 (by rw [vv_rd y4, vv_eo hE (by decide), hde]) e66 (by omega)
            clear e5 e66
            have tgt := hA (k ||| b d) okt
            have wt := tgt.1
            obtain ⟨X, hX⟩ : ∃ X : Nat, X = (2 * d + eo) * 16 + (k ||| b d) := ⟨_, rfl⟩
            rw [← hX] at t4 tgt wt
            have nX : X ≠ (2 * f + e) * 16 + k := by omega
            have q42 : (rd τ 42 x4).toInt = vv τ 42 X := vv_rd t4
            have i1000 : (1000 : Int32).toInt = 1000 := rfl
            have fin : ∀ W1 W2 : Int32, W1.toInt = (if vv τ 42 X = 0 then vv τ 43 ((2 * f + e) * 16 + k) + dl else max (vv τ 43 X) (vv τ 43 ((2 * f + e) * 16 + k) + dl)) → W2.toInt = (if vv τ 42 X = 0 then vv τ 44 ((2 * f + e) * 16 + k) + de else min (vv τ 44 X) (vv τ 44 ((2 * f + e) * 16 + k) + de)) → X31 p1 p2 p3 p4 l5 l6 (l7 + 1) (sa (sa (sa τ 43 x4 W1) 44 x4 W2) 42 x4 (imin 1000 ((rd (sa (sa τ 43 x4 W1) 44 x4 W2) 42 x4) + (rd (sa (sa τ 43 x4 W1) 44 x4 W2) 42 x3)))) := by
              intro W1 W2 v1 v2
              have g1 : (rd (sa (sa τ 43 x4 W1) 44 x4 W2) 42 x4).toInt = vv τ 42 X := by rw [vv_rd t4, vv_so (show 42 ≠ 44 by decide), vv_so (show 42 ≠ 43 by decide)]
              have g2 : (rd (sa (sa τ 43 x4 W1) 44 x4 W2) 42 x3).toInt = vv τ 42 ((2 * f + e) * 16 + k) := by rw [vv_rd t3, vv_so (show 42 ≠ 44 by decide), vv_so (show 42 ≠ 43 by decide)]
              obtain ⟨W3, hW3⟩ : ∃ W3 : Int32, W3 = imin 1000 ((rd (sa (sa τ 43 x4 W1) 44 x4 W2) 42 x4) + (rd (sa (sa τ 43 x4 W1) 44 x4 W2) 42 x3)) := ⟨_, rfl⟩
              have v3 : W3.toInt = min 1000 (vv τ 42 X + vv τ 42 ((2 * f + e) * 16 + k)) := by rw [hW3, imin_x, i1000, i3_addc (x := (rd (sa (sa τ 43 x4 W1) 44 x4 W2) 42 x4) + (rd (sa (sa τ 43 x4 W1) 44 x4 W2) 42 x3)) g1 g2 rfl (by omega)]
              rw [← hW3]
              obtain ⟨τ2, hτ⟩ : ∃ τ2 : VS, τ2 = sa (sa (sa τ 43 x4 W1) 44 x4 W2) 42 x4 W3 := ⟨_, rfl⟩
              have k1 : vv τ2 42 = fu (vv τ 42) X W3.toInt := by rw [hτ, vv_sa _ 42 x4 W3 t4, vv_so (show 42 ≠ 44 by decide), vv_so (show 42 ≠ 43 by decide)]
              have k2 : vv τ2 43 = fu (vv τ 43) X W1.toInt := by rw [hτ, vv_so (show 43 ≠ 42 by decide), vv_so (show 43 ≠ 44 by decide), vv_sa τ 43 x4 W1 t4]
              have k3 : vv τ2 44 = fu (vv τ 44) X W2.toInt := by rw [hτ, vv_so (show 44 ≠ 42 by decide), vv_sa _ 44 x4 W2 t4, vv_so (show 44 ≠ 43 by decide)]
              have M2 : MI τ2 := by rw [hτ]; exact ((hMt.sa 43 x4 W1 (i3_bd _)).sa 44 x4 W2 (i3_bd _)).sa 42 x4 W3 (show 0 ≤ W3.toInt ∧ W3.toInt ≤ 1000 by omega)
              have E2 : Eo [] [42, 43, 44] σ τ2 := by rw [hτ]; exact ((hE.sa 43 x4 W1 (by decide)).sa 44 x4 W2 (by decide)).sa 42 x4 W3 (by decide)
              rw [← hτ]
              refine ih (k + 1) (l7 + 1) τ2 (by omega) (by omega) t7 M2 E2 (fun j hj => ?_) (fun t ht => ?_)
              · have ne : j ≠ X := by omega
                rw [k1, k2, k3, fu_ne ne, fu_ne ne, fu_ne ne]
                exact hF j hj
              · rw [k1, k2, k3]
                by_cases q : t = k ||| b d
                · rw [q, ← hX, fu_eq, fu_eq, fu_eq, v1, v2, v3]
                  exact tgt.merge rfl src z3
                · have ne : (2 * d + eo) * 16 + t ≠ X := by omega
                  rw [fu_ne ne, fu_ne ne, fu_ne ne]
                  exact (hA t ht).keep (fun p hp w => fun w2 => q w2.symm)
            have h167 : ∀ W1 : Int32, W1.toInt = (if vv τ 42 X = 0 then vv τ 43 ((2 * f + e) * 16 + k) + dl else max (vv τ 43 X) (vv τ 43 ((2 * f + e) * 16 + k) + dl)) → b_passes_167 X31 Q p1 p2 p3 p4 l5 l6 l7 x3 x4 x6 W1 x4 τ := by
              intro W1 v1
              have g1 : (rd (sa τ 43 x4 W1) 42 x4).toInt = vv τ 42 X := by rw [vv_rd t4, vv_so (show 42 ≠ 43 by decide)]
              unfold b_passes_167 b_passes_201 b_passes_230
              rw [g1]
              refine ⟨⟨by omega, by omega⟩, ⟨by omega, by omega⟩, fun y => ⟨⟨by omega, by omega⟩, ⟨by omega, by omega⟩, ⟨by omega, by omega⟩, ⟨by omega, by omega⟩, ⟨by omega, by omega⟩, fin W1 _ v1 ?_⟩, fun y => ⟨⟨by omega, by omega⟩, ⟨by omega, by omega⟩, ⟨by omega, by omega⟩, ⟨by omega, by omega⟩, fin W1 x6 v1 ?_⟩⟩
              · rw [if_neg y, imin_x, vv_rd t4, vv_so (show 44 ≠ 43 by decide), t6]
              · rw [if_pos y, t6]
            rw [q42]
            refine ⟨fun y => ⟨⟨by omega, by omega⟩, h167 _ ?_⟩, fun y => h167 x5 ?_⟩
            · rw [if_neg y, imax_x, vv_rd t4, t5]
            · rw [if_pos y, t5]
          · rw [r42] at z2
            have n0 : ∀ p, p ∈ Ls → mkP b s p ≠ k := fun p hp q => by
              have n1 := (cP_pos (φ := fun p => mkP b s p = k) Ls).mpr ⟨p, hp, q⟩
              have n2 := (Sm3.pos src).mpr n1
              omega
            exact ih (k + 1) (l7 + 1) τ (by omega) (by omega) t7 hMt hE hF (fun t ht => (hA t ht).keep (fun p hp q => absurd q (n0 p hp)))
    exact Z 17 0 0 σ (by omega) (by omega) rfl hM Eo.rfl (fun j _ => ⟨rfl, rfl, rfl⟩) (fun t ht => SpA.start (hT t ht))
  refine ⟨⟨by omega, by omega⟩, fun z => go p4 ?_, fun z => go (1 - p4) ?_⟩
  · rw [r2] at z
    rw [heo, if_neg z]; exact h4
  · rw [r2] at z
    rw [heo, if_pos z]
    have q := i3_subc (x := 1 - p4) (show (1 : Int32).toInt = 1 from rfl) h4 rfl (by omega)
    omega
