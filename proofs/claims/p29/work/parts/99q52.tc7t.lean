/-! THE CLASS NUMBERS THE PATHS AND FINDS ONE (T) -/
abbrev FXT : List Nat := [11, 12, 13, 14, 15, 19, 20, 21]
abbrev AXT : List Nat := [53, 59, 60, 61, 62]
set_option maxHeartbeats 1000000 in
theorem cx_keyAllT {Q : VS → Prop} {σ τ0 : VS} {R t : Nat} {b : Nat → Nat} {sh : Nat → Nat → Int} {nmS : Nat → Nat → Int} {FF : Nat → Nat → Nat → List (List Nat)} {ρ : Nat → Nat} (hM0 : CI σ) (hM : CI τ0) (hE0 : Eo FXT AXT σ τ0) (H : LyE σ R b sh) (hW : Wo (dC σ) (nCl σ) ρ) (P : TrP σ R t b nmS FF) (h11 : (τ0.1 11).toInt = ((2 ^ R : Nat) : Int)) (h13 : (τ0.1 13).toInt = (t : Int)) (hq : ∀ x : VS, CI x → Eo FXT AXT σ x → (x.1 11).toInt = ((2 ^ R : Nat) : Int) → (x.1 13).toInt = (t : Int) → (x.1 15).toInt = (((APk (dC σ) FF b (nCl σ)).length : Nat) : Int) → (∀ j y, (APk (dC σ) FF b (nCl σ))[j]? = some y → jv x j = slkA (dC σ) (vC σ) nmS b (σ.1 4).toInt (fun s => dC σ 14 t - vv σ 26 t + sh s t) y * 1024 + (j : Int)) → Q x) : wp_X7keyAllT Q τ0 := by
  have H0 := H
  obtain ⟨hT, hO, hC, hWl, hSt, hR, hb0, hbK0, bsh, hsh⟩ := H0
  have P0 := P
  obtain ⟨p1, p2, p3, p4, p5, p6, p7⟩ := P0
  have a2 : 0 ≤ (σ.1 2).toInt ∧ (σ.1 2).toInt ≤ 50 := hM0.1 2
  have en : (σ.1 2).toInt = ((nCl σ : Nat) : Int) := by unfold nCl; omega
  have hL : ∀ c, c < nCl σ → LE2 (dC σ) (vC σ) (vC σ) c := fun c hc => (hSt c hc).1
  obtain ⟨A, hA⟩ : ∃ A : Nat → List (Nat × Nat × List Nat), A = APk (dC σ) FF b := ⟨_, rfl⟩
  obtain ⟨sl, hsl⟩ : ∃ sl : Nat × Nat × List Nat → Int, sl = slkA (dC σ) (vC σ) nmS b (σ.1 4).toInt (fun s => dC σ 14 t - vv σ 26 t + sh s t) := ⟨_, rfl⟩
  rw [← hA, ← hsl] at hq
  rw [← hA] at p7
  have Ale : ∀ k, k ≤ nCl σ → (A k).length ≤ (A (nCl σ)).length := fun k hk => by rw [hA]; exact APk_le hk
  unfold wp_X7keyAllT
  intro X7 X42 H7 H42
  have Z7 : ∀ (d c : Nat) (l2 : Int32) (τ : VS), nCl σ + 1 ≤ d + c → c ≤ nCl σ → l2.toInt = (c : Int) → CI τ → Eo FXT AXT σ τ → (τ.1 11).toInt = ((2 ^ R : Nat) : Int) → (τ.1 13).toInt = (t : Int) → (τ.1 15).toInt = (((A c).length : Nat) : Int) → (∀ j y, (A c)[j]? = some y → jv τ j = sl y * 1024 + (j : Int)) → X7 l2 τ := by
    intro d
    induction d with
    | zero => intro c l2 τ a b'; omega
    | succ d ih =>
      intro c l2 τ a b' e2 hMt hE f11 f13 f15 hK
      refine H7 l2 τ ?_
      unfold b_X7keyAllT_7 b_X7keyAllT_38
      rw [hE.1 2 (by decide), en]
      refine ⟨fun z => ?_, fun z => ?_⟩
      · have ec : c = nCl σ := by omega
        rw [ec] at f15 hK
        exact hq τ hMt hE f11 f13 f15 hK
      · have hc : c < nCl σ := by omega
        have t2 : (l2 + 1).toInt = ((c + 1 : Nat) : Int) := by
          have w := i3_addc (x := l2 + 1) e2 (show (1 : Int32).toInt = 1 from rfl) rfl (by omega)
          omega
        have s11 : vv τ 11 = vv σ 11 := vv_eo hE (by decide)
        have d0 : dC σ 0 c = vv σ 11 c := dC_0 hc
        have lec := Ale (c + 1) hc
        have Z42 : ∀ (d i f : Nat) (l3 l4 : Int32) (τ : VS), (dC σ 0 c = 0 ∨ dC σ 0 c = 4) → f = (FF c c (b c)).length → 2 * f + 1 ≤ d + i → i ≤ 2 * f → l3.toInt = (f : Int) → l4.toInt = (i : Int) → CI τ → Eo FXT AXT σ τ → (τ.1 11).toInt = ((2 ^ R : Nat) : Int) → (τ.1 13).toInt = (t : Int) → (τ.1 12).toInt = (c : Int) → OnT τ (dC σ) (nCl σ) R (FF c) → (τ.1 15).toInt = (((A c).length + i : Nat) : Int) → (∀ j y, j < (A c).length + i → (A (c + 1))[j]? = some y → jv τ j = sl y * 1024 + (j : Int)) → X42 l2 l3 l4 τ := by
          intro d
          induction d with
          | zero => intro i f l3 l4 τ _ _ a b'; omega
          | succ d ihd =>
            intro i f l3 l4 τ hS hf a b' e3 e4 hMt hE f11 f13 f12 on f15 hK
            have lA : (A (c + 1)).length = (A c).length + 2 * f := by rw [hA, hf]; exact APk_l hS
            refine H42 l2 l3 l4 τ ?_
            unfold b_X7keyAllT_42 b_X7keyAllT_112
            have u3 : (2 * l3).toInt = 2 * (f : Int) := i3_mulc rfl e3 rfl (by have w : (2 : Int32).toInt = 2 := rfl; omega)
            rw [u3]
            refine ⟨fun z => ?_, fun z => ⟨fun y => by omega, fun y => ?_⟩⟩
            · have ei : i = 2 * f := by omega
              refine ih (c + 1) (l2 + 1) τ (by omega) (by omega) t2 hMt hE f11 f13 (by rw [f15, lA, ei]) (fun j y hj => hK j y ?_ hj)
              have w := (List.getElem?_eq_some_iff.mp hj).1
              omega
            · have f0 : 0 < f := by omega
              have n3 : ¬ l3 = 0 := i3_nz (by omega)
              obtain ⟨p, hp⟩ := get_ex (L := FF c c (b c)) (j := i % f) (by rw [← hf]; exact Nat.mod_lt i f0)
              have dv := div_x e4 e3 f0 (by omega)
              have pm := List.mem_of_getElem? hp
              have o : vC σ 1 c = 0 := FP_opn hW hL (p6 c) p2 p4 c hc _ p pm
              have ng : ¬ gN (dC σ) c := fun g => by
                have g1 := g.1
                have g2 := g.2
                omega
              have pl := FP_pl hW (p6 c) hc ng pm
              have Es : Eo TF TA σ τ := hE.mono (by decide) (by decide)
              have i2 : i / f < 2 := Nat.div_lt_of_lt_mul (by omega)
              have im := Nat.mod_lt i f0
              refine ⟨n3, n3, cx_layT (e := i / f) (k := i % f) (p := p) hM0 hMt Es H hW (TrE.mk H P Es f11 f13 hc) f12 on dv.1 i2 dv.2 (by omega) hp (by omega) p2 p3 p4 ⟨hS, o⟩ (fun x Mx Ex Jx Lx => ?_)⟩
              have Ex2 : Eo FXT AXT σ x := hE.trans (Ex.mono (by decide) (by decide))
              have x15 : (x.1 15).toInt = (((A c).length + i : Nat) : Int) := by rw [Ex.1 15 (by decide)]; exact f15
              have jx : jv x = jv τ := by
                funext j
                unfold jv
                rw [Jx]
              refine ⟨⟨by omega, by omega⟩, ?_⟩
              obtain ⟨key, hkey⟩ : ∃ key : Int64, key = ((((x.1 20)).toInt64) <<< ((10 : Int32).toInt64 &&& 63)) + (((x.1 15)).toInt64) := ⟨_, rfl⟩
              have kv : key.toInt = (x.1 20).toInt * 1024 + (x.1 15).toInt := by rw [hkey]; exact j6_key _ _
              rw [← hkey]
              show X42 l2 l3 (l4 + 1) (sf (slj x 54 (x.1 15) key) 15 ((x.1 15) + 1))
              have t4 : (l4 + 1).toInt = ((i + 1 : Nat) : Int) := by
                have w := i3_addc (x := l4 + 1) e4 (show (1 : Int32).toInt = 1 from rfl) rfl (by omega)
                omega
              have t15 : ((x.1 15) + 1).toInt = (((A c).length + (i + 1) : Nat) : Int) := by
                have w := i3_addc (x := (x.1 15) + 1) x15 (show (1 : Int32).toInt = 1 from rfl) rfl (by omega)
                omega
              have e53 : vv x 53 = vv τ 53 := vv_eo Ex (by decide)
              have jy : jv (sf (slj x 54 (x.1 15) key) 15 ((x.1 15) + 1)) = fu (jv x) ((A c).length + i) key.toInt := jv_slj x (x.1 15) key x15
              refine ihd (i + 1) f l3 (l4 + 1) _ hS hf (by omega) (by omega) e3 t4 ((Mx.slj 54 _ key).sf 15 _ ⟨by show (0 : Int) ≤ _; omega, by show _ ≤ (1000 : Int); omega⟩) ((Ex2.slj 54 _ key).sf 15 _ (by decide)) ?_ ?_ ?_ ?_ (by rw [sf_same]; exact t15) (fun j y hj hy => ?_)
              · rw [sf_other (by decide)]
                show (x.1 11).toInt = _
                rw [Ex.1 11 (by decide)]; exact f11
              · rw [sf_other (by decide)]
                show (x.1 13).toInt = _
                rw [Ex.1 13 (by decide)]; exact f13
              · rw [sf_other (by decide)]
                show (x.1 12).toInt = _
                rw [Ex.1 12 (by decide)]; exact f12
              · intro c2 hc2 g m hm
                show vv x 53 (c2 * 2 ^ R + m) = _
                rw [e53]; exact on c2 hc2 g m hm
              · rw [jy]
                by_cases w : j = (A c).length + i
                · have at' := APk_at (D := dC σ) (FF := FF) (b := b) hS hf (by omega) hp
                  rw [← hA] at at'
                  rw [w] at hy
                  rw [at'] at hy
                  injection hy with hy
                  rw [w, fu_eq, kv, x15, ← hy, hsl, Lx.2.2.1]; rfl
                · rw [fu_ne w, jx]
                  exact hK j y (by omega) hy
        refine cx_isStart (c := c) e2 (by omega) (fun y => ⟨fun w => absurd w (by decide), fun _ => ?_⟩) (fun y => ⟨fun _ => ?_, fun w => absurd rfl w⟩)
        · rw [s11] at y
          have hS : dC σ 0 c = 0 ∨ dC σ 0 c = 4 := by rw [d0]; exact y
          have Es : Eo TF TA σ τ := hE.mono (by decide) (by decide)
          have lA : (A (c + 1)).length = (A c).length + 2 * (FF c c (b c)).length := by rw [hA]; exact APk_l hS
          refine cx_aimFrom (s := c) (t := t) e2 hMt (hT.same Es (by decide)) (hO.same Es (by decide)) (TrE.mk H P Es f11 f13 hc) (fun r τ2 M2 E2 J2 g12 on hr => ?_)
          have E22 : Eo FXT AXT σ τ2 := hE.trans (E2.mono (by decide) (by decide))
          refine Z42 (2 * (FF c c (b c)).length + 1) 0 (FF c c (b c)).length r 0 τ2 hS rfl (by omega) (by omega) (by omega) rfl M2 E22 (by rw [E2.1 11 (by decide)]; exact f11) (by rw [E2.1 13 (by decide)]; exact f13) g12 on (by rw [E2.1 15 (by decide)]; exact f15) (fun j y hj hy => ?_)
          have jx : jv τ2 j = jv τ j := by
            unfold jv
            rw [J2]
          rw [jx]
          refine hK j y ?_
          rw [← hy, hA]
          exact (APk_up (k := c) (by omega) (by rw [← hA]; omega)).symm
        · rw [s11] at y
          have nS : ¬ (dC σ 0 c = 0 ∨ dC σ 0 c = 4) := by rw [d0]; exact y
          have eA : A (c + 1) = A c := by rw [hA]; exact APk_n nS
          refine H42 l2 0 0 τ ?_
          unfold b_X7keyAllT_42 b_X7keyAllT_112
          refine ⟨fun _ => ih (c + 1) (l2 + 1) τ (by omega) (by omega) t2 hMt hE f11 f13 (by rw [eA]; exact f15) (by rw [eA]; exact hK), fun w => absurd w (by decide)⟩
  have M1 : CI (sf τ0 15 0) := hM.sf 15 0 ⟨by show (0 : Int) ≤ (0 : Int32).toInt; decide, by show (0 : Int32).toInt ≤ (1000 : Int); decide⟩
  refine Z7 (nCl σ + 1) 0 0 (sf τ0 15 0) (by omega) (by omega) rfl M1 (hE0.sf 15 0 (by decide)) (by rw [sf_other (by decide)]; exact h11) (by rw [sf_other (by decide)]; exact h13) ?_ (fun j y hj => ?_)
  · rw [sf_same, hA]; rfl
  · rw [hA] at hj
    cases hj
set_option maxHeartbeats 1000000 in
theorem cx_layNumberT {Q : VS → Prop} {p1 : Int32} {σ τ0 : VS} {R t N : Nat} {b : Nat → Nat} {sh : Nat → Nat → Int} {nmS : Nat → Nat → Int} {FF : Nat → Nat → Nat → List (List Nat)} {ρ : Nat → Nat} {y : Nat × Nat × List Nat} (h1 : p1.toInt = (N : Int)) (hM0 : CI σ) (hM : CI τ0) (hE0 : Eo FXT AXT σ τ0) (H : LyE σ R b sh) (hW : Wo (dC σ) (nCl σ) ρ) (P : TrP σ R t b nmS FF) (h11 : (τ0.1 11).toInt = ((2 ^ R : Nat) : Int)) (h13 : (τ0.1 13).toInt = (t : Int)) (hy : (APk (dC σ) FF b (nCl σ))[N]? = some y) (hq : ∀ x : VS, CI x → Eo FXT AXT σ x → LayT x (dC σ) (vC σ) (nmS y.1) b (σ.1 4).toInt (dC σ 14 t - vv σ 26 t + sh y.1 t) (sh y.1 t - dC σ 13 t - vv σ 27 t) y.1 y.2.1 y.2.2 → Q x) : wp_X7layNumberT Q p1 τ0 := by
  have H0 := H
  obtain ⟨hT, hO, hC, hWl, hSt, hR, hb0, hbK0, bsh, hsh⟩ := H0
  have P0 := P
  obtain ⟨q1, q2, q3, q4, q5, q6, q7⟩ := P0
  have a2 : 0 ≤ (σ.1 2).toInt ∧ (σ.1 2).toInt ≤ 50 := hM0.1 2
  have en : (σ.1 2).toInt = ((nCl σ : Nat) : Int) := by unfold nCl; omega
  have hL : ∀ c, c < nCl σ → LE2 (dC σ) (vC σ) (vC σ) c := fun c hc => (hSt c hc).1
  obtain ⟨A, hA⟩ : ∃ A : Nat → List (Nat × Nat × List Nat), A = APk (dC σ) FF b := ⟨_, rfl⟩
  rw [← hA] at hy q7
  have Nl := (List.getElem?_eq_some_iff.mp hy).1
  have Ale : ∀ k, k ≤ nCl σ → (A k).length ≤ (A (nCl σ)).length := fun k hk => by rw [hA]; exact APk_le hk
  unfold wp_X7layNumberT
  intro X5 H5
  have Z5 : ∀ (d c r : Nat) (l3 l4 : Int32) (τ : VS), nCl σ + 1 ≤ d + c → c ≤ nCl σ → l3.toInt = (r : Int) → l4.toInt = (c : Int) → N = (A c).length + r → CI τ → Eo FXT AXT σ τ → (τ.1 11).toInt = ((2 ^ R : Nat) : Int) → (τ.1 13).toInt = (t : Int) → X5 l3 l4 τ := by
    intro d
    induction d with
    | zero => intro c r l3 l4 τ a b'; omega
    | succ d ih =>
      intro c r l3 l4 τ a b' e3 e4 eN hMt hE f11 f13
      refine H5 l3 l4 τ ?_
      unfold b_X7layNumberT_5
      rw [hE.1 2 (by decide), en]
      refine ⟨fun z => ?_, fun z => ?_⟩
      · exfalso
        have ec : c = nCl σ := by omega
        rw [ec] at eN
        omega
      · have hc : c < nCl σ := by omega
        have t4 : (l4 + 1).toInt = ((c + 1 : Nat) : Int) := by
          have w := i3_addc (x := l4 + 1) e4 (show (1 : Int32).toInt = 1 from rfl) rfl (by omega)
          omega
        have s11 : vv τ 11 = vv σ 11 := vv_eo hE (by decide)
        have d0 : dC σ 0 c = vv σ 11 c := dC_0 hc
        have lec := Ale (c + 1) hc
        refine cx_isStart (c := c) e4 (by omega) (fun w => ⟨fun v => absurd v (by decide), fun _ => ?_⟩) (fun w => ⟨fun _ => ?_, fun v => absurd rfl v⟩)
        · rw [s11] at w
          have hS : dC σ 0 c = 0 ∨ dC σ 0 c = 4 := by rw [d0]; exact w
          have Es : Eo TF TA σ τ := hE.mono (by decide) (by decide)
          have lA : (A (c + 1)).length = (A c).length + 2 * (FF c c (b c)).length := by rw [hA]; exact APk_l hS
          refine cx_aimFrom (s := c) (t := t) e4 hMt (hT.same Es (by decide)) (hO.same Es (by decide)) (TrE.mk H P Es f11 f13 hc) (fun k0 τ2 M2 E2 J2 g12 on hr => ?_)
          obtain ⟨f, hf⟩ : ∃ f, f = (FF c c (b c)).length := ⟨_, rfl⟩
          rw [← hf] at hr lA
          have e0 : k0.toInt = (f : Int) := by omega
          have E22 : Eo FXT AXT σ τ2 := hE.trans (E2.mono (by decide) (by decide))
          have E2s : Eo TF TA σ τ2 := E22.mono (by decide) (by decide)
          have g11 : (τ2.1 11).toInt = ((2 ^ R : Nat) : Int) := by rw [E2.1 11 (by decide)]; exact f11
          have g13 : (τ2.1 13).toInt = (t : Int) := by rw [E2.1 13 (by decide)]; exact f13
          unfold b_X7layNumberT_39
          have u3 : (2 * k0).toInt = 2 * (f : Int) := i3_mulc rfl e0 rfl (by have v : (2 : Int32).toInt = 2 := rfl; omega)
          rw [u3]
          refine ⟨fun v x5 ex5 => ?_, fun v => ?_⟩
          · have t5 : x5.toInt = ((r - 2 * f : Nat) : Int) := by
              have u := i3_subc (x := x5) e3 u3 ex5 (by omega)
              omega
            exact ih (c + 1) (r - 2 * f) x5 (l4 + 1) τ2 (by omega) (by omega) t5 t4 (by omega) M2 E22 g11 g13
          · have f0 : 0 < f := by omega
            have n3 : ¬ k0 = 0 := i3_nz (by omega)
            obtain ⟨p, hp⟩ := get_ex (L := FF c c (b c)) (j := r % f) (by rw [← hf]; exact Nat.mod_lt r f0)
            have dv := div_x e3 e0 f0 (by omega)
            have pm := List.mem_of_getElem? hp
            have o : vC σ 1 c = 0 := FP_opn hW hL (q6 c) q2 q4 c hc _ p pm
            have ng : ¬ gN (dC σ) c := fun g => by
              have g1 := g.1
              have g2 := g.2
              omega
            have pl := FP_pl hW (q6 c) hc ng pm
            have i2 : r / f < 2 := Nat.div_lt_of_lt_mul (by omega)
            have im := Nat.mod_lt r f0
            have at' := APk_at (D := dC σ) (FF := FF) (b := b) hS hf (by omega) hp
            rw [← hA] at at'
            have up := APk_up (D := dC σ) (FF := FF) (b := b) (k := c + 1) (n := nCl σ) (j := (A c).length + r) hc (by rw [← hA]; omega)
            rw [← hA, at', ← eN, hy] at up
            injection up with up
            refine ⟨n3, n3, cx_layT (e := r / f) (k := r % f) (p := p) hM0 M2 E2s H hW (TrE.mk H P E2s g11 g13 hc) g12 on dv.1 i2 dv.2 (by omega) hp (by omega) q2 q3 q4 ⟨hS, o⟩ (fun x Mx Ex Jx Lx => ?_)⟩
            refine hq x Mx (E22.trans (Ex.mono (by decide) (by decide))) ?_
            rw [up]
            exact Lx
        · rw [s11] at w
          have nS : ¬ (dC σ 0 c = 0 ∨ dC σ 0 c = 4) := by rw [d0]; exact w
          have eA : A (c + 1) = A c := by rw [hA]; exact APk_n nS
          unfold b_X7layNumberT_39
          have u3 : (2 * (0 : Int32)).toInt = 0 := by decide
          rw [u3]
          refine ⟨fun v x5 ex5 => ?_, fun v => by omega⟩
          have t5 : x5.toInt = (r : Int) := by
            have u := i3_subc (x := x5) e3 u3 ex5 (by omega)
            omega
          exact ih (c + 1) r x5 (l4 + 1) τ (by omega) (by omega) t5 t4 (by rw [eA]; exact eN) hMt hE f11 f13
  exact Z5 (nCl σ + 1) 0 N p1 0 τ0 (by omega) (by omega) h1 rfl (by rw [hA]; show N = 0 + N; omega) hM hE0 h11 h13
theorem cx_traceT {Q : VS → Prop} {p1 p2 : Int32} {σ : VS} {R t k : Nat} {b : Nat → Nat} {sh : Nat → Nat → Int} {nmS : Nat → Nat → Int} {FF : Nat → Nat → Nat → List (List Nat)} {ρ : Nat → Nat} (h1 : p1.toInt = (t : Int)) (h2 : p2.toInt = (k : Int)) (hM : CI σ) (H : LyE σ R b sh) (hW : Wo (dC σ) (nCl σ) ρ) (P : TrP σ R t b nmS FF) (hk : k < (APk (dC σ) FF b (nCl σ)).length) (hq : ∀ (x : VS) (i : Nat) (y : Nat × Nat × List Nat), CI x → Eo FXT AXT σ x → (APk (dC σ) FF b (nCl σ))[i]? = some y → KR (kap (APk (dC σ) FF b (nCl σ)) (slkA (dC σ) (vC σ) nmS b (σ.1 4).toInt (fun s => dC σ 14 t - vv σ 26 t + sh s t))) (APk (dC σ) FF b (nCl σ)).length k i → LayT x (dC σ) (vC σ) (nmS y.1) b (σ.1 4).toInt (dC σ 14 t - vv σ 26 t + sh y.1 t) (sh y.1 t - dC σ 13 t - vv σ 27 t) y.1 y.2.1 y.2.2 → Q x) : wp_X7traceT Q p1 p2 σ := by
  have P0 := P
  obtain ⟨q1, q2, q3, q4, q5, q6, q7⟩ := P0
  have hR := H.2.2.2.2.2.1
  have hR4 : 0 ≤ (σ.1 6).toInt ∧ (σ.1 6).toInt ≤ 4 := hM.1 6
  have kk := K_le R (by omega)
  have a2 : 0 ≤ (σ.1 2).toInt ∧ (σ.1 2).toInt ≤ 50 := hM.1 2
  have n50 : nCl σ ≤ 50 := by unfold nCl; omega
  unfold wp_X7traceT wp_X3masks b_X7traceT_53
  obtain ⟨r1, hr1⟩ : ∃ r1 : Int32, r1 = 1 <<< ((σ.1 6) &&& 31) := ⟨_, rfl⟩
  have t1 : r1.toInt = ((2 ^ R : Nat) : Int) := by rw [hr1]; exact shl_x hR (by omega)
  rw [← hr1]
  have M1 : CI (sf (sf σ 11 r1) 13 p1) := (hM.sf 11 r1 ⟨by show (1 : Int) ≤ _; omega, by show _ ≤ (16 : Int); omega⟩).sf 13 p1 ⟨by show (0 : Int) ≤ _; omega, by show _ ≤ (49 : Int); omega⟩
  refine cx_keyAllT hM M1 ((Eo.rfl.sf 11 r1 (by decide)).sf 13 p1 (by decide)) H hW P (by rw [sf_other (by decide), sf_same]; exact t1) (by rw [sf_same]; exact h1) (fun x Mx Ex x11 x13 x15 hK => ?_)
  obtain ⟨A, hA⟩ : ∃ A : List (Nat × Nat × List Nat), A = APk (dC σ) FF b (nCl σ) := ⟨_, rfl⟩
  obtain ⟨sl, hsl⟩ : ∃ sl : Nat × Nat × List Nat → Int, sl = slkA (dC σ) (vC σ) nmS b (σ.1 4).toInt (fun s => dC σ 14 t - vv σ 26 t + sh s t) := ⟨_, rfl⟩
  rw [← hA, ← hsl] at hq
  rw [← hA] at hk x15 q7
  rw [← hA, ← hsl] at hK
  have ek : ∀ j, j < A.length → jv x j = kap A sl j := fun j hj => by
    obtain ⟨y, hy⟩ := get_ex hj
    rw [hK j y hy, kap_s hy]
  have ij : Ij A.length (kap A sl) := kap_ij (by omega)
  refine cx_sortKeys (q := A.length) Mx x15 (fun i j hi hj e => ij i j hi hj (by rw [← ek i hi, ← ek j hj]; exact e)) (fun x2 M2 E2 R2 S2 => ?_)
  have x215 : (x2.1 15).toInt = ((A.length : Nat) : Int) := by rw [E2.1 15 (fun z => by cases z)]; exact x15
  refine ⟨fun z => by omega, fun _ => ⟨fun z => by omega, fun _ => ⟨⟨by omega, by omega⟩, ?_⟩⟩⟩
  have rg : ∀ v, Rg A.length (kap A sl) v ↔ Rg A.length (jv x2) v := fun v => by
    refine Iff.trans ⟨fun ⟨i, hi, e⟩ => ⟨i, hi, by rw [ek i hi]; exact e⟩, fun ⟨i, hi, e⟩ => ⟨i, hi, by rw [← ek i hi]; exact e⟩⟩ (R2 v)
  obtain ⟨i, hi, ei⟩ := (rg (jv x2 k)).mpr ⟨k, hk, rfl⟩
  obtain ⟨y, hy⟩ := get_ex hi
  have kv : (rdj x2 54 p2).toInt = sl y * 1024 + (i : Int) := by rw [jv_rdj h2, ← ei, kap_s hy]
  have Ex2 : Eo FXT AXT σ x2 := Ex.trans (E2.mono (fun k hk => by cases hk) (fun k hk => by cases hk))
  refine cx_layNumberT (N := i) (y := y) (j6_and kv (by omega)) hM M2 Ex2 H hW P (by rw [E2.1 11 (fun z => by cases z)]; exact x11) (by rw [E2.1 13 (fun z => by cases z)]; exact x13) (by rw [← hA]; exact hy) (fun x3 M3 E3 L3 => ?_)
  exact hq x3 i y M3 E3 hy ⟨jv x2, S2, rg, ei.symm, hi⟩ L3
