/-! THE RACE: ONE ARC IS PASSED -/
theorem ix_div {a K t : Nat} (h : t < K) : (a * K + t) / K = a := by
  rw [Nat.add_comm, Nat.add_mul_div_right _ _ (by omega), Nat.div_eq_of_lt h, Nat.zero_add]
theorem ix_lt {a K t : Nat} (ha : a < 100) (hK : K ≤ 16) (h : t < K) : a * K + t < 1600 := by
  have q : (a + 1) * K ≤ 100 * 16 := Nat.mul_le_mul (by omega) hK
  rw [Nat.succ_mul] at q
  omega
theorem ix_in {a a' K t t' : Nat} (h : t < K) (h' : t' < K) (e : a * K + t = a' * K + t') : a = a' ∧ t = t' := by
  have q1 := ix_div (a := a) h
  have q2 := ix_div (a := a') h'
  rw [e, q2] at q1
  subst q1
  exact ⟨rfl, by omega⟩
theorem ix_i {x : Int32} {a K t : Nat} {y z : Int32} (hy : y.toInt = ((a * K : Nat) : Int)) (hz : z.toInt = (t : Int)) (ha : a < 100) (hK : K ≤ 16) (h : t < K) (e : x = y + z) : x.toInt = ((a * K + t : Nat) : Int) := by
  have q := ix_lt ha hK h
  have r := i3_addc (x := x) hy hz e (by omega)
  omega
theorem ix_m {x y z : Int32} {a K : Nat} (hy : y.toInt = (a : Int)) (hz : z.toInt = (K : Int)) (ha : a < 100) (hK : K ≤ 16) (e : x = y * z) : x.toInt = ((a * K : Nat) : Int) := by
  have q : a * K ≤ 100 * 16 := Nat.mul_le_mul (by omega) hK
  have w : (a : Int) * (K : Int) = ((a * K : Nat) : Int) := (Int.natCast_mul a K).symm
  have r := i3_mulc (x := x) hy hz e (by rw [w]; omega)
  rw [r, w]
theorem cx_merge {Q : VS → Prop} {p1 p2 p3 p4 : Int32} {σ : VS} {x : Nat} (h1 : p1.toInt = (x : Int)) (hx : x < 1600) (hM : CI σ) (hw : 0 ≤ vv σ 47 x ∧ vv σ 47 x ≤ 1000) (h2 : 0 ≤ p2.toInt ∧ p2.toInt ≤ 1000) (hq : ∀ σ' : VS, CI σ' → Eo [] [47, 48, 49] σ σ' → vv σ' 47 = fu (vv σ 47) x (min 1000 (vv σ 47 x + p2.toInt)) → vv σ' 48 = fu (vv σ 48) x (if vv σ 47 x = 0 then p3.toInt else max (vv σ 48 x) p3.toInt) → vv σ' 49 = fu (vv σ 49) x (if vv σ 47 x = 0 then p4.toInt else min (vv σ 49 x) p4.toInt) → Q σ') : wp_X2merge Q p1 p2 p3 p4 σ := by
  have r47 : (rd σ 47 p1).toInt = vv σ 47 x := vv_rd h1
  have fin : ∀ W1 W2 : Int32, W1.toInt = (if vv σ 47 x = 0 then p3.toInt else max (vv σ 48 x) p3.toInt) → W2.toInt = (if vv σ 47 x = 0 then p4.toInt else min (vv σ 49 x) p4.toInt) → Q (sa (sa (sa σ 48 p1 W1) 49 p1 W2) 47 p1 (imin 1000 ((rd (sa (sa σ 48 p1 W1) 49 p1 W2) 47 p1) + p2))) := by
    intro W1 W2 w1 w2
    have i1000 : (1000 : Int32).toInt = 1000 := rfl
    have r : (rd (sa (sa σ 48 p1 W1) 49 p1 W2) 47 p1).toInt = vv σ 47 x := by rw [vv_rd h1, vv_so (show 47 ≠ 49 by decide), vv_so (show 47 ≠ 48 by decide)]
    obtain ⟨W3, hW3⟩ : ∃ W3 : Int32, W3 = imin 1000 ((rd (sa (sa σ 48 p1 W1) 49 p1 W2) 47 p1) + p2) := ⟨_, rfl⟩
    have w3 : W3.toInt = min 1000 (vv σ 47 x + p2.toInt) := by rw [hW3, imin_x, i1000, i3_addc (x := (rd (sa (sa σ 48 p1 W1) 49 p1 W2) 47 p1) + p2) r rfl rfl (by omega)]
    rw [← hW3]
    refine hq _ (((hM.sa 48 p1 W1 (i3_bd _)).sa 49 p1 W2 (i3_bd _)).sa 47 p1 W3 (i3_bd _)) (((Eo.rfl.sa 48 p1 W1 (by decide)).sa 49 p1 W2 (by decide)).sa 47 p1 W3 (by decide)) ?_ ?_ ?_
    · rw [vv_sa _ 47 p1 W3 h1, vv_so (show 47 ≠ 49 by decide), vv_so (show 47 ≠ 48 by decide), w3]
    · rw [vv_so (show 48 ≠ 47 by decide), vv_so (show 48 ≠ 49 by decide), vv_sa σ 48 p1 W1 h1, w1]
    · rw [vv_so (show 49 ≠ 47 by decide), vv_sa _ 49 p1 W2 h1, vv_so (show 49 ≠ 48 by decide), w2]
  have h28 : ∀ W1 : Int32, W1.toInt = (if vv σ 47 x = 0 then p3.toInt else max (vv σ 48 x) p3.toInt) → b_X2merge_28 Q p1 p2 p4 W1 p1 σ := by
    intro W1 w1
    have r : (rd (sa σ 48 p1 W1) 47 p1).toInt = vv σ 47 x := by rw [vv_rd h1, vv_so (show 47 ≠ 48 by decide)]
    unfold b_X2merge_28 b_X2merge_59
    rw [r]
    refine ⟨⟨by omega, by omega⟩, ⟨by omega, by omega⟩, fun k => ⟨⟨by omega, by omega⟩, ⟨by omega, by omega⟩, ⟨by omega, by omega⟩, ⟨by omega, by omega⟩, fin W1 _ w1 ?_⟩, fun k => ⟨⟨by omega, by omega⟩, ⟨by omega, by omega⟩, ⟨by omega, by omega⟩, fin W1 p4 w1 ?_⟩⟩
    · rw [if_neg k, imin_x, vv_rd h1, vv_so (show 49 ≠ 48 by decide)]
    · rw [if_pos k]
  unfold wp_X2merge
  rw [r47]
  refine ⟨⟨by omega, by omega⟩, fun k => ⟨⟨by omega, by omega⟩, h28 _ ?_⟩, fun k => h28 p3 ?_⟩
  · rw [if_neg k, imax_x, vv_rd h1]
  · rw [if_pos k]
/-- the summaries of one output, in the arrays -/
def RO (b : Nat → Nat) (s K : Nat) (La Ea : List Nat → Nat → Int) (L : List (List Nat)) (c e : Nat) (τ : VS) : Prop := ∀ t, t < K → SpO b s La Ea L e t (vv τ 47 ((2 * c + e) * K + t)) (vv τ 48 ((2 * c + e) * K + t)) (vv τ 49 ((2 * c + e) * K + t))
def Fw (K a : Nat) (τ τ' : VS) : Prop := ∀ j, j / K ≠ a → vv τ' 47 j = vv τ 47 j ∧ vv τ' 48 j = vv τ 48 j ∧ vv τ' 49 j = vv τ 49 j
theorem RO.same {b : Nat → Nat} {s K : Nat} {La Ea : List Nat → Nat → Int} {L : List (List Nat)} {c e a : Nat} {τ τ' : VS} (h : RO b s K La Ea L c e τ) (f : Fw K a τ τ') (hne : 2 * c + e ≠ a) : RO b s K La Ea L c e τ' := fun t ht => by
  have q := f ((2 * c + e) * K + t) (by rw [ix_div ht]; exact hne)
  rw [q.1, q.2.1, q.2.2]
  exact h t ht
theorem SpO.val {b : Nat → Nat} {s : Nat} {La Ea : List Nat → Nat → Int} {L : List (List Nat)} {e t : Nat} {w l g : Int} (h : SpO b s La Ea L e t w l g) (hw : 0 < w) : ∃ p q, p ∈ L ∧ q ∈ L ∧ mkP b s p = t ∧ La p e = l ∧ Ea q e = g := by
  obtain ⟨_, ⟨x1, y1, ⟨p1, i1, j1, k1, m1⟩, e1⟩, ⟨x2, y2, ⟨p2, i2, j2, k2, m2⟩, e2⟩⟩ := h.2.2 ((Sm3.pos h).mp hw)
  exact ⟨p1, p2, i1, i2, j1, by omega, by omega⟩
set_option maxHeartbeats 1000000 in
theorem cx_passArc {Q : VS → Prop} {p1 p2 : Int32} {σ : VS} {c i e s K sr fe : Nat} {b : Nat → Nat} {La Ea : List Nat → Nat → Int} {Lt Ls : List (List Nat)} {dl de : Int} (h1 : p1.toInt = 4 * (c : Int) + (i : Int)) (hc : c < 50) (hi : i < 4) (h2 : p2.toInt = (e : Int)) (he : e < 2) (hM : CI σ) (hK : (σ.1 9).toInt = (K : Int)) (hK1 : 1 ≤ K ∧ K ≤ 16) (hor : ∀ x y, x < K → y < K → x ||| y < K) (hb : vv σ 35 c = ((b c : Nat) : Int)) (hbK : b c < K) (hbm : ∀ p, p ∈ Ls → mkP b s p < K) (hs : vv σ 16 (4 * c + i) = (sr : Int)) (hs50 : sr < 50) (hne : sr ≠ c) (hfe : fe = (if vv σ 11 c = 2 then 1 - e else e)) (hdl : vv σ 41 (8 * c + 2 * i + e) = dl) (hde : vv σ 42 (8 * c + 2 * i + e) = de) (bd : (0 ≤ dl ∧ dl ≤ 6000) ∧ 0 ≤ de ∧ de ≤ 6000) (bp : ∀ p, p ∈ Ls → (0 ≤ La p fe ∧ La p fe ≤ 3000000) ∧ 0 ≤ Ea p fe ∧ Ea p fe ≤ 3000000) (hLa : ∀ p, p ∈ Ls → La ((4 * c + i) :: p) e = La p fe + dl) (hEa : ∀ p, p ∈ Ls → Ea ((4 * c + i) :: p) e = Ea p fe + de) (hS : RO b s K La Ea Ls sr fe σ) (hT : RO b s K La Ea Lt c e σ)
    (hq : ∀ σ' : VS, CI σ' → Eo [] [47, 48, 49] σ σ' → Fw K (2 * c + e) σ σ' → RO b s K La Ea (Lt ++ Ls.map (fun p => (4 * c + i) :: p)) c e σ' → Q σ') : wp_X2passArc Q p1 p2 σ := by
  have fe2 : fe < 2 := by
    rw [hfe]
    by_cases z : vv σ 11 c = 2
    · rw [if_pos z]; omega
    · rw [if_neg z]; exact he
  have dw : (4 * c + i) / 4 = c := by omega
  unfold wp_X2passArc
  intro X88 H x1 e1
  have t1 : x1.toInt = (c : Int) := by
    have a := i3_divc (x := x1) h1 (show (4 : Int32).toInt = 4 from rfl) e1 (by omega) (by decide)
    omega
  clear e1
  have r16 : (rd σ 16 p1).toInt = (sr : Int) := by rw [vv_rd (n := 4 * c + i) (by omega), hs]
  have r11 : (rd σ 11 x1).toInt = vv σ 11 c := vv_rd t1
  have u1 : (rd σ 16 p1 * 2).toInt = (sr : Int) * 2 := i3_mulc r16 rfl rfl (by omega)
  have v1 : (p1 * 2).toInt = (4 * (c : Int) + (i : Int)) * 2 := i3_mulc h1 rfl rfl (by omega)
  have v2 : (p1 * 2 + p2).toInt = (4 * (c : Int) + (i : Int)) * 2 + (e : Int) := i3_addc v1 h2 rfl (by omega)
  have v3 : (p1 * 2 + p2).toInt = ((8 * c + 2 * i + e : Nat) : Int) := by omega
  have w1 : (x1 * 2).toInt = (c : Int) * 2 := i3_mulc t1 rfl rfl (by omega)
  have w2 : (x1 * 2 + p2).toInt = ((2 * c + e : Nat) : Int) := by
    have q := i3_addc (x := x1 * 2 + p2) w1 h2 rfl (by omega)
    omega
  have go : ∀ k0 : Int32, k0.toInt = (fe : Int) → b_X2passArc_35 X88 Q p1 p2 x1 k0 (rd σ 16 p1 * 2) σ := by
    intro k0 hk0
    unfold b_X2passArc_35
    intro x2 e2 x3 e3
    have f1 : (rd σ 16 p1 * 2 + k0).toInt = ((2 * sr + fe : Nat) : Int) := by
      have q := i3_addc (x := rd σ 16 p1 * 2 + k0) u1 hk0 rfl (by omega)
      omega
    have t2 : x2.toInt = (((2 * sr + fe) * K : Nat) : Int) := ix_m f1 hK (by omega) hK1.2 e2
    have t3 : x3.toInt = (((2 * c + e) * K : Nat) : Int) := ix_m w2 hK (by omega) hK1.2 e3
    clear e2 e3
    refine ⟨⟨by omega, by omega⟩, fun x4 e4 => ⟨⟨by omega, by omega⟩, fun x5 e5 => ?_⟩⟩
    have t4 : x4.toInt = dl := by rw [e4, vv_rd v3, hdl]
    have t5 : x5.toInt = de := by rw [e5, vv_rd v3, hde]
    clear e4 e5
    have L : ∀ (d k : Nat) (l8 : Int32) (τ : VS), K + 1 ≤ d + k → k ≤ K → l8.toInt = (k : Int) → CI τ → Eo [] [47, 48, 49] σ τ → Fw K (2 * c + e) σ τ → (∀ t, t < K → SpA b s La Ea Lt Ls e fe (b c) dl de t k (vv τ 47 ((2 * c + e) * K + t)) (vv τ 48 ((2 * c + e) * K + t)) (vv τ 49 ((2 * c + e) * K + t))) → X88 x1 x2 x3 x4 x5 l8 τ := by
      intro d
      induction d with
      | zero => intro k l8 τ a b'; omega
      | succ d ih =>
        intro k l8 τ a b' e8 hMt hE hF hA
        refine H x1 x2 x3 x4 x5 l8 τ ?_
        unfold b_X2passArc_88 b_X2passArc_160
        have k9 : (τ.1 9).toInt = (K : Int) := by rw [hE.1 9 (by decide)]; exact hK
        rw [k9]
        refine ⟨fun z => ?_, fun z => ?_⟩
        · have ek : k = K := by omega
          refine hq τ hMt hE hF (fun t ht => ?_)
          have q := hA t ht
          rw [ek] at q
          have q2 : SpA b s La Ea Lt Ls e fe (b ((4 * c + i) / 4)) dl de t K (vv τ 47 ((2 * c + e) * K + t)) (vv τ 48 ((2 * c + e) * K + t)) (vv τ 49 ((2 * c + e) * K + t)) := by rw [dw]; exact q
          exact q2.done hbm hLa hEa
        · have hk : k < K := by omega
          have t8 : (l8 + 1).toInt = ((k + 1 : Nat) : Int) := by
            have q := i3_addc (x := l8 + 1) e8 (show (1 : Int32).toInt = 1 from rfl) rfl (by omega)
            omega
          intro x6 e6
          have t6 : x6.toInt = (((2 * sr + fe) * K + k : Nat) : Int) := ix_i t2 e8 (by omega) hK1.2 hk e6
          clear e6
          have lt6 := ix_lt (a := 2 * sr + fe) (K := K) (t := k) (by omega) hK1.2 hk
          have fr := hF ((2 * sr + fe) * K + k) (by rw [ix_div hk]; omega)
          have src := hS k hk
          rw [← fr.1, ← fr.2.1, ← fr.2.2] at src
          have r47 : (rd τ 47 x6).toInt = vv τ 47 ((2 * sr + fe) * K + k) := vv_rd t6
          have r48 : (rd τ 48 x6).toInt = vv τ 48 ((2 * sr + fe) * K + k) := vv_rd t6
          have r49 : (rd τ 49 x6).toInt = vv τ 49 ((2 * sr + fe) * K + k) := vv_rd t6
          have wb := src.1
          refine ⟨⟨by omega, by omega⟩, fun z2 => ?_, fun z2 => ?_⟩
          · rw [r47] at z2
            have n0 : ∀ p, p ∈ Ls → mkP b s p ≠ k := fun p hp q => by
              have n1 := (cP_pos (φ := fun p => mkP b s p = k) Ls).mpr ⟨p, hp, q⟩
              have n2 := (Sm3.pos src).mpr n1
              omega
            exact ih (k + 1) (l8 + 1) τ (by omega) (by omega) t8 hMt hE hF (fun t ht => (hA t ht).keep (fun p hp q => absurd q (n0 p hp)))
          · rw [r47] at z2
            obtain ⟨pp, qq, m1, m2, _, ev1, ev2⟩ := src.val z2
            have b1 := (bp pp m1).1
            have b2 := (bp qq m2).2
            refine ⟨⟨by omega, by omega⟩, ⟨by omega, by omega⟩, ⟨by omega, by omega⟩, ⟨by omega, by omega⟩, ?_⟩
            have rb : (rd τ 35 x1).toInt = ((b c : Nat) : Int) := by rw [vv_rd t1, vv_eo hE (by decide), hb]
            have ob : (l8 ||| rd τ 35 x1).toInt = ((k ||| b c : Nat) : Int) := or_nat e8 rb (by omega) (by omega)
            have okt := hor k (b c) hk hbK
            have tx : (x3 + (l8 ||| rd τ 35 x1)).toInt = (((2 * c + e) * K + (k ||| b c) : Nat) : Int) := ix_i t3 ob (by omega) hK1.2 okt rfl
            have tl : (rd τ 48 x6 + x4).toInt = vv τ 48 ((2 * sr + fe) * K + k) + dl := i3_addc r48 t4 rfl (by omega)
            have tg : (rd τ 49 x6 + x5).toInt = vv τ 49 ((2 * sr + fe) * K + k) + de := i3_addc r49 t5 rfl (by omega)
            have tgt := hA (k ||| b c) okt
            have wt := tgt.1
            refine cx_merge (x := (2 * c + e) * K + (k ||| b c)) tx (ix_lt (by omega) hK1.2 okt) hMt (by omega) (by omega) (fun τ2 M2 E2 g1 g2 g3 => ?_)
            rw [r47] at g1
            rw [tl] at g2
            rw [tg] at g3
            refine ih (k + 1) (l8 + 1) τ2 (by omega) (by omega) t8 M2 (hE.trans E2) (fun j hj => ?_) (fun t ht => ?_)
            · have ne : j ≠ (2 * c + e) * K + (k ||| b c) := fun q => hj (by rw [q, ix_div okt])
              have q := hF j hj
              rw [g1, g2, g3, fu_ne ne, fu_ne ne, fu_ne ne]
              exact q
            · rw [g1, g2, g3]
              by_cases q : t = k ||| b c
              · rw [q, fu_eq, fu_eq, fu_eq]
                exact tgt.merge rfl src z2
              · have ne : (2 * c + e) * K + t ≠ (2 * c + e) * K + (k ||| b c) := by omega
                rw [fu_ne ne, fu_ne ne, fu_ne ne]
                exact (hA t ht).keep (fun p hp w => fun w2 => q w2.symm)
    exact L (K + 1) 0 0 σ (by omega) (by omega) rfl hM Eo.rfl (fun j _ => ⟨rfl, rfl, rfl⟩) (fun t ht => SpA.start (hT t ht))
  refine ⟨⟨by omega, by omega⟩, ⟨by omega, by omega⟩, fun z => go p2 ?_, fun z => go (1 - p2) ?_⟩
  · rw [r11] at z
    rw [hfe, if_neg z]; exact h2
  · rw [r11] at z
    rw [hfe, if_pos z]
    have q := i3_subc (x := 1 - p2) (show (1 : Int32).toInt = 1 from rfl) h2 rfl (by omega)
    omega
