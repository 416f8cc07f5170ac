/-! THE REFERENCE: ONE ARC -/
section
variable {X32 : Int32 → Int32 → Int32 → Int32 → VS → Prop} {X44 : Int32 → Int32 → Int32 → Int32 → Int32 → Int32 → VS → Prop} {Q : VS → Prop}
theorem rx_arc2 {l1 l4 l5 l6 l7 l8 l13 l15 l16 l17 l18 k0 : Int32} {σ : VS} {c i e : Nat} (h1 : l1.toInt = (c : Int)) (hc : c < 50) (hi : i < 4) (h6 : l6.toInt = (e : Int)) (he : e < 2) (h13 : l13.toInt = ((8 * c + 2 * i + e : Nat) : Int)) (b15 : 0 ≤ l15.toInt ∧ l15.toInt ≤ 3000) (b16 : 0 ≤ l16.toInt ∧ l16.toInt ≤ 3000) (b17 : 0 ≤ l17.toInt ∧ l17.toInt ≤ 3000) (b18 : 0 ≤ l18.toInt ∧ l18.toInt ≤ 3000) (bk : 0 ≤ k0.toInt ∧ k0.toInt ≤ 1000) (hM : MI σ)
    (K : ∀ τ : VS, MI τ → Eo [] [36, 37, 38, 39] σ τ → vv τ 36 = fu (vv σ 36) (8 * c + 2 * i + e) (dlA l15.toInt (σ.1 18).toInt k0.toInt) → vv τ 37 = fu (vv σ 37) (8 * c + 2 * i + e) (deA l17.toInt (σ.1 19).toInt k0.toInt) → vv τ 38 = fu (vv σ 38) (2 * c + e) (if l7.toInt = 0 then l16.toInt else max (vv σ 38 (2 * c + e)) l16.toInt) → vv τ 39 = fu (vv σ 39) (2 * c + e) (if l7.toInt = 0 then l18.toInt else min (vv σ 39 (2 * c + e)) l18.toInt) → X44 l1 l4 l5 l6 1 (l8 + 1) τ) : b_arcs_323 X32 X44 Q l1 l4 l5 l6 l7 l8 l13 l15 l16 l17 l18 k0 σ := by
  have kl : 0 ≤ (σ.1 18).toInt ∧ (σ.1 18).toInt ≤ 500 := hM.1 18
  have ke : 0 ≤ (σ.1 19).toInt ∧ (σ.1 19).toInt ≤ 500 := hM.1 19
  unfold b_arcs_323
  have m1 := mu_bd (a := l15.toInt) (b := 1000 + (σ.1 18).toInt) (A := 3000) (B := 1500) b15 ⟨by omega, by omega⟩
  have m2 := mu_bd (a := l17.toInt) (b := 1000 - (σ.1 19).toInt) (A := 3000) (B := 1000) b17 ⟨by omega, by omega⟩
  have i999 : (999 : Int64).toInt = 999 := rfl
  have i1000 : (1000 : Int64).toInt = 1000 := rfl
  have s1 : (1000 + σ.1 18).toInt = 1000 + (σ.1 18).toInt := i3_addc rfl rfl rfl (by have q : (1000 : Int32).toInt = 1000 := rfl; omega)
  have s2 : (l15.toInt64 * (1000 + σ.1 18).toInt64).toInt = l15.toInt * (1000 + (σ.1 18).toInt) := by
    have q : (l15.toInt64 * (1000 + σ.1 18).toInt64).toInt = l15.toInt64.toInt * (1000 + σ.1 18).toInt64.toInt := i6_mul rfl (by rw [i6_of, i6_of, s1]; omega)
    rw [q, i6_of, i6_of, s1]
  have s3 : (l15.toInt64 * (1000 + σ.1 18).toInt64 + (999 : Int64)).toInt = l15.toInt * (1000 + (σ.1 18).toInt) + 999 := by
    have q : (l15.toInt64 * (1000 + σ.1 18).toInt64 + (999 : Int64)).toInt = (l15.toInt64 * (1000 + σ.1 18).toInt64).toInt + (999 : Int64).toInt := i6_add rfl (by rw [s2, i999]; omega)
    rw [q, s2, i999]
  have s4 : ((l15.toInt64 * (1000 + σ.1 18).toInt64 + (999 : Int64)) / (1000 : Int64)).toInt = (l15.toInt * (1000 + (σ.1 18).toInt) + 999) / 1000 := by
    have q := i6_div (x := (l15.toInt64 * (1000 + σ.1 18).toInt64 + (999 : Int64)) / (1000 : Int64)) rfl (by rw [s3]; omega) (by decide)
    rw [q, s3, i1000]
  have s5 : (((l15.toInt64 * (1000 + σ.1 18).toInt64 + (999 : Int64)) / (1000 : Int64)).toInt32).toInt = (l15.toInt * (1000 + (σ.1 18).toInt) + 999) / 1000 := by
    have q := i6_to (x := ((l15.toInt64 * (1000 + σ.1 18).toInt64 + (999 : Int64)) / (1000 : Int64)).toInt32) rfl (by rw [s4]; omega)
    rw [q, s4]
  obtain ⟨V1, hV1⟩ : ∃ V1 : Int32, V1 = ((((((((l15).toInt64) * (((1000 + (σ.1 18))).toInt64)) + (999 : Int64)) / (1000 : Int64))).toInt32) + k0) := ⟨_, rfl⟩
  have y1 : V1.toInt = dlA l15.toInt (σ.1 18).toInt k0.toInt := by
    have q := i3_addc (x := V1) s5 rfl hV1 (by omega)
    exact q
  rw [← hV1]
  have z1 : (1000 - (sa σ 36 l13 V1).1 19).toInt = 1000 - (σ.1 19).toInt := i3_subc rfl (show ((sa σ 36 l13 V1).1 19).toInt = (σ.1 19).toInt from rfl) rfl (by have q : (1000 : Int32).toInt = 1000 := rfl; omega)
  have z2 : (l17.toInt64 * (1000 - (sa σ 36 l13 V1).1 19).toInt64).toInt = l17.toInt * (1000 - (σ.1 19).toInt) := by
    have q : (l17.toInt64 * (1000 - (sa σ 36 l13 V1).1 19).toInt64).toInt = l17.toInt64.toInt * (1000 - (sa σ 36 l13 V1).1 19).toInt64.toInt := i6_mul rfl (by rw [i6_of, i6_of, z1]; omega)
    rw [q, i6_of, i6_of, z1]
  have z4 : ((l17.toInt64 * (1000 - (sa σ 36 l13 V1).1 19).toInt64) / (1000 : Int64)).toInt = l17.toInt * (1000 - (σ.1 19).toInt) / 1000 := by
    have q := i6_div (x := (l17.toInt64 * (1000 - (sa σ 36 l13 V1).1 19).toInt64) / (1000 : Int64)) rfl (by rw [z2]; omega) (by decide)
    rw [q, z2, i1000]
  have z5 : (((l17.toInt64 * (1000 - (sa σ 36 l13 V1).1 19).toInt64) / (1000 : Int64)).toInt32).toInt = l17.toInt * (1000 - (σ.1 19).toInt) / 1000 := by
    have q := i6_to (x := ((l17.toInt64 * (1000 - (sa σ 36 l13 V1).1 19).toInt64) / (1000 : Int64)).toInt32) rfl (by rw [z4]; omega)
    rw [q, z4]
  obtain ⟨V2, hV2⟩ : ∃ V2 : Int32, V2 = (((((((l17).toInt64) * (((1000 - ((sa σ 36 l13 V1).1 19))).toInt64)) / (1000 : Int64))).toInt32) + k0) := ⟨_, rfl⟩
  have y2 : V2.toInt = deA l17.toInt (σ.1 19).toInt k0.toInt := by
    have q := i3_addc (x := V2) z5 rfl hV2 (by omega)
    exact q
  rw [← hV2]
  clear s1 s2 s3 s4 s5 z1 z2 z4 z5 hV1 hV2 m1 m2
  obtain ⟨S, hS⟩ : ∃ S : VS, S = sa (sa σ 36 l13 V1) 37 l13 V2 := ⟨_, rfl⟩
  have MS : MI S := by rw [hS]; exact (hM.sa 36 l13 V1 (i3_bd _)).sa 37 l13 V2 (i3_bd _)
  have ES : Eo [] [36, 37, 38, 39] σ S := by rw [hS]; exact (Eo.rfl.sa 36 l13 V1 (by decide)).sa 37 l13 V2 (by decide)
  have s36 : vv S 36 = fu (vv σ 36) (8 * c + 2 * i + e) V1.toInt := by rw [hS, vv_so (show 36 ≠ 37 by decide), vv_sa σ 36 l13 V1 h13]
  have s37 : vv S 37 = fu (vv σ 37) (8 * c + 2 * i + e) V2.toInt := by rw [hS, vv_sa _ 37 l13 V2 h13, vv_so (show 37 ≠ 36 by decide)]
  have s38 : vv S 38 = vv σ 38 := by rw [hS, vv_so (show 38 ≠ 37 by decide), vv_so (show 38 ≠ 36 by decide)]
  have s39 : vv S 39 = vv σ 39 := by rw [hS, vv_so (show 39 ≠ 37 by decide), vv_so (show 39 ≠ 36 by decide)]
  rw [← hS]
  have u1 : (2 * l1).toInt = 2 * (c : Int) := i3_mulc rfl h1 rfl (by have q : (2 : Int32).toInt = 2 := rfl; omega)
  have u2 : (2 * l1 + l6).toInt = 2 * (c : Int) + (e : Int) := i3_addc u1 h6 rfl (by omega)
  have u3 : (2 * l1 + l6).toInt = ((2 * c + e : Nat) : Int) := by omega
  have b38 : 0 ≤ vv σ 38 (2 * c + e) ∧ vv σ 38 (2 * c + e) ≤ 100000 := hM.2 38 _
  have b39 : 0 ≤ vv σ 39 (2 * c + e) ∧ vv σ 39 (2 * c + e) ≤ 100000 := hM.2 39 _
  have fin : ∀ W1 W2 : Int32, W1.toInt = (if l7.toInt = 0 then l16.toInt else max (vv σ 38 (2 * c + e)) l16.toInt) → W2.toInt = (if l7.toInt = 0 then l18.toInt else min (vv σ 39 (2 * c + e)) l18.toInt) → X44 l1 l4 l5 l6 1 (l8 + 1) (sa (sa S 38 (2 * l1 + l6) W1) 39 (2 * l1 + l6) W2) := by
    intro W1 W2 w1 w2
    have c1 : 0 ≤ W1.toInt ∧ W1.toInt ≤ 100000 := by
      rw [w1]
      by_cases q : l7.toInt = 0
      · rw [if_pos q]; omega
      · rw [if_neg q]; omega
    have c2 : 0 ≤ W2.toInt ∧ W2.toInt ≤ 100000 := by
      rw [w2]
      by_cases q : l7.toInt = 0
      · rw [if_pos q]; omega
      · rw [if_neg q]; omega
    refine K _ ((MS.sa 38 _ W1 c1).sa 39 _ W2 c2) ((ES.sa 38 _ W1 (by decide)).sa 39 _ W2 (by decide)) ?_ ?_ ?_ ?_
    · rw [vv_so (show 36 ≠ 39 by decide), vv_so (show 36 ≠ 38 by decide), s36, y1]
    · rw [vv_so (show 37 ≠ 39 by decide), vv_so (show 37 ≠ 38 by decide), s37, y2]
    · rw [vv_so (show 38 ≠ 39 by decide), vv_sa S 38 _ W1 u3, s38, w1]
    · rw [vv_sa _ 39 _ W2 u3, vv_so (show 39 ≠ 38 by decide), s39, w2]
  refine ⟨⟨by omega, by omega⟩, ⟨by omega, by omega⟩, fun z => ?_, fun z => ⟨⟨by omega, by omega⟩, ?_⟩⟩
  · unfold b_arcs_421 b_arcs_458 b_arcs_462
    exact ⟨⟨by omega, by omega⟩, fun _ => ⟨⟨by omega, by omega⟩, fin l16 l18 (by rw [if_pos z]) (by rw [if_pos z])⟩, fun k => absurd z k⟩
  · unfold b_arcs_421 b_arcs_458 b_arcs_462
    refine ⟨⟨by omega, by omega⟩, fun k => absurd k z, fun _ => ⟨⟨by omega, by omega⟩, ⟨by omega, by omega⟩, fin _ _ ?_ ?_⟩⟩
    · rw [if_neg z, imax_x, vv_rd u3, s38]
    · rw [if_neg z, imin_x, vv_rd u3, vv_so (show 39 ≠ 38 by decide), s39]
set_option maxHeartbeats 1000000 in
theorem rx_arc1 {l1 l4 l5 l6 l7 l8 l11 k0 : Int32} {σ : VS} {c i e : Nat} {t more : Int} (h1 : l1.toInt = (c : Int)) (hc : c < 50) (hi : i < 4) (h8 : l8.toInt = (i : Int)) (h6 : l6.toInt = (e : Int)) (he : e < 2) (h4 : 0 ≤ l4.toInt) (h5 : 0 ≤ l5.toInt) (h11 : 0 ≤ l11.toInt) (hk : 0 ≤ k0.toInt) (hM : MI σ) (ht : vv σ 4 c = t) (hm : (if e = 1 then vv σ 17 t.toNat else 0) = more)
    (hb : ∀ τ : VS, MI τ → Eo [30] [] σ τ → AW (lfM σ) t l4.toInt l5.toInt l11.toInt k0.toInt ≠ 0 → (τ.1 30).toInt = AW (lfM σ) t l4.toInt l5.toInt l11.toInt k0.toInt → Q (sa τ 35 l1 (τ.1 30)))
    (ho : AW (lfM σ) t l4.toInt l5.toInt l11.toInt k0.toInt = 0 → ∀ τ : VS, MI τ → Eo [30] [36, 37, 38, 39] σ τ → vv τ 36 = fu (vv σ 36) (8 * c + 2 * i + e) (dlA (LUt (nmM σ) (lfM σ) t 0 l4.toInt l11.toInt) (σ.1 18).toInt more) → vv τ 37 = fu (vv σ 37) (8 * c + 2 * i + e) (deA (LUf (nmM σ) (lfM σ) t 0 l5.toInt k0.toInt) (σ.1 19).toInt more) → vv τ 38 = fu (vv σ 38) (2 * c + e) (if l7.toInt = 0 then LUt (nmM σ) (lfM σ) t 1 l4.toInt l11.toInt else max (vv σ 38 (2 * c + e)) (LUt (nmM σ) (lfM σ) t 1 l4.toInt l11.toInt)) → vv τ 39 = fu (vv σ 39) (2 * c + e) (if l7.toInt = 0 then LUf (nmM σ) (lfM σ) t 1 l5.toInt k0.toInt else min (vv σ 39 (2 * c + e)) (LUf (nmM σ) (lfM σ) t 1 l5.toInt k0.toInt)) → X44 l1 l4 l5 l6 1 (l8 + 1) τ) : b_arcs_175 X32 X44 Q l1 l4 l5 l6 l7 l8 l11 k0 σ := by
  have kt : 0 ≤ t ∧ t ≤ 7 := by rw [← ht]; exact hM.2 4 c
  have i0 : (0 : Int32).toInt = 0 := rfl
  have i1 : (1 : Int32).toInt = 1 := rfl
  have hn : ∀ j, 0 ≤ nmM σ j ∧ nmM σ j ≤ 3000 := fun j => hM.2 15 _
  have km : 0 ≤ more ∧ more ≤ 1000 := by
    rw [← hm]
    by_cases a : e = 1
    · rw [if_pos a]; exact hM.2 17 _
    · rw [if_neg a]; omega
  unfold b_arcs_175
  intro x6 e6
  have u1 : (8 * l1).toInt = 8 * (c : Int) := i3_mulc rfl h1 rfl (by have q : (8 : Int32).toInt = 8 := rfl; omega)
  have u2 : (2 * l8).toInt = 2 * (i : Int) := i3_mulc rfl h8 rfl (by have q : (2 : Int32).toInt = 2 := rfl; omega)
  have u3 : (8 * l1 + 2 * l8).toInt = 8 * (c : Int) + 2 * (i : Int) := i3_addc u1 u2 rfl (by omega)
  have u4 : x6.toInt = 8 * (c : Int) + 2 * (i : Int) + (e : Int) := i3_addc u3 h6 e6 (by omega)
  have u5 : x6.toInt = ((8 * c + 2 * i + e : Nat) : Int) := by omega
  clear e6 u1 u2 u3 u4
  refine ⟨⟨by omega, by omega⟩, fun x7 e7 => ?_⟩
  have t7 : x7.toInt = t := by rw [e7, vv_rd h1, ht]
  clear e7
  have bad : ∀ (τ : VS) (a b c2 d : Int32), MI τ → Eo [30] [] σ τ → (τ.1 30).toInt ≠ 0 → (τ.1 30).toInt = AW (lfM σ) t l4.toInt l5.toInt l11.toInt k0.toInt → b_arcs_286 X32 X44 Q l1 l4 l5 l6 l7 l8 x6 x7 a b c2 d τ := fun τ a b c2 d hT hE nz eq => by
    unfold b_arcs_286
    exact ⟨fun z => absurd z nz, fun _ => ⟨⟨by omega, by omega⟩, hb τ hT hE (by rw [← eq]; exact nz) eq⟩⟩
  have lfe : ∀ τ : VS, Eo [30] [] σ τ → lfM τ = lfM σ ∧ nmM τ = nmM σ := fun τ h => ⟨by funext j; unfold lfM; rw [h.2 16 (by decide)], by funext j; unfold nmM; rw [h.2 15 (by decide)]⟩
  unfold AW at hb ho bad
  refine rx_lookUp (by omega) ⟨by decide, by decide⟩ h4 h11 hM (fun r8 τ1 M1 E1 F1 v1 => ?_)
  rw [t7, i0] at F1 v1
  refine ⟨fun z => ?_, fun z => ?_⟩
  · unfold b_arcs_236 b_arcs_261
    exact ⟨fun _ => ⟨fun _ => bad τ1 _ _ _ _ M1 E1 z (by rw [F1] at z ⊢; rw [stp_p z]), fun k => absurd k z⟩, fun k => absurd k z⟩
  · have w1 := v1 z
    rw [z] at F1
    rw [LU_up (show (1 : Int32).toInt ≠ 0 by decide)] at w1
    rw [← F1, stp_0] at ho bad
    refine rx_lookUp (by omega) ⟨by decide, by decide⟩ h4 h11 M1 (fun r10 τ2 M2 E2 F2 v2 => ?_)
    rw [(lfe τ1 E1).1, t7, i1] at F2 v2
    rw [(lfe τ1 E1).2] at v2
    have E2' : Eo [30] [] σ τ2 := E1.trans E2
    unfold b_arcs_236
    refine ⟨fun z2 => ?_, fun z2 => ?_⟩
    · unfold b_arcs_261
      exact ⟨fun _ => bad τ2 _ _ _ _ M2 E2' z2 (by rw [F2] at z2 ⊢; rw [stp_p z2]), fun k => absurd k z2⟩
    · have w2 := v2 z2
      rw [z2] at F2
      rw [LU_up (show (1 : Int) ≠ 0 by decide)] at w2
      rw [← F2, stp_0] at ho bad
      refine rx_lookUp (by omega) ⟨by decide, by decide⟩ h5 hk M2 (fun r12 τ3 M3 E3 F3 v3 => ?_)
      rw [(lfe τ2 E2').1, t7, i0] at F3 v3
      rw [(lfe τ2 E2').2] at v3
      have E3' : Eo [30] [] σ τ3 := E2'.trans E3
      unfold b_arcs_261
      refine ⟨fun z3 => bad τ3 _ _ _ _ M3 E3' z3 (by rw [F3] at z3 ⊢; rw [stp_p z3]), fun z3 => ?_⟩
      have w3 := v3 z3
      rw [z3] at F3
      rw [LU_dn (show ¬ (0 : Int) ≠ 0 by decide)] at w3
      rw [← F3, stp_0] at ho bad
      refine rx_lookUp (by omega) ⟨by decide, by decide⟩ h5 hk M3 (fun r14 τ4 M4 E4 F4 v4 => ?_)
      rw [(lfe τ3 E3').1, t7, i1] at F4 v4
      rw [(lfe τ3 E3').2] at v4
      have E4' : Eo [30] [] σ τ4 := E3'.trans E4
      by_cases z4 : (τ4.1 30).toInt = 0
      · have w4 := v4 z4
        rw [z4] at F4
        rw [LU_dn (show ¬ (0 : Int32).toInt ≠ 0 by decide)] at w4
        have g1 := LU_b (nm := nmM σ) (lf := lfM σ) hn h4 h11 (up := True) (dec := instDecidableTrue) F1.symm
        have g2 := LU_b (nm := nmM σ) (lf := lfM σ) hn h4 h11 (up := True) (dec := instDecidableTrue) F2.symm
        have g3 := LU_b (nm := nmM σ) (lf := lfM σ) hn h5 hk (up := False) (dec := instDecidableFalse) F3.symm
        have g4 := LU_b (nm := nmM σ) (lf := lfM σ) hn h5 hk (up := False) (dec := instDecidableFalse) F4.symm
        rw [← w1] at g1
        rw [← w2] at g2
        rw [← w3] at g3
        rw [← w4] at g4
        have ho' := ho F4.symm
        unfold b_arcs_286
        have e38 : vv τ4 38 = vv σ 38 := vv_eo E4' (by decide)
        have e39 : vv τ4 39 = vv σ 39 := vv_eo E4' (by decide)
        have fin : ∀ kk : Int32, kk.toInt = more → b_arcs_323 X32 X44 Q l1 l4 l5 l6 l7 l8 x6 r8 r10 r12 r14 kk τ4 := fun kk hkk => rx_arc2 (c := c) (i := i) (e := e) h1 hc hi h6 he u5 g1 g2 g3 g4 (by omega) M4 (fun τ MT ET f1 f2 f3 f4 => ho' τ MT ((E4'.mono (by decide) (by decide) : Eo [30] [36, 37, 38, 39] σ τ4).of ET (by decide) (by decide)) (by rw [f1, vv_eo E4' (by decide), E4'.1 18 (by decide), hkk, w1]; rfl) (by rw [f2, vv_eo E4' (by decide), E4'.1 19 (by decide), hkk, w3]; rfl) (by rw [f3, e38, w2]; rfl) (by rw [f4, e39, w4]; rfl))
        refine ⟨fun _ => ⟨fun q => fin 0 ?_, fun q => ⟨⟨by omega, by omega⟩, fin _ ?_⟩⟩, fun k => absurd z4 k⟩
        · rw [← hm, if_neg (by omega)]; rfl
        · rw [← hm, if_pos (by omega), vv_rd (n := t.toNat) (by omega), vv_eo E4' (by decide)]
      · exact bad τ4 _ _ _ _ M4 E4' z4 F4
end
