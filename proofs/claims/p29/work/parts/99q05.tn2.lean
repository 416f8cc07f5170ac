theorem cx_timeArc {Q : Int32 → VS → Prop} {p1 p2 p3 p4 p5 : Int32} {σ : VS} {c i e : Nat} {t z L E more : Int} (h1 : p1.toInt = 4 * (c : Int) + (i : Int)) (hc : c < 50) (hi : i < 4) (h2 : p2.toInt = (e : Int)) (he : e < 2) (h3 : 0 ≤ p3.toInt ∧ p3.toInt ≤ 1000000) (h4 : 0 ≤ p4.toInt) (h5 : 0 ≤ p5.toInt) (hM : CI σ) (ht : vv σ 13 c = t) (hz : 1 + vv σ 14 c = z) (hL : (p3.toInt + z - 1) / z = L) (hE : p3.toInt / z = E) (hm : (if e = 1 then vv σ 38 t.toNat else 0) = more)
    (hb : ∀ r : Int32, AW (lfC σ) t L E p4.toInt p5.toInt ≠ 0 → r.toInt = AW (lfC σ) t L E p4.toInt p5.toInt → Q r σ)
    (ho : AW (lfC σ) t L E p4.toInt p5.toInt = 0 → ∀ σ' : VS, CI σ' → Eo [] [41, 42, 43, 44] σ σ' → vv σ' 41 = fu (vv σ 41) (8 * c + 2 * i + e) (dlA (LUt (nmC σ) (lfC σ) t 0 L p4.toInt) (σ.1 7).toInt more) → vv σ' 42 = fu (vv σ 42) (8 * c + 2 * i + e) (deA (LUf (nmC σ) (lfC σ) t 0 E p5.toInt) (σ.1 8).toInt more) → vv σ' 43 = fu (vv σ 43) (2 * c + e) (max (vv σ 43 (2 * c + e)) (LUt (nmC σ) (lfC σ) t 1 L p4.toInt)) → vv σ' 44 = fu (vv σ 44) (2 * c + e) (min (vv σ 44 (2 * c + e)) (LUf (nmC σ) (lfC σ) t 1 E p5.toInt)) → Q 0 σ') : wp_X6timeArc Q p1 p2 p3 p4 p5 σ := by
  have i0 : (0 : Int32).toInt = 0 := rfl
  have i1 : (1 : Int32).toInt = 1 := rfl
  have kt : 0 ≤ t ∧ t ≤ 7 := by rw [← ht]; exact hM.2 13 c
  have kz : 1 ≤ z ∧ z ≤ 3 := by
    have a : 0 ≤ vv σ 14 c ∧ vv σ 14 c ≤ 2 := hM.2 14 c
    omega
  have kl : 0 ≤ (σ.1 7).toInt ∧ (σ.1 7).toInt ≤ 500 := hM.1 7
  have ke : 0 ≤ (σ.1 8).toInt ∧ (σ.1 8).toInt ≤ 500 := hM.1 8
  have hn := nmC_b hM
  have pL : 0 ≤ L := by rw [← hL]; exact Int.ediv_nonneg (by omega) (by omega)
  have pE : 0 ≤ E := by rw [← hE]; exact Int.ediv_nonneg (by omega) (by omega)
  have km : 0 ≤ more ∧ more ≤ 1000 := by
    rw [← hm]
    by_cases a : e = 1
    · rw [if_pos a]; exact hM.2 38 _
    · rw [if_neg a]; omega
  unfold wp_X6timeArc
  intro x1 e1
  have t1 : x1.toInt = (c : Int) := by
    have a := i3_divc (x := x1) h1 (show (4 : Int32).toInt = 4 from rfl) e1 (by omega) (by decide)
    omega
  refine ⟨⟨by omega, by omega⟩, fun x2 e2 => ⟨⟨by omega, by omega⟩, fun x3 e3 => ?_⟩⟩
  have t2 : x2.toInt = t := by rw [e2, vv_rd t1, ht]
  have t3 : x3.toInt = z := by
    have a := i3_addc (x := x3) i1 (vv_rd (σ := σ) (k := 14) t1) e3 (by omega)
    omega
  refine ⟨i3_nz (by omega), fun x4 e4 => ⟨i3_nz (by omega), fun x5 e5 => ?_⟩⟩
  have u1 : (p3 + x3).toInt = p3.toInt + z := i3_addc rfl t3 rfl (by omega)
  have u2 : (p3 + x3 - 1).toInt = p3.toInt + z - 1 := i3_subc u1 i1 rfl (by omega)
  have t4 : x4.toInt = L := by rw [← hL]; exact i3_divc u2 t3 e4 (by omega) (by omega)
  have t5 : x5.toInt = E := by rw [← hE]; exact i3_divc rfl t3 e5 (by omega) (by omega)
  clear e1 e2 e3 e4 e5 u1 u2 hL hE
  unfold AW at hb ho
  refine cx_lookUp (by omega) ⟨by decide, by decide⟩ (by omega) h4 hM (fun r6 e6 => ?_)
  rw [LU_up (show (1 : Int32).toInt ≠ 0 by decide), t2, t4, i0] at e6
  have g6 := LU_neg (nm := nmC σ) (lf := lfC σ) hn (t := t) (q := 0) (l := L) (s := p4.toInt) pL h4 (up := True) (dec := instDecidableTrue)
  rw [← e6] at g6
  refine ⟨fun a6 => ?_, fun a6 => hb r6 (by rw [stp_p (g6.1 a6).1]; exact (g6.1 a6).1) (by rw [stp_p (g6.1 a6).1]; exact (g6.1 a6).2)⟩
  rw [(g6.2 a6).1, stp_0] at hb ho
  refine cx_lookUp (by omega) ⟨by decide, by decide⟩ (by omega) h4 hM (fun r8 e8 => ?_)
  rw [LU_up (show (1 : Int32).toInt ≠ 0 by decide), t2, t4, i1] at e8
  have g8 := LU_neg (nm := nmC σ) (lf := lfC σ) hn (t := t) (q := 1) (l := L) (s := p4.toInt) pL h4 (up := True) (dec := instDecidableTrue)
  rw [← e8] at g8
  refine ⟨fun a8 => ?_, fun a8 => hb r8 (by rw [stp_p (g8.1 a8).1]; exact (g8.1 a8).1) (by rw [stp_p (g8.1 a8).1]; exact (g8.1 a8).2)⟩
  rw [(g8.2 a8).1, stp_0] at hb ho
  refine cx_lookUp (by omega) ⟨by decide, by decide⟩ (by omega) h5 hM (fun r10 e10 => ?_)
  rw [LU_dn (show ¬ (0 : Int32).toInt ≠ 0 by decide), t2, t5, i0] at e10
  have g10 := LU_neg (nm := nmC σ) (lf := lfC σ) hn (t := t) (q := 0) (l := E) (s := p5.toInt) pE h5 (up := False) (dec := instDecidableFalse)
  rw [← e10] at g10
  refine ⟨fun a10 => ?_, fun a10 => hb r10 (by rw [stp_p (g10.1 a10).1]; exact (g10.1 a10).1) (by rw [stp_p (g10.1 a10).1]; exact (g10.1 a10).2)⟩
  rw [(g10.2 a10).1, stp_0] at hb ho
  refine cx_lookUp (by omega) ⟨by decide, by decide⟩ (by omega) h5 hM (fun r12 e12 => ?_)
  rw [LU_dn (show ¬ (0 : Int32).toInt ≠ 0 by decide), t2, t5, i1] at e12
  have g12 := LU_neg (nm := nmC σ) (lf := lfC σ) hn (t := t) (q := 1) (l := E) (s := p5.toInt) pE h5 (up := False) (dec := instDecidableFalse)
  rw [← e12] at g12
  refine ⟨fun a12 => ?_, fun a12 => hb r12 (g12.1 a12).1 (g12.1 a12).2⟩
  have ho' := ho (g12.2 a12).1
  have b6 := (g6.2 a6).2
  have b10 := (g10.2 a10).2
  clear hb ho g6 g8 g10 g12
  have fin : ∀ k0 : Int32, k0.toInt = more → b_X6timeArc_167 Q p1 p2 x1 r6 r8 r10 r12 k0 σ := by
    intro k0 hk
    unfold b_X6timeArc_167
    have v1 : (p1 * 2).toInt = (4 * (c : Int) + (i : Int)) * 2 := i3_mulc h1 rfl rfl (by omega)
    have v2 : (p1 * 2 + p2).toInt = (4 * (c : Int) + (i : Int)) * 2 + (e : Int) := i3_addc v1 h2 rfl (by omega)
    have v3 : (p1 * 2 + p2).toInt = ((8 * c + 2 * i + e : Nat) : Int) := by omega
    refine ⟨⟨by omega, by omega⟩, ⟨by omega, by omega⟩, fun x14 e14 => ?_⟩
    have w1 : (x1 * 2).toInt = (c : Int) * 2 := i3_mulc t1 rfl rfl (by omega)
    have w2 : x14.toInt = (c : Int) * 2 + (e : Int) := i3_addc w1 h2 e14 (by omega)
    have w3 : x14.toInt = ((2 * c + e : Nat) : Int) := by omega
    refine ⟨⟨by omega, by omega⟩, ⟨by omega, by omega⟩, ⟨by omega, by omega⟩, ⟨by omega, by omega⟩, ?_⟩
    have m1 := mu_bd (a := r6.toInt) (b := 1000 + (σ.1 7).toInt) (A := 3000) (B := 1500) ⟨a6, b6⟩ ⟨by omega, by omega⟩
    have m2 := mu_bd (a := r10.toInt) (b := 1000 - (σ.1 8).toInt) (A := 3000) (B := 1000) ⟨a10, b10⟩ ⟨by omega, by omega⟩
    have s1 : (1000 + σ.1 7).toInt = 1000 + (σ.1 7).toInt := i3_addc rfl rfl rfl (by have q : (1000 : Int32).toInt = 1000 := rfl; omega)
    have s2 : (r6 * (1000 + σ.1 7)).toInt = r6.toInt * (1000 + (σ.1 7).toInt) := i3_mulc rfl s1 rfl (by omega)
    have s3 : (r6 * (1000 + σ.1 7) + 999).toInt = r6.toInt * (1000 + (σ.1 7).toInt) + 999 := i3_addc s2 rfl rfl (by have q : (999 : Int32).toInt = 999 := rfl; omega)
    have s4 : ((r6 * (1000 + σ.1 7) + 999) / 1000).toInt = (r6.toInt * (1000 + (σ.1 7).toInt) + 999) / 1000 := i3_divc s3 rfl rfl (by omega) (by decide)
    obtain ⟨V1, hV1⟩ : ∃ V1 : Int32, V1 = (((r6 * (1000 + σ.1 7)) + 999) / 1000) + k0 := ⟨_, rfl⟩
    have s5 : V1.toInt = dlA (LUt (nmC σ) (lfC σ) t 0 L p4.toInt) (σ.1 7).toInt more := by
      have a := i3_addc (x := V1) s4 hk hV1 (by omega)
      rw [a]; unfold dlA LUt; rw [← e6]
    rw [← hV1]
    have y1 : (1000 - (sa σ 41 (p1 * 2 + p2) V1).1 8).toInt = 1000 - (σ.1 8).toInt := i3_subc rfl (show ((sa σ 41 (p1 * 2 + p2) V1).1 8).toInt = (σ.1 8).toInt from rfl) rfl (by have q : (1000 : Int32).toInt = 1000 := rfl; omega)
    have y2 : (r10 * (1000 - (sa σ 41 (p1 * 2 + p2) V1).1 8)).toInt = r10.toInt * (1000 - (σ.1 8).toInt) := i3_mulc rfl y1 rfl (by omega)
    have y3 : ((r10 * (1000 - (sa σ 41 (p1 * 2 + p2) V1).1 8)) / 1000).toInt = r10.toInt * (1000 - (σ.1 8).toInt) / 1000 := i3_divc y2 rfl rfl (by omega) (by decide)
    obtain ⟨V2, hV2⟩ : ∃ V2 : Int32, V2 = ((r10 * (1000 - (sa σ 41 (p1 * 2 + p2) V1).1 8)) / 1000) + k0 := ⟨_, rfl⟩
    have y4 : V2.toInt = deA (LUf (nmC σ) (lfC σ) t 0 E p5.toInt) (σ.1 8).toInt more := by
      have a := i3_addc (x := V2) y3 hk hV2 (by omega)
      rw [a]; unfold deA LUf; rw [← e10]
    rw [← hV2]
    clear s1 s2 s3 s4 y1 y2 y3 hV1 hV2 m1 m2
    have q3 : (rd (sa (sa σ 41 (p1 * 2 + p2) V1) 42 (p1 * 2 + p2) V2) 43 x14).toInt = vv σ 43 (2 * c + e) := by
      rw [vv_rd w3, vv_so (show 43 ≠ 42 by decide), vv_so (show 43 ≠ 41 by decide)]
    obtain ⟨V3, hV3⟩ : ∃ V3 : Int32, V3 = imax (rd (sa (sa σ 41 (p1 * 2 + p2) V1) 42 (p1 * 2 + p2) V2) 43 x14) r8 := ⟨_, rfl⟩
    have y5 : V3.toInt = max (vv σ 43 (2 * c + e)) (LUt (nmC σ) (lfC σ) t 1 L p4.toInt) := by
      rw [hV3, imax_x, q3]; unfold LUt; rw [← e8]
    rw [← hV3]
    have q4 : (rd (sa (sa (sa σ 41 (p1 * 2 + p2) V1) 42 (p1 * 2 + p2) V2) 43 x14 V3) 44 x14).toInt = vv σ 44 (2 * c + e) := by
      rw [vv_rd w3, vv_so (show 44 ≠ 43 by decide), vv_so (show 44 ≠ 42 by decide), vv_so (show 44 ≠ 41 by decide)]
    obtain ⟨V4, hV4⟩ : ∃ V4 : Int32, V4 = imin (rd (sa (sa (sa σ 41 (p1 * 2 + p2) V1) 42 (p1 * 2 + p2) V2) 43 x14 V3) 44 x14) r12 := ⟨_, rfl⟩
    have y6 : V4.toInt = min (vv σ 44 (2 * c + e)) (LUf (nmC σ) (lfC σ) t 1 E p5.toInt) := by
      rw [hV4, imin_x, q4]; unfold LUf; rw [← e12]
    rw [← hV4]
    refine ho' _ ((((hM.sa 41 _ V1 (i3_bd _)).sa 42 _ V2 (i3_bd _)).sa 43 _ V3 (i3_bd _)).sa 44 _ V4 (i3_bd _)) ((((Eo.rfl.sa 41 _ V1 (by decide)).sa 42 _ V2 (by decide)).sa 43 _ V3 (by decide)).sa 44 _ V4 (by decide)) ?_ ?_ ?_ ?_
    · rw [vv_so (show 41 ≠ 44 by decide), vv_so (show 41 ≠ 43 by decide), vv_so (show 41 ≠ 42 by decide), vv_sa σ 41 _ V1 v3, s5]
    · rw [vv_so (show 42 ≠ 44 by decide), vv_so (show 42 ≠ 43 by decide), vv_sa _ 42 _ V2 v3, vv_so (show 42 ≠ 41 by decide), y4]
    · rw [vv_so (show 43 ≠ 44 by decide), vv_sa _ 43 _ V3 w3, vv_so (show 43 ≠ 42 by decide), vv_so (show 43 ≠ 41 by decide), y5]
    · rw [vv_sa _ 44 _ V4 w3, vv_so (show 44 ≠ 43 by decide), vv_so (show 44 ≠ 42 by decide), vv_so (show 44 ≠ 41 by decide), y6]
  refine ⟨fun b => fin 0 ?_, fun b => ⟨⟨by omega, by omega⟩, fin _ ?_⟩⟩
  · rw [← hm, if_neg (by omega)]; rfl
  · rw [← hm, if_pos (by omega)]; exact vv_rd (by omega)
theorem cx_arrive {Q : VS → Prop} {p1 p2 p3 p4 : Int32} {σ : VS} {c i e : Nat} (h1 : p1.toInt = 4 * (c : Int) + (i : Int)) (hc : c < 50) (hi : i < 4) (h2 : p2.toInt = (e : Int)) (he : e < 2) (hM : CI σ) (h3 : -2147483648 ≤ p3.toInt + vv σ 41 (8 * c + 2 * i + e) ∧ p3.toInt + vv σ 41 (8 * c + 2 * i + e) ≤ 2147483647) (h4 : -2147483648 ≤ p4.toInt + vv σ 42 (8 * c + 2 * i + e) ∧ p4.toInt + vv σ 42 (8 * c + 2 * i + e) ≤ 2147483647)
    (hq : ∀ σ' : VS, CI σ' → Eo [] [45, 46] σ σ' → vv σ' 45 = fu (vv σ 45) (2 * c + e) (max (vv σ 45 (2 * c + e)) (p3.toInt + vv σ 41 (8 * c + 2 * i + e))) → vv σ' 46 = fu (vv σ 46) (2 * c + e) (min (vv σ 46 (2 * c + e)) (p4.toInt + vv σ 42 (8 * c + 2 * i + e))) → Q σ') : wp_X6arrive Q p1 p2 p3 p4 σ := by
  unfold wp_X6arrive
  intro x1 e1
  have t1 : (p1 / 4).toInt = (c : Int) := by
    have a := i3_divc (x := p1 / 4) h1 (show (4 : Int32).toInt = 4 from rfl) rfl (by omega) (by decide)
    omega
  have w1 : (p1 / 4 * 2).toInt = (c : Int) * 2 := i3_mulc t1 rfl rfl (by omega)
  have w2 : x1.toInt = (c : Int) * 2 + (e : Int) := i3_addc w1 h2 e1 (by omega)
  have w3 : x1.toInt = ((2 * c + e : Nat) : Int) := by omega
  have v1 : (p1 * 2).toInt = (4 * (c : Int) + (i : Int)) * 2 := i3_mulc h1 rfl rfl (by omega)
  have v2 : (p1 * 2 + p2).toInt = (4 * (c : Int) + (i : Int)) * 2 + (e : Int) := i3_addc v1 h2 rfl (by omega)
  have v3 : (p1 * 2 + p2).toInt = ((8 * c + 2 * i + e : Nat) : Int) := by omega
  refine ⟨⟨by omega, by omega⟩, ⟨by omega, by omega⟩, ⟨by omega, by omega⟩, ⟨by omega, by omega⟩, ⟨by omega, by omega⟩, ⟨by omega, by omega⟩, ?_⟩
  obtain ⟨V1, hV1⟩ : ∃ V1 : Int32, V1 = imax (rd σ 45 x1) (p3 + (rd σ 41 (p1 * 2 + p2))) := ⟨_, rfl⟩
  have y1 : V1.toInt = max (vv σ 45 (2 * c + e)) (p3.toInt + vv σ 41 (8 * c + 2 * i + e)) := by
    rw [hV1, imax_x, vv_rd w3, i3_addc (x := p3 + (rd σ 41 (p1 * 2 + p2))) rfl (vv_rd v3) rfl h3]
  rw [← hV1]
  obtain ⟨V2, hV2⟩ : ∃ V2 : Int32, V2 = imin (rd (sa σ 45 x1 V1) 46 x1) (p4 + (rd (sa σ 45 x1 V1) 42 (p1 * 2 + p2))) := ⟨_, rfl⟩
  have y2 : V2.toInt = min (vv σ 46 (2 * c + e)) (p4.toInt + vv σ 42 (8 * c + 2 * i + e)) := by
    have q : (rd (sa σ 45 x1 V1) 42 (p1 * 2 + p2)).toInt = vv σ 42 (8 * c + 2 * i + e) := by rw [vv_rd v3, vv_so (show 42 ≠ 45 by decide)]
    rw [hV2, imin_x, vv_rd w3, vv_so (show 46 ≠ 45 by decide), i3_addc (x := p4 + (rd (sa σ 45 x1 V1) 42 (p1 * 2 + p2))) rfl q rfl h4]
  rw [← hV2]
  refine hq _ ((hM.sa 45 _ V1 (i3_bd _)).sa 46 _ V2 (i3_bd _)) ((Eo.rfl.sa 45 _ V1 (by decide)).sa 46 _ V2 (by decide)) ?_ ?_
  · rw [vv_so (show 45 ≠ 46 by decide), vv_sa σ 45 _ V1 w3, y1]
  · rw [vv_sa _ 46 _ V2 w3, vv_so (show 46 ≠ 45 by decide), y2]
theorem cx_clear {Q : VS → Prop} {p1 : Int32} {σ : VS} {n : Nat} (h1 : p1.toInt = (n : Int)) (hn : n < 100) (hM : CI σ) (hq : ∀ σ' : VS, CI σ' → Eo [] [43, 44, 45, 46] σ σ' → vv σ' 43 = fu (vv σ 43) n 0 → vv σ' 44 = fu (vv σ 44) n 1000000000 → vv σ' 45 = fu (vv σ 45) n 0 → vv σ' 46 = fu (vv σ 46) n 1000000000 → Q σ') : wp_X6clearPlace Q p1 σ := by
  unfold wp_X6clearPlace
  refine ⟨⟨by omega, by omega⟩, ⟨by omega, by omega⟩, ⟨by omega, by omega⟩, ⟨by omega, by omega⟩, ?_⟩
  refine hq _ ((((hM.sa 43 _ 0 (i3_bd _)).sa 44 _ 1000000000 (i3_bd _)).sa 45 _ 0 (i3_bd _)).sa 46 _ 1000000000 (i3_bd _)) ((((Eo.rfl.sa 43 _ 0 (by decide)).sa 44 _ 1000000000 (by decide)).sa 45 _ 0 (by decide)).sa 46 _ 1000000000 (by decide)) ?_ ?_ ?_ ?_
  · rw [vv_so (show 43 ≠ 46 by decide), vv_so (show 43 ≠ 45 by decide), vv_so (show 43 ≠ 44 by decide), vv_sa σ 43 _ 0 h1]; rfl
  · rw [vv_so (show 44 ≠ 46 by decide), vv_so (show 44 ≠ 45 by decide), vv_sa _ 44 _ 1000000000 h1, vv_so (show 44 ≠ 43 by decide)]; rfl
  · rw [vv_so (show 45 ≠ 46 by decide), vv_sa _ 45 _ 0 h1, vv_so (show 45 ≠ 44 by decide), vv_so (show 45 ≠ 43 by decide)]; rfl
  · rw [vv_sa _ 46 _ 1000000000 h1, vv_so (show 46 ≠ 45 by decide), vv_so (show 46 ≠ 44 by decide), vv_so (show 46 ≠ 43 by decide)]; rfl
