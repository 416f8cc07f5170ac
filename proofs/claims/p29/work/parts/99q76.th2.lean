/-! WIRE AND MAKE -/
theorem kp_wire {p1 p2 p3 : Int32} {σ : VS} (hM : CI σ) (hC : CSrc σ) : wp_X9wire (fun _ σ' => Kp σ σ') p1 p2 p3 σ := by
  have hc : 0 ≤ (σ.1 2).toInt ∧ (σ.1 2).toInt ≤ 50 := hM.1 2
  have h90 : ∀ (kk : Int32) (τ : VS), (-5 ≤ kk.toInt ∧ kk.toInt < (σ.1 2).toInt) → (0 ≤ p2.toInt ∧ p2.toInt < (σ.1 2).toInt) → (0 ≤ p3.toInt ∧ p3.toInt ≤ 3) → CI τ → CSrc τ → τ.1 2 = σ.1 2 → Fz τ → b_X9wire_90 (fun _ σ' => Kp σ σ') p2 p3 kk τ := by
    intro kk τ hk h2 h3 hMt hCt hτ2 hz
    have t1 : (p2 * 4).toInt = p2.toInt * 4 := i3_mulc rfl rfl rfl (by have e9 : (4 : Int32).toInt = 4 := rfl; omega)
    have t2 : (p2 * 4 + p3).toInt = (p2 * 4).toInt + p3.toInt := i3_addc rfl rfl rfl (by omega)
    obtain ⟨w, hw⟩ : ∃ w : Nat, (p2 * 4 + p3).toInt = (w : Int) := ⟨(p2 * 4 + p3).toInt.toNat, by omega⟩
    unfold b_X9wire_90 wp_X1connect
    refine ⟨⟨by omega, by omega⟩, fun x1 _ => ⟨⟨by omega, by omega⟩, ?_⟩⟩
    have hCy : CSrc (sa τ 16 (p2 * 4 + p3) kk) := by
      intro j
      rw [sa_at τ 16 _ _ hw]
      show _ < (τ.1 2).toInt
      by_cases e : j = w
      · rw [if_pos e, hτ2]; exact hk.2
      · rw [if_neg e]; exact hCt j
    refine rg_X1arrange (hMt.sa 16 _ _ (show -5 ≤ kk.toInt ∧ kk.toInt ≤ 49 by omega)) hCy (fun z hMz hEz => ?_)
    have hz2 : Fz (sa τ 16 (p2 * 4 + p3) kk) := hz
    exact Or.inr (hz2.same hEz (by decide))
  have h71 : ∀ τ : VS, (-1 ≤ p1.toInt ∧ p1.toInt < (σ.1 2).toInt) → (0 ≤ p2.toInt ∧ p2.toInt < (σ.1 2).toInt) → (0 ≤ p3.toInt ∧ p3.toInt ≤ 3) → CI τ → CSrc τ → τ.1 2 = σ.1 2 → b_X9wire_71 (fun _ σ' => Kp σ σ') p1 p2 p3 τ := by
    intro τ h1 h2 h3 hMt hCt hτ2
    have e9 : (-5 : Int32).toInt = -5 := rfl
    unfold b_X9wire_71 wp_X9forget
    have k1 := fg_ci hMt
    have k2 := hCt.same (fg_eo τ) (by decide)
    have k3 : (fg τ).1 2 = σ.1 2 := ((fg_eo τ).1 2 (by decide)).trans hτ2
    exact ⟨fun _ => h90 p1 _ (by omega) h2 h3 k1 k2 k3 (fg_z τ), fun _ => h90 (-5) _ (by omega) h2 h3 k1 k2 k3 (fg_z τ)⟩
  have h16 : mayB (σ.1 2).toInt p1 → b_X9wire_16 (fun _ σ' => Kp σ σ') p1 p2 p3 σ := by
    intro h1
    unfold mayB at h1
    unfold b_X9wire_16
    refine rg_X1hasInput hM (fun r3 τ _ hr hMt hEt => ?_)
    have hCt := hC.same hEt (by decide)
    have hE : Eo [] [21] σ τ := hEt.mono (by decide) (by decide)
    refine ⟨fun hne => ?_, fun _ => Or.inl hE⟩
    have h2 := hr hne
    have h51 : b_X9wire_51 (fun _ σ' => Kp σ σ') p1 p2 p3 τ := by
      unfold b_X9wire_51
      refine ⟨fun _ => h71 τ h1 (by omega) (by omega) hMt hCt (hE.1 2 (by decide)), fun h => ?_⟩
      refine rg_X1wouldRing (by omega) (by omega) hMt (fun r5 z _ hMz hEz => ?_)
      have hCz := hCt.same hEz (by decide)
      have hEz' := hE.of hEz (by decide) (by decide)
      exact ⟨fun _ => h71 z h1 (by omega) (by omega) hMz hCz (hEz'.1 2 (by decide)), fun _ => Or.inl hEz'⟩
    exact ⟨fun _ => h51, fun h => ⟨⟨by omega, by omega⟩, fun _ => h51, fun _ => Or.inl hE⟩⟩
  unfold wp_X9wire
  exact ⟨fun h => h16 (by unfold mayB; omega), fun h => xhas_x (fun k => ⟨fun z => absurd z (by decide), fun _ => h16 (by unfold mayB; omega)⟩) (fun k => ⟨fun _ => Kp.r, fun z => absurd rfl z⟩)⟩
theorem dz_wire {p1 p2 p3 : Int32} {τ : VS} (hS : SI τ) (hM : MI τ) (Z : Dz τ) : wp_wire (fun _ τ' => Dz τ') p1 p2 p3 τ := by
  have hc : 0 ≤ (τ.1 1).toInt ∧ (τ.1 1).toInt ≤ 50 := hM.1 1
  have up : ∀ z : VS, Eo [] [7, 14] τ z → (∀ w : Nat, w < 4 * nC τ → 0 ≤ vv z 7 w → vv τ 2 (vv z 7 w).toNat ≠ 5) → Dz z := fun z e h => by
    have nn : nC z = nC τ := by unfold nC; rw [e.1 1 (by decide)]
    refine ⟨fun j hj k5 => ?_, Z.2.1.same e (by decide), ?_⟩
    · rw [vv_eo e (by decide)] at k5
      rw [vv_eo e (show 6 ∉ [7, 14] by decide), vv_eo e (show 5 ∉ [7, 14] by decide)]
      exact Z.1 j (by omega) k5
    · rw [vv_eo e (show 2 ∉ [7, 14] by decide), nn]
      exact h
  refine rx_wire hS hM (fun _ => Z) (fun _ _ _ => Z) (fun o ne a b w z hb hw ha _ e h7 => up z e (fun j hj p => ?_)) (fun _ _ _ _ _ z _ _ _ _ _ e h7 => up z e (fun j hj p => ?_))
  · have v7 : vv z 7 j = if j = w then p1.toInt else vv τ 7 j := by
      unfold vv
      rw [h7 j]
      by_cases q : j = w
      · rw [if_pos q, if_pos q]
      · rw [if_neg q, if_neg q]
    by_cases q : j = w
    · rw [v7, if_pos q] at p
      rw [v7, if_pos q]
      have k := ne p
      rw [vv_rd (ha p)] at k
      rw [ha p]
      exact k
    · rw [v7, if_neg q] at p
      rw [v7, if_neg q]
      exact Z.2.2 j hj p
  · have v7 : vv z 7 j = vv τ 7 j := by
      unfold vv
      rw [h7]
    rw [v7] at p
    rw [v7]
    exact Z.2.2 j hj p
theorem qu_wire {p1 p2 p3 : Int32} {σ τ : VS} (J : Ju σ τ) : wp_X9wire (fun r σ' => wp_wire (fun r2 τ' => r = r2 ∧ Ju σ' τ') p1 p2 p3 τ) p1 p2 p3 σ := by
  have a1 : wp_X9wire (fun _ σ' => Eo [0, 1, 3] [16, 17, 18, 19, 20, 21] σ σ') p1 p2 p3 σ := cs_wire J.cbt.ci J.1.1.1.1.2.1 (fun _ _ _ _ e => e)
  have a2 : wp_X9wire (fun _ σ' => Kp σ σ') p1 p2 p3 σ := kp_wire J.cbt.ci J.1.1.1.1.2.1
  have a : wp_X9wire (fun _ σ' => Eo [0, 1, 3] [16, 17, 18, 19, 20, 21] σ σ' ∧ Kp σ σ') p1 p2 p3 σ := am_X9wire a1 a2 (fun _ _ u v => ⟨u, v⟩)
  have b1 : wp_wire (fun _ τ' => Eo [] [7, 14] τ τ') p1 p2 p3 τ := rg_wire J.rb.2.1 J.rb.1 J.rb.2.2.2.2 (fun _ _ _ _ _ e => e)
  have b2 : wp_wire (fun _ τ' => Dz τ') p1 p2 p3 τ := dz_wire J.rb.2.1 J.rb.1 J.rb.2.2.2.1
  have b : wp_wire (fun _ τ' => Eo [] [7, 14] τ τ' ∧ Dz τ') p1 p2 p3 τ := am_wire b1 b2 (fun _ _ u v => ⟨u, v⟩)
  exact am_X9wire (qt_wire J.1) a (fun _ σ' u v => am_wire u b (fun _ τ' x y => ⟨x.1, x.2, J.set v.1 y.1 (v.2.k y.1 (by decide)) y.2 (by decide) (by decide) (by decide)⟩))
theorem kp_make {p1 p2 p3 : Int32} {σ : VS} (hM : CI σ) (hC : CSrc σ) : wp_X9make (fun r σ' => (σ' = σ ∧ r.toInt < 0) ∨ Fz σ') p1 p2 p3 σ := by
  have hc : 0 ≤ (σ.1 2).toInt ∧ (σ.1 2).toInt ≤ 50 := hM.1 2
  have e1 : (1 : Int32).toInt = 1 := rfl
  have e4 : (4 : Int32).toInt = 4 := rfl
  have e0 : (0 : Int32).toInt = 0 := rfl
  have hno : (σ = σ ∧ (-1 : Int32).toInt < 0) ∨ Fz σ := Or.inl ⟨rfl, by decide⟩
  have h86 : ∀ kk : Int32, okM p1 p2 p3 → (σ.1 2).toInt < 50 → 0 ≤ kk.toInt ∧ kk.toInt ≤ 4 → b_X9make_86 (fun r σ' => (σ' = σ ∧ r.toInt < 0) ∨ Fz σ') p1 p3 kk σ := by
    intro kk ok hlt hk
    unfold b_X9make_86 wp_X9forget wp_X1addCell
    intro x1 ex
    have t : (σ.1 2 + 1).toInt = (σ.1 2).toInt + 1 := i3_addc rfl rfl rfl (by omega)
    have hf : (fg σ).1 2 = σ.1 2 := (fg_eo σ).1 2 (by decide)
    have ex' : x1 = (fg σ).1 2 := ex
    have hx : x1.toInt = (σ.1 2).toInt := by rw [ex', hf]
    refine ⟨⟨by omega, by omega⟩, ⟨by omega, by omega⟩, ⟨by omega, by omega⟩, ?_⟩
    show wp_X1arrange _ (sa (sa (sa (sf (fg σ) 2 ((fg σ).1 2 + 1)) 11 x1 p1) 12 x1 kk) 13 x1 p3)
    rw [hf]
    obtain ⟨y, hy⟩ : ∃ y : VS, y = sa (sa (sa (sf (fg σ) 2 (σ.1 2 + 1)) 11 x1 p1) 12 x1 kk) 13 x1 p3 := ⟨_, rfl⟩
    rw [← hy]
    have hMy : CI y := by
      rw [hy]
      exact ((((fg_ci hM).sf 2 _ (show 0 ≤ (σ.1 2 + 1).toInt ∧ (σ.1 2 + 1).toInt ≤ 50 by omega)).sa 11 _ _ (show 0 ≤ p1.toInt ∧ p1.toInt ≤ 5 from ok.1)).sa 12 _ _ (show 0 ≤ kk.toInt ∧ kk.toInt ≤ 4 from hk)).sa 13 _ _ (show 0 ≤ p3.toInt ∧ p3.toInt ≤ 7 from ok.2.1)
    have hEy : Eo [0, 1, 2, 3] [11, 12, 13, 17, 18, 19, 20] σ y := by
      rw [hy]
      exact (((((fg_eo σ).mono (by decide) (by decide)).sf 2 _ (by decide)).sa 11 _ _ (by decide)).sa 12 _ _ (by decide)).sa 13 _ _ (by decide)
    have hEz : Eo [2] [11, 12, 13] (fg σ) y := by
      rw [hy]
      exact (((Eo.rfl.sf 2 _ (by decide)).sa 11 _ _ (by decide)).sa 12 _ _ (by decide)).sa 13 _ _ (by decide)
    have y2 : y.1 2 = σ.1 2 + 1 := by
      rw [hy]
      show (sf (fg σ) 2 (σ.1 2 + 1)).1 2 = _
      rw [sf_same]
    have hCy : CSrc y := by
      intro w
      rw [hEy.2 16 (by decide), y2]
      have := hC w
      omega
    exact rg_X1arrange hMy hCy (fun τ hMt hEt => Or.inr (((fg_z σ).same hEz (by decide)).same hEt (by decide)))
  have h53 : ∀ l4 : Int32, okM p1 p2 p3 → (l4.toInt ≠ 0 → p1.toInt = 1 ∨ p1.toInt = 2) → b_X9make_53 (fun r σ' => (σ' = σ ∧ r.toInt < 0) ∨ Fz σ') p1 p2 p3 l4 σ := by
    intro l4 ok hl
    unfold b_X9make_53
    exact ⟨fun h => ⟨fun _ => ⟨fun _ => h86 1 ok h (by omega), fun _ => h86 0 ok h (by omega)⟩, fun k => h86 p2 ok h (by have := ok.2.2 (hl k); omega)⟩, fun h => Or.inl ⟨rfl, by decide⟩⟩
  have h34 : (0 ≤ p1.toInt ∧ p1.toInt ≤ 5) → (0 ≤ p3.toInt ∧ p3.toInt ≤ 7) → ¬ (p1.toInt = 1 ∨ p1.toInt = 2) → b_X9make_34 (fun r σ' => (σ' = σ ∧ r.toInt < 0) ∨ Fz σ') p1 p2 p3 σ := by
    intro a b c
    unfold b_X9make_34 b_X9make_35
    exact ⟨fun _ => h53 0 ⟨a, b, fun h => absurd h c⟩ (fun z => absurd rfl z), fun z => absurd rfl z⟩
  unfold wp_X9make b_X9make_16
  refine ⟨fun h => hno, fun h1 => ⟨fun h => hno, fun h2 => ?_⟩⟩
  refine xtab_x (fun b => ⟨fun _ => ?_, fun z => absurd z (by decide)⟩) (fun b => ⟨fun z => absurd rfl z, fun _ => hno⟩)
  refine xgate_x (fun g => ⟨fun z => absurd z (by decide), fun _ => ⟨fun h3 => h34 ⟨h1, h2⟩ b (by omega), fun h3 => ?_⟩⟩) (fun g => ⟨fun _ => h34 ⟨h1, h2⟩ b (by omega), fun z => absurd rfl z⟩)
  unfold b_X9make_35
  refine ⟨fun z => absurd z (by decide), fun _ => xwithin_x (fun k => ⟨fun _ => h53 1 ⟨⟨h1, h2⟩, b, fun _ => by omega⟩ (fun _ => by omega), fun z => absurd z (by decide)⟩) (fun k => ⟨fun z => absurd rfl z, fun _ => hno⟩)⟩
def GoM (p1 : Int32) (τ τ' : VS) : Prop := ∃ n : Nat, nC τ = n ∧ nC τ' = n + 1 ∧ (∀ j : Nat, τ'.2.1 2 j = (if j = n then p1 else τ.2.1 2 j) ∧ τ'.2.1 5 j = (if j = n then 0 else τ.2.1 5 j) ∧ τ'.2.1 6 j = (if j = n then 0 else τ.2.1 6 j) ∧ (4 * n ≤ j → j < 4 * n + 4 → τ'.2.1 7 j = -1) ∧ (j < 4 * n → τ'.2.1 7 j = τ.2.1 7 j))
theorem Ju.mk {p1 : Int32} {σ τ σ' τ' : VS} (J : Ju σ τ) (e : Eo [0, 1, 2, 3] [11, 12, 13, 17, 18, 19, 20] σ σ') (f : Eo [1] [2, 3, 4, 5, 6, 7, 8, 9, 10, 11, 12, 13] τ τ') (k : Fz σ') (e2 : (σ'.1 2).toInt = (σ.1 2).toInt + 1) (g : GoM p1 τ τ') : Xu σ' τ' := by
  obtain ⟨wd, wu, wn, wr, wl⟩ := J.wd
  obtain ⟨ρ, hW⟩ := J.1.wo
  rw [wd, wn] at hW
  have hM : MI τ := J.rb.1
  have a2 : 0 ≤ (σ.1 2).toInt ∧ (σ.1 2).toInt ≤ 50 := J.cbt.ci.1 2
  obtain ⟨n, hn, hn', g⟩ := g
  have c1 : nCl σ' = nCl σ + 1 := by unfold nCl; omega
  obtain ⟨z1, z2, z3⟩ := J.2.1
  have v2 : ∀ j, vv τ' 2 j = if j = n then p1.toInt else vv τ 2 j := fun j => by
    unfold vv
    rw [(g j).1]
    by_cases q : j = n
    · rw [if_pos q, if_pos q]
    · rw [if_neg q, if_neg q]
  have v5 : ∀ j, vv τ' 5 j = if j = n then 0 else vv τ 5 j := fun j => by
    unfold vv
    rw [(g j).2.1]
    by_cases q : j = n
    · rw [if_pos q, if_pos q]; rfl
    · rw [if_neg q, if_neg q]
  have v6 : ∀ j, vv τ' 6 j = if j = n then 0 else vv τ 6 j := fun j => by
    unfold vv
    rw [(g j).2.2.1]
    by_cases q : j = n
    · rw [if_pos q, if_pos q]; rfl
    · rw [if_neg q, if_neg q]
  refine ⟨⟨fun c hc k5 => ?_, z2.same f (by decide), fun w hw p => ?_⟩, ⟨fun j hj => ?_, fun j hj => ?_⟩, J.2.2.2.1.same e (by decide), k.ct, k.cr, J.2.2.2.2.2.2.same e f (by decide) (by decide)⟩
  · by_cases q : c = n
    · rw [v6, v5, if_pos q, if_pos q]; exact ⟨rfl, rfl⟩
    · rw [v2, if_neg q] at k5
      rw [v6, v5, if_neg q, if_neg q]
      exact z1 c (by omega) k5
  · by_cases q : w < 4 * n
    · have v7 : vv τ' 7 w = vv τ 7 w := by
        unfold vv
        rw [(g w).2.2.2.2 q]
      rw [v7] at p
      rw [v7, v2]
      have s := (hW.2.2.2.2 w (by omega) (by rw [dM_5 (by omega)]; omega)).1
      rw [dM_5 (by omega)] at s
      have ne : (vv τ 7 w).toNat ≠ n := by omega
      rw [if_neg ne]
      exact z3 w (by omega) p
    · have v7 : vv τ' 7 w = -1 := by
        unfold vv
        rw [(g w).2.2.2.1 (by omega) (by omega)]; rfl
      omega
  · rw [e.2 14 (by decide), (g j).2.1]
    by_cases q : j = n
    · rw [if_pos q]
      exact J.2.2.1.2 j (by omega)
    · rw [if_neg q]
      exact J.2.2.1.1 j (by omega)
  · rw [e.2 14 (by decide)]
    exact J.2.2.1.2 j (by omega)
theorem qu_make {p1 p2 p3 : Int32} {σ τ : VS} (J : Ju σ τ) : wp_X9make (fun r σ' => wp_make (fun r2 τ' => r = r2 ∧ Ju σ' τ') p1 p2 p3 τ) p1 p2 p3 σ := by
  have hM : MI τ := J.rb.1
  have c1 : 0 ≤ (τ.1 1).toInt ∧ (τ.1 1).toInt ≤ 50 := hM.1 1
  have c2 : 0 ≤ (σ.1 2).toInt ∧ (σ.1 2).toInt ≤ 50 := J.cbt.ci.1 2
  have a1 : wp_X9make (fun r σ' => Eo [0, 1, 2, 3] [11, 12, 13, 17, 18, 19, 20] σ σ' ∧ ((0 ≤ r.toInt ∧ (σ'.1 2).toInt = (σ.1 2).toInt + 1) ∨ (r.toInt < 0 ∧ σ' = σ))) p1 p2 p3 σ := cs_make J.cbt.ci J.1.1.1.1.2.1 (fun r σ' _ _ e h => ⟨e, h.imp (fun w => ⟨by rw [w.2.2.1]; exact c2.1, w.2.2.2⟩) (fun w => ⟨w.1.elim (fun q => by rw [q.2]; decide) (fun q => by rw [q.2.2]; decide), w.2⟩)⟩)
  have a2 : wp_X9make (fun r σ' => (σ' = σ ∧ r.toInt < 0) ∨ Fz σ') p1 p2 p3 σ := kp_make J.cbt.ci J.1.1.1.1.2.1
  have a : wp_X9make (fun r σ' => Eo [0, 1, 2, 3] [11, 12, 13, 17, 18, 19, 20] σ σ' ∧ ((0 ≤ r.toInt ∧ (σ'.1 2).toInt = (σ.1 2).toInt + 1 ∧ Fz σ') ∨ (r.toInt < 0 ∧ σ' = σ))) p1 p2 p3 σ := am_X9make a1 a2 (fun r _ u v => ⟨u.1, u.2.imp (fun w => ⟨w.1, w.2, v.resolve_left (fun q => by have q2 := q.2; omega)⟩) (fun w => w)⟩)
  have b : wp_make (fun r τ' => Eo [1] [2, 3, 4, 5, 6, 7, 8, 9, 10, 11, 12, 13] τ τ' ∧ ((0 ≤ r.toInt ∧ GoM p1 τ τ') ∨ (r.toInt < 0 ∧ τ' = τ))) p1 p2 p3 τ := rx_make J.rb.2.1 hM J.rb.2.2.2.2 (fun r τ' _ _ _ e h => ⟨e, h.imp (fun w => by
    obtain ⟨_, w2, w3, w4, n, kk, hn, _, hm⟩ := w
    have r0 : 0 ≤ r.toInt := by rw [w3]; exact c1.1
    have n1 : nC τ = n := by unfold nC; rw [hn]; rfl
    have n2 : nC τ' = n + 1 := by unfold nC; rw [w4, hn]; rfl
    refine ⟨r0, n, n1, n2, fun j => ?_⟩
    obtain ⟨m2, m3, m4, m5, m6, m8, m9, m10, m11, m12, m13, m7a, m7b⟩ := hm j
    exact ⟨m2, m5, m6, m7a, m7b⟩) (fun w => ⟨w.1.elim (fun q => by rw [q.2]; decide) (fun q => by rw [q.2.2]; decide), w.2⟩)⟩)
  refine am_X9make (qt_make J.1) a (fun r σ' u v => am_make u b (fun r2 τ' x y => ⟨x.1, x.2, ?_⟩))
  have er := x.1
  rcases v.2 with w | w
  · rcases y.2 with w' | w'
    · exact J.mk v.1 y.1 w.2.2 w.2.1 w'.2
    · exfalso
      have q1 := w.1
      have q2 := w'.1
      rw [← er] at q2
      omega
  · rcases y.2 with w' | w'
    · exfalso
      have q1 := w.1
      have q2 := w'.1
      rw [← er] at q2
      omega
    · rw [w.2, w'.2]
      exact J.2
