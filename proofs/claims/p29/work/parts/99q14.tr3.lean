/-! THE REFERENCE: THE ARCS OF A CELL -/
def EdR (D W V : Nat → Nat → Int) (c e i : Nat) (a : Int) : Prop := (∀ j, j < i → acN D W c j → V 2 (8 * c + 2 * j + e) = dlN D W c e j ∧ V 3 (8 * c + 2 * j + e) = deN D W c e j) ∧ (a = 0 → ∀ j, j < i → ¬ acN D W c j) ∧ (a ≠ 0 → V 4 (2 * c + e) = mxF (acN D W c) (glN D W c e) i ∧ V 5 (2 * c + e) = mnF (acN D W c) (geN D W c e) i)
def EdF (D W V : Nat → Nat → Int) (c e m : Nat) : Prop := (∀ j, j < m → acN D W c j → V 2 (8 * c + 2 * j + e) = dlN D W c e j ∧ V 3 (8 * c + 2 * j + e) = deN D W c e j) ∧ V 4 (2 * c + e) = mxF (acN D W c) (glN D W c e) m ∧ V 5 (2 * c + e) = mnF (acN D W c) (geN D W c e) m
def RIv2 (σ : VS) (c m e i : Nat) (a : Int) (τ : VS) : Prop := MI τ ∧ Eo [30] [35, 36, 37, 38, 39] σ τ ∧ FrM c σ τ ∧ vv τ 35 c = 0 ∧ ffF (acN (dM σ) (vM σ) c) (flN (dM σ) (vM σ) c e) i = 0 ∧ (∀ f, f < e → ffF (acN (dM σ) (vM σ) c) (flN (dM σ) (vM σ) c f) m = 0 ∧ EdF (dM σ) (vM σ) (vM τ) c f m) ∧ EdR (dM σ) (vM σ) (vM τ) c e i a
theorem arc_m {σ : VS} {c e i : Nat} (hM : MI σ) (hc : c < nC σ) (z : flN (dM σ) (vM σ) c e i = 0) (l4 : 0 ≤ lsN (dM σ) (vM σ) 4 c e i) (l5 : 0 ≤ lsN (dM σ) (vM σ) 5 c e i) : (0 ≤ glN (dM σ) (vM σ) c e i ∧ glN (dM σ) (vM σ) c e i ≤ 3000) ∧ (0 ≤ geN (dM σ) (vM σ) c e i ∧ geN (dM σ) (vM σ) c e i ≤ 3000) := by
  have hn : ∀ j, 0 ≤ nmN (dM σ) j ∧ nmN (dM σ) j ≤ 3000 := fun j => hM.2 15 _
  have k3 : 0 ≤ dM σ 3 c := by
    rw [dM_3 hc]
    refine (ldF_b ?_ (fun j => ?_) _).1
    · unfold xtM
      have q : 0 ≤ vv σ 6 c ∧ vv σ 6 c ≤ 1000 := hM.2 6 c
      by_cases k : vv σ 2 c = 5
      · rw [if_pos k]; omega
      · rw [if_neg k]; exact q
    · unfold szM
      have q : 0 ≤ vv σ 5 j ∧ vv σ 5 j ≤ 2 := hM.2 5 j
      by_cases k : vv σ 2 j = 5
      · rw [if_pos k]; omega
      · rw [if_neg k]; exact q
  have k4 : 0 ≤ dM σ 4 c := by rw [dM_4 hc]; exact (hM.2 5 c).1
  have pL : 0 ≤ LN (dM σ) c := Int.ediv_nonneg (by omega) (by omega)
  have pE : 0 ≤ EN (dM σ) c := Int.ediv_nonneg (by omega) (by omega)
  have A := AW_0 (show AW (lfN (dM σ)) (dM σ 2 c) (LN (dM σ) c) (EN (dM σ) c) (lsN (dM σ) (vM σ) 4 c e i) (lsN (dM σ) (vM σ) 5 c e i) = 0 from z)
  exact ⟨LU_b hn pL l4 A.2.1, LU_b hn pE l5 A.2.2.2⟩
theorem RIv2.skip {σ τ : VS} {c m e i : Nat} {a : Int} (h : RIv2 σ c m e i a τ) (n : ¬ acN (dM σ) (vM σ) c i) : RIv2 σ c m e (i + 1) a τ := by
  obtain ⟨h1, h2, h3, h4, h5, h6, h7, h8, h9⟩ := h
  refine ⟨h1, h2, h3, h4, by rw [ffF_n n]; exact h5, h6, fun j hj q => ?_, fun z j hj q => ?_, fun z => ?_⟩
  · by_cases e1 : j = i
    · exact absurd (e1 ▸ q) n
    · exact h7 j (by omega) q
  · by_cases e1 : j = i
    · exact n (e1 ▸ q)
    · exact h8 z j (by omega) q
  · rw [mxF_n n, mnF_n n]; exact h9 z
theorem RIv2.ok {σ τ τ' : VS} {c m e i : Nat} {a : Int} (hi : i < 4) (hm : m ≤ 4) (he : e < 2) (h : RIv2 σ c m e i a τ) (y : acN (dM σ) (vM σ) c i) (z : flN (dM σ) (vM σ) c e i = 0) (g0 : (0 ≤ glN (dM σ) (vM σ) c e i ∧ glN (dM σ) (vM σ) c e i ≤ 3000) ∧ (0 ≤ geN (dM σ) (vM σ) c e i ∧ geN (dM σ) (vM σ) c e i ≤ 3000)) (hM : MI τ') (hE : Eo [30] [36, 37, 38, 39] τ τ') (e2 : vv τ' 36 = fu (vv τ 36) (8 * c + 2 * i + e) (dlN (dM σ) (vM σ) c e i)) (e3 : vv τ' 37 = fu (vv τ 37) (8 * c + 2 * i + e) (deN (dM σ) (vM σ) c e i)) (e4 : vv τ' 38 = fu (vv τ 38) (2 * c + e) (if a = 0 then glN (dM σ) (vM σ) c e i else max (vv τ 38 (2 * c + e)) (glN (dM σ) (vM σ) c e i))) (e5 : vv τ' 39 = fu (vv τ 39) (2 * c + e) (if a = 0 then geN (dM σ) (vM σ) c e i else min (vv τ 39 (2 * c + e)) (geN (dM σ) (vM σ) c e i))) : RIv2 σ c m e (i + 1) 1 τ' := by
  obtain ⟨h1, h2, h3, h4, h5, h6, h7, h8, h9⟩ := h
  have F : FrM c τ τ' := by
    refine ⟨fun j _ => ?_, fun k j hk q => ?_, fun k j hk q => ?_⟩
    · rw [vv_eo hE (show 34 ∉ [36, 37, 38, 39] by decide), vv_eo hE (show 35 ∉ [36, 37, 38, 39] by decide)]; exact ⟨rfl, rfl⟩
    · rcases hk with k1 | k1 <;> subst k1
      · rw [e2, fu_ne (by omega)]
      · rw [e3, fu_ne (by omega)]
    · rcases hk with k1 | k1 | k1 | k1 <;> subst k1
      · rw [e4, fu_ne (by omega)]
      · rw [e5, fu_ne (by omega)]
      · rw [vv_eo hE (show 40 ∉ [36, 37, 38, 39] by decide)]
      · rw [vv_eo hE (show 41 ∉ [36, 37, 38, 39] by decide)]
  refine ⟨hM, h2.of hE (by decide) (by decide), h3.trans F, by rw [vv_eo hE (by decide)]; exact h4, by rw [ffF_y y, h5, z, stp_0], fun f hf => ⟨(h6 f hf).1, ?_, ?_, ?_⟩, fun j hj q => ?_, fun k => absurd k (by decide), fun _ => ?_⟩
  · intro j hj q
    show vv τ' 36 _ = _ ∧ vv τ' 37 _ = _
    rw [e2, e3, fu_ne (by omega), fu_ne (by omega)]
    exact (h6 f hf).2.1 j hj q
  · show vv τ' 38 _ = _
    rw [e4, fu_ne (by omega)]
    exact (h6 f hf).2.2.1
  · show vv τ' 39 _ = _
    rw [e5, fu_ne (by omega)]
    exact (h6 f hf).2.2.2
  · show vv τ' 36 _ = _ ∧ vv τ' 37 _ = _
    rw [e2, e3]
    by_cases e1 : j = i
    · rw [e1, fu_eq, fu_eq]; exact ⟨rfl, rfl⟩
    · rw [fu_ne (by omega), fu_ne (by omega)]; exact h7 j (by omega) q
  · show vv τ' 38 _ = _ ∧ vv τ' 39 _ = _
    rw [e4, e5, fu_eq, fu_eq, mxF_y y, mnF_y y]
    by_cases k : a = 0
    · rw [if_pos k, if_pos k, mxF_0 i (h8 k), mnF_0 i (h8 k)]
      omega
    · have q := h9 k
      have q4 : vv τ 38 (2 * c + e) = mxF (acN (dM σ) (vM σ) c) (glN (dM σ) (vM σ) c e) i := q.1
      have q5 : vv τ 39 (2 * c + e) = mnF (acN (dM σ) (vM σ) c) (geN (dM σ) (vM σ) c e) i := q.2
      rw [if_neg k, if_neg k, q4, q5]
      exact ⟨rfl, rfl⟩
theorem acM_is {σ : VS} {c m : Nat} (hM : MI σ) (hc : c < nC σ) (hm : vv σ 3 c = (m : Int)) {i : Nat} (hi : i < m) (n4 : vv σ 2 c ≠ 4) : acN (dM σ) (vM σ) c i ↔ (0 ≤ vv σ 7 (4 * c + i) ∧ vv σ 34 (vv σ 7 (4 * c + i)).toNat ≠ 0) := by
  have m4 : 0 ≤ vv σ 3 c ∧ vv σ 3 c ≤ 4 := hM.2 3 c
  have r7 : -1 ≤ vv σ 7 (4 * c + i) ∧ vv σ 7 (4 * c + i) ≤ 49 := hM.2 7 _
  have d5 : dM σ 5 (4 * c + i) = vv σ 7 (4 * c + i) := by rw [dM_5 (by omega)]; omega
  unfold acN
  rw [d5, dM_0 hc]
  exact ⟨fun k => k.elim (fun q => absurd q n4) (fun q => q), fun k => Or.inr k⟩
theorem lsM_is {σ : VS} {c m : Nat} (hM : MI σ) (hc : c < nC σ) (hm : vv σ 3 c = (m : Int)) {i : Nat} (hi : i < m) (n4 : vv σ 2 c ≠ 4) (k e : Nat) : lsN (dM σ) (vM σ) k c e i = vv σ (34 + k) (2 * (vv σ 7 (4 * c + i)).toNat + feN (dM σ) c e) := by
  have m4 : 0 ≤ vv σ 3 c ∧ vv σ 3 c ≤ 4 := hM.2 3 c
  have r7 : -1 ≤ vv σ 7 (4 * c + i) ∧ vv σ 7 (4 * c + i) ≤ 49 := hM.2 7 _
  have d5 : dM σ 5 (4 * c + i) = vv σ 7 (4 * c + i) := by rw [dM_5 (by omega)]; omega
  unfold lsN
  rw [dM_0 hc, if_neg n4, d5]
  rfl
set_option maxHeartbeats 2000000 in
theorem rx_arcs {Q : VS → Prop} {p1 : Int32} {σ : VS} {c m : Nat} (h1 : p1.toInt = (c : Int)) (hc : c < nC σ) (hM : MI σ) (hW : ∀ w : Nat, w < nC σ * 4 → 0 ≤ vv σ 7 w → ((w % 4 : Nat) : Int) < vv σ 3 (w / 4)) (hm : vv σ 3 c = (m : Int)) (hself : vv σ 2 c ≠ 4 → ∀ i, i < m → vv σ 7 (4 * c + i) ≠ (c : Int)) (h35 : vv σ 35 c = 0) (hx : ∃ i, i < m ∧ acN (dM σ) (vM σ) c i)
    (hq : ∀ τ : VS, MI τ → Eo [30] [35, 36, 37, 38, 39] σ τ → FrM c σ τ → vM τ 1 c = stp (ffF (acN (dM σ) (vM σ) c) (flN (dM σ) (vM σ) c 0) m) (ffF (acN (dM σ) (vM σ) c) (flN (dM σ) (vM σ) c 1) m) → (vM τ 1 c = 0 → ∀ e, e < 2 → EdF (dM σ) (vM σ) (vM τ) c e m) → Q τ) : wp_arcs Q p1 σ := by
  have hn50 : nC σ ≤ 50 := by
    have a : 0 ≤ (σ.1 1).toInt ∧ (σ.1 1).toInt ≤ 50 := hM.1 1
    unfold nC; omega
  have m4 : 0 ≤ vv σ 3 c ∧ vv σ 3 c ≤ 4 := hM.2 3 c
  have z2 : 0 ≤ vv σ 5 c ∧ vv σ 5 c ≤ 2 := hM.2 5 c
  unfold wp_arcs
  intro X32 X44 H32 H44
  refine rx_load h1 (by omega) hM hW (fun r1 er br => ⟨⟨by omega, by omega⟩, fun x3 e3 => ?_⟩)
  rw [← dM_3 hc] at er
  have t3 : x3.toInt = 1 + dM σ 4 c := by
    rw [dM_4 hc]
    exact i3_addc (show (1 : Int32).toInt = 1 from rfl) (vv_rd h1) e3 (by omega)
  have d4 : dM σ 4 c = vv σ 5 c := dM_4 hc
  refine ⟨i3_nz (by omega), fun x4 e4 => ⟨i3_nz (by omega), fun x5 e5 => ?_⟩⟩
  have u1 : (r1 + x3).toInt = r1.toInt + (1 + dM σ 4 c) := i3_addc rfl t3 rfl (by omega)
  have u2 : (r1 + x3 - 1).toInt = r1.toInt + (1 + dM σ 4 c) - 1 := i3_subc u1 (show (1 : Int32).toInt = 1 from rfl) rfl (by omega)
  have t4 : x4.toInt = LN (dM σ) c := by
    have q := i3_divc (x := x4) u2 t3 e4 (by omega) (by omega)
    rw [q, er]; rfl
  have t5 : x5.toInt = EN (dM σ) c := by
    have q := i3_divc (x := x5) rfl t3 e5 (by omega) (by omega)
    rw [q, er]; rfl
  have pL : 0 ≤ x4.toInt := by rw [t4]; exact Int.ediv_nonneg (by omega) (by omega)
  have pE : 0 ≤ x5.toInt := by rw [t5]; exact Int.ediv_nonneg (by omega) (by omega)
  clear e3 e4 e5 u1 u2
  have INNER : ∀ (e : Nat) (l6 : Int32), e < 2 → l6.toInt = (e : Int) → (∀ τ (a : Int), a ≠ 0 → RIv2 σ c m e m a τ → X32 p1 x4 x5 (l6 + 1) τ) → ∀ (d i : Nat) (l7 l8 : Int32) (τ : VS), m + 1 ≤ d + i → i ≤ m → l8.toInt = (i : Int) → RIv2 σ c m e i l7.toInt τ → X44 p1 x4 x5 l6 l7 l8 τ := by
    intro e l6 he e6 K d
    have ff := feN_lt (dM σ) c he
    induction d with
    | zero => intro i l7 l8 τ a b; omega
    | succ d ih =>
      intro i l7 l8 τ a b e8 G
      have G0 := G
      obtain ⟨hT, hE, hF, ho, hz, hp, hd1, hd2, hd3⟩ := G0
      refine H44 p1 x4 x5 l6 l7 l8 τ ?_
      unfold b_arcs_44
      have r3 : (rd τ 3 p1).toInt = (m : Int) := by rw [vv_rd h1, vv_eo hE (by decide), hm]
      have r2 : (rd τ 2 p1).toInt = vv σ 2 c := by rw [vv_rd h1, vv_eo hE (by decide)]
      have v1 : (4 * p1).toInt = 4 * (c : Int) := i3_mulc rfl h1 rfl (by have q : (4 : Int32).toInt = 4 := rfl; omega)
      have v2 : (4 * p1 + l8).toInt = 4 * (c : Int) + (i : Int) := i3_addc v1 e8 rfl (by omega)
      refine ⟨⟨by omega, by omega⟩, fun z => ?_, fun z => ?_⟩
      · have ei : i = m := by omega
        rw [ei] at G hd2
        refine K τ l7.toInt (fun k => ?_) G
        obtain ⟨j, hj, q⟩ := hx
        exact hd2 k j hj q
      · have hi : i < m := by omega
        have t8 : (l8 + 1).toInt = ((i + 1 : Nat) : Int) := by
          have q := i3_addc (x := l8 + 1) e8 (show (1 : Int32).toInt = 1 from rfl) rfl (by omega)
          omega
        have r7 : -1 ≤ vv σ 7 (4 * c + i) ∧ vv σ 7 (4 * c + i) ≤ 49 := hM.2 7 _
        have elf : lfM τ = lfN (dM σ) := by funext j; unfold lfM; rw [hE.2 16 (by decide)]; rfl
        have enm : nmM τ = nmN (dM σ) := by funext j; unfold nmM; rw [hE.2 15 (by decide)]; rfl
        have et : vv τ 4 c = dM σ 2 c := by rw [vv_eo hE (by decide), dM_2 hc]
        have em : (if e = 1 then vv τ 17 (dM σ 2 c).toNat else 0) = moN (dM σ) c e := by rw [vv_eo hE (by decide)]; rfl
        have el7 : (τ.1 18).toInt = dM σ 9 0 := by rw [hE.1 18 (by decide)]; rfl
        have el8 : (τ.1 19).toInt = dM σ 9 1 := by rw [hE.1 19 (by decide)]; rfl
        -- an arc that counts
        have ARC : acN (dM σ) (vM σ) c i → ∀ ls es : Int32, ls.toInt = lsN (dM σ) (vM σ) 4 c e i → es.toInt = lsN (dM σ) (vM σ) 5 c e i → 0 ≤ ls.toInt → 0 ≤ es.toInt → b_arcs_175 X32 X44 Q p1 x4 x5 l6 l7 l8 ls es τ := by
          intro y ls es q4 q5 p4 p5
          have eA : AW (lfM τ) (dM σ 2 c) x4.toInt x5.toInt ls.toInt es.toInt = flN (dM σ) (vM σ) c e i := by rw [elf, t4, t5, q4, q5]; rfl
          refine rx_arc1 (c := c) (i := i) (e := e) h1 (by omega) (by omega) e8 e6 he pL pE p4 p5 hT et em (fun τ1 M1 E1 nz hv => ?_) (fun nz τ1 M1 E1 f1 f2 f3 f4 => ?_)
          · rw [eA] at nz hv
            have e35 : vv (sa τ1 35 p1 (τ1.1 30)) 35 = fu (vv τ1 35) c (τ1.1 30).toInt := vv_sa τ1 35 p1 _ h1
            have F1 : FrM c τ (sa τ1 35 p1 (τ1.1 30)) := by
              refine ⟨fun j hj => ?_, fun k j hk _ => ?_, fun k j hk _ => ?_⟩
              · rw [vv_so (show 34 ≠ 35 by decide), e35, fu_ne hj, vv_eo E1 (by decide), vv_eo E1 (by decide)]; exact ⟨rfl, rfl⟩
              · rw [vv_so (by omega), vv_eo E1 (by intro h; cases h)]
              · rw [vv_so (by omega), vv_eo E1 (by intro h; cases h)]
            have vq : vM (sa τ1 35 p1 (τ1.1 30)) 1 c = flN (dM σ) (vM σ) c e i := by
              show vv (sa τ1 35 p1 (τ1.1 30)) 35 c = _
              rw [e35, fu_eq, hv]
            have fy : ffF (acN (dM σ) (vM σ) c) (flN (dM σ) (vM σ) c e) (i + 1) = flN (dM σ) (vM σ) c e i := by rw [ffF_y y, hz, stp_0]
            have fm : ffF (acN (dM σ) (vM σ) c) (flN (dM σ) (vM σ) c e) m = flN (dM σ) (vM σ) c e i := by
              rw [← fy]
              exact ffF_p (by rw [fy]; exact nz) m (by omega)
            refine hq _ (M1.sa 35 p1 _ (i3_bd _)) ((hE.of E1 (by decide) (by decide)).sa 35 p1 _ (by decide)) (hF.trans F1) ?_ (fun k => absurd (vq ▸ k) nz)
            rw [vq]
            rcases (show e = 0 ∨ e = 1 by omega) with q | q
            · rw [q] at fm nz ⊢
              rw [fm, stp_p nz]
            · have f0 := (hp 0 (by omega)).1
              rw [q] at fm ⊢
              rw [f0, fm, stp_0]
          · rw [eA] at nz
            refine ih (i + 1) 1 (l8 + 1) τ1 (by omega) (by omega) t8 (G.ok (by omega) (by omega) he y nz (arc_m hM hc nz (by rw [← q4]; exact p4) (by rw [← q5]; exact p5)) M1 E1 ?_ ?_ ?_ ?_)
            · rw [f1, enm, elf, t4, q4, el7]; rfl
            · rw [f2, enm, elf, t5, q5, el8]; rfl
            · rw [f3, enm, elf, t4, q4]; rfl
            · rw [f4, enm, elf, t5, q5]; rfl
        refine ⟨⟨by omega, by omega⟩, fun n4 => ⟨⟨by omega, by omega⟩, ?_⟩, fun y4 => ?_⟩
        · rw [r2] at n4
          have acI := acM_is hM hc hm hi n4
          have r7v : (rd τ 7 (4 * p1 + l8)).toInt = vv σ 7 (4 * c + i) := by rw [vv_rd (n := 4 * c + i) (by omega), vv_eo hE (by decide)]
          obtain ⟨s, hs⟩ : ∃ s : Int32, s = rd τ 7 (4 * p1 + l8) := ⟨_, rfl⟩
          rw [← hs] at r7v ⊢
          unfold b_arcs_80 b_arcs_462
          rw [r2]
          refine ⟨⟨by omega, by omega⟩, fun k => absurd k n4, fun _ => ⟨fun neg => ih (i + 1) l7 (l8 + 1) τ (by omega) (by omega) t8 (G.skip (fun y => by have := (acI.mp y).1; omega)), fun pos => ⟨⟨by omega, by omega⟩, fun y34 => ?_, fun n34 => ?_⟩⟩⟩
          · have ns : (vv σ 7 (4 * c + i)).toNat ≠ c := fun q => hself n4 i hi (by omega)
            rw [vv_rd (n := (vv σ 7 (4 * c + i)).toNat) (by omega), (hF.1 _ ns).1] at y34
            have y := acI.mpr ⟨by omega, y34⟩
            have l4e := lsM_is hM hc hm hi n4 4 e
            have l5e := lsM_is hM hc hm hi n4 5 e
            unfold b_arcs_110
            rw [r2]
            have go : ∀ f : Int32, f.toInt = ((feN (dM σ) c e : Nat) : Int) → b_arcs_129 X32 X44 Q p1 x4 x5 l6 l7 l8 s f τ := by
              intro f hf
              have w1 : (2 * s).toInt = 2 * vv σ 7 (4 * c + i) := i3_mulc rfl r7v rfl (by have q : (2 : Int32).toInt = 2 := rfl; omega)
              have w2 : (2 * s + f).toInt = 2 * vv σ 7 (4 * c + i) + ((feN (dM σ) c e : Nat) : Int) := i3_addc w1 hf rfl (by omega)
              have w3 : (2 * s + f).toInt = ((2 * (vv σ 7 (4 * c + i)).toNat + feN (dM σ) c e : Nat) : Int) := by omega
              have b38 : 0 ≤ (rd τ 38 (2 * s + f)).toInt ∧ (rd τ 38 (2 * s + f)).toInt ≤ 100000 := hT.2 38 _
              have b39 : 0 ≤ (rd τ 39 (2 * s + f)).toInt ∧ (rd τ 39 (2 * s + f)).toInt ≤ 100000 := hT.2 39 _
              unfold b_arcs_129 b_arcs_152
              refine ⟨fun _ => ⟨⟨by omega, by omega⟩, fun _ => ⟨⟨by omega, by omega⟩, ARC y _ _ ?_ ?_ b38.1 b39.1⟩, fun k => by omega⟩, fun k => by omega⟩
              · rw [vv_rd w3, hF.2.2 38 _ (Or.inl rfl) (by omega), l4e]
              · rw [vv_rd w3, hF.2.2 39 _ (Or.inr (Or.inl rfl)) (by omega), l5e]
            refine ⟨⟨by omega, by omega⟩, fun k => go l6 ?_, fun k => go (1 - l6) ?_⟩
            · unfold feN
              rw [dM_0 hc, if_neg k]; exact e6
            · unfold feN
              rw [dM_0 hc, if_pos k]
              have q := i3_subc (x := 1 - l6) (show (1 : Int32).toInt = 1 from rfl) e6 rfl (by omega)
              omega
          · have ns : (vv σ 7 (4 * c + i)).toNat ≠ c := fun q => hself n4 i hi (by omega)
            rw [vv_rd (n := (vv σ 7 (4 * c + i)).toNat) (by omega), (hF.1 _ ns).1] at n34
            exact ih (i + 1) l7 (l8 + 1) τ (by omega) (by omega) t8 (G.skip (fun y => (acI.mp y).2 n34))
        · rw [r2] at y4
          have y : acN (dM σ) (vM σ) c i := Or.inl (by rw [dM_0 hc]; exact y4)
          have l0 : ∀ k, lsN (dM σ) (vM σ) k c e i = 0 := fun k => by unfold lsN; rw [dM_0 hc, if_pos y4]
          have im1 : (-1 : Int32).toInt = -1 := rfl
          unfold b_arcs_80
          rw [r2]
          refine ⟨⟨by omega, by omega⟩, fun _ => ?_, fun k => absurd y4 k⟩
          unfold b_arcs_110
          rw [r2]
          refine ⟨⟨by omega, by omega⟩, fun _ => ?_, fun k => by omega⟩
          unfold b_arcs_129 b_arcs_152
          exact ⟨fun k => by omega, fun _ => ⟨fun k => by omega, fun _ => ARC y 0 0 (by rw [l0]; rfl) (by rw [l0]; rfl) (by decide) (by decide)⟩⟩
  have base : ∀ τ, MI τ → Eo [30] [35, 36, 37, 38, 39] σ τ → FrM c σ τ → vv τ 35 c = 0 → ∀ e, (∀ f, f < e → ffF (acN (dM σ) (vM σ) c) (flN (dM σ) (vM σ) c f) m = 0 ∧ EdF (dM σ) (vM σ) (vM τ) c f m) → RIv2 σ c m e 0 (0 : Int32).toInt τ := fun τ q1 q2 q3 q4 e q5 => ⟨q1, q2, q3, q4, rfl, q5, fun j hj => by omega, fun _ j hj => by omega, fun k => absurd rfl k⟩
  have nxt : ∀ τ e (a : Int), a ≠ 0 → RIv2 σ c m e m a τ → ∀ f, f < e + 1 → ffF (acN (dM σ) (vM σ) c) (flN (dM σ) (vM σ) c f) m = 0 ∧ EdF (dM σ) (vM σ) (vM τ) c f m := by
    intro τ e a ha G f hf
    obtain ⟨_, _, _, _, hz, hp, g1, _, g3⟩ := G
    by_cases q : f = e
    · rw [q]; exact ⟨hz, g1, (g3 ha).1, (g3 ha).2⟩
    · exact hp f (by omega)
  have a1 : ((0 : Int32) + 1).toInt = 1 := rfl
  have a2 : ((0 : Int32) + 1 + 1).toInt = 2 := rfl
  have i0 : (0 : Int32).toInt = 0 := rfl
  refine H32 p1 x4 x5 0 σ ?_
  unfold b_arcs_32
  refine ⟨fun k => by omega, fun _ => ?_⟩
  refine INNER 0 0 (by decide) rfl (fun τ a ha G => ?_) (m + 1) 0 0 0 σ (by omega) (by omega) rfl (base σ hM Eo.rfl FrM.id h35 0 (fun f hf => by omega))
  have N1 := nxt τ 0 a ha G
  refine H32 p1 x4 x5 (0 + 1) τ ?_
  unfold b_arcs_32
  refine ⟨fun k => by omega, fun _ => ?_⟩
  refine INNER 1 (0 + 1) (by decide) a1 (fun τ2 b hb G2 => ?_) (m + 1) 0 0 0 τ (by omega) (by omega) rfl (base τ G.1 G.2.1 G.2.2.1 G.2.2.2.1 1 N1)
  have N2 := nxt τ2 1 b hb G2
  refine H32 p1 x4 x5 (0 + 1 + 1) τ2 ?_
  unfold b_arcs_32
  refine ⟨fun _ => ?_, fun k => by omega⟩
  have o2 : vM τ2 1 c = 0 := G2.2.2.2.1
  refine hq τ2 G2.1 G2.2.1 G2.2.2.1 ?_ (fun _ e he => (N2 e he).2)
  rw [o2, (N2 0 (by decide)).1, (N2 1 (by decide)).1, stp_0]

