/-! THE REFERENCE'S RACE: ALL OUTPUTS FROM ONE START -/
theorem RM.nil {b : Nat → Nat} {s : Nat} {La Ea : List Nat → Nat → Int} {c e : Nat} {τ : VS} (h : ∀ t, t < 16 → vv τ 42 ((2 * c + e) * 16 + t) = 0) : RM b s La Ea [] c e τ := fun t ht => by
  rw [h t ht]
  exact Sm3.nil (fun x y ⟨p, hp, _⟩ => by cases hp)
theorem RM.first {b : Nat → Nat} {s : Nat} {La Ea : List Nat → Nat → Int} {e : Nat} {τ τ' : VS} {x y : Int} (hb : b s < 16) (hx : La [] e = x) (hy : Ea [] e = y) (h : RM b s La Ea [] s e τ) (g1 : vv τ' 42 = fu (vv τ 42) ((2 * s + e) * 16 + b s) 1) (g2 : vv τ' 43 = fu (vv τ 43) ((2 * s + e) * 16 + b s) x) (g3 : vv τ' 44 = fu (vv τ 44) ((2 * s + e) * 16 + b s) y) : RM b s La Ea [[]] s e τ' := fun t ht => by
  by_cases q : t = b s
  · rw [q, g1, g2, g3, fu_eq, fu_eq, fu_eq]
    refine Sm3.cg ?_ (fun a c => ⟨fun k => ⟨[], List.mem_singleton.mpr rfl, rfl, ?_, ?_⟩, fun ⟨p, hp, _, r1, r2⟩ => ?_⟩) (Sm3.one x y)
    · rw [cP_y (show mkP b s [] = b s from rfl)]; rfl
    · rw [hx]; exact k.1.symm
    · rw [hy]; exact k.2.symm
    · have e1 : p = [] := List.mem_singleton.mp hp
      rw [e1] at r1 r2
      exact ⟨by rw [← r1, hx], by rw [← r2, hy]⟩
  · have ne : (2 * s + e) * 16 + t ≠ (2 * s + e) * 16 + b s := by omega
    have z : vv τ 42 ((2 * s + e) * 16 + t) = 0 := by
      have w := (h t ht).1
      have c0 : cP (fun p => mkP b s p = t) [] = 0 := rfl
      rw [c0] at w
      rw [w]; rfl
    rw [g1, g2, g3, fu_ne ne, fu_ne ne, fu_ne ne, z]
    have c0 : cP (fun p => mkP b s p = t) [[]] = 0 := by
      rw [cP_n (show ¬ mkP b s [] = t from fun k => q k.symm)]; rfl
    unfold SpO
    rw [c0]
    refine Sm3.nil (fun a c ⟨p, hp, r, _⟩ => ?_)
    have e1 : p = [] := List.mem_singleton.mp hp
    rw [e1] at r
    exact q r.symm
theorem sa_same3 {σ τ : VS} (hE : Eo [] [42, 43, 44] σ τ) : saL τ = saL σ ∧ saE τ = saE σ ∧ dM τ = dM σ ∧ vM τ 2 = vM σ 2 ∧ vM τ 3 = vM σ 3 := by
  have dd : dM τ = dM σ := dM_same hE (by decide) (by decide)
  have v2 : vM τ 2 = vM σ 2 := by
    funext j
    show vv τ 36 j = vv σ 36 j
    rw [vv_eo hE (by decide)]
  have v3 : vM τ 3 = vM σ 3 := by
    funext j
    show vv τ 37 j = vv σ 37 j
    rw [vv_eo hE (by decide)]
  refine ⟨?_, ?_, dd, v2, v3⟩
  · funext j
    unfold saL
    rw [vv_eo hE (show 2 ∉ [42, 43, 44] by decide), vv_eo hE (show 9 ∉ [42, 43, 44] by decide), dd, v2]
  · funext j
    unfold saE
    rw [vv_eo hE (show 2 ∉ [42, 43, 44] by decide), vv_eo hE (show 8 ∉ [42, 43, 44] by decide), dd, v3]
theorem feN_inv (D : Nat → Nat → Int) (c : Nat) {e : Nat} (h : e < 2) : feN D c (feN D c e) = e := by
  unfold feN
  by_cases a : D 0 c = 2
  · rw [if_pos a, if_pos a]; omega
  · rw [if_neg a, if_neg a]
set_option maxHeartbeats 1000000 in
theorem rx_walkFrom {Q : VS → Prop} {p1 : Int32} {σ : VS} {R s : Nat} {B : Nat → Nat → List (List Nat)} {b : Nat → Nat} (hb0 : b = bR (vv σ 28) R) (h1 : p1.toInt = (s : Int)) (hM : MI σ) (hS : SI σ) (hD : TD σ) (h : RsM σ R s B) (hq : ∀ τ : VS, MI τ → Eo [] [42, 43, 44] σ τ → (∀ c e, c < nC σ → e < 2 → RM b s (LaM σ s) (EaM σ s) (B c e) c e τ) → Q τ) : wp_walkFrom Q p1 σ := by
  have bdp := h.bd hM hS hD
  have hr := h.reached
  have hst := fun (e : Nat) (he : e < 2) => h.st hM hS (e := e) he
  obtain ⟨hR, hB, hL, ⟨hs, hkd, hop⟩, hN⟩ := h
  have hR4 : 0 ≤ (σ.1 25).toInt ∧ (σ.1 25).toInt ≤ 4 := hM.1 25
  have a1 : 0 ≤ (σ.1 1).toInt ∧ (σ.1 1).toInt ≤ 50 := hM.1 1
  have a32 : 0 ≤ (σ.1 32).toInt ∧ (σ.1 32).toInt ≤ 50 := hM.1 32
  have en : (σ.1 1).toInt = ((nC σ : Nat) : Int) := by unfold nC; omega
  have eo : (σ.1 32).toInt = ((oL σ : Nat) : Int) := by unfold oL; omega
  obtain ⟨ρ, hRk, h50⟩ := TD.rk hM hS hD
  have BR := BP_reach hB hRk hL hr
  have b16 : ∀ c, b c < 16 := fun c => by rw [hb0]; exact bR_16 _ (by omega) c
  have sng : ¬ gate σ s := fun g => by
    have g2 : 0 < vv σ 2 s ∧ vv σ 2 s < 4 := g
    omega
  unfold wp_walkFrom
  intro X2 X28 X87 X134 X179 H2 H28 H87 H134 H179
  have G87 : ∀ (g k : Nat) (l2 : Int32) (τ : VS), oL σ + 1 ≤ g + k → k ≤ oL σ → l2.toInt = (k : Int) → MI τ → Eo [] [42, 43, 44] σ τ → (∀ c e, c < nC σ → e < 2 → ((gate σ c → ∃ k', k' < k ∧ oN σ k' = c) → RM b s (LaM σ s) (EaM σ s) (B c e) c e τ) ∧ ((gate σ c ∧ ¬ ∃ k', k' < k ∧ oN σ k' = c) → RM b s (LaM σ s) (EaM σ s) [] c e τ)) → X87 l2 τ := by
    intro g
    induction g with
    | zero => intro k l2 τ a c; omega
    | succ g ih =>
      intro k l2 τ a c e2 hMt hE hI
      refine H87 l2 τ ?_
      unfold b_walkFrom_87 b_walkFrom_208
      rw [hE.1 32 (by decide)]
      refine ⟨fun z => ?_, fun z => ?_⟩
      · refine hq τ hMt hE (fun c e hc he => (hI c e hc he).1 (fun _ => ?_))
        obtain ⟨k', q1, q2⟩ := hD.1 c hc
        exact ⟨k', by omega, q2⟩
      · have hk : k < oL σ := by omega
        have t2 : (l2 + 1).toInt = ((k + 1 : Nat) : Int) := by
          have q := i3_addc (x := l2 + 1) e2 (show (1 : Int32).toInt = 1 from rfl) rfl (by omega)
          omega
        obtain ⟨d, hd⟩ : ∃ d, d = oN σ k := ⟨_, rfl⟩
        have dn := hD.2.1 k hk
        rw [← hd] at dn
        have ndn : ¬ ∃ k', k' < k ∧ oN σ k' = d := fun ⟨k', q1, q2⟩ => by
          have q := hD.2.2.1 k' k (by omega) hk (by rw [q2, hd])
          omega
        refine ⟨⟨by omega, by omega⟩, fun x8 e8 => ?_⟩
        have b31 : 0 ≤ vv σ 31 k ∧ vv σ 31 k ≤ 49 := hM.2 31 k
        have t8 : x8.toInt = (d : Int) := by
          rw [e8, vv_rd e2, vv_eo hE (by decide), hd]
          show vv σ 31 k = (((vv σ 31 k).toNat : Nat) : Int)
          omega
        clear e8
        -- this cell is through
        have NX : ∀ τ2 : VS, MI τ2 → Eo [] [42, 43, 44] σ τ2 → (∀ e, e < 2 → RM b s (LaM σ s) (EaM σ s) (B d e) d e τ2) → (∀ c2 e, c2 < nC σ → c2 ≠ d → e < 2 → ((gate σ c2 → ∃ k', k' < k ∧ oN σ k' = c2) → RM b s (LaM σ s) (EaM σ s) (B c2 e) c2 e τ2) ∧ ((gate σ c2 ∧ ¬ ∃ k', k' < k ∧ oN σ k' = c2) → RM b s (LaM σ s) (EaM σ s) [] c2 e τ2)) → X87 (l2 + 1) τ2 := by
          intro τ2 q1 q2 q3 q4
          refine ih (k + 1) (l2 + 1) τ2 (by omega) (by omega) t2 q1 q2 (fun c2 e hc2 he => ?_)
          by_cases w : c2 = d
          · rw [w]
            exact ⟨fun _ => q3 e he, fun y => absurd ⟨k, by omega, hd.symm⟩ y.2⟩
          · have q5 := q4 c2 e hc2 w he
            have up : (∃ k', k' < k + 1 ∧ oN σ k' = c2) → ∃ k', k' < k ∧ oN σ k' = c2 := fun ⟨k', y1, y2⟩ => ⟨k', by
              by_cases kk : k' = k
              · rw [kk, ← hd] at y2
                exact absurd y2.symm w
              · omega, y2⟩
            exact ⟨fun y => q5.1 (fun gg => up (y gg)), fun y => q5.2 ⟨y.1, fun ⟨k', y1, y2⟩ => y.2 ⟨k', by omega, y2⟩⟩⟩
        have hFr : ∀ c2 e, c2 < nC σ → c2 ≠ d → e < 2 → ((gate σ c2 → ∃ k', k' < k ∧ oN σ k' = c2) → RM b s (LaM σ s) (EaM σ s) (B c2 e) c2 e τ) ∧ ((gate σ c2 ∧ ¬ ∃ k', k' < k ∧ oN σ k' = c2) → RM b s (LaM σ s) (EaM σ s) [] c2 e τ) := fun c2 e hc2 _ he => hI c2 e hc2 he
        have gs : gate τ d ↔ gate σ d := gate_same hE (by decide) d
        refine isGate_s t8 (by omega) (fun hg => ⟨fun y => absurd y (by decide), fun _ => ?_⟩) (fun hg => ⟨fun _ => NX τ hMt hE (fun e he => (hI d e dn he).1 (fun gg => absurd (gs.mpr gg) hg)) hFr, fun y => absurd rfl y⟩)
        have hg2 := gs.mp hg
        have gD := (gM_is dn).mpr hg2
        have hds : d ≠ s := fun q => sng (q ▸ hg2)
        have r34 : (rd τ 34 x8).toInt = vM σ 0 d := by rw [vv_rd t8, vv_eo hE (by decide)]; rfl
        have r35 : (rd τ 35 x8).toInt = vM σ 1 d := by rw [vv_rd t8, vv_eo hE (by decide)]; rfl
        have empty : (∀ e p, ¬ p ∈ B d e) → X87 (l2 + 1) τ := fun em => NX τ hMt hE (fun e he => by
          have q : B d e = [] := List.eq_nil_iff_forall_not_mem.mpr (em e)
          rw [q]
          exact (hI d e dn he).2 ⟨hg2, ndn⟩) hFr
        rw [r34, r35]
        refine ⟨⟨by omega, by omega⟩, fun y => empty (fun e p hp => BR d dn e p hp y), fun rch => ⟨⟨by omega, by omega⟩, fun op => ?_, fun y => empty (fun e p hp => by rw [BP_0 hB dn hds (fun q => y q.2)] at hp; cases hp)⟩⟩
        have m4 : 0 ≤ vv σ 3 d ∧ vv σ 3 d ≤ 4 := hM.2 3 d
        obtain ⟨m, hm⟩ : ∃ m : Nat, vv σ 3 d = (m : Int) := ⟨(vv σ 3 d).toNat, by omega⟩
        have ipm : ipN (dM σ) d = m := by unfold ipN; rw [dM_1 dn, hm]; omega
        have Beq : ∀ e, B d e = BPi d (dM σ 5) (fun i => B (dM σ 5 (4 * d + i)).toNat (feN (dM σ) d e)) m := fun e => by
          have q := BP_g hB dn hds gD op e
          rw [ipm] at q
          exact q
        have W : ∀ (f q : Nat) (l4 : Int32) (τ2 : VS), m + 1 ≤ f + q → q ≤ m → l4.toInt = (q : Int) → MI τ2 → Eo [] [42, 43, 44] σ τ2 → (∀ e, e < 2 → RM b s (LaM σ s) (EaM σ s) (BPi d (dM σ 5) (fun i => B (dM σ 5 (4 * d + i)).toNat (feN (dM σ) d e)) q) d e τ2) → (∀ c2 e, c2 < nC σ → c2 ≠ d → e < 2 → ((gate σ c2 → ∃ k', k' < k ∧ oN σ k' = c2) → RM b s (LaM σ s) (EaM σ s) (B c2 e) c2 e τ2) ∧ ((gate σ c2 ∧ ¬ ∃ k', k' < k ∧ oN σ k' = c2) → RM b s (LaM σ s) (EaM σ s) [] c2 e τ2)) → X134 l2 x8 l4 τ2 := by
          intro f
          induction f with
          | zero => intro q l4 τ2 a c; omega
          | succ f ihf =>
            intro q l4 τ2 x1 y1 e4 M2 E2 hA hF
            refine H134 l2 x8 l4 τ2 ?_
            unfold b_walkFrom_134 b_walkFrom_202 b_walkFrom_208
            have r3 : (rd τ2 3 x8).toInt = (m : Int) := by rw [vv_rd t8, vv_eo E2 (by decide), hm]
            have v1 : (4 * x8).toInt = 4 * (d : Int) := i3_mulc rfl t8 rfl (by have w : (4 : Int32).toInt = 4 := rfl; omega)
            have v2 : (4 * x8 + l4).toInt = ((4 * d + q : Nat) : Int) := by
              have w := i3_addc (x := 4 * x8 + l4) v1 e4 rfl (by omega)
              omega
            rw [r3]
            refine ⟨⟨by omega, by omega⟩, fun y => ?_, fun y => ⟨⟨by omega, by omega⟩, fun x11 e11 => ?_⟩⟩
            · have eq : q = m := by omega
              rw [eq] at hA
              exact NX τ2 M2 E2 (fun e he => by rw [Beq e]; exact hA e he) hF
            · have hqm : q < m := by omega
              have t4 : (l4 + 1).toInt = ((q + 1 : Nat) : Int) := by
                have w := i3_addc (x := l4 + 1) e4 (show (1 : Int32).toInt = 1 from rfl) rfl (by omega)
                omega
              have r7 : -1 ≤ vv σ 7 (4 * d + q) ∧ vv σ 7 (4 * d + q) ≤ 49 := hM.2 7 _
              have t11 : x11.toInt = vv σ 7 (4 * d + q) := by rw [e11, vv_rd v2, vv_eo E2 (by decide)]
              clear e11
              have d5 : dM σ 5 (4 * d + q) = vv σ 7 (4 * d + q) := d5M hM (by omega)
              refine ⟨fun neg => ?_, fun pos => ?_⟩
              · have nd : ¬ 0 ≤ dM σ 5 (4 * d + q) := by omega
                exact ihf (q + 1) (l4 + 1) τ2 (by omega) (by omega) t4 M2 E2 (fun e he => by rw [BPi_n nd]; exact hA e he) hF
              · have yd : 0 ≤ dM σ 5 (4 * d + q) := by omega
                obtain ⟨sr, hsr⟩ : ∃ sr : Nat, vv σ 7 (4 * d + q) = (sr : Int) := ⟨(vv σ 7 (4 * d + q)).toNat, by omega⟩
                have d5n : (dM σ 5 (4 * d + q)).toNat = sr := by omega
                have srn : sr < nC σ := by
                  have w := (hRk d q dn (by omega) gD yd).1
                  omega
                obtain ⟨k', kk1, kk2⟩ := hD.2.2.2.1 k hk (by rw [← hd]; exact hg2) q (by rw [← hd]; show (q : Int) < vv σ 3 d; omega) (by rw [← hd]; show 0 ≤ vv σ 7 (4 * d + q); omega)
                rw [← hd] at kk2
                have kk3 : oN σ k' = sr := by rw [kk2]; show (vv σ 7 (4 * d + q)).toNat = sr; omega
                have srd : sr ≠ d := fun w => ndn ⟨k', kk1, by rw [kk3, w]⟩
                have RS : ∀ e, e < 2 → RM b s (LaM σ s) (EaM σ s) (B sr e) sr e τ2 := fun e he => (hF sr e srn srd he).1 (fun _ => ⟨k', kk1, kk3⟩)
                have r34s : (rd τ2 34 x11).toInt = vM σ 0 sr := by rw [vv_rd (n := sr) (by omega), vv_eo E2 (by decide)]; rfl
                rw [r34s]
                refine ⟨⟨by omega, by omega⟩, fun rs => ?_, fun nrs => ?_⟩
                · have ac : acN (dM σ) (vM σ) d q := Or.inr ⟨yd, by rw [d5n]; exact rs⟩
                  have fl : ∀ e, e < 2 → ∀ p, LaM σ s ((4 * d + q) :: p) e = LaM σ s p (feN (dM σ) d e) + vM σ 2 (8 * d + 2 * q + e) ∧ EaM σ s ((4 * d + q) :: p) e = EaM σ s p (feN (dM σ) d e) + vM σ 3 (8 * d + 2 * q + e) := fun e he p => by
                    have dw : (4 * d + q) / 4 = d := by omega
                    have e8 : 2 * (4 * d + q) + e = 8 * d + 2 * q + e := by omega
                    show ltP (feN (dM σ)) (saL σ) (vM σ 2) s p (feN (dM σ) ((4 * d + q) / 4) e) + vM σ 2 (2 * (4 * d + q) + e) = _ ∧ ltP (feN (dM σ)) (saE σ) (vM σ 3) s p (feN (dM σ) ((4 * d + q) / 4) e) + vM σ 3 (2 * (4 * d + q) + e) = _
                    rw [dw, e8]
                    exact ⟨rfl, rfl⟩
                  have k2 : dM σ 0 d = vv σ 2 d := dM_0 dn
                  have pass : ∀ (e : Nat) (l : Int32) (Lt : List (List Nat)) (τ3 : VS) (Q3 : VS → Prop), e < 2 → l.toInt = (e : Int) → MI τ3 → Eo [] [42, 43, 44] σ τ3 → RM b s (LaM σ s) (EaM σ s) (B sr e) sr e τ3 → RM b s (LaM σ s) (EaM σ s) Lt d (feN (dM σ) d e) τ3 → (∀ τ4 : VS, MI τ4 → Eo [] [42, 43, 44] σ τ4 → FwM (2 * d + feN (dM σ) d e) τ3 τ4 → RM b s (LaM σ s) (EaM σ s) (Lt ++ (B sr e).map (fun p => (4 * d + q) :: p)) d (feN (dM σ) d e) τ4 → Q3 τ4) → wp_passes Q3 x11 x8 l4 l τ3 := by
                    intro e l Lt τ3 Q3 he hl M3 E3 S3 T3 K3
                    have f2 := feN_lt (dM σ) d he
                    have D3 := dlm_b hM hL (i := q) (e := feN (dM σ) d e) dn ⟨gD.1, by have := gD.2; omega⟩ rch op (by omega) f2 ac
                    have e28 : vv τ3 28 = vv σ 28 := vv_eo E3 (by decide)
                    refine rx_passes (f := sr) (d := d) (i := q) (eo := feN (dM σ) d e) (e := e) (s := s) (R := R) (La := LaM σ s) (Ea := EaM σ s) (Lt := Lt) (Ls := B sr e) (dl := vM σ 2 (8 * d + 2 * q + feN (dM σ) d e)) (de := vM σ 3 (8 * d + 2 * q + feN (dM σ) d e)) (by omega) t8 e4 hl (by omega) (by omega) (by omega) he srd ?_ M3 (by rw [E3.1 25 (by decide)]; exact hR) (by rw [vv_eo E3 (by decide)]; rfl) (by rw [vv_eo E3 (by decide)]; rfl) D3 (fun p hp => bdp sr srn e p hp he) (fun p _ => by rw [(fl _ f2 p).1, feN_inv _ _ he]) (fun p _ => by rw [(fl _ f2 p).2, feN_inv _ _ he]) (by rw [e28, ← hb0]; exact S3) (by rw [e28, ← hb0]; exact T3) (fun τ4 M4 E4 F4 R4 => K3 τ4 M4 (E3.trans E4) F4 (by rw [e28, ← hb0] at R4; exact R4))
                    unfold feN
                    rw [k2, vv_eo E3 (by decide)]
                  have f0 := feN_lt (dM σ) d (show 0 < 2 by decide)
                  have f1 := feN_lt (dM σ) d (show 1 < 2 by decide)
                  have i0 := feN_inv (dM σ) d (show 0 < 2 by decide)
                  have i1 := feN_inv (dM σ) d (show 1 < 2 by decide)
                  have ne01 : feN (dM σ) d 0 ≠ feN (dM σ) d 1 := fun w => by rw [w, i1] at i0; omega
                  refine H179 l2 x8 l4 x11 0 τ2 ?_
                  unfold b_walkFrom_179
                  refine ⟨fun w => absurd w (by decide), fun _ => pass 0 0 _ τ2 _ (by decide) rfl M2 E2 (RS 0 (by decide)) (hA _ f0) (fun τ3 M3 E3 F3 R3 => ?_)⟩
                  refine H179 l2 x8 l4 x11 (0 + 1) τ3 ?_
                  unfold b_walkFrom_179
                  refine ⟨fun w => absurd w (by decide), fun _ => pass 1 (0 + 1) _ τ3 _ (by decide) rfl M3 E3 ((RS 1 (by decide)).same F3 (by omega)) ((hA _ f1).same F3 (by omega)) (fun τ4 M4 E4 F4 R4 => ?_)⟩
                  refine H179 l2 x8 l4 x11 (0 + 1 + 1) τ4 ?_
                  unfold b_walkFrom_179 b_walkFrom_202
                  refine ⟨fun _ => ?_, fun w => absurd w (by decide)⟩
                  refine ihf (q + 1) (l4 + 1) τ4 (by omega) (by omega) t4 M4 E4 (fun e he => ?_) (fun c2 e hc2 hne2 he => ?_)
                  · rw [BPi_y yd]
                    show RM b s (LaM σ s) (EaM σ s) (_ ++ (B (dM σ 5 (4 * d + q)).toNat (feN (dM σ) d e)).map (fun p => (4 * d + q) :: p)) d e τ4
                    rw [d5n]
                    have ie := feN_inv (dM σ) d he
                    have fe2 := feN_lt (dM σ) d he
                    rcases (show feN (dM σ) d e = 0 ∨ feN (dM σ) d e = 1 by omega) with w | w
                    · rw [w] at ie ⊢
                      rw [ie] at R3
                      rw [w] at R3
                      exact R3.same F4 (by omega)
                    · rw [w] at ie ⊢
                      rw [ie] at R4
                      rw [w] at R4
                      exact R4
                  · have w := hF c2 e hc2 hne2 he
                    exact ⟨fun y => ((w.1 y).same F3 (by omega)).same F4 (by omega), fun y => ((w.2 y).same F3 (by omega)).same F4 (by omega)⟩
                · refine ihf (q + 1) (l4 + 1) τ2 (by omega) (by omega) t4 M2 E2 (fun e he => ?_) hF
                  have emp : B sr (feN (dM σ) d e) = [] := List.eq_nil_iff_forall_not_mem.mpr (fun p hp => BR sr srn _ p hp nrs)
                  rw [BPi_y yd]
                  show RM b s (LaM σ s) (EaM σ s) (_ ++ (B (dM σ 5 (4 * d + q)).toNat (feN (dM σ) d e)).map (fun p => (4 * d + q) :: p)) d e τ2
                  rw [d5n, emp, List.map_nil, List.append_nil]
                  exact hA e he
        exact W (m + 1) 0 0 τ (by omega) (by omega) rfl hMt hE (fun e he => (hI d e dn he).2 ⟨hg2, ndn⟩) hFr
  have same : ∀ τ : VS, Eo [] [42, 43, 44] σ τ → nC τ = nC σ ∧ SI τ ∧ NdR τ ∧ vv τ 2 = vv σ 2 := fun τ hE => by
    refine ⟨by unfold nC; rw [hE.1 1 (by decide)], hS.same hE (by decide), ?_, vv_eo hE (by decide)⟩
    unfold NdR
    rw [vv_eo hE (show 23 ∉ [42, 43, 44] by decide), vv_eo hE (show 24 ∉ [42, 43, 44] by decide), hE.1 21 (by decide)]
    exact hN
  have G28 : ∀ (g k : Nat) (l2 : Int32) (τ : VS), 3 ≤ g + k → k ≤ 2 → l2.toInt = (k : Int) → MI τ → Eo [] [42, 43, 44] σ τ → (∀ e, e < 2 → (e < k → RM b s (LaM σ s) (EaM σ s) [[]] s e τ) ∧ (k ≤ e → RM b s (LaM σ s) (EaM σ s) [] s e τ)) → (∀ c e, c < nC σ → c ≠ s → e < 2 → RM b s (LaM σ s) (EaM σ s) [] c e τ) → X28 p1 l2 τ := by
    intro g
    induction g with
    | zero => intro k l2 τ a c; omega
    | succ g ih =>
      intro k l2 τ a c e2 hMt hE hSt hNo
      refine H28 p1 l2 τ ?_
      unfold b_walkFrom_28
      refine ⟨fun z => ?_, fun z => ?_⟩
      · refine G87 (oL σ + 1) 0 0 τ (by omega) (by omega) rfl hMt hE (fun c e hc he => ⟨fun y => ?_, fun y => hNo c e hc (fun q => sng (q ▸ y.1)) he⟩)
        by_cases w : c = s
        · rw [w, BP_s hB hs]
          exact (hSt e he).1 (by omega)
        · have ng : ¬ gate σ c := fun gg => by
            obtain ⟨k', q, _⟩ := y gg
            omega
          rw [BP_0 hB hc w (fun q => ng ((gM_is hc).mp q.1))]
          exact hNo c e hc w he
      · have hk : k < 2 := by omega
        have t2 : (l2 + 1).toInt = ((k + 1 : Nat) : Int) := by
          have q := i3_addc (x := l2 + 1) e2 (show (1 : Int32).toInt = 1 from rfl) rfl (by omega)
          omega
        refine met_s hMt ?_
        intro x3 e3
        have em : (metV τ p1.toInt).toInt = ((b s : Nat) : Int) := by
          rw [h1, met_same hE (by decide), hb0]
          exact metN_bR hM hR s
        have u1 : (2 * p1).toInt = 2 * (s : Int) := i3_mulc rfl h1 rfl (by have q : (2 : Int32).toInt = 2 := rfl; omega)
        have u2 : (2 * p1 + l2).toInt = 2 * (s : Int) + (k : Int) := i3_addc u1 e2 rfl (by omega)
        have u3 : (16 * (2 * p1 + l2)).toInt = 16 * (2 * (s : Int) + (k : Int)) := i3_mulc rfl u2 rfl (by have q : (16 : Int32).toInt = 16 := rfl; omega)
        have bs := b16 s
        have t3 : x3.toInt = (((2 * s + k) * 16 + b s : Nat) : Int) := by
          have q := i3_addc (x := x3) u3 em e3 (by omega)
          omega
        clear e3
        have st := hst k hk
        have Ea : Eo [] [42, 43, 44] σ (sa τ 42 x3 1) := hE.sa 42 x3 1 (by decide)
        have Ma : MI (sa τ 42 x3 1) := hMt.sa 42 x3 1 (by decide)
        have sm := same _ Ea
        have s3 := sa_same3 Ea
        refine ⟨⟨by omega, by omega⟩, rx_startLate h1 e2 (by rw [sm.1]; exact hs) hk sm.2.1 Ma sm.2.2.1 (fun y => by rw [s3.2.2.2.1]; rw [sm.2.2.2] at y; exact (st.1 y).1) (fun r4 er4 => ⟨⟨by omega, by omega⟩, ?_⟩)⟩
        rw [s3.1] at er4
        have Eb : Eo [] [42, 43, 44] σ (sa (sa τ 42 x3 1) 43 x3 r4) := Ea.sa 43 x3 r4 (by decide)
        have Mb : MI (sa (sa τ 42 x3 1) 43 x3 r4) := Ma.sa 43 x3 r4 (i3_bd _)
        have sn := same _ Eb
        have s4 := sa_same3 Eb
        refine rx_startEarly h1 e2 (by rw [sn.1]; exact hs) hk sn.2.1 Mb sn.2.2.1 (fun y => by rw [s4.2.2.2.2]; rw [sn.2.2.2] at y; exact (st.1 y).2) (fun r6 er6 => ⟨⟨by omega, by omega⟩, ?_⟩)
        rw [s4.2.1] at er6
        obtain ⟨τ2, hτ⟩ : ∃ τ2 : VS, τ2 = sa (sa (sa τ 42 x3 1) 43 x3 r4) 44 x3 r6 := ⟨_, rfl⟩
        have g1 : vv τ2 42 = fu (vv τ 42) ((2 * s + k) * 16 + b s) 1 := by rw [hτ, vv_so (show 42 ≠ 44 by decide), vv_so (show 42 ≠ 43 by decide), vv_sa τ 42 x3 1 t3]; rfl
        have g2 : vv τ2 43 = fu (vv τ 43) ((2 * s + k) * 16 + b s) (saL σ (2 * s + k)) := by rw [hτ, vv_so (show 43 ≠ 44 by decide), vv_sa _ 43 x3 r4 t3, vv_so (show 43 ≠ 42 by decide), er4]
        have g3 : vv τ2 44 = fu (vv τ 44) ((2 * s + k) * 16 + b s) (saE σ (2 * s + k)) := by rw [hτ, vv_sa _ 44 x3 r6 t3, vv_so (show 44 ≠ 43 by decide), vv_so (show 44 ≠ 42 by decide), er6]
        have M2 : MI τ2 := by rw [hτ]; exact Mb.sa 44 x3 r6 (i3_bd _)
        have E2 : Eo [] [42, 43, 44] σ τ2 := by rw [hτ]; exact Eb.sa 44 x3 r6 (by decide)
        have F2 : FwM (2 * s + k) τ τ2 := fun j hj => by
          have ne : j ≠ (2 * s + k) * 16 + b s := by omega
          rw [g1, g2, g3, fu_ne ne, fu_ne ne, fu_ne ne]
          exact ⟨rfl, rfl, rfl⟩
        rw [← hτ]
        refine ih (k + 1) (l2 + 1) τ2 (by omega) (by omega) t2 M2 E2 (fun e he => ⟨fun w => ?_, fun w => ?_⟩) (fun c e hc hne he => (hNo c e hc hne he).same F2 (by omega))
        · by_cases w2 : e = k
          · rw [w2]
            exact RM.first bs rfl rfl ((hSt k hk).2 (Nat.le_refl k)) g1 g2 g3
          · exact ((hSt e he).1 (by omega)).same F2 (by omega)
        · exact ((hSt e he).2 (by omega)).same F2 (by omega)
  have cnt : (32 * σ.1 1).toInt = 32 * ((nC σ : Nat) : Int) := i3_mulc rfl en rfl (by have q : (32 : Int32).toInt = 32 := rfl; omega)
  have G2 : ∀ (g k : Nat) (l2 : Int32) (τ : VS), 32 * nC σ + 1 ≤ g + k → k ≤ 32 * nC σ → l2.toInt = (k : Int) → MI τ → Eo [] [42, 43, 44] σ τ → (∀ j, j < k → vv τ 42 j = 0) → X2 p1 l2 τ := by
    intro g
    induction g with
    | zero => intro k l2 τ a c; omega
    | succ g ih =>
      intro k l2 τ a c e2 hMt hE hz
      refine H2 p1 l2 τ ?_
      unfold b_walkFrom_2
      rw [hE.1 1 (by decide), cnt]
      refine ⟨fun z => ?_, fun z => ⟨⟨by omega, by omega⟩, ?_⟩⟩
      · have all : ∀ c e, c < nC σ → e < 2 → RM b s (LaM σ s) (EaM σ s) [] c e τ := fun c e hc he => RM.nil (fun t ht => hz _ (by omega))
        exact G28 3 0 0 τ (by omega) (by omega) rfl hMt hE (fun e he => ⟨fun w => by omega, fun _ => all s e hs he⟩) (fun c e hc _ he => all c e hc he)
      · have t2 : (l2 + 1).toInt = ((k + 1 : Nat) : Int) := by
          have q := i3_addc (x := l2 + 1) e2 (show (1 : Int32).toInt = 1 from rfl) rfl (by omega)
          omega
        refine ih (k + 1) (l2 + 1) _ (by omega) (by omega) t2 (hMt.sa 42 l2 0 (by decide)) (hE.sa 42 l2 0 (by decide)) (fun j hj => ?_)
        rw [vv_sa τ 42 l2 0 e2]
        by_cases w : j = k
        · rw [w, fu_eq]; rfl
        · rw [fu_ne w]; exact hz j (by omega)
  exact G2 (32 * nC σ + 1) 0 0 σ (by omega) (by omega) rfl hM Eo.rfl (fun j hj => by omega)
