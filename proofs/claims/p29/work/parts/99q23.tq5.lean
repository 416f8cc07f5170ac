theorem RO.nil {b : Nat → Nat} {s K : Nat} {La Ea : List Nat → Nat → Int} {c e : Nat} {τ : VS} (h : ∀ t, t < K → vv τ 47 ((2 * c + e) * K + t) = 0) : RO b s K La Ea [] c e τ := fun t ht => by
  rw [h t ht]
  exact Sm3.nil (fun x y ⟨p, hp, _⟩ => by cases hp)
theorem RO.zero {b : Nat → Nat} {s K : Nat} {La Ea : List Nat → Nat → Int} {c e : Nat} {τ : VS} (h : RO b s K La Ea [] c e τ) : ∀ t, t < K → vv τ 47 ((2 * c + e) * K + t) = 0 := fun t ht => by
  have q := (h t ht).1
  have z : cP (fun p => mkP b s p = t) [] = 0 := rfl
  rw [z] at q
  rw [q]; rfl
theorem RO.first {b : Nat → Nat} {s K : Nat} {La Ea : List Nat → Nat → Int} {e : Nat} {τ τ' : VS} {x y : Int} (hb : b s < K) (hx : La [] e = x) (hy : Ea [] e = y) (h : RO b s K La Ea [] s e τ) (g1 : vv τ' 47 = fu (vv τ 47) ((2 * s + e) * K + b s) (min 1000 (vv τ 47 ((2 * s + e) * K + b s) + 1))) (g2 : vv τ' 48 = fu (vv τ 48) ((2 * s + e) * K + b s) (if vv τ 47 ((2 * s + e) * K + b s) = 0 then x else max (vv τ 48 ((2 * s + e) * K + b s)) x)) (g3 : vv τ' 49 = fu (vv τ 49) ((2 * s + e) * K + b s) (if vv τ 47 ((2 * s + e) * K + b s) = 0 then y else min (vv τ 49 ((2 * s + e) * K + b s)) y)) : RO b s K La Ea [[]] s e τ' := fun t ht => by
  have z := h.zero
  by_cases q : t = b s
  · have z0 := z (b s) hb
    rw [q, g1, g2, g3, fu_eq, fu_eq, fu_eq, z0, if_pos rfl, if_pos rfl]
    refine Sm3.cg ?_ (fun a c => ⟨fun k => ⟨[], List.mem_singleton.mpr rfl, rfl, ?_, ?_⟩, fun ⟨p, hp, _, r1, r2⟩ => ?_⟩) (Sm3.one x y)
    · rw [cP_y (show mkP b s [] = b s from rfl)]; rfl
    · rw [hx]; exact k.1.symm
    · rw [hy]; exact k.2.symm
    · have e1 : p = [] := List.mem_singleton.mp hp
      rw [e1] at r1 r2
      exact ⟨by rw [← r1, hx], by rw [← r2, hy]⟩
  · have ne : (2 * s + e) * K + t ≠ (2 * s + e) * K + b s := by omega
    rw [g1, g2, g3, fu_ne ne, fu_ne ne, fu_ne ne, z t ht]
    have c0 : cP (fun p => mkP b s p = t) [[]] = 0 := by
      rw [cP_n (show ¬ mkP b s [] = t from fun k => q k.symm)]; rfl
    unfold SpO
    rw [c0]
    refine Sm3.nil (fun a c ⟨p, hp, r, _⟩ => ?_)
    have e1 : p = [] := List.mem_singleton.mp hp
    rw [e1] at r
    exact q r.symm
set_option maxHeartbeats 1000000 in
theorem cx_spreadFrom {Q : VS → Prop} {p1 : Int32} {σ : VS} {K s : Nat} {b : Nat → Nat} {B : Nat → Nat → List (List Nat)} {La Ea : List Nat → Nat → Int} (h1 : p1.toInt = (s : Int)) (hM : CI σ) (hO : TO σ) (hC : CSrc σ) (h : Rst σ K s b B La Ea) (hq : ∀ τ : VS, CI τ → Eo [] [47, 48, 49] σ τ → (∀ c e, c < nCl σ → e < 2 → RO b s K La Ea (B c e) c e τ) → Q τ) : wp_X2spreadFrom Q p1 σ := by
  have bdp := h.bd hM hO hC
  have hr := h.reached
  obtain ⟨⟨hK, hK1, hK2⟩, hor, hb, hbK, hB, hLa, hEa, hT, hs, hkd, hop⟩ := h
  have a2 : 0 ≤ (σ.1 2).toInt ∧ (σ.1 2).toInt ≤ 50 := hM.1 2
  have a3 : 0 ≤ (σ.1 3).toInt ∧ (σ.1 3).toInt ≤ 50 := hM.1 3
  have en : (σ.1 2).toInt = ((nCl σ : Nat) : Int) := by unfold nCl; omega
  obtain ⟨ρ, hR, h50, _⟩ := TO.rk hM hO hC
  have BR := BP_reach hB hR (fun c hc => (hT c hc).1) hr
  have BE := BP_edge hB hR
  have hbm : ∀ p, mkP b s p < K := mkP_lt hor hbK
  have sng : ¬ gtC σ s := fun g => by
    have g2 : 0 < vv σ 11 s ∧ vv σ 11 s < 4 := g
    omega
  unfold wp_X2spreadFrom
  intro X2 X37 X93 X119 H2 H37 H93 H119
  -- the gates
  have G93 : ∀ (d i : Nat) (l2 : Int32) (τ : VS), (σ.1 3).toInt + 1 ≤ (d : Int) + (i : Int) → (i : Int) ≤ (σ.1 3).toInt → l2.toInt = (i : Int) → CI τ → Eo [] [47, 48, 49] σ τ → (∀ c e, c < nCl σ → e < 2 → (dnC σ c i → RO b s K La Ea (B c e) c e τ) ∧ (¬ dnC σ c i → RO b s K La Ea [] c e τ)) → X93 l2 τ := by
    intro d
    induction d with
    | zero => intro i l2 τ a b'; omega
    | succ d ih =>
      intro i l2 τ a b' e2 hMt hE hI
      refine H93 l2 τ ?_
      unfold b_X2spreadFrom_93
      rw [hE.1 3 (by decide)]
      refine ⟨fun z => ?_, fun z => ?_⟩
      · have ei : (i : Int) = (σ.1 3).toInt := by omega
        refine hq τ hMt hE (fun c e hc he => (hI c e hc he).1 ?_)
        by_cases g : gtC σ c
        · obtain ⟨j, hj, ej⟩ := hO.2.2.1 c (by omega) g
          exact Or.inr ⟨j, by omega, ej⟩
        · exact Or.inl g
      · obtain ⟨c, hc, hcn, hg⟩ := hO.1 i (by omega)
        have hc' : vv σ 19 i = (c : Int) := hc
        have hcl : c < nCl σ := by omega
        have ndn := not_dn hO (by omega) hc' hg
        have hcs : c ≠ s := fun e => sng (e ▸ hg)
        have gD := (gN_is hcl).mpr hg
        have m4 : 0 ≤ vv σ 12 c ∧ vv σ 12 c ≤ 4 := hM.2 12 c
        obtain ⟨m, hm⟩ : ∃ m : Nat, vv σ 12 c = (m : Int) := ⟨(vv σ 12 c).toNat, by omega⟩
        have ipm : ipN (dC σ) c = m := by unfold ipN; rw [dC_1 hcl, hm]; omega
        have t3 : (l2 + 1).toInt = ((i + 1 : Nat) : Int) := by
          have q := i3_addc (x := l2 + 1) e2 (show (1 : Int32).toInt = 1 from rfl) rfl (by omega)
          omega
        refine ⟨⟨by omega, by omega⟩, fun x4 e4 x5 e5 => ?_⟩
        have t4 : x4.toInt = (c : Int) := by rw [e4, vv_rd e2, vv_eo hE (by decide)]; exact hc'
        have t5 : x5.toInt = 4 * (c : Int) := by
          have q := i3_mulc (x := x5) t4 (show (4 : Int32).toInt = 4 from rfl) e5 (by omega)
          omega
        clear e4 e5
        -- this gate is through
        have NX : ∀ τ2 : VS, CI τ2 → Eo [] [47, 48, 49] σ τ2 → (∀ e, e < 2 → RO b s K La Ea (B c e) c e τ2) → (∀ c2 e, c2 < nCl σ → c2 ≠ c → e < 2 → (dnC σ c2 i → RO b s K La Ea (B c2 e) c2 e τ2) ∧ (¬ dnC σ c2 i → RO b s K La Ea [] c2 e τ2)) → X93 (l2 + 1) τ2 := by
          intro τ2 q1 q2 q3 q4
          refine ih (i + 1) (l2 + 1) τ2 (by omega) (by omega) t3 q1 q2 (fun c2 e hc2 he => ?_)
          by_cases w : c2 = c
          · rw [w]
            exact ⟨fun _ => q3 e he, fun k => absurd (Or.inr ⟨i, by omega, hc'⟩) k⟩
          · have q5 := q4 c2 e hc2 w he
            refine ⟨fun k => q5.1 ?_, fun k => q5.2 (fun y => k ?_)⟩
            · rcases k with k | ⟨j, hj, ej⟩
              · exact Or.inl k
              · by_cases ji : j = i
                · rw [ji, hc'] at ej
                  exact absurd (by omega) w
                · exact Or.inr ⟨j, by omega, ej⟩
            · rcases y with y | ⟨j, hj, ej⟩
              · exact Or.inl y
              · exact Or.inr ⟨j, by omega, ej⟩
        have r40 : ∀ τ2 : VS, Eo [] [47, 48, 49] σ τ2 → (rd τ2 40 x4).toInt = vC σ 1 c := fun τ2 q => by rw [vv_rd t4, vv_eo q (by decide)]; rfl
        have r12 : ∀ τ2 : VS, Eo [] [47, 48, 49] σ τ2 → (x4 * 4 + rd τ2 12 x4).toInt = 4 * (c : Int) + (m : Int) := fun τ2 q => by
          have u1 : (x4 * 4).toInt = (c : Int) * 4 := i3_mulc t4 rfl rfl (by omega)
          have u2 : (rd τ2 12 x4).toInt = (m : Int) := by rw [vv_rd t4, vv_eo q (by decide), hm]
          have u3 := i3_addc (x := x4 * 4 + rd τ2 12 x4) u1 u2 rfl (by omega)
          omega
        by_cases op : vC σ 1 c = 0
        · have Beq : ∀ e, B c e = BPi c (dC σ 5) (fun i => B (dC σ 5 (4 * c + i)).toNat (feN (dC σ) c e)) m := fun e => by
            have q := BP_g hB hcl hcs gD op e
            rw [ipm] at q
            exact q
          have W : ∀ (f q : Nat) (l4 : Int32) (τ2 : VS), m + 1 ≤ f + q → q ≤ m → l4.toInt = 4 * (c : Int) + (q : Int) → CI τ2 → Eo [] [47, 48, 49] σ τ2 → (∀ e, e < 2 → RO b s K La Ea (BPi c (dC σ 5) (fun i => B (dC σ 5 (4 * c + i)).toNat (feN (dC σ) c e)) q) c e τ2) → (∀ c2 e, c2 < nCl σ → c2 ≠ c → e < 2 → (dnC σ c2 i → RO b s K La Ea (B c2 e) c2 e τ2) ∧ (¬ dnC σ c2 i → RO b s K La Ea [] c2 e τ2)) → X119 l2 x4 l4 τ2 := by
            intro f
            induction f with
            | zero => intro q l4 τ2 a b'; omega
            | succ f ihf =>
              intro q l4 τ2 a1 b1 e4 M2 E2 hA hF
              refine H119 l2 x4 l4 τ2 ?_
              unfold b_X2spreadFrom_119 b_X2spreadFrom_180
              rw [r12 τ2 E2, r40 τ2 E2]
              refine ⟨⟨by omega, by omega⟩, fun z => ?_, fun z => ⟨⟨by omega, by omega⟩, fun k => absurd op k, fun _ => ⟨⟨by omega, by omega⟩, ?_⟩⟩⟩
              · have eq : q = m := by omega
                rw [eq] at hA
                exact NX τ2 M2 E2 (fun e he => by rw [Beq e]; exact hA e he) hF
              · have hqm : q < m := by omega
                have tn : (l4 + 1).toInt = 4 * (c : Int) + ((q + 1 : Nat) : Int) := by
                  have w := i3_addc (x := l4 + 1) e4 (show (1 : Int32).toInt = 1 from rfl) rfl (by omega)
                  omega
                have r16 : (rd τ2 16 l4).toInt = vv σ 16 (4 * c + q) := by rw [vv_rd (n := 4 * c + q) (by omega), vv_eo E2 (by decide)]
                have d5 : dC σ 5 (4 * c + q) = max (vv σ 16 (4 * c + q)) (-1) := dC_5 (by omega)
                by_cases neg : vv σ 16 (4 * c + q) < 0
                · have nd : ¬ 0 ≤ dC σ 5 (4 * c + q) := by omega
                  unfold wp_X2isSpreadTo
                  intro X8 _
                  refine ⟨fun k => by omega, fun _ => ⟨fun _ => ihf (q + 1) (l4 + 1) τ2 (by omega) (by omega) tn M2 E2 (fun e he => by rw [BPi_n nd]; exact hA e he) hF, fun k => absurd rfl k⟩⟩
                · have yd : 0 ≤ dC σ 5 (4 * c + q) := by omega
                  obtain ⟨sr, esr, srn, sdn⟩ := src_dn hO hC (by omega) hc' (show q < 4 by omega) (show 0 ≤ vv σ 16 (4 * c + q) by omega)
                  have d5n : (dC σ 5 (4 * c + q)).toNat = sr := by omega
                  have srl : sr < nCl σ := by omega
                  have src : sr ≠ c := fun e => ndn (e ▸ sdn)
                  have RS : ∀ e, e < 2 → RO b s K La Ea (B sr e) sr e τ2 := fun e he => (hF sr e srl src he).1 sdn
                  refine cx_isSpreadTo (sr := sr) (L := B sr 0) (by rw [r16]; exact esr) (by omega) (by rw [E2.1 9 (by decide)]; exact hK) ⟨hK1, hK2⟩ (fun p _ => hbm p) (RS 0 (by decide)) (fun ⟨p0, hp0⟩ => ⟨fun k => absurd k (by decide), fun _ => ?_⟩) (fun none => ⟨fun _ => ?_, fun k => absurd rfl k⟩)
                  · have rs := BR sr srl 0 p0 hp0
                    have ac : acN (dC σ) (vC σ) c q := Or.inr ⟨yd, by rw [d5n]; exact rs⟩
                    have r0 : vC σ 0 c ≠ 0 := by
                      rcases (hT c hcl).1.2.2.2.1 gD with ⟨v, _⟩ | ⟨_, k⟩
                      · omega
                      · exact absurd ac (k q (by omega))
                    have db : ∀ e, e < 2 → _ := fun e he => dl_b hM rfl hC hT (i := q) (e := e) hcl ⟨gD.1, by have := gD.2; omega⟩ r0 op (by omega) he ac
                    have fl : ∀ e, e < 2 → ∀ p, La ((4 * c + q) :: p) e = La p (feN (dC σ) c e) + vC σ 2 (8 * c + 2 * q + e) ∧ Ea ((4 * c + q) :: p) e = Ea p (feN (dC σ) c e) + vC σ 3 (8 * c + 2 * q + e) := fun e he p => by
                      have dw : (4 * c + q) / 4 = c := by omega
                      have e8 : 2 * (4 * c + q) + e = 8 * c + 2 * q + e := by omega
                      rw [hLa, hLa, hEa, hEa]
                      show ltP (feN (dC σ)) (vC σ 6) (vC σ 2) s p (feN (dC σ) ((4 * c + q) / 4) e) + vC σ 2 (2 * (4 * c + q) + e) = _ ∧ ltP (feN (dC σ)) (vC σ 7) (vC σ 3) s p (feN (dC σ) ((4 * c + q) / 4) e) + vC σ 3 (2 * (4 * c + q) + e) = _
                      rw [dw, e8]
                      exact ⟨rfl, rfl⟩
                    have k11 : dC σ 0 c = vv σ 11 c := dC_0 hcl
                    have pass : ∀ (e : Nat) (l : Int32) (Lt : List (List Nat)) (τ3 : VS) (Q3 : VS → Prop), e < 2 → l.toInt = (e : Int) → CI τ3 → Eo [] [47, 48, 49] σ τ3 → RO b s K La Ea (B sr (feN (dC σ) c e)) sr (feN (dC σ) c e) τ3 → RO b s K La Ea Lt c e τ3 → (∀ τ4 : VS, CI τ4 → Eo [] [47, 48, 49] σ τ4 → Fw K (2 * c + e) τ3 τ4 → RO b s K La Ea (Lt ++ (B sr (feN (dC σ) c e)).map (fun p => (4 * c + q) :: p)) c e τ4 → Q3 τ4) → wp_X2passArc Q3 l4 l τ3 := by
                      intro e l Lt τ3 Q3 he hl M3 E3 S3 T3 K3
                      have D3 := db e he
                      refine cx_passArc (c := c) (i := q) (e := e) (s := s) (K := K) (sr := sr) (fe := feN (dC σ) c e) (b := b) (La := La) (Ea := Ea) (Lt := Lt) (Ls := B sr (feN (dC σ) c e)) (dl := vC σ 2 (8 * c + 2 * q + e)) (de := vC σ 3 (8 * c + 2 * q + e)) e4 (by omega) (by omega) hl he M3 (by rw [E3.1 9 (by decide)]; exact hK) ⟨hK1, hK2⟩ hor (by rw [vv_eo E3 (by decide)]; exact hb c (by omega)) (hbK c) (fun p _ => hbm p) (by rw [vv_eo E3 (by decide)]; exact esr) (by omega) src ?_ (by rw [vv_eo E3 (by decide)]; rfl) (by rw [vv_eo E3 (by decide)]; rfl) D3 (fun p hp => bdp sr srl _ p hp (feN_lt _ _ he)) (fun p _ => (fl e he p).1) (fun p _ => (fl e he p).2) S3 T3 (fun τ4 M4 E4 F4 R4 => K3 τ4 M4 (E3.trans E4) F4 R4)
                      unfold feN
                      rw [k11, vv_eo E3 (by decide)]
                    refine pass 0 0 _ τ2 _ (by decide) rfl M2 E2 (RS _ (feN_lt _ _ (by decide))) (hA 0 (by decide)) (fun τ3 M3 E3 F3 R3 => ?_)
                    refine pass 1 1 _ τ3 _ (by decide) rfl M3 E3 ((RS _ (feN_lt _ _ (by decide))).same F3 (by have := feN_lt (dC σ) c (show 1 < 2 by decide); omega)) ((hA 1 (by decide)).same F3 (by omega)) (fun τ4 M4 E4 F4 R4 => ?_)
                    refine ihf (q + 1) (l4 + 1) τ4 (by omega) (by omega) tn M4 E4 (fun e he => ?_) (fun c2 e hc2 hne2 he => ?_)
                    · rw [BPi_y yd]
                      show RO b s K La Ea (_ ++ (B (dC σ 5 (4 * c + q)).toNat (feN (dC σ) c e)).map (fun p => (4 * c + q) :: p)) c e τ4
                      rw [d5n]
                      rcases (show e = 0 ∨ e = 1 by omega) with w | w
                      · rw [w]; exact R3.same F4 (by omega)
                      · rw [w]; exact R4
                    · have w := hF c2 e hc2 hne2 he
                      exact ⟨fun k => ((w.1 k).same F3 (by omega)).same F4 (by omega), fun k => ((w.2 k).same F3 (by omega)).same F4 (by omega)⟩
                  · refine ihf (q + 1) (l4 + 1) τ2 (by omega) (by omega) tn M2 E2 (fun e he => ?_) hF
                    have emp : B sr (feN (dC σ) c e) = [] := by
                      cases hcase : B sr (feN (dC σ) c e) with
                      | nil => rfl
                      | cons p L =>
                        obtain ⟨p2, hp2⟩ := BE sr srl (feN (dC σ) c e) 0 (feN_lt _ _ he) (by decide) ⟨p, by rw [hcase]; exact List.mem_cons_self⟩
                        exact absurd hp2 (none p2)
                    rw [BPi_y yd]
                    show RO b s K La Ea (_ ++ (B (dC σ 5 (4 * c + q)).toNat (feN (dC σ) c e)).map (fun p => (4 * c + q) :: p)) c e τ2
                    rw [d5n, emp, List.map_nil, List.append_nil]
                    exact hA e he
          exact W (m + 1) 0 x5 τ (by omega) (by omega) (by omega) hMt hE (fun e he => (hI c e hcl he).2 ndn) (fun c2 e hc2 _ he => hI c2 e hc2 he)
        · have Beq : ∀ e, B c e = [] := fun e => BP_0 hB hcl hcs (fun k => op k.2) e
          have W : ∀ (f q : Nat) (l4 : Int32), m + 1 ≤ f + q → q ≤ m → l4.toInt = 4 * (c : Int) + (q : Int) → X119 l2 x4 l4 τ := by
            intro f
            induction f with
            | zero => intro q l4 a b'; omega
            | succ f ihf =>
              intro q l4 a1 b1 e4
              refine H119 l2 x4 l4 τ ?_
              unfold b_X2spreadFrom_119 b_X2spreadFrom_180
              rw [r12 τ hE, r40 τ hE]
              refine ⟨⟨by omega, by omega⟩, fun z => NX τ hMt hE (fun e he => by rw [Beq e]; exact (hI c e hcl he).2 ndn) (fun c2 e hc2 _ he => hI c2 e hc2 he), fun z => ⟨⟨by omega, by omega⟩, fun _ => ihf (q + 1) (l4 + 1) (by omega) (by omega) ?_, fun k => absurd k op⟩⟩
              have w := i3_addc (x := l4 + 1) e4 (show (1 : Int32).toInt = 1 from rfl) rfl (by omega)
              omega
          exact W (m + 1) 0 x5 (by omega) (by omega) (by omega)
  -- the START itself
  have G37 : ∀ (d k : Nat) (l2 : Int32) (τ : VS), 3 ≤ d + k → k ≤ 2 → l2.toInt = 2 * (s : Int) + (k : Int) → CI τ → Eo [] [47, 48, 49] σ τ → (∀ e, e < 2 → (e < k → RO b s K La Ea [[]] s e τ) ∧ (k ≤ e → RO b s K La Ea [] s e τ)) → (∀ c e, c < nCl σ → c ≠ s → e < 2 → RO b s K La Ea [] c e τ) → X37 p1 l2 τ := by
    intro d
    induction d with
    | zero => intro k l2 τ a b'; omega
    | succ d ih =>
      intro k l2 τ a b' e2 hMt hE hS hN
      refine H37 p1 l2 τ ?_
      unfold b_X2spreadFrom_37
      have u1 : (p1 * 2).toInt = (s : Int) * 2 := i3_mulc h1 rfl rfl (by omega)
      have u2 : (p1 * 2 + 2).toInt = (s : Int) * 2 + 2 := i3_addc u1 rfl rfl (by have q : (2 : Int32).toInt = 2 := rfl; omega)
      refine ⟨fun z => ?_, fun z => ⟨⟨by omega, by omega⟩, ⟨by omega, by omega⟩, ⟨by omega, by omega⟩, ?_⟩⟩
      · refine G93 51 0 0 τ (by omega) (by omega) rfl hMt hE (fun c e hc he => ⟨fun k2 => ?_, fun k2 => ?_⟩)
        · by_cases w : c = s
          · rw [w, BP_s hB hs]
            exact (hS e he).1 (by omega)
          · rcases k2 with k2 | ⟨j, hj, _⟩
            · rw [BP_0 hB hc w (fun q => k2 ((gN_is hc).mp q.1))]
              exact hN c e hc w he
            · omega
        · have w : c ≠ s := fun q => k2 (Or.inl (q ▸ sng))
          exact hN c e hc w he
      · have hk : k < 2 := by omega
        have t2 : (l2 + 1).toInt = 2 * (s : Int) + ((k + 1 : Nat) : Int) := by
          have q := i3_addc (x := l2 + 1) e2 (show (1 : Int32).toInt = 1 from rfl) rfl (by omega)
          omega
        have n2 : l2.toInt = ((2 * s + k : Nat) : Int) := by omega
        have k9 : (τ.1 9).toInt = (K : Int) := by rw [hE.1 9 (by decide)]; exact hK
        have v1 : (l2 * τ.1 9).toInt = (((2 * s + k) * K : Nat) : Int) := ix_m n2 k9 (by omega) hK2 rfl
        have r35 : (rd τ 35 p1).toInt = ((b s : Nat) : Int) := by rw [vv_rd h1, vv_eo hE (by decide)]; exact hb s (by omega)
        have v2 : (l2 * τ.1 9 + rd τ 35 p1).toInt = (((2 * s + k) * K + b s : Nat) : Int) := ix_i v1 r35 (by omega) hK2 (hbK s) rfl
        have r45 : (rd τ 45 l2).toInt = La [] k := by rw [vv_rd n2, vv_eo hE (by decide), hLa]; rfl
        have r46 : (rd τ 46 l2).toInt = Ea [] k := by rw [vv_rd n2, vv_eo hE (by decide), hEa]; rfl
        have R0 := (hS k hk).2 (Nat.le_refl k)
        have z0 := R0.zero (b s) (hbK s)
        refine cx_merge (x := (2 * s + k) * K + b s) v2 (ix_lt (by omega) hK2 (hbK s)) hMt (by omega) (by decide) (fun τ2 M2 E2 g1 g2 g3 => ?_)
        rw [r45] at g2
        rw [r46] at g3
        have Fw2 : Fw K (2 * s + k) τ τ2 := fun j hj => by
          have ne : j ≠ (2 * s + k) * K + b s := fun q => hj (by rw [q, ix_div (hbK s)])
          rw [g1, g2, g3, fu_ne ne, fu_ne ne, fu_ne ne]
          exact ⟨rfl, rfl, rfl⟩
        refine ih (k + 1) (l2 + 1) τ2 (by omega) (by omega) t2 M2 (hE.trans E2) (fun e he => ⟨fun w => ?_, fun w => ?_⟩) (fun c e hc hne he => (hN c e hc hne he).same Fw2 (by omega))
        · by_cases w2 : e = k
          · rw [w2]
            exact RO.first (hbK s) rfl rfl R0 g1 g2 g3
          · exact ((hS e he).1 (by omega)).same Fw2 (by omega)
        · exact ((hS e he).2 (by omega)).same Fw2 (by omega)
  -- all are cleared
  have cnt : ((σ.1 2) * 2 * σ.1 9).toInt = ((nCl σ * 2 * K : Nat) : Int) := by
    have u1 : (σ.1 2 * 2).toInt = ((nCl σ * 2 : Nat) : Int) := by
      have q := i3_mulc (x := σ.1 2 * 2) en (show (2 : Int32).toInt = 2 from rfl) rfl (by omega)
      omega
    have q : nCl σ * 2 * K ≤ 100 * 16 := Nat.mul_le_mul (by omega) hK2
    have w : ((nCl σ * 2 : Nat) : Int) * (K : Int) = ((nCl σ * 2 * K : Nat) : Int) := (Int.natCast_mul _ K).symm
    have r := i3_mulc (x := σ.1 2 * 2 * σ.1 9) u1 hK rfl (by rw [w]; omega)
    rw [r, w]
  have cle : nCl σ * 2 * K ≤ 1600 := by
    have q : nCl σ * 2 * K ≤ 100 * 16 := Nat.mul_le_mul (by omega) hK2
    omega
  have G2 : ∀ (d k : Nat) (l2 : Int32) (τ : VS), nCl σ * 2 * K + 1 ≤ d + k → k ≤ nCl σ * 2 * K → l2.toInt = (k : Int) → CI τ → Eo [] [47, 48, 49] σ τ → (∀ j, j < k → vv τ 47 j = 0) → X2 p1 l2 τ := by
    intro d
    induction d with
    | zero => intro k l2 τ a b'; omega
    | succ d ih =>
      intro k l2 τ a b' e2 hMt hE hz
      refine H2 p1 l2 τ ?_
      unfold b_X2spreadFrom_2
      rw [hE.1 2 (by decide), hE.1 9 (by decide), cnt]
      refine ⟨fun z => fun x1 e1 => ?_, fun z => ⟨⟨by omega, by omega⟩, ?_⟩⟩
      · have ek : k = nCl σ * 2 * K := by omega
        have u1 : x1.toInt = 2 * (s : Int) + ((0 : Nat) : Int) := by
          have q := i3_mulc (x := x1) h1 (show (2 : Int32).toInt = 2 from rfl) e1 (by omega)
          omega
        have all : ∀ c e, c < nCl σ → e < 2 → RO b s K La Ea [] c e τ := fun c e hc he => RO.nil (fun t ht => hz _ (by
          have q : (2 * c + e + 1) * K ≤ nCl σ * 2 * K := Nat.mul_le_mul_right K (by omega)
          rw [Nat.succ_mul] at q
          omega))
        exact G37 3 0 x1 τ (by omega) (by omega) u1 hMt hE (fun e he => ⟨fun w => by omega, fun _ => all s e hs he⟩) (fun c e hc _ he => all c e hc he)
      · have t2 : (l2 + 1).toInt = ((k + 1 : Nat) : Int) := by
          have q := i3_addc (x := l2 + 1) e2 (show (1 : Int32).toInt = 1 from rfl) rfl (by omega)
          omega
        refine ih (k + 1) (l2 + 1) _ (by omega) (by omega) t2 (hMt.sa 47 l2 0 (i3_bd _)) (hE.sa 47 l2 0 (by decide)) (fun j hj => ?_)
        rw [vv_sa τ 47 l2 0 e2]
        by_cases w : j = k
        · rw [w, fu_eq]; rfl
        · rw [fu_ne w]; exact hz j (by omega)
  exact G2 (nCl σ * 2 * K + 1) 0 0 σ (by omega) (by omega) rfl hM Eo.rfl (fun j hj => by omega)
