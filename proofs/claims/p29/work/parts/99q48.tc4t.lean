/-! THE CLASS LAYS A PATH DOWN (T) -/
theorem cx_putStepT {Q : VS → Prop} {p1 p2 p3 p4 : Int32} {σ : VS} {o : Nat} (h : (σ.1 19).toInt = (o : Int)) (ho : o < 51) (hM : CI σ) (h1 : 0 ≤ p1.toInt ∧ p1.toInt ≤ 49) (hq : ∀ τ : VS, CI τ → Eo [19] [59, 60, 61, 62] σ τ → τ.2.2 = σ.2.2 → (τ.1 19).toInt = ((o + 1 : Nat) : Int) → vv τ 59 = fu (vv σ 59) o p1.toInt → vv τ 60 = fu (vv σ 60) o p2.toInt → vv τ 61 = fu (vv σ 61) o p3.toInt → vv τ 62 = fu (vv σ 62) o p4.toInt → Q τ) : wp_X8putStepT Q p1 p2 p3 p4 σ := by
  unfold wp_X8putStepT b_X8putStepT_60
  refine ⟨fun z => by omega, fun z => ?_⟩
  have b0 : In (σ.1 19) 51 := ⟨by omega, by omega⟩
  refine ⟨b0, b0, b0, b0, ?_⟩
  show Q (sf (sa (sa (sa (sa σ 59 (σ.1 19) p1) 60 (σ.1 19) p2) 61 (σ.1 19) p3) 62 (σ.1 19) p4) 19 ((σ.1 19) + 1))
  have t1 : ((σ.1 19) + 1).toInt = ((o + 1 : Nat) : Int) := by
    have q := i3_addc (x := (σ.1 19) + 1) h (show (1 : Int32).toInt = 1 from rfl) rfl (by omega)
    omega
  refine hq _ (((((hM.sa 59 _ p1 h1).sa 60 _ p2 (i3_bd p2)).sa 61 _ p3 (i3_bd p3)).sa 62 _ p4 (i3_bd p4)).sf 19 _ ⟨by show (0 : Int) ≤ _; omega, by show _ ≤ (51 : Int); omega⟩) (((((Eo.rfl.sa 59 _ p1 (by decide)).sa 60 _ p2 (by decide)).sa 61 _ p3 (by decide)).sa 62 _ p4 (by decide)).sf 19 _ (by decide)) rfl (by rw [sf_same]; exact t1) ?_ ?_ ?_ ?_
  · show vv (sa (sa (sa (sa σ 59 (σ.1 19) p1) 60 (σ.1 19) p2) 61 (σ.1 19) p3) 62 (σ.1 19) p4) 59 = _
    rw [vv_so (show 59 ≠ 62 by decide), vv_so (show 59 ≠ 61 by decide), vv_so (show 59 ≠ 60 by decide), vv_sa σ 59 _ p1 h]
  · show vv (sa (sa (sa (sa σ 59 (σ.1 19) p1) 60 (σ.1 19) p2) 61 (σ.1 19) p3) 62 (σ.1 19) p4) 60 = _
    rw [vv_so (show 60 ≠ 62 by decide), vv_so (show 60 ≠ 61 by decide), vv_sa _ 60 _ p2 h, vv_so (show 60 ≠ 59 by decide)]
  · show vv (sa (sa (sa (sa σ 59 (σ.1 19) p1) 60 (σ.1 19) p2) 61 (σ.1 19) p3) 62 (σ.1 19) p4) 61 = _
    rw [vv_so (show 61 ≠ 62 by decide), vv_sa _ 61 _ p3 h, vv_so (show 61 ≠ 60 by decide), vv_so (show 61 ≠ 59 by decide)]
  · show vv (sa (sa (sa (sa σ 59 (σ.1 19) p1) 60 (σ.1 19) p2) 61 (σ.1 19) p3) 62 (σ.1 19) p4) 62 = _
    rw [vv_sa _ 62 _ p4 h, vv_so (show 62 ≠ 61 by decide), vv_so (show 62 ≠ 60 by decide), vv_so (show 62 ≠ 59 by decide)]
/-- what a laid path is -/
def LayT (τ : VS) (D V : Nat → Nat → Int) (nm : Nat → Int) (b : Nat → Nat) (len rm hr : Int) (s e : Nat) (p : List Nat) : Prop := (τ.1 19).toInt = ((1 + p.length : Nat) : Int) ∧ Ste (fun k => vv τ (59 + k)) 0 ((s, -1, e, saD D V (2 * s + e)) :: runP D V e (saD D V (2 * s + e)) p) ∧ (τ.1 20).toInt = nm (endM b (b s) p) * len + rm - endL D V 2 e (saD D V (2 * s + e)) p ∧ (τ.1 21).toInt = endL D V 3 e (seD D V (2 * s + e)) p + hr
set_option maxHeartbeats 2000000 in
theorem cx_layT {Q : VS → Prop} {p1 p2 : Int32} {σ τ : VS} {R s t e k : Nat} {b : Nat → Nat} {sh : Nat → Nat → Int} {nm : Nat → Int} {F : Nat → Nat → List (List Nat)} {ρ : Nat → Nat} {p : List Nat} (hM0 : CI σ) (hM : CI τ) (hE : Eo TF TA σ τ) (H : LyE σ R b sh) (hW : Wo (dC σ) (nCl σ) ρ) (T : TrE τ (dC σ) (nCl σ) R s t b nm F) (h12 : (τ.1 12).toInt = (s : Int)) (on : OnT τ (dC σ) (nCl σ) R F) (h1 : p1.toInt = (e : Int)) (he : e < 2) (h2 : p2.toInt = (k : Int)) (hk : k < 1000) (hp : (F s (b s))[k]? = some p) (hpl : p.length ≤ 50) (ht1 : dC σ 1 t = 1) (htg : tgD (dC σ) t) (ho : vC σ 1 (fD (dC σ) t) = 0) (hS : isD (dC σ) (vC σ) s) (hq : ∀ x : VS, CI x → Eo [14, 19, 20, 21] [59, 60, 61, 62] τ x → x.2.2 = τ.2.2 → LayT x (dC σ) (vC σ) nm b (σ.1 4).toInt (dC σ 14 t - vv σ 26 t + sh s t) (sh s t - dC σ 13 t - vv σ 27 t) s e p → Q x) : wp_X7layT Q p1 p2 τ := by
  have H0 := H
  obtain ⟨hT, hO, hC, hWl, hSt, hR, hb0, hbK0, bsh, hsh⟩ := H0
  have T0 := T
  obtain ⟨hn, hsrc, hkd, hRt, h11, hb, hbK, hst, hnm, hF, h13⟩ := T0
  have a2 : 0 ≤ (σ.1 2).toInt ∧ (σ.1 2).toInt ≤ 50 := hM0.1 2
  have n50 : nCl σ ≤ 50 := by unfold nCl; omega
  have a4 : 1 ≤ (σ.1 4).toInt ∧ (σ.1 4).toInt ≤ 1000000 := hM0.1 4
  have hR4 : 0 ≤ (σ.1 6).toInt ∧ (σ.1 6).toInt ≤ 4 := hM0.1 6
  have kk := K_le R (by omega)
  have w13 := (hWl.2 t hst.2).1
  have w14 := (hWl.2 t hst.2).2
  have b26 : -10000 ≤ vv σ 26 t ∧ vv σ 26 t ≤ 10000 := hM0.2 26 t
  have b27 : -10000 ≤ vv σ 27 t ∧ vv σ 27 t ≤ 10000 := hM0.2 27 t
  have bs := bsh s t
  have hL : ∀ c, c < nCl σ → LE2 (dC σ) (vC σ) (vC σ) c := fun c hc => (hSt c hc).1
  have rs := isD_r (hL s hst.1) hS
  have hS2 : isS σ s := (isS_D hst.1).mpr hS
  have sa := sa_C hM0 hst.1 (hSt s hst.1) hWl hS2 he
  have ob := (hSt s hst.1).2.2 rs hS.2 e he
  obtain ⟨n, en⟩ : ∃ n, n = nCl σ := ⟨_, rfl⟩
  unfold wp_X7layT
  intro X85 H85
  have hTt : ∀ x : VS, Eo [14, 19, 20, 21] [59, 60, 61, 62] τ x → Eo TF TA σ x := fun x q => hE.trans (q.mono (by decide) (by decide))
  have L : ∀ (p : List Nat) (c m k e o : Nat) (l g : Int) (l4 l5 l6 l7 l8 l9 : Int32) (x : VS), (F c m)[k]? = some p → c < nCl σ → m < 2 ^ R → vC σ 0 c ≠ 0 → k < 1000 → e < 2 → o + p.length ≤ 51 → 1 ≤ o → l4.toInt = (e : Int) → l5.toInt = l → l6.toInt = g → l7.toInt = (m : Int) → (x.1 14).toInt = (k : Int) → (x.1 19).toInt = (o : Int) → l9.toInt = (o : Int) - 1 → ((l8.toInt < 0 ∧ c = s) ∨ ∃ w : Nat, l8.toInt = (w : Int) ∧ w / 4 = c ∧ w < 4 * nCl σ) → (0 ≤ l ∧ l ≤ 2400000 + 6000 * (o : Int)) → (0 ≤ g ∧ g ≤ 2400000 + 6000 * (o : Int)) → CI x → Eo [14, 19, 20, 21] [59, 60, 61, 62] τ x → x.2.2 = τ.2.2 → (∀ x' : VS, CI x' → Eo [14, 19, 20, 21] [59, 60, 61, 62] τ x' → x'.2.2 = τ.2.2 → (∀ kk j, kk < 4 → j < o → vv x' (59 + kk) j = vv x (59 + kk) j) → (x'.1 19).toInt = ((o + p.length : Nat) : Int) → Ste (fun k => vv x' (59 + k)) o (runP (dC σ) (vC σ) e l p) → (x'.1 20).toInt = nm (endM b m p) * (σ.1 4).toInt + (dC σ 14 t - vv σ 26 t + sh s t) - endL (dC σ) (vC σ) 2 e l p → (x'.1 21).toInt = endL (dC σ) (vC σ) 3 e g p + (sh s t - dC σ 13 t - vv σ 27 t) → Q x') → X85 l4 l5 l6 l7 l8 l9 x := by
    intro p
    induction p with
    | nil =>
      intro c m k e o l g l4 l5 l6 l7 l8 l9 x hp hc
      exact absurd rfl (FP_ne hF hc (List.mem_of_getElem? hp))
    | cons w0 q ih =>
      intro c m k e o l g l4 l5 l6 l7 l8 l9 x hp hc hm rc hk he hol ho1 e4 e5 e6 e7 e14 eL e9 e8 bl bg hMx hEx hJx K
      rw [List.length_cons] at hol
      have hlt : k < (F c m).length := (List.getElem?_eq_some_iff.mp hp).1
      refine H85 l4 l5 l6 l7 l8 l9 x ?_
      unfold b_X7layT_85
      have hEs := hTt x hEx
      have Tx := T.same hEx (by decide)
      have f12 : (x.1 12).toInt = (s : Int) := by rw [hEx.1 12 (by decide)]; exact h12
      have e53 : vv x 53 = vv τ 53 := vv_eo hEx (by decide)
      have onx : OnT x (dC σ) (nCl σ) R F := fun c hc g m hm => by rw [e53]; exact on c hc g m hm
      have key : ∀ k0 : Int32, k0.toInt = (c : Int) → b_X7layT_109 X85 Q l4 l5 l6 l7 l9 k0 x := fun k0 hk0 => by
        unfold b_X7layT_109
        refine cx_chooseWire hk0 e7 hMx (hT.same hEs (by decide)) Tx f12 hc hm onx e14 hlt hk (fun r x2 w j er hw d5 M2 E2 J2 f14 j1000 eg => ?_)
        rw [hp] at eg
        have E2x : Eo [14, 19, 20, 21] [59, 60, 61, 62] τ x2 := hEx.trans (E2.mono (by decide) (by decide))
        have E2s := hTt x2 E2x
        have s35 : vv x2 35 = vv σ 35 := vv_eo E2s (by decide)
        have s11 : vv x2 11 = vv σ 11 := vv_eo E2s (by decide)
        have g13 : (x2.1 13).toInt = (t : Int) := by rw [E2x.1 13 (by decide)]; exact h13
        have g12 : (x2.1 12).toInt = (s : Int) := by rw [E2x.1 12 (by decide)]; exact h12
        have gL : (x2.1 19).toInt = (o : Int) := by rw [E2.1 19 (by decide)]; exact eL
        have w4n : w / 4 < nCl σ := by omega
        have ml : m ||| b (w / 4) < 2 ^ R := or_K m _ hm (hbK _)
        refine ⟨fun _ => ?_, fun z => by omega⟩
        intro x16 e16
        have t16 : x16.toInt = ((w / 4 : Nat) : Int) := by
          have q := i3_divc (x := x16) er (show (4 : Int32).toInt = 4 from rfl) e16 (by omega) (by decide)
          omega
        refine ⟨⟨by omega, by omega⟩, fun x17 e17 => ?_⟩
        have r35 : (rd x2 35 x16).toInt = ((b (w / 4) : Nat) : Int) := by rw [vv_rd t16, s35]; exact hb0 _ (by omega)
        have b1 := hbK (w / 4)
        have t17 : x17.toInt = ((m ||| b (w / 4) : Nat) : Int) := by rw [e17]; exact or_nat e7 r35 (by omega) (by omega)
        refine ⟨fun ne => ?_, fun eq => ?_⟩
        · have nt : ¬ w / 4 = t := by omega
          by_cases gd : gN (dC σ) (w / 4)
          · rw [FPw_g nt gd, List.getElem?_map] at eg
            obtain ⟨q', hq', eq'⟩ := Option.map_eq_some_iff.mp eg.symm
            have ew : w = w0 := cons_h eq'
            rw [ew] at eq'
            have eqq : q' = q := cons_i eq'
            rw [eqq] at hq'
            have qm : q ∈ F (w / 4) (m ||| b (w / 4)) := List.mem_of_getElem? hq'
            have arc := ly_arc hM0 H hW hF ht1 ho hw d5 gd rc qm
            have qne := FP_ne hF w4n qm
            have go : ∀ k1 : Int32, k1.toInt = ((feN (dC σ) (w / 4) e : Nat) : Int) → b_X7layT_178 X85 Q l5 l6 x17 r l9 x16 k1 x2 := fun k1 hk1 => by
              unfold b_X7layT_178
              have f2 := feN_lt (dC σ) (w / 4) he
              have ab := arc.2 (feN (dC σ) (w / 4) e) f2
              have u1 : (r * 2).toInt = 2 * (w : Int) := by
                have q := i3_mulc (x := r * 2) er (show (2 : Int32).toInt = 2 from rfl) rfl (by omega)
                omega
              have u2 : ((r * 2) + k1).toInt = ((2 * w + feN (dC σ) (w / 4) e : Nat) : Int) := by
                have q := i3_addc (x := (r * 2) + k1) u1 hk1 rfl (by omega)
                omega
              have v41 : (rd x2 41 ((r * 2) + k1)).toInt = vC σ 2 (2 * w + feN (dC σ) (w / 4) e) := by rw [vv_rd u2, vv_eo E2s (by decide)]; rfl
              have v42 : (rd x2 42 ((r * 2) + k1)).toInt = vC σ 3 (2 * w + feN (dC σ) (w / 4) e) := by rw [vv_rd u2, vv_eo E2s (by decide)]; rfl
              refine ⟨⟨by omega, by omega⟩, fun x18 e18 => ⟨⟨by omega, by omega⟩, fun x19 e19 => ?_⟩⟩
              have t18 : x18.toInt = l + vC σ 2 (2 * w + feN (dC σ) (w / 4) e) := i3_addc e5 v41 e18 (by omega)
              have t19 : x19.toInt = g + vC σ 3 (2 * w + feN (dC σ) (w / 4) e) := i3_addc e6 v42 e19 (by omega)
              have u3 : (r / 4).toInt = ((w / 4 : Nat) : Int) := by rw [← e16]; exact t16
              have u4 : (r / 4 * 4).toInt = 4 * ((w / 4 : Nat) : Int) := by
                have q := i3_mulc (x := r / 4 * 4) u3 (show (4 : Int32).toInt = 4 from rfl) rfl (by omega)
                omega
              have u5 : (r - r / 4 * 4).toInt = ((w % 4 : Nat) : Int) := by
                have q := i3_subc (x := r - r / 4 * 4) er u4 rfl (by omega)
                omega
              refine cx_putStepT gL (by omega) M2 ⟨by omega, by omega⟩ (fun x3 M3 E3 J3 eL3 g0 g1 g2 g3 => ?_)
              have E3x : Eo [14, 19, 20, 21] [59, 60, 61, 62] τ x3 := E2x.trans (E3.mono (by decide) (by decide))
              have t9 : (l9 + 1).toInt = ((o + 1 : Nat) : Int) - 1 := by
                have q := i3_addc (x := l9 + 1) e9 (show (1 : Int32).toInt = 1 from rfl) rfl (by omega)
                omega
              refine ih (w / 4) (m ||| b (w / 4)) j (feN (dC σ) (w / 4) e) (o + 1) _ _ k1 x18 x19 x17 r (l9 + 1) x3 hq' w4n ml arc.1 j1000 f2 (by omega) (by omega) hk1 t18 t19 t17 (by rw [E3.1 14 (by decide)]; exact f14) eL3 t9 (Or.inr ⟨w, er, rfl, hw⟩) (by omega) (by omega) M3 E3x (J3.trans (J2.trans hJx)) (fun x' M' E' J' F' L' S' A' B' => ?_)
              cases q with
              | nil => exact absurd rfl qne
              | cons v q2 =>
                rw [← ew] at K
                have z0 := F' 0 o (by omega) (by omega)
                have z1 := F' 1 o (by omega) (by omega)
                have z2 := F' 2 o (by omega) (by omega)
                have z3 := F' 3 o (by omega) (by omega)
                refine K x' M' E' J' (fun kk j hkk hj => ?_) ?_ ⟨⟨?_, ?_, ?_, ?_⟩, S'⟩ A' B'
                · rw [F' kk j hkk (by omega)]
                  rcases (show kk = 0 ∨ kk = 1 ∨ kk = 2 ∨ kk = 3 by omega) with z | z | z | z
                  · rw [z, show 59 + 0 = 59 from rfl, g0, fu_ne (by omega), vv_eo E2 (fun z => by cases z)]
                  · rw [z, show 59 + 1 = 60 from rfl, g1, fu_ne (by omega), vv_eo E2 (fun z => by cases z)]
                  · rw [z, show 59 + 2 = 61 from rfl, g2, fu_ne (by omega), vv_eo E2 (fun z => by cases z)]
                  · rw [z, show 59 + 3 = 62 from rfl, g3, fu_ne (by omega), vv_eo E2 (fun z => by cases z)]
                · rw [L', List.length_cons, List.length_cons, List.length_cons]; omega
                · show vv x' (59 + 0) o = _
                  rw [z0, show 59 + 0 = 59 from rfl, g0, fu_eq, t16]
                · show vv x' (59 + 1) o = _
                  rw [z1, show 59 + 1 = 60 from rfl, g1, fu_eq, u5]
                · show vv x' (59 + 2) o = _
                  rw [z2, show 59 + 2 = 61 from rfl, g2, fu_eq, hk1]
                · show vv x' (59 + 3) o = _
                  rw [z3, show 59 + 3 = 62 from rfl, g3, fu_eq, t18]
            have r11 : (rd x2 11 x16).toInt = dC σ 0 (w / 4) := by rw [vv_rd t16, s11, dC_0 w4n]
            refine ⟨⟨by omega, by omega⟩, fun k2 => go l4 ?_, fun k2 => go (1 - l4) ?_⟩
            · rw [r11] at k2
              unfold feN
              rw [if_neg k2]; exact e4
            · rw [r11] at k2
              unfold feN
              rw [if_pos k2]
              have q := i3_subc (x := 1 - l4) (show (1 : Int32).toInt = 1 from rfl) e4 rfl (by omega)
              omega
          · rw [FPw_0 nt gd] at eg
            cases eg
        · have et : w / 4 = t := by omega
          rw [FPw_t et] at eg
          by_cases z : 0 < nm m
          · rw [if_pos z] at eg
            have j0 : j < 1 := (List.getElem?_eq_some_iff.mp eg.symm).1
            have j1 : j = 0 := by omega
            rw [j1] at eg
            have e0 : some (w0 :: q) = some [w] := eg
            injection e0 with e0
            have ew : w0 = w := cons_h e0
            rw [ew] at e0 K
            have eq0 : q = [] := cons_i e0
            rw [eq0] at K
            have ip := (hW.2.2.2.2 w hw (by omega)).2
            rw [et] at ip
            unfold ipN at ip
            rw [ht1] at ip
            have wm : w % 4 = 0 := by
              have : (1 : Int).toNat = 1 := rfl
              omega
            unfold b_X7layT_240
            refine cx_putStepT gL (by omega) M2 ⟨by omega, by omega⟩ (fun x3 M3 E3 J3 eL3 g0 g1 g2 g3 => ?_)
            have E3x : Eo [14, 19, 20, 21] [59, 60, 61, 62] τ x3 := E2x.trans (E3.mono (by decide) (by decide))
            have E3s := hTt x3 E3x
            have k13 : (x3.1 13).toInt = (t : Int) := by rw [E3x.1 13 (by decide)]; exact h13
            have k12 : (x3.1 12).toInt = (s : Int) := by rw [E3x.1 12 (by decide)]; exact h12
            rw [et] at t17
            have mt : m ||| b t < 2 ^ R := or_K m _ hm (hbK _)
            refine cx_periodsOf (s := s) (t := t) (m := m ||| b t) (R := R) k12 k13 t17 (by omega) M3 (by rw [E3s.1 6 (by decide)]; exact hR) (fun r8 e8' b8 => ?_)
            rw [vv_eo E3s (show 31 ∉ TA by decide), vv_eo E3s (show 32 ∉ TA by decide), vv_eo E3s (show 34 ∉ TA by decide), ← vv_eo hE (show 31 ∉ TA by decide), ← vv_eo hE (show 32 ∉ TA by decide), ← vv_eo hE (show 34 ∉ TA by decide), ← hnm m hm] at e8'
            have nn3 : nCl x3 = nCl σ := by unfold nCl; rw [E3s.1 2 (by decide)]
            have dd3 : dC x3 14 t = dC σ 14 t ∧ dC x3 13 t = dC σ 13 t := by
              rw [dC_14 (by rw [nn3]; exact hst.2), dC_13 (by rw [nn3]; exact hst.2), dC_14 hst.2, dC_13 hst.2, E3s.2 29 (by decide), E3s.2 30 (by decide), E3s.2 25 (by decide)]
              exact ⟨rfl, rfl⟩
            refine cx_slackRoom (sh := sh s t) k13 (by rw [nn3]; exact hst.2) M3 (fun Q' hQ' => hsh x3 M3 E3s s t _ _ Q' k12 k13 hst.1 hst.2 hQ') bs (by rw [dd3.1]; exact w14) (fun r10 e10 => ?_)
            rw [dd3.1, vv_eo E3s (show 26 ∉ TA by decide)] at e10
            have l4' : (x3.1 4).toInt = (σ.1 4).toInt := by rw [E3s.1 4 (by decide)]
            obtain ⟨len, elen⟩ : ∃ len : Int, len = (σ.1 4).toInt := ⟨_, rfl⟩
            rw [← elen] at l4' a4 K
            have mb : 0 ≤ r8.toInt * len ∧ r8.toInt * len ≤ 4000000 := by
              have q := mu_bd (a := r8.toInt) (b := len) (A := 4) (B := 1000000) b8 ⟨by omega, by omega⟩
              omega
            have m1 : (r8 * x3.1 4).toInt = r8.toInt * len := i3_mulc rfl l4' rfl (by omega)
            have m2 : ((r8 * x3.1 4) + r10).toInt = r8.toInt * len + (dC σ 14 t - vv σ 26 t + sh s t) := i3_addc m1 e10 rfl (by omega)
            have m3 : (((r8 * x3.1 4) + r10) - l5).toInt = r8.toInt * len + (dC σ 14 t - vv σ 26 t + sh s t) - l := i3_subc m2 e5 rfl (by omega)
            obtain ⟨v17, ev17⟩ : ∃ v17 : Int32, v17 = ((r8 * x3.1 4) + r10) - l5 := ⟨_, rfl⟩
            rw [← ev17] at m3
            rw [← ev17]
            have M4 : CI (sf x3 20 v17) := M3.sf 20 v17 (i3_bd _)
            have E4 : Eo [14, 19, 20, 21] [59, 60, 61, 62] τ (sf x3 20 v17) := E3x.sf 20 v17 (by decide)
            have E4s := hTt _ E4
            have q12 : ((sf x3 20 v17).1 12).toInt = (s : Int) := by rw [sf_other (by decide)]; exact k12
            have q13 : ((sf x3 20 v17).1 13).toInt = (t : Int) := by rw [sf_other (by decide)]; exact k13
            have nn4 : nCl (sf x3 20 v17) = nCl σ := by unfold nCl; rw [E4s.1 2 (by decide)]
            have dd4 : dC (sf x3 20 v17) 13 t = dC σ 13 t := by
              rw [dC_13 (by rw [nn4]; exact hst.2), dC_13 hst.2, E4s.2 30 (by decide), E4s.2 25 (by decide)]
            refine cx_holdRoom (sh := sh s t) q13 (by rw [nn4]; exact hst.2) M4 (fun Q' hQ' => hsh _ M4 E4s s t _ _ Q' q12 q13 hst.1 hst.2 hQ') bs (by rw [dd4]; exact w13) (fun r12 e12 => ?_)
            rw [dd4, vv_eo E4s (show 27 ∉ TA by decide)] at e12
            have m5 : (l6 + r12).toInt = g + (sh s t - dC σ 13 t - vv σ 27 t) := i3_addc e6 e12 rfl (by omega)
            refine K (sf (sf x3 20 v17) 21 (l6 + r12)) (M4.sf 21 _ (i3_bd _)) (E4.sf 21 _ (by decide)) (J3.trans (J2.trans hJx)) (fun kk j hkk hj => ?_) ?_ ⟨⟨?_, ?_, ?_, ?_⟩, trivial⟩ ?_ ?_
            · show vv x3 (59 + kk) j = _
              rcases (show kk = 0 ∨ kk = 1 ∨ kk = 2 ∨ kk = 3 by omega) with z | z | z | z
              · rw [z, show 59 + 0 = 59 from rfl, g0, fu_ne (by omega), vv_eo E2 (fun z => by cases z)]
              · rw [z, show 59 + 1 = 60 from rfl, g1, fu_ne (by omega), vv_eo E2 (fun z => by cases z)]
              · rw [z, show 59 + 2 = 61 from rfl, g2, fu_ne (by omega), vv_eo E2 (fun z => by cases z)]
              · rw [z, show 59 + 3 = 62 from rfl, g3, fu_ne (by omega), vv_eo E2 (fun z => by cases z)]
            · rw [sf_other (by decide), sf_other (by decide)]; exact eL3
            · show vv x3 59 o = _
              rw [g0, fu_eq, g13, et]
            · show vv x3 60 o = _
              rw [g1, fu_eq]
              show (0 : Int32).toInt = ((w % 4 : Nat) : Int)
              rw [wm]; rfl
            · show vv x3 61 o = _
              rw [g2, fu_eq]; exact e4
            · show vv x3 62 o = _
              rw [g3, fu_eq]; exact e5
            · rw [sf_other (by decide), sf_same, m3, e8']; rfl
            · rw [sf_same, m5]; rfl
          · rw [if_neg z] at eg
            cases eg
      refine ⟨fun z => by omega, fun z => ⟨fun y => ?_, fun y => ?_⟩⟩
      · rcases e8 with ⟨y2, _⟩ | ⟨w, ew, ew4, ewn⟩
        · omega
        · refine key (l8 / 4) ?_
          have q := i3_divc (x := l8 / 4) ew (show (4 : Int32).toInt = 4 from rfl) rfl (by omega) (by decide)
          omega
      · rcases e8 with ⟨_, ec⟩ | ⟨w, ew, ew4, ewn⟩
        · exact key _ (by rw [f12, ec])
        · omega
  have u1 : ((τ.1 12) * 2).toInt = 2 * (s : Int) := by
    have q := i3_mulc (x := (τ.1 12) * 2) h12 (show (2 : Int32).toInt = 2 from rfl) rfl (by have := hst.1; omega)
    omega
  have s50 : s < 50 := by have q := hst.1; omega
  have u2 : (((τ.1 12) * 2) + p1).toInt = ((2 * s + e : Nat) : Int) := by
    have q := i3_addc (x := ((τ.1 12) * 2) + p1) u1 h1 rfl (by omega)
    omega
  refine ⟨⟨by omega, by omega⟩, fun x1 e1 => ⟨⟨by omega, by omega⟩, fun x2 e2 => ⟨⟨by omega, by omega⟩, fun x3 e3 => ?_⟩⟩⟩
  have v1 : x1.toInt = saD (dC σ) (vC σ) (2 * s + e) := by rw [e1, vv_rd u2, vv_eo hE (by decide)]; exact sa.1
  have v2 : x2.toInt = seD (dC σ) (vC σ) (2 * s + e) := by rw [e2, vv_rd u2, vv_eo hE (by decide)]; exact sa.2
  have v3 : x3.toInt = ((b s : Nat) : Int) := by rw [e3, vv_rd h12]; exact hb s s50
  rw [sa.1, sa.2] at ob
  have f12 : ((sf (sf τ 14 p2) 19 0).1 12).toInt = (s : Int) := by rw [sf_other (by decide), sf_other (by decide)]; exact h12
  have M1 : CI (sf (sf τ 14 p2) 19 0) := (hM.sf 14 p2 (i3_bd _)).sf 19 0 ⟨by show (0 : Int) ≤ (0 : Int32).toInt; decide, by show (0 : Int32).toInt ≤ (51 : Int); decide⟩
  have E1 : Eo [14, 19, 20, 21] [59, 60, 61, 62] τ (sf (sf τ 14 p2) 19 0) := (Eo.rfl.sf 14 p2 (by decide)).sf 19 0 (by decide)
  refine cx_putStepT (o := 0) (by rw [sf_same]; rfl) (by omega) M1 ⟨by omega, by omega⟩ (fun x4 M4 E4 J4 eL4 g0 g1 g2 g3 => ?_)
  have E4x : Eo [14, 19, 20, 21] [59, 60, 61, 62] τ x4 := E1.trans (E4.mono (by decide) (by decide))
  have f14 : (x4.1 14).toInt = (k : Int) := by rw [E4.1 14 (by decide), sf_other (by decide), sf_same]; exact h2
  refine L p s (b s) k e 1 _ _ p1 x1 x2 x3 (-5) 0 x4 hp hst.1 (hbK s) rs hk he (by omega) (by omega) h1 v1 v2 v3 f14 eL4 rfl (Or.inl ⟨by decide, rfl⟩) (by omega) (by omega) M4 E4x J4 (fun x' M' E' J' F' L' S' A' B' => ?_)
  have z0 := F' 0 0 (by omega) (by omega)
  have z1 := F' 1 0 (by omega) (by omega)
  have z2 := F' 2 0 (by omega) (by omega)
  have z3 := F' 3 0 (by omega) (by omega)
  refine hq x' M' E' J' ⟨L', ⟨⟨?_, ?_, ?_, ?_⟩, S'⟩, A', B'⟩
  · show vv x' (59 + 0) 0 = _
    rw [z0, show 59 + 0 = 59 from rfl, g0, fu_eq, f12]
  · show vv x' (59 + 1) 0 = _
    rw [z1, show 59 + 1 = 60 from rfl, g1, fu_eq]; rfl
  · show vv x' (59 + 2) 0 = _
    rw [z2, show 59 + 2 = 61 from rfl, g2, fu_eq, h1]
  · show vv x' (59 + 3) 0 = _
    rw [z3, show 59 + 3 = 62 from rfl, g3, fu_eq, v1]
