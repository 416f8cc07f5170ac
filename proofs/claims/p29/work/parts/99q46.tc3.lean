/-! A PATH BY ITS NUMBER -/
theorem FPi_pre {src : Nat → Int} {c : Nat} {f : Nat → List (List Nat)} {a : Nat} : ∀ b : Nat, a ≤ b → ∃ r, FPi src c f b = FPi src c f a ++ r
  | 0, h => ⟨[], by
      have e : a = 0 := by omega
      rw [e, List.append_nil]⟩
  | b + 1, h => by
    by_cases q : a = b + 1
    · exact ⟨[], by rw [q, List.append_nil]⟩
    · obtain ⟨r, hr⟩ := FPi_pre (src := src) (c := c) (f := f) (a := a) b (by omega)
      by_cases s : src b = (c : Int)
      · exact ⟨r ++ f b, by rw [FPi_y s, hr, List.append_assoc]⟩
      · exact ⟨r, by rw [FPi_n s, hr]⟩
theorem FPi_get {src : Nat → Int} {c : Nat} {f : Nat → List (List Nat)} {w W j : Nat} (hw : w < W) (hs : src w = (c : Int)) (hj : j < (f w).length) : (FPi src c f W)[(FPi src c f w).length + j]? = (f w)[j]? := by
  obtain ⟨r, hr⟩ := FPi_pre (src := src) (c := c) (f := f) (a := w + 1) W (by omega)
  rw [hr, FPi_y hs, List.getElem?_append_left (by rw [List.length_append]; omega), List.getElem?_append_right (by omega)]
  rw [show (FPi src c f w).length + j - (FPi src c f w).length = j by omega]
theorem cx_chooseWire {Q : Int32 → VS → Prop} {p1 p2 : Int32} {σ : VS} {D : Nat → Nat → Int} {n R s t c m k : Nat} {b : Nat → Nat} {nm : Nat → Int} {F : Nat → Nat → List (List Nat)} (h1 : p1.toInt = (c : Int)) (h2 : p2.toInt = (m : Int)) (hM : CI σ) (hT : TkL σ) (T : TrE σ D n R s t b nm F) (h12 : (σ.1 12).toInt = (s : Int)) (hc : c < n) (hm : m < 2 ^ R) (on : OnT σ D n R F) (h14 : (σ.1 14).toInt = (k : Int)) (hk : k < (F c m).length) (hk2 : k < 1000) (hq : ∀ (r : Int32) (τ : VS) (w j : Nat), r.toInt = (w : Int) → w < 4 * n → D 5 w = (c : Int) → CI τ → Eo [14] [] σ τ → τ.2.2 = σ.2.2 → (τ.1 14).toInt = (j : Int) → j < 1000 → (F c m)[k]? = (FPw D nm b t F m w)[j]? → Q r τ) : wp_X7chooseWire Q p1 p2 σ := by
  have T0 := T
  obtain ⟨hn, hsrc, hkd, hR, h11, hb, hbK, hst, hnm, hF, h13⟩ := T0
  have a2 : 0 ≤ (σ.1 2).toInt ∧ (σ.1 2).toInt ≤ 50 := hM.1 2
  have en : (σ.1 2).toInt = ((n : Nat) : Int) := by rw [hn]; unfold nCl; omega
  have TT := hT n en
  have es : srcf σ = vv σ 16 := rfl
  rw [es] at TT
  obtain ⟨W, hW⟩ : ∃ W, W = n * 4 := ⟨_, rfl⟩
  rw [← hW] at TT
  have eF : F c m = FPi (vv σ 16) c (FPw D nm b t F m) W := by
    rw [hF c m hc]
    unfold FPs
    rw [show 4 * n = W by omega]
    exact FPi_src W (fun w hw => hsrc w (by omega) c)
  rw [eF] at hk hq
  have f0 := TT.1 c (by omega)
  have f1 := TT.1 (c + 1) (by omega)
  rw [prs_s] at f1
  have kc : cnt (vv σ 16) (c : Int) W ≤ W := cnt_le _ _ _
  have kp : prs (vv σ 16) W (c + 1) ≤ W := prs_le _ _ _
  rw [prs_s] at kp
  unfold wp_X7chooseWire
  intro X10 H
  have t1 : (p1 + 1).toInt = (c : Int) + 1 := i3_addc h1 (show (1 : Int32).toInt = 1 from rfl) rfl (by omega)
  have r1 : (rd σ 18 (p1 + 1)).toInt = (prs (vv σ 16) W c : Int) + (cnt (vv σ 16) (c : Int) W : Int) := by
    rw [rd_at σ 18 (p1 + 1) (n := c + 1) (by omega), f1]; omega
  have L : ∀ (d kk w : Nat) (l3 : Int32) (τ : VS), cnt (vv σ 16) (c : Int) W + 1 ≤ d + kk → kk ≤ cnt (vv σ 16) (c : Int) W → l3.toInt = (prs (vv σ 16) W c : Int) + (kk : Int) → w ≤ W → cnt (vv σ 16) (c : Int) w = kk → CI τ → Eo [14] [] σ τ → τ.2.2 = σ.2.2 → (FPi (vv σ 16) c (FPw D nm b t F m) w).length ≤ k → (τ.1 14).toInt = (k : Int) - (((FPi (vv σ 16) c (FPw D nm b t F m) w).length : Nat) : Int) → X10 p1 p2 l3 τ := by
    intro d
    induction d with
    | zero => intro kk w l3 τ a b'; omega
    | succ d ih =>
      intro kk w l3 τ a b' e4 hw ek hMt hE hJ hle e14
      refine H p1 p2 l3 τ ?_
      unfold b_X7chooseWire_10
      have rr : ∀ (q : Nat) (i : Int32), rd τ q i = rd σ q i := fun q i => by
        unfold rd
        rw [hE.2 q (fun z => by cases z)]
      rw [rr, rr]
      refine ⟨⟨by omega, by omega⟩, fun z => ?_, fun z => ?_⟩
      · exfalso
        have ekk : cnt (vv σ 16) (c : Int) w = cnt (vv σ 16) (c : Int) W := by omega
        rw [FPi_cnt ekk] at hle
        omega
      · obtain ⟨w', hw', sw, cw⟩ := cnt_hit (vv σ 16) (c : Int) W kk (by omega)
        have pl : plc (vv σ 16) W w' = prs (vv σ 16) W c + kk := by
          unfold plc
          rw [sw, cw]; rfl
        have tk := TT.2 w' hw' (by rw [sw]; omega)
        rw [pl] at tk
        have rt : (rd σ 17 l3).toInt = (w' : Int) := by
          rw [rd_at σ 17 l3 (n := prs (vv σ 16) W c + kk) (by omega)]; exact tk
        have e53 : vv τ 53 = vv σ 53 := vv_eo hE (fun z => by cases z)
        have d5 : D 5 w' = (c : Int) := (hsrc w' (by omega) c).mpr sw
        rw [FPi_cnt (show cnt (vv σ 16) (c : Int) w = cnt (vv σ 16) (c : Int) w' by omega)] at hle e14
        refine ⟨⟨by omega, by omega⟩, cx_onwardBy rt h2 hMt (T.same hE (by decide)) (by rw [hE.1 12 (by decide)]; exact h12) (by omega) hm (fun nt g => by rw [e53]; exact on _ (by omega) g _ (or_K _ _ hm (hbK _))) (fun r2 hr2 => ⟨fun y => ?_, fun y => ⟨⟨by omega, by omega⟩, ?_⟩⟩)⟩
        · have t7 : (l3 + 1).toInt = l3.toInt + 1 := i3_addc rfl rfl rfl (by have q : (1 : Int32).toInt = 1 := rfl; omega)
          have t8 : (τ.1 14 - r2).toInt = (τ.1 14).toInt - r2.toInt := i3_subc rfl rfl rfl (by omega)
          have b8 := i3_bd (τ.1 14 - r2)
          refine ih (kk + 1) (w' + 1) (l3 + 1) (sf τ 14 (τ.1 14 - r2)) (by omega) (by omega) (by omega) (by omega) ?_ (hMt.sf 14 _ b8) (hE.sf 14 _ (by decide)) hJ ?_ ?_
          · rw [cnt_s, if_pos sw, cw]
          · rw [FPi_y sw, List.length_append]
            omega
          · rw [sf_same, FPi_y sw, List.length_append, t8]
            omega
        · rw [rr]
          refine hq _ τ w' (k - (FPi (vv σ 16) c (FPw D nm b t F m) w').length) rt (by omega) d5 hMt hE hJ (by omega) (by omega) ?_
          have g := FPi_get (src := vv σ 16) (c := c) (f := FPw D nm b t F m) (j := k - (FPi (vv σ 16) c (FPw D nm b t F m) w').length) hw' sw (by omega)
          rw [show (FPi (vv σ 16) c (FPw D nm b t F m) w').length + (k - (FPi (vv σ 16) c (FPw D nm b t F m) w').length) = k by omega] at g
          exact g
  refine ⟨⟨by omega, by omega⟩, fun x1 e1 => ?_⟩
  refine L (cnt (vv σ 16) (c : Int) W + 1) 0 0 x1 σ (by omega) (by omega) ?_ (by omega) rfl hM Eo.rfl rfl (Nat.zero_le _) ?_
  · rw [e1, rd_at σ 18 p1 h1, f0]; omega
  · rw [h14]
    show (k : Int) = (k : Int) - ((0 : Nat) : Int)
    omega
/-! THE STEPS OF A PATH -/
def runP (D V : Nat → Nat → Int) : Nat → Int → List Nat → List (Nat × Int × Nat × Int)
  | _, _, [] => []
  | e, l, [w] => [(w / 4, ((w % 4 : Nat) : Int), e, l)]
  | e, l, w :: v :: p => (w / 4, ((w % 4 : Nat) : Int), feN D (w / 4) e, l + V 2 (2 * w + feN D (w / 4) e)) :: runP D V (feN D (w / 4) e) (l + V 2 (2 * w + feN D (w / 4) e)) (v :: p)
def endL (D V : Nat → Nat → Int) (k : Nat) : Nat → Int → List Nat → Int
  | _, l, [] => l
  | _, l, [_] => l
  | e, l, w :: v :: p => endL D V k (feN D (w / 4) e) (l + V k (2 * w + feN D (w / 4) e)) (v :: p)
def endM (b : Nat → Nat) : Nat → List Nat → Nat
  | m, [] => m
  | m, [_] => m
  | m, w :: v :: p => endM b (m ||| b (w / 4)) (v :: p)
def Ste (A : Nat → Nat → Int) : Nat → List (Nat × Int × Nat × Int) → Prop
  | _, [] => True
  | o, x :: L => (A 0 o = (x.1 : Int) ∧ A 1 o = x.2.1 ∧ A 2 o = (x.2.2.1 : Int) ∧ A 3 o = x.2.2.2) ∧ Ste A (o + 1) L
abbrev TF : List Nat := [11, 12, 13, 14, 15, 16, 17, 18, 19, 20, 21]
abbrev TA : List Nat := [53, 55, 56, 57, 58, 59, 60, 61, 62]
def LyE (σ : VS) (R : Nat) (b : Nat → Nat) (sh : Nat → Nat → Int) : Prop :=
  TkL σ ∧ TO σ ∧ CSrc σ ∧ Wel σ ∧ (∀ c, c < nCl σ → StC σ (vC σ) c 2400000) ∧ (σ.1 6).toInt = (R : Int) ∧ (∀ c, c < 50 → vv σ 35 c = ((b c : Nat) : Int)) ∧ (∀ c, b c < 2 ^ R) ∧ (∀ s t, -2000000 ≤ sh s t ∧ sh s t ≤ 2000000) ∧ ∀ τ : VS, CI τ → Eo TF TA σ τ → ∀ (s t : Nat) (p1 p2 : Int32) (Q : Int32 → VS → Prop), p1.toInt = (s : Int) → p2.toInt = (t : Int) → s < nCl σ → t < nCl σ → (∀ r : Int32, r.toInt = sh s t → Q r τ) → wp_X2sharedOf Q p1 p2 τ
theorem cx_slackRoom {Q : Int32 → VS → Prop} {p1 p2 : Int32} {σ : VS} {t : Nat} {sh : Int} (h2 : p2.toInt = (t : Int)) (ht : t < nCl σ) (hM : CI σ) (hsh : ∀ Q : Int32 → VS → Prop, (∀ r : Int32, r.toInt = sh → Q r σ) → wp_X2sharedOf Q p1 p2 σ) (bsh : -2000000 ≤ sh ∧ sh ≤ 2000000) (h14 : 0 ≤ dC σ 14 t ∧ dC σ 14 t ≤ 2000000) (hq : ∀ r : Int32, r.toInt = dC σ 14 t - vv σ 26 t + sh → Q r σ) : wp_X2slackRoom Q p1 p2 σ := by
  have hn50 : nCl σ ≤ 50 := by
    have a : 0 ≤ (σ.1 2).toInt ∧ (σ.1 2).toInt ≤ 50 := hM.1 2
    unfold nCl; omega
  have b26 : -10000 ≤ vv σ 26 t ∧ vv σ 26 t ≤ 10000 := hM.2 26 t
  have b25 : -1 ≤ vv σ 25 t ∧ vv σ 25 t ≤ 19 := hM.2 25 t
  have r25 : (rd σ 25 p2).toInt = vv σ 25 t := vv_rd h2
  have x25 : rd σ 25 p2 = σ.2.1 25 t := rd_at σ 25 p2 h2
  have e14 : (ex (σ.2.1 29) (rd σ 25 p2)).toInt = dC σ 14 t := by rw [x25, dC_14 ht]
  have r26 : (rd σ 26 p2).toInt = vv σ 26 t := vv_rd h2
  unfold wp_X2slackRoom
  refine ⟨⟨by omega, by omega⟩, early_x ⟨by omega, by omega⟩ ⟨⟨by omega, by omega⟩, hsh _ (fun r3 e3 => hq _ ?_)⟩⟩
  have q1 : (ex (σ.2.1 29) (rd σ 25 p2) - rd σ 26 p2).toInt = dC σ 14 t - vv σ 26 t := i3_subc e14 r26 rfl (by omega)
  exact i3_addc q1 e3 rfl (by omega)
theorem cx_holdRoom {Q : Int32 → VS → Prop} {p1 p2 : Int32} {σ : VS} {t : Nat} {sh : Int} (h2 : p2.toInt = (t : Int)) (ht : t < nCl σ) (hM : CI σ) (hsh : ∀ Q : Int32 → VS → Prop, (∀ r : Int32, r.toInt = sh → Q r σ) → wp_X2sharedOf Q p1 p2 σ) (bsh : -2000000 ≤ sh ∧ sh ≤ 2000000) (h13 : 0 ≤ dC σ 13 t ∧ dC σ 13 t ≤ 2000000) (hq : ∀ r : Int32, r.toInt = sh - dC σ 13 t - vv σ 27 t → Q r σ) : wp_X2holdRoom Q p1 p2 σ := by
  have hn50 : nCl σ ≤ 50 := by
    have a : 0 ≤ (σ.1 2).toInt ∧ (σ.1 2).toInt ≤ 50 := hM.1 2
    unfold nCl; omega
  have b27 : -10000 ≤ vv σ 27 t ∧ vv σ 27 t ≤ 10000 := hM.2 27 t
  have b25 : -1 ≤ vv σ 25 t ∧ vv σ 25 t ≤ 19 := hM.2 25 t
  have r25 : (rd σ 25 p2).toInt = vv σ 25 t := vv_rd h2
  have x25 : rd σ 25 p2 = σ.2.1 25 t := rd_at σ 25 p2 h2
  have e13 : (ex (σ.2.1 30) (rd σ 25 p2)).toInt = dC σ 13 t := by rw [x25, dC_13 ht]
  have r27 : (rd σ 27 p2).toInt = vv σ 27 t := vv_rd h2
  unfold wp_X2holdRoom
  refine hsh _ (fun r5 e5 => ⟨⟨by omega, by omega⟩, late_x ⟨by omega, by omega⟩ ⟨⟨by omega, by omega⟩, hq _ ?_⟩⟩)
  have q1 : (r5 - ex (σ.2.1 30) (rd σ 25 p2)).toInt = sh - dC σ 13 t := i3_subc e5 e13 rfl (by omega)
  exact i3_subc q1 r27 rfl (by omega)
theorem ly_arc {σ : VS} {R t c w m : Nat} {b : Nat → Nat} {sh : Nat → Nat → Int} {nm : Nat → Int} {F : Nat → Nat → List (List Nat)} {ρ : Nat → Nat} {q : List Nat} (hM : CI σ) (H : LyE σ R b sh) (hW : Wo (dC σ) (nCl σ) ρ) (hF : ∀ c m, c < nCl σ → F c m = FPs (dC σ) nm b t (nCl σ) F c m) (h1 : dC σ 1 t = 1) (ho : vC σ 1 (fD (dC σ) t) = 0) (hw : w < 4 * nCl σ) (e5 : dC σ 5 w = (c : Int)) (g : gN (dC σ) (w / 4)) (r : vC σ 0 c ≠ 0) (hq : q ∈ F (w / 4) m) : vC σ 0 (w / 4) ≠ 0 ∧ ∀ e, e < 2 → (0 ≤ vC σ 2 (2 * w + e) ∧ vC σ 2 (2 * w + e) ≤ 6000) ∧ 0 ≤ vC σ 3 (2 * w + e) ∧ vC σ 3 (2 * w + e) ≤ 6000 := by
  obtain ⟨hT, hO, hC, hWl, hSt, hR, hb, hbK, bsh, hsh⟩ := H
  have hL : ∀ c, c < nCl σ → LE2 (dC σ) (vC σ) (vC σ) c := fun c hc => (hSt c hc).1
  have wn : w / 4 < nCl σ := by omega
  have o : vC σ 1 (w / 4) = 0 := FP_opn hW hL hF h1 ho (w / 4) wn m q hq
  have ip := (hW.2.2.2.2 w hw (by omega)).2
  have e4 : 4 * (w / 4) + w % 4 = w := by omega
  have ec : (dC σ 5 w).toNat = c := by omega
  have ac : acN (dC σ) (vC σ) (w / 4) (w % 4) := Or.inr ⟨by rw [e4]; omega, by rw [e4, ec]; exact r⟩
  have r2 : vC σ 0 (w / 4) ≠ 0 := by
    rcases (hL _ wn).2.2.2.1 g with ⟨v, _⟩ | ⟨_, k⟩
    · omega
    · exact absurd ac (k _ ip)
  have g1 := g.1
  have g2 := g.2
  refine ⟨r2, fun e he => ?_⟩
  have d := dl_b hM rfl hC hSt wn ⟨by omega, by omega⟩ r2 o ip he ac
  rw [show 8 * (w / 4) + 2 * (w % 4) + e = 2 * w + e by omega] at d
  exact d
theorem FP_ne {D : Nat → Nat → Int} {nm : Nat → Int} {b : Nat → Nat} {t n c m : Nat} {F : Nat → Nat → List (List Nat)} (hF : ∀ c m, c < n → F c m = FPs D nm b t n F c m) (hc : c < n) {p : List Nat} (h : p ∈ F c m) : p ≠ [] := fun z => by
  rw [z] at h
  obtain ⟨w, _, _, k⟩ := (FP_mem hF hc).mp h
  rcases k with ⟨_, _, e⟩ | ⟨_, _, q, _, e⟩
  · cases e
  · cases e
