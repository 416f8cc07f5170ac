/-! THE CLASS COUNTS THE PATHS FORWARD -/
theorem FPi_same {src : Nat → Int} {c : Nat} {f : Nat → List (List Nat)} {a : Nat} : ∀ b : Nat, a ≤ b → cnt src (c : Int) a = cnt src (c : Int) b → FPi src c f a = FPi src c f b
  | 0, h, _ => by
    have e : a = 0 := by omega
    rw [e]
  | b + 1, h, e => by
    by_cases q : a = b + 1
    · rw [q]
    · have m1 := cnt_mono src (c : Int) (show a ≤ b by omega)
      rw [cnt_s] at e
      by_cases s : src b = (c : Int)
      · rw [if_pos s] at e; omega
      · rw [if_neg s] at e
        rw [FPi_n s]
        exact FPi_same b (by omega) (by omega)
theorem FPi_cnt {src : Nat → Int} {c : Nat} {f : Nat → List (List Nat)} {a b : Nat} (e : cnt src (c : Int) a = cnt src (c : Int) b) : FPi src c f a = FPi src c f b := by
  by_cases h : a ≤ b
  · exact FPi_same b h e
  · exact (FPi_same a (by omega) e.symm).symm
theorem FPi_src {src src' : Nat → Int} {c : Nat} {f : Nat → List (List Nat)} : ∀ W : Nat, (∀ w, w < W → (src w = (c : Int) ↔ src' w = (c : Int))) → FPi src c f W = FPi src' c f W
  | 0, _ => rfl
  | W + 1, h => by
    have ih := FPi_src (f := f) W (fun w hw => h w (by omega))
    have q := h W (by omega)
    by_cases k : src W = (c : Int)
    · rw [FPi_y k, FPi_y (q.mp k), ih]
    · rw [FPi_n k, FPi_n (fun z => k (q.mpr z)), ih]
/-- what the search rests on -/
def TrE (σ : VS) (D : Nat → Nat → Int) (n R s t : Nat) (b : Nat → Nat) (nm : Nat → Int) (F : Nat → Nat → List (List Nat)) : Prop :=
  n = nCl σ ∧ (∀ w, w < 4 * n → ∀ c : Nat, (D 5 w = (c : Int) ↔ vv σ 16 w = (c : Int))) ∧ (∀ c, c < n → D 0 c = vv σ 11 c) ∧ (σ.1 6).toInt = (R : Int) ∧ (σ.1 11).toInt = ((2 ^ R : Nat) : Int) ∧ (∀ c, c < 50 → vv σ 35 c = ((b c : Nat) : Int)) ∧ (∀ c, b c < 2 ^ R) ∧ (s < n ∧ t < n) ∧ (∀ m, m < 2 ^ R → nm m = perK (vv σ 31) (hitC (vv σ 32) (vv σ 34) s t (m ||| b t)) R) ∧ (∀ c m, c < n → F c m = FPs D nm b t n F c m) ∧ (σ.1 13).toInt = (t : Int)
theorem TrE.same {F0 A : List Nat} {σ τ : VS} {D : Nat → Nat → Int} {n R s t : Nat} {b : Nat → Nat} {nm : Nat → Int} {F : Nat → Nat → List (List Nat)} (h : TrE σ D n R s t b nm F) (e : Eo F0 A σ τ) (hk : (2 ∉ F0 ∧ 6 ∉ F0 ∧ 11 ∉ F0 ∧ 13 ∉ F0) ∧ 11 ∉ A ∧ 16 ∉ A ∧ 31 ∉ A ∧ 32 ∉ A ∧ 34 ∉ A ∧ 35 ∉ A) : TrE τ D n R s t b nm F := by
  obtain ⟨⟨f2, f6, f11, f13⟩, a11, a16, a31, a32, a34, a35⟩ := hk
  unfold TrE nCl
  rw [e.1 2 f2, e.1 6 f6, e.1 11 f11, e.1 13 f13, vv_eo e a11, vv_eo e a16, vv_eo e a31, vv_eo e a32, vv_eo e a34, vv_eo e a35]
  exact h
theorem pl_lt {c K m : Nat} (hc : c < 50) (hK : K ≤ 16) (hm : m < K) : c * K + m < 800 := by
  have q := Nat.mul_le_mul (show c + 1 ≤ 50 by omega) hK
  rw [Nat.succ_mul] at q
  omega
theorem pl_inj {c d K m k : Nat} (hm : m < K) (hk : k < K) (h : c * K + m = d * K + k) : c = d ∧ m = k := by
  have L : ∀ x y, x < y → x * K + K ≤ y * K := fun x y z => by
    have q := Nat.mul_le_mul_right K (show x + 1 ≤ y by omega)
    rw [Nat.succ_mul] at q
    exact q
  by_cases a : c < d
  · have q := L c d a
    omega
  · by_cases a2 : d < c
    · have q := L d c a2
      omega
    · have e : c = d := by omega
      rw [e] at h
      exact ⟨e, by omega⟩
theorem cx_onwardBy {Q : Int32 → VS → Prop} {p1 p2 : Int32} {σ : VS} {D : Nat → Nat → Int} {n R s t w m : Nat} {b : Nat → Nat} {nm : Nat → Int} {F : Nat → Nat → List (List Nat)} (h1 : p1.toInt = (w : Int)) (h2 : p2.toInt = (m : Int)) (hM : CI σ) (T : TrE σ D n R s t b nm F) (h12 : (σ.1 12).toInt = (s : Int)) (hw : w < 4 * n) (hm : m < 2 ^ R) (hOn : ¬ w / 4 = t → gN D (w / 4) → vv σ 53 (w / 4 * 2 ^ R + (m ||| b (w / 4))) = min 1000 (((F (w / 4) (m ||| b (w / 4))).length : Nat) : Int)) (hq : ∀ r : Int32, r.toInt = min 1000 (((FPw D nm b t F m w).length : Nat) : Int) → Q r σ) : wp_X7onwardBy Q p1 p2 σ := by
  obtain ⟨hn, hsrc, hk, hR, h11, hb, hbK, hst, hnm, hF, h13⟩ := T
  have hR4 : 0 ≤ (σ.1 6).toInt ∧ (σ.1 6).toInt ≤ 4 := hM.1 6
  have kk := K_le R (by omega)
  have a2 : 0 ≤ (σ.1 2).toInt ∧ (σ.1 2).toInt ≤ 50 := hM.1 2
  have n50 : n ≤ 50 := by rw [hn]; unfold nCl; omega
  have w4 : w / 4 < n := by omega
  have bl := hbK (w / 4)
  have ml : m ||| b (w / 4) < 2 ^ R := or_K m _ hm bl
  have hnm2 := hnm m hm
  obtain ⟨K, eK⟩ : ∃ K, K = 2 ^ R := ⟨_, rfl⟩
  rw [← eK] at kk bl ml hm h11 hOn
  have pl := pl_lt (c := w / 4) (by omega) kk.2 ml
  unfold wp_X7onwardBy b_X7onwardBy_80 b_X7onwardBy_50
  intro x1 e1
  have t1 : x1.toInt = ((w / 4 : Nat) : Int) := by
    have q := i3_divc (x := x1) h1 (show (4 : Int32).toInt = 4 from rfl) e1 (by omega) (by decide)
    omega
  refine ⟨⟨by omega, by omega⟩, fun x2 e2 => ?_⟩
  have r35 : (rd σ 35 x1).toInt = ((b (w / 4) : Nat) : Int) := by rw [vv_rd t1]; exact hb _ (by omega)
  have t2 : x2.toInt = ((m ||| b (w / 4) : Nat) : Int) := by rw [e2]; exact or_nat h2 r35 (by omega) (by omega)
  refine ⟨fun ne => ?_, fun eq => ?_⟩
  · have nt : ¬ w / 4 = t := by omega
    refine xisGate_x t1 (by omega) (fun g => ⟨fun z => absurd z (by decide), fun _ => ?_⟩) (fun g => ⟨fun _ => hq 0 ?_, fun z => absurd rfl z⟩)
    · have gD : gN D (w / 4) := by unfold gN; rw [hk _ w4]; exact g
      have e0 : ((w / 4 : Nat) : Int) * ((K : Nat) : Int) = ((w / 4 * K : Nat) : Int) := (Int.natCast_mul _ _).symm
      have t3 : (x1 * σ.1 11).toInt = ((w / 4 * K : Nat) : Int) := by
        have q := i3_mulc (x := x1 * σ.1 11) t1 h11 rfl (by rw [e0]; omega)
        rw [q, e0]
      have t4 : ((x1 * σ.1 11) + x2).toInt = ((w / 4 * K + (m ||| b (w / 4)) : Nat) : Int) := by
        have q := i3_addc (x := (x1 * σ.1 11) + x2) t3 t2 rfl (by omega)
        omega
      refine ⟨⟨by omega, by omega⟩, hq _ ?_⟩
      rw [vv_rd t4, hOn nt gD, FPw_g nt gD, List.length_map]
    · have ng : ¬ gN D (w / 4) := fun z => g (by unfold gN at z; rw [hk _ w4] at z; exact z)
      rw [FPw_0 nt ng]; rfl
  · have et : w / 4 = t := by omega
    refine cx_periodsOf (s := s) (t := t) (m := m ||| b (w / 4)) h12 h13 t2 (by omega) hM hR (fun r hr br => ⟨fun z => hq 0 ?_, fun z => hq 1 ?_⟩)
    · rw [et] at hr
      rw [FPw_t et, if_neg (by rw [hnm2, ← hr]; omega)]; rfl
    · rw [et] at hr
      rw [FPw_t et, if_pos (by rw [hnm2, ← hr]; omega)]; rfl
theorem cx_sumOnward {Q : Int32 → VS → Prop} {p1 p2 : Int32} {σ : VS} {D : Nat → Nat → Int} {n R s t c m : Nat} {b : Nat → Nat} {nm : Nat → Int} {F : Nat → Nat → List (List Nat)} (h1 : p1.toInt = (c : Int)) (h2 : p2.toInt = (m : Int)) (hM : CI σ) (hT : TkL σ) (T : TrE σ D n R s t b nm F) (h12 : (σ.1 12).toInt = (s : Int)) (hc : c < n) (hm : m < 2 ^ R) (hOn : ∀ w, w < 4 * n → D 5 w = (c : Int) → ¬ w / 4 = t → gN D (w / 4) → vv σ 53 (w / 4 * 2 ^ R + (m ||| b (w / 4))) = min 1000 (((F (w / 4) (m ||| b (w / 4))).length : Nat) : Int)) (hq : ∀ r : Int32, r.toInt = min 1000 (((F c m).length : Nat) : Int) → Q r σ) : wp_X7sumOnward Q p1 p2 σ := by
  have T0 := T
  obtain ⟨hn, hsrc, hk, hR, h11, hb, hbK, hst, hnm, hF, h13⟩ := T0
  have a2 : 0 ≤ (σ.1 2).toInt ∧ (σ.1 2).toInt ≤ 50 := hM.1 2
  have en : (σ.1 2).toInt = ((n : Nat) : Int) := by rw [hn]; unfold nCl; omega
  have TT := hT n en
  have es : srcf σ = vv σ 16 := rfl
  rw [es] at TT
  obtain ⟨W, hW⟩ : ∃ W, W = n * 4 := ⟨_, rfl⟩
  rw [← hW] at TT
  have eF : F c m = FPi (vv σ 16) c (FPw D nm b t F m) W := by
    rw [hF c m hc]
    unfold FPs
    rw [show 4 * n = W by omega]
    exact FPi_src W (fun w hw => hsrc w (by omega) c)
  rw [eF] at hq
  have f0 := TT.1 c (by omega)
  have f1 := TT.1 (c + 1) (by omega)
  rw [prs_s] at f1
  have kc : cnt (vv σ 16) (c : Int) W ≤ W := cnt_le _ _ _
  have kp : prs (vv σ 16) W (c + 1) ≤ W := prs_le _ _ _
  rw [prs_s] at kp
  unfold wp_X7sumOnward
  intro X13 H
  have t1 : (p1 + 1).toInt = (c : Int) + 1 := i3_addc h1 (show (1 : Int32).toInt = 1 from rfl) rfl (by omega)
  have r1 : (rd σ 18 (p1 + 1)).toInt = (prs (vv σ 16) W c : Int) + (cnt (vv σ 16) (c : Int) W : Int) := by
    rw [rd_at σ 18 (p1 + 1) (n := c + 1) (by omega), f1]; omega
  have L : ∀ (d k w : Nat) (l3 l4 : Int32), cnt (vv σ 16) (c : Int) W + 1 ≤ d + k → k ≤ cnt (vv σ 16) (c : Int) W → l4.toInt = (prs (vv σ 16) W c : Int) + (k : Int) → w ≤ W → cnt (vv σ 16) (c : Int) w = k → l3.toInt = min 1000 (((FPi (vv σ 16) c (FPw D nm b t F m) w).length : Nat) : Int) → X13 p1 p2 l3 l4 σ := by
    intro d
    induction d with
    | zero => intro k w l3 l4 a b; omega
    | succ d ih =>
      intro k w l3 l4 a b' e4 hw ek e3
      refine H p1 p2 l3 l4 σ ?_
      unfold b_X7sumOnward_13
      refine ⟨⟨by omega, by omega⟩, fun z => ?_, fun z => ?_⟩
      · have ekk : cnt (vv σ 16) (c : Int) w = cnt (vv σ 16) (c : Int) W := by omega
        exact hq l3 (by rw [e3, FPi_cnt ekk])
      · obtain ⟨w', hw', sw, cw⟩ := cnt_hit (vv σ 16) (c : Int) W k (by omega)
        have pl : plc (vv σ 16) W w' = prs (vv σ 16) W c + k := by
          unfold plc
          rw [sw, cw]; rfl
        have tk := TT.2 w' hw' (by rw [sw]; omega)
        rw [pl] at tk
        have rt : (rd σ 17 l4).toInt = (w' : Int) := by
          rw [rd_at σ 17 l4 (n := prs (vv σ 16) W c + k) (by omega)]; exact tk
        refine ⟨⟨by omega, by omega⟩, cx_onwardBy rt h2 hM T h12 (by omega) hm (hOn w' (by omega) ((hsrc w' (by omega) c).mpr sw)) (fun r2 hr2 x4 ex4 => ?_)⟩
        rw [FPi_cnt (show cnt (vv σ 16) (c : Int) w = cnt (vv σ 16) (c : Int) w' by omega)] at e3
        have t7 : (l4 + 1).toInt = l4.toInt + 1 := i3_addc rfl rfl rfl (by have q : (1 : Int32).toInt = 1 := rfl; omega)
        have t8 : (l3 + r2).toInt = l3.toInt + r2.toInt := i3_addc rfl rfl rfl (by omega)
        have t9 : x4.toInt = min 1000 (l3.toInt + r2.toInt) := by
          rw [ex4, imin_x, t8]; rfl
        refine ih (k + 1) (w' + 1) x4 (l4 + 1) (by omega) (by omega) (by omega) (by omega) ?_ ?_
        · rw [cnt_s, if_pos sw, cw]
        · rw [FPi_y sw, List.length_append]
          omega
  refine ⟨⟨by omega, by omega⟩, fun x1 e1 => ?_⟩
  refine L (cnt (vv σ 16) (c : Int) W + 1) 0 0 0 x1 (by omega) (by omega) ?_ (by omega) rfl rfl
  rw [e1, rd_at σ 18 p1 h1, f0]; omega
