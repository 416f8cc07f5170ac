/-! LOADS, INPUTS -/
def ldF (x : Int) (src sz : Nat → Int) (c : Int) : Nat → Int
  | 0 => x
  | w + 1 => ldF x src sz c w + (if src w = c then 1 + sz (w / 4) else 0)
theorem ldF_s (x : Int) (src sz : Nat → Int) (c : Int) (w : Nat) : ldF x src sz c (w + 1) = ldF x src sz c w + (if src w = c then 1 + sz (w / 4) else 0) := rfl
theorem ldF_b {x : Int} {src sz : Nat → Int} {c : Int} (hx : 0 ≤ x ∧ x ≤ 1000) (hz : ∀ j, 0 ≤ sz j ∧ sz j ≤ 2) : ∀ w : Nat, 0 ≤ ldF x src sz c w ∧ ldF x src sz c w ≤ 1000 + 3 * (w : Int)
  | 0 => by
    show 0 ≤ x ∧ x ≤ 1000 + 3 * ((0 : Nat) : Int)
    omega
  | w + 1 => by
    have ih := ldF_b (src := src) (c := c) hx hz w
    have z := hz (w / 4)
    rw [ldF_s]
    by_cases a : src w = c
    · rw [if_pos a]; omega
    · rw [if_neg a]; omega
theorem ldF_same {x : Int} {src sz : Nat → Int} {c : Int} {a : Nat} : ∀ b : Nat, a ≤ b → cnt src c a = cnt src c b → ldF x src sz c a = ldF x src sz c b
  | 0, h, _ => by
    have e : a = 0 := by omega
    rw [e]
  | b + 1, h, e => by
    by_cases q : a = b + 1
    · rw [q]
    · have m1 := cnt_mono src c (show a ≤ b by omega)
      rw [cnt_s] at e
      by_cases s : src b = c
      · rw [if_pos s] at e; omega
      · rw [if_neg s] at e
        rw [ldF_s, if_neg s, Int.add_zero]
        exact ldF_same b (by omega) (by omega)
theorem ldF_cnt {x : Int} {src sz : Nat → Int} {c : Int} {a b : Nat} (e : cnt src c a = cnt src c b) : ldF x src sz c a = ldF x src sz c b := by
  by_cases h : a ≤ b
  · exact ldF_same b h e
  · exact (ldF_same a (by omega) e.symm).symm
def nCl (σ : VS) : Nat := (σ.1 2).toInt.toNat
theorem cx_loadOf {Q : Int32 → VS → Prop} {p1 : Int32} {σ : VS} {c : Nat} (h1 : p1.toInt = (c : Int)) (hc : c < nCl σ) (hM : CI σ) (hT : TkL σ) (hq : ∀ r : Int32, r.toInt = ldF (vv σ 15 c) (vv σ 16) (vv σ 14) (c : Int) (nCl σ * 4) → 0 ≤ r.toInt ∧ r.toInt ≤ 1600 → Q r σ) : wp_X1loadOf Q p1 σ := by
  have hn : 0 ≤ (σ.1 2).toInt ∧ (σ.1 2).toInt ≤ 50 := hM.1 2
  have en : (σ.1 2).toInt = ((nCl σ : Nat) : Int) := by unfold nCl; omega
  have T := hT (nCl σ) en
  have es : srcf σ = vv σ 16 := rfl
  rw [es] at T
  obtain ⟨W, hW⟩ : ∃ W, W = nCl σ * 4 := ⟨_, rfl⟩
  rw [← hW] at T hq
  have f0 := T.1 c (by omega)
  have f1 := T.1 (c + 1) (by omega)
  rw [prs_s] at f1
  have bd := ldF_b (x := vv σ 15 c) (src := vv σ 16) (sz := vv σ 14) (c := (c : Int)) (hM.2 15 c) (fun j => hM.2 14 j)
  have kc : cnt (vv σ 16) (c : Int) W ≤ W := cnt_le _ _ _
  have kp : prs (vv σ 16) W (c + 1) ≤ W := prs_le _ _ _
  rw [prs_s] at kp
  unfold wp_X1loadOf
  intro X14 H
  have t1 : (p1 + 1).toInt = (c : Int) + 1 := i3_addc h1 (show (1 : Int32).toInt = 1 from rfl) rfl (by omega)
  have r1 : (rd σ 18 (p1 + 1)).toInt = (prs (vv σ 16) W c : Int) + (cnt (vv σ 16) (c : Int) W : Int) := by
    rw [rd_at σ 18 (p1 + 1) (n := c + 1) (by omega), f1]; omega
  have L : ∀ (d k w : Nat) (l2 l3 : Int32), cnt (vv σ 16) (c : Int) W + 1 ≤ d + k → k ≤ cnt (vv σ 16) (c : Int) W → l3.toInt = (prs (vv σ 16) W c : Int) + (k : Int) → w ≤ W → cnt (vv σ 16) (c : Int) w = k → l2.toInt = ldF (vv σ 15 c) (vv σ 16) (vv σ 14) (c : Int) w → X14 p1 l2 l3 σ := by
    intro d
    induction d with
    | zero => intro k w l2 l3 a b; omega
    | succ d ih =>
      intro k w l2 l3 a b e3 hw ek e2
      refine H p1 l2 l3 σ ?_
      unfold b_X1loadOf_14
      refine ⟨⟨by omega, by omega⟩, fun z => ?_, fun z => ?_⟩
      · have ekk : cnt (vv σ 16) (c : Int) w = cnt (vv σ 16) (c : Int) W := by omega
        have v := ldF_cnt (x := vv σ 15 c) (sz := vv σ 14) ekk
        have bb := bd W
        exact hq l2 (by rw [e2, v]) (by rw [e2, v]; omega)
      · obtain ⟨w', hw', sw, cw⟩ := cnt_hit (vv σ 16) (c : Int) W k (by omega)
        have pl : plc (vv σ 16) W w' = prs (vv σ 16) W c + k := by
          unfold plc
          rw [sw, cw]; rfl
        have tk := T.2 w' hw' (by rw [sw]; omega)
        rw [pl] at tk
        have rt : (rd σ 17 l3).toInt = (w' : Int) := by
          rw [rd_at σ 17 l3 (n := prs (vv σ 16) W c + k) (by omega)]; exact tk
        have t4 : (rd σ 17 l3 / 4).toInt = ((w' / 4 : Nat) : Int) := by
          have q := i3_divc (x := rd σ 17 l3 / 4) rt (show (4 : Int32).toInt = 4 from rfl) rfl (by omega) (by decide)
          omega
        refine ⟨⟨by omega, by omega⟩, ⟨by omega, by omega⟩, fun x3 e4 => ?_⟩
        have zz : 0 ≤ vv σ 14 (w' / 4) ∧ vv σ 14 (w' / 4) ≤ 2 := hM.2 14 _
        have bw := bd w'
        have ew : ldF (vv σ 15 c) (vv σ 16) (vv σ 14) (c : Int) w = ldF (vv σ 15 c) (vv σ 16) (vv σ 14) (c : Int) w' := ldF_cnt (by omega)
        rw [ew] at e2
        have t5 : (1 + rd σ 14 (rd σ 17 l3 / 4)).toInt = 1 + vv σ 14 (w' / 4) := i3_addc rfl (vv_rd t4) rfl (by have q : (1 : Int32).toInt = 1 := rfl; omega)
        have t6 : x3.toInt = l2.toInt + (1 + vv σ 14 (w' / 4)) := i3_addc rfl t5 e4 (by omega)
        have t7 : (l3 + 1).toInt = l3.toInt + 1 := i3_addc rfl rfl rfl (by have q : (1 : Int32).toInt = 1 := rfl; omega)
        refine ih (k + 1) (w' + 1) x3 (l3 + 1) (by omega) (by omega) (by omega) (by omega) ?_ ?_
        · rw [cnt_s, if_pos sw, cw]
        · rw [ldF_s, if_pos sw, t6, e2]
  refine ⟨⟨by omega, by omega⟩, fun x1 e1 => ⟨⟨by omega, by omega⟩, fun x2 e2 => ?_⟩⟩
  refine L (cnt (vv σ 16) (c : Int) W + 1) 0 0 x1 x2 (by omega) (by omega) ?_ (by omega) rfl ?_
  · rw [e2, rd_at σ 18 p1 h1, f0]; omega
  · rw [e1]; exact vv_rd h1
theorem cx_inR {Q : Int32 → VS → Prop} {p1 : Int32} {σ : VS} {w : Nat} (h1 : p1.toInt = (w : Int)) (hw : w < 200) (hM : CI σ) (hy : 0 ≤ vv σ 16 w → vv σ 39 (vv σ 16 w).toNat ≠ 0 → Q 1 σ) (hn : ¬ (0 ≤ vv σ 16 w ∧ vv σ 39 (vv σ 16 w).toNat ≠ 0) → Q 0 σ) : wp_X6isInputReached Q p1 σ := by
  have r16 : -5 ≤ vv σ 16 w ∧ vv σ 16 w ≤ 49 := hM.2 16 w
  unfold wp_X6isInputReached b_X6isInputReached_27 b_X6isInputReached_28
  refine ⟨⟨by omega, by omega⟩, fun x1 e1 => ?_⟩
  have t1 : x1.toInt = vv σ 16 w := by rw [e1]; exact vv_rd h1
  have t2 : 0 ≤ x1.toInt → (rd σ 39 x1).toInt = vv σ 39 (vv σ 16 w).toNat := fun h => vv_rd (by omega)
  exact ⟨fun a => ⟨⟨by decide, by decide⟩, hn (fun k => by have := k.1; omega)⟩, fun a => ⟨⟨by omega, by omega⟩, fun b => ⟨⟨by decide, by decide⟩, hn (fun k => k.2 (by rw [← t2 a]; exact b))⟩, fun b => ⟨⟨by decide, by decide⟩, hy (by omega) (by rw [← t2 a]; exact b)⟩⟩⟩
theorem cx_inO {Q : Int32 → VS → Prop} {p1 : Int32} {σ : VS} {w : Nat} (h1 : p1.toInt = (w : Int)) (hw : w < 200) (hM : CI σ) (hy : 0 ≤ vv σ 16 w → vv σ 40 (vv σ 16 w).toNat ≠ 0 → Q 1 σ) (hn : ¬ (0 ≤ vv σ 16 w ∧ vv σ 40 (vv σ 16 w).toNat ≠ 0) → Q 0 σ) : wp_X6isInputOpen Q p1 σ := by
  have r16 : -5 ≤ vv σ 16 w ∧ vv σ 16 w ≤ 49 := hM.2 16 w
  unfold wp_X6isInputOpen b_X6isInputOpen_27 b_X6isInputOpen_28
  refine ⟨⟨by omega, by omega⟩, fun x1 e1 => ?_⟩
  have t1 : x1.toInt = vv σ 16 w := by rw [e1]; exact vv_rd h1
  have t2 : 0 ≤ x1.toInt → (rd σ 40 x1).toInt = vv σ 40 (vv σ 16 w).toNat := fun h => vv_rd (by omega)
  exact ⟨fun a => ⟨⟨by decide, by decide⟩, hn (fun k => by have := k.1; omega)⟩, fun a => ⟨⟨by omega, by omega⟩, fun b => ⟨⟨by decide, by decide⟩, hn (fun k => k.2 (by rw [← t2 a]; exact b))⟩, fun b => ⟨⟨by decide, by decide⟩, hy (by omega) (by rw [← t2 a]; exact b)⟩⟩⟩
def aC (σ : VS) (c i : Nat) : Prop := 0 ≤ vv σ 16 (4 * c + i) ∧ vv σ 39 (vv σ 16 (4 * c + i)).toNat ≠ 0
def oC (σ : VS) (c i : Nat) : Prop := 0 ≤ vv σ 16 (4 * c + i) ∧ vv σ 40 (vv σ 16 (4 * c + i)).toNat ≠ 0
def IvA (P : Nat → Prop) (v : Int) (k : Nat) : Prop := (v = 1 ∧ ∃ i, i < k ∧ P i) ∨ (v = 0 ∧ ∀ i, i < k → ¬ P i)
theorem IvA.y {P : Nat → Prop} {k : Nat} (p : P k) : IvA P 1 (k + 1) := Or.inl ⟨rfl, k, by omega, p⟩
theorem IvA.n {P : Nat → Prop} {v : Int} {k : Nat} (h : IvA P v k) (p : ¬ P k) : IvA P v (k + 1) := by
  rcases h with ⟨a, i, hi, q⟩ | ⟨a, q⟩
  · exact Or.inl ⟨a, i, by omega, q⟩
  · refine Or.inr ⟨a, fun i hi z => ?_⟩
    by_cases e : i = k
    · exact p (e ▸ z)
    · exact q i (by omega) z
theorem cx_takeInputs {Q : VS → Prop} {p1 : Int32} {σ : VS} {c m : Nat} (h1 : p1.toInt = (c : Int)) (hc : c < 50) (hM : CI σ) (hm : vv σ 12 c = (m : Int)) (hself : ∀ i, i < m → vv σ 16 (4 * c + i) ≠ (c : Int)) (h0 : vv σ 39 c = 0) (hO : vv σ 40 c = 0) (hq : ∀ σ' : VS, CI σ' → Eo [] [39, 40] σ σ' → (∀ j, j ≠ c → vv σ' 39 j = vv σ 39 j ∧ vv σ' 40 j = vv σ 40 j) → IvA (aC σ c) (vv σ' 39 c) m → IvA (oC σ c) (vv σ' 40 c) m → Q σ') : wp_X6takeInputs Q p1 σ := by
  have m4 : 0 ≤ vv σ 12 c ∧ vv σ 12 c ≤ 4 := hM.2 12 c
  unfold wp_X6takeInputs
  intro X4 H
  have t1 : (p1 * 4).toInt = (c : Int) * 4 := i3_mulc h1 rfl rfl (by omega)
  have L : ∀ (d k : Nat) (l2 : Int32) (τ : VS), m + 1 ≤ d + k → k ≤ m → l2.toInt = 4 * (c : Int) + (k : Int) → CI τ → Eo [] [39, 40] σ τ → (∀ j, j ≠ c → vv τ 39 j = vv σ 39 j ∧ vv τ 40 j = vv σ 40 j) → IvA (aC σ c) (vv τ 39 c) k → IvA (oC σ c) (vv τ 40 c) k → X4 p1 l2 τ := by
    intro d
    induction d with
    | zero => intro k l2 τ a b; omega
    | succ d ih =>
      intro k l2 τ a b e2 hT hE hF hA hB
      refine H p1 l2 τ ?_
      unfold b_X6takeInputs_4
      have r12 : (rd τ 12 p1).toInt = (m : Int) := by rw [vv_rd h1, vv_eo hE (by decide), hm]
      have t2 : (p1 * 4 + rd τ 12 p1).toInt = (c : Int) * 4 + (m : Int) := i3_addc t1 r12 rfl (by omega)
      have r16 : vv σ 16 (4 * c + k) ≤ 49 := (hM.2 16 (4 * c + k)).2
      have e16 : ∀ τ1 : VS, Eo [] [39, 40] σ τ1 → vv τ1 16 = vv σ 16 := fun τ1 h => vv_eo h (by decide)
      refine ⟨⟨by omega, by omega⟩, fun z => ?_, fun z => ?_⟩
      · have ek : k = m := by omega
        rw [ek] at hA hB
        exact hq τ hT hE hF hA hB
      · have ns : 0 ≤ vv σ 16 (4 * c + k) → (vv σ 16 (4 * c + k)).toNat ≠ c := fun q e => hself k (by omega) (by omega)
        have t7 : (l2 + 1).toInt = 4 * (c : Int) + ((k + 1 : Nat) : Int) := by
          have q := i3_addc (x := l2 + 1) e2 (show (1 : Int32).toInt = 1 from rfl) rfl (by omega)
          omega
        have h36 : ∀ τ1 : VS, CI τ1 → Eo [] [39, 40] σ τ1 → (∀ j, j ≠ c → vv τ1 39 j = vv σ 39 j ∧ vv τ1 40 j = vv σ 40 j) → IvA (aC σ c) (vv τ1 39 c) (k + 1) → IvA (oC σ c) (vv τ1 40 c) k → b_X6takeInputs_36 X4 Q p1 l2 τ1 := by
          intro τ1 hT1 hE1 hF1 hA1 hB1
          have ev := e16 τ1 hE1
          unfold b_X6takeInputs_36 b_X6takeInputs_51
          refine cx_inO (w := 4 * c + k) (by omega) (by omega) hT1 (fun q1 q2 => ?_) (fun q => ?_)
          · rw [ev] at q1 q2
            rw [(hF1 _ (ns q1)).2] at q2
            refine ⟨fun z0 => absurd z0 (by decide), fun _ => ⟨⟨by omega, by omega⟩, ?_⟩⟩
            have e40 := vv_sa τ1 40 p1 1 h1
            refine ih (k + 1) (l2 + 1) _ (by omega) (by omega) t7 (hT1.sa 40 p1 1 (i3_bd _)) (hE1.sa 40 p1 1 (by decide)) (fun j hj => ?_) ?_ ?_
            · rw [vv_so (show 39 ≠ 40 by decide), e40, fu_ne hj]; exact hF1 j hj
            · rw [vv_so (show 39 ≠ 40 by decide)]; exact hA1
            · rw [e40, fu_eq]; exact IvA.y ⟨q1, q2⟩
          · rw [ev] at q
            refine ⟨fun _ => ih (k + 1) (l2 + 1) τ1 (by omega) (by omega) t7 hT1 hE1 hF1 hA1 (hB1.n (fun p => q ⟨p.1, ?_⟩)), fun z0 => (z0 rfl).elim⟩
            rw [(hF1 _ (ns p.1)).2]; exact p.2
        have ev := e16 τ hE
        refine cx_inR (w := 4 * c + k) (by omega) (by omega) hT (fun q1 q2 => ?_) (fun q => ?_)
        · rw [ev] at q1 q2
          rw [(hF _ (ns q1)).1] at q2
          refine ⟨fun z0 => absurd z0 (by decide), fun _ => ⟨⟨by omega, by omega⟩, ?_⟩⟩
          have e39 := vv_sa τ 39 p1 1 h1
          refine h36 _ (hT.sa 39 p1 1 (by decide)) (hE.sa 39 p1 1 (by decide)) (fun j hj => ?_) ?_ ?_
          · rw [vv_so (show 40 ≠ 39 by decide), e39, fu_ne hj]; exact hF j hj
          · rw [e39, fu_eq]; exact IvA.y ⟨q1, q2⟩
          · rw [vv_so (show 40 ≠ 39 by decide)]; exact hB
        · rw [ev] at q
          refine ⟨fun _ => h36 τ hT hE hF (hA.n (fun p => q ⟨p.1, ?_⟩)) hB, fun z0 => (z0 rfl).elim⟩
          rw [(hF _ (ns p.1)).1]; exact p.2
  intro x1 e1
  refine L (m + 1) 0 x1 σ (by omega) (by omega) (by rw [e1]; omega) hM Eo.rfl (fun j _ => ⟨rfl, rfl⟩) (Or.inr ⟨h0, fun i hi => by omega⟩) (Or.inr ⟨hO, fun i hi => by omega⟩)
