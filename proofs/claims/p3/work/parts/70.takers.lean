theorem sa_same (σ : VS) (k : Nat) (i v : Int32) (j : Nat) : (sa σ k i v).2.1 k j = if j = i.toNatClampNeg then v else σ.2.1 k j := by
  show (if k = k then upd (σ.2.1 k) i.toNatClampNeg v else σ.2.1 k) j = _
  rw [if_pos rfl]; rfl
theorem sa_other {k2 k : Nat} (h : k2 ≠ k) (σ : VS) (i v : Int32) : (sa σ k i v).2.1 k2 = σ.2.1 k2 := by
  show (if k2 = k then upd (σ.2.1 k) i.toNatClampNeg v else σ.2.1 k2) = _
  rw [if_neg h]
theorem rd_at (σ : VS) (k : Nat) (i : Int32) {n : Nat} (h : i.toInt = (n : Int)) : rd σ k i = σ.2.1 k n := by
  have h1 := i3_nat (i := i) (by omega)
  have h2 : i.toNatClampNeg = n := by omega
  show σ.2.1 k i.toNatClampNeg = _
  rw [h2]
theorem sa_at (σ : VS) (k : Nat) (i v : Int32) {n : Nat} (h : i.toInt = (n : Int)) (j : Nat) : (sa σ k i v).2.1 k j = if j = n then v else σ.2.1 k j := by
  have h1 := i3_nat (i := i) (by omega)
  have h2 : i.toNatClampNeg = n := by omega
  rw [sa_same, h2]
def cnt (src : Nat → Int) (s : Int) : Nat → Nat
  | 0 => 0
  | w + 1 => cnt src s w + (if src w = s then 1 else 0)
def prs (src : Nat → Int) (W : Nat) : Nat → Nat
  | 0 => 0
  | c + 1 => prs src W c + cnt src (c : Int) W
theorem cnt_s (src : Nat → Int) (s : Int) (w : Nat) : cnt src s (w + 1) = cnt src s w + (if src w = s then 1 else 0) := rfl
theorem prs_s (src : Nat → Int) (W c : Nat) : prs src W (c + 1) = prs src W c + cnt src (c : Int) W := rfl
theorem cnt_le (src : Nat → Int) (s : Int) (w : Nat) : cnt src s w ≤ w := by
  induction w with
  | zero => exact Nat.le_refl _
  | succ w ih => rw [cnt_s]; split <;> omega
theorem cnt_lt {src : Nat → Int} {s : Int} {w W : Nat} (h : w < W) (hs : src w = s) : cnt src s w + 1 ≤ cnt src s W := by
  induction W with
  | zero => omega
  | succ W ih =>
    rw [cnt_s]
    by_cases e : w = W
    · subst e; rw [if_pos hs]; exact Nat.le_refl _
    · have := ih (by omega)
      split <;> omega
theorem prs_succ (src : Nat → Int) (W c : Nat) : prs src (W + 1) c = prs src W c + (if 0 ≤ src W ∧ src W < (c : Int) then 1 else 0) := by
  induction c with
  | zero =>
    show 0 = 0 + _
    rw [if_neg (by omega)]
  | succ c ih =>
    rw [prs_s, prs_s, cnt_s, ih]
    by_cases a : src W = (c : Int)
    · rw [if_pos a, if_neg (by omega), if_pos (by omega)]; omega
    · rw [if_neg a]
      by_cases b : 0 ≤ src W ∧ src W < (c : Int)
      · rw [if_pos b, if_pos (by omega)]; omega
      · rw [if_neg b, if_neg (by omega)]; omega
theorem prs_le (src : Nat → Int) (W c : Nat) : prs src W c ≤ W := by
  induction W with
  | zero =>
    have h : ∀ c, prs src 0 c = 0 := by
      intro c
      induction c with
      | zero => rfl
      | succ c ih => rw [prs_s, ih]; rfl
    rw [h]; exact Nat.le_refl _
  | succ W ih => rw [prs_succ]; split <;> omega
theorem prs_mono (src : Nat → Int) (W : Nat) {a b : Nat} (h : a ≤ b) : prs src W a ≤ prs src W b := by
  induction h with
  | refl => exact Nat.le_refl _
  | step _ ih => rw [prs_s]; omega
/-- what the inputs take is a cell that is there -/
def CSrc (σ : VS) : Prop := ∀ w : Nat, (σ.2.1 16 w).toInt < (σ.1 2).toInt
set_option maxHeartbeats 2000000 in
theorem rg_X1listTakers {Q : VS → Prop} {σ : VS} (hM : CI σ) (hC : CSrc σ) (hq : ∀ σ' : VS, CI σ' → Eo [] [17, 18, 20] σ σ' → (∀ s : Nat, s < 50 → 0 ≤ (σ'.2.1 20 s).toInt) → Q σ') : wp_X1listTakers Q σ := by
  unfold wp_X1listTakers
  intro X10 X59 X108 H10 H59 H108
  have hcl : 0 ≤ (σ.1 2).toInt ∧ (σ.1 2).toInt ≤ 50 := hM.1 2
  obtain ⟨n, hn⟩ : ∃ n : Nat, (σ.1 2).toInt = (n : Int) := ⟨(σ.1 2).toInt.toNat, by omega⟩
  obtain ⟨W, hW⟩ : ∃ W : Nat, W = n * 4 := ⟨_, rfl⟩
  have hW4 : ((σ.1 2) * 4).toInt = (W : Int) := by
    have t : ((σ.1 2) * 4).toInt = (σ.1 2).toInt * 4 := i3_mulc rfl rfl rfl (by omega)
    omega
  obtain ⟨src, hsrc⟩ : ∃ f : Nat → Int, f = fun w => (σ.2.1 16 w).toInt := ⟨_, rfl⟩
  have hs1 : ∀ w, src w < (n : Int) := fun w => by rw [hsrc]; have := hC w; show (σ.2.1 16 w).toInt < (n : Int); omega
  have hs2 : ∀ w, (-5) ≤ src w ∧ src w ≤ 49 := fun w => by rw [hsrc]; exact hM.2 16 w
  -- the third loop
  have L3 : ∀ (d : Nat) (l1 : Int32) (σ1 : VS) (w : Nat), l1.toInt = (w : Int) → w ≤ W → W - w < d → CI σ1 → Eo [] [17, 18, 20] σ σ1 → (∀ s : Nat, s < n → (σ1.2.1 20 s).toInt = ((prs src W s + cnt src (s : Int) w : Nat) : Int)) → (∀ s : Nat, n ≤ s → s < 50 → 0 ≤ (σ1.2.1 20 s).toInt) → X108 l1 σ1 := by
    intro d
    induction d with
    | zero => intro l1 σ1 w h1 h2 h3; omega
    | succ d ih =>
      intro l1 σ1 w h1 h2 h3 hM1 hE1 hT hU
      refine H108 l1 σ1 ?_
      unfold b_X1listTakers_108
      rw [hE1.1 2 (by decide), hW4]
      refine ⟨fun _ => hq σ1 hM1 hE1 (fun s hs => ?_), fun hlt => ⟨⟨by omega, by omega⟩, fun x hx => ?_⟩⟩
      · by_cases e : s < n
        · rw [hT s e]; omega
        · exact hU s (by omega) hs
      have hxs : x.toInt = src w := by rw [hx, rd_at σ1 16 l1 h1, hE1.2 16 (by decide), hsrc]
      have t1 : (l1 + 1).toInt = l1.toInt + 1 := i3_addc rfl rfl rfl (by omega)
      refine ⟨fun hneg => ?_, fun hpos => ?_⟩
      · unfold b_X1listTakers_151
        refine ih (l1 + 1) σ1 (w + 1) (by omega) (by omega) (by omega) hM1 hE1 (fun s hs => ?_) hU
        rw [hT s hs, cnt_s, if_neg (by omega)]
        omega
      · have hxn := hs1 w
        obtain ⟨sn, hsn⟩ : ∃ s : Nat, x.toInt = (s : Int) := ⟨x.toInt.toNat, by omega⟩
        have h50 := hs2 w
        have hTs := hT sn (by omega)
        have hlt2 := cnt_lt (src := src) (s := (sn : Int)) (w := w) (W := W) (by omega) (by omega)
        have hp1 := prs_le src W (sn + 1)
        rw [prs_s] at hp1
        have hrd : (rd σ1 20 x).toInt = ((prs src W sn + cnt src (sn : Int) w : Nat) : Int) := by rw [rd_at σ1 20 x hsn]; exact hTs
        have hWn : W ≤ 200 := by omega
        refine ⟨⟨by omega, by omega⟩, ⟨by omega, by omega⟩, ⟨by omega, by omega⟩, ⟨by omega, by omega⟩, ?_⟩
        unfold b_X1listTakers_151
        have hrd2 : rd (sa σ1 17 (rd σ1 20 x) l1) 20 x = rd σ1 20 x := by show (sa σ1 17 (rd σ1 20 x) l1).2.1 20 _ = _; rw [sa_other (by decide)]; rfl
        rw [hrd2]
        have t2 : (rd σ1 20 x + 1).toInt = (rd σ1 20 x).toInt + 1 := i3_addc rfl rfl rfl (by omega)
        refine ih (l1 + 1) _ (w + 1) (by omega) (by omega) (by omega) ((hM1.sa 17 _ _ (show 0 ≤ l1.toInt ∧ l1.toInt ≤ 199 by omega)).sa 20 _ _ (i3_bd _)) ((hE1.sa 17 _ _ (by decide)).sa 20 _ _ (by decide)) (fun s hs => ?_) (fun s k1 k2 => by rw [sa_at _ 20 x _ hsn, if_neg (by omega), sa_other (by decide)]; exact hU s k1 k2)
        rw [sa_at _ 20 x _ hsn, cnt_s]
        by_cases e : s = sn
        · subst e
          rw [if_pos rfl, if_pos (by omega)]
          omega
        · rw [if_neg e, if_neg (by omega), sa_other (by decide), hT s hs]
          omega
  -- the second loop
  have L2 : ∀ (d : Nat) (l1 : Int32) (σ1 : VS) (c : Nat), l1.toInt = (c : Int) → c ≤ n → n - c < d → CI σ1 → Eo [] [17, 18, 20] σ σ1 → (σ1.2.1 18 c).toInt = (prs src W c : Int) → (∀ s : Nat, s < c → (σ1.2.1 20 s).toInt = (prs src W s : Int)) → (∀ s : Nat, c ≤ s → s < 50 → (σ1.2.1 20 s).toInt = (cnt src (s : Int) W : Int)) → X59 l1 σ1 := by
    intro d
    induction d with
    | zero => intro l1 σ1 c h1 h2 h3; omega
    | succ d ih =>
      intro l1 σ1 c h1 h2 h3 hM1 hE1 hF hA hB
      refine H59 l1 σ1 ?_
      unfold b_X1listTakers_59
      rw [hE1.1 2 (by decide), hn]
      have t1 : (l1 + 1).toInt = l1.toInt + 1 ∨ ¬ l1.toInt < (n : Int) := by
        by_cases h : l1.toInt < (n : Int)
        · exact Or.inl (i3_addc rfl rfl rfl (by omega))
        · exact Or.inr h
      refine ⟨fun hge => ?_, fun hlt => ?_⟩
      · refine L3 (W + 1) 0 σ1 0 rfl (by omega) (by omega) hM1 hE1 (fun s hs => ?_) (fun s k1 k2 => by rw [hB s (by omega) k2]; omega)
        rw [hA s (by omega)]
        show _ = ((prs src W s + 0 : Nat) : Int)
        omega
      · have t2 : (l1 + 1).toInt = ((c + 1 : Nat) : Int) := by omega
        have hp1 := prs_le src W (c + 1)
        have hp0 := prs_le src W c
        have hct := cnt_le src (c : Int) W
        have hB1 := hB c (by omega) (by omega)
        have hr1 : (rd σ1 18 l1).toInt = (prs src W c : Int) := by rw [rd_at σ1 18 l1 h1]; exact hF
        have hr2 : (rd σ1 20 l1).toInt = (cnt src (c : Int) W : Int) := by rw [rd_at σ1 20 l1 h1]; exact hB1
        rw [prs_s] at hp1
        have t3 : (rd σ1 18 l1 + rd σ1 20 l1).toInt = (rd σ1 18 l1).toInt + (rd σ1 20 l1).toInt := i3_addc rfl rfl rfl (by omega)
        refine ⟨⟨by omega, by omega⟩, ⟨by omega, by omega⟩, ⟨by omega, by omega⟩, ⟨by omega, by omega⟩, ⟨by omega, by omega⟩, ?_⟩
        have hrd3 : (rd (sa σ1 18 (l1 + 1) (rd σ1 18 l1 + rd σ1 20 l1)) 18 l1) = rd σ1 18 l1 := by
          rw [rd_at _ 18 l1 h1, rd_at σ1 18 l1 h1, sa_at _ 18 _ _ t2, if_neg (by omega)]
        rw [hrd3]
        refine ih (l1 + 1) _ (c + 1) t2 (by omega) (by omega) ((hM1.sa 18 _ _ (show 0 ≤ (rd σ1 18 l1 + rd σ1 20 l1).toInt ∧ (rd σ1 18 l1 + rd σ1 20 l1).toInt ≤ 200 by omega)).sa 20 _ _ (i3_bd _)) ((hE1.sa 18 _ _ (by decide)).sa 20 _ _ (by decide)) ?_ (fun s hs => ?_) (fun s hs1 hs2 => ?_)
        · rw [sa_other (by decide), sa_at _ 18 _ _ t2, if_pos rfl, prs_s]
          omega
        · rw [sa_at _ 20 l1 _ h1]
          by_cases e : s = c
          · rw [if_pos e, e]; exact hr1
          · rw [if_neg e, sa_other (by decide)]; exact hA s (by omega)
        · rw [sa_at _ 20 l1 _ h1, if_neg (by omega), sa_other (by decide)]
          exact hB s (by omega) hs2
  -- the first loop
  have L1 : ∀ (d : Nat) (l1 : Int32) (σ1 : VS) (w : Nat), l1.toInt = (w : Int) → w ≤ W → W - w < d → CI σ1 → Eo [] [17, 18, 20] σ σ1 → (∀ s : Nat, s < 50 → (σ1.2.1 20 s).toInt = (cnt src (s : Int) w : Int)) → X10 l1 σ1 := by
    intro d
    induction d with
    | zero => intro l1 σ1 w h1 h2 h3; omega
    | succ d ih =>
      intro l1 σ1 w h1 h2 h3 hM1 hE1 hT
      refine H10 l1 σ1 ?_
      unfold b_X1listTakers_10
      rw [hE1.1 2 (by decide), hW4]
      refine ⟨fun hge => ?_, fun hlt => ⟨⟨by omega, by omega⟩, ?_⟩⟩
      · have hw : w = W := by omega
        subst hw
        refine L2 (n + 1) 0 _ 0 rfl (by omega) (by omega) (hM1.sa 18 _ _ (show 0 ≤ (0 : Int32).toInt ∧ (0 : Int32).toInt ≤ 200 by decide)) (hE1.sa 18 _ _ (by decide)) ?_ (fun s hs => by omega) (fun s _ hs => ?_)
        · rw [sa_at _ 18 0 0 (n := 0) rfl, if_pos rfl]
          rfl
        · rw [sa_other (by decide)]; exact hT s hs
      · have hxs : (rd σ1 16 l1).toInt = src w := by rw [rd_at σ1 16 l1 h1, hE1.2 16 (by decide), hsrc]
        have t1 : (l1 + 1).toInt = l1.toInt + 1 := i3_addc rfl rfl rfl (by omega)
        have h50 := hs2 w
        refine ⟨fun hneg => ?_, fun hpos => ?_⟩
        · unfold b_X1listTakers_44
          refine ih (l1 + 1) σ1 (w + 1) (by omega) (by omega) (by omega) hM1 hE1 (fun s hs => ?_)
          rw [hT s hs, cnt_s, if_neg (by omega)]
          omega
        · obtain ⟨sn, hsn⟩ : ∃ s : Nat, (rd σ1 16 l1).toInt = (s : Int) := ⟨(rd σ1 16 l1).toInt.toNat, by omega⟩
          refine ⟨⟨by omega, by omega⟩, ⟨by omega, by omega⟩, ⟨by omega, by omega⟩, ?_⟩
          unfold b_X1listTakers_44
          have hr : (rd σ1 20 (rd σ1 16 l1)).toInt = (cnt src (sn : Int) w : Int) := by rw [rd_at σ1 20 _ hsn]; exact hT sn (by omega)
          have hcl2 := cnt_le src (sn : Int) w
          have t2 : (rd σ1 20 (rd σ1 16 l1) + 1).toInt = (rd σ1 20 (rd σ1 16 l1)).toInt + 1 := i3_addc rfl rfl rfl (by omega)
          refine ih (l1 + 1) _ (w + 1) (by omega) (by omega) (by omega) (hM1.sa 20 _ _ (i3_bd _)) (hE1.sa 20 _ _ (by decide)) (fun s hs => ?_)
          rw [sa_at _ 20 _ _ hsn, cnt_s]
          by_cases e : s = sn
          · subst e
            rw [if_pos rfl, if_pos (by omega)]
            omega
          · rw [if_neg e, if_neg (by omega), hT s hs]
            omega
  refine L1 (W + 1) 0 _ 0 rfl (by omega) (by omega) (hM.sfl 20 0 (i3_bd _)) (Eo.rfl.sfl 20 0 (by decide)) (fun s hs => ?_)
  show ((if (20 : Nat) = 20 then (fun _ => (0 : Int32)) else σ.2.1 20) s).toInt = 0
  rw [if_pos rfl]; rfl

