def srcf (σ : VS) : Nat → Int := fun w => (σ.2.1 16 w).toInt
/-- where wire w stands among the takers -/
def plc (src : Nat → Int) (W w : Nat) : Nat := prs src W (src w).toNat + cnt src (src w) w
theorem cnt_mono (src : Nat → Int) (s : Int) {a b : Nat} (h : a ≤ b) : cnt src s a ≤ cnt src s b := by
  induction h with
  | refl => exact Nat.le_refl _
  | step _ ih => rw [cnt_s]; omega
theorem plc_lt {src : Nat → Int} {W w : Nat} (hw : w < W) (h0 : 0 ≤ src w) : prs src W (src w).toNat ≤ plc src W w ∧ plc src W w < prs src W ((src w).toNat + 1) := by
  have h1 := cnt_lt (src := src) (s := src w) (w := w) (W := W) hw rfl
  rw [prs_s]
  have e : (((src w).toNat : Nat) : Int) = src w := by omega
  rw [e]
  unfold plc
  omega
theorem plc_inj {src : Nat → Int} {W a b : Nat} (ha : a < W) (hb : b < W) (h0 : 0 ≤ src a) (h1 : 0 ≤ src b) (he : plc src W a = plc src W b) : a = b := by
  have la := plc_lt ha h0
  have lb := plc_lt hb h1
  by_cases c : (src a).toNat = (src b).toNat
  · have e : src a = src b := by omega
    unfold plc at he
    rw [e] at he
    by_cases d : a = b
    · exact d
    · by_cases f : a < b
      · have := cnt_lt (src := src) (s := src b) (w := a) (W := b) f e
        omega
      · have := cnt_lt (src := src) (s := src b) (w := b) (W := a) (by omega) rfl
        omega
  · by_cases f : (src a).toNat < (src b).toNat
    · have := prs_mono src W (show (src a).toNat + 1 ≤ (src b).toNat by omega)
      omega
    · have := prs_mono src W (show (src b).toNat + 1 ≤ (src a).toNat by omega)
      omega
/-- the takers, listed -/
def TkL (σ : VS) : Prop := ∀ n : Nat, (σ.1 2).toInt = (n : Int) → (∀ c : Nat, c ≤ n → (σ.2.1 18 c).toInt = (prs (srcf σ) (n * 4) c : Int)) ∧ ∀ w : Nat, w < n * 4 → 0 ≤ srcf σ w → (σ.2.1 17 (plc (srcf σ) (n * 4) w)).toInt = (w : Int)
set_option maxHeartbeats 2000000 in
theorem cx_listTakers {Q : VS → Prop} {σ : VS} (hM : CI σ) (hC : CSrc σ) (hq : ∀ σ' : VS, CI σ' → Eo [] [17, 18, 20] σ σ' → (∀ s : Nat, s < 50 → 0 ≤ (σ'.2.1 20 s).toInt) → TkL σ' → Q σ') : wp_X1listTakers Q σ := by
  unfold wp_X1listTakers
  intro X10 X59 X108 H10 H59 H108
  have hcl : 0 ≤ (σ.1 2).toInt ∧ (σ.1 2).toInt ≤ 50 := hM.1 2
  obtain ⟨n, hn⟩ : ∃ n : Nat, (σ.1 2).toInt = (n : Int) := ⟨(σ.1 2).toInt.toNat, by omega⟩
  obtain ⟨W, hW⟩ : ∃ W : Nat, W = n * 4 := ⟨_, rfl⟩
  have hW4 : ((σ.1 2) * 4).toInt = (W : Int) := by
    have t : ((σ.1 2) * 4).toInt = (σ.1 2).toInt * 4 := i3_mulc rfl rfl rfl (by omega)
    omega
  obtain ⟨src, hsrc⟩ : ∃ f : Nat → Int, f = fun w => (σ.2.1 16 w).toInt := ⟨_, rfl⟩
  have hs1 : ∀ w, src w < (n : Int) := fun w => by rw [hsrc]; have := hC w; show (σ.2.1 16 w).toInt < (n : Int); omega
  have hs2 : ∀ w, (-5) ≤ src w ∧ src w ≤ 49 := fun w => by rw [hsrc]; exact hM.2 16 w
  -- the third loop
  have L3 : ∀ (d : Nat) (l1 : Int32) (σ1 : VS) (w : Nat), l1.toInt = (w : Int) → w ≤ W → W - w < d → CI σ1 → Eo [] [17, 18, 20] σ σ1 → (∀ s : Nat, s < n → (σ1.2.1 20 s).toInt = ((prs src W s + cnt src (s : Int) w : Nat) : Int)) → (∀ s : Nat, n ≤ s → s < 50 → 0 ≤ (σ1.2.1 20 s).toInt) → (∀ c : Nat, c ≤ n → (σ1.2.1 18 c).toInt = (prs src W c : Int)) → (∀ v : Nat, v < w → 0 ≤ src v → (σ1.2.1 17 (plc src W v)).toInt = (v : Int)) → X108 l1 σ1 := by
    intro d
    induction d with
    | zero => intro l1 σ1 w h1 h2 h3; omega
    | succ d ih =>
      intro l1 σ1 w h1 h2 h3 hM1 hE1 hT hU hF hG
      refine H108 l1 σ1 ?_
      unfold b_X1listTakers_108
      rw [hE1.1 2 (by decide), hW4]
      refine ⟨fun hge => hq σ1 hM1 hE1 (fun s hs => ?_) ?_, fun hlt => ⟨⟨by omega, by omega⟩, fun x hx => ?_⟩⟩
      · by_cases e : s < n
        · rw [hT s e]; omega
        · exact hU s (by omega) hs
      · have esr : srcf σ1 = src := by unfold srcf; rw [hE1.2 16 (by decide), hsrc]
        intro n' hn'
        rw [hE1.1 2 (by decide), hn] at hn'
        have en : n' = n := by omega
        subst en
        rw [esr, ← hW]
        exact ⟨hF, fun v hv h0 => hG v (by omega) h0⟩
      have hxs : x.toInt = src w := by rw [hx, rd_at σ1 16 l1 h1, hE1.2 16 (by decide), hsrc]
      have t1 : (l1 + 1).toInt = l1.toInt + 1 := i3_addc rfl rfl rfl (by omega)
      refine ⟨fun hneg => ?_, fun hpos => ?_⟩
      · unfold b_X1listTakers_151
        refine ih (l1 + 1) σ1 (w + 1) (by omega) (by omega) (by omega) hM1 hE1 (fun s hs => ?_) hU hF (fun v hv h0 => hG v (Nat.lt_of_le_of_ne (by omega) (fun e => by rw [e] at h0; omega)) h0)
        rw [hT s hs, cnt_s, if_neg (by omega)]
        omega
      · have hxn := hs1 w
        obtain ⟨sn, hsn⟩ : ∃ s : Nat, x.toInt = (s : Int) := ⟨x.toInt.toNat, by omega⟩
        have h50 := hs2 w
        have hTs := hT sn (by omega)
        have hlt2 := cnt_lt (src := src) (s := (sn : Int)) (w := w) (W := W) (by omega) (by omega)
        have hp1 := prs_le src W (sn + 1)
        rw [prs_s] at hp1
        have hrd : (rd σ1 20 x).toInt = ((prs src W sn + cnt src (sn : Int) w : Nat) : Int) := by rw [rd_at σ1 20 x hsn]; exact hTs
        have hWn : W ≤ 200 := by omega
        refine ⟨⟨by omega, by omega⟩, ⟨by omega, by omega⟩, ⟨by omega, by omega⟩, ⟨by omega, by omega⟩, ?_⟩
        unfold b_X1listTakers_151
        have hrd2 : rd (sa σ1 17 (rd σ1 20 x) l1) 20 x = rd σ1 20 x := by show (sa σ1 17 (rd σ1 20 x) l1).2.1 20 _ = _; rw [sa_other (by decide)]; rfl
        rw [hrd2]
        have t2 : (rd σ1 20 x + 1).toInt = (rd σ1 20 x).toInt + 1 := i3_addc rfl rfl rfl (by omega)
        refine ih (l1 + 1) _ (w + 1) (by omega) (by omega) (by omega) ((hM1.sa 17 _ _ (show 0 ≤ l1.toInt ∧ l1.toInt ≤ 199 by omega)).sa 20 _ _ (i3_bd _)) ((hE1.sa 17 _ _ (by decide)).sa 20 _ _ (by decide)) (fun s hs => ?_) (fun s k1 k2 => by rw [sa_at _ 20 x _ hsn, if_neg (by omega), sa_other (by decide)]; exact hU s k1 k2) (fun c hc => by rw [sa_other (by decide), sa_other (by decide)]; exact hF c hc) (fun v hv h0 => ?_)
        rw [sa_at _ 20 x _ hsn, cnt_s]
        by_cases e : s = sn
        · subst e
          rw [if_pos rfl, if_pos (by omega)]
          omega
        · rw [if_neg e, if_neg (by omega), sa_other (by decide), hT s hs]
          omega
        rw [sa_other (by decide)]
        obtain ⟨q, hq17⟩ : ∃ q : Nat, q = plc src W w := ⟨_, rfl⟩
        have hsw : src w = (sn : Int) := by omega
        have hq2 : (rd σ1 20 x).toInt = (q : Int) := by
          rw [hrd, hq17]; unfold plc; rw [hsw]; simp
        rw [sa_at σ1 17 _ _ hq2]
        by_cases e : v = w
        · rw [if_pos (by rw [e, hq17]), e]; exact h1
        · rw [if_neg (fun k => e (plc_inj (src := src) (W := W) (by omega) (by omega) h0 (by omega) (by rw [k, hq17])))]
          exact hG v (by omega) h0
  -- the second loop
  have L2 : ∀ (d : Nat) (l1 : Int32) (σ1 : VS) (c : Nat), l1.toInt = (c : Int) → c ≤ n → n - c < d → CI σ1 → Eo [] [17, 18, 20] σ σ1 → (∀ c' : Nat, c' ≤ c → (σ1.2.1 18 c').toInt = (prs src W c' : Int)) → (∀ s : Nat, s < c → (σ1.2.1 20 s).toInt = (prs src W s : Int)) → (∀ s : Nat, c ≤ s → s < 50 → (σ1.2.1 20 s).toInt = (cnt src (s : Int) W : Int)) → X59 l1 σ1 := by
    intro d
    induction d with
    | zero => intro l1 σ1 c h1 h2 h3; omega
    | succ d ih =>
      intro l1 σ1 c h1 h2 h3 hM1 hE1 hF hA hB
      refine H59 l1 σ1 ?_
      unfold b_X1listTakers_59
      rw [hE1.1 2 (by decide), hn]
      have t1 : (l1 + 1).toInt = l1.toInt + 1 ∨ ¬ l1.toInt < (n : Int) := by
        by_cases h : l1.toInt < (n : Int)
        · exact Or.inl (i3_addc rfl rfl rfl (by omega))
        · exact Or.inr h
      refine ⟨fun hge => ?_, fun hlt => ?_⟩
      · refine L3 (W + 1) 0 σ1 0 rfl (by omega) (by omega) hM1 hE1 (fun s hs => ?_) (fun s k1 k2 => by rw [hB s (by omega) k2]; omega) (fun c' hc' => hF c' (by omega)) (fun v hv => by omega)
        rw [hA s (by omega)]
        show _ = ((prs src W s + 0 : Nat) : Int)
        omega
      · have t2 : (l1 + 1).toInt = ((c + 1 : Nat) : Int) := by omega
        have hp1 := prs_le src W (c + 1)
        have hp0 := prs_le src W c
        have hct := cnt_le src (c : Int) W
        have hB1 := hB c (by omega) (by omega)
        have hr1 : (rd σ1 18 l1).toInt = (prs src W c : Int) := by rw [rd_at σ1 18 l1 h1]; exact hF c (by omega)
        have hr2 : (rd σ1 20 l1).toInt = (cnt src (c : Int) W : Int) := by rw [rd_at σ1 20 l1 h1]; exact hB1
        rw [prs_s] at hp1
        have t3 : (rd σ1 18 l1 + rd σ1 20 l1).toInt = (rd σ1 18 l1).toInt + (rd σ1 20 l1).toInt := i3_addc rfl rfl rfl (by omega)
        refine ⟨⟨by omega, by omega⟩, ⟨by omega, by omega⟩, ⟨by omega, by omega⟩, ⟨by omega, by omega⟩, ⟨by omega, by omega⟩, ?_⟩
        have hrd3 : (rd (sa σ1 18 (l1 + 1) (rd σ1 18 l1 + rd σ1 20 l1)) 18 l1) = rd σ1 18 l1 := by
          rw [rd_at _ 18 l1 h1, rd_at σ1 18 l1 h1, sa_at _ 18 _ _ t2, if_neg (by omega)]
        rw [hrd3]
        refine ih (l1 + 1) _ (c + 1) t2 (by omega) (by omega) ((hM1.sa 18 _ _ (show 0 ≤ (rd σ1 18 l1 + rd σ1 20 l1).toInt ∧ (rd σ1 18 l1 + rd σ1 20 l1).toInt ≤ 200 by omega)).sa 20 _ _ (i3_bd _)) ((hE1.sa 18 _ _ (by decide)).sa 20 _ _ (by decide)) (fun c' hc' => ?_) (fun s hs => ?_) (fun s hs1 hs2 => ?_)
        · rw [sa_other (by decide), sa_at _ 18 _ _ t2]
          by_cases e : c' = c + 1
          · rw [if_pos e, e, prs_s]; omega
          · rw [if_neg e]; exact hF c' (by omega)
        · rw [sa_at _ 20 l1 _ h1]
          by_cases e : s = c
          · rw [if_pos e, e]; exact hr1
          · rw [if_neg e, sa_other (by decide)]; exact hA s (by omega)
        · rw [sa_at _ 20 l1 _ h1, if_neg (by omega), sa_other (by decide)]
          exact hB s (by omega) hs2
  -- the first loop
  have L1 : ∀ (d : Nat) (l1 : Int32) (σ1 : VS) (w : Nat), l1.toInt = (w : Int) → w ≤ W → W - w < d → CI σ1 → Eo [] [17, 18, 20] σ σ1 → (∀ s : Nat, s < 50 → (σ1.2.1 20 s).toInt = (cnt src (s : Int) w : Int)) → X10 l1 σ1 := by
    intro d
    induction d with
    | zero => intro l1 σ1 w h1 h2 h3; omega
    | succ d ih =>
      intro l1 σ1 w h1 h2 h3 hM1 hE1 hT
      refine H10 l1 σ1 ?_
      unfold b_X1listTakers_10
      rw [hE1.1 2 (by decide), hW4]
      refine ⟨fun hge => ?_, fun hlt => ⟨⟨by omega, by omega⟩, ?_⟩⟩
      · have hw : w = W := by omega
        subst hw
        refine L2 (n + 1) 0 _ 0 rfl (by omega) (by omega) (hM1.sa 18 _ _ (show 0 ≤ (0 : Int32).toInt ∧ (0 : Int32).toInt ≤ 200 by decide)) (hE1.sa 18 _ _ (by decide)) (fun c' hc' => ?_) (fun s hs => by omega) (fun s _ hs => ?_)
        · have e : c' = 0 := by omega
          rw [e, sa_at _ 18 0 0 (n := 0) rfl, if_pos rfl]
          rfl
        · rw [sa_other (by decide)]; exact hT s hs
      · have hxs : (rd σ1 16 l1).toInt = src w := by rw [rd_at σ1 16 l1 h1, hE1.2 16 (by decide), hsrc]
        have t1 : (l1 + 1).toInt = l1.toInt + 1 := i3_addc rfl rfl rfl (by omega)
        have h50 := hs2 w
        refine ⟨fun hneg => ?_, fun hpos => ?_⟩
        · unfold b_X1listTakers_44
          refine ih (l1 + 1) σ1 (w + 1) (by omega) (by omega) (by omega) hM1 hE1 (fun s hs => ?_)
          rw [hT s hs, cnt_s, if_neg (by omega)]
          omega
        · obtain ⟨sn, hsn⟩ : ∃ s : Nat, (rd σ1 16 l1).toInt = (s : Int) := ⟨(rd σ1 16 l1).toInt.toNat, by omega⟩
          refine ⟨⟨by omega, by omega⟩, ⟨by omega, by omega⟩, ⟨by omega, by omega⟩, ?_⟩
          unfold b_X1listTakers_44
          have hr : (rd σ1 20 (rd σ1 16 l1)).toInt = (cnt src (sn : Int) w : Int) := by rw [rd_at σ1 20 _ hsn]; exact hT sn (by omega)
          have hcl2 := cnt_le src (sn : Int) w
          have t2 : (rd σ1 20 (rd σ1 16 l1) + 1).toInt = (rd σ1 20 (rd σ1 16 l1)).toInt + 1 := i3_addc rfl rfl rfl (by omega)
          refine ih (l1 + 1) _ (w + 1) (by omega) (by omega) (by omega) (hM1.sa 20 _ _ (i3_bd _)) (hE1.sa 20 _ _ (by decide)) (fun s hs => ?_)
          rw [sa_at _ 20 _ _ hsn, cnt_s]
          by_cases e : s = sn
          · subst e
            rw [if_pos rfl, if_pos (by omega)]
            omega
          · rw [if_neg e, if_neg (by omega), hT s hs]
            omega
  refine L1 (W + 1) 0 _ 0 rfl (by omega) (by omega) (hM.sfl 20 0 (i3_bd _)) (Eo.rfl.sfl 20 0 (by decide)) (fun s hs => ?_)
  show ((if (20 : Nat) = 20 then (fun _ => (0 : Int32)) else σ.2.1 20) s).toInt = 0
  rw [if_pos rfl]; rfl
def gtC (σ : VS) (c : Nat) : Prop := 0 < (σ.2.1 11 c).toInt ∧ (σ.2.1 11 c).toInt < 4
/-- wire w takes a gate -/
def Gw (σ : VS) (w : Nat) : Prop := 0 ≤ srcf σ w ∧ gtC σ (srcf σ w).toNat
/-- only inputs that are there take something -/
def WR (σ : VS) : Prop := ∀ w : Nat, 0 ≤ srcf σ w → (w : Int) < 4 * (σ.1 2).toInt ∧ ((w % 4 : Nat) : Int) < (σ.2.1 12 (w / 4)).toInt
def AcyC (σ : VS) : Prop := ∃ ρ : Nat → Nat, ∀ w : Nat, Gw σ w → gtC σ (w / 4) → ρ (srcf σ w).toNat < ρ (w / 4)
noncomputable def cN (C : Nat → Prop) (a : Nat) : Nat → Nat
  | 0 => 0
  | k + 1 => cN C a k + @ite Nat (C (a + k)) (Classical.propDecidable (C (a + k))) 1 0
theorem cN_s (C : Nat → Prop) (a k : Nat) : cN C a (k + 1) = cN C a k + @ite Nat (C (a + k)) (Classical.propDecidable (C (a + k))) 1 0 := rfl
theorem cN_le (C : Nat → Prop) (a k : Nat) : cN C a k ≤ k := by
  induction k with
  | zero => exact Nat.le_refl _
  | succ k ih => rw [cN_s]; split <;> omega
theorem cN_same {C C' : Nat → Prop} {a : Nat} : ∀ (k : Nat), (∀ i, i < k → (C (a + i) ↔ C' (a + i))) → cN C a k = cN C' a k
  | 0, _ => rfl
  | k + 1, h => by
    rw [cN_s, cN_s, cN_same k (fun i hi => h i (by omega))]
    by_cases c : C (a + k)
    · rw [if_pos c, if_pos ((h k (by omega)).mp c)]
    · rw [if_neg c, if_neg (fun z => c ((h k (by omega)).mpr z))]
theorem cN_zero {C : Nat → Prop} {a : Nat} : ∀ (k : Nat), cN C a k = 0 ↔ ∀ i, i < k → ¬ C (a + i)
  | 0 => ⟨fun _ i hi => by omega, fun _ => rfl⟩
  | k + 1 => by
    rw [cN_s]
    have ih := cN_zero (C := C) (a := a) k
    by_cases c : C (a + k)
    · rw [if_pos c]
      exact ⟨fun h => by omega, fun h => absurd c (h k (by omega))⟩
    · rw [if_neg c, Nat.add_zero, ih]
      refine ⟨fun h i hi => ?_, fun h i hi => h i (by omega)⟩
      by_cases e : i = k
      · rw [e]; exact c
      · exact h i (by omega)
theorem cN_take {C C' : Nat → Prop} {a w0 : Nat} (hw : C w0) (h : ∀ w, C' w ↔ C w ∧ w ≠ w0) : ∀ (k : Nat), a ≤ w0 → w0 < a + k → cN C a k = cN C' a k + 1
  | 0, _, _ => by omega
  | k + 1, h1, h2 => by
    rw [cN_s, cN_s]
    by_cases e : w0 = a + k
    · rw [← e, if_pos hw, if_neg (fun z => ((h w0).mp z).2 rfl), cN_same k (C := C) (C' := C') (fun i hi => (by rw [h]; exact ⟨fun z => ⟨z, by omega⟩, fun z => z.1⟩))]
    · have ih := cN_take hw h k h1 (by omega)
      have e2 : C' (a + k) ↔ C (a + k) := (h _).trans ⟨fun z => z.1, fun z => ⟨z, fun z2 => e z2.symm⟩⟩
      by_cases c : C (a + k)
      · rw [if_pos c, if_pos (e2.mpr c)]; omega
      · rw [if_neg c, if_neg (fun z => c (e2.mp z))]; omega
theorem cN_more {C : Nat → Prop} {a : Nat} {k m : Nat} (hm : k ≤ m) (h : ∀ i, k ≤ i → i < m → ¬ C (a + i)) : cN C a m = cN C a k := by
  induction hm with
  | refl => rfl
  | @step m hk ih => rw [cN_s, ih (fun i h1 h2 => h i h1 (by omega)), if_neg (h m hk (by omega))]; rfl
theorem xisGate_x {Q : Int32 → VS → Prop} {p1 : Int32} {c : Nat} {σ : VS} (hc : p1.toInt = (c : Int)) (h50 : c < 50) (h1 : gtC σ c → Q 1 σ) (h0 : ¬ gtC σ c → Q 0 σ) : wp_X1isGate Q p1 σ := by
  unfold gtC at h1 h0
  unfold wp_X1isGate
  rw [rd_at σ 11 p1 hc]
  exact ⟨⟨by omega, by omega⟩, xgate_x (fun h => ⟨⟨by decide, by decide⟩, h1 h⟩) (fun h => ⟨⟨by decide, by decide⟩, h0 h⟩)⟩
theorem gates_x {Q : Int32 → VS → Prop} {p1 : Int32} {c : Nat} {σ : VS} (hc : p1.toInt = (c : Int)) (h50 : c < 50) (hcl : 0 ≤ (σ.1 2).toInt ∧ (σ.1 2).toInt ≤ 50) (hin : ∀ j, 0 ≤ (σ.2.1 12 j).toInt ∧ (σ.2.1 12 j).toInt ≤ 4) (hR : WR σ) (hC : CSrc σ) (hq : ∀ r : Int32, r.toInt = (cN (Gw σ) (4 * c) 4 : Int) → Q r σ) : wp_X1gatesTakenBy Q p1 σ := by
  unfold wp_X1gatesTakenBy
  intro X6 H x1 e1
  have t1 : x1.toInt = p1.toInt * 4 := i3_mulc rfl rfl e1 (by omega)
  have a1 : 0 ≤ (rd σ 12 p1).toInt ∧ (rd σ 12 p1).toInt ≤ 4 := hin _
  obtain ⟨k, hk⟩ : ∃ k : Nat, (rd σ 12 p1).toInt = (k : Int) := ⟨(rd σ 12 p1).toInt.toNat, by omega⟩
  have hk2 : (σ.2.1 12 c).toInt = (k : Int) := by rw [← rd_at σ 12 p1 hc]; exact hk
  have t2 : (p1 * 4).toInt = p1.toInt * 4 := i3_mulc rfl rfl rfl (by omega)
  have t3 : ((p1 * 4) + rd σ 12 p1).toInt = (p1 * 4).toInt + (rd σ 12 p1).toInt := i3_addc rfl rfl rfl (by omega)
  have hend : cN (Gw σ) (4 * c) 4 = cN (Gw σ) (4 * c) k := cN_more (by omega) (fun i h1 h2 hg => by
    have := (hR _ hg.1).2
    have e1 : (4 * c + i) % 4 = i := by omega
    have e2 : (4 * c + i) / 4 = c := by omega
    rw [e1, e2] at this
    omega)
  have L : ∀ (d : Nat) (l2 l3 : Int32) (i : Nat), k - i < d → i ≤ k → l3.toInt = ((4 * c + i : Nat) : Int) → l2.toInt = (cN (Gw σ) (4 * c) i : Int) → X6 p1 l2 l3 σ := by
    intro d
    induction d with
    | zero => intro l2 l3 i h; omega
    | succ d ih =>
      intro l2 l3 i hd hi h3 h2
      refine H p1 l2 l3 σ ?_
      unfold b_X1gatesTakenBy_6 b_X1gatesTakenBy_45
      have hle := cN_le (Gw σ) (4 * c) i
      refine ⟨⟨by omega, by omega⟩, fun hge => hq l2 (by rw [hend, h2]; have : i = k := by omega
                                                         rw [this]), fun hlt => ⟨⟨by omega, by omega⟩, ?_⟩⟩
      have t4 : (l3 + 1).toInt = ((4 * c + (i + 1) : Nat) : Int) := by
        have := i3_addc (x := l3 + 1) h3 (show (1 : Int32).toInt = 1 from rfl) rfl (by omega)
        omega
      have t5 : (l2 + 1).toInt = l2.toInt + 1 := i3_addc rfl rfl rfl (by have e9 : (1 : Int32).toInt = 1 := rfl; omega)
      have hs : (rd σ 16 l3).toInt = srcf σ (4 * c + i) := by rw [rd_at σ 16 l3 h3]; rfl
      have hlt2 : srcf σ (4 * c + i) < (σ.1 2).toInt := hC _
      refine ⟨fun hn => ih l2 (l3 + 1) (i + 1) (by omega) (by omega) t4 ?_, fun hp => ⟨⟨by omega, by omega⟩, ?_⟩⟩
      · rw [cN_s, if_neg (fun z : Gw σ (4 * c + i) => by have := z.1; omega)]; omega
      · refine xisGate_x (c := (srcf σ (4 * c + i)).toNat) (by omega) (by omega) (fun g => ⟨fun z => absurd z (by decide), fun _ => ih (l2 + 1) (l3 + 1) (i + 1) (by omega) (by omega) t4 ?_⟩) (fun g => ⟨fun _ => ih l2 (l3 + 1) (i + 1) (by omega) (by omega) t4 ?_, fun z => absurd rfl z⟩)
        · rw [cN_s, if_pos (show Gw σ (4 * c + i) from ⟨by omega, g⟩)]; omega
        · rw [cN_s, if_neg (fun z : Gw σ (4 * c + i) => g z.2)]; omega
  exact L (k + 1) 0 x1 0 (by omega) (by omega) (by omega) rfl
theorem cnt_hit (src : Nat → Int) (s : Int) : ∀ (W k : Nat), k < cnt src s W → ∃ w, w < W ∧ src w = s ∧ cnt src s w = k
  | 0, k, h => absurd h (by simp [cnt])
  | W + 1, k, h => by
    rw [cnt_s] at h
    by_cases e : k < cnt src s W
    · obtain ⟨w, a, b, c⟩ := cnt_hit src s W k e
      exact ⟨w, by omega, b, c⟩
    · by_cases e2 : src W = s
      · rw [if_pos e2] at h
        exact ⟨W, by omega, e2, by omega⟩
      · rw [if_neg e2] at h; omega
theorem plc_hit {src : Nat → Int} {W : Nat} {s q : Nat} (h1 : prs src W s ≤ q) (h2 : q < prs src W (s + 1)) : ∃ w, w < W ∧ src w = (s : Int) ∧ plc src W w = q := by
  rw [prs_s] at h2
  obtain ⟨w, a, b, c⟩ := cnt_hit src (s : Int) W (q - prs src W s) (by omega)
  refine ⟨w, a, b, ?_⟩
  unfold plc
  rw [b]
  have : ((s : Int)).toNat = s := by omega
  rw [this]
  omega
/-- the gates in order: each there once, each behind those that it takes -/
def TO (σ : VS) : Prop := (∀ i : Nat, (i : Int) < (σ.1 3).toInt → ∃ c : Nat, (σ.2.1 19 i).toInt = (c : Int) ∧ (c : Int) < (σ.1 2).toInt ∧ gtC σ c) ∧ (∀ i j : Nat, (i : Int) < (σ.1 3).toInt → (j : Int) < (σ.1 3).toInt → (σ.2.1 19 i).toInt = (σ.2.1 19 j).toInt → i = j) ∧ (∀ c : Nat, (c : Int) < (σ.1 2).toInt → gtC σ c → ∃ i : Nat, (i : Int) < (σ.1 3).toInt ∧ (σ.2.1 19 i).toInt = (c : Int)) ∧ ∀ i w : Nat, (i : Int) < (σ.1 3).toInt → ((w / 4 : Nat) : Int) = (σ.2.1 19 i).toInt → Gw σ w → ∃ i' : Nat, i' < i ∧ (σ.2.1 19 i').toInt = srcf σ w
def KI (σ : VS) (b m : Nat) (o tl : Nat → Int) (P : Nat → Prop) : Prop :=
  (∀ i, i < m → ∃ c : Nat, o i = (c : Int) ∧ c < b ∧ gtC σ c ∧ tl c = 0) ∧ (∀ i j, i < m → j < m → o i = o j → i = j) ∧ (∀ c, c < b → tl c = (cN (fun w => Gw σ w ∧ ¬ P w) (4 * c) 4 : Int)) ∧ (∀ c, c < b → gtC σ c → tl c = 0 → ∃ i, i < m ∧ o i = (c : Int)) ∧ (∀ i w : Nat, i < m → ((w / 4 : Nat) : Int) = o i → Gw σ w → ∃ i', i' < i ∧ o i' = srcf σ w)
theorem KI.push {σ : VS} {b m t : Nat} {o tl : Nat → Int} {P : Nat → Prop} (h1 : ∀ i, i < m → ∃ c : Nat, o i = (c : Int) ∧ c < b ∧ gtC σ c ∧ tl c = 0) (h2 : ∀ i j, i < m → j < m → o i = o j → i = j) (h3 : ∀ c, c < b → tl c = (cN (fun w => Gw σ w ∧ ¬ P w) (4 * c) 4 : Int)) (h4 : ∀ c, c < b → c ≠ t → gtC σ c → tl c = 0 → ∃ i, i < m ∧ o i = (c : Int)) (h5 : ∀ i w : Nat, i < m → ((w / 4 : Nat) : Int) = o i → Gw σ w → ∃ i', i' < i ∧ o i' = srcf σ w) (ht : t < b) (hg : gtC σ t) (h0 : tl t = 0) (hn : ∀ i, i < m → o i ≠ (t : Int)) (hp : ∀ w, w / 4 = t → Gw σ w → ∃ i', i' < m ∧ o i' = srcf σ w) : KI σ b (m + 1) (fun i => if i = m then (t : Int) else o i) tl P := by
  refine ⟨fun i hi => ?_, fun i j hi hj he => ?_, h3, fun c hc gc z => ?_, fun i w hi hw gw => ?_⟩
  · by_cases e : i = m
    · exact ⟨t, if_pos e, ht, hg, h0⟩
    · obtain ⟨c, a, r⟩ := h1 i (by omega)
      exact ⟨c, (if_neg e).trans a, r⟩
  · replace he : (if i = m then (t : Int) else o i) = (if j = m then (t : Int) else o j) := he
    by_cases e : i = m <;> by_cases f : j = m
    · omega
    · rw [if_pos e, if_neg f] at he
      exact absurd he.symm (hn j (by omega))
    · rw [if_neg e, if_pos f] at he
      exact absurd he (hn i (by omega))
    · rw [if_neg e, if_neg f] at he
      exact h2 i j (by omega) (by omega) he
  · by_cases e : c = t
    · exact ⟨m, by omega, by rw [e]; exact if_pos rfl⟩
    · obtain ⟨i, hi, ho⟩ := h4 c hc e gc z
      exact ⟨i, by omega, (if_neg (by omega)).trans ho⟩
  · replace hw : ((w / 4 : Nat) : Int) = (if i = m then (t : Int) else o i) := hw
    by_cases e : i = m
    · rw [if_pos e] at hw
      obtain ⟨i', a, r⟩ := hp w (by omega) gw
      exact ⟨i', by omega, (if_neg (by omega)).trans r⟩
    · rw [if_neg e] at hw
      obtain ⟨i', a, r⟩ := h5 i w (by omega) hw gw
      exact ⟨i', a, (if_neg (by omega)).trans r⟩
theorem KI.room {σ : VS} {b m t : Nat} {o tl : Nat → Int} {P : Nat → Prop} (h : KI σ b m o tl P) (ht : t < b) (hn : ∀ i, i < m → o i ≠ (t : Int)) : m < b := by
  refine php_new (m := b) (n := m) (f := fun i => (o i).toNat) (t := t) (fun i hi => ?_) (fun i j hi hj he => ?_) ht (fun i hi he => ?_)
  · obtain ⟨c, a, r, -⟩ := h.1 i hi
    show (o i).toNat < b
    rw [a]; simpa using r
  · obtain ⟨c, a, -⟩ := h.1 i hi
    obtain ⟨d, a2, -⟩ := h.1 j hj
    replace he : (o i).toNat = (o j).toNat := he
    exact h.2.1 i j hi hj (by omega)
  · obtain ⟨c, a, -⟩ := h.1 i hi
    replace he : (o i).toNat = t := he
    exact hn i hi (by omega)
theorem KI.most {σ : VS} {b m : Nat} {o tl : Nat → Int} {P : Nat → Prop} (h : KI σ b m o tl P) : m ≤ b := by
  refine php b m (fun i => (o i).toNat) (fun i hi => ?_) (fun i j hi hj he => ?_)
  · obtain ⟨c, a, r, -⟩ := h.1 i hi
    show (o i).toNat < b
    rw [a]; simpa using r
  · obtain ⟨c, a, -⟩ := h.1 i hi
    obtain ⟨d, a2, -⟩ := h.1 j hj
    replace he : (o i).toNat = (o j).toNat := he
    exact h.2.1 i j hi hj (by omega)
theorem KI.done {σ : VS} {n m : Nat} {o tl : Nat → Int} (h : KI σ n m o tl (fun w => ∃ i, i < m ∧ o i = srcf σ w)) (hC : ∀ w, srcf σ w < (n : Int)) (hA : AcyC σ) : ∀ c, c < n → gtC σ c → ∃ i, i < m ∧ o i = (c : Int) := by
  obtain ⟨ρ, hρ⟩ := hA
  have L : ∀ (d c : Nat), ρ c < d → c < n → gtC σ c → ∃ i, i < m ∧ o i = (c : Int) := by
    intro d
    induction d with
    | zero => intro c h1; omega
    | succ d ih =>
      intro c hd hc hg
      by_cases z : tl c = 0
      · exact h.2.2.2.1 c hc hg z
      · exfalso
        have h3 : tl c = (cN (fun w => Gw σ w ∧ ¬ ∃ i, i < m ∧ o i = srcf σ w) (4 * c) 4 : Int) := h.2.2.1 c hc
        have nz : ¬ cN (fun w => Gw σ w ∧ ¬ ∃ i, i < m ∧ o i = srcf σ w) (4 * c) 4 = 0 := by omega
        rw [cN_zero] at nz
        refine nz (fun i hi hw => ?_)
        have e4 : (4 * c + i) / 4 = c := by omega
        have hr := hρ (4 * c + i) hw.1 (by rw [e4]; exact hg)
        rw [e4] at hr
        have hcw := hC (4 * c + i)
        have h0 := hw.1.1
        obtain ⟨j, hj, ho⟩ := ih (srcf σ (4 * c + i)).toNat (by omega) (by omega) hw.1.2
        exact hw.2 ⟨j, hj, by omega⟩
  intro c hc hg
  exact L (ρ c + 1) c (by omega) hc hg
set_option maxHeartbeats 4000000 in
theorem cx_orderGates {Q : VS → Prop} {σ : VS} (hM : CI σ) (hC : CSrc σ) (hR : WR σ) (hT : TkL σ) (hA : AcyC σ) (hq : ∀ σ' : VS, Eo [3] [19, 20] σ σ' → TO σ' → Q σ') : wp_X1orderGates Q σ := by
  unfold wp_X1orderGates
  intro X7 X71 X99 H7 H71 H99
  have hcl : 0 ≤ (σ.1 2).toInt ∧ (σ.1 2).toInt ≤ 50 := hM.1 2
  obtain ⟨n, hn⟩ : ∃ n : Nat, (σ.1 2).toInt = (n : Int) := ⟨(σ.1 2).toInt.toNat, by omega⟩
  obtain ⟨h18, h17⟩ := hT n hn
  obtain ⟨src, hsrc⟩ : ∃ f : Nat → Int, f = srcf σ := ⟨_, rfl⟩
  rw [← hsrc] at h18 h17
  have hs1 : ∀ w, src w < (n : Int) := fun w => by rw [hsrc]; have := hC w; show (σ.2.1 16 w).toInt < (n : Int); omega
  have hW : ∀ w, 0 ≤ src w → w < n * 4 := fun w h => by rw [hsrc] at h; have := (hR w h).1; omega
  have hGs : ∀ w, Gw σ w → 0 ≤ src w := fun w h => by rw [hsrc]; exact h.1
  -- the second phase
  have L2 : ∀ (d : Nat) (l1 : Int32) (k : Nat) (σ1 : VS) (m : Nat), n - k < d → l1.toInt = (k : Int) → k ≤ m → (σ1.1 3).toInt = (m : Int) → Eo [3] [19, 20] σ σ1 → KI σ n m (fun i => (σ1.2.1 19 i).toInt) (fun c => (σ1.2.1 20 c).toInt) (fun w => ∃ i, i < k ∧ (σ1.2.1 19 i).toInt = src w) → X71 l1 σ1 := by
    intro d
    induction d with
    | zero => intro l1 k σ1 m h1; omega
    | succ d ih =>
      intro l1 k σ1 m h1 h2 h3 h4 hE hK
      have hmn := hK.most
      refine H71 l1 σ1 ?_
      unfold b_X1orderGates_71 b_X1orderGates_184
      refine ⟨fun hge => hq σ1 hE ?_, fun hlt => ⟨fun h50 => by omega, fun h50 => ⟨⟨by omega, by omega⟩, fun x5 e5 => ?_⟩⟩⟩
      · have ek : k = m := by omega
        subst ek
        have e16 : srcf σ1 = srcf σ := by unfold srcf; rw [hE.2 16 (by decide)]
        have e11 : ∀ c, gtC σ1 c ↔ gtC σ c := fun c => by unfold gtC; rw [hE.2 11 (by decide)]
        have eG : ∀ w, Gw σ1 w ↔ Gw σ w := fun w => by unfold Gw; rw [e16, e11]
        have e2 : σ1.1 2 = σ.1 2 := hE.1 2 (by decide)
        have hfull := KI.done (o := fun i => (σ1.2.1 19 i).toInt) (tl := fun c => (σ1.2.1 20 c).toInt) (by rw [← hsrc]; exact hK) (by rw [← hsrc]; exact hs1) hA
        refine ⟨fun i hi => ?_, fun i j hi hj he => hK.2.1 i j (by omega) (by omega) he, fun c hc hg => ?_, fun i w hi hw hg => ?_⟩
        · obtain ⟨c, a, b, g, -⟩ := hK.1 i (by omega)
          exact ⟨c, a, by rw [e2, hn]; omega, (e11 c).mpr g⟩
        · rw [e2, hn] at hc
          obtain ⟨i, hi, ho⟩ := hfull c (by omega) ((e11 c).mp hg)
          exact ⟨i, by omega, ho⟩
        · rw [e16]
          exact hK.2.2.2.2 i w (by omega) hw ((eG w).mp hg)
      · obtain ⟨s, hs, hsn, hsg, hs0⟩ := hK.1 k (by omega)
        have hx5 : x5.toInt = (s : Int) := by rw [e5, rd_at σ1 19 l1 h2]; exact hs
        refine ⟨⟨by omega, by omega⟩, fun x6 e6 => ?_⟩
        have hx6 : x6.toInt = (prs src (n * 4) s : Int) := by rw [e6, rd_at σ1 18 x5 hx5, hE.2 18 (by decide)]; exact h18 s (by omega)
        have t5 : (x5 + 1).toInt = ((s + 1 : Nat) : Int) := by
          have := i3_addc (x := x5 + 1) hx5 (show (1 : Int32).toInt = 1 from rfl) rfl (by omega)
          omega
        have t1 : (l1 + 1).toInt = ((k + 1 : Nat) : Int) := by
          have := i3_addc (x := l1 + 1) h2 (show (1 : Int32).toInt = 1 from rfl) rfl (by omega)
          omega
        have hpW := prs_le src (n * 4) (s + 1)
        have L3 : ∀ (d3 : Nat) (l3 : Int32) (q : Nat) (σ2 : VS) (m2 : Nat), prs src (n * 4) (s + 1) - q < d3 → l3.toInt = (q : Int) → prs src (n * 4) s ≤ q → q ≤ prs src (n * 4) (s + 1) → k < m2 → (σ2.1 3).toInt = (m2 : Int) → Eo [3] [19, 20] σ σ2 → (σ2.2.1 19 k).toInt = (s : Int) → KI σ n m2 (fun i => (σ2.2.1 19 i).toInt) (fun c => (σ2.2.1 20 c).toInt) (fun w => (∃ i, i < k ∧ (σ2.2.1 19 i).toInt = src w) ∨ (src w = (s : Int) ∧ plc src (n * 4) w < q)) → X99 l1 x5 l3 σ2 := by
          intro d3
          induction d3 with
          | zero => intro l3 q σ2 m2 k1; omega
          | succ d3 ih3 =>
            intro l3 q σ2 m2 k1 k2 k3 k4 k5 k6 hE2 k7 hK2
            have hmn2 := hK2.most
            refine H99 l1 x5 l3 σ2 ?_
            unfold b_X1orderGates_99 b_X1orderGates_172
            have hr18 : (rd σ2 18 (x5 + 1)).toInt = (prs src (n * 4) (s + 1) : Int) := by rw [rd_at σ2 18 _ t5, hE2.2 18 (by decide)]; exact h18 (s + 1) (by omega)
            refine ⟨⟨by omega, by omega⟩, fun hge => ?_, fun hlt => ⟨⟨by omega, by omega⟩, fun x7 e7 => ?_⟩⟩
            · have eq : q = prs src (n * 4) (s + 1) := by omega
              refine ih (l1 + 1) (k + 1) σ2 m2 (by omega) t1 (by omega) k6 hE2 ?_
              obtain ⟨g1, g2, g3, g4, g5⟩ := hK2
              refine ⟨g1, g2, fun c hc => ?_, g4, g5⟩
              rw [g3 c hc]
              congr 1
              refine cN_same 4 (fun i hi => ?_)
              refine and_congr_right (fun hg => not_congr ?_)
              have hp0 := hGs _ hg
              have hww := hW _ hp0
              constructor
              · rintro (⟨j, hj, ho⟩ | ⟨a, b⟩)
                · exact ⟨j, by omega, ho⟩
                · exact ⟨k, by omega, by rw [k7, a]⟩
              · rintro ⟨j, hj, ho⟩
                by_cases e : j = k
                · have es : src (4 * c + i) = (s : Int) := by rw [← ho, e, k7]
                  refine Or.inr ⟨es, ?_⟩
                  have hlt2 := (plc_lt (src := src) hww hp0).2
                  rw [es] at hlt2
                  simp at hlt2
                  omega
                · exact Or.inl ⟨j, by omega, ho⟩
            · obtain ⟨w0, hw0, hsw0, hpw0⟩ := plc_hit (src := src) (W := n * 4) (s := s) (q := q) k3 (by omega)
              have h17w := h17 w0 hw0 (by rw [hsw0]; omega)
              rw [hpw0] at h17w
              have hr17 : (rd σ2 17 l3).toInt = (w0 : Int) := by rw [rd_at σ2 17 l3 k2, hE2.2 17 (by decide)]; exact h17w
              have t7 : x7.toInt = (rd σ2 17 l3).toInt / 4 := i3_divc rfl rfl e7 (by omega) (by decide)
              obtain ⟨t, ht⟩ : ∃ t : Nat, t = w0 / 4 := ⟨_, rfl⟩
              have hx7 : x7.toInt = (t : Int) := by omega
              have htn : t < n := by omega
              have t3 : (l3 + 1).toInt = ((q + 1 : Nat) : Int) := by
                have := i3_addc (x := l3 + 1) k2 (show (1 : Int32).toInt = 1 from rfl) rfl (by omega)
                omega
              obtain ⟨g1, g2, g3, g4, g5⟩ := id hK2
              have hGw0 : Gw σ w0 := by
                unfold Gw
                rw [← hsrc, hsw0]
                exact ⟨by omega, by simpa using hsg⟩
              have hnP : ¬ ((∃ i, i < k ∧ (σ2.2.1 19 i).toInt = src w0) ∨ (src w0 = (s : Int) ∧ plc src (n * 4) w0 < q)) := by
                rintro (⟨i, hi, ho⟩ | ⟨-, b⟩)
                · have := g2 i k (by omega) (by omega) (by show (σ2.2.1 19 i).toInt = (σ2.2.1 19 k).toInt; rw [ho, k7, hsw0])
                  omega
                · omega
              have hiff : ∀ w, (Gw σ w ∧ ¬ ((∃ i, i < k ∧ (σ2.2.1 19 i).toInt = src w) ∨ (src w = (s : Int) ∧ plc src (n * 4) w < q + 1))) ↔ (Gw σ w ∧ ¬ ((∃ i, i < k ∧ (σ2.2.1 19 i).toInt = src w) ∨ (src w = (s : Int) ∧ plc src (n * 4) w < q))) ∧ w ≠ w0 := by
                intro w
                constructor
                · rintro ⟨a, b⟩
                  refine ⟨⟨a, fun z => b (z.imp id (fun y => ⟨y.1, by omega⟩))⟩, fun z => b (Or.inr ?_)⟩
                  rw [z]; exact ⟨hsw0, by omega⟩
                · rintro ⟨⟨a, b⟩, c⟩
                  refine ⟨a, fun z => ?_⟩
                  rcases z with z | ⟨y1, y2⟩
                  · exact b (Or.inl z)
                  · by_cases e : plc src (n * 4) w < q
                    · exact b (Or.inr ⟨y1, e⟩)
                    · exact c (plc_inj (src := src) (W := n * 4) (hW w (by omega)) hw0 (by omega) (by rw [hsw0]; omega) (by omega))
              have hcount := cN_take (C := fun w => Gw σ w ∧ ¬ ((∃ i, i < k ∧ (σ2.2.1 19 i).toInt = src w) ∨ (src w = (s : Int) ∧ plc src (n * 4) w < q))) (C' := fun w => Gw σ w ∧ ¬ ((∃ i, i < k ∧ (σ2.2.1 19 i).toInt = src w) ∨ (src w = (s : Int) ∧ plc src (n * 4) w < q + 1))) (a := 4 * t) (w0 := w0) ⟨hGw0, hnP⟩ hiff 4 (by omega) (by omega)
              have hle4 := cN_le (fun w => Gw σ w ∧ ¬ ((∃ i, i < k ∧ (σ2.2.1 19 i).toInt = src w) ∨ (src w = (s : Int) ∧ plc src (n * 4) w < q))) (4 * t) 4
              have hold : (σ2.2.1 20 t).toInt = (cN (fun w => Gw σ w ∧ ¬ ((∃ i, i < k ∧ (σ2.2.1 19 i).toInt = src w) ∨ (src w = (s : Int) ∧ plc src (n * 4) w < q))) (4 * t) 4 : Int) := g3 t htn
              have hr0 : rd σ2 20 x7 = σ2.2.1 20 t := rd_at σ2 20 x7 hx7
              have t8 : (rd σ2 20 x7 - 1).toInt = (σ2.2.1 20 t).toInt - 1 := i3_subc (by rw [hr0]) (show (1 : Int32).toInt = 1 from rfl) rfl (by omega)
              obtain ⟨σ3, e3⟩ : ∃ z : VS, z = sa σ2 20 x7 (rd σ2 20 x7 - 1) := ⟨_, rfl⟩
              have f3 : ∀ c : Nat, σ3.2.1 20 c = if c = t then rd σ2 20 x7 - 1 else σ2.2.1 20 c := fun c => by rw [e3]; exact sa_at σ2 20 x7 _ hx7 c
              have f19 : σ3.2.1 19 = σ2.2.1 19 := by rw [e3]; exact sa_other (by decide) _ _ _
              have fo : σ3.1 3 = σ2.1 3 := by rw [e3]; rfl
              have hE3 : Eo [3] [19, 20] σ σ3 := by rw [e3]; exact hE2.sa 20 _ _ (by decide)
              have e11 : ∀ c, gtC σ3 c ↔ gtC σ c := fun c => by unfold gtC; rw [hE3.2 11 (by decide)]
              have q3 : ∀ c, c < n → (σ3.2.1 20 c).toInt = (cN (fun w => Gw σ w ∧ ¬ ((∃ i, i < k ∧ (σ2.2.1 19 i).toInt = src w) ∨ (src w = (s : Int) ∧ plc src (n * 4) w < q + 1))) (4 * c) 4 : Int) := by
                intro c hc
                rw [f3]
                by_cases e : c = t
                · rw [if_pos e, t8, hold, e]; omega
                · rw [if_neg e]
                  rw [show (σ2.2.1 20 c).toInt = _ from g3 c hc]
                  congr 1
                  refine cN_same 4 (fun i hi => ?_)
                  rw [hiff]
                  exact ⟨fun z => ⟨z, by omega⟩, fun z => z.1⟩
              have hnt : ∀ i, i < m2 → (σ2.2.1 19 i).toInt ≠ (t : Int) := by
                intro i hi he
                obtain ⟨c, a, -, -, z⟩ := g1 i hi
                have a' : (σ2.2.1 19 i).toInt = (c : Int) := a
                have ec : c = t := by omega
                rw [ec] at z
                replace z : (σ2.2.1 20 t).toInt = 0 := z
                omega
              have q1 : ∀ i, i < m2 → ∃ c : Nat, (σ2.2.1 19 i).toInt = (c : Int) ∧ c < n ∧ gtC σ c ∧ (σ3.2.1 20 c).toInt = 0 := by
                intro i hi
                obtain ⟨c, a, b, g, z⟩ := g1 i hi
                refine ⟨c, a, b, g, ?_⟩
                rw [f3, if_neg (fun e => hnt i hi (by rw [← e]; exact a))]
                exact z
              have q4 : ∀ c, c < n → c ≠ t → gtC σ c → (σ3.2.1 20 c).toInt = 0 → ∃ i, i < m2 ∧ (σ2.2.1 19 i).toInt = (c : Int) := by
                intro c hc hne hg z
                rw [f3, if_neg hne] at z
                exact g4 c hc hg z
              rw [← e3]
              refine ⟨⟨by omega, by omega⟩, ⟨by omega, by omega⟩, ?_⟩
              have hgo : (gtC σ t → (σ3.2.1 20 t).toInt ≠ 0) → X99 l1 x5 (l3 + 1) σ3 := by
                intro hne
                refine ih3 (l3 + 1) (q + 1) σ3 m2 (by omega) t3 (by omega) (by omega) k5 (by rw [fo]; exact k6) hE3 (by rw [f19]; exact k7) ?_
                rw [f19]
                refine ⟨q1, g2, q3, fun c hc hg z => ?_, g5⟩
                by_cases e : c = t
                · subst e; exact absurd z (hne hg)
                · exact q4 c hc e hg z
              refine xisGate_x (c := t) hx7 (by omega) (fun g => ⟨fun z => absurd z (by decide), fun _ => ⟨⟨by omega, by omega⟩, fun hz => ?_, fun hz => ?_⟩⟩) (fun g => ⟨fun _ => hgo (fun z => absurd ((e11 t).mpr z) g), fun z => absurd rfl z⟩)
              · rw [rd_at σ3 20 x7 hx7] at hz
                exact hgo (fun _ => hz)
              · rw [rd_at σ3 20 x7 hx7] at hz
                have hrm := hK2.room htn hnt
                have hpre : KI σ n (m2 + 1) (fun i => if i = m2 then (t : Int) else (σ2.2.1 19 i).toInt) (fun c => (σ3.2.1 20 c).toInt) (fun w => (∃ i, i < k ∧ (σ2.2.1 19 i).toInt = src w) ∨ (src w = (s : Int) ∧ plc src (n * 4) w < q + 1)) := by
                  refine KI.push q1 g2 q3 q4 g5 htn ((e11 t).mp g) hz hnt (fun w hw hg => ?_)
                  have z3 := q3 t htn
                  rw [hz] at z3
                  have z4 := (cN_zero 4).mp (show cN (fun w => Gw σ w ∧ ¬ ((∃ i, i < k ∧ (σ2.2.1 19 i).toInt = src w) ∨ (src w = (s : Int) ∧ plc src (n * 4) w < q + 1))) (4 * t) 4 = 0 by omega) (w % 4) (by omega)
                  have ew : 4 * t + w % 4 = w := by omega
                  rw [ew] at z4
                  have z5 := Classical.not_not.mp (fun y => z4 ⟨hg, y⟩)
                  rcases z5 with ⟨i, hi, ho⟩ | ⟨a, -⟩
                  · exact ⟨i, by omega, by rw [← hsrc]; exact ho⟩
                  · exact ⟨k, k5, by rw [← hsrc, a]; exact k7⟩
                have e0 : (sa σ3 19 (σ3.1 3) x7).1 3 = σ3.1 3 := rfl
                have k6' : (σ3.1 3).toInt = (m2 : Int) := by rw [fo]; exact k6
                refine ⟨⟨by omega, by omega⟩, ?_⟩
                have t9 : (σ3.1 3 + 1).toInt = ((m2 + 1 : Nat) : Int) := by
                  have := i3_addc (x := σ3.1 3 + 1) k6' (show (1 : Int32).toInt = 1 from rfl) rfl (by omega)
                  omega
                have r19 : ∀ i : Nat, ((sf (sa σ3 19 (σ3.1 3) x7) 3 ((sa σ3 19 (σ3.1 3) x7).1 3 + 1)).2.1 19 i).toInt = if i = m2 then (t : Int) else (σ2.2.1 19 i).toInt := fun i => by
                  show ((sa σ3 19 (σ3.1 3) x7).2.1 19 i).toInt = _
                  rw [sa_at σ3 19 _ _ k6', f19]
                  by_cases e : i = m2
                  · rw [if_pos e, if_pos e]; exact hx7
                  · rw [if_neg e, if_neg e]
                have r20 : ∀ c : Nat, (sf (sa σ3 19 (σ3.1 3) x7) 3 ((sa σ3 19 (σ3.1 3) x7).1 3 + 1)).2.1 20 c = σ3.2.1 20 c := fun c => congrFun (sa_other (by decide) σ3 (σ3.1 3) x7) c
                refine ih3 (l3 + 1) (q + 1) _ (m2 + 1) (by omega) t3 (by omega) (by omega) (by omega) (by rw [sf_same, e0]; exact t9) ((hE3.sa 19 _ _ (by decide)).sf 3 _ (by decide)) (by rw [r19, if_neg (by omega)]; exact k7) ?_
                obtain ⟨b1, b2, b3, b4, b5⟩ := hpre
                refine ⟨fun i hi => ?_, fun i j hi hj he => ?_, fun c hc => ?_, fun c hc hg z => ?_, fun i w hi hw hg => ?_⟩
                · obtain ⟨c, a, r⟩ := b1 i hi
                  exact ⟨c, (r19 i).trans a, r.1, r.2.1, by show ((sf _ 3 _).2.1 20 c).toInt = 0; rw [r20]; exact r.2.2⟩
                · exact b2 i j hi hj ((r19 i).symm.trans (Eq.trans he (r19 j)))
                · show ((sf _ 3 _).2.1 20 c).toInt = _
                  rw [r20]
                  refine Eq.trans (b3 c hc) ?_
                  congr 1
                  refine cN_same 4 (fun i hi => and_congr_right (fun _ => not_congr (or_congr ?_ Iff.rfl)))
                  refine ⟨fun ⟨j, hj, ho⟩ => ⟨j, hj, by rw [r19, if_neg (by omega)]; exact ho⟩, fun ⟨j, hj, ho⟩ => ⟨j, hj, by rw [r19, if_neg (by omega)] at ho; exact ho⟩⟩
                · replace z : ((sf (sa σ3 19 (σ3.1 3) x7) 3 ((sa σ3 19 (σ3.1 3) x7).1 3 + 1)).2.1 20 c).toInt = 0 := z
                  rw [r20] at z
                  obtain ⟨i, hi, ho⟩ := b4 c hc hg z
                  exact ⟨i, hi, (r19 i).trans ho⟩
                · obtain ⟨i', hi', ho⟩ := b5 i w hi (Eq.trans hw (r19 i)) hg
                  exact ⟨i', hi', (r19 i').trans ho⟩
        refine L3 (prs src (n * 4) (s + 1) + 1) x6 (prs src (n * 4) s) σ1 m (by omega) hx6 (by omega) (by rw [prs_s]; omega) (by omega) h4 hE hs ?_
        obtain ⟨g1, g2, g3, g4, g5⟩ := hK
        refine ⟨g1, g2, fun c hc => ?_, g4, g5⟩
        rw [g3 c hc]
        congr 1
        refine cN_same 4 (fun i hi => and_congr_right (fun hg => not_congr ⟨Or.inl, fun z => z.elim id (fun y => ?_)⟩))
        have hp0 := hGs _ hg
        have := (plc_lt (src := src) (hW _ hp0) hp0).1
        rw [y.1] at this
        simp at this
        omega
  -- the first phase
  have L1 : ∀ (d : Nat) (l1 : Int32) (c : Nat) (σ1 : VS) (m : Nat), n - c < d → l1.toInt = (c : Int) → c ≤ n → (σ1.1 3).toInt = (m : Int) → Eo [3] [19, 20] σ σ1 → KI σ c m (fun i => (σ1.2.1 19 i).toInt) (fun c => (σ1.2.1 20 c).toInt) (fun _ => False) → X7 l1 σ1 := by
    intro d
    induction d with
    | zero => intro l1 c σ1 m h1; omega
    | succ d ih =>
      intro l1 c σ1 m h1 h2 h3 h4 hE hK
      have hmn := hK.most
      refine H7 l1 σ1 ?_
      unfold b_X1orderGates_7 b_X1orderGates_63
      rw [hE.1 2 (by decide), hn]
      refine ⟨fun hge => ?_, fun hlt => ?_⟩
      · have ec : c = n := by omega
        subst ec
        refine L2 (c + 1) 0 0 σ1 m (by omega) rfl (by omega) h4 hE ?_
        obtain ⟨g1, g2, g3, g4, g5⟩ := hK
        refine ⟨g1, g2, fun c hc => ?_, g4, g5⟩
        rw [g3 c hc]
        congr 1
        exact cN_same 4 (fun i hi => and_congr_right (fun hg => not_congr ⟨fun z => z.elim, fun ⟨j, hj, _⟩ => by omega⟩))
      · have e16 : srcf σ1 = srcf σ := by unfold srcf; rw [hE.2 16 (by decide)]
        have e11 : ∀ c, gtC σ1 c ↔ gtC σ c := fun c => by unfold gtC; rw [hE.2 11 (by decide)]
        have eG : ∀ w, Gw σ1 w ↔ Gw σ w := fun w => by unfold Gw; rw [e16, e11]
        have hR1 : WR σ1 := by unfold WR; rw [e16, hE.1 2 (by decide), hE.2 12 (by decide)]; exact hR
        have hC1 : CSrc σ1 := hC.same hE (by decide)
        have t1 : (l1 + 1).toInt = ((c + 1 : Nat) : Int) := by
          have := i3_addc (x := l1 + 1) h2 (show (1 : Int32).toInt = 1 from rfl) rfl (by omega)
          omega
        refine gates_x h2 (by omega) (by rw [hE.1 2 (by decide)]; exact hcl) (fun j => by rw [hE.2 12 (by decide)]; exact hM.2 12 j) hR1 hC1 (fun r hr => ⟨⟨by omega, by omega⟩, ?_⟩)
        have hr' : r.toInt = (cN (Gw σ) (4 * c) 4 : Int) := by rw [hr]; congr 1; exact cN_same 4 (fun i _ => eG _)
        obtain ⟨σ3, e3⟩ : ∃ z : VS, z = sa σ1 20 l1 r := ⟨_, rfl⟩
        have f3 : ∀ j : Nat, σ3.2.1 20 j = if j = c then r else σ1.2.1 20 j := fun j => by rw [e3]; exact sa_at σ1 20 l1 _ h2 j
        have f19 : σ3.2.1 19 = σ1.2.1 19 := by rw [e3]; exact sa_other (by decide) _ _ _
        have fo : σ3.1 3 = σ1.1 3 := by rw [e3]; rfl
        have hE3 : Eo [3] [19, 20] σ σ3 := by rw [e3]; exact hE.sa 20 _ _ (by decide)
        have e11' : ∀ c, gtC σ3 c ↔ gtC σ c := fun c => by unfold gtC; rw [hE3.2 11 (by decide)]
        obtain ⟨g1, g2, g3, g4, g5⟩ := id hK
        have q1 : ∀ i, i < m → ∃ j : Nat, (σ1.2.1 19 i).toInt = (j : Int) ∧ j < c + 1 ∧ gtC σ j ∧ (σ3.2.1 20 j).toInt = 0 := by
          intro i hi
          obtain ⟨j, a, b, g, z⟩ := g1 i hi
          exact ⟨j, a, by omega, g, by rw [f3, if_neg (by omega)]; exact z⟩
        have q3 : ∀ j, j < c + 1 → (σ3.2.1 20 j).toInt = (cN (fun w => Gw σ w ∧ ¬ False) (4 * j) 4 : Int) := by
          intro j hj
          rw [f3]
          by_cases e : j = c
          · rw [if_pos e, hr', e]; congr 1; exact cN_same 4 (fun i _ => ⟨fun z => ⟨z, id⟩, fun z => z.1⟩)
          · rw [if_neg e]; exact g3 j (by omega)
        have q4 : ∀ j, j < c + 1 → j ≠ c → gtC σ j → (σ3.2.1 20 j).toInt = 0 → ∃ i, i < m ∧ (σ1.2.1 19 i).toInt = (j : Int) := by
          intro j hj hne hg z
          rw [f3, if_neg hne] at z
          exact g4 j (by omega) hg z
        have hnt : ∀ i, i < m → (σ1.2.1 19 i).toInt ≠ (c : Int) := by
          intro i hi he
          obtain ⟨j, a, b, -⟩ := g1 i hi
          have a' : (σ1.2.1 19 i).toInt = (j : Int) := a
          omega
        rw [← e3]
        have hgo : (gtC σ c → (σ3.2.1 20 c).toInt ≠ 0) → X7 (l1 + 1) σ3 := by
          intro hne
          refine ih (l1 + 1) (c + 1) σ3 m (by omega) t1 (by omega) (by rw [fo]; exact h4) hE3 ?_
          rw [f19]
          refine ⟨q1, g2, q3, fun j hj hg z => ?_, g5⟩
          by_cases e : j = c
          · subst e; exact absurd z (hne hg)
          · exact q4 j hj e hg z
        refine xisGate_x (c := c) h2 (by omega) (fun g => ⟨fun z => absurd z (by decide), fun _ => ⟨⟨by omega, by omega⟩, fun hz => ?_, fun hz => ?_⟩⟩) (fun g => ⟨fun _ => hgo (fun z => absurd ((e11' c).mpr z) g), fun z => absurd rfl z⟩)
        · rw [rd_at σ3 20 l1 h2] at hz
          exact hgo (fun _ => hz)
        · rw [rd_at σ3 20 l1 h2] at hz
          have hpre : KI σ (c + 1) (m + 1) (fun i => if i = m then (c : Int) else (σ1.2.1 19 i).toInt) (fun c => (σ3.2.1 20 c).toInt) (fun _ => False) := by
            refine KI.push q1 g2 q3 q4 g5 (by omega) ((e11' c).mp g) hz hnt (fun w hw hg => ?_)
            have z3 := q3 c (by omega)
            rw [hz] at z3
            have z4 := (cN_zero 4).mp (show cN (fun w => Gw σ w ∧ ¬ False) (4 * c) 4 = 0 by omega) (w % 4) (by omega)
            have ew : 4 * c + w % 4 = w := by omega
            rw [ew] at z4
            exact absurd ⟨hg, id⟩ z4
          have e0 : (sa σ3 19 (σ3.1 3) l1).1 3 = σ3.1 3 := rfl
          have k6' : (σ3.1 3).toInt = (m : Int) := by rw [fo]; exact h4
          refine ⟨⟨by omega, by omega⟩, ?_⟩
          have t9 : (σ3.1 3 + 1).toInt = ((m + 1 : Nat) : Int) := by
            have := i3_addc (x := σ3.1 3 + 1) k6' (show (1 : Int32).toInt = 1 from rfl) rfl (by omega)
            omega
          have r19 : ∀ i : Nat, ((sf (sa σ3 19 (σ3.1 3) l1) 3 ((sa σ3 19 (σ3.1 3) l1).1 3 + 1)).2.1 19 i).toInt = if i = m then (c : Int) else (σ1.2.1 19 i).toInt := fun i => by
            show ((sa σ3 19 (σ3.1 3) l1).2.1 19 i).toInt = _
            rw [sa_at σ3 19 _ _ k6', f19]
            by_cases e : i = m
            · rw [if_pos e, if_pos e]; exact h2
            · rw [if_neg e, if_neg e]
          have r20 : ∀ j : Nat, (sf (sa σ3 19 (σ3.1 3) l1) 3 ((sa σ3 19 (σ3.1 3) l1).1 3 + 1)).2.1 20 j = σ3.2.1 20 j := fun j => congrFun (sa_other (by decide) σ3 (σ3.1 3) l1) j
          refine ih (l1 + 1) (c + 1) _ (m + 1) (by omega) t1 (by omega) (by rw [sf_same, e0]; exact t9) ((hE3.sa 19 _ _ (by decide)).sf 3 _ (by decide)) ?_
          obtain ⟨b1, b2, b3, b4, b5⟩ := hpre
          refine ⟨fun i hi => ?_, fun i j hi hj he => ?_, fun j hj => ?_, fun j hj hg z => ?_, fun i w hi hw hg => ?_⟩
          · obtain ⟨j, a, r⟩ := b1 i hi
            exact ⟨j, (r19 i).trans a, r.1, r.2.1, by show ((sf _ 3 _).2.1 20 j).toInt = 0; rw [r20]; exact r.2.2⟩
          · exact b2 i j hi hj ((r19 i).symm.trans (Eq.trans he (r19 j)))
          · show ((sf _ 3 _).2.1 20 j).toInt = _
            rw [r20]
            exact b3 j hj
          · replace z : ((sf (sa σ3 19 (σ3.1 3) l1) 3 ((sa σ3 19 (σ3.1 3) l1).1 3 + 1)).2.1 20 j).toInt = 0 := z
            rw [r20] at z
            obtain ⟨i, hi, ho⟩ := b4 j hj hg z
            exact ⟨i, hi, (r19 i).trans ho⟩
          · obtain ⟨i', hi', ho⟩ := b5 i w hi (Eq.trans hw (r19 i)) hg
            exact ⟨i', hi', (r19 i').trans ho⟩
  refine L1 (n + 1) 0 0 (sf σ 3 0) 0 (by omega) rfl (by omega) (by rw [sf_same]; rfl) (Eo.rfl.sf 3 0 (by decide)) ⟨fun i hi => by omega, fun i j hi => by omega, fun c hc => by omega, fun c hc => by omega, fun i w hi => by omega⟩
