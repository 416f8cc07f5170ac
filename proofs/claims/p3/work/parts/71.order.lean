theorem sf_same (σ : VS) (k : Nat) (v : Int32) : (sf σ k v).1 k = v := by
  show (if k = k then v else σ.1 k) = v
  rw [if_pos rfl]
theorem sf_other {k2 k : Nat} (h : k2 ≠ k) (σ : VS) (v : Int32) : (sf σ k v).1 k2 = σ.1 k2 := by
  show (if k2 = k then v else σ.1 k2) = _
  rw [if_neg h]
/-- pigeons -/
theorem php (m : Nat) : ∀ (n : Nat) (f : Nat → Nat), (∀ i, i < n → f i < m) → (∀ i j, i < n → j < n → f i = f j → i = j) → n ≤ m := by
  induction m with
  | zero =>
    intro n f h1 _
    cases n with
    | zero => exact Nat.le_refl _
    | succ n => exact absurd (h1 0 (by omega)) (by omega)
  | succ m ih =>
    intro n f h1 h2
    cases n with
    | zero => omega
    | succ n =>
      have := ih n (fun i => if f i = m then f n else f i) (fun i hi => ?_) (fun i j hi hj he => ?_)
      · omega
      · show (if f i = m then f n else f i) < m
        have a := h1 i (by omega)
        have b := h1 n (by omega)
        by_cases e : f i = m
        · rw [if_pos e]
          by_cases e2 : f n = m
          · have := h2 i n (by omega) (by omega) (by omega); omega
          · omega
        · rw [if_neg e]; omega
      · replace he : (if f i = m then f n else f i) = (if f j = m then f n else f j) := he
        by_cases e : f i = m
        · by_cases e2 : f j = m
          · exact h2 i j (by omega) (by omega) (by omega)
          · rw [if_pos e, if_neg e2] at he
            have := h2 n j (by omega) (by omega) he
            omega
        · by_cases e2 : f j = m
          · rw [if_neg e, if_pos e2] at he
            have := h2 i n (by omega) (by omega) he
            omega
          · rw [if_neg e, if_neg e2] at he
            exact h2 i j (by omega) (by omega) he
theorem php_new {m n : Nat} {f : Nat → Nat} {t : Nat} (h1 : ∀ i, i < n → f i < m) (h2 : ∀ i j, i < n → j < n → f i = f j → i = j) (ht : t < m) (h3 : ∀ i, i < n → f i ≠ t) : n < m := by
  have := php m (n + 1) (fun i => if i < n then f i else t) (fun i hi => ?_) (fun i j hi hj he => ?_)
  · omega
  · show (if i < n then f i else t) < m
    split
    · exact h1 i (by omega)
    · exact ht
  · replace he : (if i < n then f i else t) = (if j < n then f j else t) := he
    by_cases a : i < n
    · by_cases b : j < n
      · rw [if_pos a, if_pos b] at he; exact h2 i j a b he
      · rw [if_pos a, if_neg b] at he; exact absurd he (h3 i a)
    · by_cases b : j < n
      · rw [if_neg a, if_pos b] at he; exact absurd he.symm (h3 j b)
      · omega
set_option maxHeartbeats 2000000 in
theorem rg4_X1gatesTakenBy {Q : Int32 → VS → Prop} {p1 : Int32} {σ : VS} (h1 : 0 ≤ p1.toInt ∧ p1.toInt ≤ 49) (hM : CI σ) (hq : ∀ (r : Int32) (σ' : VS), 0 ≤ r.toInt ∧ r.toInt ≤ 4 → CI σ' → Eo [] [] σ σ' → Q r σ') : wp_X1gatesTakenBy Q p1 σ := by
  unfold wp_X1gatesTakenBy
  intro X6 H x1 e1
  have t1 : x1.toInt = p1.toInt * 4 := i3_mulc rfl rfl e1 (by omega)
  have L : ∀ (d : Nat) (l2 l3 : Int32) (σ1 : VS), p1.toInt * 4 + 4 - l3.toInt < (d : Int) → p1.toInt * 4 ≤ l3.toInt → l3.toInt ≤ p1.toInt * 4 + 4 → 0 ≤ l2.toInt → l2.toInt ≤ l3.toInt - p1.toInt * 4 → CI σ1 → Eo [] [] σ σ1 → X6 p1 l2 l3 σ1 := by
    intro d
    induction d with
    | zero => intro l2 l3 σ1 h; omega
    | succ d ih =>
      intro l2 l3 σ1 hd h2 h3 h4 h5 hM1 hE1
      refine H p1 l2 l3 σ1 ?_
      unfold b_X1gatesTakenBy_6
      have a1 : 0 ≤ (rd σ1 12 p1).toInt ∧ (rd σ1 12 p1).toInt ≤ 4 := hM1.2 12 _
      have t2 : (p1 * 4).toInt = p1.toInt * 4 := i3_mulc rfl rfl rfl (by omega)
      have t3 : ((p1 * 4) + rd σ1 12 p1).toInt = (p1 * 4).toInt + (rd σ1 12 p1).toInt := i3_addc rfl rfl rfl (by omega)
      refine ⟨⟨by omega, by omega⟩, fun hge => hq l2 σ1 ⟨h4, by omega⟩ hM1 hE1, fun hlt => ⟨⟨by omega, by omega⟩, ?_⟩⟩
      have t4 : (l3 + 1).toInt = l3.toInt + 1 := i3_addc rfl rfl rfl (by omega)
      have t5 : (l2 + 1).toInt = l2.toInt + 1 := i3_addc rfl rfl rfl (by omega)
      have a2 : (-5) ≤ (rd σ1 16 l3).toInt ∧ (rd σ1 16 l3).toInt ≤ 49 := hM1.2 16 _
      refine ⟨fun _ => ?_, fun hpos => ⟨⟨by omega, by omega⟩, ?_⟩⟩
      · unfold b_X1gatesTakenBy_45
        exact ih l2 (l3 + 1) σ1 (by omega) (by omega) (by omega) h4 (by omega) hM1 hE1
      · refine rg_X1isGate ⟨by omega, by omega⟩ hM1 (fun r σ2 _ hM2 hE2 => ⟨fun _ => ?_, fun _ => ?_⟩)
        · unfold b_X1gatesTakenBy_45
          exact ih l2 (l3 + 1) σ2 (by omega) (by omega) (by omega) h4 (by omega) hM2 (hE1.trans hE2)
        · unfold b_X1gatesTakenBy_45
          exact ih (l2 + 1) (l3 + 1) σ2 (by omega) (by omega) (by omega) (by omega) (by omega) hM2 (hE1.trans hE2)
  exact L 5 0 x1 σ (by omega) (by omega) (by omega) (by decide) (by have e : (0 : Int32).toInt = 0 := rfl; omega) hM Eo.rfl
/-- the gates in order are different ones, and none of them waits; m bounds the numbers -/
def Ord (σ : VS) (m : Int) : Prop := (∀ i : Nat, (i : Int) < (σ.1 3).toInt → ((σ.2.1 20 (σ.2.1 19 i).toInt.toNat).toInt ≤ 0 ∧ (σ.2.1 19 i).toInt < m)) ∧ ∀ i j : Nat, (i : Int) < (σ.1 3).toInt → (j : Int) < (σ.1 3).toInt → (σ.2.1 19 i).toInt = (σ.2.1 19 j).toInt → i = j
theorem Ord.same {σ τ : VS} {m : Int} (h : Ord σ m) (e : Eo [] [] σ τ) : Ord τ m := by
  unfold Ord
  rw [e.1 3 (by decide), e.2 19 (by decide), e.2 20 (by decide)]
  exact h
theorem Ord.room {σ : VS} {m : Int} (h : Ord σ m) (hM : CI σ) {t : Nat} (ht : t < 50) (hn : ∀ i : Nat, (i : Int) < (σ.1 3).toInt → (σ.2.1 19 i).toInt ≠ (t : Int)) : (σ.1 3).toInt < 50 := by
  have h0 : 0 ≤ (σ.1 3).toInt ∧ (σ.1 3).toInt ≤ 50 := hM.1 3
  have hr : ∀ i, 0 ≤ (σ.2.1 19 i).toInt ∧ (σ.2.1 19 i).toInt ≤ 49 := fun i => hM.2 19 i
  have := php_new (m := 50) (n := (σ.1 3).toInt.toNat) (f := fun i => (σ.2.1 19 i).toInt.toNat) (t := t) (fun i hi => by have := hr i; show (σ.2.1 19 i).toInt.toNat < 50; omega) (fun i j hi hj he => by
    have a := hr i
    have b := hr j
    replace he : (σ.2.1 19 i).toInt.toNat = (σ.2.1 19 j).toInt.toNat := he
    exact h.2 i j (by omega) (by omega) (by omega)) ht (fun i hi => by
    have a := hr i
    have b := hn i (by omega)
    show (σ.2.1 19 i).toInt.toNat ≠ t
    omega)
  omega
/-- one more in order -/
theorem Ord.push {σ : VS} {m m' : Int} (h : Ord σ m) (hM : CI σ) {x : Int32} {t : Nat} (hx : x.toInt = (t : Int)) (ht : t < 50) (hm : (t : Int) < m') (hmm : m ≤ m') (h0 : (σ.2.1 20 t).toInt ≤ 0) (hn : ∀ i : Nat, (i : Int) < (σ.1 3).toInt → (σ.2.1 19 i).toInt ≠ (t : Int)) : Ord (sf (sa σ 19 (σ.1 3) x) 3 ((sa σ 19 (σ.1 3) x).1 3 + 1)) m' := by
  have hr := h.room hM ht hn
  have hb : 0 ≤ (σ.1 3).toInt ∧ (σ.1 3).toInt ≤ 50 := hM.1 3
  obtain ⟨n, hn3⟩ : ∃ n : Nat, (σ.1 3).toInt = (n : Int) := ⟨(σ.1 3).toInt.toNat, by omega⟩
  have e0 : (sa σ 19 (σ.1 3) x).1 3 = σ.1 3 := rfl
  have t1 : (σ.1 3 + 1).toInt = (σ.1 3).toInt + 1 := i3_addc rfl rfl rfl (by omega)
  have e1 : ((sf (sa σ 19 (σ.1 3) x) 3 ((sa σ 19 (σ.1 3) x).1 3 + 1)).1 3).toInt = (n : Int) + 1 := by rw [sf_same, e0]; omega
  have e2 : ∀ i : Nat, (sf (sa σ 19 (σ.1 3) x) 3 ((sa σ 19 (σ.1 3) x).1 3 + 1)).2.1 19 i = if i = n then x else σ.2.1 19 i := fun i => sa_at σ 19 (σ.1 3) x hn3 i
  have e3 : ∀ i : Nat, (sf (sa σ 19 (σ.1 3) x) 3 ((sa σ 19 (σ.1 3) x).1 3 + 1)).2.1 20 i = σ.2.1 20 i := fun i => congrFun (sa_other (by decide) σ (σ.1 3) x) i
  unfold Ord
  rw [e1]
  refine ⟨fun i hi => ?_, fun i j hi hj he => ?_⟩
  · rw [e2, e3]
    by_cases e : i = n
    · rw [if_pos e, hx]
      exact ⟨by simpa using h0, hm⟩
    · rw [if_neg e]
      have := h.1 i (by omega)
      exact ⟨this.1, by omega⟩
  · rw [e2, e2] at he
    by_cases a : i = n
    · by_cases b : j = n
      · omega
      · rw [if_pos a, if_neg b] at he
        exact absurd (he.symm.trans hx) (hn j (by omega))
    · by_cases b : j = n
      · rw [if_neg a, if_pos b] at he
        exact absurd (he.trans hx) (hn i (by omega))
      · rw [if_neg a, if_neg b] at he
        exact h.2 i j (by omega) (by omega) he
set_option maxHeartbeats 4000000 in
theorem rg_X1orderGates {Q : VS → Prop} {σ : VS} (hM : CI σ) (hT0 : ∀ s : Nat, s < 50 → 0 ≤ (σ.2.1 20 s).toInt) (hq : ∀ σ' : VS, CI σ' → Eo [3] [19, 20] σ σ' → Q σ') : wp_X1orderGates Q σ := by
  unfold wp_X1orderGates
  intro X7 X71 X99 H7 H71 H99
  -- the second phase: from the outer loop at l1
  have L2 : ∀ (d : Nat) (l1 : Int32) (σ1 : VS), 50 - l1.toInt < (d : Int) → 0 ≤ l1.toInt → l1.toInt ≤ 50 → CI σ1 → Eo [3] [19, 20] σ σ1 → Ord σ1 50 → (∀ s : Nat, s < 50 → -(200 * l1.toInt) ≤ (σ1.2.1 20 s).toInt) → X71 l1 σ1 := by
    intro d
    induction d with
    | zero => intro l1 σ1 h1 h2 h3; omega
    | succ d ih =>
      intro l1 σ1 h1 h2 h3 hM1 hE1 hO hT
      refine H71 l1 σ1 ?_
      unfold b_X1orderGates_71 b_X1orderGates_184
      refine ⟨fun _ => hq σ1 hM1 hE1, fun hlt => ⟨fun _ => hq σ1 hM1 hE1, fun h50 => ⟨⟨by omega, by omega⟩, fun x5 e5 => ?_⟩⟩⟩
      have a5 : 0 ≤ x5.toInt ∧ x5.toInt ≤ 49 := by rw [e5]; exact hM1.2 19 _
      refine ⟨⟨by omega, by omega⟩, fun x6 e6 => ?_⟩
      have a6 : 0 ≤ x6.toInt ∧ x6.toInt ≤ 200 := by rw [e6]; exact hM1.2 18 _
      have t1 : (l1 + 1).toInt = l1.toInt + 1 := i3_addc rfl rfl rfl (by omega)
      have t5 : (x5 + 1).toInt = x5.toInt + 1 := i3_addc rfl rfl rfl (by omega)
      have L3 : ∀ (d3 : Nat) (l3 : Int32) (σ2 : VS), 200 - l3.toInt < (d3 : Int) → 0 ≤ l3.toInt → l3.toInt ≤ 200 → CI σ2 → Eo [3] [19, 20] σ σ2 → Ord σ2 50 → (∀ s : Nat, s < 50 → -(200 * l1.toInt + l3.toInt) ≤ (σ2.2.1 20 s).toInt) → X99 l1 x5 l3 σ2 := by
        intro d3
        induction d3 with
        | zero => intro l3 σ2 k1 k2 k3; omega
        | succ d3 ih3 =>
          intro l3 σ2 k1 k2 k3 hM2 hE2 hO2 hT2
          refine H99 l1 x5 l3 σ2 ?_
          unfold b_X1orderGates_99
          have a7 : 0 ≤ (rd σ2 18 (x5 + 1)).toInt ∧ (rd σ2 18 (x5 + 1)).toInt ≤ 200 := hM2.2 18 _
          refine ⟨⟨by omega, by omega⟩, fun _ => ?_, fun hl => ⟨⟨by omega, by omega⟩, fun x7 e7 => ?_⟩⟩
          · exact ih (l1 + 1) σ2 (by omega) (by omega) (by omega) hM2 hE2 hO2 (fun s hs => by have := hT2 s hs; omega)
          · have a8 : 0 ≤ (rd σ2 17 l3).toInt ∧ (rd σ2 17 l3).toInt ≤ 199 := hM2.2 17 _
            have t7 : x7.toInt = (rd σ2 17 l3).toInt / 4 := i3_divc rfl rfl e7 (by omega) (by decide)
            obtain ⟨t, ht⟩ : ∃ t : Nat, x7.toInt = (t : Int) := ⟨x7.toInt.toNat, by omega⟩
            have t3 : (l3 + 1).toInt = l3.toInt + 1 := i3_addc rfl rfl rfl (by omega)
            have hTt := hT2 t (by omega)
            have hr0 : rd σ2 20 x7 = σ2.2.1 20 t := rd_at σ2 20 x7 ht
            have hbd := i3_bd (rd σ2 20 x7)
            have t8 : (rd σ2 20 x7 - 1).toInt = (rd σ2 20 x7).toInt - 1 := i3_subc rfl rfl rfl (by rw [hr0]; have e1 : (1 : Int32).toInt = 1 := rfl; rw [hr0] at hbd; omega)
            rw [hr0] at t8
            obtain ⟨σ3, e3⟩ : ∃ z : VS, z = sa σ2 20 x7 (rd σ2 20 x7 - 1) := ⟨_, rfl⟩
            have f3 : ∀ s : Nat, σ3.2.1 20 s = if s = t then rd σ2 20 x7 - 1 else σ2.2.1 20 s := fun s => by rw [e3]; exact sa_at σ2 20 x7 _ ht s
            have f19 : σ3.2.1 19 = σ2.2.1 19 := by rw [e3]; exact sa_other (by decide) _ _ _
            have fo : σ3.1 3 = σ2.1 3 := by rw [e3]; rfl
            have hM3 : CI σ3 := by rw [e3]; exact hM2.sa 20 _ _ (i3_bd _)
            have hE3 : Eo [3] [19, 20] σ σ3 := by rw [e3]; exact hE2.sa 20 _ _ (by decide)
            have hT3 : ∀ s : Nat, s < 50 → -(200 * l1.toInt + (l3 + 1).toInt) ≤ (σ3.2.1 20 s).toInt := by
              intro s hs
              rw [f3]
              by_cases e : s = t
              · rw [if_pos e, hr0]; omega
              · rw [if_neg e]; have := hT2 s hs; omega
            have hO3 : Ord σ3 50 := by
              unfold Ord
              rw [fo, f19]
              refine ⟨fun i hi => ?_, hO2.2⟩
              have h9 := hO2.1 i hi
              rw [f3]
              refine ⟨?_, h9.2⟩
              by_cases e : (σ2.2.1 19 i).toInt.toNat = t
              · rw [if_pos e, hr0]; rw [e] at h9; omega
              · rw [if_neg e]; exact h9.1
            rw [← e3]
            refine ⟨⟨by omega, by omega⟩, ⟨by omega, by omega⟩, ?_⟩
            refine rg_X1isGate ⟨by omega, by omega⟩ hM3 (fun r σ4 _ hM4 hE4 => ⟨fun _ => ?_, fun _ => ⟨⟨by omega, by omega⟩, fun _ => ?_, fun hz => ?_⟩⟩)
            · unfold b_X1orderGates_172
              exact ih3 (l3 + 1) σ4 (by omega) (by omega) (by omega) hM4 (hE3.of hE4 (by decide) (by decide)) (hO3.same hE4) (fun s hs => by rw [hE4.2 20 (by decide)]; exact hT3 s hs)
            · unfold b_X1orderGates_172
              exact ih3 (l3 + 1) σ4 (by omega) (by omega) (by omega) hM4 (hE3.of hE4 (by decide) (by decide)) (hO3.same hE4) (fun s hs => by rw [hE4.2 20 (by decide)]; exact hT3 s hs)
            · have hz2 : (σ4.2.1 20 t).toInt = 0 := by rw [← rd_at σ4 20 x7 ht]; exact hz
              have hz3 : (σ3.2.1 20 t).toInt = 0 := by rw [← hE4.2 20 (by decide)]; exact hz2
              have hold : (σ2.2.1 20 t).toInt = 1 := by
                rw [f3, if_pos rfl, hr0] at hz3
                omega
              have hnew : ∀ i : Nat, (i : Int) < (σ4.1 3).toInt → (σ4.2.1 19 i).toInt ≠ (t : Int) := by
                intro i hi he
                rw [hE4.1 3 (by decide), fo] at hi
                rw [hE4.2 19 (by decide), f19] at he
                have h9 := (hO2.1 i hi).1
                have e9 : (σ2.2.1 19 i).toInt.toNat = t := by omega
                rw [e9] at h9
                omega
              have hO4 := hO3.same hE4
              have hrm := hO4.room hM4 (t := t) (by omega) hnew
              have hb4 : 0 ≤ (σ4.1 3).toInt ∧ (σ4.1 3).toInt ≤ 50 := hM4.1 3
              have t9 : (((sa σ4 19 (σ4.1 3) x7).1 3) + 1).toInt = (σ4.1 3).toInt + 1 := i3_addc rfl rfl rfl (by have e1 : (1 : Int32).toInt = 1 := rfl; omega)
              refine ⟨⟨by omega, by omega⟩, ?_⟩
              unfold b_X1orderGates_172
              refine ih3 (l3 + 1) _ (by omega) (by omega) (by omega) ((hM4.sa 19 _ _ (show 0 ≤ x7.toInt ∧ x7.toInt ≤ 49 by omega)).sf 3 _ (show 0 ≤ (((sa σ4 19 (σ4.1 3) x7).1 3) + 1).toInt ∧ (((sa σ4 19 (σ4.1 3) x7).1 3) + 1).toInt ≤ 50 by omega)) (((hE3.of hE4 (by decide) (by decide)).sa 19 _ _ (by decide)).sf 3 _ (by decide)) (hO4.push hM4 ht (by omega) (by omega) (by omega) (by omega) hnew) (fun s hs => ?_)
              have e5 : (sf (sa σ4 19 (σ4.1 3) x7) 3 (((sa σ4 19 (σ4.1 3) x7).1 3) + 1)).2.1 20 s = σ4.2.1 20 s := congrFun (sa_other (by decide) σ4 (σ4.1 3) x7) s
              rw [e5, hE4.2 20 (by decide)]
              exact hT3 s hs
      exact L3 201 x6 σ1 (by omega) (by omega) (by omega) hM1 hE1 hO (fun s hs => by have := hT s hs; omega)
  -- the first phase
  have L1 : ∀ (d : Nat) (l1 : Int32) (σ1 : VS), 50 - l1.toInt < (d : Int) → 0 ≤ l1.toInt → l1.toInt ≤ 50 → CI σ1 → Eo [3] [19, 20] σ σ1 → Ord σ1 l1.toInt → (∀ s : Nat, s < 50 → 0 ≤ (σ1.2.1 20 s).toInt) → X7 l1 σ1 := by
    intro d
    induction d with
    | zero => intro l1 σ1 h1 h2 h3; omega
    | succ d ih =>
      intro l1 σ1 h1 h2 h3 hM1 hE1 hO hT
      refine H7 l1 σ1 ?_
      unfold b_X1orderGates_7
      have hc : 0 ≤ (σ1.1 2).toInt ∧ (σ1.1 2).toInt ≤ 50 := hM1.1 2
      refine ⟨fun _ => ?_, fun hlt => ?_⟩
      · exact L2 51 0 σ1 (by decide) (by decide) (by decide) hM1 hE1 ⟨fun i hi => ⟨(hO.1 i hi).1, by have := (hO.1 i hi).2; omega⟩, hO.2⟩ (fun s hs => by have := hT s hs; have e : (0 : Int32).toInt = 0 := rfl; omega)
      · obtain ⟨t, ht⟩ : ∃ t : Nat, l1.toInt = (t : Int) := ⟨l1.toInt.toNat, by omega⟩
        have t1 : (l1 + 1).toInt = l1.toInt + 1 := i3_addc rfl rfl rfl (by omega)
        refine rg4_X1gatesTakenBy ⟨by omega, by omega⟩ hM1 (fun r σ2 hr hM2 hE2 => ⟨⟨by omega, by omega⟩, ?_⟩)
        obtain ⟨σ3, e3⟩ : ∃ z : VS, z = sa σ2 20 l1 r := ⟨_, rfl⟩
        have hO2 := hO.same hE2
        have f3 : ∀ s : Nat, σ3.2.1 20 s = if s = t then r else σ2.2.1 20 s := fun s => by rw [e3]; exact sa_at σ2 20 l1 _ ht s
        have f19 : σ3.2.1 19 = σ2.2.1 19 := by rw [e3]; exact sa_other (by decide) _ _ _
        have fo : σ3.1 3 = σ2.1 3 := by rw [e3]; rfl
        have hM3 : CI σ3 := by rw [e3]; exact hM2.sa 20 _ _ (i3_bd _)
        have hE3 : Eo [3] [19, 20] σ σ3 := by rw [e3]; exact (hE1.of hE2 (by decide) (by decide)).sa 20 _ _ (by decide)
        have hT3 : ∀ s : Nat, s < 50 → 0 ≤ (σ3.2.1 20 s).toInt := by
          intro s hs
          rw [f3]
          by_cases e : s = t
          · rw [if_pos e]; exact hr.1
          · rw [if_neg e, hE2.2 20 (by decide)]; exact hT s hs
        have hO3 : Ord σ3 l1.toInt := by
          unfold Ord
          rw [fo, f19]
          refine ⟨fun i hi => ?_, hO2.2⟩
          have h9 := hO2.1 i hi
          rw [f3, if_neg (by have := h9.2; have : 0 ≤ (σ2.2.1 19 i).toInt := (hM2.2 19 i).1; omega)]
          exact h9
        have hup : ∀ τ : VS, Ord τ l1.toInt → Ord τ (l1 + 1).toInt := fun τ h => ⟨fun i hi => ⟨(h.1 i hi).1, by have := (h.1 i hi).2; omega⟩, h.2⟩
        rw [← e3]
        refine rg_X1isGate ⟨by omega, by omega⟩ hM3 (fun r4 σ4 _ hM4 hE4 => ⟨fun _ => ?_, fun _ => ⟨⟨by omega, by omega⟩, fun _ => ?_, fun hz => ?_⟩⟩)
        · unfold b_X1orderGates_63
          exact ih (l1 + 1) σ4 (by omega) (by omega) (by omega) hM4 (hE3.of hE4 (by decide) (by decide)) (hup _ (hO3.same hE4)) (fun s hs => by rw [hE4.2 20 (by decide)]; exact hT3 s hs)
        · unfold b_X1orderGates_63
          exact ih (l1 + 1) σ4 (by omega) (by omega) (by omega) hM4 (hE3.of hE4 (by decide) (by decide)) (hup _ (hO3.same hE4)) (fun s hs => by rw [hE4.2 20 (by decide)]; exact hT3 s hs)
        · have hz2 : (σ4.2.1 20 t).toInt = 0 := by rw [← rd_at σ4 20 l1 ht]; exact hz
          have hO4 := hO3.same hE4
          have hnew : ∀ i : Nat, (i : Int) < (σ4.1 3).toInt → (σ4.2.1 19 i).toInt ≠ (t : Int) := by
            intro i hi he
            have h9 := (hO4.1 i hi).2
            omega
          have hrm := hO4.room hM4 (t := t) (by omega) hnew
          have hb4 : 0 ≤ (σ4.1 3).toInt ∧ (σ4.1 3).toInt ≤ 50 := hM4.1 3
          have t9 : (((sa σ4 19 (σ4.1 3) l1).1 3) + 1).toInt = (σ4.1 3).toInt + 1 := i3_addc rfl rfl rfl (by have e1 : (1 : Int32).toInt = 1 := rfl; omega)
          refine ⟨⟨by omega, by omega⟩, ?_⟩
          unfold b_X1orderGates_63
          refine ih (l1 + 1) _ (by omega) (by omega) (by omega) ((hM4.sa 19 _ _ (show 0 ≤ l1.toInt ∧ l1.toInt ≤ 49 by omega)).sf 3 _ (show 0 ≤ (((sa σ4 19 (σ4.1 3) l1).1 3) + 1).toInt ∧ (((sa σ4 19 (σ4.1 3) l1).1 3) + 1).toInt ≤ 50 by omega)) (((hE3.of hE4 (by decide) (by decide)).sa 19 _ _ (by decide)).sf 3 _ (by decide)) (hO4.push hM4 ht (by omega) (by omega) (by omega) (by omega) hnew) (fun s hs => ?_)
          have e5 : (sf (sa σ4 19 (σ4.1 3) l1) 3 (((sa σ4 19 (σ4.1 3) l1).1 3) + 1)).2.1 20 s = σ4.2.1 20 s := congrFun (sa_other (by decide) σ4 (σ4.1 3) l1) s
          rw [e5, hE4.2 20 (by decide)]
          exact hT3 s hs
  have e0 : (sf σ 3 0).1 3 = 0 := rfl
  refine L1 51 0 _ (by decide) (by decide) (by decide) (hM.sf 3 0 (show 0 ≤ (0 : Int32).toInt ∧ (0 : Int32).toInt ≤ 50 by decide)) (Eo.rfl.sf 3 0 (by decide)) ?_ hT0
  unfold Ord
  rw [e0]
  exact ⟨fun i hi => by have e : (0 : Int32).toInt = 0 := rfl; omega, fun i j hi => by have e : (0 : Int32).toInt = 0 := rfl; omega⟩
/-- arrange -/
theorem rg_X1arrange {Q : VS → Prop} {σ : VS} (hM : CI σ) (hC : CSrc σ) (hq : ∀ σ' : VS, CI σ' → Eo [3] [17, 18, 19, 20] σ σ' → Q σ') : wp_X1arrange Q σ := by
  unfold wp_X1arrange
  refine rg_X1listTakers hM hC (fun σ1 hM1 hE1 hT1 => ?_)
  refine rg_X1orderGates hM1 hT1 (fun σ2 hM2 hE2 => ?_)
  exact hq σ2 hM2 ((hE1.mono (by decide) (by decide)).trans (hE2.mono (by decide) (by decide)))

