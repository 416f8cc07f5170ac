/-! THE CLOCK'S NODES OF BOTH SIDES -/
def ex (a : Nat → Int32) (p : Int32) : Int32 := if p.toInt < 0 then 0 else a p.toNatClampNeg
def Dn (σ τ : VS) : Prop := ∀ j : Nat, (j : Int) < (σ.1 5).toInt → σ.2.1 28 j = τ.2.1 22 j ∧ σ.2.1 29 j = ex (σ.2.1 29) (σ.2.1 28 j) + τ.2.1 23 j ∧ σ.2.1 30 j = ex (σ.2.1 30) (σ.2.1 28 j) + τ.2.1 24 j
theorem Dn.quiet {σ τ σ' τ' : VS} {F A F2 A2 : List Nat} (h : Dn σ τ) (e : Eo F A σ σ') (f : Eo F2 A2 τ τ') (h1 : 5 ∉ F ∧ ∀ k ∈ [28, 29, 30], k ∉ A) (h2 : ∀ k ∈ [22, 23, 24], k ∉ A2) : Dn σ' τ' := by
  intro j hj
  rw [e.1 5 h1.1] at hj
  rw [e.2 28 (h1.2 28 (by decide)), e.2 29 (h1.2 29 (by decide)), e.2 30 (h1.2 30 (by decide)), f.2 22 (h2 22 (by decide)), f.2 23 (h2 23 (by decide)), f.2 24 (h2 24 (by decide))]
  exact h j hj
theorem ex_of {a : Nat → Int32} {p : Int32} {n : Nat} (h : p.toInt = (n : Int)) : ex a p = a n := by
  unfold ex
  have := i3_nat (i := p) (by omega)
  rw [if_neg (by omega)]
  congr 1
  omega
theorem ex_neg {a : Nat → Int32} {p : Int32} (h : p.toInt < 0) : ex a p = 0 := if_pos h
theorem ex_upd {a b : Nat → Int32} {p : Int32} {n : Nat} (h : p.toInt < (n : Int)) (hb : ∀ j, j < n → b j = a j) : ex b p = ex a p := by
  by_cases c : p.toInt < 0
  · rw [ex_neg c, ex_neg c]
  · obtain ⟨m, hm⟩ : ∃ m : Nat, p.toInt = (m : Int) := ⟨p.toInt.toNat, by omega⟩
    rw [ex_of hm, ex_of hm]; exact hb m (by omega)
theorem early_x {Q : Int32 → VS → Prop} {p1 : Int32} {σ : VS} (hp : -1 ≤ p1.toInt ∧ p1.toInt < 20) (h : Q (ex (σ.2.1 29) p1) σ) : wp_X0earlyOf Q p1 σ := by
  unfold wp_X0earlyOf b_X0earlyOf_14
  refine ⟨fun k => ⟨⟨k, by omega⟩, ?_⟩, fun k => ?_⟩
  · unfold ex at h; rw [if_neg (by omega)] at h; exact h
  · rw [ex_neg k] at h; exact h
theorem late_x {Q : Int32 → VS → Prop} {p1 : Int32} {σ : VS} (hp : -1 ≤ p1.toInt ∧ p1.toInt < 20) (h : Q (ex (σ.2.1 30) p1) σ) : wp_X0lateOf Q p1 σ := by
  unfold wp_X0lateOf b_X0lateOf_14
  refine ⟨fun k => ⟨⟨k, by omega⟩, ?_⟩, fun k => ?_⟩
  · unfold ex at h; rw [if_neg (by omega)] at h; exact h
  · rw [ex_neg k] at h; exact h
def nodeC (n : Nat) (p1 p2 p3 : Int32) (σ z : VS) : Prop := (z.1 5).toInt = (n : Int) + 1 ∧ ∀ j, z.2.1 28 j = (if j = n then p1 else σ.2.1 28 j) ∧ z.2.1 29 j = (if j = n then ex (σ.2.1 29) p1 + p2 else σ.2.1 29 j) ∧ z.2.1 30 j = (if j = n then ex (σ.2.1 30) p1 + p3 else σ.2.1 30 j)
def nodeM (n : Nat) (p1 p2 p3 : Int32) (σ z : VS) : Prop := ∀ j, z.2.1 22 j = (if j = n then p1 else σ.2.1 22 j) ∧ z.2.1 23 j = (if j = n then p2 else σ.2.1 23 j) ∧ z.2.1 24 j = (if j = n then p3 else σ.2.1 24 j)
theorem cx_node {Q : Int32 → VS → Prop} {p1 p2 p3 : Int32} {σ : VS} (hM : CI σ) (h1 : okN (σ.1 5).toInt p1 p2 p3 → (σ.1 5).toInt < 20 → ∀ (r : Int32) (n : Nat) (z : VS), (σ.1 5).toInt = (n : Int) → nodeC n p1 p2 p3 σ z → Q r z) (h2 : ¬ (okN (σ.1 5).toInt p1 p2 p3 ∧ (σ.1 5).toInt < 20) → ∀ r, Q r σ) : wp_X9node Q p1 p2 p3 σ := by
  have hb : 0 ≤ (σ.1 5).toInt ∧ (σ.1 5).toInt ≤ 20 := hM.1 5
  unfold okN at h1 h2
  unfold wp_X9node b_X9node_26
  refine xroot_x (fun k => ⟨fun z => absurd z (by decide), fun _ => ?_⟩) (fun k => ⟨fun _ => h2 (by omega) _, fun z => absurd rfl z⟩)
  refine ⟨fun h => h2 (by omega) _, fun h3 => ⟨fun h => h2 (by omega) _, fun h4 => ⟨fun h5 => ⟨fun h6 => ?_, fun h6 => h2 (by omega) _⟩, fun h => h2 (by omega) _⟩⟩⟩
  have t : (σ.1 5 + 1).toInt = (σ.1 5).toInt + 1 := i3_addc rfl rfl rfl (by have e9 : (1 : Int32).toInt = 1 := rfl; omega)
  unfold wp_X0addNode
  intro x1 ex1
  have hx : x1.toInt = (σ.1 5).toInt := by rw [ex1]
  obtain ⟨n, hn⟩ : ∃ n : Nat, (σ.1 5).toInt = (n : Int) := ⟨(σ.1 5).toInt.toNat, by omega⟩
  have hxn : x1.toInt = (n : Int) := by omega
  refine ⟨⟨by omega, by omega⟩, early_x (by omega) ⟨⟨by omega, by omega⟩, late_x (by omega) ⟨⟨by omega, by omega⟩, h1 (by omega) h6 _ n _ hn ?_⟩⟩⟩
  refine ⟨?_, fun j => ⟨?_, ?_, ?_⟩⟩
  · show ((sf σ 5 (σ.1 5 + 1)).1 5).toInt = _
    rw [sf_same]; omega
  · rw [sa_other (by decide), sa_other (by decide), sa_at _ 28 x1 _ hxn]; rfl
  · rw [sa_other (by decide), sa_at _ 29 x1 _ hxn, sa_other (by decide)]; rfl
  · rw [sa_at _ 30 x1 _ hxn, sa_other (by decide), sa_other (by decide)]; rfl
theorem rx_node {Q : Int32 → VS → Prop} {p1 p2 p3 : Int32} {σ : VS} (hM : MI σ) (h1 : okN (σ.1 21).toInt p1 p2 p3 → (σ.1 21).toInt < 20 → ∀ (r : Int32) (n : Nat) (z : VS), (σ.1 21).toInt = (n : Int) → nodeM n p1 p2 p3 σ z → Q r z) (h2 : ¬ (okN (σ.1 21).toInt p1 p2 p3 ∧ (σ.1 21).toInt < 20) → ∀ r, Q r σ) : wp_node Q p1 p2 p3 σ := by
  have hb : 0 ≤ (σ.1 21).toInt ∧ (σ.1 21).toInt ≤ 20 := hM.1 21
  unfold okN at h1 h2
  unfold wp_node b_node_28
  obtain ⟨n, hn⟩ : ∃ n : Nat, (σ.1 21).toInt = (n : Int) := ⟨(σ.1 21).toInt.toNat, by omega⟩
  refine ⟨fun h => h2 (by omega) _, fun k1 => ⟨fun h => h2 (by omega) _, fun k2 => ⟨fun h => h2 (by omega) _, fun k3 => ⟨fun h => h2 (by omega) _, fun k4 => ⟨fun k5 => ⟨fun k6 => ⟨⟨by omega, by omega⟩, ⟨hb.1, show (σ.1 21).toInt < 20 by omega⟩, ⟨hb.1, show (σ.1 21).toInt < 20 by omega⟩, h1 (by omega) (by omega) _ n _ hn ?_⟩, fun k6 => h2 (by omega) _⟩, fun h => h2 (by omega) _⟩⟩⟩⟩⟩
  intro j
  refine ⟨?_, ?_, ?_⟩
  · show (sa (sa (sa σ 22 (σ.1 21) p1) 23 (σ.1 21) p2) 24 (σ.1 21) p3).2.1 22 j = _
    rw [sa_other (by decide), sa_other (by decide), sa_at _ 22 _ _ hn]
  · show (sa (sa (sa σ 22 (σ.1 21) p1) 23 (σ.1 21) p2) 24 (σ.1 21) p3).2.1 23 j = _
    rw [sa_other (by decide), sa_at _ 23 _ _ hn, sa_other (by decide)]
  · show (sa (sa (sa σ 22 (σ.1 21) p1) 23 (σ.1 21) p2) 24 (σ.1 21) p3).2.1 24 j = _
    rw [sa_at _ 24 _ _ hn, sa_other (by decide), sa_other (by decide)]
theorem dn_node {p1 p2 p3 : Int32} {σ τ : VS} (J : Jn σ τ) (D : Dn σ τ) : wp_X9node (fun _ σ' => wp_node (fun _ τ' => Dn σ' τ') p1 p2 p3 τ) p1 p2 p3 σ := by
  obtain ⟨hM, hC, hM2, hS, hL, k1, k2, -⟩ := J
  refine cx_node hM (fun a b r n z hn hz => rx_node hM2 (fun c d r2 n2 z2 hn2 hz2 => ?_) (fun h => absurd ⟨by rw [← k2]; exact a, by rw [← k2]; exact b⟩ h)) (fun h r => rx_node hM2 (fun c d => absurd ⟨by rw [k2]; exact c, by rw [k2]; exact d⟩ h) (fun _ r2 => D))
  have en : n2 = n := by rw [← k2] at hn2; omega
  subst en
  unfold okN at a
  have hpar : ∀ j : Nat, j < n2 → (σ.2.1 28 j).toInt < (j : Int) := fun j hj => by
    rw [(D j (by omega)).1]; exact hS.2.1 j (by omega)
  intro j hj
  obtain ⟨z5, zj⟩ := hz
  rw [z5] at hj
  obtain ⟨c28, c29, c30⟩ := zj j
  obtain ⟨m22, m23, m24⟩ := hz2 j
  have q29 : ∀ i, i < n2 → z.2.1 29 i = σ.2.1 29 i := fun i hi => by rw [(zj i).2.1, if_neg (by omega)]
  have q30 : ∀ i, i < n2 → z.2.1 30 i = σ.2.1 30 i := fun i hi => by rw [(zj i).2.2, if_neg (by omega)]
  rw [c28, c29, c30, m22, m23, m24]
  by_cases c : j = n2
  · simp only [c, if_true]
    rw [ex_upd (a := σ.2.1 29) (n := n2) (by omega) q29, ex_upd (a := σ.2.1 30) (n := n2) (by omega) q30]
    exact ⟨trivial, rfl, rfl⟩
  · simp only [c, if_false]
    have hp := hpar j (by omega)
    have old := D j (by omega)
    rw [ex_upd (a := σ.2.1 29) (n := n2) (by omega) q29, ex_upd (a := σ.2.1 30) (n := n2) (by omega) q30]
    exact old
/-! the way to the root -/
def OnW (P : Nat → Int32) (a : Int) (l : Nat) : Prop := ∀ X : Int → Prop, X (l : Int) → (∀ b : Nat, X (P b).toInt → X (b : Int)) → X a
theorem OnW.here {P : Nat → Int32} (l : Nat) : OnW P (l : Int) l := fun _ h _ => h
theorem OnW.up {P : Nat → Int32} (a l : Nat) (h : OnW P (P a).toInt l) : OnW P (a : Int) l := fun X hl hs => hs a (h X hl hs)
theorem ow_neg {P : Nat → Int32} {a : Int} {l : Nat} (h : OnW P a l) : 0 ≤ a := h (fun a => 0 ≤ a) (by omega) (fun b _ => by omega)
theorem ow_iff {P : Nat → Int32} {a l : Nat} : OnW P (a : Int) l ↔ a = l ∨ OnW P (P a).toInt l := by
  constructor
  · intro h
    refine (h (fun a' => OnW P a' l ∧ ∀ a : Nat, a' = (a : Int) → a = l ∨ OnW P (P a).toInt l) ⟨OnW.here l, fun a e => Or.inl (by omega)⟩ (fun b hb => ⟨OnW.up b l hb.1, fun a e => ?_⟩)).2 a rfl
    have e2 : a = b := by omega
    rw [e2]; exact Or.inr hb.1
  · intro h
    rcases h with h | h
    · rw [h]; exact OnW.here l
    · exact OnW.up a l h
theorem ow_le {P : Nat → Int32} {N : Nat} (hP : ∀ j : Nat, j < N → (P j).toInt < (j : Int)) : ∀ (d : Nat) (a : Int) (l : Nat), a < (d : Int) → a < (N : Int) → OnW P a l → (l : Int) ≤ a := by
  intro d
  induction d with
  | zero => intro a l h1 _ h; have := ow_neg h; omega
  | succ d ih =>
    intro a l h1 h2 h
    have h0 := ow_neg h
    obtain ⟨n, rfl⟩ : ∃ n : Nat, a = (n : Int) := ⟨a.toNat, by omega⟩
    rcases ow_iff.mp h with e | e
    · omega
    · have := hP n (by omega)
      have := ih _ l (by omega) (by omega) e
      omega
noncomputable def sumC (C : Nat → Prop) (d : Nat → Int32) : Nat → Int32
  | 0 => 0
  | n + 1 => @ite Int32 (C n) (Classical.propDecidable (C n)) (sumC C d n + d n) (sumC C d n)
theorem sumC_same {C C' : Nat → Prop} {d : Nat → Int32} : ∀ (n : Nat), (∀ l, l < n → (C l ↔ C' l)) → sumC C d n = sumC C' d n
  | 0, _ => rfl
  | n + 1, h => by
    have ih := sumC_same n (fun l hl => h l (by omega)) (d := d)
    unfold sumC
    by_cases c : C n
    · rw [if_pos c, if_pos ((h n (by omega)).mp c), ih]
    · rw [if_neg c, if_neg (fun k => c ((h n (by omega)).mpr k)), ih]
theorem sumC_none {C : Nat → Prop} {d : Nat → Int32} : ∀ (n : Nat), (∀ l, l < n → ¬ C l) → sumC C d n = 0
  | 0, _ => rfl
  | n + 1, h => by
    unfold sumC
    rw [if_neg (h n (by omega))]
    exact sumC_none n (fun l hl => h l (by omega))
theorem sumC_more {C C' : Nat → Prop} {d : Nat → Int32} {m : Nat} (hm : ¬ C m) (h : ∀ l, C' l ↔ l = m ∨ C l) : ∀ (n : Nat), m < n → sumC C' d n = sumC C d n + d m
  | 0, k => absurd k (by omega)
  | n + 1, k => by
    unfold sumC
    by_cases e : n = m
    · subst e
      rw [if_pos ((h n).mpr (Or.inl rfl)), if_neg hm, sumC_same n (fun l hl => (h l).trans ⟨fun z => z.resolve_left (by omega), Or.inr⟩)]
    · have ih := sumC_more hm h n (by omega) (d := d)
      by_cases c : C n
      · rw [if_pos c, if_pos ((h n).mpr (Or.inr c)), ih, Int32.add_assoc, Int32.add_assoc, Int32.add_comm (d m)]
      · rw [if_neg c, if_neg (fun z => ((h n).mp z).elim e c), ih]
theorem sum_way {P d S : Nat → Int32} {N : Nat} (hP : ∀ j : Nat, j < N → -1 ≤ (P j).toInt ∧ (P j).toInt < (j : Int)) (hS : ∀ j : Nat, j < N → S j = ex S (P j) + d j) : ∀ (k : Nat) (m : Int32), m.toInt < (k : Int) → m.toInt < (N : Int) → sumC (OnW P m.toInt) d N = ex S m := by
  intro k
  induction k with
  | zero => intro m h1 _; rw [ex_neg (by omega)]; exact sumC_none N (fun l _ h => by have := ow_neg h; omega)
  | succ k ih =>
    intro m h1 h2
    by_cases c : m.toInt < 0
    · rw [ex_neg c]; exact sumC_none N (fun l _ h => by have := ow_neg h; omega)
    · obtain ⟨n, hn⟩ : ∃ n : Nat, m.toInt = (n : Int) := ⟨m.toInt.toNat, by omega⟩
      have hp := hP n (by omega)
      rw [ex_of hn, hS n (by omega), hn, ← ih (P n) (by omega) (by omega)]
      refine sumC_more (m := n) (fun h => ?_) (fun l => ?_) N (by omega)
      · have := ow_le (fun j hj => (hP j hj).2) N _ n (by omega) (by omega) h
        omega
      · exact ow_iff.trans ⟨fun h => h.imp (fun e => e.symm) id, fun h => h.imp (fun e => e.symm) id⟩
theorem onWay_x {Q : Int32 → VS → Prop} {p1 p2 : Int32} {σ : VS} {l : Nat} (hl : p1.toInt = (l : Int)) (h1 : -1 ≤ p2.toInt ∧ p2.toInt < (σ.1 21).toInt) (hS : SI σ) (hM : MI σ) (hy : OnW (σ.2.1 22) p2.toInt l → Q 1 σ) (hn : ¬ OnW (σ.2.1 22) p2.toInt l → Q 0 σ) : wp_isOnWay Q p1 p2 σ := by
  unfold wp_isOnWay
  intro X2 H
  have hb : 0 ≤ (σ.1 21).toInt ∧ (σ.1 21).toInt ≤ 20 := hM.1 21
  have L : ∀ (d : Nat) (l3 : Int32), l3.toInt < (d : Int) → -1 ≤ l3.toInt ∧ l3.toInt < (σ.1 21).toInt → (OnW (σ.2.1 22) l3.toInt l ↔ OnW (σ.2.1 22) p2.toInt l) → X2 p1 l3 σ := by
    intro d
    induction d with
    | zero =>
      intro l3 h2 h3 hi
      refine H p1 l3 σ ?_
      unfold b_isOnWay_2
      exact ⟨fun h => hn (fun k => by have := ow_neg (hi.mpr k); omega), fun h => by omega⟩
    | succ d ih =>
      intro l3 h2 h3 hi
      refine H p1 l3 σ ?_
      unfold b_isOnWay_2
      refine ⟨fun h => hn (fun k => by have := ow_neg (hi.mpr k); omega), fun h => ?_⟩
      obtain ⟨j, hj⟩ : ∃ j : Nat, l3.toInt = (j : Int) := ⟨l3.toInt.toNat, by omega⟩
      refine ⟨fun hne => ⟨⟨by omega, by omega⟩, fun x2 e2 => ?_⟩, fun he => hy (hi.mp ?_)⟩
      · have k1 := hS.2.1 j (by omega)
        have k2 : -1 ≤ x2.toInt ∧ x2.toInt ≤ 19 := by rw [e2]; exact hM.2 22 _
        rw [rd_at σ 22 l3 hj] at e2
        rw [← e2] at k1
        refine ih x2 (by omega) (by omega) (Iff.trans ?_ hi)
        rw [hj, ow_iff, ← e2]
        exact ⟨Or.inr, fun z => z.resolve_left (by omega)⟩
      · have : j = l := by omega
        rw [hj, this]; exact OnW.here l
  exact L 20 p2 (by omega) h1 Iff.rfl
theorem rx_shared {Q : Int32 → VS → Prop} {p1 p2 : Int32} {σ : VS} (h1 : 0 ≤ p1.toInt ∧ p1.toInt < (σ.1 1).toInt) (h2 : 0 ≤ p2.toInt ∧ p2.toInt < (σ.1 1).toInt) (hS : SI σ) (hM : MI σ) (hy : (rd σ 2 p1).toInt = 4 ∧ (rd σ 2 p2).toInt = 4 → ∀ N : Nat, (σ.1 21).toInt = (N : Int) → Q (sumC (fun l => OnW (σ.2.1 22) (rd σ 11 p1).toInt l ∧ OnW (σ.2.1 22) (rd σ 11 p2).toInt l) (fun j => σ.2.1 24 j - σ.2.1 23 j) N) σ) (hn : ¬ ((rd σ 2 p1).toInt = 4 ∧ (rd σ 2 p2).toInt = 4) → Q 0 σ) : wp_shared Q p1 p2 σ := by
  unfold wp_shared
  intro X27 H
  have hc : 0 ≤ (σ.1 1).toInt ∧ (σ.1 1).toInt ≤ 50 := hM.1 1
  have hb : 0 ≤ (σ.1 21).toInt ∧ (σ.1 21).toInt ≤ 20 := hM.1 21
  obtain ⟨N, hN⟩ : ∃ N : Nat, (σ.1 21).toInt = (N : Int) := ⟨(σ.1 21).toInt.toNat, by omega⟩
  have n1 := nd_ok hS hM h1
  have n2 := nd_ok hS hM h2
  have L : ((rd σ 2 p1).toInt = 4 ∧ (rd σ 2 p2).toInt = 4) → ∀ (m : Nat) (n : Nat) (l3 l4 : Int32), N - n < m → n ≤ N → l4.toInt = (n : Int) → l3 = sumC (fun l => OnW (σ.2.1 22) (rd σ 11 p1).toInt l ∧ OnW (σ.2.1 22) (rd σ 11 p2).toInt l) (fun j => σ.2.1 24 j - σ.2.1 23 j) n → X27 p1 p2 l3 l4 σ := by
    intro ok m
    induction m with
    | zero => intro n l3 l4 k; omega
    | succ m ih =>
      intro n l3 l4 k hn4 h4 h3
      refine H _ _ _ _ _ ?_
      unfold b_shared_27 b_shared_84
      refine ⟨fun g => ?_, fun g => ⟨⟨by omega, by omega⟩, ?_⟩⟩
      · have : n = N := by omega
        rw [h3, this]; exact hy ok N hN
      · have t : (l4 + 1).toInt = ((n + 1 : Nat) : Int) := by
          have := i3_addc (x := l4 + 1) h4 (show (1 : Int32).toInt = 1 from rfl) rfl (by omega)
          omega
        refine onWay_x h4 n1 hS hM (fun a => ⟨fun z => absurd z (by decide), fun _ => ⟨⟨by omega, by omega⟩, ?_⟩⟩) (fun a => ⟨fun _ => ?_, fun z => absurd rfl z⟩)
        · refine onWay_x h4 n2 hS hM (fun b => ⟨fun z => absurd z (by decide), fun _ => ⟨⟨by omega, by omega⟩, ⟨by omega, by omega⟩, fun x5 e5 => ?_⟩⟩) (fun b => ⟨fun _ => ?_, fun z => absurd rfl z⟩)
          · refine ih (n + 1) x5 (l4 + 1) (by omega) (by omega) t ?_
            unfold sumC
            rw [if_pos ⟨a, b⟩, e5, h3, rd_at σ 24 l4 h4, rd_at σ 23 l4 h4]
          · refine ih (n + 1) l3 (l4 + 1) (by omega) (by omega) t ?_
            unfold sumC
            rw [if_neg (fun z => b z.2), h3]
        · refine ih (n + 1) l3 (l4 + 1) (by omega) (by omega) t ?_
          unfold sumC
          rw [if_neg (fun z => a z.1), h3]
  unfold b_shared_20
  exact ⟨⟨by omega, by omega⟩, fun c => hn (fun z => c z.1), fun c => ⟨⟨by omega, by omega⟩, fun d => L ⟨c, d⟩ (N + 1) 0 0 0 (by omega) (by omega) rfl rfl, fun d => hn (fun z => d z.2)⟩⟩
theorem cx_shared {Q : Int32 → VS → Prop} {p1 p2 : Int32} {σ : VS} {N : Nat} (hN : N ≤ 20) (h1 : -1 ≤ p1.toInt ∧ p1.toInt < (N : Int)) (h2 : -1 ≤ p2.toInt ∧ p2.toInt < (N : Int)) (hP : ∀ j : Nat, j < N → -1 ≤ (σ.2.1 28 j).toInt ∧ (σ.2.1 28 j).toInt < (j : Int)) (hq : ∀ m : Int32, -1 ≤ m.toInt ∧ m.toInt < (N : Int) → (∀ l, OnW (σ.2.1 28) m.toInt l ↔ OnW (σ.2.1 28) p1.toInt l ∧ OnW (σ.2.1 28) p2.toInt l) → Q (ex (fun j => σ.2.1 30 j - σ.2.1 29 j) m) σ) : wp_X0sharedOf Q p1 p2 σ := by
  unfold wp_X0sharedOf
  intro X8 H
  have hout : ∀ m : Int32, -1 ≤ m.toInt ∧ m.toInt < (N : Int) → (∀ l, OnW (σ.2.1 28) m.toInt l ↔ OnW (σ.2.1 28) p1.toInt l ∧ OnW (σ.2.1 28) p2.toInt l) → b_X0sharedOf_52 X8 Q m σ := by
    intro m a b
    have g := hq m a b
    unfold b_X0sharedOf_52 b_X0sharedOf_73
    refine ⟨fun c => ⟨⟨c, by omega⟩, ⟨c, by omega⟩, ?_⟩, fun c => ?_⟩
    · unfold ex at g; rw [if_neg (by omega)] at g; exact g
    · rw [ex_neg c] at g; exact g
  have L : ∀ (d : Nat) (l3 l4 l5 : Int32), (l3.toInt + 1) + (l4.toInt + 1) ≤ (d : Int) → 0 ≤ l5.toInt ∧ l5.toInt + ((l3.toInt + 1) + (l4.toInt + 1)) ≤ 40 → -1 ≤ l3.toInt ∧ l3.toInt < (N : Int) → -1 ≤ l4.toInt ∧ l4.toInt < (N : Int) → (∀ l, (OnW (σ.2.1 28) l3.toInt l ∧ OnW (σ.2.1 28) l4.toInt l) ↔ OnW (σ.2.1 28) p1.toInt l ∧ OnW (σ.2.1 28) p2.toInt l) → X8 l3 l4 l5 σ := by
    intro d
    induction d with
    | zero =>
      intro l3 l4 l5 k1 k2 k3 k4 hi
      have e34 : l3 = l4 := ti_inj (by omega)
      refine H _ _ _ _ ?_
      unfold b_X0sharedOf_8
      have ho := hout l3 k3 (fun l => by rw [← hi l, ← e34]; exact ⟨fun h => ⟨h, h⟩, fun h => h.1⟩)
      exact ⟨fun _ => ho, fun _ => ⟨fun _ => ho, fun c => absurd (by rw [e34]) c⟩⟩
    | succ d ih =>
      intro l3 l4 l5 k1 k2 k3 k4 hi
      refine H _ _ _ _ ?_
      unfold b_X0sharedOf_8 b_X0sharedOf_46
      have ho : l3.toInt = l4.toInt → b_X0sharedOf_52 X8 Q l3 σ := fun e => hout l3 k3 (fun l => by rw [← hi l, ← e]; exact ⟨fun h => ⟨h, h⟩, fun h => h.1⟩)
      refine ⟨fun c => ho (by omega), fun c => ⟨ho, fun c2 => ?_⟩⟩
      have t : (l5 + 1).toInt = l5.toInt + 1 := i3_addc rfl rfl rfl (by have e9 : (1 : Int32).toInt = 1 := rfl; omega)
      refine ⟨fun c3 => ⟨⟨by omega, by omega⟩, fun x ex1 => ?_⟩, fun c3 => ⟨⟨by omega, by omega⟩, fun x ex1 => ?_⟩⟩
      · obtain ⟨j, hj⟩ : ∃ j : Nat, l4.toInt = (j : Int) := ⟨l4.toInt.toNat, by omega⟩
        have hp := hP j (by omega)
        rw [rd_at σ 28 l4 hj] at ex1
        rw [← ex1] at hp
        refine ih l3 x (l5 + 1) (by omega) (by omega) k3 (by omega) (fun l => Iff.trans ?_ (hi l))
        rw [hj, ow_iff, ← ex1]
        refine ⟨fun z => ⟨z.1, Or.inr z.2⟩, fun z => ⟨z.1, z.2.resolve_left (fun e => ?_)⟩⟩
        have := ow_le (fun j hj => (hP j hj).2) N _ l (by omega) (by omega) z.1
        omega
      · obtain ⟨j, hj⟩ : ∃ j : Nat, l3.toInt = (j : Int) := ⟨l3.toInt.toNat, by omega⟩
        have hp := hP j (by omega)
        rw [rd_at σ 28 l3 hj] at ex1
        rw [← ex1] at hp
        refine ih x l4 (l5 + 1) (by omega) (by omega) (by omega) k4 (fun l => Iff.trans ?_ (hi l))
        rw [hj, ow_iff, ← ex1]
        refine ⟨fun z => ⟨Or.inr z.1, z.2⟩, fun z => ⟨z.1.resolve_left (fun e => ?_), z.2⟩⟩
        have := ow_le (fun j hj => (hP j hj).2) N _ l (by omega) (by omega) z.2
        omega
  exact L 40 p1 p2 0 (by omega) (by have e9 : (0 : Int32).toInt = 0 := rfl; omega) h1 h2 (fun l => Iff.rfl)
theorem ow_same {P P' : Nat → Int32} {N : Nat} (hP : ∀ j : Nat, j < N → (P j).toInt < (j : Int)) (hs : ∀ j, j < N → P' j = P j) : ∀ (d : Nat) (a : Int) (l : Nat), a < (d : Int) → a < (N : Int) → (OnW P a l ↔ OnW P' a l) := by
  intro d
  induction d with
  | zero => intro a l h1 _; exact ⟨fun h => by have := ow_neg h; omega, fun h => by have := ow_neg h; omega⟩
  | succ d ih =>
    intro a l h1 h2
    by_cases c : a < 0
    · exact ⟨fun h => by have := ow_neg h; omega, fun h => by have := ow_neg h; omega⟩
    · obtain ⟨n, rfl⟩ : ∃ n : Nat, a = (n : Int) := ⟨a.toNat, by omega⟩
      have := hP n (by omega)
      rw [ow_iff, ow_iff, hs n (by omega), ih (P n).toInt l (by omega) (by omega)]
theorem sumC_cong {C : Nat → Prop} {d d' : Nat → Int32} : ∀ (n : Nat), (∀ l, l < n → d l = d' l) → sumC C d n = sumC C d' n
  | 0, _ => rfl
  | n + 1, h => by
    have ih := sumC_cong n (fun l hl => h l (by omega)) (C := C)
    unfold sumC
    rw [ih, h n (by omega)]
theorem S_step {a b c d : Int32} : (a + b) - (c + d) = (a - c) + (b - d) := by
  have e : ∀ x y : Int32, x - y = x + -y := fun x y => Int32.sub_eq_add_neg x y
  rw [e, e, e, Int32.neg_add]
  rw [e]
  ac_rfl
theorem shared_eq {p1 p2 : Int32} {σ τ : VS} (J : Jn σ τ) (D : Dt σ τ) (N : Dn σ τ) (h1 : 0 ≤ p1.toInt ∧ p1.toInt < (σ.1 2).toInt) (h2 : 0 ≤ p2.toInt ∧ p2.toInt < (σ.1 2).toInt) {Q : Int32 → Int32 → Prop} (hq : ∀ r, Q r r) : wp_X2sharedOf (fun r σ' => σ' = σ ∧ wp_shared (fun r2 τ' => τ' = τ ∧ Q r r2) p1 p2 τ) p1 p2 σ := by
  obtain ⟨hM, hC, hM2, hS, hL, k1, k2, -⟩ := J
  have t1 : (σ.1 2).toInt = (τ.1 1).toInt := by rw [k1]
  have hc : 0 ≤ (σ.1 2).toInt ∧ (σ.1 2).toInt ≤ 50 := hM.1 2
  have hb : 0 ≤ (τ.1 21).toInt ∧ (τ.1 21).toInt ≤ 20 := hM2.1 21
  have kd1 : rd σ 11 p1 = rd τ 2 p1 := D.cell (q := (11, 2)) (by decide) h1
  have kd2 : rd σ 11 p2 = rd τ 2 p2 := D.cell (q := (11, 2)) (by decide) h2
  have nd1 : rd σ 25 p1 = rd τ 11 p1 := D.cell (q := (25, 11)) (by decide) h1
  have nd2 : rd σ 25 p2 = rd τ 11 p2 := D.cell (q := (25, 11)) (by decide) h2
  have o1 := nd_ok hS hM2 (p1 := p1) (by omega)
  have o2 := nd_ok hS hM2 (p1 := p2) (by omega)
  obtain ⟨n, hn⟩ : ∃ n : Nat, (τ.1 21).toInt = (n : Int) := ⟨(τ.1 21).toInt.toNat, by omega⟩
  have t5 : (σ.1 5).toInt = (n : Int) := by rw [k2]; exact hn
  have hno : ¬ ((rd τ 2 p1).toInt = 4 ∧ (rd τ 2 p2).toInt = 4) → wp_shared (fun r2 τ' => τ' = τ ∧ Q 0 r2) p1 p2 τ := fun h => rx_shared (by omega) (by omega) hS hM2 (fun k => absurd k h) (fun _ => ⟨rfl, hq 0⟩)
  have hP : ∀ j : Nat, j < n → -1 ≤ (σ.2.1 28 j).toInt ∧ (σ.2.1 28 j).toInt < (j : Int) := fun j hj => by
    have a := (N j (by omega)).1
    have b := hS.2.1 j (by omega)
    have c : -1 ≤ (σ.2.1 28 j).toInt ∧ (σ.2.1 28 j).toInt ≤ 19 := hM.2 28 j
    rw [← a] at b
    exact ⟨c.1, b⟩
  unfold wp_X2sharedOf b_X2sharedOf_26
  rw [kd1, kd2, nd1, nd2]
  refine ⟨⟨by omega, by omega⟩, fun c => ⟨rfl, hno (fun z => c z.1)⟩, fun c => ⟨⟨by omega, by omega⟩, fun d => ⟨⟨by omega, by omega⟩, ⟨by omega, by omega⟩, ?_⟩, fun d => ⟨rfl, hno (fun z => d z.2)⟩⟩⟩
  refine cx_shared (N := n) (by omega) (by omega) (by omega) hP (fun m hm hi => ⟨rfl, ?_⟩)
  refine rx_shared (by omega) (by omega) hS hM2 (fun _ N2 hN2 => ⟨rfl, ?_⟩) (fun z => absurd ⟨c, d⟩ z)
  have e2 : N2 = n := by omega
  subst e2
  have hs : ∀ j, j < N2 → τ.2.1 22 j = σ.2.1 28 j := fun j hj => (N j (by omega)).1.symm
  have key : sumC (fun l => OnW (τ.2.1 22) (rd τ 11 p1).toInt l ∧ OnW (τ.2.1 22) (rd τ 11 p2).toInt l) (fun j => τ.2.1 24 j - τ.2.1 23 j) N2 = ex (fun j => σ.2.1 30 j - σ.2.1 29 j) m := by
    rw [← sum_way (P := σ.2.1 28) (d := fun j => τ.2.1 24 j - τ.2.1 23 j) (S := fun j => σ.2.1 30 j - σ.2.1 29 j) (N := N2) hP (fun j hj => ?_) (N2 + 1) m (by omega) (by omega)]
    · refine sumC_same N2 (fun l hl => ?_)
      rw [hi l, ow_same (fun j hj => (hP j hj).2) hs N2 _ l (by omega) (by omega), ow_same (fun j hj => (hP j hj).2) hs N2 _ l (by omega) (by omega)]
    · have a := N j (by omega)
      have hpj := hP j hj
      show σ.2.1 30 j - σ.2.1 29 j = _
      rw [a.2.1, a.2.2]
      by_cases c : (σ.2.1 28 j).toInt < 0
      · rw [ex_neg c, ex_neg c, ex_neg c, S_step]; rw [Int32.sub_self]
      · obtain ⟨i, hi2⟩ : ∃ i : Nat, (σ.2.1 28 j).toInt = (i : Int) := ⟨(σ.2.1 28 j).toInt.toNat, by omega⟩
        rw [ex_of hi2, ex_of hi2, ex_of hi2, S_step]
  rw [key]; exact hq _
theorem dp_common {p1 p2 : Int32} {σ τ : VS} (J : Jn σ τ) (D : Dt σ τ) (N : Dn σ τ) : wp_X9common (fun r σ' => wp_common (fun r2 τ' => r = r2 ∧ σ' = σ ∧ τ' = τ) p1 p2 τ) p1 p2 σ := by
  have k1 := J.2.2.2.2.2.1
  have t1 : (σ.1 2).toInt = (τ.1 1).toInt := by rw [k1]
  have hno : ¬ ((0 ≤ p1.toInt ∧ p1.toInt < (σ.1 2).toInt) ∧ (0 ≤ p2.toInt ∧ p2.toInt < (σ.1 2).toInt)) → wp_common (fun r2 τ' => (-1 : Int32) = r2 ∧ σ = σ ∧ τ' = τ) p1 p2 τ := by
    intro h
    unfold wp_common b_common_25 b_common_26
    exact cell_x (fun a => ⟨fun z => absurd z (by decide), fun _ => cell_x (fun b => absurd ⟨by omega, by omega⟩ h) (fun b => ⟨fun _ => ⟨rfl, rfl, rfl⟩, fun z => absurd rfl z⟩)⟩) (fun a => ⟨fun _ => ⟨rfl, rfl, rfl⟩, fun z => absurd rfl z⟩)
  unfold wp_X9common b_X9common_34 b_X9common_35
  refine xhas_x (fun a => ⟨fun z => absurd z (by decide), fun _ => xhas_x (fun b => ⟨fun z => absurd z (by decide), fun _ => ?_⟩) (fun b => ⟨fun _ => hno (fun z => b z.2), fun z => absurd rfl z⟩)⟩) (fun a => ⟨fun _ => hno (fun z => a z.1), fun z => absurd rfl z⟩)
  have h := shared_eq J D N a b (Q := fun r r2 => r = r2) (fun _ => rfl)
  refine am_X2sharedOf h h (fun r σ' u _ => ?_)
  unfold wp_common b_common_25 b_common_26
  refine cell_x (fun a => ⟨fun z => absurd z (by decide), fun _ => cell_x (fun b => ⟨fun z => absurd z (by decide), fun _ => ?_⟩) (fun b => absurd (by omega) b)⟩) (fun a => absurd (by omega) a)
  exact am_shared u.2 u.2 (fun r2 τ' v _ => ⟨v.2, u.1, v.1⟩)
