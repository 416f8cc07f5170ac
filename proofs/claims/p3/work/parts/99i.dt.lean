/-! THE DATA OF BOTH SIDES AGREE (sizes, wires and the clock's sums apart) -/
def cellsL : List (Nat × Nat) := [(11, 2), (12, 3), (13, 4), (15, 6), (22, 8), (23, 9), (24, 10), (25, 11), (26, 12), (27, 13)]
def freshL : List (Nat × Int32) := [(15, 0), (22, 0), (23, 0), (24, 0), (25, -1), (26, 0), (27, 0)]
def rulesL : List (Nat × Nat) := [(31, 26), (32, 27), (33, 28), (34, 29)]
def tabL : List (Nat × Nat) := [(36, 15), (37, 16), (38, 17)]
def Dt (σ τ : VS) : Prop := (σ.1 7 = τ.1 18 ∧ σ.1 8 = τ.1 19) ∧ (∀ q ∈ cellsL, ∀ j : Nat, (j : Int) < (σ.1 2).toInt → σ.2.1 q.1 j = τ.2.1 q.2 j) ∧ (∀ q ∈ freshL, ∀ j : Nat, (σ.1 2).toInt ≤ (j : Int) → σ.2.1 q.1 j = q.2) ∧ (∀ q ∈ rulesL, ∀ j : Nat, (j : Int) < (σ.1 6).toInt → σ.2.1 q.1 j = τ.2.1 q.2 j) ∧ ∀ q ∈ tabL, σ.2.1 q.1 = τ.2.1 q.2
def usedC : List Nat := [11, 12, 13, 15, 22, 23, 24, 25, 26, 27, 31, 32, 33, 34, 36, 37, 38]
def usedM : List Nat := [2, 3, 4, 6, 8, 9, 10, 11, 12, 13, 26, 27, 28, 29, 15, 16, 17]
theorem Dt.kept {σ τ σ' τ' : VS} (h : Dt σ τ) (a : ∀ k ∈ [2, 6, 7, 8], σ'.1 k = σ.1 k) (b : ∀ k ∈ usedC, σ'.2.1 k = σ.2.1 k) (c : ∀ k ∈ [18, 19], τ'.1 k = τ.1 k) (d : ∀ k ∈ usedM, τ'.2.1 k = τ.2.1 k) : Dt σ' τ' := by
  obtain ⟨⟨h1, h2⟩, h3, h4, h5, h6⟩ := h
  have f1 : ∀ q ∈ cellsL, q.1 ∈ usedC ∧ q.2 ∈ usedM := by decide
  have f2 : ∀ q ∈ freshL, q.1 ∈ usedC := by decide
  have f3 : ∀ q ∈ rulesL, q.1 ∈ usedC ∧ q.2 ∈ usedM := by decide
  have f4 : ∀ q ∈ tabL, q.1 ∈ usedC ∧ q.2 ∈ usedM := by decide
  refine ⟨⟨?_, ?_⟩, fun q hq j hj => ?_, fun q hq j hj => ?_, fun q hq j hj => ?_, fun q hq => ?_⟩
  · rw [a 7 (by decide), c 18 (by decide)]; exact h1
  · rw [a 8 (by decide), c 19 (by decide)]; exact h2
  · rw [b _ (f1 q hq).1, d _ (f1 q hq).2]; rw [a 2 (by decide)] at hj; exact h3 q hq j hj
  · rw [b _ (f2 q hq)]; rw [a 2 (by decide)] at hj; exact h4 q hq j hj
  · rw [b _ (f3 q hq).1, d _ (f3 q hq).2]; rw [a 6 (by decide)] at hj; exact h5 q hq j hj
  · rw [b _ (f4 q hq).1, d _ (f4 q hq).2]; exact h6 q hq
theorem Dt.quiet {σ τ σ' τ' : VS} {F A F2 A2 : List Nat} (h : Dt σ τ) (e : Eo F A σ σ') (f : Eo F2 A2 τ τ') (h1 : (∀ k ∈ [2, 6, 7, 8], k ∉ F) ∧ ∀ k ∈ usedC, k ∉ A) (h2 : (∀ k ∈ [18, 19], k ∉ F2) ∧ ∀ k ∈ usedM, k ∉ A2) : Dt σ' τ' :=
  h.kept (fun k hk => e.1 k (h1.1 k hk)) (fun k hk => e.2 k (h1.2 k hk)) (fun k hk => f.1 k (h2.1 k hk)) (fun k hk => f.2 k (h2.2 k hk))
theorem Dt.fg {σ τ : VS} (h : Dt σ τ) : Dt (fg σ) τ := h.quiet (fg_eo σ) (Eo.rfl (F := []) (A := [])) (by decide) (by decide)
/-- the same word at the same place on both sides -/
theorem Dt.sa2 {σ τ : VS} (h : Dt σ τ) (a b : Nat) (p v : Int32) (h1 : ∀ q ∈ cellsL ++ rulesL ++ tabL, (q.1 = a ↔ q.2 = b)) (h4 : (∀ q ∈ freshL, q.1 ≠ a) ∨ (0 ≤ p.toInt ∧ p.toInt < (σ.1 2).toInt)) : Dt (sa σ a p v) (sa τ b p v) := by
  obtain ⟨hs, h3, h5, h6, h7⟩ := h
  have key : ∀ q : Nat × Nat, (q.1 = a ↔ q.2 = b) → ∀ j : Nat, σ.2.1 q.1 j = τ.2.1 q.2 j → (sa σ a p v).2.1 q.1 j = (sa τ b p v).2.1 q.2 j := by
    intro q hq j hj
    by_cases e : q.1 = a
    · have e2 := hq.mp e
      rw [e, e2, sa_same, sa_same]
      rw [e, e2] at hj
      rw [hj]
    · rw [sa_other e, sa_other (fun z => e (hq.mpr z))]; exact hj
  refine ⟨hs, fun q hq j hj => key q (h1 q (by simp [hq])) j (h3 q hq j hj), fun q hq j hj => ?_, fun q hq j hj => key q (h1 q (by simp [hq])) j (h6 q hq j hj), fun q hq => funext fun j => key q (h1 q (by simp [hq])) j (congrFun (h7 q hq) j)⟩
  have hj' : (σ.1 2).toInt ≤ (j : Int) := hj
  by_cases e : q.1 = a
  · rcases h4 with h4 | h4
    · exact absurd e (h4 q hq)
    · have e2 : (p.toNatClampNeg : Int) = p.toInt := i3_nat h4.1
      rw [e, sa_same, if_neg (by omega), ← e]
      exact h5 q hq j hj'
  · rw [sa_other e]; exact h5 q hq j hj'
theorem Dt.cell {σ τ : VS} (h : Dt σ τ) {q : Nat × Nat} (hq : q ∈ cellsL) {p : Int32} (hp : 0 ≤ p.toInt ∧ p.toInt < (σ.1 2).toInt) : rd σ q.1 p = rd τ q.2 p :=
  h.2.1 q hq _ (by have := i3_nat hp.1; omega)
theorem Dt.tab {σ τ : VS} (h : Dt σ τ) {q : Nat × Nat} (hq : q ∈ tabL) (p : Int32) : rd σ q.1 p = rd τ q.2 p := by
  unfold rd; rw [h.2.2.2.2 q hq]
theorem cx_extra {Q : Int32 → VS → Prop} {p1 p2 : Int32} {σ : VS} (hM : CI σ) (h1 : (0 ≤ p1.toInt ∧ p1.toInt < (σ.1 2).toInt) → (0 ≤ p2.toInt ∧ p2.toInt ≤ 1000) → (rd σ 11 p1).toInt ≠ 5 → Q (rd σ 15 p1) (fg (sa σ 15 p1 p2))) (h2 : (0 ≤ p1.toInt ∧ p1.toInt < (σ.1 2).toInt) → (0 ≤ p2.toInt ∧ p2.toInt ≤ 1000) → (rd σ 11 p1).toInt = 5 → Q (-2) σ) (h3 : ¬ ((0 ≤ p1.toInt ∧ p1.toInt < (σ.1 2).toInt) ∧ (0 ≤ p2.toInt ∧ p2.toInt ≤ 1000)) → Q (-1) σ) : wp_X9extra Q p1 p2 σ := by
  have hc : 0 ≤ (σ.1 2).toInt ∧ (σ.1 2).toInt ≤ 50 := hM.1 2
  have e0 : (0 : Int32).toInt = 0 := rfl
  have e1 : (1000 : Int32).toInt = 1000 := rfl
  unfold wp_X9extra b_X9extra_22 wp_X9forget
  refine xhas_x (fun a => ⟨fun z => absurd z (by decide), fun _ => xwithin_x (fun b => ⟨fun _ => ⟨⟨by omega, by omega⟩, fun c => ⟨⟨by omega, by omega⟩, fun x ex => ⟨⟨by omega, by omega⟩, ?_⟩⟩, fun c => h2 a (by omega) c⟩, fun z => absurd z (by decide)⟩) (fun b => ⟨fun z => absurd rfl z, fun _ => h3 (by omega)⟩)⟩) (fun a => ⟨fun _ => h3 (fun k => a k.1), fun z => absurd rfl z⟩)
  rw [ex]; exact h1 a (by omega) c
theorem rx_extra {Q : Int32 → VS → Prop} {p1 p2 : Int32} {σ : VS} (hM : MI σ) (h1 : (0 ≤ p1.toInt ∧ p1.toInt < (σ.1 1).toInt) → (0 ≤ p2.toInt ∧ p2.toInt ≤ 1000) → (rd σ 2 p1).toInt ≠ 5 → Q (rd σ 6 p1) (sa σ 6 p1 p2)) (h2 : (0 ≤ p1.toInt ∧ p1.toInt < (σ.1 1).toInt) → (0 ≤ p2.toInt ∧ p2.toInt ≤ 1000) → (rd σ 2 p1).toInt = 5 → Q (-2) σ) (h3 : ¬ ((0 ≤ p1.toInt ∧ p1.toInt < (σ.1 1).toInt) ∧ (0 ≤ p2.toInt ∧ p2.toInt ≤ 1000)) → Q (-1) σ) : wp_extra Q p1 p2 σ := by
  have hc : 0 ≤ (σ.1 1).toInt ∧ (σ.1 1).toInt ≤ 50 := hM.1 1
  unfold wp_extra b_extra_19
  refine cell_x (fun a => ⟨fun z => absurd z (by decide), fun _ => ⟨fun b => h3 (by omega), fun b => ⟨fun c => ⟨⟨by omega, by omega⟩, fun d => ⟨⟨by omega, by omega⟩, fun x ex => ⟨⟨by omega, by omega⟩, ?_⟩⟩, fun d => h2 a ⟨b, c⟩ d⟩, fun c => h3 (by omega)⟩⟩⟩) (fun a => ⟨fun _ => h3 (fun k => a k.1), fun z => absurd rfl z⟩)
  rw [ex]; exact h1 a ⟨b, c⟩ d
theorem dp_extra {p1 p2 : Int32} {σ τ : VS} (J : Jn σ τ) (D : Dt σ τ) : wp_X9extra (fun r σ' => wp_extra (fun r2 τ' => r = r2 ∧ Dt σ' τ') p1 p2 τ) p1 p2 σ := by
  obtain ⟨hM, hC, hM2, hS, hL, k1, -⟩ := J
  have t1 : (σ.1 2).toInt = (τ.1 1).toInt := by rw [k1]
  have hk : (0 ≤ p1.toInt ∧ p1.toInt < (σ.1 2).toInt) → (rd σ 11 p1).toInt = (rd τ 2 p1).toInt := fun h => congrArg Int32.toInt (D.cell (q := (11, 2)) (by decide) h)
  refine cx_extra hM (fun a b c => rx_extra hM2 (fun _ _ _ => ⟨D.cell (q := (15, 6)) (by decide) a, (D.sa2 15 6 p1 p2 (by decide) (Or.inr a)).fg⟩) (fun _ _ d => absurd (hk a) (by omega)) (fun h => absurd ⟨by omega, b⟩ h)) (fun a b c => rx_extra hM2 (fun _ _ d => absurd (hk a) (by omega)) (fun _ _ _ => ⟨rfl, D⟩) (fun h => absurd ⟨by omega, b⟩ h)) (fun a => rx_extra hM2 (fun b c _ => absurd ⟨by omega, c⟩ a) (fun b c _ => absurd ⟨by omega, c⟩ a) (fun _ => ⟨rfl, D⟩))
theorem cx_port {Q : Int32 → VS → Prop} {p1 p2 p3 p4 : Int32} {σ : VS} (hM : CI σ) (h1 : (0 ≤ p1.toInt ∧ p1.toInt < (σ.1 2).toInt) → (0 ≤ p2.toInt ∧ p2.toInt ≤ 100000) ∧ (0 ≤ p3.toInt ∧ p3.toInt ≤ 100000) ∧ (0 ≤ p4.toInt ∧ p4.toInt ≤ 100000) → (rd σ 11 p1).toInt = 0 → Q 0 (fg (sa (sa (sa σ 22 p1 p2) 23 p1 p3) 24 p1 p4))) (h2 : (0 ≤ p1.toInt ∧ p1.toInt < (σ.1 2).toInt) → (0 ≤ p2.toInt ∧ p2.toInt ≤ 100000) ∧ (0 ≤ p3.toInt ∧ p3.toInt ≤ 100000) ∧ (0 ≤ p4.toInt ∧ p4.toInt ≤ 100000) → (rd σ 11 p1).toInt ≠ 0 → Q (-2) σ) (h3 : ¬ ((0 ≤ p1.toInt ∧ p1.toInt < (σ.1 2).toInt) ∧ (0 ≤ p2.toInt ∧ p2.toInt ≤ 100000) ∧ (0 ≤ p3.toInt ∧ p3.toInt ≤ 100000) ∧ (0 ≤ p4.toInt ∧ p4.toInt ≤ 100000)) → Q (-1) σ) : wp_X9port Q p1 p2 p3 p4 σ := by
  have hc : 0 ≤ (σ.1 2).toInt ∧ (σ.1 2).toInt ≤ 50 := hM.1 2
  have e0 : (0 : Int32).toInt = 0 := rfl
  have e1 : (100000 : Int32).toInt = 100000 := rfl
  unfold wp_X9port b_X9port_42 wp_X9forget
  refine xhas_x (fun a => ⟨fun z => absurd z (by decide), fun _ => ?_⟩) (fun a => ⟨fun _ => h3 (fun k => a k.1), fun z => absurd rfl z⟩)
  refine xwithin_x (fun b => ⟨fun z => absurd z (by decide), fun _ => ?_⟩) (fun b => ⟨fun _ => h3 (by omega), fun z => absurd rfl z⟩)
  refine xwithin_x (fun c => ⟨fun z => absurd z (by decide), fun _ => ?_⟩) (fun b => ⟨fun _ => h3 (by omega), fun z => absurd rfl z⟩)
  refine xwithin_x (fun d => ⟨fun _ => ⟨⟨by omega, by omega⟩, fun f => ⟨⟨by omega, by omega⟩, ⟨by omega, by omega⟩, ⟨by omega, by omega⟩, h1 a (by omega) f⟩, fun f => h2 a (by omega) f⟩, fun z => absurd z (by decide)⟩) (fun b => ⟨fun z => absurd rfl z, fun _ => h3 (by omega)⟩)
theorem rx_port {Q : Int32 → VS → Prop} {p1 p2 p3 p4 : Int32} {σ : VS} (hM : MI σ) (h1 : (0 ≤ p1.toInt ∧ p1.toInt < (σ.1 1).toInt) → (0 ≤ p2.toInt ∧ p2.toInt ≤ 100000) ∧ (0 ≤ p3.toInt ∧ p3.toInt ≤ 100000) ∧ (0 ≤ p4.toInt ∧ p4.toInt ≤ 100000) → (rd σ 2 p1).toInt = 0 → Q 0 (sa (sa (sa σ 8 p1 p2) 9 p1 p3) 10 p1 p4)) (h2 : (0 ≤ p1.toInt ∧ p1.toInt < (σ.1 1).toInt) → (0 ≤ p2.toInt ∧ p2.toInt ≤ 100000) ∧ (0 ≤ p3.toInt ∧ p3.toInt ≤ 100000) ∧ (0 ≤ p4.toInt ∧ p4.toInt ≤ 100000) → (rd σ 2 p1).toInt ≠ 0 → Q (-2) σ) (h3 : ¬ ((0 ≤ p1.toInt ∧ p1.toInt < (σ.1 1).toInt) ∧ (0 ≤ p2.toInt ∧ p2.toInt ≤ 100000) ∧ (0 ≤ p3.toInt ∧ p3.toInt ≤ 100000) ∧ (0 ≤ p4.toInt ∧ p4.toInt ≤ 100000)) → Q (-1) σ) : wp_port Q p1 p2 p3 p4 σ := by
  have hc : 0 ≤ (σ.1 1).toInt ∧ (σ.1 1).toInt ≤ 50 := hM.1 1
  unfold wp_port b_port_40
  refine cell_x (fun a => ⟨fun z => absurd z (by decide), fun _ => ?_⟩) (fun a => ⟨fun _ => h3 (fun k => a k.1), fun z => absurd rfl z⟩)
  exact ⟨fun b => h3 (by omega), fun b1 => ⟨fun b => h3 (by omega), fun b2 => ⟨fun b => h3 (by omega), fun b3 => ⟨fun b => h3 (by omega), fun b4 => ⟨fun b => h3 (by omega), fun b5 => ⟨fun b6 => ⟨⟨by omega, by omega⟩, fun f => ⟨⟨by omega, by omega⟩, ⟨by omega, by omega⟩, ⟨by omega, by omega⟩, h1 a (by omega) f⟩, fun f => h2 a (by omega) f⟩, fun b => h3 (by omega)⟩⟩⟩⟩⟩⟩
theorem dp_port {p1 p2 p3 p4 : Int32} {σ τ : VS} (J : Jn σ τ) (D : Dt σ τ) : wp_X9port (fun r σ' => wp_port (fun r2 τ' => r = r2 ∧ Dt σ' τ') p1 p2 p3 p4 τ) p1 p2 p3 p4 σ := by
  obtain ⟨hM, hC, hM2, hS, hL, k1, -⟩ := J
  have t1 : (σ.1 2).toInt = (τ.1 1).toInt := by rw [k1]
  have hk : (0 ≤ p1.toInt ∧ p1.toInt < (σ.1 2).toInt) → (rd σ 11 p1).toInt = (rd τ 2 p1).toInt := fun h => congrArg Int32.toInt (D.cell (q := (11, 2)) (by decide) h)
  refine cx_port hM (fun a b c => rx_port hM2 (fun _ _ _ => ⟨rfl, (((D.sa2 22 8 p1 p2 (by decide) (Or.inr a)).sa2 23 9 p1 p3 (by decide) (Or.inr a)).sa2 24 10 p1 p4 (by decide) (Or.inr a)).fg⟩) (fun _ _ d => absurd (hk a) (by omega)) (fun h => absurd ⟨by omega, b⟩ h)) (fun a b c => rx_port hM2 (fun _ _ d => absurd (hk a) (by omega)) (fun _ _ _ => ⟨rfl, D⟩) (fun h => absurd ⟨by omega, b⟩ h)) (fun a => rx_port hM2 (fun b c _ => absurd ⟨by omega, c⟩ a) (fun b c _ => absurd ⟨by omega, c⟩ a) (fun _ => ⟨rfl, D⟩))
theorem cx_fall {Q : Int32 → VS → Prop} {p1 p2 : Int32} {σ : VS} (h1 : (0 ≤ p1.toInt ∧ p1.toInt ≤ 7) ∧ (0 ≤ p2.toInt ∧ p2.toInt ≤ 1000) → Q (rd σ 38 p1) (fg (sa σ 38 p1 p2))) (h3 : ¬ ((0 ≤ p1.toInt ∧ p1.toInt ≤ 7) ∧ (0 ≤ p2.toInt ∧ p2.toInt ≤ 1000)) → Q (-1) σ) : wp_X9fall Q p1 p2 σ := by
  have e0 : (0 : Int32).toInt = 0 := rfl
  have e1 : (1000 : Int32).toInt = 1000 := rfl
  unfold wp_X9fall b_X9fall_18 wp_X9forget
  refine xtab_x (fun a => ⟨fun z => absurd z (by decide), fun _ => xwithin_x (fun b => ⟨fun _ => ⟨⟨by omega, by omega⟩, fun x ex => ⟨⟨by omega, by omega⟩, ?_⟩⟩, fun z => absurd z (by decide)⟩) (fun b => ⟨fun z => absurd rfl z, fun _ => h3 (by omega)⟩)⟩) (fun a => ⟨fun _ => h3 (fun k => a k.1), fun z => absurd rfl z⟩)
  rw [ex]; exact h1 ⟨a, by omega⟩
theorem rx_fall {Q : Int32 → VS → Prop} {p1 p2 : Int32} {σ : VS} (h1 : (0 ≤ p1.toInt ∧ p1.toInt ≤ 7) ∧ (0 ≤ p2.toInt ∧ p2.toInt ≤ 1000) → Q (rd σ 17 p1) (sa σ 17 p1 p2)) (h3 : ¬ ((0 ≤ p1.toInt ∧ p1.toInt ≤ 7) ∧ (0 ≤ p2.toInt ∧ p2.toInt ≤ 1000)) → Q (-1) σ) : wp_fall Q p1 p2 σ := by
  unfold wp_fall b_fall_21
  exact ⟨fun b => h3 (by omega), fun b1 => ⟨fun b => h3 (by omega), fun b2 => ⟨fun b => h3 (by omega), fun b3 => ⟨fun b4 => ⟨⟨by omega, by omega⟩, fun x ex => ⟨⟨by omega, by omega⟩, by rw [ex]; exact h1 (by omega)⟩⟩, fun b => h3 (by omega)⟩⟩⟩⟩
theorem dp_fall {p1 p2 : Int32} {σ τ : VS} (D : Dt σ τ) : wp_X9fall (fun r σ' => wp_fall (fun r2 τ' => r = r2 ∧ Dt σ' τ') p1 p2 τ) p1 p2 σ :=
  cx_fall (fun a => rx_fall (fun _ => ⟨D.tab (q := (38, 17)) (by decide) p1, (D.sa2 38 17 p1 p2 (by decide) (Or.inl (by decide))).fg⟩) (fun h => absurd a h)) (fun a => rx_fall (fun h => absurd h a) (fun _ => ⟨rfl, D⟩))
theorem cx_corner {Q : Int32 → VS → Prop} {p1 p2 : Int32} {σ : VS} (h1 : (0 ≤ p1.toInt ∧ p1.toInt ≤ 500) ∧ (0 ≤ p2.toInt ∧ p2.toInt ≤ 500) → Q 0 (fg (sf (sf σ 7 p1) 8 p2))) (h3 : ¬ ((0 ≤ p1.toInt ∧ p1.toInt ≤ 500) ∧ (0 ≤ p2.toInt ∧ p2.toInt ≤ 500)) → Q (-1) σ) : wp_X9corner Q p1 p2 σ := by
  have e0 : (0 : Int32).toInt = 0 := rfl
  have e1 : (500 : Int32).toInt = 500 := rfl
  unfold wp_X9corner b_X9corner_22 wp_X9forget
  exact xwithin_x (fun a => ⟨fun z => absurd z (by decide), fun _ => xwithin_x (fun b => ⟨fun _ => h1 (by omega), fun z => absurd z (by decide)⟩) (fun b => ⟨fun z => absurd rfl z, fun _ => h3 (by omega)⟩)⟩) (fun a => ⟨fun _ => h3 (by omega), fun z => absurd rfl z⟩)
theorem rx_corner {Q : Int32 → VS → Prop} {p1 p2 : Int32} {σ : VS} (h1 : (0 ≤ p1.toInt ∧ p1.toInt ≤ 500) ∧ (0 ≤ p2.toInt ∧ p2.toInt ≤ 500) → Q 0 (sf (sf σ 18 p1) 19 p2)) (h3 : ¬ ((0 ≤ p1.toInt ∧ p1.toInt ≤ 500) ∧ (0 ≤ p2.toInt ∧ p2.toInt ≤ 500)) → Q (-1) σ) : wp_corner Q p1 p2 σ := by
  unfold wp_corner b_corner_22
  exact ⟨fun b => h3 (by omega), fun b1 => ⟨fun b => h3 (by omega), fun b2 => ⟨fun b => h3 (by omega), fun b3 => ⟨fun b4 => h1 (by omega), fun b => h3 (by omega)⟩⟩⟩⟩
theorem dp_corner {p1 p2 : Int32} {σ τ : VS} (D : Dt σ τ) : wp_X9corner (fun r σ' => wp_corner (fun r2 τ' => r = r2 ∧ Dt σ' τ') p1 p2 τ) p1 p2 σ := by
  refine cx_corner (fun a => rx_corner (fun _ => ⟨rfl, ?_⟩) (fun h => absurd a h)) (fun a => rx_corner (fun h => absurd h a) (fun _ => ⟨rfl, D⟩))
  refine Dt.fg ?_
  obtain ⟨-, h3, h4, h5, h6⟩ := D
  exact ⟨⟨by rw [sf_other (by decide), sf_same, sf_other (by decide), sf_same], by rw [sf_same, sf_same]⟩, h3, h4, h5, h6⟩
theorem isTarget_x {Q : Int32 → VS → Prop} {p1 : Int32} {σ : VS} (hi : 0 ≤ p1.toInt ∧ p1.toInt < 50) (h1 : 3 < (rd σ 2 p1).toInt → Q 1 σ) (h0 : ¬ 3 < (rd σ 2 p1).toInt → Q 0 σ) : wp_isTarget Q p1 σ := by
  unfold wp_isTarget b_isTarget_15
  exact ⟨hi, fun h => ⟨⟨by decide, by decide⟩, h0 (by omega)⟩, fun h => ⟨⟨by decide, by decide⟩, h1 h⟩⟩
theorem xtarget_x {Q : Int32 → VS → Prop} {p1 : Int32} {σ : VS} (hi : 0 ≤ p1.toInt ∧ p1.toInt < 50) (hk : (rd σ 11 p1).toInt ≤ 5) (h1 : 3 < (rd σ 11 p1).toInt → Q 1 σ) (h0 : ¬ 3 < (rd σ 11 p1).toInt → Q 0 σ) : wp_X1isTarget Q p1 σ := by
  unfold wp_X1isTarget b_X1isTarget_20 b_X1isTarget_25
  exact ⟨hi, fun h => ⟨⟨by decide, by decide⟩, h1 (by omega)⟩, fun h => ⟨hi, fun k => ⟨⟨by decide, by decide⟩, h0 (by omega)⟩, fun k => ⟨⟨by decide, by decide⟩, h1 (by omega)⟩⟩⟩
def okT (n : Int) (k : Int) (p2 p3 p4 : Int32) : Prop := (-1 ≤ p2.toInt ∧ p2.toInt < n) ∧ (-10000 ≤ p3.toInt ∧ p3.toInt ≤ 10000) ∧ (-10000 ≤ p4.toInt ∧ p4.toInt ≤ 10000) ∧ (k = 5 → p2.toInt = -1)
theorem cx_target {Q : Int32 → VS → Prop} {p1 p2 p3 p4 : Int32} {σ : VS} (hM : CI σ) (h1 : (0 ≤ p1.toInt ∧ p1.toInt < (σ.1 2).toInt) → okT (σ.1 5).toInt (rd σ 11 p1).toInt p2 p3 p4 → 3 < (rd σ 11 p1).toInt → Q 0 (fg (sa (sa (sa σ 25 p1 p2) 26 p1 p3) 27 p1 p4))) (h2 : (0 ≤ p1.toInt ∧ p1.toInt < (σ.1 2).toInt) → okT (σ.1 5).toInt (rd σ 11 p1).toInt p2 p3 p4 → ¬ 3 < (rd σ 11 p1).toInt → Q (-2) σ) (h3 : ¬ ((0 ≤ p1.toInt ∧ p1.toInt < (σ.1 2).toInt) ∧ okT (σ.1 5).toInt (rd σ 11 p1).toInt p2 p3 p4) → Q (-1) σ) : wp_X9target Q p1 p2 p3 p4 σ := by
  have hc : 0 ≤ (σ.1 2).toInt ∧ (σ.1 2).toInt ≤ 50 := hM.1 2
  have hk : 0 ≤ (rd σ 11 p1).toInt ∧ (rd σ 11 p1).toInt ≤ 5 := hM.2 11 _
  have e0 : (-10000 : Int32).toInt = -10000 := rfl
  have e1 : (10000 : Int32).toInt = 10000 := rfl
  unfold okT at h1 h2 h3
  unfold wp_X9target b_X9target_49
  refine xhas_x (fun a => ⟨fun z => absurd z (by decide), fun _ => ?_⟩) (fun a => ⟨fun _ => h3 (fun k => a k.1), fun z => absurd rfl z⟩)
  have h71 : ((-1 ≤ p2.toInt ∧ p2.toInt < (σ.1 5).toInt) ∧ (-10000 ≤ p3.toInt ∧ p3.toInt ≤ 10000) ∧ (-10000 ≤ p4.toInt ∧ p4.toInt ≤ 10000) ∧ ((rd σ 11 p1).toInt = 5 → p2.toInt = -1)) → b_X9target_71 Q p1 p2 p3 p4 σ := by
    intro o
    unfold b_X9target_71 wp_X9forget
    exact xtarget_x (by omega) hk.2 (fun f => ⟨fun _ => ⟨⟨by omega, by omega⟩, ⟨by omega, by omega⟩, ⟨by omega, by omega⟩, h1 a o f⟩, fun z => absurd z (by decide)⟩) (fun f => ⟨fun z => absurd rfl z, fun _ => h2 a o f⟩)
  refine xroot_x (fun b => ⟨fun z => absurd z (by decide), fun _ => ?_⟩) (fun b => ⟨fun _ => h3 (by omega), fun z => absurd rfl z⟩)
  refine xwithin_x (fun c => ⟨fun z => absurd z (by decide), fun _ => ?_⟩) (fun b => ⟨fun _ => h3 (by omega), fun z => absurd rfl z⟩)
  refine xwithin_x (fun d => ⟨fun _ => ⟨⟨by omega, by omega⟩, fun f => h71 (by omega), fun f => ⟨fun g => h71 (by omega), fun g => h3 (by omega)⟩⟩, fun z => absurd z (by decide)⟩) (fun b => ⟨fun z => absurd rfl z, fun _ => h3 (by omega)⟩)
theorem rx_target {Q : Int32 → VS → Prop} {p1 p2 p3 p4 : Int32} {σ : VS} (hM : MI σ) (h1 : (0 ≤ p1.toInt ∧ p1.toInt < (σ.1 1).toInt) → okT (σ.1 21).toInt (rd σ 2 p1).toInt p2 p3 p4 → 3 < (rd σ 2 p1).toInt → Q 0 (sa (sa (sa σ 11 p1 p2) 12 p1 p3) 13 p1 p4)) (h2 : (0 ≤ p1.toInt ∧ p1.toInt < (σ.1 1).toInt) → okT (σ.1 21).toInt (rd σ 2 p1).toInt p2 p3 p4 → ¬ 3 < (rd σ 2 p1).toInt → Q (-2) σ) (h3 : ¬ ((0 ≤ p1.toInt ∧ p1.toInt < (σ.1 1).toInt) ∧ okT (σ.1 21).toInt (rd σ 2 p1).toInt p2 p3 p4) → Q (-1) σ) : wp_target Q p1 p2 p3 p4 σ := by
  have hc : 0 ≤ (σ.1 1).toInt ∧ (σ.1 1).toInt ≤ 50 := hM.1 1
  unfold okT at h1 h2 h3
  unfold wp_target b_target_65
  refine cell_x (fun a => ⟨fun z => absurd z (by decide), fun _ => ?_⟩) (fun a => ⟨fun _ => h3 (fun k => a k.1), fun z => absurd rfl z⟩)
  have h67 : ((-1 ≤ p2.toInt ∧ p2.toInt < (σ.1 21).toInt) ∧ (-10000 ≤ p3.toInt ∧ p3.toInt ≤ 10000) ∧ (-10000 ≤ p4.toInt ∧ p4.toInt ≤ 10000) ∧ ((rd σ 2 p1).toInt = 5 → p2.toInt = -1)) → b_target_67 Q p1 p2 p3 p4 σ := by
    intro o
    unfold b_target_67
    exact isTarget_x (by omega) (fun f => ⟨fun _ => ⟨⟨by omega, by omega⟩, ⟨by omega, by omega⟩, ⟨by omega, by omega⟩, h1 a o f⟩, fun z => absurd z (by decide)⟩) (fun f => ⟨fun z => absurd rfl z, fun _ => h2 a o f⟩)
  exact ⟨fun b => h3 (by omega), fun b1 => ⟨fun b => h3 (by omega), fun b2 => ⟨fun b => h3 (by omega), fun b3 => ⟨fun b => h3 (by omega), fun b4 => ⟨fun b => h3 (by omega), fun b5 => ⟨fun b => h3 (by omega), fun b6 => ⟨⟨by omega, by omega⟩, fun f => h67 (by omega), fun f => ⟨fun g => h67 (by omega), fun g => h3 (by omega)⟩⟩⟩⟩⟩⟩⟩⟩
theorem dp_target {p1 p2 p3 p4 : Int32} {σ τ : VS} (J : Jn σ τ) (D : Dt σ τ) : wp_X9target (fun r σ' => wp_target (fun r2 τ' => r = r2 ∧ Dt σ' τ') p1 p2 p3 p4 τ) p1 p2 p3 p4 σ := by
  obtain ⟨hM, hC, hM2, hS, hL, k1, k2, -⟩ := J
  have t1 : (σ.1 2).toInt = (τ.1 1).toInt := by rw [k1]
  have hk : (0 ≤ p1.toInt ∧ p1.toInt < (σ.1 2).toInt) → rd σ 11 p1 = rd τ 2 p1 := fun h => D.cell (q := (11, 2)) (by decide) h
  refine cx_target hM (fun a b c => ?_) (fun a b c => ?_) (fun a => ?_)
  · rw [k2, hk a] at b
    rw [hk a] at c
    exact rx_target hM2 (fun _ _ _ => ⟨rfl, (((D.sa2 25 11 p1 p2 (by decide) (Or.inr a)).sa2 26 12 p1 p3 (by decide) (Or.inr a)).sa2 27 13 p1 p4 (by decide) (Or.inr a)).fg⟩) (fun _ _ d => absurd c d) (fun h => absurd ⟨by omega, b⟩ h)
  · rw [k2, hk a] at b
    rw [hk a] at c
    exact rx_target hM2 (fun _ _ d => absurd d c) (fun _ _ _ => ⟨rfl, D⟩) (fun h => absurd ⟨by omega, b⟩ h)
  · exact rx_target hM2 (fun b c _ => absurd ⟨by omega, by rw [k2, hk (by omega)]; exact c⟩ a) (fun b c _ => absurd ⟨by omega, by rw [k2, hk (by omega)]; exact c⟩ a) (fun _ => ⟨rfl, D⟩)
theorem isRow_x {Q : Int32 → VS → Prop} {p1 p2 p3 : Int32} {σ : VS} (h1 : (0 ≤ p1.toInt ∧ p1.toInt < 8) ∧ (0 ≤ p2.toInt ∧ p2.toInt < 2) ∧ (0 ≤ p3.toInt ∧ p3.toInt < 4) → Q 1 σ) (h0 : ¬ ((0 ≤ p1.toInt ∧ p1.toInt < 8) ∧ (0 ≤ p2.toInt ∧ p2.toInt < 2) ∧ (0 ≤ p3.toInt ∧ p3.toInt < 4)) → Q 0 σ) : wp_isRow Q p1 p2 p3 σ := by
  unfold wp_isRow b_isRow_32 b_isRow_33
  have z : Bo 0 := ⟨by decide, by decide⟩
  exact ⟨fun h => ⟨z, h0 (by omega)⟩, fun a1 => ⟨fun h => ⟨z, h0 (by omega)⟩, fun a2 => ⟨fun h => ⟨z, h0 (by omega)⟩, fun a3 => ⟨fun h => ⟨z, h0 (by omega)⟩, fun a4 => ⟨fun h => ⟨z, h0 (by omega)⟩, fun a5 => ⟨fun h => ⟨z, h0 (by omega)⟩, fun a6 => ⟨⟨by decide, by decide⟩, h1 (by omega)⟩⟩⟩⟩⟩⟩⟩
theorem xrow_x {Q : Int32 → VS → Prop} {p1 p2 p3 : Int32} {σ : VS} (h1 : (0 ≤ p1.toInt ∧ p1.toInt < 8) ∧ (0 ≤ p2.toInt ∧ p2.toInt < 2) ∧ (0 ≤ p3.toInt ∧ p3.toInt < 4) → Q 1 σ) (h0 : ¬ ((0 ≤ p1.toInt ∧ p1.toInt < 8) ∧ (0 ≤ p2.toInt ∧ p2.toInt < 2) ∧ (0 ≤ p3.toInt ∧ p3.toInt < 4)) → Q 0 σ) : wp_X5hasRow Q p1 p2 p3 σ := by
  unfold wp_X5hasRow b_X5hasRow_29 b_X5hasRow_30
  have z : Bo 0 := ⟨by decide, by decide⟩
  exact xtab_x (fun a => ⟨fun w => absurd w (by decide), fun _ => ⟨fun h => ⟨z, h0 (by omega)⟩, fun a3 => ⟨fun h => ⟨z, h0 (by omega)⟩, fun a4 => ⟨fun h => ⟨z, h0 (by omega)⟩, fun a5 => ⟨fun h => ⟨z, h0 (by omega)⟩, fun a6 => ⟨⟨by decide, by decide⟩, h1 (by omega)⟩⟩⟩⟩⟩⟩) (fun a => ⟨fun _ => ⟨z, h0 (by omega)⟩, fun w => absurd rfl w⟩)
def okR (p1 p2 p3 : Int32) : Prop := (0 ≤ p1.toInt ∧ p1.toInt < 8) ∧ (0 ≤ p2.toInt ∧ p2.toInt < 2) ∧ (0 ≤ p3.toInt ∧ p3.toInt < 4)
theorem row_c {p1 p2 p3 : Int32} (h : okR p1 p2 p3) : ((((p1 * 2) + p2) * 4) + p3).toInt = 8 * p1.toInt + 4 * p2.toInt + p3.toInt := by
  unfold okR at h
  have a : (p1 * 2).toInt = p1.toInt * 2 := i3_mulc rfl rfl rfl (by omega)
  have b : (p1 * 2 + p2).toInt = p1.toInt * 2 + p2.toInt := i3_addc a rfl rfl (by omega)
  have c : ((p1 * 2 + p2) * 4).toInt = (p1.toInt * 2 + p2.toInt) * 4 := i3_mulc b rfl rfl (by omega)
  have d : ((p1 * 2 + p2) * 4 + p3).toInt = (p1.toInt * 2 + p2.toInt) * 4 + p3.toInt := i3_addc c rfl rfl (by omega)
  omega
theorem row_m {p1 p2 p3 : Int32} (h : okR p1 p2 p3) : (((8 * p1) + (4 * p2)) + p3).toInt = 8 * p1.toInt + 4 * p2.toInt + p3.toInt := by
  unfold okR at h
  have a : (8 * p1).toInt = 8 * p1.toInt := i3_mulc rfl rfl rfl (by omega)
  have b : (4 * p2).toInt = 4 * p2.toInt := i3_mulc rfl rfl rfl (by omega)
  have c : (8 * p1 + 4 * p2).toInt = 8 * p1.toInt + 4 * p2.toInt := i3_addc a b rfl (by omega)
  exact i3_addc c rfl rfl (by omega)
theorem row_eq {p1 p2 p3 : Int32} (h : okR p1 p2 p3) : ((((p1 * 2) + p2) * 4) + p3) = (((8 * p1) + (4 * p2)) + p3) := ti_inj ((row_c h).trans (row_m h).symm)
theorem row_in {p1 p2 p3 : Int32} (h : okR p1 p2 p3) : 0 ≤ (((8 * p1) + (4 * p2)) + p3).toInt ∧ (((8 * p1) + (4 * p2)) + p3).toInt < 64 := by
  have := row_m h
  unfold okR at h
  omega
theorem at_c {r p : Int32} (hr : 0 ≤ r.toInt ∧ r.toInt < 64) (hp : 0 ≤ p.toInt ∧ p.toInt < 3) : ((r * 3) + p).toInt = 3 * r.toInt + p.toInt := by
  have a : (r * 3).toInt = r.toInt * 3 := i3_mulc rfl rfl rfl (by omega)
  have b : (r * 3 + p).toInt = r.toInt * 3 + p.toInt := i3_addc a rfl rfl (by omega)
  omega
theorem at_m {r p : Int32} (hr : 0 ≤ r.toInt ∧ r.toInt < 64) (hp : 0 ≤ p.toInt ∧ p.toInt < 3) : ((3 * r) + p).toInt = 3 * r.toInt + p.toInt := by
  have a : (3 * r).toInt = 3 * r.toInt := i3_mulc rfl rfl rfl (by omega)
  exact i3_addc a rfl rfl (by omega)
theorem at_eq {r p : Int32} (hr : 0 ≤ r.toInt ∧ r.toInt < 64) (hp : 0 ≤ p.toInt ∧ p.toInt < 3) : ((r * 3) + p) = ((3 * r) + p) := ti_inj ((at_c hr hp).trans (at_m hr hp).symm)
theorem cx_entry {Q : Int32 → VS → Prop} {p1 p2 p3 p4 p5 : Int32} {σ : VS} (h1 : okR p1 p2 p3 ∧ (0 ≤ p4.toInt ∧ p4.toInt ≤ 2) ∧ (0 ≤ p5.toInt ∧ p5.toInt ≤ 3000) → ∀ r, r = ((8 * p1) + (4 * p2)) + p3 → (rd σ 37 r).toInt ≠ 0 → p4.toInt < (rd σ 37 r).toInt → Q (rd σ 36 ((3 * r) + p4)) (fg (sa σ 36 ((3 * r) + p4) p5))) (h2 : okR p1 p2 p3 ∧ (0 ≤ p4.toInt ∧ p4.toInt ≤ 2) ∧ (0 ≤ p5.toInt ∧ p5.toInt ≤ 3000) → ∀ r, r = ((8 * p1) + (4 * p2)) + p3 → (rd σ 37 r).toInt ≠ 0 → (rd σ 37 r).toInt ≤ p4.toInt → Q (-12) σ) (h3 : okR p1 p2 p3 ∧ (0 ≤ p4.toInt ∧ p4.toInt ≤ 2) ∧ (0 ≤ p5.toInt ∧ p5.toInt ≤ 3000) → ∀ r, r = ((8 * p1) + (4 * p2)) + p3 → (rd σ 37 r).toInt = 0 → Q (-11) σ) (h4 : ¬ (okR p1 p2 p3 ∧ (0 ≤ p4.toInt ∧ p4.toInt ≤ 2) ∧ (0 ≤ p5.toInt ∧ p5.toInt ≤ 3000)) → Q (-1) σ) : wp_X9entry Q p1 p2 p3 p4 p5 σ := by
  have e0 : (0 : Int32).toInt = 0 := rfl
  have e2 : (2 : Int32).toInt = 2 := rfl
  have e1 : (3000 : Int32).toInt = 3000 := rfl
  unfold wp_X9entry b_X9entry_31
  refine xrow_x (fun a => ⟨fun z => absurd z (by decide), fun _ => ?_⟩) (fun a => ⟨fun _ => h4 (fun k => a k.1), fun z => absurd rfl z⟩)
  refine xwithin_x (fun b => ⟨fun z => absurd z (by decide), fun _ => ?_⟩) (fun b => ⟨fun _ => h4 (fun k => b (by omega)), fun z => absurd rfl z⟩)
  refine xwithin_x (fun c => ⟨fun _ => ?_, fun z => absurd z (by decide)⟩) (fun c => ⟨fun z => absurd rfl z, fun _ => h4 (fun k => c (by omega))⟩)
  have ok : okR p1 p2 p3 := a
  unfold wp_X5rowPlace wp_X5whyAbsent b_X5whyAbsent_28 wp_X9forget
  rw [row_eq ok]
  obtain ⟨r, hr⟩ : ∃ r, r = ((8 * p1) + (4 * p2)) + p3 := ⟨_, rfl⟩
  have hi := row_in ok
  rw [← hr] at hi ⊢
  have hp : 0 ≤ p4.toInt ∧ p4.toInt < 3 := by omega
  have hat := at_m hi hp
  dsimp only []
  rw [at_eq hi hp]
  have o : okR p1 p2 p3 ∧ (0 ≤ p4.toInt ∧ p4.toInt ≤ 2) ∧ (0 ≤ p5.toInt ∧ p5.toInt ≤ 3000) := ⟨ok, by omega, by omega⟩
  refine ⟨hi, fun f => ⟨hi, fun g => ⟨fun z => absurd z (by decide), fun _ => h2 o r hr f g⟩, fun g => ⟨fun _ => ⟨⟨by omega, by omega⟩, fun x ex => ⟨⟨by omega, by omega⟩, ?_⟩⟩, fun z => absurd rfl z⟩⟩, fun f => ⟨fun z => absurd z (by decide), fun _ => h3 o r hr f⟩⟩
  rw [ex]; exact h1 o r hr f g
theorem rx_entry {Q : Int32 → VS → Prop} {p1 p2 p3 p4 p5 : Int32} {σ : VS} (h1 : okR p1 p2 p3 ∧ (0 ≤ p4.toInt ∧ p4.toInt ≤ 2) ∧ (0 ≤ p5.toInt ∧ p5.toInt ≤ 3000) → ∀ r, r = ((8 * p1) + (4 * p2)) + p3 → (rd σ 16 r).toInt ≠ 0 → p4.toInt < (rd σ 16 r).toInt → Q (rd σ 15 ((3 * r) + p4)) (sa σ 15 ((3 * r) + p4) p5)) (h2 : okR p1 p2 p3 ∧ (0 ≤ p4.toInt ∧ p4.toInt ≤ 2) ∧ (0 ≤ p5.toInt ∧ p5.toInt ≤ 3000) → ∀ r, r = ((8 * p1) + (4 * p2)) + p3 → (rd σ 16 r).toInt ≠ 0 → (rd σ 16 r).toInt ≤ p4.toInt → Q (-12) σ) (h3 : okR p1 p2 p3 ∧ (0 ≤ p4.toInt ∧ p4.toInt ≤ 2) ∧ (0 ≤ p5.toInt ∧ p5.toInt ≤ 3000) → ∀ r, r = ((8 * p1) + (4 * p2)) + p3 → (rd σ 16 r).toInt = 0 → Q (-11) σ) (h4 : ¬ (okR p1 p2 p3 ∧ (0 ≤ p4.toInt ∧ p4.toInt ≤ 2) ∧ (0 ≤ p5.toInt ∧ p5.toInt ≤ 3000)) → Q (-1) σ) : wp_entry Q p1 p2 p3 p4 p5 σ := by
  unfold wp_entry b_entry_33
  refine isRow_x (fun a => ⟨fun z => absurd z (by decide), fun _ => ?_⟩) (fun a => ⟨fun _ => h4 (fun k => a k.1), fun z => absurd rfl z⟩)
  refine ⟨fun b => h4 (by omega), fun b1 => ⟨fun b => h4 (by omega), fun b2 => ⟨fun b => h4 (by omega), fun b3 => ⟨fun b4 => ?_, fun b => h4 (by omega)⟩⟩⟩⟩
  intro r hr
  have ok : okR p1 p2 p3 := a
  have hi := row_in ok
  rw [← hr] at hi
  have hat := at_m hi (show 0 ≤ p4.toInt ∧ p4.toInt < 3 by omega)
  have o : okR p1 p2 p3 ∧ (0 ≤ p4.toInt ∧ p4.toInt ≤ 2) ∧ (0 ≤ p5.toInt ∧ p5.toInt ≤ 3000) := ⟨ok, by omega, by omega⟩
  exact ⟨hi, fun f => ⟨hi, fun g => ⟨⟨by omega, by omega⟩, fun x ex => ⟨⟨by omega, by omega⟩, by rw [ex]; exact h1 o r hr f g⟩⟩, fun g => h2 o r hr f g⟩, fun f => h3 o r hr f⟩
theorem dp_entry {p1 p2 p3 p4 p5 : Int32} {σ τ : VS} (D : Dt σ τ) : wp_X9entry (fun r σ' => wp_entry (fun r2 τ' => r = r2 ∧ Dt σ' τ') p1 p2 p3 p4 p5 τ) p1 p2 p3 p4 p5 σ := by
  have hk : ∀ r, rd σ 37 r = rd τ 16 r := fun r => D.tab (q := (37, 16)) (by decide) r
  refine cx_entry (fun o r hr f g => ?_) (fun o r hr f g => ?_) (fun o r hr f => ?_) (fun o => ?_)
  · rw [hk] at f g
    exact rx_entry (fun _ r2 h2 _ _ => by rw [h2, ← hr]; exact ⟨D.tab (q := (36, 15)) (by decide) _, (D.sa2 36 15 _ p5 (by decide) (Or.inl (by decide))).fg⟩) (fun _ r2 h2 _ b => by rw [h2, ← hr] at b; omega) (fun _ r2 h2 b => by rw [h2, ← hr] at b; exact absurd b f) (fun h => absurd o h)
  · rw [hk] at f g
    exact rx_entry (fun _ r2 h2 _ b => by rw [h2, ← hr] at b; omega) (fun _ r2 h2 _ b => ⟨rfl, D⟩) (fun _ r2 h2 b => by rw [h2, ← hr] at b; exact absurd b f) (fun h => absurd o h)
  · rw [hk] at f
    exact rx_entry (fun _ r2 h2 b _ => by rw [h2, ← hr] at b; exact absurd f b) (fun _ r2 h2 b _ => by rw [h2, ← hr] at b; exact absurd f b) (fun _ r2 h2 b => ⟨rfl, D⟩) (fun h => absurd o h)
  · exact rx_entry (fun h => absurd h o) (fun h => absurd h o) (fun h => absurd h o) (fun _ => ⟨rfl, D⟩)
/-- places b to c of an array are 10 -/
def fill10 (f : Nat → Int32) (b c : Int) : Nat → Int32 := fun j => if b ≤ (j : Int) ∧ (j : Int) < c then 10 else f j
theorem cx_tear {Q : Int32 → VS → Prop} {p1 p2 p3 p4 : Int32} {σ : VS} (hM : CI σ) (h1 : okR p1 p2 p3 ∧ (0 ≤ p4.toInt ∧ p4.toInt ≤ 3) → ∀ r z, r = ((8 * p1) + (4 * p2)) + p3 → Eo [0, 1] [36, 37] σ z → z.2.1 36 = fill10 (σ.2.1 36) (3 * r.toInt + (rd σ 37 r).toInt) (3 * r.toInt + p4.toInt) → z.2.1 37 = (sa σ 37 r p4).2.1 37 → Q (rd σ 37 r) z) (h4 : ¬ (okR p1 p2 p3 ∧ (0 ≤ p4.toInt ∧ p4.toInt ≤ 3)) → Q (-1) σ) : wp_X9tear Q p1 p2 p3 p4 σ := by
  have e0 : (0 : Int32).toInt = 0 := rfl
  have e1 : (3 : Int32).toInt = 3 := rfl
  unfold wp_X9tear b_X9tear_19
  refine xrow_x (fun a => ⟨fun z => absurd z (by decide), fun _ => ?_⟩) (fun a => ⟨fun _ => h4 (fun k => a k.1), fun z => absurd rfl z⟩)
  refine xwithin_x (fun b => ⟨fun _ => ?_, fun z => absurd z (by decide)⟩) (fun b => ⟨fun z => absurd rfl z, fun _ => h4 (fun k => b (by omega))⟩)
  have ok : okR p1 p2 p3 := a
  have o : okR p1 p2 p3 ∧ (0 ≤ p4.toInt ∧ p4.toInt ≤ 3) := ⟨ok, by omega⟩
  unfold wp_X9forget wp_X5rowPlace
  show wp_X5cutRow (fun r9 σ10 => Q r9 σ10) _ p4 (fg σ)
  rw [row_eq ok]
  obtain ⟨r, hr⟩ : ∃ r, r = ((8 * p1) + (4 * p2)) + p3 := ⟨_, rfl⟩
  have hi := row_in ok
  rw [← hr] at hi ⊢
  have hl : 0 ≤ (rd σ 37 r).toInt ∧ (rd σ 37 r).toInt ≤ 3 := hM.2 37 _
  unfold wp_X5cutRow
  intro X10 H
  refine ⟨hi, fun x ex => ?_⟩
  have ex' : x = rd σ 37 r := ex
  have L : ∀ (m : Nat) (l4 : Int32) (z : VS), p4.toInt - l4.toInt < (m : Int) → x.toInt ≤ l4.toInt ∧ l4.toInt ≤ 3 → Eo [0, 1] [36] σ z → z.2.1 36 = fill10 (σ.2.1 36) (3 * r.toInt + x.toInt) (3 * r.toInt + l4.toInt) → (l4.toInt ≤ p4.toInt ∨ l4.toInt = x.toInt) → X10 r p4 x l4 z := by
    intro m
    induction m with
    | zero =>
      intro l4 z k1 k2 hE h36 hor
      refine H _ _ _ _ _ ?_
      unfold b_X5cutRow_10
      refine ⟨fun g => ⟨hi, ?_⟩, fun g => by omega⟩
      rw [ex']
      refine h1 o r _ hr ((hE.mono (by decide) (by decide)).sa 37 _ _ (by decide)) ?_ ?_
      · rw [sa_other (by decide), h36, ex']
        funext j
        unfold fill10
        rcases hor with hor | hor
        · have e9 : l4.toInt = p4.toInt := by omega
          rw [e9]
        · rw [hor, ex']
          rw [ex'] at hor
          by_cases c1 : 3 * r.toInt + (rd σ 37 r).toInt ≤ (j : Int) ∧ (j : Int) < 3 * r.toInt + (rd σ 37 r).toInt
          · omega
          · rw [if_neg c1, if_neg (by omega)]
      · funext j
        rw [sa_same, sa_same, hE.2 37 (by decide)]
    | succ m ih =>
      intro l4 z k1 k2 hE h36 hor
      refine H _ _ _ _ _ ?_
      unfold b_X5cutRow_10
      refine ⟨fun g => ⟨hi, ?_⟩, fun g => ?_⟩
      · rw [ex']
        refine h1 o r _ hr ((hE.mono (by decide) (by decide)).sa 37 _ _ (by decide)) ?_ ?_
        · rw [sa_other (by decide), h36, ex']
          funext j
          unfold fill10
          rcases hor with hor | hor
          · have e9 : l4.toInt = p4.toInt := by omega
            rw [e9]
          · rw [hor, ex']
            rw [ex'] at hor
            by_cases c1 : 3 * r.toInt + (rd σ 37 r).toInt ≤ (j : Int) ∧ (j : Int) < 3 * r.toInt + (rd σ 37 r).toInt
            · omega
            · rw [if_neg c1, if_neg (by omega)]
        · funext j
          rw [sa_same, sa_same, hE.2 37 (by decide)]
      · have hx : 0 ≤ x.toInt := by rw [ex']; exact hl.1
        have hat := at_c hi (show 0 ≤ l4.toInt ∧ l4.toInt < 3 by omega)
        have t : (l4 + 1).toInt = l4.toInt + 1 := i3_addc rfl rfl rfl (by have e9 : (1 : Int32).toInt = 1 := rfl; omega)
        refine ⟨⟨by omega, by omega⟩, ih _ _ (by omega) (by omega) (hE.sa 36 _ _ (by decide)) ?_ (by omega)⟩
        obtain ⟨n, hn⟩ : ∃ n : Nat, ((r * 3) + l4).toInt = (n : Int) := ⟨((r * 3) + l4).toInt.toNat, by omega⟩
        funext j
        rw [sa_at z 36 _ _ hn, h36]
        unfold fill10
        by_cases c1 : j = n
        · rw [if_pos c1, if_pos (by omega)]
        · rw [if_neg c1]
          by_cases c2 : 3 * r.toInt + x.toInt ≤ (j : Int) ∧ (j : Int) < 3 * r.toInt + l4.toInt
          · rw [if_pos c2, if_pos (by omega)]
          · rw [if_neg c2, if_neg (by omega)]
  refine L 4 x (fg σ) (by rw [ex']; omega) (by rw [ex']; omega) ((fg_eo σ).mono (by decide) (by decide)) ?_ (Or.inr rfl)
  funext j
  unfold fill10
  rw [if_neg (by omega)]
  rfl
theorem rx_tear {Q : Int32 → VS → Prop} {p1 p2 p3 p4 : Int32} {σ : VS} (hM : MI σ) (h1 : okR p1 p2 p3 ∧ (0 ≤ p4.toInt ∧ p4.toInt ≤ 3) → ∀ r z, r = ((8 * p1) + (4 * p2)) + p3 → Eo [] [15, 16] σ z → z.2.1 15 = fill10 (σ.2.1 15) (3 * r.toInt + (rd σ 16 r).toInt) (3 * r.toInt + p4.toInt) → z.2.1 16 = (sa σ 16 r p4).2.1 16 → Q (rd σ 16 r) z) (h4 : ¬ (okR p1 p2 p3 ∧ (0 ≤ p4.toInt ∧ p4.toInt ≤ 3)) → Q (-1) σ) : wp_tear Q p1 p2 p3 p4 σ := by
  unfold wp_tear
  intro X47 H
  unfold b_tear_20
  refine isRow_x (fun a => ⟨fun z => absurd z (by decide), fun _ => ?_⟩) (fun a => ⟨fun _ => h4 (fun k => a k.1), fun z => absurd rfl z⟩)
  refine ⟨fun b => h4 (by omega), fun b1 => ⟨fun b2 => ?_, fun b => h4 (by omega)⟩⟩
  intro r hr
  have ok : okR p1 p2 p3 := a
  have o : okR p1 p2 p3 ∧ (0 ≤ p4.toInt ∧ p4.toInt ≤ 3) := ⟨ok, by omega⟩
  have hi := row_in ok
  rw [← hr] at hi
  have hl : 0 ≤ (rd σ 16 r).toInt ∧ (rd σ 16 r).toInt ≤ 3 := hM.2 16 _
  refine ⟨hi, fun x ex => ?_⟩
  have L : ∀ (m : Nat) (l4 : Int32) (z : VS), p4.toInt - l4.toInt < (m : Int) → x.toInt ≤ l4.toInt ∧ l4.toInt ≤ 3 → Eo [] [15] σ z → z.2.1 15 = fill10 (σ.2.1 15) (3 * r.toInt + x.toInt) (3 * r.toInt + l4.toInt) → (l4.toInt ≤ p4.toInt ∨ l4.toInt = x.toInt) → X47 p4 r x l4 z := by
    intro m
    induction m with
    | zero =>
      intro l4 z k1 k2 hE h36 hor
      refine H _ _ _ _ _ ?_
      unfold b_tear_47
      refine ⟨fun g => ⟨hi, ?_⟩, fun g => by omega⟩
      rw [ex]
      refine h1 o r _ hr ((hE.mono (by decide) (by decide)).sa 16 _ _ (by decide)) ?_ ?_
      · rw [sa_other (by decide), h36, ex]
        funext j
        unfold fill10
        rcases hor with hor | hor
        · have e9 : l4.toInt = p4.toInt := by omega
          rw [e9]
        · rw [hor, ex]
          rw [ex] at hor
          by_cases c1 : 3 * r.toInt + (rd σ 16 r).toInt ≤ (j : Int) ∧ (j : Int) < 3 * r.toInt + (rd σ 16 r).toInt
          · omega
          · rw [if_neg c1, if_neg (by omega)]
      · funext j
        rw [sa_same, sa_same, hE.2 16 (by decide)]
    | succ m ih =>
      intro l4 z k1 k2 hE h36 hor
      refine H _ _ _ _ _ ?_
      unfold b_tear_47
      refine ⟨fun g => ⟨hi, ?_⟩, fun g => ?_⟩
      · rw [ex]
        refine h1 o r _ hr ((hE.mono (by decide) (by decide)).sa 16 _ _ (by decide)) ?_ ?_
        · rw [sa_other (by decide), h36, ex]
          funext j
          unfold fill10
          rcases hor with hor | hor
          · have e9 : l4.toInt = p4.toInt := by omega
            rw [e9]
          · rw [hor, ex]
            rw [ex] at hor
            by_cases c1 : 3 * r.toInt + (rd σ 16 r).toInt ≤ (j : Int) ∧ (j : Int) < 3 * r.toInt + (rd σ 16 r).toInt
            · omega
            · rw [if_neg c1, if_neg (by omega)]
        · funext j
          rw [sa_same, sa_same, hE.2 16 (by decide)]
      · have hx : 0 ≤ x.toInt := by rw [ex]; exact hl.1
        have hat := at_m hi (show 0 ≤ l4.toInt ∧ l4.toInt < 3 by omega)
        have t : (l4 + 1).toInt = l4.toInt + 1 := i3_addc rfl rfl rfl (by have e9 : (1 : Int32).toInt = 1 := rfl; omega)
        refine ⟨⟨by omega, by omega⟩, ih _ _ (by omega) (by omega) (hE.sa 15 _ _ (by decide)) ?_ (by omega)⟩
        obtain ⟨n, hn⟩ : ∃ n : Nat, ((3 * r) + l4).toInt = (n : Int) := ⟨((3 * r) + l4).toInt.toNat, by omega⟩
        funext j
        rw [sa_at z 15 _ _ hn, h36]
        unfold fill10
        by_cases c1 : j = n
        · rw [if_pos c1, if_pos (by omega)]
        · rw [if_neg c1]
          by_cases c2 : 3 * r.toInt + x.toInt ≤ (j : Int) ∧ (j : Int) < 3 * r.toInt + l4.toInt
          · rw [if_pos c2, if_pos (by omega)]
          · rw [if_neg c2, if_neg (by omega)]
  refine L 4 x σ (by rw [ex]; omega) (by rw [ex]; omega) Eo.rfl ?_ (Or.inr rfl)
  funext j
  unfold fill10
  rw [if_neg (by omega)]
theorem dp_tear {p1 p2 p3 p4 : Int32} {σ τ : VS} (J : Jn σ τ) (D : Dt σ τ) : wp_X9tear (fun r σ' => wp_tear (fun r2 τ' => r = r2 ∧ Dt σ' τ') p1 p2 p3 p4 τ) p1 p2 p3 p4 σ := by
  obtain ⟨hM, hC, hM2, hS, hL, k1, -⟩ := J
  have hk : ∀ r, rd σ 37 r = rd τ 16 r := fun r => D.tab (q := (37, 16)) (by decide) r
  have h36 : σ.2.1 36 = τ.2.1 15 := D.2.2.2.2 (36, 15) (by decide)
  have h37 : σ.2.1 37 = τ.2.1 16 := D.2.2.2.2 (37, 16) (by decide)
  refine cx_tear hM (fun o r z hr e f g => rx_tear hM2 (fun _ r2 z2 h2 e2 f2 g2 => ?_) (fun h => absurd o h)) (fun o => rx_tear hM2 (fun h => absurd h o) (fun _ => ⟨rfl, D⟩))
  rw [h2, ← hr] at f2 g2 ⊢
  refine ⟨hk r, ?_⟩
  obtain ⟨⟨d1, d2⟩, d3, d4, d5, d6⟩ := D
  have n1 : ∀ q ∈ cellsL, q.1 ∉ [36, 37] ∧ q.2 ∉ [15, 16] := by decide
  have n2 : ∀ q ∈ freshL, q.1 ∉ [36, 37] := by decide
  have n3 : ∀ q ∈ rulesL, q.1 ∉ [36, 37] ∧ q.2 ∉ [15, 16] := by decide
  have s2 : z.1 2 = σ.1 2 := e.1 2 (by decide)
  have s6 : z.1 6 = σ.1 6 := e.1 6 (by decide)
  refine ⟨⟨by rw [e.1 7 (by decide), e2.1 18 (by decide)]; exact d1, by rw [e.1 8 (by decide), e2.1 19 (by decide)]; exact d2⟩, fun q hq j hj => ?_, fun q hq j hj => ?_, fun q hq j hj => ?_, fun q hq => ?_⟩
  · rw [e.2 _ (n1 q hq).1, e2.2 _ (n1 q hq).2]; rw [s2] at hj; exact d3 q hq j hj
  · rw [e.2 _ (n2 q hq)]; rw [s2] at hj; exact d4 q hq j hj
  · rw [e.2 _ (n3 q hq).1, e2.2 _ (n3 q hq).2]; rw [s6] at hj; exact d5 q hq j hj
  · have hq' : q = (36, 15) ∨ q = (37, 16) ∨ q = (38, 17) := by simpa [tabL] using hq
    rcases hq' with rfl | rfl | rfl
    · show z.2.1 36 = z2.2.1 15
      rw [f, f2, h36, hk r]
    · show z.2.1 37 = z2.2.1 16
      rw [g, g2]
      funext j
      rw [sa_same, sa_same, h37]
    · show z.2.1 38 = z2.2.1 17
      rw [e.2 38 (by decide), e2.2 17 (by decide)]
      exact d6 (38, 17) (by decide)
theorem dp_period {p1 : Int32} {σ τ : VS} (J : Jn σ τ) (D : Dt σ τ) : wp_X9period (fun _ σ' => wp_period (fun _ τ' => Dt σ' τ') p1 τ) p1 σ := by
  obtain ⟨hM, hC, hM2, hS, hL, -⟩ := J
  exact cs_period hM hC (fun r σ' _ _ e _ => rs_period hS hM2 hL (fun r2 τ' _ _ _ f _ => D.quiet e f (by decide) (by decide)))
theorem dp_node {p1 p2 p3 : Int32} {σ τ : VS} (J : Jn σ τ) (D : Dt σ τ) : wp_X9node (fun _ σ' => wp_node (fun _ τ' => Dt σ' τ') p1 p2 p3 τ) p1 p2 p3 σ := by
  obtain ⟨hM, hC, hM2, hS, hL, -⟩ := J
  exact cs_node hM hC (fun r σ' _ _ e _ => rs_node hS hM2 hL (fun r2 τ' _ _ _ f _ => D.quiet e f (by decide) (by decide)))
theorem dp_unexcept {σ τ : VS} (J : Jn σ τ) (D : Dt σ τ) : wp_X9unexcept (fun _ σ' => wp_unexcept (fun _ τ' => Dt σ' τ') τ) σ := by
  obtain ⟨hM, hC, hM2, hS, hL, -⟩ := J
  refine cs_unexcept hM hC (fun r σ' _ _ e a => rs_unexcept hS hM2 hL (fun r2 τ' _ _ _ f b => ?_))
  obtain ⟨⟨d1, d2⟩, d3, d4, d5, d6⟩ := D
  have n1 : ∀ q ∈ cellsL, q.1 ∉ [35] := by decide
  have n2 : ∀ q ∈ freshL, q.1 ∉ [35] := by decide
  have n3 : ∀ q ∈ rulesL, q.1 ∉ [35] := by decide
  have n4 : ∀ q ∈ tabL, q.1 ∉ [35] := by decide
  have s2 : σ'.1 2 = σ.1 2 := e.1 2 (by decide)
  have s6 : (σ'.1 6).toInt ≤ (σ.1 6).toInt := by
    rcases a with ⟨a1, a2⟩ | ⟨a1, a2⟩
    · omega
    · rw [a2]; omega
  refine ⟨⟨by rw [e.1 7 (by decide), f.1 18 (by decide)]; exact d1, by rw [e.1 8 (by decide), f.1 19 (by decide)]; exact d2⟩, fun q hq j hj => ?_, fun q hq j hj => ?_, fun q hq j hj => ?_, fun q hq => ?_⟩
  · rw [e.2 _ (n1 q hq), f.2 _ (by simp)]; rw [s2] at hj; exact d3 q hq j hj
  · rw [e.2 _ (n2 q hq)]; rw [s2] at hj; exact d4 q hq j hj
  · rw [e.2 _ (n3 q hq), f.2 _ (by simp)]; exact d5 q hq j (by omega)
  · rw [e.2 _ (n4 q hq), f.2 _ (by simp)]; exact d6 q hq
