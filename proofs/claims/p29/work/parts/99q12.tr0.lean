/-! THE CLOCK'S SUMS -/
def clS (par w : Nat → Int) : Nat → Int → Int
  | 0, _ => 0
  | d + 1, n => if n < 0 then 0 else w n.toNat + clS par w d (par n.toNat)
theorem clS_n {par w : Nat → Int} {n : Int} (h : n < 0) : ∀ d, clS par w d n = 0
  | 0 => rfl
  | d + 1 => by show (if n < 0 then 0 else w n.toNat + clS par w d (par n.toNat)) = 0; rw [if_pos h]
theorem clS_s {par w : Nat → Int} {n d : Nat} : clS par w (d + 1) (n : Int) = w n + clS par w d (par n) := by
  show (if (n : Int) < 0 then 0 else w (n : Int).toNat + clS par w d (par (n : Int).toNat)) = _
  rw [if_neg (by omega), Int.toNat_natCast]
theorem clS_f {par w : Nat → Int} {N : Nat} (hp : ∀ j, j < N → par j < (j : Int)) : ∀ (d d' : Nat) (n : Int), n < (N : Int) → n < (d : Int) → n < (d' : Int) → clS par w d n = clS par w d' n := by
  intro d
  induction d with
  | zero => intro d' n h1 h2 h3; rw [clS_n (by omega), clS_n (by omega)]
  | succ d ih =>
    intro d' n h1 h2 h3
    by_cases z : n < 0
    · rw [clS_n z, clS_n z]
    · obtain ⟨k, hk⟩ : ∃ k : Nat, n = (k : Int) := ⟨n.toNat, by omega⟩
      obtain ⟨e, he⟩ : ∃ e : Nat, d' = e + 1 := ⟨d' - 1, by omega⟩
      have q := hp k (by omega)
      rw [hk, he, clS_s, clS_s, ih e (par k) (by omega) (by omega) (by omega)]
theorem clS_t {par w : Nat → Int} {N n : Nat} (hp : ∀ j, j < N → par j < (j : Int)) (hn : n < N) (hN : N ≤ 20) : clS par w 20 (n : Int) = w n + clS par w 20 (par n) := by
  have q := hp n hn
  rw [show (20 : Nat) = 19 + 1 from rfl, clS_s, clS_f hp 19 (19 + 1) (par n) (by omega) (by omega) (by omega)]
theorem clS_b {par w : Nat → Int} {N : Nat} (hp : ∀ j, j < N → par j < (j : Int)) (hw : ∀ j, j < N → 0 ≤ w j ∧ w j ≤ 100000) : ∀ (d : Nat) (n : Int), n < (N : Int) → -1 ≤ n → 0 ≤ clS par w d n ∧ clS par w d n ≤ 100000 * (n + 1) := by
  intro d
  induction d with
  | zero => intro n _ h; exact ⟨Int.le_refl _, by show (0 : Int) ≤ _; omega⟩
  | succ d ih =>
    intro n h1 h2
    by_cases z : n < 0
    · rw [clS_n z]; omega
    · obtain ⟨k, hk⟩ : ∃ k : Nat, n = (k : Int) := ⟨n.toNat, by omega⟩
      have q := hp k (by omega)
      have b := hw k (by omega)
      rw [hk, clS_s]
      by_cases y : par k < -1
      · rw [clS_n (by omega)]; omega
      · have i := ih (par k) (by omega) (by omega)
        omega
/-! THE REFERENCE: DATA, OUTPUTS, LOADS -/
def szM (σ : VS) (j : Nat) : Int := if vv σ 2 j = 5 then 0 else vv σ 5 j
def xtM (σ : VS) (j : Nat) : Int := if vv σ 2 j = 5 then 0 else vv σ 6 j
theorem ldF_gap {x : Int} {src sz : Nat → Int} {c : Int} {a : Nat} : ∀ b : Nat, a ≤ b → (∀ w, a ≤ w → w < b → src w ≠ c) → ldF x src sz c a = ldF x src sz c b
  | 0, h, _ => by
    have e : a = 0 := by omega
    rw [e]
  | b + 1, h, g => by
    by_cases q : a = b + 1
    · rw [q]
    · rw [ldF_s, if_neg (g b (by omega) (by omega)), Int.add_zero]
      exact ldF_gap b (by omega) (fun w h1 h2 => g w h1 (by omega))
theorem rx_load {Q : Int32 → VS → Prop} {p1 : Int32} {σ : VS} {c : Nat} (h1 : p1.toInt = (c : Int)) (hc : c < 50) (hM : MI σ) (hW : ∀ w : Nat, w < nC σ * 4 → 0 ≤ vv σ 7 w → ((w % 4 : Nat) : Int) < vv σ 3 (w / 4)) (hq : ∀ r : Int32, r.toInt = ldF (xtM σ c) (vv σ 7) (szM σ) (c : Int) (nC σ * 4) → 0 ≤ r.toInt ∧ r.toInt ≤ 1600 → Q r σ) : wp_load Q p1 σ := by
  have a1 : 0 ≤ (σ.1 1).toInt ∧ (σ.1 1).toInt ≤ 50 := hM.1 1
  have en : (σ.1 1).toInt = ((nC σ : Nat) : Int) := by unfold nC; omega
  have zb : ∀ j, 0 ≤ szM σ j ∧ szM σ j ≤ 2 := fun j => by
    have q : 0 ≤ vv σ 5 j ∧ vv σ 5 j ≤ 2 := hM.2 5 j
    unfold szM
    by_cases k : vv σ 2 j = 5
    · rw [if_pos k]; omega
    · rw [if_neg k]; exact q
  have xb : 0 ≤ xtM σ c ∧ xtM σ c ≤ 1000 := by
    have q : 0 ≤ vv σ 6 c ∧ vv σ 6 c ≤ 1000 := hM.2 6 c
    unfold xtM
    by_cases k : vv σ 2 c = 5
    · rw [if_pos k]; omega
    · rw [if_neg k]; exact q
  have bd := ldF_b (src := vv σ 7) (c := (c : Int)) xb zb
  unfold wp_load
  intro X23 X34 H23 H34
  have L23 : ∀ (d k : Nat) (l2 l3 : Int32), nC σ + 1 ≤ d + k → k ≤ nC σ → l3.toInt = (k : Int) → l2.toInt = ldF (xtM σ c) (vv σ 7) (szM σ) (c : Int) (k * 4) → X23 p1 l2 l3 σ := by
    intro d
    induction d with
    | zero => intro k l2 l3 a b; omega
    | succ d ih =>
      intro k l2 l3 a b e3 e2
      refine H23 p1 l2 l3 σ ?_
      unfold b_load_23
      refine ⟨fun z => ?_, fun z => ?_⟩
      · have ek : k = nC σ := by omega
        rw [ek] at e2
        have q := bd (nC σ * 4)
        exact hq l2 e2 (by rw [e2]; omega)
      · have hk : k < nC σ := by omega
        have m4 : 0 ≤ vv σ 3 k ∧ vv σ 3 k ≤ 4 := hM.2 3 k
        obtain ⟨m, hm⟩ : ∃ m : Nat, vv σ 3 k = (m : Int) := ⟨(vv σ 3 k).toNat, by omega⟩
        have r3 : (rd σ 3 l3).toInt = (m : Int) := by rw [vv_rd e3, hm]
        have L34 : ∀ (f i : Nat) (l2 l4 : Int32), m + 1 ≤ f + i → i ≤ m → l4.toInt = (i : Int) → l2.toInt = ldF (xtM σ c) (vv σ 7) (szM σ) (c : Int) (k * 4 + i) → X34 p1 l2 l3 l4 σ := by
          intro f
          induction f with
          | zero => intro i l2 l4 a b; omega
          | succ f ihf =>
            intro i l2 l4 a2 b2 e4 e5
            refine H34 p1 l2 l3 l4 σ ?_
            unfold b_load_34 b_load_85
            have u1 : (4 * l3).toInt = 4 * (k : Int) := i3_mulc rfl e3 rfl (by have q : (4 : Int32).toInt = 4 := rfl; omega)
            have u2 : (4 * l3 + l4).toInt = 4 * (k : Int) + (i : Int) := i3_addc u1 e4 rfl (by omega)
            have u3 : (4 * l3 + l4).toInt = ((k * 4 + i : Nat) : Int) := by omega
            have r7 : (rd σ 7 (4 * l3 + l4)).toInt = vv σ 7 (k * 4 + i) := vv_rd u3
            have r2 : (rd σ 2 l3).toInt = vv σ 2 k := vv_rd e3
            have r5 : (rd σ 5 l3).toInt = vv σ 5 k := vv_rd e3
            have t4 : (l4 + 1).toInt = ((i + 1 : Nat) : Int) := by
              have q := i3_addc (x := l4 + 1) e4 (show (1 : Int32).toInt = 1 from rfl) rfl (by omega)
              omega
            have t3 : (l3 + 1).toInt = ((k + 1 : Nat) : Int) := by
              have q := i3_addc (x := l3 + 1) e3 (show (1 : Int32).toInt = 1 from rfl) rfl (by omega)
              omega
            have d4 : i < m → (k * 4 + i) / 4 = k := fun q => by omega
            have b5 := bd (k * 4 + i)
            have zk := zb k
            have h82 : i < m → vv σ 7 (k * 4 + i) = (c : Int) → ∀ k0 : Int32, k0.toInt = szM σ k → b_load_82 X23 X34 Q p1 l3 l4 k0 1 l2 σ := fun him es k0 hk0 => by
              unfold b_load_82 b_load_85
              intro x1 ex
              have v1 : (1 + k0).toInt = 1 + szM σ k := i3_addc (show (1 : Int32).toInt = 1 from rfl) hk0 rfl (by omega)
              have v2 : x1.toInt = l2.toInt + (1 + szM σ k) := i3_addc rfl v1 ex (by omega)
              refine ihf (i + 1) x1 (l4 + 1) (by omega) (by omega) t4 ?_
              rw [show k * 4 + (i + 1) = (k * 4 + i) + 1 from rfl, ldF_s, if_pos es, d4 him, v2, e5]
            refine ⟨⟨by omega, by omega⟩, fun z2 => ?_, fun z2 => ⟨⟨by omega, by omega⟩, fun n7 => ?_, fun y7 => ⟨⟨by omega, by omega⟩, fun n5 => ⟨⟨by omega, by omega⟩, ?_⟩, fun y5 => ?_⟩⟩⟩
            · have ei : i = m := by omega
              refine ih (k + 1) l2 (l3 + 1) (by omega) (by omega) t3 ?_
              rw [e5]
              refine ldF_gap _ (by omega) (fun w h2 h3 e => ?_)
              have q := hW w (by omega) (by rw [e]; omega)
              have dw : w / 4 = k := by omega
              rw [dw, hm] at q
              omega
            · rw [r7, h1] at n7
              refine ihf (i + 1) l2 (l4 + 1) (by omega) (by omega) t4 ?_
              rw [show k * 4 + (i + 1) = (k * 4 + i) + 1 from rfl, ldF_s, if_neg n7, Int.add_zero, e5]
            · rw [r7, h1] at y7
              rw [r2] at n5
              exact h82 (by omega) y7 _ (by rw [r5]; unfold szM; rw [if_neg n5])
            · rw [r7, h1] at y7
              rw [r2] at y5
              exact h82 (by omega) y7 0 (by unfold szM; rw [if_pos y5]; rfl)
        exact L34 (m + 1) 0 l2 0 (by omega) (by omega) rfl (by rw [Nat.add_zero]; exact e2)
  unfold b_load_20
  have r2 : (rd σ 2 p1).toInt = vv σ 2 c := vv_rd h1
  have st : ∀ k0 : Int32, k0.toInt = xtM σ c → X23 p1 k0 0 σ := fun k0 hk => L23 (nC σ + 1) 0 k0 0 (by omega) (by omega) rfl (by rw [Nat.zero_mul]; exact hk)
  refine ⟨⟨by omega, by omega⟩, fun n => ⟨⟨by omega, by omega⟩, st _ ?_⟩, fun y => st 0 ?_⟩
  · rw [r2] at n
    unfold xtM
    rw [if_neg n]; exact vv_rd h1
  · rw [r2] at y
    unfold xtM
    rw [if_pos y]; rfl
def dM (σ : VS) (k j : Nat) : Int := match k with
  | 0 => if j < nC σ then vv σ 2 j else 0
  | 1 => if j < nC σ then vv σ 3 j else 0
  | 2 => if j < nC σ then vv σ 4 j else 0
  | 3 => if j < nC σ then ldF (xtM σ j) (vv σ 7) (szM σ) (j : Int) (nC σ * 4) else 0
  | 4 => if j < nC σ then vv σ 5 j else 0
  | 5 => if j < 4 * nC σ then max (vv σ 7 j) (-1) else -1
  | 6 => vv σ 15 j
  | 7 => vv σ 16 j
  | 8 => vv σ 17 j
  | 9 => if j = 0 then (σ.1 18).toInt else (σ.1 19).toInt
  | 10 => if j < nC σ then vv σ 10 j else 0
  | 11 => if j < nC σ then vv σ 9 j else 0
  | 12 => if j < nC σ then vv σ 8 j else 0
  | 13 => if j < nC σ then clS (vv σ 22) (vv σ 24) 20 (vv σ 11 j) else 0
  | 14 => if j < nC σ then clS (vv σ 22) (vv σ 23) 20 (vv σ 11 j) else 0
  | _ => 0
def vM (σ : VS) (k j : Nat) : Int := vv σ (34 + k) j
theorem dM_0 {σ : VS} {j : Nat} (h : j < nC σ) : dM σ 0 j = vv σ 2 j := if_pos h
theorem dM_1 {σ : VS} {j : Nat} (h : j < nC σ) : dM σ 1 j = vv σ 3 j := if_pos h
theorem dM_2 {σ : VS} {j : Nat} (h : j < nC σ) : dM σ 2 j = vv σ 4 j := if_pos h
theorem dM_3 {σ : VS} {j : Nat} (h : j < nC σ) : dM σ 3 j = ldF (xtM σ j) (vv σ 7) (szM σ) (j : Int) (nC σ * 4) := if_pos h
theorem dM_4 {σ : VS} {j : Nat} (h : j < nC σ) : dM σ 4 j = vv σ 5 j := if_pos h
theorem dM_5 {σ : VS} {j : Nat} (h : j < 4 * nC σ) : dM σ 5 j = max (vv σ 7 j) (-1) := if_pos h
theorem dM_11 {σ : VS} {j : Nat} (h : j < nC σ) : dM σ 11 j = vv σ 9 j := if_pos h
theorem dM_12 {σ : VS} {j : Nat} (h : j < nC σ) : dM σ 12 j = vv σ 8 j := if_pos h
theorem dM_13 {σ : VS} {j : Nat} (h : j < nC σ) : dM σ 13 j = clS (vv σ 22) (vv σ 24) 20 (vv σ 11 j) := if_pos h
theorem dM_14 {σ : VS} {j : Nat} (h : j < nC σ) : dM σ 14 j = clS (vv σ 22) (vv σ 23) 20 (vv σ 11 j) := if_pos h
theorem dM_10 {σ : VS} {j : Nat} (h : j < nC σ) : dM σ 10 j = vv σ 10 j := if_pos h
theorem dM_same {F A : List Nat} {σ τ : VS} (h : Eo F A σ τ) (hF : 1 ∉ F ∧ 18 ∉ F ∧ 19 ∉ F) (hA : 2 ∉ A ∧ 3 ∉ A ∧ 4 ∉ A ∧ 5 ∉ A ∧ 6 ∉ A ∧ 7 ∉ A ∧ 8 ∉ A ∧ 9 ∉ A ∧ 10 ∉ A ∧ 15 ∉ A ∧ 16 ∉ A ∧ 17 ∉ A ∧ 11 ∉ A ∧ 22 ∉ A ∧ 23 ∉ A ∧ 24 ∉ A) : dM τ = dM σ := by
  obtain ⟨a2, a3, a4, a5, a6, a7, a8, a9, a10, a15, a16, a17, a11, a22, a23, a24⟩ := hA
  have e1 : szM τ = szM σ := by funext j; unfold szM; rw [vv_eo h a2, vv_eo h a5]
  have e2 : xtM τ = xtM σ := by funext j; unfold xtM; rw [vv_eo h a2, vv_eo h a6]
  funext k j
  unfold dM nC
  rw [e1, e2, vv_eo h a2, vv_eo h a3, vv_eo h a4, vv_eo h a5, vv_eo h a7, vv_eo h a8, vv_eo h a9, vv_eo h a10, vv_eo h a15, vv_eo h a16, vv_eo h a17, vv_eo h a11, vv_eo h a22, vv_eo h a23, vv_eo h a24, h.1 1 hF.1, h.1 18 hF.2.1, h.1 19 hF.2.2]
/-- nothing but the entries of c has changed -/
def FrM (c : Nat) (τ τ' : VS) : Prop := (∀ j, j ≠ c → vv τ' 34 j = vv τ 34 j ∧ vv τ' 35 j = vv τ 35 j) ∧ (∀ k j, k = 36 ∨ k = 37 → j / 8 ≠ c → vv τ' k j = vv τ k j) ∧ ∀ k j, k = 38 ∨ k = 39 ∨ k = 40 ∨ k = 41 → j / 2 ≠ c → vv τ' k j = vv τ k j
theorem FrM.id {c : Nat} {τ : VS} : FrM c τ τ := ⟨fun _ _ => ⟨Eq.refl _, Eq.refl _⟩, fun _ _ _ _ => Eq.refl _, fun _ _ _ _ => Eq.refl _⟩
theorem FrM.trans {c : Nat} {a b d : VS} (h : FrM c a b) (g : FrM c b d) : FrM c a d := ⟨fun j q => ⟨(g.1 j q).1.trans (h.1 j q).1, (g.1 j q).2.trans (h.1 j q).2⟩, fun k j a q => (g.2.1 k j a q).trans (h.2.1 k j a q), fun k j a q => (g.2.2 k j a q).trans (h.2.2 k j a q)⟩
theorem FrM.ec {c s : Nat} {τ τ' : VS} (h : FrM c τ τ') (hs : s ≠ c) : Ec (vM τ) (vM τ') s := by
  refine ⟨(h.1 s hs).1, (h.1 s hs).2, fun e he => ⟨h.2.2 38 _ (Or.inl rfl) (by omega), h.2.2 39 _ (Or.inr (Or.inl rfl)) (by omega), h.2.2 40 _ (Or.inr (Or.inr (Or.inl rfl))) (by omega), h.2.2 41 _ (Or.inr (Or.inr (Or.inr rfl))) (by omega)⟩, fun i e hi he => ⟨h.2.1 36 _ (Or.inl rfl) (by omega), h.2.1 37 _ (Or.inr rfl) (by omega)⟩⟩
