/-! THE RACE: ALL OUTPUTS FROM ONE START -/
theorem TO.rk {σ : VS} (hM : CI σ) (hO : TO σ) (hC : CSrc σ) : ∃ ρ, Rk (dC σ) (nCl σ) ρ ∧ (∀ c, ρ c < 50) ∧ ∀ j c : Nat, (j : Int) < (σ.1 3).toInt → vv σ 19 j = (c : Int) → gtC σ c → ρ c = j := by
  have a2 : 0 ≤ (σ.1 2).toInt ∧ (σ.1 2).toInt ≤ 50 := hM.1 2
  have a3 : 0 ≤ (σ.1 3).toInt ∧ (σ.1 3).toInt ≤ 50 := hM.1 3
  have en : (σ.1 2).toInt = ((nCl σ : Nat) : Int) := by unfold nCl; omega
  have ex1 : ∀ c : Nat, ∃ j : Nat, j < 50 ∧ ∀ i : Nat, (i : Int) < (σ.1 3).toInt → vv σ 19 i = (c : Int) → i = j := by
    intro c
    by_cases h : ∃ i : Nat, (i : Int) < (σ.1 3).toInt ∧ vv σ 19 i = (c : Int)
    · obtain ⟨i, hi, e⟩ := h
      refine ⟨i, by omega, fun k hk ek => hO.2.1 k i hk hi ?_⟩
      show vv σ 19 k = vv σ 19 i
      rw [ek, e]
    · exact ⟨0, by omega, fun k hk ek => absurd ⟨k, hk, ek⟩ h⟩
  obtain ⟨ρ, hρ⟩ := Classical.axiomOfChoice ex1
  refine ⟨ρ, fun c i hc hi g q => ?_, fun c => (hρ c).1, fun j c hj e _ => ((hρ c).2 j hj e).symm⟩
  have i4 := Nat.lt_of_lt_of_le hi (ip_4 hM c)
  have gc := (gN_is hc).mp g
  rw [dC_5 (by omega)] at q ⊢
  obtain ⟨k, hk, ek⟩ := hO.2.2.1 c (by omega) gc
  have ek' : vv σ 19 k = (c : Int) := ek
  obtain ⟨s, es, sn, ds⟩ := src_dn hO hC hk ek' i4 (by omega)
  have ss : (max (vv σ 16 (4 * c + i)) (-1)).toNat = s := by omega
  rw [ss]
  refine ⟨by omega, fun g2 => ?_⟩
  rcases ds with d | ⟨j, hj, ej⟩
  · exact absurd ((gN_is (by omega)).mp g2) d
  · have q1 := (hρ c).2 k hk ek'
    have q2 := (hρ s).2 j (by omega) ej
    omega
/-- delays of arcs that count are in range -/
theorem dl_b {σ : VS} {V : Nat → Nat → Int} {bb : Int} (hM : CI σ) (hv : V = vC σ) (hC : CSrc σ) (hT : ∀ c, c < nCl σ → StC σ V c bb) {c i e : Nat} (hc : c < nCl σ) (hk : 0 < dC σ 0 c ∧ dC σ 0 c < 5) (r : V 0 c ≠ 0) (o : V 1 c = 0) (hi : i < ipN (dC σ) c) (he : e < 2) (a : acN (dC σ) V c i) : (0 ≤ V 2 (8 * c + 2 * i + e) ∧ V 2 (8 * c + 2 * i + e) ≤ 6000) ∧ 0 ≤ V 3 (8 * c + 2 * i + e) ∧ V 3 (8 * c + 2 * i + e) ≤ 6000 := by
  have a2 : 0 ≤ (σ.1 2).toInt ∧ (σ.1 2).toInt ≤ 50 := hM.1 2
  have en : (σ.1 2).toInt = ((nCl σ : Nat) : Int) := by unfold nCl; omega
  have i4 := Nat.lt_of_lt_of_le hi (ip_4 hM c)
  have L := (hT c hc).1
  have no : gN (dC σ) c → ¬ opN (dC σ) V c := fun g k => by
    have q := L.2.2.2.2.1 g k
    omega
  have F := L.2.2.2.2.2 hk.1 hk.2 no
  have z := F.1
  rw [o] at z
  have z1 := stp_i z.symm
  have fz : ffF (acN (dC σ) V c) (flN (dC σ) V c e) (ipN (dC σ) c) = 0 := by
    rcases (show e = 0 ∨ e = 1 by omega) with q | q
    · rw [q]; exact z1.1
    · rw [q]; exact z1.2
  have f0 := ffF_z _ fz i hi a
  have G := (F.2 r o e he).1 i hi a
  have ls : ∀ k, k = 4 ∨ k = 5 → 0 ≤ lsN (dC σ) V k c e i := fun k kk => by
    unfold lsN
    by_cases f4 : dC σ 0 c = 4
    · rw [if_pos f4]; omega
    · rw [if_neg f4]
      rcases a with q | q
      · exact absurd q f4
      · have g : gN (dC σ) c := ⟨hk.1, by omega⟩
        have sn : (dC σ 5 (4 * c + i)).toNat < nCl σ := by
          have k2 : vv σ 16 (4 * c + i) < (σ.1 2).toInt := hC (4 * c + i)
          have d5 := dC_5 (σ := σ) (j := 4 * c + i) (by omega)
          have q1 := q.1
          omega
        have os : V 1 (dC σ 5 (4 * c + i)).toNat = 0 := Decidable.not_not.mp (fun y => no g ⟨i, hi, q.1, y⟩)
        have ob := (hT _ sn).2.2 q.2 os (feN (dC σ) c e) (feN_lt _ _ he)
        rcases kk with k4 | k5
        · rw [k4]; exact ob.1
        · rw [k5]; exact ob.2.1
  rw [G.1, G.2]
  rw [hv] at f0 ls ⊢
  have A := arc_b hM hc (ls 4 (Or.inl rfl)) (ls 5 (Or.inr rfl)) f0
  exact ⟨A.1, A.2.1⟩
theorem cx_isSpreadTo {Q : Int32 → VS → Prop} {p1 : Int32} {σ : VS} {sr s K : Nat} {b : Nat → Nat} {La Ea : List Nat → Nat → Int} {L : List (List Nat)} (h1 : p1.toInt = (sr : Int)) (h50 : sr < 50) (hK : (σ.1 9).toInt = (K : Int)) (hK1 : 1 ≤ K ∧ K ≤ 16) (hbm : ∀ p, p ∈ L → mkP b s p < K) (hS : RO b s K La Ea L sr 0 σ) (hy : (∃ p, p ∈ L) → Q 1 σ) (hn : (∀ p, ¬ p ∈ L) → Q 0 σ) : wp_X2isSpreadTo Q p1 σ := by
  unfold wp_X2isSpreadTo
  intro X8 H
  have u1 : (p1 * 2).toInt = ((2 * sr : Nat) : Int) := by
    have q := i3_mulc (x := p1 * 2) h1 (show (2 : Int32).toInt = 2 from rfl) rfl (by omega)
    omega
  have u2 : (p1 * 2 * σ.1 9).toInt = ((2 * sr * K : Nat) : Int) := ix_m u1 hK (by omega) hK1.2 rfl
  have LL : ∀ (d k : Nat) (l2 : Int32), K + 1 ≤ d + k → k ≤ K → l2.toInt = (k : Int) → (∀ p, p ∈ L → k ≤ mkP b s p) → X8 p1 l2 σ := by
    intro d
    induction d with
    | zero => intro k l2 a b'; omega
    | succ d ih =>
      intro k l2 a b' e2 hA
      refine H p1 l2 σ ?_
      unfold b_X2isSpreadTo_8
      rw [hK]
      refine ⟨fun z => hn (fun p hp => ?_), fun z => ?_⟩
      · have q1 := hA p hp
        have q2 := hbm p hp
        omega
      · have hk : k < K := by omega
        have t6 : (p1 * 2 * σ.1 9 + l2).toInt = ((2 * sr * K + k : Nat) : Int) := ix_i u2 e2 (by omega) hK1.2 hk rfl
        have lt6 := ix_lt (a := 2 * sr) (K := K) (t := k) (by omega) hK1.2 hk
        have t2 : (l2 + 1).toInt = ((k + 1 : Nat) : Int) := by
          have q := i3_addc (x := l2 + 1) e2 (show (1 : Int32).toInt = 1 from rfl) rfl (by omega)
          omega
        have src := hS k hk
        have r47 : (rd σ 47 (p1 * 2 * σ.1 9 + l2)).toInt = vv σ 47 ((2 * sr + 0) * K + k) := vv_rd t6
        rw [r47]
        refine ⟨⟨by omega, by omega⟩, fun z2 => ih (k + 1) (l2 + 1) (by omega) (by omega) t2 (fun p hp => ?_), fun z2 => ?_⟩
        · have q1 := hA p hp
          by_cases w : mkP b s p = k
          · have n1 := (cP_pos (φ := fun p => mkP b s p = k) L).mpr ⟨p, hp, w⟩
            have n2 := (Sm3.pos src).mpr n1
            omega
          · omega
        · obtain ⟨p, _, hp, _⟩ := src.val z2
          exact hy ⟨p, hp⟩
  exact ⟨fun _ => LL (K + 1) 0 0 (by omega) (by omega) rfl (fun p _ => by omega), fun z => by omega⟩
/-- what the race of one START rests on -/
def Rst (σ : VS) (K s : Nat) (b : Nat → Nat) (B : Nat → Nat → List (List Nat)) (La Ea : List Nat → Nat → Int) : Prop :=
  ((σ.1 9).toInt = (K : Int) ∧ 1 ≤ K ∧ K ≤ 16) ∧ (∀ x y, x < K → y < K → x ||| y < K) ∧ (∀ c, c < 50 → vv σ 35 c = ((b c : Nat) : Int)) ∧ (∀ c, b c < K) ∧ (∀ c e, c < nCl σ → B c e = BPs (dC σ) (vC σ 1) s B c e) ∧ (∀ p e, La p e = ltP (feN (dC σ)) (vC σ 6) (vC σ 2) s p e) ∧ (∀ p e, Ea p e = ltP (feN (dC σ)) (vC σ 7) (vC σ 3) s p e) ∧ (∀ c, c < nCl σ → StC σ (vC σ) c 2400000) ∧ (s < nCl σ ∧ (vv σ 11 s = 0 ∨ vv σ 11 s = 4) ∧ vC σ 1 s = 0)
theorem Rst.reached {σ : VS} {K s : Nat} {b : Nat → Nat} {B : Nat → Nat → List (List Nat)} {La Ea : List Nat → Nat → Int} (h : Rst σ K s b B La Ea) : vC σ 0 s ≠ 0 := by
  obtain ⟨_, _, _, _, _, _, _, hT, hs, hk, ho⟩ := h
  have L := (hT s hs).1
  have d0 := dC_0 hs
  rcases hk with k | k
  · rw [(L.1 (by omega)).1]; decide
  · rw [L.2.2.1 (by omega)]; decide
/-- the sums along the paths are in range -/
theorem Rst.bd {σ : VS} {K s : Nat} {b : Nat → Nat} {B : Nat → Nat → List (List Nat)} {La Ea : List Nat → Nat → Int} (hM : CI σ) (hO : TO σ) (hC : CSrc σ) (h : Rst σ K s b B La Ea) : ∀ c, c < nCl σ → ∀ e p, p ∈ B c e → e < 2 → (0 ≤ La p e ∧ La p e ≤ 3000000) ∧ 0 ≤ Ea p e ∧ Ea p e ≤ 3000000 := by
  have hr := h.reached
  obtain ⟨_, _, _, _, hB, hLa, hEa, hT, hs, hk, ho⟩ := h
  obtain ⟨ρ, hR, h50, _⟩ := TO.rk hM hO hC
  have d0 := dC_0 hs
  have BR := BP_reach hB hR (fun c hc => (hT c hc).1) hr
  have a2 : 0 ≤ (σ.1 2).toInt ∧ (σ.1 2).toInt ≤ 50 := hM.1 2
  have M : ∀ c, c < nCl σ → ∀ e p, p ∈ B c e → e < 2 → ∃ z : Int, (0 ≤ z ∧ z ≤ 50) ∧ (gN (dC σ) c → z ≤ (ρ c : Int) + 1) ∧ (¬ gN (dC σ) c → z = 0) ∧ (0 ≤ La p e ∧ La p e ≤ 2400000 + 6000 * z) ∧ 0 ≤ Ea p e ∧ Ea p e ≤ 2400000 + 6000 * z := by
    refine BP_ind hB hR (P := fun c e p => e < 2 → ∃ z : Int, (0 ≤ z ∧ z ≤ 50) ∧ (gN (dC σ) c → z ≤ (ρ c : Int) + 1) ∧ (¬ gN (dC σ) c → z = 0) ∧ (0 ≤ La p e ∧ La p e ≤ 2400000 + 6000 * z) ∧ 0 ≤ Ea p e ∧ Ea p e ≤ 2400000 + 6000 * z) (fun e he => ?_) (fun c e i p hc hne g o hi q sn hp ih he => ?_)
    · have ob := (hT s hs).2.2 hr ho e he
      refine ⟨0, by omega, fun _ => by omega, fun _ => rfl, ?_, ?_⟩
      · rw [hLa]
        show 0 ≤ vC σ 6 (2 * s + e) ∧ vC σ 6 (2 * s + e) ≤ 2400000 + 6000 * 0
        omega
      · rw [hEa]
        show 0 ≤ vC σ 7 (2 * s + e) ∧ vC σ 7 (2 * s + e) ≤ 2400000 + 6000 * 0
        omega
    · obtain ⟨z, bz, z1, z2, c1, c2⟩ := ih (feN_lt _ _ he)
      have rk := hR c i hc hi g q
      have rc := h50 c
      have i4 := Nat.lt_of_lt_of_le hi (ip_4 hM c)
      have dw : (4 * c + i) / 4 = c := by omega
      have e8 : 2 * (4 * c + i) + e = 8 * c + 2 * i + e := by omega
      have rs := BR _ sn _ p hp
      have ac : acN (dC σ) (vC σ) c i := Or.inr ⟨q, rs⟩
      have r0 : vC σ 0 c ≠ 0 := by
        rcases (hT c hc).1.2.2.2.1 g with ⟨v, _⟩ | ⟨_, k⟩
        · omega
        · exact absurd ac (k i hi)
      have db := dl_b hM rfl hC hT hc ⟨g.1, by have := g.2; omega⟩ r0 o hi he ac
      have zl : z ≤ (ρ c : Int) := by
        by_cases g2 : gN (dC σ) (dC σ 5 (4 * c + i)).toNat
        · have k1 := z1 g2
          have k2 := rk.2 g2
          omega
        · have k1 := z2 g2
          omega
      refine ⟨z + 1, by omega, fun _ => by omega, fun n => absurd g n, ?_, ?_⟩
      · rw [hLa] at c1 ⊢
        show 0 ≤ ltP (feN (dC σ)) (vC σ 6) (vC σ 2) s p (feN (dC σ) ((4 * c + i) / 4) e) + vC σ 2 (2 * (4 * c + i) + e) ∧ ltP (feN (dC σ)) (vC σ 6) (vC σ 2) s p (feN (dC σ) ((4 * c + i) / 4) e) + vC σ 2 (2 * (4 * c + i) + e) ≤ 2400000 + 6000 * (z + 1)
        rw [dw, e8]
        omega
      · rw [hEa] at c2 ⊢
        show 0 ≤ ltP (feN (dC σ)) (vC σ 7) (vC σ 3) s p (feN (dC σ) ((4 * c + i) / 4) e) + vC σ 3 (2 * (4 * c + i) + e) ∧ ltP (feN (dC σ)) (vC σ 7) (vC σ 3) s p (feN (dC σ) ((4 * c + i) / 4) e) + vC σ 3 (2 * (4 * c + i) + e) ≤ 2400000 + 6000 * (z + 1)
        rw [dw, e8]
        omega
  intro c hc e p hp he
  obtain ⟨z, bz, _, _, q1, q2⟩ := M c hc e p hp he
  omega
