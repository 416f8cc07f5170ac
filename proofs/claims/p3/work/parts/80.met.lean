theorem i3_of {x : Int32} {n : Nat} (h : x.toInt = (n : Int)) (hn : n < 1000) : x = Int32.ofNat n := by
  apply Int32.toInt_inj.mp
  rw [Int32.toInt_ofNat_of_lt (by omega), h]
theorem or_nat {a b : Int32} {m k : Nat} (ha : a.toInt = (m : Int)) (hb : b.toInt = (k : Int)) (hm : m < 16) (hk : k < 16) : (a ||| b).toInt = ((m ||| k : Nat) : Int) := by
  have h1 := i3_nn (x := a) (by omega)
  have h2 := i3_nn (x := b) (by omega)
  have h3 : (a ||| b).toBitVec.toNat = a.toBitVec.toNat ||| b.toBitVec.toNat := BitVec.toNat_or _ _
  have e1 : a.toBitVec.toNat = m := by omega
  have e2 : b.toBitVec.toNat = k := by omega
  rw [e1, e2] at h3
  have h4 : m ||| k < 2 ^ 4 := Nat.or_lt_two_pow (by omega) (by omega)
  exact i3_ofn h3 (by omega)
theorem or_lt {m k : Nat} (hm : m < 16) (hk : k < 16) : m ||| k < 16 := Nat.or_lt_two_pow (n := 4) (by omega) (by omega)
/-- the exceptions whose THROUGH a cell is -/
def metL (σ : VS) (c : Int) : Nat → Int32
  | 0 => 0
  | k + 1 => metL σ c k ||| (if (σ.2.1 28 k).toInt = c then 1 <<< (Int32.ofNat k &&& 31) else 0)
def metV (σ : VS) (c : Int) : Int32 := metL σ c (σ.1 25).toInt.toNat
def metN (σ : VS) (c : Nat) : Nat := (metV σ c).toInt.toNat
theorem metL_bd (σ : VS) (c : Int) (k : Nat) (hk : k ≤ 4) : 0 ≤ (metL σ c k).toInt ∧ (metL σ c k).toInt ≤ 15 := by
  induction k with
  | zero => show 0 ≤ (0 : Int32).toInt ∧ (0 : Int32).toInt ≤ 15; decide
  | succ k ih =>
    have h1 := ih (by omega)
    have h2 : 0 ≤ (if (σ.2.1 28 k).toInt = c then (1 <<< (Int32.ofNat k &&& 31) : Int32) else 0).toInt ∧ (if (σ.2.1 28 k).toInt = c then (1 <<< (Int32.ofNat k &&& 31) : Int32) else 0).toInt ≤ 15 := by
      split
      · have := i3_shl3 (x := 1 <<< (Int32.ofNat k &&& 31)) (k := Int32.ofNat k) rfl (by rw [Int32.toInt_ofNat_of_lt (by omega)]; omega)
        omega
      · exact ⟨by decide, by decide⟩
    exact i3_or15 rfl h1 h2
theorem metV_bd {σ : VS} (hM : MI σ) (c : Int) : 0 ≤ (metV σ c).toInt ∧ (metV σ c).toInt ≤ 15 := by
  have h : 0 ≤ (σ.1 25).toInt ∧ (σ.1 25).toInt ≤ 4 := hM.1 25
  exact metL_bd σ c _ (by omega)
theorem metN_eq {σ : VS} (hM : MI σ) (c : Nat) : (metV σ c).toInt = (metN σ c : Int) ∧ metN σ c < 16 := by
  have h := metV_bd hM c
  unfold metN
  omega
theorem met_s {Q : Int32 → VS → Prop} {p1 : Int32} {σ : VS} (hM : MI σ) (hq : Q (metV σ p1.toInt) σ) : wp_metBy Q p1 σ := by
  have h25 : 0 ≤ (σ.1 25).toInt ∧ (σ.1 25).toInt ≤ 4 := hM.1 25
  unfold wp_metBy
  intro X4 H
  have L : ∀ (d k : Nat) (l3 : Int32), l3.toInt = (k : Int) → k ≤ (σ.1 25).toInt.toNat → (σ.1 25).toInt.toNat - k < d → X4 p1 (metL σ p1.toInt k) l3 σ := by
    intro d
    induction d with
    | zero => intro k l3 h1 h2 h3; omega
    | succ d ih =>
      intro k l3 h1 h2 h3
      refine H _ _ _ _ ?_
      unfold b_metBy_4
      refine ⟨fun hge => ?_, fun hlt => ⟨⟨by omega, by omega⟩, ?_⟩⟩
      · have : k = (σ.1 25).toInt.toNat := by omega
        rw [this]; exact hq
      · have t1 : (l3 + 1).toInt = l3.toInt + 1 := i3_addc rfl rfl rfl (by omega)
        have hr := rd_at σ 28 l3 h1
        have e3 := i3_of h1 (by omega)
        rw [hr]
        refine ⟨fun hne => ?_, fun heq => ?_⟩
        · intro x hx
          have e : x = metL σ p1.toInt (k + 1) := by
            rw [hx]
            show _ = metL σ p1.toInt k ||| (if (σ.2.1 28 k).toInt = p1.toInt then _ else 0)
            rw [if_neg hne]
          rw [e]
          exact ih (k + 1) (l3 + 1) (by omega) (by omega) (by omega)
        · intro x hx
          have e : x = metL σ p1.toInt (k + 1) := by
            rw [hx, e3]
            show _ = metL σ p1.toInt k ||| (if (σ.2.1 28 k).toInt = p1.toInt then _ else 0)
            rw [if_pos heq]
          rw [e]
          exact ih (k + 1) (l3 + 1) (by omega) (by omega) (by omega)
  exact L 5 0 0 rfl (by omega) (by omega)
/-- how many periods -/
def perL (σ : VS) (s t : Int) (mk : Int32) : Nat → Int32
  | 0 => 1
  | k + 1 => if ((σ.2.1 27 k).toInt < 0 ∨ (σ.2.1 27 k).toInt = s) ∧ ((σ.2.1 28 k).toInt < 0 ∨ ((mk >>> (Int32.ofNat k &&& 31)) &&& 1).toInt = 1) ∧ ((σ.2.1 29 k).toInt < 0 ∨ (σ.2.1 29 k).toInt = t) then σ.2.1 26 k else perL σ s t mk k
def perV (σ : VS) (s t : Int) (mk : Int32) : Int32 := perL σ s t mk (σ.1 25).toInt.toNat
theorem perL_bd {σ : VS} (hM : MI σ) (s t : Int) (mk : Int32) (k : Nat) : 0 ≤ (perL σ s t mk k).toInt ∧ (perL σ s t mk k).toInt ≤ 4 := by
  induction k with
  | zero => show 0 ≤ (1 : Int32).toInt ∧ (1 : Int32).toInt ≤ 4; decide
  | succ k ih =>
    unfold perL
    split
    · exact hM.2 26 k
    · exact ih
theorem per_s {Q : Int32 → VS → Prop} {p1 p2 p3 : Int32} {σ : VS} (hM : MI σ) (hq : Q (perV σ p1.toInt p2.toInt p3) σ) : wp_periodsOf Q p1 p2 p3 σ := by
  have h25 : 0 ≤ (σ.1 25).toInt ∧ (σ.1 25).toInt ≤ 4 := hM.1 25
  unfold wp_periodsOf
  intro X6 H
  have L : ∀ (d k : Nat) (l5 : Int32), l5.toInt = (k : Int) → k ≤ (σ.1 25).toInt.toNat → (σ.1 25).toInt.toNat - k < d → X6 p1 p2 p3 (perL σ p1.toInt p2.toInt p3 k) l5 σ := by
    intro d
    induction d with
    | zero => intro k l5 h1 h2 h3; omega
    | succ d ih =>
      intro k l5 h1 h2 h3
      refine H _ _ _ _ _ _ ?_
      unfold b_periodsOf_6
      refine ⟨fun hge => ?_, fun hlt => ⟨⟨by omega, by omega⟩, ?_⟩⟩
      · have : k = (σ.1 25).toInt.toNat := by omega
        rw [this]; exact hq
      · have t1 : (l5 + 1).toInt = l5.toInt + 1 := i3_addc rfl rfl rfl (by omega)
        have hr26 := rd_at σ 26 l5 h1
        have hr27 := rd_at σ 27 l5 h1
        have hr28 := rd_at σ 28 l5 h1
        have hr29 := rd_at σ 29 l5 h1
        have e5 := i3_of h1 (by omega)
        have hno : ¬ (((σ.2.1 27 k).toInt < 0 ∨ (σ.2.1 27 k).toInt = p1.toInt) ∧ ((σ.2.1 28 k).toInt < 0 ∨ ((p3 >>> (Int32.ofNat k &&& 31)) &&& 1).toInt = 1) ∧ ((σ.2.1 29 k).toInt < 0 ∨ (σ.2.1 29 k).toInt = p2.toInt)) → b_periodsOf_81 X6 Q p1 p2 p3 (perL σ p1.toInt p2.toInt p3 k) l5 σ := by
          intro h
          unfold b_periodsOf_81 b_periodsOf_82
          refine ⟨fun _ => ?_, fun h9 => absurd rfl h9⟩
          unfold b_periodsOf_101
          have e : perL σ p1.toInt p2.toInt p3 k = perL σ p1.toInt p2.toInt p3 (k + 1) := by
            show _ = if _ then _ else _
            rw [if_neg h]
          rw [e]
          exact ih (k + 1) (l5 + 1) (by omega) (by omega) (by omega)
        have hyes : (((σ.2.1 27 k).toInt < 0 ∨ (σ.2.1 27 k).toInt = p1.toInt) ∧ ((σ.2.1 28 k).toInt < 0 ∨ ((p3 >>> (Int32.ofNat k &&& 31)) &&& 1).toInt = 1) ∧ ((σ.2.1 29 k).toInt < 0 ∨ (σ.2.1 29 k).toInt = p2.toInt)) → b_periodsOf_77 X6 Q p1 p2 p3 (perL σ p1.toInt p2.toInt p3 k) l5 σ := by
          intro h
          unfold b_periodsOf_77 b_periodsOf_82
          refine ⟨fun h9 => absurd h9 (by decide), fun _ => ⟨⟨by omega, by omega⟩, ?_⟩⟩
          unfold b_periodsOf_101
          have e : rd σ 26 l5 = perL σ p1.toInt p2.toInt p3 (k + 1) := by
            rw [hr26]
            show _ = if _ then _ else _
            rw [if_pos h]
          rw [e]
          exact ih (k + 1) (l5 + 1) (by omega) (by omega) (by omega)
        have h56 : ((σ.2.1 27 k).toInt < 0 ∨ (σ.2.1 27 k).toInt = p1.toInt) → ((σ.2.1 28 k).toInt < 0 ∨ ((p3 >>> (Int32.ofNat k &&& 31)) &&& 1).toInt = 1) → b_periodsOf_56 X6 Q p1 p2 p3 (perL σ p1.toInt p2.toInt p3 k) l5 σ := by
          intro a b
          unfold b_periodsOf_56
          rw [hr29]
          exact ⟨⟨by omega, by omega⟩, fun c => hyes ⟨a, b, Or.inl c⟩, fun c => ⟨⟨by omega, by omega⟩, fun e => hno (fun h => by rcases h.2.2 with q | q <;> omega), fun e => hyes ⟨a, b, Or.inr e⟩⟩⟩
        have h36 : ((σ.2.1 27 k).toInt < 0 ∨ (σ.2.1 27 k).toInt = p1.toInt) → b_periodsOf_36 X6 Q p1 p2 p3 (perL σ p1.toInt p2.toInt p3 k) l5 σ := by
          intro a
          unfold b_periodsOf_36
          rw [hr28, e5, ← e5]
          refine ⟨⟨by omega, by omega⟩, fun c => h56 a (Or.inl c), fun c => ⟨fun e => hno (fun h => ?_), fun e => h56 a (Or.inr (by rw [← e5]; exact e))⟩⟩
          rcases h.2.1 with q | q
          · omega
          · rw [← e5] at q; exact e q
        rw [hr27]
        exact ⟨fun c => h36 (Or.inl c), fun c => ⟨⟨by omega, by omega⟩, fun e => hno (fun h => by rcases h.1 with q | q <;> omega), fun e => h36 (Or.inr e)⟩⟩
  exact L 5 0 0 rfl (by omega) (by omega)
theorem isStart_s {Q : Int32 → VS → Prop} {p1 : Int32} {σ : VS} {n : Nat} (hn : p1.toInt = (n : Int)) (h50 : n < 50) (h1 : (Kd σ n = 0 ∨ Kd σ n = 4) → (σ.2.1 35 n).toInt = 0 → Q 1 σ) (h0 : ¬ ((Kd σ n = 0 ∨ Kd σ n = 4) ∧ (σ.2.1 35 n).toInt = 0) → Q 0 σ) : wp_isStart Q p1 σ := by
  have hr := rd_at σ 2 p1 hn
  have hr5 := rd_at σ 35 p1 hn
  have h19 : (Kd σ n = 0 ∨ Kd σ n = 4) → b_isStart_19 Q p1 σ := by
    intro h
    unfold b_isStart_19 b_isStart_32 b_isStart_33
    rw [hr5]
    exact ⟨⟨by omega, by omega⟩, fun e => ⟨⟨by decide, by decide⟩, h0 (fun z => e z.2)⟩, fun e => ⟨⟨by decide, by decide⟩, h1 h e⟩⟩
  unfold wp_isStart b_isStart_32 b_isStart_33
  rw [hr]
  exact ⟨⟨by omega, by omega⟩, fun a => h19 (Or.inl a), fun a => ⟨⟨by omega, by omega⟩, fun b => ⟨⟨by decide, by decide⟩, h0 (fun z => z.1.elim a b)⟩, fun a => h19 (Or.inr a)⟩⟩
theorem isTarget_s {Q : Int32 → VS → Prop} {p1 : Int32} {σ : VS} {n : Nat} (hn : p1.toInt = (n : Int)) (h50 : n < 50) (h1 : 3 < Kd σ n → Q 1 σ) (h0 : Kd σ n ≤ 3 → Q 0 σ) : wp_isTarget Q p1 σ := by
  have hr := rd_at σ 2 p1 hn
  unfold wp_isTarget b_isTarget_15
  rw [hr]
  exact ⟨⟨by omega, by omega⟩, fun a => ⟨⟨by decide, by decide⟩, h0 a⟩, fun a => ⟨⟨by decide, by decide⟩, h1 a⟩⟩

