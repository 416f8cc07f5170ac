/-! THE LISTS OF PATHS -/
def BPi (c : Nat) (src : Nat → Int) (R : Nat → List (List Nat)) : Nat → List (List Nat)
  | 0 => []
  | i + 1 => BPi c src R i ++ (if 0 ≤ src (4 * c + i) then (R i).map (fun p => (4 * c + i) :: p) else [])
theorem BPi_y {c : Nat} {src : Nat → Int} {R : Nat → List (List Nat)} {i : Nat} (h : 0 ≤ src (4 * c + i)) : BPi c src R (i + 1) = BPi c src R i ++ (R i).map (fun p => (4 * c + i) :: p) := by
  show BPi c src R i ++ (if 0 ≤ src (4 * c + i) then (R i).map (fun p => (4 * c + i) :: p) else []) = _
  rw [if_pos h]
theorem BPi_n {c : Nat} {src : Nat → Int} {R : Nat → List (List Nat)} {i : Nat} (h : ¬ 0 ≤ src (4 * c + i)) : BPi c src R (i + 1) = BPi c src R i := by
  show BPi c src R i ++ (if 0 ≤ src (4 * c + i) then (R i).map (fun p => (4 * c + i) :: p) else []) = _
  rw [if_neg h, List.append_nil]
theorem BPi_c {c : Nat} {src : Nat → Int} {R R' : Nat → List (List Nat)} : ∀ m : Nat, (∀ i, i < m → 0 ≤ src (4 * c + i) → R i = R' i) → BPi c src R m = BPi c src R' m
  | 0, _ => rfl
  | m + 1, h => by
    have ih := BPi_c m (fun i hi => h i (by omega))
    by_cases k : 0 ≤ src (4 * c + m)
    · rw [BPi_y k, BPi_y k, ih, h m (by omega) k]
    · rw [BPi_n k, BPi_n k, ih]
theorem BPi_mem {c : Nat} {src : Nat → Int} {R : Nat → List (List Nat)} {p : List Nat} : ∀ m : Nat, p ∈ BPi c src R m ↔ ∃ i, i < m ∧ 0 ≤ src (4 * c + i) ∧ ∃ q, q ∈ R i ∧ p = (4 * c + i) :: q
  | 0 => ⟨fun h => (by cases h), fun ⟨i, hi, _⟩ => by omega⟩
  | m + 1 => by
    have ih := BPi_mem (c := c) (src := src) (R := R) (p := p) m
    by_cases k : 0 ≤ src (4 * c + m)
    · rw [BPi_y k, List.mem_append, ih]
      refine ⟨fun h => ?_, fun ⟨i, hi, a, q, b, e⟩ => ?_⟩
      · rcases h with ⟨i, hi, r⟩ | h
        · exact ⟨i, by omega, r⟩
        · obtain ⟨q, hq, e⟩ := List.mem_map.mp h
          exact ⟨m, by omega, k, q, hq, e.symm⟩
      · by_cases z : i = m
        · rw [z] at b e
          exact Or.inr (List.mem_map.mpr ⟨q, b, e.symm⟩)
        · exact Or.inl ⟨i, by omega, a, q, b, e⟩
    · rw [BPi_n k, ih]
      refine ⟨fun ⟨i, hi, r⟩ => ⟨i, by omega, r⟩, fun ⟨i, hi, a, r⟩ => ⟨i, ?_, a, r⟩⟩
      by_cases z : i = m
      · exact absurd (z ▸ a) k
      · omega
def BPs (D : Nat → Nat → Int) (O : Nat → Int) (s : Nat) (B : Nat → Nat → List (List Nat)) (c e : Nat) : List (List Nat) := if c = s then [[]] else if (0 < D 0 c ∧ D 0 c < 4) ∧ O c = 0 then BPi c (D 5) (fun i => B (D 5 (4 * c + i)).toNat (feN D c e)) (ipN D c) else []
def BPf (D : Nat → Nat → Int) (O : Nat → Int) (s : Nat) : Nat → Nat → Nat → List (List Nat)
  | 0 => fun _ _ => []
  | f + 1 => BPs D O s (BPf D O s f)
theorem BPs_c {D : Nat → Nat → Int} {O : Nat → Int} {s c e : Nat} {B B' : Nat → Nat → List (List Nat)} (h : ∀ i f, i < ipN D c → gN D c → 0 ≤ D 5 (4 * c + i) → B (D 5 (4 * c + i)).toNat f = B' (D 5 (4 * c + i)).toNat f) : BPs D O s B c e = BPs D O s B' c e := by
  unfold BPs
  by_cases a : c = s
  · rw [if_pos a, if_pos a]
  · rw [if_neg a, if_neg a]
    by_cases g : (0 < D 0 c ∧ D 0 c < 4) ∧ O c = 0
    · rw [if_pos g, if_pos g]
      exact BPi_c _ (fun i hi q => h i _ hi g.1 q)
    · rw [if_neg g, if_neg g]
theorem BP_ex {D : Nat → Nat → Int} {n : Nat} {ρ : Nat → Nat} (hR : Rk D n ρ) (O : Nat → Int) (s : Nat) : ∃ B : Nat → Nat → List (List Nat), ∀ c e, c < n → B c e = BPs D O s B c e := by
  have st : ∀ (f c : Nat), c < n → (gN D c → ρ c < f) → ∀ e, BPf D O s (f + 1) c e = BPf D O s (f + 2) c e := by
    intro f
    induction f with
    | zero =>
      intro c hc hg e
      exact BPs_c (B := BPf D O s 0) (B' := BPf D O s 1) (fun i k hi g _ => absurd (hg g) (by omega))
    | succ f ih =>
      intro c hc hg e
      refine BPs_c (B := BPf D O s (f + 1)) (B' := BPf D O s (f + 2)) (fun i k hi g q => ?_)
      have r := hR c i hc hi g q
      exact ih _ r.1 (fun g2 => by have := r.2 g2; have := hg g; omega) k
  have up : ∀ (d f c : Nat), c < n → (gN D c → ρ c < f) → ∀ e, BPf D O s (f + 1) c e = BPf D O s (f + 1 + d) c e := by
    intro d
    induction d with
    | zero => intro f c _ _ e; rfl
    | succ d ih =>
      intro f c hc hg e
      rw [ih f c hc hg e]
      have q := st (f + d) c hc (fun g => by have := hg g; omega) e
      rw [show f + 1 + d = f + d + 1 by omega, show f + 1 + (d + 1) = f + d + 2 by omega]
      exact q
  refine ⟨fun c e => BPf D O s (ρ c + 2) c e, fun c e hc => ?_⟩
  show BPs D O s (BPf D O s (ρ c + 1)) c e = _
  refine BPs_c (fun i k hi g q => ?_)
  have r := hR c i hc hi g q
  obtain ⟨s2, hs2⟩ : ∃ s2, s2 = (D 5 (4 * c + i)).toNat := ⟨_, rfl⟩
  rw [← hs2] at r ⊢
  by_cases g2 : gN D s2
  · have lt := r.2 g2
    have q1 := up (ρ c - ρ s2) (ρ s2 + 1) s2 r.1 (fun _ => by omega) k
    have q2 := up 0 (ρ s2 + 1) s2 r.1 (fun _ => by omega) k
    have q3 := up (ρ c - ρ s2 - 1) (ρ s2 + 1) s2 r.1 (fun _ => by omega) k
    rw [show ρ s2 + 1 + 1 + (ρ c - ρ s2 - 1) = ρ c + 1 by omega] at q3
    exact q3.symm
  · have q1 := up (ρ c) 0 s2 r.1 (fun g3 => absurd g3 g2) k
    have q2 := up (ρ s2 + 1) 0 s2 r.1 (fun g3 => absurd g3 g2) k
    rw [show 0 + 1 + ρ c = ρ c + 1 by omega] at q1
    rw [show 0 + 1 + (ρ s2 + 1) = ρ s2 + 2 by omega] at q2
    show BPf D O s (ρ c + 1) s2 k = BPf D O s (ρ s2 + 2) s2 k
    rw [← q1, ← q2]
section
variable {D V : Nat → Nat → Int} {n s : Nat} {ρ : Nat → Nat} {B : Nat → Nat → List (List Nat)}
theorem BP_s (hB : ∀ c e, c < n → B c e = BPs D (V 1) s B c e) (hs : s < n) (e : Nat) : B s e = [[]] := by
  rw [hB s e hs]
  unfold BPs
  rw [if_pos rfl]
theorem BP_g (hB : ∀ c e, c < n → B c e = BPs D (V 1) s B c e) {c : Nat} (hc : c < n) (hne : c ≠ s) (g : gN D c) (o : V 1 c = 0) (e : Nat) : B c e = BPi c (D 5) (fun i => B (D 5 (4 * c + i)).toNat (feN D c e)) (ipN D c) := by
  have q := hB c e hc
  unfold BPs at q
  rw [if_neg hne, if_pos ⟨g, o⟩] at q
  exact q
theorem BP_0 (hB : ∀ c e, c < n → B c e = BPs D (V 1) s B c e) {c : Nat} (hc : c < n) (hne : c ≠ s) (h : ¬ (gN D c ∧ V 1 c = 0)) (e : Nat) : B c e = [] := by
  have q := hB c e hc
  unfold BPs at q
  rw [if_neg hne, if_neg (fun k => h ⟨k.1, k.2⟩)] at q
  exact q
/-- one induction along the paths -/
theorem BP_ind (hB : ∀ c e, c < n → B c e = BPs D (V 1) s B c e) (hR : Rk D n ρ) {P : Nat → Nat → List Nat → Prop} (h0 : ∀ e, P s e []) (h1 : ∀ c e i p, c < n → c ≠ s → gN D c → V 1 c = 0 → i < ipN D c → 0 ≤ D 5 (4 * c + i) → (D 5 (4 * c + i)).toNat < n → p ∈ B (D 5 (4 * c + i)).toNat (feN D c e) → P (D 5 (4 * c + i)).toNat (feN D c e) p → P c e ((4 * c + i) :: p)) : ∀ c, c < n → ∀ e p, p ∈ B c e → P c e p := by
  refine hR.ind (P := fun c => ∀ e p, p ∈ B c e → P c e p) (fun c hc hs e p hp => ?_)
  by_cases z : c = s
  · rw [z] at hp ⊢
    rw [BP_s hB (by omega)] at hp
    have e1 : p = [] := List.mem_singleton.mp hp
    rw [e1]; exact h0 e
  · by_cases g : gN D c ∧ V 1 c = 0
    · rw [BP_g hB hc z g.1 g.2] at hp
      obtain ⟨i, hi, q, r, hr, e1⟩ := (BPi_mem _).mp hp
      rw [e1]
      exact h1 c e i r hc z g.1 g.2 hi q (hR c i hc hi g.1 q).1 hr (hs i hi g.1 q _ r hr)
    · rw [BP_0 hB hc z g] at hp
      cases hp
theorem BP_reach (hB : ∀ c e, c < n → B c e = BPs D (V 1) s B c e) (hR : Rk D n ρ) (hL : ∀ c, c < n → LE2 D V V c) (hs : V 0 s ≠ 0) : ∀ c, c < n → ∀ e p, p ∈ B c e → V 0 c ≠ 0 := by
  refine BP_ind hB hR (P := fun c _ _ => V 0 c ≠ 0) (fun _ => hs) (fun c e i p hc _ g _ hi q _ _ ih => ?_)
  rcases (hL c hc).2.2.2.1 g with ⟨v, _⟩ | ⟨_, k⟩
  · omega
  · exact absurd (Or.inr ⟨q, ih⟩) (k i hi)
/-- both edges of an output have paths, or none -/
theorem BP_edge (hB : ∀ c e, c < n → B c e = BPs D (V 1) s B c e) (hR : Rk D n ρ) : ∀ c, c < n → ∀ e f, e < 2 → f < 2 → (∃ p, p ∈ B c e) → ∃ p, p ∈ B c f := by
  refine hR.ind (P := fun c => ∀ e f, e < 2 → f < 2 → (∃ p, p ∈ B c e) → ∃ p, p ∈ B c f) (fun c hc hs e f he hf ⟨p, hp⟩ => ?_)
  by_cases z : c = s
  · rw [z, BP_s hB (by omega)]
    exact ⟨[], List.mem_singleton.mpr rfl⟩
  · by_cases g : gN D c ∧ V 1 c = 0
    · rw [BP_g hB hc z g.1 g.2] at hp
      obtain ⟨i, hi, q, r, hr, _⟩ := (BPi_mem _).mp hp
      obtain ⟨r2, hr2⟩ := hs i hi g.1 q _ (feN D c f) (feN_lt D c he) (feN_lt D c hf) ⟨r, hr⟩
      rw [BP_g hB hc z g.1 g.2]
      exact ⟨(4 * c + i) :: r2, (BPi_mem _).mpr ⟨i, hi, q, r2, hr2, rfl⟩⟩
    · rw [BP_0 hB hc z g] at hp
      cases hp
theorem mkP_lt {b : Nat → Nat} {K : Nat} (hK : ∀ x y, x < K → y < K → x ||| y < K) (hb : ∀ c, b c < K) : ∀ p : List Nat, mkP b s p < K
  | [] => hb s
  | w :: p => hK _ _ (mkP_lt hK hb p) (hb _)
end
