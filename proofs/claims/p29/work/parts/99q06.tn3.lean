/-! FOLDS OVER THE INPUTS OF A CELL -/
theorem stp_z (F : Int) : stp F 0 = F := by
  unfold stp
  by_cases a : F ≠ 0
  · rw [if_pos a]
  · rw [if_neg a]; omega
noncomputable def ffF (act : Nat → Prop) (fl : Nat → Int) : Nat → Int
  | 0 => 0
  | i + 1 => stp (ffF act fl i) (@ite Int (act i) (Classical.propDecidable (act i)) (fl i) 0)
noncomputable def mxF (act : Nat → Prop) (g : Nat → Int) : Nat → Int
  | 0 => 0
  | i + 1 => @ite Int (act i) (Classical.propDecidable (act i)) (max (mxF act g i) (g i)) (mxF act g i)
noncomputable def mnF (act : Nat → Prop) (g : Nat → Int) : Nat → Int
  | 0 => 1000000000
  | i + 1 => @ite Int (act i) (Classical.propDecidable (act i)) (min (mnF act g i) (g i)) (mnF act g i)
theorem ffF_y {act : Nat → Prop} {fl : Nat → Int} {i : Nat} (h : act i) : ffF act fl (i + 1) = stp (ffF act fl i) (fl i) := by
  show stp (ffF act fl i) (@ite Int (act i) (Classical.propDecidable (act i)) (fl i) 0) = _
  rw [if_pos h]
theorem ffF_n {act : Nat → Prop} {fl : Nat → Int} {i : Nat} (h : ¬ act i) : ffF act fl (i + 1) = ffF act fl i := by
  show stp (ffF act fl i) (@ite Int (act i) (Classical.propDecidable (act i)) (fl i) 0) = _
  rw [if_neg h, stp_z]
theorem mxF_y {act : Nat → Prop} {g : Nat → Int} {i : Nat} (h : act i) : mxF act g (i + 1) = max (mxF act g i) (g i) := by
  show @ite Int (act i) (Classical.propDecidable (act i)) (max (mxF act g i) (g i)) (mxF act g i) = _
  rw [if_pos h]
theorem mxF_n {act : Nat → Prop} {g : Nat → Int} {i : Nat} (h : ¬ act i) : mxF act g (i + 1) = mxF act g i := by
  show @ite Int (act i) (Classical.propDecidable (act i)) (max (mxF act g i) (g i)) (mxF act g i) = _
  rw [if_neg h]
theorem mnF_y {act : Nat → Prop} {g : Nat → Int} {i : Nat} (h : act i) : mnF act g (i + 1) = min (mnF act g i) (g i) := by
  show @ite Int (act i) (Classical.propDecidable (act i)) (min (mnF act g i) (g i)) (mnF act g i) = _
  rw [if_pos h]
theorem mnF_n {act : Nat → Prop} {g : Nat → Int} {i : Nat} (h : ¬ act i) : mnF act g (i + 1) = mnF act g i := by
  show @ite Int (act i) (Classical.propDecidable (act i)) (min (mnF act g i) (g i)) (mnF act g i) = _
  rw [if_neg h]
theorem ffF_c {act act' : Nat → Prop} {fl fl' : Nat → Int} : ∀ (m : Nat), (∀ i, i < m → (act i ↔ act' i)) → (∀ i, i < m → act i → fl i = fl' i) → ffF act fl m = ffF act' fl' m
  | 0, _, _ => rfl
  | m + 1, h, g => by
    have ih := ffF_c m (fun i hi => h i (by omega)) (fun i hi => g i (by omega))
    by_cases a : act m
    · rw [ffF_y a, ffF_y ((h m (by omega)).mp a), ih, g m (by omega) a]
    · rw [ffF_n a, ffF_n (fun k => a ((h m (by omega)).mpr k)), ih]
theorem mxF_c {act act' : Nat → Prop} {fl fl' : Nat → Int} : ∀ (m : Nat), (∀ i, i < m → (act i ↔ act' i)) → (∀ i, i < m → act i → fl i = fl' i) → mxF act fl m = mxF act' fl' m
  | 0, _, _ => rfl
  | m + 1, h, g => by
    have ih := mxF_c m (fun i hi => h i (by omega)) (fun i hi => g i (by omega))
    by_cases a : act m
    · rw [mxF_y a, mxF_y ((h m (by omega)).mp a), ih, g m (by omega) a]
    · rw [mxF_n a, mxF_n (fun k => a ((h m (by omega)).mpr k)), ih]
theorem mnF_c {act act' : Nat → Prop} {fl fl' : Nat → Int} : ∀ (m : Nat), (∀ i, i < m → (act i ↔ act' i)) → (∀ i, i < m → act i → fl i = fl' i) → mnF act fl m = mnF act' fl' m
  | 0, _, _ => rfl
  | m + 1, h, g => by
    have ih := mnF_c m (fun i hi => h i (by omega)) (fun i hi => g i (by omega))
    by_cases a : act m
    · rw [mnF_y a, mnF_y ((h m (by omega)).mp a), ih, g m (by omega) a]
    · rw [mnF_n a, mnF_n (fun k => a ((h m (by omega)).mpr k)), ih]
theorem ffF_0 {act : Nat → Prop} {fl : Nat → Int} : ∀ (m : Nat), (∀ i, i < m → ¬ act i) → ffF act fl m = 0
  | 0, _ => rfl
  | m + 1, h => by rw [ffF_n (h m (by omega))]; exact ffF_0 m (fun i hi => h i (by omega))
theorem mxF_0 {act : Nat → Prop} {fl : Nat → Int} : ∀ (m : Nat), (∀ i, i < m → ¬ act i) → mxF act fl m = 0
  | 0, _ => rfl
  | m + 1, h => by rw [mxF_n (h m (by omega))]; exact mxF_0 m (fun i hi => h i (by omega))
theorem mnF_0 {act : Nat → Prop} {fl : Nat → Int} : ∀ (m : Nat), (∀ i, i < m → ¬ act i) → mnF act fl m = 1000000000
  | 0, _ => rfl
  | m + 1, h => by rw [mnF_n (h m (by omega))]; exact mnF_0 m (fun i hi => h i (by omega))
theorem mxF_b {act : Nat → Prop} {g : Nat → Int} {b : Int} (hb : 0 ≤ b) : ∀ (m : Nat), (∀ i, i < m → act i → g i ≤ b) → 0 ≤ mxF act g m ∧ mxF act g m ≤ b
  | 0, _ => ⟨Int.le_refl _, hb⟩
  | m + 1, h => by
    have ih := mxF_b hb m (fun i hi => h i (by omega))
    by_cases a : act m
    · rw [mxF_y a]; have := h m (by omega) a; omega
    · rw [mxF_n a]; exact ih
theorem mnF_b {act : Nat → Prop} {g : Nat → Int} : ∀ (m : Nat), (∀ i, i < m → act i → 0 ≤ g i) → 0 ≤ mnF act g m ∧ mnF act g m ≤ 1000000000
  | 0, _ => ⟨by show (0 : Int) ≤ 1000000000; decide, Int.le_refl _⟩
  | m + 1, h => by
    have ih := mnF_b m (fun i hi => h i (by omega))
    by_cases a : act m
    · rw [mnF_y a]; have := h m (by omega) a; omega
    · rw [mnF_n a]; exact ih
theorem mnF_u {act : Nat → Prop} {g : Nat → Int} {b : Int} : ∀ (m : Nat), (∀ i, i < m → act i → g i ≤ b) → (∃ i, i < m ∧ act i) → mnF act g m ≤ b
  | 0, _, h => by obtain ⟨i, hi, _⟩ := h; omega
  | m + 1, h, hx => by
    by_cases a : act m
    · rw [mnF_y a]; have := h m (by omega) a; omega
    · rw [mnF_n a]
      obtain ⟨i, hi, q⟩ := hx
      have ne : i ≠ m := fun e => a (e ▸ q)
      exact mnF_u m (fun i hi => h i (by omega)) ⟨i, by omega, q⟩
/-! WHAT THE OUTPUT OF A CELL IS, BY THE OUTPUTS THAT IT TAKES -/
def acN (D V : Nat → Nat → Int) (c i : Nat) : Prop := D 0 c = 4 ∨ (0 ≤ D 5 (4 * c + i) ∧ V 0 (D 5 (4 * c + i)).toNat ≠ 0)
def feN (D : Nat → Nat → Int) (c e : Nat) : Nat := if D 0 c = 2 then 1 - e else e
def lsN (D V : Nat → Nat → Int) (k c e i : Nat) : Int := if D 0 c = 4 then 0 else V k (2 * (D 5 (4 * c + i)).toNat + feN D c e)
def alN (D V : Nat → Nat → Int) (k c e i : Nat) : Int := if D 0 c = 4 then D (k + 7) c else V k (2 * (D 5 (4 * c + i)).toNat + feN D c e)
def LN (D : Nat → Nat → Int) (c : Nat) : Int := (D 3 c + (1 + D 4 c) - 1) / (1 + D 4 c)
def EN (D : Nat → Nat → Int) (c : Nat) : Int := D 3 c / (1 + D 4 c)
def nmN (D : Nat → Nat → Int) (i : Int) : Int := D 6 i.toNat
def lfN (D : Nat → Nat → Int) (i : Int) : Int := D 7 i.toNat
def moN (D : Nat → Nat → Int) (c e : Nat) : Int := if e = 1 then D 8 (D 2 c).toNat else 0
def flN (D V : Nat → Nat → Int) (c e i : Nat) : Int := AW (lfN D) (D 2 c) (LN D c) (EN D c) (lsN D V 4 c e i) (lsN D V 5 c e i)
def dlN (D V : Nat → Nat → Int) (c e i : Nat) : Int := dlA (LUt (nmN D) (lfN D) (D 2 c) 0 (LN D c) (lsN D V 4 c e i)) (D 9 0) (moN D c e)
def deN (D V : Nat → Nat → Int) (c e i : Nat) : Int := deA (LUf (nmN D) (lfN D) (D 2 c) 0 (EN D c) (lsN D V 5 c e i)) (D 9 1) (moN D c e)
def glN (D V : Nat → Nat → Int) (c e i : Nat) : Int := LUt (nmN D) (lfN D) (D 2 c) 1 (LN D c) (lsN D V 4 c e i)
def geN (D V : Nat → Nat → Int) (c e i : Nat) : Int := LUf (nmN D) (lfN D) (D 2 c) 1 (EN D c) (lsN D V 5 c e i)
def ipN (D : Nat → Nat → Int) (c : Nat) : Nat := (D 1 c).toNat
def gN (D : Nat → Nat → Int) (c : Nat) : Prop := 0 < D 0 c ∧ D 0 c < 4
def opN (D V : Nat → Nat → Int) (c : Nat) : Prop := ∃ i, i < ipN D c ∧ 0 ≤ D 5 (4 * c + i) ∧ V 1 (D 5 (4 * c + i)).toNat ≠ 0
/-- W: what is known of the outputs that c takes; V: what stands at c -/
def LE2 (D W V : Nat → Nat → Int) (c : Nat) : Prop :=
  (D 0 c = 0 → V 0 c = 1 ∧ V 1 c = 0 ∧ ∀ e, e < 2 → V 4 (2 * c + e) = D 10 c ∧ V 5 (2 * c + e) = D 10 c) ∧
  (D 0 c = 5 → V 0 c = 0 ∧ V 1 c = 0) ∧
  (D 0 c = 4 → V 0 c = 1) ∧
  (gN D c → (V 0 c = 1 ∧ ∃ i, i < ipN D c ∧ acN D W c i) ∨ (V 0 c = 0 ∧ ∀ i, i < ipN D c → ¬ acN D W c i)) ∧
  (gN D c → opN D W c → V 1 c = 1) ∧
  (0 < D 0 c → D 0 c < 5 → (gN D c → ¬ opN D W c) → V 1 c = stp (ffF (acN D W c) (flN D W c 0) (ipN D c)) (ffF (acN D W c) (flN D W c 1) (ipN D c)) ∧
    (V 0 c ≠ 0 → V 1 c = 0 → ∀ e, e < 2 → (∀ i, i < ipN D c → acN D W c i → V 2 (8 * c + 2 * i + e) = dlN D W c e i ∧ V 3 (8 * c + 2 * i + e) = deN D W c e i) ∧ V 4 (2 * c + e) = mxF (acN D W c) (glN D W c e) (ipN D c) ∧ V 5 (2 * c + e) = mnF (acN D W c) (geN D W c e) (ipN D c)))
def LA2 (D W V : Nat → Nat → Int) (c : Nat) : Prop :=
  (D 0 c = 0 → ∀ e, e < 2 → V 6 (2 * c + e) = D 11 c ∧ V 7 (2 * c + e) = D 12 c) ∧
  (0 < D 0 c → D 0 c < 5 → V 0 c ≠ 0 → V 1 c = 0 → ∀ e, e < 2 → V 6 (2 * c + e) = mxF (acN D W c) (fun i => alN D W 6 c e i + V 2 (8 * c + 2 * i + e)) (ipN D c) ∧ V 7 (2 * c + e) = mnF (acN D W c) (fun i => alN D W 7 c e i + V 3 (8 * c + 2 * i + e)) (ipN D c))
/-- the outputs that count are the same -/
def Sm (V V' : Nat → Nat → Int) (s : Nat) : Prop := V 0 s = V' 0 s ∧ V 1 s = V' 1 s ∧ (V 0 s ≠ 0 → V 1 s = 0 → ∀ e, e < 2 → V 4 (2 * s + e) = V' 4 (2 * s + e) ∧ V 5 (2 * s + e) = V' 5 (2 * s + e))
def Sa (V V' : Nat → Nat → Int) (s : Nat) : Prop := V 0 s ≠ 0 → V 1 s = 0 → ∀ e, e < 2 → V 6 (2 * s + e) = V' 6 (2 * s + e) ∧ V 7 (2 * s + e) = V' 7 (2 * s + e)
theorem feN_lt (D : Nat → Nat → Int) (c : Nat) {e : Nat} (h : e < 2) : feN D c e < 2 := by
  unfold feN
  by_cases a : D 0 c = 2
  · rw [if_pos a]; omega
  · rw [if_neg a]; exact h
theorem acN_c {D V V' : Nat → Nat → Int} {c i : Nat} (hs : gN D c → 0 ≤ D 5 (4 * c + i) → Sm V V' (D 5 (4 * c + i)).toNat) (hg : D 0 c = 4 ∨ gN D c) : acN D V c i ↔ acN D V' c i := by
  unfold acN
  rcases hg with h | h
  · exact ⟨fun _ => Or.inl h, fun _ => Or.inl h⟩
  · refine ⟨fun k => k.imp (fun q => q) (fun q => ⟨q.1, ?_⟩), fun k => k.imp (fun q => q) (fun q => ⟨q.1, ?_⟩)⟩
    · rw [← (hs h q.1).1]; exact q.2
    · rw [(hs h q.1).1]; exact q.2
theorem opN_c {D V V' : Nat → Nat → Int} {c : Nat} (hs : ∀ i, i < ipN D c → 0 ≤ D 5 (4 * c + i) → Sm V V' (D 5 (4 * c + i)).toNat) : opN D V c ↔ opN D V' c := by
  unfold opN
  refine ⟨fun ⟨i, a, b, q⟩ => ⟨i, a, b, ?_⟩, fun ⟨i, a, b, q⟩ => ⟨i, a, b, ?_⟩⟩
  · rw [← (hs i a b).2.1]; exact q
  · rw [(hs i a b).2.1]; exact q
theorem lsN_c {D V V' : Nat → Nat → Int} {c e i k : Nat} (hk : k = 4 ∨ k = 5) (he : e < 2) (ha : acN D V c i) (ho : 0 ≤ D 5 (4 * c + i) → D 0 c ≠ 4 → V 1 (D 5 (4 * c + i)).toNat = 0) (hs : D 0 c ≠ 4 → 0 ≤ D 5 (4 * c + i) → Sm V V' (D 5 (4 * c + i)).toNat) : lsN D V k c e i = lsN D V' k c e i := by
  unfold lsN
  by_cases f : D 0 c = 4
  · rw [if_pos f, if_pos f]
  · rw [if_neg f, if_neg f]
    rcases ha with h | h
    · exact absurd h f
    · have q := (hs f h.1).2.2 h.2 (ho h.1 f) (feN D c e) (feN_lt D c he)
      rcases hk with k | k
      · rw [k]; exact q.1
      · rw [k]; exact q.2
theorem alN_c {D V V' : Nat → Nat → Int} {c e i k : Nat} (hk : k = 6 ∨ k = 7) (he : e < 2) (ha : acN D V c i) (ho : 0 ≤ D 5 (4 * c + i) → D 0 c ≠ 4 → V 1 (D 5 (4 * c + i)).toNat = 0) (hs : D 0 c ≠ 4 → 0 ≤ D 5 (4 * c + i) → Sa V V' (D 5 (4 * c + i)).toNat) : alN D V k c e i = alN D V' k c e i := by
  unfold alN
  by_cases f : D 0 c = 4
  · rw [if_pos f, if_pos f]
  · rw [if_neg f, if_neg f]
    rcases ha with h | h
    · exact absurd h f
    · have q := (hs f h.1) h.2 (ho h.1 f) (feN D c e) (feN_lt D c he)
      rcases hk with k | k
      · rw [k]; exact q.1
      · rw [k]; exact q.2
/-- the same entries -/
def Ec (V V' : Nat → Nat → Int) (c : Nat) : Prop := V' 0 c = V 0 c ∧ V' 1 c = V 1 c ∧ (∀ e, e < 2 → V' 4 (2 * c + e) = V 4 (2 * c + e) ∧ V' 5 (2 * c + e) = V 5 (2 * c + e) ∧ V' 6 (2 * c + e) = V 6 (2 * c + e) ∧ V' 7 (2 * c + e) = V 7 (2 * c + e)) ∧ ∀ i e, i < 4 → e < 2 → V' 2 (8 * c + 2 * i + e) = V 2 (8 * c + 2 * i + e) ∧ V' 3 (8 * c + 2 * i + e) = V 3 (8 * c + 2 * i + e)
theorem Ec.id {V : Nat → Nat → Int} {c : Nat} : Ec V V c := ⟨Eq.refl _, Eq.refl _, fun _ _ => ⟨Eq.refl _, Eq.refl _, Eq.refl _, Eq.refl _⟩, fun _ _ _ _ => ⟨Eq.refl _, Eq.refl _⟩⟩
theorem Ec.sm {V V' : Nat → Nat → Int} {c : Nat} (h : Ec V V' c) : Sm V V' c := ⟨h.1.symm, h.2.1.symm, fun _ _ e he => ⟨(h.2.2.1 e he).1.symm, (h.2.2.1 e he).2.1.symm⟩⟩
theorem acN_e {D W W' : Nat → Nat → Int} {c i : Nat} (hs : gN D c → 0 ≤ D 5 (4 * c + i) → Ec W W' (D 5 (4 * c + i)).toNat) (hg : D 0 c = 4 ∨ gN D c) : acN D W c i ↔ acN D W' c i := acN_c (fun g q => (hs g q).sm) hg
theorem lsN_e {D W W' : Nat → Nat → Int} {c e i k : Nat} (hk : k = 4 ∨ k = 5) (he : e < 2) (ha : acN D W c i) (hs : D 0 c ≠ 4 → 0 ≤ D 5 (4 * c + i) → Ec W W' (D 5 (4 * c + i)).toNat) : lsN D W k c e i = lsN D W' k c e i := by
  unfold lsN
  by_cases f : D 0 c = 4
  · rw [if_pos f, if_pos f]
  · rw [if_neg f, if_neg f]
    rcases ha with h | h
    · exact absurd h f
    · have q := (hs f h.1).2.2.1 (feN D c e) (feN_lt D c he)
      rcases hk with k | k
      · rw [k]; exact q.1.symm
      · rw [k]; exact q.2.1.symm
theorem alN_e {D W W' : Nat → Nat → Int} {c e i k : Nat} (hk : k = 6 ∨ k = 7) (he : e < 2) (ha : acN D W c i) (hs : D 0 c ≠ 4 → 0 ≤ D 5 (4 * c + i) → Ec W W' (D 5 (4 * c + i)).toNat) : alN D W k c e i = alN D W' k c e i := by
  unfold alN
  by_cases f : D 0 c = 4
  · rw [if_pos f, if_pos f]
  · rw [if_neg f, if_neg f]
    rcases ha with h | h
    · exact absurd h f
    · have q := (hs f h.1).2.2.1 (feN D c e) (feN_lt D c he)
      rcases hk with k | k
      · rw [k]; exact q.2.2.1.symm
      · rw [k]; exact q.2.2.2.symm
theorem LE2_c {D W W' V V' : Nat → Nat → Int} {c : Nat} (hI : ipN D c ≤ 4) (hs : ∀ i, i < ipN D c → gN D c → 0 ≤ D 5 (4 * c + i) → Ec W W' (D 5 (4 * c + i)).toNat) (hc : Ec V V' c) (h : LE2 D W V c) : LE2 D W' V' c := by
  have hac : (D 0 c = 4 ∨ gN D c) → ∀ i, i < ipN D c → (acN D W c i ↔ acN D W' c i) := fun hg i hi => acN_e (hs i hi) hg
  have hop : gN D c → (opN D W c ↔ opN D W' c) := fun g => opN_c (fun i hi q => (hs i hi g q).sm)
  have hls : ∀ k, (k = 4 ∨ k = 5) → (D 0 c = 4 ∨ gN D c) → ∀ e i, e < 2 → i < ipN D c → acN D W c i → lsN D W k c e i = lsN D W' k c e i := fun k hk hg e i he hi ha => lsN_e hk he ha (fun f q => hs i hi (hg.resolve_left f) q)
  obtain ⟨a, b, c4, d, e5, f⟩ := h
  refine ⟨fun h => ?_, fun h => ?_, fun h => ?_, fun h => ?_, fun h k => ?_, fun h1 h2 h3 => ?_⟩
  · rw [hc.1, hc.2.1]
    exact ⟨(a h).1, (a h).2.1, fun e he => by rw [(hc.2.2.1 e he).1, (hc.2.2.1 e he).2.1]; exact (a h).2.2 e he⟩
  · rw [hc.1, hc.2.1]; exact b h
  · rw [hc.1]; exact c4 h
  · rw [hc.1]
    rcases d h with ⟨q, i, hi, ha⟩ | ⟨q, n⟩
    · exact Or.inl ⟨q, i, hi, (hac (Or.inr h) i hi).mp ha⟩
    · exact Or.inr ⟨q, fun i hi ha => n i hi ((hac (Or.inr h) i hi).mpr ha)⟩
  · rw [hc.2.1]; exact e5 h ((hop h).mpr k)
  · have hg : D 0 c = 4 ∨ gN D c := by unfold gN; omega
    have f' := f h1 h2 (fun g k => h3 g ((hop g).mp k))
    have E0 : ∀ e, e < 2 → ffF (acN D W c) (flN D W c e) (ipN D c) = ffF (acN D W' c) (flN D W' c e) (ipN D c) := fun e he => ffF_c _ (hac hg) (fun i hi ha => by unfold flN; rw [hls 4 (Or.inl rfl) hg e i he hi ha, hls 5 (Or.inr rfl) hg e i he hi ha])
    rw [hc.1, hc.2.1, ← E0 0 (by decide), ← E0 1 (by decide)]
    refine ⟨f'.1, fun r o e he => ?_⟩
    have g := f'.2 r o e he
    refine ⟨fun i hi ha => ?_, ?_, ?_⟩
    · have ha' := (hac hg i hi).mpr ha
      have q := hc.2.2.2 i e (by omega) he
      rw [q.1, q.2, (g.1 i hi ha').1, (g.1 i hi ha').2]
      unfold dlN deN
      rw [hls 4 (Or.inl rfl) hg e i he hi ha', hls 5 (Or.inr rfl) hg e i he hi ha']
      exact ⟨rfl, rfl⟩
    · rw [(hc.2.2.1 e he).1, g.2.1]
      exact mxF_c _ (hac hg) (fun i hi ha => by unfold glN; rw [hls 4 (Or.inl rfl) hg e i he hi ha])
    · rw [(hc.2.2.1 e he).2.1, g.2.2]
      exact mnF_c _ (hac hg) (fun i hi ha => by unfold geN; rw [hls 5 (Or.inr rfl) hg e i he hi ha])
theorem LA2_c {D W W' V V' : Nat → Nat → Int} {c : Nat} (hI : ipN D c ≤ 4) (hs : ∀ i, i < ipN D c → gN D c → 0 ≤ D 5 (4 * c + i) → Ec W W' (D 5 (4 * c + i)).toNat) (hc : Ec V V' c) (h : LA2 D W V c) : LA2 D W' V' c := by
  have hac : (D 0 c = 4 ∨ gN D c) → ∀ i, i < ipN D c → (acN D W c i ↔ acN D W' c i) := fun hg i hi => acN_e (hs i hi) hg
  have hal : ∀ k, (k = 6 ∨ k = 7) → (D 0 c = 4 ∨ gN D c) → ∀ e i, e < 2 → i < ipN D c → acN D W c i → alN D W k c e i = alN D W' k c e i := fun k hk hg e i he hi ha => alN_e hk he ha (fun f q => hs i hi (hg.resolve_left f) q)
  refine ⟨fun h0 e he => ?_, fun h1 h2 r o e he => ?_⟩
  · rw [(hc.2.2.1 e he).2.2.1, (hc.2.2.1 e he).2.2.2]; exact h.1 h0 e he
  · have hg : D 0 c = 4 ∨ gN D c := by unfold gN; omega
    rw [hc.1] at r
    rw [hc.2.1] at o
    have g := h.2 h1 h2 r o e he
    rw [(hc.2.2.1 e he).2.2.1, (hc.2.2.1 e he).2.2.2, g.1, g.2]
    exact ⟨mxF_c _ (hac hg) (fun i hi ha => by rw [hal 6 (Or.inl rfl) hg e i he hi ha, (hc.2.2.2 i e (by omega) he).1]), mnF_c _ (hac hg) (fun i hi ha => by rw [hal 7 (Or.inr rfl) hg e i he hi ha, (hc.2.2.2 i e (by omega) he).2])⟩
/-! THE OUTPUTS ARE DETERMINED -/
def Rk (D : Nat → Nat → Int) (n : Nat) (ρ : Nat → Nat) : Prop := ∀ c i, c < n → i < ipN D c → gN D c → 0 ≤ D 5 (4 * c + i) → (D 5 (4 * c + i)).toNat < n ∧ (gN D (D 5 (4 * c + i)).toNat → ρ (D 5 (4 * c + i)).toNat < ρ c)
def Dl (D V V' : Nat → Nat → Int) (c : Nat) : Prop := D 0 c ≠ 0 → V 0 c ≠ 0 → V 1 c = 0 → ∀ e i, e < 2 → i < ipN D c → acN D V c i → V 2 (8 * c + 2 * i + e) = V' 2 (8 * c + 2 * i + e) ∧ V 3 (8 * c + 2 * i + e) = V' 3 (8 * c + 2 * i + e)
theorem Rk.ind {D : Nat → Nat → Int} {n : Nat} {ρ : Nat → Nat} (hR : Rk D n ρ) {P : Nat → Prop} (st : ∀ c, c < n → (∀ i, i < ipN D c → gN D c → 0 ≤ D 5 (4 * c + i) → P (D 5 (4 * c + i)).toNat) → P c) : ∀ c, c < n → P c := by
  have L : ∀ (r c : Nat), c < n → (gN D c → ρ c < r) → P c := by
    intro r
    induction r with
    | zero => intro c hc h; exact st c hc (fun i _ g _ => absurd (h g) (by omega))
    | succ r ih =>
      intro c hc h
      refine st c hc (fun i hi g q => ?_)
      have k := hR c i hc hi g q
      exact ih _ k.1 (fun g2 => by have := k.2 g2; have := h g; omega)
  exact fun c hc => L (ρ c + 1) c hc (fun _ => by omega)
theorem un_st {D V V' : Nat → Nat → Int} {c : Nat} (hk : 0 ≤ D 0 c ∧ D 0 c ≤ 5) (h : LE2 D V V c) (h' : LE2 D V' V' c) (hs : ∀ i, i < ipN D c → gN D c → 0 ≤ D 5 (4 * c + i) → Sm V V' (D 5 (4 * c + i)).toNat) : Sm V V' c ∧ Dl D V V' c := by
  obtain ⟨a, b, c4, d, e5, f⟩ := h
  obtain ⟨a', b', c4', d', e5', f'⟩ := h'
  by_cases k0 : D 0 c = 0
  · refine ⟨⟨by rw [(a k0).1, (a' k0).1], by rw [(a k0).2.1, (a' k0).2.1], fun _ _ e he => ?_⟩, fun n0 => absurd k0 n0⟩
    rw [((a k0).2.2 e he).1, ((a k0).2.2 e he).2, ((a' k0).2.2 e he).1, ((a' k0).2.2 e he).2]; exact ⟨rfl, rfl⟩
  by_cases k5 : D 0 c = 5
  · exact ⟨⟨by rw [(b k5).1, (b' k5).1], by rw [(b k5).2, (b' k5).2], fun r => absurd (b k5).1 r⟩, fun _ r => absurd (b k5).1 r⟩
  have hg : D 0 c = 4 ∨ gN D c := by unfold gN; omega
  have hac : ∀ i, i < ipN D c → (acN D V c i ↔ acN D V' c i) := fun i hi => acN_c (hs i hi) hg
  have hop : gN D c → (opN D V c ↔ opN D V' c) := fun g => opN_c (fun i hi q => hs i hi g q)
  have e0 : V 0 c = V' 0 c := by
    rcases hg with g | g
    · rw [c4 g, c4' g]
    · rcases d g with ⟨q, i, hi, ha⟩ | ⟨q, m⟩
      · rcases d' g with ⟨q', _⟩ | ⟨_, m'⟩
        · rw [q, q']
        · exact absurd ((hac i hi).mp ha) (m' i hi)
      · rcases d' g with ⟨_, i, hi, ha⟩ | ⟨q', _⟩
        · exact absurd ((hac i hi).mpr ha) (m i hi)
        · rw [q, q']
  by_cases o : gN D c ∧ opN D V c
  · have v1 := e5 o.1 o.2
    have v2 := e5' o.1 ((hop o.1).mp o.2)
    exact ⟨⟨e0, by rw [v1, v2], fun _ z => by rw [v1] at z; omega⟩, fun _ _ z => by rw [v1] at z; omega⟩
  · have no : gN D c → ¬ opN D V c := fun g k => o ⟨g, k⟩
    have ho : ∀ i, i < ipN D c → 0 ≤ D 5 (4 * c + i) → D 0 c ≠ 4 → V 1 (D 5 (4 * c + i)).toNat = 0 := fun i hi q n4 => Decidable.not_not.mp (fun z => no (hg.resolve_left n4) ⟨i, hi, q, z⟩)
    have hls : ∀ k, (k = 4 ∨ k = 5) → ∀ e i, e < 2 → i < ipN D c → acN D V c i → lsN D V k c e i = lsN D V' k c e i := fun k hk e i he hi ha => lsN_c hk he ha (ho i hi) (fun n4 q => hs i hi (hg.resolve_left n4) q)
    have F := f (by omega) (by omega) no
    have F' := f' (by omega) (by omega) (fun g k => no g ((hop g).mpr k))
    have E0 : ∀ e, e < 2 → ffF (acN D V c) (flN D V c e) (ipN D c) = ffF (acN D V' c) (flN D V' c e) (ipN D c) := fun e he => ffF_c _ hac (fun i hi ha => by unfold flN; rw [hls 4 (Or.inl rfl) e i he hi ha, hls 5 (Or.inr rfl) e i he hi ha])
    have e1 : V 1 c = V' 1 c := by rw [F.1, F'.1, E0 0 (by decide), E0 1 (by decide)]
    refine ⟨⟨e0, e1, fun r z e he => ?_⟩, fun _ r z e i he hi ha => ?_⟩
    · have G := F.2 r z e he
      have G' := F'.2 (by rw [← e0]; exact r) (by rw [← e1]; exact z) e he
      rw [G.2.1, G.2.2, G'.2.1, G'.2.2]
      exact ⟨mxF_c _ hac (fun i hi ha => by unfold glN; rw [hls 4 (Or.inl rfl) e i he hi ha]), mnF_c _ hac (fun i hi ha => by unfold geN; rw [hls 5 (Or.inr rfl) e i he hi ha])⟩
    · have G := (F.2 r z e he).1 i hi ha
      have G' := (F'.2 (by rw [← e0]; exact r) (by rw [← e1]; exact z) e he).1 i hi ((hac i hi).mp ha)
      rw [G.1, G.2, G'.1, G'.2]
      unfold dlN deN
      rw [hls 4 (Or.inl rfl) e i he hi ha, hls 5 (Or.inr rfl) e i he hi ha]
      exact ⟨rfl, rfl⟩
theorem un_le {D V V' : Nat → Nat → Int} {n : Nat} {ρ : Nat → Nat} (hR : Rk D n ρ) (hk : ∀ c, c < n → 0 ≤ D 0 c ∧ D 0 c ≤ 5) (h : ∀ c, c < n → LE2 D V V c) (h' : ∀ c, c < n → LE2 D V' V' c) : ∀ c, c < n → Sm V V' c ∧ Dl D V V' c := hR.ind (P := fun c => Sm V V' c ∧ Dl D V V' c) (fun c hc hs => un_st (hk c hc) (h c hc) (h' c hc) (fun i hi g q => (hs i hi g q).1))
theorem un_la {D V V' : Nat → Nat → Int} {n : Nat} {ρ : Nat → Nat} (hR : Rk D n ρ) (hk : ∀ c, c < n → 0 ≤ D 0 c ∧ D 0 c ≤ 5) (h : ∀ c, c < n → LE2 D V V c) (h' : ∀ c, c < n → LE2 D V' V' c) (g : ∀ c, c < n → LA2 D V V c) (g' : ∀ c, c < n → LA2 D V' V' c) : ∀ c, c < n → Sa V V' c := by
  have U := un_le hR hk h h'
  refine hR.ind (P := fun c => Sa V V' c) (fun c hc hs r z e he => ?_)
  have kc := hk c hc
  by_cases k0 : D 0 c = 0
  · rw [((g c hc).1 k0 e he).1, ((g c hc).1 k0 e he).2, ((g' c hc).1 k0 e he).1, ((g' c hc).1 k0 e he).2]; exact ⟨rfl, rfl⟩
  by_cases k5 : D 0 c = 5
  · exact absurd ((h c hc).2.1 k5).1 r
  have hg : D 0 c = 4 ∨ gN D c := by unfold gN; omega
  have u := U c hc
  have hss : ∀ i, i < ipN D c → gN D c → 0 ≤ D 5 (4 * c + i) → Sm V V' (D 5 (4 * c + i)).toNat := fun i hi gg q => (U _ (hR c i hc hi gg q).1).1
  have hac : ∀ i, i < ipN D c → (acN D V c i ↔ acN D V' c i) := fun i hi => acN_c (hss i hi) hg
  have no : gN D c → ¬ opN D V c := fun gg k => by
    have q := (h c hc).2.2.2.2.1 gg k
    omega
  have ho : ∀ i, i < ipN D c → 0 ≤ D 5 (4 * c + i) → D 0 c ≠ 4 → V 1 (D 5 (4 * c + i)).toNat = 0 := fun i hi q n4 => Decidable.not_not.mp (fun y => no (hg.resolve_left n4) ⟨i, hi, q, y⟩)
  have hal : ∀ k, (k = 6 ∨ k = 7) → ∀ i, i < ipN D c → acN D V c i → alN D V k c e i = alN D V' k c e i := fun k hk i hi ha => alN_c hk he ha (ho i hi) (fun n4 q => hs i hi (hg.resolve_left n4) q)
  have G := (g c hc).2 (by omega) (by omega) r z e he
  have G' := (g' c hc).2 (by omega) (by omega) (by rw [← u.1.1]; exact r) (by rw [← u.1.2.1]; exact z) e he
  rw [G.1, G.2, G'.1, G'.2]
  exact ⟨mxF_c _ hac (fun i hi ha => by rw [hal 6 (Or.inl rfl) i hi ha, (u.2 k0 r z e i he hi ha).1]), mnF_c _ hac (fun i hi ha => by rw [hal 7 (Or.inr rfl) i hi ha, (u.2 k0 r z e i he hi ha).2])⟩
