/-! SUMMARIES OF PATHS -/
def Sm3 (n : Nat) (M : Int → Int → Prop) (w l g : Int) : Prop := w = min 1000 (n : Int) ∧ (0 < n ↔ ∃ a b, M a b) ∧ (0 < n → (∀ a b, M a b → a ≤ l ∧ g ≤ b) ∧ (∃ a b, M a b ∧ a = l) ∧ ∃ a b, M a b ∧ b = g)
theorem Sm3.cg {n n' : Nat} {M M' : Int → Int → Prop} {w l g : Int} (hn : n = n') (hM : ∀ a b, M a b ↔ M' a b) (h : Sm3 n M w l g) : Sm3 n' M' w l g := by
  have e : M = M' := by
    funext a b
    exact propext (hM a b)
  rw [← hn, ← e]
  exact h
theorem Sm3.un {n : Nat} {M : Int → Int → Prop} {w l g w' l' g' : Int} (h : Sm3 n M w l g) (h' : Sm3 n M w' l' g') : w = w' ∧ (0 < n → l = l' ∧ g = g') := by
  refine ⟨h.1.trans h'.1.symm, fun p => ?_⟩
  obtain ⟨a1, ⟨x1, y1, m1, e1⟩, ⟨x2, y2, m2, e2⟩⟩ := h.2.2 p
  obtain ⟨b1, ⟨x3, y3, m3, e3⟩, ⟨x4, y4, m4, e4⟩⟩ := h'.2.2 p
  have q1 := a1 x3 y3 m3
  have q2 := b1 x1 y1 m1
  have q3 := a1 x4 y4 m4
  have q4 := b1 x2 y2 m2
  omega
theorem Sm3.nil {M : Int → Int → Prop} (hM : ∀ a b, ¬ M a b) {l g : Int} : Sm3 0 M 0 l g := ⟨rfl, ⟨fun h => by omega, fun ⟨a, b, m⟩ => absurd m (hM a b)⟩, fun h => by omega⟩
theorem Sm3.one (a b : Int) : Sm3 1 (fun x y => x = a ∧ y = b) 1 a b := ⟨rfl, ⟨fun _ => ⟨a, b, rfl, rfl⟩, fun _ => by omega⟩, fun _ => ⟨fun x y m => by omega, ⟨a, b, ⟨rfl, rfl⟩, rfl⟩, ⟨a, b, ⟨rfl, rfl⟩, rfl⟩⟩⟩
theorem Sm3.pos {n : Nat} {M : Int → Int → Prop} {w l g : Int} (h : Sm3 n M w l g) : 0 < w ↔ 0 < n := by
  have q := h.1
  omega
theorem Sm3.merge {n n' : Nat} {M M' : Int → Int → Prop} {w l g w' l' g' : Int} (h : Sm3 n M w l g) (h' : Sm3 n' M' w' l' g') (hp : 0 < n') : Sm3 (n + n') (fun a b => M a b ∨ M' a b) (min 1000 (w + w')) (if w = 0 then l' else max l l') (if w = 0 then g' else min g g') := by
  have q := h.1
  have q' := h'.1
  obtain ⟨b1, ⟨x3, y3, m3, e3⟩, ⟨x4, y4, m4, e4⟩⟩ := h'.2.2 hp
  refine ⟨by omega, ⟨fun _ => ⟨x3, y3, Or.inr m3⟩, fun _ => by omega⟩, fun _ => ?_⟩
  by_cases z : w = 0
  · have n0 : ¬ 0 < n := by omega
    have none : ∀ a b, ¬ M a b := fun a b m => n0 (h.2.1.mpr ⟨a, b, m⟩)
    rw [if_pos z, if_pos z]
    exact ⟨fun a b m => m.elim (fun k => absurd k (none a b)) (b1 a b), ⟨x3, y3, Or.inr m3, e3⟩, ⟨x4, y4, Or.inr m4, e4⟩⟩
  · have n1 : 0 < n := by omega
    obtain ⟨a1, ⟨x1, y1, m1, e1⟩, ⟨x2, y2, m2, e2⟩⟩ := h.2.2 n1
    rw [if_neg z, if_neg z]
    refine ⟨fun a b m => ?_, ?_, ?_⟩
    · rcases m with m | m
      · have k := a1 a b m; omega
      · have k := b1 a b m; omega
    · by_cases c : l ≤ l'
      · exact ⟨x3, y3, Or.inr m3, by omega⟩
      · exact ⟨x1, y1, Or.inl m1, by omega⟩
    · by_cases c : g' ≤ g
      · exact ⟨x4, y4, Or.inr m4, by omega⟩
      · exact ⟨x2, y2, Or.inl m2, by omega⟩
/-! COUNTS -/
noncomputable def cP (φ : List Nat → Prop) : List (List Nat) → Nat
  | [] => 0
  | p :: L => cP φ L + @ite Nat (φ p) (Classical.propDecidable (φ p)) 1 0
theorem cP_y {φ : List Nat → Prop} {p : List Nat} {L : List (List Nat)} (h : φ p) : cP φ (p :: L) = cP φ L + 1 := by
  show cP φ L + @ite Nat (φ p) (Classical.propDecidable (φ p)) 1 0 = _
  rw [if_pos h]
theorem cP_n {φ : List Nat → Prop} {p : List Nat} {L : List (List Nat)} (h : ¬ φ p) : cP φ (p :: L) = cP φ L := by
  show cP φ L + @ite Nat (φ p) (Classical.propDecidable (φ p)) 1 0 = _
  rw [if_neg h, Nat.add_zero]
theorem cP_app {φ : List Nat → Prop} {K : List (List Nat)} : ∀ L : List (List Nat), cP φ (L ++ K) = cP φ L + cP φ K
  | [] => by rw [List.nil_append]; show cP φ K = 0 + cP φ K; omega
  | p :: L => by
    rw [List.cons_append]
    by_cases h : φ p
    · rw [cP_y h, cP_y h, cP_app L]; omega
    · rw [cP_n h, cP_n h, cP_app L]
theorem cP_map {φ : List Nat → Prop} {f : List Nat → List Nat} : ∀ L : List (List Nat), cP φ (L.map f) = cP (fun p => φ (f p)) L
  | [] => rfl
  | p :: L => by
    rw [List.map_cons]
    by_cases h : φ (f p)
    · rw [cP_y h, cP_y (φ := fun p => φ (f p)) h, cP_map L]
    · rw [cP_n h, cP_n (φ := fun p => φ (f p)) h, cP_map L]
theorem cP_c {φ ψ : List Nat → Prop} : ∀ L : List (List Nat), (∀ p, p ∈ L → (φ p ↔ ψ p)) → cP φ L = cP ψ L
  | [], _ => rfl
  | p :: L, h => by
    have ih := cP_c L (fun q hq => h q (List.mem_cons_of_mem _ hq))
    by_cases k : φ p
    · rw [cP_y k, cP_y ((h p List.mem_cons_self).mp k), ih]
    · rw [cP_n k, cP_n (fun j => k ((h p List.mem_cons_self).mpr j)), ih]
theorem cP_or {φ ψ : List Nat → Prop} : ∀ L : List (List Nat), (∀ p, p ∈ L → ¬ (φ p ∧ ψ p)) → cP (fun p => φ p ∨ ψ p) L = cP φ L + cP ψ L
  | [], _ => rfl
  | p :: L, h => by
    have ih := cP_or L (fun q hq => h q (List.mem_cons_of_mem _ hq))
    have np := h p List.mem_cons_self
    by_cases k : φ p
    · have k2 : ¬ ψ p := fun j => np ⟨k, j⟩
      rw [cP_y (φ := fun p => φ p ∨ ψ p) (Or.inl k), cP_y k, cP_n k2, ih]; omega
    · by_cases k2 : ψ p
      · rw [cP_y (φ := fun p => φ p ∨ ψ p) (Or.inr k2), cP_n k, cP_y k2, ih]; omega
      · rw [cP_n (φ := fun p => φ p ∨ ψ p) (fun j => j.elim k k2), cP_n k, cP_n k2, ih]
theorem cP_pos {φ : List Nat → Prop} : ∀ L : List (List Nat), 0 < cP φ L ↔ ∃ p, p ∈ L ∧ φ p
  | [] => ⟨fun h => by
      have e : cP φ [] = 0 := rfl
      omega, fun ⟨p, hp, _⟩ => by cases hp⟩
  | q :: L => by
    have ih := cP_pos (φ := φ) L
    by_cases k : φ q
    · rw [cP_y k]
      exact ⟨fun _ => ⟨q, List.mem_cons_self, k⟩, fun _ => by omega⟩
    · rw [cP_n k, ih]
      refine ⟨fun ⟨p, hp, h⟩ => ⟨p, List.mem_cons_of_mem _ hp, h⟩, fun ⟨p, hp, h⟩ => ?_⟩
      rcases List.mem_cons.mp hp with e | hp
      · exact absurd (e ▸ h) k
      · exact ⟨p, hp, h⟩
/-! THE PATHS FROM A START TO AN OUTPUT -/
def ltP (fe : Nat → Nat → Nat) (A d : Nat → Int) (s : Nat) : List Nat → Nat → Int
  | [], e => A (2 * s + e)
  | w :: p, e => ltP fe A d s p (fe (w / 4) e) + d (2 * w + e)
def mkP (b : Nat → Nat) (s : Nat) : List Nat → Nat
  | [] => b s
  | w :: p => mkP b s p ||| b (w / 4)
/-- the summary of the paths of one mask -/
def SpO (b : Nat → Nat) (s : Nat) (La Ea : List Nat → Nat → Int) (L : List (List Nat)) (e t : Nat) (w l g : Int) : Prop := Sm3 (cP (fun p => mkP b s p = t) L) (fun x y => ∃ p, p ∈ L ∧ mkP b s p = t ∧ La p e = x ∧ Ea p e = y) w l g
/-- .. while one more arc is passed: its paths with a mask below k are in -/
def SpA (b : Nat → Nat) (s : Nat) (La Ea : List Nat → Nat → Int) (Lt Ls : List (List Nat)) (e f bc : Nat) (dl de : Int) (t k : Nat) (w l g : Int) : Prop := Sm3 (cP (fun p => mkP b s p = t) Lt + cP (fun p => mkP b s p < k ∧ mkP b s p ||| bc = t) Ls) (fun x y => (∃ p, p ∈ Lt ∧ mkP b s p = t ∧ La p e = x ∧ Ea p e = y) ∨ ∃ p, p ∈ Ls ∧ (mkP b s p < k ∧ mkP b s p ||| bc = t) ∧ La p f + dl = x ∧ Ea p f + de = y) w l g
theorem SpA.start {b : Nat → Nat} {s : Nat} {La Ea : List Nat → Nat → Int} {Lt Ls : List (List Nat)} {e f bc t : Nat} {dl de w l g : Int} (h : SpO b s La Ea Lt e t w l g) : SpA b s La Ea Lt Ls e f bc dl de t 0 w l g := by
  have z : cP (fun p => mkP b s p < 0 ∧ mkP b s p ||| bc = t) Ls = 0 := by
    have q := cP_pos (φ := fun p => mkP b s p < 0 ∧ mkP b s p ||| bc = t) Ls
    have n : ¬ 0 < cP (fun p => mkP b s p < 0 ∧ mkP b s p ||| bc = t) Ls := fun k => by
      obtain ⟨p, _, h1, _⟩ := q.mp k
      omega
    omega
  refine Sm3.cg (by rw [z, Nat.add_zero]) (fun x y => ⟨fun k => Or.inl k, fun k => k.elim (fun j => j) (fun ⟨p, _, ⟨h1, _⟩, _⟩ => by omega)⟩) h
theorem SpA.keep {b : Nat → Nat} {s : Nat} {La Ea : List Nat → Nat → Int} {Lt Ls : List (List Nat)} {e f bc t k : Nat} {dl de w l g : Int} (h : SpA b s La Ea Lt Ls e f bc dl de t k w l g) (hn : ∀ p, p ∈ Ls → mkP b s p = k → k ||| bc ≠ t) : SpA b s La Ea Lt Ls e f bc dl de t (k + 1) w l g := by
  have same : ∀ p, p ∈ Ls → ((mkP b s p < k ∧ mkP b s p ||| bc = t) ↔ (mkP b s p < k + 1 ∧ mkP b s p ||| bc = t)) := fun p hp => by
    refine ⟨fun q => ⟨by omega, q.2⟩, fun q => ⟨?_, q.2⟩⟩
    by_cases z : mkP b s p = k
    · exact absurd (z ▸ q.2) (hn p hp z)
    · omega
  refine Sm3.cg (by rw [cP_c Ls same]) (fun x y => ⟨fun j => j.imp (fun q => q) (fun ⟨p, hp, q, r⟩ => ⟨p, hp, (same p hp).mp q, r⟩), fun j => j.imp (fun q => q) (fun ⟨p, hp, q, r⟩ => ⟨p, hp, (same p hp).mpr q, r⟩)⟩) h
theorem SpA.merge {b : Nat → Nat} {s : Nat} {La Ea : List Nat → Nat → Int} {Lt Ls : List (List Nat)} {e f bc t k : Nat} {dl de w l g w' l' g' : Int} (h : SpA b s La Ea Lt Ls e f bc dl de t k w l g) (ht : k ||| bc = t) (hs : SpO b s La Ea Ls f k w' l' g') (hp : 0 < w') : SpA b s La Ea Lt Ls e f bc dl de t (k + 1) (min 1000 (w + w')) (if w = 0 then l' + dl else max l (l' + dl)) (if w = 0 then g' + de else min g (g' + de)) := by
  have n0 := (Sm3.pos hs).mp hp
  have hs2 : Sm3 (cP (fun p => mkP b s p = k) Ls) (fun x y => ∃ p, p ∈ Ls ∧ mkP b s p = k ∧ La p f + dl = x ∧ Ea p f + de = y) w' (l' + dl) (g' + de) := by
    refine ⟨hs.1, ⟨fun j => ?_, fun ⟨x, y, p, hp2, q, _⟩ => hs.2.1.mpr ⟨La p f, Ea p f, p, hp2, q, rfl, rfl⟩⟩, fun j => ?_⟩
    · obtain ⟨x, y, p, hp2, q, r1, r2⟩ := hs.2.1.mp j
      exact ⟨La p f + dl, Ea p f + de, p, hp2, q, rfl, rfl⟩
    · obtain ⟨a1, ⟨x1, y1, ⟨p1, i1, j1, k1, m1⟩, e1⟩, ⟨x2, y2, ⟨p2, i2, j2, k2, m2⟩, e2⟩⟩ := hs.2.2 j
      refine ⟨fun x y ⟨p, hp2, q, r1, r2⟩ => ?_, ⟨La p1 f + dl, Ea p1 f + de, ⟨p1, i1, j1, rfl, rfl⟩, by omega⟩, ⟨La p2 f + dl, Ea p2 f + de, ⟨p2, i2, j2, rfl, rfl⟩, by omega⟩⟩
      have z := a1 (La p f) (Ea p f) ⟨p, hp2, q, rfl, rfl⟩
      omega
  have m := Sm3.merge h hs2 n0
  have dis : ∀ p, p ∈ Ls → ¬ ((mkP b s p < k ∧ mkP b s p ||| bc = t) ∧ mkP b s p = k) := fun p _ q => by omega
  have same : ∀ p, p ∈ Ls → (((mkP b s p < k ∧ mkP b s p ||| bc = t) ∨ mkP b s p = k) ↔ (mkP b s p < k + 1 ∧ mkP b s p ||| bc = t)) := fun p _ => by
    refine ⟨fun q => ?_, fun q => ?_⟩
    · rcases q with q | q
      · exact ⟨by omega, q.2⟩
      · exact ⟨by omega, by rw [q]; exact ht⟩
    · by_cases z : mkP b s p = k
      · exact Or.inr z
      · exact Or.inl ⟨by omega, q.2⟩
  have cnt : cP (fun p => mkP b s p = t) Lt + cP (fun p => mkP b s p < k ∧ mkP b s p ||| bc = t) Ls + cP (fun p => mkP b s p = k) Ls = cP (fun p => mkP b s p = t) Lt + cP (fun p => mkP b s p < k + 1 ∧ mkP b s p ||| bc = t) Ls := by
    rw [Nat.add_assoc, ← cP_or Ls dis, cP_c Ls same]
  refine Sm3.cg cnt (fun x y => ⟨fun j => ?_, fun j => ?_⟩) m
  · rcases j with (j | ⟨p, hp2, q, r⟩) | ⟨p, hp2, q, r⟩
    · exact Or.inl j
    · exact Or.inr ⟨p, hp2, (same p hp2).mp (Or.inl q), r⟩
    · exact Or.inr ⟨p, hp2, (same p hp2).mp (Or.inr q), r⟩
  · rcases j with j | ⟨p, hp2, q, r⟩
    · exact Or.inl (Or.inl j)
    · rcases (same p hp2).mpr q with q | q
      · exact Or.inl (Or.inr ⟨p, hp2, q, r⟩)
      · exact Or.inr ⟨p, hp2, q, r⟩
theorem SpA.done {b : Nat → Nat} {s : Nat} {La Ea : List Nat → Nat → Int} {Lt Ls : List (List Nat)} {e f wv t k : Nat} {dl de w l g : Int} (h : SpA b s La Ea Lt Ls e f (b (wv / 4)) dl de t k w l g) (hk : ∀ p, p ∈ Ls → mkP b s p < k) (hLa : ∀ p, p ∈ Ls → La (wv :: p) e = La p f + dl) (hEa : ∀ p, p ∈ Ls → Ea (wv :: p) e = Ea p f + de) : SpO b s La Ea (Lt ++ Ls.map (fun p => wv :: p)) e t w l g := by
  have cnt : cP (fun p => mkP b s p = t) Lt + cP (fun p => mkP b s p < k ∧ mkP b s p ||| b (wv / 4) = t) Ls = cP (fun p => mkP b s p = t) (Lt ++ Ls.map (fun p => wv :: p)) := by
    rw [cP_app, cP_map]
    congr 1
    exact cP_c Ls (fun p hp => ⟨fun q => q.2, fun q => ⟨hk p hp, q⟩⟩)
  refine Sm3.cg cnt (fun x y => ⟨fun j => ?_, fun j => ?_⟩) h
  · rcases j with ⟨p, hp, q, r⟩ | ⟨p, hp, q, r1, r2⟩
    · exact ⟨p, List.mem_append_left _ hp, q, r⟩
    · exact ⟨wv :: p, List.mem_append_right _ (List.mem_map.mpr ⟨p, hp, rfl⟩), q.2, by rw [hLa p hp]; exact r1, by rw [hEa p hp]; exact r2⟩
  · obtain ⟨p, hp, q, r1, r2⟩ := j
    rcases List.mem_append.mp hp with hp | hp
    · exact Or.inl ⟨p, hp, q, r1, r2⟩
    · obtain ⟨p', hp', e'⟩ := List.mem_map.mp hp
      rw [← e'] at q r1 r2
      rw [hLa p' hp'] at r1
      rw [hEa p' hp'] at r2
      exact Or.inr ⟨p', hp', ⟨hk p' hp', q⟩, r1, r2⟩
