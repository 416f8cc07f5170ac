/-! THE PATHS FORWARD, IN THEIR ORDER -/
def FPw (D : Nat → Nat → Int) (nm : Nat → Int) (b : Nat → Nat) (t : Nat) (F : Nat → Nat → List (List Nat)) (m w : Nat) : List (List Nat) := if w / 4 = t then (if 0 < nm m then [[w]] else []) else if 0 < D 0 (w / 4) ∧ D 0 (w / 4) < 4 then (F (w / 4) (m ||| b (w / 4))).map (fun p => w :: p) else []
def FPi (src : Nat → Int) (c : Nat) (f : Nat → List (List Nat)) : Nat → List (List Nat)
  | 0 => []
  | w + 1 => FPi src c f w ++ (if src w = (c : Int) then f w else [])
def FPs (D : Nat → Nat → Int) (nm : Nat → Int) (b : Nat → Nat) (t n : Nat) (F : Nat → Nat → List (List Nat)) (c m : Nat) : List (List Nat) := FPi (D 5) c (FPw D nm b t F m) (4 * n)
def FPf (D : Nat → Nat → Int) (nm : Nat → Int) (b : Nat → Nat) (t n : Nat) : Nat → Nat → Nat → List (List Nat)
  | 0 => fun _ _ => []
  | f + 1 => FPs D nm b t n (FPf D nm b t n f)
theorem FPi_y {src : Nat → Int} {c : Nat} {f : Nat → List (List Nat)} {w : Nat} (h : src w = (c : Int)) : FPi src c f (w + 1) = FPi src c f w ++ f w := by
  show FPi src c f w ++ (if src w = (c : Int) then f w else []) = _
  rw [if_pos h]
theorem FPi_n {src : Nat → Int} {c : Nat} {f : Nat → List (List Nat)} {w : Nat} (h : ¬ src w = (c : Int)) : FPi src c f (w + 1) = FPi src c f w := by
  show FPi src c f w ++ (if src w = (c : Int) then f w else []) = _
  rw [if_neg h, List.append_nil]
theorem FPi_c {src : Nat → Int} {c : Nat} {f f' : Nat → List (List Nat)} : ∀ W : Nat, (∀ w, w < W → src w = (c : Int) → f w = f' w) → FPi src c f W = FPi src c f' W
  | 0, _ => rfl
  | W + 1, h => by
    have ih := FPi_c W (fun w hw => h w (by omega))
    by_cases k : src W = (c : Int)
    · rw [FPi_y k, FPi_y k, ih, h W (by omega) k]
    · rw [FPi_n k, FPi_n k, ih]
theorem FPi_mem {src : Nat → Int} {c : Nat} {f : Nat → List (List Nat)} {p : List Nat} : ∀ W : Nat, p ∈ FPi src c f W ↔ ∃ w, w < W ∧ src w = (c : Int) ∧ p ∈ f w
  | 0 => ⟨fun h => (by cases h), fun ⟨i, hi, _⟩ => by omega⟩
  | W + 1 => by
    have ih := FPi_mem (src := src) (c := c) (f := f) (p := p) W
    by_cases k : src W = (c : Int)
    · rw [FPi_y k, List.mem_append, ih]
      refine ⟨fun h => ?_, fun ⟨i, hi, a, q⟩ => ?_⟩
      · rcases h with ⟨i, hi, r⟩ | h
        · exact ⟨i, by omega, r⟩
        · exact ⟨W, by omega, k, h⟩
      · by_cases z : i = W
        · rw [z] at q
          exact Or.inr q
        · exact Or.inl ⟨i, by omega, a, q⟩
    · rw [FPi_n k, ih]
      refine ⟨fun ⟨i, hi, r⟩ => ⟨i, by omega, r⟩, fun ⟨i, hi, a, r⟩ => ⟨i, ?_, a, r⟩⟩
      by_cases z : i = W
      · exact absurd (z ▸ a) k
      · omega
theorem FPw_t {D : Nat → Nat → Int} {nm : Nat → Int} {b : Nat → Nat} {t : Nat} {F : Nat → Nat → List (List Nat)} {m w : Nat} (h : w / 4 = t) : FPw D nm b t F m w = if 0 < nm m then [[w]] else [] := if_pos h
theorem FPw_g {D : Nat → Nat → Int} {nm : Nat → Int} {b : Nat → Nat} {t : Nat} {F : Nat → Nat → List (List Nat)} {m w : Nat} (h : ¬ w / 4 = t) (g : gN D (w / 4)) : FPw D nm b t F m w = (F (w / 4) (m ||| b (w / 4))).map (fun p => w :: p) := by
  unfold FPw
  rw [if_neg h, if_pos (show 0 < D 0 (w / 4) ∧ D 0 (w / 4) < 4 from g)]
theorem FPw_0 {D : Nat → Nat → Int} {nm : Nat → Int} {b : Nat → Nat} {t : Nat} {F : Nat → Nat → List (List Nat)} {m w : Nat} (h : ¬ w / 4 = t) (g : ¬ gN D (w / 4)) : FPw D nm b t F m w = [] := by
  unfold FPw
  rw [if_neg h, if_neg (show ¬ (0 < D 0 (w / 4) ∧ D 0 (w / 4) < 4) from g)]
theorem FPw_c {D : Nat → Nat → Int} {nm : Nat → Int} {b : Nat → Nat} {t : Nat} {F F' : Nat → Nat → List (List Nat)} {m w : Nat} (h : gN D (w / 4) → ∀ m, F (w / 4) m = F' (w / 4) m) : FPw D nm b t F m w = FPw D nm b t F' m w := by
  by_cases a : w / 4 = t
  · rw [FPw_t a, FPw_t a]
  · by_cases g : gN D (w / 4)
    · rw [FPw_g a g, FPw_g a g, h g]
    · rw [FPw_0 a g, FPw_0 a g]
theorem FPs_c {D : Nat → Nat → Int} {nm : Nat → Int} {b : Nat → Nat} {t n c m : Nat} {F F' : Nat → Nat → List (List Nat)} (h : ∀ w, w < 4 * n → D 5 w = (c : Int) → gN D (w / 4) → ∀ m, F (w / 4) m = F' (w / 4) m) : FPs D nm b t n F c m = FPs D nm b t n F' c m :=
  FPi_c _ (fun w hw e => FPw_c (h w hw e))
theorem mx_ex (ρ : Nat → Nat) : ∀ n : Nat, ∃ M, ∀ c, c < n → ρ c ≤ M
  | 0 => ⟨0, fun c hc => by omega⟩
  | n + 1 => by
    obtain ⟨M, hM⟩ := mx_ex ρ n
    refine ⟨max M (ρ n), fun c hc => ?_⟩
    by_cases e : c = n
    · rw [e]; omega
    · have q := hM c (by omega)
      omega
theorem Wo.up {D : Nat → Nat → Int} {n : Nat} {ρ : Nat → Nat} (hW : Wo D n ρ) {c w : Nat} (hw : w < 4 * n) (e : D 5 w = (c : Int)) (g : gN D (w / 4)) : w / 4 < n ∧ c < n ∧ (gN D c → ρ c < ρ (w / 4)) := by
  have q := hW.2.2.2.2 w hw (by omega)
  have e4 : 4 * (w / 4) + w % 4 = w := by omega
  have k := hW.1 (w / 4) (w % 4) (by omega) q.2 g (by rw [e4]; omega)
  rw [e4] at k
  have ec : (D 5 w).toNat = c := by omega
  rw [ec] at k
  exact ⟨by omega, k.1, k.2⟩
/-- one induction along the wires, from the ends back -/
theorem Wo.fwd {D : Nat → Nat → Int} {n : Nat} {ρ : Nat → Nat} (hW : Wo D n ρ) {P : Nat → Prop} (st : ∀ c, c < n → (∀ w, w < 4 * n → D 5 w = (c : Int) → gN D (w / 4) → P (w / 4)) → P c) : ∀ c, c < n → P c := by
  obtain ⟨M, hM⟩ := mx_ex ρ n
  have L : ∀ (r c : Nat), c < n → (gN D c → M - ρ c < r) → (¬ gN D c → M + 1 < r) → P c := by
    intro r
    induction r with
    | zero =>
      intro c hc h1 h2
      by_cases g : gN D c
      · exact absurd (h1 g) (by omega)
      · exact absurd (h2 g) (by omega)
    | succ r ih =>
      intro c hc h1 h2
      refine st c hc (fun w hw e g => ?_)
      have k := hW.up hw e g
      have m1 := hM (w / 4) k.1
      refine ih (w / 4) k.1 (fun _ => ?_) (fun ng => absurd g ng)
      by_cases gc : gN D c
      · have a := k.2.2 gc
        have a2 := h1 gc
        omega
      · have a2 := h2 gc
        omega
  exact fun c hc => L (M + 2) c hc (fun _ => by omega) (fun _ => by omega)
theorem FP_ex {D : Nat → Nat → Int} {n : Nat} {ρ : Nat → Nat} (hW : Wo D n ρ) (nm : Nat → Int) (b : Nat → Nat) (t : Nat) : ∃ F : Nat → Nat → List (List Nat), ∀ c m, c < n → F c m = FPs D nm b t n F c m := by
  obtain ⟨M, hM⟩ := mx_ex ρ n
  have L : ∀ (r c : Nat), c < n → (gN D c → M - ρ c < r) → (¬ gN D c → M + 1 < r) → ∀ m, FPf D nm b t n r c m = FPf D nm b t n (r + 1) c m := by
    intro r
    induction r with
    | zero =>
      intro c hc h1 h2
      by_cases g : gN D c
      · exact absurd (h1 g) (by omega)
      · exact absurd (h2 g) (by omega)
    | succ r ih =>
      intro c hc h1 h2 m
      refine FPs_c (F := FPf D nm b t n r) (F' := FPf D nm b t n (r + 1)) (fun w hw e g => ?_)
      have k := hW.up hw e g
      have m1 := hM (w / 4) k.1
      refine ih (w / 4) k.1 (fun _ => ?_) (fun ng => absurd g ng)
      by_cases gc : gN D c
      · have a := k.2.2 gc
        have a2 := h1 gc
        omega
      · have a2 := h2 gc
        omega
  exact ⟨FPf D nm b t n (M + 2), fun c m hc => L (M + 2) c hc (fun _ => by omega) (fun _ => by omega) m⟩
section
variable {D : Nat → Nat → Int} {nm nm' : Nat → Int} {b b' : Nat → Nat} {t n : Nat} {ρ : Nat → Nat} {F F' : Nat → Nat → List (List Nat)}
theorem FP_un (hW : Wo D n ρ) (hF : ∀ c m, c < n → F c m = FPs D nm b t n F c m) (hF' : ∀ c m, c < n → F' c m = FPs D nm b t n F' c m) : ∀ c, c < n → ∀ m, F c m = F' c m := by
  refine hW.fwd (P := fun c => ∀ m, F c m = F' c m) (fun c hc ih m => ?_)
  rw [hF c m hc, hF' c m hc]
  exact FPs_c (fun w hw e g => ih w hw e g)
/-- other masks, the same paths -/
theorem FP_cr (hW : Wo D n ρ) (hF : ∀ c m, c < n → F c m = FPs D nm b t n F c m) (hF' : ∀ c m, c < n → F' c m = FPs D nm' b' t n F' c m) {Co : Nat → Nat → Prop} (h1 : ∀ m m', Co m m' → nm m = nm' m') (h2 : ∀ c m m', c < n → Co m m' → Co (m ||| b c) (m' ||| b' c)) : ∀ c, c < n → ∀ m m', Co m m' → F c m = F' c m' := by
  refine hW.fwd (P := fun c => ∀ m m', Co m m' → F c m = F' c m') (fun c hc ih m m' k => ?_)
  rw [hF c m hc, hF' c m' hc]
  refine FPi_c _ (fun w hw e => ?_)
  by_cases a : w / 4 = t
  · rw [FPw_t a, FPw_t a, h1 m m' k]
  · by_cases g : gN D (w / 4)
    · rw [FPw_g a g, FPw_g a g, ih w hw e g _ _ (h2 _ m m' (hW.up hw e g).1 k)]
    · rw [FPw_0 a g, FPw_0 a g]
theorem FP_mem (hF : ∀ c m, c < n → F c m = FPs D nm b t n F c m) {c m : Nat} (hc : c < n) {p : List Nat} : p ∈ F c m ↔ ∃ w, w < 4 * n ∧ D 5 w = (c : Int) ∧ ((w / 4 = t ∧ 0 < nm m ∧ p = [w]) ∨ (¬ w / 4 = t ∧ gN D (w / 4) ∧ ∃ q, q ∈ F (w / 4) (m ||| b (w / 4)) ∧ p = w :: q)) := by
  rw [hF c m hc]
  refine (FPi_mem _).trans ⟨fun ⟨w, hw, e, h⟩ => ⟨w, hw, e, ?_⟩, fun ⟨w, hw, e, h⟩ => ⟨w, hw, e, ?_⟩⟩
  · by_cases a : w / 4 = t
    · rw [FPw_t a] at h
      by_cases z : 0 < nm m
      · rw [if_pos z] at h
        exact Or.inl ⟨a, z, List.mem_singleton.mp h⟩
      · rw [if_neg z] at h
        cases h
    · by_cases g : gN D (w / 4)
      · rw [FPw_g a g] at h
        obtain ⟨q, hq, e2⟩ := List.mem_map.mp h
        exact Or.inr ⟨a, g, q, hq, e2.symm⟩
      · rw [FPw_0 a g] at h
        cases h
  · rcases h with ⟨a, z, e2⟩ | ⟨a, g, q, hq, e2⟩
    · rw [FPw_t a, if_pos z, e2]
      exact List.mem_singleton.mpr rfl
    · rw [FPw_g a g, e2]
      exact List.mem_map.mpr ⟨q, hq, rfl⟩
/-- one induction along the paths -/
theorem FP_ind (hW : Wo D n ρ) (hF : ∀ c m, c < n → F c m = FPs D nm b t n F c m) {P : Nat → Nat → List Nat → Prop} (h0 : ∀ (c m w : Nat), w < 4 * n → D 5 w = (c : Int) → c < n → w / 4 = t → 0 < nm m → P c m [w]) (h1 : ∀ (c m w : Nat) (q : List Nat), w < 4 * n → D 5 w = (c : Int) → c < n → ¬ w / 4 = t → gN D (w / 4) → w / 4 < n → q ∈ F (w / 4) (m ||| b (w / 4)) → P (w / 4) (m ||| b (w / 4)) q → P c m (w :: q)) : ∀ c, c < n → ∀ m p, p ∈ F c m → P c m p := by
  refine hW.fwd (P := fun c => ∀ m p, p ∈ F c m → P c m p) (fun c hc ih m p hp => ?_)
  obtain ⟨w, hw, e, h⟩ := (FP_mem hF hc).mp hp
  rcases h with ⟨a, z, e2⟩ | ⟨a, g, q, hq, e2⟩
  · rw [e2]; exact h0 c m w hw e hc a z
  · rw [e2]; exact h1 c m w q hw e hc a g (hW.up hw e g).1 hq (ih w hw e g _ q hq)
/-- where a target is not cut off, nothing that leads to it is -/
theorem FP_opn (hW : Wo D n ρ) {V : Nat → Nat → Int} (hL : ∀ c, c < n → LE2 D V V c) (hF : ∀ c m, c < n → F c m = FPs D nm b t n F c m) (h1 : D 1 t = 1) (ho : V 1 (fD D t) = 0) : ∀ c, c < n → ∀ m p, p ∈ F c m → V 1 c = 0 := by
  refine FP_ind hW hF (P := fun c _ _ => V 1 c = 0) (fun c m w hw e hc a z => ?_) (fun c m w q hw e hc a g hn hq ih => ?_)
  · have k := (hW.2.2.2.2 w hw (by omega)).2
    rw [a] at k
    unfold ipN at k
    rw [h1] at k
    have e0 : w = 4 * t := by
      have : (1 : Int).toNat = 1 := rfl
      omega
    unfold fD at ho
    rw [← e0, e] at ho
    exact ho
  · have k := (hW.2.2.2.2 w hw (by omega)).2
    refine Decidable.not_not.mp (fun z => ?_)
    have e4 : 4 * (w / 4) + w % 4 = w := by omega
    have ec : (D 5 w).toNat = c := by omega
    have q2 := (hL (w / 4) hn).2.2.2.2.1 g ⟨w % 4, k, by rw [e4]; omega, by rw [e4, ec]; exact z⟩
    omega
end
