theorem isGate_s {Q : Int32 → VS → Prop} {p1 : Int32} {σ : VS} {n : Nat} (hn : p1.toInt = (n : Int)) (h50 : n < 50) (h1 : gate σ n → Q 1 σ) (h0 : ¬ gate σ n → Q 0 σ) : wp_isGate Q p1 σ := by
  have hr := rd_at σ 2 p1 hn
  unfold wp_isGate
  rw [hr]
  unfold gate Kd at h1 h0
  refine ⟨⟨by omega, by omega⟩, fun a => ?_, fun a => ⟨⟨by omega, by omega⟩, fun b => ?_, fun b => ?_⟩⟩
  · unfold b_isGate_23 b_isGate_24
    exact ⟨⟨by decide, by decide⟩, h0 (by omega)⟩
  · unfold b_isGate_23 b_isGate_24
    exact ⟨⟨by decide, by decide⟩, h0 (by omega)⟩
  · unfold b_isGate_24
    exact ⟨⟨by decide, by decide⟩, h1 ⟨by omega, by omega⟩⟩
def nC (τ : VS) : Nat := (τ.1 1).toInt.toNat
def oL (τ : VS) : Nat := (τ.1 32).toInt.toNat
def oN (τ : VS) (k : Nat) : Nat := (τ.2.1 31 k).toInt.toNat
def dn (τ : VS) (c : Nat) : Prop := (τ.2.1 33 c).toInt ≠ 0
def Rho (ρ : Nat → Nat) (σ : VS) : Prop := ∀ d i : Nat, (d : Int) < (σ.1 1).toInt → (i : Int) < Ip σ d → gate σ d → 0 ≤ Tk σ (4 * d + i) → gate σ (Tk σ (4 * d + i)).toNat → ρ (Tk σ (4 * d + i)).toNat < ρ d
def TIv (S : Nat → Prop) (τ : VS) : Prop := (∀ c, c < nC τ → dn τ c → S c ∨ ∃ k, k < oL τ ∧ oN τ k = c) ∧ (∀ k, k < oL τ → oN τ k < nC τ ∧ dn τ (oN τ k) ∧ ¬ S (oN τ k)) ∧ (∀ i j, i < oL τ → j < oL τ → oN τ i = oN τ j → i = j) ∧ ∀ k, k < oL τ → gate τ (oN τ k) → ∀ i : Nat, (i : Int) < Ip τ (oN τ k) → 0 ≤ Tk τ (4 * oN τ k + i) → ∃ k', k' < k ∧ oN τ k' = (Tk τ (4 * oN τ k + i)).toNat
/-- the outputs at which paths start are reached -/
def RIv (S : Nat → Prop) (τ : VS) : Prop := ∀ a, a < nC τ → dn τ a → ¬ S a → (Kd τ a = 0 ∨ Kd τ a = 4) → (τ.2.1 34 a).toInt ≠ 0
def Later (τ τ' : VS) : Prop := oL τ ≤ oL τ' ∧ (∀ k, k < oL τ → oN τ' k = oN τ k) ∧ ∀ c, dn τ c → dn τ' c
theorem Later.rfl {τ : VS} : Later τ τ := ⟨Nat.le_refl _, fun _ _ => Eq.refl _, fun _ h => h⟩
theorem Later.trans {a b c : VS} (h : Later a b) (g : Later b c) : Later a c := ⟨Nat.le_trans h.1 g.1, fun k hk => (g.2.1 k (Nat.lt_of_lt_of_le hk h.1)).trans (h.2.1 k hk), fun k hk => g.2.2 k (h.2.2 k hk)⟩
def und (f : Nat → Int32) : Nat → Nat
  | 0 => 0
  | c + 1 => und f c + (if (f c).toInt = 0 then 1 else 0)
theorem und_s (f : Nat → Int32) (c : Nat) : und f (c + 1) = und f c + (if (f c).toInt = 0 then 1 else 0) := rfl
theorem und_mono {f g : Nat → Int32} (h : ∀ c, (f c).toInt ≠ 0 → (g c).toInt ≠ 0) (n : Nat) : und g n ≤ und f n := by
  induction n with
  | zero => exact Nat.le_refl _
  | succ n ih =>
    rw [und_s, und_s]
    have := h n
    by_cases a : (f n).toInt = 0
    · rw [if_pos a]; split <;> omega
    · rw [if_neg a, if_neg (this a)]; omega
theorem und_le (f : Nat → Int32) (n : Nat) : und f n ≤ n := by
  induction n with
  | zero => exact Nat.le_refl _
  | succ n ih => rw [und_s]; split <;> omega
theorem und_set {f g : Nat → Int32} {p : Nat} (h0 : (f p).toInt = 0) (h1 : (g p).toInt ≠ 0) (he : ∀ c, c ≠ p → g c = f c) (n : Nat) (hp : p < n) : und g n < und f n := by
  induction n with
  | zero => omega
  | succ n ih =>
    rw [und_s, und_s]
    by_cases e : p = n
    · subst e
      rw [if_pos h0, if_neg h1]
      have : und g p ≤ und f p := by
        have k : ∀ m, m ≤ p → und g m ≤ und f m := by
          intro m
          induction m with
          | zero => intro _; exact Nat.le_refl _
          | succ m ihm =>
            intro hm
            rw [und_s, und_s, he m (by omega)]
            have := ihm (by omega)
            omega
        exact k p (Nat.le_refl _)
      omega
    · have := ih (by omega)
      rw [he n (fun q => e q.symm)]
      omega
/-- what TIv, RIv and Later speak of is the same -/
theorem TIv.same {F A : List Nat} {S : Nat → Prop} {σ τ : VS} (h : TIv S σ) (e : Eo F A σ τ) (hk : (1 ∉ F ∧ 32 ∉ F) ∧ 2 ∉ A ∧ 3 ∉ A ∧ 7 ∉ A ∧ 31 ∉ A ∧ 33 ∉ A) : TIv S τ := by
  unfold TIv nC oL oN dn gate Kd Ip Tk
  rw [e.1 1 hk.1.1, e.1 32 hk.1.2, e.2 2 hk.2.1, e.2 3 hk.2.2.1, e.2 7 hk.2.2.2.1, e.2 31 hk.2.2.2.2.1, e.2 33 hk.2.2.2.2.2]
  exact h
theorem Later.same {F A : List Nat} {σ τ : VS} (e : Eo F A σ τ) (hk : 32 ∉ F ∧ 31 ∉ A ∧ 33 ∉ A) : Later σ τ := by
  unfold Later oL oN dn
  rw [e.1 32 hk.1, e.2 31 hk.2.1, e.2 33 hk.2.2]
  exact ⟨Nat.le_refl _, fun _ _ => Eq.refl _, fun _ h => h⟩
theorem RIv.same {F A : List Nat} {S : Nat → Prop} {σ τ : VS} (h : RIv S σ) (e : Eo F A σ τ) (hk : 1 ∉ F ∧ 2 ∉ A ∧ 33 ∉ A ∧ 34 ∉ A) : RIv S τ := by
  unfold RIv nC dn Kd
  rw [e.1 1 hk.1, e.2 2 hk.2.1, e.2 33 hk.2.2.1, e.2 34 hk.2.2.2]
  exact h
theorem Rho.same {F A : List Nat} {ρ : Nat → Nat} {σ τ : VS} (h : Rho ρ σ) (e : Eo F A σ τ) (hk : 1 ∉ F ∧ 2 ∉ A ∧ 3 ∉ A ∧ 7 ∉ A) : Rho ρ τ := by
  unfold Rho gate Kd Ip Tk
  rw [e.1 1 hk.1, e.2 2 hk.2.1, e.2 3 hk.2.2.1, e.2 7 hk.2.2.2]
  exact h
theorem gate_same {F A : List Nat} {σ τ : VS} (e : Eo F A σ τ) (hk : 2 ∉ A) (c : Nat) : gate τ c ↔ gate σ c := by
  unfold gate Kd
  rw [e.2 2 hk]

