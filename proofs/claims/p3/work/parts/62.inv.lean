theorem rd_sa (σ : VS) (k : Nat) (i v : Int32) : rd (sa σ k i v) k i = v := by
  show (if k = k then upd (σ.2.1 k) i.toNatClampNeg v else σ.2.1 k) i.toNatClampNeg = v
  rw [if_pos rfl]; unfold upd; rw [if_pos rfl]
def mlo (k : Nat) : Int := match k with
  | 1 => 0
  | 18 => 0
  | 19 => 0
  | 20 => 1
  | 21 => 0
  | 25 => 0
  | 32 => 0
  | 48 => 0
  | 61 => 0
  | 62 => 0
  | _ => -2147483648
def mhi (k : Nat) : Int := match k with
  | 1 => 50
  | 18 => 500
  | 19 => 500
  | 20 => 1000000
  | 21 => 20
  | 25 => 4
  | 32 => 50
  | 48 => 1000
  | 61 => 49
  | 62 => 52
  | _ => 2147483647
def malo (k : Nat) : Int := match k with
  | 2 => 0
  | 3 => 0
  | 4 => 0
  | 5 => 0
  | 6 => 0
  | 7 => -1
  | 8 => 0
  | 9 => 0
  | 10 => 0
  | 11 => -1
  | 12 => -10000
  | 13 => -10000
  | 14 => 0
  | 15 => 0
  | 16 => 0
  | 17 => 0
  | 22 => -1
  | 26 => 0
  | 27 => -1
  | 28 => -1
  | 29 => -1
  | 31 => 0
  | 33 => 0
  | 34 => 0
  | 38 => 0
  | 39 => 0
  | 42 => 0
  | 45 => 0
  | 50 => 0
  | 51 => 0
  | 52 => 0
  | 53 => 0
  | 54 => -1
  | 55 => 0
  | 56 => 0
  | 57 => 0
  | 58 => -1
  | 59 => 0
  | 60 => 0
  | 63 => 0
  | 64 => -1
  | 65 => 0
  | _ => -2147483648
def mahi (k : Nat) : Int := match k with
  | 2 => 5
  | 3 => 4
  | 4 => 7
  | 5 => 2
  | 6 => 1000
  | 7 => 49
  | 8 => 100000
  | 9 => 100000
  | 10 => 100000
  | 11 => 19
  | 12 => 10000
  | 13 => 10000
  | 14 => 1
  | 15 => 3000
  | 16 => 3
  | 17 => 1000
  | 22 => 19
  | 26 => 4
  | 27 => 49
  | 28 => 49
  | 29 => 49
  | 31 => 49
  | 33 => 1
  | 34 => 1
  | 38 => 100000
  | 39 => 100000
  | 42 => 1000
  | 45 => 1000
  | 50 => 49
  | 51 => 1
  | 52 => 52
  | 53 => 49
  | 54 => 3
  | 55 => 999
  | 56 => 1
  | 57 => 49
  | 58 => 3
  | 59 => 1
  | 60 => 15
  | 63 => 49
  | 64 => 3
  | 65 => 1
  | _ => 2147483647
def MI (σ : VS) : Prop := (∀ k, mlo k ≤ (σ.1 k).toInt ∧ (σ.1 k).toInt ≤ mhi k) ∧ ∀ k j, malo k ≤ (σ.2.1 k j).toInt ∧ (σ.2.1 k j).toInt ≤ mahi k
theorem MI.sa {σ : VS} (h : MI σ) (k : Nat) (i v : Int32) (hv : malo k ≤ v.toInt ∧ v.toInt ≤ mahi k) : MI (sa σ k i v) := by
  refine ⟨h.1, fun k2 j => ?_⟩
  show malo k2 ≤ ((if k2 = k then upd (σ.2.1 k) i.toNatClampNeg v else σ.2.1 k2) j).toInt ∧ ((if k2 = k then upd (σ.2.1 k) i.toNatClampNeg v else σ.2.1 k2) j).toInt ≤ mahi k2
  by_cases e : k2 = k
  · subst e
    rw [if_pos rfl]
    unfold upd
    by_cases e2 : j = i.toNatClampNeg
    · rw [if_pos e2]; exact hv
    · rw [if_neg e2]; exact h.2 k2 j
  · rw [if_neg e]; exact h.2 k2 j
theorem MI.sf {σ : VS} (h : MI σ) (k : Nat) (v : Int32) (hv : mlo k ≤ v.toInt ∧ v.toInt ≤ mhi k) : MI (sf σ k v) := by
  refine ⟨fun k2 => ?_, h.2⟩
  show mlo k2 ≤ (if k2 = k then v else σ.1 k2).toInt ∧ (if k2 = k then v else σ.1 k2).toInt ≤ mhi k2
  by_cases e : k2 = k
  · subst e
    rw [if_pos rfl]; exact hv
  · rw [if_neg e]; exact h.1 k2
def clo (k : Nat) : Int := match k with
  | 0 => 0
  | 1 => 0
  | 2 => 0
  | 3 => 0
  | 4 => 1
  | 5 => 0
  | 6 => 0
  | 7 => 0
  | 8 => 0
  | 9 => 1
  | 11 => 1
  | 12 => 0
  | 13 => 0
  | 15 => 0
  | 16 => 0
  | 19 => 0
  | _ => -2147483648
def chi (k : Nat) : Int := match k with
  | 0 => 1
  | 1 => 1
  | 2 => 50
  | 3 => 50
  | 4 => 1000000
  | 5 => 20
  | 6 => 4
  | 7 => 500
  | 8 => 500
  | 9 => 16
  | 11 => 16
  | 12 => 49
  | 13 => 49
  | 15 => 1000
  | 16 => 51
  | 19 => 51
  | _ => 2147483647
def calo (k : Nat) : Int := match k with
  | 11 => 0
  | 12 => 0
  | 13 => 0
  | 14 => 0
  | 15 => 0
  | 16 => -5
  | 17 => 0
  | 18 => 0
  | 19 => 0
  | 21 => 0
  | 22 => 0
  | 23 => 0
  | 24 => 0
  | 25 => -1
  | 26 => -10000
  | 27 => -10000
  | 28 => -1
  | 31 => 0
  | 32 => -1
  | 33 => -1
  | 34 => -1
  | 35 => 0
  | 36 => 0
  | 37 => 0
  | 38 => 0
  | 39 => 0
  | 53 => 0
  | 55 => 0
  | 59 => 0
  | _ => -2147483648
def cahi (k : Nat) : Int := match k with
  | 11 => 5
  | 12 => 4
  | 13 => 7
  | 14 => 2
  | 15 => 1000
  | 16 => 49
  | 17 => 199
  | 18 => 200
  | 19 => 49
  | 21 => 1
  | 22 => 100000
  | 23 => 100000
  | 24 => 100000
  | 25 => 19
  | 26 => 10000
  | 27 => 10000
  | 28 => 19
  | 31 => 4
  | 32 => 49
  | 33 => 49
  | 34 => 49
  | 35 => 15
  | 36 => 3000
  | 37 => 3
  | 38 => 1000
  | 39 => 1
  | 53 => 1000
  | 55 => 49
  | 59 => 49
  | _ => 2147483647
def CI (σ : VS) : Prop := (∀ k, clo k ≤ (σ.1 k).toInt ∧ (σ.1 k).toInt ≤ chi k) ∧ ∀ k j, calo k ≤ (σ.2.1 k j).toInt ∧ (σ.2.1 k j).toInt ≤ cahi k
theorem CI.sa {σ : VS} (h : CI σ) (k : Nat) (i v : Int32) (hv : calo k ≤ v.toInt ∧ v.toInt ≤ cahi k) : CI (sa σ k i v) := by
  refine ⟨h.1, fun k2 j => ?_⟩
  show calo k2 ≤ ((if k2 = k then upd (σ.2.1 k) i.toNatClampNeg v else σ.2.1 k2) j).toInt ∧ ((if k2 = k then upd (σ.2.1 k) i.toNatClampNeg v else σ.2.1 k2) j).toInt ≤ cahi k2
  by_cases e : k2 = k
  · subst e
    rw [if_pos rfl]
    unfold upd
    by_cases e2 : j = i.toNatClampNeg
    · rw [if_pos e2]; exact hv
    · rw [if_neg e2]; exact h.2 k2 j
  · rw [if_neg e]; exact h.2 k2 j
theorem CI.sf {σ : VS} (h : CI σ) (k : Nat) (v : Int32) (hv : clo k ≤ v.toInt ∧ v.toInt ≤ chi k) : CI (sf σ k v) := by
  refine ⟨fun k2 => ?_, h.2⟩
  show clo k2 ≤ (if k2 = k then v else σ.1 k2).toInt ∧ (if k2 = k then v else σ.1 k2).toInt ≤ chi k2
  by_cases e : k2 = k
  · subst e
    rw [if_pos rfl]; exact hv
  · rw [if_neg e]; exact h.1 k2
theorem CI.sfl {σ : VS} (h : CI σ) (k : Nat) (v : Int32) (hv : calo k ≤ v.toInt ∧ v.toInt ≤ cahi k) : CI (sfl σ k v) := by
  refine ⟨h.1, fun k2 j => ?_⟩
  show calo k2 ≤ ((if k2 = k then (fun _ => v) else σ.2.1 k2) j).toInt ∧ ((if k2 = k then (fun _ => v) else σ.2.1 k2) j).toInt ≤ cahi k2
  by_cases e : k2 = k
  · subst e
    rw [if_pos rfl]; exact hv
  · rw [if_neg e]; exact h.2 k2 j
theorem CI.slj {σ : VS} (h : CI σ) (k : Nat) (i : Int32) (v : Int64) : CI (slj σ k i v) := ⟨h.1, h.2⟩
/-- the same but for these ints, these arrays -/
def Eo (F A : List Nat) (σ τ : VS) : Prop := (∀ k, k ∉ F → τ.1 k = σ.1 k) ∧ ∀ k, k ∉ A → τ.2.1 k = σ.2.1 k
theorem Eo.rfl {F A : List Nat} {σ : VS} : Eo F A σ σ := ⟨fun _ _ => Eq.refl _, fun _ _ => Eq.refl _⟩
theorem Eo.sa {F A : List Nat} {σ τ : VS} (h : Eo F A σ τ) (k : Nat) (i v : Int32) (hk : k ∈ A) : Eo F A σ (sa τ k i v) := by
  refine ⟨h.1, fun k2 h2 => ?_⟩
  show (if k2 = k then upd (τ.2.1 k) i.toNatClampNeg v else τ.2.1 k2) = σ.2.1 k2
  rw [if_neg (fun e => h2 (by rw [e]; exact hk))]; exact h.2 k2 h2
theorem Eo.sfl {F A : List Nat} {σ τ : VS} (h : Eo F A σ τ) (k : Nat) (v : Int32) (hk : k ∈ A) : Eo F A σ (sfl τ k v) := by
  refine ⟨h.1, fun k2 h2 => ?_⟩
  show (if k2 = k then (fun _ => v) else τ.2.1 k2) = σ.2.1 k2
  rw [if_neg (fun e => h2 (by rw [e]; exact hk))]; exact h.2 k2 h2
theorem Eo.slj {F A : List Nat} {σ τ : VS} (h : Eo F A σ τ) (k : Nat) (i : Int32) (v : Int64) : Eo F A σ (slj τ k i v) := ⟨h.1, h.2⟩
theorem Eo.sf {F A : List Nat} {σ τ : VS} (h : Eo F A σ τ) (k : Nat) (v : Int32) (hk : k ∈ F) : Eo F A σ (sf τ k v) := by
  refine ⟨fun k2 h2 => ?_, h.2⟩
  show (if k2 = k then v else τ.1 k2) = σ.1 k2
  rw [if_neg (fun e => h2 (by rw [e]; exact hk))]; exact h.1 k2 h2
theorem Eo.mono {F A F2 A2 : List Nat} {σ τ : VS} (h : Eo F A σ τ) (hF : ∀ k ∈ F, k ∈ F2) (hA : ∀ k ∈ A, k ∈ A2) : Eo F2 A2 σ τ := ⟨fun k hk => h.1 k (fun q => hk (hF k q)), fun k hk => h.2 k (fun q => hk (hA k q))⟩
theorem Eo.trans {F A : List Nat} {σ τ ρ : VS} (h : Eo F A σ τ) (h2 : Eo F A τ ρ) : Eo F A σ ρ := ⟨fun k hk => (h2.1 k hk).trans (h.1 k hk), fun k hk => (h2.2 k hk).trans (h.2 k hk)⟩
theorem Eo.of {F A F2 A2 : List Nat} {σ τ ρ : VS} (h : Eo F2 A2 σ τ) (h2 : Eo F A τ ρ) (hF : ∀ k ∈ F, k ∈ F2) (hA : ∀ k ∈ A, k ∈ A2) : Eo F2 A2 σ ρ := h.trans (h2.mono hF hA)
theorem i3_div2 {x a b : Int32} (e : x = a / b) (h0 : 0 ≤ a.toInt) (h1 : 0 < b.toInt) (h2 : a.toInt < 2 * b.toInt) : 0 ≤ x.toInt ∧ x.toInt ≤ 1 := by
  have h := i3_divc rfl rfl e h0 h1
  have h3 : 0 ≤ a.toInt / b.toInt := Int.ediv_nonneg h0 (by omega)
  have h4 : a.toInt / b.toInt < 2 := Int.ediv_lt_of_lt_mul h1 (by omega)
  omega
theorem l6_and {v : Int32} {x : Int64} (e : v = (x &&& 1023).toInt32) : 0 ≤ v.toInt ∧ v.toInt ≤ 1023 := by
  have h1 : v.toBitVec.toNat = x.toBitVec.toNat &&& 1023 := by
    rw [e, Int64.toBitVec_toInt32, BitVec.signExtend_eq_setWidth_of_le _ (by decide), BitVec.toNat_setWidth, Int64.toBitVec_and, BitVec.toNat_and]
    have h2 : (1023 : Int64).toBitVec.toNat = 1023 := by decide
    rw [h2]
    have h3 : x.toBitVec.toNat &&& 1023 ≤ 1023 := Nat.and_le_right
    omega
  have h3 : x.toBitVec.toNat &&& 1023 ≤ 1023 := Nat.and_le_right
  have h4 := i3_ofn h1 (by omega)
  omega

