/-! BOTH SIDES' DATA ARE ONE -/
def Dz (τ : VS) : Prop := (∀ c : Nat, c < nC τ → vv τ 2 c = 5 → vv τ 6 c = 0 ∧ vv τ 5 c = 0) ∧ NdR τ ∧ ∀ w : Nat, w < 4 * nC τ → 0 ≤ vv τ 7 w → vv τ 2 (vv τ 7 w).toNat ≠ 5
def Sz (σ τ : VS) : Prop := (∀ j : Nat, j < nCl σ → σ.2.1 14 j = τ.2.1 5 j) ∧ ∀ j : Nat, nCl σ ≤ j → σ.2.1 14 j = 0
theorem ldF_c {x : Int} {src src' sz sz' : Nat → Int} {c : Int} (h0 : 0 ≤ c) : ∀ W : Nat, (∀ w, w < W → (src w = src' w ∨ (src w < 0 ∧ src' w < 0)) ∧ sz (w / 4) = sz' (w / 4)) → ldF x src sz c W = ldF x src' sz' c W
  | 0, _ => rfl
  | W + 1, h => by
    have ih := ldF_c (x := x) h0 W (fun w hw => h w (by omega))
    have q := h W (by omega)
    rw [ldF_s, ldF_s, ih, q.2]
    rcases q.1 with e | ⟨a, b⟩
    · rw [e]
    · rw [if_neg (by omega), if_neg (by omega)]
theorem Jt.nn {σ τ : VS} (h : Jt σ τ) : nCl σ = nC τ := by
  unfold nCl nC
  rw [h.1.1.1.2.2.2.2.2.1]
theorem Jt.cell {σ τ : VS} (h : Jt σ τ) {q : Nat × Nat} (hq : q ∈ cellsL) {j : Nat} (hj : j < nCl σ) : vv σ q.1 j = vv τ q.2 j := by
  have e : σ.2.1 q.1 j = τ.2.1 q.2 j := h.1.1.2.2.1 q hq j (by unfold nCl at hj; omega)
  unfold vv
  rw [e]
theorem Jt.tab {σ τ : VS} (h : Jt σ τ) {q : Nat × Nat} (hq : q ∈ tabL) : vv σ q.1 = vv τ q.2 := by
  have e : σ.2.1 q.1 = τ.2.1 q.2 := h.1.1.2.2.2.2.2 q hq
  funext j
  unfold vv
  rw [e]
theorem Jt.src {σ τ : VS} (h : Jt σ τ) {w : Nat} (hw : w < 4 * nCl σ) : (vv σ 16 w = vv τ 7 w ∨ (vv σ 16 w < 0 ∧ vv τ 7 w < 0)) ∧ max (vv σ 16 w) (-1) = max (vv τ 7 w) (-1) := by
  have hM : MI τ := h.1.1.1.2.2.1
  have r7 : -1 ≤ vv τ 7 w ∧ vv τ 7 w ≤ 49 := hM.2 7 w
  have e : σ.2.1 16 w = oldW (τ.2.1 7 w) := h.2.1 w (by unfold nCl at hw; omega)
  have e2 : vv σ 16 w = (oldW (τ.2.1 7 w)).toInt := by unfold vv; rw [e]
  have i5 : (-5 : Int32).toInt = -5 := rfl
  have r8 : vv τ 7 w = (τ.2.1 7 w).toInt := rfl
  unfold oldW at e2
  by_cases z : (τ.2.1 7 w).toInt < 0
  · rw [if_pos z, i5] at e2
    omega
  · rw [if_neg z] at e2
    omega
theorem nd_eq {σ τ : VS} (h : Jt σ τ) (hz : Dz τ) {j : Nat} (hj : j < nC τ) : (ex (σ.2.1 30) (σ.2.1 25 j)).toInt = clS (vv τ 22) (vv τ 24) 20 (vv τ 11 j) ∧ (ex (σ.2.1 29) (σ.2.1 25 j)).toInt = clS (vv τ 22) (vv τ 23) 20 (vv τ 11 j) := by
  have hM : MI τ := h.1.1.1.2.2.1
  have hS : SI τ := h.1.1.1.2.2.2.1
  have hn : σ.1 5 = τ.1 21 := h.1.1.1.2.2.2.2.2.2.1
  have h50 : 0 ≤ (τ.1 1).toInt ∧ (τ.1 1).toInt ≤ 50 := hM.1 1
  have en : (τ.1 1).toInt = ((nC τ : Nat) : Int) := by unfold nC; omega
  have nn := h.nn
  have ce := cl_eq hM hS hz.2.1 h.1.2 hn
  have e25 : vv σ 25 j = vv τ 11 j := h.cell (q := (25, 11)) (by decide) (by omega)
  have e26 : (σ.2.1 25 j).toInt = vv τ 11 j := e25
  have lt : vv τ 11 j < (τ.1 21).toInt := hS.2.2.1 j (by omega)
  unfold ex
  by_cases z : (σ.2.1 25 j).toInt < 0
  · rw [if_pos z, if_pos z, clS_n (by omega), clS_n (by omega)]; exact ⟨rfl, rfl⟩
  · rw [if_neg z, if_neg z]
    obtain ⟨k, hk⟩ : ∃ k : Nat, vv τ 11 j = (k : Int) := ⟨(vv τ 11 j).toNat, by omega⟩
    have kn : (σ.2.1 25 j).toNatClampNeg = k := by
      have q := i3_nat (i := σ.2.1 25 j) (by omega)
      omega
    rw [kn, hk]
    exact ce k (by omega)
theorem ite_n {n m j : Nat} {a b : Int} (e : n = m) (q : j < m → a = b) : (if j < n then a else 0) = (if j < m then b else 0) := by
  rw [e]
  by_cases z : j < m
  · rw [if_pos z, if_pos z]; exact q z
  · rw [if_neg z, if_neg z]
theorem dCM_3 {σ τ : VS} (h : Jt σ τ) (hz : Dz τ) (hs : Sz σ τ) (j : Nat) : dC σ 3 j = dM τ 3 j := by
  have nn := h.nn
  refine ite_n nn (fun q => ?_)
  have e0 : vv σ 15 j = vv τ 6 j := h.cell (q := (15, 6)) (by decide) (by omega)
  have e15 : vv σ 15 j = xtM τ j := by
    rw [e0]
    unfold xtM
    by_cases z : vv τ 2 j = 5
    · rw [if_pos z]; exact (hz.1 j q z).1
    · rw [if_neg z]
  rw [e15, nn]
  refine ldF_c (by omega) _ (fun w hw => ⟨(h.src (by omega)).1, ?_⟩)
  have hw4 : w / 4 < nC τ := by omega
  have e14 : vv σ 14 (w / 4) = vv τ 5 (w / 4) := by
    have q2 := hs.1 (w / 4) (by omega)
    unfold vv
    rw [q2]
  rw [e14]
  unfold szM
  by_cases z : vv τ 2 (w / 4) = 5
  · rw [if_pos z]; exact (hz.1 (w / 4) hw4 z).2
  · rw [if_neg z]
theorem dCM_5 {σ τ : VS} (h : Jt σ τ) (j : Nat) : dC σ 5 j = dM τ 5 j := by
  show (if j < 4 * nCl σ then max (vv σ 16 j) (-1) else -1) = (if j < 4 * nC τ then max (vv τ 7 j) (-1) else -1)
  rw [← h.nn]
  by_cases z : j < 4 * nCl σ
  · rw [if_pos z, if_pos z]; exact (h.src z).2
  · rw [if_neg z, if_neg z]
theorem dCM_lo {σ τ : VS} (h : Jt σ τ) (hz : Dz τ) (hs : Sz σ τ) (j : Nat) : dC σ 0 j = dM τ 0 j ∧ dC σ 1 j = dM τ 1 j ∧ dC σ 2 j = dM τ 2 j ∧ dC σ 4 j = dM τ 4 j := by
  have nn := h.nn
  exact ⟨ite_n nn (fun q => h.cell (q := (11, 2)) (by decide) (by omega)), ite_n nn (fun q => h.cell (q := (12, 3)) (by decide) (by omega)), ite_n nn (fun q => h.cell (q := (13, 4)) (by decide) (by omega)), ite_n nn (fun q => by have q2 := hs.1 j (by omega); unfold vv; rw [q2])⟩
theorem dCM_mid {σ τ : VS} (h : Jt σ τ) (j : Nat) : dC σ 6 j = dM τ 6 j ∧ dC σ 7 j = dM τ 7 j ∧ dC σ 8 j = dM τ 8 j ∧ dC σ 9 j = dM τ 9 j := by
  refine ⟨congrFun (h.tab (q := (36, 15)) (by decide)) j, congrFun (h.tab (q := (37, 16)) (by decide)) j, congrFun (h.tab (q := (38, 17)) (by decide)) j, ?_⟩
  show (if j = 0 then (σ.1 7).toInt else (σ.1 8).toInt) = (if j = 0 then (τ.1 18).toInt else (τ.1 19).toInt)
  rw [h.1.1.2.1.1, h.1.1.2.1.2]
theorem dCM_hi {σ τ : VS} (h : Jt σ τ) (hz : Dz τ) (j : Nat) : dC σ 10 j = dM τ 10 j ∧ dC σ 11 j = dM τ 11 j ∧ dC σ 12 j = dM τ 12 j ∧ dC σ 13 j = dM τ 13 j ∧ dC σ 14 j = dM τ 14 j := by
  have nn := h.nn
  exact ⟨ite_n nn (fun q => h.cell (q := (24, 10)) (by decide) (by omega)), ite_n nn (fun q => h.cell (q := (23, 9)) (by decide) (by omega)), ite_n nn (fun q => h.cell (q := (22, 8)) (by decide) (by omega)), ite_n nn (fun q => (nd_eq h hz q).1), ite_n nn (fun q => (nd_eq h hz q).2)⟩
theorem dC_top (σ : VS) (n j : Nat) : dC σ (n + 15) j = 0 := rfl
theorem dM_top (σ : VS) (n j : Nat) : dM σ (n + 15) j = 0 := rfl
theorem dCM {σ τ : VS} (h : Jt σ τ) (hz : Dz τ) (hs : Sz σ τ) : dC σ = dM τ := by
  funext k j
  have a := dCM_lo h hz hs j
  have b := dCM_mid h j
  have c := dCM_hi h hz j
  by_cases t : 15 ≤ k
  · obtain ⟨n, e⟩ : ∃ n, k = n + 15 := ⟨k - 15, by omega⟩
    rw [e, dC_top, dM_top]
  · rcases (show k = 0 ∨ k = 1 ∨ k = 2 ∨ k = 3 ∨ k = 4 ∨ k = 5 ∨ k = 6 ∨ k = 7 ∨ k = 8 ∨ k = 9 ∨ k = 10 ∨ k = 11 ∨ k = 12 ∨ k = 13 ∨ k = 14 by omega) with e | e | e | e | e | e | e | e | e | e | e | e | e | e | e
    · rw [e]; exact a.1
    · rw [e]; exact a.2.1
    · rw [e]; exact a.2.2.1
    · rw [e]; exact dCM_3 h hz hs j
    · rw [e]; exact a.2.2.2
    · rw [e]; exact dCM_5 h j
    · rw [e]; exact b.1
    · rw [e]; exact b.2.1
    · rw [e]; exact b.2.2.1
    · rw [e]; exact b.2.2.2
    · rw [e]; exact c.1
    · rw [e]; exact c.2.1
    · rw [e]; exact c.2.2.1
    · rw [e]; exact c.2.2.2.1
    · rw [e]; exact c.2.2.2.2
theorem Jt.wrm {σ τ : VS} (h : Jt σ τ) : WRm τ := by
  intro w hw h0
  have nn := h.nn
  have q := (h.src (w := w) (by omega)).1
  have h0' : 0 ≤ srcf σ w := by
    show 0 ≤ vv σ 16 w
    omega
  have k := (h.2.2.2.1 w h0').2
  have e : vv σ 12 (w / 4) = vv τ 3 (w / 4) := h.cell (q := (12, 3)) (by decide) (by omega)
  have k2 : ((w % 4 : Nat) : Int) < vv σ 12 (w / 4) := k
  omega
theorem SI.rk {τ : VS} (hM : MI τ) (hS : SI τ) : ∃ ρ, Rk (dM τ) (nC τ) ρ := by
  obtain ⟨ρ, hR⟩ : ∃ ρ, Rho ρ τ := hS.2.2.2.2
  have h50 : 0 ≤ (τ.1 1).toInt ∧ (τ.1 1).toInt ≤ 50 := hM.1 1
  have en : (τ.1 1).toInt = ((nC τ : Nat) : Int) := by unfold nC; omega
  refine ⟨ρ, fun c i hc hi g q => ?_⟩
  have i4 := Nat.lt_of_lt_of_le hi (ip_4m hM c)
  have e5 : dM τ 5 (4 * c + i) = Tk τ (4 * c + i) := d5M hM (by omega)
  rw [e5] at q ⊢
  have lt := hS.1 (4 * c + i) (by omega)
  have gc := (gM_is hc).mp g
  have iI : (i : Int) < Ip τ c := by
    have q2 : ipN (dM τ) c = (Ip τ c).toNat := by unfold ipN; rw [dM_1 hc]; rfl
    omega
  have sn : (Tk τ (4 * c + i)).toNat < nC τ := by omega
  exact ⟨sn, fun g2 => hR c i (by omega) iI gc q ((gM_is sn).mp g2)⟩

