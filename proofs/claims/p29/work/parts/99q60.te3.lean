/-! THE CLASS KEEPS ITS JUDGEMENT -/
abbrev CF : List Nat := [0, 1, 9, 10, 11, 12, 13, 14, 15, 16, 17, 18, 19, 20, 21]
abbrev CA : List Nat := [14, 39, 40, 41, 42, 43, 44, 45, 46, 47, 48, 49, 50, 51, 52, 53, 55, 56, 57, 58, 59, 60, 61, 62]
def rC (σ : VS) : Nat := (σ.1 6).toInt.toNat
def Bt (σ : VS) : Prop := ∀ c, c < 50 → vv σ 35 c = ((bC (vv σ 33) (rC σ) c : Nat) : Int)
def CBt (σ τ : VS) : Prop := Jt σ τ ∧ Dz τ ∧ Bt σ
theorem Jt.qc {σ σ' τ : VS} (J : Jt σ τ) (h : CI σ') (e1 : Eo CF CA σ σ') : Jt σ' τ := by
  obtain ⟨⟨⟨⟨hM, hC, hM2, hS, hL, hk⟩, D⟩, N⟩, W⟩ := J
  have e2 : Eo [] [] τ τ := Eo.rfl
  have A : Gc σ σ' := ⟨e1.1 2 (by decide), e1.1 4 (by decide), e1.1 5 (by decide), e1.1 6 (by decide)⟩
  have B : Gm τ τ := ⟨e2.1 1 (by decide), e2.1 20 (by decide), e2.1 21 (by decide), e2.1 25 (by decide)⟩
  exact ⟨⟨⟨⟨h, hC.same e1 (by decide), hM2, hS, hL, hk.quiet A B⟩, D.quiet e1 e2 (by decide) (by decide)⟩, N.quiet e1 e2 (by decide) (by decide)⟩, W.quiet e1 e2 (by decide) (by decide)⟩
theorem Bt.same {F A : List Nat} {σ τ : VS} (h : Bt σ) (e : Eo F A σ τ) (hk : 6 ∉ F ∧ 33 ∉ A ∧ 35 ∉ A) : Bt τ := by
  unfold Bt rC
  rw [vv_eo e hk.2.1, vv_eo e hk.2.2, e.1 6 hk.1]
  exact h
theorem CBt.qc {σ σ' τ : VS} (B : CBt σ τ) (h : CI σ') (e1 : Eo CF CA σ σ') : CBt σ' τ := ⟨B.1.qc h e1, B.2.1, B.2.2.same e1 (by decide)⟩
theorem CBt.ci {σ τ : VS} (B : CBt σ τ) : CI σ := B.1.1.1.1.1
theorem Jt.wel2 {σ τ : VS} (h : Jt σ τ) (hz : Dz τ) : Wel σ := by
  have hM : MI τ := h.1.1.1.2.2.1
  have hS : SI τ := h.1.1.1.2.2.2.1
  have nn := h.nn
  have h50 : 0 ≤ (τ.1 1).toInt ∧ (τ.1 1).toInt ≤ 50 := hM.1 1
  have h20 : 0 ≤ (τ.1 21).toInt ∧ (τ.1 21).toInt ≤ 20 := hM.1 21
  have en : (τ.1 1).toInt = ((nC τ : Nat) : Int) := by unfold nC; omega
  obtain ⟨N, eN⟩ : ∃ N : Nat, (τ.1 21).toInt = (N : Int) := ⟨(τ.1 21).toInt.toNat, by omega⟩
  have hp : ∀ j, j < N → vv τ 22 j < (j : Int) := fun j hj => hS.2.1 j (by omega)
  have hw : ∀ j, j < N → 0 ≤ vv τ 24 j ∧ vv τ 24 j ≤ 100000 := fun j hj => (hz.2.1 j (by omega)).2
  have hv : ∀ j, j < N → 0 ≤ vv τ 23 j ∧ vv τ 23 j ≤ 100000 := fun j hj => (hz.2.1 j (by omega)).1
  refine ⟨fun c hc k => ?_, fun c hc => ?_⟩
  · have e11 : vv σ 11 c = vv τ 2 c := h.cell (q := (11, 2)) (by decide) hc
    have e12 : vv σ 12 c = vv τ 3 c := h.cell (q := (12, 3)) (by decide) hc
    rw [e11] at k
    rw [e12]
    exact hS.2.2.2.1 c (by omega) (by show 3 < vv τ 2 c; omega)
  · have e := dCM_hi h hz c
    rw [e.2.2.2.1, e.2.2.2.2, dM_13 (by omega), dM_14 (by omega)]
    have lt : vv τ 11 c < (τ.1 21).toInt := hS.2.2.1 c (by omega)
    have ge : -1 ≤ vv τ 11 c ∧ vv τ 11 c ≤ 19 := hM.2 11 c
    have b1 := clS_b hp hw 20 (vv τ 11 c) (by omega) (by omega)
    have b2 := clS_b hp hv 20 (vv τ 11 c) (by omega) (by omega)
    omega
theorem Jt.d015 {σ τ : VS} (h : Jt σ τ) : dC σ 0 = dM τ 0 ∧ dC σ 1 = dM τ 1 ∧ dC σ 5 = dM τ 5 := by
  have nn := h.nn
  refine ⟨funext (fun j => ite_n nn (fun q => h.cell (q := (11, 2)) (by decide) (by omega))), funext (fun j => ite_n nn (fun q => h.cell (q := (12, 3)) (by decide) (by omega))), funext (fun j => dCM_5 h j)⟩
theorem Jt.wo {σ τ : VS} (h : Jt σ τ) : ∃ ρ, Wo (dC σ) (nCl σ) ρ := by
  obtain ⟨ρ, hW⟩ := SI.wo h.1.1.1.2.2.1 h.1.1.1.2.2.2.1 h.wrm
  have e := h.d015
  refine ⟨ρ, ?_⟩
  unfold Wo Rk ipN gN at hW ⊢
  rw [e.1, e.2.1, e.2.2, h.nn]
  exact hW
theorem Jt.tg1 {σ τ : VS} (h : Jt σ τ) : ∀ t, t < nCl σ → tgD (dC σ) t → dC σ 1 t = 1 := fun t ht k => by
  have hM : MI τ := h.1.1.1.2.2.1
  have hS : SI τ := h.1.1.1.2.2.2.1
  have nn := h.nn
  have h50 : 0 ≤ (τ.1 1).toInt ∧ (τ.1 1).toInt ≤ 50 := hM.1 1
  have en : (τ.1 1).toInt = ((nC τ : Nat) : Int) := by unfold nC; omega
  have e := h.d015
  unfold tgD at k
  rw [e.1, dM_0 (by omega)] at k
  rw [e.2.1, dM_1 (by omega)]
  exact hS.2.2.2.1 t (by omega) k
def CTm (σ : VS) : Prop := (σ.1 0).toInt ≠ 0 → ∀ c, c < nCl σ → StC σ (vC σ) c 2400000
def JAc (σ τ : VS) : Prop := JA (dC σ) (UC σ) (nCl σ) (rC σ) (σ.1 4).toInt (shF τ) (vv σ 50) (vv σ 51) (vv σ 52) ∧ Ng (dC σ) (UC σ) (nCl σ) (rC σ) (shF τ) (σ.1 10).toInt
def CRc (σ τ : VS) : Prop := (σ.1 1).toInt ≠ 0 → (σ.1 0).toInt ≠ 0 ∧ JAc σ τ
theorem dC_q {F A : List Nat} {σ τ : VS} (h : Eo F A σ τ) (hF : 2 ∉ F ∧ 7 ∉ F ∧ 8 ∉ F) (hA : 11 ∉ A ∧ 12 ∉ A ∧ 13 ∉ A ∧ 15 ∉ A ∧ 16 ∉ A ∧ 22 ∉ A ∧ 23 ∉ A ∧ 24 ∉ A ∧ 25 ∉ A ∧ 29 ∉ A ∧ 30 ∉ A ∧ 36 ∉ A ∧ 37 ∉ A ∧ 38 ∉ A) (h14 : vv τ 14 = vv σ 14) : dC τ = dC σ := by
  obtain ⟨a11, a12, a13, a15, a16, a22, a23, a24, a25, a29, a30, a36, a37, a38⟩ := hA
  funext k j
  unfold dC nCl
  rw [vv_eo h a11, vv_eo h a12, vv_eo h a13, h14, vv_eo h a15, vv_eo h a16, vv_eo h a22, vv_eo h a23, vv_eo h a24, vv_eo h a36, vv_eo h a37, vv_eo h a38, h.2 25 a25, h.2 29 a29, h.2 30 a30, h.1 2 hF.1, h.1 7 hF.2.1, h.1 8 hF.2.2]
theorem UC_same {F A : List Nat} {σ τ : VS} (h : Eo F A σ τ) (hk : (2 ∉ F ∧ 6 ∉ F) ∧ 26 ∉ A ∧ 27 ∉ A ∧ 31 ∉ A ∧ 32 ∉ A ∧ 33 ∉ A ∧ 34 ∉ A) : UC τ = UC σ := by
  obtain ⟨⟨f2, f6⟩, a26, a27, a31, a32, a33, a34⟩ := hk
  funext k j
  unfold UC nCl
  rw [h.1 2 f2, h.1 6 f6, vv_eo h a26, vv_eo h a27, vv_eo h a31, vv_eo h a32, vv_eo h a33, vv_eo h a34]
theorem dC_gr {F A : List Nat} {σ τ : VS} {c : Nat} (h : Eo F A σ τ) (hF : 2 ∉ F ∧ 7 ∉ F ∧ 8 ∉ F) (hA : 11 ∉ A ∧ 12 ∉ A ∧ 13 ∉ A ∧ 15 ∉ A ∧ 16 ∉ A ∧ 22 ∉ A ∧ 23 ∉ A ∧ 24 ∉ A ∧ 25 ∉ A ∧ 29 ∉ A ∧ 30 ∉ A ∧ 36 ∉ A ∧ 37 ∉ A ∧ 38 ∉ A) (hc : c < nCl σ) (h14 : vv τ 14 = fu (vv σ 14) c (vv σ 14 c + 1)) : dC τ = gD (dC σ) (nCl σ) c := by
  obtain ⟨a11, a12, a13, a15, a16, a22, a23, a24, a25, a29, a30, a36, a37, a38⟩ := hA
  have nn : nCl τ = nCl σ := by unfold nCl; rw [h.1 2 hF.1]
  have k3 : ∀ j, dC τ 3 j = gD (dC σ) (nCl σ) c 3 j := fun j => by
    show (if j < nCl τ then ldF (vv τ 15 j) (vv τ 16) (vv τ 14) (j : Int) (nCl τ * 4) else 0) = (if j < nCl σ then dC σ 3 j + cwN (dC σ 5) j c (4 * nCl σ) else dC σ 3 j)
    rw [nn]
    by_cases z : j < nCl σ
    · rw [if_pos z, if_pos z, dC_3 z, h14, vv_eo h a15, vv_eo h a16, ldF_up, show nCl σ * 4 = 4 * nCl σ by omega]
      rw [cwN_c (src := vv σ 16) (src' := dC σ 5) (4 * nCl σ) (fun w hw => by rw [dC_5 hw]; omega)]
    · rw [if_neg z, if_neg z]
      exact (if_neg z).symm
  have k4 : ∀ j, dC τ 4 j = gD (dC σ) (nCl σ) c 4 j := fun j => by
    show (if j < nCl τ then vv τ 14 j else 0) = (if j = c then dC σ 4 j + 1 else dC σ 4 j)
    rw [nn, h14]
    by_cases z : j < nCl σ
    · rw [if_pos z, dC_4 z]
      by_cases y : j = c
      · rw [if_pos y, y, fu_eq]
      · rw [if_neg y, fu_ne y]
    · have y : ¬ j = c := fun y => z (by omega)
      rw [if_neg z, if_neg y]
      exact (if_neg z).symm
  have ot : ∀ k, k ≠ 3 → k ≠ 4 → dC τ k = dC σ k := fun k n3 n4 => by
    funext j
    by_cases t : 15 ≤ k
    · obtain ⟨m, e⟩ : ∃ m, k = m + 15 := ⟨k - 15, by omega⟩
      rw [e, dC_top, dC_top]
    · rcases (show k = 0 ∨ k = 1 ∨ k = 2 ∨ k = 5 ∨ k = 6 ∨ k = 7 ∨ k = 8 ∨ k = 9 ∨ k = 10 ∨ k = 11 ∨ k = 12 ∨ k = 13 ∨ k = 14 by omega) with e | e | e | e | e | e | e | e | e | e | e | e | e
      · rw [e]; exact ite_n nn (fun _ => by rw [vv_eo h a11])
      · rw [e]; exact ite_n nn (fun _ => by rw [vv_eo h a12])
      · rw [e]; exact ite_n nn (fun _ => by rw [vv_eo h a13])
      · rw [e]
        show (if j < 4 * nCl τ then max (vv τ 16 j) (-1) else -1) = (if j < 4 * nCl σ then max (vv σ 16 j) (-1) else -1)
        rw [nn, vv_eo h a16]
      · rw [e]; exact congrFun (vv_eo h a36) j
      · rw [e]; exact congrFun (vv_eo h a37) j
      · rw [e]; exact congrFun (vv_eo h a38) j
      · rw [e]
        show (if j = 0 then (τ.1 7).toInt else (τ.1 8).toInt) = (if j = 0 then (σ.1 7).toInt else (σ.1 8).toInt)
        rw [h.1 7 hF.2.1, h.1 8 hF.2.2]
      · rw [e]; exact ite_n nn (fun _ => by rw [vv_eo h a24])
      · rw [e]; exact ite_n nn (fun _ => by rw [vv_eo h a23])
      · rw [e]; exact ite_n nn (fun _ => by rw [vv_eo h a22])
      · rw [e]; exact ite_n nn (fun _ => by rw [h.2 30 a30, h.2 25 a25])
      · rw [e]; exact ite_n nn (fun _ => by rw [h.2 29 a29, h.2 25 a25])
  funext k j
  by_cases n3 : k = 3
  · rw [n3]; exact k3 j
  · by_cases n4 : k = 4
    · rw [n4]; exact k4 j
    · rw [gD_o n3 n4, ot k n3 n4]
/-- what only reads or writes elsewhere leaves it so -/
abbrev LJ : List Nat := [11, 12, 13, 14, 15, 16, 22, 23, 24, 25, 26, 27, 29, 30, 31, 32, 33, 34, 36, 37, 38, 50, 51, 52]
abbrev LT : List Nat := [11, 12, 13, 14, 15, 16, 22, 23, 24, 25, 29, 30, 36, 37, 38, 39, 40, 41, 42, 43, 44, 45, 46]
theorem JAc.same {F A : List Nat} {σ τ x : VS} (h : JAc σ τ) (e : Eo F A σ x) (hF : 2 ∉ F ∧ 4 ∉ F ∧ 6 ∉ F ∧ 7 ∉ F ∧ 8 ∉ F ∧ 10 ∉ F) (hA : ∀ k ∈ LJ, k ∉ A) : JAc x τ := by
  obtain ⟨f2, f4, f6, f7, f8, f10⟩ := hF
  have a : 11 ∉ A ∧ 12 ∉ A ∧ 13 ∉ A ∧ 15 ∉ A ∧ 16 ∉ A ∧ 22 ∉ A ∧ 23 ∉ A ∧ 24 ∉ A ∧ 25 ∉ A ∧ 29 ∉ A ∧ 30 ∉ A ∧ 36 ∉ A ∧ 37 ∉ A ∧ 38 ∉ A := ⟨hA 11 (by decide), hA 12 (by decide), hA 13 (by decide), hA 15 (by decide), hA 16 (by decide), hA 22 (by decide), hA 23 (by decide), hA 24 (by decide), hA 25 (by decide), hA 29 (by decide), hA 30 (by decide), hA 36 (by decide), hA 37 (by decide), hA 38 (by decide)⟩
  have a14 : 14 ∉ A := hA 14 (by decide)
  have b : 26 ∉ A ∧ 27 ∉ A ∧ 31 ∉ A ∧ 32 ∉ A ∧ 33 ∉ A ∧ 34 ∉ A := ⟨hA 26 (by decide), hA 27 (by decide), hA 31 (by decide), hA 32 (by decide), hA 33 (by decide), hA 34 (by decide)⟩
  have a50 : 50 ∉ A := hA 50 (by decide)
  have a51 : 51 ∉ A := hA 51 (by decide)
  have a52 : 52 ∉ A := hA 52 (by decide)
  unfold JAc rC nCl
  rw [dC_q e ⟨f2, f7, f8⟩ a (vv_eo e a14), UC_same e ⟨⟨f2, f6⟩, b⟩, e.1 2 f2, e.1 6 f6, e.1 4 f4, e.1 10 f10, vv_eo e a50, vv_eo e a51, vv_eo e a52]
  exact h
theorem StC.mv {σ x : VS} {V : Nat → Nat → Int} {c : Nat} {b : Int} (e : dC x = dC σ) (h : StC σ V c b) : StC x V c b := by
  unfold StC
  rw [e]
  exact h
theorem St_mv {F A : List Nat} {σ x : VS} (hM : CI σ) (e : Eo F A σ x) (hF : 2 ∉ F ∧ 7 ∉ F ∧ 8 ∉ F) (hA : ∀ k ∈ LT, k ∉ A) (h : ∀ c, c < nCl σ → StC σ (vC σ) c 2400000) : ∀ c, c < nCl x → StC x (vC x) c 2400000 := by
  have a : 11 ∉ A ∧ 12 ∉ A ∧ 13 ∉ A ∧ 15 ∉ A ∧ 16 ∉ A ∧ 22 ∉ A ∧ 23 ∉ A ∧ 24 ∉ A ∧ 25 ∉ A ∧ 29 ∉ A ∧ 30 ∉ A ∧ 36 ∉ A ∧ 37 ∉ A ∧ 38 ∉ A := ⟨hA 11 (by decide), hA 12 (by decide), hA 13 (by decide), hA 15 (by decide), hA 16 (by decide), hA 22 (by decide), hA 23 (by decide), hA 24 (by decide), hA 25 (by decide), hA 29 (by decide), hA 30 (by decide), hA 36 (by decide), hA 37 (by decide), hA 38 (by decide)⟩
  have a14 : 14 ∉ A := hA 14 (by decide)
  have b0 : 39 ∉ A := hA 39 (by decide)
  have b1 : 40 ∉ A := hA 40 (by decide)
  have b2 : 41 ∉ A := hA 41 (by decide)
  have b3 : 42 ∉ A := hA 42 (by decide)
  have b4 : 43 ∉ A := hA 43 (by decide)
  have b5 : 44 ∉ A := hA 44 (by decide)
  have b6 : 45 ∉ A := hA 45 (by decide)
  have b7 : 46 ∉ A := hA 46 (by decide)
  have d := dC_q e hF a (vv_eo e a14)
  have n : nCl x = nCl σ := by unfold nCl; rw [e.1 2 hF.1]
  have v0 : vC x 0 = vC σ 0 := vC_at e b0
  have v1 : vC x 1 = vC σ 1 := vC_at e b1
  have v2 : vC x 2 = vC σ 2 := vC_at e b2
  have v3 : vC x 3 = vC σ 3 := vC_at e b3
  have v4 : vC x 4 = vC σ 4 := vC_at e b4
  have v5 : vC x 5 = vC σ 5 := vC_at e b5
  have v6 : vC x 6 = vC σ 6 := vC_at e b6
  have v7 : vC x 7 = vC σ 7 := vC_at e b7
  have ec : ∀ c, Ec (vC σ) (vC x) c := fun c => ⟨by rw [v0], by rw [v1], fun e he => by rw [v4, v5, v6, v7]; exact ⟨rfl, rfl, rfl, rfl⟩, fun i e hi he => by rw [v2, v3]; exact ⟨rfl, rfl⟩⟩
  intro c hc
  rw [n] at hc
  exact StC.mv d ((h c hc).keep (ip_4 hM c) (fun i hi g q => ec _) (ec c) (Int.le_refl _))
theorem CTm.same {F A : List Nat} {σ x : VS} (hM : CI σ) (h : CTm σ) (e : Eo F A σ x) (hF : 0 ∉ F ∧ 2 ∉ F ∧ 7 ∉ F ∧ 8 ∉ F) (hA : ∀ k ∈ LT, k ∉ A) : CTm x := fun k => by
  rw [e.1 0 hF.1] at k
  exact St_mv hM e hF.2 hA (h k)
theorem CRc.same {F A : List Nat} {σ τ x : VS} (h : CRc σ τ) (e : Eo F A σ x) (h0 : 0 ∉ F ∧ 1 ∉ F) (hF : 2 ∉ F ∧ 4 ∉ F ∧ 6 ∉ F ∧ 7 ∉ F ∧ 8 ∉ F ∧ 10 ∉ F) (hA : ∀ k ∈ LJ, k ∉ A) : CRc x τ := fun k => by
  rw [e.1 1 h0.2] at k
  have q := h k
  exact ⟨by rw [e.1 0 h0.1]; exact q.1, q.2.same e hF hA⟩
