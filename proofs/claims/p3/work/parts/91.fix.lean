theorem rg_holdsAt {Q : Int32 → VS → Prop} {p1 : Int32} {σ : VS} (h1 : 1 ≤ p1.toInt ∧ p1.toInt ≤ 1000000) (hS : SI σ) (hM : MI σ) (hLI : LI σ) (hq : ∀ (r : Int32) (σ' : VS), MI σ' → LI σ' → Eo [30, 32] [31, 33, 34, 35, 36, 37, 38, 39, 42, 43, 44, 45, 46, 47] σ σ' → Q r σ') : wp_holdsAt Q p1 σ := by
  unfold wp_holdsAt
  intro x1 e1
  have b1 : 1 ≤ x1.toInt ∧ x1.toInt ≤ 1000000 := by rw [e1]; exact hM.1 20
  have hE1 : Eo [20] [] σ (sf σ 20 p1) := Eo.rfl.sf 20 p1 (by decide)
  refine rg_judge (hS.same hE1 (by decide)) (hM.sf 20 p1 h1) (fun τ hMt hEt _ _ => ?_)
  have hM2 : MI (sf τ 20 x1) := hMt.sf 20 x1 b1
  have hE2 : Eo [30, 32] [31, 33, 34, 35, 36, 37, 38, 39, 42, 43, 44, 45, 46, 47] σ (sf τ 20 x1) := by
    refine ⟨fun k hk => ?_, fun k hk => ?_⟩
    · by_cases e : k = 20
      · rw [e, sf_same]; exact e1
      · rw [sf_other e, hEt.1 k hk, sf_other e]
    · show τ.2.1 k = σ.2.1 k
      rw [hEt.2 k hk]; rfl
  have hL2 : LI (sf τ 20 x1) := hLI.same hE2 (by decide)
  have hc : 0 ≤ ((sf τ 20 x1).1 1).toInt ∧ ((sf τ 20 x1).1 1).toInt ≤ 50 := hM2.1 1
  refine worst_s hM2 (fun r hr => ?_)
  unfold b_holdsAt_40 b_holdsAt_45
  refine ⟨fun _ => ⟨⟨by decide, by decide⟩, hq _ _ hM2 hL2 hE2⟩, fun hne => ?_⟩
  have h2 : 0 ≤ r.toInt ∧ r.toInt < 50 := by
    rcases hr with h | h
    · exact absurd h.1 hne
    · omega
  exact ⟨⟨by omega, by omega⟩, fun _ => ⟨⟨by decide, by decide⟩, hq _ _ hM2 hL2 hE2⟩, fun _ => ⟨⟨by decide, by decide⟩, hq _ _ hM2 hL2 hE2⟩⟩
set_option maxHeartbeats 2000000 in
theorem rg_least {Q : Int32 → VS → Prop} {p1 : Int32} {σ : VS} (hS : SI σ) (hM : MI σ) (hLI : LI σ) (hq : ∀ (r : Int32) (σ' : VS), MI σ' → LI σ' → Eo [30, 32] [31, 33, 34, 35, 36, 37, 38, 39, 42, 43, 44, 45, 46, 47] σ σ' → Q r σ') : wp_least Q p1 σ := by
  unfold wp_least
  intro X27 H
  have L : ∀ (n : Nat) (l2 l3 : Int32) (x : VS), l3.toInt - l2.toInt < (n : Int) → 0 ≤ l2.toInt → l2.toInt ≤ l3.toInt → l3.toInt ≤ 1000000 → MI x → LI x → Eo [30, 32] [31, 33, 34, 35, 36, 37, 38, 39, 42, 43, 44, 45, 46, 47] σ x → X27 l2 l3 x := by
    intro n
    induction n with
    | zero => intro l2 l3 x k1 k2 k3; omega
    | succ n ih =>
      intro l2 l3 x k1 k2 k3 k4 hMx hLx hEx
      refine H _ _ _ ?_
      unfold b_least_27
      have u1 : (l3 - l2).toInt = l3.toInt - l2.toInt := i3_sub rfl (by omega)
      have u2 : (l3 + l2).toInt = l3.toInt + l2.toInt := i3_add rfl (by omega)
      refine ⟨fun _ => hq _ _ hMx hLx hEx, fun hgt x3 e3 => ?_⟩
      have u3 : x3.toInt = (l3 + l2).toInt / 2 := i3_divc rfl rfl e3 (by omega) (by decide)
      refine rg_holdsAt (by omega) (hS.same hEx (by decide)) hMx hLx (fun r y hMy hLy hEy => ?_)
      unfold b_least_59
      exact ⟨fun _ => ih x3 l3 y (by omega) (by omega) (by omega) k4 hMy hLy (hEx.trans hEy), fun _ => ih l2 x3 y (by omega) k2 (by omega) (by omega) hMy hLy (hEx.trans hEy)⟩
  unfold b_least_11
  refine ⟨fun _ => hq _ _ hM hLI Eo.rfl, fun h1 => ⟨fun h2 => ?_, fun _ => hq _ _ hM hLI Eo.rfl⟩⟩
  refine rg_holdsAt (by omega) hS hM hLI (fun r y hMy hLy hEy => ⟨fun _ => ?_, fun _ => hq _ _ hMy hLy hEy⟩)
  exact L 1000001 0 p1 y (by have e : (0 : Int32).toInt = 0 := rfl; omega) (by decide) (by have e : (0 : Int32).toInt = 0 := rfl; omega) h2 hMy hLy hEy
set_option maxHeartbeats 4000000 in
theorem rg_grows {Q : Int32 → VS → Prop} {p1 : Int32} {σ : VS} {t : Nat} (ht : p1.toInt = (t : Int)) (htn : t < nC σ) (hp0 : pT σ t ≠ 0) (hp : pT σ t < 1000) (hS : SI σ) (hM : MI σ) (hLI : LI σ) (hD : TD σ) (hJ : JC σ) (hq : ∀ (r : Int32) (σ' : VS), Bo r → MI σ' → LI σ' → Eo [30, 32, 48, 61] [5, 31, 33, 34, 35, 36, 37, 38, 39, 42, 43, 44, 45, 46, 47, 49, 50, 51, 52, 53, 54, 55, 56, 57, 58, 59, 60] σ σ' → Q r σ') : wp_grows Q p1 σ := by
  have hc : 0 ≤ (σ.1 1).toInt ∧ (σ.1 1).toInt ≤ 50 := hM.1 1
  have hnc : (nC σ : Int) = (σ.1 1).toInt := by unfold nC; omega
  unfold wp_grows
  intro X34 H
  refine ⟨⟨by omega, by omega⟩, fun x1 _ => ?_⟩
  refine worst_s hM (fun r2 hr2 => ?_)
  have h2 : 0 ≤ r2.toInt ∧ r2.toInt < 50 := by
    rcases hr2 with h | h
    · exact absurd (h.2 t htn) hp0
    · omega
  refine ⟨⟨by omega, by omega⟩, fun x4 _ => ?_⟩
  refine rg_list ht htn (hJ.2 t htn hp0) hp hS hM hLI hD hJ (fun y hMy hLy hEy => ?_)
  intro x7 e7
  have b7 : 0 ≤ x7.toInt ∧ x7.toInt ≤ 999 := by rw [e7]; exact hMy.2 55 _
  have L : ∀ (n : Nat) (l5 : Int32) (x : VS), 51 - l5.toInt < (n : Int) → 0 ≤ l5.toInt ∧ l5.toInt ≤ 51 → MI x → LI x → Eo [30, 32, 48, 61] [5, 31, 33, 34, 35, 36, 37, 38, 39, 42, 43, 44, 45, 46, 47, 49, 50, 51, 52, 53, 54, 55, 56, 57, 58, 59, 60] σ x → X34 x1 x4 x7 l5 x := by
    intro n
    induction n with
    | zero => intro l5 x k1 k2; omega
    | succ n ih =>
      intro l5 x k1 k2 hMx hLx hEx
      refine H _ _ _ _ _ ?_
      unfold b_grows_34
      have b52 : 0 ≤ (rd x 52 x7).toInt ∧ (rd x 52 x7).toInt ≤ 52 := hMx.2 52 _
      have t52 : (rd x 52 x7 - 1).toInt = (rd x 52 x7).toInt - 1 := i3_subc rfl rfl rfl (by omega)
      have u1 : (52 * x7).toInt = 52 * x7.toInt := i3_mulc rfl rfl rfl (by omega)
      have u2 : (52 * x7 + l5).toInt = (52 * x7).toInt + l5.toInt := i3_addc rfl rfl rfl (by omega)
      have u5 : (l5 + 1).toInt = l5.toInt + 1 := i3_addc rfl rfl rfl (by omega)
      refine ⟨⟨by omega, by omega⟩, fun _ => hq _ _ ⟨by decide, by decide⟩ hMx hLx hEx, fun hlt => ⟨⟨by omega, by omega⟩, fun x8 e8 => ?_⟩⟩
      have b8 : 0 ≤ x8.toInt ∧ x8.toInt ≤ 49 := by rw [e8]; exact hMx.2 53 _
      have h154 : ∀ v : VS, MI v → LI v → Eo [30, 32, 48, 61] [5, 31, 33, 34, 35, 36, 37, 38, 39, 42, 43, 44, 45, 46, 47, 49, 50, 51, 52, 53, 54, 55, 56, 57, 58, 59, 60] σ v → b_grows_154 X34 Q x1 x4 x7 l5 v := by
        intro v a b c
        unfold b_grows_154
        exact ih (l5 + 1) v (by omega) (by omega) a b c
      refine ⟨⟨by omega, by omega⟩, fun _ => h154 x hMx hLx hEx, fun _ => ⟨⟨by omega, by omega⟩, fun hs => ⟨⟨by omega, by omega⟩, ⟨by omega, by omega⟩, ?_⟩, fun _ => h154 x hMx hLx hEx⟩⟩
      have b5 : 0 ≤ (rd x 5 x8).toInt ∧ (rd x 5 x8).toInt ≤ 2 := hMx.2 5 _
      have t5 : (rd x 5 x8 + 1).toInt = (rd x 5 x8).toInt + 1 := i3_addc rfl rfl rfl (by omega)
      have hM1 := hMx.sa 5 x8 (rd x 5 x8 + 1) (show 0 ≤ (rd x 5 x8 + 1).toInt ∧ (rd x 5 x8 + 1).toInt ≤ 2 by omega)
      have hE1 := hEx.sa 5 x8 (rd x 5 x8 + 1) (by decide)
      have hL1 : LI (sa x 5 x8 (rd x 5 x8 + 1)) := hLx.same (Eo.rfl.sa 5 _ _ (by decide) : Eo [] [5] x _) (by decide)
      refine rg_judge (hS.same hE1 (by decide)) hM1 (fun τ hMt hEt _ hJt => ?_)
      have hEt2 : Eo [30, 32, 48, 61] [5, 31, 33, 34, 35, 36, 37, 38, 39, 42, 43, 44, 45, 46, 47, 49, 50, 51, 52, 53, 54, 55, 56, 57, 58, 59, 60] σ τ := hE1.of hEt (by decide) (by decide)
      have hLt : LI τ := hL1.same hEt (by decide)
      have hr5 : (rd τ 5 x8).toInt = (rd x 5 x8).toInt + 1 := by
        have e9 : rd τ 5 x8 = rd (sa x 5 x8 (rd x 5 x8 + 1)) 5 x8 := by
          show τ.2.1 5 _ = _
          rw [hEt.2 5 (by decide)]; rfl
        rw [e9, rd_sa]; exact t5
      have t6 : (rd τ 5 x8 - 1).toInt = (rd τ 5 x8).toInt - 1 := i3_subc rfl rfl rfl (by omega)
      have h143 : b_grows_143 X34 Q x1 x4 x7 l5 x8 τ := by
        unfold b_grows_143
        exact ⟨⟨by omega, by omega⟩, ⟨by omega, by omega⟩, h154 _ (hMt.sa 5 _ _ (show 0 ≤ (rd τ 5 x8 - 1).toInt ∧ (rd τ 5 x8 - 1).toInt ≤ 2 by omega)) (hLt.same (Eo.rfl.sa 5 _ _ (by decide) : Eo [] [5] τ _) (by decide)) (hEt2.sa 5 _ _ (by decide))⟩
      have hct : 0 ≤ (τ.1 1).toInt ∧ (τ.1 1).toInt ≤ 50 := hMt.1 1
      refine worst_s hMt (fun r11 hr11 => ⟨fun _ => h143, fun hne => ?_⟩)
      have h11 : 0 ≤ r11.toInt ∧ r11.toInt < (τ.1 1).toInt ∧ pT τ r11.toInt.toNat ≠ 0 := by
        rcases hr11 with h | h
        · exact absurd h.1 hne
        · exact h
      refine ⟨⟨by omega, by omega⟩, fun _ => h143, fun _ => worst_s hMt (fun r13 hr13 => ?_)⟩
      have h13 : 0 ≤ r13.toInt ∧ r13.toInt < 50 := by
        rcases hr13 with h | h
        · exact absurd (h.2 r11.toInt.toNat (by unfold nC; omega)) h11.2.2
        · omega
      exact ⟨⟨by omega, by omega⟩, fun _ => h143, fun _ => hq _ _ ⟨by decide, by decide⟩ hMt hLt hEt2⟩
  exact L 52 0 y (by decide) (by decide) hMy hLy (hEy.mono (by decide) (by decide))
set_option maxHeartbeats 4000000 in
theorem rg_fix {Q : Int32 → VS → Prop} {σ : VS} (hS : SI σ) (hM : MI σ) (hLI : LI σ) (hq : ∀ (r : Int32) (σ' : VS), MI σ' → LI σ' → Eo [30, 32, 48, 61] [5, 31, 33, 34, 35, 36, 37, 38, 39, 42, 43, 44, 45, 46, 47, 49, 50, 51, 52, 53, 54, 55, 56, 57, 58, 59, 60] σ σ' → Q r σ') : wp_fix Q σ := by
  unfold wp_fix
  intro X4 H
  have L : ∀ (n : Nat) (l1 l2 : Int32) (x : VS), (101 - l1.toInt) * 2 + l2.toInt < (n : Int) → 0 ≤ l1.toInt ∧ l1.toInt ≤ 100 → Bo l2 → MI x → LI x → Eo [30, 32, 48, 61] [5, 31, 33, 34, 35, 36, 37, 38, 39, 42, 43, 44, 45, 46, 47, 49, 50, 51, 52, 53, 54, 55, 56, 57, 58, 59, 60] σ x → X4 l1 l2 x := by
    intro n
    induction n with
    | zero => intro l1 l2 x k1 k2 k3; unfold Bo at k3; omega
    | succ n ih =>
      intro l1 l2 x k1 k2 k3 hMx hLx hEx
      unfold Bo at k3
      refine H _ _ _ ?_
      unfold b_fix_4 b_fix_74
      refine ⟨fun _ => hq _ _ hMx hLx hEx, fun hl2 => ⟨fun _ => hq _ _ hMx hLx hEx, fun hl1 => ?_⟩⟩
      have hSx := hS.same hEx (by decide)
      refine rg_judge hSx hMx (fun τ hMt hEt hDt hJt => ?_)
      have hEt2 : Eo [30, 32, 48, 61] [5, 31, 33, 34, 35, 36, 37, 38, 39, 42, 43, 44, 45, 46, 47, 49, 50, 51, 52, 53, 54, 55, 56, 57, 58, 59, 60] σ τ := hEx.of hEt (by decide) (by decide)
      have hLt : LI τ := hLx.same hEt (by decide)
      have hct : 0 ≤ (τ.1 1).toInt ∧ (τ.1 1).toInt ≤ 50 := hMt.1 1
      have h51 : b_fix_51 X4 Q l1 τ := hq _ _ hMt hLt hEt2
      refine worst_s hMt (fun r3 hr3 => ⟨fun _ => h51, fun hne => ?_⟩)
      have h3 : 0 ≤ r3.toInt ∧ r3.toInt < (τ.1 1).toInt ∧ pT τ r3.toInt.toNat ≠ 0 := by
        rcases hr3 with h | h
        · exact absurd h.1 hne
        · exact h
      obtain ⟨t, ht⟩ : ∃ t : Nat, r3.toInt = (t : Int) := ⟨r3.toInt.toNat, by omega⟩
      have htt : r3.toInt.toNat = t := by omega
      rw [htt] at h3
      have hr45 : (rd τ 45 r3).toInt = (pT τ t : Int) := by
        rw [rd_at τ 45 r3 ht]
        have : 0 ≤ (τ.2.1 45 t).toInt ∧ (τ.2.1 45 t).toInt ≤ 1000 := hMt.2 45 t
        unfold pT; omega
      have hb45 : 0 ≤ (rd τ 45 r3).toInt ∧ (rd τ 45 r3).toInt ≤ 1000 := hMt.2 45 _
      refine ⟨⟨by omega, by omega⟩, fun _ => h51, fun _ => ⟨⟨by omega, by omega⟩, fun hn => ?_, fun _ => h51⟩⟩
      refine rg_grows ht (by unfold nC; omega) h3.2.2 (by omega) (hSx.same hEt (by decide)) hMt hLt hDt hJt (fun r5 y hb hMy hLy hEy => ?_)
      have hEy2 : Eo [30, 32, 48, 61] [5, 31, 33, 34, 35, 36, 37, 38, 39, 42, 43, 44, 45, 46, 47, 49, 50, 51, 52, 53, 54, 55, 56, 57, 58, 59, 60] σ y := hEt2.trans hEy
      have hb2 := hb
      unfold Bo at hb2
      refine ⟨fun hz => ?_, fun hnz => ?_⟩
      · intro x7 e7
        have t7 : x7.toInt = l1.toInt + 0 := i3_addc rfl rfl e7 (by omega)
        exact ih x7 r5 y (by omega) (by omega) hb hMy hLy hEy2
      · intro x7 e7
        have t7 : x7.toInt = l1.toInt + 1 := i3_addc rfl rfl e7 (by omega)
        exact ih x7 r5 y (by omega) (by omega) hb hMy hLy hEy2
  exact L 300 0 1 σ (by decide) (by decide) ⟨by decide, by decide⟩ hM hLI Eo.rfl

