theorem sm_two {n : Nat} {f : Nat → Nat} {a b : Nat} (ha : a < n) (hb : b < n) (hab : a ≠ b) : f a + f b ≤ sm n f := by
  obtain ⟨g, hg⟩ : ∃ g : Nat → Nat, g = fun i => if i = a then 0 else f i := ⟨_, rfl⟩
  have h1 := sm_more (n := n) (f := f) (g := g) (k := a) ha (fun i _ hi => by rw [hg]; exact if_neg hi)
  have h2 : g a = 0 := by rw [hg]; exact if_pos rfl
  have h3 := sm_at (f := g) hb
  have h4 : g b = f b := by rw [hg]; exact if_neg (fun q => hab q.symm)
  omega
theorem sm_up {n m : Nat} {f : Nat → Nat} (h : n ≤ m) : sm n f ≤ sm m f := by
  induction h with
  | refl => exact Nat.le_refl _
  | step _ ih => rw [sm_s]; omega
theorem cB_two {σ : VS} (hM : MI σ) {s : Nat} (hs : s < 50) (t : Nat) : BB σ s t (16 * (2 * s + 0) + metN σ s) + BB σ s t (16 * (2 * s + 1) + metN σ s) ≤ cB σ s t := by
  have hm := (metN_eq hM s).2
  have h := sm_two (n := 1600) (f := fun Y => BB σ s t Y * stS σ s Y) (a := 16 * (2 * s + 0) + metN σ s) (b := 16 * (2 * s + 1) + metN σ s) (by omega) (by omega) (by omega)
  replace h : BB σ s t (16 * (2 * s + 0) + metN σ s) * stS σ s (16 * (2 * s + 0) + metN σ s) + BB σ s t (16 * (2 * s + 1) + metN σ s) * stS σ s (16 * (2 * s + 1) + metN σ s) ≤ cB σ s t := h
  have e0 : stS σ s (16 * (2 * s + 0) + metN σ s) = 1 := by unfold stS; exact if_pos (Or.inl rfl)
  have e1 : stS σ s (16 * (2 * s + 1) + metN σ s) = 1 := by unfold stS; exact if_pos (Or.inr rfl)
  rw [e0, e1, Nat.mul_one, Nat.mul_one] at h
  exact h
set_option maxHeartbeats 4000000 in
theorem rg_list {Q : VS → Prop} {p1 : Int32} {σ : VS} {t : Nat} (ht : p1.toInt = (t : Int)) (htn : t < nC σ) (hK : 3 < Kd σ t) (hp : pT σ t < 1000) (hS : SI σ) (hM : MI σ) (hLI : LI σ) (hD : TD σ) (hJ : JC σ) (hq : ∀ τ : VS, MI τ → LI τ → Eo [48, 61] [49, 50, 51, 52, 53, 54, 55, 56, 57, 58, 59, 60] σ τ → Q τ) : wp_list Q p1 σ := by
  have hc : 0 ≤ (σ.1 1).toInt ∧ (σ.1 1).toInt ≤ 50 := hM.1 1
  have hnc : (nC σ : Int) = (σ.1 1).toInt := by unfold nC; omega
  have hJt := hJ.1 t htn hK hp
  obtain ⟨f, hf⟩ : ∃ f : Nat → Nat, f = fun s => if sB σ s = true then cB σ s t else 0 := ⟨_, rfl⟩
  rw [← hf] at hJt
  unfold wp_list
  intro X12 X39 X64 X74 H12 H39 H64 H74
  -- the sorting
  have L64 : ∀ (n : Nat) (l2 : Int32) (x : VS), 1000 - l2.toInt < (n : Int) → 0 ≤ l2.toInt ∧ l2.toInt ≤ 1000 → MI x → LI x → Eo [48, 61] [49, 50, 51, 52, 53, 54, 55, 56, 57, 58, 59, 60] σ x → X64 l2 x := by
    intro n
    induction n with
    | zero => intro l2 x k1 k2; omega
    | succ n ih =>
      intro l2 x k1 k2 hMx hLx hEx
      refine H64 _ _ ?_
      unfold b_list_64
      have h48 : 0 ≤ (x.1 48).toInt ∧ (x.1 48).toInt ≤ 1000 := hMx.1 48
      refine ⟨fun _ => hq x hMx hLx hEx, fun hlt => ?_⟩
      have u2 : (l2 + 1).toInt = l2.toInt + 1 := i3_addc rfl rfl rfl (by omega)
      have L74 : ∀ (m : Nat) (l3 : Int32) (y : VS), l3.toInt < (m : Int) → 0 ≤ l3.toInt ∧ l3.toInt ≤ l2.toInt → MI y → LI y → Eo [48, 61] [49, 50, 51, 52, 53, 54, 55, 56, 57, 58, 59, 60] σ y → X74 l2 l3 y := by
        intro m
        induction m with
        | zero => intro l3 y j1 j2; omega
        | succ m ihm =>
          intro l3 y j1 j2 hMy hLy hEy
          refine H74 _ _ _ ?_
          have h120 : b_list_120 X12 X39 X64 X74 Q l2 l3 y := by
            unfold b_list_120
            exact ⟨⟨by omega, by omega⟩, ih (l2 + 1) _ (by omega) (by omega) (hMy.sa 55 _ _ (show 0 ≤ l2.toInt ∧ l2.toInt ≤ 999 by omega)) (hLy.same (Eo.rfl.sa 55 _ _ (by decide) : Eo [] [55] y _) (by decide)) (hEy.sa 55 _ _ (by decide))⟩
          unfold b_list_74
          refine ⟨fun _ => h120, fun hpos => ?_⟩
          have v1 : (l3 - 1).toInt = l3.toInt - 1 := i3_subc rfl rfl rfl (by omega)
          obtain ⟨lm, hlm⟩ : ∃ z : Int32, z = l3 + (-1) := ⟨_, rfl⟩
          rw [← hlm]
          have v2 : lm.toInt = l3.toInt + (-1) := i3_addc rfl rfl hlm (by omega)
          clear hlm
          have b55 : 0 ≤ (rd y 55 (l3 - 1)).toInt ∧ (rd y 55 (l3 - 1)).toInt ≤ 999 := hMy.2 55 _
          exact ⟨⟨by omega, by omega⟩, ⟨by omega, by omega⟩, ⟨by omega, by omega⟩, fun _ => h120, fun _ => ⟨⟨by omega, by omega⟩, ⟨by omega, by omega⟩, ihm lm _ (by omega) (by omega) (hMy.sa 55 _ _ b55) (hLy.same (Eo.rfl.sa 55 _ _ (by decide) : Eo [] [55] y _) (by decide)) (hEy.sa 55 _ _ (by decide))⟩⟩
      exact L74 1001 l2 x (by omega) (by omega) hMx hLx hEx
  have L12 : ∀ (n s : Nat) (l2 : Int32) (x : VS), l2.toInt = (s : Int) → s ≤ nC σ → nC σ - s < n → MI x → LI x → Eo [48, 61] [49, 50, 51, 52, 53, 54, 55, 56, 57, 58, 59, 60] σ x → x.1 61 = p1 → (x.1 48).toInt.toNat ≤ sm s f → X12 p1 l2 x := by
    intro n
    induction n with
    | zero => intro s l2 x k1 k2 k3; omega
    | succ n ih =>
      intro s l2 x k1 k2 k3 hMx hLx hEx h61 hL
      refine H12 _ _ _ ?_
      unfold b_list_12
      have hcx : (x.1 1).toInt = (σ.1 1).toInt := by rw [hEx.1 1 (by decide)]
      rw [hcx]
      refine ⟨fun _ => L64 1001 0 x (by decide) (by decide) hMx hLx hEx, fun hlt => ?_⟩
      have u2 : (l2 + 1).toInt = l2.toInt + 1 := i3_addc rfl rfl rfl (by omega)
      have hsn : s < nC σ := by omega
      have hup : sm (s + 1) f ≤ sm (nC σ) f := sm_up (by omega)
      have h56 : ∀ y : VS, MI y → LI y → Eo [48, 61] [49, 50, 51, 52, 53, 54, 55, 56, 57, 58, 59, 60] σ y → y.1 61 = p1 → (y.1 48).toInt.toNat ≤ sm (s + 1) f → b_list_56 X12 X39 X64 X74 Q p1 l2 y := by
        intro y a b b2 c d
        unfold b_list_56
        exact ih (s + 1) (l2 + 1) y (by omega) (by omega) (by omega) a b b2 c d
      refine isStart_s k1 (by omega) (fun hk hop => ⟨fun _ => ?_, fun h => absurd h (by decide)⟩) (fun _ => ⟨fun h => absurd rfl h, fun _ => h56 x hMx hLx hEx h61 (Nat.le_trans hL (sm_up (by omega)))⟩)
      have hkσ : Kd σ s = 0 ∨ Kd σ s = 4 := by unfold Kd at hk ⊢; rw [hEx.2 2 (by decide)] at hk; exact hk
      have hopσ : (σ.2.1 35 s).toInt = 0 := by rw [hEx.2 35 (by decide)] at hop; exact hop
      have hsB : sB σ s = true := decide_eq_true ⟨hkσ, hopσ⟩
      have hrs := hD.2.2.2.2 s hsn hkσ
      have hfs : sm (s + 1) f = sm s f + cB σ s t := by rw [sm_s, hf]; show _ + (if sB σ s = true then cB σ s t else 0) = _; rw [if_pos hsB]
      have h2 := cB_two hM (s := s) (by omega) t
      refine rg_markGood ⟨by omega, by omega⟩ ⟨by omega, by omega⟩ hMx (fun y hMy hEy => ?_)
      have hEy2 : Eo [48, 61] [49, 50, 51, 52, 53, 54, 55, 56, 57, 58, 59, 60] σ y := hEx.of hEy (by decide) (by decide)
      have hgo : ∀ (e : Nat) (l3 : Int32) (z : VS) (R : VS → Prop), l3.toInt = (e : Int) → e < 2 → MI z → LI z → Eo [48, 61] [49, 50, 51, 52, 53, 54, 55, 56, 57, 58, 59, 60] σ z → z.1 61 = p1 → (z.1 48).toInt.toNat + BB σ s t (16 * (2 * s + e) + metN σ s) < 1000 → (∀ u : VS, MI u → LI u → Eo [48, 61] [49, 50, 51, 52, 53, 54, 55, 56, 57, 58, 59, 60] σ u → u.1 61 = p1 → (u.1 48).toInt.toNat ≤ (z.1 48).toInt.toNat + BB σ s t (16 * (2 * s + e) + metN σ s) → R u) → wp_goFrom R l2 l3 z := by
        intro e l3 z R j1 j2 hMz hLz hEz hz61 hz hR
        have hb : BB z = BB σ := (cB_same hEz (by decide)).2
        have hm : metN z s = metN σ s := metN_same hEz (by decide) s
        have hnz : nC z = nC σ := by unfold nC; rw [hEz.1 1 (by decide)]
        refine rg_goFrom (s := s) (e := e) (t := t) k1 j1 j2 (by rw [hz61]; exact ht) (by omega) (by omega) ?_ ?_ ?_ (hS.same hEz (by decide)) hMz hLz (hD.same hEz (by decide)) (by rw [hb, hm]; exact hz) (fun u hMu hLu hEu hu => ?_)
        · unfold Kd; rw [hEz.2 2 (by decide)]; exact hK
        · rw [hEz.2 34 (by decide)]; exact hrs
        · rw [hEz.2 35 (by decide)]; exact hopσ
        · rw [hb, hm] at hu
          exact hR u hMu hLu (hEz.of hEu (by decide) (by decide)) ((hEu.1 61 (by decide)).trans hz61) hu
      have hy48 : y.1 48 = x.1 48 := hEy.1 48 (by decide)
      have hy61 : y.1 61 = p1 := (hEy.1 61 (by decide)).trans h61
      refine H39 _ _ _ _ ?_
      unfold b_list_39
      refine ⟨fun h => absurd h (by decide), fun _ => ?_⟩
      refine hgo 0 0 y _ rfl (by omega) hMy (hLx.same hEy (by decide)) hEy2 hy61 (by rw [hy48]; omega) (fun u hMu hLu hEu hu61 hu => ?_)
      have e01 : (0 : Int32) + 1 = 1 := by decide
      rw [e01]
      refine H39 _ _ _ _ ?_
      unfold b_list_39
      refine ⟨fun h => absurd h (by decide), fun _ => ?_⟩
      rw [hy48] at hu
      refine hgo 1 1 u _ rfl (by omega) hMu hLu hEu hu61 (by omega) (fun v hMv hLv hEv hv61 hv => ?_)
      have e12 : (1 : Int32) + 1 = 2 := by decide
      rw [e12]
      refine H39 _ _ _ _ ?_
      unfold b_list_39
      exact ⟨fun _ => h56 v hMv hLv hEv hv61 (by omega), fun h => absurd h (by decide)⟩
  refine L12 (nC σ + 1) 0 0 _ rfl (by omega) (by omega) ((hM.sf 48 0 (show 0 ≤ (0 : Int32).toInt ∧ (0 : Int32).toInt ≤ 1000 by decide)).sf 61 p1 (show 0 ≤ p1.toInt ∧ p1.toInt ≤ 49 by omega)) (hLI.same ((Eo.rfl.sf 48 _ (by decide)).sf 61 _ (by decide) : Eo [48, 61] [] σ _) (by decide)) ((Eo.rfl.sf 48 _ (by decide)).sf 61 _ (by decide)) rfl ?_
  have e9 : (sf (sf σ 48 0) 61 p1).1 48 = 0 := rfl
  rw [e9]
  exact Nat.zero_le _

