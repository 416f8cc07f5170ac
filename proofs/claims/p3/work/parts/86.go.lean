def nX (x : VS) (j : Nat) : Nat := 16 * (2 * (x.2.1 57 j).toInt.toNat + (x.2.1 59 j).toInt.toNat) + (x.2.1 60 j).toInt.toNat
def rs (x : VS) (j : Nat) : Nat := 4 * (x.2.1 57 (j + 1)).toInt.toNat + (x.2.1 58 (j + 1)).toInt.toNat + 1
set_option maxHeartbeats 8000000 in
theorem rg_goFrom {Q : VS → Prop} {p1 p2 : Int32} {σ : VS} {s e t : Nat} (hs : p1.toInt = (s : Int)) (he : p2.toInt = (e : Int)) (he2 : e < 2) (ht : (σ.1 61).toInt = (t : Int)) (hsn : s < nC σ) (htn : t < nC σ) (hK : 3 < Kd σ t) (hrs : (σ.2.1 34 s).toInt ≠ 0) (hos : (σ.2.1 35 s).toInt = 0) (hS : SI σ) (hM : MI σ) (hLI : LI σ) (hD : TD σ) (hC : (σ.1 48).toInt.toNat + BB σ s t (16 * (2 * s + e) + metN σ s) < 1000)
    (hq : ∀ τ : VS, MI τ → LI τ → Eo [48] [49, 50, 51, 52, 53, 54, 57, 58, 59, 60] σ τ → (τ.1 48).toInt.toNat ≤ (σ.1 48).toInt.toNat + BB σ s t (16 * (2 * s + e) + metN σ s) → Q τ) : wp_goFrom Q p1 p2 σ := by
  obtain ⟨pos, hpos, hinv, hsrc⟩ := hD.pos
  have hc : 0 ≤ (σ.1 1).toInt ∧ (σ.1 1).toInt ≤ 50 := hM.1 1
  have ho : 0 ≤ (σ.1 32).toInt ∧ (σ.1 32).toInt ≤ 50 := hM.1 32
  have hnc : (nC σ : Int) = (σ.1 1).toInt := by unfold nC; omega
  have hol : (oL σ : Int) = (σ.1 32).toInt := by unfold oL; omega
  have hmet := metN_eq hM s
  obtain ⟨C, hCd⟩ : ∃ C : Nat, C = (σ.1 48).toInt.toNat + BB σ s t (16 * (2 * s + e) + metN σ s) := ⟨_, rfl⟩
  rw [← hCd] at hC hq
  obtain ⟨W, hW⟩ : ∃ W : Nat → Nat, W = Bn 200 (aB σ) (dN σ) (fun _ => 201) 50 := ⟨_, rfl⟩
  obtain ⟨B, hB⟩ : ∃ B : Nat → Nat, B = BB σ s t := ⟨_, rfl⟩
  have hWf : ∀ X, X < 1600 → W X = 201 + sw (aB σ) (dN σ) W X 0 := fun X hX => by rw [sw_0, hW]; exact Bfix hS hM hD (fun _ => 201) hX
  have hBf : ∀ X, X < 1600 → B X = tgN σ s t X + sw (aB σ) (dN σ) B X 0 := fun X hX => by rw [sw_0, hB]; unfold BB; exact Bfix hS hM hD (tgN σ s t) hX
  -- what is left at a node from wire p on: paths, and turns
  obtain ⟨ph, hph⟩ : ∃ f : Nat → Nat → Nat, f = fun X p => (if p ≤ 4 * t then tgN σ s t X else 0) + sw (aB σ) (dN σ) B X p := ⟨_, rfl⟩
  obtain ⟨ps, hps⟩ : ∃ f : Nat → Nat → Nat, f = fun X p => (201 - p) + sw (aB σ) (dN σ) W X p := ⟨_, rfl⟩
  have ph_s : ∀ X p, p < 200 → ph X p = ph X (p + 1) + (if aB σ X p = true then B (dN σ X p) else 0) + (if p = 4 * t then tgN σ s t X else 0) := by
    intro X p hp
    rw [hph]
    show (if p ≤ 4 * t then tgN σ s t X else 0) + sw (aB σ) (dN σ) B X p = ((if p + 1 ≤ 4 * t then tgN σ s t X else 0) + sw (aB σ) (dN σ) B X (p + 1)) + _ + _
    rw [sw_s hp]
    by_cases e1 : p = 4 * t
    · rw [if_pos (show p ≤ 4 * t by omega), if_neg (show ¬ p + 1 ≤ 4 * t by omega), if_pos e1]; omega
    · rw [if_neg e1]
      by_cases e2 : p ≤ 4 * t
      · rw [if_pos e2, if_pos (show p + 1 ≤ 4 * t by omega)]; omega
      · rw [if_neg e2, if_neg (show ¬ p + 1 ≤ 4 * t by omega)]; omega
  have ps_s : ∀ X p, p < 200 → ps X p = ps X (p + 1) + 1 + (if aB σ X p = true then W (dN σ X p) else 0) := by
    intro X p hp
    rw [hps]
    show (201 - p) + sw (aB σ) (dN σ) W X p = ((201 - (p + 1)) + sw (aB σ) (dN σ) W X (p + 1)) + 1 + _
    rw [sw_s hp]; omega
  have ph_m : ∀ X p q, p ≤ q → ph X q ≤ ph X p := by
    intro X p q h
    rw [hph]
    show (if q ≤ 4 * t then tgN σ s t X else 0) + sw (aB σ) (dN σ) B X q ≤ (if p ≤ 4 * t then tgN σ s t X else 0) + sw (aB σ) (dN σ) B X p
    have := sw_mono (a := aB σ) (g := dN σ) (B := B) (X := X) h
    by_cases e1 : q ≤ 4 * t
    · rw [if_pos e1, if_pos (show p ≤ 4 * t by omega)]; omega
    · rw [if_neg e1]; omega
  have ps_m : ∀ X p q, p ≤ q → ps X q ≤ ps X p := by
    intro X p q h
    rw [hps]
    show (201 - q) + sw (aB σ) (dN σ) W X q ≤ (201 - p) + sw (aB σ) (dN σ) W X p
    have := sw_mono (a := aB σ) (g := dN σ) (B := W) (X := X) h
    omega
  have ph_0 : ∀ X, X < 1600 → ph X 0 = B X := by
    intro X hX
    rw [hBf X hX, hph]
    show (if 0 ≤ 4 * t then tgN σ s t X else 0) + _ = _
    rw [if_pos (show 0 ≤ 4 * t by omega)]
  have ps_0 : ∀ X, X < 1600 → ps X 0 = W X := by
    intro X hX
    rw [hWf X hX, hps]
  have ps_1 : ∀ X p, p ≤ 200 → 1 ≤ ps X p := by
    intro X p hp
    rw [hps]
    show 1 ≤ (201 - p) + _
    omega
  unfold wp_goFrom
  intro X64 H64
  have main : ∀ (n : Nat) (dp cl ip : Nat) (l3 l4 l5 : Int32) (x : VS), l3.toInt = (dp : Int) → l4.toInt = (cl : Int) → l5.toInt = (ip : Int) → dp ≤ 49 → cl ≤ nC σ → ip ≤ 3 → (cl = nC σ → ip = 0) → MI x → LI x → Eo [48] [49, 50, 51, 52, 53, 54, 57, 58, 59, 60] σ x → (∀ j, j ≤ dp → (x.2.1 57 j).toInt.toNat < nC σ ∧ j ≤ pos (x.2.1 57 j).toInt.toNat ∧ (σ.2.1 34 (x.2.1 57 j).toInt.toNat).toInt ≠ 0 ∧ (σ.2.1 35 (x.2.1 57 j).toInt.toNat).toInt = 0) → (∀ j : Nat, 1 ≤ j → j ≤ dp → 0 ≤ (x.2.1 58 j).toInt) → (x.1 48).toInt.toNat + ph (nX x dp) (4 * cl + ip) + sm dp (fun j => ph (nX x j) (rs x j)) ≤ C → ps (nX x dp) (4 * cl + ip) + sm dp (fun j => ps (nX x j) (rs x j)) < n → X64 p1 l3 l4 l5 x := by
    intro n
    induction n with
    | zero => intro dp cl ip l3 l4 l5 x k1 k2 k3 k4 k5 k6 k7 hMx hLx hEx hst hin hL hn; omega
    | succ n ih =>
      intro dp cl ip l3 l4 l5 x k1 k2 k3 k4 k5 k6 k7 hMx hLx hEx hst hin hL hn
      have hcx : (x.1 1).toInt = (σ.1 1).toInt := by rw [hEx.1 1 (by decide)]
      have htx : (x.1 61).toInt = (t : Int) := by rw [hEx.1 61 (by decide)]; exact ht
      refine H64 _ _ _ _ _ ?_
      unfold b_goFrom_64
      rw [hcx]
      refine ⟨fun h => by omega, fun _ => ⟨fun hne => ?_, fun heq => ?_⟩⟩
      · -- a wire of cell cl
        have hcl : cl < nC σ := by omega
        have hIp : (rd x 3 l4).toInt = Ip σ cl := by rw [rd_at x 3 l4 k2, hEx.2 3 (by decide)]; rfl
        have hIp4 : 0 ≤ Ip σ cl ∧ Ip σ cl ≤ 4 := hM.2 3 cl
        have hw : 4 * cl + ip < 200 := by omega
        have u1 : (4 * l4).toInt = 4 * l4.toInt := i3_mulc rfl rfl rfl (by omega)
        have u2 : (4 * l4 + l5).toInt = (4 * l4).toInt + l5.toInt := i3_addc rfl rfl rfl (by omega)
        have u5 : (l5 + 1).toInt = l5.toInt + 1 := i3_addc rfl rfl rfl (by omega)
        have u4 : (l4 + 1).toInt = l4.toInt + 1 := i3_addc rfl rfl rfl (by omega)
        have hdp := hst dp (Nat.le_refl _)
        have b57 : 0 ≤ (x.2.1 57 dp).toInt ∧ (x.2.1 57 dp).toInt ≤ 49 := hMx.2 57 dp
        have b59 : 0 ≤ (x.2.1 59 dp).toInt ∧ (x.2.1 59 dp).toInt ≤ 1 := hMx.2 59 dp
        have b60 : 0 ≤ (x.2.1 60 dp).toInt ∧ (x.2.1 60 dp).toInt ≤ 15 := hMx.2 60 dp
        have hX32 : nX x dp / 32 = (x.2.1 57 dp).toInt.toNat := by unfold nX; omega
        have hX16 : nX x dp / 16 % 2 = (x.2.1 59 dp).toInt.toNat := by unfold nX; omega
        have hXm : nX x dp % 16 = (x.2.1 60 dp).toInt.toNat := by unfold nX; omega
        have hw4 : (4 * cl + ip) / 4 = cl := by omega
        have hwm : (4 * cl + ip) % 4 = ip := by omega
        -- going on to the next wire, with what listed is now
        have h366 : ∀ y : VS, MI y → LI y → Eo [48] [49, 50, 51, 52, 53, 54] x y → (y.1 48).toInt.toNat + ph (nX x dp) (4 * cl + ip + 1) + sm dp (fun j => ph (nX x j) (rs x j)) ≤ C → b_goFrom_366 X64 Q p1 l3 l4 l5 y := by
          intro y hMy hLIy hEy hLy
          have hEy2 : Eo [48] [49, 50, 51, 52, 53, 54, 57, 58, 59, 60] σ y := hEx.of hEy (by decide) (by decide)
          have hnX : ∀ j, nX y j = nX x j := fun j => by unfold nX; rw [hEy.2 57 (by decide), hEy.2 59 (by decide), hEy.2 60 (by decide)]
          have hrs2 : ∀ j, rs y j = rs x j := fun j => by unfold rs; rw [hEy.2 57 (by decide), hEy.2 58 (by decide)]
          have hIpy : (rd y 3 l4).toInt = Ip σ cl := by rw [rd_at y 3 l4 k2, hEy2.2 3 (by decide)]; rfl
          have hpss := ps_s (nX x dp) (4 * cl + ip) hw
          have e1 : (fun j => ph (nX y j) (rs y j)) = fun j => ph (nX x j) (rs x j) := by funext j; rw [hnX, hrs2]
          have e2 : (fun j => ps (nX y j) (rs y j)) = fun j => ps (nX x j) (rs x j) := by funext j; rw [hnX, hrs2]
          have hst2 : ∀ j, j ≤ dp → (y.2.1 57 j).toInt.toNat < nC σ ∧ j ≤ pos (y.2.1 57 j).toInt.toNat ∧ (σ.2.1 34 (y.2.1 57 j).toInt.toNat).toInt ≠ 0 ∧ (σ.2.1 35 (y.2.1 57 j).toInt.toNat).toInt = 0 := by rw [hEy.2 57 (by decide)]; exact hst
          have hin2 : ∀ j : Nat, 1 ≤ j → j ≤ dp → 0 ≤ (y.2.1 58 j).toInt := by rw [hEy.2 58 (by decide)]; exact hin
          unfold b_goFrom_366 b_goFrom_387
          rw [hIpy]
          refine ⟨⟨by omega, by omega⟩, fun hlt => ?_, fun hge => ?_⟩
          · refine ih dp cl (ip + 1) l3 l4 (l5 + 1) y k1 k2 (by omega) k4 k5 (by omega) (fun h => by omega) hMy hLIy hEy2 hst2 hin2 ?_ ?_
            · rw [e1, hnX]; exact hLy
            · rw [e2, hnX]
              have e3 : 4 * cl + (ip + 1) = 4 * cl + ip + 1 := by omega
              rw [e3]; omega
          · have e3 : 4 * cl + ip + 1 ≤ 4 * (cl + 1) + 0 := by omega
            have m1 := ph_m (nX x dp) _ _ e3
            have m2 := ps_m (nX x dp) _ _ e3
            refine ih dp (cl + 1) 0 l3 (l4 + 1) 0 y k1 (by omega) rfl k4 (by omega) (by omega) (fun _ => rfl) hMy hLIy hEy2 hst2 hin2 ?_ ?_
            · rw [e1, hnX]; omega
            · rw [e2, hnX]; omega
        -- behind the keeping: may it go on?
        have h279 : ∀ (k0 flag : Int32) (y : VS), (flag.toInt ≠ 0 → aB σ (nX x dp) (4 * cl + ip) = true) → k0.toInt = (outE σ cl (x.2.1 59 dp).toInt.toNat : Int) → MI y → LI y → Eo [48] [49, 50, 51, 52, 53, 54] x y → (y.1 48).toInt.toNat + ph (nX x dp) (4 * cl + ip + 1) + (if aB σ (nX x dp) (4 * cl + ip) = true then B (dN σ (nX x dp) (4 * cl + ip)) else 0) + sm dp (fun j => ph (nX x j) (rs x j)) ≤ C → b_goFrom_279 X64 Q p1 l3 l4 l5 flag k0 y := by
          intro k0 flag y hfl hk0 hMy hLIy hEy hLy
          have hEy2 : Eo [48] [49, 50, 51, 52, 53, 54, 57, 58, 59, 60] σ y := hEx.of hEy (by decide) (by decide)
          have hout : outE σ cl (x.2.1 59 dp).toInt.toNat < 2 := by unfold outE; split <;> omega
          unfold b_goFrom_279
          refine ⟨⟨by omega, by omega⟩, met_s hMy ?_⟩
          intro x15 e15
          rw [met_same hEy2 (by decide), k2] at e15
          have hmc := metN_eq hM cl
          have hr60 : (rd y 60 l3).toInt = ((x.2.1 60 dp).toInt.toNat : Int) := by rw [rd_at y 60 l3 k1, hEy.2 60 (by decide)]; omega
          have v15 : x15.toInt = (((x.2.1 60 dp).toInt.toNat ||| metN σ cl : Nat) : Int) := by rw [e15]; exact or_nat hr60 hmc.1 (by omega) hmc.2
          have hor := or_lt (m := (x.2.1 60 dp).toInt.toNat) (k := metN σ cl) (by omega) hmc.2
          have v1 : (2 * l4).toInt = 2 * l4.toInt := i3_mulc rfl rfl rfl (by omega)
          have v2 : (2 * l4 + k0).toInt = (2 * l4).toInt + k0.toInt := i3_addc rfl rfl rfl (by omega)
          have v3 : (16 * (2 * l4 + k0)).toInt = 16 * (2 * l4 + k0).toInt := i3_mulc rfl rfl rfl (by omega)
          have v4 : (16 * (2 * l4 + k0) + x15).toInt = (16 * (2 * l4 + k0)).toInt + x15.toInt := i3_addc rfl rfl rfl (by omega)
          have hskip : b_goFrom_366 X64 Q p1 l3 l4 l5 y := h366 y hMy hLIy hEy (by omega)
          refine ⟨fun _ => hskip, fun hf => ⟨⟨by omega, by omega⟩, fun _ => hskip, fun _ => ?_⟩⟩
          -- one deeper
          have ha := hfl hf
          rw [if_pos ha] at hLy
          have h9 := aB_out ha
          rw [hw4, hwm, hX32] at h9
          have hpc : pos (x.2.1 57 dp).toInt.toNat < pos cl := by
            have h10 := hsrc cl ip hcl h9.2.1 h9.2.2.2.2.1 (by rw [h9.2.2.2.2.2.1]; omega) (by rw [h9.2.2.2.2.2.1]; omega)
            have e3 : (Tk σ (4 * cl + ip)).toNat = (x.2.1 57 dp).toInt.toNat := by rw [h9.2.2.2.2.2.1]; rfl
            rw [e3] at h10
            exact h10
          have hpl := hpos cl hcl
          have hdp1 : dp + 1 ≤ 49 := by omega
          have u3 : (l3 + 1).toInt = l3.toInt + 1 := i3_addc rfl rfl rfl (by omega)
          have hl31 : (l3 + 1).toInt = ((dp + 1 : Nat) : Int) := by omega
          obtain ⟨z, hz⟩ : ∃ z : VS, z = sa (sa (sa (sa y 57 (l3 + 1) l4) 58 (l3 + 1) l5) 59 (l3 + 1) k0) 60 (l3 + 1) x15 := ⟨_, rfl⟩
          have z57 : ∀ j, z.2.1 57 j = if j = dp + 1 then l4 else x.2.1 57 j := fun j => by rw [hz, sa_other (by decide), sa_other (by decide), sa_other (by decide), sa_at y 57 (l3 + 1) l4 hl31, hEy.2 57 (by decide)]
          have z58 : ∀ j, z.2.1 58 j = if j = dp + 1 then l5 else x.2.1 58 j := fun j => by rw [hz, sa_other (by decide), sa_other (by decide), sa_at _ 58 (l3 + 1) l5 hl31, sa_other (by decide), hEy.2 58 (by decide)]
          have z59 : ∀ j, z.2.1 59 j = if j = dp + 1 then k0 else x.2.1 59 j := fun j => by rw [hz, sa_other (by decide), sa_at _ 59 (l3 + 1) k0 hl31, sa_other (by decide), sa_other (by decide), hEy.2 59 (by decide)]
          have z60 : ∀ j, z.2.1 60 j = if j = dp + 1 then x15 else x.2.1 60 j := fun j => by rw [hz, sa_at _ 60 (l3 + 1) x15 hl31, sa_other (by decide), sa_other (by decide), sa_other (by decide), hEy.2 60 (by decide)]
          have hMz : MI z := by
            rw [hz]
            exact (((hMy.sa 57 _ _ (show 0 ≤ l4.toInt ∧ l4.toInt ≤ 49 by omega)).sa 58 _ _ (show -1 ≤ l5.toInt ∧ l5.toInt ≤ 3 by omega)).sa 59 _ _ (show 0 ≤ k0.toInt ∧ k0.toInt ≤ 1 by omega)).sa 60 _ _ (show 0 ≤ x15.toInt ∧ x15.toInt ≤ 15 by omega)
          have hEz : Eo [48] [49, 50, 51, 52, 53, 54, 57, 58, 59, 60] σ z := by rw [hz]; exact (((hEy2.sa 57 _ _ (by decide)).sa 58 _ _ (by decide)).sa 59 _ _ (by decide)).sa 60 _ _ (by decide)
          have h48 : z.1 48 = y.1 48 := by rw [hz]; rfl
          have hLIz : LI z := by rw [hz]; exact hLIy.same ((((Eo.rfl.sa 57 _ _ (by decide)).sa 58 _ _ (by decide)).sa 59 _ _ (by decide)).sa 60 _ _ (by decide) : Eo [] [57, 58, 59, 60] y _) (by decide)
          have nXz : ∀ j, j ≤ dp → nX z j = nX x j := fun j hj => by unfold nX; rw [z57, z59, z60, if_neg (by omega), if_neg (by omega), if_neg (by omega)]
          have nXt : nX z (dp + 1) = dN σ (nX x dp) (4 * cl + ip) := by
            have e8 : nX z (dp + 1) = 16 * (2 * l4.toInt.toNat + k0.toInt.toNat) + x15.toInt.toNat := by
              unfold nX
              rw [z57, z59, z60, if_pos rfl, if_pos rfl, if_pos rfl]
            rw [e8]
            unfold dN
            rw [hw4, hX16, hXm]
            omega
          have rsz : ∀ j, j < dp → rs z j = rs x j := fun j hj => by unfold rs; rw [z57, z58, if_neg (by omega), if_neg (by omega)]
          have rst : rs z dp = 4 * cl + ip + 1 := by unfold rs; rw [z57, z58, if_pos rfl, if_pos rfl]; omega
          have hdN : dN σ (nX x dp) (4 * cl + ip) < 1600 := by
            rw [← nXt]
            unfold nX
            rw [z57, z59, z60, if_pos rfl, if_pos rfl, if_pos rfl]
            omega
          have s1 : sm (dp + 1) (fun j => ph (nX z j) (rs z j)) = sm dp (fun j => ph (nX x j) (rs x j)) + ph (nX x dp) (4 * cl + ip + 1) := by
            rw [sm_s, nXz dp (Nat.le_refl _), rst]
            congr 1
            exact sm_eq (fun j hj => by rw [nXz j (by omega), rsz j hj])
          have s2 : sm (dp + 1) (fun j => ps (nX z j) (rs z j)) = sm dp (fun j => ps (nX x j) (rs x j)) + ps (nX x dp) (4 * cl + ip + 1) := by
            rw [sm_s, nXz dp (Nat.le_refl _), rst]
            congr 1
            exact sm_eq (fun j hj => by rw [nXz j (by omega), rsz j hj])
          have hpss := ps_s (nX x dp) (4 * cl + ip) hw
          rw [if_pos ha] at hpss
          rw [← hz]
          refine ⟨⟨by omega, by omega⟩, ⟨by omega, by omega⟩, ⟨by omega, by omega⟩, ⟨by omega, by omega⟩, ?_⟩
          refine ih (dp + 1) 0 0 (l3 + 1) 0 0 z hl31 rfl rfl hdp1 (by omega) (by omega) (fun _ => rfl) hMz hLIz hEz (fun j hj => ?_) (fun j h1 h2 => ?_) ?_ ?_
          · rw [z57]
            by_cases e9 : j = dp + 1
            · rw [if_pos e9]
              have e10 : l4.toInt.toNat = cl := by omega
              rw [e10]
              exact ⟨hcl, by omega, h9.2.2.1, h9.2.2.2.1⟩
            · rw [if_neg e9]; exact hst j (by omega)
          · rw [z58]
            by_cases e9 : j = dp + 1
            · rw [if_pos e9]; omega
            · rw [if_neg e9]; exact hin j h1 (by omega)
          · rw [nXt, s1, h48, show 4 * 0 + 0 = 0 from rfl, ph_0 _ hdN]
            omega
          · rw [nXt, s2, show 4 * 0 + 0 = 0 from rfl, ps_0 _ hdN]
            omega
        have h249 : ∀ (flag : Int32) (y : VS), (flag.toInt ≠ 0 → aB σ (nX x dp) (4 * cl + ip) = true) → MI y → LI y → Eo [48] [49, 50, 51, 52, 53, 54] x y → (y.1 48).toInt.toNat + ph (nX x dp) (4 * cl + ip + 1) + (if aB σ (nX x dp) (4 * cl + ip) = true then B (dN σ (nX x dp) (4 * cl + ip)) else 0) + sm dp (fun j => ph (nX x j) (rs x j)) ≤ C → b_goFrom_249 X64 Q p1 l3 l4 l5 flag y := by
          intro flag y hfl hMy hLIy hEy hLy
          have hEy2 : Eo [48] [49, 50, 51, 52, 53, 54, 57, 58, 59, 60] σ y := hEx.of hEy (by decide) (by decide)
          have hKy : (rd y 2 l4).toInt = Kd σ cl := by rw [rd_at y 2 l4 k2, hEy2.2 2 (by decide)]; rfl
          have h59 : (rd y 59 l3).toInt = (x.2.1 59 dp).toInt := by rw [rd_at y 59 l3 k1, hEy.2 59 (by decide)]
          unfold b_goFrom_249
          rw [hKy]
          refine ⟨⟨by omega, by omega⟩, fun hk => ⟨⟨by omega, by omega⟩, h279 _ flag y hfl ?_ hMy hLIy hEy hLy⟩, fun hk => ⟨⟨by omega, by omega⟩, h279 _ flag y hfl ?_ hMy hLIy hEy hLy⟩⟩
          · unfold outE; rw [if_neg hk]; omega
          · have t1 : (1 - rd y 59 l3).toInt = 1 - (rd y 59 l3).toInt := i3_subc rfl rfl rfl (by omega)
            unfold outE; rw [if_pos hk]; omega
        have h210 : ∀ (l6 : Int32) (y : VS), (l6.toInt ≠ 0 → (ip : Int) < Ip σ cl ∧ Tk σ (4 * cl + ip) = (x.2.1 57 dp).toInt) → MI y → LI y → Eo [48] [49, 50, 51, 52, 53, 54] x y → (y.1 48).toInt.toNat + ph (nX x dp) (4 * cl + ip + 1) + (if aB σ (nX x dp) (4 * cl + ip) = true then B (dN σ (nX x dp) (4 * cl + ip)) else 0) + sm dp (fun j => ph (nX x j) (rs x j)) ≤ C → b_goFrom_210 X64 Q p1 l3 l4 l5 l6 y := by
          intro l6 y hfl hMy hLIy hEy hLy
          have hEy2 : Eo [48] [49, 50, 51, 52, 53, 54, 57, 58, 59, 60] σ y := hEx.of hEy (by decide) (by decide)
          have h248 : b_goFrom_248 X64 Q p1 l3 l4 l5 y := by
            unfold b_goFrom_248
            exact h249 0 y (fun h => absurd rfl h) hMy hLIy hEy hLy
          unfold b_goFrom_210
          refine ⟨fun _ => h248, fun hf => isGate_s k2 (by omega) (fun hg => ⟨fun h => absurd h (by decide), fun _ => ?_⟩) (fun _ => ⟨fun _ => h248, fun h => absurd rfl h⟩)⟩
          rw [rd_at y 34 l4 k2, rd_at y 35 l4 k2, hEy2.2 34 (by decide), hEy2.2 35 (by decide)]
          refine ⟨⟨by omega, by omega⟩, fun _ => h248, fun hr => ⟨⟨by omega, by omega⟩, fun _ => h248, fun hop => h249 1 y (fun _ => ?_) hMy hLIy hEy hLy⟩⟩
          have hg2 := (gate_same hEy2 (by decide) cl).mp hg
          have h9 := hfl hf
          unfold aB
          rw [hw4, hwm, hX32]
          exact decide_eq_true ⟨hcl, hg2.1, hg2.2, hr, hop, h9.1, by omega, hdp.2.2.1⟩
        have hphs := ph_s (nX x dp) (4 * cl + ip) hw
        have h160 : b_goFrom_160 X64 Q p1 l3 l4 l5 x := by
          unfold b_goFrom_160 b_goFrom_161
          refine ⟨fun _ => h210 0 x (fun h => absurd rfl h) hMx hLx Eo.rfl (by omega), fun h => absurd rfl h⟩
        rw [hIp]
        refine ⟨⟨by omega, by omega⟩, fun _ => h160, fun hlt => ⟨⟨by omega, by omega⟩, ⟨by omega, by omega⟩, fun _ => h160, fun hfit => ?_⟩⟩
        have hfit2 : Tk σ (4 * cl + ip) = (x.2.1 57 dp).toInt := by
          rw [rd_at x 7 (4 * l4 + l5) (n := 4 * cl + ip) (by omega), rd_at x 57 l3 k1, hEx.2 7 (by decide)] at hfit
          exact hfit
        have hfl1 : (1 : Int32).toInt ≠ 0 → (ip : Int) < Ip σ cl ∧ Tk σ (4 * cl + ip) = (x.2.1 57 dp).toInt := fun _ => ⟨by omega, hfit2⟩
        unfold b_goFrom_161
        rw [htx]
        refine ⟨fun h => absurd h (by decide), fun _ => ⟨fun _ => h210 1 x hfl1 hMx hLx Eo.rfl (by omega), fun hct => ⟨⟨by omega, by omega⟩, met_s hMx (per_s hMx ⟨fun _ => h210 1 x hfl1 hMx hLx Eo.rfl (by omega), fun hper => ?_⟩)⟩⟩⟩
        -- a path is kept
        have ect : cl = t := by omega
        have hI1 : Ip σ cl = 1 := by rw [ect]; exact hS.2.2.2.1 t (by omega) hK
        have hip0 : ip = 0 := by omega
        have htg : tgN σ s t (nX x dp) = 1 := by
          unfold tgN
          rw [hX32, hXm]
          refine if_pos ⟨?_, hdp.2.2.2, ?_⟩
          · have e9 : 4 * t = 4 * cl + ip := by omega
            rw [e9, hfit2]; omega
          · rw [met_same hEx (by decide), k2, per_same hEx (by decide), hs, htx, ect] at hper
            have hmt := metN_eq hM t
            have hr60 : (rd x 60 l3).toInt = ((x.2.1 60 dp).toInt.toNat : Int) := by rw [rd_at x 60 l3 k1]; omega
            have hor := or_lt (m := (x.2.1 60 dp).toInt.toNat) (k := metN σ t) (by omega) hmt.2
            have e9 : (rd x 60 l3 ||| metV σ t) = Int32.ofNat ((x.2.1 60 dp).toInt.toNat ||| metN σ t) := i3_of (or_nat hr60 hmt.1 (by omega) hmt.2) (by omega)
            rw [e9] at hper
            omega
        rw [if_pos (show 4 * cl + ip = 4 * t by omega), htg] at hphs
        have h48 : 0 ≤ (x.1 48).toInt ∧ (x.1 48).toInt ≤ 1000 := hMx.1 48
        refine rg_keep (by omega) (by omega) (by omega) (by omega) (by omega) (fun k h1 h2 => hin k h1 (by omega)) (hS.same hEx (by decide)) hMx hLx (fun y hMy hLIy hEy h48y => ?_)
        exact h210 1 y hfl1 hMy hLIy hEy (by omega)
      · -- the cell is through: back
        have b57 : 0 ≤ (x.2.1 57 dp).toInt ∧ (x.2.1 57 dp).toInt ≤ 49 := hMx.2 57 dp
        have b58 : -1 ≤ (x.2.1 58 dp).toInt ∧ (x.2.1 58 dp).toInt ≤ 3 := hMx.2 58 dp
        have k8 := k7 (by omega)
        have hps1 := ps_1 (nX x dp) (4 * cl + ip) (by omega)
        refine ⟨⟨by omega, by omega⟩, fun x3 e3 => ⟨⟨by omega, by omega⟩, fun x4 e4 => ?_⟩⟩
        have v3 : x3.toInt = (x.2.1 57 dp).toInt := by rw [e3, rd_at x 57 l3 k1]
        have r58 : (rd x 58 l3).toInt = (x.2.1 58 dp).toInt := by rw [rd_at x 58 l3 k1]
        have v4 : x4.toInt = (rd x 58 l3).toInt + 1 := i3_addc rfl rfl e4 (by omega)
        obtain ⟨lm, hlm⟩ : ∃ z : Int32, z = l3 + (-1) := ⟨_, rfl⟩
        rw [← hlm]
        have t3 : lm.toInt = l3.toInt + (-1) := i3_addc rfl rfl hlm (by omega)
        clear hlm
        refine ⟨fun hneg => ?_, fun hnn => ?_⟩
        · refine H64 _ _ _ _ _ ?_
          unfold b_goFrom_64
          refine ⟨fun _ => hq x hMx hLx hEx (by omega), fun h => by omega⟩
        · obtain ⟨dq, hdq⟩ : ∃ dq : Nat, dp = dq + 1 := ⟨dp - 1, by omega⟩
          subst hdq
          have hin1 := hin (dq + 1) (by omega) (Nat.le_refl _)
          have hst1 := hst (dq + 1) (Nat.le_refl _)
          have hIx : (rd x 3 x3).toInt = Ip σ (x.2.1 57 (dq + 1)).toInt.toNat := by rw [rd_at x 3 x3 (n := (x.2.1 57 (dq + 1)).toInt.toNat) (by omega), hEx.2 3 (by decide)]; rfl
          have hIp4 : 0 ≤ Ip σ (x.2.1 57 (dq + 1)).toInt.toNat ∧ Ip σ (x.2.1 57 (dq + 1)).toInt.toNat ≤ 4 := hM.2 3 _
          rw [sm_s] at hL hn
          rw [hIx]
          refine ⟨⟨by omega, by omega⟩, fun hlt => ?_, fun hge => ?_⟩
          · have e9 : 4 * (x.2.1 57 (dq + 1)).toInt.toNat + x4.toInt.toNat = rs x dq := by unfold rs; omega
            refine ih dq (x.2.1 57 (dq + 1)).toInt.toNat x4.toInt.toNat _ x3 x4 x (by omega) (by omega) (by omega) (by omega) (by omega) (by omega) (fun h => by omega) hMx hLx hEx (fun j hj => hst j (by omega)) (fun j h1 h2 => hin j h1 (by omega)) ?_ ?_
            · rw [e9]; omega
            · rw [e9]; omega
          · have e9 : rs x dq ≤ 4 * ((x.2.1 57 (dq + 1)).toInt.toNat + 1) + 0 := by unfold rs; omega
            have m1 := ph_m (nX x dq) _ _ e9
            have m2 := ps_m (nX x dq) _ _ e9
            have t4 : (x3 + 1).toInt = x3.toInt + 1 := i3_addc rfl rfl rfl (by omega)
            refine ih dq ((x.2.1 57 (dq + 1)).toInt.toNat + 1) 0 _ (x3 + 1) 0 x (by omega) (by omega) rfl (by omega) (by omega) (by omega) (fun _ => rfl) hMx hLx hEx (fun j hj => hst j (by omega)) (fun j h1 h2 => hin j h1 (by omega)) ?_ ?_
            · omega
            · omega
  obtain ⟨y, hy⟩ : ∃ y : VS, y = sa (sa (sa σ 57 0 p1) 58 0 (-1)) 59 0 p2 := ⟨_, rfl⟩
  rw [← hy]
  have hMy : MI y := by
    rw [hy]
    exact ((hM.sa 57 _ _ (show 0 ≤ p1.toInt ∧ p1.toInt ≤ 49 by omega)).sa 58 _ _ (show -1 ≤ (-1 : Int32).toInt ∧ (-1 : Int32).toInt ≤ 3 by decide)).sa 59 _ _ (show 0 ≤ p2.toInt ∧ p2.toInt ≤ 1 by omega)
  have hEy : Eo [48] [49, 50, 51, 52, 53, 54, 57, 58, 59, 60] σ y := by rw [hy]; exact ((Eo.rfl.sa 57 _ _ (by decide)).sa 58 _ _ (by decide)).sa 59 _ _ (by decide)
  refine met_s hMy ?_
  rw [met_same hEy (by decide), hs]
  obtain ⟨z, hz⟩ : ∃ z : VS, z = sa y 60 0 (metV σ s) := ⟨_, rfl⟩
  rw [← hz]
  have hMz : MI z := by rw [hz]; exact hMy.sa 60 _ _ (show 0 ≤ (metV σ s).toInt ∧ (metV σ s).toInt ≤ 15 by omega)
  have hEz : Eo [48] [49, 50, 51, 52, 53, 54, 57, 58, 59, 60] σ z := by rw [hz]; exact hEy.sa 60 _ _ (by decide)
  have z60 : z.2.1 60 0 = metV σ s := by rw [hz, sa_at y 60 0 _ (n := 0) rfl, if_pos rfl]
  have z57 : z.2.1 57 0 = p1 := by rw [hz, sa_other (by decide), hy, sa_other (by decide), sa_other (by decide), sa_at σ 57 0 _ (n := 0) rfl, if_pos rfl]
  have z59 : z.2.1 59 0 = p2 := by rw [hz, sa_other (by decide), hy, sa_at _ 59 0 _ (n := 0) rfl, if_pos rfl]
  have r60 : rd z 60 0 = metV σ s := by rw [rd_at z 60 0 (n := 0) rfl]; exact z60
  have z48 : z.1 48 = σ.1 48 := by rw [hz, hy]; rfl
  have hLIz : LI z := by rw [hz, hy]; exact hLI.same ((((Eo.rfl.sa 57 _ _ (by decide)).sa 58 _ _ (by decide)).sa 59 _ _ (by decide)).sa 60 _ _ (by decide) : Eo [] [57, 58, 59, 60] σ _) (by decide)
  rw [r60]
  have u1 : (2 * p1).toInt = 2 * p1.toInt := i3_mulc rfl rfl rfl (by omega)
  have u2 : (2 * p1 + p2).toInt = (2 * p1).toInt + p2.toInt := i3_addc rfl rfl rfl (by omega)
  have u3 : (16 * (2 * p1 + p2)).toInt = 16 * (2 * p1 + p2).toInt := i3_mulc rfl rfl rfl (by omega)
  have u4 : (16 * (2 * p1 + p2) + metV σ s).toInt = (16 * (2 * p1 + p2)).toInt + (metV σ s).toInt := i3_addc rfl rfl rfl (by omega)
  have hX0 : nX z 0 = 16 * (2 * s + e) + metN σ s := by unfold nX; rw [z57, z59, z60]; omega
  refine ⟨⟨by omega, by omega⟩, fun _ => ?_, fun _ => hq z hMz hLIz hEz (by rw [z48]; omega)⟩
  refine main (ps (nX z 0) 0 + 1) 0 0 0 0 0 0 z rfl rfl rfl (by omega) (by omega) (by omega) (fun _ => rfl) hMz hLIz hEz (fun j hj => ?_) (fun j h1 h2 => by omega) ?_ ?_
  · have ej : j = 0 := by omega
    rw [ej, z57]
    have e10 : p1.toInt.toNat = s := by omega
    rw [e10]
    exact ⟨hsn, by omega, hrs, hos⟩
  · rw [z48, hX0, show 4 * 0 + 0 = 0 from rfl, ph_0 _ (by omega), hB]
    show _ + _ + 0 ≤ C
    omega
  · show ps (nX z 0) 0 + 0 < _
    omega

