/-- what the list of paths holds, also from earlier: starts that are cells, inputs -/
def LI (σ : VS) : Prop := (∀ p : Nat, (σ.2.1 50 p).toInt < (σ.1 1).toInt ∨ (σ.2.1 50 p).toInt = 0) ∧ ∀ j : Nat, j % 52 ≠ 0 → 0 ≤ (σ.2.1 54 j).toInt
theorem LI.same {F A : List Nat} {σ τ : VS} (h : LI σ) (e : Eo F A σ τ) (hk : 1 ∉ F ∧ 50 ∉ A ∧ 54 ∉ A) : LI τ := by
  unfold LI
  rw [e.1 1 hk.1, e.2 50 hk.2.1, e.2 54 hk.2.2]
  exact h
theorem LI.s50 {σ : VS} (h : LI σ) (i v : Int32) (hv : v.toInt < (σ.1 1).toInt) : LI (sa σ 50 i v) := by
  refine ⟨fun p => ?_, fun j hj => ?_⟩
  · show ((sa σ 50 i v).2.1 50 p).toInt < (σ.1 1).toInt ∨ ((sa σ 50 i v).2.1 50 p).toInt = 0
    rw [sa_same]
    split
    · exact Or.inl hv
    · exact h.1 p
  · rw [sa_other (by decide)]; exact h.2 j hj
theorem LI.s54 {σ : VS} (h : LI σ) (i v : Int32) {n : Nat} (hn : i.toInt = (n : Int)) (hv : n % 52 ≠ 0 → 0 ≤ v.toInt) : LI (sa σ 54 i v) := by
  refine ⟨fun p => ?_, fun j hj => ?_⟩
  · show ((sa σ 54 i v).2.1 50 p).toInt < (σ.1 1).toInt ∨ ((sa σ 54 i v).2.1 50 p).toInt = 0
    rw [sa_other (by decide)]; exact h.1 p
  · rw [sa_at σ 54 i v hn]
    by_cases e : j = n
    · rw [if_pos e]; exact hv (by rw [← e]; exact hj)
    · rw [if_neg e]; exact h.2 j hj
set_option maxHeartbeats 2000000 in
theorem rg_keep {Q : VS → Prop} {p1 p2 p3 : Int32} {σ : VS} (h1 : 0 ≤ p1.toInt ∧ p1.toInt < (σ.1 1).toInt) (h2 : 0 ≤ p2.toInt ∧ p2.toInt ≤ 50) (h3 : 0 ≤ p3.toInt ∧ p3.toInt ≤ 3) (hl : (σ.1 48).toInt < 1000) (ht : (σ.1 61).toInt < (σ.1 1).toInt) (hg : ∀ k : Nat, 1 ≤ k → (k : Int) ≤ p2.toInt → 0 ≤ (σ.2.1 58 k).toInt) (hS : SI σ) (hM : MI σ) (hLI : LI σ) (hq : ∀ τ : VS, MI τ → LI τ → Eo [48] [49, 50, 51, 52, 53, 54] σ τ → (τ.1 48).toInt = (σ.1 48).toInt + 1 → Q τ) : wp_keep Q p1 p2 p3 σ := by
  have hc : 0 ≤ (σ.1 1).toInt ∧ (σ.1 1).toInt ≤ 50 := hM.1 1
  have h48 : 0 ≤ (σ.1 48).toInt ∧ (σ.1 48).toInt ≤ 1000 := hM.1 48
  have h61 : 0 ≤ (σ.1 61).toInt ∧ (σ.1 61).toInt ≤ 49 := hM.1 61
  unfold wp_keep
  intro X40 X141 H40 H141 x1 e1
  have hx1 : x1.toInt = (σ.1 48).toInt := by rw [e1]
  have L141 : ∀ (n : Nat) (l5 l6 : Int32) (x : VS), p2.toInt + 1 - l6.toInt < (n : Int) → 1 ≤ l6.toInt ∧ l6.toInt ≤ p2.toInt + 1 → MI x → LI x → Eo [] [49, 50, 51, 52, 53, 54] σ x → X141 p1 p2 x1 l5 l6 x := by
    intro n
    induction n with
    | zero => intro l5 l6 x k1 k2; omega
    | succ n ih =>
      intro l5 l6 x k1 k2 hMx hLx hEx
      refine H141 _ _ _ _ _ _ ?_
      unfold b_keep_141
      have hcx : (x.1 1).toInt = (σ.1 1).toInt := by rw [hEx.1 1 (by decide)]
      have htx : (x.1 61).toInt = (σ.1 61).toInt := by rw [hEx.1 61 (by decide)]
      refine ⟨fun hlt => ⟨⟨by omega, by omega⟩, met_s hMx (per_s hMx ⟨⟨by omega, by omega⟩, ?_⟩)⟩, fun hge => ?_⟩
      · have hSx := hS.same hEx (by decide)
        refine rg_earlyOf (nd_ok hSx hMx (by omega)) hSx hMx (fun r8 y hMy hEy => ?_)
        have hEy2 : Eo [] [49, 50, 51, 52, 53, 54] σ y := hEx.of hEy (by decide) (by decide)
        have hcy : (y.1 1).toInt = (σ.1 1).toInt := by rw [hEy2.1 1 (by decide)]
        have hty : (y.1 61).toInt = (σ.1 61).toInt := by rw [hEy2.1 61 (by decide)]
        refine ⟨⟨by omega, by omega⟩, rg_shared (by omega) (by omega) (hS.same hEy2 (by decide)) hMy (fun r10 z hMz hEz => ⟨⟨by omega, by omega⟩, ?_⟩)⟩
        have hEz2 : Eo [] [49, 50, 51, 52, 53, 54] σ z := hEy2.of hEz (by decide) (by decide)
        obtain ⟨v, hv⟩ : ∃ v : Int32, v = ((((perV x p1.toInt (x.1 61).toInt (rd x 60 p2 ||| metV x (x.1 61).toInt) * x.1 20 + r8) - rd y 12 (y.1 61)) + r10) - l5) := ⟨_, rfl⟩
        rw [← hv]
        have h48z : ((sa z 49 x1 v).1 48) = σ.1 48 := hEz2.1 48 (by decide)
        rw [h48z]
        have t9 : (σ.1 48 + 1).toInt = (σ.1 48).toInt + 1 := i3_addc rfl rfl rfl (by have e9 : (1 : Int32).toInt = 1 := rfl; omega)
        refine hq _ ((hMz.sa 49 _ _ (i3_bd _)).sf 48 _ (show 0 ≤ (σ.1 48 + 1).toInt ∧ (σ.1 48 + 1).toInt ≤ 1000 by omega)) ((((hLx.same hEy (by decide)).same hEz (by decide)).same (Eo.rfl.sa 49 _ _ (by decide) : Eo [] [49] z (sa z 49 x1 v)) (by decide)).same (Eo.rfl.sf 48 _ (by decide) : Eo [48] [] (sa z 49 x1 v) _) (by decide)) (((hEz2.mono (by decide) (by decide)).sa 49 _ _ (by decide)).sf 48 _ (by decide)) ?_
        rw [sf_same]; exact t9
      · obtain ⟨k, hk⟩ : ∃ k : Nat, l6.toInt = (k : Int) := ⟨l6.toInt.toNat, by omega⟩
        have b1 : 0 ≤ (rd x 57 l6).toInt ∧ (rd x 57 l6).toInt ≤ 49 := hMx.2 57 _
        have b2 : -1 ≤ (rd x 58 l6).toInt ∧ (rd x 58 l6).toInt ≤ 3 := hMx.2 58 _
        have b3 : 0 ≤ (rd x 59 l6).toInt ∧ (rd x 59 l6).toInt ≤ 1 := hMx.2 59 _
        have b4 : 0 ≤ (rd x 58 l6).toInt := by rw [rd_at x 58 l6 hk, hEx.2 58 (by decide)]; exact hg k (by omega) (by omega)
        have w1 : (8 * rd x 57 l6).toInt = 8 * (rd x 57 l6).toInt := i3_mulc rfl rfl rfl (by omega)
        have w2 : (2 * rd x 58 l6).toInt = 2 * (rd x 58 l6).toInt := i3_mulc rfl rfl rfl (by omega)
        have w3 : (8 * rd x 57 l6 + 2 * rd x 58 l6).toInt = (8 * rd x 57 l6).toInt + (2 * rd x 58 l6).toInt := i3_addc rfl rfl rfl (by omega)
        have w4 : (8 * rd x 57 l6 + 2 * rd x 58 l6 + rd x 59 l6).toInt = (8 * rd x 57 l6 + 2 * rd x 58 l6).toInt + (rd x 59 l6).toInt := i3_addc rfl rfl rfl (by omega)
        have t1 : (l6 + 1).toInt = l6.toInt + 1 := i3_addc rfl rfl rfl (by omega)
        exact ⟨⟨by omega, by omega⟩, ⟨by omega, by omega⟩, ⟨by omega, by omega⟩, ⟨by omega, by omega⟩, fun x12 _ => ih x12 (l6 + 1) x (by omega) (by omega) hMx hLx hEx⟩
  have L40 : ∀ (n : Nat) (l5 : Int32) (x : VS), p2.toInt + 1 - l5.toInt < (n : Int) → 0 ≤ l5.toInt ∧ l5.toInt ≤ p2.toInt + 1 → MI x → LI x → Eo [] [49, 50, 51, 52, 53, 54] σ x → X40 p1 p2 p3 x1 l5 x := by
    intro n
    induction n with
    | zero => intro l5 x k1 k2; omega
    | succ n ih =>
      intro l5 x k1 k2 hMx hLx hEx
      refine H40 _ _ _ _ _ _ ?_
      unfold b_keep_40
      have u1 : (52 * x1).toInt = 52 * x1.toInt := i3_mulc rfl rfl rfl (by omega)
      have u2 : (52 * x1 + p2).toInt = (52 * x1).toInt + p2.toInt := i3_addc rfl rfl rfl (by omega)
      have u3 : (52 * x1 + p2 + 1).toInt = (52 * x1 + p2).toInt + 1 := i3_addc rfl rfl rfl (by omega)
      have u4 : (52 * x1 + l5).toInt = (52 * x1).toInt + l5.toInt := i3_addc rfl rfl rfl (by omega)
      have htx : 0 ≤ (x.1 61).toInt ∧ (x.1 61).toInt ≤ 49 := hMx.1 61
      refine ⟨fun hlt => ⟨⟨by omega, by omega⟩, ⟨by omega, by omega⟩, ?_⟩, fun hge => ?_⟩
      · have hM1 := (hMx.sa 53 (52 * x1 + p2 + 1) (x.1 61) (show 0 ≤ (x.1 61).toInt ∧ (x.1 61).toInt ≤ 49 from htx)).sa 54 (52 * x1 + p2 + 1) p3 (show -1 ≤ p3.toInt ∧ p3.toInt ≤ 3 by omega)
        have hE1 := (hEx.sa 53 (52 * x1 + p2 + 1) (x.1 61) (by decide)).sa 54 (52 * x1 + p2 + 1) p3 (by decide)
        have hc1 : ((sa (sa x 53 (52 * x1 + p2 + 1) (x.1 61)) 54 (52 * x1 + p2 + 1) p3).1 1).toInt = (σ.1 1).toInt := by rw [hE1.1 1 (by decide)]
        have b3 : 0 ≤ (rd (sa (sa x 53 (52 * x1 + p2 + 1) (x.1 61)) 54 (52 * x1 + p2 + 1) p3) 59 0).toInt ∧ (rd (sa (sa x 53 (52 * x1 + p2 + 1) (x.1 61)) 54 (52 * x1 + p2 + 1) p3) 59 0).toInt ≤ 1 := hM1.2 59 _
        have hL1 : LI (sa (sa x 53 (52 * x1 + p2 + 1) (x.1 61)) 54 (52 * x1 + p2 + 1) p3) := (hLx.same (Eo.rfl.sa 53 _ _ (by decide) : Eo [] [53] x _) (by decide)).s54 _ _ (n := (52 * x1 + p2 + 1).toInt.toNat) (by omega) (fun _ => h3.1)
        exact rg_startLate (by omega) b3 (hS.same hE1 (by decide)) hM1 (fun r2 y hMy hEy => L141 52 r2 1 y (by have e9 : (1 : Int32).toInt = 1 := rfl; omega) (by have e9 : (1 : Int32).toInt = 1 := rfl; omega) hMy (hL1.same hEy (by decide)) (hE1.of hEy (by decide) (by decide)))
      · have b1 : 0 ≤ (rd x 57 l5).toInt ∧ (rd x 57 l5).toInt ≤ 49 := hMx.2 57 _
        have hM1 := hMx.sa 53 (52 * x1 + l5) (rd x 57 l5) (show 0 ≤ (rd x 57 l5).toInt ∧ (rd x 57 l5).toInt ≤ 49 from b1)
        have b2 : -1 ≤ (rd (sa x 53 (52 * x1 + l5) (rd x 57 l5)) 58 l5).toInt ∧ (rd (sa x 53 (52 * x1 + l5) (rd x 57 l5)) 58 l5).toInt ≤ 3 := hM1.2 58 _
        have t1 : (l5 + 1).toInt = l5.toInt + 1 := i3_addc rfl rfl rfl (by omega)
        have hL1 : LI (sa x 53 (52 * x1 + l5) (rd x 57 l5)) := hLx.same (Eo.rfl.sa 53 _ _ (by decide) : Eo [] [53] x _) (by decide)
        have hL2 : LI (sa (sa x 53 (52 * x1 + l5) (rd x 57 l5)) 54 (52 * x1 + l5) (rd (sa x 53 (52 * x1 + l5) (rd x 57 l5)) 58 l5)) := by
          refine hL1.s54 _ _ (n := (52 * x1 + l5).toInt.toNat) (by omega) (fun h => ?_)
          obtain ⟨k, hk⟩ : ∃ k : Nat, l5.toInt = (k : Int) := ⟨l5.toInt.toNat, by omega⟩
          rw [rd_at _ 58 l5 hk, sa_other (by decide), hEx.2 58 (by decide)]
          exact hg k (by omega) (by omega)
        exact ⟨⟨by omega, by omega⟩, ⟨by omega, by omega⟩, ⟨by omega, by omega⟩, ⟨by omega, by omega⟩, ih (l5 + 1) _ (by omega) (by omega) (hM1.sa 54 _ _ b2) hL2 ((hEx.sa 53 _ _ (by decide)).sa 54 _ _ (by decide))⟩
  have t2 : (p2 + 2).toInt = p2.toInt + 2 := i3_addc rfl rfl rfl (by omega)
  have hM1 := hM.sa 50 x1 p1 (show 0 ≤ p1.toInt ∧ p1.toInt ≤ 49 by omega)
  have b3 : 0 ≤ (rd (sa σ 50 x1 p1) 59 0).toInt ∧ (rd (sa σ 50 x1 p1) 59 0).toInt ≤ 1 := hM1.2 59 _
  exact ⟨⟨by omega, by omega⟩, ⟨by omega, by omega⟩, ⟨by omega, by omega⟩, L40 52 0 _ (by have e9 : (0 : Int32).toInt = 0 := rfl; omega) (by have e9 : (0 : Int32).toInt = 0 := rfl; omega) ((hM1.sa 51 _ _ b3).sa 52 _ _ (show 0 ≤ (p2 + 2).toInt ∧ (p2 + 2).toInt ≤ 52 by omega)) ((hLI.s50 x1 p1 h1.2).same ((Eo.rfl.sa 51 _ _ (by decide)).sa 52 _ _ (by decide) : Eo [] [51, 52] (sa σ 50 x1 p1) _) (by decide)) (((Eo.rfl.sa 50 _ _ (by decide)).sa 51 _ _ (by decide)).sa 52 _ _ (by decide))⟩
/-- what is left of a sum over wires from p on -/
def swM (M : Nat) (a : Nat → Nat → Bool) (g : Nat → Nat → Nat) (B : Nat → Nat) (X p : Nat) : Nat := sm M (fun w => if p ≤ w ∧ a X w = true then B (g X w) else 0)
theorem swM_s {M : Nat} {a : Nat → Nat → Bool} {g : Nat → Nat → Nat} {B : Nat → Nat} {X p : Nat} (hp : p < M) : swM M a g B X p = swM M a g B X (p + 1) + (if a X p = true then B (g X p) else 0) := by
  obtain ⟨f1, hf1⟩ : ∃ f : Nat → Nat, f = fun w => if p ≤ w ∧ a X w = true then B (g X w) else 0 := ⟨_, rfl⟩
  obtain ⟨f2, hf2⟩ : ∃ f : Nat → Nat, f = fun w => if p + 1 ≤ w ∧ a X w = true then B (g X w) else 0 := ⟨_, rfl⟩
  have h := sm_more (n := M) (f := f2) (g := f1) (k := p) hp (fun w _ hw => by
    rw [hf1, hf2]
    show (if p ≤ w ∧ a X w = true then B (g X w) else 0) = (if p + 1 ≤ w ∧ a X w = true then B (g X w) else 0)
    by_cases e : p ≤ w ∧ a X w = true
    · rw [if_pos e, if_pos ⟨by omega, e.2⟩]
    · rw [if_neg e, if_neg (fun q => e ⟨by omega, q.2⟩)])
  have e2 : f2 p = 0 := by
    rw [hf2]
    show (if p + 1 ≤ p ∧ a X p = true then B (g X p) else 0) = 0
    rw [if_neg (fun q => by omega)]
  have e1 : f1 p = (if a X p = true then B (g X p) else 0) := by
    rw [hf1]
    show (if p ≤ p ∧ a X p = true then B (g X p) else 0) = _
    by_cases e : a X p = true
    · rw [if_pos e, if_pos ⟨Nat.le_refl _, e⟩]
    · rw [if_neg e, if_neg (fun q => e q.2)]
  unfold swM
  rw [← hf1, ← hf2, ← e1]
  omega
theorem swM_mono {M : Nat} {a : Nat → Nat → Bool} {g : Nat → Nat → Nat} {B : Nat → Nat} {X p q : Nat} (h : p ≤ q) : swM M a g B X q ≤ swM M a g B X p := by
  unfold swM
  refine sm_le (fun w _ => ?_)
  by_cases e : q ≤ w ∧ a X w = true
  · rw [if_pos e, if_pos ⟨by omega, e.2⟩]; exact Nat.le_refl _
  · rw [if_neg e]; exact Nat.zero_le _
theorem swM_0 {M : Nat} {a : Nat → Nat → Bool} {g : Nat → Nat → Nat} {B : Nat → Nat} {X : Nat} : swM M a g B X 0 = sm M (fun w => if a X w = true then B (g X w) else 0) := by
  unfold swM
  refine sm_eq (fun w _ => ?_)
  by_cases e : a X w = true
  · rw [if_pos e, if_pos ⟨by omega, e⟩]
  · rw [if_neg e, if_neg (fun q => e q.2)]
def sw (a : Nat → Nat → Bool) (g : Nat → Nat → Nat) (B : Nat → Nat) (X p : Nat) : Nat := swM 200 a g B X p
theorem sw_s {a : Nat → Nat → Bool} {g : Nat → Nat → Nat} {B : Nat → Nat} {X p : Nat} (hp : p < 200) : sw a g B X p = sw a g B X (p + 1) + (if a X p = true then B (g X p) else 0) := swM_s hp
theorem sw_mono {a : Nat → Nat → Bool} {g : Nat → Nat → Nat} {B : Nat → Nat} {X p q : Nat} (h : p ≤ q) : sw a g B X q ≤ sw a g B X p := swM_mono h
theorem sw_0 {a : Nat → Nat → Bool} {g : Nat → Nat → Nat} {B : Nat → Nat} {X : Nat} : sw a g B X 0 = sm 200 (fun w => if a X w = true then B (g X w) else 0) := swM_0
/-- the sum over all ways that go on -/
theorem Bfix {σ : VS} (hS : SI σ) (hM : MI σ) (hD : TD σ) (tg : Nat → Nat) {X : Nat} (hX : X < 1600) : Bn 200 (aB σ) (dN σ) tg 50 X = tg X + sm 200 (fun w => if aB σ X w = true then Bn 200 (aB σ) (dN σ) tg 50 (dN σ X w) else 0) := by
  obtain ⟨pos, hpos, hinv, hsrc⟩ := hD.pos
  have hc : 0 ≤ (σ.1 1).toInt ∧ (σ.1 1).toInt ≤ 50 := hM.1 1
  have ho : 0 ≤ (σ.1 32).toInt ∧ (σ.1 32).toInt ≤ 50 := hM.1 32
  have hnc : (nC σ : Int) = (σ.1 1).toInt := by unfold nC; omega
  have hol : (oL σ : Int) = (σ.1 32).toInt := by unfold oL; omega
  have hdiv : ∀ X w, dN σ X w / 32 = w / 4 := by
    intro X w
    have h1 : outE σ (w / 4) (X / 16 % 2) < 2 := by unfold outE; split <;> omega
    have h2 := or_lt (m := X % 16) (k := metN σ (w / 4)) (by omega) (metN_eq hM (w / 4)).2
    unfold dN
    omega
  have h := Bn_stable 200 (aB σ) (dN σ) tg (R := 49) (rk := fun X => if X / 32 < nC σ then pos (X / 32) else 0) (fun X w hw h => ?_) 50 X ?_ ?_
  · exact h.trans (Bn_s 200 (aB σ) (dN σ) tg 50 X)
  · have h9 := aB_out h
    have e : 4 * (w / 4) + w % 4 = w := by omega
    have hlt := hS.1 w (by omega)
    have h10 := hsrc (w / 4) (w % 4) h9.1 h9.2.1 h9.2.2.2.2.1 (by rw [e, h9.2.2.2.2.2.1]; omega) (by rw [e]; omega)
    have e3 : (Tk σ w).toNat = X / 32 := by rw [h9.2.2.2.2.2.1]; rfl
    rw [e, e3] at h10
    have h11 := hpos (w / 4) h9.1
    show (if X / 32 < nC σ then pos (X / 32) else 0) < (if dN σ X w / 32 < nC σ then pos (dN σ X w / 32) else 0) ∧ (if dN σ X w / 32 < nC σ then pos (dN σ X w / 32) else 0) ≤ 49
    rw [hdiv X w, if_pos (by omega), if_pos h9.1]
    omega
  · show (if X / 32 < nC σ then pos (X / 32) else 0) ≤ 49
    split
    · have := hpos (X / 32) (by assumption); omega
    · omega
  · show 49 < 50 + (if X / 32 < nC σ then pos (X / 32) else 0)
    omega

