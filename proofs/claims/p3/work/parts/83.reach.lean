theorem sm_tail {n m : Nat} {f : Nat → Nat} (h : n ≤ m) (h0 : ∀ i, n ≤ i → i < m → f i = 0) : sm m f = sm n f := by
  induction m with
  | zero => have : n = 0 := by omega
            rw [this]
  | succ m ih =>
    by_cases e : n = m + 1
    · rw [e]
    · rw [sm_s, h0 m (by omega) (by omega), ih (by omega) (fun i a b => h0 i a (by omega))]
      rfl
theorem Bn_zero {M : Nat} {a : Nat → Nat → Bool} {g : Nat → Nat → Nat} {tg : Nat → Nat} (h : ∀ X, tg X = 0) (n X : Nat) : Bn M a g tg n X = 0 := by
  induction n generalizing X with
  | zero => rfl
  | succ n ih =>
    rw [Bn_s, h, sm_none (fun w _ => ?_)]
    split
    · exact ih _
    · rfl
def tgN (σ : VS) (s t X : Nat) : Nat := if Tk σ (4 * t) = ((X / 32 : Nat) : Int) ∧ (σ.2.1 35 (X / 32)).toInt = 0 ∧ (perV σ s t (Int32.ofNat (X % 16 ||| metN σ t))).toInt ≠ 0 then 1 else 0
def pT (σ : VS) (t : Nat) : Nat := (σ.2.1 45 t).toInt.toNat
def BB (σ : VS) (s t X : Nat) : Nat := Bn 200 (aB σ) (dN σ) (tgN σ s t) 50 X
/-- how many ways lead from s to t -/
def cB (σ : VS) (s t : Nat) : Nat := sm 1600 (fun Y => BB σ s t Y * stS σ s Y)
def stt (σ : VS) (s : Nat) : Prop := (Kd σ s = 0 ∨ Kd σ s = 4) ∧ (σ.2.1 35 s).toInt = 0
def sB (σ : VS) (s : Nat) : Bool := decide ((Kd σ s = 0 ∨ Kd σ s = 4) ∧ (σ.2.1 35 s).toInt = 0)
def JC (σ : VS) : Prop := (∀ t, t < nC σ → 3 < Kd σ t → pT σ t < 1000 → sm (nC σ) (fun s => if sB σ s = true then cB σ s t else 0) ≤ pT σ t) ∧ ∀ t, t < nC σ → pT σ t ≠ 0 → 3 < Kd σ t
theorem per_same {F A : List Nat} {σ τ : VS} (e : Eo F A σ τ) (hk : 25 ∉ F ∧ 26 ∉ A ∧ 27 ∉ A ∧ 28 ∉ A ∧ 29 ∉ A) (s t : Int) (mk : Int32) : perV τ s t mk = perV σ s t mk := by
  have h : ∀ k, perL τ s t mk k = perL σ s t mk k := by
    intro k
    induction k with
    | zero => rfl
    | succ k ih =>
      unfold perL
      rw [ih, e.2 26 hk.2.1, e.2 27 hk.2.2.1, e.2 28 hk.2.2.2.1, e.2 29 hk.2.2.2.2]
  unfold perV
  rw [e.1 25 hk.1, h]
theorem env_same {F A : List Nat} {σ τ : VS} (e : Eo F A σ τ) (hk : (1 ∉ F ∧ 25 ∉ F) ∧ 2 ∉ A ∧ 3 ∉ A ∧ 7 ∉ A ∧ 26 ∉ A ∧ 27 ∉ A ∧ 28 ∉ A ∧ 29 ∉ A ∧ 34 ∉ A ∧ 35 ∉ A) : aB τ = aB σ ∧ dN τ = dN σ ∧ tgN τ = tgN σ ∧ stS τ = stS σ ∧ sB τ = sB σ ∧ nC τ = nC σ ∧ Kd τ = Kd σ := by
  obtain ⟨⟨k1, k25⟩, k2, k3, k7, k26, k27, k28, k29, k34, k35⟩ := hk
  have hK : Kd τ = Kd σ := by funext c; unfold Kd; rw [e.2 2 k2]
  have hT : Tk τ = Tk σ := by funext c; unfold Tk; rw [e.2 7 k7]
  have hI : Ip τ = Ip σ := by funext c; unfold Ip; rw [e.2 3 k3]
  have hn : nC τ = nC σ := by unfold nC; rw [e.1 1 k1]
  refine ⟨?_, dN_same e ⟨k25, k28, k2⟩, ?_, ?_, ?_, hn, hK⟩
  · funext X w
    unfold aB
    rw [hn, hK, hI, hT, e.2 34 k34, e.2 35 k35]
  · funext s t X
    unfold tgN
    rw [hT, e.2 35 k35, per_same e ⟨k25, k26, k27, k28, k29⟩, metN_same e ⟨k25, k28⟩]
  · funext s Y
    unfold stS
    rw [metN_same e ⟨k25, k28⟩]
  · funext s
    unfold sB
    rw [hK, e.2 35 k35]
theorem cB_same {F A : List Nat} {σ τ : VS} (e : Eo F A σ τ) (hk : (1 ∉ F ∧ 25 ∉ F) ∧ 2 ∉ A ∧ 3 ∉ A ∧ 7 ∉ A ∧ 26 ∉ A ∧ 27 ∉ A ∧ 28 ∉ A ∧ 29 ∉ A ∧ 34 ∉ A ∧ 35 ∉ A) : cB τ = cB σ ∧ BB τ = BB σ := by
  obtain ⟨h1, h2, h3, h4, -⟩ := env_same e hk
  have hb : BB τ = BB σ := by funext s t X; unfold BB; rw [h1, h2, h3]
  refine ⟨?_, hb⟩
  funext s t
  unfold cB
  rw [hb, h4]
theorem JC.same {F A : List Nat} {σ τ : VS} (h : JC σ) (e : Eo F A σ τ) (hk : (1 ∉ F ∧ 25 ∉ F) ∧ 2 ∉ A ∧ 3 ∉ A ∧ 7 ∉ A ∧ 26 ∉ A ∧ 27 ∉ A ∧ 28 ∉ A ∧ 29 ∉ A ∧ 34 ∉ A ∧ 35 ∉ A) (h45 : 45 ∉ A) : JC τ := by
  obtain ⟨-, -, -, -, h5, h6, h7⟩ := env_same e hk
  have h8 := (cB_same e hk).1
  have h9 : pT τ = pT σ := by funext t; unfold pT; rw [e.2 45 h45]
  unfold JC
  rw [h5, h6, h7, h8, h9]
  exact h
/-- the count over one start: what walkFrom found is at least the number of ways -/
theorem cB_le {σ : VS} (hS : SI σ) (hM : MI σ) (hD : TD σ) {s t : Nat} {h : Nat → Nat} (hI : WI (dN σ) (stS σ s) (aB σ) h) (hT : sm 1600 (fun X => h X * tgN σ s t X) < 1000) : cB σ s t ≤ sm 1600 (fun X => h X * tgN σ s t X) := by
  obtain ⟨pos, hpos, hinv, hsrc⟩ := hD.pos
  have hc : 0 ≤ (σ.1 1).toInt ∧ (σ.1 1).toInt ≤ 50 := hM.1 1
  have ho : 0 ≤ (σ.1 32).toInt ∧ (σ.1 32).toInt ≤ 50 := hM.1 32
  have hnc : (nC σ : Int) = (σ.1 1).toInt := by unfold nC; omega
  have hol : (oL σ : Int) = (σ.1 32).toInt := by unfold oL; omega
  have hdiv : ∀ X w, dN σ X w / 32 = w / 4 ∧ (w < 200 → dN σ X w < 1600) := by
    intro X w
    have h1 : outE σ (w / 4) (X / 16 % 2) < 2 := by unfold outE; split <;> omega
    have h2 := or_lt (m := X % 16) (k := metN σ (w / 4)) (by omega) (metN_eq hM (w / 4)).2
    unfold dN
    omega
  refine Bn_count 1600 200 (aB σ) (dN σ) (tgN σ s t) (R := 49) (rk := fun X => if X / 32 < nC σ then pos (X / 32) else 0) (fun X w hw h => ?_) (fun X hX => ?_) (fun X w hX hw h => (hdiv X w).2 hw) h (stS σ s) hT hI
  · have h9 := aB_out h
    have e : 4 * (w / 4) + w % 4 = w := by omega
    have hlt := hS.1 w (by omega)
    have h10 := hsrc (w / 4) (w % 4) h9.1 h9.2.1 h9.2.2.2.2.1 (by rw [e, h9.2.2.2.2.2.1]; omega) (by rw [e]; omega)
    have e3 : (Tk σ w).toNat = X / 32 := by rw [h9.2.2.2.2.2.1]; rfl
    rw [e, e3] at h10
    have h11 := hpos (w / 4) h9.1
    show (if X / 32 < nC σ then pos (X / 32) else 0) < (if dN σ X w / 32 < nC σ then pos (dN σ X w / 32) else 0) ∧ (if dN σ X w / 32 < nC σ then pos (dN σ X w / 32) else 0) ≤ 49
    rw [(hdiv X w).1, if_pos (by omega), if_pos h9.1]
    omega
  · show (if X / 32 < nC σ then pos (X / 32) else 0) ≤ 49
    split
    · have := hpos (X / 32) (by assumption); omega
    · omega
set_option maxHeartbeats 4000000 in
theorem rg_reach {Q : VS → Prop} {p1 p2 : Int32} {σ : VS} {s t : Nat} (hs : p1.toInt = (s : Int)) (ht : p2.toInt = (t : Int)) (hsn : s < nC σ) (htn : t < nC σ) (h0 : 0 ≤ Tk σ (4 * t)) (hop : (σ.2.1 35 (Tk σ (4 * t)).toNat).toInt = 0) (hS : SI σ) (hM : MI σ)
    (hq : ∀ τ : VS, MI τ → Eo [] [45, 46, 47] σ τ → (∀ j, j ≠ t → pT τ j = pT σ j) → min 1000 (pT σ t + sm 1600 (fun X => hw σ X * tgN σ s t X)) ≤ pT τ t → Q τ) : wp_reach Q p1 p2 σ := by
  have hc : 0 ≤ (σ.1 1).toInt ∧ (σ.1 1).toInt ≤ 50 := hM.1 1
  have hnc : (nC σ : Int) = (σ.1 1).toInt := by unfold nC; omega
  have hmet := metN_eq hM t
  have u1 : (4 * p2).toInt = 4 * p2.toInt := i3_mulc rfl rfl rfl (by omega)
  have hlt := hS.1 (4 * t) (by omega)
  obtain ⟨f, hf⟩ : ∃ f : Nat, Tk σ (4 * t) = (f : Int) := ⟨(Tk σ (4 * t)).toNat, by omega⟩
  have hft : (Tk σ (4 * t)).toNat = f := by omega
  rw [hft] at hop
  unfold wp_reach
  intro X27 X36 H27 H36
  refine ⟨⟨by omega, by omega⟩, fun x1 e1 => ?_⟩
  have hx1 : x1.toInt = (f : Int) := by rw [e1, rd_at σ 7 (4 * p2) (n := 4 * t) (by omega)]; exact hf
  refine met_s hM ?_
  refine rg_shared (by omega) (by omega) hS hM (fun r4 y hMy hEy => ?_)
  have hm2 : (metV σ p2.toInt).toInt = (metN σ t : Int) := by rw [ht]; exact hmet.1
  -- one place
  have hone : ∀ (e m : Nat) (l6 l7 : Int32) (x : VS), l6.toInt = (e : Int) → l7.toInt = (m : Int) → e < 2 → m < 16 → MI x → Eo [] [45, 46, 47] σ x → (∀ j, j ≠ t → pT x j = pT σ j) → min 1000 (pT σ t + sm (32 * f + 16 * e + m) (fun X => hw σ X * tgN σ s t X)) ≤ pT x t → (∀ z : VS, MI z → Eo [] [45, 46, 47] σ z → (∀ j, j ≠ t → pT z j = pT σ j) → min 1000 (pT σ t + sm (32 * f + 16 * e + (m + 1)) (fun X => hw σ X * tgN σ s t X)) ≤ pT z t → X36 p1 p2 x1 (metV σ p2.toInt) r4 l6 (l7 + 1) z) → X36 p1 p2 x1 (metV σ p2.toInt) r4 l6 l7 x := by
    intro e m l6 l7 x h6 h7 he hm hMx hEx hoth hmin hk
    refine H36 _ _ _ _ _ _ _ _ ?_
    unfold b_reach_36
    refine ⟨fun h9 => by omega, fun hlt x6 e6 => ?_⟩
    have v1 : (2 * x1).toInt = 2 * x1.toInt := i3_mulc rfl rfl rfl (by omega)
    have v2 : (2 * x1 + l6).toInt = (2 * x1).toInt + l6.toInt := i3_addc rfl rfl rfl (by omega)
    have v3 : (16 * (2 * x1 + l6)).toInt = 16 * (2 * x1 + l6).toInt := i3_mulc rfl rfl rfl (by omega)
    have v4 : x6.toInt = (16 * (2 * x1 + l6)).toInt + l7.toInt := i3_addc rfl rfl e6 (by omega)
    obtain ⟨X, hX⟩ : ∃ X : Nat, X = 32 * f + 16 * e + m := ⟨_, rfl⟩
    have hx6 : x6.toInt = (X : Int) := by omega
    have hX32 : X / 32 = f := by omega
    have hX16 : X % 16 = m := by omega
    have hr : (rd x 42 x6).toInt = (hw σ X : Int) := by
      rw [rd_at x 42 x6 hx6, hEx.2 42 (by decide)]
      have : 0 ≤ (σ.2.1 42 X).toInt ∧ (σ.2.1 42 X).toInt ≤ 1000 := hM.2 42 X
      unfold hw
      omega
    have hsx : sm (32 * f + 16 * e + (m + 1)) (fun X => hw σ X * tgN σ s t X) = sm X (fun X => hw σ X * tgN σ s t X) + hw σ X * tgN σ s t X := by
      rw [show 32 * f + 16 * e + (m + 1) = X + 1 by omega, sm_s]
    rw [← hX] at hmin
    rw [hsx] at hk
    have hmk : (l7 ||| metV σ p2.toInt) = Int32.ofNat (X % 16 ||| metN σ t) := by
      rw [hX16]
      have h9 := or_lt hm hmet.2
      exact i3_of (or_nat h7 hm2 hm hmet.2) (by omega)
    have hb42 : hw σ X ≤ 1000 := by have : 0 ≤ (σ.2.1 42 X).toInt ∧ (σ.2.1 42 X).toInt ≤ 1000 := hM.2 42 X; unfold hw; omega
    have hb45 : 0 ≤ (x.2.1 45 t).toInt ∧ (x.2.1 45 t).toInt ≤ 1000 := hMx.2 45 t
    rw [hr]
    have hno : tgN σ s t X = 0 ∨ hw σ X = 0 → b_reach_212 X27 X36 Q p1 p2 x1 (metV σ p2.toInt) r4 l6 l7 x := by
      intro h
      unfold b_reach_212
      refine hk x hMx hEx hoth ?_
      have : hw σ X * tgN σ s t X = 0 := by rcases h with h | h <;> rw [h] <;> simp
      rw [this]
      exact hmin
    refine ⟨⟨by omega, by omega⟩, fun hne => ?_, fun hz => ?_⟩
    · refine per_s hMx ?_
      have e9 : perV σ p1.toInt p2.toInt = perV σ s t := by rw [hs, ht]
      rw [per_same hEx (by decide), hmk, e9]
      unfold b_reach_82
      refine ⟨fun hp => ?_, fun hp => hno (Or.inl ?_)⟩
      · -- it counts
        have htg : tgN σ s t X = 1 := by
          unfold tgN
          rw [if_pos ⟨by rw [hX32]; exact hf, by rw [hX32]; exact hop, hp⟩]
        have q0 := rd_at x 45 p2 ht
        have q1 : (rd x 45 p2 + rd x 42 x6).toInt = (rd x 45 p2).toInt + (rd x 42 x6).toInt := i3_add rfl (by rw [q0]; omega)
        have q2 : ((imin 1000 (rd x 45 p2 + rd x 42 x6)).toInt ≤ 1000 ∧ (imin 1000 (rd x 45 p2 + rd x 42 x6)).toInt ≤ (rd x 45 p2 + rd x 42 x6).toInt) ∧ ((imin 1000 (rd x 45 p2 + rd x 42 x6)).toInt = 1000 ∨ (imin 1000 (rd x 45 p2 + rd x 42 x6)).toInt = (rd x 45 p2 + rd x 42 x6).toInt) := i3_min rfl
        have q0i : (rd x 45 p2).toInt = (x.2.1 45 t).toInt := by rw [q0]
        obtain ⟨v, hv⟩ : ∃ v : Int32, v = imin 1000 (rd x 45 p2 + rd x 42 x6) := ⟨_, rfl⟩
        rw [← hv] at q2 ⊢
        have hM1 := hMx.sa 45 p2 v (show 0 ≤ v.toInt ∧ v.toInt ≤ 1000 by omega)
        have hE1 := hEx.sa 45 p2 v (by decide)
        have hc1 : ((sa x 45 p2 v).1 1).toInt = (σ.1 1).toInt := by rw [hE1.1 1 (by decide)]
        have hS1 := hS.same hE1 (by decide)
        refine ⟨⟨by omega, by omega⟩, ⟨by omega, by omega⟩, ⟨by omega, by omega⟩, ⟨by omega, by omega⟩, ⟨by omega, by omega⟩, ?_⟩
        refine rg_earlyOf (nd_ok hS1 hM1 (by omega)) hS1 hM1 (fun r9 y9 hM9 hE9 => ?_)
        refine ⟨⟨by omega, by omega⟩, ⟨by omega, by omega⟩, ⟨by omega, by omega⟩, ⟨by omega, by omega⟩, ⟨by omega, by omega⟩, ⟨by omega, by omega⟩, ?_⟩
        obtain ⟨u, hu⟩ : ∃ u : VS, u = sa y9 46 p2 (imin (rd (sa x 45 p2 v) 46 p2) (((((perV σ s t (Int32.ofNat (X % 16 ||| metN σ t)) * ((sa x 45 p2 v).1 20)) + r9) - (rd y9 12 p2)) + r4) - (rd y9 43 x6))) := ⟨_, rfl⟩
        rw [← hu]
        have hM2 : MI u := by rw [hu]; exact hM9.sa 46 _ _ (i3_bd _)
        have hE2 : Eo [] [45, 46, 47] σ u := by rw [hu]; exact (hE1.of hE9 (by decide) (by decide)).sa 46 _ _ (by decide)
        have hc2 : (u.1 1).toInt = (σ.1 1).toInt := by rw [hE2.1 1 (by decide)]
        have hS2 := hS.same hE2 (by decide)
        refine rg_lateOf (nd_ok hS2 hM2 (by omega)) hS2 hM2 (fun r11 y11 hM11 hE11 => ?_)
        refine ⟨⟨by omega, by omega⟩, ⟨by omega, by omega⟩, ?_⟩
        unfold b_reach_212
        have hpt : ∀ j, pT (sa y11 47 p2 (imin (rd u 47 p2) (((rd u 44 x6 - r11) - rd y11 13 p2) + r4))) j = (if j = t then v else x.2.1 45 j).toInt.toNat := by
          intro j
          unfold pT
          rw [sa_other (by decide), hE11.2 45 (by decide), hu, sa_other (by decide), hE9.2 45 (by decide), sa_at x 45 p2 v ht]
        refine hk _ (hM11.sa 47 _ _ (i3_bd _)) ((hE2.of hE11 (by decide) (by decide)).sa 47 _ _ (by decide)) (fun j hj => ?_) ?_
        · rw [hpt, if_neg hj]; exact hoth j hj
        · rw [hpt, if_pos rfl, htg]
          have e9 : pT x t = (x.2.1 45 t).toInt.toNat := rfl
          omega
      · unfold tgN
        rw [if_neg (fun h => h.2.2 hp)]
    · unfold b_reach_82
      exact ⟨fun h9 => absurd rfl h9, fun _ => hno (Or.inr (by omega))⟩
  have L36 : ∀ (n e m : Nat) (l6 l7 : Int32) (x : VS), l6.toInt = (e : Int) → l7.toInt = (m : Int) → e < 2 → m ≤ 16 → 16 - m < n → MI x → Eo [] [45, 46, 47] σ x → (∀ j, j ≠ t → pT x j = pT σ j) → min 1000 (pT σ t + sm (32 * f + 16 * e + m) (fun X => hw σ X * tgN σ s t X)) ≤ pT x t → (∀ z : VS, MI z → Eo [] [45, 46, 47] σ z → (∀ j, j ≠ t → pT z j = pT σ j) → min 1000 (pT σ t + sm (32 * f + 16 * (e + 1)) (fun X => hw σ X * tgN σ s t X)) ≤ pT z t → X27 p1 p2 x1 (metV σ p2.toInt) r4 (l6 + 1) z) → X36 p1 p2 x1 (metV σ p2.toInt) r4 l6 l7 x := by
    intro n
    induction n with
    | zero => intro e m l6 l7 x h6 h7 he hm hn; omega
    | succ n ih =>
      intro e m l6 l7 x h6 h7 he hm hn hMx hEx hoth hmin hk
      by_cases e9 : m = 16
      · refine H36 _ _ _ _ _ _ _ _ ?_
        unfold b_reach_36
        refine ⟨fun _ => hk x hMx hEx hoth ?_, fun h => by omega⟩
        rw [show 32 * f + 16 * (e + 1) = 32 * f + 16 * e + m by omega]
        exact hmin
      · have t1 : (l7 + 1).toInt = l7.toInt + 1 := i3_addc rfl rfl rfl (by omega)
        exact hone e m l6 l7 x h6 h7 he (by omega) hMx hEx hoth hmin (fun z a b c d => ih e (m + 1) l6 (l7 + 1) z h6 (by omega) he (by omega) (by omega) a b c d hk)
  have L27 : ∀ (n e : Nat) (l6 : Int32) (x : VS), l6.toInt = (e : Int) → e ≤ 2 → 2 - e < n → MI x → Eo [] [45, 46, 47] σ x → (∀ j, j ≠ t → pT x j = pT σ j) → min 1000 (pT σ t + sm (32 * f + 16 * e) (fun X => hw σ X * tgN σ s t X)) ≤ pT x t → X27 p1 p2 x1 (metV σ p2.toInt) r4 l6 x := by
    intro n
    induction n with
    | zero => intro e l6 x h6 h2 hn; omega
    | succ n ih =>
      intro e l6 x h6 h2 hn hMx hEx hoth hmin
      refine H27 _ _ _ _ _ _ _ ?_
      unfold b_reach_27
      refine ⟨fun hge => hq x hMx hEx hoth ?_, fun hlt => ?_⟩
      · have hfn : f < 50 := by omega
        rw [sm_tail (n := 32 * f + 16 * e) (m := 1600) (by omega) (fun X h1 h2 => ?_)]
        · exact hmin
        · have : tgN σ s t X = 0 := by
            unfold tgN
            rw [if_neg (fun h => ?_)]
            have h9 := h.1
            omega
          rw [this, Nat.mul_zero]
      · have t1 : (l6 + 1).toInt = l6.toInt + 1 := i3_addc rfl rfl rfl (by omega)
        exact L36 17 e 0 l6 0 x h6 rfl (by omega) (by omega) (by omega) hMx hEx hoth hmin (fun z a b c d => ih (e + 1) (l6 + 1) z (by omega) (by omega) (by omega) a b c d)
  refine L27 3 0 0 y rfl (by omega) (by omega) hMy (hEy.mono (by decide) (by decide)) (fun j _ => by unfold pT; rw [hEy.2 45 (by decide)]) ?_
  have hz : sm (32 * f + 16 * 0) (fun X => hw σ X * tgN σ s t X) = 0 := by
    refine sm_none (fun X hX => ?_)
    have : tgN σ s t X = 0 := by
      unfold tgN
      rw [if_neg (fun h => ?_)]
      have h9 := h.1
      omega
    rw [this, Nat.mul_zero]
  rw [hz]
  have : pT y t = pT σ t := by unfold pT; rw [hEy.2 45 (by decide)]
  omega

