/-! THE REFERENCE GOES FROM A START -/
def CT (s : Nat) (pw : Nat → Nat) : Nat → Nat
  | 0 => s
  | k + 1 => pw k / 4
theorem SK.top {τ : VS} {D : Nat → Nat → Int} {b : Nat → Nat} {s e0 : Nat} {pw : Nat → Nat} {deep : Nat} (h : SK τ D b s e0 pw deep) : vv τ 57 deep = ((CT s pw deep : Nat) : Int) ∧ vv τ 59 deep = ((eF D e0 pw deep : Nat) : Int) ∧ vv τ 60 deep = ((mF b (b s) pw deep : Nat) : Int) := by
  cases deep with
  | zero => exact ⟨h.1.1, h.1.2.2.1, h.1.2.2.2⟩
  | succ d =>
    have q := h.2 d (by omega)
    exact ⟨q.1, q.2.2.1, q.2.2.2⟩
theorem SK.less {τ : VS} {D : Nat → Nat → Int} {b : Nat → Nat} {s e0 : Nat} {pw pw' : Nat → Nat} {deep : Nat} (h : SK τ D b s e0 pw' (deep + 1)) (hp : ∀ j, j < deep → pw' j = pw j) : SK τ D b s e0 pw deep := by
  refine ⟨h.1, fun k hk => ?_⟩
  have q := h.2 k (by omega)
  have f := F_c (D := D) (V := D) (kk := 0) (e0 := e0) (m0 := b s) (b := b) (l0 := 0) (k + 1) (fun j hj => hp j (by omega))
  rw [hp k hk, f.1, f.2.2.1] at q
  exact q
theorem SK.same {F0 A : List Nat} {τ x : VS} {D : Nat → Nat → Int} {b : Nat → Nat} {s e0 : Nat} {pw : Nat → Nat} {deep : Nat} (h : SK τ D b s e0 pw deep) (e : Eo F0 A τ x) (hk : 57 ∉ A ∧ 58 ∉ A ∧ 59 ∉ A ∧ 60 ∉ A) : SK x D b s e0 pw deep := by
  unfold SK
  rw [vv_eo e hk.1, vv_eo e hk.2.1, vv_eo e hk.2.2.1, vv_eo e hk.2.2.2]
  exact h
theorem FPi_gap {src : Nat → Int} {c : Nat} {f : Nat → List (List Nat)} {a : Nat} : ∀ b : Nat, a ≤ b → (∀ v, a ≤ v → v < b → src v ≠ (c : Int)) → FPi src c f a = FPi src c f b
  | 0, h, _ => by
    have e : a = 0 := by omega
    rw [e]
  | b + 1, h, g => by
    by_cases q : a = b + 1
    · rw [q]
    · rw [FPi_n (g b (by omega) (by omega))]
      exact FPi_gap b (by omega) (fun v h1 h2 => g v h1 (by omega))
theorem arcM {θ : VS} {R t c w m : Nat} {b : Nat → Nat} {nm : Nat → Int} {F : Nat → Nat → List (List Nat)} {ρ : Nat → Nat} (G : RfE θ R) (hW : Wo (dM θ) (nC θ) ρ) (hw : w < 4 * nC θ) (e5 : dM θ 5 w = (c : Int)) (g : gN (dM θ) (w / 4)) (r : vM θ 0 c ≠ 0) (o : vM θ 1 (w / 4) = 0) : ∀ e, e < 2 → 0 ≤ vM θ 2 (2 * w + e) ∧ vM θ 2 (2 * w + e) ≤ 6000 := by
  obtain ⟨hMθ, hS, hD, hWr, hN, hL, hR⟩ := G
  have wn : w / 4 < nC θ := by omega
  have ip := (hW.2.2.2.2 w hw (by omega)).2
  have e4 : 4 * (w / 4) + w % 4 = w := by omega
  have ec : (dM θ 5 w).toNat = c := by omega
  have ac : acN (dM θ) (vM θ) (w / 4) (w % 4) := Or.inr ⟨by rw [e4]; omega, by rw [e4, ec]; exact r⟩
  have r2 := rc_up hW hL hw e5 g r
  have g1 := g.1
  have g2 := g.2
  intro e he
  have d := dlm_b hMθ hL wn ⟨by omega, by omega⟩ r2 o ip he ac
  rw [show 8 * (w / 4) + 2 * (w % 4) + e = 2 * w + e by omega] at d
  exact d.1
def slF (D V U : Nat → Nat → Int) (nm : Nat → Int) (b : Nat → Nat) (len : Int) (sh : Nat → Nat → Int) (s t e0 : Nat) (p : List Nat) : Int := nm (endM b (b s) p) * len + rmD D U sh s t - endL D V 2 e0 (saD D V (2 * s + e0)) p
abbrev AG : List Nat := [49, 50, 51, 52, 53, 54, 57, 58, 59, 60]
set_option maxHeartbeats 4000000 in
theorem rx_goFrom {Q : VS → Prop} {p1 p2 : Int32} {θ τ : VS} {R s t e0 q0 : Nat} {b : Nat → Nat} {nm : Nat → Int} {F : Nat → Nat → List (List Nat)} {ρ : Nat → Nat} (h1 : p1.toInt = (s : Int)) (h2 : p2.toInt = (e0 : Int)) (he : e0 < 2) (hs : s < nC θ) (hSt : isD (dM θ) (vM θ) s) (hM : MI τ) (hE : Eo FL AL θ τ) (hLI : LI τ) (G : RfE θ R) (hW : Wo (dM θ) (nC θ) ρ) (hρ : ∀ c, c < nC θ → ρ c < 50) (P : RfP θ R s t b nm F) (h61 : (τ.1 61).toInt = (t : Int)) (h48 : (τ.1 48).toInt = (q0 : Int)) (hq1 : q0 + (F s (b s)).length ≤ 1000) (hGo : GoT τ θ F) (hst : vv θ 2 s ≠ 0 → (0 ≤ vM θ 2 (8 * s + e0) ∧ vM θ 2 (8 * s + e0) ≤ 6000)) (bst : 0 ≤ saD (dM θ) (vM θ) (2 * s + e0) ∧ saD (dM θ) (vM θ) (2 * s + e0) ≤ 2400000) (hq : ∀ x : VS, MI x → Eo [48] AG τ x → (x.1 48).toInt = ((q0 + (F s (b s)).length : Nat) : Int) → LKp τ x q0 → LI x → (∀ j p, (F s (b s))[j]? = some p → Ent x (q0 + j) (s, e0, p) (slF (dM θ) (vM θ) (UM θ) nm b (θ.1 20).toInt (shF θ) s t e0 p)) → Q x) : wp_goFrom Q p1 p2 τ := by
  have G0 := G
  obtain ⟨hMθ, hS, hD, hWr, hN, hL, hR⟩ := G0
  have P0 := P
  obtain ⟨hb, hnm, hF, ht, ht1, htg, ho⟩ := P0
  have a1 : 0 ≤ (θ.1 1).toInt ∧ (θ.1 1).toInt ≤ 50 := hMθ.1 1
  have en : (θ.1 1).toInt = ((nC θ : Nat) : Int) := by unfold nC; omega
  have hR4 : 0 ≤ (θ.1 25).toInt ∧ (θ.1 25).toInt ≤ 4 := hMθ.1 25
  have b16 : ∀ c, b c < 16 := fun c => by rw [hb]; exact bR_16 _ (by omega) c
  have d5 : ∀ w, w < 4 * nC θ → dM θ 5 w = vv θ 7 w := fun w hw => d5M hMθ hw
  have rs := isD_r (hL s hs) hSt
  have t3 : 3 < dM θ 0 t := htg
  unfold wp_goFrom
  intro X64 H64
  have Sub : ∀ c, c < nC θ → ∀ (pw : Nat → Nat) (deep q : Nat) (l3 : Int32) (x0 : VS), c = CT s pw deep → l3.toInt = (deep : Int) → MI x0 → Eo [48] AG τ x0 → (x0.1 48).toInt = (q : Int) → SK x0 (dM θ) b s e0 pw deep → LI x0 → vM θ 0 c ≠ 0 → vM θ 1 c = 0 → ((gN (dM θ) c → deep ≤ ρ c + 1) ∧ (¬ gN (dM θ) c → deep = 0)) → (∀ j, j < deep → pw j < 4 * nC θ ∧ 0 ≤ vM θ 2 (2 * pw j + eF (dM θ) e0 pw (j + 1)) ∧ vM θ 2 (2 * pw j + eF (dM θ) e0 pw (j + 1)) ≤ 6000) → q + (F c (mF b (b s) pw deep)).length ≤ 1000 → (∀ (x : VS) (l4 l5 : Int32), MI x → Eo [48] AG τ x → (x.1 48).toInt = ((q + (F c (mF b (b s) pw deep)).length : Nat) : Int) → SK x (dM θ) b s e0 pw deep → LKp x0 x q → LI x → (∀ j p, (F c (mF b (b s) pw deep))[j]? = some p → Ent x (q + j) (s, e0, paF pw deep ++ p) (slF (dM θ) (vM θ) (UM θ) nm b (θ.1 20).toInt (shF θ) s t e0 (paF pw deep ++ p))) → l4.toInt = ((nC θ : Nat) : Int) → X64 p1 l3 l4 l5 x) → X64 p1 l3 0 0 x0 := by
    refine hW.fwd (P := fun c => ∀ (pw : Nat → Nat) (deep q : Nat) (l3 : Int32) (x0 : VS), c = CT s pw deep → l3.toInt = (deep : Int) → MI x0 → Eo [48] AG τ x0 → (x0.1 48).toInt = (q : Int) → SK x0 (dM θ) b s e0 pw deep → LI x0 → vM θ 0 c ≠ 0 → vM θ 1 c = 0 → ((gN (dM θ) c → deep ≤ ρ c + 1) ∧ (¬ gN (dM θ) c → deep = 0)) → (∀ j, j < deep → pw j < 4 * nC θ ∧ 0 ≤ vM θ 2 (2 * pw j + eF (dM θ) e0 pw (j + 1)) ∧ vM θ 2 (2 * pw j + eF (dM θ) e0 pw (j + 1)) ≤ 6000) → q + (F c (mF b (b s) pw deep)).length ≤ 1000 → (∀ (x : VS) (l4 l5 : Int32), MI x → Eo [48] AG τ x → (x.1 48).toInt = ((q + (F c (mF b (b s) pw deep)).length : Nat) : Int) → SK x (dM θ) b s e0 pw deep → LKp x0 x q → LI x → (∀ j p, (F c (mF b (b s) pw deep))[j]? = some p → Ent x (q + j) (s, e0, paF pw deep ++ p) (slF (dM θ) (vM θ) (UM θ) nm b (θ.1 20).toInt (shF θ) s t e0 (paF pw deep ++ p))) → l4.toInt = ((nC θ : Nat) : Int) → X64 p1 l3 l4 l5 x) → X64 p1 l3 0 0 x0) (fun c hc ihc pw deep q l3 x0 ect e3 hM0 hE0 f48 hK0 hI0 rc oc hdp hdl hql K => ?_)
    have dp50 : deep ≤ 50 := by
      by_cases g : gN (dM θ) c
      · have y := hdp.1 g
        have y2 := hρ c hc
        omega
      · have y := hdp.2 g
        omega
    have ml := mF_lt (pw := pw) (b16 s) b16 deep
    obtain ⟨m, em⟩ : ∃ m, m = mF b (b s) pw deep := ⟨_, rfl⟩
    rw [← em] at hql K ml
    obtain ⟨f, ef⟩ : ∃ f : Nat → List (List Nat), f = FPw (dM θ) nm b t F m := ⟨_, rfl⟩
    have eF0 : F c m = FPi (dM θ 5) c f (4 * nC θ) := by rw [ef]; exact hF c m hc
    have pre : ∀ w, w ≤ 4 * nC θ → (FPi (dM θ 5) c f w).length ≤ (F c m).length := fun w hw => by
      obtain ⟨r, hr⟩ := FPi_pre (src := dM θ 5) (c := c) (f := f) (a := w) (4 * nC θ) hw
      rw [eF0, hr, List.length_append]
      omega
    have e2 := eF_lt (D := dM θ) (pw := pw) he deep
    have Cur : ∀ (dd cell input : Nat) (l4 l5 : Int32) (x : VS), 4 * nC θ + 4 ≤ dd + (4 * cell + input) → cell ≤ nC θ → input < 4 → (cell = nC θ → input = 0) → l4.toInt = (cell : Int) → l5.toInt = (input : Int) → MI x → Eo [48] AG τ x → (x.1 48).toInt = ((q + (FPi (dM θ 5) c f (4 * cell + input)).length : Nat) : Int) → SK x (dM θ) b s e0 pw deep → LKp x0 x q → LI x → (∀ j p, (FPi (dM θ 5) c f (4 * cell + input))[j]? = some p → Ent x (q + j) (s, e0, paF pw deep ++ p) (slF (dM θ) (vM θ) (UM θ) nm b (θ.1 20).toInt (shF θ) s t e0 (paF pw deep ++ p))) → X64 p1 l3 l4 l5 x := by
      intro dd
      induction dd with
      | zero => intro cell input l4 l5 x a b'; omega
      | succ dd ih =>
        intro cell input l4 l5 x hdd hcell hin hcn e4 e5 hMx hEx g48 hKx hLx hIx hEn
        by_cases fin : cell = nC θ
        · have i0 := hcn fin
          rw [fin, i0, Nat.add_zero, ← eF0] at g48 hEn
          exact K x l4 l5 hMx hEx g48 hKx hLx hIx hEn (by omega)
        · have cl : cell < nC θ := by omega
          have wl : 4 * cell + input < 4 * nC θ := by omega
          obtain ⟨w, ew⟩ : ∃ w, w = 4 * cell + input := ⟨_, rfl⟩
          have w4 : w / 4 = cell := by omega
          have wm : w % 4 = input := by omega
          rw [← ew] at g48 hEn hdd
          have Exθ : Eo FL AL θ x := hE.trans (hEx.mono (by decide) (by decide))
          have b3 : 0 ≤ vv θ 3 cell ∧ vv θ 3 cell ≤ 4 := hMθ.2 3 cell
          have ipk : ipN (dM θ) cell = (vv θ 3 cell).toNat := by unfold ipN; rw [dM_1 cl]
          have lw := pre (w + 1) (by omega)
          -- on to the next wire
          have adv : ∀ y : VS, MI y → Eo [48] AG τ y → (y.1 48).toInt = ((q + (FPi (dM θ 5) c f (w + 1)).length : Nat) : Int) → SK y (dM θ) b s e0 pw deep → LKp x0 y q → LI y → (∀ j p, (FPi (dM θ 5) c f (w + 1))[j]? = some p → Ent y (q + j) (s, e0, paF pw deep ++ p) (slF (dM θ) (vM θ) (UM θ) nm b (θ.1 20).toInt (shF θ) s t e0 (paF pw deep ++ p))) → ∀ (la lb : Int32), la.toInt = (cell : Int) → lb.toInt = (input : Int) + 1 → (lb.toInt < vv θ 3 cell → X64 p1 l3 la lb y) ∧ (vv θ 3 cell ≤ lb.toInt → ∀ lc : Int32, lc.toInt = (cell : Int) + 1 → X64 p1 l3 lc 0 y) := fun y My Ey k48 Ky Ly Iy hEy la lb ela elb => by
            refine ⟨fun z => ?_, fun z lc elc => ?_⟩
            · have e6 : 4 * cell + (input + 1) = w + 1 := by omega
              exact ih cell (input + 1) la lb y (by omega) hcell (by omega) (fun z2 => absurd z2 fin) ela (by omega) My Ey (by rw [e6]; exact k48) Ky Ly Iy (by rw [e6]; exact hEy)
            · have e6 : FPi (dM θ 5) c f (w + 1) = FPi (dM θ 5) c f (4 * (cell + 1) + 0) := FPi_gap _ (by omega) (fun v h1 h2 e => by
                have y2 := (hW.2.2.2.2 v (by omega) (by omega)).2
                rw [show v / 4 = cell by omega, ipk] at y2
                omega)
              exact ih (cell + 1) 0 lc 0 y (by omega) (by omega) (by omega) (fun _ => rfl) (by omega) rfl My Ey (by rw [← e6]; exact k48) Ky Ly Iy (by rw [← e6]; exact hEy)
          have t5 : (l5 + 1).toInt = (input : Int) + 1 := i3_addc e5 (show (1 : Int32).toInt = 1 from rfl) rfl (by omega)
          have t4 : (l4 + 1).toInt = (cell : Int) + 1 := i3_addc e4 (show (1 : Int32).toInt = 1 from rfl) rfl (by omega)
          have a366 : ∀ y : VS, MI y → Eo [48] AG τ y → (y.1 48).toInt = ((q + (FPi (dM θ 5) c f (w + 1)).length : Nat) : Int) → SK y (dM θ) b s e0 pw deep → LKp x0 y q → LI y → (∀ j p, (FPi (dM θ 5) c f (w + 1))[j]? = some p → Ent y (q + j) (s, e0, paF pw deep ++ p) (slF (dM θ) (vM θ) (UM θ) nm b (θ.1 20).toInt (shF θ) s t e0 (paF pw deep ++ p))) → b_goFrom_366 X64 Q p1 l3 l4 l5 y := fun y My Ey k48 Ky Ly Iy hEy => by
            have Eyθ : Eo FL AL θ y := hE.trans (Ey.mono (by decide) (by decide))
            unfold b_goFrom_366 b_goFrom_387
            have r3 : (rd y 3 l4).toInt = vv θ 3 cell := by rw [vv_rd e4, vv_eo Eyθ (by decide)]
            have ad := adv y My Ey k48 Ky Ly Iy hEy l4 (l5 + 1) e4 t5
            rw [r3]
            exact ⟨⟨by omega, by omega⟩, ad.1, fun z => ad.2 z (l4 + 1) t4⟩
          have no248 : ∀ y : VS, MI y → Eo [48] AG τ y → (y.1 48).toInt = ((q + (FPi (dM θ 5) c f (w + 1)).length : Nat) : Int) → SK y (dM θ) b s e0 pw deep → LKp x0 y q → LI y → (∀ j p, (FPi (dM θ 5) c f (w + 1))[j]? = some p → Ent y (q + j) (s, e0, paF pw deep ++ p) (slF (dM θ) (vM θ) (UM θ) nm b (θ.1 20).toInt (shF θ) s t e0 (paF pw deep ++ p))) → b_goFrom_248 X64 Q p1 l3 l4 l5 y := fun y My Ey k48 Ky Ly Iy hEy => by
            have Eyθ : Eo FL AL θ y := hE.trans (Ey.mono (by decide) (by decide))
            unfold b_goFrom_248 b_goFrom_249 b_goFrom_279
            have f25 : (y.1 25).toInt = (R : Int) := by rw [Eyθ.1 25 (by decide)]; exact hR
            have z : ∀ k1 : Int32, wp_metBy (fun (r13 : Int32) (σ14 : VS) => (∀ x15 : Int32, x15 = ((rd y 60 l3) ||| r13) → (((0 : Int32).toInt = 0 → b_goFrom_366 X64 Q p1 l3 l4 l5 σ14) ∧ ((0 : Int32).toInt ≠ 0 → (In ((16 * ((2 * l4) + k1)) + x15) 1600 ∧ (((rd σ14 56 ((16 * ((2 * l4) + k1)) + x15)).toInt = 0 → b_goFrom_366 X64 Q p1 l3 l4 l5 σ14) ∧ ((rd σ14 56 ((16 * ((2 * l4) + k1)) + x15)).toInt ≠ 0 → (In (l3 + 1) 52 ∧ (In (l3 + 1) 52 ∧ (In (l3 + 1) 52 ∧ (In (l3 + 1) 52 ∧ X64 p1 (l3 + 1) 0 0 (sa (sa (sa (sa σ14 57 (l3 + 1) l4) 58 (l3 + 1) l5) 59 (l3 + 1) k1) 60 (l3 + 1) x15)))))))))))) l4 y := fun k1 => rx_metBy e4 My f25 (fun r _ x15 _ => ⟨fun _ => a366 y My Ey k48 Ky Ly Iy hEy, fun z => absurd rfl z⟩)
            exact ⟨⟨by omega, by omega⟩, fun _ => ⟨⟨by omega, by omega⟩, ⟨by omega, by omega⟩, z _⟩, fun _ => ⟨⟨by omega, by omega⟩, ⟨by omega, by omega⟩, z _⟩⟩
          have same : f w = [] ∨ ¬ dM θ 5 w = (c : Int) → FPi (dM θ 5) c f (w + 1) = FPi (dM θ 5) c f w := fun z => by
            by_cases y : dM θ 5 w = (c : Int)
            · rcases z with z | z
              · rw [FPi_y y, z, List.append_nil]
              · exact absurd y z
            · exact FPi_n y
          have stay : f w = [] ∨ ¬ dM θ 5 w = (c : Int) → b_goFrom_248 X64 Q p1 l3 l4 l5 x := fun z => no248 x hMx hEx (by rw [same z]; exact g48) hKx hLx hIx (by rw [same z]; exact hEn)
          refine H64 p1 l3 l4 l5 x ?_
          unfold b_goFrom_64
          rw [hEx.1 1 (by decide), hE.1 1 (by decide), en]
          refine ⟨fun z => by omega, fun _ => ⟨fun _ => ?_, fun z => by omega⟩⟩
          have n161 : ∀ z : f w = [] ∨ ¬ dM θ 5 w = (c : Int), b_goFrom_160 X64 Q p1 l3 l4 l5 x := fun z => by
            unfold b_goFrom_160 b_goFrom_161 b_goFrom_210
            exact ⟨fun _ => ⟨fun _ => stay z, fun y => absurd rfl y⟩, fun y => absurd rfl y⟩
          have r3 : (rd x 3 l4).toInt = vv θ 3 cell := by rw [vv_rd e4, vv_eo Exθ (by decide)]
          have u1 : (4 * l4).toInt = 4 * (cell : Int) := i3_mulc rfl e4 rfl (by have y : (4 : Int32).toInt = 4 := rfl; omega)
          have u2 : ((4 * l4) + l5).toInt = ((w : Nat) : Int) := by
            have y := i3_addc (x := (4 * l4) + l5) u1 e5 rfl (by omega)
            omega
          have r7 : (rd x 7 ((4 * l4) + l5)).toInt = dM θ 5 w := by rw [vv_rd u2, vv_eo Exθ (by decide), d5 w (by omega)]
          have tp := hKx.top
          rw [← ect] at tp
          have r57 : (rd x 57 l3).toInt = (c : Int) := by rw [vv_rd e3]; exact tp.1
          have r59 : (rd x 59 l3).toInt = ((eF (dM θ) e0 pw deep : Nat) : Int) := by rw [vv_rd e3]; exact tp.2.1
          have r60 : (rd x 60 l3).toInt = (m : Int) := by rw [vv_rd e3, em]; exact tp.2.2
          rw [r3, r7, r57]
          refine ⟨⟨by omega, by omega⟩, fun z => n161 (Or.inr (fun y => ?_)), fun z => ⟨⟨by omega, by omega⟩, ⟨by omega, by omega⟩, fun nf => n161 (Or.inr nf), fun fits => ?_⟩⟩
          · have y2 := (hW.2.2.2.2 w (by omega) (by omega)).2
            rw [w4, ipk, wm] at y2
            omega
          have fy : FPi (dM θ 5) c f (w + 1) = FPi (dM θ 5) c f w ++ f w := FPi_y fits
          have Lc : (FPi (dM θ 5) c f (w + 1)).length = (FPi (dM θ 5) c f w).length + (f w).length := by rw [fy, List.length_append]
          have f61 : (x.1 61).toInt = (t : Int) := by rw [hEx.1 61 (by decide)]; exact h61
          have f25 : (x.1 25).toInt = (R : Int) := by rw [Exθ.1 25 (by decide)]; exact hR
          have kd : ∀ y : VS, Eo [48] AG τ y → Kd y cell = dM θ 0 cell := fun y Ey => by
            show vv y 2 cell = _
            rw [vv_eo (hE.trans (Ey.mono (by decide) (by decide)) : Eo FL AL θ y) (by decide), dM_0 cl]
          unfold b_goFrom_161
          refine ⟨fun y => absurd y (by decide), fun _ => ?_⟩
          have i1 : (1 : Int32).toInt ≠ 0 := by decide
          refine ⟨fun ne => ?_, fun eq => ?_⟩
          · -- not the end
            have nt : ¬ w / 4 = t := by omega
            unfold b_goFrom_210
            refine ⟨fun y => absurd y i1, fun _ => ?_⟩
            refine isGate_s e4 (by omega) (fun g => ⟨fun y => absurd y (by decide), fun _ => ?_⟩) (fun g => ⟨fun _ => stay (Or.inl ?_), fun y => absurd rfl y⟩)
            · have g2 : 0 < Kd x cell ∧ Kd x cell < 4 := g
              rw [kd x hEx] at g2
              have gD : gN (dM θ) (w / 4) := by rw [w4]; exact g2
              have r34 : (rd x 34 l4).toInt = vM θ 0 cell := by rw [vv_rd e4, vv_eo Exθ (by decide)]; rfl
              have r35 : (rd x 35 l4).toInt = vM θ 1 cell := by rw [vv_rd e4, vv_eo Exθ (by decide)]; rfl
              have up := rc_up hW hL (by omega) fits gD rc
              rw [w4] at up
              rw [r34, r35]
              refine ⟨⟨by omega, by omega⟩, fun y => absurd y up, fun _ => ⟨⟨by omega, by omega⟩, fun op => stay (Or.inl ?_), fun op => ?_⟩⟩
              · rw [ef, FPw_g nt gD]
                have em2 : F (w / 4) (m ||| b (w / 4)) = [] := List.eq_nil_iff_forall_not_mem.mpr (fun p hp => by
                  have y := FP_opn hW hL hF ht1 ho (w / 4) (by omega) _ p hp
                  rw [w4] at y
                  exact op y)
                rw [em2]; rfl
              · have fw : f w = (F cell (m ||| b cell)).map (fun p => w :: p) := by rw [ef, FPw_g nt gD, w4]
                have bc := b16 cell
                have ml2 : m ||| b cell < 16 := or_16 _ _ ml bc
                have go : ∀ k1 : Int32, k1.toInt = ((feN (dM θ) cell (eF (dM θ) e0 pw deep) : Nat) : Int) → b_goFrom_279 X64 Q p1 l3 l4 l5 1 k1 x := fun k1 ek1 => by
                  unfold b_goFrom_279
                  have fl := feN_lt (dM θ) cell e2
                  refine ⟨⟨by omega, by omega⟩, rx_metBy e4 hMx f25 (fun r13 e13 x15 e15 => ⟨fun y => absurd y i1, fun _ => ?_⟩)⟩
                  rw [vv_eo Exθ (by decide), ← hb] at e13
                  have t15 : x15.toInt = ((m ||| b cell : Nat) : Int) := by rw [e15]; exact or_nat r60 e13 ml bc
                  have u3 : (2 * l4).toInt = 2 * (cell : Int) := i3_mulc rfl e4 rfl (by have y : (2 : Int32).toInt = 2 := rfl; omega)
                  have u4 : ((2 * l4) + k1).toInt = 2 * (cell : Int) + ((feN (dM θ) cell (eF (dM θ) e0 pw deep) : Nat) : Int) := i3_addc u3 ek1 rfl (by omega)
                  have u5 : (16 * ((2 * l4) + k1)).toInt = 16 * (2 * (cell : Int) + ((feN (dM θ) cell (eF (dM θ) e0 pw deep) : Nat) : Int)) := i3_mulc rfl u4 rfl (by have y : (16 : Int32).toInt = 16 := rfl; omega)
                  have u6 : ((16 * ((2 * l4) + k1)) + x15).toInt = ((16 * (2 * cell + feN (dM θ) cell (eF (dM θ) e0 pw deep)) + (m ||| b cell) : Nat) : Int) := by
                    have y := i3_addc (x := (16 * ((2 * l4) + k1)) + x15) u5 t15 rfl (by omega)
                    omega
                  rw [vv_rd u6, vv_eo hEx (by decide)]
                  refine ⟨⟨by omega, by omega⟩, fun gz => a366 x hMx hEx ?_ hKx hLx hIx ?_, fun gz => ?_⟩
                  · have em2 : F cell (m ||| b cell) = [] := Decidable.not_not.mp (fun ne2 => hGo cell cl (by omega) up op _ _ fl ml2 ne2 gz)
                    rw [same (Or.inl (by rw [fw, em2]; rfl))]; exact g48
                  · have em2 : F cell (m ||| b cell) = [] := Decidable.not_not.mp (fun ne2 => hGo cell cl (by omega) up op _ _ fl ml2 ne2 gz)
                    rw [same (Or.inl (by rw [fw, em2]; rfl))]; exact hEn
                  · -- one step deeper
                    have t3' : (l3 + 1).toInt = ((deep + 1 : Nat) : Int) := by
                      have y := i3_addc (x := l3 + 1) e3 (show (1 : Int32).toInt = 1 from rfl) rfl (by omega)
                      omega
                    have dle : deep + 1 ≤ ρ cell + 1 := by
                      have ups := hW.up (show w < 4 * nC θ by omega) fits gD
                      rw [w4] at ups
                      by_cases gc : gN (dM θ) c
                      · have y := ups.2.2 gc
                        have y2 := hdp.1 gc
                        omega
                      · have y := hdp.2 gc
                        omega
                    have rl := hρ cell cl
                    obtain ⟨y, hy⟩ : ∃ y : VS, y = sa (sa (sa (sa x 57 (l3 + 1) l4) 58 (l3 + 1) l5) 59 (l3 + 1) k1) 60 (l3 + 1) x15 := ⟨_, rfl⟩
                    rw [← hy]
                    have My : MI y := by
                      rw [hy]
                      exact (((hMx.sa 57 _ l4 (show 0 ≤ l4.toInt ∧ l4.toInt ≤ 49 by omega)).sa 58 _ l5 (show -1 ≤ l5.toInt ∧ l5.toInt ≤ 3 by omega)).sa 59 _ k1 (show 0 ≤ k1.toInt ∧ k1.toInt ≤ 1 by omega)).sa 60 _ x15 (show 0 ≤ x15.toInt ∧ x15.toInt ≤ 15 by omega)
                    have Exy : Eo [] [57, 58, 59, 60] x y := by
                      rw [hy]
                      exact (((Eo.rfl.sa 57 _ l4 (by decide)).sa 58 _ l5 (by decide)).sa 59 _ k1 (by decide)).sa 60 _ x15 (by decide)
                    have Ey : Eo [48] AG τ y := hEx.trans (Exy.mono (fun k hk => by cases hk) (by decide))
                    have v57 : vv y 57 = fu (vv x 57) (deep + 1) (cell : Int) := by rw [hy, vv_so (by decide), vv_so (by decide), vv_so (by decide), vv_sa x 57 _ l4 t3', e4]
                    have v58 : vv y 58 = fu (vv x 58) (deep + 1) (input : Int) := by rw [hy, vv_so (by decide), vv_so (by decide), vv_sa _ 58 _ l5 t3', e5, vv_so (by decide)]
                    have v59 : vv y 59 = fu (vv x 59) (deep + 1) ((feN (dM θ) cell (eF (dM θ) e0 pw deep) : Nat) : Int) := by rw [hy, vv_so (by decide), vv_sa _ 59 _ k1 t3', ek1, vv_so (by decide), vv_so (by decide)]
                    have v60 : vv y 60 = fu (vv x 60) (deep + 1) ((m ||| b cell : Nat) : Int) := by rw [hy, vv_sa _ 60 _ x15 t3', t15, vv_so (by decide), vv_so (by decide), vv_so (by decide)]
                    obtain ⟨pw', hpw'⟩ : ∃ pw' : Nat → Nat, pw' = fun j => if j = deep then w else pw j := ⟨_, rfl⟩
                    have pd : pw' deep = w := by rw [hpw']; exact if_pos rfl
                    have pl : ∀ j, j < deep → pw' j = pw j := fun j hj => by rw [hpw']; exact if_neg (by omega)
                    have fc := F_c (D := dM θ) (V := vM θ) (kk := 2) (e0 := e0) (m0 := b s) (b := b) (l0 := 0) deep pl
                    have eF' : eF (dM θ) e0 pw' (deep + 1) = feN (dM θ) cell (eF (dM θ) e0 pw deep) := by
                      show feN (dM θ) (pw' deep / 4) (eF (dM θ) e0 pw' deep) = _
                      rw [pd, w4, fc.1]
                    have mF' : mF b (b s) pw' (deep + 1) = m ||| b cell := by
                      show mF b (b s) pw' deep ||| b (pw' deep / 4) = _
                      rw [pd, w4, fc.2.2.1, em]
                    have pF' : paF pw' (deep + 1) = paF pw deep ++ [w] := by rw [paF_s, pd, fc.2.2.2]
                    have SKy : SK y (dM θ) b s e0 pw' (deep + 1) := by
                      refine ⟨?_, fun k hk => ?_⟩
                      · rw [v57, v58, v59, v60, fu_ne (by omega), fu_ne (by omega), fu_ne (by omega), fu_ne (by omega)]
                        exact hKx.1
                      · rw [v57, v58, v59, v60]
                        by_cases z2 : k = deep
                        · rw [z2, fu_eq, fu_eq, fu_eq, fu_eq, eF', mF', pd, w4, wm]
                          exact ⟨rfl, rfl, rfl, rfl⟩
                        · rw [fu_ne (by omega), fu_ne (by omega), fu_ne (by omega), fu_ne (by omega)]
                          have f2 := F_c (D := dM θ) (V := vM θ) (kk := 2) (e0 := e0) (m0 := b s) (b := b) (l0 := 0) (k + 1) (fun j hj => pl j (by omega))
                          rw [f2.1, f2.2.2.1, pl k (by omega)]
                          exact hKx.2 k (by omega)
                    have am := arcM (t := t) (m := m) (b := b) (nm := nm) (F := F) G hW (show w < 4 * nC θ by omega) fits gD rc (by rw [w4]; exact op) _ fl
                    have ihd := ihc w (by omega) fits gD
                    rw [w4] at ihd
                    have fwl : (f w).length = (F cell (m ||| b cell)).length := by rw [fw, List.length_map]
                    have i52 : In (l3 + 1) 52 := ⟨by omega, by omega⟩
                    refine ⟨i52, i52, i52, i52, ?_⟩
                    refine ihd pw' (deep + 1) (q + (FPi (dM θ 5) c f w).length) (l3 + 1) y (by show cell = pw' deep / 4; rw [pd, w4]) t3' My Ey (by rw [Exy.1 48 (fun z => by cases z)]; exact g48) SKy (hIx.same Exy (by decide)) up op ⟨fun _ => dle, fun ng => absurd (by rw [← w4]; exact gD) ng⟩ (fun j hj => ?_) (by rw [mF', ← fwl]; omega) (fun x2 m4 m5 M2 E2 k48 K2 L2 I2 En2 em4 => ?_)
                    · by_cases z2 : j = deep
                      · rw [z2, pd, eF']; exact ⟨by omega, am⟩
                      · have f2 := F_c (D := dM θ) (V := vM θ) (kk := 2) (e0 := e0) (m0 := b s) (b := b) (l0 := 0) (j + 1) (fun i hi => pl i (by omega))
                        rw [f2.1, pl j (by omega)]
                        exact hdl j (by omega)
                    · -- back
                      rw [mF'] at k48 En2
                      have E2θ : Eo FL AL θ x2 := hE.trans (E2.mono (by decide) (by decide))
                      have K2' : SK x2 (dM θ) b s e0 pw deep := K2.less pl
                      have lk1 : LKp x y (q + (FPi (dM θ 5) c f w).length) := LKp.of Exy (by decide)
                      have lk2 : LKp x x2 (q + (FPi (dM θ 5) c f w).length) := lk1.trans L2 (Nat.le_refl _)
                      have lk3 : LKp x0 x2 q := hLx.trans lk2 (by omega)
                      have all : ∀ j p, (FPi (dM θ 5) c f (w + 1))[j]? = some p → Ent x2 (q + j) (s, e0, paF pw deep ++ p) (slF (dM θ) (vM θ) (UM θ) nm b (θ.1 20).toInt (shF θ) s t e0 (paF pw deep ++ p)) := fun j p hj => by
                        rw [fy] at hj
                        by_cases z2 : j < (FPi (dM θ 5) c f w).length
                        · rw [List.getElem?_append_left z2] at hj
                          exact (hEn j p hj).keep lk2 (by omega)
                        · rw [List.getElem?_append_right (by omega), fw, List.getElem?_map] at hj
                          obtain ⟨p', hp', ep'⟩ := Option.map_eq_some_iff.mp hj
                          have en2 := En2 _ p' hp'
                          rw [pF', List.append_assoc, show q + (FPi (dM θ 5) c f w).length + (j - (FPi (dM θ 5) c f w).length) = q + j by omega] at en2
                          rw [← ep']
                          exact en2
                      have c48 : (x2.1 48).toInt = ((q + (FPi (dM θ 5) c f (w + 1)).length : Nat) : Int) := by rw [k48, Lc, fwl]; omega
                      refine H64 p1 (l3 + 1) m4 m5 x2 ?_
                      unfold b_goFrom_64
                      rw [E2.1 1 (by decide), hE.1 1 (by decide), en]
                      refine ⟨fun z2 => by omega, fun _ => ⟨fun z2 => absurd em4 z2, fun _ => ⟨⟨by omega, by omega⟩, fun x3 e3' => ⟨⟨by omega, by omega⟩, fun x4 e4' => ?_⟩⟩⟩⟩
                      have lv := K2.2 deep (by omega)
                      have q3 : x3.toInt = (cell : Int) := by
                        rw [e3', vv_rd t3', lv.1, pd, w4]
                      have q58 : (rd x2 58 (l3 + 1)).toInt = (input : Int) := by rw [vv_rd t3', lv.2.1, pd, wm]
                      have q4 : x4.toInt = (input : Int) + 1 := i3_addc q58 (show (1 : Int32).toInt = 1 from rfl) e4' (by omega)
                      obtain ⟨l3b, hl3b⟩ : ∃ z : Int32, z = (l3 + 1) + (-1) := ⟨_, rfl⟩
                      have q5 : l3b.toInt = ((deep + 1 : Nat) : Int) + (-1) := i3_addc t3' (show (-1 : Int32).toInt = -1 from rfl) hl3b (by omega)
                      have q6 : l3b = l3 := Int32.toInt_inj.mp (by rw [q5, e3]; omega)
                      rw [← hl3b, q6]
                      clear hl3b q5 q6
                      have r3' : (rd x2 3 x3).toInt = vv θ 3 cell := by rw [vv_rd q3, vv_eo E2θ (by decide)]
                      have q7 : (x3 + 1).toInt = (cell : Int) + 1 := i3_addc q3 (show (1 : Int32).toInt = 1 from rfl) rfl (by omega)
                      rw [r3']
                      have ad := adv x2 M2 E2 c48 K2' lk3 I2 all x3 x4 q3 q4
                      exact ⟨fun z2 => by omega, fun _ => ⟨⟨by omega, by omega⟩, ad.1, fun z2 => ad.2 z2 (x3 + 1) q7⟩⟩
                unfold b_goFrom_249
                have r2 : (rd x 2 l4).toInt = dM θ 0 cell := by rw [vv_rd e4, vv_eo Exθ (by decide), dM_0 cl]
                rw [r2]
                refine ⟨⟨by omega, by omega⟩, fun k2 => ⟨⟨by omega, by omega⟩, go _ ?_⟩, fun k2 => ⟨⟨by omega, by omega⟩, go _ ?_⟩⟩
                · unfold feN
                  rw [if_neg k2]; exact r59
                · unfold feN
                  rw [if_pos k2]
                  have y := i3_subc (x := 1 - rd x 59 l3) (show (1 : Int32).toInt = 1 from rfl) r59 rfl (by omega)
                  omega
            · rw [ef]
              refine FPw_0 nt (fun g2 => g ?_)
              rw [w4] at g2
              show 0 < Kd x cell ∧ Kd x cell < 4
              rw [kd x hEx]
              exact g2
          · -- the end
            have ct : cell = t := by omega
            have wt : w / 4 = t := by omega
            have n210 : ∀ y : VS, MI y → Eo [48] AG τ y → (y.1 48).toInt = ((q + (FPi (dM θ 5) c f (w + 1)).length : Nat) : Int) → SK y (dM θ) b s e0 pw deep → LKp x0 y q → LI y → (∀ j p, (FPi (dM θ 5) c f (w + 1))[j]? = some p → Ent y (q + j) (s, e0, paF pw deep ++ p) (slF (dM θ) (vM θ) (UM θ) nm b (θ.1 20).toInt (shF θ) s t e0 (paF pw deep ++ p))) → b_goFrom_210 X64 Q p1 l3 l4 l5 1 y := fun y My Ey k48 Ky Ly Iy hEy => by
              unfold b_goFrom_210
              refine ⟨fun z2 => absurd z2 i1, fun _ => isGate_s e4 (by omega) (fun g => ?_) (fun g => ⟨fun _ => no248 y My Ey k48 Ky Ly Iy hEy, fun z2 => absurd rfl z2⟩)⟩
              exfalso
              have g2 : 0 < Kd y cell ∧ Kd y cell < 4 := g
              rw [kd y Ey, ct] at g2
              omega
            refine ⟨⟨by omega, by omega⟩, rx_metBy e4 hMx f25 (fun r5 e5' => ?_)⟩
            rw [vv_eo Exθ (by decide), ← hb, ct] at e5'
            have t9 : (rd x 60 l3 ||| r5).toInt = ((m ||| b t : Nat) : Int) := or_nat r60 e5' ml (b16 t)
            refine rx_periodsOf h1 f61 t9 (or_16 _ _ ml (b16 t)) hMx f25 (fun r7' e7' b7 => ⟨fun y => ?_, fun y => ?_⟩)
            · rw [vv_eo Exθ (show 26 ∉ AL by decide), vv_eo Exθ (show 27 ∉ AL by decide), vv_eo Exθ (show 28 ∉ AL by decide), vv_eo Exθ (show 29 ∉ AL by decide), ← hnm m ml] at e7'
              have fw : f w = [] := by rw [ef, FPw_t wt, if_neg (by omega)]
              exact n210 x hMx hEx (by rw [same (Or.inl fw)]; exact g48) hKx hLx hIx (by rw [same (Or.inl fw)]; exact hEn)
            · rw [vv_eo Exθ (show 26 ∉ AL by decide), vv_eo Exθ (show 27 ∉ AL by decide), vv_eo Exθ (show 28 ∉ AL by decide), vv_eo Exθ (show 29 ∉ AL by decide), ← hnm m ml] at e7'
              have fw : f w = [[w]] := by rw [ef, FPw_t wt, if_pos (by omega)]
              have fwl : (f w).length = 1 := by rw [fw]; rfl
              refine rx_keep (w := w) (deep := deep) (q := q + (FPi (dM θ 5) c f w).length) (pw := pw) h1 e3 (by rw [e5, wm]) wt dp50 hs he hMx Exθ hIx G P f61 g48 (by omega) hKx hst bst hdl (fun y My Ey y48 yE yL yI => ?_)
              have Ey2 : Eo [48] AG τ y := hEx.trans (Ey.mono (by decide) (by decide))
              refine n210 y My Ey2 (by rw [y48, Lc, fwl]; omega) (hKx.same Ey (by decide)) (hLx.trans yL (by omega)) yI (fun j p hj => ?_)
              rw [fy] at hj
              by_cases z2 : j < (FPi (dM θ 5) c f w).length
              · rw [List.getElem?_append_left z2] at hj
                exact (hEn j p hj).keep yL (by omega)
              · have l := (List.getElem?_eq_some_iff.mp hj).1
                rw [List.length_append, fwl] at l
                have ej : j = (FPi (dM θ 5) c f w).length := by omega
                rw [List.getElem?_append_right (by omega), fw, ej, Nat.sub_self] at hj
                have hj2 : some [w] = some p := hj
                injection hj2 with hj2
                rw [ej, ← hj2]
                have e1 := endL_F (D := dM θ) (V := vM θ) (kk := 2) (e0 := e0) (l0 := saD (dM θ) (vM θ) (2 * s + e0)) (pw := pw) deep [w] (by intro z; cases z)
                have e2' := endM_F (b := b) (m0 := b s) (pw := pw) deep [w] (by intro z; cases z)
                unfold slF
                rw [e1, e2']
                exact yE
    exact Cur (4 * nC θ + 4) 0 0 0 0 x0 (by omega) (by omega) (by omega) (fun _ => rfl) rfl rfl hM0 hE0 (by show (x0.1 48).toInt = ((q + 0 : Nat) : Int); rw [Nat.add_zero]; exact f48) hK0 ⟨fun _ _ _ _ => rfl, fun _ _ _ _ => rfl⟩ hI0 (fun j p hj => (by cases hj))
  obtain ⟨y0, hy0⟩ : ∃ y : VS, y = sa (sa (sa τ 57 0 p1) 58 0 (-1)) 59 0 p2 := ⟨_, rfl⟩
  rw [← hy0]
  have My0 : MI y0 := by
    rw [hy0]
    exact ((hM.sa 57 0 p1 (show 0 ≤ p1.toInt ∧ p1.toInt ≤ 49 by omega)).sa 58 0 (-1) (by decide)).sa 59 0 p2 (show 0 ≤ p2.toInt ∧ p2.toInt ≤ 1 by omega)
  have Ey0 : Eo [] [57, 58, 59] τ y0 := by
    rw [hy0]
    exact ((Eo.rfl.sa 57 0 p1 (by decide)).sa 58 0 (-1) (by decide)).sa 59 0 p2 (by decide)
  have E0θ : Eo FL AL θ y0 := hE.trans (Ey0.mono (fun k hk => by cases hk) (by decide))
  refine rx_metBy h1 My0 (by rw [E0θ.1 25 (by decide)]; exact hR) (fun r1 e1 => ?_)
  rw [vv_eo E0θ (by decide), ← hb] at e1
  have bs := b16 s
  obtain ⟨y1, hy1⟩ : ∃ y : VS, y = sa y0 60 0 r1 := ⟨_, rfl⟩
  rw [← hy1]
  have My1 : MI y1 := by rw [hy1]; exact My0.sa 60 0 r1 (show 0 ≤ r1.toInt ∧ r1.toInt ≤ 15 by omega)
  have Ey1 : Eo [] [57, 58, 59, 60] τ y1 := by
    rw [hy1]
    exact (Ey0.mono (fun k hk => by cases hk) (by decide)).sa 60 0 r1 (by decide)
  have Ey1' : Eo [48] AG τ y1 := Ey1.mono (fun k hk => by cases hk) (by decide)
  have i0 : (0 : Int32).toInt = ((0 : Nat) : Int) := rfl
  have v60 : vv y1 60 0 = ((b s : Nat) : Int) := by rw [hy1, vv_sa y0 60 0 r1 i0, fu_eq, e1]
  have v57 : vv y1 57 0 = (s : Int) := by rw [hy1, vv_so (by decide), hy0, vv_so (by decide), vv_so (by decide), vv_sa τ 57 0 p1 i0, fu_eq, h1]
  have v58 : vv y1 58 0 = -1 := by rw [hy1, vv_so (by decide), hy0, vv_so (by decide), vv_sa _ 58 0 (-1) i0, fu_eq]; rfl
  have v59 : vv y1 59 0 = (e0 : Int) := by rw [hy1, vv_so (by decide), hy0, vv_sa _ 59 0 p2 i0, fu_eq, h2]
  have r60 : (rd y1 60 0).toInt = ((b s : Nat) : Int) := by rw [vv_rd i0]; exact v60
  have u3 : (2 * p1).toInt = 2 * (s : Int) := i3_mulc rfl h1 rfl (by have y : (2 : Int32).toInt = 2 := rfl; omega)
  have u4 : ((2 * p1) + p2).toInt = 2 * (s : Int) + (e0 : Int) := i3_addc u3 h2 rfl (by omega)
  have u5 : (16 * ((2 * p1) + p2)).toInt = 16 * (2 * (s : Int) + (e0 : Int)) := i3_mulc rfl u4 rfl (by have y : (16 : Int32).toInt = 16 := rfl; omega)
  have u6 : ((16 * ((2 * p1) + p2)) + rd y1 60 0).toInt = ((16 * (2 * s + e0) + b s : Nat) : Int) := by
    have y := i3_addc (x := (16 * ((2 * p1) + p2)) + rd y1 60 0) u5 r60 rfl (by omega)
    omega
  rw [vv_rd u6, vv_eo Ey1 (by decide)]
  have f48 : (y1.1 48).toInt = (q0 : Int) := by rw [Ey1.1 48 (fun z => by cases z)]; exact h48
  have lk0 : LKp τ y1 q0 := LKp.of Ey1 (by decide)
  have ng : ¬ gN (dM θ) s := fun g => by
    have g1 := g.1
    have g2 := g.2
    have k := hSt.1
    omega
  refine ⟨⟨by omega, by omega⟩, fun gz => ?_, fun gz => ?_⟩
  · refine Sub s hs (fun _ => 0) 0 q0 0 y1 rfl rfl My1 Ey1' f48 ⟨⟨v57, v58, v59, v60⟩, fun k hk => by omega⟩ (hLI.same Ey1 (by decide)) rs hSt.2 ⟨fun g => absurd g ng, fun _ => rfl⟩ (fun j hj => by omega) hq1 (fun x l4 l5 Mx Ex x48 Kx Lx Ix En e4 => ?_)
    refine H64 p1 0 l4 l5 x ?_
    unfold b_goFrom_64
    rw [Ex.1 1 (by decide), hE.1 1 (by decide), en]
    refine ⟨fun z => absurd z (by decide), fun _ => ⟨fun z => absurd e4 z, fun _ => ⟨⟨by decide, by decide⟩, fun x3 _ => ⟨⟨by decide, by decide⟩, fun x4 _ => ⟨fun _ => ?_, fun z => absurd z (by decide)⟩⟩⟩⟩⟩
    refine H64 p1 (0 + (-1)) x3 x4 x ?_
    unfold b_goFrom_64
    exact ⟨fun _ => hq x Mx Ex x48 (lk0.trans Lx (Nat.le_refl _)) Ix (fun j p hj => En j p hj), fun z => absurd z (by decide)⟩
  · have em : F s (b s) = [] := Decidable.not_not.mp (fun ne => hGo s hs (by have k := hSt.1; omega) rs hSt.2 e0 (b s) he bs ne gz)
    refine hq y1 My1 Ey1' (by rw [em]; exact f48) lk0 (hLI.same Ey1 (by decide)) (fun j p hj => ?_)
    rw [em] at hj
    cases hj
