/-! THE REFERENCE'S RACE: STARTS, RANGES -/
def saL (σ : VS) (j : Nat) : Int := if vv σ 2 (j / 2) = 0 then vv σ 9 (j / 2) else dM σ 13 (j / 2) + vM σ 2 (8 * (j / 2) + j % 2)
def saE (σ : VS) (j : Nat) : Int := if vv σ 2 (j / 2) = 0 then vv σ 8 (j / 2) else dM σ 14 (j / 2) + vM σ 3 (8 * (j / 2) + j % 2)
def LaM (σ : VS) (s : Nat) (p : List Nat) (e : Nat) : Int := ltP (feN (dM σ)) (saL σ) (vM σ 2) s p e
def EaM (σ : VS) (s : Nat) (p : List Nat) (e : Nat) : Int := ltP (feN (dM σ)) (saE σ) (vM σ 3) s p e
theorem rx_startLate {Q : Int32 → VS → Prop} {p1 p2 : Int32} {σ : VS} {s e : Nat} (h1 : p1.toInt = (s : Int)) (h2 : p2.toInt = (e : Int)) (hs : s < nC σ) (he : e < 2) (hS : SI σ) (hM : MI σ) (hN : NdR σ) (hb : vv σ 2 s ≠ 0 → 0 ≤ vM σ 2 (8 * s + e) ∧ vM σ 2 (8 * s + e) ≤ 6000) (hq : ∀ r : Int32, r.toInt = saL σ (2 * s + e) → Q r σ) : wp_startLate Q p1 p2 σ := by
  have a1 : 0 ≤ (σ.1 1).toInt ∧ (σ.1 1).toInt ≤ 50 := hM.1 1
  have en : (σ.1 1).toInt = ((nC σ : Nat) : Int) := by unfold nC; omega
  have d2 : (2 * s + e) / 2 = s := by omega
  have m2 : (2 * s + e) % 2 = e := by omega
  unfold saL at hq
  rw [d2, m2] at hq
  have r2 : (rd σ 2 p1).toInt = vv σ 2 s := vv_rd h1
  have u1 : (8 * p1).toInt = 8 * (s : Int) := i3_mulc rfl h1 rfl (by have q : (8 : Int32).toInt = 8 := rfl; omega)
  have u2 : (8 * p1 + p2).toInt = ((8 * s + e : Nat) : Int) := by
    have q := i3_addc (x := 8 * p1 + p2) u1 h2 rfl (by omega)
    omega
  have no := nd_ok hS hM (p1 := p1) (by omega)
  unfold wp_startLate b_startLate_40
  rw [r2]
  refine ⟨⟨by omega, by omega⟩, fun k => ⟨⟨by omega, by omega⟩, rx_lateOf no hS hM hN (fun r er br => ⟨⟨by omega, by omega⟩, hq _ ?_⟩)⟩, fun k => ⟨⟨by omega, by omega⟩, hq _ ?_⟩⟩
  · have bb := hb k
    have r36 : (rd σ 36 (8 * p1 + p2)).toInt = vM σ 2 (8 * s + e) := vv_rd u2
    have r11 : (rd σ 11 p1).toInt = vv σ 11 s := vv_rd h1
    rw [if_neg k, dM_13 hs, i3_addc (x := r + rd σ 36 (8 * p1 + p2)) rfl r36 rfl (by omega), er, r11]
  · rw [if_pos k]; exact vv_rd h1
theorem rx_startEarly {Q : Int32 → VS → Prop} {p1 p2 : Int32} {σ : VS} {s e : Nat} (h1 : p1.toInt = (s : Int)) (h2 : p2.toInt = (e : Int)) (hs : s < nC σ) (he : e < 2) (hS : SI σ) (hM : MI σ) (hN : NdR σ) (hb : vv σ 2 s ≠ 0 → 0 ≤ vM σ 3 (8 * s + e) ∧ vM σ 3 (8 * s + e) ≤ 6000) (hq : ∀ r : Int32, r.toInt = saE σ (2 * s + e) → Q r σ) : wp_startEarly Q p1 p2 σ := by
  have a1 : 0 ≤ (σ.1 1).toInt ∧ (σ.1 1).toInt ≤ 50 := hM.1 1
  have en : (σ.1 1).toInt = ((nC σ : Nat) : Int) := by unfold nC; omega
  have d2 : (2 * s + e) / 2 = s := by omega
  have m2 : (2 * s + e) % 2 = e := by omega
  unfold saE at hq
  rw [d2, m2] at hq
  have r2 : (rd σ 2 p1).toInt = vv σ 2 s := vv_rd h1
  have u1 : (8 * p1).toInt = 8 * (s : Int) := i3_mulc rfl h1 rfl (by have q : (8 : Int32).toInt = 8 := rfl; omega)
  have u2 : (8 * p1 + p2).toInt = ((8 * s + e : Nat) : Int) := by
    have q := i3_addc (x := 8 * p1 + p2) u1 h2 rfl (by omega)
    omega
  have no := nd_ok hS hM (p1 := p1) (by omega)
  unfold wp_startEarly b_startEarly_40
  rw [r2]
  refine ⟨⟨by omega, by omega⟩, fun k => ⟨⟨by omega, by omega⟩, rx_earlyOf no hS hM hN (fun r er br => ⟨⟨by omega, by omega⟩, hq _ ?_⟩)⟩, fun k => ⟨⟨by omega, by omega⟩, hq _ ?_⟩⟩
  · have bb := hb k
    have r37 : (rd σ 37 (8 * p1 + p2)).toInt = vM σ 3 (8 * s + e) := vv_rd u2
    have r11 : (rd σ 11 p1).toInt = vv σ 11 s := vv_rd h1
    rw [if_neg k, dM_14 hs, i3_addc (x := r + rd σ 37 (8 * p1 + p2)) rfl r37 rfl (by omega), er, r11]
  · rw [if_pos k]; exact vv_rd h1
/-- delays of arcs that count are in range -/
theorem dlm_b {σ : VS} (hM : MI σ) (hL : ∀ c, c < nC σ → LE2 (dM σ) (vM σ) (vM σ) c) {c i e : Nat} (hc : c < nC σ) (hk : 0 < dM σ 0 c ∧ dM σ 0 c < 5) (r : vM σ 0 c ≠ 0) (o : vM σ 1 c = 0) (hi : i < ipN (dM σ) c) (he : e < 2) (a : acN (dM σ) (vM σ) c i) : (0 ≤ vM σ 2 (8 * c + 2 * i + e) ∧ vM σ 2 (8 * c + 2 * i + e) ≤ 6000) ∧ 0 ≤ vM σ 3 (8 * c + 2 * i + e) ∧ vM σ 3 (8 * c + 2 * i + e) ≤ 6000 := by
  have L := hL c hc
  have no : gN (dM σ) c → ¬ opN (dM σ) (vM σ) c := fun g k => by
    have q := L.2.2.2.2.1 g k
    omega
  have F := L.2.2.2.2.2 hk.1 hk.2 no
  have z := F.1
  rw [o] at z
  have z1 := stp_i z.symm
  have fz : ffF (acN (dM σ) (vM σ) c) (flN (dM σ) (vM σ) c e) (ipN (dM σ) c) = 0 := by
    rcases (show e = 0 ∨ e = 1 by omega) with q | q
    · rw [q]; exact z1.1
    · rw [q]; exact z1.2
  have f0 := ffF_z _ fz i hi a
  have G := (F.2 r o e he).1 i hi a
  have l4 : 0 ≤ lsN (dM σ) (vM σ) 4 c e i := by
    unfold lsN
    by_cases f4 : dM σ 0 c = 4
    · rw [if_pos f4]; omega
    · rw [if_neg f4]; exact (hM.2 38 _).1
  have l5 : 0 ≤ lsN (dM σ) (vM σ) 5 c e i := by
    unfold lsN
    by_cases f4 : dM σ 0 c = 4
    · rw [if_pos f4]; omega
    · rw [if_neg f4]; exact (hM.2 39 _).1
  have hn : ∀ j, 0 ≤ nmN (dM σ) j ∧ nmN (dM σ) j ≤ 3000 := fun j => hM.2 15 _
  have k3 : 0 ≤ dM σ 3 c := by
    rw [dM_3 hc]
    refine (ldF_b ?_ (fun j => ?_) _).1
    · unfold xtM
      have q : 0 ≤ vv σ 6 c ∧ vv σ 6 c ≤ 1000 := hM.2 6 c
      by_cases k : vv σ 2 c = 5
      · rw [if_pos k]; omega
      · rw [if_neg k]; exact q
    · unfold szM
      have q : 0 ≤ vv σ 5 j ∧ vv σ 5 j ≤ 2 := hM.2 5 j
      by_cases k : vv σ 2 j = 5
      · rw [if_pos k]; omega
      · rw [if_neg k]; exact q
  have k4 : 0 ≤ dM σ 4 c := by rw [dM_4 hc]; exact (hM.2 5 c).1
  have pL : 0 ≤ LN (dM σ) c := Int.ediv_nonneg (by omega) (by omega)
  have pE : 0 ≤ EN (dM σ) c := Int.ediv_nonneg (by omega) (by omega)
  have A := AW_0 (show AW (lfN (dM σ)) (dM σ 2 c) (LN (dM σ) c) (EN (dM σ) c) (lsN (dM σ) (vM σ) 4 c e i) (lsN (dM σ) (vM σ) 5 c e i) = 0 from f0)
  have kl : 0 ≤ dM σ 9 0 ∧ dM σ 9 0 ≤ 500 := hM.1 18
  have ke : 0 ≤ dM σ 9 1 ∧ dM σ 9 1 ≤ 500 := hM.1 19
  have km : 0 ≤ moN (dM σ) c e ∧ moN (dM σ) c e ≤ 1000 := by
    unfold moN
    by_cases q : e = 1
    · rw [if_pos q]; exact hM.2 17 _
    · rw [if_neg q]; omega
  rw [G.1, G.2]
  exact ⟨dlA_b (LU_b hn pL l4 A.1) kl km, deA_b (LU_b hn pE l5 A.2.2.1) ke km⟩
theorem TD.rk {σ : VS} (hM : MI σ) (hS : SI σ) (hD : TD σ) : ∃ ρ, Rk (dM σ) (nC σ) ρ ∧ ∀ c, c < nC σ → ρ c < 50 := by
  obtain ⟨pos, h1, h2, h3⟩ := hD.pos
  have a1 : 0 ≤ (σ.1 1).toInt ∧ (σ.1 1).toInt ≤ 50 := hM.1 1
  have a32 : 0 ≤ (σ.1 32).toInt ∧ (σ.1 32).toInt ≤ 50 := hM.1 32
  have en : (σ.1 1).toInt = ((nC σ : Nat) : Int) := by unfold nC; omega
  refine ⟨pos, fun c i hc hi g q => ?_, fun c hc => ?_⟩
  · have i4 := Nat.lt_of_lt_of_le hi (ip_4m hM c)
    have e5 : dM σ 5 (4 * c + i) = Tk σ (4 * c + i) := d5M hM (by omega)
    rw [e5] at q ⊢
    have lt := hS.1 (4 * c + i) (by omega)
    have gc := (gM_is hc).mp g
    have iI : (i : Int) < Ip σ c := by
      have q2 : ipN (dM σ) c = (Ip σ c).toNat := by unfold ipN; rw [dM_1 hc]; rfl
      omega
    have sn : (Tk σ (4 * c + i)).toNat < nC σ := by omega
    exact ⟨sn, fun _ => h3 c i hc gc iI q sn⟩
  · have k := (h1 c hc).1
    unfold oL at k
    omega
/-- what the reference's race of one START rests on -/
def RsM (σ : VS) (R s : Nat) (B : Nat → Nat → List (List Nat)) : Prop := (σ.1 25).toInt = (R : Int) ∧ (∀ c e, c < nC σ → B c e = BPs (dM σ) (vM σ 1) s B c e) ∧ (∀ c, c < nC σ → LE2 (dM σ) (vM σ) (vM σ) c) ∧ (s < nC σ ∧ (vv σ 2 s = 0 ∨ vv σ 2 s = 4) ∧ vM σ 1 s = 0) ∧ NdR σ
theorem RsM.reached {σ : VS} {R s : Nat} {B : Nat → Nat → List (List Nat)} (h : RsM σ R s B) : vM σ 0 s ≠ 0 := by
  obtain ⟨_, _, hL, ⟨hs, hk, ho⟩, _⟩ := h
  have L := hL s hs
  have d0 := dM_0 hs
  rcases hk with k | k
  · rw [(L.1 (by omega)).1]; decide
  · rw [L.2.2.1 (by omega)]; decide
theorem RsM.st {σ : VS} {R s : Nat} {B : Nat → Nat → List (List Nat)} (hM : MI σ) (hS : SI σ) (h : RsM σ R s B) {e : Nat} (he : e < 2) : (vv σ 2 s ≠ 0 → (0 ≤ vM σ 2 (8 * s + e) ∧ vM σ 2 (8 * s + e) ≤ 6000) ∧ 0 ≤ vM σ 3 (8 * s + e) ∧ vM σ 3 (8 * s + e) ≤ 6000) ∧ (0 ≤ saL σ (2 * s + e) ∧ saL σ (2 * s + e) ≤ 2400000) ∧ 0 ≤ saE σ (2 * s + e) ∧ saE σ (2 * s + e) ≤ 2400000 := by
  have hr := h.reached
  obtain ⟨_, _, hL, ⟨hs, hk, ho⟩, hN⟩ := h
  have a1 : 0 ≤ (σ.1 1).toInt ∧ (σ.1 1).toInt ≤ 50 := hM.1 1
  have h20 : 0 ≤ (σ.1 21).toInt ∧ (σ.1 21).toInt ≤ 20 := hM.1 21
  have en : (σ.1 1).toInt = ((nC σ : Nat) : Int) := by unfold nC; omega
  obtain ⟨N, eN⟩ : ∃ N : Nat, (σ.1 21).toInt = (N : Int) := ⟨(σ.1 21).toInt.toNat, by omega⟩
  have d0 := dM_0 hs
  have A : vv σ 2 s ≠ 0 → (0 ≤ vM σ 2 (8 * s + e) ∧ vM σ 2 (8 * s + e) ≤ 6000) ∧ 0 ≤ vM σ 3 (8 * s + e) ∧ vM σ 3 (8 * s + e) ≤ 6000 := fun k => by
    have k4 : vv σ 2 s = 4 := hk.resolve_left k
    have ip : ipN (dM σ) s = 1 := by
      have q : vv σ 3 s = 1 := hS.2.2.2.1 s (by omega) (by show 3 < vv σ 2 s; omega)
      unfold ipN
      rw [dM_1 hs, q]; rfl
    exact dlm_b hM hL (i := 0) hs (by omega) hr ho (by omega) he (Or.inl (by omega))
  have d2 : (2 * s + e) / 2 = s := by omega
  have m2 : (2 * s + e) % 2 = e := by omega
  refine ⟨A, ?_, ?_⟩
  · unfold saL
    rw [d2, m2]
    by_cases k : vv σ 2 s = 0
    · rw [if_pos k]
      have q : 0 ≤ vv σ 9 s ∧ vv σ 9 s ≤ 100000 := hM.2 9 s
      omega
    · rw [if_neg k, dM_13 hs]
      have lt : vv σ 11 s < (σ.1 21).toInt := hS.2.2.1 s (by omega)
      have ge : -1 ≤ vv σ 11 s ∧ vv σ 11 s ≤ 19 := hM.2 11 s
      have b1 := clS_b (par := vv σ 22) (w := vv σ 24) (N := N) (fun j hj => hS.2.1 j (by omega)) (fun j hj => (hN j (by omega)).2) 20 (vv σ 11 s) (by omega) (by omega)
      have b2 := (A k).1
      omega
  · unfold saE
    rw [d2, m2]
    by_cases k : vv σ 2 s = 0
    · rw [if_pos k]
      have q : 0 ≤ vv σ 8 s ∧ vv σ 8 s ≤ 100000 := hM.2 8 s
      omega
    · rw [if_neg k, dM_14 hs]
      have lt : vv σ 11 s < (σ.1 21).toInt := hS.2.2.1 s (by omega)
      have ge : -1 ≤ vv σ 11 s ∧ vv σ 11 s ≤ 19 := hM.2 11 s
      have b1 := clS_b (par := vv σ 22) (w := vv σ 23) (N := N) (fun j hj => hS.2.1 j (by omega)) (fun j hj => (hN j (by omega)).1) 20 (vv σ 11 s) (by omega) (by omega)
      have b2 := (A k).2
      omega
theorem RsM.bd {σ : VS} {R s : Nat} {B : Nat → Nat → List (List Nat)} (hM : MI σ) (hS : SI σ) (hD : TD σ) (h : RsM σ R s B) : ∀ c, c < nC σ → ∀ e p, p ∈ B c e → e < 2 → (0 ≤ LaM σ s p e ∧ LaM σ s p e ≤ 3000000) ∧ 0 ≤ EaM σ s p e ∧ EaM σ s p e ≤ 3000000 := by
  have hr := h.reached
  have hst := fun (e : Nat) (he : e < 2) => h.st hM hS (e := e) he
  obtain ⟨_, hB, hL, ⟨hs, hk, ho⟩, hN⟩ := h
  obtain ⟨ρ, hR, h50⟩ := TD.rk hM hS hD
  have BR := BP_reach hB hR hL hr
  have M : ∀ c, c < nC σ → ∀ e p, p ∈ B c e → e < 2 → ∃ z : Int, (0 ≤ z ∧ z ≤ 50) ∧ (gN (dM σ) c → z ≤ (ρ c : Int) + 1) ∧ (¬ gN (dM σ) c → z = 0) ∧ (0 ≤ LaM σ s p e ∧ LaM σ s p e ≤ 2400000 + 6000 * z) ∧ 0 ≤ EaM σ s p e ∧ EaM σ s p e ≤ 2400000 + 6000 * z := by
    refine BP_ind hB hR (P := fun c e p => e < 2 → ∃ z : Int, (0 ≤ z ∧ z ≤ 50) ∧ (gN (dM σ) c → z ≤ (ρ c : Int) + 1) ∧ (¬ gN (dM σ) c → z = 0) ∧ (0 ≤ LaM σ s p e ∧ LaM σ s p e ≤ 2400000 + 6000 * z) ∧ 0 ≤ EaM σ s p e ∧ EaM σ s p e ≤ 2400000 + 6000 * z) (fun e he => ?_) (fun c e i p hc hne g o hi q sn hp ih he => ?_)
    · have ob := (hst e he).2
      refine ⟨0, by omega, fun _ => by omega, fun _ => rfl, ?_, ?_⟩
      · show 0 ≤ saL σ (2 * s + e) ∧ saL σ (2 * s + e) ≤ 2400000 + 6000 * 0
        omega
      · show 0 ≤ saE σ (2 * s + e) ∧ saE σ (2 * s + e) ≤ 2400000 + 6000 * 0
        omega
    · obtain ⟨z, bz, z1, z2, c1, c2⟩ := ih (feN_lt _ _ he)
      have rk := hR c i hc hi g q
      have rc := h50 c hc
      have i4 := Nat.lt_of_lt_of_le hi (ip_4m hM c)
      have dw : (4 * c + i) / 4 = c := by omega
      have e8 : 2 * (4 * c + i) + e = 8 * c + 2 * i + e := by omega
      have rs := BR _ sn _ p hp
      have ac : acN (dM σ) (vM σ) c i := Or.inr ⟨q, rs⟩
      have r0 : vM σ 0 c ≠ 0 := by
        rcases (hL c hc).2.2.2.1 g with ⟨v, _⟩ | ⟨_, k⟩
        · omega
        · exact absurd ac (k i hi)
      have db := dlm_b hM hL hc ⟨g.1, by have := g.2; omega⟩ r0 o hi he ac
      have zl : z ≤ (ρ c : Int) := by
        by_cases g2 : gN (dM σ) (dM σ 5 (4 * c + i)).toNat
        · have k1 := z1 g2
          have k2 := rk.2 g2
          omega
        · have k1 := z2 g2
          omega
      refine ⟨z + 1, by omega, fun _ => by omega, fun n => absurd g n, ?_, ?_⟩
      · unfold LaM at c1 ⊢
        show 0 ≤ ltP (feN (dM σ)) (saL σ) (vM σ 2) s p (feN (dM σ) ((4 * c + i) / 4) e) + vM σ 2 (2 * (4 * c + i) + e) ∧ ltP (feN (dM σ)) (saL σ) (vM σ 2) s p (feN (dM σ) ((4 * c + i) / 4) e) + vM σ 2 (2 * (4 * c + i) + e) ≤ 2400000 + 6000 * (z + 1)
        rw [dw, e8]
        omega
      · unfold EaM at c2 ⊢
        show 0 ≤ ltP (feN (dM σ)) (saE σ) (vM σ 3) s p (feN (dM σ) ((4 * c + i) / 4) e) + vM σ 3 (2 * (4 * c + i) + e) ∧ ltP (feN (dM σ)) (saE σ) (vM σ 3) s p (feN (dM σ) ((4 * c + i) / 4) e) + vM σ 3 (2 * (4 * c + i) + e) ≤ 2400000 + 6000 * (z + 1)
        rw [dw, e8]
        omega
  intro c hc e p hp he
  obtain ⟨z, bz, _, _, q1, q2⟩ := M c hc e p hp he
  omega
