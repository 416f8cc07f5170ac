/-! ARRIVALS ON BOTH SIDES -/
theorem ArM_c {D V V' : Nat → Nat → Int} {d e : Nat} {l g : Int} (he : e < 2) (h0 : V' 0 = V 0) (h2 : V' 2 = V 2) (h3 : V' 3 = V 3) (hs : D 0 d ≠ 0 → D 0 d ≠ 4 → ∀ i, i < ipN D d → 0 ≤ D 5 (4 * d + i) → ∀ f, f < 2 → V' 6 (2 * (D 5 (4 * d + i)).toNat + f) = V 6 (2 * (D 5 (4 * d + i)).toNat + f) ∧ V' 7 (2 * (D 5 (4 * d + i)).toNat + f) = V 7 (2 * (D 5 (4 * d + i)).toNat + f)) (h : ArM D V d e l g) : ArM D V' d e l g := by
  refine ⟨h.1, fun k => ?_⟩
  have q := h.2 k
  have ac : ∀ i, acN D V d i ↔ acN D V' d i := fun i => by unfold acN; rw [h0]
  have al : ∀ i, i < ipN D d → acN D V d i → alN D V 6 d e i = alN D V' 6 d e i ∧ alN D V 7 d e i = alN D V' 7 d e i := fun i hi a => by
    unfold alN
    by_cases k4 : D 0 d = 4
    · rw [if_pos k4, if_pos k4, if_pos k4, if_pos k4]; exact ⟨rfl, rfl⟩
    · rw [if_neg k4, if_neg k4, if_neg k4, if_neg k4]
      have w := hs k k4 i hi (a.resolve_left k4).1 (feN D d e) (feN_lt D d he)
      exact ⟨w.1.symm, w.2.symm⟩
  refine ⟨q.1.trans (mxF_c _ (fun i _ => ac i) (fun i hi a => ?_)), q.2.trans (mnF_c _ (fun i _ => ac i) (fun i hi a => ?_))⟩
  · show alN D V 6 d e i + V 2 (8 * d + 2 * i + e) = alN D V' 6 d e i + V' 2 (8 * d + 2 * i + e)
    rw [(al i hi a).1, h2]
  · show alN D V 7 d e i + V 3 (8 * d + 2 * i + e) = alN D V' 7 d e i + V' 3 (8 * d + 2 * i + e)
    rw [(al i hi a).2, h3]
theorem LE2_v {D V V' : Nat → Nat → Int} {c : Nat} (h0 : V' 0 = V 0) (h1 : V' 1 = V 1) (h2 : V' 2 = V 2) (h3 : V' 3 = V 3) (h4 : V' 4 = V 4) (h5 : V' 5 = V 5) (h : LE2 D V V c) : LE2 D V' V' c := by
  have ea : acN D V' = acN D V := by funext c i; unfold acN; rw [h0]
  have eo : opN D V' = opN D V := by funext c; unfold opN; rw [h1]
  have e4 : lsN D V' 4 = lsN D V 4 := by funext c e i; unfold lsN; rw [h4]
  have e5 : lsN D V' 5 = lsN D V 5 := by funext c e i; unfold lsN; rw [h5]
  have ef : flN D V' = flN D V := by funext c e i; unfold flN; rw [e4, e5]
  have ed : dlN D V' = dlN D V := by funext c e i; unfold dlN; rw [e4]
  have ee : deN D V' = deN D V := by funext c e i; unfold deN; rw [e5]
  have eg : glN D V' = glN D V := by funext c e i; unfold glN; rw [e4]
  have eh : geN D V' = geN D V := by funext c e i; unfold geN; rw [e5]
  unfold LE2
  rw [ea, eo, ef, ed, ee, eg, eh, h0, h1, h2, h3, h4, h5]
  exact h
/-- the outputs of S have their arrivals -/
def DnA (D V : Nat → Nat → Int) (b : Int) (S : Nat → Nat → Prop) : Prop := ∀ c e, S c e → D 0 c ≠ 5 → V 0 c ≠ 0 → V 1 c = 0 → e < 2 → ArM D V c e (V 6 (2 * c + e)) (V 7 (2 * c + e)) ∧ (0 ≤ V 6 (2 * c + e) ∧ V 6 (2 * c + e) ≤ b) ∧ 0 ≤ V 7 (2 * c + e) ∧ V 7 (2 * c + e) ≤ b
theorem DnA.wr {D V V' : Nat → Nat → Int} {b : Int} {S : Nat → Nat → Prop} {d e : Nat} {l g : Int} (he : e < 2) (h : DnA D V b S) (h0 : V' 0 = V 0) (h1 : V' 1 = V 1) (h2 : V' 2 = V 2) (h3 : V' 3 = V 3) (h6 : V' 6 = fu (V 6) (2 * d + e) l) (h7 : V' 7 = fu (V 7) (2 * d + e) g) (hS : ∀ a f, S a f → f < 2 → 2 * a + f ≠ 2 * d + e) (hk : ∀ a f, S a f → D 0 a ≠ 0 → D 0 a ≠ 4 → D 0 a ≠ 5 → ∀ i, i < ipN D a → 0 ≤ D 5 (4 * a + i) → (D 5 (4 * a + i)).toNat ≠ d) : DnA D V' b S := by
  intro a f s k5 r o hf
  rw [h0] at r
  rw [h1] at o
  have q := h a f s k5 r o hf
  have ne := hS a f s hf
  rw [h6, h7, fu_ne ne, fu_ne ne]
  refine ⟨ArM_c hf h0 h2 h3 (fun k0 k4 i hi p f2 hf2 => ?_) q.1, q.2⟩
  have w := hk a f s k0 k4 k5 i hi p
  have nw : 2 * (D 5 (4 * a + i)).toNat + f2 ≠ 2 * d + e := by omega
  rw [h6, h7, fu_ne nw, fu_ne nw]
  exact ⟨rfl, rfl⟩
theorem RQ.ar {τ x y : VS} (h : RQ τ x) (E : Eo [] [40, 41] x y) (M : MI y) : RQ τ y := by
  obtain ⟨⟨Mx, S, W, Z, I⟩, Ex⟩ := h
  exact ⟨⟨M, S.same E (by decide), W.same E (by decide), Z.sz E (by decide) (fun c _ => by rw [vv_eo E (by decide)]), I.same E (by decide)⟩, Ex.trans (E.mono (by decide) (by decide))⟩
theorem vM_ar {x y : VS} (E : Eo [] [40, 41] x y) : vM y 0 = vM x 0 ∧ vM y 1 = vM x 1 ∧ vM y 2 = vM x 2 ∧ vM y 3 = vM x 3 ∧ vM y 4 = vM x 4 ∧ vM y 5 = vM x 5 := by
  have p : ∀ k, 34 + k ∉ [40, 41] → vM y k = vM x k := fun k hk => by
    funext j
    show vv y (34 + k) j = vv x (34 + k) j
    rw [vv_eo E hk]
  exact ⟨p 0 (by decide), p 1 (by decide), p 2 (by decide), p 3 (by decide), p 4 (by decide), p 5 (by decide)⟩
set_option maxHeartbeats 1000000 in
theorem rx_arrival {Q : Int32 → VS → Prop} {p1 p2 p3 : Int32} {τ : VS} {c e : Nat} (B : RB τ) (ec : p1.toInt = (c : Int)) (cn : c < nC τ) (k5 : vv τ 2 c ≠ 5) (ee : p2.toInt = (e : Int)) (he : e < 2) (hp : 0 ≤ p3.toInt ∧ p3.toInt ≤ 3) (hq : ∀ (r : Int32) (y : VS), RQ τ y → (∀ a, a < nC τ → LE2 (dM τ) (vM y) (vM y) a) → ((vM y 0 c = 0 ∨ vM y 1 c ≠ 0) → r = -1000000) → (vM y 0 c ≠ 0 → vM y 1 c = 0 → (p3.toInt = 2 → r.toInt = vM y 4 (2 * c + e)) ∧ (p3.toInt = 3 → r.toInt = vM y 5 (2 * c + e)) ∧ ((p3.toInt = 0 ∨ p3.toInt = 1) → ∀ a, a < nC τ → LA2 (dM τ) (vM y) (vM y) a) ∧ (p3.toInt = 0 → r.toInt = vM y 6 (2 * c + e)) ∧ (p3.toInt = 1 → r.toInt = vM y 7 (2 * c + e))) → Q r y) : wp_arrival Q p1 p2 p3 τ := by
  have M : MI τ := B.1
  have a1 : 0 ≤ (τ.1 1).toInt ∧ (τ.1 1).toInt ≤ 50 := M.1 1
  have en : (τ.1 1).toInt = ((nC τ : Nat) : Int) := by unfold nC; omega
  unfold wp_arrival
  intro X101 X156 H101 H156
  refine cell_x (fun _ => ⟨fun w => absurd w (by decide), fun _ => ⟨⟨by omega, by omega⟩, fun w => absurd ((vv_rd ec).symm.trans w) k5, fun _ => ⟨fun w => by omega, fun _ => ⟨fun w => by omega, fun _ => ⟨fun w => by omega, fun _ => ⟨fun _ => ?_, fun w => by omega⟩⟩⟩⟩⟩⟩) (fun z => absurd ⟨by omega, by omega⟩ z)
  refine rx_timeQ B (fun x Rx Tx Lx => ?_)
  have Mx : MI x := Rx.1.1
  have nx : nC x = nC τ := by unfold nC; rw [Rx.2.1 1 (by decide)]
  have dx : dM x = dM τ := dM_q Rx.2 (by decide) (by decide) (vv_eo Rx.2 (by decide))
  have r34 : (rd x 34 p1).toInt = vM x 0 c := vv_rd ec
  have r35 : (rd x 35 p1).toInt = vM x 1 c := vv_rd ec
  have u1 : (2 * p1).toInt = 2 * (c : Int) := i3_mulc rfl ec rfl (by have w : (2 : Int32).toInt = 2 := rfl; omega)
  have u2 : ((2 * p1) + p2).toInt = ((2 * c + e : Nat) : Int) := by
    have w := i3_addc (x := (2 * p1) + p2) u1 ee rfl (by omega)
    omega
  refine ⟨⟨by omega, by omega⟩, fun w => hq _ x Rx Lx (fun _ => rfl) (fun a _ => absurd (r34.symm.trans w) a), fun w => ⟨⟨by omega, by omega⟩, fun w2 => ?_, fun w2 => hq _ x Rx Lx (fun _ => rfl) (fun _ o => absurd (r35.trans o) w2)⟩⟩
  have rc : vM x 0 c ≠ 0 := fun z => w (r34.trans z)
  have oc : vM x 1 c = 0 := r35.symm.trans w2
  have no : ∀ r : Int32, (vM x 0 c = 0 ∨ vM x 1 c ≠ 0) → r = -1000000 := fun r z => by
    rcases z with z | z
    · exact absurd z rc
    · exact absurd oc z
  refine ⟨fun n2 => ⟨fun n3 => ?_, fun y3 => ⟨⟨by omega, by omega⟩, hq _ x Rx Lx (no _) (fun _ _ => ⟨fun z => by omega, fun _ => vv_rd u2, fun z => by omega, fun z => by omega, fun z => by omega⟩)⟩⟩, fun y2 => ⟨⟨by omega, by omega⟩, hq _ x Rx Lx (no _) (fun _ _ => ⟨fun _ => vv_rd u2, fun z => by omega, fun z => by omega, fun z => by omega, fun z => by omega⟩)⟩⟩
  have p01 : p3.toInt = 0 ∨ p3.toInt = 1 := by omega
  obtain ⟨ρ, hW⟩ := SI.wo B.1 B.2.1 B.2.2.1
  have b32 : 0 ≤ (x.1 32).toInt ∧ (x.1 32).toInt ≤ 50 := Mx.1 32
  have eo : (x.1 32).toInt = ((oL x : Nat) : Int) := by unfold oL; omega
  have src : ∀ j, j < oL x → gN (dM τ) (oN x j) → ∀ i, i < ipN (dM τ) (oN x j) → 0 ≤ dM τ 5 (4 * oN x j + i) → ∃ j', j' < j ∧ oN x j' = (dM τ 5 (4 * oN x j + i)).toNat := fun j hj g i hi q => by
    rw [← dx] at g hi q ⊢
    have hc := Tx.2.1 j hj
    have i4 := Nat.lt_of_lt_of_le hi (ip_4m Mx (oN x j))
    have e5 : dM x 5 (4 * oN x j + i) = Tk x (4 * oN x j + i) := d5M Mx (by omega)
    rw [e5] at q ⊢
    have q2 : ipN (dM x) (oN x j) = (Ip x (oN x j)).toNat := by unfold ipN; rw [dM_1 hc]; rfl
    exact Tx.2.2.2.1 j hj ((gM_is hc).mp g) i (by omega) q
  have kb : ∀ a, a < nC τ → 0 ≤ dM τ 0 a ∧ dM τ 0 a ≤ 5 := hW.2.1
  have inj := Tx.2.2.1
  have L101 : ∀ (n k : Nat) (l4 : Int32) (y : VS), oL x + 1 ≤ n + k → k ≤ oL x → l4.toInt = (k : Int) → MI y → Eo [] [40, 41] x y → DnA (dM τ) (vM y) (2400000 + 6000 * (k : Int)) (fun a _ => ∃ j, j < k ∧ oN x j = a) → X101 p1 p2 p3 l4 y := by
    intro n
    induction n with
    | zero => intro k l4 y a b; omega
    | succ n ih =>
      intro k l4 y ha hk e4 My Ey hD
      obtain ⟨v0, v1, v2, v3, v4, v5⟩ := vM_ar Ey
      have Ry : RQ τ y := Rx.ar Ey My
      have Ly : ∀ a, a < nC τ → LE2 (dM τ) (vM y) (vM y) a := fun a h => LE2_v v0 v1 v2 v3 v4 v5 (Lx a h)
      refine H101 _ _ _ _ _ ?_
      unfold b_arrival_101
      rw [Ey.1 32 (by decide), eo, e4]
      refine ⟨fun z => ?_, fun z => ⟨⟨by omega, by omega⟩, fun x5 e5 => ?_⟩⟩
      · have ek : k = oL x := by omega
        have LA : ∀ a, a < nC τ → LA2 (dM τ) (vM y) (vM y) a := fun a h => by
          obtain ⟨j, hj, ej⟩ := Tx.1 a (by omega)
          have sj : ∃ j, j < k ∧ oN x j = a := ⟨j, by omega, ej⟩
          refine ⟨fun k0 f hf => ?_, fun h1 h2 r o f hf => ?_⟩
          · have q := (Ly a h).1 k0
            exact (hD a f sj (by omega) (by omega) q.2.1 hf).1.1 k0
          · exact (hD a f sj (by omega) r o hf).1.2 (by omega)
        have no2 : ∀ r : Int32, (vM y 0 c = 0 ∨ vM y 1 c ≠ 0) → r = -1000000 := fun r z2 => no r (by rw [v0, v1] at z2; exact z2)
        exact ⟨fun z3 => ⟨⟨by omega, by omega⟩, hq _ y Ry Ly (no2 _) (fun _ _ => ⟨fun z4 => by omega, fun z4 => by omega, fun _ => LA, fun z4 => by omega, fun _ => vv_rd u2⟩)⟩, fun z3 => ⟨⟨by omega, by omega⟩, hq _ y Ry Ly (no2 _) (fun _ _ => ⟨fun z4 => by omega, fun z4 => by omega, fun _ => LA, fun _ => vv_rd u2, fun z4 => by omega⟩)⟩⟩
      · have kl : k < oL x := by omega
        have b31 : 0 ≤ vv x 31 k ∧ vv x 31 k ≤ 49 := Mx.2 31 k
        obtain ⟨d, ed⟩ : ∃ d : Nat, d = oN x k := ⟨_, rfl⟩
        have t5 : x5.toInt = (d : Int) := by
          have w3 : x5.toInt = vv x 31 k := by rw [e5, vv_rd e4, vv_eo Ey (by decide)]
          have w4 : oN x k = (vv x 31 k).toNat := rfl
          omega
        have dn : d < nC τ := by
          have q := Tx.2.1 k kl
          omega
        have t4 : (l4 + 1).toInt = ((k + 1 : Nat) : Int) := by
          have w := i3_addc (x := l4 + 1) e4 (show (1 : Int32).toInt = 1 from rfl) rfl (by omega)
          omega
        have nxt : ∀ y2 : VS, MI y2 → Eo [] [40, 41] x y2 → DnA (dM τ) (vM y2) (2400000 + 6000 * (k : Int)) (fun a _ => ∃ j, j < k ∧ oN x j = a) → DnA (dM τ) (vM y2) (2400000 + 6000 * ((k + 1 : Nat) : Int)) (fun a f => a = d ∧ f < 2) → X101 p1 p2 p3 (l4 + 1) y2 := fun y2 M2 E2 h1 h2 => by
          refine ih (k + 1) (l4 + 1) y2 (by omega) (by omega) t4 M2 E2 (fun a f s k5a r o hf => ?_)
          obtain ⟨j, hj, ej⟩ := s
          by_cases z2 : j = k
          · exact h2 a f ⟨by rw [← ej, z2, ed], hf⟩ k5a r o hf
          · have q := h1 a f ⟨j, by omega, ej⟩ k5a r o hf
            refine ⟨q.1, ?_, ?_⟩
            · have q2 := q.2.1
              omega
            · have q2 := q.2.2
              omega
        have kd : (rd y 2 x5).toInt = dM τ 0 d := by rw [vv_rd t5, vv_eo Ey (by decide), vv_eo Rx.2 (by decide), dM_0 dn]
        have q34 : (rd y 34 x5).toInt = vM x 0 d := by rw [vv_rd t5, vv_eo Ey (by decide)]; rfl
        have q35 : (rd y 35 x5).toInt = vM x 1 d := by rw [vv_rd t5, vv_eo Ey (by decide)]; rfl
        have d50 : d < 50 := by omega
        refine ⟨⟨by omega, by omega⟩, fun z5 => nxt y My Ey hD (fun a f s k5a r o hf => absurd (by rw [s.1, ← kd]; exact z5) k5a), fun z5 => ⟨⟨by omega, by omega⟩, fun z6 => nxt y My Ey hD (fun a f s k5a r o hf => absurd (by rw [s.1, v0, ← q34]; exact z6) r), fun z6 => ⟨⟨by omega, by omega⟩, fun z7 => ?_, fun z7 => nxt y My Ey hD (fun a f s k5a r o hf => absurd (by rw [q35, ← v1, ← s.1]; exact o) z7)⟩⟩⟩
        rw [kd] at z5
        rw [q34] at z6
        rw [q35] at z7
        have own : gN (dM τ) d → ∀ i, i < ipN (dM τ) d → 0 ≤ dM τ 5 (4 * d + i) → (dM τ 5 (4 * d + i)).toNat ≠ d := fun g i hi q z8 => by
          rw [ed] at g hi q z8
          obtain ⟨j', hj', ej'⟩ := src k kl g i hi q
          have e2 := inj j' k (by omega) kl (by rw [ej']; exact z8)
          omega
        have old : ∀ j, j < k → gN (dM τ) (oN x j) → ∀ i, i < ipN (dM τ) (oN x j) → 0 ≤ dM τ 5 (4 * oN x j + i) → (dM τ 5 (4 * oN x j + i)).toNat ≠ d := fun j hj g i hi q z8 => by
          obtain ⟨j', hj', ej'⟩ := src j (by omega) g i hi q
          have e2 := inj j' k (by omega) kl (by rw [ej', z8, ed])
          omega
        have onk : ∀ j, j < k → oN x j ≠ d := fun j hj z8 => by
          have e2 := inj j k (by omega) kl (by rw [z8, ed])
          omega
        have L156 : ∀ (m f : Nat) (l6 : Int32) (z : VS), 3 ≤ m + f → f ≤ 2 → l6.toInt = (f : Int) → MI z → Eo [] [40, 41] x z → DnA (dM τ) (vM z) (2400000 + 6000 * (k : Int)) (fun a _ => ∃ j, j < k ∧ oN x j = a) → DnA (dM τ) (vM z) (2400000 + 6000 * ((k + 1 : Nat) : Int)) (fun a g => a = d ∧ g < f) → X156 p1 p2 p3 l4 x5 l6 z := by
          intro m
          induction m with
          | zero => intro f l6 z a b; omega
          | succ m ihm =>
            intro f l6 z hm hf2 e6 Mz Ez h1 h2
            refine H156 _ _ _ _ _ _ _ ?_
            unfold b_arrival_156
            rw [e6]
            refine ⟨fun z9 => ?_, fun z9 => ?_⟩
            · have f2 : f = 2 := by omega
              rw [f2] at h2
              exact nxt z Mz Ez h1 h2
            · have hf : f < 2 := by omega
              obtain ⟨c0, c1, c2, c3, c4, c5⟩ := vM_ar Ez
              have Rz : RQ τ z := Rx.ar Ez Mz
              have nz : nC z = nC τ := by unfold nC; rw [Rz.2.1 1 (by decide)]
              have dz : dM z = dM τ := dM_q Rz.2 (by decide) (by decide) (vv_eo Rz.2 (by decide))
              have Lz : ∀ a, a < nC τ → LE2 (dM τ) (vM z) (vM z) a := fun a h => LE2_v c0 c1 c2 c3 c4 c5 (Lx a h)
              have rd' : vM z 0 d ≠ 0 := by rw [c0]; exact z6
              have od' : vM z 1 d = 0 := by rw [c1]; exact z7
              have t6 : (l6 + 1).toInt = ((f + 1 : Nat) : Int) := by
                have w := i3_addc (x := l6 + 1) e6 (show (1 : Int32).toInt = 1 from rfl) rfl (by omega)
                omega
              have hO : gN (dM τ) d → ∀ i, i < ipN (dM τ) d → acN (dM τ) (vM z) d i → ∀ f, f < 2 → (0 ≤ vv z 40 (2 * (dM τ 5 (4 * d + i)).toNat + f) ∧ vv z 40 (2 * (dM τ 5 (4 * d + i)).toNat + f) ≤ 2400000 + 6000 * (k : Int)) ∧ 0 ≤ vv z 41 (2 * (dM τ 5 (4 * d + i)).toNat + f) ∧ vv z 41 (2 * (dM τ 5 (4 * d + i)).toNat + f) ≤ 2400000 + 6000 * (k : Int) := fun g i hi ac f hf => by
                have g2 := g.2
                have a2 := ac.resolve_left (by omega)
                have no3 : ¬ opN (dM τ) (vM z) d := fun w => by
                  have q := (Lz d dn).2.2.2.2.1 g w
                  omega
                have o2 : vM z 1 (dM τ 5 (4 * d + i)).toNat = 0 := Decidable.not_not.mp (fun w => no3 ⟨i, hi, a2.1, w⟩)
                have sn : (dM τ 5 (4 * d + i)).toNat < nC τ := (hW.1 d i dn hi g a2.1).1
                have k5s : dM τ 0 (dM τ 5 (4 * d + i)).toNat ≠ 5 := fun w => a2.2 ((Lz _ sn).2.1 w).1
                have sj : ∃ j, j < k ∧ oN x j = (dM τ 5 (4 * d + i)).toNat := by
                  rw [ed] at g hi a2 ⊢
                  exact src k kl g i hi a2.1
                exact (h1 _ f sj k5s a2.2 o2 hf).2
              have hns : gN (dM τ) d → ∀ i, i < ipN (dM τ) d → 0 ≤ dM τ 5 (4 * d + i) → (dM τ 5 (4 * d + i)).toNat ≠ d := own
              refine rx_arrive (ρ := ρ) (b := 2400000 + 6000 * (k : Int)) t5 e6 (by omega) hf Mz Rz.1.2.1 Rz.1.2.2.2.1.2.1 (by rw [dz, nz]; exact hW) ⟨(z.1 25).toInt.toNat, by have q : 0 ≤ (z.1 25).toInt ∧ (z.1 25).toInt ≤ 4 := Mz.1 25; omega⟩ (fun a h => by rw [dz]; exact Lz a (by omega)) (by rw [dz]; exact z5) rd' od' ⟨by omega, by omega⟩ (by rw [dz]; exact hO) (by rw [dz]; exact hns) (fun w l g Mw Ew w40 w41 bl bg ar => ?_)
              rw [dz] at ar
              obtain ⟨s0, s1, s2, s3, _, _⟩ := vM_ar Ew
              have Exw : Eo [] [40, 41] x w := Ez.trans Ew
              have gd : dM τ 0 d ≠ 0 → dM τ 0 d ≠ 4 → gN (dM τ) d := fun k0 k4 => by
                have q := kb d dn
                exact ⟨by omega, by omega⟩
              have n1 : DnA (dM τ) (vM w) (2400000 + 6000 * (k : Int)) (fun a _ => ∃ j, j < k ∧ oN x j = a) := by
                refine h1.wr hf s0 s1 s2 s3 w40 w41 (fun a f2 s hf2 => ?_) (fun a f2 s k0 k4 k5a i hi q => ?_)
                · obtain ⟨j, hj, ej⟩ := s
                  have q := onk j hj
                  omega
                · obtain ⟨j, hj, ej⟩ := s
                  rw [← ej] at k0 k4 k5a hi q ⊢
                  have q3 := kb (oN x j) (by have q4 := Tx.2.1 j (by omega); omega)
                  exact old j hj ⟨by omega, by omega⟩ i hi q
              have n2 : DnA (dM τ) (vM w) (2400000 + 6000 * ((k + 1 : Nat) : Int)) (fun a g => a = d ∧ g < f) := by
                refine h2.wr hf s0 s1 s2 s3 w40 w41 (fun a f2 s hf2 => ?_) (fun a f2 s k0 k4 k5a i hi q => ?_)
                · obtain ⟨s1', s2'⟩ := s
                  omega
                · obtain ⟨s1', s2'⟩ := s
                  rw [s1'] at k0 k4 hi q ⊢
                  exact own (gd k0 k4) i hi q
              refine ihm (f + 1) (l6 + 1) w (by omega) (by omega) t6 Mw Exw n1 (fun a f2 s k5a r o hf2 => ?_)
              obtain ⟨s1', s2'⟩ := s
              by_cases z8 : f2 = f
              · have e6' : vM w 6 (2 * d + f) = l := by
                  show vv w 40 (2 * d + f) = l
                  rw [w40, fu_eq]
                have e7' : vM w 7 (2 * d + f) = g := by
                  show vv w 41 (2 * d + f) = g
                  rw [w41, fu_eq]
                rw [s1', z8, e6', e7']
                refine ⟨ArM_c hf s0 s2 s3 (fun k0 k4 i hi q f3 hf3 => ?_) ar, by omega, by omega⟩
                have q3 := own (gd k0 k4) i hi q
                have nw : 2 * (dM τ 5 (4 * d + i)).toNat + f3 ≠ 2 * d + f := by omega
                show vv w 40 _ = vv z 40 _ ∧ vv w 41 _ = vv z 41 _
                rw [w40, w41, fu_ne nw, fu_ne nw]
                exact ⟨rfl, rfl⟩
              · exact n2 a f2 ⟨s1', by omega⟩ k5a r o hf2
        exact L156 3 0 0 y (by omega) (by omega) rfl My Ey hD (fun a f s => absurd s.2 (Nat.not_lt_zero _))
  exact L101 (oL x + 1) 0 0 x (by omega) (by omega) rfl Mx Eo.rfl (fun a f s => by
    obtain ⟨j, hj, _⟩ := s
    exact absurd hj (Nat.not_lt_zero _))
theorem rx_arrR {Q : Int32 → VS → Prop} {p1 p2 p3 : Int32} {τ : VS} (M : MI τ) (h : ¬ ((0 ≤ p1.toInt ∧ p1.toInt < (τ.1 1).toInt) ∧ (rd τ 2 p1).toInt ≠ 5 ∧ (0 ≤ p2.toInt ∧ p2.toInt ≤ 1) ∧ 0 ≤ p3.toInt ∧ p3.toInt ≤ 3)) (hq : Q (-1000000) τ) : wp_arrival Q p1 p2 p3 τ := by
  have a1 : 0 ≤ (τ.1 1).toInt ∧ (τ.1 1).toInt ≤ 50 := M.1 1
  unfold wp_arrival
  intro X101 X156 _ _
  exact cell_x (fun z => ⟨fun w => absurd w (by decide), fun _ => ⟨⟨by omega, by omega⟩, fun _ => hq, fun k => ⟨fun _ => hq, fun a => ⟨fun _ => hq, fun b => ⟨fun _ => hq, fun c => ⟨fun d => absurd ⟨z, k, ⟨a, b⟩, c, d⟩ h, fun _ => hq⟩⟩⟩⟩⟩⟩) (fun _ => ⟨fun _ => hq, fun w => absurd rfl w⟩)
theorem qu_arrival {p1 p2 p3 : Int32} {σ τ : VS} (J : Ju σ τ) : wp_X9arrival (fun r σ' => wp_arrival (fun r2 τ' => r = r2 ∧ Ju σ' τ') p1 p2 p3 τ) p1 p2 p3 σ := by
  obtain ⟨wd, wu, wn, wr, wl⟩ := J.wd
  have nn := J.nn
  have i0 : (0 : Int32).toInt = 0 := rfl
  have i1 : (1 : Int32).toInt = 1 := rfl
  unfold wp_X9arrival b_X9arrival_33 b_X9arrival_64
  refine xhas_x (fun h => ⟨fun w => absurd w (by decide), fun _ => ?_⟩) (fun h => ⟨fun _ => rx_arrR J.rb.1 (fun z => h ⟨z.1.1, by have q := z.1.2; omega⟩) ⟨rfl, J⟩, fun w => absurd rfl w⟩)
  obtain ⟨c, ec, cn, c5, kd, kb⟩ := J.cell h
  have k2 : (rd τ 2 p1).toInt = (rd σ 11 p1).toInt := by rw [vv_rd ec, vv_rd ec, kd]
  refine ⟨⟨by omega, by omega⟩, fun w => rx_arrR J.rb.1 (fun z => z.2.1 (by rw [k2]; exact w)) ⟨rfl, J⟩, fun n5 => ?_⟩
  refine xwithin_x (fun h2 => ⟨fun _ => ?_, fun w => absurd w (by decide)⟩) (fun h2 => ⟨fun w => absurd rfl w, fun _ => rx_arrR J.rb.1 (fun z => h2 ⟨by have q := z.2.2.1.1; omega, by have q := z.2.2.1.2; omega⟩) ⟨rfl, J⟩⟩)
  rw [i0, i1] at h2
  obtain ⟨e, ee⟩ : ∃ e : Nat, p2.toInt = (e : Int) := ⟨p2.toInt.toNat, by omega⟩
  have he : e < 2 := by omega
  obtain ⟨ρ, hW⟩ := J.1.wo
  refine cx_timeQ J (fun x Cx Lx Ax => ?_)
  have ref : ∀ r : Int32, ((vC x 0 c = 0 ∨ vC x 1 c ≠ 0) → r = -1000000) → (vC x 0 c ≠ 0 → vC x 1 c = 0 → (p3.toInt = 0 → r.toInt = vC x 6 (2 * c + e)) ∧ (p3.toInt = 1 → r.toInt = vC x 7 (2 * c + e)) ∧ (p3.toInt = 2 → r.toInt = vC x 4 (2 * c + e)) ∧ (p3.toInt = 3 → r.toInt = vC x 5 (2 * c + e)) ∧ ((p3.toInt < 0 ∨ 3 < p3.toInt) → r = -1000000)) → wp_arrival (fun r2 τ' => r = r2 ∧ Ju x τ') p1 p2 p3 τ := fun r hno hyes => by
    by_cases h3 : 0 ≤ p3.toInt ∧ p3.toInt ≤ 3
    · refine rx_arrival J.rb ec (by omega) (by rw [← kd]; exact fun w => n5 ((vv_rd ec).trans w)) ee he h3 (fun r2 y Ry Ly gno gyes => ⟨?_, J.qq Cx Ry⟩)
      have Ly' : ∀ a, a < nCl σ → LE2 (dC σ) (vM y) (vM y) a := fun a ha => by rw [wd]; exact Ly a (by omega)
      have U := (un_le hW.1 hW.2.1 Lx Ly' c cn).1
      obtain ⟨U0, U1, U4⟩ := U
      by_cases z : vC x 0 c = 0 ∨ vC x 1 c ≠ 0
      · rw [hno z, gno (by rw [← U0, ← U1]; exact z)]
      · have r0 : vC x 0 c ≠ 0 := fun w => z (Or.inl w)
        have o0 : vC x 1 c = 0 := Decidable.not_not.mp (fun w => z (Or.inr w))
        obtain ⟨y0, y1, y2, y3, _⟩ := hyes r0 o0
        obtain ⟨g2, g3, gL, g0, g1⟩ := gyes (by rw [← U0]; exact r0) (by rw [← U1]; exact o0)
        have q4 := U4 r0 o0 e he
        refine Int32.toInt_inj.mp ?_
        by_cases p01 : p3.toInt = 0 ∨ p3.toInt = 1
        · have LA' : ∀ a, a < nCl σ → LA2 (dC σ) (vM y) (vM y) a := fun a ha => by rw [wd]; exact gL p01 a (by omega)
          have q6 := un_la hW.1 hW.2.1 Lx Ly' Ax LA' c cn r0 o0 e he
          rcases p01 with p | p
          · rw [y0 p, g0 p]; exact q6.1
          · rw [y1 p, g1 p]; exact q6.2
        · by_cases p : p3.toInt = 2
          · rw [y2 p, g2 p]; exact q4.1
          · have p' : p3.toInt = 3 := by omega
            rw [y3 p', g3 p']; exact q4.2
    · refine rx_arrR J.rb.1 (fun z => h3 z.2.2.2) ⟨?_, J.qq Cx J.rq⟩
      by_cases z : vC x 0 c = 0 ∨ vC x 1 c ≠ 0
      · exact hno z
      · exact (hyes (fun w => z (Or.inl w)) (Decidable.not_not.mp (fun w => z (Or.inr w)))).2.2.2.2 (by omega)
  have r39 : (rd x 39 p1).toInt = vC x 0 c := vv_rd ec
  have r40 : (rd x 40 p1).toInt = vC x 1 c := vv_rd ec
  refine ⟨⟨by omega, by omega⟩, fun w => ref _ (fun _ => rfl) (fun a _ => absurd (r39.symm.trans w) a), fun w => ⟨⟨by omega, by omega⟩, fun w2 x7 e7 => ?_, fun w2 => ref _ (fun _ => rfl) (fun _ o => absurd (r40.trans o) w2)⟩⟩
  have no : ∀ r : Int32, (vC x 0 c = 0 ∨ vC x 1 c ≠ 0) → r = -1000000 := fun r z => by
    rcases z with z | z
    · exact absurd (r39.trans z) w
    · exact absurd (r40.symm.trans w2) z
  have u1 : (p1 * 2).toInt = (c : Int) * 2 := i3_mulc ec rfl rfl (by have w : (2 : Int32).toInt = 2 := rfl; omega)
  have t7 : x7.toInt = ((2 * c + e : Nat) : Int) := by
    have w3 := i3_addc (x := x7) u1 ee e7 (by omega)
    omega
  refine ⟨fun z => ⟨⟨by omega, by omega⟩, ref _ (no _) (fun _ _ => ⟨fun _ => vv_rd t7, fun q => by omega, fun q => by omega, fun q => by omega, fun q => by omega⟩)⟩, fun z => ⟨⟨by omega, by omega⟩, ref _ (no _) (fun _ _ => ⟨fun q => by omega, fun _ => vv_rd t7, fun q => by omega, fun q => by omega, fun q => by omega⟩)⟩, fun z => ⟨⟨by omega, by omega⟩, ref _ (no _) (fun _ _ => ⟨fun q => by omega, fun q => by omega, fun _ => vv_rd t7, fun q => by omega, fun q => by omega⟩)⟩, fun z => ⟨⟨by omega, by omega⟩, ref _ (no _) (fun _ _ => ⟨fun q => by omega, fun q => by omega, fun q => by omega, fun _ => vv_rd t7, fun q => by omega⟩)⟩, fun z => ref _ (no _) (fun _ _ => ⟨fun q => by omega, fun q => by omega, fun q => by omega, fun q => by omega, fun _ => rfl⟩)⟩
