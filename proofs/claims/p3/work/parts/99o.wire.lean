/-- what the signal of a gets to through gates -/
def Rc (σ : VS) (a c : Nat) : Prop := ∀ X : Nat → Prop, X a → (∀ w : Nat, Gw σ w → gtC σ (w / 4) → X (srcf σ w).toNat → X (w / 4)) → X c
theorem Rc.here {σ : VS} {a : Nat} : Rc σ a a := fun _ h _ => h
theorem Rc.step {σ : VS} {a : Nat} (w : Nat) (g1 : Gw σ w) (g2 : gtC σ (w / 4)) (h : Rc σ a (srcf σ w).toNat) : Rc σ a (w / 4) := fun X h0 hs => hs w g1 g2 (h X h0 hs)
theorem Rc.inv {σ : VS} {a c : Nat} (h : Rc σ a c) : c = a ∨ ∃ w, Gw σ w ∧ gtC σ (w / 4) ∧ Rc σ a (srcf σ w).toNat ∧ c = w / 4 :=
  (h (fun c => Rc σ a c ∧ (c = a ∨ ∃ w, Gw σ w ∧ gtC σ (w / 4) ∧ Rc σ a (srcf σ w).toNat ∧ c = w / 4)) ⟨Rc.here, Or.inl rfl⟩ (fun w g1 g2 h => ⟨Rc.step w g1 g2 h.1, Or.inr ⟨w, g1, g2, h.1, rfl⟩⟩)).2
theorem Rc.gate {σ : VS} {a c : Nat} (ha : gtC σ a) (h : Rc σ a c) : gtC σ c := by
  rcases h.inv with e | ⟨w, _, g, _, e⟩
  · rw [e]; exact ha
  · rw [e]; exact g
def MkB (z : VS) (n : Nat) (M : Nat → Prop) : Prop := ∀ c, c < n → (z.2.1 21 c = 1 ∧ M c) ∨ (z.2.1 21 c = 0 ∧ ¬ M c)
theorem MkB.iff {z : VS} {n c : Nat} {M : Nat → Prop} (h : MkB z n M) (hc : c < n) : (z.2.1 21 c).toInt ≠ 0 ↔ M c := by
  rcases h c hc with ⟨a, b⟩ | ⟨a, b⟩
  · rw [a]; exact ⟨fun _ => b, fun _ => by decide⟩
  · rw [a]; exact ⟨fun z => absurd rfl z, fun z => absurd z b⟩
theorem MkB.cong {z : VS} {n : Nat} {M M' : Nat → Prop} (h : MkB z n M) (e : ∀ c, c < n → (M c ↔ M' c)) : MkB z n M' := fun c hc => (h c hc).imp (fun k => ⟨k.1, (e c hc).mp k.2⟩) (fun k => ⟨k.1, fun q => k.2 ((e c hc).mpr q)⟩)
set_option maxHeartbeats 2000000 in
theorem cx_ring {Q : Int32 → VS → Prop} {p1 p2 : Int32} {a b n : Nat} {σ : VS} (hM : CI σ) (hC : CSrc σ) (hR : WR σ) (hTO : TO σ) (hn : (σ.1 2).toInt = (n : Int)) (ha : p1.toInt = (a : Int)) (hb : p2.toInt = (b : Int)) (han : a < n) (hbn : b < n) (hy : gtC σ a → gtC σ b → Rc σ b a → ∀ z, CI z → Eo [] [21] σ z → Q 1 z) (hno : gtC σ a → gtC σ b → ¬ Rc σ b a → ∀ z, CI z → Eo [] [21] σ z → Q 0 z) (h0 : ¬ (gtC σ a ∧ gtC σ b) → Q 0 σ) : wp_X1wouldRing Q p1 p2 σ := by
  unfold wp_X1wouldRing
  intro X20 X52 X74 H20 H52 H74
  have hcl : 0 ≤ (σ.1 2).toInt ∧ (σ.1 2).toInt ≤ 50 := hM.1 2
  have h3 : 0 ≤ (σ.1 3).toInt ∧ (σ.1 3).toInt ≤ 50 := hM.1 3
  obtain ⟨m, hm⟩ : ∃ m : Nat, (σ.1 3).toInt = (m : Int) := ⟨(σ.1 3).toInt.toNat, by omega⟩
  obtain ⟨T1, T2, T3, T4⟩ := hTO
  rw [hm] at T1 T2 T3 T4
  rw [hn] at T1 T3
  unfold b_X1wouldRing_16
  refine xisGate_x ha (by omega) (fun ga => ⟨fun z => absurd z (by decide), fun _ => xisGate_x hb (by omega) (fun gb => ⟨fun _ => ?_, fun z => absurd z (by decide)⟩) (fun gb => ⟨fun z => absurd rfl z, fun _ => h0 (fun k => gb k.2)⟩)⟩) (fun ga => ⟨fun _ => h0 (fun k => ga k.1), fun z => absurd rfl z⟩)
  -- through the order
  have L2 : ∀ (d i : Nat) (l3 : Int32) (z : VS), m - i < d → i ≤ m → l3.toInt = (i : Int) → CI z → Eo [] [21] σ z → MkB z n (fun c => c = b ∨ ∃ i', i' < i ∧ (σ.2.1 19 i').toInt = (c : Int) ∧ Rc σ b c) → X52 p1 l3 z := by
    intro d
    induction d with
    | zero => intro i l3 z k1; omega
    | succ d ih =>
      intro i l3 z k1 k2 k3 hMz hE hK
      refine H52 p1 l3 z ?_
      unfold b_X1wouldRing_52
      rw [hE.1 3 (by decide), hm]
      refine ⟨fun hge => ?_, fun hlt => ⟨⟨by omega, by omega⟩, fun x5 e5 x6 e6 => ?_⟩⟩
      · have hfin : (a = b ∨ ∃ i', i' < i ∧ (σ.2.1 19 i').toInt = (a : Int) ∧ Rc σ b a) ↔ Rc σ b a := by
          constructor
          · rintro (h | ⟨_, _, _, h⟩)
            · rw [h]; exact Rc.here
            · exact h
          · intro h
            obtain ⟨i', hi', ho⟩ := T3 a (by omega) ga
            exact Or.inr ⟨i', by omega, ho, h⟩
        rw [rd_at z 21 p1 ha]
        rcases hK a han with ⟨v, k⟩ | ⟨v, k⟩
        · rw [v]; exact ⟨⟨by omega, by omega⟩, ⟨by decide, by decide⟩, hy ga gb (hfin.mp k) z hMz hE⟩
        · rw [v]; exact ⟨⟨by omega, by omega⟩, ⟨by decide, by decide⟩, hno ga gb (fun q => k (hfin.mpr q)) z hMz hE⟩
      · obtain ⟨dd, hd, hdn, hdg⟩ := T1 i (by omega)
        have hx5 : x5.toInt = (dd : Int) := by rw [e5, rd_at z 19 l3 k3, hE.2 19 (by decide)]; exact hd
        have hx6 : x6.toInt = ((4 * dd + 0 : Nat) : Int) := by
          have := i3_mulc (x := x6) hx5 (show (4 : Int32).toInt = 4 from rfl) e6 (by omega)
          omega
        have a1 : 0 ≤ (σ.2.1 12 dd).toInt ∧ (σ.2.1 12 dd).toInt ≤ 4 := hM.2 12 dd
        obtain ⟨kk, hkk⟩ : ∃ k : Nat, (σ.2.1 12 dd).toInt = (k : Int) := ⟨(σ.2.1 12 dd).toInt.toNat, by omega⟩
        have t4 : (x5 * 4).toInt = (dd : Int) * 4 := i3_mulc hx5 rfl rfl (by omega)
        have t3 : (l3 + 1).toInt = ((i + 1 : Nat) : Int) := by
          have := i3_addc (x := l3 + 1) k3 (show (1 : Int32).toInt = 1 from rfl) rfl (by omega)
          omega
        have hself : ∀ w, w / 4 = dd → Gw σ w → ∃ i', i' < i ∧ (σ.2.1 19 i').toInt = srcf σ w := fun w hw hg => T4 i w (by omega) (by rw [hd, hw]) hg
        have L3 : ∀ (e j : Nat) (l5 : Int32) (y : VS), kk - j < e → j ≤ kk → l5.toInt = ((4 * dd + j : Nat) : Int) → CI y → Eo [] [21] σ y → MkB y n (fun c => (c = b ∨ ∃ i', i' < i ∧ (σ.2.1 19 i').toInt = (c : Int) ∧ Rc σ b c) ∨ (c = dd ∧ ∃ j', j' < j ∧ Gw σ (4 * dd + j') ∧ Rc σ b (srcf σ (4 * dd + j')).toNat)) → X74 p1 l3 x5 l5 y := by
          intro e
          induction e with
          | zero => intro j l5 y k; omega
          | succ e ih3 =>
            intro j l5 y q1 q2 q3 hMy hEy hKy
            refine H74 _ _ _ _ _ ?_
            unfold b_X1wouldRing_74 b_X1wouldRing_124
            have hr12 : (rd y 12 x5).toInt = (kk : Int) := by rw [rd_at y 12 x5 hx5, hEy.2 12 (by decide)]; exact hkk
            have t5 : (x5 * 4 + rd y 12 x5).toInt = ((4 * dd + kk : Nat) : Int) := by
              have := i3_addc (x := x5 * 4 + rd y 12 x5) t4 hr12 rfl (by omega)
              omega
            have t6 : (l5 + 1).toInt = ((4 * dd + (j + 1) : Nat) : Int) := by
              have := i3_addc (x := l5 + 1) q3 (show (1 : Int32).toInt = 1 from rfl) rfl (by omega)
              omega
            have hr16 : (rd y 16 l5).toInt = srcf σ (4 * dd + j) := by rw [rd_at y 16 l5 q3, hEy.2 16 (by decide)]; rfl
            have hsl : srcf σ (4 * dd + j) < (n : Int) := by rw [← hn]; exact hC _
            refine ⟨⟨by omega, by omega⟩, fun hge => ?_, fun hlt2 => ⟨⟨by omega, by omega⟩, fun hneg => ?_, fun hpos => ⟨⟨by omega, by omega⟩, ⟨by omega, by omega⟩, ?_⟩⟩⟩
            · refine ih (i + 1) (l3 + 1) y (by omega) (by omega) t3 hMy hEy (hKy.cong (fun c hc => ?_))
              constructor
              · rintro ((h | ⟨i', u1, u2, u3⟩) | ⟨h, j', u1, u2, u3⟩)
                · exact Or.inl h
                · exact Or.inr ⟨i', by omega, u2, u3⟩
                · subst h
                  have ew : (4 * c + j') / 4 = c := by omega
                  have hst := Rc.step (a := b) (4 * c + j') u2 (by rw [ew]; exact hdg) u3
                  rw [ew] at hst
                  exact Or.inr ⟨i, by omega, hd, hst⟩
              · rintro (h | ⟨i', u1, u2, u3⟩)
                · exact Or.inl (Or.inl h)
                · by_cases ei : i' = i
                  · have ec : c = dd := by rw [ei, hd] at u2; omega
                    subst ec
                    rcases u3.inv with e9 | ⟨w, g1, g2, g3, e9⟩
                    · exact Or.inl (Or.inl e9)
                    · have hw := (hR w g1.1).2
                      rw [← e9, hkk] at hw
                      have ew : 4 * c + w % 4 = w := by omega
                      exact Or.inr ⟨rfl, w % 4, by omega, by rw [ew]; exact g1, by rw [ew]; exact g3⟩
                  · exact Or.inl (Or.inr ⟨i', by omega, u2, u3⟩)
            · refine ih3 (j + 1) (l5 + 1) y (by omega) (by omega) t6 hMy hEy (hKy.cong (fun c hc => or_congr Iff.rfl (and_congr_right (fun _ => ?_))))
              refine ⟨fun ⟨j', u⟩ => ⟨j', by omega, u.2⟩, fun ⟨j', u1, u2, u3⟩ => ⟨j', ?_, u2, u3⟩⟩
              by_cases ej : j' = j
              · rw [ej] at u2
                have := u2.1
                omega
              · omega
            · obtain ⟨s, hs⟩ : ∃ s : Nat, (rd y 16 l5).toInt = (s : Int) := ⟨(rd y 16 l5).toInt.toNat, by omega⟩
              have hsn : s < n := by omega
              have hss : (srcf σ (4 * dd + j)).toNat = s := by omega
              have e4 : (4 * dd + j) / 4 = dd := by omega
              have w1 : kk - (j + 1) < e := by omega
              have w2 : j + 1 ≤ kk := by omega
              have hkey : ((s = b ∨ ∃ i', i' < i ∧ (σ.2.1 19 i').toInt = (s : Int) ∧ Rc σ b s) ∨ (s = dd ∧ ∃ j', j' < j ∧ Gw σ (4 * dd + j') ∧ Rc σ b (srcf σ (4 * dd + j')).toNat)) ↔ (Gw σ (4 * dd + j) ∧ Rc σ b (srcf σ (4 * dd + j)).toNat) := by
                rw [hss]
                have hgw : gtC σ s → Gw σ (4 * dd + j) := fun g => ⟨by omega, by rw [hss]; exact g⟩
                constructor
                · rintro ((h | ⟨i', u1, u2, u3⟩) | ⟨h, j', u1, u2, u3⟩)
                  · rw [h] at hgw ⊢; exact ⟨hgw gb, Rc.here⟩
                  · exact ⟨hgw (u3.gate gb), u3⟩
                  · exfalso
                    subst h
                    have hg := hgw hdg
                    obtain ⟨i', v1, v2⟩ := hself _ e4 hg
                    have := T2 i' i (by omega) (by omega) (by rw [v2, hd]; omega)
                    omega
                · rintro ⟨g, r⟩
                  obtain ⟨i', v1, v2⟩ := hself _ e4 g
                  exact Or.inl (Or.inr ⟨i', v1, by rw [v2]; omega, r⟩)
              rw [rd_at y 21 _ hs]
              have hmk := hKy.iff hsn
              refine ⟨fun hz => ?_, fun hz => ⟨⟨by omega, by omega⟩, ?_⟩⟩
              · refine ih3 (j + 1) (l5 + 1) y w1 w2 t6 hMy hEy (hKy.cong (fun c hc => or_congr Iff.rfl (and_congr_right (fun _ => ?_))))
                refine ⟨fun ⟨j', u⟩ => ⟨j', by omega, u.2⟩, fun ⟨j', u1, u2, u3⟩ => ⟨j', ?_, u2, u3⟩⟩
                by_cases ej : j' = j
                · rw [ej] at u2 u3
                  exact absurd (hmk.mpr (hkey.mpr ⟨u2, u3⟩)) (by omega)
                · omega
              · have hyes := hkey.mp (hmk.mp hz)
                refine ih3 (j + 1) (l5 + 1) _ w1 w2 t6 (hMy.sa 21 _ _ (show 0 ≤ (1 : Int32).toInt ∧ (1 : Int32).toInt ≤ 1 by decide)) (hEy.sa 21 _ _ (by decide)) (fun c hc => ?_)
                rw [sa_at y 21 x5 1 hx5]
                by_cases ec : c = dd
                · rw [if_pos ec]
                  exact Or.inl ⟨rfl, Or.inr ⟨ec, j, by omega, hyes.1, hyes.2⟩⟩
                · rw [if_neg ec]
                  rcases hKy c hc with ⟨v, k⟩ | ⟨v, k⟩
                  · exact Or.inl ⟨v, k.imp id (fun q => absurd q.1 ec)⟩
                  · exact Or.inr ⟨v, fun q => k (q.imp id (fun q => absurd q.1 ec))⟩
        refine L3 (kk + 1) 0 x6 z (by omega) (by omega) hx6 hMz hE (hK.cong (fun c hc => ⟨Or.inl, fun q => q.elim id (fun ⟨_, j', h, _⟩ => by omega)⟩))
  -- the marks
  have L1 : ∀ (d i : Nat) (l3 : Int32) (z : VS), n - i < d → i ≤ n → l3.toInt = (i : Int) → CI z → Eo [] [21] σ z → (∀ c, c < i → (z.2.1 21 c = 1 ∧ c = b) ∨ (z.2.1 21 c = 0 ∧ ¬ c = b)) → X20 p1 p2 l3 z := by
    intro d
    induction d with
    | zero => intro i l3 z k1; omega
    | succ d ih =>
      intro i l3 z k1 k2 k3 hMz hE hK
      refine H20 _ _ _ _ ?_
      unfold b_X1wouldRing_20 b_X1wouldRing_43
      rw [hE.1 2 (by decide), hn]
      have hup : ∀ v : Int32, (v = 1 ∧ i = b) ∨ (v = 0 ∧ ¬ i = b) → i < n → X20 p1 p2 (l3 + 1) (sa z 21 l3 v) := by
        intro v hv hi
        have t3 : (l3 + 1).toInt = ((i + 1 : Nat) : Int) := by
          have := i3_addc (x := l3 + 1) k3 (show (1 : Int32).toInt = 1 from rfl) rfl (by omega)
          omega
        refine ih (i + 1) (l3 + 1) _ (by omega) (by omega) t3 (hMz.sa 21 _ _ (show 0 ≤ v.toInt ∧ v.toInt ≤ 1 by rcases hv with ⟨e, _⟩ | ⟨e, _⟩ <;> rw [e] <;> decide)) (hE.sa 21 _ _ (by decide)) (fun c hc => ?_)
        rw [sa_at z 21 l3 v k3]
        by_cases ec : c = i
        · rw [if_pos ec, ec]; exact hv
        · rw [if_neg ec]; exact hK c (by omega)
      refine ⟨fun hge => ?_, fun hlt => ⟨fun hne => ⟨⟨by omega, by omega⟩, ⟨by decide, by decide⟩, hup 0 (Or.inr ⟨rfl, by omega⟩) (by omega)⟩, fun he => ⟨⟨by omega, by omega⟩, ⟨by decide, by decide⟩, hup 1 (Or.inl ⟨rfl, by omega⟩) (by omega)⟩⟩⟩
      refine L2 (m + 1) 0 0 z (by omega) (by omega) rfl hMz hE (fun c hc => ?_)
      rcases hK c (by omega) with ⟨v, k⟩ | ⟨v, k⟩
      · exact Or.inl ⟨v, Or.inl k⟩
      · exact Or.inr ⟨v, fun q => q.elim k (fun ⟨_, h, _⟩ => by omega)⟩
  exact L1 (n + 1) 0 0 σ (by omega) (by omega) rfl hM Eo.rfl (fun c hc => by omega)
/-- what the reference's signal of a gets to through gates -/
def Rm (σ : VS) (a c : Nat) : Prop := ∀ X : Nat → Prop, X a → (∀ d i : Nat, d < nC σ → gate σ d → (i : Int) < Ip σ d → 0 ≤ Tk σ (4 * d + i) → X (Tk σ (4 * d + i)).toNat → X d) → X c
theorem Rm.here {σ : VS} {a : Nat} : Rm σ a a := fun _ h _ => h
theorem Rm.step {σ : VS} {a : Nat} (d i : Nat) (q1 : d < nC σ) (q2 : gate σ d) (q3 : (i : Int) < Ip σ d) (q4 : 0 ≤ Tk σ (4 * d + i)) (h : Rm σ a (Tk σ (4 * d + i)).toNat) : Rm σ a d := fun X h0 hs => hs d i q1 q2 q3 q4 (h X h0 hs)
theorem Rm.gt {τ : VS} {a c : Nat} (ha : gate τ a) (h : Rm τ a c) : gate τ c := h (fun c => gate τ c) ha (fun _ _ _ g _ _ _ => g)
def SN (σ : VS) (a : Nat) (x : VS) : Prop := sn x a ∧ ∀ c, c < nC σ → sn x c → Rm σ a c
set_option maxHeartbeats 4000000 in
theorem rx_leads {Q : Int32 → VS → Prop} {p1 p2 : Int32} {σ : VS} {a b : Nat} (ha : p1.toInt = (a : Int)) (hb : p2.toInt = (b : Int)) (han : a < nC σ) (hbn : b < nC σ) (hTk : ∀ w : Nat, (w : Int) < 4 * (σ.1 1).toInt → Tk σ w < (σ.1 1).toInt) (hM : MI σ) (hq : ∀ (r : Int32) (σ' : VS), MI σ' → Eo [] [14] σ σ' → (r.toInt = 0 → ∃ S : Nat → Bool, S a = true ∧ S b = false ∧ ∀ d i : Nat, d < nC σ → gate σ d → (i : Int) < Ip σ d → 0 ≤ Tk σ (4 * d + i) → S (Tk σ (4 * d + i)).toNat = true → S d = true) → (r.toInt ≠ 0 → Rm σ a b) → Q r σ') : wp_leads Q p1 p2 σ := by
  have hc : 0 ≤ (σ.1 1).toInt ∧ (σ.1 1).toInt ≤ 50 := hM.1 1
  have hnc : (nC σ : Int) = (σ.1 1).toInt := by unfold nC; omega
  unfold wp_leads
  intro X2 X34 X43 X77 H2 H34 H43 H77
  have main : ∀ (u : Nat) (x : VS), und (x.2.1 14) (nC σ) < u → MI x → Eo [] [14] σ x → SN σ a x → X43 p2 0 0 x := by
    intro u
    induction u with
    | zero => intro x h; omega
    | succ u ihu =>
      intro x0 hu hM0 hE0 hs0
      -- one pass
      have L43 : ∀ (n c : Nat) (l3 l4 : Int32) (x : VS), l4.toInt = (c : Int) → c ≤ nC σ → nC σ - c < n → (l3.toInt ≠ 0 → und (x.2.1 14) (nC σ) < u) → (l3.toInt = 0 → und (x.2.1 14) (nC σ) < u + 1 ∧ ∀ d i : Nat, d < c → gate σ d → (i : Int) < Ip σ d → 0 ≤ Tk σ (4 * d + i) → sn x (Tk σ (4 * d + i)).toNat → sn x d) → MI x → Eo [] [14] σ x → SN σ a x → X43 p2 l3 l4 x := by
        intro n
        induction n with
        | zero => intro c l3 l4 x k1 k2 k3; omega
        | succ n ih =>
          intro c l3 l4 x k1 k2 k3 hch hno hMx hEx hsa
          refine H43 _ _ _ _ ?_
          unfold b_leads_43
          rw [hEx.1 1 (by decide)]
          refine ⟨fun hge => ?_, fun hlt => ?_⟩
          · refine H34 _ _ _ ?_
            unfold b_leads_34
            have b14 : 0 ≤ (rd x 14 p2).toInt ∧ (rd x 14 p2).toInt ≤ 1 := hMx.2 14 _
            refine ⟨fun hz => ⟨⟨by omega, by omega⟩, b14, hq _ _ hMx hEx (fun hr => ?_) (fun hr => hsa.2 b hbn (by rw [rd_at x 14 p2 hb] at hr; exact hr))⟩, fun hnz => ihu x (hch hnz) hMx hEx hsa⟩
            rw [rd_at x 14 p2 hb] at hr
            refine ⟨fun d => decide ((x.2.1 14 d).toInt ≠ 0), decide_eq_true hsa.1, decide_eq_false (fun h => h hr), fun d i h1 h2 h3 h4 h5 => ?_⟩
            have h6 : (x.2.1 14 (Tk σ (4 * d + i)).toNat).toInt ≠ 0 := of_decide_eq_true h5
            have h7 : (x.2.1 14 d).toInt ≠ 0 := (hno hz).2 d i (by omega) h2 h3 h4 h6
            exact decide_eq_true h7
          · have u4 : (l4 + 1).toInt = l4.toInt + 1 := i3_addc rfl rfl rfl (by omega)
            have hcn : c < nC σ := by omega
            rw [rd_at x 14 l4 k1]
            refine ⟨⟨by omega, by omega⟩, fun hsn => ?_, fun hun => ?_⟩
            · unfold b_leads_137
              refine ih (c + 1) l3 (l4 + 1) x (by omega) (by omega) (by omega) hch (fun hz => ⟨(hno hz).1, fun d i h1 h2 h3 h4 h5 => ?_⟩) hMx hEx hsa
              by_cases e : d = c
              · rw [e]; exact hsn
              · exact (hno hz).2 d i (by omega) h2 h3 h4 h5
            · refine isGate_s k1 (by omega) (fun hg => ⟨fun _ => ?_, fun h => absurd h (by decide)⟩) (fun hg => ⟨fun h => absurd rfl h, fun _ => ?_⟩)
              · have hgσ : gate σ c := (gate_same hEx (by decide) c).mp hg
                have hIc : 0 ≤ Ip σ c ∧ Ip σ c ≤ 4 := hM.2 3 c
                -- the inputs of c
                have L77 : ∀ (n2 i : Nat) (l3 l5 : Int32) (y : VS), l5.toInt = (i : Int) → i ≤ 4 → 4 - i < n2 → (l3.toInt ≠ 0 → und (y.2.1 14) (nC σ) < u) → (l3.toInt = 0 → y = x ∧ ((∀ d i : Nat, d < c → gate σ d → (i : Int) < Ip σ d → 0 ≤ Tk σ (4 * d + i) → sn x (Tk σ (4 * d + i)).toNat → sn x d) ∧ und (x.2.1 14) (nC σ) < u + 1) ∧ ∀ i' : Nat, i' < i → (i' : Int) < Ip σ c → 0 ≤ Tk σ (4 * c + i') → ¬ sn x (Tk σ (4 * c + i')).toNat) → (y = x ∨ sn y c) → (und (y.2.1 14) (nC σ) < u + 1) → MI y → Eo [] [14] σ y → SN σ a y → X77 p2 l3 l4 l5 y := by
                  intro n2
                  induction n2 with
                  | zero => intro i l3 l5 y j1 j2 j3; omega
                  | succ n2 ih2 =>
                    intro i l3 l5 y j1 j2 j3 hch2 hno2 hyx huy hMy hEy hsy
                    refine H77 _ _ _ _ _ ?_
                    unfold b_leads_77
                    have hr3 : (rd y 3 l4).toInt = Ip σ c := by rw [rd_at y 3 l4 k1, hEy.2 3 (by decide)]; rfl
                    rw [hr3]
                    refine ⟨⟨by omega, by omega⟩, fun hge => ?_, fun hlt2 => ?_⟩
                    · unfold b_leads_137
                      refine ih (c + 1) l3 (l4 + 1) y (by omega) (by omega) (by omega) hch2 (fun hz => ?_) hMy hEy hsy
                      obtain ⟨e1, e2, e3⟩ := hno2 hz
                      rw [e1]
                      refine ⟨e2.2, fun d i' h1 h2 h3 h4 h5 => ?_⟩
                      by_cases e : d = c
                      · rw [e] at h3 h4 h5
                        exact absurd h5 (e3 i' (by omega) h3 h4)
                      · exact e2.1 d i' (by omega) h2 h3 h4 h5
                    · have v1 : (4 * l4).toInt = 4 * l4.toInt := i3_mulc rfl rfl rfl (by omega)
                      have v2 : (4 * l4 + l5).toInt = (4 * l4).toInt + l5.toInt := i3_addc rfl rfl rfl (by omega)
                      have v5 : (l5 + 1).toInt = l5.toInt + 1 := i3_addc rfl rfl rfl (by omega)
                      refine ⟨⟨by omega, by omega⟩, fun x3 e3 => ?_⟩
                      have hx3 : x3.toInt = Tk σ (4 * c + i) := by rw [e3, rd_at y 7 (4 * l4 + l5) (n := 4 * c + i) (by omega), hEy.2 7 (by decide)]; rfl
                      have hlt3 := hTk (4 * c + i) (by omega)
                      have hstay : (l3.toInt = 0 → 0 ≤ Tk σ (4 * c + i) → ¬ sn x (Tk σ (4 * c + i)).toNat) → b_leads_131 X2 X34 X43 X77 Q p2 l3 l4 l5 y := by
                        intro hnn
                        unfold b_leads_131
                        refine ih2 (i + 1) l3 (l5 + 1) y (by omega) (by omega) (by omega) hch2 (fun hz => ?_) hyx huy hMy hEy hsy
                        obtain ⟨e1, e2, e4⟩ := hno2 hz
                        refine ⟨e1, e2, fun i' h1 h2 h3 => ?_⟩
                        by_cases e : i' = i
                        · rw [e] at h3 ⊢; exact hnn hz h3
                        · exact e4 i' (by omega) h2 h3
                      refine ⟨fun hneg => hstay (fun _ h => by omega), fun hpos => ?_⟩
                      obtain ⟨f, hf⟩ : ∃ f : Nat, x3.toInt = (f : Int) := ⟨x3.toInt.toNat, by omega⟩
                      have hft : (Tk σ (4 * c + i)).toNat = f := by omega
                      rw [rd_at y 14 x3 hf]
                      refine ⟨⟨by omega, by omega⟩, fun hsf => ⟨⟨by omega, by omega⟩, ?_⟩, fun hsf => hstay (fun hz _ h => ?_)⟩
                      · unfold b_leads_131
                        have z14 : ∀ d, (sa y 14 l4 1).2.1 14 d = if d = c then 1 else y.2.1 14 d := fun d => sa_at y 14 l4 1 k1 d
                        have hund : und ((sa y 14 l4 1).2.1 14) (nC σ) < u := by
                          rcases hyx with e | e
                          · have h9 := und_set (f := y.2.1 14) (g := (sa y 14 l4 1).2.1 14) (p := c) (by rw [e]; exact hun) (by rw [z14, if_pos rfl]; decide) (fun d hd => by rw [z14, if_neg hd]) (nC σ) hcn
                            omega
                          · have e5 : l3.toInt ≠ 0 := fun hz => by
                              have := (hno2 hz).1
                              rw [this] at e
                              exact e hun
                            have h9 := und_mono (f := y.2.1 14) (g := (sa y 14 l4 1).2.1 14) (fun d hd => by
                              rw [z14]
                              by_cases e6 : d = c
                              · rw [if_pos e6]; decide
                              · rw [if_neg e6]; exact hd) (nC σ)
                            have := hch2 e5
                            omega
                        refine ih2 (i + 1) 1 (l5 + 1) _ (by omega) (by omega) (by omega) (fun _ => hund) (fun h => absurd h (by decide)) (Or.inr ?_) (by omega) (hMy.sa 14 _ _ (show 0 ≤ (1 : Int32).toInt ∧ (1 : Int32).toInt ≤ 1 by decide)) (hEy.sa 14 _ _ (by decide)) ?_
                        · unfold sn; rw [z14, if_pos rfl]; decide
                        · refine ⟨?_, fun d hd hs => ?_⟩
                          · unfold sn; rw [z14]
                            by_cases e6 : a = c
                            · rw [if_pos e6]; decide
                            · rw [if_neg e6]; exact hsy.1
                          · by_cases e6 : d = c
                            · rw [e6]
                              exact Rm.step c i hcn hgσ (by omega) (by omega) (by rw [hft]; exact hsy.2 f (by omega) hsf)
                            · unfold sn at hs; rw [z14, if_neg e6] at hs; exact hsy.2 d hd hs
                      · rw [hft] at h
                        have e1 := (hno2 hz).1
                        rw [e1] at hsf
                        exact h hsf
                have hux : und (x.2.1 14) (nC σ) < u + 1 := by
                  by_cases e : l3.toInt = 0
                  · exact (hno e).1
                  · have := hch e; omega
                exact L77 5 0 l3 0 x rfl (by omega) (by omega) hch (fun hz => ⟨rfl, ⟨(hno hz).2, hux⟩, fun i' h => by omega⟩) (Or.inl rfl) hux hMx hEx hsa
              · unfold b_leads_137
                have hgσ : ¬ gate σ c := fun h => hg ((gate_same hEx (by decide) c).mpr h)
                refine ih (c + 1) l3 (l4 + 1) x (by omega) (by omega) (by omega) hch (fun hz => ⟨(hno hz).1, fun d i h1 h2 h3 h4 h5 => ?_⟩) hMx hEx hsa
                by_cases e : d = c
                · rw [e] at h2; exact absurd h2 hgσ
                · exact (hno hz).2 d i (by omega) h2 h3 h4 h5
      exact L43 (nC σ + 1) 0 0 0 x0 rfl (by omega) (by omega) (fun h => absurd rfl h) (fun _ => ⟨hu, fun d i h => by omega⟩) hM0 hE0 hs0
  have L2 : ∀ (n : Nat) (l3 : Int32) (x : VS), 50 - l3.toInt < (n : Int) → 0 ≤ l3.toInt ∧ l3.toInt ≤ 50 → MI x → Eo [] [14] σ x → ((a : Int) < l3.toInt → sn x a) → (∀ c : Nat, (c : Int) < l3.toInt → sn x c → c = a) → X2 p1 p2 l3 x := by
    intro n
    induction n with
    | zero => intro l3 x k1 k2; omega
    | succ n ih =>
      intro l3 x k1 k2 hMx hEx hsa hon
      refine H2 _ _ _ _ ?_
      unfold b_leads_2
      rw [hEx.1 1 (by decide)]
      refine ⟨fun hge => ?_, fun hlt => ?_⟩
      · refine H34 _ _ _ ?_
        unfold b_leads_34
        refine ⟨fun h => absurd h (by decide), fun _ => main (und (x.2.1 14) (nC σ) + 1) x (by omega) hMx hEx ⟨hsa (by omega), fun c hc hs => by rw [hon c (by omega) hs]; exact Rm.here⟩⟩
      · have u3 : (l3 + 1).toInt = l3.toInt + 1 := i3_addc rfl rfl rfl (by omega)
        obtain ⟨i, hi⟩ : ∃ i : Nat, l3.toInt = (i : Int) := ⟨l3.toInt.toNat, by omega⟩
        unfold b_leads_25
        refine ⟨fun hne => ⟨⟨by omega, by omega⟩, ⟨by decide, by decide⟩, ih (l3 + 1) _ (by omega) (by omega) (hMx.sa 14 _ _ (show 0 ≤ (0 : Int32).toInt ∧ (0 : Int32).toInt ≤ 1 by decide)) (hEx.sa 14 _ _ (by decide)) (fun h => ?_) (fun c hc hs => ?_)⟩, fun heq => ⟨⟨by omega, by omega⟩, ⟨by decide, by decide⟩, ih (l3 + 1) _ (by omega) (by omega) (hMx.sa 14 _ _ (show 0 ≤ (1 : Int32).toInt ∧ (1 : Int32).toInt ≤ 1 by decide)) (hEx.sa 14 _ _ (by decide)) (fun h => ?_) (fun c hc hs => ?_)⟩⟩
        · unfold sn; rw [sa_at x 14 l3 0 hi, if_neg (by omega)]; exact hsa (by omega)
        · unfold sn at hs; rw [sa_at x 14 l3 0 hi] at hs
          by_cases e : c = i
          · rw [if_pos e] at hs; exact absurd rfl hs
          · rw [if_neg e] at hs; exact hon c (by omega) hs
        · unfold sn; rw [sa_at x 14 l3 1 hi, if_pos (by omega)]; decide
        · unfold sn at hs; rw [sa_at x 14 l3 1 hi] at hs
          by_cases e : c = i
          · omega
          · rw [if_neg e] at hs; exact hon c (by omega) hs
  exact L2 51 0 σ (by decide) (by decide) hM Eo.rfl (fun h => by have e : (0 : Int32).toInt = 0 := rfl; omega) (fun c h => by have e : (0 : Int32).toInt = 0 := rfl; omega)
theorem isInput_x {Q : Int32 → VS → Prop} {p1 p2 : Int32} {σ : VS} (hM : MI σ) (h1 : (0 ≤ p1.toInt ∧ p1.toInt < (σ.1 1).toInt) ∧ 0 ≤ p2.toInt ∧ p2.toInt < (rd σ 3 p1).toInt → Q 1 σ) (h0 : ¬ ((0 ≤ p1.toInt ∧ p1.toInt < (σ.1 1).toInt) ∧ 0 ≤ p2.toInt ∧ p2.toInt < (rd σ 3 p1).toInt) → Q 0 σ) : wp_isInput Q p1 p2 σ := by
  have hc : 0 ≤ (σ.1 1).toInt ∧ (σ.1 1).toInt ≤ 50 := hM.1 1
  unfold wp_isInput b_isInput_26 b_isInput_27
  exact cell_x (fun a => ⟨fun z => absurd z (by decide), fun _ => ⟨fun b => ⟨⟨by decide, by decide⟩, h0 (by omega)⟩, fun b => ⟨⟨by omega, by omega⟩, fun c => ⟨⟨by decide, by decide⟩, h0 (by omega)⟩, fun c => ⟨⟨by decide, by decide⟩, h1 ⟨a, b, c⟩⟩⟩⟩⟩) (fun a => ⟨fun _ => ⟨⟨by decide, by decide⟩, h0 (fun k => a k.1)⟩, fun z => absurd rfl z⟩)
theorem xinput_x {Q : Int32 → VS → Prop} {p1 p2 : Int32} {σ : VS} (hM : CI σ) (h1 : (0 ≤ p1.toInt ∧ p1.toInt < (σ.1 2).toInt) ∧ 0 ≤ p2.toInt ∧ p2.toInt < (rd σ 12 p1).toInt → Q 1 σ) (h0 : ¬ ((0 ≤ p1.toInt ∧ p1.toInt < (σ.1 2).toInt) ∧ 0 ≤ p2.toInt ∧ p2.toInt < (rd σ 12 p1).toInt) → Q 0 σ) : wp_X1hasInput Q p1 p2 σ := by
  have hc : 0 ≤ (σ.1 2).toInt ∧ (σ.1 2).toInt ≤ 50 := hM.1 2
  unfold wp_X1hasInput b_X1hasInput_26 b_X1hasInput_27
  exact xhas_x (fun a => ⟨fun z => absurd z (by decide), fun _ => ⟨fun b => ⟨⟨by decide, by decide⟩, h0 (by omega)⟩, fun b => ⟨⟨by omega, by omega⟩, fun c => ⟨⟨by decide, by decide⟩, h0 (by omega)⟩, fun c => ⟨⟨by decide, by decide⟩, h1 ⟨a, b, c⟩⟩⟩⟩⟩) (fun a => ⟨fun _ => ⟨⟨by decide, by decide⟩, h0 (fun k => a k.1)⟩, fun z => absurd rfl z⟩)
def okW (n k : Int) (p1 p2 p3 : Int32) : Prop := (-1 ≤ p1.toInt ∧ p1.toInt < n) ∧ (0 ≤ p2.toInt ∧ p2.toInt < n) ∧ 0 ≤ p3.toInt ∧ p3.toInt < k
def oldW (v : Int32) : Int32 := if v.toInt < 0 then -5 else v
theorem rx_wire {Q : Int32 → VS → Prop} {p1 p2 p3 : Int32} {σ : VS} (hS : SI σ) (hM : MI σ)
    (hbad : ¬ okW (σ.1 1).toInt (rd σ 3 p2).toInt p1 p2 p3 → Q (-1) σ)
    (hend : okW (σ.1 1).toInt (rd σ 3 p2).toInt p1 p2 p3 → 0 ≤ p1.toInt → (rd σ 2 p1).toInt = 5 → Q (-2) σ)
    (hgo : okW (σ.1 1).toInt (rd σ 3 p2).toInt p1 p2 p3 → (0 ≤ p1.toInt → (rd σ 2 p1).toInt ≠ 5) → ∀ (a b w : Nat) (z : VS), p2.toInt = (b : Int) → (w : Int) = 4 * p2.toInt + p3.toInt → (0 ≤ p1.toInt → p1.toInt = (a : Int)) → ¬ (0 ≤ p1.toInt ∧ gate σ a ∧ gate σ b ∧ Rm (sa σ 7 ((4 * p2) + p3) (-1)) b a) → Eo [] [7, 14] σ z → (∀ j, z.2.1 7 j = if j = w then p1 else σ.2.1 7 j) → Q (oldW (σ.2.1 7 w)) z)
    (hring : okW (σ.1 1).toInt (rd σ 3 p2).toInt p1 p2 p3 → 0 ≤ p1.toInt → (rd σ 2 p1).toInt ≠ 5 → ∀ (a b : Nat) (z : VS), p1.toInt = (a : Int) → p2.toInt = (b : Int) → gate σ a → gate σ b → Rm (sa σ 7 ((4 * p2) + p3) (-1)) b a → Eo [] [7, 14] σ z → z.2.1 7 = σ.2.1 7 → Q (-4) z) : wp_wire Q p1 p2 p3 σ := by
  have hc : 0 ≤ (σ.1 1).toInt ∧ (σ.1 1).toInt ≤ 50 := hM.1 1
  have hI : 0 ≤ (rd σ 3 p2).toInt ∧ (rd σ 3 p2).toInt ≤ 4 := hM.2 3 _
  unfold okW at hbad hend hgo hring
  have h41 : ((-1 ≤ p1.toInt ∧ p1.toInt < (σ.1 1).toInt) ∧ (0 ≤ p2.toInt ∧ p2.toInt < (σ.1 1).toInt) ∧ 0 ≤ p3.toInt ∧ p3.toInt < (rd σ 3 p2).toInt) → (0 ≤ p1.toInt → (rd σ 2 p1).toInt ≠ 5) → b_wire_41 Q p1 p2 p3 σ := by
    intro ok h5
    have v1 : (4 * p2).toInt = 4 * p2.toInt := i3_mulc rfl rfl rfl (by omega)
    have v2 : (4 * p2 + p3).toInt = (4 * p2).toInt + p3.toInt := i3_addc rfl rfl rfl (by omega)
    obtain ⟨b, hb⟩ : ∃ b : Nat, p2.toInt = (b : Int) := ⟨p2.toInt.toNat, by omega⟩
    obtain ⟨i0, hi0⟩ : ∃ i : Nat, p3.toInt = (i : Int) := ⟨p3.toInt.toNat, by omega⟩
    obtain ⟨w, hw⟩ : ∃ w : Nat, w = 4 * b + i0 := ⟨_, rfl⟩
    have hwi : (4 * p2 + p3).toInt = (w : Int) := by omega
    obtain ⟨a, ha⟩ : ∃ a : Nat, 0 ≤ p1.toInt → p1.toInt = (a : Int) := ⟨p1.toInt.toNat, fun h => by omega⟩
    unfold b_wire_41
    refine ⟨⟨by omega, by omega⟩, fun x3 e3 => ⟨⟨by omega, by omega⟩, ?_⟩⟩
    have hx3 : x3 = σ.2.1 7 w := by rw [e3, rd_at σ 7 _ hwi]
    have h108 : ∀ y : VS, Eo [] [7, 14] σ y → (∀ j, j ≠ w → y.2.1 7 j = σ.2.1 7 j) → ¬ (0 ≤ p1.toInt ∧ gate σ a ∧ gate σ b ∧ Rm (sa σ 7 ((4 * p2) + p3) (-1)) b a) → b_wire_108 Q p1 p2 p3 x3 y := by
      intro y hEy h7y hr
      have hz := hgo ok h5 a b w (sa y 7 (4 * p2 + p3) p1) hb (by omega) ha hr (hEy.sa 7 _ _ (by decide)) (fun j => by
        rw [sa_at y 7 _ _ hwi]
        by_cases e : j = w
        · rw [if_pos e, if_pos e]
        · rw [if_neg e, if_neg e]; exact h7y j e)
      unfold b_wire_108 b_wire_131
      unfold oldW at hz
      rw [← hx3] at hz
      refine ⟨⟨by omega, by omega⟩, fun h => ?_, fun h => ?_⟩
      · rw [if_neg (by omega)] at hz; exact hz
      · rw [if_pos h] at hz; exact hz
    obtain ⟨y0, hy0⟩ : ∃ y : VS, y = sa σ 7 (4 * p2 + p3) (-1) := ⟨_, rfl⟩
    have hE0 : Eo [] [7] σ y0 := by rw [hy0]; exact Eo.rfl.sa 7 _ _ (by decide)
    have hE0' : Eo [] [7, 14] σ y0 := hE0.mono (by decide) (by decide)
    have h70 : ∀ j, j ≠ w → y0.2.1 7 j = σ.2.1 7 j := fun j hj => by rw [hy0, sa_at σ 7 _ _ hwi, if_neg hj]
    rw [← hy0] at h108 hring ⊢
    refine ⟨fun h => h108 y0 hE0' h70 (fun k => by omega), fun hp => ?_⟩
    have hpa := ha hp
    have hM0 : MI y0 := by rw [hy0]; exact hM.sa 7 _ _ (show -1 ≤ (-1 : Int32).toInt ∧ (-1 : Int32).toInt ≤ 49 by decide)
    have g0 : ∀ c, gate y0 c ↔ gate σ c := fun c => gate_same hE0 (by decide) c
    refine isGate_s hpa (by omega) (fun ga => ⟨fun z => absurd z (by decide), fun _ => ?_⟩) (fun ga => ⟨fun _ => h108 y0 hE0' h70 (fun k => ga ((g0 a).mpr k.2.1)), fun z => absurd rfl z⟩)
    refine isGate_s hb (by omega) (fun gb => ⟨fun z => absurd z (by decide), fun _ => ?_⟩) (fun gb => ⟨fun _ => h108 y0 hE0' h70 (fun k => gb ((g0 b).mpr k.2.2.1)), fun z => absurd rfl z⟩)
    have hnc : (nC y0 : Int) = (σ.1 1).toInt := by
      have : y0.1 1 = σ.1 1 := hE0.1 1 (by decide)
      unfold nC; rw [this]; omega
    refine rx_leads hb hpa (by omega) (by omega) (fun v hv => ?_) hM0 (fun r z hMz hEz hz hnz => ?_)
    · have e1 : y0.1 1 = σ.1 1 := hE0.1 1 (by decide)
      rw [e1] at hv ⊢
      by_cases e : v = w
      · unfold Tk
        rw [hy0, sa_at σ 7 _ _ hwi, if_pos e]
        have e9 : (-1 : Int32).toInt = -1 := rfl
        omega
      · have := hS.1 v hv
        unfold Tk at this ⊢
        rw [h70 v e]; exact this
    · have hEz' : Eo [] [7, 14] σ z := hE0'.trans (hEz.mono (by decide) (by decide))
      have h7z : z.2.1 7 = y0.2.1 7 := hEz.2 7 (by decide)
      refine ⟨fun h => ?_, fun h => ⟨⟨by omega, by omega⟩, ?_⟩⟩
      · obtain ⟨S, s1, s2, s3⟩ := hz h
        refine h108 z hEz' (fun j hj => by rw [h7z]; exact h70 j hj) (fun k => ?_)
        have hall : ∀ c, Rm y0 b c → S c = true := fun c hc => hc (fun c => S c = true) s1 (fun d i q1 q2 q3 q4 ih => s3 d i q1 q2 q3 q4 ih)
        have := hall a k.2.2.2
        rw [s2] at this
        exact absurd this (by decide)
      · refine hring ok hp (h5 hp) a b _ hpa hb ((g0 a).mp ga) ((g0 b).mp gb) (hnz h) (hEz'.sa 7 _ _ (by decide)) ?_
        funext j
        rw [sa_at z 7 _ _ hwi]
        by_cases e : j = w
        · rw [if_pos e, e, hx3]
        · rw [if_neg e, h7z]; exact h70 j e
  unfold wp_wire b_wire_22
  refine ⟨fun h => hbad (by omega), fun k1 => ⟨fun h => hbad (by omega), fun k2 => ?_⟩⟩
  refine isInput_x hM (fun a => ⟨fun _ => ⟨fun h => h41 ⟨⟨k1, k2⟩, a⟩ (fun k => by omega), fun h => ⟨⟨by omega, by omega⟩, fun k => h41 ⟨⟨k1, k2⟩, a⟩ (fun _ => k), fun k => hend ⟨⟨k1, k2⟩, a⟩ h k⟩⟩, fun z => absurd z (by decide)⟩) (fun a => ⟨fun z => absurd rfl z, fun _ => hbad (fun k => a k.2)⟩)
theorem WR.same {F A : List Nat} {σ τ : VS} (h : WR σ) (e : Eo F A σ τ) (hk : 2 ∉ F ∧ 12 ∉ A ∧ 16 ∉ A) : WR τ := by
  unfold WR srcf
  rw [e.1 2 hk.1, e.2 12 hk.2.1, e.2 16 hk.2.2]
  exact h
theorem gtC.same {F A : List Nat} {σ τ : VS} (e : Eo F A σ τ) (hk : 11 ∉ A) (c : Nat) : gtC τ c ↔ gtC σ c := by
  unfold gtC; rw [e.2 11 hk]
theorem Gw.same {F A : List Nat} {σ τ : VS} (e : Eo F A σ τ) (hk : 11 ∉ A ∧ 16 ∉ A) (w : Nat) : Gw τ w ↔ Gw σ w := by
  unfold Gw srcf gtC; rw [e.2 11 hk.1, e.2 16 hk.2]
theorem AcyC.same {F A : List Nat} {σ τ : VS} (h : AcyC σ) (e : Eo F A σ τ) (hk : 11 ∉ A ∧ 16 ∉ A) : AcyC τ := by
  unfold AcyC Gw gtC srcf
  rw [e.2 11 hk.1, e.2 16 hk.2]
  exact h
theorem TkL.same {F A : List Nat} {σ τ : VS} (h : TkL σ) (e : Eo F A σ τ) (hk : 2 ∉ F ∧ 16 ∉ A ∧ 17 ∉ A ∧ 18 ∉ A) : TkL τ := by
  unfold TkL srcf
  rw [e.1 2 hk.1, e.2 16 hk.2.1, e.2 17 hk.2.2.1, e.2 18 hk.2.2.2]
  exact h
theorem TO.same {F A : List Nat} {σ τ : VS} (h : TO σ) (e : Eo F A σ τ) (hk : (2 ∉ F ∧ 3 ∉ F) ∧ 11 ∉ A ∧ 16 ∉ A ∧ 19 ∉ A) : TO τ := by
  unfold TO Gw gtC srcf
  rw [e.1 2 hk.1.1, e.1 3 hk.1.2, e.2 11 hk.2.1, e.2 16 hk.2.2.1, e.2 19 hk.2.2.2]
  exact h
theorem Rc.same {F A : List Nat} {σ τ : VS} (e : Eo F A σ τ) (hk : 11 ∉ A ∧ 16 ∉ A) {a c : Nat} (h : Rc σ a c) : Rc τ a c := by
  refine h (fun c => Rc τ a c) Rc.here (fun w g1 g2 ih => ?_)
  have es : srcf τ w = srcf σ w := by unfold srcf; rw [e.2 16 hk.2]
  exact Rc.step w ((Gw.same e hk w).mpr g1) ((gtC.same e hk.1 _).mpr g2) (by rw [es]; exact ih)
theorem cx_arrange {Q : VS → Prop} {σ : VS} (hM : CI σ) (hC : CSrc σ) (hR : WR σ) (hA : AcyC σ) (hq : ∀ σ' : VS, Eo [3] [17, 18, 19, 20] σ σ' → TO σ' → TkL σ' → Q σ') : wp_X1arrange Q σ := by
  unfold wp_X1arrange
  refine cx_listTakers hM hC (fun σ1 hM1 hE1 _ hT1 => ?_)
  refine cx_orderGates hM1 (hC.same hE1 (by decide)) (hR.same hE1 (by decide)) hT1 (hA.same hE1 (by decide)) (fun σ2 hE2 hTO => ?_)
  exact hq σ2 ((hE1.mono (by decide) (by decide)).trans (hE2.mono (by decide) (by decide))) hTO (hT1.same hE2 (by decide))
def newC (p : Int32) : Int32 := if p.toInt = -1 then -5 else p
theorem cx_wire {Q : Int32 → VS → Prop} {p1 p2 p3 : Int32} {σ : VS} (hM : CI σ) (hC : CSrc σ) (hR : WR σ) (hTO : TO σ)
    (hbad : ¬ okW (σ.1 2).toInt (rd σ 12 p2).toInt p1 p2 p3 → Q (-1) σ)
    (hend : okW (σ.1 2).toInt (rd σ 12 p2).toInt p1 p2 p3 → 0 ≤ p1.toInt → (rd σ 11 p1).toInt = 5 → Q (-2) σ)
    (hring : okW (σ.1 2).toInt (rd σ 12 p2).toInt p1 p2 p3 → 0 ≤ p1.toInt → (rd σ 11 p1).toInt ≠ 5 → ∀ (a b : Nat) (z : VS), p1.toInt = (a : Int) → p2.toInt = (b : Int) → gtC σ a → gtC σ b → Rc σ b a → Eo [] [21] σ z → Q (-4) z)
    (hgo : okW (σ.1 2).toInt (rd σ 12 p2).toInt p1 p2 p3 → (0 ≤ p1.toInt → (rd σ 11 p1).toInt ≠ 5) → ∀ (a b w : Nat), p2.toInt = (b : Int) → (w : Int) = 4 * p2.toInt + p3.toInt → (0 ≤ p1.toInt → p1.toInt = (a : Int)) → ¬ (0 ≤ p1.toInt ∧ gtC σ a ∧ gtC σ b ∧ Rc σ b a) → (∀ z : VS, Eo [0, 1] [16, 21] σ z → (∀ j, z.2.1 16 j = if j = w then newC p1 else σ.2.1 16 j) → AcyC z) ∧ ∀ z : VS, Eo [0, 1, 3] [16, 17, 18, 19, 20, 21] σ z → (∀ j, z.2.1 16 j = if j = w then newC p1 else σ.2.1 16 j) → TO z → TkL z → Q (σ.2.1 16 w) z) : wp_X9wire Q p1 p2 p3 σ := by
  have hc : 0 ≤ (σ.1 2).toInt ∧ (σ.1 2).toInt ≤ 50 := hM.1 2
  have hI : 0 ≤ (rd σ 12 p2).toInt ∧ (rd σ 12 p2).toInt ≤ 4 := hM.2 12 _
  obtain ⟨n, hn⟩ : ∃ n : Nat, (σ.1 2).toInt = (n : Int) := ⟨(σ.1 2).toInt.toNat, by omega⟩
  unfold okW at hbad hend hgo hring
  have h51 : ((-1 ≤ p1.toInt ∧ p1.toInt < (σ.1 2).toInt) ∧ (0 ≤ p2.toInt ∧ p2.toInt < (σ.1 2).toInt) ∧ 0 ≤ p3.toInt ∧ p3.toInt < (rd σ 12 p2).toInt) → (0 ≤ p1.toInt → (rd σ 11 p1).toInt ≠ 5) → b_X9wire_51 Q p1 p2 p3 σ := by
    intro ok h5
    have v1 : (p2 * 4).toInt = p2.toInt * 4 := i3_mulc rfl rfl rfl (by omega)
    have v2 : (p2 * 4 + p3).toInt = (p2 * 4).toInt + p3.toInt := i3_addc rfl rfl rfl (by omega)
    obtain ⟨b, hb⟩ : ∃ b : Nat, p2.toInt = (b : Int) := ⟨p2.toInt.toNat, by omega⟩
    obtain ⟨i0, hi0⟩ : ∃ i : Nat, p3.toInt = (i : Int) := ⟨p3.toInt.toNat, by omega⟩
    obtain ⟨w, hw⟩ : ∃ w : Nat, w = 4 * b + i0 := ⟨_, rfl⟩
    have hwi : (p2 * 4 + p3).toInt = (w : Int) := by omega
    obtain ⟨a, ha⟩ : ∃ a : Nat, 0 ≤ p1.toInt → p1.toInt = (a : Int) := ⟨p1.toInt.toNat, fun h => by omega⟩
    have h71 : ∀ y : VS, CI y → Eo [] [21] σ y → ¬ (0 ≤ p1.toInt ∧ gtC σ a ∧ gtC σ b ∧ Rc σ b a) → b_X9wire_71 Q p1 p2 p3 y := by
      intro y hMy hEy hr
      obtain ⟨g1, g2⟩ := hgo ok h5 a b w hb (by omega) ha hr
      have h90 : ∀ k0 : Int32, k0 = newC p1 → (-5 ≤ k0.toInt ∧ k0.toInt < (n : Int)) → b_X9wire_90 Q p2 p3 k0 (fg y) := by
        intro k0 hk hkr
        unfold b_X9wire_90 wp_X1connect
        refine ⟨⟨by omega, by omega⟩, fun x1 e1 => ⟨⟨by omega, by omega⟩, ?_⟩⟩
        have hx1 : x1 = σ.2.1 16 w := by
          rw [e1, rd_at (fg y) 16 _ hwi]
          show y.2.1 16 w = _
          rw [hEy.2 16 (by decide)]
        have hEf : Eo [0, 1] [21] σ (fg y) := (hEy.mono (by decide) (by decide)).of (fg_eo y) (by decide) (by decide)
        obtain ⟨z, hz⟩ : ∃ z : VS, z = sa (fg y) 16 (p2 * 4 + p3) k0 := ⟨_, rfl⟩
        rw [← hz]
        have hEz : Eo [0, 1] [16, 21] σ z := by rw [hz]; exact (hEf.mono (by decide) (by decide)).sa 16 _ _ (by decide)
        have h16 : ∀ j, z.2.1 16 j = if j = w then newC p1 else σ.2.1 16 j := fun j => by
          rw [hz, sa_at (fg y) 16 _ _ hwi, hk]
          by_cases e : j = w
          · rw [if_pos e, if_pos e]
          · rw [if_neg e, if_neg e]; exact congrFun (hEf.2 16 (by decide)) j
        have hMz : CI z := by rw [hz]; exact (fg_ci hMy).sa 16 _ _ (show -5 ≤ k0.toInt ∧ k0.toInt ≤ 49 by omega)
        have hCz : CSrc z := by
          intro j
          rw [h16, hEz.1 2 (by decide)]
          by_cases e : j = w
          · rw [if_pos e, ← hk]; omega
          · rw [if_neg e]; exact hC j
        have hRz : WR z := by
          intro j hj
          unfold srcf at hj
          rw [h16] at hj
          rw [hEz.1 2 (by decide), hEz.2 12 (by decide)]
          by_cases e : j = w
          · have e1 : j / 4 = b := by omega
            have e2 : j % 4 = i0 := by omega
            rw [e1, e2]
            have e3 : (σ.2.1 12 b).toInt = (rd σ 12 p2).toInt := by rw [rd_at σ 12 p2 hb]
            rw [e3]
            exact ⟨by omega, by omega⟩
          · rw [if_neg e] at hj; exact hR j hj
        refine cx_arrange hMz hCz hRz (g1 z hEz h16) (fun τ hEt hTOt hTkt => ?_)
        rw [hx1]
        exact g2 τ ((hEz.mono (by decide) (by decide)).trans (hEt.mono (by decide) (by decide))) (fun j => by rw [hEt.2 16 (by decide)]; exact h16 j) hTOt hTkt
      unfold b_X9wire_71 wp_X9forget
      have e5 : (-5 : Int32).toInt = -5 := rfl
      refine ⟨fun h => h90 p1 ?_ (by omega), fun h => h90 (-5) ?_ (by omega)⟩
      · unfold newC; rw [if_neg h]
      · unfold newC; rw [if_pos h]
    unfold b_X9wire_51
    refine ⟨fun h => h71 σ hM Eo.rfl (fun k => by omega), fun h => ?_⟩
    have hp : 0 ≤ p1.toInt := by omega
    refine cx_ring hM hC hR hTO hn (ha hp) hb (by have := ha hp; omega) (by omega) (fun ga gb hr z hMz hE => ⟨fun k => absurd k (by decide), fun _ => hring ok hp (h5 hp) a b z (ha hp) hb ga gb hr hE⟩) (fun ga gb hr z hMz hE => ⟨fun _ => h71 z hMz hE (fun k => hr k.2.2.2), fun k => absurd rfl k⟩) (fun hg => ⟨fun _ => h71 σ hM Eo.rfl (fun k => hg ⟨k.2.1, k.2.2.1⟩), fun k => absurd rfl k⟩)
  have h16 : (-1 ≤ p1.toInt ∧ p1.toInt < (σ.1 2).toInt) → b_X9wire_16 Q p1 p2 p3 σ := by
    intro k1
    unfold b_X9wire_16 b_X9wire_28
    refine xinput_x hM (fun a => ⟨fun _ => ⟨fun h => h51 ⟨k1, a⟩ (fun k => by omega), fun h => ⟨⟨by omega, by omega⟩, fun k => h51 ⟨k1, a⟩ (fun _ => k), fun k => hend ⟨k1, a⟩ (by omega) k⟩⟩, fun z => absurd z (by decide)⟩) (fun a => ⟨fun z => absurd rfl z, fun _ => hbad (fun k => a k.2)⟩)
  unfold wp_X9wire b_X9wire_28
  exact ⟨fun h => h16 (by omega), fun h => xhas_x (fun a => ⟨fun z => absurd z (by decide), fun _ => h16 (by omega)⟩) (fun a => ⟨fun _ => hbad (fun k => a (by omega)), fun z => absurd rfl z⟩)⟩
/-- the nets of both sides agree -/
def NR (σ τ : VS) : Prop := (σ.1 2).toInt = (τ.1 1).toInt ∧ (∀ c : Nat, (c : Int) < (σ.1 2).toInt → σ.2.1 11 c = τ.2.1 2 c ∧ σ.2.1 12 c = τ.2.1 3 c) ∧ (∀ w : Nat, (w : Int) < 4 * (σ.1 2).toInt → σ.2.1 16 w = oldW (τ.2.1 7 w)) ∧ (∀ w : Nat, 4 * (σ.1 2).toInt ≤ (w : Int) → σ.2.1 16 w = -5)
theorem NR.gt {σ τ : VS} (h : NR σ τ) {c : Nat} (hc : (c : Int) < (σ.1 2).toInt) : gtC σ c ↔ gate τ c := by
  unfold gtC gate Kd
  rw [(h.2.1 c hc).1]
theorem NR.src {σ τ : VS} (h : NR σ τ) {w : Nat} (hw : 0 ≤ srcf σ w) : (w : Int) < 4 * (σ.1 2).toInt ∧ 0 ≤ Tk τ w ∧ srcf σ w = Tk τ w := by
  unfold srcf at hw ⊢
  unfold Tk
  by_cases c : (w : Int) < 4 * (σ.1 2).toInt
  · have e := h.2.2.1 w c
    unfold oldW at e
    by_cases d : (τ.2.1 7 w).toInt < 0
    · rw [if_pos d] at e
      rw [e] at hw
      exact absurd hw (by decide)
    · rw [if_neg d] at e
      rw [e]
      exact ⟨c, by omega, rfl⟩
  · have e := h.2.2.2 w (by omega)
    rw [e] at hw
    exact absurd hw (by decide)
theorem NR.src2 {σ τ : VS} (h : NR σ τ) {w : Nat} (hw : (w : Int) < 4 * (σ.1 2).toInt) (h0 : 0 ≤ Tk τ w) : srcf σ w = Tk τ w := by
  unfold srcf
  unfold Tk at h0 ⊢
  have e := h.2.2.1 w hw
  unfold oldW at e
  rw [if_neg (by omega)] at e
  rw [e]
theorem NR.acy {σ τ : VS} (h : NR σ τ) (hR : WR σ) (hS : SI τ) : AcyC σ := by
  obtain ⟨s1, -, -, -, ρ, hρ⟩ := hS
  refine ⟨ρ, fun w hg hd => ?_⟩
  obtain ⟨a1, a2, a3⟩ := h.src hg.1
  have hr := hR w hg.1
  have hw : 4 * (w / 4) + w % 4 = w := by omega
  have hlt := s1 w (by rw [← h.1]; exact a1)
  have hdn : ((w / 4 : Nat) : Int) < (σ.1 2).toInt := by omega
  have key := hρ (w / 4) (w % 4) (by rw [← h.1]; exact hdn) (by unfold Ip; rw [← (h.2.1 (w / 4) hdn).2]; exact hr.2) ((h.gt hdn).mp hd) (by rw [hw]; exact a2) (by rw [hw, ← a3]; exact (h.gt (by have := hg.1; have := h.1; omega)).mp hg.2)
  rw [hw, ← a3] at key
  exact key
/-- the ring test of both sides: the wire that is to go counts on neither -/
theorem NR.ring {σ τ τ0 : VS} (h : NR σ τ) (hR : WR σ) (hT : ∀ w : Nat, (w : Int) < 4 * (τ.1 1).toInt → Tk τ w < (τ.1 1).toInt) (hIn : ∀ c, (σ.2.1 12 c).toInt ≤ 4) {a b w0 : Nat} (hE : Eo [] [7] τ τ0) (h7 : ∀ j, j ≠ w0 → τ0.2.1 7 j = τ.2.1 7 j) (h70 : (τ0.2.1 7 w0).toInt < 0) (hw0 : w0 / 4 = b) (hb : (b : Int) < (σ.1 2).toInt) (gb : gtC σ b) : Rc σ b a ↔ Rm τ0 b a := by
  have hnc : (nC τ0 : Int) = (τ.1 1).toInt ∨ (τ.1 1).toInt < 0 := by
    have : τ0.1 1 = τ.1 1 := hE.1 1 (by decide)
    unfold nC; rw [this]; omega
  have g0 : ∀ c, gate τ0 c ↔ gate τ c := fun c => gate_same hE (by decide) c
  have hI : ∀ c, Ip τ0 c = Ip τ c := fun c => by unfold Ip; rw [hE.2 3 (by decide)]
  constructor
  · intro hr
    refine hr (fun c => Rm τ0 b c) Rm.here (fun w g1 g2 ih => ?_)
    · by_cases e : w = w0
      · rw [e, hw0]; exact Rm.here
      · obtain ⟨a1, a2, a3⟩ := h.src g1.1
        have hr := hR w g1.1
        have hw : 4 * (w / 4) + w % 4 = w := by omega
        have hdn : ((w / 4 : Nat) : Int) < (σ.1 2).toInt := by omega
        have et : Tk τ0 w = Tk τ w := by unfold Tk; rw [h7 w e]
        refine Rm.step (w / 4) (w % 4) (by have := h.1; omega) ((g0 _).mpr ((h.gt hdn).mp g2)) (by rw [hI]; unfold Ip; rw [← (h.2.1 (w / 4) hdn).2]; exact hr.2) (by rw [hw, et]; exact a2) ?_
        rw [hw, et, ← a3]
        exact ih
  · intro hr
    refine (hr (fun c => Rm τ0 b c ∧ Rc σ b c) ⟨Rm.here, Rc.here⟩ (fun d i q1 q2 q3 q4 hr2 => ⟨Rm.step d i q1 q2 q3 q4 hr2.1, ?_⟩)).2
    · obtain ⟨hr, ih⟩ := hr2
      have hdn : (d : Int) < (σ.1 2).toInt := by have := h.1; omega
      have gs : gate τ0 (Tk τ0 (4 * d + i)).toNat := hr.gt ((g0 b).mpr ((h.gt hb).mp gb))
      have e : 4 * d + i ≠ w0 := by
        intro e
        rw [e] at q4
        unfold Tk at q4
        omega
      have et : Tk τ0 (4 * d + i) = Tk τ (4 * d + i) := by unfold Tk; rw [h7 _ e]
      rw [et] at q4 gs ih
      rw [hI] at q3
      by_cases i4 : i < 4
      · have hwn : ((4 * d + i : Nat) : Int) < 4 * (σ.1 2).toInt := by omega
        have es := h.src2 hwn q4
        have hlt := hT (4 * d + i) (by rw [← h.1]; exact hwn)
        have ed : (4 * d + i) / 4 = d := by omega
        have hst := Rc.step (σ := σ) (a := b) (4 * d + i) ⟨by omega, by rw [es]; exact (h.gt (by have := h.1; omega)).mpr ((g0 _).mp gs)⟩ (by rw [ed]; exact (h.gt hdn).mpr ((g0 d).mp q2)) (by rw [es]; exact ih)
        rw [ed] at hst
        exact hst
      · exfalso
        have hr4 := (h.2.1 d hdn).2
        unfold Ip at q3
        rw [← hr4] at q3
        exact i4 (by have := hIn d; omega)
/-- wires, their takers and the order of the gates -/
def Dw (σ τ : VS) : Prop := (∀ w : Nat, (w : Int) < 4 * (σ.1 2).toInt → σ.2.1 16 w = oldW (τ.2.1 7 w)) ∧ (∀ w : Nat, 4 * (σ.1 2).toInt ≤ (w : Int) → σ.2.1 16 w = -5) ∧ WR σ ∧ TO σ ∧ TkL σ
theorem Dw.quiet {σ τ σ' τ' : VS} {F A F2 A2 : List Nat} (h : Dw σ τ) (e : Eo F A σ σ') (f : Eo F2 A2 τ τ') (h1 : (2 ∉ F ∧ 3 ∉ F) ∧ ∀ k ∈ [11, 12, 16, 17, 18, 19], k ∉ A) (h2 : 7 ∉ A2) : Dw σ' τ' := by
  obtain ⟨a, b, c, d, g⟩ := h
  have e2 := e.1 2 h1.1.1
  have e16 := e.2 16 (h1.2 16 (by decide))
  refine ⟨fun w hw => ?_, fun w hw => ?_, c.same e ⟨h1.1.1, h1.2 12 (by decide), h1.2 16 (by decide)⟩, d.same e ⟨h1.1, h1.2 11 (by decide), h1.2 16 (by decide), h1.2 19 (by decide)⟩, g.same e ⟨h1.1.1, h1.2 16 (by decide), h1.2 17 (by decide), h1.2 18 (by decide)⟩⟩
  · rw [e2] at hw; rw [e16, f.2 7 h2]; exact a w hw
  · rw [e2] at hw; rw [e16]; exact b w hw
theorem Dw.nr {σ τ : VS} (h : Dw σ τ) (J : Jn σ τ) (D : Dt σ τ) : NR σ τ := ⟨by rw [J.2.2.2.2.2.1], fun c hc => ⟨D.2.1 (11, 2) (by decide) c hc, D.2.1 (12, 3) (by decide) c hc⟩, h.1, h.2.1⟩
set_option maxHeartbeats 1000000 in
theorem dw_wire {p1 p2 p3 : Int32} {σ τ : VS} (J : Jn σ τ) (D : Dt σ τ) (W : Dw σ τ) : wp_X9wire (fun r σ' => wp_wire (fun r2 τ' => r = r2 ∧ Dw σ' τ') p1 p2 p3 τ) p1 p2 p3 σ := by
  have hNR := W.nr J D
  obtain ⟨hM, hC, hM2, hS, hL, k1, -⟩ := J
  have t1 : (σ.1 2).toInt = (τ.1 1).toInt := by rw [k1]
  have hc : 0 ≤ (σ.1 2).toInt ∧ (σ.1 2).toInt ≤ 50 := hM.1 2
  obtain ⟨W1, W2, hR, hTO, hTk⟩ := id W
  have hin : (0 ≤ p2.toInt ∧ p2.toInt < (σ.1 2).toInt) → rd σ 12 p2 = rd τ 3 p2 := fun h => D.cell (q := (12, 3)) (by decide) h
  have hok : okW (σ.1 2).toInt (rd σ 12 p2).toInt p1 p2 p3 ↔ okW (τ.1 1).toInt (rd τ 3 p2).toInt p1 p2 p3 := by
    unfold okW
    rw [t1]
    constructor
    · rintro ⟨a, b, c⟩
      rw [hin (by omega)] at c
      exact ⟨a, b, c⟩
    · rintro ⟨a, b, c⟩
      rw [← hin (by omega)] at c
      exact ⟨a, b, c⟩
  have hkd : (0 ≤ p1.toInt ∧ p1.toInt < (σ.1 2).toInt) → rd σ 11 p1 = rd τ 2 p1 := fun h => D.cell (q := (11, 2)) (by decide) h
  have hp1 : okW (σ.1 2).toInt (rd σ 12 p2).toInt p1 p2 p3 → 0 ≤ p1.toInt → rd σ 11 p1 = rd τ 2 p1 := fun o h => hkd ⟨h, o.1.2⟩
  -- the ring test of both sides is one
  have hring : okW (σ.1 2).toInt (rd σ 12 p2).toInt p1 p2 p3 → ∀ (a b : Nat), p1.toInt = (a : Int) → p2.toInt = (b : Int) → ((gtC σ a ∧ gtC σ b ∧ Rc σ b a) ↔ (gate τ a ∧ gate τ b ∧ Rm (sa τ 7 ((4 * p2) + p3) (-1)) b a)) := by
    intro o a b ha hb
    have o' := o
    unfold okW at o'
    have hI : 0 ≤ (rd σ 12 p2).toInt ∧ (rd σ 12 p2).toInt ≤ 4 := hM.2 12 _
    have v1 : (4 * p2).toInt = 4 * p2.toInt := i3_mulc rfl rfl rfl (by omega)
    have v2 : (4 * p2 + p3).toInt = (4 * p2).toInt + p3.toInt := i3_addc rfl rfl rfl (by omega)
    obtain ⟨w, hw⟩ : ∃ w : Nat, (4 * p2 + p3).toInt = (w : Int) := ⟨(4 * p2 + p3).toInt.toNat, by omega⟩
    have hga := hNR.gt (c := a) (by omega)
    have hgb := hNR.gt (c := b) (by omega)
    by_cases gb : gtC σ b
    · have key := hNR.ring (a := a) (b := b) (w0 := w) hR hS.1 (fun c => (hM.2 12 c).2) (τ0 := sa τ 7 ((4 * p2) + p3) (-1)) (Eo.rfl.sa 7 _ _ (by decide)) (fun j hj => by rw [sa_at τ 7 _ _ hw, if_neg hj]) (by rw [sa_at τ 7 _ _ hw, if_pos rfl]; decide) (by omega) (by omega) gb
      rw [hga, hgb, key]
    · exact ⟨fun h => absurd h.2.1 gb, fun h => absurd (hgb.mpr h.2.1) gb⟩
  refine cx_wire hM hC hR hTO (fun hb => ?_) (fun o h5 hk => ?_) (fun o h0 hk a b z ha hb ga gb hr hE => ?_) (fun o hk a b w hb hw ha hno => ⟨fun z hE h16 => ?_, fun z hE h16 hTOz hTkz => ?_⟩)
  · have hb' : ¬ okW (τ.1 1).toInt (rd τ 3 p2).toInt p1 p2 p3 := fun h => hb (hok.mpr h)
    exact rx_wire hS hM2 (fun _ => ⟨rfl, W⟩) (fun h => absurd h hb') (fun h => absurd h hb') (fun h => absurd h hb')
  · have e := hp1 o h5
    rw [e] at hk
    exact rx_wire hS hM2 (fun h => absurd (hok.mp o) h) (fun _ _ _ => ⟨rfl, W⟩) (fun _ h => absurd hk (h h5)) (fun _ _ h => absurd hk h)
  · have e := hp1 o h0
    rw [e] at hk
    refine rx_wire hS hM2 (fun h => absurd (hok.mp o) h) (fun _ _ h => absurd h hk) (fun _ _ a' b' w' z' hb' hw' ha' hno' => ?_) (fun _ _ _ a' b' z' _ _ _ _ _ hE' h7 => ⟨rfl, ?_⟩)
    · exfalso
      have ea : a' = a := by have := ha' h0; omega
      have eb : b' = b := by omega
      rw [ea, eb] at hno'
      exact hno' ⟨h0, (hring o a b ha hb).mp ⟨ga, gb, hr⟩⟩
    · have hq := W.quiet hE (Eo.rfl (F := []) (A := []) (σ := τ)) (by decide) (by decide)
      refine ⟨fun v hv => ?_, hq.2.1, hq.2.2.1, hq.2.2.2.1, hq.2.2.2.2⟩
      rw [h7]; exact hq.1 v hv
  · -- the new net has no ring
    have o' := o
    unfold okW at o'
    have hI : 0 ≤ (rd σ 12 p2).toInt ∧ (rd σ 12 p2).toInt ≤ 4 := hM.2 12 _
    have v1 : (4 * p2).toInt = 4 * p2.toInt := i3_mulc rfl rfl rfl (by omega)
    have v2 : (4 * p2 + p3).toInt = (4 * p2).toInt + p3.toInt := i3_addc rfl rfl rfl (by omega)
    obtain ⟨i0, hi0⟩ : ∃ i : Nat, p3.toInt = (i : Int) := ⟨p3.toInt.toNat, by omega⟩
    have hwi : (4 * p2 + p3).toInt = (w : Int) := by omega
    have hz7 : ∀ j, (sa τ 7 (4 * p2 + p3) p1).2.1 7 j = if j = w then p1 else τ.2.1 7 j := fun j => sa_at τ 7 _ _ hwi j
    have hSz : SI (sa τ 7 (4 * p2 + p3) p1) := by
      refine wire_si (w := w) (tt := b) (i0 := i0) hS hM2 ((Eo.rfl.sa 7 _ _ (by decide) : Eo [] [7, 14] τ _)) (by omega) (by omega) (v := p1) hz7 (by omega) (fun h0 g1 g2 => ?_)
      have ha0 := ha h0
      have ea : p1.toInt.toNat = a := by omega
      rw [ea] at g1 ⊢
      have hnr : ¬ Rm (sa τ 7 ((4 * p2) + p3) (-1)) b a := fun hr => by
        have := (hring o a b ha0 hb).mpr ⟨g1, g2, hr⟩
        exact hno ⟨h0, this⟩
      refine ⟨fun c => @decide (Rm (sa τ 7 ((4 * p2) + p3) (-1)) b c) (Classical.propDecidable _), @decide_eq_true _ (Classical.propDecidable _) Rm.here, @decide_eq_false _ (Classical.propDecidable _) hnr, fun d i q1 q2 q3 q4 q5 q6 => ?_⟩
      have et : Tk (sa τ 7 ((4 * p2) + p3) (-1)) (4 * d + i) = Tk τ (4 * d + i) := by unfold Tk; rw [sa_at τ 7 _ _ hwi, if_neg q4]
      have g0 : ∀ c, gate (sa τ 7 ((4 * p2) + p3) (-1)) c ↔ gate τ c := fun c => gate_same (Eo.rfl.sa 7 _ _ (by decide) : Eo [] [7] τ _) (by decide) c
      refine @decide_eq_true _ (Classical.propDecidable _) (Rm.step d i q1 ((g0 d).mpr q2) q3 (by rw [et]; exact q5) ?_)
      rw [et]
      exact @of_decide_eq_true _ (Classical.propDecidable _) q6
    have hRz : WR z := by
      intro j hj
      unfold srcf at hj
      rw [h16] at hj
      rw [hE.1 2 (by decide), hE.2 12 (by decide)]
      by_cases e : j = w
      · have e1 : j / 4 = b := by omega
        have e2 : j % 4 = i0 := by omega
        rw [e1, e2]
        have e3 : (σ.2.1 12 b).toInt = (rd σ 12 p2).toInt := by rw [rd_at σ 12 p2 hb]
        rw [e3]
        exact ⟨by omega, by omega⟩
      · rw [if_neg e] at hj; exact hR j hj
    refine NR.acy (τ := sa τ 7 (4 * p2 + p3) p1) ⟨by rw [hE.1 2 (by decide)]; exact t1, fun c hc => ?_, fun v hv => ?_, fun v hv => ?_⟩ hRz hSz
    · rw [hE.1 2 (by decide)] at hc
      rw [hE.2 11 (by decide), hE.2 12 (by decide), sa_other (by decide), sa_other (by decide)]
      exact hNR.2.1 c hc
    · rw [hE.1 2 (by decide)] at hv
      rw [h16, hz7]
      by_cases e : v = w
      · rw [if_pos e, if_pos e]
        unfold newC oldW
        by_cases f : p1.toInt = -1
        · rw [if_pos f, if_pos (by omega)]
        · rw [if_neg f, if_neg (by omega)]
      · rw [if_neg e, if_neg e]; exact W1 v hv
    · rw [hE.1 2 (by decide)] at hv
      rw [h16, if_neg (by omega)]; exact W2 v hv
  · have o' := o
    unfold okW at o'
    have hI : 0 ≤ (rd σ 12 p2).toInt ∧ (rd σ 12 p2).toInt ≤ 4 := hM.2 12 _
    have hk' : 0 ≤ p1.toInt → (rd τ 2 p1).toInt ≠ 5 := fun h => by rw [← hp1 o h]; exact hk h
    refine rx_wire hS hM2 (fun h => absurd (hok.mp o) h) (fun _ h0 h5 => absurd h5 (hk' h0)) (fun _ _ a' b' w' z' hb' hw' ha' hno' hE' h7 => ?_) (fun _ h0 _ a' b' z' ha' hb' ga gb hr => ?_)
    · have ew : w' = w := by omega
      subst ew
      refine ⟨W1 w' (by omega), fun v hv => ?_, fun v hv => ?_, ?_, hTOz, hTkz⟩
      · rw [hE.1 2 (by decide)] at hv
        rw [h16, h7]
        by_cases e : v = w'
        · rw [if_pos e, if_pos e]
          unfold newC oldW
          by_cases f : p1.toInt = -1
          · rw [if_pos f, if_pos (by omega)]
          · rw [if_neg f, if_neg (by omega)]
        · rw [if_neg e, if_neg e]; exact W1 v hv
      · rw [hE.1 2 (by decide)] at hv
        rw [h16, if_neg (by omega)]; exact W2 v hv
      · intro j hj
        unfold srcf at hj
        rw [h16] at hj
        rw [hE.1 2 (by decide), hE.2 12 (by decide)]
        by_cases e : j = w'
        · obtain ⟨i0, hi0⟩ : ∃ i : Nat, p3.toInt = (i : Int) := ⟨p3.toInt.toNat, by omega⟩
          have e1 : j / 4 = b := by omega
          have e2 : j % 4 = i0 := by omega
          rw [e1, e2]
          have e3 : (σ.2.1 12 b).toInt = (rd σ 12 p2).toInt := by rw [rd_at σ 12 p2 hb]
          rw [e3]
          exact ⟨by omega, by omega⟩
        · rw [if_neg e] at hj; exact hR j hj
    · exfalso
      have ea : a' = a := by have := ha h0; omega
      have eb : b' = b := by omega
      rw [ea] at ga hr
      rw [eb] at gb hr
      exact hno ⟨h0, (hring o a b (ha h0) hb).mpr ⟨ga, gb, hr⟩⟩
theorem cy_make {Q : Int32 → VS → Prop} {p1 p2 p3 : Int32} {σ : VS} (hM : CI σ) (hC : CSrc σ) (hR : WR σ) (hA : AcyC σ) (hq : ∀ (r : Int32) (σ' : VS), Eo [0, 1, 2, 3] [11, 12, 13, 17, 18, 19, 20] σ σ' → ((okM p1 p2 p3 ∧ (σ.1 2).toInt < 50 ∧ r.toInt = (σ.1 2).toInt ∧ (σ'.1 2).toInt = (σ.1 2).toInt + 1 ∧ WR σ' ∧ TO σ' ∧ TkL σ') ∨ (((¬ okM p1 p2 p3 ∧ r.toInt = -1) ∨ (okM p1 p2 p3 ∧ ¬ (σ.1 2).toInt < 50 ∧ r.toInt = -3)) ∧ σ' = σ)) → Q r σ') : wp_X9make Q p1 p2 p3 σ := by
  have hc : 0 ≤ (σ.1 2).toInt ∧ (σ.1 2).toInt ≤ 50 := hM.1 2
  have e1 : (1 : Int32).toInt = 1 := rfl
  have e4 : (4 : Int32).toInt = 4 := rfl
  have e0 : (0 : Int32).toInt = 0 := rfl
  have hno : ¬ okM p1 p2 p3 → Q (-1) σ := fun h => hq _ _ Eo.rfl (Or.inr ⟨Or.inl ⟨h, rfl⟩, rfl⟩)
  have h86 : ∀ kk : Int32, okM p1 p2 p3 → (σ.1 2).toInt < 50 → 0 ≤ kk.toInt ∧ kk.toInt ≤ 4 → b_X9make_86 Q p1 p3 kk σ := by
    intro kk ok hlt hk
    unfold b_X9make_86 wp_X9forget wp_X1addCell
    intro x1 ex
    have t : (σ.1 2 + 1).toInt = (σ.1 2).toInt + 1 := i3_addc rfl rfl rfl (by omega)
    have hf : (fg σ).1 2 = σ.1 2 := (fg_eo σ).1 2 (by decide)
    have ex' : x1 = (fg σ).1 2 := ex
    have hx : x1.toInt = (σ.1 2).toInt := by rw [ex', hf]
    refine ⟨⟨by omega, by omega⟩, ⟨by omega, by omega⟩, ⟨by omega, by omega⟩, ?_⟩
    show wp_X1arrange _ (sa (sa (sa (sf (fg σ) 2 ((fg σ).1 2 + 1)) 11 x1 p1) 12 x1 kk) 13 x1 p3)
    rw [hf]
    obtain ⟨y, hy⟩ : ∃ y : VS, y = sa (sa (sa (sf (fg σ) 2 (σ.1 2 + 1)) 11 x1 p1) 12 x1 kk) 13 x1 p3 := ⟨_, rfl⟩
    rw [← hy]
    have hMy : CI y := by
      rw [hy]
      exact ((((fg_ci hM).sf 2 _ (show 0 ≤ (σ.1 2 + 1).toInt ∧ (σ.1 2 + 1).toInt ≤ 50 by omega)).sa 11 _ _ (show 0 ≤ p1.toInt ∧ p1.toInt ≤ 5 from ok.1)).sa 12 _ _ (show 0 ≤ kk.toInt ∧ kk.toInt ≤ 4 from hk)).sa 13 _ _ (show 0 ≤ p3.toInt ∧ p3.toInt ≤ 7 from ok.2.1)
    have hEy : Eo [0, 1, 2, 3] [11, 12, 13, 17, 18, 19, 20] σ y := by
      rw [hy]
      exact (((((fg_eo σ).mono (by decide) (by decide)).sf 2 _ (by decide)).sa 11 _ _ (by decide)).sa 12 _ _ (by decide)).sa 13 _ _ (by decide)
    have y2 : y.1 2 = σ.1 2 + 1 := by
      rw [hy]
      show (sf (fg σ) 2 (σ.1 2 + 1)).1 2 = _
      rw [sf_same]
    have hCy : CSrc y := by
      intro w
      rw [hEy.2 16 (by decide), y2]
      have := hC w
      omega
    have hxn : x1.toInt = (((σ.1 2).toInt.toNat : Nat) : Int) := by omega
    have y12 : ∀ j, j ≠ (σ.1 2).toInt.toNat → y.2.1 12 j = σ.2.1 12 j := fun j hj => by
      rw [hy, sa_other (by decide), sa_at _ 12 x1 _ hxn, if_neg hj, sa_other (by decide)]; rfl
    have y11 : ∀ j, j ≠ (σ.1 2).toInt.toNat → y.2.1 11 j = σ.2.1 11 j := fun j hj => by
      rw [hy, sa_other (by decide), sa_other (by decide), sa_at _ 11 x1 _ hxn, if_neg hj]; rfl
    have es : srcf y = srcf σ := by unfold srcf; rw [hEy.2 16 (by decide)]
    have hRy : WR y := by
      intro w hw
      rw [es] at hw
      have := hR w hw
      rw [y2, y12 _ (by omega)]
      exact ⟨by omega, this.2⟩
    have hgy : ∀ c, c ≠ (σ.1 2).toInt.toNat → (gtC y c ↔ gtC σ c) := fun c hc => by unfold gtC; rw [y11 c hc]
    have hAy : AcyC y := by
      obtain ⟨ρ, hρ⟩ := hA
      refine ⟨ρ, fun w hg hd => ?_⟩
      have hs : 0 ≤ srcf σ w := by rw [← es]; exact hg.1
      have h1 := hR w hs
      have h2 : srcf σ w < (σ.1 2).toInt := hC w
      rw [es]
      refine hρ w ⟨hs, ?_⟩ ((hgy _ (by omega)).mp hd)
      have := hg.2
      rw [es] at this
      exact (hgy _ (by omega)).mp this
    refine cx_arrange hMy hCy hRy hAy (fun τ hEt hTOt hTkt => ?_)
    exact hq _ _ (hEy.of hEt (by decide) (by decide)) (Or.inl ⟨ok, hlt, hx, by rw [hEt.1 2 (by decide), y2]; exact t, hRy.same hEt (by decide), hTOt, hTkt⟩)
  have h53 : ∀ l4 : Int32, okM p1 p2 p3 → (l4.toInt ≠ 0 → p1.toInt = 1 ∨ p1.toInt = 2) → b_X9make_53 Q p1 p2 p3 l4 σ := by
    intro l4 ok hl
    unfold b_X9make_53
    exact ⟨fun h => ⟨fun _ => ⟨fun _ => h86 1 ok h (by omega), fun _ => h86 0 ok h (by omega)⟩, fun k => h86 p2 ok h (by have := ok.2.2 (hl k); omega)⟩, fun h => hq _ _ Eo.rfl (Or.inr ⟨Or.inr ⟨ok, by omega, rfl⟩, rfl⟩)⟩
  have h34 : (0 ≤ p1.toInt ∧ p1.toInt ≤ 5) → (0 ≤ p3.toInt ∧ p3.toInt ≤ 7) → ¬ (p1.toInt = 1 ∨ p1.toInt = 2) → b_X9make_34 Q p1 p2 p3 σ := by
    intro a b c
    unfold b_X9make_34 b_X9make_35
    exact ⟨fun _ => h53 0 ⟨a, b, fun h => absurd h c⟩ (fun z => absurd rfl z), fun z => absurd rfl z⟩
  unfold wp_X9make b_X9make_16
  refine ⟨fun h => hno (fun o => by have := o.1; omega), fun h1 => ⟨fun h => hno (fun o => by have := o.1; omega), fun h2 => ?_⟩⟩
  refine xtab_x (fun b => ⟨fun _ => ?_, fun z => absurd z (by decide)⟩) (fun b => ⟨fun z => absurd rfl z, fun _ => hno (fun o => b o.2.1)⟩)
  refine xgate_x (fun g => ⟨fun z => absurd z (by decide), fun _ => ⟨fun h3 => h34 ⟨h1, h2⟩ b (by omega), fun h3 => ?_⟩⟩) (fun g => ⟨fun _ => h34 ⟨h1, h2⟩ b (by omega), fun z => absurd rfl z⟩)
  unfold b_X9make_35
  refine ⟨fun z => absurd z (by decide), fun _ => xwithin_x (fun k => ⟨fun _ => h53 1 ⟨⟨h1, h2⟩, b, fun _ => by omega⟩ (fun _ => by omega), fun z => absurd z (by decide)⟩) (fun k => ⟨fun z => absurd rfl z, fun _ => hno (fun o => by have := o.2.2 (by omega); omega)⟩)⟩
theorem dw_make {p1 p2 p3 : Int32} {σ τ : VS} (J : Jn σ τ) (D : Dt σ τ) (W : Dw σ τ) : wp_X9make (fun _ σ' => wp_make (fun _ τ' => Dw σ' τ') p1 p2 p3 τ) p1 p2 p3 σ := by
  have hNR := W.nr J D
  obtain ⟨hM, hC, hM2, hS, hL, k1, -⟩ := J
  have t1 : (σ.1 2).toInt = (τ.1 1).toInt := by rw [k1]
  obtain ⟨W1, W2, hR, hTO, hTk⟩ := id W
  refine cy_make hM hC hR (hNR.acy hR hS) (fun r σ' e a => rx_make hS hM2 hL (fun r2 τ' _ _ _ f b => ?_))
  rcases a with ⟨q1, q2, q3, q4, q5, q6, q7⟩ | ⟨q1, q2⟩ <;> rcases b with ⟨w1, w2, w3, w4, n, kk, hn, ho, hm⟩ | ⟨w1, w2⟩
  · refine ⟨fun w hw => ?_, fun w hw => ?_, q5, q6, q7⟩
    · obtain ⟨-, -, -, -, -, -, -, -, -, -, -, m7, m7'⟩ := hm w
      rw [e.2 16 (by decide)]
      by_cases c : w < 4 * n
      · rw [m7' c]; exact W1 w (by omega)
      · rw [m7 (by omega) (by omega), W2 w (by omega)]; rfl
    · rw [e.2 16 (by decide)]; exact W2 w (by omega)
  · rcases w1 with w1 | w1
    · exact absurd q1 w1.1
    · exact absurd (by omega) w1.2.1
  · rcases q1 with q1 | q1
    · exact absurd w1 q1.1
    · exact absurd (by omega) q1.2.1
  · rw [q2, w2]; exact W
theorem dp_takes {p1 p2 : Int32} {σ τ : VS} (J : Jn σ τ) (D : Dt σ τ) (W : Dw σ τ) : wp_X9takes (fun r σ' => wp_takes (fun r2 τ' => r = r2 ∧ σ' = σ ∧ τ' = τ) p1 p2 τ) p1 p2 σ := by
  obtain ⟨hM, hC, hM2, hS, hL, k1, -⟩ := J
  have t1 : (σ.1 2).toInt = (τ.1 1).toInt := by rw [k1]
  have hc : 0 ≤ (σ.1 2).toInt ∧ (σ.1 2).toInt ≤ 50 := hM.1 2
  have hI : 0 ≤ (rd σ 12 p1).toInt ∧ (rd σ 12 p1).toInt ≤ 4 := hM.2 12 _
  have hin : (0 ≤ p1.toInt ∧ p1.toInt < (σ.1 2).toInt) → rd σ 12 p1 = rd τ 3 p1 := fun h => D.cell (q := (12, 3)) (by decide) h
  unfold wp_X9takes b_X9takes_29
  refine xinput_x hM (fun a => ⟨fun z => absurd z (by decide), fun _ => ?_⟩) (fun a => ⟨fun _ => ?_, fun z => absurd rfl z⟩)
  · have v1 : (p1 * 4).toInt = p1.toInt * 4 := i3_mulc rfl rfl rfl (by omega)
    have v2 : (p1 * 4 + p2).toInt = (p1 * 4).toInt + p2.toInt := i3_addc rfl rfl rfl (by omega)
    have u1 : (4 * p1).toInt = 4 * p1.toInt := i3_mulc rfl rfl rfl (by omega)
    have u2 : (4 * p1 + p2).toInt = (4 * p1).toInt + p2.toInt := i3_addc rfl rfl rfl (by omega)
    obtain ⟨w, hw⟩ : ∃ w : Nat, (p1 * 4 + p2).toInt = (w : Int) := ⟨(p1 * 4 + p2).toInt.toNat, by omega⟩
    have hw2 : (4 * p1 + p2).toInt = (w : Int) := by omega
    refine ⟨⟨by omega, by omega⟩, ?_⟩
    rw [rd_at σ 16 _ hw, W.1 w (by omega)]
    unfold wp_takes b_takes_41
    refine isInput_x hM2 (fun b => ⟨fun _ => ⟨⟨by omega, by omega⟩, fun c => ⟨⟨by omega, by omega⟩, ?_⟩, fun c => ?_⟩, fun z => absurd z (by decide)⟩) (fun b => absurd (by rw [← hin a.1, ← t1]; exact a) b)
    · rw [rd_at τ 7 _ hw2] at c ⊢
      unfold oldW
      rw [if_neg (by omega)]
      exact ⟨rfl, rfl, rfl⟩
    · rw [rd_at τ 7 _ hw2] at c
      unfold oldW
      rw [if_pos c]
      exact ⟨rfl, rfl, rfl⟩
  · unfold wp_takes b_takes_41
    refine isInput_x hM2 (fun b => absurd (by rw [hin (by omega), t1]; exact b) a) (fun b => ⟨fun z => absurd rfl z, fun _ => ⟨rfl, rfl, rfl⟩⟩)
