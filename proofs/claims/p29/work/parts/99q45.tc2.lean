/-- the table of the ways on -/
def OnT (σ : VS) (D : Nat → Nat → Int) (n R : Nat) (F : Nat → Nat → List (List Nat)) : Prop := ∀ c, c < n → gN D c → ∀ m, m < 2 ^ R → vv σ 53 (c * 2 ^ R + m) = min 1000 (((F c m).length : Nat) : Int)
set_option maxHeartbeats 1000000 in
theorem cx_aimFrom {Q : Int32 → VS → Prop} {p1 : Int32} {σ : VS} {D : Nat → Nat → Int} {n R s t : Nat} {b : Nat → Nat} {nm : Nat → Int} {F : Nat → Nat → List (List Nat)} (h1 : p1.toInt = (s : Int)) (hM : CI σ) (hT : TkL σ) (hO : TO σ) (T : TrE σ D n R s t b nm F) (hq : ∀ (r : Int32) (τ : VS), CI τ → Eo [12] [53] σ τ → τ.2.2 = σ.2.2 → (τ.1 12).toInt = (s : Int) → OnT τ D n R F → r.toInt = min 1000 (((F s (b s)).length : Nat) : Int) → Q r τ) : wp_X7aimFrom Q p1 σ := by
  have T0 := T
  obtain ⟨hn, hsrc, hk, hR, h11, hb, hbK, hst, hnm, hF, h13⟩ := T0
  have a2 : 0 ≤ (σ.1 2).toInt ∧ (σ.1 2).toInt ≤ 50 := hM.1 2
  have a3 : 0 ≤ (σ.1 3).toInt ∧ (σ.1 3).toInt ≤ 50 := hM.1 3
  have en : (σ.1 2).toInt = ((n : Nat) : Int) := by rw [hn]; unfold nCl; omega
  have hR4 : 0 ≤ (σ.1 6).toInt ∧ (σ.1 6).toInt ≤ 4 := hM.1 6
  have kk := K_le R (by omega)
  obtain ⟨O1, O2, O3, O4⟩ := hO
  unfold wp_X7aimFrom
  intro X15 X21 H15 H21
  have Z : ∀ (i : Nat) (l2 : Int32) (τ : VS), i ≤ (σ.1 3).toInt.toNat → l2.toInt = (i : Int) - 1 → CI τ → Eo [12] [53] σ τ → τ.2.2 = σ.2.2 → (τ.1 12).toInt = (s : Int) → (∀ j c : Nat, i ≤ j → (j : Int) < (σ.1 3).toInt → (σ.2.1 19 j).toInt = (c : Int) → ∀ m, m < 2 ^ R → vv τ 53 (c * 2 ^ R + m) = min 1000 (((F c m).length : Nat) : Int)) → X15 l2 τ := by
    intro i
    induction i with
    | zero =>
      intro l2 τ hi e2 hMt hE hJ h12 hI
      refine H15 l2 τ ?_
      unfold b_X7aimFrom_15
      have on : OnT τ D n R F := fun c hc g m hm => by
        have g2 : gtC σ c := by
          unfold gN at g
          rw [hk c hc] at g
          exact g
        obtain ⟨j, hj, ej⟩ := O3 c (by omega) g2
        exact hI j c (by omega) hj ej m hm
      have Tt := T.same hE (by decide)
      refine ⟨fun _ => ⟨⟨by omega, by omega⟩, ?_⟩, fun z => by omega⟩
      have r35 : (rd τ 35 (τ.1 12)).toInt = ((b s : Nat) : Int) := by rw [vv_rd h12, vv_eo hE (by decide)]; exact hb s (by omega)
      exact cx_sumOnward h12 r35 hMt (hT.same hE (by decide)) Tt h12 hst.1 (hbK s) (fun w hw e nt g => on _ (by omega) g _ (or_K _ _ (hbK s) (hbK _))) (fun r hr => hq r τ hMt hE hJ h12 on hr)
    | succ i ih =>
      intro l2 τ hi e2 hMt hE hJ h12 hI
      refine H15 l2 τ ?_
      unfold b_X7aimFrom_15
      refine ⟨fun z => by omega, fun _ => ?_⟩
      obtain ⟨c, ec, cn, cg⟩ := O1 i (by omega)
      have cg2 : gN D c := by
        unfold gN
        rw [hk c (by omega)]
        exact cg
      have V : ∀ (d k : Nat) (l3 : Int32) (τ : VS), 2 ^ R + 1 ≤ d + k → k ≤ 2 ^ R → l3.toInt = (k : Int) → CI τ → Eo [12] [53] σ τ → τ.2.2 = σ.2.2 → (τ.1 12).toInt = (s : Int) → (∀ j c : Nat, i + 1 ≤ j → (j : Int) < (σ.1 3).toInt → (σ.2.1 19 j).toInt = (c : Int) → ∀ m, m < 2 ^ R → vv τ 53 (c * 2 ^ R + m) = min 1000 (((F c m).length : Nat) : Int)) → (∀ m, m < k → vv τ 53 (c * 2 ^ R + m) = min 1000 (((F c m).length : Nat) : Int)) → X21 l2 l3 τ := by
        intro d
        induction d with
        | zero => intro k l3 τ a b'; omega
        | succ d ihd =>
          intro k l3 τ a b' e3 hMt hE hJ h12 hI hC
          refine H21 l2 l3 τ ?_
          unfold b_X7aimFrom_21
          have f11 : (τ.1 11).toInt = ((2 ^ R : Nat) : Int) := by rw [hE.1 11 (by decide)]; exact h11
          refine ⟨fun z => ?_, fun z => ⟨⟨by omega, by omega⟩, ⟨by omega, by omega⟩, ?_⟩⟩
          · obtain ⟨l2b, hl2b⟩ : ∃ y : Int32, y = l2 + (-1) := ⟨_, rfl⟩
            have e2i : l2.toInt = (i : Int) := by omega
            have t2 : l2b.toInt = (i : Int) + (-1) := i3_addc e2i (show (-1 : Int32).toInt = -1 from rfl) hl2b (by omega)
            rw [← hl2b]
            clear hl2b
            refine ih l2b τ (by omega) (by omega) hMt hE hJ h12 (fun j c2 hj hj2 ej m hm => ?_)
            by_cases q : j = i
            · rw [q, ec] at ej
              have e5 : c2 = c := by omega
              rw [e5]; exact hC m (by omega)
            · exact hI j c2 (by omega) hj2 ej m hm
          · have hkR : k < 2 ^ R := by omega
            have ro : (rd τ 19 l2).toInt = (c : Int) := by
              rw [vv_rd (n := i) (by omega), vv_eo hE (by decide)]
              exact ec
            have Tt := T.same hE (by decide)
            have pl := pl_lt (c := c) (by omega) kk.2 hkR
            have e0 : ((c : Nat) : Int) * ((2 ^ R : Nat) : Int) = ((c * 2 ^ R : Nat) : Int) := (Int.natCast_mul _ _).symm
            have t3 : (rd τ 19 l2 * τ.1 11).toInt = ((c * 2 ^ R : Nat) : Int) := by
              have q := i3_mulc (x := rd τ 19 l2 * τ.1 11) ro f11 rfl (by rw [e0]; omega)
              rw [q, e0]
            have t4 : ((rd τ 19 l2 * τ.1 11) + l3).toInt = ((c * 2 ^ R + k : Nat) : Int) := by
              have q := i3_addc (x := (rd τ 19 l2 * τ.1 11) + l3) t3 e3 rfl (by omega)
              omega
            have t5 : (l3 + 1).toInt = ((k + 1 : Nat) : Int) := by
              have q := i3_addc (x := l3 + 1) e3 (show (1 : Int32).toInt = 1 from rfl) rfl (by omega)
              omega
            refine cx_sumOnward ro e3 hMt (hT.same hE (by decide)) Tt h12 (by omega) hkR (fun w hw e nt g => ?_) (fun r hr => ⟨⟨by omega, by omega⟩, ?_⟩)
            · have wn : w / 4 < n := by omega
              have g2 : gtC σ (w / 4) := by
                unfold gN at g
                rw [hk _ wn] at g
                exact g
              obtain ⟨j, hj, ej⟩ := O3 (w / 4) (by omega) g2
              have sw : srcf σ w = (c : Int) := (hsrc w hw c).mp e
              obtain ⟨i', hi', ei'⟩ := O4 j w hj ej.symm ⟨by rw [sw]; omega, by rw [sw]; exact cg⟩
              have ii : i' = i := O2 i' i (by omega) (by omega) (by rw [ei', sw, ec])
              exact hI j (w / 4) (by omega) hj ej _ (or_K _ _ hkR (hbK _))
            · have br : 0 ≤ r.toInt ∧ r.toInt ≤ 1000 := by omega
              refine ihd (k + 1) (l3 + 1) _ (by omega) (by omega) t5 (hMt.sa 53 _ r br) (hE.sa 53 _ r (by decide)) hJ h12 (fun j c2 hj hj2 ej m hm => ?_) (fun m hm => ?_)
              · rw [vv_sa τ 53 _ r t4, fu_ne (fun q => ?_)]
                · exact hI j c2 hj hj2 ej m hm
                · have e6 := (pl_inj hm hkR q).1
                  have e7 := O2 j i hj2 (by omega) (by rw [ej, ec, e6])
                  omega
              · rw [vv_sa τ 53 _ r t4]
                by_cases q : m = k
                · rw [q, fu_eq, hr]
                · rw [fu_ne (fun q2 => q (pl_inj (by omega) hkR q2).2)]
                  exact hC m (by omega)
      exact V (2 ^ R + 1) 0 0 τ (by omega) (by omega) rfl hMt hE hJ h12 hI (fun m hm => by omega)
  intro x1 e1
  have f3 : ((sf σ 12 p1).1 3) = σ.1 3 := sf_other (by decide) σ p1
  have f12 : ((sf σ 12 p1).1 12).toInt = (s : Int) := by rw [sf_same]; exact h1
  have t1 : x1.toInt = (((σ.1 3).toInt.toNat : Nat) : Int) - 1 := by
    rw [f3] at e1
    have q := i3_subc (x := x1) rfl (show (1 : Int32).toInt = 1 from rfl) e1 (by omega)
    omega
  have h49 : s < 50 := by have q := hst.1; omega
  refine Z (σ.1 3).toInt.toNat x1 (sf σ 12 p1) (Nat.le_refl _) t1 (hM.sf 12 p1 ⟨by show (0 : Int) ≤ p1.toInt; omega, by show p1.toInt ≤ 49; omega⟩) (Eo.rfl.sf 12 p1 (by decide)) rfl f12 (fun j c hj hj2 => by omega)
