/-! ALL OUTPUTS -/
theorem OB.mono {V : Nat → Nat → Int} {s : Nat} {b b' : Int} (h : OB V s b) (hb : b ≤ b') : OB V s b' := fun e he => by
  have q := h e he
  exact ⟨q.1, q.2.1, ⟨q.2.2.1.1, by omega⟩, q.2.2.2.1, by omega⟩
def StC (σ : VS) (V : Nat → Nat → Int) (c : Nat) (b : Int) : Prop := LE2 (dC σ) V V c ∧ LA2 (dC σ) V V c ∧ (V 0 c ≠ 0 → V 1 c = 0 → OB V c b)
theorem StC.keep {σ : VS} {V V' : Nat → Nat → Int} {c : Nat} {b b' : Int} (hI : ipN (dC σ) c ≤ 4) (hs : ∀ i, i < ipN (dC σ) c → gN (dC σ) c → 0 ≤ dC σ 5 (4 * c + i) → Ec V V' (dC σ 5 (4 * c + i)).toNat) (hc : Ec V V' c) (hb : b ≤ b') (h : StC σ V c b) : StC σ V' c b' := by
  refine ⟨LE2_c hI hs hc h.1, LA2_c hI hs hc h.2.1, fun r z => ?_⟩
  rw [hc.1] at r
  rw [hc.2.1] at z
  have q := (h.2.2 r z).mono hb
  intro e he
  have k := hc.2.2.1 e he
  rw [k.1, k.2.1, k.2.2.1, k.2.2.2]
  exact q e he
theorem cx_isStart {Q : Int32 → VS → Prop} {p1 : Int32} {σ : VS} {c : Nat} (h1 : p1.toInt = (c : Int)) (hc : c < 50) (hy : (vv σ 11 c = 0 ∨ vv σ 11 c = 4) → Q 1 σ) (hn : ¬ (vv σ 11 c = 0 ∨ vv σ 11 c = 4) → Q 0 σ) : wp_X1isStart Q p1 σ := by
  have r : (rd σ 11 p1).toInt = vv σ 11 c := vv_rd h1
  unfold wp_X1isStart b_X1isStart_19 b_X1isStart_24
  rw [r]
  exact ⟨⟨by omega, by omega⟩, fun a => ⟨⟨by decide, by decide⟩, hy (Or.inl a)⟩, fun a => ⟨⟨by omega, by omega⟩, fun b => ⟨⟨by decide, by decide⟩, hn (fun k => by omega)⟩, fun b => ⟨⟨by decide, by decide⟩, hy (Or.inr b)⟩⟩⟩
/-- what the data must keep to -/
def Wel (σ : VS) : Prop := (∀ c, c < nCl σ → vv σ 11 c = 4 → vv σ 12 c = 1) ∧ ∀ c, c < nCl σ → (0 ≤ dC σ 13 c ∧ dC σ 13 c ≤ 2000000) ∧ (0 ≤ dC σ 14 c ∧ dC σ 14 c ≤ 2000000)
theorem ip_4 {σ : VS} (hM : CI σ) (c : Nat) : ipN (dC σ) c ≤ 4 := by
  have q : dC σ 1 c ≤ 4 := by
    by_cases h : c < nCl σ
    · rw [dC_1 h]; exact (hM.2 12 c).2
    · show (if c < nCl σ then vv σ 12 c else 0) ≤ 4
      rw [if_neg h]; decide
  unfold ipN
  omega
theorem gN_is {σ : VS} {c : Nat} (h : c < nCl σ) : gN (dC σ) c ↔ gtC σ c := by
  unfold gN
  rw [dC_0 h]
  exact Iff.rfl
theorem fst_step {σ τ τ2 : VS} {k : Nat} (hM : CI σ) (hF : Fr k τ τ2) {c : Nat} (hc : c < nCl σ) (hne : c ≠ k) (h : (¬ gtC σ c → StC σ (vC τ) c 2010000) ∧ (gtC σ c → vv τ 39 c = 0 ∧ vv τ 40 c = 0)) : (¬ gtC σ c → StC σ (vC τ2) c 2010000) ∧ (gtC σ c → vv τ2 39 c = 0 ∧ vv τ2 40 c = 0) := by
  refine ⟨fun g => (h.1 g).keep (ip_4 hM c) (fun i _ g2 _ => absurd ((gN_is hc).mp g2) g) (hF.ec hne) (Int.le_refl _), fun g => ?_⟩
  rw [(hF.1 c hne).1, (hF.1 c hne).2]
  exact h.2 g
set_option maxHeartbeats 1000000 in
theorem cx_runFst {Q : VS → Prop} {σ : VS} {X2 X80 : Int32 → VS → Prop} (H2 : ∀ (l1 : Int32) (σ : VS), b_X6run_2 X2 X80 Q l1 σ → X2 l1 σ) (hM : CI σ) (hT : TkL σ) (hW : Wel σ) (K : ∀ τ : VS, CI τ → Eo [] [39, 40, 41, 42, 43, 44, 45, 46] σ τ → (∀ c, c < nCl σ → (¬ gtC σ c → StC σ (vC τ) c 2010000) ∧ (gtC σ c → vv τ 39 c = 0 ∧ vv τ 40 c = 0)) → X80 0 τ) : ∀ (d k : Nat) (l1 : Int32) (τ : VS), nCl σ + 1 ≤ d + k → k ≤ nCl σ → l1.toInt = (k : Int) → CI τ → Eo [] [39, 40, 41, 42, 43, 44, 45, 46] σ τ → (∀ c, c < k → (¬ gtC σ c → StC σ (vC τ) c 2010000) ∧ (gtC σ c → vv τ 39 c = 0 ∧ vv τ 40 c = 0)) → X2 l1 τ := by
  have a2 : 0 ≤ (σ.1 2).toInt ∧ (σ.1 2).toInt ≤ 50 := hM.1 2
  have en : (σ.1 2).toInt = ((nCl σ : Nat) : Int) := by unfold nCl; omega
  intro d
  induction d with
  | zero => intro k l1 τ a b; omega
  | succ d ih =>
    intro k l1 τ a b e1 hMt hE hI
    refine H2 l1 τ ?_
    unfold b_X6run_2 b_X6run_72
    rw [hE.1 2 (by decide)]
    refine ⟨fun z => ?_, fun z => ?_⟩
    · have ek : k = nCl σ := by omega
      rw [ek] at hI
      exact K τ hMt hE hI
    · have hc : k < nCl σ := by omega
      have t3 : (l1 + 1).toInt = ((k + 1 : Nat) : Int) := by
        have q := i3_addc (x := l1 + 1) e1 (show (1 : Int32).toInt = 1 from rfl) rfl (by omega)
        omega
      have e11 : vv τ 11 = vv σ 11 := vv_eo hE (by decide)
      have dk : dC σ 0 k = vv σ 11 k := dC_0 hc
      have r11 : 0 ≤ vv σ 11 k ∧ vv σ 11 k ≤ 5 := hM.2 11 k
      have NX : ∀ τ2 : VS, CI τ2 → Eo [] [39, 40, 41, 42, 43, 44, 45, 46] σ τ2 → Fr k τ τ2 → ((¬ gtC σ k → StC σ (vC τ2) k 2010000) ∧ (gtC σ k → vv τ2 39 k = 0 ∧ vv τ2 40 k = 0)) → X2 (l1 + 1) τ2 := fun τ2 h1 h2 h3 h4 => ih (k + 1) (l1 + 1) τ2 (by omega) (by omega) t3 h1 h2 (fun c hc2 => by
        by_cases q : c = k
        · rw [q]; exact h4
        · exact fst_step hM h3 (by omega) q (hI c (by omega)))
      have body : ∀ (r : Int32), (0 ≤ r.toInt ∧ r.toInt ≤ 1) → (r.toInt = 1 ↔ (vv σ 11 k = 0 ∨ vv σ 11 k = 4)) → (In l1 50 ∧ (Bo r ∧ (In l1 50 ∧ (In l1 50 ∧ (((rd (sa (sa τ 39 l1 r) 40 l1 0) 11 l1).toInt ≠ 0 → (In l1 50 ∧ (((rd (sa (sa τ 39 l1 r) 40 l1 0) 11 l1).toInt ≠ 4 → X2 (l1 + 1) (sa (sa τ 39 l1 r) 40 l1 0)) ∧ ((rd (sa (sa τ 39 l1 r) 40 l1 0) 11 l1).toInt = 4 → wp_X6timeFlop (fun (σ4 : VS) => X2 (l1 + 1) σ4) l1 (sa (sa τ 39 l1 r) 40 l1 0))))) ∧ ((rd (sa (sa τ 39 l1 r) 40 l1 0) 11 l1).toInt = 0 → wp_X6timePort (fun (σ6 : VS) => X2 (l1 + 1) σ6) l1 (sa (sa τ 39 l1 r) 40 l1 0))))))) := by
        intro r br hr
        obtain ⟨S, hS⟩ : ∃ S : VS, S = sa (sa τ 39 l1 r) 40 l1 0 := ⟨_, rfl⟩
        rw [← hS]
        have s39 : vv S 39 = fu (vv τ 39) k r.toInt := by rw [hS, vv_so (show 39 ≠ 40 by decide), vv_sa τ 39 l1 r e1]
        have s40 : vv S 40 = fu (vv τ 40) k 0 := by rw [hS, vv_sa _ 40 l1 0 e1, vv_so (show 40 ≠ 39 by decide)]; rfl
        have MS : CI S := by rw [hS]; exact (hMt.sa 39 l1 r br).sa 40 l1 0 (i3_bd _)
        have ES1 : Eo [] [39, 40] τ S := by rw [hS]; exact (Eo.rfl.sa 39 l1 r (by decide)).sa 40 l1 0 (by decide)
        have ES : Eo [] [39, 40, 41, 42, 43, 44, 45, 46] σ S := hE.of ES1 (by decide) (by decide)
        have FS : Fr k τ S := ⟨fun j hj => by rw [s39, s40, fu_ne hj, fu_ne hj]; exact ⟨rfl, rfl⟩, fun k2 j hk _ => by rw [vv_eo ES1 (by rcases hk with k1 | k1 <;> subst k1 <;> decide)], fun k2 j hk _ => by rw [vv_eo ES1 (by rcases hk with k1 | k1 | k1 | k1 <;> subst k1 <;> decide)]⟩
        have rS : (rd S 11 l1).toInt = vv σ 11 k := by rw [vv_rd e1, vv_eo ES (by decide)]
        have dS : dC S = dC σ := dC_same ES (by decide)
        have nS : nCl S = nCl σ := by unfold nCl; rw [ES.1 2 (by decide)]
        have v0 : vC S 0 k = r.toInt := by show vv S 39 k = _; rw [s39, fu_eq]
        have v1 : vC S 1 k = 0 := by show vv S 40 k = _; rw [s40, fu_eq]
        rw [rS]
        refine ⟨⟨by omega, by omega⟩, br, ⟨by omega, by omega⟩, ⟨by omega, by omega⟩, fun z0 => ⟨⟨by omega, by omega⟩, fun z4 => ?_, fun z4 => ?_⟩, fun z0 => ?_⟩
        · have r0 : r.toInt = 0 := by
            have q : ¬ r.toInt = 1 := fun q => by have := hr.mp q; omega
            omega
          refine NX S MS ES FS ⟨fun g => ?_, fun g => ⟨by rw [s39, fu_eq, r0], by rw [s40, fu_eq]⟩⟩
          have k5 : vv σ 11 k = 5 := by
            have g2 : ¬ (0 < vv σ 11 k ∧ vv σ 11 k < 4) := g
            omega
          have ng : ¬ gN (dC σ) k := fun q => g ((gN_is hc).mp q)
          refine ⟨⟨fun q => by omega, fun _ => ⟨by rw [v0, r0], v1⟩, fun q => by omega, fun q => absurd q ng, fun q => absurd q ng, fun _ q => by omega⟩, ⟨fun q => by omega, fun _ q => by omega⟩, fun q => absurd (by rw [v0, r0]) q⟩
        · have r1 : r.toInt = 1 := hr.mpr (Or.inr z4)
          have w := hW.2 k hc
          rw [← dS] at w
          refine cx_timeFlop e1 (by rw [nS]; exact hc) MS (hT.same ES (by decide)) (by rw [vv_eo ES (by decide)]; exact z4) (by rw [vv_eo ES (by decide)]; exact hW.1 k hc z4) (by rw [s39, fu_eq, r1]) (by rw [s40, fu_eq]) w.1 w.2 (fun τ2 h2 hE2 hF2 L1 L2 L3 => ?_)
          rw [dS] at L1 L2
          have ng : ¬ gN (dC σ) k := fun q => by have := q.2; omega
          have vac : ∀ i, i < ipN (dC σ) k → gN (dC σ) k → 0 ≤ dC σ 5 (4 * k + i) → Ec (vC S) (vC τ2) (dC σ 5 (4 * k + i)).toNat := fun i _ g _ => absurd g ng
          refine NX τ2 h2 (ES.trans hE2) (FS.trans hF2) ⟨fun g => ⟨LE2_c (ip_4 hM k) vac Ec.id L1, LA2_c (ip_4 hM k) vac Ec.id L2, fun _ q => L3 q⟩, fun g => ?_⟩
          have g2 : 0 < vv σ 11 k ∧ vv σ 11 k < 4 := g
          omega
        · have r1 : r.toInt = 1 := hr.mpr (Or.inl z0)
          refine cx_timePort e1 (by omega) MS (fun τ2 h2 hE2 hF2 L => ?_)
          have e39 : vC τ2 0 k = 1 := by show vv τ2 39 k = 1; rw [vv_eo hE2 (by decide), s39, fu_eq, r1]
          have e40 : vC τ2 1 k = 0 := by show vv τ2 40 k = 0; rw [vv_eo hE2 (by decide), s40, fu_eq]
          have ng : ¬ gN (dC σ) k := fun q => by have := q.1; omega
          have b24 : 0 ≤ vv σ 24 k ∧ vv σ 24 k ≤ 100000 := hM.2 24 k
          have b23 : 0 ≤ vv σ 23 k ∧ vv σ 23 k ≤ 100000 := hM.2 23 k
          have b22 : 0 ≤ vv σ 22 k ∧ vv σ 22 k ≤ 100000 := hM.2 22 k
          have LL : ∀ e, e < 2 → vC τ2 4 (2 * k + e) = vv σ 24 k ∧ vC τ2 5 (2 * k + e) = vv σ 24 k ∧ vC τ2 6 (2 * k + e) = vv σ 23 k ∧ vC τ2 7 (2 * k + e) = vv σ 22 k := fun e he => by
            have q := L e he
            rw [vv_eo ES (show 24 ∉ [39, 40, 41, 42, 43, 44, 45, 46] by decide), vv_eo ES (show 23 ∉ [39, 40, 41, 42, 43, 44, 45, 46] by decide), vv_eo ES (show 22 ∉ [39, 40, 41, 42, 43, 44, 45, 46] by decide)] at q
            exact q
          refine NX τ2 h2 (ES.of hE2 (by decide) (by decide)) (FS.trans hF2) ⟨fun _ => ⟨⟨fun _ => ⟨e39, e40, fun e he => by rw [(LL e he).1, (LL e he).2.1, dC_10 hc]; exact ⟨rfl, rfl⟩⟩, fun q => by omega, fun q => by omega, fun q => absurd q ng, fun q => absurd q ng, fun q => by omega⟩, ⟨fun _ e he => by rw [(LL e he).2.2.1, (LL e he).2.2.2, dC_11 hc, dC_12 hc]; exact ⟨rfl, rfl⟩, fun q => by omega⟩, fun _ _ e he => by
            have q := LL e he
            rw [q.1, q.2.1, q.2.2.1, q.2.2.2]
            omega⟩, fun g => ?_⟩
          have g2 : 0 < vv σ 11 k ∧ vv σ 11 k < 4 := g
          omega
      refine cx_isStart (c := k) e1 (by omega) (fun q => body 1 (by decide) ?_) (fun q => body 0 (by decide) ?_)
      · rw [e11] at q; exact ⟨fun _ => q, fun _ => rfl⟩
      · rw [e11] at q; exact ⟨fun y => absurd y (by decide), fun y => absurd y q⟩
def dnC (σ : VS) (c i : Nat) : Prop := ¬ gtC σ c ∨ ∃ j, j < i ∧ vv σ 19 j = (c : Int)
/-- a gate takes nothing from itself; what it takes is done before it -/
theorem src_dn {σ : VS} (hO : TO σ) (hC : CSrc σ) {i c q : Nat} (hi : (i : Int) < (σ.1 3).toInt) (hc : vv σ 19 i = (c : Int)) (hq : q < 4) (h0 : 0 ≤ vv σ 16 (4 * c + q)) : ∃ s : Nat, vv σ 16 (4 * c + q) = (s : Int) ∧ (s : Int) < (σ.1 2).toInt ∧ dnC σ s i := by
  refine ⟨(vv σ 16 (4 * c + q)).toNat, by omega, ?_, ?_⟩
  · have k := hC (4 * c + q)
    have k2 : vv σ 16 (4 * c + q) < (σ.1 2).toInt := k
    omega
  · by_cases g : gtC σ (vv σ 16 (4 * c + q)).toNat
    · have d4 : (4 * c + q) / 4 = c := by omega
      obtain ⟨j, hj, e⟩ := hO.2.2.2 i (4 * c + q) hi (by rw [d4]; exact hc.symm) ⟨h0, g⟩
      refine Or.inr ⟨j, hj, ?_⟩
      have e2 : vv σ 19 j = vv σ 16 (4 * c + q) := e
      omega
    · exact Or.inl g
theorem not_dn {σ : VS} (hO : TO σ) {i c : Nat} (hi : (i : Int) < (σ.1 3).toInt) (hc : vv σ 19 i = (c : Int)) (hg : gtC σ c) : ¬ dnC σ c i := by
  intro k
  rcases k with k | ⟨j, hj, e⟩
  · exact k hg
  · have e2 : (σ.2.1 19 j).toInt = (σ.2.1 19 i).toInt := e.trans hc.symm
    have q := hO.2.1 j i (by omega) hi e2
    omega
set_option maxHeartbeats 1000000 in
theorem cx_runSnd {Q : VS → Prop} {σ : VS} {X2 X80 : Int32 → VS → Prop} (H80 : ∀ (l1 : Int32) (σ : VS), b_X6run_80 X2 X80 Q l1 σ → X80 l1 σ) (hM : CI σ) (hT : TkL σ) (hO : TO σ) (hC : CSrc σ) (hq : ∀ σ' : VS, CI σ' → Eo [] [39, 40, 41, 42, 43, 44, 45, 46] σ σ' → (∀ c, c < nCl σ → StC σ (vC σ') c 2400000) → Q σ') : ∀ (d i : Nat) (l1 : Int32) (τ : VS), (σ.1 3).toInt + 1 ≤ (d : Int) + (i : Int) → (i : Int) ≤ (σ.1 3).toInt → l1.toInt = (i : Int) → CI τ → Eo [] [39, 40, 41, 42, 43, 44, 45, 46] σ τ → (∀ c, c < nCl σ → (dnC σ c i → StC σ (vC τ) c (2010000 + 6000 * (i : Int))) ∧ (¬ dnC σ c i → vv τ 39 c = 0 ∧ vv τ 40 c = 0)) → X80 l1 τ := by
  have a2 : 0 ≤ (σ.1 2).toInt ∧ (σ.1 2).toInt ≤ 50 := hM.1 2
  have a3 : 0 ≤ (σ.1 3).toInt ∧ (σ.1 3).toInt ≤ 50 := hM.1 3
  have en : (σ.1 2).toInt = ((nCl σ : Nat) : Int) := by unfold nCl; omega
  intro d
  induction d with
  | zero => intro i l1 τ a b; omega
  | succ d ih =>
    intro i l1 τ a b e1 hMt hE hI
    refine H80 l1 τ ?_
    unfold b_X6run_80
    rw [hE.1 3 (by decide)]
    refine ⟨fun z => ?_, fun z => ?_⟩
    · have ei : (i : Int) = (σ.1 3).toInt := by omega
      refine hq τ hMt hE (fun c hc => ?_)
      have dn1 : dnC σ c i := by
        by_cases g : gtC σ c
        · obtain ⟨j, hj, e⟩ := hO.2.2.1 c (by omega) g
          exact Or.inr ⟨j, by omega, e⟩
        · exact Or.inl g
      exact ((hI c hc).1 dn1).keep (ip_4 hM c) (fun _ _ _ _ => Ec.id) Ec.id (by omega)
    · obtain ⟨c, hc, hcn, hg⟩ := hO.1 i (by omega)
      have hc' : vv σ 19 i = (c : Int) := hc
      have hcl : c < nCl σ := by omega
      have ndn := not_dn hO (by omega) hc' hg
      have V0 := (hI c hcl).2 ndn
      have p1 : (rd τ 19 l1).toInt = (c : Int) := by rw [vv_rd e1, vv_eo hE (by decide)]; exact hc'
      have dS : dC τ = dC σ := dC_same hE (by decide)
      have nS : nCl τ = nCl σ := by unfold nCl; rw [hE.1 2 (by decide)]
      have e11 : vv τ 11 = vv σ 11 := vv_eo hE (by decide)
      have e12 : vv τ 12 = vv σ 12 := vv_eo hE (by decide)
      have e16 : vv τ 16 = vv σ 16 := vv_eo hE (by decide)
      have m4 : 0 ≤ vv σ 12 c ∧ vv σ 12 c ≤ 4 := hM.2 12 c
      obtain ⟨m, hm⟩ : ∃ m : Nat, vv σ 12 c = (m : Int) := ⟨(vv σ 12 c).toNat, by omega⟩
      have self : ∀ q, q < m → vv σ 16 (4 * c + q) ≠ (c : Int) := fun q hq2 e => by
        obtain ⟨s, es, _, ds⟩ := src_dn hO hC (by omega) hc' (show q < 4 by omega) (by omega)
        have sc : s = c := by omega
        rw [sc] at ds
        exact ndn ds
      have hg2 : gtC τ c := by
        have q : 0 < vv σ 11 c ∧ vv σ 11 c < 4 := hg
        rw [← e11] at q
        exact q
      have t3 : (l1 + 1).toInt = ((i + 1 : Nat) : Int) := by
        have q := i3_addc (x := l1 + 1) e1 (show (1 : Int32).toInt = 1 from rfl) rfl (by omega)
        omega
      have ipm : ipN (dC σ) c = m := by unfold ipN; rw [dC_1 hcl, hm]; omega
      refine ⟨⟨by omega, by omega⟩, ?_⟩
      refine cx_timeGate (c := c) (m := m) (b := 2010000 + 6000 * (i : Int)) p1 (by rw [nS]; exact hcl) hMt (hT.same hE (by decide)) hg2 (by rw [e12]; exact hm) (by rw [e16]; exact self) V0.1 V0.2 ⟨by omega, by omega⟩ (fun q hq2 ya yo => ?_) (fun τ2 h2 hE2 hF2 L1 L2 L3 => ?_)
      · unfold aC at ya
        unfold oC at yo
        rw [e16] at ya yo ⊢
        obtain ⟨s, es, sn, ds⟩ := src_dn hO hC (by omega) hc' (show q < 4 by omega) ya.1
        have ss : (vv σ 16 (4 * c + q)).toNat = s := by omega
        rw [ss] at ya yo ⊢
        have st := (hI s (by omega)).1 ds
        exact st.2.2 ya.2 (Decidable.not_not.mp (fun k => yo ⟨ya.1, k⟩))
      · rw [dS] at L1 L2
        refine ih (i + 1) (l1 + 1) τ2 (by omega) (by omega) t3 h2 (hE.trans hE2) (fun c2 hc2 => ?_)
        have srcE : ∀ q, q < 4 → 0 ≤ dC σ 5 (4 * c + q) → (4 * c + q) < 4 * nCl σ → Ec (vC τ) (vC τ2) (dC σ 5 (4 * c + q)).toNat := fun q hq2 h0 hl => by
          rw [dC_5 hl] at h0 ⊢
          obtain ⟨s, es, _, ds⟩ := src_dn hO hC (by omega) hc' hq2 (by omega)
          have ss : (max (vv σ 16 (4 * c + q)) (-1)).toNat = s := by omega
          rw [ss]
          exact hF2.ec (fun e => ndn (e ▸ ds))
        by_cases q : c2 = c
        · rw [q]
          refine ⟨fun _ => ⟨LE2_c (ip_4 hM c) (fun j hj _ h0 => srcE j (by omega) h0 (by omega)) Ec.id L1, LA2_c (ip_4 hM c) (fun j hj _ h0 => srcE j (by omega) h0 (by omega)) Ec.id L2, fun r y => (L3 r y).mono (by omega)⟩, fun k => absurd (Or.inr ⟨i, by omega, hc'⟩) k⟩
        · refine ⟨fun k => ?_, fun k => ?_⟩
          · have k2 : dnC σ c2 i := by
              rcases k with k | ⟨j, hj, e⟩
              · exact Or.inl k
              · by_cases ji : j = i
                · rw [ji, hc'] at e; exact absurd (by omega) q
                · exact Or.inr ⟨j, by omega, e⟩
            refine ((hI c2 hc2).1 k2).keep (ip_4 hM c2) (fun j hj g h0 => ?_) (hF2.ec q) (by omega)
            have g2 := (gN_is hc2).mp g
            have j4 : j < 4 := Nat.lt_of_lt_of_le hj (ip_4 hM c2)
            rcases k2 with k3 | ⟨jj, hjj, e⟩
            · exact absurd g2 k3
            · rw [dC_5 (by omega)] at h0 ⊢
              obtain ⟨s, es, _, ds⟩ := src_dn hO hC (i := jj) (by omega) e j4 (by omega)
              have ss : (max (vv σ 16 (4 * c2 + j)) (-1)).toNat = s := by omega
              rw [ss]
              refine hF2.ec (fun e3 => ndn ?_)
              rw [e3] at ds
              rcases ds with d3 | ⟨j3, hj3, e4⟩
              · exact Or.inl d3
              · exact Or.inr ⟨j3, by omega, e4⟩
          · have k2 : ¬ dnC σ c2 i := fun y => k (by
              rcases y with y | ⟨j, hj, e⟩
              · exact Or.inl y
              · exact Or.inr ⟨j, by omega, e⟩)
            rw [(hF2.1 c2 q).1, (hF2.1 c2 q).2]
            exact (hI c2 hc2).2 k2
theorem cx_run {Q : VS → Prop} {σ : VS} (hM : CI σ) (hT : TkL σ) (hO : TO σ) (hC : CSrc σ) (hW : Wel σ) (hq : ∀ σ' : VS, CI σ' → Eo [] [39, 40, 41, 42, 43, 44, 45, 46] σ σ' → (∀ c, c < nCl σ → StC σ (vC σ') c 2400000) → Q σ') : wp_X6run Q σ := by
  unfold wp_X6run
  intro X2 X80 H2 H80
  have a3 : 0 ≤ (σ.1 3).toInt ∧ (σ.1 3).toInt ≤ 50 := hM.1 3
  refine cx_runFst H2 hM hT hW (fun τ h1 h2 h3 => ?_) (nCl σ + 1) 0 0 σ (by omega) (by omega) rfl hM Eo.rfl (fun c hc => by omega)
  refine cx_runSnd H80 hM hT hO hC hq 51 0 0 τ (by omega) (by omega) rfl h1 h2 (fun c hc => ⟨fun k => ?_, fun k => ?_⟩)
  · rcases k with k | ⟨j, hj, _⟩
    · exact ((h3 c hc).1 k).keep (ip_4 hM c) (fun _ _ _ _ => Ec.id) Ec.id (by omega)
    · omega
  · exact (h3 c hc).2 (Classical.byContradiction (fun g => k (Or.inl g)))
