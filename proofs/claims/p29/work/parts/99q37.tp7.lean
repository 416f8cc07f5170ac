set_option maxHeartbeats 1000000 in
/-- judge() behind time(): every end's number, slack and hold are the summary of all its paths -/
theorem rx_judge2 {Q : VS → Prop} {θ : VS} {R : Nat} {BB : Nat → Nat → Nat → List (List Nat)} {X6 X47 : Int32 → VS → Prop} {X73 : Int32 → Int32 → VS → Prop} (H6 : ∀ (l1 : Int32) (σ : VS), b_judge_6 X6 X47 X73 Q l1 σ → X6 l1 σ) (H47 : ∀ (l1 : Int32) (σ : VS), b_judge_47 X6 X47 X73 Q l1 σ → X47 l1 σ) (H73 : ∀ (l1 : Int32) (l2 : Int32) (σ : VS), b_judge_73 X6 X47 X73 Q l1 l2 σ → X73 l1 l2 σ) (hM : MI θ) (hS : SI θ) (hD : TD θ) (hN : NdR θ) (hR : (θ.1 25).toInt = (R : Int)) (hL : ∀ c, c < nC θ → LE2 (dM θ) (vM θ) (vM θ) c) (hB : ∀ s c e, c < nC θ → BB s c e = BPs (dM θ) (vM θ 1) s (BB s) c e) (hq : ∀ τ : VS, MI τ → Eo [] [42, 43, 44, 45, 46, 47] θ τ → (∀ t, t < nC θ → isTM θ t → EnT (isSM θ) (cnM θ R BB) (cmM θ R BB) (nC θ) t (vv τ 45 t) (vv τ 46 t) (vv τ 47 t)) → (∀ t, t < nC θ → ¬ isTM θ t → vv τ 45 t = 0 ∧ vv τ 46 t = 1000000000 ∧ vv τ 47 t = 1000000000) → Q τ) : X6 0 θ := by
  have a1 : 0 ≤ (θ.1 1).toInt ∧ (θ.1 1).toInt ≤ 50 := hM.1 1
  have en : (θ.1 1).toInt = ((nC θ : Nat) : Int) := by unfold nC; omega
  have hR4 : 0 ≤ (θ.1 25).toInt ∧ (θ.1 25).toInt ≤ 4 := hM.1 25
  have b16 : ∀ c, bR (vv θ 28) R c < 16 := fun c => bR_16 _ (by omega) c
  have hbm : ∀ s p, mkP (bR (vv θ 28) R) s p < 16 := fun s p => mkP_lt (s := s) or_16 b16 p
  have rsm : ∀ s, s < nC θ → isSM θ s → RsM θ R s (BB s) := fun s hs q => ⟨hR, hB s, hL, ⟨hs, q.1, q.2⟩, hN⟩
  have Z73 : ∀ (d k j : Nat) (l1 l2 : Int32) (τ : VS), nC θ + 1 ≤ d + j → j ≤ nC θ → k < nC θ → isSM θ k → l1.toInt = (k : Int) → l2.toInt = (j : Int) → MI τ → Eo [] [42, 43, 44, 45, 46, 47] θ τ → (∀ c e, c < nC θ → e < 2 → RM (bR (vv θ 28) R) k (LaM θ k) (EaM θ k) (BB k c e) c e τ) → (∀ t, t < nC θ → isTM θ t → (t < j → EnT (isSM θ) (cnM θ R BB) (cmM θ R BB) (k + 1) t (vv τ 45 t) (vv τ 46 t) (vv τ 47 t)) ∧ (j ≤ t → EnT (isSM θ) (cnM θ R BB) (cmM θ R BB) k t (vv τ 45 t) (vv τ 46 t) (vv τ 47 t))) → (∀ t, t < nC θ → ¬ isTM θ t → vv τ 45 t = 0 ∧ vv τ 46 t = 1000000000 ∧ vv τ 47 t = 1000000000) → (∀ τ2 : VS, MI τ2 → Eo [] [42, 43, 44, 45, 46, 47] θ τ2 → (∀ t, t < nC θ → isTM θ t → EnT (isSM θ) (cnM θ R BB) (cmM θ R BB) (k + 1) t (vv τ2 45 t) (vv τ2 46 t) (vv τ2 47 t)) → (∀ t, t < nC θ → ¬ isTM θ t → vv τ2 45 t = 0 ∧ vv τ2 46 t = 1000000000 ∧ vv τ2 47 t = 1000000000) → X47 (l1 + 1) τ2) → X73 l1 l2 τ := by
    intro d
    induction d with
    | zero => intro k j l1 l2 τ a c; omega
    | succ d ih =>
      intro k j l1 l2 τ a c hk hSk e1 e2 hMt hE hRO hEn hno K47
      have rs := rsm k hk hSk
      obtain ⟨rsT, laT, eaT, dd, nn, v1⟩ := rs.same hM hE
      refine H73 l1 l2 τ ?_
      unfold b_judge_73 b_judge_128 b_judge_122
      rw [hE.1 1 (by decide)]
      refine ⟨fun z => K47 τ hMt hE (fun t ht hT2 => (hEn t ht hT2).1 (by omega)) hno, fun z => ?_⟩
      have hj : j < nC θ := by omega
      have t2 : (l2 + 1).toInt = ((j + 1 : Nat) : Int) := by
        have q := i3_addc (x := l2 + 1) e2 (show (1 : Int32).toInt = 1 from rfl) rfl (by omega)
        omega
      have kd : Kd τ j = vv θ 2 j := by show vv τ 2 j = _; rw [vv_eo hE (by decide)]
      have skip : (isTM θ j → cnM θ R BB k j = 0 ∧ ∀ e p, e < 2 → 0 ≤ dM θ 5 (4 * j) → ¬ p ∈ BB k (fM θ j) e) → X73 l1 (l2 + 1) τ := fun emp => by
        refine ih k (j + 1) l1 (l2 + 1) τ (by omega) (by omega) hk hSk e1 t2 hMt hE hRO (fun t ht hT2 => ⟨fun w => ?_, fun w => (hEn t ht hT2).2 (by omega)⟩) hno K47
        by_cases w2 : t = j
        · rw [w2] at hT2 ⊢
          refine ((hEn j hj hT2).2 (Nat.le_refl j)).none (emp hT2).1 (fun x y q => ?_)
          obtain ⟨q0, e, p, he, hp, _⟩ := q
          exact (emp hT2).2 e p he q0 hp
        · exact (hEn t ht hT2).1 (by omega)
      refine isTarget_s e2 (by omega) (fun y => ⟨fun w => absurd w (by decide), fun _ => ?_⟩) (fun y => ⟨fun _ => skip (fun w => by have w2 : 3 < vv θ 2 j := w; omega), fun w => absurd rfl w⟩)
      have hT3 : isTM θ j := by show 3 < vv θ 2 j; omega
      have u1 : (4 * l2).toInt = ((4 * j : Nat) : Int) := by
        have q := i3_mulc (x := 4 * l2) (show (4 : Int32).toInt = 4 from rfl) e2 rfl (by omega)
        omega
      have r7 : (rd τ 7 (4 * l2)).toInt = vv θ 7 (4 * j) := by rw [vv_rd u1, vv_eo hE (by decide)]
      have b7 : -1 ≤ vv θ 7 (4 * j) ∧ vv θ 7 (4 * j) ≤ 49 := hM.2 7 _
      have d5 : dM θ 5 (4 * j) = vv θ 7 (4 * j) := d5M hM (by omega)
      have lt7 : vv θ 7 (4 * j) < (θ.1 1).toInt := hS.1 (4 * j) (by omega)
      refine ⟨⟨by omega, by omega⟩, fun neg => skip (fun _ => ⟨by unfold cnM; rw [if_neg (by omega)], fun e p _ w => by omega⟩), fun pos => ⟨⟨by omega, by omega⟩, ⟨by omega, by omega⟩, fun op => ?_, fun op => ?_⟩⟩
      · have fe : vv θ 7 (4 * j) = ((fM θ j : Nat) : Int) := by unfold fM; omega
        have fl : fM θ j < nC θ := by omega
        have r35 : (rd τ 35 (rd τ 7 (4 * l2))).toInt = vM θ 1 (fM θ j) := by rw [vv_rd (n := fM θ j) (by omega), vv_eo hE (by decide)]; rfl
        rw [r35] at op
        have nf : fM θ j ≠ k := fun w => by rw [w, hSk.2] at op; exact op rfl
        have emp : ∀ e, BB k (fM θ j) e = [] := fun e => BP_0 (V := vM θ) (hB k) fl nf (fun w => op w.2) e
        refine skip (fun _ => ⟨?_, fun e p _ _ hp => by rw [emp e] at hp; cases hp⟩)
        unfold cnM nP
        rw [if_pos (by omega), emp 0, emp 1]; rfl
      · have fe : vv θ 7 (4 * j) = ((fM θ j : Nat) : Int) := by unfold fM; omega
        have fl : fM θ j < nC θ := by omega
        have yd : 0 ≤ dM θ 5 (4 * j) := by omega
        have bdp := rs.bd hM hS hD
        have e28 : vv τ 28 = vv θ 28 := vv_eo hE (by decide)
        refine rx_reach (s := k) (t := j) (fs := fM θ j) (R := R) (b := bR (vv θ 28) R) (L := BB k (fM θ j)) (La := LaM θ k) (Ea := EaM θ k) (rm := rmM θ k j) (hr := hrM θ k j) (N := NM θ R k j) e1 e2 (by omega) (by omega) hMt (hS.same hE (by decide)) rsT.2.2.2.2 (by rw [e28]) (by rw [hE.1 25 (by decide)]; exact hR) (by rw [vv_eo hE (by decide)]; exact fe) (by omega) (fun e he => hRO _ e fl he) (fun e p he hp => bdp _ fl e p hp he) (by rw [dd, vv_eo hE (by decide), shM_same hE]; rfl) (by rw [dd, vv_eo hE (by decide), shM_same hE]; rfl) (fun p => by rw [vv_eo hE (show 26 ∉ [42, 43, 44, 45, 46, 47] by decide), vv_eo hE (show 27 ∉ [42, 43, 44, 45, 46, 47] by decide), e28, vv_eo hE (show 29 ∉ [42, 43, 44, 45, 46, 47] by decide)]; rfl) ((hEn j hj hT3).2 (Nat.le_refl j)) (fun τ2 M2 E2 F2 En2 => ?_)
        have E2' : Eo [] [42, 43, 44, 45, 46, 47] θ τ2 := hE.of E2 (by decide) (by decide)
        have l20 : (τ.1 20).toInt = (θ.1 20).toInt := by rw [hE.1 20 (by decide)]
        refine ih k (j + 1) l1 (l2 + 1) τ2 (by omega) (by omega) hk hSk e1 t2 M2 E2' (fun c e hc he t ht => ?_) (fun t ht hT4 => ⟨fun w => ?_, fun w => ?_⟩) (fun t ht w => ?_) K47
        · rw [vv_eo E2 (show 42 ∉ [45, 46, 47] by decide), vv_eo E2 (show 43 ∉ [45, 46, 47] by decide), vv_eo E2 (show 44 ∉ [45, 46, 47] by decide)]
          exact hRO c e hc he t ht
        · by_cases w2 : t = j
          · rw [w2]
            have cj : cnM θ R BB k j = nP (NM θ R k j) (BB k (fM θ j)) := by unfold cnM; rw [if_pos yd]
            refine EnT.add hSk (En.cg (by rw [cj, cG_nP (hbm k)]) (fun x y => ?_) En2)
            rw [MG_mP (hbm k), l20]
            exact ⟨fun q => q.imp (fun z => z) (fun z => ⟨yd, z⟩), fun q => q.imp (fun z => z) (fun z => z.2)⟩
          · have q := F2 t w2
            rw [q.1, q.2.1, q.2.2]
            exact (hEn t ht hT4).1 (by omega)
        · have q := F2 t (by omega)
          rw [q.1, q.2.1, q.2.2]
          exact (hEn t ht hT4).2 (by omega)
        · have q := F2 t (fun w2 => w (w2 ▸ hT3))
          rw [q.1, q.2.1, q.2.2]
          exact hno t ht w
  have Z47 : ∀ (d k : Nat) (l1 : Int32) (τ : VS), nC θ + 1 ≤ d + k → k ≤ nC θ → l1.toInt = (k : Int) → MI τ → Eo [] [42, 43, 44, 45, 46, 47] θ τ → (∀ t, t < nC θ → isTM θ t → EnT (isSM θ) (cnM θ R BB) (cmM θ R BB) k t (vv τ 45 t) (vv τ 46 t) (vv τ 47 t)) → (∀ t, t < nC θ → ¬ isTM θ t → vv τ 45 t = 0 ∧ vv τ 46 t = 1000000000 ∧ vv τ 47 t = 1000000000) → X47 l1 τ := by
    intro d
    induction d with
    | zero => intro k l1 τ a c; omega
    | succ d ih =>
      intro k l1 τ a c e1 hMt hE hEn hno
      refine H47 l1 τ ?_
      unfold b_judge_47 b_judge_128
      rw [hE.1 1 (by decide)]
      refine ⟨fun z => ?_, fun z => ?_⟩
      · have ek : k = nC θ := by omega
        rw [ek] at hEn
        exact hq τ hMt hE hEn hno
      · have hk : k < nC θ := by omega
        have t1 : (l1 + 1).toInt = ((k + 1 : Nat) : Int) := by
          have q := i3_addc (x := l1 + 1) e1 (show (1 : Int32).toInt = 1 from rfl) rfl (by omega)
          omega
        have kd : Kd τ k = vv θ 2 k := by show vv τ 2 k = _; rw [vv_eo hE (by decide)]
        have o35 : (τ.2.1 35 k).toInt = vM θ 1 k := by show vv τ 35 k = vv θ 35 k; rw [vv_eo hE (by decide)]
        refine isStart_s e1 (by omega) (fun y1 y2 => ⟨fun _ => ?_, fun w => absurd w (by decide)⟩) (fun y => ⟨fun w => absurd rfl w, fun _ => ih (k + 1) (l1 + 1) τ (by omega) (by omega) t1 hMt hE (fun t ht hT2 => (hEn t ht hT2).skip (fun q => y ⟨by rw [kd]; exact q.1, by rw [o35]; exact q.2⟩)) hno⟩)
        have hSk : isSM θ k := ⟨by rw [← kd]; exact y1, by rw [← o35]; exact y2⟩
        obtain ⟨rsT, laT, eaT, dd, nn, v1⟩ := (rsm k hk hSk).same hM hE
        have e28 : vv τ 28 = vv θ 28 := vv_eo hE (by decide)
        refine rx_walkFrom (b := bR (vv θ 28) R) (by rw [e28]) e1 hMt (hS.same hE (by decide)) (hD.same hE (by decide)) rsT (fun τ2 M2 E2 R2 => ?_)
        rw [nn, laT, eaT] at R2
        have E2' : Eo [] [42, 43, 44, 45, 46, 47] θ τ2 := hE.of E2 (by decide) (by decide)
        have s45 : vv τ2 45 = vv τ 45 := vv_eo E2 (by decide)
        have s46 : vv τ2 46 = vv τ 46 := vv_eo E2 (by decide)
        have s47 : vv τ2 47 = vv τ 47 := vv_eo E2 (by decide)
        exact Z73 (nC θ + 1) k 0 l1 0 τ2 (by omega) (by omega) hk hSk e1 rfl M2 E2' R2 (fun t ht hT2 => ⟨fun q => by omega, fun _ => by rw [s45, s46, s47]; exact hEn t ht hT2⟩) (fun t ht q => by rw [s45, s46, s47]; exact hno t ht q) (fun τ3 M3 E3 q1 q2 => ih (k + 1) (l1 + 1) τ3 (by omega) (by omega) t1 M3 E3 q1 q2)
  have Z6 : ∀ (d k : Nat) (l1 : Int32) (τ : VS), nC θ + 1 ≤ d + k → k ≤ nC θ → l1.toInt = (k : Int) → MI τ → Eo [] [42, 43, 44, 45, 46, 47] θ τ → (∀ t, t < k → vv τ 45 t = 0 ∧ vv τ 46 t = 1000000000 ∧ vv τ 47 t = 1000000000) → X6 l1 τ := by
    intro d
    induction d with
    | zero => intro k l1 τ a c; omega
    | succ d ih =>
      intro k l1 τ a c e1 hMt hE hz
      refine H6 l1 τ ?_
      unfold b_judge_6
      rw [hE.1 1 (by decide)]
      refine ⟨fun z => ?_, fun z => ⟨⟨by omega, by omega⟩, ⟨by omega, by omega⟩, ⟨by omega, by omega⟩, ?_⟩⟩
      · have ek : k = nC θ := by omega
        rw [ek] at hz
        exact Z47 (nC θ + 1) 0 0 τ (by omega) (by omega) rfl hMt hE (fun t ht _ => by rw [(hz t ht).1, (hz t ht).2.1, (hz t ht).2.2]; exact En.nil (fun x y ⟨s, q, _⟩ => by omega)) (fun t ht _ => hz t ht)
      · have t1 : (l1 + 1).toInt = ((k + 1 : Nat) : Int) := by
          have q := i3_addc (x := l1 + 1) e1 (show (1 : Int32).toInt = 1 from rfl) rfl (by omega)
          omega
        refine ih (k + 1) (l1 + 1) _ (by omega) (by omega) t1 (((hMt.sa 45 l1 0 (by decide)).sa 46 l1 1000000000 (i3_bd _)).sa 47 l1 1000000000 (i3_bd _)) (((hE.sa 45 l1 0 (by decide)).sa 46 l1 1000000000 (by decide)).sa 47 l1 1000000000 (by decide)) (fun t ht => ?_)
        rw [vv_so (show 45 ≠ 47 by decide), vv_so (show 45 ≠ 46 by decide), vv_sa τ 45 l1 0 e1, vv_so (show 46 ≠ 47 by decide), vv_sa _ 46 l1 1000000000 e1, vv_so (show 46 ≠ 45 by decide), vv_sa _ 47 l1 1000000000 e1, vv_so (show 47 ≠ 46 by decide), vv_so (show 47 ≠ 45 by decide)]
        by_cases w : t = k
        · rw [w, fu_eq, fu_eq, fu_eq]; exact ⟨rfl, rfl, rfl⟩
        · rw [fu_ne w, fu_ne w, fu_ne w]; exact hz t (by omega)
  exact Z6 (nC θ + 1) 0 0 θ (by omega) (by omega) rfl hM Eo.rfl (fun t ht => by omega)
