/-! THE REFERENCE KEEPS A PATH -/
def eF (D : Nat → Nat → Int) (e0 : Nat) (pw : Nat → Nat) : Nat → Nat
  | 0 => e0
  | k + 1 => feN D (pw k / 4) (eF D e0 pw k)
def lF (D V : Nat → Nat → Int) (kk e0 : Nat) (l0 : Int) (pw : Nat → Nat) : Nat → Int
  | 0 => l0
  | k + 1 => lF D V kk e0 l0 pw k + V kk (2 * pw k + eF D e0 pw (k + 1))
def mF (b : Nat → Nat) (m0 : Nat) (pw : Nat → Nat) : Nat → Nat
  | 0 => m0
  | k + 1 => mF b m0 pw k ||| b (pw k / 4)
def paF (pw : Nat → Nat) (k : Nat) : List Nat := (List.range k).map pw
theorem paF_s (pw : Nat → Nat) (k : Nat) : paF pw (k + 1) = paF pw k ++ [pw k] := by
  unfold paF
  rw [List.range_succ, List.map_append]; rfl
theorem paF_l (pw : Nat → Nat) (k : Nat) : (paF pw k).length = k := by
  unfold paF
  rw [List.length_map, List.length_range]
theorem paF_get {pw : Nat → Nat} {k j : Nat} (h : j < k) : (paF pw k)[j]? = some (pw j) := by
  unfold paF
  rw [List.getElem?_map, List.getElem?_range h]; rfl
theorem F_c {D V : Nat → Nat → Int} {kk e0 m0 : Nat} {b : Nat → Nat} {l0 : Int} {pw pw' : Nat → Nat} : ∀ k : Nat, (∀ j, j < k → pw j = pw' j) → eF D e0 pw k = eF D e0 pw' k ∧ lF D V kk e0 l0 pw k = lF D V kk e0 l0 pw' k ∧ mF b m0 pw k = mF b m0 pw' k ∧ paF pw k = paF pw' k
  | 0, _ => ⟨rfl, rfl, rfl, rfl⟩
  | k + 1, h => by
    have ih := F_c (D := D) (V := V) (kk := kk) (e0 := e0) (m0 := m0) (b := b) (l0 := l0) k (fun j hj => h j (by omega))
    have e := h k (by omega)
    have e1 : eF D e0 pw (k + 1) = eF D e0 pw' (k + 1) := by
      show feN D (pw k / 4) (eF D e0 pw k) = feN D (pw' k / 4) (eF D e0 pw' k)
      rw [e, ih.1]
    refine ⟨e1, ?_, ?_, ?_⟩
    · show lF D V kk e0 l0 pw k + V kk (2 * pw k + eF D e0 pw (k + 1)) = lF D V kk e0 l0 pw' k + V kk (2 * pw' k + eF D e0 pw' (k + 1))
      rw [ih.2.1, e1, e]
    · show mF b m0 pw k ||| b (pw k / 4) = mF b m0 pw' k ||| b (pw' k / 4)
      rw [ih.2.2.1, e]
    · rw [paF_s, paF_s, ih.2.2.2, e]
theorem endL_F {D V : Nat → Nat → Int} {kk e0 : Nat} {l0 : Int} {pw : Nat → Nat} : ∀ (k : Nat) (r : List Nat), r ≠ [] → endL D V kk e0 l0 (paF pw k ++ r) = endL D V kk (eF D e0 pw k) (lF D V kk e0 l0 pw k) r
  | 0, _, _ => rfl
  | k + 1, r, h => by
    rw [paF_s, List.append_assoc, endL_F k ([pw k] ++ r) (by intro z; cases z)]
    cases r with
    | nil => exact absurd rfl h
    | cons v r => rfl
theorem endM_F {b : Nat → Nat} {m0 : Nat} {pw : Nat → Nat} : ∀ (k : Nat) (r : List Nat), r ≠ [] → endM b m0 (paF pw k ++ r) = endM b (mF b m0 pw k) r
  | 0, _, _ => rfl
  | k + 1, r, h => by
    rw [paF_s, List.append_assoc, endM_F k ([pw k] ++ r) (by intro z; cases z)]
    cases r with
    | nil => exact absurd rfl h
    | cons v r => rfl
def SK (τ : VS) (D : Nat → Nat → Int) (b : Nat → Nat) (s e0 : Nat) (pw : Nat → Nat) (deep : Nat) : Prop := (vv τ 57 0 = (s : Int) ∧ vv τ 58 0 = -1 ∧ vv τ 59 0 = (e0 : Int) ∧ vv τ 60 0 = ((b s : Nat) : Int)) ∧ ∀ k, k < deep → vv τ 57 (k + 1) = ((pw k / 4 : Nat) : Int) ∧ vv τ 58 (k + 1) = ((pw k % 4 : Nat) : Int) ∧ vv τ 59 (k + 1) = ((eF D e0 pw (k + 1) : Nat) : Int) ∧ vv τ 60 (k + 1) = ((mF b (b s) pw (k + 1) : Nat) : Int)
def Ent (τ : VS) (j : Nat) (x : Nat × Nat × List Nat) (sl : Int) : Prop := (vv τ 49 j = sl ∧ vv τ 50 j = (x.1 : Int) ∧ vv τ 51 j = (x.2.1 : Int) ∧ vv τ 52 j = ((x.2.2.length + 1 : Nat) : Int)) ∧ x.2.2.length ≤ 51 ∧ (vv τ 53 (52 * j) = (x.1 : Int) ∧ vv τ 54 (52 * j) = -1) ∧ ∀ k w, x.2.2[k]? = some w → vv τ 53 (52 * j + 1 + k) = ((w / 4 : Nat) : Int) ∧ vv τ 54 (52 * j + 1 + k) = ((w % 4 : Nat) : Int)
/-- what stood in the list before the q-th is still there -/
def LKp (τ x : VS) (q : Nat) : Prop := (∀ k j, k = 49 ∨ k = 50 ∨ k = 51 ∨ k = 52 → j < q → vv x k j = vv τ k j) ∧ ∀ k j, k = 53 ∨ k = 54 → j < 52 * q → vv x k j = vv τ k j
theorem LKp.trans {a b c : VS} {q r : Nat} (h : LKp a b q) (g : LKp b c r) (l : q ≤ r) : LKp a c q := ⟨fun k j hk hj => (g.1 k j hk (by omega)).trans (h.1 k j hk hj), fun k j hk hj => (g.2 k j hk (by omega)).trans (h.2 k j hk hj)⟩
theorem LKp.of {F0 A : List Nat} {τ x : VS} {q : Nat} (e : Eo F0 A τ x) (h : 49 ∉ A ∧ 50 ∉ A ∧ 51 ∉ A ∧ 52 ∉ A ∧ 53 ∉ A ∧ 54 ∉ A) : LKp τ x q := by
  obtain ⟨a, b, c, d, f, g⟩ := h
  refine ⟨fun k j hk _ => ?_, fun k j hk _ => ?_⟩
  · rcases hk with hk | hk | hk | hk
    · rw [hk, vv_eo e a]
    · rw [hk, vv_eo e b]
    · rw [hk, vv_eo e c]
    · rw [hk, vv_eo e d]
  · rcases hk with hk | hk
    · rw [hk, vv_eo e f]
    · rw [hk, vv_eo e g]
theorem Ent.keep {τ x : VS} {q j : Nat} {y : Nat × Nat × List Nat} {sl : Int} (h : Ent τ j y sl) (g : LKp τ x q) (hj : j < q) : Ent x j y sl := by
  obtain ⟨⟨a1, a2, a3, a4⟩, a5, ⟨a6, a7⟩, a8⟩ := h
  refine ⟨⟨?_, ?_, ?_, ?_⟩, a5, ⟨?_, ?_⟩, fun k w hk => ?_⟩
  · rw [g.1 49 j (by omega) hj]; exact a1
  · rw [g.1 50 j (by omega) hj]; exact a2
  · rw [g.1 51 j (by omega) hj]; exact a3
  · rw [g.1 52 j (by omega) hj]; exact a4
  · rw [g.2 53 _ (by omega) (by omega)]; exact a6
  · rw [g.2 54 _ (by omega) (by omega)]; exact a7
  · have l := (List.getElem?_eq_some_iff.mp hk).1
    rw [g.2 53 _ (by omega) (by omega), g.2 54 _ (by omega) (by omega)]
    exact a8 k w hk
theorem dM_L {θ x : VS} (h : Eo FL AL θ x) : dM x = dM θ := dM_same h (by decide) (by decide)
theorem vM_L {θ x : VS} (h : Eo FL AL θ x) {k : Nat} (hk : k < 8) : vM x k = vM θ k := by
  funext j
  show vv x (34 + k) j = vv θ (34 + k) j
  rw [vv_eo h]
  intro z
  have q : ∀ a, a ∈ AL → 49 ≤ a := by decide
  have w := q _ z
  omega
theorem rx_sharedM {Q : Int32 → VS → Prop} {p1 p2 : Int32} {σ : VS} {s t : Nat} (h1 : p1.toInt = (s : Int)) (h2 : p2.toInt = (t : Int)) (hs : s < nC σ) (ht : t < nC σ) (hS : SI σ) (hM : MI σ) (hq : Q (shM σ s t) σ) : wp_shared Q p1 p2 σ := by
  have a1 : 0 ≤ (σ.1 1).toInt ∧ (σ.1 1).toInt ≤ 50 := hM.1 1
  have en : (σ.1 1).toInt = ((nC σ : Nat) : Int) := by unfold nC; omega
  have a2 : (rd σ 2 p1).toInt = vv σ 2 s := vv_rd h1
  have a3 : (rd σ 2 p2).toInt = vv σ 2 t := vv_rd h2
  refine rx_shared (by omega) (by omega) hS hM (fun k N2 hN2 => ?_) (fun k => ?_)
  · unfold shM at hq
    rw [if_pos ⟨by rw [← a2]; exact k.1, by rw [← a3]; exact k.2⟩, show (σ.1 21).toInt.toNat = N2 by omega] at hq
    rw [vv_rd h1, vv_rd h2]
    exact hq
  · unfold shM at hq
    rw [if_neg (fun q => k ⟨by rw [a2]; exact q.1, by rw [a3]; exact q.2⟩)] at hq
    exact hq
theorem shM_L {θ x : VS} (hE : Eo FL AL θ x) (s t : Nat) : shM x s t = shM θ s t := by
  unfold shM
  rw [vv_eo hE (show 2 ∉ AL by decide), vv_eo hE (show 11 ∉ AL by decide), hE.2 22 (by decide), hE.2 23 (by decide), hE.2 24 (by decide), hE.1 21 (by decide)]
theorem lF_b {D V : Nat → Nat → Int} {kk e0 : Nat} {l0 : Int} {pw : Nat → Nat} (h0 : 0 ≤ l0 ∧ l0 ≤ 2400000) : ∀ k : Nat, (∀ j, j < k → 0 ≤ V kk (2 * pw j + eF D e0 pw (j + 1)) ∧ V kk (2 * pw j + eF D e0 pw (j + 1)) ≤ 6000) → 0 ≤ lF D V kk e0 l0 pw k ∧ lF D V kk e0 l0 pw k ≤ 2400000 + 6000 * (k : Int)
  | 0, _ => by
    show 0 ≤ l0 ∧ l0 ≤ 2400000 + 6000 * ((0 : Nat) : Int)
    omega
  | k + 1, h => by
    have ih := lF_b (pw := pw) h0 k (fun j hj => h j (by omega))
    have q := h k (by omega)
    show 0 ≤ lF D V kk e0 l0 pw k + V kk (2 * pw k + eF D e0 pw (k + 1)) ∧ lF D V kk e0 l0 pw k + V kk (2 * pw k + eF D e0 pw (k + 1)) ≤ 2400000 + 6000 * ((k + 1 : Nat) : Int)
    omega
theorem mF_lt {b : Nat → Nat} {m0 : Nat} {pw : Nat → Nat} (h0 : m0 < 16) (hb : ∀ c, b c < 16) : ∀ k : Nat, mF b m0 pw k < 16
  | 0 => h0
  | k + 1 => or_16 _ _ (mF_lt h0 hb k) (hb _)
theorem eF_lt {D : Nat → Nat → Int} {e0 : Nat} {pw : Nat → Nat} (h0 : e0 < 2) : ∀ k : Nat, eF D e0 pw k < 2
  | 0 => h0
  | k + 1 => feN_lt D _ (eF_lt h0 k)
set_option maxHeartbeats 1000000 in
theorem rx_keep {Q : VS → Prop} {p1 p2 p3 : Int32} {θ τ : VS} {R s t w deep q e0 : Nat} {b : Nat → Nat} {nm : Nat → Int} {F : Nat → Nat → List (List Nat)} {pw : Nat → Nat} (h1 : p1.toInt = (s : Int)) (h2 : p2.toInt = (deep : Int)) (h3 : p3.toInt = ((w % 4 : Nat) : Int)) (hwt : w / 4 = t) (hd : deep ≤ 50) (hs : s < nC θ) (he : e0 < 2) (hM : MI τ) (hE : Eo FL AL θ τ) (hLI : LI τ) (G : RfE θ R) (P : RfP θ R s t b nm F) (h61 : (τ.1 61).toInt = (t : Int)) (h48 : (τ.1 48).toInt = (q : Int)) (hq1 : q < 1000) (hK : SK τ (dM θ) b s e0 pw deep) (hst : vv θ 2 s ≠ 0 → (0 ≤ vM θ 2 (8 * s + e0) ∧ vM θ 2 (8 * s + e0) ≤ 6000)) (bst : 0 ≤ saD (dM θ) (vM θ) (2 * s + e0) ∧ saD (dM θ) (vM θ) (2 * s + e0) ≤ 2400000) (hdl : ∀ j, j < deep → pw j < 4 * nC θ ∧ 0 ≤ vM θ 2 (2 * pw j + eF (dM θ) e0 pw (j + 1)) ∧ vM θ 2 (2 * pw j + eF (dM θ) e0 pw (j + 1)) ≤ 6000) (hq : ∀ x : VS, MI x → Eo [48] [49, 50, 51, 52, 53, 54] τ x → (x.1 48).toInt = ((q + 1 : Nat) : Int) → Ent x q (s, e0, paF pw deep ++ [w]) (nm (mF b (b s) pw deep) * (θ.1 20).toInt + rmD (dM θ) (UM θ) (shF θ) s t - lF (dM θ) (vM θ) 2 e0 (saD (dM θ) (vM θ) (2 * s + e0)) pw deep) → LKp τ x q → LI x → Q x) : wp_keep Q p1 p2 p3 τ := by
  obtain ⟨hMθ, hS, hD, hWr, hN, hL, hR⟩ := G
  obtain ⟨hb, hnm, hF, ht, ht1, htg, ho⟩ := P
  have a1 : 0 ≤ (θ.1 1).toInt ∧ (θ.1 1).toInt ≤ 50 := hMθ.1 1
  have en : (θ.1 1).toInt = ((nC θ : Nat) : Int) := by unfold nC; omega
  have hR4 : 0 ≤ (θ.1 25).toInt ∧ (θ.1 25).toInt ≤ 4 := hMθ.1 25
  have a20 : 1 ≤ (θ.1 20).toInt ∧ (θ.1 20).toInt ≤ 1000000 := hMθ.1 20
  have b16 : ∀ c, b c < 16 := fun c => by rw [hb]; exact bR_16 _ (by omega) c
  have b12 : -10000 ≤ vv θ 12 t ∧ vv θ 12 t ≤ 10000 := hMθ.2 12 t
  have ml := mF_lt (pw := pw) (b16 s) b16 deep
  have lb := lF_b (D := dM θ) (V := vM θ) (kk := 2) (e0 := e0) (pw := pw) bst deep (fun j hj => (hdl j hj).2)
  have bsh := shM_b hMθ hN s t
  unfold wp_keep
  intro X40 X141 H40 H141 x1 e1
  have hx1 : x1.toInt = (q : Int) := by rw [e1]; exact h48
  have L141 : ∀ (d k : Nat) (l5 l6 : Int32) (x : VS), deep + 2 ≤ d + k → 1 ≤ k → k ≤ deep + 1 → l6.toInt = (k : Int) → l5.toInt = lF (dM θ) (vM θ) 2 e0 (saD (dM θ) (vM θ) (2 * s + e0)) pw (k - 1) → MI x → Eo [] [50, 51, 52, 53, 54] τ x → LKp τ x q → LI x → (vv x 50 q = (s : Int) ∧ vv x 51 q = (e0 : Int) ∧ vv x 52 q = (deep : Int) + 2) → (∀ j, j ≤ deep → vv x 53 (52 * q + j) = vv τ 57 j ∧ vv x 54 (52 * q + j) = vv τ 58 j) → (vv x 53 (52 * q + deep + 1) = (t : Int) ∧ vv x 54 (52 * q + deep + 1) = ((w % 4 : Nat) : Int)) → X141 p1 p2 x1 l5 l6 x := by
    intro d
    induction d with
    | zero => intro k l5 l6 x a b' c; omega
    | succ d ih =>
      intro k l5 l6 x ha hk1 hk2 e6 e5 hMx hEx hLx hIx hA hB hC
      refine H141 _ _ _ _ _ _ ?_
      have Ex : Eo FL AL θ x := hE.trans (hEx.mono (fun k hk => by cases hk) (by decide))
      unfold b_keep_141
      refine ⟨fun z => ?_, fun z => ?_⟩
      · have ek : k = deep + 1 := by omega
        rw [ek, show deep + 1 - 1 = deep by omega] at e5
        have f61 : (x.1 61).toInt = (t : Int) := by rw [hEx.1 61 (by decide)]; exact h61
        have f25 : (x.1 25).toInt = (R : Int) := by rw [Ex.1 25 (by decide)]; exact hR
        have f48 : (x.1 48).toInt = (q : Int) := by rw [hEx.1 48 (by decide)]; exact h48
        have nn : nC x = nC θ := by unfold nC; rw [Ex.1 1 (by decide)]
        have hSx := hS.same Ex (by decide)
        have s60 : (rd x 60 p2).toInt = ((mF b (b s) pw deep : Nat) : Int) := by
          rw [vv_rd h2, vv_eo hEx (by decide)]
          cases deep with
          | zero => exact hK.1.2.2.2
          | succ dd => exact (hK.2 dd (by omega)).2.2.2
        refine ⟨⟨by omega, by omega⟩, rx_metBy f61 hMx f25 (fun r4 e4 => ?_)⟩
        rw [vv_eo Ex (by decide), ← hb] at e4
        have t9 : (rd x 60 p2 ||| r4).toInt = ((mF b (b s) pw deep ||| b t : Nat) : Int) := or_nat s60 e4 ml (b16 t)
        refine rx_periodsOf h1 f61 t9 (or_16 _ _ ml (b16 t)) hMx f25 (fun r6 e6' b6 => ⟨⟨by omega, by omega⟩, ?_⟩)
        rw [vv_eo Ex (show 26 ∉ AL by decide), vv_eo Ex (show 27 ∉ AL by decide), vv_eo Ex (show 28 ∉ AL by decide), vv_eo Ex (show 29 ∉ AL by decide), ← hnm _ ml] at e6'
        have Nx : NdR x := by
          unfold NdR
          rw [vv_eo Ex (show 23 ∉ AL by decide), vv_eo Ex (show 24 ∉ AL by decide), Ex.1 21 (by decide)]
          exact hN
        have r11 : (rd x 11 (x.1 61)).toInt = vv θ 11 t := by rw [vv_rd f61, vv_eo Ex (by decide)]
        have lt11 : vv θ 11 t < (θ.1 21).toInt := hS.2.2.1 t (by omega)
        have b11 : -1 ≤ vv θ 11 t ∧ vv θ 11 t ≤ 19 := hMθ.2 11 t
        refine rx_earlyOf (by rw [r11, Ex.1 21 (by decide)]; omega) hSx hMx Nx (fun r8 e8 b8 => ⟨⟨by omega, by omega⟩, ?_⟩)
        rw [r11, vv_eo Ex (show 22 ∉ AL by decide), vv_eo Ex (show 23 ∉ AL by decide), ← dM_14 ht] at e8
        refine rx_sharedM h1 f61 (by omega) (by omega) hSx hMx ⟨⟨by omega, by omega⟩, ?_⟩
        rw [shM_L Ex]
        obtain ⟨len, elen⟩ : ∃ len : Int, len = (θ.1 20).toInt := ⟨_, rfl⟩
        have l20 : (x.1 20).toInt = len := by rw [Ex.1 20 (by decide), elen]
        rw [← elen] at a20 hq
        have mb : 0 ≤ r6.toInt * len ∧ r6.toInt * len ≤ 4000000 := by
          have q := mu_bd (a := r6.toInt) (b := len) (A := 4) (B := 1000000) b6 ⟨by omega, by omega⟩
          omega
        have r12 : (rd x 12 (x.1 61)).toInt = vv θ 12 t := by rw [vv_rd f61, vv_eo Ex (by decide)]
        have m1 : (r6 * x.1 20).toInt = r6.toInt * len := i3_mulc rfl l20 rfl (by omega)
        have m2 : ((r6 * x.1 20) + r8).toInt = r6.toInt * len + r8.toInt := i3_addc m1 rfl rfl (by omega)
        have m3 : (((r6 * x.1 20) + r8) - rd x 12 (x.1 61)).toInt = r6.toInt * len + r8.toInt - vv θ 12 t := i3_subc m2 r12 rfl (by omega)
        have m4 : ((((r6 * x.1 20) + r8) - rd x 12 (x.1 61)) + shM θ s t).toInt = r6.toInt * len + r8.toInt - vv θ 12 t + (shM θ s t).toInt := i3_addc m3 rfl rfl (by omega)
        have m5 : (((((r6 * x.1 20) + r8) - rd x 12 (x.1 61)) + shM θ s t) - l5).toInt = r6.toInt * len + r8.toInt - vv θ 12 t + (shM θ s t).toInt - l5.toInt := i3_subc m4 rfl rfl (by omega)
        obtain ⟨v, hv⟩ : ∃ v : Int32, v = (((((r6 * x.1 20) + r8) - rd x 12 (x.1 61)) + shM θ s t) - l5) := ⟨_, rfl⟩
        rw [← hv] at m5
        rw [← hv]
        show Q (sf (sa x 49 x1 v) 48 ((x.1 48) + 1))
        have t48 : ((x.1 48) + 1).toInt = ((q + 1 : Nat) : Int) := by
          have y := i3_addc (x := (x.1 48) + 1) f48 (show (1 : Int32).toInt = 1 from rfl) rfl (by omega)
          omega
        have sv : v.toInt = nm (mF b (b s) pw deep) * len + rmD (dM θ) (UM θ) (shF θ) s t - lF (dM θ) (vM θ) 2 e0 (saD (dM θ) (vM θ) (2 * s + e0)) pw deep := by
          rw [m5, e6', e8, e5]
          unfold rmD shF
          rw [(UM_4 ht).1]
          omega
        refine hq _ ((hMx.sa 49 x1 v (i3_bd v)).sf 48 _ ⟨by show (0 : Int) ≤ _; omega, by show _ ≤ (1000 : Int); omega⟩) (((hEx.mono (fun k hk => by cases hk) (by decide)).sa 49 x1 v (by decide)).sf 48 _ (by decide)) (by rw [sf_same]; exact t48) ⟨⟨?_, ?_, ?_, ?_⟩, ?_, ⟨?_, ?_⟩, fun k w2 hk => ?_⟩ ⟨fun k j hk hj => ?_, fun k j hk hj => ?_⟩ (hIx.same ((Eo.rfl.sa 49 x1 v (by decide)).sf 48 _ (by decide) : Eo [48] [49] x (sf (sa x 49 x1 v) 48 ((x.1 48) + 1))) (by decide))
        · show vv (sa x 49 x1 v) 49 q = _
          rw [vv_sa x 49 x1 v hx1, fu_eq, sv]
        · show vv (sa x 49 x1 v) 50 q = _
          rw [vv_so (by decide)]; exact hA.1
        · show vv (sa x 49 x1 v) 51 q = _
          rw [vv_so (by decide)]; exact hA.2.1
        · show vv (sa x 49 x1 v) 52 q = (((paF pw deep ++ [w]).length + 1 : Nat) : Int)
          rw [vv_so (by decide), hA.2.2, List.length_append, paF_l]
          show (deep : Int) + 2 = ((deep + 1 + 1 : Nat) : Int)
          omega
        · show (paF pw deep ++ [w]).length ≤ 51
          rw [List.length_append, paF_l]
          show deep + 1 ≤ 51
          omega
        · show vv (sa x 49 x1 v) 53 (52 * q) = _
          rw [vv_so (by decide)]
          have y := (hB 0 (by omega)).1
          rw [Nat.add_zero] at y
          rw [y]; exact hK.1.1
        · show vv (sa x 49 x1 v) 54 (52 * q) = _
          rw [vv_so (by decide)]
          have y := (hB 0 (by omega)).2
          rw [Nat.add_zero] at y
          rw [y]; exact hK.1.2.1
        · show vv (sa x 49 x1 v) 53 (52 * q + 1 + k) = _ ∧ vv (sa x 49 x1 v) 54 (52 * q + 1 + k) = _
          rw [vv_so (show 53 ≠ 49 by decide), vv_so (show 54 ≠ 49 by decide)]
          have hk2 : (paF pw deep ++ [w])[k]? = some w2 := hk
          by_cases y : k < deep
          · rw [List.getElem?_append_left (by rw [paF_l]; exact y), paF_get y] at hk2
            injection hk2 with hk2
            have y2 := hB (k + 1) (by omega)
            rw [show 52 * q + 1 + k = 52 * q + (k + 1) by omega, y2.1, y2.2, ← hk2]
            exact ⟨(hK.2 k y).1, (hK.2 k y).2.1⟩
          · have l := (List.getElem?_eq_some_iff.mp hk2).1
            rw [List.length_append, paF_l] at l
            have kd : k = deep := by
              have l2 : k < deep + 1 := l
              omega
            rw [kd, List.getElem?_append_right (by rw [paF_l]; exact Nat.le_refl _), paF_l, Nat.sub_self] at hk2
            have hk3 : some w = some w2 := hk2
            injection hk3 with hk3
            rw [kd, show 52 * q + 1 + deep = 52 * q + deep + 1 by omega, hC.1, hC.2, ← hk3, hwt]
            exact ⟨rfl, rfl⟩
        · show vv (sa x 49 x1 v) k j = _
          by_cases k49 : k = 49
          · rw [k49, vv_sa x 49 x1 v hx1, fu_ne (by omega)]
            exact hLx.1 49 j (by omega) hj
          · rw [vv_so k49]
            exact hLx.1 k j hk hj
        · show vv (sa x 49 x1 v) k j = _
          rw [vv_so (by omega)]
          exact hLx.2 k j hk hj
      · have kk : k - 1 < deep := by omega
        have k1 : k - 1 + 1 = k := by omega
        have st := hK.2 (k - 1) kk
        rw [k1] at st
        have dl := hdl (k - 1) kk
        rw [k1] at dl
        have e2 := eF_lt (D := dM θ) (pw := pw) he k
        have r57 : (rd x 57 l6).toInt = ((pw (k - 1) / 4 : Nat) : Int) := by rw [vv_rd e6, vv_eo hEx (by decide)]; exact st.1
        have r58 : (rd x 58 l6).toInt = ((pw (k - 1) % 4 : Nat) : Int) := by rw [vv_rd e6, vv_eo hEx (by decide)]; exact st.2.1
        have r59 : (rd x 59 l6).toInt = ((eF (dM θ) e0 pw k : Nat) : Int) := by rw [vv_rd e6, vv_eo hEx (by decide)]; exact st.2.2.1
        have w1 : (8 * rd x 57 l6).toInt = 8 * ((pw (k - 1) / 4 : Nat) : Int) := i3_mulc rfl r57 rfl (by have y : (8 : Int32).toInt = 8 := rfl; omega)
        have w2 : (2 * rd x 58 l6).toInt = 2 * ((pw (k - 1) % 4 : Nat) : Int) := i3_mulc rfl r58 rfl (by have y : (2 : Int32).toInt = 2 := rfl; omega)
        have w3 : (8 * rd x 57 l6 + 2 * rd x 58 l6).toInt = 8 * ((pw (k - 1) / 4 : Nat) : Int) + 2 * ((pw (k - 1) % 4 : Nat) : Int) := i3_addc w1 w2 rfl (by omega)
        have w4 : (8 * rd x 57 l6 + 2 * rd x 58 l6 + rd x 59 l6).toInt = ((2 * pw (k - 1) + eF (dM θ) e0 pw k : Nat) : Int) := by
          have y := i3_addc (x := 8 * rd x 57 l6 + 2 * rd x 58 l6 + rd x 59 l6) w3 r59 rfl (by omega)
          omega
        have t1 : (l6 + 1).toInt = ((k + 1 : Nat) : Int) := by
          have y := i3_addc (x := l6 + 1) e6 (show (1 : Int32).toInt = 1 from rfl) rfl (by omega)
          omega
        have lbk := lF_b (D := dM θ) (V := vM θ) (kk := 2) (e0 := e0) (pw := pw) bst (k - 1) (fun j hj => (hdl j (by omega)).2)
        refine ⟨⟨by omega, by omega⟩, ⟨by omega, by omega⟩, ⟨by omega, by omega⟩, ⟨by omega, by omega⟩, fun x12 e12 => ih (k + 1) x12 (l6 + 1) x (by omega) (by omega) (by omega) t1 ?_ hMx hEx hLx hIx hA hB hC⟩
        have r36 : (rd x 36 (8 * rd x 57 l6 + 2 * rd x 58 l6 + rd x 59 l6)).toInt = vM θ 2 (2 * pw (k - 1) + eF (dM θ) e0 pw k) := by rw [vv_rd w4, vv_eo Ex (by decide)]; rfl
        have y := i3_addc (x := x12) e5 r36 e12 (by omega)
        rw [y, show k + 1 - 1 = (k - 1) + 1 by omega]
        show _ = lF (dM θ) (vM θ) 2 e0 (saD (dM θ) (vM θ) (2 * s + e0)) pw (k - 1) + vM θ 2 (2 * pw (k - 1) + eF (dM θ) e0 pw (k - 1 + 1))
        rw [k1]
  have L40 : ∀ (d k : Nat) (l5 : Int32) (x : VS), deep + 2 ≤ d + k → k ≤ deep + 1 → l5.toInt = (k : Int) → MI x → Eo [] [50, 51, 52, 53, 54] τ x → LKp τ x q → LI x → (vv x 50 q = (s : Int) ∧ vv x 51 q = (e0 : Int) ∧ vv x 52 q = (deep : Int) + 2) → (∀ j, j < k → vv x 53 (52 * q + j) = vv τ 57 j ∧ vv x 54 (52 * q + j) = vv τ 58 j) → X40 p1 p2 p3 x1 l5 x := by
    intro d
    induction d with
    | zero => intro k l5 x a b'; omega
    | succ d ih =>
      intro k l5 x ha hk e5 hMx hEx hLx hIx hA hB
      refine H40 _ _ _ _ _ _ ?_
      have Ex : Eo FL AL θ x := hE.trans (hEx.mono (fun k hk => by cases hk) (by decide))
      unfold b_keep_40
      have u1 : (52 * x1).toInt = 52 * (q : Int) := i3_mulc rfl hx1 rfl (by have y : (52 : Int32).toInt = 52 := rfl; omega)
      have u2 : (52 * x1 + p2).toInt = 52 * (q : Int) + (deep : Int) := i3_addc u1 h2 rfl (by omega)
      have u3 : (52 * x1 + p2 + 1).toInt = ((52 * q + deep + 1 : Nat) : Int) := by
        have y := i3_addc (x := 52 * x1 + p2 + 1) u2 (show (1 : Int32).toInt = 1 from rfl) rfl (by omega)
        omega
      have u4 : (52 * x1 + l5).toInt = ((52 * q + k : Nat) : Int) := by
        have y := i3_addc (x := 52 * x1 + l5) u1 e5 rfl (by omega)
        omega
      have f61 : (x.1 61).toInt = (t : Int) := by rw [hEx.1 61 (by decide)]; exact h61
      refine ⟨fun z => ⟨⟨by omega, by omega⟩, ⟨by omega, by omega⟩, ?_⟩, fun z => ?_⟩
      · have ek : k = deep + 1 := by omega
        obtain ⟨y, hy⟩ : ∃ y : VS, y = sa (sa x 53 (52 * x1 + p2 + 1) (x.1 61)) 54 (52 * x1 + p2 + 1) p3 := ⟨_, rfl⟩
        rw [← hy]
        have My : MI y := by
          rw [hy]
          exact (hMx.sa 53 _ _ (show 0 ≤ (x.1 61).toInt ∧ (x.1 61).toInt ≤ 49 by omega)).sa 54 _ p3 (show -1 ≤ p3.toInt ∧ p3.toInt ≤ 3 by omega)
        have Ey : Eo [] [50, 51, 52, 53, 54] τ y := by
          rw [hy]
          exact (hEx.sa 53 _ _ (by decide)).sa 54 _ p3 (by decide)
        have Iy : LI y := by
          rw [hy]
          exact (hIx.same (Eo.rfl.sa 53 _ _ (by decide) : Eo [] [53] x _) (by decide)).s54 _ _ u3 (fun _ => by omega)
        have Eyθ : Eo FL AL θ y := hE.trans (Ey.mono (fun k hk => by cases hk) (by decide))
        have v53 : vv y 53 = fu (vv x 53) (52 * q + deep + 1) (t : Int) := by rw [hy, vv_so (by decide), vv_sa x 53 _ _ u3, f61]
        have v54 : vv y 54 = fu (vv x 54) (52 * q + deep + 1) ((w % 4 : Nat) : Int) := by rw [hy, vv_sa _ 54 _ _ u3, vv_so (by decide), h3]
        have nn : nC y = nC θ := by unfold nC; rw [Eyθ.1 1 (by decide)]
        have Ny : NdR y := by
          unfold NdR
          rw [vv_eo Eyθ (show 23 ∉ AL by decide), vv_eo Eyθ (show 24 ∉ AL by decide), Eyθ.1 21 (by decide)]
          exact hN
        have r59 : (rd y 59 0).toInt = (e0 : Int) := by rw [vv_rd (n := 0) rfl, vv_eo Ey (by decide)]; exact hK.1.2.2.1
        have v2 : vM y 2 = vM θ 2 := vM_L Eyθ (by decide)
        refine rx_startLate h1 r59 (by omega) he (hS.same Eyθ (by decide)) My Ny (fun k0 => ?_) (fun r2 e2 => ?_)
        · rw [v2]
          rw [vv_eo Eyθ (show 2 ∉ AL by decide)] at k0
          exact hst k0
        · have e2' : r2.toInt = saD (dM θ) (vM θ) (2 * s + e0) := by
            rw [e2, (saL_D (by omega) he).1]
            unfold saD
            rw [dM_L Eyθ, v2]
          refine L141 (deep + 2) 1 r2 1 y (by omega) (by omega) (by omega) rfl e2' My Ey ⟨fun k j hk hj => ?_, fun k j hk hj => ?_⟩ Iy ?_ (fun j hj => ?_) ?_
          · rw [hy, vv_so (by omega), vv_so (by omega)]
            exact hLx.1 k j hk hj
          · rcases hk with hk | hk
            · rw [hk, v53, fu_ne (by omega)]
              exact hLx.2 53 j (Or.inl rfl) hj
            · rw [hk, v54, fu_ne (by omega)]
              exact hLx.2 54 j (Or.inr rfl) hj
          · rw [hy, vv_so (by decide), vv_so (by decide), vv_so (by decide), vv_so (by decide), vv_so (by decide), vv_so (by decide)]
            exact hA
          · rw [v53, v54, fu_ne (by omega), fu_ne (by omega)]
            exact hB j (by omega)
          · rw [v53, v54, fu_eq, fu_eq]
            exact ⟨rfl, rfl⟩
      · have k52 : k ≤ deep := by omega
        obtain ⟨y, hy⟩ : ∃ y : VS, y = sa (sa x 53 (52 * x1 + l5) (rd x 57 l5)) 54 (52 * x1 + l5) (rd (sa x 53 (52 * x1 + l5) (rd x 57 l5)) 58 l5) := ⟨_, rfl⟩
        rw [← hy]
        have b1 : 0 ≤ (rd x 57 l5).toInt ∧ (rd x 57 l5).toInt ≤ 49 := hMx.2 57 _
        have M1 := hMx.sa 53 (52 * x1 + l5) (rd x 57 l5) b1
        have b2 : -1 ≤ (rd (sa x 53 (52 * x1 + l5) (rd x 57 l5)) 58 l5).toInt ∧ (rd (sa x 53 (52 * x1 + l5) (rd x 57 l5)) 58 l5).toInt ≤ 3 := M1.2 58 _
        have My : MI y := by rw [hy]; exact M1.sa 54 _ _ b2
        have Ey : Eo [] [50, 51, 52, 53, 54] τ y := by rw [hy]; exact (hEx.sa 53 _ _ (by decide)).sa 54 _ _ (by decide)
        have r57 : (rd x 57 l5).toInt = vv τ 57 k := by rw [vv_rd e5, vv_eo hEx (by decide)]
        have Iy : LI y := by
          rw [hy]
          refine (hIx.same (Eo.rfl.sa 53 _ _ (by decide) : Eo [] [53] x _) (by decide)).s54 _ _ u4 (fun nz => ?_)
          rw [vv_rd e5, vv_so (by decide), vv_eo hEx (by decide)]
          have kp : k - 1 < deep := by omega
          have q58 := (hK.2 (k - 1) kp).2.1
          rw [show k - 1 + 1 = k by omega] at q58
          omega
        have r58 : (rd (sa x 53 (52 * x1 + l5) (rd x 57 l5)) 58 l5).toInt = vv τ 58 k := by rw [vv_rd e5, vv_so (by decide), vv_eo hEx (by decide)]
        have v53 : vv y 53 = fu (vv x 53) (52 * q + k) (vv τ 57 k) := by rw [hy, vv_so (by decide), vv_sa x 53 _ _ u4, r57]
        have v54 : vv y 54 = fu (vv x 54) (52 * q + k) (vv τ 58 k) := by rw [hy, vv_sa _ 54 _ _ u4, r58, vv_so (by decide)]
        have t1 : (l5 + 1).toInt = ((k + 1 : Nat) : Int) := by
          have y := i3_addc (x := l5 + 1) e5 (show (1 : Int32).toInt = 1 from rfl) rfl (by omega)
          omega
        refine ⟨⟨by omega, by omega⟩, ⟨by omega, by omega⟩, ⟨by omega, by omega⟩, ⟨by omega, by omega⟩, ih (k + 1) (l5 + 1) y (by omega) (by omega) t1 My Ey ⟨fun kk j hk hj => ?_, fun kk j hk hj => ?_⟩ Iy ?_ (fun j hj => ?_)⟩
        · rw [hy, vv_so (by omega), vv_so (by omega)]
          exact hLx.1 kk j hk hj
        · rcases hk with hk | hk
          · rw [hk, v53, fu_ne (by omega)]
            exact hLx.2 53 j (Or.inl rfl) hj
          · rw [hk, v54, fu_ne (by omega)]
            exact hLx.2 54 j (Or.inr rfl) hj
        · rw [hy, vv_so (by decide), vv_so (by decide), vv_so (by decide), vv_so (by decide), vv_so (by decide), vv_so (by decide)]
          exact hA
        · rw [v53, v54]
          by_cases z2 : j = k
          · rw [z2, fu_eq, fu_eq]; exact ⟨rfl, rfl⟩
          · rw [fu_ne (by omega), fu_ne (by omega)]
            exact hB j (by omega)
  have t2 : (p2 + 2).toInt = (deep : Int) + 2 := i3_addc h2 (show (2 : Int32).toInt = 2 from rfl) rfl (by omega)
  have r59 : (rd (sa τ 50 x1 p1) 59 0).toInt = (e0 : Int) := by rw [vv_rd (n := 0) rfl, vv_so (by decide)]; exact hK.1.2.2.1
  obtain ⟨y, hy⟩ : ∃ y : VS, y = sa (sa (sa τ 50 x1 p1) 51 x1 (rd (sa τ 50 x1 p1) 59 0)) 52 x1 (p2 + 2) := ⟨_, rfl⟩
  rw [← hy]
  have My : MI y := by
    rw [hy]
    exact ((hM.sa 50 x1 p1 (show 0 ≤ p1.toInt ∧ p1.toInt ≤ 49 by omega)).sa 51 x1 _ (show 0 ≤ (rd (sa τ 50 x1 p1) 59 0).toInt ∧ (rd (sa τ 50 x1 p1) 59 0).toInt ≤ 1 by omega)).sa 52 x1 _ (show 0 ≤ (p2 + 2).toInt ∧ (p2 + 2).toInt ≤ 52 by omega)
  have Ey : Eo [] [50, 51, 52, 53, 54] τ y := by
    rw [hy]
    exact ((Eo.rfl.sa 50 x1 p1 (by decide)).sa 51 x1 _ (by decide)).sa 52 x1 _ (by decide)
  have Iy : LI y := by
    have c1 : (τ.1 1).toInt = (θ.1 1).toInt := by rw [hE.1 1 (by decide)]
    rw [hy]
    exact (hLI.s50 x1 p1 (by omega)).same ((Eo.rfl.sa 51 x1 _ (by decide)).sa 52 x1 _ (by decide) : Eo [] [51, 52] (sa τ 50 x1 p1) _) (by decide)
  have v50 : vv y 50 = fu (vv τ 50) q (s : Int) := by rw [hy, vv_so (by decide), vv_so (by decide), vv_sa τ 50 x1 p1 hx1, h1]
  have v51 : vv y 51 = fu (vv τ 51) q (e0 : Int) := by rw [hy, vv_so (by decide), vv_sa _ 51 x1 _ hx1, vv_so (by decide), r59]
  have v52 : vv y 52 = fu (vv τ 52) q ((deep : Int) + 2) := by rw [hy, vv_sa _ 52 x1 _ hx1, vv_so (by decide), vv_so (by decide), t2]
  refine ⟨⟨by omega, by omega⟩, ⟨by omega, by omega⟩, ⟨by omega, by omega⟩, L40 (deep + 2) 0 0 y (by omega) (by omega) rfl My Ey ⟨fun k j hk hj => ?_, fun k j hk hj => ?_⟩ Iy ?_ (fun j hj => by omega)⟩
  · rcases hk with hk | hk | hk | hk
    · rw [hk, hy, vv_so (by decide), vv_so (by decide), vv_so (by decide)]
    · rw [hk, v50, fu_ne (by omega)]
    · rw [hk, v51, fu_ne (by omega)]
    · rw [hk, v52, fu_ne (by omega)]
  · rw [hy, vv_so (by omega), vv_so (by omega), vv_so (by omega)]
  · rw [v50, v51, v52, fu_eq, fu_eq, fu_eq]
    exact ⟨rfl, rfl, rfl⟩
