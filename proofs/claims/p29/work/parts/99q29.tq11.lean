noncomputable def nT (S : Nat → Prop) (cn : Nat → Nat → Nat) (k t : Nat) : Nat := sT S (fun s => cn s t) k
def mT (S : Nat → Prop) (cm : Nat → Nat → Int → Int → Prop) (k t : Nat) (x y : Int) : Prop := ∃ s, s < k ∧ S s ∧ cm s t x y
def dT (S T : Nat → Prop) (cd : Nat → Nat → Int → Prop) (n k : Nat) (x : Int) : Prop := ∃ s t, s < k ∧ t < n ∧ S s ∧ T t ∧ cd s t x
def EnT (S : Nat → Prop) (cn : Nat → Nat → Nat) (cm : Nat → Nat → Int → Int → Prop) (k t : Nat) (w l g : Int) : Prop := En (nT S cn k t) (mT S cm k t) w l g
theorem EnT.skip {S : Nat → Prop} {cn : Nat → Nat → Nat} {cm : Nat → Nat → Int → Int → Prop} {k t : Nat} {w l g : Int} (h : EnT S cn cm k t w l g) (hn : ¬ S k) : EnT S cn cm (k + 1) t w l g := by
  refine En.cg (sT_n hn).symm (fun x y => ⟨fun ⟨s, a, b, c⟩ => ⟨s, by omega, b, c⟩, fun ⟨s, a, b, c⟩ => ⟨s, ?_, b, c⟩⟩) h
  by_cases z : s = k
  · exact absurd (z ▸ b) hn
  · omega
theorem EnT.add {S : Nat → Prop} {cn : Nat → Nat → Nat} {cm : Nat → Nat → Int → Int → Prop} {k t : Nat} {w l g : Int} (hy : S k) (h : En (nT S cn k t + cn k t) (fun x y => mT S cm k t x y ∨ cm k t x y) w l g) : EnT S cn cm (k + 1) t w l g := by
  refine En.cg (sT_y (g := fun s => cn s t) hy).symm (fun x y => ⟨fun q => ?_, fun ⟨s, a, b, c⟩ => ?_⟩) h
  · rcases q with ⟨s, a, b, c⟩ | q
    · exact ⟨s, by omega, b, c⟩
    · exact ⟨k, by omega, hy, q⟩
  · by_cases z : s = k
    · rw [z] at c; exact Or.inr c
    · exact Or.inl ⟨s, by omega, b, c⟩
theorem EnT.none {S : Nat → Prop} {cn : Nat → Nat → Nat} {cm : Nat → Nat → Int → Int → Prop} {k t : Nat} {w l g : Int} (h : EnT S cn cm k t w l g) (h0 : cn k t = 0) (h1 : ∀ x y, ¬ cm k t x y) : EnT S cn cm (k + 1) t w l g := by
  by_cases s : S k
  · refine EnT.add s (En.cg (by rw [h0, Nat.add_zero]) (fun x y => ⟨fun q => Or.inl q, fun q => q.elim (fun z => z) (fun z => absurd z (h1 x y))⟩) h)
  · exact h.skip s
/-- what the race rests on -/
def Rce (σ : VS) (R : Nat) (b : Nat → Nat) (BB : Nat → Nat → Nat → List (List Nat)) (sh : Nat → Nat → Int) : Prop :=
  (σ.1 6).toInt = (R : Int) ∧ (∀ c, c < 50 → vv σ 35 c = ((b c : Nat) : Int)) ∧ (∀ c, b c < 2 ^ R) ∧ (∀ s c e, c < nCl σ → BB s c e = BPs (dC σ) (vC σ 1) s (BB s) c e) ∧ (∀ c, c < nCl σ → StC σ (vC σ) c 2400000) ∧ Wel σ ∧ (∀ s t, -2000000 ≤ sh s t ∧ sh s t ≤ 2000000) ∧ ∀ τ : VS, CI τ → Eo [9, 10] [47, 48, 49, 50, 51, 52] σ τ → ∀ (s t : Nat) (p1 p2 : Int32) (Q : Int32 → VS → Prop), p1.toInt = (s : Int) → p2.toInt = (t : Int) → s < nCl σ → t < nCl σ → (∀ r : Int32, r.toInt = sh s t → Q r τ) → wp_X2sharedOf Q p1 p2 τ
def isS (σ : VS) (s : Nat) : Prop := (vv σ 11 s = 0 ∨ vv σ 11 s = 4) ∧ vC σ 1 s = 0
def isT (σ : VS) (t : Nat) : Prop := vv σ 11 t = 4 ∨ vv σ 11 t = 5
def LaS (σ : VS) (s : Nat) (p : List Nat) (e : Nat) : Int := ltP (feN (dC σ)) (vC σ 6) (vC σ 2) s p e
def EaS (σ : VS) (s : Nat) (p : List Nat) (e : Nat) : Int := ltP (feN (dC σ)) (vC σ 7) (vC σ 3) s p e
def NS (σ : VS) (R : Nat) (b : Nat → Nat) (s t : Nat) (p : List Nat) : Int := perK (vv σ 31) (hitC (vv σ 32) (vv σ 34) s t (mkP b s p ||| b t)) R
def rmS (σ : VS) (sh : Nat → Nat → Int) (s t : Nat) : Int := dC σ 14 t - vv σ 26 t + sh s t
def hrS (σ : VS) (sh : Nat → Nat → Int) (s t : Nat) : Int := sh s t - dC σ 13 t - vv σ 27 t
def fS (σ : VS) (t : Nat) : Nat := (dC σ 5 (4 * t)).toNat
noncomputable def cnS (σ : VS) (R : Nat) (b : Nat → Nat) (BB : Nat → Nat → Nat → List (List Nat)) (s t : Nat) : Nat := if 0 ≤ dC σ 5 (4 * t) then nP (NS σ R b s t) (BB s (fS σ t)) else 0
def cmS (σ : VS) (R : Nat) (b : Nat → Nat) (BB : Nat → Nat → Nat → List (List Nat)) (sh : Nat → Nat → Int) (s t : Nat) (x y : Int) : Prop := 0 ≤ dC σ 5 (4 * t) ∧ mP (NS σ R b s t) (LaS σ s) (EaS σ s) (BB s (fS σ t)) (σ.1 4).toInt (rmS σ sh s t) (hrS σ sh s t) x y
def cdS (σ : VS) (R : Nat) (b : Nat → Nat) (BB : Nat → Nat → Nat → List (List Nat)) (sh : Nat → Nat → Int) (s t : Nat) (x : Int) : Prop := 0 ≤ dC σ 5 (4 * t) ∧ dP (NS σ R b s t) (LaS σ s) (BB s (fS σ t)) (rmS σ sh s t) x
theorem vC_at {F A : List Nat} {σ τ : VS} (h : Eo F A σ τ) {k : Nat} (hk : 39 + k ∉ A) : vC τ k = vC σ k := by
  funext j
  show vv τ (39 + k) j = vv σ (39 + k) j
  rw [vv_eo h hk]
theorem Rce.rst {σ τ : VS} {R s : Nat} {b : Nat → Nat} {BB : Nat → Nat → Nat → List (List Nat)} {sh : Nat → Nat → Int} (h : Rce σ R b BB sh) (hM : CI σ) (hMt : CI τ) (hE : Eo [9, 10] [47, 48, 49, 50, 51, 52] σ τ) (h9 : (τ.1 9).toInt = ((2 ^ R : Nat) : Int)) (hs : s < nCl σ) (hS : isS σ s) : Rst τ (2 ^ R) s b (BB s) (LaS σ s) (EaS σ s) := by
  obtain ⟨hR, hb, hbK, hB, hT, hW, _, _⟩ := h
  have hR4 : 0 ≤ (σ.1 6).toInt ∧ (σ.1 6).toInt ≤ 4 := hM.1 6
  have nn : nCl τ = nCl σ := by unfold nCl; rw [hE.1 2 (by decide)]
  have dd : dC τ = dC σ := by
    have q : Eo [] [] σ (σ.1, τ.2.1, τ.2.2) → True := fun _ => trivial
    funext k j
    unfold dC nCl
    rw [vv_eo hE (show 11 ∉ [47, 48, 49, 50, 51, 52] by decide), vv_eo hE (show 12 ∉ [47, 48, 49, 50, 51, 52] by decide), vv_eo hE (show 13 ∉ [47, 48, 49, 50, 51, 52] by decide), vv_eo hE (show 14 ∉ [47, 48, 49, 50, 51, 52] by decide), vv_eo hE (show 15 ∉ [47, 48, 49, 50, 51, 52] by decide), vv_eo hE (show 16 ∉ [47, 48, 49, 50, 51, 52] by decide), vv_eo hE (show 22 ∉ [47, 48, 49, 50, 51, 52] by decide), vv_eo hE (show 23 ∉ [47, 48, 49, 50, 51, 52] by decide), vv_eo hE (show 24 ∉ [47, 48, 49, 50, 51, 52] by decide), vv_eo hE (show 36 ∉ [47, 48, 49, 50, 51, 52] by decide), vv_eo hE (show 37 ∉ [47, 48, 49, 50, 51, 52] by decide), vv_eo hE (show 38 ∉ [47, 48, 49, 50, 51, 52] by decide), hE.2 25 (by decide), hE.2 29 (by decide), hE.2 30 (by decide), hE.1 2 (by decide), hE.1 7 (by decide), hE.1 8 (by decide)]
  have v1 : vC τ 1 = vC σ 1 := vC_at hE (by decide)
  have ec : ∀ c, Ec (vC σ) (vC τ) c := fun c => by
    refine ⟨?_, ?_, fun e he => ⟨?_, ?_, ?_, ?_⟩, fun i e hi he => ⟨?_, ?_⟩⟩
    · rw [vC_at hE (show 39 + 0 ∉ [47, 48, 49, 50, 51, 52] by decide)]
    · rw [v1]
    · rw [vC_at hE (show 39 + 4 ∉ [47, 48, 49, 50, 51, 52] by decide)]
    · rw [vC_at hE (show 39 + 5 ∉ [47, 48, 49, 50, 51, 52] by decide)]
    · rw [vC_at hE (show 39 + 6 ∉ [47, 48, 49, 50, 51, 52] by decide)]
    · rw [vC_at hE (show 39 + 7 ∉ [47, 48, 49, 50, 51, 52] by decide)]
    · rw [vC_at hE (show 39 + 2 ∉ [47, 48, 49, 50, 51, 52] by decide)]
    · rw [vC_at hE (show 39 + 3 ∉ [47, 48, 49, 50, 51, 52] by decide)]
  refine ⟨⟨h9, K_le R (by omega)⟩, or_K, fun c hc => by rw [vv_eo hE (by decide)]; exact hb c hc, hbK, ?_, ?_, ?_, fun c hc => ?_, ?_, ?_, ?_⟩
  · rw [dd, v1, nn]; exact hB s
  · rw [dd, vC_at hE (show 39 + 6 ∉ [47, 48, 49, 50, 51, 52] by decide), vC_at hE (show 39 + 2 ∉ [47, 48, 49, 50, 51, 52] by decide)]
    exact fun p e => rfl
  · rw [dd, vC_at hE (show 39 + 7 ∉ [47, 48, 49, 50, 51, 52] by decide), vC_at hE (show 39 + 3 ∉ [47, 48, 49, 50, 51, 52] by decide)]
    exact fun p e => rfl
  · have q := (hT c (by omega)).keep (ip_4 hM c) (fun i _ _ _ => ec _) (ec c) (Int.le_refl _)
    unfold StC at q ⊢
    rw [dd]
    exact q
  · rw [nn]; exact hs
  · rw [vv_eo hE (by decide)]; exact hS.1
  · rw [v1]; exact hS.2
