/-! THE DATA AND THE OUTPUTS -/
def dC (σ : VS) (k j : Nat) : Int := match k with
  | 0 => if j < nCl σ then vv σ 11 j else 0
  | 1 => if j < nCl σ then vv σ 12 j else 0
  | 2 => if j < nCl σ then vv σ 13 j else 0
  | 3 => if j < nCl σ then ldF (vv σ 15 j) (vv σ 16) (vv σ 14) (j : Int) (nCl σ * 4) else 0
  | 4 => if j < nCl σ then vv σ 14 j else 0
  | 5 => if j < 4 * nCl σ then max (vv σ 16 j) (-1) else -1
  | 6 => vv σ 36 j
  | 7 => vv σ 37 j
  | 8 => vv σ 38 j
  | 9 => if j = 0 then (σ.1 7).toInt else (σ.1 8).toInt
  | 10 => if j < nCl σ then vv σ 24 j else 0
  | 11 => if j < nCl σ then vv σ 23 j else 0
  | 12 => if j < nCl σ then vv σ 22 j else 0
  | 13 => if j < nCl σ then (ex (σ.2.1 30) (σ.2.1 25 j)).toInt else 0
  | 14 => if j < nCl σ then (ex (σ.2.1 29) (σ.2.1 25 j)).toInt else 0
  | _ => 0
def vC (σ : VS) (k j : Nat) : Int := vv σ (39 + k) j
theorem dC_0 {σ : VS} {j : Nat} (h : j < nCl σ) : dC σ 0 j = vv σ 11 j := if_pos h
theorem dC_1 {σ : VS} {j : Nat} (h : j < nCl σ) : dC σ 1 j = vv σ 12 j := if_pos h
theorem dC_2 {σ : VS} {j : Nat} (h : j < nCl σ) : dC σ 2 j = vv σ 13 j := if_pos h
theorem dC_3 {σ : VS} {j : Nat} (h : j < nCl σ) : dC σ 3 j = ldF (vv σ 15 j) (vv σ 16) (vv σ 14) (j : Int) (nCl σ * 4) := if_pos h
theorem dC_4 {σ : VS} {j : Nat} (h : j < nCl σ) : dC σ 4 j = vv σ 14 j := if_pos h
theorem dC_5 {σ : VS} {j : Nat} (h : j < 4 * nCl σ) : dC σ 5 j = max (vv σ 16 j) (-1) := if_pos h
theorem dC_10 {σ : VS} {j : Nat} (h : j < nCl σ) : dC σ 10 j = vv σ 24 j := if_pos h
theorem dC_11 {σ : VS} {j : Nat} (h : j < nCl σ) : dC σ 11 j = vv σ 23 j := if_pos h
theorem dC_12 {σ : VS} {j : Nat} (h : j < nCl σ) : dC σ 12 j = vv σ 22 j := if_pos h
theorem dC_13 {σ : VS} {j : Nat} (h : j < nCl σ) : dC σ 13 j = (ex (σ.2.1 30) (σ.2.1 25 j)).toInt := if_pos h
theorem dC_14 {σ : VS} {j : Nat} (h : j < nCl σ) : dC σ 14 j = (ex (σ.2.1 29) (σ.2.1 25 j)).toInt := if_pos h
theorem dC_same {A : List Nat} {σ τ : VS} (h : Eo [] A σ τ) (hA : 11 ∉ A ∧ 12 ∉ A ∧ 13 ∉ A ∧ 14 ∉ A ∧ 15 ∉ A ∧ 16 ∉ A ∧ 22 ∉ A ∧ 23 ∉ A ∧ 24 ∉ A ∧ 25 ∉ A ∧ 29 ∉ A ∧ 30 ∉ A ∧ 36 ∉ A ∧ 37 ∉ A ∧ 38 ∉ A) : dC τ = dC σ := by
  obtain ⟨a11, a12, a13, a14, a15, a16, a22, a23, a24, a25, a29, a30, a36, a37, a38⟩ := hA
  funext k j
  unfold dC nCl
  rw [vv_eo h a11, vv_eo h a12, vv_eo h a13, vv_eo h a14, vv_eo h a15, vv_eo h a16, vv_eo h a22, vv_eo h a23, vv_eo h a24, vv_eo h a36, vv_eo h a37, vv_eo h a38, h.2 25 a25, h.2 29 a29, h.2 30 a30, h.1 2 (by decide), h.1 7 (by decide), h.1 8 (by decide)]
/-- nothing but the entries of c has changed -/
def Fr (c : Nat) (τ τ' : VS) : Prop := (∀ j, j ≠ c → vv τ' 39 j = vv τ 39 j ∧ vv τ' 40 j = vv τ 40 j) ∧ (∀ k j, k = 41 ∨ k = 42 → j / 8 ≠ c → vv τ' k j = vv τ k j) ∧ ∀ k j, k = 43 ∨ k = 44 ∨ k = 45 ∨ k = 46 → j / 2 ≠ c → vv τ' k j = vv τ k j
theorem Fr.id {c : Nat} {τ : VS} : Fr c τ τ := ⟨fun _ _ => ⟨Eq.refl _, Eq.refl _⟩, fun _ _ _ _ => Eq.refl _, fun _ _ _ _ => Eq.refl _⟩
theorem Fr.trans {c : Nat} {a b d : VS} (h : Fr c a b) (g : Fr c b d) : Fr c a d := ⟨fun j q => ⟨(g.1 j q).1.trans (h.1 j q).1, (g.1 j q).2.trans (h.1 j q).2⟩, fun k j a q => (g.2.1 k j a q).trans (h.2.1 k j a q), fun k j a q => (g.2.2 k j a q).trans (h.2.2 k j a q)⟩
theorem Fr.ec {c s : Nat} {τ τ' : VS} (h : Fr c τ τ') (hs : s ≠ c) : Ec (vC τ) (vC τ') s := by
  refine ⟨(h.1 s hs).1, (h.1 s hs).2, fun e he => ⟨h.2.2 43 _ (Or.inl rfl) (by omega), h.2.2 44 _ (Or.inr (Or.inl rfl)) (by omega), h.2.2 45 _ (Or.inr (Or.inr (Or.inl rfl))) (by omega), h.2.2 46 _ (Or.inr (Or.inr (Or.inr rfl))) (by omega)⟩, fun i e hi he => ⟨h.2.1 41 _ (Or.inl rfl) (by omega), h.2.1 42 _ (Or.inr rfl) (by omega)⟩⟩
theorem Fr.arc {c i e : Nat} {v1 v2 v3 v4 : Int} {τ τ' : VS} (hi : i < 4) (he : e < 2) (hE : Eo [] [41, 42, 43, 44] τ τ') (e1 : vv τ' 41 = fu (vv τ 41) (8 * c + 2 * i + e) v1) (e2 : vv τ' 42 = fu (vv τ 42) (8 * c + 2 * i + e) v2) (e3 : vv τ' 43 = fu (vv τ 43) (2 * c + e) v3) (e4 : vv τ' 44 = fu (vv τ 44) (2 * c + e) v4) : Fr c τ τ' := by
  refine ⟨fun j _ => ?_, fun k j hk q => ?_, fun k j hk q => ?_⟩
  · rw [vv_eo hE (show 39 ∉ [41, 42, 43, 44] by decide), vv_eo hE (show 40 ∉ [41, 42, 43, 44] by decide)]; exact ⟨rfl, rfl⟩
  · rcases hk with k1 | k1 <;> subst k1
    · rw [e1, fu_ne (by omega)]
    · rw [e2, fu_ne (by omega)]
  · rcases hk with k1 | k1 | k1 | k1 <;> subst k1
    · rw [e3, fu_ne (by omega)]
    · rw [e4, fu_ne (by omega)]
    · rw [vv_eo hE (show 45 ∉ [41, 42, 43, 44] by decide)]
    · rw [vv_eo hE (show 46 ∉ [41, 42, 43, 44] by decide)]
theorem Fr.arr {c e : Nat} {v1 v2 : Int} {τ τ' : VS} (he : e < 2) (hE : Eo [] [45, 46] τ τ') (e1 : vv τ' 45 = fu (vv τ 45) (2 * c + e) v1) (e2 : vv τ' 46 = fu (vv τ 46) (2 * c + e) v2) : Fr c τ τ' := by
  refine ⟨fun j _ => ?_, fun k j hk q => ?_, fun k j hk q => ?_⟩
  · rw [vv_eo hE (show 39 ∉ [45, 46] by decide), vv_eo hE (show 40 ∉ [45, 46] by decide)]; exact ⟨rfl, rfl⟩
  · rcases hk with k1 | k1 <;> subst k1
    · rw [vv_eo hE (show 41 ∉ [45, 46] by decide)]
    · rw [vv_eo hE (show 42 ∉ [45, 46] by decide)]
  · rcases hk with k1 | k1 | k1 | k1 <;> subst k1
    · rw [vv_eo hE (show 43 ∉ [45, 46] by decide)]
    · rw [vv_eo hE (show 44 ∉ [45, 46] by decide)]
    · rw [e1, fu_ne (by omega)]
    · rw [e2, fu_ne (by omega)]
theorem Fr.clr {c e : Nat} {v1 v2 v3 v4 : Int} {τ τ' : VS} (he : e < 2) (hE : Eo [] [43, 44, 45, 46] τ τ') (e1 : vv τ' 43 = fu (vv τ 43) (2 * c + e) v1) (e2 : vv τ' 44 = fu (vv τ 44) (2 * c + e) v2) (e3 : vv τ' 45 = fu (vv τ 45) (2 * c + e) v3) (e4 : vv τ' 46 = fu (vv τ 46) (2 * c + e) v4) : Fr c τ τ' := by
  refine ⟨fun j _ => ?_, fun k j hk q => ?_, fun k j hk q => ?_⟩
  · rw [vv_eo hE (show 39 ∉ [43, 44, 45, 46] by decide), vv_eo hE (show 40 ∉ [43, 44, 45, 46] by decide)]; exact ⟨rfl, rfl⟩
  · rcases hk with k1 | k1 <;> subst k1
    · rw [vv_eo hE (show 41 ∉ [43, 44, 45, 46] by decide)]
    · rw [vv_eo hE (show 42 ∉ [43, 44, 45, 46] by decide)]
  · rcases hk with k1 | k1 | k1 | k1 <;> subst k1
    · rw [e1, fu_ne (by omega)]
    · rw [e2, fu_ne (by omega)]
    · rw [e3, fu_ne (by omega)]
    · rw [e4, fu_ne (by omega)]
theorem Fr.opn {c : Nat} {p1 v : Int32} {τ : VS} (h1 : p1.toInt = (c : Int)) : Fr c τ (sa τ 40 p1 v) := by
  refine ⟨fun j hj => ?_, fun k j hk _ => ?_, fun k j hk _ => ?_⟩
  · rw [vv_so (show 39 ≠ 40 by decide), vv_sa τ 40 p1 v h1, fu_ne hj]; exact ⟨rfl, rfl⟩
  · rw [vv_so (by omega)]
  · rw [vv_so (by omega)]
/-- what stands at one edge of c when i inputs are done -/
def EdC (D W V : Nat → Nat → Int) (c e i : Nat) : Prop := (∀ j, j < i → acN D W c j → V 2 (8 * c + 2 * j + e) = dlN D W c e j ∧ V 3 (8 * c + 2 * j + e) = deN D W c e j) ∧ V 4 (2 * c + e) = mxF (acN D W c) (glN D W c e) i ∧ V 5 (2 * c + e) = mnF (acN D W c) (geN D W c e) i ∧ V 6 (2 * c + e) = mxF (acN D W c) (fun j => alN D W 6 c e j + dlN D W c e j) i ∧ V 7 (2 * c + e) = mnF (acN D W c) (fun j => alN D W 7 c e j + deN D W c e j) i
theorem EdC.same {D W V V' : Nat → Nat → Int} {c e i : Nat} (hi : i ≤ 4) (h : EdC D W V c e i) (h2 : ∀ j, j < 4 → V' 2 (8 * c + 2 * j + e) = V 2 (8 * c + 2 * j + e) ∧ V' 3 (8 * c + 2 * j + e) = V 3 (8 * c + 2 * j + e)) (h4 : V' 4 (2 * c + e) = V 4 (2 * c + e)) (h5 : V' 5 (2 * c + e) = V 5 (2 * c + e)) (h6 : V' 6 (2 * c + e) = V 6 (2 * c + e)) (h7 : V' 7 (2 * c + e) = V 7 (2 * c + e)) : EdC D W V' c e i := by
  refine ⟨fun j hj ha => ?_, ?_, ?_, ?_, ?_⟩
  · rw [(h2 j (by omega)).1, (h2 j (by omega)).2]; exact h.1 j hj ha
  · rw [h4]; exact h.2.1
  · rw [h5]; exact h.2.2.1
  · rw [h6]; exact h.2.2.2.1
  · rw [h7]; exact h.2.2.2.2
theorem EdC.skip {D W V : Nat → Nat → Int} {c e i : Nat} (h : EdC D W V c e i) (n : ¬ acN D W c i) : EdC D W V c e (i + 1) := by
  refine ⟨fun j hj ha => ?_, ?_, ?_, ?_, ?_⟩
  · by_cases q : j = i
    · exact absurd (q ▸ ha) n
    · exact h.1 j (by omega) ha
  · rw [mxF_n n]; exact h.2.1
  · rw [mnF_n n]; exact h.2.2.1
  · rw [mxF_n n]; exact h.2.2.2.1
  · rw [mnF_n n]; exact h.2.2.2.2
theorem EdC.next {D W V V' : Nat → Nat → Int} {c e i : Nat} (hi : i < 4) (he : e < 2) (a : acN D W c i) (h : EdC D W V c e i) (e2 : V' 2 = fu (V 2) (8 * c + 2 * i + e) (dlN D W c e i)) (e3 : V' 3 = fu (V 3) (8 * c + 2 * i + e) (deN D W c e i)) (e4 : V' 4 (2 * c + e) = max (V 4 (2 * c + e)) (glN D W c e i)) (e5 : V' 5 (2 * c + e) = min (V 5 (2 * c + e)) (geN D W c e i)) (e6 : V' 6 (2 * c + e) = max (V 6 (2 * c + e)) (alN D W 6 c e i + dlN D W c e i)) (e7 : V' 7 (2 * c + e) = min (V 7 (2 * c + e)) (alN D W 7 c e i + deN D W c e i)) : EdC D W V' c e (i + 1) := by
  refine ⟨fun j hj ha => ?_, ?_, ?_, ?_, ?_⟩
  · rw [e2, e3]
    by_cases q : j = i
    · rw [q, fu_eq, fu_eq]; exact ⟨rfl, rfl⟩
    · rw [fu_ne (by omega), fu_ne (by omega)]; exact h.1 j (by omega) ha
  · rw [mxF_y a, e4, h.2.1]
  · rw [mnF_y a, e5, h.2.2.1]
  · rw [mxF_y a, e6, h.2.2.2.1]
  · rw [mnF_y a, e7, h.2.2.2.2]
theorem stp_i {F w : Int} (h : stp F w = 0) : F = 0 ∧ w = 0 := by
  unfold stp at h
  by_cases a : F ≠ 0
  · rw [if_pos a] at h; exact absurd h a
  · rw [if_neg a] at h; exact ⟨Decidable.not_not.mp a, h⟩
theorem ffF_p {act : Nat → Prop} {fl : Nat → Int} {i : Nat} (h : ffF act fl i ≠ 0) : ∀ m, i ≤ m → ffF act fl m = ffF act fl i
  | 0, q => by
    have e : i = 0 := by omega
    rw [e]
  | m + 1, q => by
    by_cases e : i = m + 1
    · rw [e]
    · have ih := ffF_p h m (by omega)
      by_cases a : act m
      · rw [ffF_y a, ih, stp_p h]
      · rw [ffF_n a, ih]
theorem AW_0 {lf : Int → Int} {t L E ls es : Int} (h : AW lf t L E ls es = 0) : LUw lf t 0 L ls = 0 ∧ LUw lf t 1 L ls = 0 ∧ LUw lf t 0 E es = 0 ∧ LUw lf t 1 E es = 0 := by
  unfold AW at h
  have a := stp_i h
  have b := stp_i a.2
  have c := stp_i b.2
  exact ⟨a.1, b.1, c.1, c.2⟩
theorem dlA_b {v lc more : Int} (h1 : 0 ≤ v ∧ v ≤ 3000) (h2 : 0 ≤ lc ∧ lc ≤ 500) (h3 : 0 ≤ more ∧ more ≤ 1000) : 0 ≤ dlA v lc more ∧ dlA v lc more ≤ 6000 := by
  unfold dlA
  have m1 := mu_bd (a := v) (b := 1000 + lc) (A := 3000) (B := 1500) h1 ⟨by omega, by omega⟩
  generalize v * (1000 + lc) = P at m1 ⊢
  omega
theorem deA_b {v ec more : Int} (h1 : 0 ≤ v ∧ v ≤ 3000) (h2 : 0 ≤ ec ∧ ec ≤ 500) (h3 : 0 ≤ more ∧ more ≤ 1000) : 0 ≤ deA v ec more ∧ deA v ec more ≤ 6000 := by
  unfold deA
  have m1 := mu_bd (a := v) (b := 1000 - ec) (A := 3000) (B := 1000) h1 ⟨by omega, by omega⟩
  generalize v * (1000 - ec) = P at m1 ⊢
  omega
def OB (V : Nat → Nat → Int) (s : Nat) (b : Int) : Prop := ∀ e, e < 2 → 0 ≤ V 4 (2 * s + e) ∧ 0 ≤ V 5 (2 * s + e) ∧ (0 ≤ V 6 (2 * s + e) ∧ V 6 (2 * s + e) ≤ b) ∧ 0 ≤ V 7 (2 * s + e) ∧ V 7 (2 * s + e) ≤ b
/-! A GATE'S OUTPUT -/
def GIv (σ : VS) (c m e i : Nat) (R P : Int) (τ : VS) : Prop := CI τ ∧ Eo [] [39, 40, 41, 42, 43, 44, 45, 46] σ τ ∧ Fr c σ τ ∧ vv τ 39 c = R ∧ vv τ 40 c = stp P (ffF (acN (dC σ) (vC σ) c) (flN (dC σ) (vC σ) c e) i) ∧ (vv τ 40 c = 0 → (∀ f, f < e → EdC (dC σ) (vC σ) (vC τ) c f m) ∧ EdC (dC σ) (vC σ) (vC τ) c e i)
def OIv (σ : VS) (c m e : Nat) (R P : Int) (τ : VS) : Prop := CI τ ∧ Eo [] [39, 40, 41, 42, 43, 44, 45, 46] σ τ ∧ Fr c σ τ ∧ vv τ 39 c = R ∧ vv τ 40 c = P ∧ (vv τ 40 c = 0 → ∀ f, f < e → EdC (dC σ) (vC σ) (vC τ) c f m)
theorem GIv.done {σ τ : VS} {c m e : Nat} {R P : Int} (h : GIv σ c m e m R P τ) : OIv σ c m (e + 1) R (stp P (ffF (acN (dC σ) (vC σ) c) (flN (dC σ) (vC σ) c e) m)) τ := by
  obtain ⟨a, b, d, r, o, z⟩ := h
  refine ⟨a, b, d, r, o, fun q f hf => ?_⟩
  by_cases e1 : f = e
  · rw [e1]; exact (z q).2
  · exact (z q).1 f (by omega)
theorem GIv.stop {σ τ : VS} {c m e i : Nat} {R P : Int} (h : GIv σ c m e i R P τ) (hi : i ≤ m) (nz : vv τ 40 c ≠ 0) : OIv σ c m (e + 1) R (stp P (ffF (acN (dC σ) (vC σ) c) (flN (dC σ) (vC σ) c e) m)) τ := by
  obtain ⟨a, b, d, r, o, z⟩ := h
  refine ⟨a, b, d, r, ?_, fun q => absurd q nz⟩
  by_cases p : P ≠ 0
  · rw [o, stp_p p, stp_p p]
  · have p0 : P = 0 := Decidable.not_not.mp p
    rw [o, p0, stp_0, stp_0]
    rw [o, p0, stp_0] at nz
    exact (ffF_p nz m hi).symm
theorem GIv.skip {σ τ : VS} {c m e i : Nat} {R P : Int} (h : GIv σ c m e i R P τ) (n : ¬ acN (dC σ) (vC σ) c i) : GIv σ c m e (i + 1) R P τ := by
  obtain ⟨a, b, d, r, o, z⟩ := h
  refine ⟨a, b, d, r, by rw [ffF_n n]; exact o, fun q => ⟨(z q).1, (z q).2.skip n⟩⟩
theorem GIv.bad {σ τ : VS} {p1 v : Int32} {c m e i : Nat} {R P : Int} (h1 : p1.toInt = (c : Int)) (h : GIv σ c m e i R P τ) (q : vv τ 40 c = 0) (y : acN (dC σ) (vC σ) c i) (nz : flN (dC σ) (vC σ) c e i ≠ 0) (hv : v.toInt = flN (dC σ) (vC σ) c e i) : GIv σ c m e (i + 1) R P (sa τ 40 p1 v) := by
  obtain ⟨a, b, d, r, o, z⟩ := h
  rw [o] at q
  have q1 := stp_i q
  have e40 : vv (sa τ 40 p1 v) 40 c = flN (dC σ) (vC σ) c e i := by rw [vv_sa τ 40 p1 v h1, fu_eq, hv]
  refine ⟨a.sa 40 p1 v (i3_bd _), b.sa 40 p1 v (by decide), d.trans (Fr.opn h1), ?_, ?_, fun w => ?_⟩
  · rw [vv_so (show 39 ≠ 40 by decide)]; exact r
  · rw [e40, ffF_y y, q1.2, q1.1, stp_0, stp_0]
  · rw [e40] at w; exact absurd w nz
theorem GIv.ok {σ τ τ' : VS} {c m e i : Nat} {R P : Int} (hi : i < 4) (hm : m ≤ 4) (he : e < 2) (h : GIv σ c m e i R P τ) (q : vv τ 40 c = 0) (y : acN (dC σ) (vC σ) c i) (nz : flN (dC σ) (vC σ) c e i = 0) (hM : CI τ') (hE : Eo [] [40, 41, 42, 43, 44, 45, 46] τ τ') (hF : Fr c τ τ') (h40 : vv τ' 40 c = 0)
    (e2 : vv τ' 41 = fu (vv τ 41) (8 * c + 2 * i + e) (dlN (dC σ) (vC σ) c e i)) (e3 : vv τ' 42 = fu (vv τ 42) (8 * c + 2 * i + e) (deN (dC σ) (vC σ) c e i)) (e4 : vv τ' 43 = fu (vv τ 43) (2 * c + e) (max (vv τ 43 (2 * c + e)) (glN (dC σ) (vC σ) c e i))) (e5 : vv τ' 44 = fu (vv τ 44) (2 * c + e) (min (vv τ 44 (2 * c + e)) (geN (dC σ) (vC σ) c e i))) (e6 : vv τ' 45 = fu (vv τ 45) (2 * c + e) (max (vv τ 45 (2 * c + e)) (alN (dC σ) (vC σ) 6 c e i + dlN (dC σ) (vC σ) c e i))) (e7 : vv τ' 46 = fu (vv τ 46) (2 * c + e) (min (vv τ 46 (2 * c + e)) (alN (dC σ) (vC σ) 7 c e i + deN (dC σ) (vC σ) c e i))) : GIv σ c m e (i + 1) R P τ' := by
  obtain ⟨a, b, d, r, o, z⟩ := h
  have z1 := z q
  rw [o] at q
  have q1 := stp_i q
  refine ⟨hM, b.trans (hE.mono (fun k hk => hk) (by decide)), d.trans hF, ?_, ?_, fun _ => ⟨fun f hf => ?_, ?_⟩⟩
  · rw [vv_eo hE (show 39 ∉ [40, 41, 42, 43, 44, 45, 46] by decide)]; exact r
  · rw [h40, ffF_y y, q1.2, q1.1, nz, stp_0, stp_0]
  · refine (z1.1 f hf).same (V := vC τ) (V' := vC τ') hm (fun j hj => ?_) ?_ ?_ ?_ ?_
    · show vv τ' 41 _ = vv τ 41 _ ∧ vv τ' 42 _ = vv τ 42 _
      rw [e2, e3, fu_ne (by omega), fu_ne (by omega)]; exact ⟨rfl, rfl⟩
    · show vv τ' 43 _ = vv τ 43 _
      rw [e4, fu_ne (by omega)]
    · show vv τ' 44 _ = vv τ 44 _
      rw [e5, fu_ne (by omega)]
    · show vv τ' 45 _ = vv τ 45 _
      rw [e6, fu_ne (by omega)]
    · show vv τ' 46 _ = vv τ 46 _
      rw [e7, fu_ne (by omega)]
  · refine EdC.next (V := vC τ) (V' := vC τ') hi he y z1.2 e2 e3 ?_ ?_ ?_ ?_
    · show vv τ' 43 _ = max (vv τ 43 _) _
      rw [e4, fu_eq]
    · show vv τ' 44 _ = min (vv τ 44 _) _
      rw [e5, fu_eq]
    · show vv τ' 45 _ = max (vv τ 45 _) _
      rw [e6, fu_eq]
    · show vv τ' 46 _ = min (vv τ 46 _) _
      rw [e7, fu_eq]
theorem OIv.clear {σ τ τ' : VS} {c m e : Nat} {R P : Int} (hm : m ≤ 4) (he : e < 2) (h : OIv σ c m e R P τ) (hM : CI τ') (hE : Eo [] [43, 44, 45, 46] τ τ') (e4 : vv τ' 43 = fu (vv τ 43) (2 * c + e) 0) (e5 : vv τ' 44 = fu (vv τ 44) (2 * c + e) 1000000000) (e6 : vv τ' 45 = fu (vv τ 45) (2 * c + e) 0) (e7 : vv τ' 46 = fu (vv τ 46) (2 * c + e) 1000000000) : GIv σ c m e 0 R P τ' := by
  obtain ⟨a, b, d, r, o, z⟩ := h
  have e40 : vv τ' 40 = vv τ 40 := vv_eo hE (by decide)
  refine ⟨hM, b.trans (hE.mono (fun k hk => hk) (by decide)), d.trans (Fr.clr he hE e4 e5 e6 e7), ?_, ?_, fun w => ⟨fun f hf => ?_, ?_⟩⟩
  · rw [vv_eo hE (show 39 ∉ [43, 44, 45, 46] by decide)]; exact r
  · rw [e40, o]; exact (stp_z P).symm
  · rw [e40] at w
    refine (z w f hf).same (V := vC τ) (V' := vC τ') hm (fun j hj => ?_) ?_ ?_ ?_ ?_
    · show vv τ' 41 _ = vv τ 41 _ ∧ vv τ' 42 _ = vv τ 42 _
      rw [vv_eo hE (show 41 ∉ [43, 44, 45, 46] by decide), vv_eo hE (show 42 ∉ [43, 44, 45, 46] by decide)]; exact ⟨rfl, rfl⟩
    · show vv τ' 43 _ = vv τ 43 _
      rw [e4, fu_ne (by omega)]
    · show vv τ' 44 _ = vv τ 44 _
      rw [e5, fu_ne (by omega)]
    · show vv τ' 45 _ = vv τ 45 _
      rw [e6, fu_ne (by omega)]
    · show vv τ' 46 _ = vv τ 46 _
      rw [e7, fu_ne (by omega)]
  · refine ⟨fun j hj => by omega, ?_, ?_, ?_, ?_⟩
    · show vv τ' 43 _ = 0
      rw [e4, fu_eq]
    · show vv τ' 44 _ = 1000000000
      rw [e5, fu_eq]
    · show vv τ' 45 _ = 0
      rw [e6, fu_eq]
    · show vv τ' 46 _ = 1000000000
      rw [e7, fu_eq]
theorem ac_is {σ : VS} {c m : Nat} (hM : CI σ) (hc : c < nCl σ) (hm : vv σ 12 c = (m : Int)) (hg : gtC σ c) {i : Nat} (hi : i < m) : acN (dC σ) (vC σ) c i ↔ aC σ c i := by
  have m4 : 0 ≤ vv σ 12 c ∧ vv σ 12 c ≤ 4 := hM.2 12 c
  have d5 : dC σ 5 (4 * c + i) = max (vv σ 16 (4 * c + i)) (-1) := dC_5 (by omega)
  have dk : dC σ 0 c = vv σ 11 c := dC_0 hc
  have hg2 : 0 < vv σ 11 c ∧ vv σ 11 c < 4 := hg
  unfold acN aC
  rw [d5, dk]
  constructor
  · intro k
    rcases k with k | k
    · omega
    · have q : 0 ≤ vv σ 16 (4 * c + i) := by omega
      have e : max (vv σ 16 (4 * c + i)) (-1) = vv σ 16 (4 * c + i) := by omega
      rw [e] at k
      exact ⟨q, k.2⟩
  · intro k
    have e : max (vv σ 16 (4 * c + i)) (-1) = vv σ 16 (4 * c + i) := by have := k.1; omega
    rw [e]
    exact Or.inr ⟨k.1, k.2⟩
theorem op_is {σ : VS} {c m : Nat} (hM : CI σ) (hc : c < nCl σ) (hm : vv σ 12 c = (m : Int)) : opN (dC σ) (vC σ) c ↔ ∃ i, i < m ∧ oC σ c i := by
  have m4 : 0 ≤ vv σ 12 c ∧ vv σ 12 c ≤ 4 := hM.2 12 c
  have d5 : ∀ i, i < m → dC σ 5 (4 * c + i) = max (vv σ 16 (4 * c + i)) (-1) := fun i hi => dC_5 (by omega)
  have ipm : ipN (dC σ) c = m := by unfold ipN; rw [dC_1 hc, hm]; omega
  unfold opN oC
  rw [ipm]
  constructor
  · intro ⟨i, hi, q, k⟩
    rw [d5 i hi] at q k
    have e : max (vv σ 16 (4 * c + i)) (-1) = vv σ 16 (4 * c + i) := by omega
    rw [e] at q k
    exact ⟨i, hi, q, k⟩
  · intro ⟨i, hi, q, k⟩
    have e : max (vv σ 16 (4 * c + i)) (-1) = vv σ 16 (4 * c + i) := by omega
    refine ⟨i, hi, ?_, ?_⟩
    · rw [d5 i hi, e]; exact q
    · rw [d5 i hi, e]; exact k
theorem ls_is {σ : VS} {c m : Nat} (hM : CI σ) (hc : c < nCl σ) (hm : vv σ 12 c = (m : Int)) (hg : gtC σ c) {i : Nat} (hi : i < m) (a : aC σ c i) (k e : Nat) : lsN (dC σ) (vC σ) k c e i = vv σ (39 + k) (2 * (vv σ 16 (4 * c + i)).toNat + feN (dC σ) c e) ∧ alN (dC σ) (vC σ) k c e i = vv σ (39 + k) (2 * (vv σ 16 (4 * c + i)).toNat + feN (dC σ) c e) := by
  have m4 : 0 ≤ vv σ 12 c ∧ vv σ 12 c ≤ 4 := hM.2 12 c
  have d5 : dC σ 5 (4 * c + i) = max (vv σ 16 (4 * c + i)) (-1) := dC_5 (by omega)
  have dk : dC σ 0 c = vv σ 11 c := dC_0 hc
  have hg2 : 0 < vv σ 11 c ∧ vv σ 11 c < 4 := hg
  have q := a.1
  have e1 : max (vv σ 16 (4 * c + i)) (-1) = vv σ 16 (4 * c + i) := by omega
  unfold lsN alN
  rw [if_neg (show ¬ dC σ 0 c = 4 by omega), if_neg (show ¬ dC σ 0 c = 4 by omega), d5, e1]
  exact ⟨rfl, rfl⟩

