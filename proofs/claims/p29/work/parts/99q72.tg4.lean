/-! PATHS OF THE REFERENCE -/
theorem pt_w {P : VS → Prop} {z : VS} {l8 x20 i54 k0 a : Int32} {j : Nat} (e8 : l8.toInt = (j : Int)) (M : MI z) (b1 : 0 ≤ x20.toInt ∧ x20.toInt ≤ 49) (b2 : -1 ≤ i54.toInt ∧ i54.toInt ≤ 3) (b3 : 0 ≤ k0.toInt ∧ k0.toInt ≤ 1) (hq : ∀ z' : VS, MI z' → Eo [62] [63, 64, 65, 66] z z' → z'.1 62 = z.1 62 → (∀ k q, k < 4 → q ≠ j → vv z' (63 + k) q = vv z (63 + k) q) → (vv z' 63 j = x20.toInt ∧ vv z' 64 j = i54.toInt ∧ vv z' 65 j = k0.toInt ∧ vv z' 66 j = a.toInt) → P z') : P (sa (sa (sa (sa z 63 l8 x20) 64 l8 i54) 65 l8 k0) 66 l8 a) := by
  have v63 : vv (sa (sa (sa (sa z 63 l8 x20) 64 l8 i54) 65 l8 k0) 66 l8 a) 63 = fu (vv z 63) j x20.toInt := by rw [vv_so (by decide), vv_so (by decide), vv_so (by decide), vv_sa z 63 l8 x20 e8]
  have v64 : vv (sa (sa (sa (sa z 63 l8 x20) 64 l8 i54) 65 l8 k0) 66 l8 a) 64 = fu (vv z 64) j i54.toInt := by rw [vv_so (by decide), vv_so (by decide), vv_sa _ 64 l8 i54 e8, vv_so (by decide)]
  have v65 : vv (sa (sa (sa (sa z 63 l8 x20) 64 l8 i54) 65 l8 k0) 66 l8 a) 65 = fu (vv z 65) j k0.toInt := by rw [vv_so (by decide), vv_sa _ 65 l8 k0 e8, vv_so (by decide), vv_so (by decide)]
  have v66 : vv (sa (sa (sa (sa z 63 l8 x20) 64 l8 i54) 65 l8 k0) 66 l8 a) 66 = fu (vv z 66) j a.toInt := by rw [vv_sa _ 66 l8 a e8, vv_so (by decide), vv_so (by decide), vv_so (by decide)]
  refine hq _ ((((M.sa 63 l8 x20 b1).sa 64 l8 i54 b2).sa 65 l8 k0 b3).sa 66 l8 a (i3_bd a)) ((((Eo.rfl.sa 63 l8 x20 (by decide)).sa 64 l8 i54 (by decide)).sa 65 l8 k0 (by decide)).sa 66 l8 a (by decide)) rfl (fun k q hk hne => ?_) ⟨by rw [v63, fu_eq], by rw [v64, fu_eq], by rw [v65, fu_eq], by rw [v66, fu_eq]⟩
  rcases (show k = 0 ∨ k = 1 ∨ k = 2 ∨ k = 3 by omega) with e | e | e | e
  · rw [e]
    show vv _ 63 q = vv z 63 q
    rw [v63, fu_ne hne]
  · rw [e]
    show vv _ 64 q = vv z 64 q
    rw [v64, fu_ne hne]
  · rw [e]
    show vv _ 65 q = vv z 65 q
    rw [v65, fu_ne hne]
  · rw [e]
    show vv _ 66 q = vv z 66 q
    rw [v66, fu_ne hne]
set_option maxHeartbeats 2000000 in
theorem pt_run {X114 : Int32 → Int32 → Int32 → Int32 → Int32 → Int32 → Int32 → VS → Prop} {Q : Int32 → VS → Prop} {y : VS} {l1 l3 l4 : Int32} {i t : Nat} {ρ : Nat → Nat} {nm : Nat → Int} {b : Nat → Nat} {F : Nat → Nat → List (List Nat)} (H : ∀ (l1 l3 l4 l5 l6 l7 l8 : Int32) (σ : VS), b_path_114 X114 Q l1 l3 l4 l5 l6 l7 l8 σ → X114 l1 l3 l4 l5 l6 l7 l8 σ) (My : MI y) (hW : Wo (dM y) (nC y) ρ) (hL : ∀ c, c < nC y → LE2 (dM y) (vM y) (vM y) c) (hF : ∀ c m, c < nC y → F c m = FPs (dM y) nm b t (nC y) F c m) (h1 : dM y 1 t = 1) (ht : t < nC y) (ho : vM y 1 (fD (dM y) t) = 0) (e3 : l3.toInt = (i : Int)) (hi : i < 1000) : ∀ c, c < nC y → ∀ m p, p ∈ F c m → vM y 0 c ≠ 0 → ∀ (j f : Nat) (l5 l6 l7 l8 : Int32) (z : VS), l8.toInt = (j : Int) → 1 ≤ j → (z.1 62).toInt = ((j + p.length : Nat) : Int) → j + p.length ≤ 52 → l5.toInt = (f : Int) → f < 2 → (0 ≤ l6.toInt ∧ l6.toInt ≤ 2400000 + 6000 * (j : Int)) → (0 ≤ l7.toInt ∧ l7.toInt ≤ 2400000 + 6000 * (j : Int)) → MI z → Eo [62] [63, 64, 65, 66] y z → (∀ k w, p[k]? = some w → vv y 53 (52 * i + j + k) = ((w / 4 : Nat) : Int) ∧ vv y 54 (52 * i + j + k) = ((w % 4 : Nat) : Int)) → (∀ (l5' l6' l7' l8' : Int32) (z' : VS), l8'.toInt = ((j + p.length : Nat) : Int) → MI z' → Eo [62] [63, 64, 65, 66] y z' → z'.1 62 = z.1 62 → (∀ k q, k < 4 → q < j → vv z' (63 + k) q = vv z (63 + k) q) → Ste (fun k q => vv z' (63 + k) q) j (runP (dM y) (vM y) f l6.toInt p) → l7'.toInt = endL (dM y) (vM y) 3 f l7.toInt p → (0 ≤ l7'.toInt ∧ l7'.toInt ≤ 2800000) → X114 l1 l3 l4 l5' l6' l7' l8' z') → X114 l1 l3 l4 l5 l6 l7 l8 z := by
  have a1 : 0 ≤ (y.1 1).toInt ∧ (y.1 1).toInt ≤ 50 := My.1 1
  have n50 : nC y ≤ 50 := by unfold nC; omega
  have u1 : (52 * l3).toInt = 52 * (i : Int) := i3_mulc rfl e3 rfl (by have w : (52 : Int32).toInt = 52 := rfl; omega)
  refine FP_ind hW hF (P := fun c _ p => vM y 0 c ≠ 0 → ∀ (j f : Nat) (l5 l6 l7 l8 : Int32) (z : VS), l8.toInt = (j : Int) → 1 ≤ j → (z.1 62).toInt = ((j + p.length : Nat) : Int) → j + p.length ≤ 52 → l5.toInt = (f : Int) → f < 2 → (0 ≤ l6.toInt ∧ l6.toInt ≤ 2400000 + 6000 * (j : Int)) → (0 ≤ l7.toInt ∧ l7.toInt ≤ 2400000 + 6000 * (j : Int)) → MI z → Eo [62] [63, 64, 65, 66] y z → (∀ k w, p[k]? = some w → vv y 53 (52 * i + j + k) = ((w / 4 : Nat) : Int) ∧ vv y 54 (52 * i + j + k) = ((w % 4 : Nat) : Int)) → (∀ (l5' l6' l7' l8' : Int32) (z' : VS), l8'.toInt = ((j + p.length : Nat) : Int) → MI z' → Eo [62] [63, 64, 65, 66] y z' → z'.1 62 = z.1 62 → (∀ k q, k < 4 → q < j → vv z' (63 + k) q = vv z (63 + k) q) → Ste (fun k q => vv z' (63 + k) q) j (runP (dM y) (vM y) f l6.toInt p) → l7'.toInt = endL (dM y) (vM y) 3 f l7.toInt p → (0 ≤ l7'.toInt ∧ l7'.toInt ≤ 2800000) → X114 l1 l3 l4 l5' l6' l7' l8' z') → X114 l1 l3 l4 l5 l6 l7 l8 z) (fun c m w hw e5 hc a zz r j f l5 l6 l7 l8 z e8 j1 h62 j52 ef hf b6 b7 Mz Ez hp K => ?_) (fun c m w q hw e5 hc a g hn hq ih r j f l5 l6 l7 l8 z e8 j1 h62 j52 ef hf b6 b7 Mz Ez hp K => ?_)
  · have q62 : (z.1 62).toInt = ((j + 1 : Nat) : Int) := h62
    have q52 : j + 1 ≤ 52 := j52
    have u2 : ((52 * l3) + l8).toInt = ((52 * i + j : Nat) : Int) := by
      have w := i3_addc (x := (52 * l3) + l8) u1 e8 rfl (by omega)
      omega
    have hp0 := hp 0 w rfl
    rw [Nat.add_zero] at hp0
    refine H _ _ _ _ _ _ _ _ ?_
    unfold b_path_114 b_path_201 b_path_259
    refine ⟨fun q => by omega, fun _ => ⟨⟨by omega, by omega⟩, fun x20 e20 => ?_⟩⟩
    have t20 : x20.toInt = ((w / 4 : Nat) : Int) := by rw [e20, vv_rd u2, vv_eo Ez (by decide)]; exact hp0.1
    obtain ⟨i54, e54⟩ : ∃ i54 : Int32, i54 = rd (sa z 63 l8 x20) 54 ((52 * l3) + l8) := ⟨_, rfl⟩
    rw [← e54]
    have t54 : i54.toInt = ((w % 4 : Nat) : Int) := by rw [e54, vv_rd u2, vv_so (by decide), vv_eo Ez (by decide)]; exact hp0.2
    have t62 : (((sa (sa z 63 l8 x20) 64 l8 i54).1 62) - 1).toInt = (z.1 62).toInt - 1 := i3_subc rfl (show (1 : Int32).toInt = 1 from rfl) rfl (by omega)
    refine ⟨⟨by omega, by omega⟩, ⟨by omega, by omega⟩, ⟨by omega, by omega⟩, fun q => by omega, fun _ => ⟨fun _ => ⟨⟨by omega, by omega⟩, ⟨by omega, by omega⟩, ?_⟩, fun q => by omega⟩⟩
    have t8 : (l8 + 1).toInt = ((j + 1 : Nat) : Int) := by
      have w := i3_addc (x := l8 + 1) e8 (show (1 : Int32).toInt = 1 from rfl) rfl (by omega)
      omega
    refine pt_w (P := fun u => X114 l1 l3 l4 l5 l6 l7 (l8 + 1) u) e8 Mz ⟨by omega, by omega⟩ ⟨by omega, by omega⟩ ⟨by omega, by omega⟩ (fun z' M' E' s62 hne he => ?_)
    exact K l5 l6 l7 (l8 + 1) z' t8 M' (Ez.trans E') s62 (fun k q hk hq => hne k q hk (by omega)) ⟨⟨by rw [← t20]; exact he.1, by rw [← t54]; exact he.2.1, by rw [← ef]; exact he.2.2.1, he.2.2.2⟩, True.intro⟩ rfl ⟨by omega, by omega⟩
  · cases q with
    | nil => exact absurd rfl (FP_ne hF hn hq)
    | cons v q2 =>
      have q62 : (z.1 62).toInt = ((j + (q2.length + 1 + 1) : Nat) : Int) := h62
      have q52 : j + (q2.length + 1 + 1) ≤ 52 := j52
      have u2 : ((52 * l3) + l8).toInt = ((52 * i + j : Nat) : Int) := by
        have w := i3_addc (x := (52 * l3) + l8) u1 e8 rfl (by omega)
        omega
      have hp0 := hp 0 w rfl
      rw [Nat.add_zero] at hp0
      have r2 := rc_up hW hL hw e5 g r
      have o : vM y 1 (w / 4) = 0 := FP_opn hW hL hF h1 ho (w / 4) hn _ _ hq
      have ip := (hW.2.2.2.2 w hw (by omega)).2
      have e4 : 4 * (w / 4) + w % 4 = w := by omega
      have ec : (dM y 5 w).toNat = c := by omega
      have g1 := g.1
      have g2 := g.2
      have f2 := feN_lt (dM y) (w / 4) hf
      have ac : acN (dM y) (vM y) (w / 4) (w % 4) := Or.inr ⟨by rw [e4]; omega, by rw [e4, ec]; exact r⟩
      have dl := dlm_b My hL hn ⟨by omega, by omega⟩ r2 o ip f2 ac
      rw [show 8 * (w / 4) + 2 * (w % 4) + feN (dM y) (w / 4) f = 2 * w + feN (dM y) (w / 4) f by omega] at dl
      refine H _ _ _ _ _ _ _ _ ?_
      unfold b_path_114
      refine ⟨fun q => by omega, fun _ => ⟨⟨by omega, by omega⟩, fun x20 e20 => ?_⟩⟩
      have t20 : x20.toInt = ((w / 4 : Nat) : Int) := by rw [e20, vv_rd u2, vv_eo Ez (by decide)]; exact hp0.1
      obtain ⟨i54, e54⟩ : ∃ i54 : Int32, i54 = rd (sa z 63 l8 x20) 54 ((52 * l3) + l8) := ⟨_, rfl⟩
      rw [← e54]
      have t54 : i54.toInt = ((w % 4 : Nat) : Int) := by rw [e54, vv_rd u2, vv_so (by decide), vv_eo Ez (by decide)]; exact hp0.2
      have t62 : (((sa (sa z 63 l8 x20) 64 l8 i54).1 62) - 1).toInt = (z.1 62).toInt - 1 := i3_subc rfl (show (1 : Int32).toInt = 1 from rfl) rfl (by omega)
      have r64 : rd (sa (sa z 63 l8 x20) 64 l8 i54) 64 l8 = i54 := by rw [rd_sa]
      have k2 : (rd (sa (sa z 63 l8 x20) 64 l8 i54) 2 x20).toInt = dM y 0 (w / 4) := by rw [vv_rd t20, vv_so (by decide), vv_so (by decide), vv_eo Ez (by decide), dM_0 hn]
      have t8 : (l8 + 1).toInt = ((j + 1 : Nat) : Int) := by
        have w := i3_addc (x := l8 + 1) e8 (show (1 : Int32).toInt = 1 from rfl) rfl (by omega)
        omega
      have go : ∀ k0 : Int32, k0.toInt = ((feN (dM y) (w / 4) f : Nat) : Int) → b_path_201 X114 Q l1 l3 l4 l6 l7 l8 x20 k0 (sa (sa z 63 l8 x20) 64 l8 i54) := fun k0 ek => by
        unfold b_path_201 b_path_259
        rw [r64]
        have w1 : (8 * x20).toInt = 8 * ((w / 4 : Nat) : Int) := i3_mulc rfl t20 rfl (by have w : (8 : Int32).toInt = 8 := rfl; omega)
        have w2 : (2 * i54).toInt = 2 * ((w % 4 : Nat) : Int) := i3_mulc rfl t54 rfl (by have w : (2 : Int32).toInt = 2 := rfl; omega)
        have w3 : ((8 * x20) + (2 * i54)).toInt = 8 * ((w / 4 : Nat) : Int) + 2 * ((w % 4 : Nat) : Int) := i3_addc w1 w2 rfl (by omega)
        have w4 : (((8 * x20) + (2 * i54)) + k0).toInt = ((2 * w + feN (dM y) (w / 4) f : Nat) : Int) := by
          have w5 := i3_addc (x := ((8 * x20) + (2 * i54)) + k0) w3 ek rfl (by omega)
          omega
        have w400 : 2 * w + feN (dM y) (w / 4) f < 400 := by omega
        have r36 : (rd (sa (sa z 63 l8 x20) 64 l8 i54) 36 (((8 * x20) + (2 * i54)) + k0)).toInt = vM y 2 (2 * w + feN (dM y) (w / 4) f) := by rw [vv_rd w4, vv_so (by decide), vv_so (by decide), vv_eo Ez (by decide)]; rfl
        have r37 : (rd (sa (sa z 63 l8 x20) 64 l8 i54) 37 (((8 * x20) + (2 * i54)) + k0)).toInt = vM y 3 (2 * w + feN (dM y) (w / 4) f) := by rw [vv_rd w4, vv_so (by decide), vv_so (by decide), vv_eo Ez (by decide)]; rfl
        refine ⟨⟨by omega, by omega⟩, ⟨by omega, by omega⟩, fun x21 e21 => ⟨⟨by omega, by omega⟩, ⟨by omega, by omega⟩, fun x22 e22 => ⟨⟨by omega, by omega⟩, ⟨by omega, by omega⟩, ?_⟩⟩⟩
        have t21 : x21.toInt = l6.toInt + vM y 2 (2 * w + feN (dM y) (w / 4) f) := i3_addc rfl r36 e21 (by omega)
        have t22 : x22.toInt = l7.toInt + vM y 3 (2 * w + feN (dM y) (w / 4) f) := i3_addc rfl r37 e22 (by omega)
        refine pt_w (P := fun u => X114 l1 l3 l4 k0 x21 x22 (l8 + 1) u) e8 Mz ⟨by omega, by omega⟩ ⟨by omega, by omega⟩ ⟨by omega, by omega⟩ (fun z' M' E' s62 hne he => ?_)
        refine ih r2 (j + 1) (feN (dM y) (w / 4) f) k0 x21 x22 (l8 + 1) z' t8 (by omega) ?_ ?_ ek f2 ⟨by omega, by omega⟩ ⟨by omega, by omega⟩ M' (Ez.trans E') (fun k w' hk => ?_) (fun l5' l6' l7' l8' z'' t8'' M'' E'' s62'' keep ste e7 b7' => ?_)
        · rw [s62, q62]
          show ((j + (q2.length + 1 + 1) : Nat) : Int) = ((j + 1 + (q2.length + 1) : Nat) : Int)
          omega
        · show j + 1 + (q2.length + 1) ≤ 52
          omega
        · have q := hp (k + 1) w' hk
          rw [show 52 * i + j + (k + 1) = 52 * i + (j + 1) + k by omega] at q
          exact q
        · rw [t21] at ste
          rw [t22] at e7
          refine K l5' l6' l7' l8' z'' ?_ M'' E'' (s62''.trans s62) (fun k q hk hq => (keep k q hk (by omega)).trans (hne k q hk (by omega))) ⟨⟨?_, ?_, ?_, ?_⟩, ste⟩ e7 b7'
          · rw [t8'']
            show ((j + 1 + (q2.length + 1) : Nat) : Int) = ((j + (q2.length + 1 + 1) : Nat) : Int)
            omega
          · show vv z'' (63 + 0) j = ((w / 4 : Nat) : Int)
            rw [keep 0 j (by omega) (by omega), ← t20]; exact he.1
          · show vv z'' (63 + 1) j = ((w % 4 : Nat) : Int)
            rw [keep 1 j (by omega) (by omega), ← t54]; exact he.2.1
          · show vv z'' (63 + 2) j = ((feN (dM y) (w / 4) f : Nat) : Int)
            rw [keep 2 j (by omega) (by omega), ← ek]; exact he.2.2.1
          · show vv z'' (63 + 3) j = l6.toInt + vM y 2 (2 * w + feN (dM y) (w / 4) f)
            rw [keep 3 j (by omega) (by omega), ← t21]; exact he.2.2.2
      refine ⟨⟨by omega, by omega⟩, ⟨by omega, by omega⟩, ⟨by omega, by omega⟩, fun q => by omega, fun _ => ⟨fun q => by omega, fun _ => ⟨⟨by omega, by omega⟩, fun kn => go l5 ?_, fun kn => go (1 - l5) ?_⟩⟩⟩
      · rw [k2] at kn
        unfold feN
        rw [if_neg kn]; exact ef
      · rw [k2] at kn
        unfold feN
        rw [if_pos kn]
        have w := i3_subc (x := 1 - l5) (show (1 : Int32).toInt = 1 from rfl) ef rfl (by omega)
        omega
/-- a path that lies in the fields f and the lists A -/
def LyX (A : Nat → Nat → Int) (f0 f1 f2 : Int) (D V U : Nat → Nat → Int) (R : Nat) (len : Int) (sh : Nat → Nat → Int) (t : Nat) (y : Nat × Nat × List Nat) : Prop := f0 = ((1 + y.2.2.length : Nat) : Int) ∧ Ste A 0 ((y.1, -1, y.2.1, saD D V (2 * y.1 + y.2.1)) :: runP D V y.2.1 (saD D V (2 * y.1 + y.2.1)) y.2.2) ∧ f1 = slD D V U R len sh t y ∧ f2 = endL D V 3 y.2.1 (seD D V (2 * y.1 + y.2.1)) y.2.2 + hrD D U sh y.1 t
theorem runP_n {D V : Nat → Nat → Int} : ∀ (p : List Nat) (e : Nat) (l : Int), (runP D V e l p).length = p.length
  | [], _, _ => rfl
  | [_], _, _ => rfl
  | w :: v :: p, e, l => by
    show (runP D V (feN D (w / 4) e) (l + V 2 (2 * w + feN D (w / 4) e)) (v :: p)).length + 1 = (v :: p).length + 1
    rw [runP_n (v :: p)]
theorem LyX.un {A A' : Nat → Nat → Int} {f0 f1 f2 g0 g1 g2 : Int} {D V V' U : Nat → Nat → Int} {n R : Nat} {len : Int} {sh : Nat → Nat → Int} {t : Nat} {y : Nat × Nat × List Nat} {ρ : Nat → Nat} {FF : Nat → Nat → Nat → List (List Nat)} (hW : Wo D n ρ) (hL : ∀ c, c < n → LE2 D V V c) (hL' : ∀ c, c < n → LE2 D V' V' c) (h1 : D 1 t = 1) (ho : V 1 (fD D t) = 0) (hF : OkF D U n R t FF) (hy : y ∈ APk D FF (bC (U 2) R) n) (h : LyX A f0 f1 f2 D V U R len sh t y) (h' : LyX A' g0 g1 g2 D V' U R len sh t y) : f0 = g0 ∧ f1 = g1 ∧ f2 = g2 ∧ ∀ k j : Nat, k < 4 → (j : Int) < f0 → A k j = A' k j := by
  obtain ⟨a, b, c, d⟩ := APk_mem n hy
  obtain ⟨x0, x1, x2, x3⟩ := h
  obtain ⟨z0, z1, z2, z3⟩ := h'
  have sl := slD_c (len := len) (sh := sh) hW hL hL' h1 ho hF hy
  have r := isD_r (hL _ a) sl.1
  have s := saD_c hW hL hL' a sl.1 c
  have q := endL_c hW hL hL' (hF y.1) h1 ho y.1 a _ _ d r y.2.1 (saD D V (2 * y.1 + y.2.1)) c
  have q3 := endL_c hW hL hL' (hF y.1) h1 ho y.1 a _ _ d r y.2.1 (seD D V (2 * y.1 + y.2.1)) c
  rw [← s.1, ← q.2.2] at z1
  refine ⟨by rw [x0, z0], by rw [x2, z2]; exact sl.2, by rw [x3, z3, q3.2.1, s.2], fun k j hk hj => ?_⟩
  have lj : j < ((y.1, (-1 : Int), y.2.1, saD D V (2 * y.1 + y.2.1)) :: runP D V y.2.1 (saD D V (2 * y.1 + y.2.1)) y.2.2).length := by
    show j < (runP D V y.2.1 (saD D V (2 * y.1 + y.2.1)) y.2.2).length + 1
    rw [runP_n]
    omega
  obtain ⟨w, hw⟩ := get_ex lj
  have p := Ste_at _ 0 x1 j w hw
  have p' := Ste_at _ 0 z1 j w hw
  rw [Nat.zero_add] at p p'
  rcases (show k = 0 ∨ k = 1 ∨ k = 2 ∨ k = 3 by omega) with e | e | e | e
  · rw [e, p.1, p'.1]
  · rw [e, p.2.1, p'.2.1]
  · rw [e, p.2.2.1, p'.2.2.1]
  · rw [e, p.2.2.2, p'.2.2.2]
theorem Ste_k {A A' : Nat → Nat → Int} (h : ∀ k j, k < 4 → A k j = A' k j) : ∀ (L : List (Nat × Int × Nat × Int)) (o : Nat), Ste A o L → Ste A' o L
  | [], _, _ => True.intro
  | x :: L, o, g => by
    obtain ⟨⟨a, b, c, d⟩, e⟩ := g
    exact ⟨⟨by rw [← h 0 o (by omega)]; exact a, by rw [← h 1 o (by omega)]; exact b, by rw [← h 2 o (by omega)]; exact c, by rw [← h 3 o (by omega)]; exact d⟩, Ste_k h L (o + 1) e⟩
