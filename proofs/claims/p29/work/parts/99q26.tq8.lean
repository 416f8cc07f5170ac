/-! THE RACE: AN END -/
/-- the paths of one START that come to an end, up to a place in the order of looking -/
def Gp (b : Nat → Nat) (s K i : Nat) (N : List Nat → Int) (e : Nat) (p : List Nat) : Prop := e * K + mkP b s p < i ∧ 0 < N p
noncomputable def cG (b : Nat → Nat) (s K i : Nat) (N : List Nat → Int) (L0 L1 : List (List Nat)) : Nat := cP (Gp b s K i N 0) L0 + cP (Gp b s K i N 1) L1
def MG (b : Nat → Nat) (s K i : Nat) (N : List Nat → Int) (La Ea : List Nat → Nat → Int) (L : Nat → List (List Nat)) (len rm hr : Int) (x y : Int) : Prop := ∃ e p, e < 2 ∧ p ∈ L e ∧ Gp b s K i N e p ∧ N p * len + rm - La p e = x ∧ Ea p e + hr = y
def DG (b : Nat → Nat) (s K i : Nat) (N : List Nat → Int) (La : List Nat → Nat → Int) (L : Nat → List (List Nat)) (rm : Int) (x : Int) : Prop := ∃ e p, e < 2 ∧ p ∈ L e ∧ Gp b s K i N e p ∧ ndP (N p) (rm - La p e) = x
section
variable {b : Nat → Nat} {s K : Nat} {N : List Nat → Int} {La Ea : List Nat → Nat → Int} {L : Nat → List (List Nat)} {len rm hr : Int}
/-- one place: edge f, mask m; nothing comes there -/
theorem cG_keep {f m : Nat} (hf : f < 2) (hm : m < K) (hbm : ∀ p, mkP b s p < K) (hn : ∀ p, p ∈ L f → mkP b s p = m → ¬ 0 < N p) : cG b s K (f * K + m + 1) N (L 0) (L 1) = cG b s K (f * K + m) N (L 0) (L 1) ∧ (∀ e p, e < 2 → p ∈ L e → (Gp b s K (f * K + m + 1) N e p ↔ Gp b s K (f * K + m) N e p)) := by
  have key : ∀ e p, e < 2 → p ∈ L e → (Gp b s K (f * K + m + 1) N e p ↔ Gp b s K (f * K + m) N e p) := fun e p he hp => by
    unfold Gp
    refine ⟨fun q => ⟨?_, q.2⟩, fun q => ⟨by omega, q.2⟩⟩
    by_cases z : e * K + mkP b s p = f * K + m
    · have w := ix_in (hbm p) hm z
      rw [w.1] at hp
      exact absurd q.2 (hn p hp w.2)
    · omega
  refine ⟨?_, key⟩
  unfold cG
  rw [cP_c (L 0) (fun p hp => key 0 p (by decide) hp), cP_c (L 1) (fun p hp => key 1 p (by decide) hp)]
theorem MG_same {i j : Nat} (h : ∀ e p, e < 2 → p ∈ L e → (Gp b s K i N e p ↔ Gp b s K j N e p)) (x y : Int) : MG b s K i N La Ea L len rm hr x y ↔ MG b s K j N La Ea L len rm hr x y := ⟨fun ⟨e, p, he, hp, q, r⟩ => ⟨e, p, he, hp, (h e p he hp).mp q, r⟩, fun ⟨e, p, he, hp, q, r⟩ => ⟨e, p, he, hp, (h e p he hp).mpr q, r⟩⟩
theorem DG_same {i j : Nat} (h : ∀ e p, e < 2 → p ∈ L e → (Gp b s K i N e p ↔ Gp b s K j N e p)) (x : Int) : DG b s K i N La L rm x ↔ DG b s K j N La L rm x := ⟨fun ⟨e, p, he, hp, q, r⟩ => ⟨e, p, he, hp, (h e p he hp).mp q, r⟩, fun ⟨e, p, he, hp, q, r⟩ => ⟨e, p, he, hp, (h e p he hp).mpr q, r⟩⟩
/-- .. or a group comes, all with n periods -/
theorem cG_add {f m : Nat} {n : Int} (hf : f < 2) (hm : m < K) (hbm : ∀ p, mkP b s p < K) (hn : ∀ p, p ∈ L f → mkP b s p = m → N p = n) (pn : 0 < n) : cG b s K (f * K + m + 1) N (L 0) (L 1) = cG b s K (f * K + m) N (L 0) (L 1) + cP (fun p => mkP b s p = m) (L f) ∧ (∀ e p, e < 2 → p ∈ L e → (Gp b s K (f * K + m + 1) N e p ↔ (Gp b s K (f * K + m) N e p ∨ (e = f ∧ mkP b s p = m)))) := by
  have key : ∀ e p, e < 2 → p ∈ L e → (Gp b s K (f * K + m + 1) N e p ↔ (Gp b s K (f * K + m) N e p ∨ (e = f ∧ mkP b s p = m))) := fun e p he hp => by
    unfold Gp
    refine ⟨fun q => ?_, fun q => ?_⟩
    · by_cases z : e * K + mkP b s p = f * K + m
      · exact Or.inr (ix_in (hbm p) hm z)
      · exact Or.inl ⟨by omega, q.2⟩
    · rcases q with q | ⟨q1, q2⟩
      · exact ⟨by omega, q.2⟩
      · rw [q1] at hp ⊢
        rw [q2, hn p hp q2]
        exact ⟨by omega, pn⟩
  refine ⟨?_, key⟩
  have at_f : cP (Gp b s K (f * K + m + 1) N f) (L f) = cP (Gp b s K (f * K + m) N f) (L f) + cP (fun p => mkP b s p = m) (L f) := by
    rw [← cP_or (L f) (fun p _ q => by have q1 := q.1.1; have q2 := q.2; omega)]
    exact cP_c (L f) (fun p hp => by
      rw [key f p hf hp]
      exact ⟨fun q => q.imp (fun w => w) (fun w => w.2), fun q => q.imp (fun w => w) (fun w => ⟨rfl, w⟩)⟩)
  have off : ∀ e, e < 2 → e ≠ f → cP (Gp b s K (f * K + m + 1) N e) (L e) = cP (Gp b s K (f * K + m) N e) (L e) := fun e he ne => cP_c (L e) (fun p hp => by
    rw [key e p he hp]
    exact ⟨fun q => q.elim (fun w => w) (fun w => absurd w.1 ne), fun q => Or.inl q⟩)
  unfold cG
  rcases (show f = 0 ∨ f = 1 by omega) with z | z
  · rw [z] at at_f off ⊢
    rw [at_f, off 1 (by decide) (by decide)]
    omega
  · rw [z] at at_f off ⊢
    rw [at_f, off 0 (by decide) (by decide)]
    omega
end
theorem cx_fin1 {X38 : Int32 → Int32 → Int32 → Int32 → Int32 → Int32 → VS → Prop} {Q : VS → Prop} {l1 l2 l3 l4 l5 l6 r7 x6 : Int32} {τ : VS} {t x : Nat} (h2 : l2.toInt = (t : Int)) (ht : t < 50) (h6 : x6.toInt = (x : Int)) (hx : x < 1600) (hM : CI τ) (hr : 1 ≤ r7.toInt ∧ r7.toInt ≤ 4) (b4 : -10000000 ≤ l4.toInt ∧ l4.toInt ≤ 10000000) (b5 : -10000000 ≤ l5.toInt ∧ l5.toInt ≤ 10000000) (w47 : 0 ≤ vv τ 47 x ∧ vv τ 47 x ≤ 1000) (w48 : 0 ≤ vv τ 48 x ∧ vv τ 48 x ≤ 3000000) (w49 : 0 ≤ vv τ 49 x ∧ vv τ 49 x ≤ 3000000) (w50 : 0 ≤ vv τ 50 t ∧ vv τ 50 t ≤ 1000)
    (K : ∀ τ' : VS, CI τ' → Eo [10] [50, 51, 52] τ τ' → vv τ' 50 = fu (vv τ 50) t (min 1000 (vv τ 50 t + vv τ 47 x)) → vv τ' 51 = fu (vv τ 51) t (min (vv τ 51 t) (r7.toInt * (τ.1 4).toInt + l4.toInt - vv τ 48 x)) → vv τ' 52 = fu (vv τ 52) t (min (vv τ 52 t) (vv τ 49 x + l5.toInt)) → (τ'.1 10).toInt = max (τ.1 10).toInt (ndP r7.toInt (l4.toInt - vv τ 48 x)) → X38 l1 l2 l3 l4 l5 (l6 + 1) τ') (x9 : Int32) (e9 : x9 = l4 - rd τ 48 x6) : ∀ S : VS, S = (sa (sa (sa τ 50 l2 (imin 1000 ((rd τ 50 l2) + (rd τ 47 x6)))) 51 l2 (imin (rd (sa τ 50 l2 (imin 1000 ((rd τ 50 l2) + (rd τ 47 x6)))) 51 l2) ((r7 * ((sa τ 50 l2 (imin 1000 ((rd τ 50 l2) + (rd τ 47 x6)))).1 4)) + x9))) 52 l2 (imin (rd (sa (sa τ 50 l2 (imin 1000 ((rd τ 50 l2) + (rd τ 47 x6)))) 51 l2 (imin (rd (sa τ 50 l2 (imin 1000 ((rd τ 50 l2) + (rd τ 47 x6)))) 51 l2) ((r7 * ((sa τ 50 l2 (imin 1000 ((rd τ 50 l2) + (rd τ 47 x6)))).1 4)) + x9))) 52 l2) ((rd (sa (sa τ 50 l2 (imin 1000 ((rd τ 50 l2) + (rd τ 47 x6)))) 51 l2 (imin (rd (sa τ 50 l2 (imin 1000 ((rd τ 50 l2) + (rd τ 47 x6)))) 51 l2) ((r7 * ((sa τ 50 l2 (imin 1000 ((rd τ 50 l2) + (rd τ 47 x6)))).1 4)) + x9))) 49 x6) + l5))) → (0 ≤ x9.toInt → b_X2finish_213 X38 Q l1 l2 l3 l4 l5 l6 1 (S.1 10) S) ∧ (x9.toInt < 0 → (¬ r7 = 0 ∧ b_X2finish_213 X38 Q l1 l2 l3 l4 l5 l6 (((r7 - 1) - x9) / r7) (S.1 10) S)) := by
  intro S hS
  have r47 : (rd τ 47 x6).toInt = vv τ 47 x := vv_rd h6
  have r48 : (rd τ 48 x6).toInt = vv τ 48 x := vv_rd h6
  have r50 : (rd τ 50 l2).toInt = vv τ 50 t := vv_rd h2
  have i1000 : (1000 : Int32).toInt = 1000 := rfl
  have t9 : x9.toInt = l4.toInt - vv τ 48 x := i3_subc rfl r48 e9 (by omega)
  obtain ⟨A, hA⟩ : ∃ A : Int32, A = imin 1000 ((rd τ 50 l2) + (rd τ 47 x6)) := ⟨_, rfl⟩
  have yA : A.toInt = min 1000 (vv τ 50 t + vv τ 47 x) := by rw [hA, imin_x, i1000, i3_addc (x := (rd τ 50 l2) + (rd τ 47 x6)) r50 r47 rfl (by omega)]
  rw [← hA] at hS
  have ln : 1 ≤ (τ.1 4).toInt ∧ (τ.1 4).toInt ≤ 1000000 := hM.1 4
  have m1 := mu_bd (a := r7.toInt) (b := (τ.1 4).toInt) (A := 4) (B := 1000000) ⟨by omega, hr.2⟩ ⟨by omega, ln.2⟩
  have v1 : (r7 * (sa τ 50 l2 A).1 4).toInt = r7.toInt * (τ.1 4).toInt := i3_mulc rfl (show ((sa τ 50 l2 A).1 4).toInt = (τ.1 4).toInt from rfl) rfl (by omega)
  have v2 : (r7 * (sa τ 50 l2 A).1 4 + x9).toInt = r7.toInt * (τ.1 4).toInt + x9.toInt := i3_addc v1 rfl rfl (by omega)
  obtain ⟨Bv, hB⟩ : ∃ Bv : Int32, Bv = imin (rd (sa τ 50 l2 A) 51 l2) (r7 * (sa τ 50 l2 A).1 4 + x9) := ⟨_, rfl⟩
  have yB : Bv.toInt = min (vv τ 51 t) (r7.toInt * (τ.1 4).toInt + l4.toInt - vv τ 48 x) := by
    rw [hB, imin_x, vv_rd h2, vv_so (show 51 ≠ 50 by decide), v2, t9]
    congr 1
    omega
  rw [← hB] at hS
  have v3 : (rd (sa (sa τ 50 l2 A) 51 l2 Bv) 49 x6).toInt = vv τ 49 x := by rw [vv_rd h6, vv_so (show 49 ≠ 51 by decide), vv_so (show 49 ≠ 50 by decide)]
  have v4 : (rd (sa (sa τ 50 l2 A) 51 l2 Bv) 49 x6 + l5).toInt = vv τ 49 x + l5.toInt := i3_addc v3 rfl rfl (by omega)
  obtain ⟨C, hC⟩ : ∃ C : Int32, C = imin (rd (sa (sa τ 50 l2 A) 51 l2 Bv) 52 l2) (rd (sa (sa τ 50 l2 A) 51 l2 Bv) 49 x6 + l5) := ⟨_, rfl⟩
  have yC : C.toInt = min (vv τ 52 t) (vv τ 49 x + l5.toInt) := by rw [hC, imin_x, vv_rd h2, vv_so (show 52 ≠ 51 by decide), vv_so (show 52 ≠ 50 by decide), v4]
  rw [← hC] at hS
  have MS : CI S := by rw [hS]; exact ((hM.sa 50 l2 A (i3_bd _)).sa 51 l2 Bv (i3_bd _)).sa 52 l2 C (i3_bd _)
  have ES : Eo [10] [50, 51, 52] τ S := by rw [hS]; exact ((Eo.rfl.sa 50 l2 A (by decide)).sa 51 l2 Bv (by decide)).sa 52 l2 C (by decide)
  have s50 : vv S 50 = fu (vv τ 50) t (min 1000 (vv τ 50 t + vv τ 47 x)) := by rw [hS, vv_so (show 50 ≠ 52 by decide), vv_so (show 50 ≠ 51 by decide), vv_sa τ 50 l2 A h2, yA]
  have s51 : vv S 51 = fu (vv τ 51) t (min (vv τ 51 t) (r7.toInt * (τ.1 4).toInt + l4.toInt - vv τ 48 x)) := by rw [hS, vv_so (show 51 ≠ 52 by decide), vv_sa _ 51 l2 Bv h2, vv_so (show 51 ≠ 50 by decide), yB]
  have s52 : vv S 52 = fu (vv τ 52) t (min (vv τ 52 t) (vv τ 49 x + l5.toInt)) := by rw [hS, vv_sa _ 52 l2 C h2, vv_so (show 52 ≠ 51 by decide), vv_so (show 52 ≠ 50 by decide), yC]
  have s10 : S.1 10 = τ.1 10 := by rw [hS]; rfl
  have fin : ∀ k0 : Int32, k0.toInt = ndP r7.toInt (l4.toInt - vv τ 48 x) → b_X2finish_213 X38 Q l1 l2 l3 l4 l5 l6 k0 (S.1 10) S := fun k0 hk => by
    unfold b_X2finish_213 b_X2finish_219
    refine K _ (MS.sf 10 _ (i3_bd _)) (ES.sf 10 _ (by decide)) s50 s51 s52 ?_
    rw [sf_same, imax_x, s10, hk]
  refine ⟨fun z => fin 1 ?_, fun z => ⟨i3_nz (by omega), fin _ ?_⟩⟩
  · unfold ndP
    rw [if_neg (by omega)]; rfl
  · unfold ndP
    rw [if_pos (by omega)]
    have q1 : (r7 - 1).toInt = r7.toInt - 1 := i3_subc rfl (show (1 : Int32).toInt = 1 from rfl) rfl (by omega)
    have q2 : (r7 - 1 - x9).toInt = r7.toInt - 1 - (l4.toInt - vv τ 48 x) := i3_subc q1 t9 rfl (by omega)
    exact i3_divc q2 rfl rfl (by omega) (by omega)
