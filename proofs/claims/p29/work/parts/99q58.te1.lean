/-! ONE PATH FOR BOTH SIDES -/
theorem endL_c {D V V' : Nat → Nat → Int} {nm : Nat → Int} {b : Nat → Nat} {t n : Nat} {ρ : Nat → Nat} {F : Nat → Nat → List (List Nat)} (hW : Wo D n ρ) (hL : ∀ c, c < n → LE2 D V V c) (hL' : ∀ c, c < n → LE2 D V' V' c) (hF : ∀ c m, c < n → F c m = FPs D nm b t n F c m) (h1 : D 1 t = 1) (ho : V 1 (fD D t) = 0) : ∀ c, c < n → ∀ m p, p ∈ F c m → V 0 c ≠ 0 → ∀ (e : Nat) (l : Int), e < 2 → endL D V 2 e l p = endL D V' 2 e l p ∧ endL D V 3 e l p = endL D V' 3 e l p ∧ runP D V e l p = runP D V' e l p := by
  have U0 := un_le hW.1 hW.2.1 hL hL'
  refine FP_ind hW hF (P := fun c _ p => V 0 c ≠ 0 → ∀ (e : Nat) (l : Int), e < 2 → endL D V 2 e l p = endL D V' 2 e l p ∧ endL D V 3 e l p = endL D V' 3 e l p ∧ runP D V e l p = runP D V' e l p) (fun c m w hw e5 hc a z r e l he => ⟨rfl, rfl, rfl⟩) (fun c m w q hw e5 hc a g hn hq ih r e l he => ?_)
  have r2 := rc_up hW hL hw e5 g r
  have o : V 1 (w / 4) = 0 := FP_opn hW hL hF h1 ho (w / 4) hn _ q hq
  have ip := (hW.2.2.2.2 w hw (by omega)).2
  have e4 : 4 * (w / 4) + w % 4 = w := by omega
  have ec : (D 5 w).toNat = c := by omega
  have g1 := g.1
  have f2 := feN_lt D (w / 4) he
  have dd := (U0 (w / 4) hn).2 (by omega) r2 o (feN D (w / 4) e) (w % 4) f2 ip (Or.inr ⟨by rw [e4]; omega, by rw [e4, ec]; exact r⟩)
  rw [show 8 * (w / 4) + 2 * (w % 4) + feN D (w / 4) e = 2 * w + feN D (w / 4) e by omega] at dd
  cases q with
  | nil => exact absurd rfl (FP_ne hF hn hq)
  | cons v q2 =>
    have i2 := ih r2 (feN D (w / 4) e) (l + V 2 (2 * w + feN D (w / 4) e)) f2
    have i3 := ih r2 (feN D (w / 4) e) (l + V 3 (2 * w + feN D (w / 4) e)) f2
    refine ⟨?_, ?_, ?_⟩
    · show endL D V 2 (feN D (w / 4) e) (l + V 2 (2 * w + feN D (w / 4) e)) (v :: q2) = endL D V' 2 (feN D (w / 4) e) (l + V' 2 (2 * w + feN D (w / 4) e)) (v :: q2)
      rw [i2.1, dd.1]
    · show endL D V 3 (feN D (w / 4) e) (l + V 3 (2 * w + feN D (w / 4) e)) (v :: q2) = endL D V' 3 (feN D (w / 4) e) (l + V' 3 (2 * w + feN D (w / 4) e)) (v :: q2)
      rw [i3.2.1, dd.2]
    · show (w / 4, ((w % 4 : Nat) : Int), feN D (w / 4) e, l + V 2 (2 * w + feN D (w / 4) e)) :: runP D V (feN D (w / 4) e) (l + V 2 (2 * w + feN D (w / 4) e)) (v :: q2) = (w / 4, ((w % 4 : Nat) : Int), feN D (w / 4) e, l + V' 2 (2 * w + feN D (w / 4) e)) :: runP D V' (feN D (w / 4) e) (l + V' 2 (2 * w + feN D (w / 4) e)) (v :: q2)
      rw [i2.2.2, dd.1]
theorem APk_mem {D : Nat → Nat → Int} {FF : Nat → Nat → Nat → List (List Nat)} {b : Nat → Nat} {x : Nat × Nat × List Nat} : ∀ k : Nat, x ∈ APk D FF b k → x.1 < k ∧ (D 0 x.1 = 0 ∨ D 0 x.1 = 4) ∧ x.2.1 < 2 ∧ x.2.2 ∈ FF x.1 x.1 (b x.1)
  | 0, h => by cases h
  | k + 1, h => by
    by_cases s : D 0 k = 0 ∨ D 0 k = 4
    · rw [APk_y s] at h
      rcases List.mem_append.mp h with h | h
      · have q := APk_mem k h
        exact ⟨by omega, q.2⟩
      · rcases List.mem_append.mp h with h | h
        · obtain ⟨p, hp, e⟩ := List.mem_map.mp h
          rw [← e]
          exact ⟨Nat.lt_succ_self k, s, (by show 0 < 2; decide), hp⟩
        · obtain ⟨p, hp, e⟩ := List.mem_map.mp h
          rw [← e]
          exact ⟨Nat.lt_succ_self k, s, (by show 1 < 2; decide), hp⟩
    · rw [APk_n s] at h
      have q := APk_mem k h
      exact ⟨by omega, q.2⟩
theorem APk_c {D : Nat → Nat → Int} {FF FF' : Nat → Nat → Nat → List (List Nat)} {b b' : Nat → Nat} : ∀ k : Nat, (∀ s, s < k → FF s s (b s) = FF' s s (b' s)) → APk D FF b k = APk D FF' b' k
  | 0, _ => rfl
  | k + 1, h => by
    have ih := APk_c (D := D) k (fun s hs => h s (by omega))
    by_cases s : D 0 k = 0 ∨ D 0 k = 4
    · rw [APk_y s, APk_y s, ih, h k (by omega)]
    · rw [APk_n s, APk_n s, ih]
theorem kap_c {L : List (Nat × Nat × List Nat)} {sl sl' : Nat × Nat × List Nat → Int} (h : ∀ x, x ∈ L → sl x = sl' x) : kap L sl = kap L sl' := by
  funext j
  unfold kap
  cases e : L[j]? with
  | none => rfl
  | some x =>
    show sl x * 1024 + (j : Int) = sl' x * 1024 + (j : Int)
    rw [h x (List.mem_of_getElem? e)]
def slD (D V U : Nat → Nat → Int) (R : Nat) (len : Int) (sh : Nat → Nat → Int) (t : Nat) (x : Nat × Nat × List Nat) : Int := slkA D V (fun s => nmD U R s t) (bC (U 2) R) len (fun s => rmD D U sh s t) x
def OkF (D U : Nat → Nat → Int) (n R t : Nat) (FF : Nat → Nat → Nat → List (List Nat)) : Prop := ∀ s c m, c < n → FF s c m = FPs D (nmD U R s t) (bC (U 2) R) t n (FF s) c m
/-- x is the k-th path to t -/
def PA (D U : Nat → Nat → Int) (n R : Nat) (len : Int) (sh : Nat → Nat → Int) (t k : Nat) (x : Nat × Nat × List Nat) : Prop := ∃ (V : Nat → Nat → Int) (FF : Nat → Nat → Nat → List (List Nat)) (i : Nat), (∀ c, c < n → LE2 D V V c) ∧ V 1 (fD D t) = 0 ∧ OkF D U n R t FF ∧ (APk D FF (bC (U 2) R) n)[i]? = some x ∧ ((APk D FF (bC (U 2) R) n).length ≤ 1000 ∧ k < (APk D FF (bC (U 2) R) n).length) ∧ KR (kap (APk D FF (bC (U 2) R) n) (slD D V U R len sh t)) (APk D FF (bC (U 2) R) n).length k i
theorem slD_c {D V V' U : Nat → Nat → Int} {n R t : Nat} {len : Int} {sh : Nat → Nat → Int} {ρ : Nat → Nat} {FF : Nat → Nat → Nat → List (List Nat)} (hW : Wo D n ρ) (hL : ∀ c, c < n → LE2 D V V c) (hL' : ∀ c, c < n → LE2 D V' V' c) (h1 : D 1 t = 1) (ho : V 1 (fD D t) = 0) (hF : OkF D U n R t FF) {x : Nat × Nat × List Nat} (hx : x ∈ APk D FF (bC (U 2) R) n) : isD D V x.1 ∧ slD D V U R len sh t x = slD D V' U R len sh t x := by
  obtain ⟨a, b, c, d⟩ := APk_mem n hx
  have o := FP_opn hW hL (hF x.1) h1 ho x.1 a _ _ d
  have hS : isD D V x.1 := ⟨b, o⟩
  have r := isD_r (hL _ a) hS
  have s := saD_c hW hL hL' a hS c
  have q := endL_c hW hL hL' (hF x.1) h1 ho x.1 a _ _ d r x.2.1 (saD D V (2 * x.1 + x.2.1)) c
  refine ⟨hS, ?_⟩
  unfold slD slkA
  rw [q.1, s.1]
theorem PA.un {D U : Nat → Nat → Int} {n R : Nat} {len : Int} {sh : Nat → Nat → Int} {t k : Nat} {x x' : Nat × Nat × List Nat} {ρ : Nat → Nat} (hW : Wo D n ρ) (h1 : D 1 t = 1) (h : PA D U n R len sh t k x) (h' : PA D U n R len sh t k x') : x = x' := by
  obtain ⟨V, FF, i, hL, ho, hF, hx, hN, hK⟩ := h
  obtain ⟨V', FF', i', hL', ho', hF', hx', hN', hK'⟩ := h'
  have eA : APk D FF (bC (U 2) R) n = APk D FF' (bC (U 2) R) n := APk_c n (fun s hs => FP_un hW (hF s) (hF' s) s hs _)
  rw [← eA] at hx' hN' hK'
  have ek : kap (APk D FF (bC (U 2) R) n) (slD D V U R len sh t) = kap (APk D FF (bC (U 2) R) n) (slD D V' U R len sh t) := kap_c (fun x hx => (slD_c hW hL hL' h1 ho hF hx).2)
  rw [← ek] at hK'
  have e := KR.un (kap_ij hN.1) hN.2 hK hK'
  rw [e, hx'] at hx
  injection hx with hx
  exact hx.symm
/-- other masks, the same paths and slacks -/
def CoM (th : Nat → Int) (R m m' : Nat) : Prop := ∀ k, k < R → m.testBit k = (decide (th k = -1) || m'.testBit k)
theorem CoM.or {th : Nat → Int} {R m m' c : Nat} (h : CoM th R m m') : CoM th R (m ||| bC th R c) (m' ||| bR th R c) := fun k hk => by
  have b : (bC th R c).testBit k = (decide (th k = -1) || (bR th R c).testBit k) := by
    unfold bC bR
    rw [orN_t, orN_t, decide_eq_true hk, Bool.true_and, Bool.true_and]
  rw [Nat.testBit_or, Nat.testBit_or, h k hk, b]
  cases decide (th k = -1) <;> cases m'.testBit k <;> cases (bR th R c).testBit k <;> rfl
theorem CoM.b {th : Nat → Int} {R c : Nat} : CoM th R (bC th R c) (bR th R c) := fun k hk => by
  unfold bC bR
  rw [orN_t, orN_t, decide_eq_true hk, Bool.true_and, Bool.true_and]
theorem per_Co {pr fr th to : Nat → Int} {R s t m m' : Nat} (h1 : ∀ k, k < R → -1 ≤ fr k) (h2 : ∀ k, k < R → -1 ≤ th k) (h3 : ∀ k, k < R → -1 ≤ to k) (h : CoM th R m m') : perK pr (hitC fr to s t (m ||| bC th R t)) R = perK pr (hitR fr th to s t (m' ||| bR th R t)) R := by
  refine perK_c R (fun k hk => ⟨?_, rfl⟩)
  have a := h.or (c := t) k hk
  unfold hitC hitR
  rw [a, dec_neg (h1 k hk), dec_neg (h2 k hk), dec_neg (h3 k hk)]
  cases decide (th k = -1) <;> cases (m' ||| bR th R t).testBit k <;> cases decide (fr k = -1) <;> cases decide (fr k = (s : Int)) <;> cases decide (to k = -1) <;> cases decide (to k = (t : Int)) <;> rfl
theorem endM_Co {th : Nat → Int} {R : Nat} : ∀ (p : List Nat) (m m' : Nat), CoM th R m m' → CoM th R (endM (bC th R) m p) (endM (bR th R) m' p)
  | [], _, _, h => h
  | [_], _, _, h => h
  | w :: v :: p, m, m', h => endM_Co (v :: p) _ _ (h.or (c := w / 4))
