/-! ONE JUDGEMENT FOR BOTH SIDES -/
theorem sT_c {C C' : Nat → Prop} {g g' : Nat → Nat} : ∀ k : Nat, (∀ s, s < k → (C s ↔ C' s)) → (∀ s, s < k → C s → g s = g' s) → sT C g k = sT C' g' k
  | 0, _, _ => rfl
  | k + 1, h, q => by
    have ih := sT_c k (fun s hs => h s (by omega)) (fun s hs => q s (by omega))
    by_cases c : C k
    · rw [sT_y c, sT_y ((h k (by omega)).mp c), ih, q k (by omega) c]
    · rw [sT_n c, sT_n (fun z => c ((h k (by omega)).mpr z)), ih]
theorem EnT.cg {S S' : Nat → Prop} {cn cn' : Nat → Nat → Nat} {cm cm' : Nat → Nat → Int → Int → Prop} {k t : Nat} {w l g : Int} (hS : ∀ s, s < k → (S s ↔ S' s)) (hn : ∀ s, s < k → S s → cn s t = cn' s t) (hm : ∀ s, s < k → S s → ∀ x y, cm s t x y ↔ cm' s t x y) (h : EnT S cn cm k t w l g) : EnT S' cn' cm' k t w l g :=
  En.cg (sT_c k hS hn) (fun x y => ⟨fun ⟨s, a, b, c⟩ => ⟨s, a, (hS s a).mp b, (hm s a b x y).mp c⟩, fun ⟨s, a, b, c⟩ => ⟨s, a, (hS s a).mpr b, (hm s a ((hS s a).mpr b) x y).mpr c⟩⟩) h
theorem nP_c {N N' : List Nat → Int} {L L' : Nat → List (List Nat)} (hL : ∀ e, e < 2 → L e = L' e) (hN : ∀ e p, e < 2 → p ∈ L e → N p = N' p) : nP N L = nP N' L' := by
  unfold nP
  rw [← hL 0 (by decide), ← hL 1 (by decide), cP_c (ψ := fun p => 0 < N' p) (L 0) (fun p hp => by rw [hN 0 p (by decide) hp]), cP_c (ψ := fun p => 0 < N' p) (L 1) (fun p hp => by rw [hN 1 p (by decide) hp])]
theorem mP_c {N N' : List Nat → Int} {La Ea La' Ea' : List Nat → Nat → Int} {L L' : Nat → List (List Nat)} {len rm hr x y : Int} (hL : ∀ e, e < 2 → L e = L' e) (hN : ∀ e p, e < 2 → p ∈ L e → N p = N' p) (hA : ∀ e p, e < 2 → p ∈ L e → La p e = La' p e ∧ Ea p e = Ea' p e) : mP N La Ea L len rm hr x y ↔ mP N' La' Ea' L' len rm hr x y := by
  refine ⟨fun ⟨e, p, he, hp, a, b, c⟩ => ?_, fun ⟨e, p, he, hp, a, b, c⟩ => ?_⟩
  · have q := hA e p he hp
    have r := hN e p he hp
    rw [r] at a b
    rw [q.1] at b
    rw [q.2] at c
    exact ⟨e, p, he, by rw [← hL e he]; exact hp, a, b, c⟩
  · have hp' : p ∈ L e := by rw [hL e he]; exact hp
    have q := hA e p he hp'
    have r := hN e p he hp'
    rw [← r] at a b
    rw [← q.1] at b
    rw [← q.2] at c
    exact ⟨e, p, he, hp', a, b, c⟩
theorem dP_c {N N' : List Nat → Int} {La La' : List Nat → Nat → Int} {L L' : Nat → List (List Nat)} {rm x : Int} (hL : ∀ e, e < 2 → L e = L' e) (hN : ∀ e p, e < 2 → p ∈ L e → N p = N' p) (hA : ∀ e p, e < 2 → p ∈ L e → La p e = La' p e) : dP N La L rm x ↔ dP N' La' L' rm x := by
  refine ⟨fun ⟨e, p, he, hp, a, b⟩ => ?_, fun ⟨e, p, he, hp, a, b⟩ => ?_⟩
  · have q := hA e p he hp
    have r := hN e p he hp
    rw [r] at a b
    rw [q] at b
    exact ⟨e, p, he, by rw [← hL e he]; exact hp, a, b⟩
  · have hp' : p ∈ L e := by rw [hL e he]; exact hp
    have q := hA e p he hp'
    have r := hN e p he hp'
    rw [← r] at a b
    rw [← q] at b
    exact ⟨e, p, he, hp', a, b⟩
/-- the data that both sides have: D cells and tables, U rules and stations -/
def saD (D V : Nat → Nat → Int) (j : Nat) : Int := if D 0 (j / 2) = 0 then D 11 (j / 2) else D 13 (j / 2) + V 2 (8 * (j / 2) + j % 2)
def seD (D V : Nat → Nat → Int) (j : Nat) : Int := if D 0 (j / 2) = 0 then D 12 (j / 2) else D 14 (j / 2) + V 3 (8 * (j / 2) + j % 2)
def laD (D V : Nat → Nat → Int) (s : Nat) (p : List Nat) (e : Nat) : Int := ltP (feN D) (saD D V) (V 2) s p e
def eaD (D V : Nat → Nat → Int) (s : Nat) (p : List Nat) (e : Nat) : Int := ltP (feN D) (seD D V) (V 3) s p e
def isD (D V : Nat → Nat → Int) (s : Nat) : Prop := (D 0 s = 0 ∨ D 0 s = 4) ∧ V 1 s = 0
def tgD (D : Nat → Nat → Int) (t : Nat) : Prop := 3 < D 0 t
def nmD (U : Nat → Nat → Int) (R s t m : Nat) : Int := perK (U 0) (hitC (U 1) (U 3) s t (m ||| bC (U 2) R t)) R
def npD (U : Nat → Nat → Int) (R s t : Nat) (p : List Nat) : Int := nmD U R s t (mkP (bC (U 2) R) s p)
def rmD (D U : Nat → Nat → Int) (sh : Nat → Nat → Int) (s t : Nat) : Int := D 14 t - U 4 t + sh s t
def hrD (D U : Nat → Nat → Int) (sh : Nat → Nat → Int) (s t : Nat) : Int := sh s t - D 13 t - U 5 t
def fD (D : Nat → Nat → Int) (t : Nat) : Nat := (D 5 (4 * t)).toNat
noncomputable def cnD (D U : Nat → Nat → Int) (R : Nat) (BB : Nat → Nat → Nat → List (List Nat)) (s t : Nat) : Nat := if 0 ≤ D 5 (4 * t) then nP (npD U R s t) (BB s (fD D t)) else 0
def cmD (D V U : Nat → Nat → Int) (R : Nat) (len : Int) (sh : Nat → Nat → Int) (BB : Nat → Nat → Nat → List (List Nat)) (s t : Nat) (x y : Int) : Prop := 0 ≤ D 5 (4 * t) ∧ mP (npD U R s t) (laD D V s) (eaD D V s) (BB s (fD D t)) len (rmD D U sh s t) (hrD D U sh s t) x y
def cdD (D V U : Nat → Nat → Int) (R : Nat) (sh : Nat → Nat → Int) (BB : Nat → Nat → Nat → List (List Nat)) (s t : Nat) (x : Int) : Prop := 0 ≤ D 5 (4 * t) ∧ dP (npD U R s t) (laD D V s) (BB s (fD D t)) (rmD D U sh s t) x
def OkV (D V : Nat → Nat → Int) (n : Nat) (BB : Nat → Nat → Nat → List (List Nat)) : Prop := (∀ c, c < n → LE2 D V V c) ∧ ∀ s c e, c < n → BB s c e = BPs D (V 1) s (BB s) c e
def Jg (D U : Nat → Nat → Int) (n R : Nat) (len : Int) (sh : Nat → Nat → Int) (t : Nat) (w l g : Int) : Prop := ∃ V BB, OkV D V n BB ∧ EnT (isD D V) (cnD D U R BB) (cmD D V U R len sh BB) n t w l g
def Ng (D U : Nat → Nat → Int) (n R : Nat) (sh : Nat → Nat → Int) (v : Int) : Prop := ∃ V BB, OkV D V n BB ∧ Nd (dT (isD D V) (tgD D) (cdD D V U R sh BB) n n) v
def Wo (D : Nat → Nat → Int) (n : Nat) (ρ : Nat → Nat) : Prop := Rk D n ρ ∧ (∀ c, c < n → 0 ≤ D 0 c ∧ D 0 c ≤ 5) ∧ (∀ c, ipN D c ≤ 4) ∧ (∀ c, c < n → D 0 c = 4 → D 1 c = 1) ∧ ∀ w, w < 4 * n → 0 ≤ D 5 w → (D 5 w).toNat < n ∧ w % 4 < ipN D (w / 4)
theorem BB_un {D : Nat → Nat → Int} {O O' : Nat → Int} {n : Nat} {ρ : Nat → Nat} {BB BB' : Nat → Nat → Nat → List (List Nat)} (hR : Rk D n ρ) (hO : ∀ c, c < n → O c = O' c) (hB : ∀ s c e, c < n → BB s c e = BPs D O s (BB s) c e) (hB' : ∀ s c e, c < n → BB' s c e = BPs D O' s (BB' s) c e) : ∀ c, c < n → ∀ s e, BB s c e = BB' s c e := by
  refine hR.ind (P := fun c => ∀ s e, BB s c e = BB' s c e) (fun c hc hs s e => ?_)
  rw [hB s c e hc, hB' s c e hc]
  unfold BPs
  by_cases a : c = s
  · rw [if_pos a, if_pos a]
  · rw [if_neg a, if_neg a, ← hO c hc]
    by_cases g : (0 < D 0 c ∧ D 0 c < 4) ∧ O c = 0
    · rw [if_pos g, if_pos g]
      exact BPi_c _ (fun i hi q => hs i hi g.1 q s _)
    · rw [if_neg g, if_neg g]
theorem isD_r {D V : Nat → Nat → Int} {s : Nat} (hL : LE2 D V V s) (h : isD D V s) : V 0 s ≠ 0 := by
  rcases h.1 with k | k
  · have q := (hL.1 k).1
    omega
  · have q := hL.2.2.1 k
    omega
theorem saD_c {D V V' : Nat → Nat → Int} {n s e : Nat} {ρ : Nat → Nat} (hW : Wo D n ρ) (h : ∀ c, c < n → LE2 D V V c) (h' : ∀ c, c < n → LE2 D V' V' c) (hs : s < n) (hS : isD D V s) (he : e < 2) : saD D V (2 * s + e) = saD D V' (2 * s + e) ∧ seD D V (2 * s + e) = seD D V' (2 * s + e) := by
  have U0 := un_le hW.1 hW.2.1 h h'
  unfold saD seD
  have e1 : (2 * s + e) / 2 = s := by omega
  have e2 : (2 * s + e) % 2 = e := by omega
  rw [e1, e2]
  by_cases k : D 0 s = 0
  · rw [if_pos k, if_pos k, if_pos k, if_pos k]; exact ⟨rfl, rfl⟩
  · rw [if_neg k, if_neg k, if_neg k, if_neg k]
    have k4 : D 0 s = 4 := by have q := hS.1; omega
    have ip : 0 < ipN D s := by
      have q := hW.2.2.2.1 s hs k4
      unfold ipN
      omega
    have q := (U0 s hs).2 k (isD_r (h s hs) hS) hS.2 e 0 he ip (Or.inl k4)
    rw [show 8 * s + 2 * 0 + e = 8 * s + e by omega] at q
    rw [q.1, q.2]; exact ⟨rfl, rfl⟩
theorem laD_c {D V V' : Nat → Nat → Int} {n s : Nat} {ρ : Nat → Nat} {B : Nat → Nat → List (List Nat)} (hW : Wo D n ρ) (h : ∀ c, c < n → LE2 D V V c) (h' : ∀ c, c < n → LE2 D V' V' c) (hs : s < n) (hS : isD D V s) (hB : ∀ c e, c < n → B c e = BPs D (V 1) s B c e) : ∀ c, c < n → ∀ e p, p ∈ B c e → e < 2 → laD D V s p e = laD D V' s p e ∧ eaD D V s p e = eaD D V' s p e := by
  have U0 := un_le hW.1 hW.2.1 h h'
  have hr := isD_r (h s hs) hS
  have re := BP_reach hB hW.1 h hr
  refine BP_ind hB hW.1 (P := fun c e p => e < 2 → laD D V s p e = laD D V' s p e ∧ eaD D V s p e = eaD D V' s p e) (fun e he => saD_c hW h h' hs hS he) (fun c e i p hc hne g o hi q hsn hp ih he => ?_)
  have ih2 := ih (feN_lt D c he)
  have i4 := hW.2.2.1 c
  have rc : V 0 c ≠ 0 := re c hc e ((4 * c + i) :: p) (by rw [BP_g (V := V) hB hc hne g o]; exact (BPi_mem _).mpr ⟨i, hi, q, p, hp, rfl⟩)
  have k0 : D 0 c ≠ 0 := by have z := g.1; omega
  have dd := (U0 c hc).2 k0 rc o e i he hi (Or.inr ⟨q, re _ hsn _ p hp⟩)
  have e4 : (4 * c + i) / 4 = c := by omega
  have w2 : 2 * (4 * c + i) + e = 8 * c + 2 * i + e := by omega
  show ltP (feN D) (saD D V) (V 2) s p (feN D ((4 * c + i) / 4) e) + V 2 (2 * (4 * c + i) + e) = ltP (feN D) (saD D V') (V' 2) s p (feN D ((4 * c + i) / 4) e) + V' 2 (2 * (4 * c + i) + e) ∧ ltP (feN D) (seD D V) (V 3) s p (feN D ((4 * c + i) / 4) e) + V 3 (2 * (4 * c + i) + e) = ltP (feN D) (seD D V') (V' 3) s p (feN D ((4 * c + i) / 4) e) + V' 3 (2 * (4 * c + i) + e)
  rw [e4, w2, dd.1, dd.2]
  have q1 : ltP (feN D) (saD D V) (V 2) s p (feN D c e) = ltP (feN D) (saD D V') (V' 2) s p (feN D c e) := ih2.1
  have q2 : ltP (feN D) (seD D V) (V 3) s p (feN D c e) = ltP (feN D) (seD D V') (V' 3) s p (feN D c e) := ih2.2
  rw [q1, q2]
  exact ⟨rfl, rfl⟩
theorem fD_lt {D : Nat → Nat → Int} {n t : Nat} {ρ : Nat → Nat} (hW : Wo D n ρ) (ht : t < n) (h : 0 ≤ D 5 (4 * t)) : fD D t < n := (hW.2.2.2.2 (4 * t) (by omega) h).1
theorem isD_c {D V V' : Nat → Nat → Int} {n s : Nat} {ρ : Nat → Nat} (hW : Wo D n ρ) (h : ∀ c, c < n → LE2 D V V c) (h' : ∀ c, c < n → LE2 D V' V' c) (hs : s < n) : isD D V s ↔ isD D V' s := by
  have q := ((un_le hW.1 hW.2.1 h h') s hs).1.2.1
  unfold isD
  rw [q]
theorem Jg.mv {D U V V' : Nat → Nat → Int} {n R t : Nat} {len : Int} {sh : Nat → Nat → Int} {ρ : Nat → Nat} {BB BB' : Nat → Nat → Nat → List (List Nat)} {w l g : Int} (hW : Wo D n ρ) (ht : t < n) (h : OkV D V n BB) (h' : OkV D V' n BB') (hE : EnT (isD D V) (cnD D U R BB) (cmD D V U R len sh BB) n t w l g) : EnT (isD D V') (cnD D U R BB') (cmD D V' U R len sh BB') n t w l g := by
  have U0 := un_le hW.1 hW.2.1 h.1 h'.1
  have bb := BB_un hW.1 (fun c hc => (U0 c hc).1.2.1) h.2 h'.2
  refine EnT.cg (fun s hs => isD_c hW h.1 h'.1 hs) (fun s hs hS => ?_) (fun s hs hS x y => ?_) hE
  · unfold cnD
    by_cases z : 0 ≤ D 5 (4 * t)
    · rw [if_pos z, if_pos z]
      exact nP_c (fun e _ => bb _ (fD_lt hW ht z) s e) (fun _ _ _ _ => rfl)
    · rw [if_neg z, if_neg z]
  · unfold cmD
    refine and_congr_right (fun z => ?_)
    have f := fD_lt hW ht z
    exact mP_c (fun e _ => bb _ f s e) (fun _ _ _ _ => rfl) (fun e p he hp => laD_c hW h.1 h'.1 hs hS (h.2 s) _ f e p hp he)
theorem Jg.un {D U : Nat → Nat → Int} {n R t : Nat} {len : Int} {sh : Nat → Nat → Int} {ρ : Nat → Nat} {w l g w' l' g' : Int} (hW : Wo D n ρ) (ht : t < n) (h : Jg D U n R len sh t w l g) (h' : Jg D U n R len sh t w' l' g') : w = w' ∧ l = l' ∧ g = g' := by
  obtain ⟨V, BB, hO, hE⟩ := h
  obtain ⟨V', BB', hO', hE'⟩ := h'
  exact En.un (Jg.mv hW ht hO hO' hE) hE'
