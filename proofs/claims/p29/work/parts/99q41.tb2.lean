/-! BOTH SIDES COME TO THAT JUDGEMENT -/
theorem orN_c {P P' : Nat → Bool} : ∀ k : Nat, (∀ i, i < k → P i = P' i) → orN P k = orN P' k
  | 0, _ => rfl
  | k + 1, h => by
    show orN P k ||| (if P k then 2 ^ k else 0) = orN P' k ||| (if P' k then 2 ^ k else 0)
    rw [orN_c k (fun i hi => h i (by omega)), h k (by omega)]
theorem bC_c {th th' : Nat → Int} {R : Nat} (h : ∀ i, i < R → th i = th' i) : bC th R = bC th' R := by
  funext c
  exact orN_c R (fun i hi => by rw [h i hi])
def UC (σ : VS) (k j : Nat) : Int := match k with
  | 0 => if j < (σ.1 6).toInt.toNat then vv σ 31 j else 0
  | 1 => if j < (σ.1 6).toInt.toNat then vv σ 32 j else 0
  | 2 => if j < (σ.1 6).toInt.toNat then vv σ 33 j else 0
  | 3 => if j < (σ.1 6).toInt.toNat then vv σ 34 j else 0
  | 4 => if j < nCl σ then vv σ 26 j else 0
  | 5 => if j < nCl σ then vv σ 27 j else 0
  | _ => 0
def UM (σ : VS) (k j : Nat) : Int := match k with
  | 0 => if j < (σ.1 25).toInt.toNat then vv σ 26 j else 0
  | 1 => if j < (σ.1 25).toInt.toNat then vv σ 27 j else 0
  | 2 => if j < (σ.1 25).toInt.toNat then vv σ 28 j else 0
  | 3 => if j < (σ.1 25).toInt.toNat then vv σ 29 j else 0
  | 4 => if j < nC σ then vv σ 12 j else 0
  | 5 => if j < nC σ then vv σ 13 j else 0
  | _ => 0
theorem UC_r {σ : VS} {R i : Nat} (hR : (σ.1 6).toInt = (R : Int)) (hi : i < R) : UC σ 0 i = vv σ 31 i ∧ UC σ 1 i = vv σ 32 i ∧ UC σ 2 i = vv σ 33 i ∧ UC σ 3 i = vv σ 34 i := by
  have q : i < (σ.1 6).toInt.toNat := by omega
  exact ⟨if_pos q, if_pos q, if_pos q, if_pos q⟩
theorem UM_r {σ : VS} {R i : Nat} (hR : (σ.1 25).toInt = (R : Int)) (hi : i < R) : UM σ 0 i = vv σ 26 i ∧ UM σ 1 i = vv σ 27 i ∧ UM σ 2 i = vv σ 28 i ∧ UM σ 3 i = vv σ 29 i := by
  have q : i < (σ.1 25).toInt.toNat := by omega
  exact ⟨if_pos q, if_pos q, if_pos q, if_pos q⟩
theorem UC_4 {σ : VS} {j : Nat} (h : j < nCl σ) : UC σ 4 j = vv σ 26 j ∧ UC σ 5 j = vv σ 27 j := ⟨if_pos h, if_pos h⟩
theorem UM_4 {σ : VS} {j : Nat} (h : j < nC σ) : UM σ 4 j = vv σ 12 j ∧ UM σ 5 j = vv σ 13 j := ⟨if_pos h, if_pos h⟩
theorem hitC_c {fr fr' to to' : Nat → Int} {s t m k : Nat} (h1 : fr k = fr' k) (h2 : to k = to' k) : hitC fr to s t m k = hitC fr' to' s t m k := by
  unfold hitC
  rw [h1, h2]
theorem nmC_D {σ : VS} {R s t m : Nat} (hR : (σ.1 6).toInt = (R : Int)) : perK (vv σ 31) (hitC (vv σ 32) (vv σ 34) s t (m ||| bC (vv σ 33) R t)) R = nmD (UC σ) R s t m := by
  have eb : bC (UC σ 2) R = bC (vv σ 33) R := bC_c (fun i hi => (UC_r hR hi).2.2.1)
  unfold nmD
  rw [eb]
  exact perK_c R (fun k hk => ⟨hitC_c (UC_r hR hk).2.1.symm (UC_r hR hk).2.2.2.symm, (UC_r hR hk).1.symm⟩)
theorem NS_D {σ : VS} {R s t : Nat} {p : List Nat} (hR : (σ.1 6).toInt = (R : Int)) : NS σ R (bC (vv σ 33) R) s t p = npD (UC σ) R s t p := by
  have eb : bC (UC σ 2) R = bC (vv σ 33) R := bC_c (fun i hi => (UC_r hR hi).2.2.1)
  unfold npD
  rw [eb]
  exact nmC_D hR
theorem nmM_D {σ : VS} {R s t : Nat} {p : List Nat} (hM : MI σ) (hR : (σ.1 25).toInt = (R : Int)) : NM σ R s t p = npD (UM σ) R s t p := by
  have eb : bC (UM σ 2) R = bC (vv σ 28) R := bC_c (fun i hi => (UM_r hR hi).2.2.1)
  have q := per_CR (pr := vv σ 26) (fr := vv σ 27) (th := vv σ 28) (to := vv σ 29) (R := R) (s := s) (t := t) (fun k _ => (hM.2 27 k).1) (fun k _ => (hM.2 28 k).1) (fun k _ => (hM.2 29 k).1) p
  unfold NM npD nmD
  rw [← q, eb]
  exact perK_c R (fun k hk => ⟨hitC_c (UM_r hR hk).2.1.symm (UM_r hR hk).2.2.2.symm, (UM_r hR hk).1.symm⟩)
theorem ltP_A {fe : Nat → Nat → Nat} {A A' d : Nat → Int} {s : Nat} (hf : ∀ c e, e < 2 → fe c e < 2) (h : ∀ e, e < 2 → A (2 * s + e) = A' (2 * s + e)) : ∀ (p : List Nat) (e : Nat), e < 2 → ltP fe A d s p e = ltP fe A' d s p e
  | [], e, he => h e he
  | w :: p, e, he => by
    show ltP fe A d s p (fe (w / 4) e) + d (2 * w + e) = ltP fe A' d s p (fe (w / 4) e) + d (2 * w + e)
    rw [ltP_A hf h p _ (hf _ _ he)]
theorem dlc_f {σ : VS} (hM : CI σ) {c e : Nat} (hc : c < nCl σ) (hL : LE2 (dC σ) (vC σ) (vC σ) c) (k4 : dC σ 0 c = 4) (hi : 0 < ipN (dC σ) c) (o : vC σ 1 c = 0) (he : e < 2) : (0 ≤ vC σ 2 (8 * c + 2 * 0 + e) ∧ vC σ 2 (8 * c + 2 * 0 + e) ≤ 6000) ∧ 0 ≤ vC σ 3 (8 * c + 2 * 0 + e) ∧ vC σ 3 (8 * c + 2 * 0 + e) ≤ 6000 := by
  obtain ⟨_, _, c4, _, _, f⟩ := hL
  have F := f (by omega) (by omega) (fun g => by unfold gN at g; omega)
  have r : vC σ 0 c ≠ 0 := by rw [c4 k4]; decide
  have ac : acN (dC σ) (vC σ) c 0 := Or.inl k4
  have v := (F.2 r o e he).1 0 hi ac
  have z := F.1
  rw [o] at z
  have z2 := stp_i z.symm
  have fz : flN (dC σ) (vC σ) c e 0 = 0 := by
    rcases (show e = 0 ∨ e = 1 by omega) with q | q
    · rw [q]; exact ffF_z _ z2.1 0 hi ac
    · rw [q]; exact ffF_z _ z2.2 0 hi ac
  have l4 : lsN (dC σ) (vC σ) 4 c e 0 = 0 := by unfold lsN; rw [if_pos k4]
  have l5 : lsN (dC σ) (vC σ) 5 c e 0 = 0 := by unfold lsN; rw [if_pos k4]
  have b := arc_b hM hc (e := e) (i := 0) (by omega) (by omega) fz
  rw [v.1, v.2]
  exact ⟨b.1, b.2.1⟩
theorem sa_C {σ : VS} (hM : CI σ) {s e : Nat} (hs : s < nCl σ) (hT : StC σ (vC σ) s 2400000) (hW : Wel σ) (hS : isS σ s) (he : e < 2) : vC σ 6 (2 * s + e) = saD (dC σ) (vC σ) (2 * s + e) ∧ vC σ 7 (2 * s + e) = seD (dC σ) (vC σ) (2 * s + e) := by
  have d0 : dC σ 0 s = vv σ 11 s := dC_0 hs
  unfold saD seD
  have e1 : (2 * s + e) / 2 = s := by omega
  have e2 : (2 * s + e) % 2 = e := by omega
  rw [e1, e2]
  by_cases k : dC σ 0 s = 0
  · rw [if_pos k, if_pos k]; exact hT.2.1.1 k e he
  · rw [if_neg k, if_neg k]
    have k4 : dC σ 0 s = 4 := by have q := hS.1; omega
    have ip1 : ipN (dC σ) s = 1 := by
      have q := hW.1 s hs (by omega)
      unfold ipN
      rw [dC_1 hs, q]; rfl
    have r : vC σ 0 s ≠ 0 := by rw [hT.1.2.2.1 k4]; decide
    have G := hT.2.1.2 (by omega) (by omega) r hS.2 e he
    rw [ip1] at G
    have ac : acN (dC σ) (vC σ) s 0 := Or.inl k4
    have q1 : mxF (acN (dC σ) (vC σ) s) (fun i => alN (dC σ) (vC σ) 6 s e i + vC σ 2 (8 * s + 2 * i + e)) 1 = max 0 (alN (dC σ) (vC σ) 6 s e 0 + vC σ 2 (8 * s + 2 * 0 + e)) := mxF_y (i := 0) ac
    have q2 : mnF (acN (dC σ) (vC σ) s) (fun i => alN (dC σ) (vC σ) 7 s e i + vC σ 3 (8 * s + 2 * i + e)) 1 = min 1000000000 (alN (dC σ) (vC σ) 7 s e 0 + vC σ 3 (8 * s + 2 * 0 + e)) := mnF_y (i := 0) ac
    have a6 : alN (dC σ) (vC σ) 6 s e 0 = dC σ 13 s := by unfold alN; rw [if_pos k4]
    have a7 : alN (dC σ) (vC σ) 7 s e 0 = dC σ 14 s := by unfold alN; rw [if_pos k4]
    have b := dlc_f hM hs hT.1 k4 (by omega) hS.2 he
    have w := hW.2 s hs
    rw [G.1, G.2, q1, q2, a6, a7]
    rw [show 8 * s + 2 * 0 + e = 8 * s + e by omega] at b ⊢
    omega
theorem LaS_D {σ : VS} (hM : CI σ) {s : Nat} (hs : s < nCl σ) (hT : StC σ (vC σ) s 2400000) (hW : Wel σ) (hS : isS σ s) (p : List Nat) {e : Nat} (he : e < 2) : LaS σ s p e = laD (dC σ) (vC σ) s p e ∧ EaS σ s p e = eaD (dC σ) (vC σ) s p e :=
  ⟨ltP_A (fun c e h => feN_lt _ c h) (fun e he => (sa_C hM hs hT hW hS he).1) p e he, ltP_A (fun c e h => feN_lt _ c h) (fun e he => (sa_C hM hs hT hW hS he).2) p e he⟩
theorem isS_D {σ : VS} {s : Nat} (hs : s < nCl σ) : isS σ s ↔ isD (dC σ) (vC σ) s := by
  unfold isS isD
  rw [dC_0 hs]
theorem isT_D {σ : VS} (hM : CI σ) {t : Nat} (ht : t < nCl σ) : isT σ t ↔ tgD (dC σ) t := by
  have q : 0 ≤ vv σ 11 t ∧ vv σ 11 t ≤ 5 := hM.2 11 t
  unfold isT tgD
  rw [dC_0 ht]
  omega
theorem cx_jg {σ : VS} {R : Nat} {BB : Nat → Nat → Nat → List (List Nat)} {sh : Nat → Nat → Int} (hM : CI σ) (h : Rce σ R (bC (vv σ 33) R) BB sh) {t : Nat} {w l g : Int} (ht : t < nCl σ) (hE : EnT (isS σ) (cnS σ R (bC (vv σ 33) R) BB) (cmS σ R (bC (vv σ 33) R) BB sh) (nCl σ) t w l g) : Jg (dC σ) (UC σ) (nCl σ) R (σ.1 4).toInt sh t w l g := by
  obtain ⟨hR, hb, hbK, hB, hT, hW, bsh, hsh⟩ := h
  refine ⟨vC σ, BB, ⟨fun c hc => (hT c hc).1, hB⟩, EnT.cg (fun s hs => isS_D hs) (fun s hs hS => ?_) (fun s hs hS x y => ?_) hE⟩
  · unfold cnS cnD
    by_cases z : 0 ≤ dC σ 5 (4 * t)
    · rw [if_pos z, if_pos z]
      exact nP_c (fun e _ => rfl) (fun _ p _ _ => NS_D hR)
    · rw [if_neg z, if_neg z]
  · unfold cmS cmD
    refine and_congr_right (fun z => ?_)
    have e1 : rmS σ sh s t = rmD (dC σ) (UC σ) sh s t := by unfold rmS rmD; rw [(UC_4 ht).1]
    have e2 : hrS σ sh s t = hrD (dC σ) (UC σ) sh s t := by unfold hrS hrD; rw [(UC_4 ht).2]
    rw [e1, e2]
    exact mP_c (fun e _ => rfl) (fun _ p _ _ => NS_D hR) (fun e p he _ => LaS_D hM hs (hT s hs) hW hS p he)
theorem cx_ng {σ : VS} {R : Nat} {BB : Nat → Nat → Nat → List (List Nat)} {sh : Nat → Nat → Int} (hM : CI σ) (h : Rce σ R (bC (vv σ 33) R) BB sh) {v : Int} (hE : Nd (dT (isS σ) (isT σ) (cdS σ R (bC (vv σ 33) R) BB sh) (nCl σ) (nCl σ)) v) : Ng (dC σ) (UC σ) (nCl σ) R sh v := by
  obtain ⟨hR, hb, hbK, hB, hT, hW, bsh, hsh⟩ := h
  have key : ∀ s t x, s < nCl σ → t < nCl σ → isS σ s → (cdS σ R (bC (vv σ 33) R) BB sh s t x ↔ cdD (dC σ) (vC σ) (UC σ) R sh BB s t x) := fun s t x hs ht hS => by
    unfold cdS cdD
    refine and_congr_right (fun z => ?_)
    have e1 : rmS σ sh s t = rmD (dC σ) (UC σ) sh s t := by unfold rmS rmD; rw [(UC_4 ht).1]
    rw [e1]
    exact dP_c (fun e _ => rfl) (fun _ p _ _ => NS_D hR) (fun e p he _ => (LaS_D hM hs (hT s hs) hW hS p he).1)
  refine ⟨vC σ, BB, ⟨fun c hc => (hT c hc).1, hB⟩, Nd.cg (fun x => ⟨fun ⟨s, t, hs, ht, a, b, c⟩ => ⟨s, t, hs, ht, (isS_D hs).mp a, (isT_D hM ht).mp b, (key s t x hs ht a).mp c⟩, fun ⟨s, t, hs, ht, a, b, c⟩ => ⟨s, t, hs, ht, (isS_D hs).mpr a, (isT_D hM ht).mpr b, (key s t x hs ht ((isS_D hs).mpr a)).mpr c⟩⟩) hE⟩
noncomputable def shF (τ : VS) (s t : Nat) : Int := (shM τ s t).toInt
theorem saL_D {σ : VS} {s e : Nat} (hs : s < nC σ) (he : e < 2) : saL σ (2 * s + e) = saD (dM σ) (vM σ) (2 * s + e) ∧ saE σ (2 * s + e) = seD (dM σ) (vM σ) (2 * s + e) := by
  unfold saL saE saD seD
  have e1 : (2 * s + e) / 2 = s := by omega
  rw [e1, dM_0 hs, dM_11 hs, dM_12 hs]
  exact ⟨rfl, rfl⟩
theorem rx_jg {θ : VS} {R : Nat} {BB : Nat → Nat → Nat → List (List Nat)} (hM : MI θ) (hR : (θ.1 25).toInt = (R : Int)) (hL : ∀ c, c < nC θ → LE2 (dM θ) (vM θ) (vM θ) c) (hB : ∀ s c e, c < nC θ → BB s c e = BPs (dM θ) (vM θ 1) s (BB s) c e) {t : Nat} {w l g : Int} (ht : t < nC θ) (hE : EnT (isSM θ) (cnM θ R BB) (cmM θ R BB) (nC θ) t w l g) : Jg (dM θ) (UM θ) (nC θ) R (θ.1 20).toInt (shF θ) t w l g := by
  refine ⟨vM θ, BB, ⟨hL, hB⟩, EnT.cg (fun s hs => ?_) (fun s hs hS => ?_) (fun s hs hS x y => ?_) hE⟩
  · unfold isSM isD
    rw [dM_0 hs]
  · unfold cnM cnD
    by_cases z : 0 ≤ dM θ 5 (4 * t)
    · rw [if_pos z, if_pos z]
      exact nP_c (fun e _ => rfl) (fun _ p _ _ => nmM_D hM hR)
    · rw [if_neg z, if_neg z]
  · unfold cmM cmD
    refine and_congr_right (fun z => ?_)
    have e1 : rmM θ s t = rmD (dM θ) (UM θ) (shF θ) s t := by unfold rmM rmD shF; rw [(UM_4 ht).1]
    have e2 : hrM θ s t = hrD (dM θ) (UM θ) (shF θ) s t := by unfold hrM hrD shF; rw [(UM_4 ht).2]
    rw [e1, e2]
    exact mP_c (fun e _ => rfl) (fun _ p _ _ => nmM_D hM hR) (fun e p he _ => ⟨ltP_A (fun c e h => feN_lt _ c h) (fun e he => (saL_D hs he).1) p e he, ltP_A (fun c e h => feN_lt _ c h) (fun e he => (saL_D hs he).2) p e he⟩)
/-! THE SAME WORLD -/
theorem UC_top (σ : VS) (n j : Nat) : UC σ (n + 6) j = 0 := rfl
theorem UM_top (σ : VS) (n j : Nat) : UM σ (n + 6) j = 0 := rfl
theorem Jt.rule {σ τ : VS} (h : Jt σ τ) {q : Nat × Nat} (hq : q ∈ rulesL) {j : Nat} (hj : j < (σ.1 6).toInt.toNat) : vv σ q.1 j = vv τ q.2 j := by
  have e : σ.2.1 q.1 j = τ.2.1 q.2 j := h.1.1.2.2.2.2.1 q hq j (by omega)
  unfold vv
  rw [e]
theorem Jt.uu {σ τ : VS} (h : Jt σ τ) : UC σ = UM τ := by
  have nn := h.nn
  have e6 : σ.1 6 = τ.1 25 := h.1.1.1.2.2.2.2.2.2.2.1
  have e7 : (σ.1 6).toInt.toNat = (τ.1 25).toInt.toNat := by rw [e6]
  funext k j
  by_cases t : 6 ≤ k
  · obtain ⟨m, e⟩ : ∃ m, k = m + 6 := ⟨k - 6, by omega⟩
    rw [e, UC_top, UM_top]
  · rcases (show k = 0 ∨ k = 1 ∨ k = 2 ∨ k = 3 ∨ k = 4 ∨ k = 5 by omega) with z | z | z | z | z | z
    · rw [z]; exact ite_n e7 (fun q => h.rule (q := (31, 26)) (by decide) (by omega))
    · rw [z]; exact ite_n e7 (fun q => h.rule (q := (32, 27)) (by decide) (by omega))
    · rw [z]; exact ite_n e7 (fun q => h.rule (q := (33, 28)) (by decide) (by omega))
    · rw [z]; exact ite_n e7 (fun q => h.rule (q := (34, 29)) (by decide) (by omega))
    · rw [z]; exact ite_n nn (fun q => h.cell (q := (26, 12)) (by decide) (by omega))
    · rw [z]; exact ite_n nn (fun q => h.cell (q := (27, 13)) (by decide) (by omega))
theorem SI.wo {τ : VS} (hM : MI τ) (hS : SI τ) (hR2 : WRm τ) : ∃ ρ, Wo (dM τ) (nC τ) ρ := by
  obtain ⟨ρ, hR⟩ := SI.rk hM hS
  have h50 : 0 ≤ (τ.1 1).toInt ∧ (τ.1 1).toInt ≤ 50 := hM.1 1
  have en : (τ.1 1).toInt = ((nC τ : Nat) : Int) := by unfold nC; omega
  refine ⟨ρ, hR, fun c hc => ?_, fun c => ip_4m hM c, fun c hc k => ?_, fun w hw h => ?_⟩
  · rw [dM_0 hc]; exact hM.2 2 c
  · rw [dM_0 hc] at k
    rw [dM_1 hc]
    exact hS.2.2.2.1 c (by omega) (by show 3 < vv τ 2 c; omega)
  · rw [dM_5 hw] at h ⊢
    have lt : vv τ 7 w < (τ.1 1).toInt := hS.1 w (by omega)
    have q := hR2 w (by omega) (by omega)
    refine ⟨by omega, ?_⟩
    unfold ipN
    rw [dM_1 (by omega)]
    omega
