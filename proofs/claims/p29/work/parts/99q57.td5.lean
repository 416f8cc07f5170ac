/-! THE REFERENCE'S LIST -/
theorem stM {θ : VS} {R s e : Nat} (G : RfE θ R) (hs : s < nC θ) (hSt : isD (dM θ) (vM θ) s) (he : e < 2) : (vv θ 2 s ≠ 0 → (0 ≤ vM θ 2 (8 * s + e) ∧ vM θ 2 (8 * s + e) ≤ 6000)) ∧ (0 ≤ saD (dM θ) (vM θ) (2 * s + e) ∧ saD (dM θ) (vM θ) (2 * s + e) ≤ 2400000) := by
  obtain ⟨hMθ, hS, hD, hWr, hN, hL, hR⟩ := G
  obtain ⟨ρ, hRk⟩ := SI.rk hMθ hS
  obtain ⟨B, hB⟩ := BP_ex hRk (vM θ 1) s
  have rs : RsM θ R s B := ⟨hR, hB, hL, ⟨hs, by have q := hSt.1; rw [dM_0 hs] at q; exact q, hSt.2⟩, hN⟩
  have q := rs.st hMθ hS he
  rw [(saL_D hs he).1] at q
  exact ⟨fun k => (q.1 k).1, q.2.1⟩
set_option maxHeartbeats 1000000 in
theorem rx_listA {X12 : Int32 → Int32 → VS → Prop} {X39 : Int32 → Int32 → Int32 → VS → Prop} {X64 : Int32 → VS → Prop} {X74 : Int32 → Int32 → VS → Prop} {Q : VS → Prop} {p1 : Int32} {θ : VS} {R t : Nat} {b : Nat → Nat} {nmS : Nat → Nat → Int} {FF : Nat → Nat → Nat → List (List Nat)} {ρ : Nat → Nat} (H12 : ∀ (l1 : Int32) (l2 : Int32) (σ : VS), b_list_12 X12 X39 X64 X74 Q l1 l2 σ → X12 l1 l2 σ) (H39 : ∀ (l1 : Int32) (l2 : Int32) (l3 : Int32) (σ : VS), b_list_39 X12 X39 X64 X74 Q l1 l2 l3 σ → X39 l1 l2 l3 σ) (h1 : p1.toInt = (t : Int)) (G : RfE θ R) (hW : Wo (dM θ) (nC θ) ρ) (hρ : ∀ c, c < nC θ → ρ c < 50) (PS : ∀ s, s < nC θ → RfP θ R s t b (nmS s) (FF s)) (hN0 : (APk (dM θ) FF b (nC θ)).length ≤ 1000) (K : ∀ x : VS, MI x → Eo FL AL θ x → LI x → (x.1 48).toInt = (((APk (dM θ) FF b (nC θ)).length : Nat) : Int) → (∀ j y, (APk (dM θ) FF b (nC θ))[j]? = some y → Ent x j y (slkA (dM θ) (vM θ) nmS b (θ.1 20).toInt (fun s => rmD (dM θ) (UM θ) (shF θ) s t) y)) → X64 0 x) : ∀ (d k : Nat) (l2 : Int32) (x : VS), nC θ + 1 ≤ d + k → k ≤ nC θ → l2.toInt = (k : Int) → MI x → Eo FL AL θ x → LI x → (x.1 61).toInt = (t : Int) → (x.1 48).toInt = (((APk (dM θ) FF b k).length : Nat) : Int) → (∀ j y, (APk (dM θ) FF b k)[j]? = some y → Ent x j y (slkA (dM θ) (vM θ) nmS b (θ.1 20).toInt (fun s => rmD (dM θ) (UM θ) (shF θ) s t) y)) → X12 p1 l2 x := by
  have G0 := G
  obtain ⟨hMθ, hS, hD, hWr, hN, hL, hR⟩ := G0
  have a1 : 0 ≤ (θ.1 1).toInt ∧ (θ.1 1).toInt ≤ 50 := hMθ.1 1
  have en : (θ.1 1).toInt = ((nC θ : Nat) : Int) := by unfold nC; omega
  intro d
  induction d with
  | zero => intro k l2 x a b'; omega
  | succ d ih =>
    intro k l2 x ha hk e2 hMx hEx hIx f61 f48 hEn
    refine H12 p1 l2 x ?_
    unfold b_list_12 b_list_56
    rw [hEx.1 1 (by decide), en]
    refine ⟨fun z => ?_, fun z => ?_⟩
    · have ek : k = nC θ := by omega
      rw [ek] at f48 hEn
      exact K x hMx hEx hIx f48 hEn
    · have kn : k < nC θ := by omega
      have t2 : (l2 + 1).toInt = ((k + 1 : Nat) : Int) := by
        have w := i3_addc (x := l2 + 1) e2 (show (1 : Int32).toInt = 1 from rfl) rfl (by omega)
        omega
      have P := PS k kn
      obtain ⟨hb, hnm, hF, ht, ht1, htg, ho⟩ := P
      have kd : Kd x k = dM θ 0 k := by
        show vv x 2 k = _
        rw [vv_eo hEx (by decide), dM_0 kn]
      have o35 : (x.2.1 35 k).toInt = vM θ 1 k := by
        show vv x 35 k = vv θ 35 k
        rw [vv_eo hEx (by decide)]
      refine isStart_s e2 (by omega) (fun y1 y2 => ⟨fun _ => ?_, fun w => absurd w (by decide)⟩) (fun y => ⟨fun w => absurd rfl w, fun _ => ?_⟩)
      · rw [kd] at y1
        rw [o35] at y2
        have hSt : isD (dM θ) (vM θ) k := ⟨y1, y2⟩
        have lA := APk_l (D := dM θ) (FF := FF) (b := b) y1
        have lle := APk_le (D := dM θ) (FF := FF) (b := b) (k := k + 1) (n := nC θ) kn
        have s0 := stM G kn hSt (e := 0) (by decide)
        have s1 := stM G kn hSt (e := 1) (by decide)
        refine rx_markGood e2 h1 hMx hEx G hW (PS k kn) (fun x1 M1 E1 Go1 => ?_)
        have E1θ : Eo FL AL θ x1 := hEx.trans (E1.mono (fun k hk => by cases hk) (by decide))
        have i0 : (0 : Int32).toInt = ((0 : Nat) : Int) := rfl
        have i1 : (0 + 1 : Int32).toInt = ((1 : Nat) : Int) := rfl
        have En1 : ∀ j y, (APk (dM θ) FF b k)[j]? = some y → Ent x1 j y (slkA (dM θ) (vM θ) nmS b (θ.1 20).toInt (fun s => rmD (dM θ) (UM θ) (shF θ) s t) y) := fun j y hj => (hEn j y hj).keep (q := j + 1) (LKp.of E1 (by decide)) (by omega)
        refine H39 p1 l2 0 x1 ?_
        unfold b_list_39 b_list_56
        refine ⟨fun w => absurd w (by decide), fun _ => ?_⟩
        refine rx_goFrom (q0 := (APk (dM θ) FF b k).length) e2 i0 (by decide) kn hSt M1 E1θ (hIx.same E1 (by decide)) G hW hρ (PS k kn) (by rw [E1.1 61 (fun z => by cases z)]; exact f61) (by rw [E1.1 48 (fun z => by cases z)]; exact f48) (by omega) Go1 s0.1 s0.2 (fun x2 M2 E2 f2 L2 I2 En2 => ?_)
        have E2θ : Eo FL AL θ x2 := E1θ.trans (E2.mono (by decide) (by decide))
        have s56 : vv x2 56 = vv x1 56 := vv_eo E2 (by decide)
        have Go2 : GoT x2 θ (FF k) := fun c hc k5 r o e m he hm ne => by rw [s56]; exact Go1 c hc k5 r o e m he hm ne
        refine H39 p1 l2 (0 + 1) x2 ?_
        unfold b_list_39 b_list_56
        refine ⟨fun w => absurd w (by decide), fun _ => ?_⟩
        refine rx_goFrom (q0 := (APk (dM θ) FF b k).length + (FF k k (b k)).length) e2 i1 (by decide) kn hSt M2 E2θ I2 G hW hρ (PS k kn) (by rw [E2.1 61 (by decide), E1.1 61 (fun z => by cases z)]; exact f61) f2 (by omega) Go2 s1.1 s1.2 (fun x3 M3 E3 f3 L3 I3 En3 => ?_)
        have E3θ : Eo FL AL θ x3 := E2θ.trans (E3.mono (by decide) (by decide))
        refine H39 p1 l2 (0 + 1 + 1) x3 ?_
        unfold b_list_39 b_list_56
        refine ⟨fun _ => ?_, fun w => absurd w (by decide)⟩
        refine ih (k + 1) (l2 + 1) x3 (by omega) (by omega) t2 M3 E3θ I3 (by rw [E3.1 61 (by decide), E2.1 61 (by decide), E1.1 61 (fun z => by cases z)]; exact f61) (by rw [f3, lA]; omega) (fun j y hj => ?_)
        rw [APk_y y1] at hj
        by_cases c1 : j < (APk (dM θ) FF b k).length
        · rw [List.getElem?_append_left c1] at hj
          exact ((En1 j y hj).keep L2 c1).keep L3 (by omega)
        · rw [List.getElem?_append_right (by omega)] at hj
          by_cases c2 : j - (APk (dM θ) FF b k).length < (FF k k (b k)).length
          · rw [List.getElem?_append_left (by rw [List.length_map]; exact c2), List.getElem?_map] at hj
            obtain ⟨p, hp, ep⟩ := Option.map_eq_some_iff.mp hj
            have en2 := En2 _ p hp
            rw [show (APk (dM θ) FF b k).length + (j - (APk (dM θ) FF b k).length) = j by omega] at en2
            rw [← ep]
            exact en2.keep L3 (by omega)
          · rw [List.getElem?_append_right (by rw [List.length_map]; omega), List.length_map, List.getElem?_map] at hj
            obtain ⟨p, hp, ep⟩ := Option.map_eq_some_iff.mp hj
            have en3 := En3 _ p hp
            rw [show (APk (dM θ) FF b k).length + (FF k k (b k)).length + (j - (APk (dM θ) FF b k).length - (FF k k (b k)).length) = j by omega] at en3
            rw [← ep]
            exact en3
      · rw [kd, o35] at y
        have eA : APk (dM θ) FF b (k + 1) = APk (dM θ) FF b k := by
          by_cases s : dM θ 0 k = 0 ∨ dM θ 0 k = 4
          · have emp : FF k k (b k) = [] := List.eq_nil_iff_forall_not_mem.mpr (fun p hp => y ⟨s, FP_opn hW hL hF ht1 ho k kn _ p hp⟩)
            rw [APk_y s, emp]
            show APk (dM θ) FF b k ++ [] = _
            rw [List.append_nil]
          · exact APk_n s
        exact ih (k + 1) (l2 + 1) x (by omega) (by omega) t2 hMx hEx hIx f61 (by rw [eA]; exact f48) (by rw [eA]; exact hEn)
def PmS (x : VS) (kf : Nat → Int) (k : Nat) : Prop := ∃ r : Nat → Nat, (∀ i, i < k → vv x 55 i = ((r i : Nat) : Int) ∧ r i < k) ∧ (∀ j, j < k → ∃ i, i < k ∧ r i = j) ∧ ∀ i j, i < j → j < k → kf (r i) < kf (r j)
set_option maxHeartbeats 1000000 in
theorem rx_listB {X12 : Int32 → Int32 → VS → Prop} {X39 : Int32 → Int32 → Int32 → VS → Prop} {X64 : Int32 → VS → Prop} {X74 : Int32 → Int32 → VS → Prop} {Q : VS → Prop} {y : VS} {N : Nat} (H64 : ∀ (l2 : Int32) (σ : VS), b_list_64 X12 X39 X64 X74 Q l2 σ → X64 l2 σ) (H74 : ∀ (l2 : Int32) (l3 : Int32) (σ : VS), b_list_74 X12 X39 X64 X74 Q l2 l3 σ → X74 l2 l3 σ) (hN : N ≤ 1000) (h48 : (y.1 48).toInt = (N : Int)) (hq : ∀ x : VS, MI x → Eo [] [55] y x → PmS x (fun j => vv y 49 j * 1024 + (j : Int)) N → Q x) : ∀ (d k : Nat) (l2 : Int32) (x : VS), N + 1 ≤ d + k → k ≤ N → l2.toInt = (k : Int) → MI x → Eo [] [55] y x → PmS x (fun j => vv y 49 j * 1024 + (j : Int)) k → X64 l2 x := by
  intro d
  induction d with
  | zero => intro k l2 x a b; omega
  | succ d ih =>
    intro k l2 x ha hk e2 hMx hEx hP
    refine H64 l2 x ?_
    unfold b_list_64
    rw [hEx.1 48 (fun z => by cases z), h48]
    refine ⟨fun z => ?_, fun z => ?_⟩
    · have ek : k = N := by omega
      rw [ek] at hP
      exact hq x hMx hEx hP
    · have kN : k < N := by omega
      have t2 : (l2 + 1).toInt = ((k + 1 : Nat) : Int) := by
        have w := i3_addc (x := l2 + 1) e2 (show (1 : Int32).toInt = 1 from rfl) rfl (by omega)
        omega
      obtain ⟨r, r1, r2, r3⟩ := hP
      have Z : ∀ (i : Nat) (l3 : Int32) (x2 : VS), i ≤ k → l3.toInt = (i : Int) → MI x2 → Eo [] [55] y x2 → (∀ j, j < i → vv x2 55 j = ((r j : Nat) : Int)) → (∀ j, i ≤ j → j < k → vv x2 55 (j + 1) = ((r j : Nat) : Int)) → (∀ j, i ≤ j → j < k → vv y 49 k < vv y 49 (r j)) → X74 l2 l3 x2 := by
        intro i
        induction i with
        | zero =>
          intro l3 x2 hi e3 M2 E2 a1 a2 a3
          refine H74 l2 l3 x2 ?_
          unfold b_list_74 b_list_120
          refine ⟨fun _ => ⟨⟨by omega, by omega⟩, ih (k + 1) (l2 + 1) _ (by omega) (by omega) t2 (M2.sa 55 l3 l2 (show 0 ≤ l2.toInt ∧ l2.toInt ≤ 999 by omega)) (E2.sa 55 l3 l2 (by decide)) ⟨fun j => if j = 0 then k else r (j - 1), fun j hj => ?_, fun j hj => ?_, fun j j2 hj hj2 => ?_⟩⟩, fun w => by omega⟩
          · show vv (sa x2 55 l3 l2) 55 j = (((if j = 0 then k else r (j - 1)) : Nat) : Int) ∧ (if j = 0 then k else r (j - 1)) < k + 1
            rw [vv_sa x2 55 l3 l2 e3]
            by_cases w : j = 0
            · rw [w, fu_eq, if_pos rfl, e2]; exact ⟨rfl, by omega⟩
            · rw [fu_ne w, if_neg w]
              have q := a2 (j - 1) (by omega) (by omega)
              rw [show j - 1 + 1 = j by omega] at q
              have q2 := (r1 (j - 1) (by omega)).2
              exact ⟨q, by omega⟩
          · by_cases w : j = k
            · exact ⟨0, by omega, by show (if 0 = 0 then k else r (0 - 1)) = j; rw [if_pos rfl, w]⟩
            · obtain ⟨i, hi, ei⟩ := r2 j (by omega)
              exact ⟨i + 1, by omega, by show (if i + 1 = 0 then k else r (i + 1 - 1)) = j; rw [if_neg (by omega), show i + 1 - 1 = i by omega]; exact ei⟩
          · show vv y 49 (if j = 0 then k else r (j - 1)) * 1024 + (((if j = 0 then k else r (j - 1)) : Nat) : Int) < vv y 49 (if j2 = 0 then k else r (j2 - 1)) * 1024 + (((if j2 = 0 then k else r (j2 - 1)) : Nat) : Int)
            rw [if_neg (show ¬ j2 = 0 by omega)]
            by_cases w : j = 0
            · rw [if_pos w]
              have q := a3 (j2 - 1) (by omega) (by omega)
              omega
            · rw [if_neg w]
              exact r3 (j - 1) (j2 - 1) (by omega) (by omega)
        | succ i ihi =>
          intro l3 x2 hi e3 M2 E2 a1 a2 a3
          refine H74 l2 l3 x2 ?_
          unfold b_list_74 b_list_120
          have t3 : (l3 - 1).toInt = (i : Int) := by
            have w := i3_subc (x := l3 - 1) e3 (show (1 : Int32).toInt = 1 from rfl) rfl (by omega)
            omega
          have ri := (r1 i (by omega)).2
          have r55 : (rd x2 55 (l3 - 1)).toInt = ((r i : Nat) : Int) := by rw [vv_rd t3]; exact a1 i (by omega)
          have r49 : (rd x2 49 (rd x2 55 (l3 - 1))).toInt = vv y 49 (r i) := by rw [vv_rd r55, vv_eo E2 (by decide)]
          have r49k : (rd x2 49 l2).toInt = vv y 49 k := by rw [vv_rd e2, vv_eo E2 (by decide)]
          rw [r49, r49k]
          refine ⟨fun w => by omega, fun _ => ⟨⟨by omega, by omega⟩, ⟨by omega, by omega⟩, ⟨by omega, by omega⟩, fun le => ⟨⟨by omega, by omega⟩, ?_⟩, fun gt => ⟨⟨by omega, by omega⟩, ⟨by omega, by omega⟩, ?_⟩⟩⟩
          · refine ih (k + 1) (l2 + 1) _ (by omega) (by omega) t2 (M2.sa 55 l3 l2 (show 0 ≤ l2.toInt ∧ l2.toInt ≤ 999 by omega)) (E2.sa 55 l3 l2 (by decide)) ⟨fun j => if j ≤ i then r j else if j = i + 1 then k else r (j - 1), fun j hj => ?_, fun j hj => ?_, fun j j2 hj hj2 => ?_⟩
            · show vv (sa x2 55 l3 l2) 55 j = (((if j ≤ i then r j else if j = i + 1 then k else r (j - 1)) : Nat) : Int) ∧ (if j ≤ i then r j else if j = i + 1 then k else r (j - 1)) < k + 1
              rw [vv_sa x2 55 l3 l2 e3]
              by_cases w : j ≤ i
              · rw [fu_ne (by omega), if_pos w]
                have q := (r1 j (by omega)).2
                exact ⟨a1 j (by omega), by omega⟩
              · rw [if_neg w]
                by_cases w2 : j = i + 1
                · rw [w2, fu_eq, if_pos rfl, e2]; exact ⟨rfl, by omega⟩
                · rw [fu_ne w2, if_neg w2]
                  have q := a2 (j - 1) (by omega) (by omega)
                  rw [show j - 1 + 1 = j by omega] at q
                  have q2 := (r1 (j - 1) (by omega)).2
                  exact ⟨q, by omega⟩
            · by_cases w : j = k
              · exact ⟨i + 1, by omega, by show (if i + 1 ≤ i then r (i + 1) else if i + 1 = i + 1 then k else r (i + 1 - 1)) = j; rw [if_neg (by omega), if_pos rfl, w]⟩
              · obtain ⟨m, hm, em⟩ := r2 j (by omega)
                by_cases w2 : m ≤ i
                · exact ⟨m, by omega, by show (if m ≤ i then r m else if m = i + 1 then k else r (m - 1)) = j; rw [if_pos w2]; exact em⟩
                · exact ⟨m + 1, by omega, by show (if m + 1 ≤ i then r (m + 1) else if m + 1 = i + 1 then k else r (m + 1 - 1)) = j; rw [if_neg (by omega), if_neg (by omega), show m + 1 - 1 = m by omega]; exact em⟩
            · have low : ∀ m, m ≤ i → vv y 49 (r m) ≤ vv y 49 k ∧ r m < k := fun m hm => by
                have q2 := (r1 m (by omega)).2
                by_cases w : m = i
                · rw [w]; exact ⟨le, ri⟩
                · have q := r3 m i (by omega) (by omega)
                  have q3 : vv y 49 (r m) * 1024 + ((r m : Nat) : Int) < vv y 49 (r i) * 1024 + ((r i : Nat) : Int) := q
                  exact ⟨by omega, q2⟩
              show vv y 49 (if j ≤ i then r j else if j = i + 1 then k else r (j - 1)) * 1024 + (((if j ≤ i then r j else if j = i + 1 then k else r (j - 1)) : Nat) : Int) < vv y 49 (if j2 ≤ i then r j2 else if j2 = i + 1 then k else r (j2 - 1)) * 1024 + (((if j2 ≤ i then r j2 else if j2 = i + 1 then k else r (j2 - 1)) : Nat) : Int)
              by_cases w : j2 ≤ i
              · rw [if_pos w, if_pos (show j ≤ i by omega)]
                exact r3 j j2 hj (by omega)
              · rw [if_neg w]
                by_cases w2 : j2 = i + 1
                · rw [if_pos w2, if_pos (show j ≤ i by omega)]
                  have q := low j (by omega)
                  omega
                · rw [if_neg w2]
                  have gt2 := a3 (j2 - 1) (by omega) (by omega)
                  by_cases w3 : j ≤ i
                  · rw [if_pos w3]
                    exact r3 j (j2 - 1) (by omega) (by omega)
                  · rw [if_neg w3]
                    by_cases w4 : j = i + 1
                    · rw [if_pos w4]
                      omega
                    · rw [if_neg w4]
                      exact r3 (j - 1) (j2 - 1) (by omega) (by omega)
          · obtain ⟨l3b, hl3b⟩ : ∃ z : Int32, z = l3 + (-1) := ⟨_, rfl⟩
            have t4 : l3b.toInt = ((i + 1 : Nat) : Int) + (-1) := i3_addc e3 (show (-1 : Int32).toInt = -1 from rfl) hl3b (by omega)
            rw [← hl3b]
            clear hl3b
            refine ihi l3b _ (by omega) (by omega) (M2.sa 55 l3 _ (show 0 ≤ (rd x2 55 (l3 - 1)).toInt ∧ (rd x2 55 (l3 - 1)).toInt ≤ 999 by omega)) (E2.sa 55 l3 _ (by decide)) (fun j hj => ?_) (fun j h1 h2 => ?_) (fun j h1 h2 => ?_)
            · rw [vv_sa x2 55 l3 _ e3, fu_ne (by omega)]
              exact a1 j (by omega)
            · rw [vv_sa x2 55 l3 _ e3]
              by_cases w : j = i
              · rw [w, fu_eq, r55]
              · rw [fu_ne (by omega)]
                exact a2 j (by omega) h2
            · by_cases w : j = i
              · rw [w]; exact gt
              · exact a3 j (by omega) h2
      exact Z k l2 x (Nat.le_refl k) e2 hMx hEx (fun j hj => (r1 j hj).1) (fun j h1 h2 => by omega) (fun j h1 h2 => by omega)
theorem rx_list {Q : VS → Prop} {p1 : Int32} {θ : VS} {R t : Nat} {b : Nat → Nat} {nmS : Nat → Nat → Int} {FF : Nat → Nat → Nat → List (List Nat)} {ρ : Nat → Nat} (h1 : p1.toInt = (t : Int)) (ht0 : t < nC θ) (hLI : LI θ) (G : RfE θ R) (hW : Wo (dM θ) (nC θ) ρ) (hρ : ∀ c, c < nC θ → ρ c < 50) (PS : ∀ s, s < nC θ → RfP θ R s t b (nmS s) (FF s)) (hN0 : (APk (dM θ) FF b (nC θ)).length ≤ 1000) (hq : ∀ x : VS, MI x → Eo FL AL θ x → LI x → (∀ j y, (APk (dM θ) FF b (nC θ))[j]? = some y → Ent x j y (slkA (dM θ) (vM θ) nmS b (θ.1 20).toInt (fun s => rmD (dM θ) (UM θ) (shF θ) s t) y)) → (∀ k, k < (APk (dM θ) FF b (nC θ)).length → ∃ i : Nat, vv x 55 k = (i : Int) ∧ KR (kap (APk (dM θ) FF b (nC θ)) (slkA (dM θ) (vM θ) nmS b (θ.1 20).toInt (fun s => rmD (dM θ) (UM θ) (shF θ) s t))) (APk (dM θ) FF b (nC θ)).length k i) → Q x) : wp_list Q p1 θ := by
  have hMθ := G.1
  have a1 : 0 ≤ (θ.1 1).toInt ∧ (θ.1 1).toInt ≤ 50 := hMθ.1 1
  have n50 : nC θ ≤ 50 := by unfold nC; omega
  unfold wp_list
  intro X12 X39 X64 X74 H12 H39 H64 H74
  have M1 : MI (sf (sf θ 48 0) 61 p1) := (hMθ.sf 48 0 (by decide)).sf 61 p1 ⟨by show (0 : Int) ≤ _; omega, by show _ ≤ (49 : Int); omega⟩
  have E0 : Eo FL [] θ (sf (sf θ 48 0) 61 p1) := (Eo.rfl.sf 48 0 (by decide)).sf 61 p1 (by decide)
  have E1 : Eo FL AL θ (sf (sf θ 48 0) 61 p1) := (Eo.rfl.sf 48 0 (by decide)).sf 61 p1 (by decide)
  refine rx_listA H12 H39 h1 G hW hρ PS hN0 (fun x Mx Ex Ix f48 En => ?_) (nC θ + 1) 0 0 _ (by omega) (by omega) rfl M1 E1 (hLI.same E0 (by decide)) (by rw [sf_same]; exact h1) (by rw [sf_other (by decide), sf_same]; rfl) (fun j y hj => (by cases hj))
  obtain ⟨A, hA⟩ : ∃ A : List (Nat × Nat × List Nat), A = APk (dM θ) FF b (nC θ) := ⟨_, rfl⟩
  obtain ⟨sl, hsl⟩ : ∃ sl : Nat × Nat × List Nat → Int, sl = slkA (dM θ) (vM θ) nmS b (θ.1 20).toInt (fun s => rmD (dM θ) (UM θ) (shF θ) s t) := ⟨_, rfl⟩
  rw [← hA] at f48 hN0
  rw [← hA, ← hsl] at En hq
  have ek : ∀ j, j < A.length → vv x 49 j * 1024 + (j : Int) = kap A sl j := fun j hj => by
    obtain ⟨y, hy⟩ := get_ex hj
    rw [kap_s hy, (En j y hy).1.1]
  refine rx_listB (y := x) (N := A.length) H64 H74 hN0 f48 (fun x2 M2 E2 P2 => ?_) (A.length + 1) 0 0 x (by omega) (by omega) rfl Mx Eo.rfl ⟨fun j => j, fun i hi => by omega, fun j hj => by omega, fun i j hi hj => by omega⟩
  have E2θ : Eo FL AL θ x2 := Ex.trans (E2.mono (fun k hk => by cases hk) (by decide))
  refine hq x2 M2 E2θ (Ix.same E2 (by decide)) (fun j y hj => ?_) (fun k hk => ?_)
  · exact (En j y hj).keep (q := j + 1) (LKp.of E2 (by decide)) (by omega)
  · obtain ⟨r, r1, r2, r3⟩ := P2
    refine ⟨r k, (r1 k hk).1, fun j => kap A sl (r j), fun i j hi hj => ?_, fun v => ⟨fun ⟨i, hi, e⟩ => ?_, fun ⟨i, hi, e⟩ => ⟨r i, (r1 i hi).2, e⟩⟩, rfl, (r1 k hk).2⟩
    · have q := r3 i j hi hj
      show kap A sl (r i) < kap A sl (r j)
      rw [← ek _ (r1 i (by omega)).2, ← ek _ (r1 j hj).2]
      exact q
    · obtain ⟨m, hm, em⟩ := r2 i hi
      exact ⟨m, hm, by show kap A sl (r m) = v; rw [em]; exact e⟩
