/-! A NEW NODE OF THE CLOCK CHANGES NO ANSWER -/
theorem OnW_n {P P' : Nat → Int32} {n l : Nat} {a : Int} (hP : ∀ b : Nat, b < n → P' b = P b) (hd : ∀ b : Nat, b < n → (P b).toInt < (b : Int)) (ha : a < (n : Int)) (h : OnW P a l) : OnW P' a l := fun X hl hs => by
  refine h (fun b => b < (n : Int) → X b) (fun _ => hl) (fun b hb hn => ?_) ha
  have bn : b < n := by omega
  have q := hd b bn
  refine hs b ?_
  rw [hP b bn]
  exact hb (by omega)
theorem OnW_no {P : Nat → Int32} {n : Nat} {a : Int} (hd : ∀ b : Nat, b < n → (P b).toInt < (b : Int)) (ha : a < (n : Int)) : ¬ OnW P a n := fun h => by
  have q := h (fun b => (n : Int) ≤ b) (Int.le_refl _) (fun b hb => by
    have hb' : (n : Int) ≤ (P b).toInt := hb
    show (n : Int) ≤ (b : Int)
    by_cases z : b < n
    · have w := hd b z
      omega
    · omega)
  have q' : (n : Int) ≤ a := q
  omega
theorem sh_node {p1 p2 p3 : Int32} {n : Nat} {τ τ' : VS} (hS : SI τ) (hn : (τ.1 21).toInt = (n : Int)) (hn' : (τ'.1 21).toInt = (n : Int) + 1) (f : Eo [21] [22, 23, 24] τ τ') (h : nodeM n p1 p2 p3 τ τ') : ∀ s t, s < nC τ → t < nC τ → shF τ' s t = shF τ s t := fun s t hs ht => by
  have e1 : (τ.1 21).toInt.toNat = n := by omega
  have e2 : (τ'.1 21).toInt.toNat = n + 1 := by omega
  have hd : ∀ b : Nat, b < n → (τ.2.1 22 b).toInt < (b : Int) := fun b hb => hS.2.1 b (by omega)
  have hP : ∀ b : Nat, b < n → τ'.2.1 22 b = τ.2.1 22 b := fun b hb => by
    rw [(h b).1, if_neg (by omega)]
  have hd' : ∀ b : Nat, b < n → (τ'.2.1 22 b).toInt < (b : Int) := fun b hb => by
    rw [hP b hb]; exact hd b hb
  have cn : ∀ c, c < nC τ → vv τ 11 c < (n : Int) := fun c hc => by
    have q := hS.2.2.1 c (by unfold nC at hc; omega)
    rw [hn] at q
    exact q
  have as := cn s hs
  have at' := cn t ht
  unfold shF shM
  rw [vv_eo f (show 2 ∉ [22, 23, 24] by decide), vv_eo f (show 11 ∉ [22, 23, 24] by decide), e1, e2]
  by_cases z : vv τ 2 s = 4 ∧ vv τ 2 t = 4
  · rw [if_pos z, if_pos z]
    have s1 : sumC (fun l => OnW (τ'.2.1 22) (vv τ 11 s) l ∧ OnW (τ'.2.1 22) (vv τ 11 t) l) (fun j => τ'.2.1 24 j - τ'.2.1 23 j) (n + 1) = sumC (fun l => OnW (τ'.2.1 22) (vv τ 11 s) l ∧ OnW (τ'.2.1 22) (vv τ 11 t) l) (fun j => τ'.2.1 24 j - τ'.2.1 23 j) n := if_neg (fun q => OnW_no hd' as q.1)
    rw [s1, sumC_same n (C' := fun l => OnW (τ.2.1 22) (vv τ 11 s) l ∧ OnW (τ.2.1 22) (vv τ 11 t) l) (fun l _ => ⟨fun q => ⟨OnW_n (fun b hb => (hP b hb).symm) hd' as q.1, OnW_n (fun b hb => (hP b hb).symm) hd' at' q.2⟩, fun q => ⟨OnW_n hP hd as q.1, OnW_n hP hd at' q.2⟩⟩)]
    rw [sumC_cong n (d' := fun j => τ.2.1 24 j - τ.2.1 23 j) (fun l hl => by
      show τ'.2.1 24 l - τ'.2.1 23 l = τ.2.1 24 l - τ.2.1 23 l
      rw [(h l).2.1, (h l).2.2, if_neg (by omega), if_neg (by omega)])]
  · rw [if_neg z, if_neg z]
theorem rm_sh {D U : Nat → Nat → Int} {sh sh' : Nat → Nat → Int} {s t : Nat} (h : sh s t = sh' s t) : rmD D U sh s t = rmD D U sh' s t ∧ hrD D U sh s t = hrD D U sh' s t := by
  unfold rmD hrD
  rw [h]
  exact ⟨rfl, rfl⟩
theorem JA.sh {D U : Nat → Nat → Int} {n R : Nat} {len : Int} {sh sh' : Nat → Nat → Int} {w l g : Nat → Int} (h : JA D U n R len sh w l g) (e : ∀ s t, s < n → t < n → sh s t = sh' s t) : JA D U n R len sh' w l g := fun t ht => by
  refine ⟨fun k => ?_, (h t ht).2⟩
  obtain ⟨V, BB, hO, hE⟩ := (h t ht).1 k
  refine ⟨V, BB, hO, En.cg rfl (fun x y => ⟨fun ⟨s, a, b, c⟩ => ⟨s, a, b, ?_⟩, fun ⟨s, a, b, c⟩ => ⟨s, a, b, ?_⟩⟩) hE⟩
  · have q := rm_sh (D := D) (U := U) (e s t a ht)
    unfold cmD at c ⊢
    rw [← q.1, ← q.2]
    exact c
  · have q := rm_sh (D := D) (U := U) (e s t a ht)
    unfold cmD at c ⊢
    rw [q.1, q.2]
    exact c
theorem Ng.sh {D U : Nat → Nat → Int} {n R : Nat} {sh sh' : Nat → Nat → Int} {v : Int} (h : Ng D U n R sh v) (e : ∀ s t, s < n → t < n → sh s t = sh' s t) : Ng D U n R sh' v := by
  obtain ⟨V, BB, hO, hN⟩ := h
  refine ⟨V, BB, hO, ?_⟩
  have ed : dT (isD D V) (tgD D) (cdD D V U R sh BB) n n = dT (isD D V) (tgD D) (cdD D V U R sh' BB) n n := by
    funext x
    refine propext ⟨fun ⟨s, t, a, b, c, d, q⟩ => ⟨s, t, a, b, c, d, ?_⟩, fun ⟨s, t, a, b, c, d, q⟩ => ⟨s, t, a, b, c, d, ?_⟩⟩
    · have w := rm_sh (D := D) (U := U) (e s t a b)
      unfold cdD at q ⊢
      rw [← w.1]
      exact q
    · have w := rm_sh (D := D) (U := U) (e s t a b)
      unfold cdD at q ⊢
      rw [w.1]
      exact q
  rw [← ed]
  exact hN
theorem dC_node {p1 p2 p3 : Int32} {n : Nat} {σ σ' : VS} (hn : (σ.1 5).toInt = (n : Int)) (e : Eo [5] [28, 29, 30] σ σ') (h : nodeC n p1 p2 p3 σ σ') (h25 : ∀ c, c < nCl σ → vv σ 25 c < (n : Int)) : dC σ' = dC σ := by
  have nn : nCl σ' = nCl σ := by unfold nCl; rw [e.1 2 (by decide)]
  have x29 : ∀ c, c < nCl σ → ex (σ'.2.1 29) (σ'.2.1 25 c) = ex (σ.2.1 29) (σ.2.1 25 c) := fun c hc => by
    rw [e.2 25 (by decide)]
    refine ex_upd (h25 c hc) (fun j hj => ?_)
    rw [(h.2 j).2.1, if_neg (by omega)]
  have x30 : ∀ c, c < nCl σ → ex (σ'.2.1 30) (σ'.2.1 25 c) = ex (σ.2.1 30) (σ.2.1 25 c) := fun c hc => by
    rw [e.2 25 (by decide)]
    refine ex_upd (h25 c hc) (fun j hj => ?_)
    rw [(h.2 j).2.2, if_neg (by omega)]
  have a11 : vv σ' 11 = vv σ 11 := vv_eo e (by decide)
  have a12 : vv σ' 12 = vv σ 12 := vv_eo e (by decide)
  have a13 : vv σ' 13 = vv σ 13 := vv_eo e (by decide)
  have a14 : vv σ' 14 = vv σ 14 := vv_eo e (by decide)
  have a15 : vv σ' 15 = vv σ 15 := vv_eo e (by decide)
  have a16 : vv σ' 16 = vv σ 16 := vv_eo e (by decide)
  have a22 : vv σ' 22 = vv σ 22 := vv_eo e (by decide)
  have a23 : vv σ' 23 = vv σ 23 := vv_eo e (by decide)
  have a24 : vv σ' 24 = vv σ 24 := vv_eo e (by decide)
  have a36 : vv σ' 36 = vv σ 36 := vv_eo e (by decide)
  have a37 : vv σ' 37 = vv σ 37 := vv_eo e (by decide)
  have a38 : vv σ' 38 = vv σ 38 := vv_eo e (by decide)
  have f7 : σ'.1 7 = σ.1 7 := e.1 7 (by decide)
  have f8 : σ'.1 8 = σ.1 8 := e.1 8 (by decide)
  funext k j
  by_cases t : 15 ≤ k
  · obtain ⟨m, em⟩ : ∃ m, k = m + 15 := ⟨k - 15, by omega⟩
    rw [em, dC_top, dC_top]
  · rcases (show k = 0 ∨ k = 1 ∨ k = 2 ∨ k = 3 ∨ k = 4 ∨ k = 5 ∨ k = 6 ∨ k = 7 ∨ k = 8 ∨ k = 9 ∨ k = 10 ∨ k = 11 ∨ k = 12 ∨ k = 13 ∨ k = 14 by omega) with q | q | q | q | q | q | q | q | q | q | q | q | q | q | q
    · rw [q]; exact ite_n nn (fun _ => by rw [a11])
    · rw [q]; exact ite_n nn (fun _ => by rw [a12])
    · rw [q]; exact ite_n nn (fun _ => by rw [a13])
    · rw [q]; exact ite_n nn (fun _ => by rw [a14, a15, a16, nn])
    · rw [q]; exact ite_n nn (fun _ => by rw [a14])
    · rw [q]
      show (if j < 4 * nCl σ' then max (vv σ' 16 j) (-1) else -1) = (if j < 4 * nCl σ then max (vv σ 16 j) (-1) else -1)
      rw [nn, a16]
    · rw [q]; exact congrFun a36 j
    · rw [q]; exact congrFun a37 j
    · rw [q]; exact congrFun a38 j
    · rw [q]
      show (if j = 0 then (σ'.1 7).toInt else (σ'.1 8).toInt) = (if j = 0 then (σ.1 7).toInt else (σ.1 8).toInt)
      rw [f7, f8]
    · rw [q]; exact ite_n nn (fun _ => by rw [a24])
    · rw [q]; exact ite_n nn (fun _ => by rw [a23])
    · rw [q]; exact ite_n nn (fun _ => by rw [a22])
    · rw [q]; exact ite_n nn (fun hj => by rw [x30 j hj])
    · rw [q]; exact ite_n nn (fun hj => by rw [x29 j hj])
theorem St_v {σ x : VS} (hM : CI σ) (d : dC x = dC σ) (n : nCl x = nCl σ) (v : ∀ k, k < 8 → vC x k = vC σ k) (h : ∀ c, c < nCl σ → StC σ (vC σ) c 2400000) : ∀ c, c < nCl x → StC x (vC x) c 2400000 := by
  have ec : ∀ c, Ec (vC σ) (vC x) c := fun c => ⟨by rw [v 0 (by omega)], by rw [v 1 (by omega)], fun e he => by rw [v 4 (by omega), v 5 (by omega), v 6 (by omega), v 7 (by omega)]; exact ⟨rfl, rfl, rfl, rfl⟩, fun i e hi he => by rw [v 2 (by omega), v 3 (by omega)]; exact ⟨rfl, rfl⟩⟩
  intro c hc
  rw [n] at hc
  exact StC.mv d ((h c hc).keep (ip_4 hM c) (fun i hi g q => ec _) (ec c) (Int.le_refl _))
theorem Ju.nd {p1 p2 p3 : Int32} {n : Nat} {σ τ σ' τ' : VS} (J : Ju σ τ) (hn : (σ.1 5).toInt = (n : Int)) (ok : okN (n : Int) p1 p2 p3) (e : Eo [5] [28, 29, 30] σ σ') (h : nodeC n p1 p2 p3 σ σ') (f : Eo [21] [22, 23, 24] τ τ') (h' : nodeM n p1 p2 p3 τ τ') (hn' : (τ'.1 21).toInt = (n : Int) + 1) : Xu σ' τ' := by
  have k5 : σ.1 5 = τ.1 21 := J.1.1.1.1.2.2.2.2.2.2.1
  have mn : (τ.1 21).toInt = (n : Int) := by rw [← k5]; exact hn
  have hS : SI τ := J.rb.2.1
  obtain ⟨wd, wu, wn, wr, wl⟩ := J.wd
  have c1 : 0 ≤ (τ.1 1).toInt ∧ (τ.1 1).toInt ≤ 50 := J.rb.1.1 1
  have h25 : ∀ c, c < nCl σ → vv σ 25 c < (n : Int) := fun c hc => by
    have q : vv σ 25 c = vv τ 11 c := J.1.cell (q := (25, 11)) (by decide) hc
    have w := hS.2.2.1 c (by rw [wn] at hc; unfold nC at hc; omega)
    rw [mn] at w
    rw [q]
    exact w
  have d := dC_node hn e h h25
  have nn : nCl σ' = nCl σ := by unfold nCl; rw [e.1 2 (by decide)]
  have Uu : UC σ' = UC σ := UC_same e (by decide)
  have Rr : rC σ' = rC σ := by unfold rC; rw [e.1 6 (by decide)]
  have sh := sh_node hS mn hn' f h'
  have v : ∀ k, k < 8 → vC σ' k = vC σ k := fun k hk => by
    funext j
    show vv σ' (39 + k) j = vv σ (39 + k) j
    rw [vv_eo e (fun z => by
      have q : ∀ a, a ∈ [28, 29, 30] → a ≤ 30 := by decide
      have w := q _ z
      omega)]
  have shn : ∀ s t, s < nCl σ → t < nCl σ → shF τ s t = shF τ' s t := fun s t hs ht => (sh s t (by omega) (by omega)).symm
  obtain ⟨z1, z2, z3⟩ := J.2.1
  have ny : nC τ' = nC τ := by unfold nC; rw [f.1 1 (by decide)]
  refine ⟨⟨fun c hc k => ?_, fun j hj => ?_, ?_⟩, ?_, J.2.2.2.1.same e (by decide), fun w => ?_, fun w => ?_, J.2.2.2.2.2.2.same e f (by decide) (by decide)⟩
  · rw [vv_eo f (show 2 ∉ [22, 23, 24] by decide)] at k
    rw [vv_eo f (show 6 ∉ [22, 23, 24] by decide), vv_eo f (show 5 ∉ [22, 23, 24] by decide)]
    exact z1 c (by omega) k
  · obtain ⟨_, w2, w3⟩ := h' j
    have u23 : vv τ' 23 j = if j = n then p2.toInt else vv τ 23 j := by
      unfold vv
      rw [w2]
      by_cases q : j = n
      · rw [if_pos q, if_pos q]
      · rw [if_neg q, if_neg q]
    have u24 : vv τ' 24 j = if j = n then p3.toInt else vv τ 24 j := by
      unfold vv
      rw [w3]
      by_cases q : j = n
      · rw [if_pos q, if_pos q]
      · rw [if_neg q, if_neg q]
    unfold okN at ok
    rw [u23, u24]
    by_cases q : j = n
    · rw [if_pos q, if_pos q]
      omega
    · rw [if_neg q, if_neg q]
      exact z2 j (by omega)
  · rw [vv_eo f (show 2 ∉ [22, 23, 24] by decide), vv_eo f (show 7 ∉ [22, 23, 24] by decide), ny]
    exact z3
  · unfold Sz nCl
    rw [e.2 14 (by decide), e.1 2 (by decide), f.2 5 (by decide)]
    exact J.2.2.1
  · rw [e.1 0 (by decide)] at w
    exact St_v J.cbt.ci d nn v (J.2.2.2.2.1 w)
  · rw [e.1 1 (by decide)] at w
    obtain ⟨q1, q2, q3⟩ := J.2.2.2.2.2.1 w
    refine ⟨by rw [e.1 0 (by decide)]; exact q1, ?_, ?_⟩
    · have q := q2.sh shn
      rw [d, Uu, nn, Rr, e.1 4 (by decide), vv_eo e (show 50 ∉ [28, 29, 30] by decide), vv_eo e (show 51 ∉ [28, 29, 30] by decide), vv_eo e (show 52 ∉ [28, 29, 30] by decide)]
      exact q
    · have q := q3.sh shn
      rw [d, Uu, nn, Rr, e.1 10 (by decide)]
      exact q
theorem qu_node {p1 p2 p3 : Int32} {σ τ : VS} (J : Ju σ τ) : wp_X9node (fun r σ' => wp_node (fun r2 τ' => r = r2 ∧ Ju σ' τ') p1 p2 p3 τ) p1 p2 p3 σ := by
  have hM : MI τ := J.rb.1
  have k5 : σ.1 5 = τ.1 21 := J.1.1.1.1.2.2.2.2.2.2.1
  have a1 : wp_X9node (fun _ σ' => Eo [5] [28, 29, 30] σ σ') p1 p2 p3 σ := cs_node J.cbt.ci J.1.1.1.1.2.1 (fun _ _ _ _ e _ => e)
  have a2 : wp_X9node (fun _ σ' => (okN (σ.1 5).toInt p1 p2 p3 ∧ (σ.1 5).toInt < 20 ∧ ∃ n : Nat, (σ.1 5).toInt = (n : Int) ∧ nodeC n p1 p2 p3 σ σ') ∨ (¬ (okN (σ.1 5).toInt p1 p2 p3 ∧ (σ.1 5).toInt < 20) ∧ σ' = σ)) p1 p2 p3 σ := cx_node J.cbt.ci (fun a b r n z hn hz => Or.inl ⟨a, b, n, hn, hz⟩) (fun h r => Or.inr ⟨h, rfl⟩)
  have a := am_X9node a1 a2 (Q := fun _ σ' => Eo [5] [28, 29, 30] σ σ' ∧ ((okN (σ.1 5).toInt p1 p2 p3 ∧ (σ.1 5).toInt < 20 ∧ ∃ n : Nat, (σ.1 5).toInt = (n : Int) ∧ nodeC n p1 p2 p3 σ σ') ∨ (¬ (okN (σ.1 5).toInt p1 p2 p3 ∧ (σ.1 5).toInt < 20) ∧ σ' = σ))) (fun _ _ u v => ⟨u, v⟩)
  have b1 : wp_node (fun _ τ' => Eo [21] [22, 23, 24] τ τ' ∧ ((τ'.1 21).toInt = (τ.1 21).toInt + 1 ∨ ¬ (okN (τ.1 21).toInt p1 p2 p3 ∧ (τ.1 21).toInt < 20))) p1 p2 p3 τ := rs_node J.rb.2.1 hM J.rb.2.2.2.2 (fun _ _ _ _ _ e h => ⟨e, h.imp (fun w => w.2.2) (fun w => w.1)⟩)
  have b2 : wp_node (fun _ τ' => (okN (τ.1 21).toInt p1 p2 p3 ∧ (τ.1 21).toInt < 20 ∧ ∃ n : Nat, (τ.1 21).toInt = (n : Int) ∧ nodeM n p1 p2 p3 τ τ') ∨ (¬ (okN (τ.1 21).toInt p1 p2 p3 ∧ (τ.1 21).toInt < 20) ∧ τ' = τ)) p1 p2 p3 τ := rx_node hM (fun a b r n z hn hz => Or.inl ⟨a, b, n, hn, hz⟩) (fun h r => Or.inr ⟨h, rfl⟩)
  have b := am_node b1 b2 (Q := fun _ τ' => (Eo [21] [22, 23, 24] τ τ' ∧ ((τ'.1 21).toInt = (τ.1 21).toInt + 1 ∨ ¬ (okN (τ.1 21).toInt p1 p2 p3 ∧ (τ.1 21).toInt < 20))) ∧ ((okN (τ.1 21).toInt p1 p2 p3 ∧ (τ.1 21).toInt < 20 ∧ ∃ n : Nat, (τ.1 21).toInt = (n : Int) ∧ nodeM n p1 p2 p3 τ τ') ∨ (¬ (okN (τ.1 21).toInt p1 p2 p3 ∧ (τ.1 21).toInt < 20) ∧ τ' = τ))) (fun _ _ u v => ⟨u, v⟩)
  rw [← k5] at b
  refine am_X9node (qt_node J.1) a (fun r σ' u v => am_node u b (fun r2 τ' x y => ⟨x.1, x.2, ?_⟩))
  obtain ⟨⟨f, q5⟩, q6⟩ := y
  rcases v.2 with ⟨o1, o2, n, hn, hz⟩ | ⟨o, es⟩
  · rcases q6 with ⟨_, _, m, hm, hy⟩ | ⟨o', _⟩
    · have em : m = n := by
        rw [hn] at hm
        exact (Int.ofNat_inj.mp hm).symm
      rw [em] at hy
      have q7 := q5.resolve_right (fun w => w ⟨o1, o2⟩)
      rw [hn] at q7 o1
      exact J.nd hn o1 v.1 hz f hy q7
    · exact absurd ⟨o1, o2⟩ o'
  · rcases q6 with ⟨o1, o2, _⟩ | ⟨_, et⟩
    · exact absurd ⟨o1, o2⟩ o
    · rw [es, et]
      exact J.2
