/-! WHAT THE SETTERS LEAVE -/
def Fz (σ : VS) : Prop := (σ.1 0).toInt = 0 ∧ (σ.1 1).toInt = 0
theorem fg_z (σ : VS) : Fz (fg σ) := ⟨by unfold fg; rw [sf_other (by decide), sf_same]; rfl, by unfold fg; rw [sf_same]; rfl⟩
theorem Fz.same {F A : List Nat} {σ σ' : VS} (h : Fz σ) (e : Eo F A σ σ') (hk : 0 ∉ F ∧ 1 ∉ F) : Fz σ' := ⟨by rw [e.1 0 hk.1]; exact h.1, by rw [e.1 1 hk.2]; exact h.2⟩
theorem Fz.ct {σ : VS} (h : Fz σ) : CTm σ := fun w => absurd h.1 w
theorem Fz.cr {σ τ : VS} (h : Fz σ) : CRc σ τ := fun w => absurd h.2 w
def Kp (σ σ' : VS) : Prop := Eo [] [21] σ σ' ∨ Fz σ'
theorem Kp.r {σ : VS} : Kp σ σ := Or.inl Eo.rfl
theorem Ju.set0 {F A F2 A2 : List Nat} {σ τ σ' τ' : VS} (J : Ju σ τ) (e : Eo F A σ σ') (f : Eo F2 A2 τ τ') (k : (Eo [] [21] σ σ' ∧ shF τ' = shF τ) ∨ Fz σ') (z : Dz τ') (b : Bt σ') (h1 : (2 ∉ F ∧ 16 ∉ F ∧ 17 ∉ F ∧ 18 ∉ F) ∧ 14 ∉ A ∧ 55 ∉ A ∧ 56 ∉ A ∧ 57 ∉ A ∧ 58 ∉ A) (h2 : (62 ∉ F2 ∧ 67 ∉ F2 ∧ 68 ∉ F2) ∧ 5 ∉ A2 ∧ 63 ∉ A2 ∧ 64 ∉ A2 ∧ 65 ∉ A2 ∧ 66 ∉ A2) : Xu σ' τ' := by
  obtain ⟨⟨f2, f16, f17, f18⟩, a14, a55, a56, a57, a58⟩ := h1
  obtain ⟨g, b5, b63, b64, b65, b66⟩ := h2
  refine ⟨z, ?_, b, ?_, ?_, J.2.2.2.2.2.2.same e f ⟨⟨f16, f17, f18⟩, a55, a56, a57, a58⟩ ⟨g, b63, b64, b65, b66⟩⟩
  · unfold Sz nCl
    rw [e.2 14 a14, e.1 2 f2, f.2 5 b5]
    exact J.2.2.1
  · rcases k with k | k
    · exact J.2.2.2.2.1.same J.cbt.ci k.1 (by decide) (by decide)
    · exact k.ct
  · rcases k with k | k
    · exact (J.2.2.2.2.2.1.same k.1 (by decide) (by decide) (by decide)).sh k.2
    · exact k.cr
theorem Ju.set {F A F2 A2 : List Nat} {σ τ σ' τ' : VS} (J : Ju σ τ) (e : Eo F A σ σ') (f : Eo F2 A2 τ τ') (k : (Eo [] [21] σ σ' ∧ shF τ' = shF τ) ∨ Fz σ') (z : Dz τ') (h0 : 6 ∉ F ∧ 33 ∉ A ∧ 35 ∉ A) (h1 : (2 ∉ F ∧ 16 ∉ F ∧ 17 ∉ F ∧ 18 ∉ F) ∧ 14 ∉ A ∧ 55 ∉ A ∧ 56 ∉ A ∧ 57 ∉ A ∧ 58 ∉ A) (h2 : (62 ∉ F2 ∧ 67 ∉ F2 ∧ 68 ∉ F2) ∧ 5 ∉ A2 ∧ 63 ∉ A2 ∧ 64 ∉ A2 ∧ 65 ∉ A2 ∧ 66 ∉ A2) : Xu σ' τ' := J.set0 e f k z (J.2.2.2.1.same e h0) h1 h2
theorem Kp.k {F2 A2 : List Nat} {σ τ σ' τ' : VS} (h : Kp σ σ') (f : Eo F2 A2 τ τ') (hk : 21 ∉ F2 ∧ 2 ∉ A2 ∧ 11 ∉ A2 ∧ 22 ∉ A2 ∧ 23 ∉ A2 ∧ 24 ∉ A2) : (Eo [] [21] σ σ' ∧ shF τ' = shF τ) ∨ Fz σ' := h.imp (fun e => ⟨e, shF_same f hk⟩) (fun z => z)
theorem dz_extra {p1 p2 : Int32} {τ : VS} (hM : MI τ) (Z : Dz τ) : wp_extra (fun _ τ' => Dz τ') p1 p2 τ := by
  have a1 : 0 ≤ (τ.1 1).toInt ∧ (τ.1 1).toInt ≤ 50 := hM.1 1
  refine rx_extra hM (fun a b c => ?_) (fun _ _ _ => Z) (fun _ => Z)
  obtain ⟨i, hi⟩ : ∃ i : Nat, p1.toInt = (i : Int) := ⟨p1.toInt.toNat, by omega⟩
  have k : vv τ 2 i ≠ 5 := by rw [← vv_rd hi]; exact c
  obtain ⟨x, hx⟩ : ∃ x : VS, x = sa τ 6 p1 p2 := ⟨_, rfl⟩
  have e : Eo [] [6] τ x := by rw [hx]; exact Eo.rfl.sa 6 p1 p2 (by decide)
  have v6 : vv x 6 = fu (vv τ 6) i p2.toInt := by rw [hx, vv_sa τ 6 p1 p2 hi]
  show Dz (sa τ 6 p1 p2)
  rw [← hx]
  have nn : nC x = nC τ := by unfold nC; rw [e.1 1 (by decide)]
  refine ⟨fun j hj k5 => ?_, Z.2.1.same e (by decide), ?_⟩
  · rw [vv_eo e (by decide)] at k5
    have ne : j ≠ i := fun w => k (by rw [← w]; exact k5)
    rw [v6, fu_ne ne, vv_eo e (by decide)]
    exact Z.1 j (by omega) k5
  · rw [vv_eo e (show 2 ∉ [6] by decide), vv_eo e (show 7 ∉ [6] by decide), nn]
    exact Z.2.2
theorem kp_tear {p1 p2 p3 p4 : Int32} {σ : VS} (hM : CI σ) : wp_X9tear (fun _ σ' => Kp σ σ') p1 p2 p3 p4 σ := by
  have e0 : (0 : Int32).toInt = 0 := rfl
  have e1 : (3 : Int32).toInt = 3 := rfl
  unfold wp_X9tear b_X9tear_19
  refine xrow_x (fun a => ⟨fun z => absurd z (by decide), fun _ => ?_⟩) (fun a => ⟨fun _ => Kp.r, fun z => absurd rfl z⟩)
  refine xwithin_x (fun b => ⟨fun _ => ?_, fun z => absurd z (by decide)⟩) (fun b => ⟨fun z => absurd rfl z, fun _ => Kp.r⟩)
  have ok : okR p1 p2 p3 := a
  unfold wp_X9forget wp_X5rowPlace
  show wp_X5cutRow (fun r9 σ10 => Kp σ σ10) _ p4 (fg σ)
  rw [row_eq ok]
  obtain ⟨r, hr⟩ : ∃ r, r = ((8 * p1) + (4 * p2)) + p3 := ⟨_, rfl⟩
  have hi := row_in ok
  rw [← hr] at hi ⊢
  have hi' : 0 ≤ r.toInt ∧ r.toInt < 64 := hi
  exact rg_X5cutRow ⟨by omega, by omega⟩ ⟨by omega, by omega⟩ (fg_ci hM) (fun _ z _ _ e => Or.inr ((fg_z σ).same e (by decide)))
theorem qu_extra {p1 p2 : Int32} {σ τ : VS} (J : Ju σ τ) : wp_X9extra (fun r σ' => wp_extra (fun r2 τ' => r = r2 ∧ Ju σ' τ') p1 p2 τ) p1 p2 σ := by
  have a1 : wp_X9extra (fun _ σ' => Eo [0, 1] [15] σ σ') p1 p2 σ := rg_X9extra J.cbt.ci (fun _ _ _ e => e)
  have a2 : wp_X9extra (fun _ σ' => Kp σ σ') p1 p2 σ := cx_extra J.cbt.ci (fun _ _ _ => Or.inr (fg_z _)) (fun _ _ _ => Kp.r) (fun _ => Kp.r)
  have a : wp_X9extra (fun _ σ' => Eo [0, 1] [15] σ σ' ∧ Kp σ σ') p1 p2 σ := am_X9extra a1 a2 (fun _ _ u v => ⟨u, v⟩)
  have b1 : wp_extra (fun _ τ' => Eo [] [6] τ τ') p1 p2 τ := rg_extra J.rb.1 (fun _ _ _ e => e)
  have b2 : wp_extra (fun _ τ' => Dz τ') p1 p2 τ := dz_extra J.rb.1 J.rb.2.2.2.1
  have b : wp_extra (fun _ τ' => Eo [] [6] τ τ' ∧ Dz τ') p1 p2 τ := am_extra b1 b2 (fun _ _ u v => ⟨u, v⟩)
  exact am_X9extra (qt_extra J.1) a (fun _ σ' u v => am_extra u b (fun _ τ' x y => ⟨x.1, x.2, J.set v.1 y.1 (v.2.k y.1 (by decide)) y.2 (by decide) (by decide) (by decide)⟩))
theorem qu_port {p1 p2 p3 p4 : Int32} {σ τ : VS} (J : Ju σ τ) : wp_X9port (fun r σ' => wp_port (fun r2 τ' => r = r2 ∧ Ju σ' τ') p1 p2 p3 p4 τ) p1 p2 p3 p4 σ := by
  have a1 : wp_X9port (fun _ σ' => Eo [0, 1] [22, 23, 24] σ σ') p1 p2 p3 p4 σ := rg_X9port J.cbt.ci (fun _ _ _ e => e)
  have a2 : wp_X9port (fun _ σ' => Kp σ σ') p1 p2 p3 p4 σ := cx_port J.cbt.ci (fun _ _ _ => Or.inr (fg_z _)) (fun _ _ _ => Kp.r) (fun _ => Kp.r)
  have a : wp_X9port (fun _ σ' => Eo [0, 1] [22, 23, 24] σ σ' ∧ Kp σ σ') p1 p2 p3 p4 σ := am_X9port a1 a2 (fun _ _ u v => ⟨u, v⟩)
  have b1 : wp_port (fun _ τ' => Eo [] [8, 9, 10] τ τ') p1 p2 p3 p4 τ := rg_port J.rb.1 (fun _ _ _ e => e)
  have b2 : wp_port (fun _ τ' => Dz τ') p1 p2 p3 p4 τ := rg_port J.rb.1 (fun _ _ _ e => J.rb.2.2.2.1.sz e (by decide) (fun c _ => by rw [vv_eo e (by decide)]))
  have b : wp_port (fun _ τ' => Eo [] [8, 9, 10] τ τ' ∧ Dz τ') p1 p2 p3 p4 τ := am_port b1 b2 (fun _ _ u v => ⟨u, v⟩)
  exact am_X9port (qt_port J.1) a (fun _ σ' u v => am_port u b (fun _ τ' x y => ⟨x.1, x.2, J.set v.1 y.1 (v.2.k y.1 (by decide)) y.2 (by decide) (by decide) (by decide)⟩))
theorem qu_entry {p1 p2 p3 p4 p5 : Int32} {σ τ : VS} (J : Ju σ τ) : wp_X9entry (fun r σ' => wp_entry (fun r2 τ' => r = r2 ∧ Ju σ' τ') p1 p2 p3 p4 p5 τ) p1 p2 p3 p4 p5 σ := by
  have a1 : wp_X9entry (fun _ σ' => Eo [0, 1] [36] σ σ') p1 p2 p3 p4 p5 σ := rg_X9entry J.cbt.ci (fun _ _ _ e => e)
  have a2 : wp_X9entry (fun _ σ' => Kp σ σ') p1 p2 p3 p4 p5 σ := cx_entry (fun _ _ _ _ _ => Or.inr (fg_z _)) (fun _ _ _ _ _ => Kp.r) (fun _ _ _ _ => Kp.r) (fun _ => Kp.r)
  have a : wp_X9entry (fun _ σ' => Eo [0, 1] [36] σ σ' ∧ Kp σ σ') p1 p2 p3 p4 p5 σ := am_X9entry a1 a2 (fun _ _ u v => ⟨u, v⟩)
  have b1 : wp_entry (fun _ τ' => Eo [] [15] τ τ') p1 p2 p3 p4 p5 τ := rg_entry J.rb.1 (fun _ _ _ e => e)
  have b2 : wp_entry (fun _ τ' => Dz τ') p1 p2 p3 p4 p5 τ := rg_entry J.rb.1 (fun _ _ _ e => J.rb.2.2.2.1.sz e (by decide) (fun c _ => by rw [vv_eo e (by decide)]))
  have b : wp_entry (fun _ τ' => Eo [] [15] τ τ' ∧ Dz τ') p1 p2 p3 p4 p5 τ := am_entry b1 b2 (fun _ _ u v => ⟨u, v⟩)
  exact am_X9entry (qt_entry J.1) a (fun _ σ' u v => am_entry u b (fun _ τ' x y => ⟨x.1, x.2, J.set v.1 y.1 (v.2.k y.1 (by decide)) y.2 (by decide) (by decide) (by decide)⟩))
theorem qu_tear {p1 p2 p3 p4 : Int32} {σ τ : VS} (J : Ju σ τ) : wp_X9tear (fun r σ' => wp_tear (fun r2 τ' => r = r2 ∧ Ju σ' τ') p1 p2 p3 p4 τ) p1 p2 p3 p4 σ := by
  have a1 : wp_X9tear (fun _ σ' => Eo [0, 1] [36, 37] σ σ') p1 p2 p3 p4 σ := rg_X9tear J.cbt.ci (fun _ _ _ e => e)
  have a2 : wp_X9tear (fun _ σ' => Kp σ σ') p1 p2 p3 p4 σ := kp_tear J.cbt.ci
  have a : wp_X9tear (fun _ σ' => Eo [0, 1] [36, 37] σ σ' ∧ Kp σ σ') p1 p2 p3 p4 σ := am_X9tear a1 a2 (fun _ _ u v => ⟨u, v⟩)
  have b1 : wp_tear (fun _ τ' => Eo [] [15, 16] τ τ') p1 p2 p3 p4 τ := rg_tear J.rb.1 (fun _ _ _ e => e)
  have b2 : wp_tear (fun _ τ' => Dz τ') p1 p2 p3 p4 τ := rg_tear J.rb.1 (fun _ _ _ e => J.rb.2.2.2.1.sz e (by decide) (fun c _ => by rw [vv_eo e (by decide)]))
  have b : wp_tear (fun _ τ' => Eo [] [15, 16] τ τ' ∧ Dz τ') p1 p2 p3 p4 τ := am_tear b1 b2 (fun _ _ u v => ⟨u, v⟩)
  exact am_X9tear (qt_tear J.1) a (fun _ σ' u v => am_tear u b (fun _ τ' x y => ⟨x.1, x.2, J.set v.1 y.1 (v.2.k y.1 (by decide)) y.2 (by decide) (by decide) (by decide)⟩))
theorem qu_fall {p1 p2 : Int32} {σ τ : VS} (J : Ju σ τ) : wp_X9fall (fun r σ' => wp_fall (fun r2 τ' => r = r2 ∧ Ju σ' τ') p1 p2 τ) p1 p2 σ := by
  have a1 : wp_X9fall (fun _ σ' => Eo [0, 1] [38] σ σ') p1 p2 σ := rg_X9fall J.cbt.ci (fun _ _ _ e => e)
  have a2 : wp_X9fall (fun _ σ' => Kp σ σ') p1 p2 σ := cx_fall (fun _ => Or.inr (fg_z _)) (fun _ => Kp.r)
  have a : wp_X9fall (fun _ σ' => Eo [0, 1] [38] σ σ' ∧ Kp σ σ') p1 p2 σ := am_X9fall a1 a2 (fun _ _ u v => ⟨u, v⟩)
  have b1 : wp_fall (fun _ τ' => Eo [] [17] τ τ') p1 p2 τ := rg_fall J.rb.1 (fun _ _ _ e => e)
  have b2 : wp_fall (fun _ τ' => Dz τ') p1 p2 τ := rg_fall J.rb.1 (fun _ _ _ e => J.rb.2.2.2.1.sz e (by decide) (fun c _ => by rw [vv_eo e (by decide)]))
  have b : wp_fall (fun _ τ' => Eo [] [17] τ τ' ∧ Dz τ') p1 p2 τ := am_fall b1 b2 (fun _ _ u v => ⟨u, v⟩)
  exact am_X9fall (qt_fall J.1) a (fun _ σ' u v => am_fall u b (fun _ τ' x y => ⟨x.1, x.2, J.set v.1 y.1 (v.2.k y.1 (by decide)) y.2 (by decide) (by decide) (by decide)⟩))
theorem qu_corner {p1 p2 : Int32} {σ τ : VS} (J : Ju σ τ) : wp_X9corner (fun r σ' => wp_corner (fun r2 τ' => r = r2 ∧ Ju σ' τ') p1 p2 τ) p1 p2 σ := by
  have a1 : wp_X9corner (fun _ σ' => Eo [0, 1, 7, 8] [] σ σ') p1 p2 σ := rg_X9corner J.cbt.ci (fun _ _ _ e => e)
  have a2 : wp_X9corner (fun _ σ' => Kp σ σ') p1 p2 σ := cx_corner (fun _ => Or.inr (fg_z _)) (fun _ => Kp.r)
  have a : wp_X9corner (fun _ σ' => Eo [0, 1, 7, 8] [] σ σ' ∧ Kp σ σ') p1 p2 σ := am_X9corner a1 a2 (fun _ _ u v => ⟨u, v⟩)
  have b1 : wp_corner (fun _ τ' => Eo [18, 19] [] τ τ') p1 p2 τ := rg_corner J.rb.1 (fun _ _ _ e => e)
  have b2 : wp_corner (fun _ τ' => Dz τ') p1 p2 τ := rg_corner J.rb.1 (fun _ _ _ e => J.rb.2.2.2.1.sz e (by decide) (fun c _ => by rw [vv_eo e (by decide)]))
  have b : wp_corner (fun _ τ' => Eo [18, 19] [] τ τ' ∧ Dz τ') p1 p2 τ := am_corner b1 b2 (fun _ _ u v => ⟨u, v⟩)
  exact am_X9corner (qt_corner J.1) a (fun _ σ' u v => am_corner u b (fun _ τ' x y => ⟨x.1, x.2, J.set v.1 y.1 (v.2.k y.1 (by decide)) y.2 (by decide) (by decide) (by decide)⟩))
theorem qu_period {p1 : Int32} {σ τ : VS} (J : Ju σ τ) : wp_X9period (fun r σ' => wp_period (fun r2 τ' => r = r2 ∧ Ju σ' τ') p1 τ) p1 σ := by
  have a1 : wp_X9period (fun _ σ' => Eo [0, 1, 4] [] σ σ') p1 σ := cs_period J.cbt.ci J.1.1.1.1.2.1 (fun _ _ _ _ e _ => e)
  have a2 : wp_X9period (fun _ σ' => Kp σ σ') p1 σ := by
    unfold wp_X9period wp_X9forget
    exact xwithin_x (fun _ => ⟨fun _ x _ => Or.inr (fg_z _), fun z => absurd z (by decide)⟩) (fun _ => ⟨fun z => absurd rfl z, fun _ => Kp.r⟩)
  have a : wp_X9period (fun _ σ' => Eo [0, 1, 4] [] σ σ' ∧ Kp σ σ') p1 σ := am_X9period a1 a2 (fun _ _ u v => ⟨u, v⟩)
  have b1 : wp_period (fun _ τ' => Eo [20] [] τ τ') p1 τ := rs_period J.rb.2.1 J.rb.1 J.rb.2.2.2.2 (fun _ _ _ _ _ e _ => e)
  have b2 : wp_period (fun _ τ' => Dz τ') p1 τ := rs_period J.rb.2.1 J.rb.1 J.rb.2.2.2.2 (fun _ _ _ _ _ e _ => J.rb.2.2.2.1.sz e (by decide) (fun c _ => by rw [vv_eo e (by decide)]))
  have b : wp_period (fun _ τ' => Eo [20] [] τ τ' ∧ Dz τ') p1 τ := am_period b1 b2 (fun _ _ u v => ⟨u, v⟩)
  exact am_X9period (qt_period J.1) a (fun _ σ' u v => am_period u b (fun _ τ' x y => ⟨x.1, x.2, J.set v.1 y.1 (v.2.k y.1 (by decide)) y.2 (by decide) (by decide) (by decide)⟩))
theorem qu_target {p1 p2 p3 p4 : Int32} {σ τ : VS} (J : Ju σ τ) : wp_X9target (fun r σ' => wp_target (fun r2 τ' => r = r2 ∧ Ju σ' τ') p1 p2 p3 p4 τ) p1 p2 p3 p4 σ := by
  have a1 : wp_X9target (fun _ σ' => Eo [0, 1] [25, 26, 27] σ σ') p1 p2 p3 p4 σ := rg_X9target J.cbt.ci (fun _ _ _ e => e)
  have a2 : wp_X9target (fun r σ' => (σ' = σ ∧ r.toInt < 0) ∨ Fz σ') p1 p2 p3 p4 σ := cx_target J.cbt.ci (fun _ _ _ => Or.inr (fg_z _)) (fun _ _ _ => Or.inl ⟨rfl, by decide⟩) (fun _ => Or.inl ⟨rfl, by decide⟩)
  have a : wp_X9target (fun r σ' => Eo [0, 1] [25, 26, 27] σ σ' ∧ ((σ' = σ ∧ r.toInt < 0) ∨ Fz σ')) p1 p2 p3 p4 σ := am_X9target a1 a2 (fun _ _ u v => ⟨u, v⟩)
  have b1 : wp_target (fun _ τ' => Eo [] [11, 12, 13] τ τ') p1 p2 p3 p4 τ := rs_target J.rb.2.1 J.rb.1 J.rb.2.2.2.2 (fun _ _ _ _ _ e => e)
  have b2 : wp_target (fun r τ' => r.toInt < 0 → τ' = τ) p1 p2 p3 p4 τ := rx_target J.rb.1 (fun _ _ _ w => absurd w (by decide)) (fun _ _ _ _ => rfl) (fun _ _ => rfl)
  have b : wp_target (fun r τ' => Eo [] [11, 12, 13] τ τ' ∧ (r.toInt < 0 → τ' = τ)) p1 p2 p3 p4 τ := am_target b1 b2 (fun _ _ u v => ⟨u, v⟩)
  refine am_X9target (qt_target J.1) a (fun r σ' u v => am_target u b (fun r2 τ' x y => ⟨x.1, x.2, J.set v.1 y.1 ?_ (J.rb.2.2.2.1.sz y.1 (by decide) (fun c _ => by rw [vv_eo y.1 (by decide)])) (by decide) (by decide) (by decide)⟩))
  rcases v.2 with w | w
  · refine Or.inl ⟨by rw [w.1]; exact Eo.rfl, ?_⟩
    rw [y.2 (by rw [← x.1]; exact w.2)]
  · exact Or.inr w
