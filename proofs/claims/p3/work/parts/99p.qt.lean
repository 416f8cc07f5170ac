def Jt (σ τ : VS) : Prop := Js σ τ ∧ Dw σ τ
theorem zt : Jt zc zm := by
  have e2 : (zc.1 2).toInt = 0 := by decide
  have e3 : (zc.1 3).toInt = 0 := by decide
  have s0 : ∀ w, srcf zc w = -5 := fun w => by show (z2c 16).toInt = -5; decide
  refine ⟨zs, fun w h => by omega, fun w _ => rfl, fun w h => by rw [s0] at h; omega, ⟨fun i h => by omega, fun i j h => by omega, fun c h => by omega, fun i w h => by omega⟩, fun n hn => ?_⟩
  have en : n = 0 := by omega
  subst en
  refine ⟨fun c hc => ?_, fun w hw => by omega⟩
  have ec : c = 0 := by omega
  subst ec
  rfl
theorem qt_count {p1 : Int32} {σ τ : VS} (J : Jt σ τ) : wp_X9count (fun r σ' => wp_count (fun r2 τ' => r = r2 ∧ Jt σ' τ') p1 τ) p1 σ :=
  cs_count (fun _ a => rs_count (fun _ b => ⟨J.1.1.1.2.2.2.2.2.count a b, J⟩))
theorem qt_common {p1 p2 : Int32} {σ τ : VS} (J : Jt σ τ) : wp_X9common (fun r σ' => wp_common (fun r2 τ' => r = r2 ∧ Jt σ' τ') p1 p2 τ) p1 p2 σ :=
  am_X9common (dp_common J.1.1.1 J.1.1.2 J.1.2) (dp_common J.1.1.1 J.1.1.2 J.1.2) (fun _ _ u _ => am_common u u (fun _ _ x _ => ⟨x.1, by rw [x.2.1, x.2.2]; exact J⟩))
theorem qt_takes {p1 p2 : Int32} {σ τ : VS} (J : Jt σ τ) : wp_X9takes (fun r σ' => wp_takes (fun r2 τ' => r = r2 ∧ Jt σ' τ') p1 p2 τ) p1 p2 σ :=
  am_X9takes (dp_takes J.1.1.1 J.1.1.2 J.2) (dp_takes J.1.1.1 J.1.1.2 J.2) (fun _ _ u _ => am_takes u u (fun _ _ x _ => ⟨x.1, by rw [x.2.1, x.2.2]; exact J⟩))
theorem qt_wire {p1 p2 p3 : Int32} {σ τ : VS} (J : Jt σ τ) : wp_X9wire (fun r σ' => wp_wire (fun r2 τ' => r = r2 ∧ Jt σ' τ') p1 p2 p3 τ) p1 p2 p3 σ :=
  am_X9wire (qs_wire J.1) (dw_wire J.1.1.1 J.1.1.2 J.2) (fun _ _ u v => am_wire u v (fun _ _ x y => ⟨y.1, x, y.2⟩))
theorem qt_make {p1 p2 p3 : Int32} {σ τ : VS} (J : Jt σ τ) : wp_X9make (fun r σ' => wp_make (fun r2 τ' => r = r2 ∧ Jt σ' τ') p1 p2 p3 τ) p1 p2 p3 σ :=
  am_X9make (qs_make J.1) (dw_make J.1.1.1 J.1.1.2 J.2) (fun _ _ u v => am_make u v (fun _ _ x y => ⟨x.1, x.2, y⟩))
theorem dw_extra {p1 p2 : Int32} {σ τ : VS} (J : Jn σ τ) (W : Dw σ τ) : wp_X9extra (fun _ σ' => wp_extra (fun _ τ' => Dw σ' τ') p1 p2 τ) p1 p2 σ := by
  obtain ⟨hM, hC, hM2, hS, hL, hk⟩ := J
  exact rg_X9extra hM (fun _ σ' h e1 => rg_extra hM2 (fun _ τ' g e2 => W.quiet e1 e2 (by decide) (by decide)))
theorem dw_port {p1 p2 p3 p4 : Int32} {σ τ : VS} (J : Jn σ τ) (W : Dw σ τ) : wp_X9port (fun _ σ' => wp_port (fun _ τ' => Dw σ' τ') p1 p2 p3 p4 τ) p1 p2 p3 p4 σ := by
  obtain ⟨hM, hC, hM2, hS, hL, hk⟩ := J
  exact rg_X9port hM (fun _ σ' h e1 => rg_port hM2 (fun _ τ' g e2 => W.quiet e1 e2 (by decide) (by decide)))
theorem dw_target {p1 p2 p3 p4 : Int32} {σ τ : VS} (J : Jn σ τ) (W : Dw σ τ) : wp_X9target (fun _ σ' => wp_target (fun _ τ' => Dw σ' τ') p1 p2 p3 p4 τ) p1 p2 p3 p4 σ := by
  obtain ⟨hM, hC, hM2, hS, hL, hk⟩ := J
  exact rg_X9target hM (fun _ σ' h e1 => rs_target hS hM2 hL (fun _ τ' g g1 g2 e2 => W.quiet e1 e2 (by decide) (by decide)))
theorem dw_entry {p1 p2 p3 p4 p5 : Int32} {σ τ : VS} (J : Jn σ τ) (W : Dw σ τ) : wp_X9entry (fun _ σ' => wp_entry (fun _ τ' => Dw σ' τ') p1 p2 p3 p4 p5 τ) p1 p2 p3 p4 p5 σ := by
  obtain ⟨hM, hC, hM2, hS, hL, hk⟩ := J
  exact rg_X9entry hM (fun _ σ' h e1 => rg_entry hM2 (fun _ τ' g e2 => W.quiet e1 e2 (by decide) (by decide)))
theorem dw_tear {p1 p2 p3 p4 : Int32} {σ τ : VS} (J : Jn σ τ) (W : Dw σ τ) : wp_X9tear (fun _ σ' => wp_tear (fun _ τ' => Dw σ' τ') p1 p2 p3 p4 τ) p1 p2 p3 p4 σ := by
  obtain ⟨hM, hC, hM2, hS, hL, hk⟩ := J
  exact rg_X9tear hM (fun _ σ' h e1 => rg_tear hM2 (fun _ τ' g e2 => W.quiet e1 e2 (by decide) (by decide)))
theorem dw_fall {p1 p2 : Int32} {σ τ : VS} (J : Jn σ τ) (W : Dw σ τ) : wp_X9fall (fun _ σ' => wp_fall (fun _ τ' => Dw σ' τ') p1 p2 τ) p1 p2 σ := by
  obtain ⟨hM, hC, hM2, hS, hL, hk⟩ := J
  exact rg_X9fall hM (fun _ σ' h e1 => rg_fall hM2 (fun _ τ' g e2 => W.quiet e1 e2 (by decide) (by decide)))
theorem dw_corner {p1 p2 : Int32} {σ τ : VS} (J : Jn σ τ) (W : Dw σ τ) : wp_X9corner (fun _ σ' => wp_corner (fun _ τ' => Dw σ' τ') p1 p2 τ) p1 p2 σ := by
  obtain ⟨hM, hC, hM2, hS, hL, hk⟩ := J
  exact rg_X9corner hM (fun _ σ' h e1 => rg_corner hM2 (fun _ τ' g e2 => W.quiet e1 e2 (by decide) (by decide)))
theorem dw_period {p1 : Int32} {σ τ : VS} (J : Jn σ τ) (W : Dw σ τ) : wp_X9period (fun _ σ' => wp_period (fun _ τ' => Dw σ' τ') p1 τ) p1 σ := by
  obtain ⟨hM, hC, hM2, hS, hL, hk⟩ := J
  exact cs_period hM hC (fun _ σ' _ _ e1 _ => rs_period hS hM2 hL (fun _ τ' _ _ _ e2 _ => W.quiet e1 e2 (by decide) (by decide)))
theorem dw_node {p1 p2 p3 : Int32} {σ τ : VS} (J : Jn σ τ) (W : Dw σ τ) : wp_X9node (fun _ σ' => wp_node (fun _ τ' => Dw σ' τ') p1 p2 p3 τ) p1 p2 p3 σ := by
  obtain ⟨hM, hC, hM2, hS, hL, hk⟩ := J
  exact cs_node hM hC (fun _ σ' _ _ e1 _ => rs_node hS hM2 hL (fun _ τ' _ _ _ e2 _ => W.quiet e1 e2 (by decide) (by decide)))
theorem dw_except {p1 p2 p3 p4 : Int32} {σ τ : VS} (J : Jn σ τ) (W : Dw σ τ) : wp_X9except (fun _ σ' => wp_except (fun _ τ' => Dw σ' τ') p1 p2 p3 p4 τ) p1 p2 p3 p4 σ := by
  obtain ⟨hM, hC, hM2, hS, hL, hk⟩ := J
  exact cs_except hM hC (fun _ σ' _ _ e1 _ => rs_except hS hM2 hL (fun _ τ' _ _ _ e2 _ => W.quiet e1 e2 (by decide) (by decide)))
theorem dw_unexcept {σ τ : VS} (J : Jn σ τ) (W : Dw σ τ) : wp_X9unexcept (fun _ σ' => wp_unexcept (fun _ τ' => Dw σ' τ')  τ)  σ := by
  obtain ⟨hM, hC, hM2, hS, hL, hk⟩ := J
  exact cs_unexcept hM hC (fun _ σ' _ _ e1 _ => rs_unexcept hS hM2 hL (fun _ τ' _ _ _ e2 _ => W.quiet e1 e2 (by decide) (by decide)))
theorem qt_extra {p1 p2 : Int32} {σ τ : VS} (J : Jt σ τ) : wp_X9extra (fun r σ' => wp_extra (fun r2 τ' => r = r2 ∧ Jt σ' τ') p1 p2 τ) p1 p2 σ :=
  am_X9extra (qs_extra J.1) (dw_extra J.1.1.1 J.2) (fun _ _ u v => am_extra u v (fun _ _ x y => ⟨x.1, x.2, y⟩))
theorem qt_port {p1 p2 p3 p4 : Int32} {σ τ : VS} (J : Jt σ τ) : wp_X9port (fun r σ' => wp_port (fun r2 τ' => r = r2 ∧ Jt σ' τ') p1 p2 p3 p4 τ) p1 p2 p3 p4 σ :=
  am_X9port (qs_port J.1) (dw_port J.1.1.1 J.2) (fun _ _ u v => am_port u v (fun _ _ x y => ⟨x.1, x.2, y⟩))
theorem qt_target {p1 p2 p3 p4 : Int32} {σ τ : VS} (J : Jt σ τ) : wp_X9target (fun r σ' => wp_target (fun r2 τ' => r = r2 ∧ Jt σ' τ') p1 p2 p3 p4 τ) p1 p2 p3 p4 σ :=
  am_X9target (qs_target J.1) (dw_target J.1.1.1 J.2) (fun _ _ u v => am_target u v (fun _ _ x y => ⟨x.1, x.2, y⟩))
theorem qt_entry {p1 p2 p3 p4 p5 : Int32} {σ τ : VS} (J : Jt σ τ) : wp_X9entry (fun r σ' => wp_entry (fun r2 τ' => r = r2 ∧ Jt σ' τ') p1 p2 p3 p4 p5 τ) p1 p2 p3 p4 p5 σ :=
  am_X9entry (qs_entry J.1) (dw_entry J.1.1.1 J.2) (fun _ _ u v => am_entry u v (fun _ _ x y => ⟨x.1, x.2, y⟩))
theorem qt_tear {p1 p2 p3 p4 : Int32} {σ τ : VS} (J : Jt σ τ) : wp_X9tear (fun r σ' => wp_tear (fun r2 τ' => r = r2 ∧ Jt σ' τ') p1 p2 p3 p4 τ) p1 p2 p3 p4 σ :=
  am_X9tear (qs_tear J.1) (dw_tear J.1.1.1 J.2) (fun _ _ u v => am_tear u v (fun _ _ x y => ⟨x.1, x.2, y⟩))
theorem qt_fall {p1 p2 : Int32} {σ τ : VS} (J : Jt σ τ) : wp_X9fall (fun r σ' => wp_fall (fun r2 τ' => r = r2 ∧ Jt σ' τ') p1 p2 τ) p1 p2 σ :=
  am_X9fall (qs_fall J.1) (dw_fall J.1.1.1 J.2) (fun _ _ u v => am_fall u v (fun _ _ x y => ⟨x.1, x.2, y⟩))
theorem qt_corner {p1 p2 : Int32} {σ τ : VS} (J : Jt σ τ) : wp_X9corner (fun r σ' => wp_corner (fun r2 τ' => r = r2 ∧ Jt σ' τ') p1 p2 τ) p1 p2 σ :=
  am_X9corner (qs_corner J.1) (dw_corner J.1.1.1 J.2) (fun _ _ u v => am_corner u v (fun _ _ x y => ⟨x.1, x.2, y⟩))
theorem qt_period {p1 : Int32} {σ τ : VS} (J : Jt σ τ) : wp_X9period (fun r σ' => wp_period (fun r2 τ' => r = r2 ∧ Jt σ' τ') p1 τ) p1 σ :=
  am_X9period (qs_period J.1) (dw_period J.1.1.1 J.2) (fun _ _ u v => am_period u v (fun _ _ x y => ⟨x.1, x.2, y⟩))
theorem qt_node {p1 p2 p3 : Int32} {σ τ : VS} (J : Jt σ τ) : wp_X9node (fun r σ' => wp_node (fun r2 τ' => r = r2 ∧ Jt σ' τ') p1 p2 p3 τ) p1 p2 p3 σ :=
  am_X9node (qs_node J.1) (dw_node J.1.1.1 J.2) (fun _ _ u v => am_node u v (fun _ _ x y => ⟨x.1, x.2, y⟩))
theorem qt_except {p1 p2 p3 p4 : Int32} {σ τ : VS} (J : Jt σ τ) : wp_X9except (fun r σ' => wp_except (fun r2 τ' => r = r2 ∧ Jt σ' τ') p1 p2 p3 p4 τ) p1 p2 p3 p4 σ :=
  am_X9except (qs_except J.1) (dw_except J.1.1.1 J.2) (fun _ _ u v => am_except u v (fun _ _ x y => ⟨x.1, x.2, y⟩))
theorem qt_unexcept {σ τ : VS} (J : Jt σ τ) : wp_X9unexcept (fun r σ' => wp_unexcept (fun r2 τ' => r = r2 ∧ Jt σ' τ')  τ)  σ :=
  am_X9unexcept (qs_unexcept J.1) (dw_unexcept J.1.1.1 J.2) (fun _ _ u v => am_unexcept u v (fun _ _ x y => ⟨x.1, x.2, y⟩))
theorem qt_size {p1 p2 : Int32} {σ τ : VS} (J : Jt σ τ) : wp_X9size (fun _ σ' => wp_size (fun _ τ' => Jt σ' τ') p1 p2 τ) p1 p2 σ := by
  obtain ⟨⟨⟨⟨hM, hC, hM2, hS, hL, hk⟩, D⟩, N⟩, W⟩ := J
  refine rg_X9size hM (fun _ σ' h e1 => ?_)
  have A : CI σ' ∧ CSrc σ' ∧ Gc σ σ' := ⟨h, hC.same e1 (by decide), e1.1 2 (by decide), e1.1 4 (by decide), e1.1 5 (by decide), e1.1 6 (by decide)⟩
  refine rg_size hM2 (fun _ τ' g e2 => ?_)
  have B : MI τ' ∧ SI τ' ∧ LI τ' ∧ Gm τ τ' := ⟨g, hS.same e2 (by decide), hL.same e2 (by decide), e2.1 1 (by decide), e2.1 20 (by decide), e2.1 21 (by decide), e2.1 25 (by decide)⟩
  exact ⟨⟨⟨⟨A.1, A.2.1, B.1, B.2.1, B.2.2.1, hk.quiet A.2.2 B.2.2.2⟩, D.quiet e1 e2 (by decide) (by decide)⟩, N.quiet e1 e2 (by decide) (by decide)⟩, W.quiet e1 e2 (by decide) (by decide)⟩
theorem qt_about {p1 p2 : Int32} {σ τ : VS} (J : Jt σ τ) : wp_X9about (fun _ σ' => wp_about (fun _ τ' => Jt σ' τ') p1 p2 τ) p1 p2 σ := by
  obtain ⟨⟨⟨⟨hM, hC, hM2, hS, hL, hk⟩, D⟩, N⟩, W⟩ := J
  refine rg_X9about hM (fun _ σ' h e1 => ?_)
  have A : CI σ' ∧ CSrc σ' ∧ Gc σ σ' := ⟨h, hC.same e1 (by decide), e1.1 2 (by decide), e1.1 4 (by decide), e1.1 5 (by decide), e1.1 6 (by decide)⟩
  refine rg_about hS hM2 (fun _ τ' g e2 => ?_)
  have B : MI τ' ∧ SI τ' ∧ LI τ' ∧ Gm τ τ' := ⟨g, hS.same e2 (by decide), hL.same e2 (by decide), e2.1 1 (by decide), e2.1 20 (by decide), e2.1 21 (by decide), e2.1 25 (by decide)⟩
  exact ⟨⟨⟨⟨A.1, A.2.1, B.1, B.2.1, B.2.2.1, hk.quiet A.2.2 B.2.2.2⟩, D.quiet e1 e2 (by decide) (by decide)⟩, N.quiet e1 e2 (by decide) (by decide)⟩, W.quiet e1 e2 (by decide) (by decide)⟩
theorem qt_arrival {p1 p2 p3 : Int32} {σ τ : VS} (J : Jt σ τ) : wp_X9arrival (fun _ σ' => wp_arrival (fun _ τ' => Jt σ' τ') p1 p2 p3 τ) p1 p2 p3 σ := by
  obtain ⟨⟨⟨⟨hM, hC, hM2, hS, hL, hk⟩, D⟩, N⟩, W⟩ := J
  refine rg_X9arrival hM (fun _ σ' h e1 => ?_)
  have A : CI σ' ∧ CSrc σ' ∧ Gc σ σ' := ⟨h, hC.same e1 (by decide), e1.1 2 (by decide), e1.1 4 (by decide), e1.1 5 (by decide), e1.1 6 (by decide)⟩
  refine rg_arrival hS hM2 (fun _ τ' g e2 => ?_)
  have B : MI τ' ∧ SI τ' ∧ LI τ' ∧ Gm τ τ' := ⟨g, hS.same e2 (by decide), hL.same e2 (by decide), e2.1 1 (by decide), e2.1 20 (by decide), e2.1 21 (by decide), e2.1 25 (by decide)⟩
  exact ⟨⟨⟨⟨A.1, A.2.1, B.1, B.2.1, B.2.2.1, hk.quiet A.2.2 B.2.2.2⟩, D.quiet e1 e2 (by decide) (by decide)⟩, N.quiet e1 e2 (by decide) (by decide)⟩, W.quiet e1 e2 (by decide) (by decide)⟩
theorem qt_told {p1 : Int32} {σ τ : VS} (J : Jt σ τ) : wp_X9told (fun _ σ' => wp_told (fun _ τ' => Jt σ' τ') p1 τ) p1 σ := by
  obtain ⟨⟨⟨⟨hM, hC, hM2, hS, hL, hk⟩, D⟩, N⟩, W⟩ := J
  refine rg_X9told hM (fun _ σ' h e1 => ?_)
  have A : CI σ' ∧ CSrc σ' ∧ Gc σ σ' := ⟨h, hC.same e1 (by decide), e1.1 2 (by decide), e1.1 4 (by decide), e1.1 5 (by decide), e1.1 6 (by decide)⟩
  refine rg_told hS hM2 (fun _ τ' g e2 => ?_)
  have B : MI τ' ∧ SI τ' ∧ LI τ' ∧ Gm τ τ' := ⟨g, hS.same e2 (by decide), hL.same e2 (by decide), e2.1 1 (by decide), e2.1 20 (by decide), e2.1 21 (by decide), e2.1 25 (by decide)⟩
  exact ⟨⟨⟨⟨A.1, A.2.1, B.1, B.2.1, B.2.2.1, hk.quiet A.2.2 B.2.2.2⟩, D.quiet e1 e2 (by decide) (by decide)⟩, N.quiet e1 e2 (by decide) (by decide)⟩, W.quiet e1 e2 (by decide) (by decide)⟩
theorem qt_slack {p1 : Int32} {σ τ : VS} (J : Jt σ τ) : wp_X9slack (fun _ σ' => wp_slack (fun _ τ' => Jt σ' τ') p1 τ) p1 σ := by
  obtain ⟨⟨⟨⟨hM, hC, hM2, hS, hL, hk⟩, D⟩, N⟩, W⟩ := J
  refine rg_X9slack hM (fun _ σ' h e1 => ?_)
  have A : CI σ' ∧ CSrc σ' ∧ Gc σ σ' := ⟨h, hC.same e1 (by decide), e1.1 2 (by decide), e1.1 4 (by decide), e1.1 5 (by decide), e1.1 6 (by decide)⟩
  refine rg_slack hS hM2 (fun _ τ' g e2 => ?_)
  have B : MI τ' ∧ SI τ' ∧ LI τ' ∧ Gm τ τ' := ⟨g, hS.same e2 (by decide), hL.same e2 (by decide), e2.1 1 (by decide), e2.1 20 (by decide), e2.1 21 (by decide), e2.1 25 (by decide)⟩
  exact ⟨⟨⟨⟨A.1, A.2.1, B.1, B.2.1, B.2.2.1, hk.quiet A.2.2 B.2.2.2⟩, D.quiet e1 e2 (by decide) (by decide)⟩, N.quiet e1 e2 (by decide) (by decide)⟩, W.quiet e1 e2 (by decide) (by decide)⟩
theorem qt_hold {p1 : Int32} {σ τ : VS} (J : Jt σ τ) : wp_X9hold (fun _ σ' => wp_hold (fun _ τ' => Jt σ' τ') p1 τ) p1 σ := by
  obtain ⟨⟨⟨⟨hM, hC, hM2, hS, hL, hk⟩, D⟩, N⟩, W⟩ := J
  refine rg_X9hold hM (fun _ σ' h e1 => ?_)
  have A : CI σ' ∧ CSrc σ' ∧ Gc σ σ' := ⟨h, hC.same e1 (by decide), e1.1 2 (by decide), e1.1 4 (by decide), e1.1 5 (by decide), e1.1 6 (by decide)⟩
  refine rg_hold hS hM2 (fun _ τ' g e2 => ?_)
  have B : MI τ' ∧ SI τ' ∧ LI τ' ∧ Gm τ τ' := ⟨g, hS.same e2 (by decide), hL.same e2 (by decide), e2.1 1 (by decide), e2.1 20 (by decide), e2.1 21 (by decide), e2.1 25 (by decide)⟩
  exact ⟨⟨⟨⟨A.1, A.2.1, B.1, B.2.1, B.2.2.1, hk.quiet A.2.2 B.2.2.2⟩, D.quiet e1 e2 (by decide) (by decide)⟩, N.quiet e1 e2 (by decide) (by decide)⟩, W.quiet e1 e2 (by decide) (by decide)⟩
theorem qt_worst {p1 : Int32} {σ τ : VS} (J : Jt σ τ) : wp_X9worst (fun _ σ' => wp_worst (fun _ τ' => Jt σ' τ') p1 τ) p1 σ := by
  obtain ⟨⟨⟨⟨hM, hC, hM2, hS, hL, hk⟩, D⟩, N⟩, W⟩ := J
  refine rg_X9worst hM (fun _ σ' h e1 => ?_)
  have A : CI σ' ∧ CSrc σ' ∧ Gc σ σ' := ⟨h, hC.same e1 (by decide), e1.1 2 (by decide), e1.1 4 (by decide), e1.1 5 (by decide), e1.1 6 (by decide)⟩
  refine rg_worst hS hM2 (fun _ τ' g e2 => ?_)
  have B : MI τ' ∧ SI τ' ∧ LI τ' ∧ Gm τ τ' := ⟨g, hS.same e2 (by decide), hL.same e2 (by decide), e2.1 1 (by decide), e2.1 20 (by decide), e2.1 21 (by decide), e2.1 25 (by decide)⟩
  exact ⟨⟨⟨⟨A.1, A.2.1, B.1, B.2.1, B.2.2.1, hk.quiet A.2.2 B.2.2.2⟩, D.quiet e1 e2 (by decide) (by decide)⟩, N.quiet e1 e2 (by decide) (by decide)⟩, W.quiet e1 e2 (by decide) (by decide)⟩
theorem qt_paths {p1 : Int32} {σ τ : VS} (J : Jt σ τ) : wp_X9paths (fun _ σ' => wp_paths (fun _ τ' => Jt σ' τ') p1 τ) p1 σ := by
  obtain ⟨⟨⟨⟨hM, hC, hM2, hS, hL, hk⟩, D⟩, N⟩, W⟩ := J
  refine rg_X9paths hM (fun _ σ' h e1 => ?_)
  have A : CI σ' ∧ CSrc σ' ∧ Gc σ σ' := ⟨h, hC.same e1 (by decide), e1.1 2 (by decide), e1.1 4 (by decide), e1.1 5 (by decide), e1.1 6 (by decide)⟩
  refine rg_paths hS hM2 (fun _ τ' g e2 => ?_)
  have B : MI τ' ∧ SI τ' ∧ LI τ' ∧ Gm τ τ' := ⟨g, hS.same e2 (by decide), hL.same e2 (by decide), e2.1 1 (by decide), e2.1 20 (by decide), e2.1 21 (by decide), e2.1 25 (by decide)⟩
  exact ⟨⟨⟨⟨A.1, A.2.1, B.1, B.2.1, B.2.2.1, hk.quiet A.2.2 B.2.2.2⟩, D.quiet e1 e2 (by decide) (by decide)⟩, N.quiet e1 e2 (by decide) (by decide)⟩, W.quiet e1 e2 (by decide) (by decide)⟩
theorem qt_path {p1 p2 : Int32} {σ τ : VS} (J : Jt σ τ) : wp_X9path (fun _ σ' => wp_path (fun _ τ' => Jt σ' τ') p1 p2 τ) p1 p2 σ := by
  obtain ⟨⟨⟨⟨hM, hC, hM2, hS, hL, hk⟩, D⟩, N⟩, W⟩ := J
  refine rg_X9path hM (fun _ σ' h e1 => ?_)
  have A : CI σ' ∧ CSrc σ' ∧ Gc σ σ' := ⟨h, hC.same e1 (by decide), e1.1 2 (by decide), e1.1 4 (by decide), e1.1 5 (by decide), e1.1 6 (by decide)⟩
  refine rg_path hS hM2 hL (fun _ τ' g g2 e2 => ?_)
  have B : MI τ' ∧ SI τ' ∧ LI τ' ∧ Gm τ τ' := ⟨g, hS.same e2 (by decide), g2, e2.1 1 (by decide), e2.1 20 (by decide), e2.1 21 (by decide), e2.1 25 (by decide)⟩
  exact ⟨⟨⟨⟨A.1, A.2.1, B.1, B.2.1, B.2.2.1, hk.quiet A.2.2 B.2.2.2⟩, D.quiet e1 e2 (by decide) (by decide)⟩, N.quiet e1 e2 (by decide) (by decide)⟩, W.quiet e1 e2 (by decide) (by decide)⟩
theorem qt_step {p1 p2 : Int32} {σ τ : VS} (J : Jt σ τ) : wp_X9step (fun _ σ' => wp_step (fun _ τ' => Jt σ' τ') p1 p2 τ) p1 p2 σ := by
  obtain ⟨⟨⟨⟨hM, hC, hM2, hS, hL, hk⟩, D⟩, N⟩, W⟩ := J
  refine rg_X9step hM (fun _ σ' h e1 => ?_)
  have A : CI σ' ∧ CSrc σ' ∧ Gc σ σ' := ⟨h, hC.same e1 (by decide), e1.1 2 (by decide), e1.1 4 (by decide), e1.1 5 (by decide), e1.1 6 (by decide)⟩
  refine rg_step hM2 (fun _ τ' g e2 => ?_)
  have B : MI τ' ∧ SI τ' ∧ LI τ' ∧ Gm τ τ' := ⟨g, hS.same e2 (by decide), hL.same e2 (by decide), e2.1 1 (by decide), e2.1 20 (by decide), e2.1 21 (by decide), e2.1 25 (by decide)⟩
  exact ⟨⟨⟨⟨A.1, A.2.1, B.1, B.2.1, B.2.2.1, hk.quiet A.2.2 B.2.2.2⟩, D.quiet e1 e2 (by decide) (by decide)⟩, N.quiet e1 e2 (by decide) (by decide)⟩, W.quiet e1 e2 (by decide) (by decide)⟩
theorem qt_least {p1 : Int32} {σ τ : VS} (J : Jt σ τ) : wp_X9least (fun _ σ' => wp_least (fun _ τ' => Jt σ' τ') p1 τ) p1 σ := by
  obtain ⟨⟨⟨⟨hM, hC, hM2, hS, hL, hk⟩, D⟩, N⟩, W⟩ := J
  refine rg_X9least hM (fun _ σ' h e1 => ?_)
  have A : CI σ' ∧ CSrc σ' ∧ Gc σ σ' := ⟨h, hC.same e1 (by decide), e1.1 2 (by decide), e1.1 4 (by decide), e1.1 5 (by decide), e1.1 6 (by decide)⟩
  refine rg_least hS hM2 hL (fun _ τ' g g2 e2 => ?_)
  have B : MI τ' ∧ SI τ' ∧ LI τ' ∧ Gm τ τ' := ⟨g, hS.same e2 (by decide), g2, e2.1 1 (by decide), e2.1 20 (by decide), e2.1 21 (by decide), e2.1 25 (by decide)⟩
  exact ⟨⟨⟨⟨A.1, A.2.1, B.1, B.2.1, B.2.2.1, hk.quiet A.2.2 B.2.2.2⟩, D.quiet e1 e2 (by decide) (by decide)⟩, N.quiet e1 e2 (by decide) (by decide)⟩, W.quiet e1 e2 (by decide) (by decide)⟩
theorem qt_fix  {σ τ : VS} (J : Jt σ τ) : wp_X9fix (fun _ σ' => wp_fix (fun _ τ' => Jt σ' τ')  τ)  σ := by
  obtain ⟨⟨⟨⟨hM, hC, hM2, hS, hL, hk⟩, D⟩, N⟩, W⟩ := J
  refine rg_X9fix hM (fun _ σ' h e1 => ?_)
  have A : CI σ' ∧ CSrc σ' ∧ Gc σ σ' := ⟨h, hC.same e1 (by decide), e1.1 2 (by decide), e1.1 4 (by decide), e1.1 5 (by decide), e1.1 6 (by decide)⟩
  refine rg_fix hS hM2 hL (fun _ τ' g g2 e2 => ?_)
  have B : MI τ' ∧ SI τ' ∧ LI τ' ∧ Gm τ τ' := ⟨g, hS.same e2 (by decide), g2, e2.1 1 (by decide), e2.1 20 (by decide), e2.1 21 (by decide), e2.1 25 (by decide)⟩
  exact ⟨⟨⟨⟨A.1, A.2.1, B.1, B.2.1, B.2.2.1, hk.quiet A.2.2 B.2.2.2⟩, D.quiet e1 e2 (by decide) (by decide)⟩, N.quiet e1 e2 (by decide) (by decide)⟩, W.quiet e1 e2 (by decide) (by decide)⟩
theorem qt_area  {σ τ : VS} (J : Jt σ τ) : wp_X9area (fun _ σ' => wp_area (fun _ τ' => Jt σ' τ')  τ)  σ := by
  obtain ⟨⟨⟨⟨hM, hC, hM2, hS, hL, hk⟩, D⟩, N⟩, W⟩ := J
  refine rg_X9area hM (fun _ σ' h e1 => ?_)
  have A : CI σ' ∧ CSrc σ' ∧ Gc σ σ' := ⟨h, hC.same e1 (by decide), e1.1 2 (by decide), e1.1 4 (by decide), e1.1 5 (by decide), e1.1 6 (by decide)⟩
  refine rg_area hM2 (fun _ τ' g e2 => ?_)
  have B : MI τ' ∧ SI τ' ∧ LI τ' ∧ Gm τ τ' := ⟨g, hS.same e2 (by decide), hL.same e2 (by decide), e2.1 1 (by decide), e2.1 20 (by decide), e2.1 21 (by decide), e2.1 25 (by decide)⟩
  exact ⟨⟨⟨⟨A.1, A.2.1, B.1, B.2.1, B.2.2.1, hk.quiet A.2.2 B.2.2.2⟩, D.quiet e1 e2 (by decide) (by decide)⟩, N.quiet e1 e2 (by decide) (by decide)⟩, W.quiet e1 e2 (by decide) (by decide)⟩
