def Jr (σ τ : VS) : Prop := Jn σ τ ∧ Dt σ τ
theorem zr : Jr zc zm := by
  refine ⟨⟨zc_ci, zc_src, zm_mi, zm_si, zm_li, rfl, rfl, rfl, rfl⟩, ⟨rfl, rfl⟩, fun q _ j h => ?_, fun q hq j _ => ?_, fun q _ j h => ?_, fun q hq => ?_⟩
  · have e : (zc.1 2).toInt = 0 := by decide
    omega
  · have h : ∀ q ∈ freshL, z2c q.1 = q.2 := by decide
    exact h q hq
  · have e : (zc.1 6).toInt = 0 := by decide
    omega
  · have h : ∀ q ∈ tabL, z2c q.1 = z2m q.2 := by decide
    exact funext fun _ => h q hq
theorem qr_count {p1 : Int32} {σ τ : VS} (J : Jr σ τ) : wp_X9count (fun r σ' => wp_count (fun r2 τ' => r = r2 ∧ Jr σ' τ') p1 τ) p1 σ :=
  cs_count (fun _ a => rs_count (fun _ b => ⟨J.1.2.2.2.2.2.count a b, J⟩))
theorem qr_extra {p1 p2 : Int32} {σ τ : VS} (J : Jr σ τ) : wp_X9extra (fun r σ' => wp_extra (fun r2 τ' => r = r2 ∧ Jr σ' τ') p1 p2 τ) p1 p2 σ :=
  am_X9extra (pr_extra J.1) (dp_extra J.1 J.2) (fun _ _ u v => am_extra u v (fun _ _ x y => ⟨y.1, x, y.2⟩))
theorem qr_port {p1 p2 p3 p4 : Int32} {σ τ : VS} (J : Jr σ τ) : wp_X9port (fun r σ' => wp_port (fun r2 τ' => r = r2 ∧ Jr σ' τ') p1 p2 p3 p4 τ) p1 p2 p3 p4 σ :=
  am_X9port (pr_port J.1) (dp_port J.1 J.2) (fun _ _ u v => am_port u v (fun _ _ x y => ⟨y.1, x, y.2⟩))
theorem qr_target {p1 p2 p3 p4 : Int32} {σ τ : VS} (J : Jr σ τ) : wp_X9target (fun r σ' => wp_target (fun r2 τ' => r = r2 ∧ Jr σ' τ') p1 p2 p3 p4 τ) p1 p2 p3 p4 σ :=
  am_X9target (pr_target J.1) (dp_target J.1 J.2) (fun _ _ u v => am_target u v (fun _ _ x y => ⟨y.1, x, y.2⟩))
theorem qr_entry {p1 p2 p3 p4 p5 : Int32} {σ τ : VS} (J : Jr σ τ) : wp_X9entry (fun r σ' => wp_entry (fun r2 τ' => r = r2 ∧ Jr σ' τ') p1 p2 p3 p4 p5 τ) p1 p2 p3 p4 p5 σ :=
  am_X9entry (pr_entry J.1) (dp_entry J.2) (fun _ _ u v => am_entry u v (fun _ _ x y => ⟨y.1, x, y.2⟩))
theorem qr_tear {p1 p2 p3 p4 : Int32} {σ τ : VS} (J : Jr σ τ) : wp_X9tear (fun r σ' => wp_tear (fun r2 τ' => r = r2 ∧ Jr σ' τ') p1 p2 p3 p4 τ) p1 p2 p3 p4 σ :=
  am_X9tear (pr_tear J.1) (dp_tear J.1 J.2) (fun _ _ u v => am_tear u v (fun _ _ x y => ⟨y.1, x, y.2⟩))
theorem qr_fall {p1 p2 : Int32} {σ τ : VS} (J : Jr σ τ) : wp_X9fall (fun r σ' => wp_fall (fun r2 τ' => r = r2 ∧ Jr σ' τ') p1 p2 τ) p1 p2 σ :=
  am_X9fall (pr_fall J.1) (dp_fall J.2) (fun _ _ u v => am_fall u v (fun _ _ x y => ⟨y.1, x, y.2⟩))
theorem qr_corner {p1 p2 : Int32} {σ τ : VS} (J : Jr σ τ) : wp_X9corner (fun r σ' => wp_corner (fun r2 τ' => r = r2 ∧ Jr σ' τ') p1 p2 τ) p1 p2 σ :=
  am_X9corner (pr_corner J.1) (dp_corner J.2) (fun _ _ u v => am_corner u v (fun _ _ x y => ⟨y.1, x, y.2⟩))
theorem qr_period {p1 : Int32} {σ τ : VS} (J : Jr σ τ) : wp_X9period (fun r σ' => wp_period (fun r2 τ' => r = r2 ∧ Jr σ' τ') p1 τ) p1 σ :=
  am_X9period (pe_period J.1) (dp_period J.1 J.2) (fun _ _ u v => am_period u v (fun _ _ x y => ⟨x.1, x.2, y⟩))
theorem qr_node {p1 p2 p3 : Int32} {σ τ : VS} (J : Jr σ τ) : wp_X9node (fun r σ' => wp_node (fun r2 τ' => r = r2 ∧ Jr σ' τ') p1 p2 p3 τ) p1 p2 p3 σ :=
  am_X9node (pe_node J.1) (dp_node J.1 J.2) (fun _ _ u v => am_node u v (fun _ _ x y => ⟨x.1, x.2, y⟩))
theorem qr_except {p1 p2 p3 p4 : Int32} {σ τ : VS} (J : Jr σ τ) : wp_X9except (fun r σ' => wp_except (fun r2 τ' => r = r2 ∧ Jr σ' τ') p1 p2 p3 p4 τ) p1 p2 p3 p4 σ :=
  am_X9except (pe_except J.1) (dp_except J.1 J.2) (fun _ _ u v => am_except u v (fun _ _ x y => ⟨x.1, x.2, y⟩))
theorem qr_unexcept {σ τ : VS} (J : Jr σ τ) : wp_X9unexcept (fun r σ' => wp_unexcept (fun r2 τ' => r = r2 ∧ Jr σ' τ')  τ)  σ :=
  am_X9unexcept (pe_unexcept J.1) (dp_unexcept J.1 J.2) (fun _ _ u v => am_unexcept u v (fun _ _ x y => ⟨x.1, x.2, y⟩))
theorem qr_make {p1 p2 p3 : Int32} {σ τ : VS} (J : Jr σ τ) : wp_X9make (fun r σ' => wp_make (fun r2 τ' => r = r2 ∧ Jr σ' τ') p1 p2 p3 τ) p1 p2 p3 σ :=
  am_X9make (pr_make J.1) (dp_make J.1 J.2) (fun _ _ u v => am_make u v (fun _ _ x y => ⟨x.1, x.2, y⟩))
theorem qr_size {p1 p2 : Int32} {σ τ : VS} (J : Jr σ τ) : wp_X9size (fun _ σ' => wp_size (fun _ τ' => Jr σ' τ') p1 p2 τ) p1 p2 σ := by
  obtain ⟨⟨hM, hC, hM2, hS, hL, hk⟩, D⟩ := J
  refine rg_X9size hM (fun _ σ' h e1 => ?_)
  have A : CI σ' ∧ CSrc σ' ∧ Gc σ σ' := ⟨h, hC.same e1 (by decide), e1.1 2 (by decide), e1.1 4 (by decide), e1.1 5 (by decide), e1.1 6 (by decide)⟩
  refine rg_size hM2 (fun _ τ' g e2 => ?_)
  have B : MI τ' ∧ SI τ' ∧ LI τ' ∧ Gm τ τ' := ⟨g, hS.same e2 (by decide), hL.same e2 (by decide), e2.1 1 (by decide), e2.1 20 (by decide), e2.1 21 (by decide), e2.1 25 (by decide)⟩
  exact ⟨⟨A.1, A.2.1, B.1, B.2.1, B.2.2.1, hk.quiet A.2.2 B.2.2.2⟩, D.quiet e1 e2 (by decide) (by decide)⟩
theorem qr_about {p1 p2 : Int32} {σ τ : VS} (J : Jr σ τ) : wp_X9about (fun _ σ' => wp_about (fun _ τ' => Jr σ' τ') p1 p2 τ) p1 p2 σ := by
  obtain ⟨⟨hM, hC, hM2, hS, hL, hk⟩, D⟩ := J
  refine rg_X9about hM (fun _ σ' h e1 => ?_)
  have A : CI σ' ∧ CSrc σ' ∧ Gc σ σ' := ⟨h, hC.same e1 (by decide), e1.1 2 (by decide), e1.1 4 (by decide), e1.1 5 (by decide), e1.1 6 (by decide)⟩
  refine rg_about hS hM2 (fun _ τ' g e2 => ?_)
  have B : MI τ' ∧ SI τ' ∧ LI τ' ∧ Gm τ τ' := ⟨g, hS.same e2 (by decide), hL.same e2 (by decide), e2.1 1 (by decide), e2.1 20 (by decide), e2.1 21 (by decide), e2.1 25 (by decide)⟩
  exact ⟨⟨A.1, A.2.1, B.1, B.2.1, B.2.2.1, hk.quiet A.2.2 B.2.2.2⟩, D.quiet e1 e2 (by decide) (by decide)⟩
theorem qr_takes {p1 p2 : Int32} {σ τ : VS} (J : Jr σ τ) : wp_X9takes (fun _ σ' => wp_takes (fun _ τ' => Jr σ' τ') p1 p2 τ) p1 p2 σ := by
  obtain ⟨⟨hM, hC, hM2, hS, hL, hk⟩, D⟩ := J
  refine rg_X9takes hM (fun _ σ' h e1 => ?_)
  have A : CI σ' ∧ CSrc σ' ∧ Gc σ σ' := ⟨h, hC.same e1 (by decide), e1.1 2 (by decide), e1.1 4 (by decide), e1.1 5 (by decide), e1.1 6 (by decide)⟩
  refine rg_takes hM2 (fun _ τ' g e2 => ?_)
  have B : MI τ' ∧ SI τ' ∧ LI τ' ∧ Gm τ τ' := ⟨g, hS.same e2 (by decide), hL.same e2 (by decide), e2.1 1 (by decide), e2.1 20 (by decide), e2.1 21 (by decide), e2.1 25 (by decide)⟩
  exact ⟨⟨A.1, A.2.1, B.1, B.2.1, B.2.2.1, hk.quiet A.2.2 B.2.2.2⟩, D.quiet e1 e2 (by decide) (by decide)⟩
theorem qr_arrival {p1 p2 p3 : Int32} {σ τ : VS} (J : Jr σ τ) : wp_X9arrival (fun _ σ' => wp_arrival (fun _ τ' => Jr σ' τ') p1 p2 p3 τ) p1 p2 p3 σ := by
  obtain ⟨⟨hM, hC, hM2, hS, hL, hk⟩, D⟩ := J
  refine rg_X9arrival hM (fun _ σ' h e1 => ?_)
  have A : CI σ' ∧ CSrc σ' ∧ Gc σ σ' := ⟨h, hC.same e1 (by decide), e1.1 2 (by decide), e1.1 4 (by decide), e1.1 5 (by decide), e1.1 6 (by decide)⟩
  refine rg_arrival hS hM2 (fun _ τ' g e2 => ?_)
  have B : MI τ' ∧ SI τ' ∧ LI τ' ∧ Gm τ τ' := ⟨g, hS.same e2 (by decide), hL.same e2 (by decide), e2.1 1 (by decide), e2.1 20 (by decide), e2.1 21 (by decide), e2.1 25 (by decide)⟩
  exact ⟨⟨A.1, A.2.1, B.1, B.2.1, B.2.2.1, hk.quiet A.2.2 B.2.2.2⟩, D.quiet e1 e2 (by decide) (by decide)⟩
theorem qr_told {p1 : Int32} {σ τ : VS} (J : Jr σ τ) : wp_X9told (fun _ σ' => wp_told (fun _ τ' => Jr σ' τ') p1 τ) p1 σ := by
  obtain ⟨⟨hM, hC, hM2, hS, hL, hk⟩, D⟩ := J
  refine rg_X9told hM (fun _ σ' h e1 => ?_)
  have A : CI σ' ∧ CSrc σ' ∧ Gc σ σ' := ⟨h, hC.same e1 (by decide), e1.1 2 (by decide), e1.1 4 (by decide), e1.1 5 (by decide), e1.1 6 (by decide)⟩
  refine rg_told hS hM2 (fun _ τ' g e2 => ?_)
  have B : MI τ' ∧ SI τ' ∧ LI τ' ∧ Gm τ τ' := ⟨g, hS.same e2 (by decide), hL.same e2 (by decide), e2.1 1 (by decide), e2.1 20 (by decide), e2.1 21 (by decide), e2.1 25 (by decide)⟩
  exact ⟨⟨A.1, A.2.1, B.1, B.2.1, B.2.2.1, hk.quiet A.2.2 B.2.2.2⟩, D.quiet e1 e2 (by decide) (by decide)⟩
theorem qr_slack {p1 : Int32} {σ τ : VS} (J : Jr σ τ) : wp_X9slack (fun _ σ' => wp_slack (fun _ τ' => Jr σ' τ') p1 τ) p1 σ := by
  obtain ⟨⟨hM, hC, hM2, hS, hL, hk⟩, D⟩ := J
  refine rg_X9slack hM (fun _ σ' h e1 => ?_)
  have A : CI σ' ∧ CSrc σ' ∧ Gc σ σ' := ⟨h, hC.same e1 (by decide), e1.1 2 (by decide), e1.1 4 (by decide), e1.1 5 (by decide), e1.1 6 (by decide)⟩
  refine rg_slack hS hM2 (fun _ τ' g e2 => ?_)
  have B : MI τ' ∧ SI τ' ∧ LI τ' ∧ Gm τ τ' := ⟨g, hS.same e2 (by decide), hL.same e2 (by decide), e2.1 1 (by decide), e2.1 20 (by decide), e2.1 21 (by decide), e2.1 25 (by decide)⟩
  exact ⟨⟨A.1, A.2.1, B.1, B.2.1, B.2.2.1, hk.quiet A.2.2 B.2.2.2⟩, D.quiet e1 e2 (by decide) (by decide)⟩
theorem qr_hold {p1 : Int32} {σ τ : VS} (J : Jr σ τ) : wp_X9hold (fun _ σ' => wp_hold (fun _ τ' => Jr σ' τ') p1 τ) p1 σ := by
  obtain ⟨⟨hM, hC, hM2, hS, hL, hk⟩, D⟩ := J
  refine rg_X9hold hM (fun _ σ' h e1 => ?_)
  have A : CI σ' ∧ CSrc σ' ∧ Gc σ σ' := ⟨h, hC.same e1 (by decide), e1.1 2 (by decide), e1.1 4 (by decide), e1.1 5 (by decide), e1.1 6 (by decide)⟩
  refine rg_hold hS hM2 (fun _ τ' g e2 => ?_)
  have B : MI τ' ∧ SI τ' ∧ LI τ' ∧ Gm τ τ' := ⟨g, hS.same e2 (by decide), hL.same e2 (by decide), e2.1 1 (by decide), e2.1 20 (by decide), e2.1 21 (by decide), e2.1 25 (by decide)⟩
  exact ⟨⟨A.1, A.2.1, B.1, B.2.1, B.2.2.1, hk.quiet A.2.2 B.2.2.2⟩, D.quiet e1 e2 (by decide) (by decide)⟩
theorem qr_worst {p1 : Int32} {σ τ : VS} (J : Jr σ τ) : wp_X9worst (fun _ σ' => wp_worst (fun _ τ' => Jr σ' τ') p1 τ) p1 σ := by
  obtain ⟨⟨hM, hC, hM2, hS, hL, hk⟩, D⟩ := J
  refine rg_X9worst hM (fun _ σ' h e1 => ?_)
  have A : CI σ' ∧ CSrc σ' ∧ Gc σ σ' := ⟨h, hC.same e1 (by decide), e1.1 2 (by decide), e1.1 4 (by decide), e1.1 5 (by decide), e1.1 6 (by decide)⟩
  refine rg_worst hS hM2 (fun _ τ' g e2 => ?_)
  have B : MI τ' ∧ SI τ' ∧ LI τ' ∧ Gm τ τ' := ⟨g, hS.same e2 (by decide), hL.same e2 (by decide), e2.1 1 (by decide), e2.1 20 (by decide), e2.1 21 (by decide), e2.1 25 (by decide)⟩
  exact ⟨⟨A.1, A.2.1, B.1, B.2.1, B.2.2.1, hk.quiet A.2.2 B.2.2.2⟩, D.quiet e1 e2 (by decide) (by decide)⟩
theorem qr_paths {p1 : Int32} {σ τ : VS} (J : Jr σ τ) : wp_X9paths (fun _ σ' => wp_paths (fun _ τ' => Jr σ' τ') p1 τ) p1 σ := by
  obtain ⟨⟨hM, hC, hM2, hS, hL, hk⟩, D⟩ := J
  refine rg_X9paths hM (fun _ σ' h e1 => ?_)
  have A : CI σ' ∧ CSrc σ' ∧ Gc σ σ' := ⟨h, hC.same e1 (by decide), e1.1 2 (by decide), e1.1 4 (by decide), e1.1 5 (by decide), e1.1 6 (by decide)⟩
  refine rg_paths hS hM2 (fun _ τ' g e2 => ?_)
  have B : MI τ' ∧ SI τ' ∧ LI τ' ∧ Gm τ τ' := ⟨g, hS.same e2 (by decide), hL.same e2 (by decide), e2.1 1 (by decide), e2.1 20 (by decide), e2.1 21 (by decide), e2.1 25 (by decide)⟩
  exact ⟨⟨A.1, A.2.1, B.1, B.2.1, B.2.2.1, hk.quiet A.2.2 B.2.2.2⟩, D.quiet e1 e2 (by decide) (by decide)⟩
theorem qr_path {p1 p2 : Int32} {σ τ : VS} (J : Jr σ τ) : wp_X9path (fun _ σ' => wp_path (fun _ τ' => Jr σ' τ') p1 p2 τ) p1 p2 σ := by
  obtain ⟨⟨hM, hC, hM2, hS, hL, hk⟩, D⟩ := J
  refine rg_X9path hM (fun _ σ' h e1 => ?_)
  have A : CI σ' ∧ CSrc σ' ∧ Gc σ σ' := ⟨h, hC.same e1 (by decide), e1.1 2 (by decide), e1.1 4 (by decide), e1.1 5 (by decide), e1.1 6 (by decide)⟩
  refine rg_path hS hM2 hL (fun _ τ' g g2 e2 => ?_)
  have B : MI τ' ∧ SI τ' ∧ LI τ' ∧ Gm τ τ' := ⟨g, hS.same e2 (by decide), g2, e2.1 1 (by decide), e2.1 20 (by decide), e2.1 21 (by decide), e2.1 25 (by decide)⟩
  exact ⟨⟨A.1, A.2.1, B.1, B.2.1, B.2.2.1, hk.quiet A.2.2 B.2.2.2⟩, D.quiet e1 e2 (by decide) (by decide)⟩
theorem qr_step {p1 p2 : Int32} {σ τ : VS} (J : Jr σ τ) : wp_X9step (fun _ σ' => wp_step (fun _ τ' => Jr σ' τ') p1 p2 τ) p1 p2 σ := by
  obtain ⟨⟨hM, hC, hM2, hS, hL, hk⟩, D⟩ := J
  refine rg_X9step hM (fun _ σ' h e1 => ?_)
  have A : CI σ' ∧ CSrc σ' ∧ Gc σ σ' := ⟨h, hC.same e1 (by decide), e1.1 2 (by decide), e1.1 4 (by decide), e1.1 5 (by decide), e1.1 6 (by decide)⟩
  refine rg_step hM2 (fun _ τ' g e2 => ?_)
  have B : MI τ' ∧ SI τ' ∧ LI τ' ∧ Gm τ τ' := ⟨g, hS.same e2 (by decide), hL.same e2 (by decide), e2.1 1 (by decide), e2.1 20 (by decide), e2.1 21 (by decide), e2.1 25 (by decide)⟩
  exact ⟨⟨A.1, A.2.1, B.1, B.2.1, B.2.2.1, hk.quiet A.2.2 B.2.2.2⟩, D.quiet e1 e2 (by decide) (by decide)⟩
theorem qr_common {p1 p2 : Int32} {σ τ : VS} (J : Jr σ τ) : wp_X9common (fun _ σ' => wp_common (fun _ τ' => Jr σ' τ') p1 p2 τ) p1 p2 σ := by
  obtain ⟨⟨hM, hC, hM2, hS, hL, hk⟩, D⟩ := J
  refine rg_X9common hM (fun _ σ' h e1 => ?_)
  have A : CI σ' ∧ CSrc σ' ∧ Gc σ σ' := ⟨h, hC.same e1 (by decide), e1.1 2 (by decide), e1.1 4 (by decide), e1.1 5 (by decide), e1.1 6 (by decide)⟩
  refine rg_common hS hM2 (fun _ τ' g e2 => ?_)
  have B : MI τ' ∧ SI τ' ∧ LI τ' ∧ Gm τ τ' := ⟨g, hS.same e2 (by decide), hL.same e2 (by decide), e2.1 1 (by decide), e2.1 20 (by decide), e2.1 21 (by decide), e2.1 25 (by decide)⟩
  exact ⟨⟨A.1, A.2.1, B.1, B.2.1, B.2.2.1, hk.quiet A.2.2 B.2.2.2⟩, D.quiet e1 e2 (by decide) (by decide)⟩
theorem qr_least {p1 : Int32} {σ τ : VS} (J : Jr σ τ) : wp_X9least (fun _ σ' => wp_least (fun _ τ' => Jr σ' τ') p1 τ) p1 σ := by
  obtain ⟨⟨hM, hC, hM2, hS, hL, hk⟩, D⟩ := J
  refine rg_X9least hM (fun _ σ' h e1 => ?_)
  have A : CI σ' ∧ CSrc σ' ∧ Gc σ σ' := ⟨h, hC.same e1 (by decide), e1.1 2 (by decide), e1.1 4 (by decide), e1.1 5 (by decide), e1.1 6 (by decide)⟩
  refine rg_least hS hM2 hL (fun _ τ' g g2 e2 => ?_)
  have B : MI τ' ∧ SI τ' ∧ LI τ' ∧ Gm τ τ' := ⟨g, hS.same e2 (by decide), g2, e2.1 1 (by decide), e2.1 20 (by decide), e2.1 21 (by decide), e2.1 25 (by decide)⟩
  exact ⟨⟨A.1, A.2.1, B.1, B.2.1, B.2.2.1, hk.quiet A.2.2 B.2.2.2⟩, D.quiet e1 e2 (by decide) (by decide)⟩
theorem qr_fix  {σ τ : VS} (J : Jr σ τ) : wp_X9fix (fun _ σ' => wp_fix (fun _ τ' => Jr σ' τ')  τ)  σ := by
  obtain ⟨⟨hM, hC, hM2, hS, hL, hk⟩, D⟩ := J
  refine rg_X9fix hM (fun _ σ' h e1 => ?_)
  have A : CI σ' ∧ CSrc σ' ∧ Gc σ σ' := ⟨h, hC.same e1 (by decide), e1.1 2 (by decide), e1.1 4 (by decide), e1.1 5 (by decide), e1.1 6 (by decide)⟩
  refine rg_fix hS hM2 hL (fun _ τ' g g2 e2 => ?_)
  have B : MI τ' ∧ SI τ' ∧ LI τ' ∧ Gm τ τ' := ⟨g, hS.same e2 (by decide), g2, e2.1 1 (by decide), e2.1 20 (by decide), e2.1 21 (by decide), e2.1 25 (by decide)⟩
  exact ⟨⟨A.1, A.2.1, B.1, B.2.1, B.2.2.1, hk.quiet A.2.2 B.2.2.2⟩, D.quiet e1 e2 (by decide) (by decide)⟩
theorem qr_area  {σ τ : VS} (J : Jr σ τ) : wp_X9area (fun _ σ' => wp_area (fun _ τ' => Jr σ' τ')  τ)  σ := by
  obtain ⟨⟨hM, hC, hM2, hS, hL, hk⟩, D⟩ := J
  refine rg_X9area hM (fun _ σ' h e1 => ?_)
  have A : CI σ' ∧ CSrc σ' ∧ Gc σ σ' := ⟨h, hC.same e1 (by decide), e1.1 2 (by decide), e1.1 4 (by decide), e1.1 5 (by decide), e1.1 6 (by decide)⟩
  refine rg_area hM2 (fun _ τ' g e2 => ?_)
  have B : MI τ' ∧ SI τ' ∧ LI τ' ∧ Gm τ τ' := ⟨g, hS.same e2 (by decide), hL.same e2 (by decide), e2.1 1 (by decide), e2.1 20 (by decide), e2.1 21 (by decide), e2.1 25 (by decide)⟩
  exact ⟨⟨A.1, A.2.1, B.1, B.2.1, B.2.2.1, hk.quiet A.2.2 B.2.2.2⟩, D.quiet e1 e2 (by decide) (by decide)⟩
theorem qr_wire {p1 p2 p3 : Int32} {σ τ : VS} (J : Jr σ τ) : wp_X9wire (fun _ σ' => wp_wire (fun _ τ' => Jr σ' τ') p1 p2 p3 τ) p1 p2 p3 σ := by
  obtain ⟨⟨hM, hC, hM2, hS, hL, hk⟩, D⟩ := J
  refine cs_wire hM hC (fun _ σ' h h1 e1 => ?_)
  have A : CI σ' ∧ CSrc σ' ∧ Gc σ σ' := ⟨h, h1, e1.1 2 (by decide), e1.1 4 (by decide), e1.1 5 (by decide), e1.1 6 (by decide)⟩
  refine rg_wire hS hM2 hL (fun _ τ' g g1 g2 e2 => ?_)
  have B : MI τ' ∧ SI τ' ∧ LI τ' ∧ Gm τ τ' := ⟨g, g1, g2, e2.1 1 (by decide), e2.1 20 (by decide), e2.1 21 (by decide), e2.1 25 (by decide)⟩
  exact ⟨⟨A.1, A.2.1, B.1, B.2.1, B.2.2.1, hk.quiet A.2.2 B.2.2.2⟩, D.quiet e1 e2 (by decide) (by decide)⟩
