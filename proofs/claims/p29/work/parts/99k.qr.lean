def Jr (σ τ : VS) : Prop := Jn σ τ ∧ Dt σ τ
theorem zr : Jr zc zm := by
  refine ⟨⟨zc_ci, zc_src, zm_mi, zm_si, zm_li, rfl, rfl, rfl, rfl⟩, ⟨rfl, rfl⟩, fun q _ j h => ?_, fun q hq j _ => ?_, fun q _ j h => ?_, fun q hq => ?_⟩
  · have e : (zc.1 2).toInt = 0 := by decide
    omega
  · have h : ∀ q ∈ freshL, z2c q.1 = q.2 := by decide
    exact h q hq
  · have e : (zc.1 6).toInt = 0 := by decide
    omega
  · have h : ∀ q ∈ tabL, z2c q.1 = z2m q.2 := by decide
    exact funext fun _ => h q hq
theorem qr_extra {p1 p2 : Int32} {σ τ : VS} (J : Jr σ τ) : wp_X9extra (fun r σ' => wp_extra (fun r2 τ' => r = r2 ∧ Jr σ' τ') p1 p2 τ) p1 p2 σ :=
  am_X9extra (pr_extra J.1) (dp_extra J.1 J.2) (fun _ _ u v => am_extra u v (fun _ _ x y => ⟨y.1, x, y.2⟩))
theorem qr_port {p1 p2 p3 p4 : Int32} {σ τ : VS} (J : Jr σ τ) : wp_X9port (fun r σ' => wp_port (fun r2 τ' => r = r2 ∧ Jr σ' τ') p1 p2 p3 p4 τ) p1 p2 p3 p4 σ :=
  am_X9port (pr_port J.1) (dp_port J.1 J.2) (fun _ _ u v => am_port u v (fun _ _ x y => ⟨y.1, x, y.2⟩))
theorem qr_target {p1 p2 p3 p4 : Int32} {σ τ : VS} (J : Jr σ τ) : wp_X9target (fun r σ' => wp_target (fun r2 τ' => r = r2 ∧ Jr σ' τ') p1 p2 p3 p4 τ) p1 p2 p3 p4 σ :=
  am_X9target (pr_target J.1) (dp_target J.1 J.2) (fun _ _ u v => am_target u v (fun _ _ x y => ⟨y.1, x, y.2⟩))
theorem qr_entry {p1 p2 p3 p4 p5 : Int32} {σ τ : VS} (J : Jr σ τ) : wp_X9entry (fun r σ' => wp_entry (fun r2 τ' => r = r2 ∧ Jr σ' τ') p1 p2 p3 p4 p5 τ) p1 p2 p3 p4 p5 σ :=
  am_X9entry (pr_entry J.1) (dp_entry J.2) (fun _ _ u v => am_entry u v (fun _ _ x y => ⟨y.1, x, y.2⟩))
theorem qr_tear {p1 p2 p3 p4 : Int32} {σ τ : VS} (J : Jr σ τ) : wp_X9tear (fun r σ' => wp_tear (fun r2 τ' => r = r2 ∧ Jr σ' τ') p1 p2 p3 p4 τ) p1 p2 p3 p4 σ :=
  am_X9tear (pr_tear J.1) (dp_tear J.1 J.2) (fun _ _ u v => am_tear u v (fun _ _ x y => ⟨y.1, x, y.2⟩))
theorem qr_fall {p1 p2 : Int32} {σ τ : VS} (J : Jr σ τ) : wp_X9fall (fun r σ' => wp_fall (fun r2 τ' => r = r2 ∧ Jr σ' τ') p1 p2 τ) p1 p2 σ :=
  am_X9fall (pr_fall J.1) (dp_fall J.2) (fun _ _ u v => am_fall u v (fun _ _ x y => ⟨y.1, x, y.2⟩))
theorem qr_corner {p1 p2 : Int32} {σ τ : VS} (J : Jr σ τ) : wp_X9corner (fun r σ' => wp_corner (fun r2 τ' => r = r2 ∧ Jr σ' τ') p1 p2 τ) p1 p2 σ :=
  am_X9corner (pr_corner J.1) (dp_corner J.2) (fun _ _ u v => am_corner u v (fun _ _ x y => ⟨y.1, x, y.2⟩))
theorem qr_period {p1 : Int32} {σ τ : VS} (J : Jr σ τ) : wp_X9period (fun r σ' => wp_period (fun r2 τ' => r = r2 ∧ Jr σ' τ') p1 τ) p1 σ :=
  am_X9period (pe_period J.1) (dp_period J.1 J.2) (fun _ _ u v => am_period u v (fun _ _ x y => ⟨x.1, x.2, y⟩))
theorem qr_node {p1 p2 p3 : Int32} {σ τ : VS} (J : Jr σ τ) : wp_X9node (fun r σ' => wp_node (fun r2 τ' => r = r2 ∧ Jr σ' τ') p1 p2 p3 τ) p1 p2 p3 σ :=
  am_X9node (pe_node J.1) (dp_node J.1 J.2) (fun _ _ u v => am_node u v (fun _ _ x y => ⟨x.1, x.2, y⟩))
theorem qr_except {p1 p2 p3 p4 : Int32} {σ τ : VS} (J : Jr σ τ) : wp_X9except (fun r σ' => wp_except (fun r2 τ' => r = r2 ∧ Jr σ' τ') p1 p2 p3 p4 τ) p1 p2 p3 p4 σ :=
  am_X9except (pe_except J.1) (dp_except J.1 J.2) (fun _ _ u v => am_except u v (fun _ _ x y => ⟨x.1, x.2, y⟩))
theorem qr_unexcept {σ τ : VS} (J : Jr σ τ) : wp_X9unexcept (fun r σ' => wp_unexcept (fun r2 τ' => r = r2 ∧ Jr σ' τ')  τ)  σ :=
  am_X9unexcept (pe_unexcept J.1) (dp_unexcept J.1 J.2) (fun _ _ u v => am_unexcept u v (fun _ _ x y => ⟨x.1, x.2, y⟩))
theorem qr_make {p1 p2 p3 : Int32} {σ τ : VS} (J : Jr σ τ) : wp_X9make (fun r σ' => wp_make (fun r2 τ' => r = r2 ∧ Jr σ' τ') p1 p2 p3 τ) p1 p2 p3 σ :=
  am_X9make (pr_make J.1) (dp_make J.1 J.2) (fun _ _ u v => am_make u v (fun _ _ x y => ⟨x.1, x.2, y⟩))
