/-- both sides keep their own, and the counters agree -/
def Jn (σ τ : VS) : Prop := CI σ ∧ CSrc σ ∧ MI τ ∧ SI τ ∧ LI τ ∧ Lk σ τ
theorem ti_inj {a b : Int32} (h : a.toInt = b.toInt) : a = b := Int32.toInt_inj.mp h
theorem okE_same {n m : Int} {p1 p2 p3 p4 : Int32} (e : n = m) : okE n p1 p2 p3 p4 ↔ okE m p1 p2 p3 p4 := by rw [e]
theorem pr_count {p1 : Int32} {σ τ : VS} (J : Jn σ τ) : wp_X9count (fun r σ' => wp_count (fun r2 τ' => r = r2 ∧ Jn σ' τ') p1 τ) p1 σ :=
  cs_count (fun _ a => rs_count (fun _ b => ⟨J.2.2.2.2.2.count a b, J⟩))
theorem pr_make {p1 p2 p3 : Int32} {σ τ : VS} (J : Jn σ τ) : wp_X9make (fun r σ' => wp_make (fun r2 τ' => r = r2 ∧ Jn σ' τ') p1 p2 p3 τ) p1 p2 p3 σ := by
  obtain ⟨hM, hC, hM2, hS, hL, k1, k2, k3, k4⟩ := J
  refine cs_make hM hC (fun r σ' a1 a2 e a => rg_make hS hM2 hL (fun r2 τ' b1 b2 b3 f b => ?_))
  have t1 : (σ.1 2).toInt = (τ.1 1).toInt := by rw [k1]
  have L2 : σ'.1 5 = τ'.1 21 := by rw [e.1 5 (by decide), f.1 21 (by decide)]; exact k2
  have L3 : σ'.1 6 = τ'.1 25 := by rw [e.1 6 (by decide), f.1 25 (by decide)]; exact k3
  have L4 : σ'.1 4 = τ'.1 20 := by rw [e.1 4 (by decide), f.1 20 (by decide)]; exact k4
  rcases a with ⟨q1, q2, q3, q4⟩ | ⟨q1, q2⟩
  · rcases b with ⟨w1, w2, w3, w4⟩ | ⟨w1, w2⟩
    · exact ⟨ti_inj (by omega), a1, a2, b1, b2, b3, ti_inj (by omega), L2, L3, L4⟩
    · rcases w1 with ⟨w1, w3⟩ | ⟨w1, w3, w4⟩
      · exact absurd q1 w1
      · exact absurd (by omega) w3
  · rcases b with ⟨w1, w2, w3, w4⟩ | ⟨w1, w2⟩
    · rcases q1 with ⟨q1, q3⟩ | ⟨q1, q3, q4⟩
      · exact absurd w1 q1
      · exact absurd (by omega) q3
    · refine ⟨ti_inj ?_, a1, a2, b1, b2, b3, by rw [q2, w2]; exact k1, L2, L3, L4⟩
      rcases q1 with ⟨q1, q3⟩ | ⟨q1, q3, q4⟩ <;> rcases w1 with ⟨w1, w3⟩ | ⟨w1, w3, w4⟩
      · omega
      · exact absurd w1 q1
      · exact absurd q1 w1
      · omega
theorem pr_period {p1 : Int32} {σ τ : VS} (J : Jn σ τ) : wp_X9period (fun _ σ' => wp_period (fun _ τ' => Jn σ' τ') p1 τ) p1 σ := by
  obtain ⟨hM, hC, hM2, hS, hL, k1, k2, k3, k4⟩ := J
  refine cs_period hM hC (fun r σ' a1 a2 e a => rs_period hS hM2 hL (fun r2 τ' b1 b2 b3 f b => ?_))
  have L1 : σ'.1 2 = τ'.1 1 := by rw [e.1 2 (by decide), f.1 1 (by decide)]; exact k1
  have L2 : σ'.1 5 = τ'.1 21 := by rw [e.1 5 (by decide), f.1 21 (by decide)]; exact k2
  have L3 : σ'.1 6 = τ'.1 25 := by rw [e.1 6 (by decide), f.1 25 (by decide)]; exact k3
  rcases a with ⟨q1, q2⟩ | ⟨q1, q2⟩ <;> rcases b with ⟨w1, w2⟩ | ⟨w1, w2⟩
  · exact ⟨a1, a2, b1, b2, b3, L1, L2, L3, by rw [q2, w2]⟩
  · exact absurd q1 w1
  · exact absurd w1 q1
  · exact ⟨a1, a2, b1, b2, b3, L1, L2, L3, by rw [q2, w2]; exact k4⟩
theorem pr_node {p1 p2 p3 : Int32} {σ τ : VS} (J : Jn σ τ) : wp_X9node (fun _ σ' => wp_node (fun _ τ' => Jn σ' τ') p1 p2 p3 τ) p1 p2 p3 σ := by
  obtain ⟨hM, hC, hM2, hS, hL, k1, k2, k3, k4⟩ := J
  refine cs_node hM hC (fun r σ' a1 a2 e a => rs_node hS hM2 hL (fun r2 τ' b1 b2 b3 f b => ?_))
  have t1 : (σ.1 5).toInt = (τ.1 21).toInt := by rw [k2]
  have L1 : σ'.1 2 = τ'.1 1 := by rw [e.1 2 (by decide), f.1 1 (by decide)]; exact k1
  have L3 : σ'.1 6 = τ'.1 25 := by rw [e.1 6 (by decide), f.1 25 (by decide)]; exact k3
  have L4 : σ'.1 4 = τ'.1 20 := by rw [e.1 4 (by decide), f.1 20 (by decide)]; exact k4
  rw [t1] at a
  rcases a with ⟨q1, q2, q3⟩ | ⟨q1, q2⟩ <;> rcases b with ⟨w1, w2, w3⟩ | ⟨w1, w2⟩
  · exact ⟨a1, a2, b1, b2, b3, L1, ti_inj (by omega), L3, L4⟩
  · exact absurd ⟨q1, q2⟩ w1
  · exact absurd ⟨w1, w2⟩ q1
  · exact ⟨a1, a2, b1, b2, b3, L1, by rw [q2, w2]; exact k2, L3, L4⟩
theorem pr_except {p1 p2 p3 p4 : Int32} {σ τ : VS} (J : Jn σ τ) : wp_X9except (fun _ σ' => wp_except (fun _ τ' => Jn σ' τ') p1 p2 p3 p4 τ) p1 p2 p3 p4 σ := by
  obtain ⟨hM, hC, hM2, hS, hL, k1, k2, k3, k4⟩ := J
  refine cs_except hM hC (fun r σ' a1 a2 e a => rs_except hS hM2 hL (fun r2 τ' b1 b2 b3 f b => ?_))
  have t1 : (σ.1 2).toInt = (τ.1 1).toInt := by rw [k1]
  have t3 : (σ.1 6).toInt = (τ.1 25).toInt := by rw [k3]
  have L1 : σ'.1 2 = τ'.1 1 := by rw [e.1 2 (by decide), f.1 1 (by decide)]; exact k1
  have L2 : σ'.1 5 = τ'.1 21 := by rw [e.1 5 (by decide), f.1 21 (by decide)]; exact k2
  have L4 : σ'.1 4 = τ'.1 20 := by rw [e.1 4 (by decide), f.1 20 (by decide)]; exact k4
  rw [t1, t3] at a
  rcases a with ⟨q1, q2, q3⟩ | ⟨q1, q2⟩ <;> rcases b with ⟨w1, w2, w3⟩ | ⟨w1, w2⟩
  · exact ⟨a1, a2, b1, b2, b3, L1, L2, ti_inj (by omega), L4⟩
  · exact absurd ⟨q1, q2⟩ w1
  · exact absurd ⟨w1, w2⟩ q1
  · exact ⟨a1, a2, b1, b2, b3, L1, L2, by rw [q2, w2]; exact k3, L4⟩
theorem pr_unexcept {σ τ : VS} (J : Jn σ τ) : wp_X9unexcept (fun _ σ' => wp_unexcept (fun _ τ' => Jn σ' τ') τ) σ := by
  obtain ⟨hM, hC, hM2, hS, hL, k1, k2, k3, k4⟩ := J
  refine cs_unexcept hM hC (fun r σ' a1 a2 e a => rs_unexcept hS hM2 hL (fun r2 τ' b1 b2 b3 f b => ?_))
  have t3 : (σ.1 6).toInt = (τ.1 25).toInt := by rw [k3]
  have L1 : σ'.1 2 = τ'.1 1 := by rw [e.1 2 (by decide), f.1 1 (by decide)]; exact k1
  have L2 : σ'.1 5 = τ'.1 21 := by rw [e.1 5 (by decide), f.1 21 (by decide)]; exact k2
  have L4 : σ'.1 4 = τ'.1 20 := by rw [e.1 4 (by decide), f.1 20 (by decide)]; exact k4
  rw [t3] at a
  rcases a with ⟨q1, q3⟩ | ⟨q1, q2⟩ <;> rcases b with ⟨w1, w3⟩ | ⟨w1, w2⟩
  · exact ⟨a1, a2, b1, b2, b3, L1, L2, ti_inj (by omega), L4⟩
  · exact absurd q1 w1
  · exact absurd w1 q1
  · exact ⟨a1, a2, b1, b2, b3, L1, L2, by rw [q2, w2]; exact k3, L4⟩
theorem pr_extra {p1 p2 : Int32} {σ τ : VS} (J : Jn σ τ) : wp_X9extra (fun _ σ' => wp_extra (fun _ τ' => Jn σ' τ') p1 p2 τ) p1 p2 σ := by
  obtain ⟨hM, hC, hM2, hS, hL, hk⟩ := J
  refine rg_X9extra hM (fun _ σ' h e => ?_)
  have A : CI σ' ∧ CSrc σ' ∧ Gc σ σ' := ⟨h, hC.same e (by decide), e.1 2 (by decide), e.1 4 (by decide), e.1 5 (by decide), e.1 6 (by decide)⟩
  refine rg_extra hM2 (fun _ τ' h e => ?_)
  have B : MI τ' ∧ SI τ' ∧ LI τ' ∧ Gm τ τ' := ⟨h, hS.same e (by decide), hL.same e (by decide), e.1 1 (by decide), e.1 20 (by decide), e.1 21 (by decide), e.1 25 (by decide)⟩
  exact ⟨A.1, A.2.1, B.1, B.2.1, B.2.2.1, hk.quiet A.2.2 B.2.2.2⟩
theorem pr_size {p1 p2 : Int32} {σ τ : VS} (J : Jn σ τ) : wp_X9size (fun _ σ' => wp_size (fun _ τ' => Jn σ' τ') p1 p2 τ) p1 p2 σ := by
  obtain ⟨hM, hC, hM2, hS, hL, hk⟩ := J
  refine rg_X9size hM (fun _ σ' h e => ?_)
  have A : CI σ' ∧ CSrc σ' ∧ Gc σ σ' := ⟨h, hC.same e (by decide), e.1 2 (by decide), e.1 4 (by decide), e.1 5 (by decide), e.1 6 (by decide)⟩
  refine rg_size hM2 (fun _ τ' h e => ?_)
  have B : MI τ' ∧ SI τ' ∧ LI τ' ∧ Gm τ τ' := ⟨h, hS.same e (by decide), hL.same e (by decide), e.1 1 (by decide), e.1 20 (by decide), e.1 21 (by decide), e.1 25 (by decide)⟩
  exact ⟨A.1, A.2.1, B.1, B.2.1, B.2.2.1, hk.quiet A.2.2 B.2.2.2⟩
theorem pr_port {p1 p2 p3 p4 : Int32} {σ τ : VS} (J : Jn σ τ) : wp_X9port (fun _ σ' => wp_port (fun _ τ' => Jn σ' τ') p1 p2 p3 p4 τ) p1 p2 p3 p4 σ := by
  obtain ⟨hM, hC, hM2, hS, hL, hk⟩ := J
  refine rg_X9port hM (fun _ σ' h e => ?_)
  have A : CI σ' ∧ CSrc σ' ∧ Gc σ σ' := ⟨h, hC.same e (by decide), e.1 2 (by decide), e.1 4 (by decide), e.1 5 (by decide), e.1 6 (by decide)⟩
  refine rg_port hM2 (fun _ τ' h e => ?_)
  have B : MI τ' ∧ SI τ' ∧ LI τ' ∧ Gm τ τ' := ⟨h, hS.same e (by decide), hL.same e (by decide), e.1 1 (by decide), e.1 20 (by decide), e.1 21 (by decide), e.1 25 (by decide)⟩
  exact ⟨A.1, A.2.1, B.1, B.2.1, B.2.2.1, hk.quiet A.2.2 B.2.2.2⟩
theorem pr_target {p1 p2 p3 p4 : Int32} {σ τ : VS} (J : Jn σ τ) : wp_X9target (fun _ σ' => wp_target (fun _ τ' => Jn σ' τ') p1 p2 p3 p4 τ) p1 p2 p3 p4 σ := by
  obtain ⟨hM, hC, hM2, hS, hL, hk⟩ := J
  refine rg_X9target hM (fun _ σ' h e => ?_)
  have A : CI σ' ∧ CSrc σ' ∧ Gc σ σ' := ⟨h, hC.same e (by decide), e.1 2 (by decide), e.1 4 (by decide), e.1 5 (by decide), e.1 6 (by decide)⟩
  refine rs_target hS hM2 hL (fun _ τ' h h1 h2 e => ?_)
  have B : MI τ' ∧ SI τ' ∧ LI τ' ∧ Gm τ τ' := ⟨h, h1, h2, e.1 1 (by decide), e.1 20 (by decide), e.1 21 (by decide), e.1 25 (by decide)⟩
  exact ⟨A.1, A.2.1, B.1, B.2.1, B.2.2.1, hk.quiet A.2.2 B.2.2.2⟩
theorem pr_entry {p1 p2 p3 p4 p5 : Int32} {σ τ : VS} (J : Jn σ τ) : wp_X9entry (fun _ σ' => wp_entry (fun _ τ' => Jn σ' τ') p1 p2 p3 p4 p5 τ) p1 p2 p3 p4 p5 σ := by
  obtain ⟨hM, hC, hM2, hS, hL, hk⟩ := J
  refine rg_X9entry hM (fun _ σ' h e => ?_)
  have A : CI σ' ∧ CSrc σ' ∧ Gc σ σ' := ⟨h, hC.same e (by decide), e.1 2 (by decide), e.1 4 (by decide), e.1 5 (by decide), e.1 6 (by decide)⟩
  refine rg_entry hM2 (fun _ τ' h e => ?_)
  have B : MI τ' ∧ SI τ' ∧ LI τ' ∧ Gm τ τ' := ⟨h, hS.same e (by decide), hL.same e (by decide), e.1 1 (by decide), e.1 20 (by decide), e.1 21 (by decide), e.1 25 (by decide)⟩
  exact ⟨A.1, A.2.1, B.1, B.2.1, B.2.2.1, hk.quiet A.2.2 B.2.2.2⟩
theorem pr_tear {p1 p2 p3 p4 : Int32} {σ τ : VS} (J : Jn σ τ) : wp_X9tear (fun _ σ' => wp_tear (fun _ τ' => Jn σ' τ') p1 p2 p3 p4 τ) p1 p2 p3 p4 σ := by
  obtain ⟨hM, hC, hM2, hS, hL, hk⟩ := J
  refine rg_X9tear hM (fun _ σ' h e => ?_)
  have A : CI σ' ∧ CSrc σ' ∧ Gc σ σ' := ⟨h, hC.same e (by decide), e.1 2 (by decide), e.1 4 (by decide), e.1 5 (by decide), e.1 6 (by decide)⟩
  refine rg_tear hM2 (fun _ τ' h e => ?_)
  have B : MI τ' ∧ SI τ' ∧ LI τ' ∧ Gm τ τ' := ⟨h, hS.same e (by decide), hL.same e (by decide), e.1 1 (by decide), e.1 20 (by decide), e.1 21 (by decide), e.1 25 (by decide)⟩
  exact ⟨A.1, A.2.1, B.1, B.2.1, B.2.2.1, hk.quiet A.2.2 B.2.2.2⟩
theorem pr_fall {p1 p2 : Int32} {σ τ : VS} (J : Jn σ τ) : wp_X9fall (fun _ σ' => wp_fall (fun _ τ' => Jn σ' τ') p1 p2 τ) p1 p2 σ := by
  obtain ⟨hM, hC, hM2, hS, hL, hk⟩ := J
  refine rg_X9fall hM (fun _ σ' h e => ?_)
  have A : CI σ' ∧ CSrc σ' ∧ Gc σ σ' := ⟨h, hC.same e (by decide), e.1 2 (by decide), e.1 4 (by decide), e.1 5 (by decide), e.1 6 (by decide)⟩
  refine rg_fall hM2 (fun _ τ' h e => ?_)
  have B : MI τ' ∧ SI τ' ∧ LI τ' ∧ Gm τ τ' := ⟨h, hS.same e (by decide), hL.same e (by decide), e.1 1 (by decide), e.1 20 (by decide), e.1 21 (by decide), e.1 25 (by decide)⟩
  exact ⟨A.1, A.2.1, B.1, B.2.1, B.2.2.1, hk.quiet A.2.2 B.2.2.2⟩
theorem pr_corner {p1 p2 : Int32} {σ τ : VS} (J : Jn σ τ) : wp_X9corner (fun _ σ' => wp_corner (fun _ τ' => Jn σ' τ') p1 p2 τ) p1 p2 σ := by
  obtain ⟨hM, hC, hM2, hS, hL, hk⟩ := J
  refine rg_X9corner hM (fun _ σ' h e => ?_)
  have A : CI σ' ∧ CSrc σ' ∧ Gc σ σ' := ⟨h, hC.same e (by decide), e.1 2 (by decide), e.1 4 (by decide), e.1 5 (by decide), e.1 6 (by decide)⟩
  refine rg_corner hM2 (fun _ τ' h e => ?_)
  have B : MI τ' ∧ SI τ' ∧ LI τ' ∧ Gm τ τ' := ⟨h, hS.same e (by decide), hL.same e (by decide), e.1 1 (by decide), e.1 20 (by decide), e.1 21 (by decide), e.1 25 (by decide)⟩
  exact ⟨A.1, A.2.1, B.1, B.2.1, B.2.2.1, hk.quiet A.2.2 B.2.2.2⟩
theorem pr_about {p1 p2 : Int32} {σ τ : VS} (J : Jn σ τ) : wp_X9about (fun _ σ' => wp_about (fun _ τ' => Jn σ' τ') p1 p2 τ) p1 p2 σ := by
  obtain ⟨hM, hC, hM2, hS, hL, hk⟩ := J
  refine rg_X9about hM (fun _ σ' h e => ?_)
  have A : CI σ' ∧ CSrc σ' ∧ Gc σ σ' := ⟨h, hC.same e (by decide), e.1 2 (by decide), e.1 4 (by decide), e.1 5 (by decide), e.1 6 (by decide)⟩
  refine rg_about hS hM2 (fun _ τ' h e => ?_)
  have B : MI τ' ∧ SI τ' ∧ LI τ' ∧ Gm τ τ' := ⟨h, hS.same e (by decide), hL.same e (by decide), e.1 1 (by decide), e.1 20 (by decide), e.1 21 (by decide), e.1 25 (by decide)⟩
  exact ⟨A.1, A.2.1, B.1, B.2.1, B.2.2.1, hk.quiet A.2.2 B.2.2.2⟩
theorem pr_takes {p1 p2 : Int32} {σ τ : VS} (J : Jn σ τ) : wp_X9takes (fun _ σ' => wp_takes (fun _ τ' => Jn σ' τ') p1 p2 τ) p1 p2 σ := by
  obtain ⟨hM, hC, hM2, hS, hL, hk⟩ := J
  refine rg_X9takes hM (fun _ σ' h e => ?_)
  have A : CI σ' ∧ CSrc σ' ∧ Gc σ σ' := ⟨h, hC.same e (by decide), e.1 2 (by decide), e.1 4 (by decide), e.1 5 (by decide), e.1 6 (by decide)⟩
  refine rg_takes hM2 (fun _ τ' h e => ?_)
  have B : MI τ' ∧ SI τ' ∧ LI τ' ∧ Gm τ τ' := ⟨h, hS.same e (by decide), hL.same e (by decide), e.1 1 (by decide), e.1 20 (by decide), e.1 21 (by decide), e.1 25 (by decide)⟩
  exact ⟨A.1, A.2.1, B.1, B.2.1, B.2.2.1, hk.quiet A.2.2 B.2.2.2⟩
theorem pr_arrival {p1 p2 p3 : Int32} {σ τ : VS} (J : Jn σ τ) : wp_X9arrival (fun _ σ' => wp_arrival (fun _ τ' => Jn σ' τ') p1 p2 p3 τ) p1 p2 p3 σ := by
  obtain ⟨hM, hC, hM2, hS, hL, hk⟩ := J
  refine rg_X9arrival hM (fun _ σ' h e => ?_)
  have A : CI σ' ∧ CSrc σ' ∧ Gc σ σ' := ⟨h, hC.same e (by decide), e.1 2 (by decide), e.1 4 (by decide), e.1 5 (by decide), e.1 6 (by decide)⟩
  refine rg_arrival hS hM2 (fun _ τ' h e => ?_)
  have B : MI τ' ∧ SI τ' ∧ LI τ' ∧ Gm τ τ' := ⟨h, hS.same e (by decide), hL.same e (by decide), e.1 1 (by decide), e.1 20 (by decide), e.1 21 (by decide), e.1 25 (by decide)⟩
  exact ⟨A.1, A.2.1, B.1, B.2.1, B.2.2.1, hk.quiet A.2.2 B.2.2.2⟩
theorem pr_told {p1 : Int32} {σ τ : VS} (J : Jn σ τ) : wp_X9told (fun _ σ' => wp_told (fun _ τ' => Jn σ' τ') p1 τ) p1 σ := by
  obtain ⟨hM, hC, hM2, hS, hL, hk⟩ := J
  refine rg_X9told hM (fun _ σ' h e => ?_)
  have A : CI σ' ∧ CSrc σ' ∧ Gc σ σ' := ⟨h, hC.same e (by decide), e.1 2 (by decide), e.1 4 (by decide), e.1 5 (by decide), e.1 6 (by decide)⟩
  refine rg_told hS hM2 (fun _ τ' h e => ?_)
  have B : MI τ' ∧ SI τ' ∧ LI τ' ∧ Gm τ τ' := ⟨h, hS.same e (by decide), hL.same e (by decide), e.1 1 (by decide), e.1 20 (by decide), e.1 21 (by decide), e.1 25 (by decide)⟩
  exact ⟨A.1, A.2.1, B.1, B.2.1, B.2.2.1, hk.quiet A.2.2 B.2.2.2⟩
theorem pr_slack {p1 : Int32} {σ τ : VS} (J : Jn σ τ) : wp_X9slack (fun _ σ' => wp_slack (fun _ τ' => Jn σ' τ') p1 τ) p1 σ := by
  obtain ⟨hM, hC, hM2, hS, hL, hk⟩ := J
  refine rg_X9slack hM (fun _ σ' h e => ?_)
  have A : CI σ' ∧ CSrc σ' ∧ Gc σ σ' := ⟨h, hC.same e (by decide), e.1 2 (by decide), e.1 4 (by decide), e.1 5 (by decide), e.1 6 (by decide)⟩
  refine rg_slack hS hM2 (fun _ τ' h e => ?_)
  have B : MI τ' ∧ SI τ' ∧ LI τ' ∧ Gm τ τ' := ⟨h, hS.same e (by decide), hL.same e (by decide), e.1 1 (by decide), e.1 20 (by decide), e.1 21 (by decide), e.1 25 (by decide)⟩
  exact ⟨A.1, A.2.1, B.1, B.2.1, B.2.2.1, hk.quiet A.2.2 B.2.2.2⟩
theorem pr_hold {p1 : Int32} {σ τ : VS} (J : Jn σ τ) : wp_X9hold (fun _ σ' => wp_hold (fun _ τ' => Jn σ' τ') p1 τ) p1 σ := by
  obtain ⟨hM, hC, hM2, hS, hL, hk⟩ := J
  refine rg_X9hold hM (fun _ σ' h e => ?_)
  have A : CI σ' ∧ CSrc σ' ∧ Gc σ σ' := ⟨h, hC.same e (by decide), e.1 2 (by decide), e.1 4 (by decide), e.1 5 (by decide), e.1 6 (by decide)⟩
  refine rg_hold hS hM2 (fun _ τ' h e => ?_)
  have B : MI τ' ∧ SI τ' ∧ LI τ' ∧ Gm τ τ' := ⟨h, hS.same e (by decide), hL.same e (by decide), e.1 1 (by decide), e.1 20 (by decide), e.1 21 (by decide), e.1 25 (by decide)⟩
  exact ⟨A.1, A.2.1, B.1, B.2.1, B.2.2.1, hk.quiet A.2.2 B.2.2.2⟩
theorem pr_worst {p1 : Int32} {σ τ : VS} (J : Jn σ τ) : wp_X9worst (fun _ σ' => wp_worst (fun _ τ' => Jn σ' τ') p1 τ) p1 σ := by
  obtain ⟨hM, hC, hM2, hS, hL, hk⟩ := J
  refine rg_X9worst hM (fun _ σ' h e => ?_)
  have A : CI σ' ∧ CSrc σ' ∧ Gc σ σ' := ⟨h, hC.same e (by decide), e.1 2 (by decide), e.1 4 (by decide), e.1 5 (by decide), e.1 6 (by decide)⟩
  refine rg_worst hS hM2 (fun _ τ' h e => ?_)
  have B : MI τ' ∧ SI τ' ∧ LI τ' ∧ Gm τ τ' := ⟨h, hS.same e (by decide), hL.same e (by decide), e.1 1 (by decide), e.1 20 (by decide), e.1 21 (by decide), e.1 25 (by decide)⟩
  exact ⟨A.1, A.2.1, B.1, B.2.1, B.2.2.1, hk.quiet A.2.2 B.2.2.2⟩
theorem pr_paths {p1 : Int32} {σ τ : VS} (J : Jn σ τ) : wp_X9paths (fun _ σ' => wp_paths (fun _ τ' => Jn σ' τ') p1 τ) p1 σ := by
  obtain ⟨hM, hC, hM2, hS, hL, hk⟩ := J
  refine rg_X9paths hM (fun _ σ' h e => ?_)
  have A : CI σ' ∧ CSrc σ' ∧ Gc σ σ' := ⟨h, hC.same e (by decide), e.1 2 (by decide), e.1 4 (by decide), e.1 5 (by decide), e.1 6 (by decide)⟩
  refine rg_paths hS hM2 (fun _ τ' h e => ?_)
  have B : MI τ' ∧ SI τ' ∧ LI τ' ∧ Gm τ τ' := ⟨h, hS.same e (by decide), hL.same e (by decide), e.1 1 (by decide), e.1 20 (by decide), e.1 21 (by decide), e.1 25 (by decide)⟩
  exact ⟨A.1, A.2.1, B.1, B.2.1, B.2.2.1, hk.quiet A.2.2 B.2.2.2⟩
theorem pr_path {p1 p2 : Int32} {σ τ : VS} (J : Jn σ τ) : wp_X9path (fun _ σ' => wp_path (fun _ τ' => Jn σ' τ') p1 p2 τ) p1 p2 σ := by
  obtain ⟨hM, hC, hM2, hS, hL, hk⟩ := J
  refine rg_X9path hM (fun _ σ' h e => ?_)
  have A : CI σ' ∧ CSrc σ' ∧ Gc σ σ' := ⟨h, hC.same e (by decide), e.1 2 (by decide), e.1 4 (by decide), e.1 5 (by decide), e.1 6 (by decide)⟩
  refine rg_path hS hM2 hL (fun _ τ' h h2 e => ?_)
  have B : MI τ' ∧ SI τ' ∧ LI τ' ∧ Gm τ τ' := ⟨h, hS.same e (by decide), h2, e.1 1 (by decide), e.1 20 (by decide), e.1 21 (by decide), e.1 25 (by decide)⟩
  exact ⟨A.1, A.2.1, B.1, B.2.1, B.2.2.1, hk.quiet A.2.2 B.2.2.2⟩
theorem pr_step {p1 p2 : Int32} {σ τ : VS} (J : Jn σ τ) : wp_X9step (fun _ σ' => wp_step (fun _ τ' => Jn σ' τ') p1 p2 τ) p1 p2 σ := by
  obtain ⟨hM, hC, hM2, hS, hL, hk⟩ := J
  refine rg_X9step hM (fun _ σ' h e => ?_)
  have A : CI σ' ∧ CSrc σ' ∧ Gc σ σ' := ⟨h, hC.same e (by decide), e.1 2 (by decide), e.1 4 (by decide), e.1 5 (by decide), e.1 6 (by decide)⟩
  refine rg_step hM2 (fun _ τ' h e => ?_)
  have B : MI τ' ∧ SI τ' ∧ LI τ' ∧ Gm τ τ' := ⟨h, hS.same e (by decide), hL.same e (by decide), e.1 1 (by decide), e.1 20 (by decide), e.1 21 (by decide), e.1 25 (by decide)⟩
  exact ⟨A.1, A.2.1, B.1, B.2.1, B.2.2.1, hk.quiet A.2.2 B.2.2.2⟩
theorem pr_common {p1 p2 : Int32} {σ τ : VS} (J : Jn σ τ) : wp_X9common (fun _ σ' => wp_common (fun _ τ' => Jn σ' τ') p1 p2 τ) p1 p2 σ := by
  obtain ⟨hM, hC, hM2, hS, hL, hk⟩ := J
  refine rg_X9common hM (fun _ σ' h e => ?_)
  have A : CI σ' ∧ CSrc σ' ∧ Gc σ σ' := ⟨h, hC.same e (by decide), e.1 2 (by decide), e.1 4 (by decide), e.1 5 (by decide), e.1 6 (by decide)⟩
  refine rg_common hS hM2 (fun _ τ' h e => ?_)
  have B : MI τ' ∧ SI τ' ∧ LI τ' ∧ Gm τ τ' := ⟨h, hS.same e (by decide), hL.same e (by decide), e.1 1 (by decide), e.1 20 (by decide), e.1 21 (by decide), e.1 25 (by decide)⟩
  exact ⟨A.1, A.2.1, B.1, B.2.1, B.2.2.1, hk.quiet A.2.2 B.2.2.2⟩
theorem pr_least {p1 : Int32} {σ τ : VS} (J : Jn σ τ) : wp_X9least (fun _ σ' => wp_least (fun _ τ' => Jn σ' τ') p1 τ) p1 σ := by
  obtain ⟨hM, hC, hM2, hS, hL, hk⟩ := J
  refine rg_X9least hM (fun _ σ' h e => ?_)
  have A : CI σ' ∧ CSrc σ' ∧ Gc σ σ' := ⟨h, hC.same e (by decide), e.1 2 (by decide), e.1 4 (by decide), e.1 5 (by decide), e.1 6 (by decide)⟩
  refine rg_least hS hM2 hL (fun _ τ' h h2 e => ?_)
  have B : MI τ' ∧ SI τ' ∧ LI τ' ∧ Gm τ τ' := ⟨h, hS.same e (by decide), h2, e.1 1 (by decide), e.1 20 (by decide), e.1 21 (by decide), e.1 25 (by decide)⟩
  exact ⟨A.1, A.2.1, B.1, B.2.1, B.2.2.1, hk.quiet A.2.2 B.2.2.2⟩
theorem pr_fix  {σ τ : VS} (J : Jn σ τ) : wp_X9fix (fun _ σ' => wp_fix (fun _ τ' => Jn σ' τ')  τ)  σ := by
  obtain ⟨hM, hC, hM2, hS, hL, hk⟩ := J
  refine rg_X9fix hM (fun _ σ' h e => ?_)
  have A : CI σ' ∧ CSrc σ' ∧ Gc σ σ' := ⟨h, hC.same e (by decide), e.1 2 (by decide), e.1 4 (by decide), e.1 5 (by decide), e.1 6 (by decide)⟩
  refine rg_fix hS hM2 hL (fun _ τ' h h2 e => ?_)
  have B : MI τ' ∧ SI τ' ∧ LI τ' ∧ Gm τ τ' := ⟨h, hS.same e (by decide), h2, e.1 1 (by decide), e.1 20 (by decide), e.1 21 (by decide), e.1 25 (by decide)⟩
  exact ⟨A.1, A.2.1, B.1, B.2.1, B.2.2.1, hk.quiet A.2.2 B.2.2.2⟩
theorem pr_area  {σ τ : VS} (J : Jn σ τ) : wp_X9area (fun _ σ' => wp_area (fun _ τ' => Jn σ' τ')  τ)  σ := by
  obtain ⟨hM, hC, hM2, hS, hL, hk⟩ := J
  refine rg_X9area hM (fun _ σ' h e => ?_)
  have A : CI σ' ∧ CSrc σ' ∧ Gc σ σ' := ⟨h, hC.same e (by decide), e.1 2 (by decide), e.1 4 (by decide), e.1 5 (by decide), e.1 6 (by decide)⟩
  refine rg_area hM2 (fun _ τ' h e => ?_)
  have B : MI τ' ∧ SI τ' ∧ LI τ' ∧ Gm τ τ' := ⟨h, hS.same e (by decide), hL.same e (by decide), e.1 1 (by decide), e.1 20 (by decide), e.1 21 (by decide), e.1 25 (by decide)⟩
  exact ⟨A.1, A.2.1, B.1, B.2.1, B.2.2.1, hk.quiet A.2.2 B.2.2.2⟩
theorem pr_wire {p1 p2 p3 : Int32} {σ τ : VS} (J : Jn σ τ) : wp_X9wire (fun _ σ' => wp_wire (fun _ τ' => Jn σ' τ') p1 p2 p3 τ) p1 p2 p3 σ := by
  obtain ⟨hM, hC, hM2, hS, hL, hk⟩ := J
  refine cs_wire hM hC (fun _ σ' h h1 e => ?_)
  have A : CI σ' ∧ CSrc σ' ∧ Gc σ σ' := ⟨h, h1, e.1 2 (by decide), e.1 4 (by decide), e.1 5 (by decide), e.1 6 (by decide)⟩
  refine rg_wire hS hM2 hL (fun _ τ' h h1 h2 e => ?_)
  have B : MI τ' ∧ SI τ' ∧ LI τ' ∧ Gm τ τ' := ⟨h, h1, h2, e.1 1 (by decide), e.1 20 (by decide), e.1 21 (by decide), e.1 25 (by decide)⟩
  exact ⟨A.1, A.2.1, B.1, B.2.1, B.2.2.1, hk.quiet A.2.2 B.2.2.2⟩
