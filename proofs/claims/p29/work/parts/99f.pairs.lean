/-- both sides keep their own, and the counters agree -/
def Jn (σ τ : VS) : Prop := CI σ ∧ CSrc σ ∧ MI τ ∧ SI τ ∧ LI τ ∧ Lk σ τ
theorem ti_inj {a b : Int32} (h : a.toInt = b.toInt) : a = b := Int32.toInt_inj.mp h
theorem pr_make {p1 p2 p3 : Int32} {σ τ : VS} (J : Jn σ τ) : wp_X9make (fun r σ' => wp_make (fun r2 τ' => r = r2 ∧ Jn σ' τ') p1 p2 p3 τ) p1 p2 p3 σ := by
  obtain ⟨hM, hC, hM2, hS, hL, k1, k2, k3, k4⟩ := J
  refine cs_make hM hC (fun r σ' a1 a2 e a => rg_make hS hM2 hL (fun r2 τ' b1 b2 b3 f b => ?_))
  have t1 : (σ.1 2).toInt = (τ.1 1).toInt := by rw [k1]
  have L2 : σ'.1 5 = τ'.1 21 := by rw [e.1 5 (by decide), f.1 21 (by decide)]; exact k2
  have L3 : σ'.1 6 = τ'.1 25 := by rw [e.1 6 (by decide), f.1 25 (by decide)]; exact k3
  have L4 : σ'.1 4 = τ'.1 20 := by rw [e.1 4 (by decide), f.1 20 (by decide)]; exact k4
  rcases a with ⟨q1, q2, q3, q4⟩ | ⟨q1, q2⟩
  · rcases b with ⟨w1, w2, w3, w4⟩ | ⟨w1, w2⟩
    · exact ⟨ti_inj (by omega), a1, a2, b1, b2, b3, ti_inj (by omega), L2, L3, L4⟩
    · rcases w1 with ⟨w1, w3⟩ | ⟨w1, w3, w4⟩
      · exact absurd q1 w1
      · exact absurd (by omega) w3
  · rcases b with ⟨w1, w2, w3, w4⟩ | ⟨w1, w2⟩
    · rcases q1 with ⟨q1, q3⟩ | ⟨q1, q3, q4⟩
      · exact absurd w1 q1
      · exact absurd (by omega) q3
    · refine ⟨ti_inj ?_, a1, a2, b1, b2, b3, by rw [q2, w2]; exact k1, L2, L3, L4⟩
      rcases q1 with ⟨q1, q3⟩ | ⟨q1, q3, q4⟩ <;> rcases w1 with ⟨w1, w3⟩ | ⟨w1, w3, w4⟩
      · omega
      · exact absurd w1 q1
      · exact absurd q1 w1
      · omega
theorem pr_extra {p1 p2 : Int32} {σ τ : VS} (J : Jn σ τ) : wp_X9extra (fun _ σ' => wp_extra (fun _ τ' => Jn σ' τ') p1 p2 τ) p1 p2 σ := by
  obtain ⟨hM, hC, hM2, hS, hL, hk⟩ := J
  refine rg_X9extra hM (fun _ σ' h e => ?_)
  have A : CI σ' ∧ CSrc σ' ∧ Gc σ σ' := ⟨h, hC.same e (by decide), e.1 2 (by decide), e.1 4 (by decide), e.1 5 (by decide), e.1 6 (by decide)⟩
  refine rg_extra hM2 (fun _ τ' h e => ?_)
  have B : MI τ' ∧ SI τ' ∧ LI τ' ∧ Gm τ τ' := ⟨h, hS.same e (by decide), hL.same e (by decide), e.1 1 (by decide), e.1 20 (by decide), e.1 21 (by decide), e.1 25 (by decide)⟩
  exact ⟨A.1, A.2.1, B.1, B.2.1, B.2.2.1, hk.quiet A.2.2 B.2.2.2⟩
theorem pr_port {p1 p2 p3 p4 : Int32} {σ τ : VS} (J : Jn σ τ) : wp_X9port (fun _ σ' => wp_port (fun _ τ' => Jn σ' τ') p1 p2 p3 p4 τ) p1 p2 p3 p4 σ := by
  obtain ⟨hM, hC, hM2, hS, hL, hk⟩ := J
  refine rg_X9port hM (fun _ σ' h e => ?_)
  have A : CI σ' ∧ CSrc σ' ∧ Gc σ σ' := ⟨h, hC.same e (by decide), e.1 2 (by decide), e.1 4 (by decide), e.1 5 (by decide), e.1 6 (by decide)⟩
  refine rg_port hM2 (fun _ τ' h e => ?_)
  have B : MI τ' ∧ SI τ' ∧ LI τ' ∧ Gm τ τ' := ⟨h, hS.same e (by decide), hL.same e (by decide), e.1 1 (by decide), e.1 20 (by decide), e.1 21 (by decide), e.1 25 (by decide)⟩
  exact ⟨A.1, A.2.1, B.1, B.2.1, B.2.2.1, hk.quiet A.2.2 B.2.2.2⟩
theorem pr_target {p1 p2 p3 p4 : Int32} {σ τ : VS} (J : Jn σ τ) : wp_X9target (fun _ σ' => wp_target (fun _ τ' => Jn σ' τ') p1 p2 p3 p4 τ) p1 p2 p3 p4 σ := by
  obtain ⟨hM, hC, hM2, hS, hL, hk⟩ := J
  refine rg_X9target hM (fun _ σ' h e => ?_)
  have A : CI σ' ∧ CSrc σ' ∧ Gc σ σ' := ⟨h, hC.same e (by decide), e.1 2 (by decide), e.1 4 (by decide), e.1 5 (by decide), e.1 6 (by decide)⟩
  refine rs_target hS hM2 hL (fun _ τ' h h1 h2 e => ?_)
  have B : MI τ' ∧ SI τ' ∧ LI τ' ∧ Gm τ τ' := ⟨h, h1, h2, e.1 1 (by decide), e.1 20 (by decide), e.1 21 (by decide), e.1 25 (by decide)⟩
  exact ⟨A.1, A.2.1, B.1, B.2.1, B.2.2.1, hk.quiet A.2.2 B.2.2.2⟩
theorem pr_entry {p1 p2 p3 p4 p5 : Int32} {σ τ : VS} (J : Jn σ τ) : wp_X9entry (fun _ σ' => wp_entry (fun _ τ' => Jn σ' τ') p1 p2 p3 p4 p5 τ) p1 p2 p3 p4 p5 σ := by
  obtain ⟨hM, hC, hM2, hS, hL, hk⟩ := J
  refine rg_X9entry hM (fun _ σ' h e => ?_)
  have A : CI σ' ∧ CSrc σ' ∧ Gc σ σ' := ⟨h, hC.same e (by decide), e.1 2 (by decide), e.1 4 (by decide), e.1 5 (by decide), e.1 6 (by decide)⟩
  refine rg_entry hM2 (fun _ τ' h e => ?_)
  have B : MI τ' ∧ SI τ' ∧ LI τ' ∧ Gm τ τ' := ⟨h, hS.same e (by decide), hL.same e (by decide), e.1 1 (by decide), e.1 20 (by decide), e.1 21 (by decide), e.1 25 (by decide)⟩
  exact ⟨A.1, A.2.1, B.1, B.2.1, B.2.2.1, hk.quiet A.2.2 B.2.2.2⟩
theorem pr_tear {p1 p2 p3 p4 : Int32} {σ τ : VS} (J : Jn σ τ) : wp_X9tear (fun _ σ' => wp_tear (fun _ τ' => Jn σ' τ') p1 p2 p3 p4 τ) p1 p2 p3 p4 σ := by
  obtain ⟨hM, hC, hM2, hS, hL, hk⟩ := J
  refine rg_X9tear hM (fun _ σ' h e => ?_)
  have A : CI σ' ∧ CSrc σ' ∧ Gc σ σ' := ⟨h, hC.same e (by decide), e.1 2 (by decide), e.1 4 (by decide), e.1 5 (by decide), e.1 6 (by decide)⟩
  refine rg_tear hM2 (fun _ τ' h e => ?_)
  have B : MI τ' ∧ SI τ' ∧ LI τ' ∧ Gm τ τ' := ⟨h, hS.same e (by decide), hL.same e (by decide), e.1 1 (by decide), e.1 20 (by decide), e.1 21 (by decide), e.1 25 (by decide)⟩
  exact ⟨A.1, A.2.1, B.1, B.2.1, B.2.2.1, hk.quiet A.2.2 B.2.2.2⟩
theorem pr_fall {p1 p2 : Int32} {σ τ : VS} (J : Jn σ τ) : wp_X9fall (fun _ σ' => wp_fall (fun _ τ' => Jn σ' τ') p1 p2 τ) p1 p2 σ := by
  obtain ⟨hM, hC, hM2, hS, hL, hk⟩ := J
  refine rg_X9fall hM (fun _ σ' h e => ?_)
  have A : CI σ' ∧ CSrc σ' ∧ Gc σ σ' := ⟨h, hC.same e (by decide), e.1 2 (by decide), e.1 4 (by decide), e.1 5 (by decide), e.1 6 (by decide)⟩
  refine rg_fall hM2 (fun _ τ' h e => ?_)
  have B : MI τ' ∧ SI τ' ∧ LI τ' ∧ Gm τ τ' := ⟨h, hS.same e (by decide), hL.same e (by decide), e.1 1 (by decide), e.1 20 (by decide), e.1 21 (by decide), e.1 25 (by decide)⟩
  exact ⟨A.1, A.2.1, B.1, B.2.1, B.2.2.1, hk.quiet A.2.2 B.2.2.2⟩
theorem pr_corner {p1 p2 : Int32} {σ τ : VS} (J : Jn σ τ) : wp_X9corner (fun _ σ' => wp_corner (fun _ τ' => Jn σ' τ') p1 p2 τ) p1 p2 σ := by
  obtain ⟨hM, hC, hM2, hS, hL, hk⟩ := J
  refine rg_X9corner hM (fun _ σ' h e => ?_)
  have A : CI σ' ∧ CSrc σ' ∧ Gc σ σ' := ⟨h, hC.same e (by decide), e.1 2 (by decide), e.1 4 (by decide), e.1 5 (by decide), e.1 6 (by decide)⟩
  refine rg_corner hM2 (fun _ τ' h e => ?_)
  have B : MI τ' ∧ SI τ' ∧ LI τ' ∧ Gm τ τ' := ⟨h, hS.same e (by decide), hL.same e (by decide), e.1 1 (by decide), e.1 20 (by decide), e.1 21 (by decide), e.1 25 (by decide)⟩
  exact ⟨A.1, A.2.1, B.1, B.2.1, B.2.2.1, hk.quiet A.2.2 B.2.2.2⟩
