theorem ab_isRow_33  {Q1 Q2 Q : Int32 → VS → Prop} {k0 : Int32} {σ : VS} (h1 : b_isRow_33  Q1 k0 σ) (h2 : b_isRow_33  Q2 k0 σ)  (kq : (∀ (z0 : Int32) (z1 : VS), Q1 z0 z1 → Q2 z0 z1 → Q z0 z1)) : b_isRow_33  Q k0 σ := by
  unfold b_isRow_33 at h1 h2 ⊢
  exact ⟨h1.1, (kq _ _ h1.2 h2.2)⟩
theorem ab_isRow_32  {Q1 Q2 Q : Int32 → VS → Prop} {σ : VS} (h1 : b_isRow_32  Q1 σ) (h2 : b_isRow_32  Q2 σ)  (kq : (∀ (z0 : Int32) (z1 : VS), Q1 z0 z1 → Q2 z0 z1 → Q z0 z1)) : b_isRow_32  Q σ := by
  unfold b_isRow_32 at h1 h2 ⊢
  exact (ab_isRow_33 h1 h2 kq)
theorem am_isRow {Q1 Q2 Q : Int32 → VS → Prop} {p1 : Int32} {p2 : Int32} {p3 : Int32} {σ : VS} (h1 : wp_isRow Q1 p1 p2 p3 σ) (h2 : wp_isRow Q2 p1 p2 p3 σ) (kq : (∀ (z0 : Int32) (z1 : VS), Q1 z0 z1 → Q2 z0 z1 → Q z0 z1)) : wp_isRow Q p1 p2 p3 σ := by
  unfold wp_isRow at h1 h2 ⊢
  exact ⟨(fun c0 => (ab_isRow_32 (h1.1 c0) (h2.1 c0) kq)), (fun c0 => ⟨(fun c1 => (ab_isRow_32 ((h1.2 c0).1 c1) ((h2.2 c0).1 c1) kq)), (fun c1 => ⟨(fun c2 => (ab_isRow_32 (((h1.2 c0).2 c1).1 c2) (((h2.2 c0).2 c1).1 c2) kq)), (fun c2 => ⟨(fun c3 => (ab_isRow_32 ((((h1.2 c0).2 c1).2 c2).1 c3) ((((h2.2 c0).2 c1).2 c2).1 c3) kq)), (fun c3 => ⟨(fun c4 => (ab_isRow_32 (((((h1.2 c0).2 c1).2 c2).2 c3).1 c4) (((((h2.2 c0).2 c1).2 c2).2 c3).1 c4) kq)), (fun c4 => ⟨(fun c5 => (ab_isRow_32 ((((((h1.2 c0).2 c1).2 c2).2 c3).2 c4).1 c5) ((((((h2.2 c0).2 c1).2 c2).2 c3).2 c4).1 c5) kq)), (fun c5 => (ab_isRow_33 ((((((h1.2 c0).2 c1).2 c2).2 c3).2 c4).2 c5) ((((((h2.2 c0).2 c1).2 c2).2 c3).2 c4).2 c5) kq))⟩)⟩)⟩)⟩)⟩)⟩
theorem ab_isCell_17  {Q1 Q2 Q : Int32 → VS → Prop} {k0 : Int32} {σ : VS} (h1 : b_isCell_17  Q1 k0 σ) (h2 : b_isCell_17  Q2 k0 σ)  (kq : (∀ (z0 : Int32) (z1 : VS), Q1 z0 z1 → Q2 z0 z1 → Q z0 z1)) : b_isCell_17  Q k0 σ := by
  unfold b_isCell_17 at h1 h2 ⊢
  exact ⟨h1.1, (kq _ _ h1.2 h2.2)⟩
theorem ab_isCell_16  {Q1 Q2 Q : Int32 → VS → Prop} {σ : VS} (h1 : b_isCell_16  Q1 σ) (h2 : b_isCell_16  Q2 σ)  (kq : (∀ (z0 : Int32) (z1 : VS), Q1 z0 z1 → Q2 z0 z1 → Q z0 z1)) : b_isCell_16  Q σ := by
  unfold b_isCell_16 at h1 h2 ⊢
  exact (ab_isCell_17 h1 h2 kq)
theorem am_isCell {Q1 Q2 Q : Int32 → VS → Prop} {p1 : Int32} {σ : VS} (h1 : wp_isCell Q1 p1 σ) (h2 : wp_isCell Q2 p1 σ) (kq : (∀ (z0 : Int32) (z1 : VS), Q1 z0 z1 → Q2 z0 z1 → Q z0 z1)) : wp_isCell Q p1 σ := by
  unfold wp_isCell at h1 h2 ⊢
  exact ⟨(fun c0 => (ab_isCell_16 (h1.1 c0) (h2.1 c0) kq)), (fun c0 => ⟨(fun c1 => (ab_isCell_16 ((h1.2 c0).1 c1) ((h2.2 c0).1 c1) kq)), (fun c1 => (ab_isCell_17 ((h1.2 c0).2 c1) ((h2.2 c0).2 c1) kq))⟩)⟩
theorem ab_isInput_27  {Q1 Q2 Q : Int32 → VS → Prop} {k0 : Int32} {σ : VS} (h1 : b_isInput_27  Q1 k0 σ) (h2 : b_isInput_27  Q2 k0 σ)  (kq : (∀ (z0 : Int32) (z1 : VS), Q1 z0 z1 → Q2 z0 z1 → Q z0 z1)) : b_isInput_27  Q k0 σ := by
  unfold b_isInput_27 at h1 h2 ⊢
  exact ⟨h1.1, (kq _ _ h1.2 h2.2)⟩
theorem ab_isInput_26  {Q1 Q2 Q : Int32 → VS → Prop} {σ : VS} (h1 : b_isInput_26  Q1 σ) (h2 : b_isInput_26  Q2 σ)  (kq : (∀ (z0 : Int32) (z1 : VS), Q1 z0 z1 → Q2 z0 z1 → Q z0 z1)) : b_isInput_26  Q σ := by
  unfold b_isInput_26 at h1 h2 ⊢
  exact (ab_isInput_27 h1 h2 kq)
theorem am_isInput {Q1 Q2 Q : Int32 → VS → Prop} {p1 : Int32} {p2 : Int32} {σ : VS} (h1 : wp_isInput Q1 p1 p2 σ) (h2 : wp_isInput Q2 p1 p2 σ) (kq : (∀ (z0 : Int32) (z1 : VS), Q1 z0 z1 → Q2 z0 z1 → Q z0 z1)) : wp_isInput Q p1 p2 σ := by
  unfold wp_isInput at h1 h2 ⊢
  exact (am_isCell h1 h2 (fun _ _ u0 v0 => ⟨(fun c1 => (ab_isInput_26 (u0.1 c1) (v0.1 c1) kq)), (fun c1 => ⟨(fun c2 => (ab_isInput_26 ((u0.2 c1).1 c2) ((v0.2 c1).1 c2) kq)), (fun c2 => ⟨((u0.2 c1).2 c2).1, ⟨(fun c3 => (ab_isInput_26 (((u0.2 c1).2 c2).2.1 c3) (((v0.2 c1).2 c2).2.1 c3) kq)), (fun c3 => (ab_isInput_27 (((u0.2 c1).2 c2).2.2 c3) (((v0.2 c1).2 c2).2.2 c3) kq))⟩⟩)⟩)⟩))
theorem ab_isGate_24  {Q1 Q2 Q : Int32 → VS → Prop} {k0 : Int32} {σ : VS} (h1 : b_isGate_24  Q1 k0 σ) (h2 : b_isGate_24  Q2 k0 σ)  (kq : (∀ (z0 : Int32) (z1 : VS), Q1 z0 z1 → Q2 z0 z1 → Q z0 z1)) : b_isGate_24  Q k0 σ := by
  unfold b_isGate_24 at h1 h2 ⊢
  exact ⟨h1.1, (kq _ _ h1.2 h2.2)⟩
theorem ab_isGate_23  {Q1 Q2 Q : Int32 → VS → Prop} {σ : VS} (h1 : b_isGate_23  Q1 σ) (h2 : b_isGate_23  Q2 σ)  (kq : (∀ (z0 : Int32) (z1 : VS), Q1 z0 z1 → Q2 z0 z1 → Q z0 z1)) : b_isGate_23  Q σ := by
  unfold b_isGate_23 at h1 h2 ⊢
  exact (ab_isGate_24 h1 h2 kq)
theorem am_isGate {Q1 Q2 Q : Int32 → VS → Prop} {p1 : Int32} {σ : VS} (h1 : wp_isGate Q1 p1 σ) (h2 : wp_isGate Q2 p1 σ) (kq : (∀ (z0 : Int32) (z1 : VS), Q1 z0 z1 → Q2 z0 z1 → Q z0 z1)) : wp_isGate Q p1 σ := by
  unfold wp_isGate at h1 h2 ⊢
  exact ⟨h1.1, ⟨(fun c0 => (ab_isGate_23 (h1.2.1 c0) (h2.2.1 c0) kq)), (fun c0 => ⟨(h1.2.2 c0).1, ⟨(fun c1 => (ab_isGate_23 ((h1.2.2 c0).2.1 c1) ((h2.2.2 c0).2.1 c1) kq)), (fun c1 => (ab_isGate_24 ((h1.2.2 c0).2.2 c1) ((h2.2.2 c0).2.2 c1) kq))⟩⟩)⟩⟩
theorem ab_isTarget_15  {Q1 Q2 Q : Int32 → VS → Prop} {k0 : Int32} {σ : VS} (h1 : b_isTarget_15  Q1 k0 σ) (h2 : b_isTarget_15  Q2 k0 σ)  (kq : (∀ (z0 : Int32) (z1 : VS), Q1 z0 z1 → Q2 z0 z1 → Q z0 z1)) : b_isTarget_15  Q k0 σ := by
  unfold b_isTarget_15 at h1 h2 ⊢
  exact ⟨h1.1, (kq _ _ h1.2 h2.2)⟩
theorem am_isTarget {Q1 Q2 Q : Int32 → VS → Prop} {p1 : Int32} {σ : VS} (h1 : wp_isTarget Q1 p1 σ) (h2 : wp_isTarget Q2 p1 σ) (kq : (∀ (z0 : Int32) (z1 : VS), Q1 z0 z1 → Q2 z0 z1 → Q z0 z1)) : wp_isTarget Q p1 σ := by
  unfold wp_isTarget at h1 h2 ⊢
  exact ⟨h1.1, ⟨(fun c0 => (ab_isTarget_15 (h1.2.1 c0) (h2.2.1 c0) kq)), (fun c0 => (ab_isTarget_15 (h1.2.2 c0) (h2.2.2 c0) kq))⟩⟩
theorem ab_mayBe_18  {Q1 Q2 Q : Int32 → VS → Prop} {k0 : Int32} {σ : VS} (h1 : b_mayBe_18  Q1 k0 σ) (h2 : b_mayBe_18  Q2 k0 σ)  (kq : (∀ (z0 : Int32) (z1 : VS), Q1 z0 z1 → Q2 z0 z1 → Q z0 z1)) : b_mayBe_18  Q k0 σ := by
  unfold b_mayBe_18 at h1 h2 ⊢
  exact ⟨h1.1, (kq _ _ h1.2 h2.2)⟩
theorem ab_mayBe_13  {Q1 Q2 Q : Int32 → VS → Prop} {σ : VS} (h1 : b_mayBe_13  Q1 σ) (h2 : b_mayBe_13  Q2 σ)  (kq : (∀ (z0 : Int32) (z1 : VS), Q1 z0 z1 → Q2 z0 z1 → Q z0 z1)) : b_mayBe_13  Q σ := by
  unfold b_mayBe_13 at h1 h2 ⊢
  exact (ab_mayBe_18 h1 h2 kq)
theorem am_mayBe {Q1 Q2 Q : Int32 → VS → Prop} {p1 : Int32} {σ : VS} (h1 : wp_mayBe Q1 p1 σ) (h2 : wp_mayBe Q2 p1 σ) (kq : (∀ (z0 : Int32) (z1 : VS), Q1 z0 z1 → Q2 z0 z1 → Q z0 z1)) : wp_mayBe Q p1 σ := by
  unfold wp_mayBe at h1 h2 ⊢
  exact ⟨(fun c0 => (ab_mayBe_13 (h1.1 c0) (h2.1 c0) kq)), (fun c0 => (am_isCell (h1.2 c0) (h2.2 c0) (fun _ _ u1 v1 => ⟨(fun c2 => (ab_mayBe_18 (u1.1 c2) (v1.1 c2) kq)), (fun c2 => (ab_mayBe_13 (u1.2 c2) (v1.2 c2) kq))⟩)))⟩
theorem ab_make_119 {X119a X119b X119 : Int32 → Int32 → VS → Prop} {Q1 Q2 Q : Int32 → VS → Prop} {l4 : Int32} {l5 : Int32} {σ : VS} (h1 : b_make_119 X119a Q1 l4 l5 σ) (h2 : b_make_119 X119b Q2 l4 l5 σ) (kX119 : (∀ (z0 : Int32) (z1 : Int32) (z2 : VS), X119a z0 z1 z2 → X119b z0 z1 z2 → X119 z0 z1 z2)) (kq : (∀ (z0 : Int32) (z1 : VS), Q1 z0 z1 → Q2 z0 z1 → Q z0 z1)) : b_make_119 X119 Q l4 l5 σ := by
  unfold b_make_119 at h1 h2 ⊢
  exact ⟨(fun c0 => ⟨(h1.1 c0).1, ⟨(h1.1 c0).2.1, ⟨(h1.1 c0).2.2.1, ⟨(h1.1 c0).2.2.2.1, ⟨(h1.1 c0).2.2.2.2.1, ⟨(h1.1 c0).2.2.2.2.2.1, (kq _ _ (h1.1 c0).2.2.2.2.2.2 (h2.1 c0).2.2.2.2.2.2)⟩⟩⟩⟩⟩⟩), (fun c0 => ⟨(h1.2 c0).1, (kX119 _ _ _ (h1.2 c0).2 (h2.2 c0).2)⟩)⟩
theorem ab_make_91 {X119a X119b X119 : Int32 → Int32 → VS → Prop} {Q1 Q2 Q : Int32 → VS → Prop} {l3 : Int32} {l4 : Int32} {k0 : Int32} {k1 : Int32} {σ : VS} (h1 : b_make_91 X119a Q1 l3 l4 k0 k1 σ) (h2 : b_make_91 X119b Q2 l3 l4 k0 k1 σ) (kX119 : (∀ (z0 : Int32) (z1 : Int32) (z2 : VS), X119a z0 z1 z2 → X119b z0 z1 z2 → X119 z0 z1 z2)) (kq : (∀ (z0 : Int32) (z1 : VS), Q1 z0 z1 → Q2 z0 z1 → Q z0 z1)) : b_make_91 X119 Q l3 l4 k0 k1 σ := by
  unfold b_make_91 at h1 h2 ⊢
  exact ⟨h1.1, ⟨h1.2.1, ⟨h1.2.2.1, ⟨h1.2.2.2.1, (kX119 _ _ _ h1.2.2.2.2 h2.2.2.2.2)⟩⟩⟩⟩
theorem ab_make_41 {X119a X119b X119 : Int32 → Int32 → VS → Prop} {Q1 Q2 Q : Int32 → VS → Prop} {l1 : Int32} {l2 : Int32} {l3 : Int32} {σ : VS} (h1 : b_make_41 X119a Q1 l1 l2 l3 σ) (h2 : b_make_41 X119b Q2 l1 l2 l3 σ) (kX119 : (∀ (z0 : Int32) (z1 : Int32) (z2 : VS), X119a z0 z1 z2 → X119b z0 z1 z2 → X119 z0 z1 z2)) (kq : (∀ (z0 : Int32) (z1 : VS), Q1 z0 z1 → Q2 z0 z1 → Q z0 z1)) : b_make_41 X119 Q l1 l2 l3 σ := by
  unfold b_make_41 at h1 h2 ⊢
  exact ⟨(fun c0 => (fun c1 => (fun c2 => ⟨(((h1.1 c0) c1) c2).1, ⟨(fun c3 => ⟨(fun c4 => (ab_make_91 (((((h1.1 c0) c1) c2).2.1 c3).1 c4) (((((h2.1 c0) c1) c2).2.1 c3).1 c4) kX119 kq)), (fun c4 => (ab_make_91 (((((h1.1 c0) c1) c2).2.1 c3).2 c4) (((((h2.1 c0) c1) c2).2.1 c3).2 c4) kX119 kq))⟩), (fun c3 => (ab_make_91 ((((h1.1 c0) c1) c2).2.2 c3) ((((h2.1 c0) c1) c2).2.2 c3) kX119 kq))⟩⟩))), (fun c0 => (kq _ _ (h1.2 c0) (h2.2 c0)))⟩
theorem ab_make_39 {X119a X119b X119 : Int32 → Int32 → VS → Prop} {Q1 Q2 Q : Int32 → VS → Prop} {σ : VS} (h1 : b_make_39 X119a Q1 σ) (h2 : b_make_39 X119b Q2 σ) (kX119 : (∀ (z0 : Int32) (z1 : Int32) (z2 : VS), X119a z0 z1 z2 → X119b z0 z1 z2 → X119 z0 z1 z2)) (kq : (∀ (z0 : Int32) (z1 : VS), Q1 z0 z1 → Q2 z0 z1 → Q z0 z1)) : b_make_39 X119 Q σ := by
  unfold b_make_39 at h1 h2 ⊢
  exact (kq _ _ h1 h2)
theorem ab_make_29 {X119a X119b X119 : Int32 → Int32 → VS → Prop} {Q1 Q2 Q : Int32 → VS → Prop} {l1 : Int32} {l2 : Int32} {l3 : Int32} {σ : VS} (h1 : b_make_29 X119a Q1 l1 l2 l3 σ) (h2 : b_make_29 X119b Q2 l1 l2 l3 σ) (kX119 : (∀ (z0 : Int32) (z1 : Int32) (z2 : VS), X119a z0 z1 z2 → X119b z0 z1 z2 → X119 z0 z1 z2)) (kq : (∀ (z0 : Int32) (z1 : VS), Q1 z0 z1 → Q2 z0 z1 → Q z0 z1)) : b_make_29 X119 Q l1 l2 l3 σ := by
  unfold b_make_29 at h1 h2 ⊢
  exact ⟨(fun c0 => (ab_make_39 (h1.1 c0) (h2.1 c0) kX119 kq)), (fun c0 => ⟨(fun c1 => (ab_make_41 ((h1.2 c0).1 c1) ((h2.2 c0).1 c1) kX119 kq)), (fun c1 => (ab_make_39 ((h1.2 c0).2 c1) ((h2.2 c0).2 c1) kX119 kq))⟩)⟩
theorem am_make {Q1 Q2 Q : Int32 → VS → Prop} {p1 : Int32} {p2 : Int32} {p3 : Int32} {σ : VS} (h1 : wp_make Q1 p1 p2 p3 σ) (h2 : wp_make Q2 p1 p2 p3 σ) (kq : (∀ (z0 : Int32) (z1 : VS), Q1 z0 z1 → Q2 z0 z1 → Q z0 z1)) : wp_make Q p1 p2 p3 σ := by
  unfold wp_make at h1 h2 ⊢
  intro X119 HX119
  obtain ⟨YX119, eYX119⟩ : ∃ Y : Int32 → Int32 → VS → Prop, Y = fun wy0 wy1 wy2 => ∀ (X119 : Int32 → Int32 → VS → Prop), (∀ (y0 : Int32) (y1 : Int32) (y2 : VS), b_make_119 X119 Q2 y0 y1 y2 → X119 y0 y1 y2) → X119 wy0 wy1 wy2 := ⟨_, rfl⟩
  have foldX119 : ∀ y0 y1 y2, b_make_119 YX119 Q2 y0 y1 y2 → YX119 y0 y1 y2 := by
    intro y0 y1 y2 h
    rw [eYX119]
    intro ZX119 KX119
    exact KX119 _ _ _ (ab_make_119 h h (fun _ _ _ y _ => by rw [eYX119] at y; exact y ZX119 KX119) (fun _ _ q _ => q))
  have invX119 : ∀ y0 y1 y2, YX119 y0 y1 y2 → b_make_119 YX119 Q2 y0 y1 y2 := by
    intro y0 y1 y2 h
    rw [eYX119] at h
    exact h (fun w0 w1 w2 => b_make_119 YX119 Q2 w0 w1 w2) (fun _ _ _ h => ab_make_119 h h (fun _ _ _ y _ => foldX119 _ _ _ y) (fun _ _ q _ => q))
  have g2 := h2 YX119 foldX119
  have g1 := h1 (fun w0 w1 w2 => YX119 w0 w1 w2 → X119 w0 w1 w2) (fun _ _ _ h y => HX119 _ _ _ (ab_make_119 h (invX119 _ _ _ y) (fun _ _ _ f y => f y) kq))
  have kX119 : ∀ y0 y1 y2, (YX119 y0 y1 y2 → X119 y0 y1 y2) → YX119 y0 y1 y2 → X119 y0 y1 y2 := fun _ _ _ f y => f y
  exact ⟨(fun c0 => (ab_make_39 (g1.1 c0) (g2.1 c0) kX119 kq)), (fun c0 => ⟨(fun c1 => (ab_make_39 ((g1.2 c0).1 c1) ((g2.2 c0).1 c1) kX119 kq)), (fun c1 => ⟨(fun c2 => (ab_make_39 (((g1.2 c0).2 c1).1 c2) (((g2.2 c0).2 c1).1 c2) kX119 kq)), (fun c2 => ⟨(fun c3 => (ab_make_39 ((((g1.2 c0).2 c1).2 c2).1 c3) ((((g2.2 c0).2 c1).2 c2).1 c3) kX119 kq)), (fun c3 => ⟨(fun c4 => (ab_make_29 (((((g1.2 c0).2 c1).2 c2).2 c3).1 c4) (((((g2.2 c0).2 c1).2 c2).2 c3).1 c4) kX119 kq)), (fun c4 => ⟨(fun c5 => (ab_make_41 ((((((g1.2 c0).2 c1).2 c2).2 c3).2 c4).1 c5) ((((((g2.2 c0).2 c1).2 c2).2 c3).2 c4).1 c5) kX119 kq)), (fun c5 => (ab_make_29 ((((((g1.2 c0).2 c1).2 c2).2 c3).2 c4).2 c5) ((((((g2.2 c0).2 c1).2 c2).2 c3).2 c4).2 c5) kX119 kq))⟩)⟩)⟩)⟩)⟩)⟩
theorem ab_extra_19  {Q1 Q2 Q : Int32 → VS → Prop} {σ : VS} (h1 : b_extra_19  Q1 σ) (h2 : b_extra_19  Q2 σ)  (kq : (∀ (z0 : Int32) (z1 : VS), Q1 z0 z1 → Q2 z0 z1 → Q z0 z1)) : b_extra_19  Q σ := by
  unfold b_extra_19 at h1 h2 ⊢
  exact (kq _ _ h1 h2)
theorem am_extra {Q1 Q2 Q : Int32 → VS → Prop} {p1 : Int32} {p2 : Int32} {σ : VS} (h1 : wp_extra Q1 p1 p2 σ) (h2 : wp_extra Q2 p1 p2 σ) (kq : (∀ (z0 : Int32) (z1 : VS), Q1 z0 z1 → Q2 z0 z1 → Q z0 z1)) : wp_extra Q p1 p2 σ := by
  unfold wp_extra at h1 h2 ⊢
  exact (am_isCell h1 h2 (fun _ _ u0 v0 => ⟨(fun c1 => (ab_extra_19 (u0.1 c1) (v0.1 c1) kq)), (fun c1 => ⟨(fun c2 => (ab_extra_19 ((u0.2 c1).1 c2) ((v0.2 c1).1 c2) kq)), (fun c2 => ⟨(fun c3 => ⟨(((u0.2 c1).2 c2).1 c3).1, ⟨(fun c4 => ⟨((((u0.2 c1).2 c2).1 c3).2.1 c4).1, (fun c5 => (fun c6 => ⟨((((((u0.2 c1).2 c2).1 c3).2.1 c4).2 c5) c6).1, (kq _ _ ((((((u0.2 c1).2 c2).1 c3).2.1 c4).2 c5) c6).2 ((((((v0.2 c1).2 c2).1 c3).2.1 c4).2 c5) c6).2)⟩))⟩), (fun c4 => (kq _ _ ((((u0.2 c1).2 c2).1 c3).2.2 c4) ((((v0.2 c1).2 c2).1 c3).2.2 c4)))⟩⟩), (fun c3 => (ab_extra_19 (((u0.2 c1).2 c2).2 c3) (((v0.2 c1).2 c2).2 c3) kq))⟩)⟩)⟩))
theorem ab_port_40  {Q1 Q2 Q : Int32 → VS → Prop} {σ : VS} (h1 : b_port_40  Q1 σ) (h2 : b_port_40  Q2 σ)  (kq : (∀ (z0 : Int32) (z1 : VS), Q1 z0 z1 → Q2 z0 z1 → Q z0 z1)) : b_port_40  Q σ := by
  unfold b_port_40 at h1 h2 ⊢
  exact (kq _ _ h1 h2)
theorem am_port {Q1 Q2 Q : Int32 → VS → Prop} {p1 : Int32} {p2 : Int32} {p3 : Int32} {p4 : Int32} {σ : VS} (h1 : wp_port Q1 p1 p2 p3 p4 σ) (h2 : wp_port Q2 p1 p2 p3 p4 σ) (kq : (∀ (z0 : Int32) (z1 : VS), Q1 z0 z1 → Q2 z0 z1 → Q z0 z1)) : wp_port Q p1 p2 p3 p4 σ := by
  unfold wp_port at h1 h2 ⊢
  exact (am_isCell h1 h2 (fun _ _ u0 v0 => ⟨(fun c1 => (ab_port_40 (u0.1 c1) (v0.1 c1) kq)), (fun c1 => ⟨(fun c2 => (ab_port_40 ((u0.2 c1).1 c2) ((v0.2 c1).1 c2) kq)), (fun c2 => ⟨(fun c3 => (ab_port_40 (((u0.2 c1).2 c2).1 c3) (((v0.2 c1).2 c2).1 c3) kq)), (fun c3 => ⟨(fun c4 => (ab_port_40 ((((u0.2 c1).2 c2).2 c3).1 c4) ((((v0.2 c1).2 c2).2 c3).1 c4) kq)), (fun c4 => ⟨(fun c5 => (ab_port_40 (((((u0.2 c1).2 c2).2 c3).2 c4).1 c5) (((((v0.2 c1).2 c2).2 c3).2 c4).1 c5) kq)), (fun c5 => ⟨(fun c6 => (ab_port_40 ((((((u0.2 c1).2 c2).2 c3).2 c4).2 c5).1 c6) ((((((v0.2 c1).2 c2).2 c3).2 c4).2 c5).1 c6) kq)), (fun c6 => ⟨(fun c7 => ⟨(((((((u0.2 c1).2 c2).2 c3).2 c4).2 c5).2 c6).1 c7).1, ⟨(fun c8 => ⟨((((((((u0.2 c1).2 c2).2 c3).2 c4).2 c5).2 c6).1 c7).2.1 c8).1, ⟨((((((((u0.2 c1).2 c2).2 c3).2 c4).2 c5).2 c6).1 c7).2.1 c8).2.1, ⟨((((((((u0.2 c1).2 c2).2 c3).2 c4).2 c5).2 c6).1 c7).2.1 c8).2.2.1, (kq _ _ ((((((((u0.2 c1).2 c2).2 c3).2 c4).2 c5).2 c6).1 c7).2.1 c8).2.2.2 ((((((((v0.2 c1).2 c2).2 c3).2 c4).2 c5).2 c6).1 c7).2.1 c8).2.2.2)⟩⟩⟩), (fun c8 => (kq _ _ ((((((((u0.2 c1).2 c2).2 c3).2 c4).2 c5).2 c6).1 c7).2.2 c8) ((((((((v0.2 c1).2 c2).2 c3).2 c4).2 c5).2 c6).1 c7).2.2 c8)))⟩⟩), (fun c7 => (ab_port_40 (((((((u0.2 c1).2 c2).2 c3).2 c4).2 c5).2 c6).2 c7) (((((((v0.2 c1).2 c2).2 c3).2 c4).2 c5).2 c6).2 c7) kq))⟩)⟩)⟩)⟩)⟩)⟩)⟩))
theorem ab_target_67  {Q1 Q2 Q : Int32 → VS → Prop} {l1 : Int32} {l2 : Int32} {l3 : Int32} {l4 : Int32} {σ : VS} (h1 : b_target_67  Q1 l1 l2 l3 l4 σ) (h2 : b_target_67  Q2 l1 l2 l3 l4 σ)  (kq : (∀ (z0 : Int32) (z1 : VS), Q1 z0 z1 → Q2 z0 z1 → Q z0 z1)) : b_target_67  Q l1 l2 l3 l4 σ := by
  unfold b_target_67 at h1 h2 ⊢
  exact (am_isTarget h1 h2 (fun _ _ u0 v0 => ⟨(fun c1 => ⟨(u0.1 c1).1, ⟨(u0.1 c1).2.1, ⟨(u0.1 c1).2.2.1, (kq _ _ (u0.1 c1).2.2.2 (v0.1 c1).2.2.2)⟩⟩⟩), (fun c1 => (kq _ _ (u0.2 c1) (v0.2 c1)))⟩))
theorem ab_target_65  {Q1 Q2 Q : Int32 → VS → Prop} {σ : VS} (h1 : b_target_65  Q1 σ) (h2 : b_target_65  Q2 σ)  (kq : (∀ (z0 : Int32) (z1 : VS), Q1 z0 z1 → Q2 z0 z1 → Q z0 z1)) : b_target_65  Q σ := by
  unfold b_target_65 at h1 h2 ⊢
  exact (kq _ _ h1 h2)
theorem am_target {Q1 Q2 Q : Int32 → VS → Prop} {p1 : Int32} {p2 : Int32} {p3 : Int32} {p4 : Int32} {σ : VS} (h1 : wp_target Q1 p1 p2 p3 p4 σ) (h2 : wp_target Q2 p1 p2 p3 p4 σ) (kq : (∀ (z0 : Int32) (z1 : VS), Q1 z0 z1 → Q2 z0 z1 → Q z0 z1)) : wp_target Q p1 p2 p3 p4 σ := by
  unfold wp_target at h1 h2 ⊢
  exact (am_isCell h1 h2 (fun _ _ u0 v0 => ⟨(fun c1 => (ab_target_65 (u0.1 c1) (v0.1 c1) kq)), (fun c1 => ⟨(fun c2 => (ab_target_65 ((u0.2 c1).1 c2) ((v0.2 c1).1 c2) kq)), (fun c2 => ⟨(fun c3 => (ab_target_65 (((u0.2 c1).2 c2).1 c3) (((v0.2 c1).2 c2).1 c3) kq)), (fun c3 => ⟨(fun c4 => (ab_target_65 ((((u0.2 c1).2 c2).2 c3).1 c4) ((((v0.2 c1).2 c2).2 c3).1 c4) kq)), (fun c4 => ⟨(fun c5 => (ab_target_65 (((((u0.2 c1).2 c2).2 c3).2 c4).1 c5) (((((v0.2 c1).2 c2).2 c3).2 c4).1 c5) kq)), (fun c5 => ⟨(fun c6 => (ab_target_65 ((((((u0.2 c1).2 c2).2 c3).2 c4).2 c5).1 c6) ((((((v0.2 c1).2 c2).2 c3).2 c4).2 c5).1 c6) kq)), (fun c6 => ⟨(fun c7 => (ab_target_65 (((((((u0.2 c1).2 c2).2 c3).2 c4).2 c5).2 c6).1 c7) (((((((v0.2 c1).2 c2).2 c3).2 c4).2 c5).2 c6).1 c7) kq)), (fun c7 => ⟨(((((((u0.2 c1).2 c2).2 c3).2 c4).2 c5).2 c6).2 c7).1, ⟨(fun c8 => (ab_target_67 ((((((((u0.2 c1).2 c2).2 c3).2 c4).2 c5).2 c6).2 c7).2.1 c8) ((((((((v0.2 c1).2 c2).2 c3).2 c4).2 c5).2 c6).2 c7).2.1 c8) kq)), (fun c8 => ⟨(fun c9 => (ab_target_67 (((((((((u0.2 c1).2 c2).2 c3).2 c4).2 c5).2 c6).2 c7).2.2 c8).1 c9) (((((((((v0.2 c1).2 c2).2 c3).2 c4).2 c5).2 c6).2 c7).2.2 c8).1 c9) kq)), (fun c9 => (ab_target_65 (((((((((u0.2 c1).2 c2).2 c3).2 c4).2 c5).2 c6).2 c7).2.2 c8).2 c9) (((((((((v0.2 c1).2 c2).2 c3).2 c4).2 c5).2 c6).2 c7).2.2 c8).2 c9) kq))⟩)⟩⟩)⟩)⟩)⟩)⟩)⟩)⟩)⟩))
theorem ab_entry_33  {Q1 Q2 Q : Int32 → VS → Prop} {σ : VS} (h1 : b_entry_33  Q1 σ) (h2 : b_entry_33  Q2 σ)  (kq : (∀ (z0 : Int32) (z1 : VS), Q1 z0 z1 → Q2 z0 z1 → Q z0 z1)) : b_entry_33  Q σ := by
  unfold b_entry_33 at h1 h2 ⊢
  exact (kq _ _ h1 h2)
theorem am_entry {Q1 Q2 Q : Int32 → VS → Prop} {p1 : Int32} {p2 : Int32} {p3 : Int32} {p4 : Int32} {p5 : Int32} {σ : VS} (h1 : wp_entry Q1 p1 p2 p3 p4 p5 σ) (h2 : wp_entry Q2 p1 p2 p3 p4 p5 σ) (kq : (∀ (z0 : Int32) (z1 : VS), Q1 z0 z1 → Q2 z0 z1 → Q z0 z1)) : wp_entry Q p1 p2 p3 p4 p5 σ := by
  unfold wp_entry at h1 h2 ⊢
  exact (am_isRow h1 h2 (fun _ _ u0 v0 => ⟨(fun c1 => (ab_entry_33 (u0.1 c1) (v0.1 c1) kq)), (fun c1 => ⟨(fun c2 => (ab_entry_33 ((u0.2 c1).1 c2) ((v0.2 c1).1 c2) kq)), (fun c2 => ⟨(fun c3 => (ab_entry_33 (((u0.2 c1).2 c2).1 c3) (((v0.2 c1).2 c2).1 c3) kq)), (fun c3 => ⟨(fun c4 => (ab_entry_33 ((((u0.2 c1).2 c2).2 c3).1 c4) ((((v0.2 c1).2 c2).2 c3).1 c4) kq)), (fun c4 => ⟨(fun c5 => (fun c6 => (fun c7 => ⟨(((((((u0.2 c1).2 c2).2 c3).2 c4).1 c5) c6) c7).1, ⟨(fun c8 => ⟨((((((((u0.2 c1).2 c2).2 c3).2 c4).1 c5) c6) c7).2.1 c8).1, ⟨(fun c9 => ⟨(((((((((u0.2 c1).2 c2).2 c3).2 c4).1 c5) c6) c7).2.1 c8).2.1 c9).1, (fun c10 => (fun c11 => ⟨(((((((((((u0.2 c1).2 c2).2 c3).2 c4).1 c5) c6) c7).2.1 c8).2.1 c9).2 c10) c11).1, (kq _ _ (((((((((((u0.2 c1).2 c2).2 c3).2 c4).1 c5) c6) c7).2.1 c8).2.1 c9).2 c10) c11).2 (((((((((((v0.2 c1).2 c2).2 c3).2 c4).1 c5) c6) c7).2.1 c8).2.1 c9).2 c10) c11).2)⟩))⟩), (fun c9 => (kq _ _ (((((((((u0.2 c1).2 c2).2 c3).2 c4).1 c5) c6) c7).2.1 c8).2.2 c9) (((((((((v0.2 c1).2 c2).2 c3).2 c4).1 c5) c6) c7).2.1 c8).2.2 c9)))⟩⟩), (fun c8 => (kq _ _ ((((((((u0.2 c1).2 c2).2 c3).2 c4).1 c5) c6) c7).2.2 c8) ((((((((v0.2 c1).2 c2).2 c3).2 c4).1 c5) c6) c7).2.2 c8)))⟩⟩))), (fun c5 => (ab_entry_33 (((((u0.2 c1).2 c2).2 c3).2 c4).2 c5) (((((v0.2 c1).2 c2).2 c3).2 c4).2 c5) kq))⟩)⟩)⟩)⟩)⟩))
theorem ab_tear_47 {X47a X47b X47 : Int32 → Int32 → Int32 → Int32 → VS → Prop} {Q1 Q2 Q : Int32 → VS → Prop} {l4 : Int32} {l5 : Int32} {l6 : Int32} {l7 : Int32} {σ : VS} (h1 : b_tear_47 X47a Q1 l4 l5 l6 l7 σ) (h2 : b_tear_47 X47b Q2 l4 l5 l6 l7 σ) (kX47 : (∀ (z0 : Int32) (z1 : Int32) (z2 : Int32) (z3 : Int32) (z4 : VS), X47a z0 z1 z2 z3 z4 → X47b z0 z1 z2 z3 z4 → X47 z0 z1 z2 z3 z4)) (kq : (∀ (z0 : Int32) (z1 : VS), Q1 z0 z1 → Q2 z0 z1 → Q z0 z1)) : b_tear_47 X47 Q l4 l5 l6 l7 σ := by
  unfold b_tear_47 at h1 h2 ⊢
  exact ⟨(fun c0 => ⟨(h1.1 c0).1, (kq _ _ (h1.1 c0).2 (h2.1 c0).2)⟩), (fun c0 => ⟨(h1.2 c0).1, (kX47 _ _ _ _ _ (h1.2 c0).2 (h2.2 c0).2)⟩)⟩
theorem ab_tear_20 {X47a X47b X47 : Int32 → Int32 → Int32 → Int32 → VS → Prop} {Q1 Q2 Q : Int32 → VS → Prop} {σ : VS} (h1 : b_tear_20 X47a Q1 σ) (h2 : b_tear_20 X47b Q2 σ) (kX47 : (∀ (z0 : Int32) (z1 : Int32) (z2 : Int32) (z3 : Int32) (z4 : VS), X47a z0 z1 z2 z3 z4 → X47b z0 z1 z2 z3 z4 → X47 z0 z1 z2 z3 z4)) (kq : (∀ (z0 : Int32) (z1 : VS), Q1 z0 z1 → Q2 z0 z1 → Q z0 z1)) : b_tear_20 X47 Q σ := by
  unfold b_tear_20 at h1 h2 ⊢
  exact (kq _ _ h1 h2)
theorem am_tear {Q1 Q2 Q : Int32 → VS → Prop} {p1 : Int32} {p2 : Int32} {p3 : Int32} {p4 : Int32} {σ : VS} (h1 : wp_tear Q1 p1 p2 p3 p4 σ) (h2 : wp_tear Q2 p1 p2 p3 p4 σ) (kq : (∀ (z0 : Int32) (z1 : VS), Q1 z0 z1 → Q2 z0 z1 → Q z0 z1)) : wp_tear Q p1 p2 p3 p4 σ := by
  unfold wp_tear at h1 h2 ⊢
  intro X47 HX47
  obtain ⟨YX47, eYX47⟩ : ∃ Y : Int32 → Int32 → Int32 → Int32 → VS → Prop, Y = fun wy0 wy1 wy2 wy3 wy4 => ∀ (X47 : Int32 → Int32 → Int32 → Int32 → VS → Prop), (∀ (y0 : Int32) (y1 : Int32) (y2 : Int32) (y3 : Int32) (y4 : VS), b_tear_47 X47 Q2 y0 y1 y2 y3 y4 → X47 y0 y1 y2 y3 y4) → X47 wy0 wy1 wy2 wy3 wy4 := ⟨_, rfl⟩
  have foldX47 : ∀ y0 y1 y2 y3 y4, b_tear_47 YX47 Q2 y0 y1 y2 y3 y4 → YX47 y0 y1 y2 y3 y4 := by
    intro y0 y1 y2 y3 y4 h
    rw [eYX47]
    intro ZX47 KX47
    exact KX47 _ _ _ _ _ (ab_tear_47 h h (fun _ _ _ _ _ y _ => by rw [eYX47] at y; exact y ZX47 KX47) (fun _ _ q _ => q))
  have invX47 : ∀ y0 y1 y2 y3 y4, YX47 y0 y1 y2 y3 y4 → b_tear_47 YX47 Q2 y0 y1 y2 y3 y4 := by
    intro y0 y1 y2 y3 y4 h
    rw [eYX47] at h
    exact h (fun w0 w1 w2 w3 w4 => b_tear_47 YX47 Q2 w0 w1 w2 w3 w4) (fun _ _ _ _ _ h => ab_tear_47 h h (fun _ _ _ _ _ y _ => foldX47 _ _ _ _ _ y) (fun _ _ q _ => q))
  have g2 := h2 YX47 foldX47
  have g1 := h1 (fun w0 w1 w2 w3 w4 => YX47 w0 w1 w2 w3 w4 → X47 w0 w1 w2 w3 w4) (fun _ _ _ _ _ h y => HX47 _ _ _ _ _ (ab_tear_47 h (invX47 _ _ _ _ _ y) (fun _ _ _ _ _ f y => f y) kq))
  have kX47 : ∀ y0 y1 y2 y3 y4, (YX47 y0 y1 y2 y3 y4 → X47 y0 y1 y2 y3 y4) → YX47 y0 y1 y2 y3 y4 → X47 y0 y1 y2 y3 y4 := fun _ _ _ _ _ f y => f y
  exact (am_isRow g1 g2 (fun _ _ u0 v0 => ⟨(fun c1 => (ab_tear_20 (u0.1 c1) (v0.1 c1) kX47 kq)), (fun c1 => ⟨(fun c2 => (ab_tear_20 ((u0.2 c1).1 c2) ((v0.2 c1).1 c2) kX47 kq)), (fun c2 => ⟨(fun c3 => (fun c4 => (fun c5 => ⟨(((((u0.2 c1).2 c2).1 c3) c4) c5).1, (fun c6 => (fun c7 => (kX47 _ _ _ _ _ (((((((u0.2 c1).2 c2).1 c3) c4) c5).2 c6) c7) (((((((v0.2 c1).2 c2).1 c3) c4) c5).2 c6) c7))))⟩))), (fun c3 => (ab_tear_20 (((u0.2 c1).2 c2).2 c3) (((v0.2 c1).2 c2).2 c3) kX47 kq))⟩)⟩)⟩))
theorem ab_fall_21  {Q1 Q2 Q : Int32 → VS → Prop} {σ : VS} (h1 : b_fall_21  Q1 σ) (h2 : b_fall_21  Q2 σ)  (kq : (∀ (z0 : Int32) (z1 : VS), Q1 z0 z1 → Q2 z0 z1 → Q z0 z1)) : b_fall_21  Q σ := by
  unfold b_fall_21 at h1 h2 ⊢
  exact (kq _ _ h1 h2)
theorem am_fall {Q1 Q2 Q : Int32 → VS → Prop} {p1 : Int32} {p2 : Int32} {σ : VS} (h1 : wp_fall Q1 p1 p2 σ) (h2 : wp_fall Q2 p1 p2 σ) (kq : (∀ (z0 : Int32) (z1 : VS), Q1 z0 z1 → Q2 z0 z1 → Q z0 z1)) : wp_fall Q p1 p2 σ := by
  unfold wp_fall at h1 h2 ⊢
  exact ⟨(fun c0 => (ab_fall_21 (h1.1 c0) (h2.1 c0) kq)), (fun c0 => ⟨(fun c1 => (ab_fall_21 ((h1.2 c0).1 c1) ((h2.2 c0).1 c1) kq)), (fun c1 => ⟨(fun c2 => (ab_fall_21 (((h1.2 c0).2 c1).1 c2) (((h2.2 c0).2 c1).1 c2) kq)), (fun c2 => ⟨(fun c3 => ⟨((((h1.2 c0).2 c1).2 c2).1 c3).1, (fun c4 => (fun c5 => ⟨((((((h1.2 c0).2 c1).2 c2).1 c3).2 c4) c5).1, (kq _ _ ((((((h1.2 c0).2 c1).2 c2).1 c3).2 c4) c5).2 ((((((h2.2 c0).2 c1).2 c2).1 c3).2 c4) c5).2)⟩))⟩), (fun c3 => (ab_fall_21 ((((h1.2 c0).2 c1).2 c2).2 c3) ((((h2.2 c0).2 c1).2 c2).2 c3) kq))⟩)⟩)⟩)⟩
theorem ab_corner_22  {Q1 Q2 Q : Int32 → VS → Prop} {σ : VS} (h1 : b_corner_22  Q1 σ) (h2 : b_corner_22  Q2 σ)  (kq : (∀ (z0 : Int32) (z1 : VS), Q1 z0 z1 → Q2 z0 z1 → Q z0 z1)) : b_corner_22  Q σ := by
  unfold b_corner_22 at h1 h2 ⊢
  exact (kq _ _ h1 h2)
theorem am_corner {Q1 Q2 Q : Int32 → VS → Prop} {p1 : Int32} {p2 : Int32} {σ : VS} (h1 : wp_corner Q1 p1 p2 σ) (h2 : wp_corner Q2 p1 p2 σ) (kq : (∀ (z0 : Int32) (z1 : VS), Q1 z0 z1 → Q2 z0 z1 → Q z0 z1)) : wp_corner Q p1 p2 σ := by
  unfold wp_corner at h1 h2 ⊢
  exact ⟨(fun c0 => (ab_corner_22 (h1.1 c0) (h2.1 c0) kq)), (fun c0 => ⟨(fun c1 => (ab_corner_22 ((h1.2 c0).1 c1) ((h2.2 c0).1 c1) kq)), (fun c1 => ⟨(fun c2 => (ab_corner_22 (((h1.2 c0).2 c1).1 c2) (((h2.2 c0).2 c1).1 c2) kq)), (fun c2 => ⟨(fun c3 => (kq _ _ ((((h1.2 c0).2 c1).2 c2).1 c3) ((((h2.2 c0).2 c1).2 c2).1 c3))), (fun c3 => (ab_corner_22 ((((h1.2 c0).2 c1).2 c2).2 c3) ((((h2.2 c0).2 c1).2 c2).2 c3) kq))⟩)⟩)⟩)⟩
theorem ab_period_11  {Q1 Q2 Q : Int32 → VS → Prop} {σ : VS} (h1 : b_period_11  Q1 σ) (h2 : b_period_11  Q2 σ)  (kq : (∀ (z0 : Int32) (z1 : VS), Q1 z0 z1 → Q2 z0 z1 → Q z0 z1)) : b_period_11  Q σ := by
  unfold b_period_11 at h1 h2 ⊢
  exact (kq _ _ h1 h2)
theorem am_period {Q1 Q2 Q : Int32 → VS → Prop} {p1 : Int32} {σ : VS} (h1 : wp_period Q1 p1 σ) (h2 : wp_period Q2 p1 σ) (kq : (∀ (z0 : Int32) (z1 : VS), Q1 z0 z1 → Q2 z0 z1 → Q z0 z1)) : wp_period Q p1 σ := by
  unfold wp_period at h1 h2 ⊢
  exact ⟨(fun c0 => (ab_period_11 (h1.1 c0) (h2.1 c0) kq)), (fun c0 => ⟨(fun c1 => (fun c2 => (fun c3 => (kq _ _ ((((h1.2 c0).1 c1) c2) c3) ((((h2.2 c0).1 c1) c2) c3))))), (fun c1 => (ab_period_11 ((h1.2 c0).2 c1) ((h2.2 c0).2 c1) kq))⟩)⟩
theorem ab_node_28  {Q1 Q2 Q : Int32 → VS → Prop} {σ : VS} (h1 : b_node_28  Q1 σ) (h2 : b_node_28  Q2 σ)  (kq : (∀ (z0 : Int32) (z1 : VS), Q1 z0 z1 → Q2 z0 z1 → Q z0 z1)) : b_node_28  Q σ := by
  unfold b_node_28 at h1 h2 ⊢
  exact (kq _ _ h1 h2)
theorem am_node {Q1 Q2 Q : Int32 → VS → Prop} {p1 : Int32} {p2 : Int32} {p3 : Int32} {σ : VS} (h1 : wp_node Q1 p1 p2 p3 σ) (h2 : wp_node Q2 p1 p2 p3 σ) (kq : (∀ (z0 : Int32) (z1 : VS), Q1 z0 z1 → Q2 z0 z1 → Q z0 z1)) : wp_node Q p1 p2 p3 σ := by
  unfold wp_node at h1 h2 ⊢
  exact ⟨(fun c0 => (ab_node_28 (h1.1 c0) (h2.1 c0) kq)), (fun c0 => ⟨(fun c1 => (ab_node_28 ((h1.2 c0).1 c1) ((h2.2 c0).1 c1) kq)), (fun c1 => ⟨(fun c2 => (ab_node_28 (((h1.2 c0).2 c1).1 c2) (((h2.2 c0).2 c1).1 c2) kq)), (fun c2 => ⟨(fun c3 => (ab_node_28 ((((h1.2 c0).2 c1).2 c2).1 c3) ((((h2.2 c0).2 c1).2 c2).1 c3) kq)), (fun c3 => ⟨(fun c4 => ⟨(fun c5 => ⟨((((((h1.2 c0).2 c1).2 c2).2 c3).1 c4).1 c5).1, ⟨((((((h1.2 c0).2 c1).2 c2).2 c3).1 c4).1 c5).2.1, ⟨((((((h1.2 c0).2 c1).2 c2).2 c3).1 c4).1 c5).2.2.1, (kq _ _ ((((((h1.2 c0).2 c1).2 c2).2 c3).1 c4).1 c5).2.2.2 ((((((h2.2 c0).2 c1).2 c2).2 c3).1 c4).1 c5).2.2.2)⟩⟩⟩), (fun c5 => (kq _ _ ((((((h1.2 c0).2 c1).2 c2).2 c3).1 c4).2 c5) ((((((h2.2 c0).2 c1).2 c2).2 c3).1 c4).2 c5)))⟩), (fun c4 => (ab_node_28 (((((h1.2 c0).2 c1).2 c2).2 c3).2 c4) (((((h2.2 c0).2 c1).2 c2).2 c3).2 c4) kq))⟩)⟩)⟩)⟩)⟩
theorem ab_except_54  {Q1 Q2 Q : Int32 → VS → Prop} {l1 : Int32} {l2 : Int32} {l3 : Int32} {l4 : Int32} {σ : VS} (h1 : b_except_54  Q1 l1 l2 l3 l4 σ) (h2 : b_except_54  Q2 l1 l2 l3 l4 σ)  (kq : (∀ (z0 : Int32) (z1 : VS), Q1 z0 z1 → Q2 z0 z1 → Q z0 z1)) : b_except_54  Q l1 l2 l3 l4 σ := by
  unfold b_except_54 at h1 h2 ⊢
  exact ⟨(fun c0 => ⟨(h1.1 c0).1, ⟨(h1.1 c0).2.1, ⟨(h1.1 c0).2.2.1, ⟨(h1.1 c0).2.2.2.1, (kq _ _ (h1.1 c0).2.2.2.2 (h2.1 c0).2.2.2.2)⟩⟩⟩⟩), (fun c0 => (kq _ _ (h1.2 c0) (h2.2 c0)))⟩
theorem ab_except_52  {Q1 Q2 Q : Int32 → VS → Prop} {σ : VS} (h1 : b_except_52  Q1 σ) (h2 : b_except_52  Q2 σ)  (kq : (∀ (z0 : Int32) (z1 : VS), Q1 z0 z1 → Q2 z0 z1 → Q z0 z1)) : b_except_52  Q σ := by
  unfold b_except_52 at h1 h2 ⊢
  exact (kq _ _ h1 h2)
theorem ab_except_14  {Q1 Q2 Q : Int32 → VS → Prop} {l1 : Int32} {l2 : Int32} {l3 : Int32} {l4 : Int32} {σ : VS} (h1 : b_except_14  Q1 l1 l2 l3 l4 σ) (h2 : b_except_14  Q2 l1 l2 l3 l4 σ)  (kq : (∀ (z0 : Int32) (z1 : VS), Q1 z0 z1 → Q2 z0 z1 → Q z0 z1)) : b_except_14  Q l1 l2 l3 l4 σ := by
  unfold b_except_14 at h1 h2 ⊢
  exact (am_mayBe h1 h2 (fun _ _ u0 v0 => ⟨(fun c1 => (ab_except_52 (u0.1 c1) (v0.1 c1) kq)), (fun c1 => (am_mayBe (u0.2 c1) (v0.2 c1) (fun _ _ u2 v2 => ⟨(fun c3 => (ab_except_52 (u2.1 c3) (v2.1 c3) kq)), (fun c3 => (am_mayBe (u2.2 c3) (v2.2 c3) (fun _ _ u4 v4 => ⟨(fun c5 => (ab_except_52 (u4.1 c5) (v4.1 c5) kq)), (fun c5 => ⟨(fun c6 => (ab_except_54 ((u4.2 c5).1 c6) ((v4.2 c5).1 c6) kq)), (fun c6 => ⟨(fun c7 => (ab_except_54 (((u4.2 c5).2 c6).1 c7) (((v4.2 c5).2 c6).1 c7) kq)), (fun c7 => ⟨(fun c8 => (ab_except_54 ((((u4.2 c5).2 c6).2 c7).1 c8) ((((v4.2 c5).2 c6).2 c7).1 c8) kq)), (fun c8 => (ab_except_52 ((((u4.2 c5).2 c6).2 c7).2 c8) ((((v4.2 c5).2 c6).2 c7).2 c8) kq))⟩)⟩)⟩)⟩)))⟩)))⟩))
theorem am_except {Q1 Q2 Q : Int32 → VS → Prop} {p1 : Int32} {p2 : Int32} {p3 : Int32} {p4 : Int32} {σ : VS} (h1 : wp_except Q1 p1 p2 p3 p4 σ) (h2 : wp_except Q2 p1 p2 p3 p4 σ) (kq : (∀ (z0 : Int32) (z1 : VS), Q1 z0 z1 → Q2 z0 z1 → Q z0 z1)) : wp_except Q p1 p2 p3 p4 σ := by
  unfold wp_except at h1 h2 ⊢
  exact ⟨(fun c0 => (ab_except_14 (h1.1 c0) (h2.1 c0) kq)), (fun c0 => ⟨(fun c1 => (ab_except_52 ((h1.2 c0).1 c1) ((h2.2 c0).1 c1) kq)), (fun c1 => ⟨(fun c2 => (ab_except_52 (((h1.2 c0).2 c1).1 c2) (((h2.2 c0).2 c1).1 c2) kq)), (fun c2 => (ab_except_14 (((h1.2 c0).2 c1).2 c2) (((h2.2 c0).2 c1).2 c2) kq))⟩)⟩)⟩
theorem am_unexcept {Q1 Q2 Q : Int32 → VS → Prop} {σ : VS} (h1 : wp_unexcept Q1 σ) (h2 : wp_unexcept Q2 σ) (kq : (∀ (z0 : Int32) (z1 : VS), Q1 z0 z1 → Q2 z0 z1 → Q z0 z1)) : wp_unexcept Q σ := by
  unfold wp_unexcept at h1 h2 ⊢
  exact ⟨(fun c0 => (kq _ _ (h1.1 c0) (h2.1 c0))), (fun c0 => (kq _ _ (h1.2 c0) (h2.2 c0)))⟩
theorem ab_takes_41  {Q1 Q2 Q : Int32 → VS → Prop} {k0 : Int32} {σ : VS} (h1 : b_takes_41  Q1 k0 σ) (h2 : b_takes_41  Q2 k0 σ)  (kq : (∀ (z0 : Int32) (z1 : VS), Q1 z0 z1 → Q2 z0 z1 → Q z0 z1)) : b_takes_41  Q k0 σ := by
  unfold b_takes_41 at h1 h2 ⊢
  exact (kq _ _ h1 h2)
theorem am_takes {Q1 Q2 Q : Int32 → VS → Prop} {p1 : Int32} {p2 : Int32} {σ : VS} (h1 : wp_takes Q1 p1 p2 σ) (h2 : wp_takes Q2 p1 p2 σ) (kq : (∀ (z0 : Int32) (z1 : VS), Q1 z0 z1 → Q2 z0 z1 → Q z0 z1)) : wp_takes Q p1 p2 σ := by
  unfold wp_takes at h1 h2 ⊢
  exact (am_isInput h1 h2 (fun _ _ u0 v0 => ⟨(fun c1 => ⟨(u0.1 c1).1, ⟨(fun c2 => ⟨((u0.1 c1).2.1 c2).1, (ab_takes_41 ((u0.1 c1).2.1 c2).2 ((v0.1 c1).2.1 c2).2 kq)⟩), (fun c2 => (ab_takes_41 ((u0.1 c1).2.2 c2) ((v0.1 c1).2.2 c2) kq))⟩⟩), (fun c1 => (ab_takes_41 (u0.2 c1) (v0.2 c1) kq))⟩))
theorem ab_leads_137 {X2a X2b X2 : Int32 → Int32 → Int32 → VS → Prop} {X34a X34b X34 : Int32 → Int32 → VS → Prop} {X43a X43b X43 : Int32 → Int32 → Int32 → VS → Prop} {X77a X77b X77 : Int32 → Int32 → Int32 → Int32 → VS → Prop} {Q1 Q2 Q : Int32 → VS → Prop} {l2 : Int32} {l3 : Int32} {l4 : Int32} {σ : VS} (h1 : b_leads_137 X2a X34a X43a X77a Q1 l2 l3 l4 σ) (h2 : b_leads_137 X2b X34b X43b X77b Q2 l2 l3 l4 σ) (kX2 : (∀ (z0 : Int32) (z1 : Int32) (z2 : Int32) (z3 : VS), X2a z0 z1 z2 z3 → X2b z0 z1 z2 z3 → X2 z0 z1 z2 z3)) (kX34 : (∀ (z0 : Int32) (z1 : Int32) (z2 : VS), X34a z0 z1 z2 → X34b z0 z1 z2 → X34 z0 z1 z2)) (kX43 : (∀ (z0 : Int32) (z1 : Int32) (z2 : Int32) (z3 : VS), X43a z0 z1 z2 z3 → X43b z0 z1 z2 z3 → X43 z0 z1 z2 z3)) (kX77 : (∀ (z0 : Int32) (z1 : Int32) (z2 : Int32) (z3 : Int32) (z4 : VS), X77a z0 z1 z2 z3 z4 → X77b z0 z1 z2 z3 z4 → X77 z0 z1 z2 z3 z4)) (kq : (∀ (z0 : Int32) (z1 : VS), Q1 z0 z1 → Q2 z0 z1 → Q z0 z1)) : b_leads_137 X2 X34 X43 X77 Q l2 l3 l4 σ := by
  unfold b_leads_137 at h1 h2 ⊢
  exact (kX43 _ _ _ _ h1 h2)
theorem ab_leads_131 {X2a X2b X2 : Int32 → Int32 → Int32 → VS → Prop} {X34a X34b X34 : Int32 → Int32 → VS → Prop} {X43a X43b X43 : Int32 → Int32 → Int32 → VS → Prop} {X77a X77b X77 : Int32 → Int32 → Int32 → Int32 → VS → Prop} {Q1 Q2 Q : Int32 → VS → Prop} {l2 : Int32} {l3 : Int32} {l4 : Int32} {l5 : Int32} {σ : VS} (h1 : b_leads_131 X2a X34a X43a X77a Q1 l2 l3 l4 l5 σ) (h2 : b_leads_131 X2b X34b X43b X77b Q2 l2 l3 l4 l5 σ) (kX2 : (∀ (z0 : Int32) (z1 : Int32) (z2 : Int32) (z3 : VS), X2a z0 z1 z2 z3 → X2b z0 z1 z2 z3 → X2 z0 z1 z2 z3)) (kX34 : (∀ (z0 : Int32) (z1 : Int32) (z2 : VS), X34a z0 z1 z2 → X34b z0 z1 z2 → X34 z0 z1 z2)) (kX43 : (∀ (z0 : Int32) (z1 : Int32) (z2 : Int32) (z3 : VS), X43a z0 z1 z2 z3 → X43b z0 z1 z2 z3 → X43 z0 z1 z2 z3)) (kX77 : (∀ (z0 : Int32) (z1 : Int32) (z2 : Int32) (z3 : Int32) (z4 : VS), X77a z0 z1 z2 z3 z4 → X77b z0 z1 z2 z3 z4 → X77 z0 z1 z2 z3 z4)) (kq : (∀ (z0 : Int32) (z1 : VS), Q1 z0 z1 → Q2 z0 z1 → Q z0 z1)) : b_leads_131 X2 X34 X43 X77 Q l2 l3 l4 l5 σ := by
  unfold b_leads_131 at h1 h2 ⊢
  exact (kX77 _ _ _ _ _ h1 h2)
theorem ab_leads_77 {X2a X2b X2 : Int32 → Int32 → Int32 → VS → Prop} {X34a X34b X34 : Int32 → Int32 → VS → Prop} {X43a X43b X43 : Int32 → Int32 → Int32 → VS → Prop} {X77a X77b X77 : Int32 → Int32 → Int32 → Int32 → VS → Prop} {Q1 Q2 Q : Int32 → VS → Prop} {l2 : Int32} {l3 : Int32} {l4 : Int32} {l5 : Int32} {σ : VS} (h1 : b_leads_77 X2a X34a X43a X77a Q1 l2 l3 l4 l5 σ) (h2 : b_leads_77 X2b X34b X43b X77b Q2 l2 l3 l4 l5 σ) (kX2 : (∀ (z0 : Int32) (z1 : Int32) (z2 : Int32) (z3 : VS), X2a z0 z1 z2 z3 → X2b z0 z1 z2 z3 → X2 z0 z1 z2 z3)) (kX34 : (∀ (z0 : Int32) (z1 : Int32) (z2 : VS), X34a z0 z1 z2 → X34b z0 z1 z2 → X34 z0 z1 z2)) (kX43 : (∀ (z0 : Int32) (z1 : Int32) (z2 : Int32) (z3 : VS), X43a z0 z1 z2 z3 → X43b z0 z1 z2 z3 → X43 z0 z1 z2 z3)) (kX77 : (∀ (z0 : Int32) (z1 : Int32) (z2 : Int32) (z3 : Int32) (z4 : VS), X77a z0 z1 z2 z3 z4 → X77b z0 z1 z2 z3 z4 → X77 z0 z1 z2 z3 z4)) (kq : (∀ (z0 : Int32) (z1 : VS), Q1 z0 z1 → Q2 z0 z1 → Q z0 z1)) : b_leads_77 X2 X34 X43 X77 Q l2 l3 l4 l5 σ := by
  unfold b_leads_77 at h1 h2 ⊢
  exact ⟨h1.1, ⟨(fun c0 => (ab_leads_137 (h1.2.1 c0) (h2.2.1 c0) kX2 kX34 kX43 kX77 kq)), (fun c0 => ⟨(h1.2.2 c0).1, (fun c1 => (fun c2 => ⟨(fun c3 => (ab_leads_131 ((((h1.2.2 c0).2 c1) c2).1 c3) ((((h2.2.2 c0).2 c1) c2).1 c3) kX2 kX34 kX43 kX77 kq)), (fun c3 => ⟨((((h1.2.2 c0).2 c1) c2).2 c3).1, ⟨(fun c4 => ⟨(((((h1.2.2 c0).2 c1) c2).2 c3).2.1 c4).1, (ab_leads_131 (((((h1.2.2 c0).2 c1) c2).2 c3).2.1 c4).2 (((((h2.2.2 c0).2 c1) c2).2 c3).2.1 c4).2 kX2 kX34 kX43 kX77 kq)⟩), (fun c4 => (ab_leads_131 (((((h1.2.2 c0).2 c1) c2).2 c3).2.2 c4) (((((h2.2.2 c0).2 c1) c2).2 c3).2.2 c4) kX2 kX34 kX43 kX77 kq))⟩⟩)⟩))⟩)⟩⟩
theorem ab_leads_43 {X2a X2b X2 : Int32 → Int32 → Int32 → VS → Prop} {X34a X34b X34 : Int32 → Int32 → VS → Prop} {X43a X43b X43 : Int32 → Int32 → Int32 → VS → Prop} {X77a X77b X77 : Int32 → Int32 → Int32 → Int32 → VS → Prop} {Q1 Q2 Q : Int32 → VS → Prop} {l2 : Int32} {l3 : Int32} {l4 : Int32} {σ : VS} (h1 : b_leads_43 X2a X34a X43a X77a Q1 l2 l3 l4 σ) (h2 : b_leads_43 X2b X34b X43b X77b Q2 l2 l3 l4 σ) (kX2 : (∀ (z0 : Int32) (z1 : Int32) (z2 : Int32) (z3 : VS), X2a z0 z1 z2 z3 → X2b z0 z1 z2 z3 → X2 z0 z1 z2 z3)) (kX34 : (∀ (z0 : Int32) (z1 : Int32) (z2 : VS), X34a z0 z1 z2 → X34b z0 z1 z2 → X34 z0 z1 z2)) (kX43 : (∀ (z0 : Int32) (z1 : Int32) (z2 : Int32) (z3 : VS), X43a z0 z1 z2 z3 → X43b z0 z1 z2 z3 → X43 z0 z1 z2 z3)) (kX77 : (∀ (z0 : Int32) (z1 : Int32) (z2 : Int32) (z3 : Int32) (z4 : VS), X77a z0 z1 z2 z3 z4 → X77b z0 z1 z2 z3 z4 → X77 z0 z1 z2 z3 z4)) (kq : (∀ (z0 : Int32) (z1 : VS), Q1 z0 z1 → Q2 z0 z1 → Q z0 z1)) : b_leads_43 X2 X34 X43 X77 Q l2 l3 l4 σ := by
  unfold b_leads_43 at h1 h2 ⊢
  exact ⟨(fun c0 => (kX34 _ _ _ (h1.1 c0) (h2.1 c0))), (fun c0 => ⟨(h1.2 c0).1, ⟨(fun c1 => (ab_leads_137 ((h1.2 c0).2.1 c1) ((h2.2 c0).2.1 c1) kX2 kX34 kX43 kX77 kq)), (fun c1 => (am_isGate ((h1.2 c0).2.2 c1) ((h2.2 c0).2.2 c1) (fun _ _ u2 v2 => ⟨(fun c3 => (kX77 _ _ _ _ _ (u2.1 c3) (v2.1 c3))), (fun c3 => (ab_leads_137 (u2.2 c3) (v2.2 c3) kX2 kX34 kX43 kX77 kq))⟩)))⟩⟩)⟩
theorem ab_leads_34 {X2a X2b X2 : Int32 → Int32 → Int32 → VS → Prop} {X34a X34b X34 : Int32 → Int32 → VS → Prop} {X43a X43b X43 : Int32 → Int32 → Int32 → VS → Prop} {X77a X77b X77 : Int32 → Int32 → Int32 → Int32 → VS → Prop} {Q1 Q2 Q : Int32 → VS → Prop} {l2 : Int32} {l3 : Int32} {σ : VS} (h1 : b_leads_34 X2a X34a X43a X77a Q1 l2 l3 σ) (h2 : b_leads_34 X2b X34b X43b X77b Q2 l2 l3 σ) (kX2 : (∀ (z0 : Int32) (z1 : Int32) (z2 : Int32) (z3 : VS), X2a z0 z1 z2 z3 → X2b z0 z1 z2 z3 → X2 z0 z1 z2 z3)) (kX34 : (∀ (z0 : Int32) (z1 : Int32) (z2 : VS), X34a z0 z1 z2 → X34b z0 z1 z2 → X34 z0 z1 z2)) (kX43 : (∀ (z0 : Int32) (z1 : Int32) (z2 : Int32) (z3 : VS), X43a z0 z1 z2 z3 → X43b z0 z1 z2 z3 → X43 z0 z1 z2 z3)) (kX77 : (∀ (z0 : Int32) (z1 : Int32) (z2 : Int32) (z3 : Int32) (z4 : VS), X77a z0 z1 z2 z3 z4 → X77b z0 z1 z2 z3 z4 → X77 z0 z1 z2 z3 z4)) (kq : (∀ (z0 : Int32) (z1 : VS), Q1 z0 z1 → Q2 z0 z1 → Q z0 z1)) : b_leads_34 X2 X34 X43 X77 Q l2 l3 σ := by
  unfold b_leads_34 at h1 h2 ⊢
  exact ⟨(fun c0 => ⟨(h1.1 c0).1, ⟨(h1.1 c0).2.1, (kq _ _ (h1.1 c0).2.2 (h2.1 c0).2.2)⟩⟩), (fun c0 => (kX43 _ _ _ _ (h1.2 c0) (h2.2 c0)))⟩
theorem ab_leads_25 {X2a X2b X2 : Int32 → Int32 → Int32 → VS → Prop} {X34a X34b X34 : Int32 → Int32 → VS → Prop} {X43a X43b X43 : Int32 → Int32 → Int32 → VS → Prop} {X77a X77b X77 : Int32 → Int32 → Int32 → Int32 → VS → Prop} {Q1 Q2 Q : Int32 → VS → Prop} {l1 : Int32} {l2 : Int32} {l3 : Int32} {k0 : Int32} {k1 : Int32} {σ : VS} (h1 : b_leads_25 X2a X34a X43a X77a Q1 l1 l2 l3 k0 k1 σ) (h2 : b_leads_25 X2b X34b X43b X77b Q2 l1 l2 l3 k0 k1 σ) (kX2 : (∀ (z0 : Int32) (z1 : Int32) (z2 : Int32) (z3 : VS), X2a z0 z1 z2 z3 → X2b z0 z1 z2 z3 → X2 z0 z1 z2 z3)) (kX34 : (∀ (z0 : Int32) (z1 : Int32) (z2 : VS), X34a z0 z1 z2 → X34b z0 z1 z2 → X34 z0 z1 z2)) (kX43 : (∀ (z0 : Int32) (z1 : Int32) (z2 : Int32) (z3 : VS), X43a z0 z1 z2 z3 → X43b z0 z1 z2 z3 → X43 z0 z1 z2 z3)) (kX77 : (∀ (z0 : Int32) (z1 : Int32) (z2 : Int32) (z3 : Int32) (z4 : VS), X77a z0 z1 z2 z3 z4 → X77b z0 z1 z2 z3 z4 → X77 z0 z1 z2 z3 z4)) (kq : (∀ (z0 : Int32) (z1 : VS), Q1 z0 z1 → Q2 z0 z1 → Q z0 z1)) : b_leads_25 X2 X34 X43 X77 Q l1 l2 l3 k0 k1 σ := by
  unfold b_leads_25 at h1 h2 ⊢
  exact ⟨h1.1, ⟨h1.2.1, (kX2 _ _ _ _ h1.2.2 h2.2.2)⟩⟩
theorem ab_leads_2 {X2a X2b X2 : Int32 → Int32 → Int32 → VS → Prop} {X34a X34b X34 : Int32 → Int32 → VS → Prop} {X43a X43b X43 : Int32 → Int32 → Int32 → VS → Prop} {X77a X77b X77 : Int32 → Int32 → Int32 → Int32 → VS → Prop} {Q1 Q2 Q : Int32 → VS → Prop} {l1 : Int32} {l2 : Int32} {l3 : Int32} {σ : VS} (h1 : b_leads_2 X2a X34a X43a X77a Q1 l1 l2 l3 σ) (h2 : b_leads_2 X2b X34b X43b X77b Q2 l1 l2 l3 σ) (kX2 : (∀ (z0 : Int32) (z1 : Int32) (z2 : Int32) (z3 : VS), X2a z0 z1 z2 z3 → X2b z0 z1 z2 z3 → X2 z0 z1 z2 z3)) (kX34 : (∀ (z0 : Int32) (z1 : Int32) (z2 : VS), X34a z0 z1 z2 → X34b z0 z1 z2 → X34 z0 z1 z2)) (kX43 : (∀ (z0 : Int32) (z1 : Int32) (z2 : Int32) (z3 : VS), X43a z0 z1 z2 z3 → X43b z0 z1 z2 z3 → X43 z0 z1 z2 z3)) (kX77 : (∀ (z0 : Int32) (z1 : Int32) (z2 : Int32) (z3 : Int32) (z4 : VS), X77a z0 z1 z2 z3 z4 → X77b z0 z1 z2 z3 z4 → X77 z0 z1 z2 z3 z4)) (kq : (∀ (z0 : Int32) (z1 : VS), Q1 z0 z1 → Q2 z0 z1 → Q z0 z1)) : b_leads_2 X2 X34 X43 X77 Q l1 l2 l3 σ := by
  unfold b_leads_2 at h1 h2 ⊢
  exact ⟨(fun c0 => (kX34 _ _ _ (h1.1 c0) (h2.1 c0))), (fun c0 => ⟨(fun c1 => (ab_leads_25 ((h1.2 c0).1 c1) ((h2.2 c0).1 c1) kX2 kX34 kX43 kX77 kq)), (fun c1 => (ab_leads_25 ((h1.2 c0).2 c1) ((h2.2 c0).2 c1) kX2 kX34 kX43 kX77 kq))⟩)⟩
theorem am_leads {Q1 Q2 Q : Int32 → VS → Prop} {p1 : Int32} {p2 : Int32} {σ : VS} (h1 : wp_leads Q1 p1 p2 σ) (h2 : wp_leads Q2 p1 p2 σ) (kq : (∀ (z0 : Int32) (z1 : VS), Q1 z0 z1 → Q2 z0 z1 → Q z0 z1)) : wp_leads Q p1 p2 σ := by
  unfold wp_leads at h1 h2 ⊢
  intro X2 X34 X43 X77 HX2 HX34 HX43 HX77
  obtain ⟨YX2, eYX2⟩ : ∃ Y : Int32 → Int32 → Int32 → VS → Prop, Y = fun wy0 wy1 wy2 wy3 => ∀ (X2 : Int32 → Int32 → Int32 → VS → Prop) (X34 : Int32 → Int32 → VS → Prop) (X43 : Int32 → Int32 → Int32 → VS → Prop) (X77 : Int32 → Int32 → Int32 → Int32 → VS → Prop), (∀ (y0 : Int32) (y1 : Int32) (y2 : Int32) (y3 : VS), b_leads_2 X2 X34 X43 X77 Q2 y0 y1 y2 y3 → X2 y0 y1 y2 y3) → (∀ (y0 : Int32) (y1 : Int32) (y2 : VS), b_leads_34 X2 X34 X43 X77 Q2 y0 y1 y2 → X34 y0 y1 y2) → (∀ (y0 : Int32) (y1 : Int32) (y2 : Int32) (y3 : VS), b_leads_43 X2 X34 X43 X77 Q2 y0 y1 y2 y3 → X43 y0 y1 y2 y3) → (∀ (y0 : Int32) (y1 : Int32) (y2 : Int32) (y3 : Int32) (y4 : VS), b_leads_77 X2 X34 X43 X77 Q2 y0 y1 y2 y3 y4 → X77 y0 y1 y2 y3 y4) → X2 wy0 wy1 wy2 wy3 := ⟨_, rfl⟩
  obtain ⟨YX34, eYX34⟩ : ∃ Y : Int32 → Int32 → VS → Prop, Y = fun wy0 wy1 wy2 => ∀ (X2 : Int32 → Int32 → Int32 → VS → Prop) (X34 : Int32 → Int32 → VS → Prop) (X43 : Int32 → Int32 → Int32 → VS → Prop) (X77 : Int32 → Int32 → Int32 → Int32 → VS → Prop), (∀ (y0 : Int32) (y1 : Int32) (y2 : Int32) (y3 : VS), b_leads_2 X2 X34 X43 X77 Q2 y0 y1 y2 y3 → X2 y0 y1 y2 y3) → (∀ (y0 : Int32) (y1 : Int32) (y2 : VS), b_leads_34 X2 X34 X43 X77 Q2 y0 y1 y2 → X34 y0 y1 y2) → (∀ (y0 : Int32) (y1 : Int32) (y2 : Int32) (y3 : VS), b_leads_43 X2 X34 X43 X77 Q2 y0 y1 y2 y3 → X43 y0 y1 y2 y3) → (∀ (y0 : Int32) (y1 : Int32) (y2 : Int32) (y3 : Int32) (y4 : VS), b_leads_77 X2 X34 X43 X77 Q2 y0 y1 y2 y3 y4 → X77 y0 y1 y2 y3 y4) → X34 wy0 wy1 wy2 := ⟨_, rfl⟩
  obtain ⟨YX43, eYX43⟩ : ∃ Y : Int32 → Int32 → Int32 → VS → Prop, Y = fun wy0 wy1 wy2 wy3 => ∀ (X2 : Int32 → Int32 → Int32 → VS → Prop) (X34 : Int32 → Int32 → VS → Prop) (X43 : Int32 → Int32 → Int32 → VS → Prop) (X77 : Int32 → Int32 → Int32 → Int32 → VS → Prop), (∀ (y0 : Int32) (y1 : Int32) (y2 : Int32) (y3 : VS), b_leads_2 X2 X34 X43 X77 Q2 y0 y1 y2 y3 → X2 y0 y1 y2 y3) → (∀ (y0 : Int32) (y1 : Int32) (y2 : VS), b_leads_34 X2 X34 X43 X77 Q2 y0 y1 y2 → X34 y0 y1 y2) → (∀ (y0 : Int32) (y1 : Int32) (y2 : Int32) (y3 : VS), b_leads_43 X2 X34 X43 X77 Q2 y0 y1 y2 y3 → X43 y0 y1 y2 y3) → (∀ (y0 : Int32) (y1 : Int32) (y2 : Int32) (y3 : Int32) (y4 : VS), b_leads_77 X2 X34 X43 X77 Q2 y0 y1 y2 y3 y4 → X77 y0 y1 y2 y3 y4) → X43 wy0 wy1 wy2 wy3 := ⟨_, rfl⟩
  obtain ⟨YX77, eYX77⟩ : ∃ Y : Int32 → Int32 → Int32 → Int32 → VS → Prop, Y = fun wy0 wy1 wy2 wy3 wy4 => ∀ (X2 : Int32 → Int32 → Int32 → VS → Prop) (X34 : Int32 → Int32 → VS → Prop) (X43 : Int32 → Int32 → Int32 → VS → Prop) (X77 : Int32 → Int32 → Int32 → Int32 → VS → Prop), (∀ (y0 : Int32) (y1 : Int32) (y2 : Int32) (y3 : VS), b_leads_2 X2 X34 X43 X77 Q2 y0 y1 y2 y3 → X2 y0 y1 y2 y3) → (∀ (y0 : Int32) (y1 : Int32) (y2 : VS), b_leads_34 X2 X34 X43 X77 Q2 y0 y1 y2 → X34 y0 y1 y2) → (∀ (y0 : Int32) (y1 : Int32) (y2 : Int32) (y3 : VS), b_leads_43 X2 X34 X43 X77 Q2 y0 y1 y2 y3 → X43 y0 y1 y2 y3) → (∀ (y0 : Int32) (y1 : Int32) (y2 : Int32) (y3 : Int32) (y4 : VS), b_leads_77 X2 X34 X43 X77 Q2 y0 y1 y2 y3 y4 → X77 y0 y1 y2 y3 y4) → X77 wy0 wy1 wy2 wy3 wy4 := ⟨_, rfl⟩
  have foldX2 : ∀ y0 y1 y2 y3, b_leads_2 YX2 YX34 YX43 YX77 Q2 y0 y1 y2 y3 → YX2 y0 y1 y2 y3 := by
    intro y0 y1 y2 y3 h
    rw [eYX2]
    intro ZX2 ZX34 ZX43 ZX77 KX2 KX34 KX43 KX77
    exact KX2 _ _ _ _ (ab_leads_2 h h (fun _ _ _ _ y _ => by rw [eYX2] at y; exact y ZX2 ZX34 ZX43 ZX77 KX2 KX34 KX43 KX77) (fun _ _ _ y _ => by rw [eYX34] at y; exact y ZX2 ZX34 ZX43 ZX77 KX2 KX34 KX43 KX77) (fun _ _ _ _ y _ => by rw [eYX43] at y; exact y ZX2 ZX34 ZX43 ZX77 KX2 KX34 KX43 KX77) (fun _ _ _ _ _ y _ => by rw [eYX77] at y; exact y ZX2 ZX34 ZX43 ZX77 KX2 KX34 KX43 KX77) (fun _ _ q _ => q))
  have foldX34 : ∀ y0 y1 y2, b_leads_34 YX2 YX34 YX43 YX77 Q2 y0 y1 y2 → YX34 y0 y1 y2 := by
    intro y0 y1 y2 h
    rw [eYX34]
    intro ZX2 ZX34 ZX43 ZX77 KX2 KX34 KX43 KX77
    exact KX34 _ _ _ (ab_leads_34 h h (fun _ _ _ _ y _ => by rw [eYX2] at y; exact y ZX2 ZX34 ZX43 ZX77 KX2 KX34 KX43 KX77) (fun _ _ _ y _ => by rw [eYX34] at y; exact y ZX2 ZX34 ZX43 ZX77 KX2 KX34 KX43 KX77) (fun _ _ _ _ y _ => by rw [eYX43] at y; exact y ZX2 ZX34 ZX43 ZX77 KX2 KX34 KX43 KX77) (fun _ _ _ _ _ y _ => by rw [eYX77] at y; exact y ZX2 ZX34 ZX43 ZX77 KX2 KX34 KX43 KX77) (fun _ _ q _ => q))
  have foldX43 : ∀ y0 y1 y2 y3, b_leads_43 YX2 YX34 YX43 YX77 Q2 y0 y1 y2 y3 → YX43 y0 y1 y2 y3 := by
    intro y0 y1 y2 y3 h
    rw [eYX43]
    intro ZX2 ZX34 ZX43 ZX77 KX2 KX34 KX43 KX77
    exact KX43 _ _ _ _ (ab_leads_43 h h (fun _ _ _ _ y _ => by rw [eYX2] at y; exact y ZX2 ZX34 ZX43 ZX77 KX2 KX34 KX43 KX77) (fun _ _ _ y _ => by rw [eYX34] at y; exact y ZX2 ZX34 ZX43 ZX77 KX2 KX34 KX43 KX77) (fun _ _ _ _ y _ => by rw [eYX43] at y; exact y ZX2 ZX34 ZX43 ZX77 KX2 KX34 KX43 KX77) (fun _ _ _ _ _ y _ => by rw [eYX77] at y; exact y ZX2 ZX34 ZX43 ZX77 KX2 KX34 KX43 KX77) (fun _ _ q _ => q))
  have foldX77 : ∀ y0 y1 y2 y3 y4, b_leads_77 YX2 YX34 YX43 YX77 Q2 y0 y1 y2 y3 y4 → YX77 y0 y1 y2 y3 y4 := by
    intro y0 y1 y2 y3 y4 h
    rw [eYX77]
    intro ZX2 ZX34 ZX43 ZX77 KX2 KX34 KX43 KX77
    exact KX77 _ _ _ _ _ (ab_leads_77 h h (fun _ _ _ _ y _ => by rw [eYX2] at y; exact y ZX2 ZX34 ZX43 ZX77 KX2 KX34 KX43 KX77) (fun _ _ _ y _ => by rw [eYX34] at y; exact y ZX2 ZX34 ZX43 ZX77 KX2 KX34 KX43 KX77) (fun _ _ _ _ y _ => by rw [eYX43] at y; exact y ZX2 ZX34 ZX43 ZX77 KX2 KX34 KX43 KX77) (fun _ _ _ _ _ y _ => by rw [eYX77] at y; exact y ZX2 ZX34 ZX43 ZX77 KX2 KX34 KX43 KX77) (fun _ _ q _ => q))
  have invX2 : ∀ y0 y1 y2 y3, YX2 y0 y1 y2 y3 → b_leads_2 YX2 YX34 YX43 YX77 Q2 y0 y1 y2 y3 := by
    intro y0 y1 y2 y3 h
    rw [eYX2] at h
    exact h (fun w0 w1 w2 w3 => b_leads_2 YX2 YX34 YX43 YX77 Q2 w0 w1 w2 w3) (fun w0 w1 w2 => b_leads_34 YX2 YX34 YX43 YX77 Q2 w0 w1 w2) (fun w0 w1 w2 w3 => b_leads_43 YX2 YX34 YX43 YX77 Q2 w0 w1 w2 w3) (fun w0 w1 w2 w3 w4 => b_leads_77 YX2 YX34 YX43 YX77 Q2 w0 w1 w2 w3 w4) (fun _ _ _ _ h => ab_leads_2 h h (fun _ _ _ _ y _ => foldX2 _ _ _ _ y) (fun _ _ _ y _ => foldX34 _ _ _ y) (fun _ _ _ _ y _ => foldX43 _ _ _ _ y) (fun _ _ _ _ _ y _ => foldX77 _ _ _ _ _ y) (fun _ _ q _ => q)) (fun _ _ _ h => ab_leads_34 h h (fun _ _ _ _ y _ => foldX2 _ _ _ _ y) (fun _ _ _ y _ => foldX34 _ _ _ y) (fun _ _ _ _ y _ => foldX43 _ _ _ _ y) (fun _ _ _ _ _ y _ => foldX77 _ _ _ _ _ y) (fun _ _ q _ => q)) (fun _ _ _ _ h => ab_leads_43 h h (fun _ _ _ _ y _ => foldX2 _ _ _ _ y) (fun _ _ _ y _ => foldX34 _ _ _ y) (fun _ _ _ _ y _ => foldX43 _ _ _ _ y) (fun _ _ _ _ _ y _ => foldX77 _ _ _ _ _ y) (fun _ _ q _ => q)) (fun _ _ _ _ _ h => ab_leads_77 h h (fun _ _ _ _ y _ => foldX2 _ _ _ _ y) (fun _ _ _ y _ => foldX34 _ _ _ y) (fun _ _ _ _ y _ => foldX43 _ _ _ _ y) (fun _ _ _ _ _ y _ => foldX77 _ _ _ _ _ y) (fun _ _ q _ => q))
  have invX34 : ∀ y0 y1 y2, YX34 y0 y1 y2 → b_leads_34 YX2 YX34 YX43 YX77 Q2 y0 y1 y2 := by
    intro y0 y1 y2 h
    rw [eYX34] at h
    exact h (fun w0 w1 w2 w3 => b_leads_2 YX2 YX34 YX43 YX77 Q2 w0 w1 w2 w3) (fun w0 w1 w2 => b_leads_34 YX2 YX34 YX43 YX77 Q2 w0 w1 w2) (fun w0 w1 w2 w3 => b_leads_43 YX2 YX34 YX43 YX77 Q2 w0 w1 w2 w3) (fun w0 w1 w2 w3 w4 => b_leads_77 YX2 YX34 YX43 YX77 Q2 w0 w1 w2 w3 w4) (fun _ _ _ _ h => ab_leads_2 h h (fun _ _ _ _ y _ => foldX2 _ _ _ _ y) (fun _ _ _ y _ => foldX34 _ _ _ y) (fun _ _ _ _ y _ => foldX43 _ _ _ _ y) (fun _ _ _ _ _ y _ => foldX77 _ _ _ _ _ y) (fun _ _ q _ => q)) (fun _ _ _ h => ab_leads_34 h h (fun _ _ _ _ y _ => foldX2 _ _ _ _ y) (fun _ _ _ y _ => foldX34 _ _ _ y) (fun _ _ _ _ y _ => foldX43 _ _ _ _ y) (fun _ _ _ _ _ y _ => foldX77 _ _ _ _ _ y) (fun _ _ q _ => q)) (fun _ _ _ _ h => ab_leads_43 h h (fun _ _ _ _ y _ => foldX2 _ _ _ _ y) (fun _ _ _ y _ => foldX34 _ _ _ y) (fun _ _ _ _ y _ => foldX43 _ _ _ _ y) (fun _ _ _ _ _ y _ => foldX77 _ _ _ _ _ y) (fun _ _ q _ => q)) (fun _ _ _ _ _ h => ab_leads_77 h h (fun _ _ _ _ y _ => foldX2 _ _ _ _ y) (fun _ _ _ y _ => foldX34 _ _ _ y) (fun _ _ _ _ y _ => foldX43 _ _ _ _ y) (fun _ _ _ _ _ y _ => foldX77 _ _ _ _ _ y) (fun _ _ q _ => q))
  have invX43 : ∀ y0 y1 y2 y3, YX43 y0 y1 y2 y3 → b_leads_43 YX2 YX34 YX43 YX77 Q2 y0 y1 y2 y3 := by
    intro y0 y1 y2 y3 h
    rw [eYX43] at h
    exact h (fun w0 w1 w2 w3 => b_leads_2 YX2 YX34 YX43 YX77 Q2 w0 w1 w2 w3) (fun w0 w1 w2 => b_leads_34 YX2 YX34 YX43 YX77 Q2 w0 w1 w2) (fun w0 w1 w2 w3 => b_leads_43 YX2 YX34 YX43 YX77 Q2 w0 w1 w2 w3) (fun w0 w1 w2 w3 w4 => b_leads_77 YX2 YX34 YX43 YX77 Q2 w0 w1 w2 w3 w4) (fun _ _ _ _ h => ab_leads_2 h h (fun _ _ _ _ y _ => foldX2 _ _ _ _ y) (fun _ _ _ y _ => foldX34 _ _ _ y) (fun _ _ _ _ y _ => foldX43 _ _ _ _ y) (fun _ _ _ _ _ y _ => foldX77 _ _ _ _ _ y) (fun _ _ q _ => q)) (fun _ _ _ h => ab_leads_34 h h (fun _ _ _ _ y _ => foldX2 _ _ _ _ y) (fun _ _ _ y _ => foldX34 _ _ _ y) (fun _ _ _ _ y _ => foldX43 _ _ _ _ y) (fun _ _ _ _ _ y _ => foldX77 _ _ _ _ _ y) (fun _ _ q _ => q)) (fun _ _ _ _ h => ab_leads_43 h h (fun _ _ _ _ y _ => foldX2 _ _ _ _ y) (fun _ _ _ y _ => foldX34 _ _ _ y) (fun _ _ _ _ y _ => foldX43 _ _ _ _ y) (fun _ _ _ _ _ y _ => foldX77 _ _ _ _ _ y) (fun _ _ q _ => q)) (fun _ _ _ _ _ h => ab_leads_77 h h (fun _ _ _ _ y _ => foldX2 _ _ _ _ y) (fun _ _ _ y _ => foldX34 _ _ _ y) (fun _ _ _ _ y _ => foldX43 _ _ _ _ y) (fun _ _ _ _ _ y _ => foldX77 _ _ _ _ _ y) (fun _ _ q _ => q))
  have invX77 : ∀ y0 y1 y2 y3 y4, YX77 y0 y1 y2 y3 y4 → b_leads_77 YX2 YX34 YX43 YX77 Q2 y0 y1 y2 y3 y4 := by
    intro y0 y1 y2 y3 y4 h
    rw [eYX77] at h
    exact h (fun w0 w1 w2 w3 => b_leads_2 YX2 YX34 YX43 YX77 Q2 w0 w1 w2 w3) (fun w0 w1 w2 => b_leads_34 YX2 YX34 YX43 YX77 Q2 w0 w1 w2) (fun w0 w1 w2 w3 => b_leads_43 YX2 YX34 YX43 YX77 Q2 w0 w1 w2 w3) (fun w0 w1 w2 w3 w4 => b_leads_77 YX2 YX34 YX43 YX77 Q2 w0 w1 w2 w3 w4) (fun _ _ _ _ h => ab_leads_2 h h (fun _ _ _ _ y _ => foldX2 _ _ _ _ y) (fun _ _ _ y _ => foldX34 _ _ _ y) (fun _ _ _ _ y _ => foldX43 _ _ _ _ y) (fun _ _ _ _ _ y _ => foldX77 _ _ _ _ _ y) (fun _ _ q _ => q)) (fun _ _ _ h => ab_leads_34 h h (fun _ _ _ _ y _ => foldX2 _ _ _ _ y) (fun _ _ _ y _ => foldX34 _ _ _ y) (fun _ _ _ _ y _ => foldX43 _ _ _ _ y) (fun _ _ _ _ _ y _ => foldX77 _ _ _ _ _ y) (fun _ _ q _ => q)) (fun _ _ _ _ h => ab_leads_43 h h (fun _ _ _ _ y _ => foldX2 _ _ _ _ y) (fun _ _ _ y _ => foldX34 _ _ _ y) (fun _ _ _ _ y _ => foldX43 _ _ _ _ y) (fun _ _ _ _ _ y _ => foldX77 _ _ _ _ _ y) (fun _ _ q _ => q)) (fun _ _ _ _ _ h => ab_leads_77 h h (fun _ _ _ _ y _ => foldX2 _ _ _ _ y) (fun _ _ _ y _ => foldX34 _ _ _ y) (fun _ _ _ _ y _ => foldX43 _ _ _ _ y) (fun _ _ _ _ _ y _ => foldX77 _ _ _ _ _ y) (fun _ _ q _ => q))
  have g2 := h2 YX2 YX34 YX43 YX77 foldX2 foldX34 foldX43 foldX77
  have g1 := h1 (fun w0 w1 w2 w3 => YX2 w0 w1 w2 w3 → X2 w0 w1 w2 w3) (fun w0 w1 w2 => YX34 w0 w1 w2 → X34 w0 w1 w2) (fun w0 w1 w2 w3 => YX43 w0 w1 w2 w3 → X43 w0 w1 w2 w3) (fun w0 w1 w2 w3 w4 => YX77 w0 w1 w2 w3 w4 → X77 w0 w1 w2 w3 w4) (fun _ _ _ _ h y => HX2 _ _ _ _ (ab_leads_2 h (invX2 _ _ _ _ y) (fun _ _ _ _ f y => f y) (fun _ _ _ f y => f y) (fun _ _ _ _ f y => f y) (fun _ _ _ _ _ f y => f y) kq)) (fun _ _ _ h y => HX34 _ _ _ (ab_leads_34 h (invX34 _ _ _ y) (fun _ _ _ _ f y => f y) (fun _ _ _ f y => f y) (fun _ _ _ _ f y => f y) (fun _ _ _ _ _ f y => f y) kq)) (fun _ _ _ _ h y => HX43 _ _ _ _ (ab_leads_43 h (invX43 _ _ _ _ y) (fun _ _ _ _ f y => f y) (fun _ _ _ f y => f y) (fun _ _ _ _ f y => f y) (fun _ _ _ _ _ f y => f y) kq)) (fun _ _ _ _ _ h y => HX77 _ _ _ _ _ (ab_leads_77 h (invX77 _ _ _ _ _ y) (fun _ _ _ _ f y => f y) (fun _ _ _ f y => f y) (fun _ _ _ _ f y => f y) (fun _ _ _ _ _ f y => f y) kq))
  have kX2 : ∀ y0 y1 y2 y3, (YX2 y0 y1 y2 y3 → X2 y0 y1 y2 y3) → YX2 y0 y1 y2 y3 → X2 y0 y1 y2 y3 := fun _ _ _ _ f y => f y
  have kX34 : ∀ y0 y1 y2, (YX34 y0 y1 y2 → X34 y0 y1 y2) → YX34 y0 y1 y2 → X34 y0 y1 y2 := fun _ _ _ f y => f y
  have kX43 : ∀ y0 y1 y2 y3, (YX43 y0 y1 y2 y3 → X43 y0 y1 y2 y3) → YX43 y0 y1 y2 y3 → X43 y0 y1 y2 y3 := fun _ _ _ _ f y => f y
  have kX77 : ∀ y0 y1 y2 y3 y4, (YX77 y0 y1 y2 y3 y4 → X77 y0 y1 y2 y3 y4) → YX77 y0 y1 y2 y3 y4 → X77 y0 y1 y2 y3 y4 := fun _ _ _ _ _ f y => f y
  exact (kX2 _ _ _ _ g1 g2)
theorem ab_wire_131  {Q1 Q2 Q : Int32 → VS → Prop} {k0 : Int32} {σ : VS} (h1 : b_wire_131  Q1 k0 σ) (h2 : b_wire_131  Q2 k0 σ)  (kq : (∀ (z0 : Int32) (z1 : VS), Q1 z0 z1 → Q2 z0 z1 → Q z0 z1)) : b_wire_131  Q k0 σ := by
  unfold b_wire_131 at h1 h2 ⊢
  exact (kq _ _ h1 h2)
theorem ab_wire_108  {Q1 Q2 Q : Int32 → VS → Prop} {l1 : Int32} {l2 : Int32} {l3 : Int32} {l4 : Int32} {σ : VS} (h1 : b_wire_108  Q1 l1 l2 l3 l4 σ) (h2 : b_wire_108  Q2 l1 l2 l3 l4 σ)  (kq : (∀ (z0 : Int32) (z1 : VS), Q1 z0 z1 → Q2 z0 z1 → Q z0 z1)) : b_wire_108  Q l1 l2 l3 l4 σ := by
  unfold b_wire_108 at h1 h2 ⊢
  exact ⟨h1.1, ⟨(fun c0 => (ab_wire_131 (h1.2.1 c0) (h2.2.1 c0) kq)), (fun c0 => (ab_wire_131 (h1.2.2 c0) (h2.2.2 c0) kq))⟩⟩
theorem ab_wire_41  {Q1 Q2 Q : Int32 → VS → Prop} {l1 : Int32} {l2 : Int32} {l3 : Int32} {σ : VS} (h1 : b_wire_41  Q1 l1 l2 l3 σ) (h2 : b_wire_41  Q2 l1 l2 l3 σ)  (kq : (∀ (z0 : Int32) (z1 : VS), Q1 z0 z1 → Q2 z0 z1 → Q z0 z1)) : b_wire_41  Q l1 l2 l3 σ := by
  unfold b_wire_41 at h1 h2 ⊢
  exact ⟨h1.1, (fun c0 => (fun c1 => ⟨((h1.2 c0) c1).1, ⟨(fun c2 => (ab_wire_108 (((h1.2 c0) c1).2.1 c2) (((h2.2 c0) c1).2.1 c2) kq)), (fun c2 => (am_isGate (((h1.2 c0) c1).2.2 c2) (((h2.2 c0) c1).2.2 c2) (fun _ _ u3 v3 => ⟨(fun c4 => (ab_wire_108 (u3.1 c4) (v3.1 c4) kq)), (fun c4 => (am_isGate (u3.2 c4) (v3.2 c4) (fun _ _ u5 v5 => ⟨(fun c6 => (ab_wire_108 (u5.1 c6) (v5.1 c6) kq)), (fun c6 => (am_leads (u5.2 c6) (v5.2 c6) (fun _ _ u7 v7 => ⟨(fun c8 => (ab_wire_108 (u7.1 c8) (v7.1 c8) kq)), (fun c8 => ⟨(u7.2 c8).1, (kq _ _ (u7.2 c8).2 (v7.2 c8).2)⟩)⟩)))⟩)))⟩)))⟩⟩))⟩
theorem ab_wire_22  {Q1 Q2 Q : Int32 → VS → Prop} {σ : VS} (h1 : b_wire_22  Q1 σ) (h2 : b_wire_22  Q2 σ)  (kq : (∀ (z0 : Int32) (z1 : VS), Q1 z0 z1 → Q2 z0 z1 → Q z0 z1)) : b_wire_22  Q σ := by
  unfold b_wire_22 at h1 h2 ⊢
  exact (kq _ _ h1 h2)
theorem am_wire {Q1 Q2 Q : Int32 → VS → Prop} {p1 : Int32} {p2 : Int32} {p3 : Int32} {σ : VS} (h1 : wp_wire Q1 p1 p2 p3 σ) (h2 : wp_wire Q2 p1 p2 p3 σ) (kq : (∀ (z0 : Int32) (z1 : VS), Q1 z0 z1 → Q2 z0 z1 → Q z0 z1)) : wp_wire Q p1 p2 p3 σ := by
  unfold wp_wire at h1 h2 ⊢
  exact ⟨(fun c0 => (ab_wire_22 (h1.1 c0) (h2.1 c0) kq)), (fun c0 => ⟨(fun c1 => (ab_wire_22 ((h1.2 c0).1 c1) ((h2.2 c0).1 c1) kq)), (fun c1 => (am_isInput ((h1.2 c0).2 c1) ((h2.2 c0).2 c1) (fun _ _ u2 v2 => ⟨(fun c3 => ⟨(fun c4 => (ab_wire_41 ((u2.1 c3).1 c4) ((v2.1 c3).1 c4) kq)), (fun c4 => ⟨((u2.1 c3).2 c4).1, ⟨(fun c5 => (ab_wire_41 (((u2.1 c3).2 c4).2.1 c5) (((v2.1 c3).2 c4).2.1 c5) kq)), (fun c5 => (kq _ _ (((u2.1 c3).2 c4).2.2 c5) (((v2.1 c3).2 c4).2.2 c5)))⟩⟩)⟩), (fun c3 => (ab_wire_22 (u2.2 c3) (v2.2 c3) kq))⟩)))⟩)⟩
theorem ab_isOnWay_2 {X2a X2b X2 : Int32 → Int32 → VS → Prop} {Q1 Q2 Q : Int32 → VS → Prop} {l1 : Int32} {l3 : Int32} {σ : VS} (h1 : b_isOnWay_2 X2a Q1 l1 l3 σ) (h2 : b_isOnWay_2 X2b Q2 l1 l3 σ) (kX2 : (∀ (z0 : Int32) (z1 : Int32) (z2 : VS), X2a z0 z1 z2 → X2b z0 z1 z2 → X2 z0 z1 z2)) (kq : (∀ (z0 : Int32) (z1 : VS), Q1 z0 z1 → Q2 z0 z1 → Q z0 z1)) : b_isOnWay_2 X2 Q l1 l3 σ := by
  unfold b_isOnWay_2 at h1 h2 ⊢
  exact ⟨(fun c0 => (kq _ _ (h1.1 c0) (h2.1 c0))), (fun c0 => ⟨(fun c1 => ⟨((h1.2 c0).1 c1).1, (fun c2 => (fun c3 => (kX2 _ _ _ ((((h1.2 c0).1 c1).2 c2) c3) ((((h2.2 c0).1 c1).2 c2) c3))))⟩), (fun c1 => (kq _ _ ((h1.2 c0).2 c1) ((h2.2 c0).2 c1)))⟩)⟩
theorem am_isOnWay {Q1 Q2 Q : Int32 → VS → Prop} {p1 : Int32} {p2 : Int32} {σ : VS} (h1 : wp_isOnWay Q1 p1 p2 σ) (h2 : wp_isOnWay Q2 p1 p2 σ) (kq : (∀ (z0 : Int32) (z1 : VS), Q1 z0 z1 → Q2 z0 z1 → Q z0 z1)) : wp_isOnWay Q p1 p2 σ := by
  unfold wp_isOnWay at h1 h2 ⊢
  intro X2 HX2
  obtain ⟨YX2, eYX2⟩ : ∃ Y : Int32 → Int32 → VS → Prop, Y = fun wy0 wy1 wy2 => ∀ (X2 : Int32 → Int32 → VS → Prop), (∀ (y0 : Int32) (y1 : Int32) (y2 : VS), b_isOnWay_2 X2 Q2 y0 y1 y2 → X2 y0 y1 y2) → X2 wy0 wy1 wy2 := ⟨_, rfl⟩
  have foldX2 : ∀ y0 y1 y2, b_isOnWay_2 YX2 Q2 y0 y1 y2 → YX2 y0 y1 y2 := by
    intro y0 y1 y2 h
    rw [eYX2]
    intro ZX2 KX2
    exact KX2 _ _ _ (ab_isOnWay_2 h h (fun _ _ _ y _ => by rw [eYX2] at y; exact y ZX2 KX2) (fun _ _ q _ => q))
  have invX2 : ∀ y0 y1 y2, YX2 y0 y1 y2 → b_isOnWay_2 YX2 Q2 y0 y1 y2 := by
    intro y0 y1 y2 h
    rw [eYX2] at h
    exact h (fun w0 w1 w2 => b_isOnWay_2 YX2 Q2 w0 w1 w2) (fun _ _ _ h => ab_isOnWay_2 h h (fun _ _ _ y _ => foldX2 _ _ _ y) (fun _ _ q _ => q))
  have g2 := h2 YX2 foldX2
  have g1 := h1 (fun w0 w1 w2 => YX2 w0 w1 w2 → X2 w0 w1 w2) (fun _ _ _ h y => HX2 _ _ _ (ab_isOnWay_2 h (invX2 _ _ _ y) (fun _ _ _ f y => f y) kq))
  have kX2 : ∀ y0 y1 y2, (YX2 y0 y1 y2 → X2 y0 y1 y2) → YX2 y0 y1 y2 → X2 y0 y1 y2 := fun _ _ _ f y => f y
  exact (kX2 _ _ _ g1 g2)
theorem ab_shared_84 {X27a X27b X27 : Int32 → Int32 → Int32 → Int32 → VS → Prop} {Q1 Q2 Q : Int32 → VS → Prop} {l1 : Int32} {l2 : Int32} {l3 : Int32} {l4 : Int32} {σ : VS} (h1 : b_shared_84 X27a Q1 l1 l2 l3 l4 σ) (h2 : b_shared_84 X27b Q2 l1 l2 l3 l4 σ) (kX27 : (∀ (z0 : Int32) (z1 : Int32) (z2 : Int32) (z3 : Int32) (z4 : VS), X27a z0 z1 z2 z3 z4 → X27b z0 z1 z2 z3 z4 → X27 z0 z1 z2 z3 z4)) (kq : (∀ (z0 : Int32) (z1 : VS), Q1 z0 z1 → Q2 z0 z1 → Q z0 z1)) : b_shared_84 X27 Q l1 l2 l3 l4 σ := by
  unfold b_shared_84 at h1 h2 ⊢
  exact (kX27 _ _ _ _ _ h1 h2)
theorem ab_shared_27 {X27a X27b X27 : Int32 → Int32 → Int32 → Int32 → VS → Prop} {Q1 Q2 Q : Int32 → VS → Prop} {l1 : Int32} {l2 : Int32} {l3 : Int32} {l4 : Int32} {σ : VS} (h1 : b_shared_27 X27a Q1 l1 l2 l3 l4 σ) (h2 : b_shared_27 X27b Q2 l1 l2 l3 l4 σ) (kX27 : (∀ (z0 : Int32) (z1 : Int32) (z2 : Int32) (z3 : Int32) (z4 : VS), X27a z0 z1 z2 z3 z4 → X27b z0 z1 z2 z3 z4 → X27 z0 z1 z2 z3 z4)) (kq : (∀ (z0 : Int32) (z1 : VS), Q1 z0 z1 → Q2 z0 z1 → Q z0 z1)) : b_shared_27 X27 Q l1 l2 l3 l4 σ := by
  unfold b_shared_27 at h1 h2 ⊢
  exact ⟨(fun c0 => (kq _ _ (h1.1 c0) (h2.1 c0))), (fun c0 => ⟨(h1.2 c0).1, (am_isOnWay (h1.2 c0).2 (h2.2 c0).2 (fun _ _ u1 v1 => ⟨(fun c2 => (ab_shared_84 (u1.1 c2) (v1.1 c2) kX27 kq)), (fun c2 => ⟨(u1.2 c2).1, (am_isOnWay (u1.2 c2).2 (v1.2 c2).2 (fun _ _ u3 v3 => ⟨(fun c4 => (ab_shared_84 (u3.1 c4) (v3.1 c4) kX27 kq)), (fun c4 => ⟨(u3.2 c4).1, ⟨(u3.2 c4).2.1, (fun c5 => (fun c6 => (ab_shared_84 (((u3.2 c4).2.2 c5) c6) (((v3.2 c4).2.2 c5) c6) kX27 kq)))⟩⟩)⟩))⟩)⟩))⟩)⟩
theorem ab_shared_20 {X27a X27b X27 : Int32 → Int32 → Int32 → Int32 → VS → Prop} {Q1 Q2 Q : Int32 → VS → Prop} {σ : VS} (h1 : b_shared_20 X27a Q1 σ) (h2 : b_shared_20 X27b Q2 σ) (kX27 : (∀ (z0 : Int32) (z1 : Int32) (z2 : Int32) (z3 : Int32) (z4 : VS), X27a z0 z1 z2 z3 z4 → X27b z0 z1 z2 z3 z4 → X27 z0 z1 z2 z3 z4)) (kq : (∀ (z0 : Int32) (z1 : VS), Q1 z0 z1 → Q2 z0 z1 → Q z0 z1)) : b_shared_20 X27 Q σ := by
  unfold b_shared_20 at h1 h2 ⊢
  exact (kq _ _ h1 h2)
theorem am_shared {Q1 Q2 Q : Int32 → VS → Prop} {p1 : Int32} {p2 : Int32} {σ : VS} (h1 : wp_shared Q1 p1 p2 σ) (h2 : wp_shared Q2 p1 p2 σ) (kq : (∀ (z0 : Int32) (z1 : VS), Q1 z0 z1 → Q2 z0 z1 → Q z0 z1)) : wp_shared Q p1 p2 σ := by
  unfold wp_shared at h1 h2 ⊢
  intro X27 HX27
  obtain ⟨YX27, eYX27⟩ : ∃ Y : Int32 → Int32 → Int32 → Int32 → VS → Prop, Y = fun wy0 wy1 wy2 wy3 wy4 => ∀ (X27 : Int32 → Int32 → Int32 → Int32 → VS → Prop), (∀ (y0 : Int32) (y1 : Int32) (y2 : Int32) (y3 : Int32) (y4 : VS), b_shared_27 X27 Q2 y0 y1 y2 y3 y4 → X27 y0 y1 y2 y3 y4) → X27 wy0 wy1 wy2 wy3 wy4 := ⟨_, rfl⟩
  have foldX27 : ∀ y0 y1 y2 y3 y4, b_shared_27 YX27 Q2 y0 y1 y2 y3 y4 → YX27 y0 y1 y2 y3 y4 := by
    intro y0 y1 y2 y3 y4 h
    rw [eYX27]
    intro ZX27 KX27
    exact KX27 _ _ _ _ _ (ab_shared_27 h h (fun _ _ _ _ _ y _ => by rw [eYX27] at y; exact y ZX27 KX27) (fun _ _ q _ => q))
  have invX27 : ∀ y0 y1 y2 y3 y4, YX27 y0 y1 y2 y3 y4 → b_shared_27 YX27 Q2 y0 y1 y2 y3 y4 := by
    intro y0 y1 y2 y3 y4 h
    rw [eYX27] at h
    exact h (fun w0 w1 w2 w3 w4 => b_shared_27 YX27 Q2 w0 w1 w2 w3 w4) (fun _ _ _ _ _ h => ab_shared_27 h h (fun _ _ _ _ _ y _ => foldX27 _ _ _ _ _ y) (fun _ _ q _ => q))
  have g2 := h2 YX27 foldX27
  have g1 := h1 (fun w0 w1 w2 w3 w4 => YX27 w0 w1 w2 w3 w4 → X27 w0 w1 w2 w3 w4) (fun _ _ _ _ _ h y => HX27 _ _ _ _ _ (ab_shared_27 h (invX27 _ _ _ _ _ y) (fun _ _ _ _ _ f y => f y) kq))
  have kX27 : ∀ y0 y1 y2 y3 y4, (YX27 y0 y1 y2 y3 y4 → X27 y0 y1 y2 y3 y4) → YX27 y0 y1 y2 y3 y4 → X27 y0 y1 y2 y3 y4 := fun _ _ _ _ _ f y => f y
  exact ⟨g1.1, ⟨(fun c0 => (ab_shared_20 (g1.2.1 c0) (g2.2.1 c0) kX27 kq)), (fun c0 => ⟨(g1.2.2 c0).1, ⟨(fun c1 => (kX27 _ _ _ _ _ ((g1.2.2 c0).2.1 c1) ((g2.2.2 c0).2.1 c1))), (fun c1 => (ab_shared_20 ((g1.2.2 c0).2.2 c1) ((g2.2.2 c0).2.2 c1) kX27 kq))⟩⟩)⟩⟩
theorem ab_common_26  {Q1 Q2 Q : Int32 → VS → Prop} {k0 : Int32} {σ : VS} (h1 : b_common_26  Q1 k0 σ) (h2 : b_common_26  Q2 k0 σ)  (kq : (∀ (z0 : Int32) (z1 : VS), Q1 z0 z1 → Q2 z0 z1 → Q z0 z1)) : b_common_26  Q k0 σ := by
  unfold b_common_26 at h1 h2 ⊢
  exact (kq _ _ h1 h2)
theorem ab_common_25  {Q1 Q2 Q : Int32 → VS → Prop} {σ : VS} (h1 : b_common_25  Q1 σ) (h2 : b_common_25  Q2 σ)  (kq : (∀ (z0 : Int32) (z1 : VS), Q1 z0 z1 → Q2 z0 z1 → Q z0 z1)) : b_common_25  Q σ := by
  unfold b_common_25 at h1 h2 ⊢
  exact (ab_common_26 h1 h2 kq)
theorem am_common {Q1 Q2 Q : Int32 → VS → Prop} {p1 : Int32} {p2 : Int32} {σ : VS} (h1 : wp_common Q1 p1 p2 σ) (h2 : wp_common Q2 p1 p2 σ) (kq : (∀ (z0 : Int32) (z1 : VS), Q1 z0 z1 → Q2 z0 z1 → Q z0 z1)) : wp_common Q p1 p2 σ := by
  unfold wp_common at h1 h2 ⊢
  exact (am_isCell h1 h2 (fun _ _ u0 v0 => ⟨(fun c1 => (ab_common_25 (u0.1 c1) (v0.1 c1) kq)), (fun c1 => (am_isCell (u0.2 c1) (v0.2 c1) (fun _ _ u2 v2 => ⟨(fun c3 => (ab_common_25 (u2.1 c3) (v2.1 c3) kq)), (fun c3 => (am_shared (u2.2 c3) (v2.2 c3) (fun _ _ u4 v4 => (ab_common_26 u4 v4 kq))))⟩)))⟩))
theorem ab_X0hasOrRoot_18  {Q1 Q2 Q : Int32 → VS → Prop} {k0 : Int32} {σ : VS} (h1 : b_X0hasOrRoot_18  Q1 k0 σ) (h2 : b_X0hasOrRoot_18  Q2 k0 σ)  (kq : (∀ (z0 : Int32) (z1 : VS), Q1 z0 z1 → Q2 z0 z1 → Q z0 z1)) : b_X0hasOrRoot_18  Q k0 σ := by
  unfold b_X0hasOrRoot_18 at h1 h2 ⊢
  exact ⟨h1.1, (kq _ _ h1.2 h2.2)⟩
theorem ab_X0hasOrRoot_17  {Q1 Q2 Q : Int32 → VS → Prop} {σ : VS} (h1 : b_X0hasOrRoot_17  Q1 σ) (h2 : b_X0hasOrRoot_17  Q2 σ)  (kq : (∀ (z0 : Int32) (z1 : VS), Q1 z0 z1 → Q2 z0 z1 → Q z0 z1)) : b_X0hasOrRoot_17  Q σ := by
  unfold b_X0hasOrRoot_17 at h1 h2 ⊢
  exact (ab_X0hasOrRoot_18 h1 h2 kq)
theorem am_X0hasOrRoot {Q1 Q2 Q : Int32 → VS → Prop} {p1 : Int32} {σ : VS} (h1 : wp_X0hasOrRoot Q1 p1 σ) (h2 : wp_X0hasOrRoot Q2 p1 σ) (kq : (∀ (z0 : Int32) (z1 : VS), Q1 z0 z1 → Q2 z0 z1 → Q z0 z1)) : wp_X0hasOrRoot Q p1 σ := by
  unfold wp_X0hasOrRoot at h1 h2 ⊢
  exact ⟨(fun c0 => (ab_X0hasOrRoot_17 (h1.1 c0) (h2.1 c0) kq)), (fun c0 => ⟨(fun c1 => (ab_X0hasOrRoot_17 ((h1.2 c0).1 c1) ((h2.2 c0).1 c1) kq)), (fun c1 => (ab_X0hasOrRoot_18 ((h1.2 c0).2 c1) ((h2.2 c0).2 c1) kq))⟩)⟩
theorem ab_X0earlyOf_14  {Q1 Q2 Q : Int32 → VS → Prop} {k0 : Int32} {σ : VS} (h1 : b_X0earlyOf_14  Q1 k0 σ) (h2 : b_X0earlyOf_14  Q2 k0 σ)  (kq : (∀ (z0 : Int32) (z1 : VS), Q1 z0 z1 → Q2 z0 z1 → Q z0 z1)) : b_X0earlyOf_14  Q k0 σ := by
  unfold b_X0earlyOf_14 at h1 h2 ⊢
  exact (kq _ _ h1 h2)
theorem am_X0earlyOf {Q1 Q2 Q : Int32 → VS → Prop} {p1 : Int32} {σ : VS} (h1 : wp_X0earlyOf Q1 p1 σ) (h2 : wp_X0earlyOf Q2 p1 σ) (kq : (∀ (z0 : Int32) (z1 : VS), Q1 z0 z1 → Q2 z0 z1 → Q z0 z1)) : wp_X0earlyOf Q p1 σ := by
  unfold wp_X0earlyOf at h1 h2 ⊢
  exact ⟨(fun c0 => ⟨(h1.1 c0).1, (ab_X0earlyOf_14 (h1.1 c0).2 (h2.1 c0).2 kq)⟩), (fun c0 => (ab_X0earlyOf_14 (h1.2 c0) (h2.2 c0) kq))⟩
theorem ab_X0lateOf_14  {Q1 Q2 Q : Int32 → VS → Prop} {k0 : Int32} {σ : VS} (h1 : b_X0lateOf_14  Q1 k0 σ) (h2 : b_X0lateOf_14  Q2 k0 σ)  (kq : (∀ (z0 : Int32) (z1 : VS), Q1 z0 z1 → Q2 z0 z1 → Q z0 z1)) : b_X0lateOf_14  Q k0 σ := by
  unfold b_X0lateOf_14 at h1 h2 ⊢
  exact (kq _ _ h1 h2)
theorem am_X0lateOf {Q1 Q2 Q : Int32 → VS → Prop} {p1 : Int32} {σ : VS} (h1 : wp_X0lateOf Q1 p1 σ) (h2 : wp_X0lateOf Q2 p1 σ) (kq : (∀ (z0 : Int32) (z1 : VS), Q1 z0 z1 → Q2 z0 z1 → Q z0 z1)) : wp_X0lateOf Q p1 σ := by
  unfold wp_X0lateOf at h1 h2 ⊢
  exact ⟨(fun c0 => ⟨(h1.1 c0).1, (ab_X0lateOf_14 (h1.1 c0).2 (h2.1 c0).2 kq)⟩), (fun c0 => (ab_X0lateOf_14 (h1.2 c0) (h2.2 c0) kq))⟩
theorem ab_X0sharedOf_73 {X8a X8b X8 : Int32 → Int32 → Int32 → VS → Prop} {Q1 Q2 Q : Int32 → VS → Prop} {k0 : Int32} {σ : VS} (h1 : b_X0sharedOf_73 X8a Q1 k0 σ) (h2 : b_X0sharedOf_73 X8b Q2 k0 σ) (kX8 : (∀ (z0 : Int32) (z1 : Int32) (z2 : Int32) (z3 : VS), X8a z0 z1 z2 z3 → X8b z0 z1 z2 z3 → X8 z0 z1 z2 z3)) (kq : (∀ (z0 : Int32) (z1 : VS), Q1 z0 z1 → Q2 z0 z1 → Q z0 z1)) : b_X0sharedOf_73 X8 Q k0 σ := by
  unfold b_X0sharedOf_73 at h1 h2 ⊢
  exact (kq _ _ h1 h2)
theorem ab_X0sharedOf_52 {X8a X8b X8 : Int32 → Int32 → Int32 → VS → Prop} {Q1 Q2 Q : Int32 → VS → Prop} {l3 : Int32} {σ : VS} (h1 : b_X0sharedOf_52 X8a Q1 l3 σ) (h2 : b_X0sharedOf_52 X8b Q2 l3 σ) (kX8 : (∀ (z0 : Int32) (z1 : Int32) (z2 : Int32) (z3 : VS), X8a z0 z1 z2 z3 → X8b z0 z1 z2 z3 → X8 z0 z1 z2 z3)) (kq : (∀ (z0 : Int32) (z1 : VS), Q1 z0 z1 → Q2 z0 z1 → Q z0 z1)) : b_X0sharedOf_52 X8 Q l3 σ := by
  unfold b_X0sharedOf_52 at h1 h2 ⊢
  exact ⟨(fun c0 => ⟨(h1.1 c0).1, ⟨(h1.1 c0).2.1, (ab_X0sharedOf_73 (h1.1 c0).2.2 (h2.1 c0).2.2 kX8 kq)⟩⟩), (fun c0 => (ab_X0sharedOf_73 (h1.2 c0) (h2.2 c0) kX8 kq))⟩
theorem ab_X0sharedOf_46 {X8a X8b X8 : Int32 → Int32 → Int32 → VS → Prop} {Q1 Q2 Q : Int32 → VS → Prop} {l3 : Int32} {l4 : Int32} {l5 : Int32} {σ : VS} (h1 : b_X0sharedOf_46 X8a Q1 l3 l4 l5 σ) (h2 : b_X0sharedOf_46 X8b Q2 l3 l4 l5 σ) (kX8 : (∀ (z0 : Int32) (z1 : Int32) (z2 : Int32) (z3 : VS), X8a z0 z1 z2 z3 → X8b z0 z1 z2 z3 → X8 z0 z1 z2 z3)) (kq : (∀ (z0 : Int32) (z1 : VS), Q1 z0 z1 → Q2 z0 z1 → Q z0 z1)) : b_X0sharedOf_46 X8 Q l3 l4 l5 σ := by
  unfold b_X0sharedOf_46 at h1 h2 ⊢
  exact (kX8 _ _ _ _ h1 h2)
theorem ab_X0sharedOf_8 {X8a X8b X8 : Int32 → Int32 → Int32 → VS → Prop} {Q1 Q2 Q : Int32 → VS → Prop} {l3 : Int32} {l4 : Int32} {l5 : Int32} {σ : VS} (h1 : b_X0sharedOf_8 X8a Q1 l3 l4 l5 σ) (h2 : b_X0sharedOf_8 X8b Q2 l3 l4 l5 σ) (kX8 : (∀ (z0 : Int32) (z1 : Int32) (z2 : Int32) (z3 : VS), X8a z0 z1 z2 z3 → X8b z0 z1 z2 z3 → X8 z0 z1 z2 z3)) (kq : (∀ (z0 : Int32) (z1 : VS), Q1 z0 z1 → Q2 z0 z1 → Q z0 z1)) : b_X0sharedOf_8 X8 Q l3 l4 l5 σ := by
  unfold b_X0sharedOf_8 at h1 h2 ⊢
  exact ⟨(fun c0 => (ab_X0sharedOf_52 (h1.1 c0) (h2.1 c0) kX8 kq)), (fun c0 => ⟨(fun c1 => (ab_X0sharedOf_52 ((h1.2 c0).1 c1) ((h2.2 c0).1 c1) kX8 kq)), (fun c1 => ⟨(fun c2 => ⟨(((h1.2 c0).2 c1).1 c2).1, (fun c3 => (fun c4 => (ab_X0sharedOf_46 (((((h1.2 c0).2 c1).1 c2).2 c3) c4) (((((h2.2 c0).2 c1).1 c2).2 c3) c4) kX8 kq)))⟩), (fun c2 => ⟨(((h1.2 c0).2 c1).2 c2).1, (fun c3 => (fun c4 => (ab_X0sharedOf_46 (((((h1.2 c0).2 c1).2 c2).2 c3) c4) (((((h2.2 c0).2 c1).2 c2).2 c3) c4) kX8 kq)))⟩)⟩)⟩)⟩
theorem am_X0sharedOf {Q1 Q2 Q : Int32 → VS → Prop} {p1 : Int32} {p2 : Int32} {σ : VS} (h1 : wp_X0sharedOf Q1 p1 p2 σ) (h2 : wp_X0sharedOf Q2 p1 p2 σ) (kq : (∀ (z0 : Int32) (z1 : VS), Q1 z0 z1 → Q2 z0 z1 → Q z0 z1)) : wp_X0sharedOf Q p1 p2 σ := by
  unfold wp_X0sharedOf at h1 h2 ⊢
  intro X8 HX8
  obtain ⟨YX8, eYX8⟩ : ∃ Y : Int32 → Int32 → Int32 → VS → Prop, Y = fun wy0 wy1 wy2 wy3 => ∀ (X8 : Int32 → Int32 → Int32 → VS → Prop), (∀ (y0 : Int32) (y1 : Int32) (y2 : Int32) (y3 : VS), b_X0sharedOf_8 X8 Q2 y0 y1 y2 y3 → X8 y0 y1 y2 y3) → X8 wy0 wy1 wy2 wy3 := ⟨_, rfl⟩
  have foldX8 : ∀ y0 y1 y2 y3, b_X0sharedOf_8 YX8 Q2 y0 y1 y2 y3 → YX8 y0 y1 y2 y3 := by
    intro y0 y1 y2 y3 h
    rw [eYX8]
    intro ZX8 KX8
    exact KX8 _ _ _ _ (ab_X0sharedOf_8 h h (fun _ _ _ _ y _ => by rw [eYX8] at y; exact y ZX8 KX8) (fun _ _ q _ => q))
  have invX8 : ∀ y0 y1 y2 y3, YX8 y0 y1 y2 y3 → b_X0sharedOf_8 YX8 Q2 y0 y1 y2 y3 := by
    intro y0 y1 y2 y3 h
    rw [eYX8] at h
    exact h (fun w0 w1 w2 w3 => b_X0sharedOf_8 YX8 Q2 w0 w1 w2 w3) (fun _ _ _ _ h => ab_X0sharedOf_8 h h (fun _ _ _ _ y _ => foldX8 _ _ _ _ y) (fun _ _ q _ => q))
  have g2 := h2 YX8 foldX8
  have g1 := h1 (fun w0 w1 w2 w3 => YX8 w0 w1 w2 w3 → X8 w0 w1 w2 w3) (fun _ _ _ _ h y => HX8 _ _ _ _ (ab_X0sharedOf_8 h (invX8 _ _ _ _ y) (fun _ _ _ _ f y => f y) kq))
  have kX8 : ∀ y0 y1 y2 y3, (YX8 y0 y1 y2 y3 → X8 y0 y1 y2 y3) → YX8 y0 y1 y2 y3 → X8 y0 y1 y2 y3 := fun _ _ _ _ f y => f y
  exact (kX8 _ _ _ _ g1 g2)
theorem am_X0addNode {Q1 Q2 Q : Int32 → VS → Prop} {p1 : Int32} {p2 : Int32} {p3 : Int32} {σ : VS} (h1 : wp_X0addNode Q1 p1 p2 p3 σ) (h2 : wp_X0addNode Q2 p1 p2 p3 σ) (kq : (∀ (z0 : Int32) (z1 : VS), Q1 z0 z1 → Q2 z0 z1 → Q z0 z1)) : wp_X0addNode Q p1 p2 p3 σ := by
  unfold wp_X0addNode at h1 h2 ⊢
  exact (fun c0 => (fun c1 => ⟨((h1 c0) c1).1, (am_X0earlyOf ((h1 c0) c1).2 ((h2 c0) c1).2 (fun _ _ u2 v2 => ⟨u2.1, (am_X0lateOf u2.2 v2.2 (fun _ _ u3 v3 => ⟨u3.1, (kq _ _ u3.2 v3.2)⟩))⟩))⟩))
theorem ab_X1isGateKind_14  {Q1 Q2 Q : Int32 → VS → Prop} {k0 : Int32} {σ : VS} (h1 : b_X1isGateKind_14  Q1 k0 σ) (h2 : b_X1isGateKind_14  Q2 k0 σ)  (kq : (∀ (z0 : Int32) (z1 : VS), Q1 z0 z1 → Q2 z0 z1 → Q z0 z1)) : b_X1isGateKind_14  Q k0 σ := by
  unfold b_X1isGateKind_14 at h1 h2 ⊢
  exact ⟨h1.1, (kq _ _ h1.2 h2.2)⟩
theorem ab_X1isGateKind_13  {Q1 Q2 Q : Int32 → VS → Prop} {σ : VS} (h1 : b_X1isGateKind_13  Q1 σ) (h2 : b_X1isGateKind_13  Q2 σ)  (kq : (∀ (z0 : Int32) (z1 : VS), Q1 z0 z1 → Q2 z0 z1 → Q z0 z1)) : b_X1isGateKind_13  Q σ := by
  unfold b_X1isGateKind_13 at h1 h2 ⊢
  exact (ab_X1isGateKind_14 h1 h2 kq)
theorem am_X1isGateKind {Q1 Q2 Q : Int32 → VS → Prop} {p1 : Int32} {σ : VS} (h1 : wp_X1isGateKind Q1 p1 σ) (h2 : wp_X1isGateKind Q2 p1 σ) (kq : (∀ (z0 : Int32) (z1 : VS), Q1 z0 z1 → Q2 z0 z1 → Q z0 z1)) : wp_X1isGateKind Q p1 σ := by
  unfold wp_X1isGateKind at h1 h2 ⊢
  exact ⟨(fun c0 => (ab_X1isGateKind_13 (h1.1 c0) (h2.1 c0) kq)), (fun c0 => ⟨(fun c1 => (ab_X1isGateKind_13 ((h1.2 c0).1 c1) ((h2.2 c0).1 c1) kq)), (fun c1 => (ab_X1isGateKind_14 ((h1.2 c0).2 c1) ((h2.2 c0).2 c1) kq))⟩)⟩
theorem ab_X1has_17  {Q1 Q2 Q : Int32 → VS → Prop} {k0 : Int32} {σ : VS} (h1 : b_X1has_17  Q1 k0 σ) (h2 : b_X1has_17  Q2 k0 σ)  (kq : (∀ (z0 : Int32) (z1 : VS), Q1 z0 z1 → Q2 z0 z1 → Q z0 z1)) : b_X1has_17  Q k0 σ := by
  unfold b_X1has_17 at h1 h2 ⊢
  exact ⟨h1.1, (kq _ _ h1.2 h2.2)⟩
theorem ab_X1has_16  {Q1 Q2 Q : Int32 → VS → Prop} {σ : VS} (h1 : b_X1has_16  Q1 σ) (h2 : b_X1has_16  Q2 σ)  (kq : (∀ (z0 : Int32) (z1 : VS), Q1 z0 z1 → Q2 z0 z1 → Q z0 z1)) : b_X1has_16  Q σ := by
  unfold b_X1has_16 at h1 h2 ⊢
  exact (ab_X1has_17 h1 h2 kq)
theorem am_X1has {Q1 Q2 Q : Int32 → VS → Prop} {p1 : Int32} {σ : VS} (h1 : wp_X1has Q1 p1 σ) (h2 : wp_X1has Q2 p1 σ) (kq : (∀ (z0 : Int32) (z1 : VS), Q1 z0 z1 → Q2 z0 z1 → Q z0 z1)) : wp_X1has Q p1 σ := by
  unfold wp_X1has at h1 h2 ⊢
  exact ⟨(fun c0 => (ab_X1has_16 (h1.1 c0) (h2.1 c0) kq)), (fun c0 => ⟨(fun c1 => (ab_X1has_16 ((h1.2 c0).1 c1) ((h2.2 c0).1 c1) kq)), (fun c1 => (ab_X1has_17 ((h1.2 c0).2 c1) ((h2.2 c0).2 c1) kq))⟩)⟩
theorem ab_X1hasInput_27  {Q1 Q2 Q : Int32 → VS → Prop} {k0 : Int32} {σ : VS} (h1 : b_X1hasInput_27  Q1 k0 σ) (h2 : b_X1hasInput_27  Q2 k0 σ)  (kq : (∀ (z0 : Int32) (z1 : VS), Q1 z0 z1 → Q2 z0 z1 → Q z0 z1)) : b_X1hasInput_27  Q k0 σ := by
  unfold b_X1hasInput_27 at h1 h2 ⊢
  exact ⟨h1.1, (kq _ _ h1.2 h2.2)⟩
theorem ab_X1hasInput_26  {Q1 Q2 Q : Int32 → VS → Prop} {σ : VS} (h1 : b_X1hasInput_26  Q1 σ) (h2 : b_X1hasInput_26  Q2 σ)  (kq : (∀ (z0 : Int32) (z1 : VS), Q1 z0 z1 → Q2 z0 z1 → Q z0 z1)) : b_X1hasInput_26  Q σ := by
  unfold b_X1hasInput_26 at h1 h2 ⊢
  exact (ab_X1hasInput_27 h1 h2 kq)
theorem am_X1hasInput {Q1 Q2 Q : Int32 → VS → Prop} {p1 : Int32} {p2 : Int32} {σ : VS} (h1 : wp_X1hasInput Q1 p1 p2 σ) (h2 : wp_X1hasInput Q2 p1 p2 σ) (kq : (∀ (z0 : Int32) (z1 : VS), Q1 z0 z1 → Q2 z0 z1 → Q z0 z1)) : wp_X1hasInput Q p1 p2 σ := by
  unfold wp_X1hasInput at h1 h2 ⊢
  exact (am_X1has h1 h2 (fun _ _ u0 v0 => ⟨(fun c1 => (ab_X1hasInput_26 (u0.1 c1) (v0.1 c1) kq)), (fun c1 => ⟨(fun c2 => (ab_X1hasInput_26 ((u0.2 c1).1 c2) ((v0.2 c1).1 c2) kq)), (fun c2 => ⟨((u0.2 c1).2 c2).1, ⟨(fun c3 => (ab_X1hasInput_26 (((u0.2 c1).2 c2).2.1 c3) (((v0.2 c1).2 c2).2.1 c3) kq)), (fun c3 => (ab_X1hasInput_27 (((u0.2 c1).2 c2).2.2 c3) (((v0.2 c1).2 c2).2.2 c3) kq))⟩⟩)⟩)⟩))
theorem am_X1isGate {Q1 Q2 Q : Int32 → VS → Prop} {p1 : Int32} {σ : VS} (h1 : wp_X1isGate Q1 p1 σ) (h2 : wp_X1isGate Q2 p1 σ) (kq : (∀ (z0 : Int32) (z1 : VS), Q1 z0 z1 → Q2 z0 z1 → Q z0 z1)) : wp_X1isGate Q p1 σ := by
  unfold wp_X1isGate at h1 h2 ⊢
  exact ⟨h1.1, (am_X1isGateKind h1.2 h2.2 (fun _ _ u0 v0 => ⟨u0.1, (kq _ _ u0.2 v0.2)⟩))⟩
theorem ab_X1isTarget_25  {Q1 Q2 Q : Int32 → VS → Prop} {k0 : Int32} {σ : VS} (h1 : b_X1isTarget_25  Q1 k0 σ) (h2 : b_X1isTarget_25  Q2 k0 σ)  (kq : (∀ (z0 : Int32) (z1 : VS), Q1 z0 z1 → Q2 z0 z1 → Q z0 z1)) : b_X1isTarget_25  Q k0 σ := by
  unfold b_X1isTarget_25 at h1 h2 ⊢
  exact ⟨h1.1, (kq _ _ h1.2 h2.2)⟩
theorem ab_X1isTarget_20  {Q1 Q2 Q : Int32 → VS → Prop} {σ : VS} (h1 : b_X1isTarget_20  Q1 σ) (h2 : b_X1isTarget_20  Q2 σ)  (kq : (∀ (z0 : Int32) (z1 : VS), Q1 z0 z1 → Q2 z0 z1 → Q z0 z1)) : b_X1isTarget_20  Q σ := by
  unfold b_X1isTarget_20 at h1 h2 ⊢
  exact (ab_X1isTarget_25 h1 h2 kq)
theorem am_X1isTarget {Q1 Q2 Q : Int32 → VS → Prop} {p1 : Int32} {σ : VS} (h1 : wp_X1isTarget Q1 p1 σ) (h2 : wp_X1isTarget Q2 p1 σ) (kq : (∀ (z0 : Int32) (z1 : VS), Q1 z0 z1 → Q2 z0 z1 → Q z0 z1)) : wp_X1isTarget Q p1 σ := by
  unfold wp_X1isTarget at h1 h2 ⊢
  exact ⟨h1.1, ⟨(fun c0 => (ab_X1isTarget_20 (h1.2.1 c0) (h2.2.1 c0) kq)), (fun c0 => ⟨(h1.2.2 c0).1, ⟨(fun c1 => (ab_X1isTarget_25 ((h1.2.2 c0).2.1 c1) ((h2.2.2 c0).2.1 c1) kq)), (fun c1 => (ab_X1isTarget_20 ((h1.2.2 c0).2.2 c1) ((h2.2.2 c0).2.2 c1) kq))⟩⟩)⟩⟩
theorem ab_X1wouldRing_124 {X20a X20b X20 : Int32 → Int32 → Int32 → VS → Prop} {X52a X52b X52 : Int32 → Int32 → VS → Prop} {X74a X74b X74 : Int32 → Int32 → Int32 → Int32 → VS → Prop} {Q1 Q2 Q : Int32 → VS → Prop} {l1 : Int32} {l3 : Int32} {l4 : Int32} {l5 : Int32} {σ : VS} (h1 : b_X1wouldRing_124 X20a X52a X74a Q1 l1 l3 l4 l5 σ) (h2 : b_X1wouldRing_124 X20b X52b X74b Q2 l1 l3 l4 l5 σ) (kX20 : (∀ (z0 : Int32) (z1 : Int32) (z2 : Int32) (z3 : VS), X20a z0 z1 z2 z3 → X20b z0 z1 z2 z3 → X20 z0 z1 z2 z3)) (kX52 : (∀ (z0 : Int32) (z1 : Int32) (z2 : VS), X52a z0 z1 z2 → X52b z0 z1 z2 → X52 z0 z1 z2)) (kX74 : (∀ (z0 : Int32) (z1 : Int32) (z2 : Int32) (z3 : Int32) (z4 : VS), X74a z0 z1 z2 z3 z4 → X74b z0 z1 z2 z3 z4 → X74 z0 z1 z2 z3 z4)) (kq : (∀ (z0 : Int32) (z1 : VS), Q1 z0 z1 → Q2 z0 z1 → Q z0 z1)) : b_X1wouldRing_124 X20 X52 X74 Q l1 l3 l4 l5 σ := by
  unfold b_X1wouldRing_124 at h1 h2 ⊢
  exact (kX74 _ _ _ _ _ h1 h2)
theorem ab_X1wouldRing_74 {X20a X20b X20 : Int32 → Int32 → Int32 → VS → Prop} {X52a X52b X52 : Int32 → Int32 → VS → Prop} {X74a X74b X74 : Int32 → Int32 → Int32 → Int32 → VS → Prop} {Q1 Q2 Q : Int32 → VS → Prop} {l1 : Int32} {l3 : Int32} {l4 : Int32} {l5 : Int32} {σ : VS} (h1 : b_X1wouldRing_74 X20a X52a X74a Q1 l1 l3 l4 l5 σ) (h2 : b_X1wouldRing_74 X20b X52b X74b Q2 l1 l3 l4 l5 σ) (kX20 : (∀ (z0 : Int32) (z1 : Int32) (z2 : Int32) (z3 : VS), X20a z0 z1 z2 z3 → X20b z0 z1 z2 z3 → X20 z0 z1 z2 z3)) (kX52 : (∀ (z0 : Int32) (z1 : Int32) (z2 : VS), X52a z0 z1 z2 → X52b z0 z1 z2 → X52 z0 z1 z2)) (kX74 : (∀ (z0 : Int32) (z1 : Int32) (z2 : Int32) (z3 : Int32) (z4 : VS), X74a z0 z1 z2 z3 z4 → X74b z0 z1 z2 z3 z4 → X74 z0 z1 z2 z3 z4)) (kq : (∀ (z0 : Int32) (z1 : VS), Q1 z0 z1 → Q2 z0 z1 → Q z0 z1)) : b_X1wouldRing_74 X20 X52 X74 Q l1 l3 l4 l5 σ := by
  unfold b_X1wouldRing_74 at h1 h2 ⊢
  exact ⟨h1.1, ⟨(fun c0 => (kX52 _ _ _ (h1.2.1 c0) (h2.2.1 c0))), (fun c0 => ⟨(h1.2.2 c0).1, ⟨(fun c1 => (ab_X1wouldRing_124 ((h1.2.2 c0).2.1 c1) ((h2.2.2 c0).2.1 c1) kX20 kX52 kX74 kq)), (fun c1 => ⟨((h1.2.2 c0).2.2 c1).1, ⟨((h1.2.2 c0).2.2 c1).2.1, ⟨(fun c2 => (ab_X1wouldRing_124 (((h1.2.2 c0).2.2 c1).2.2.1 c2) (((h2.2.2 c0).2.2 c1).2.2.1 c2) kX20 kX52 kX74 kq)), (fun c2 => ⟨(((h1.2.2 c0).2.2 c1).2.2.2 c2).1, (ab_X1wouldRing_124 (((h1.2.2 c0).2.2 c1).2.2.2 c2).2 (((h2.2.2 c0).2.2 c1).2.2.2 c2).2 kX20 kX52 kX74 kq)⟩)⟩⟩⟩)⟩⟩)⟩⟩
theorem ab_X1wouldRing_52 {X20a X20b X20 : Int32 → Int32 → Int32 → VS → Prop} {X52a X52b X52 : Int32 → Int32 → VS → Prop} {X74a X74b X74 : Int32 → Int32 → Int32 → Int32 → VS → Prop} {Q1 Q2 Q : Int32 → VS → Prop} {l1 : Int32} {l3 : Int32} {σ : VS} (h1 : b_X1wouldRing_52 X20a X52a X74a Q1 l1 l3 σ) (h2 : b_X1wouldRing_52 X20b X52b X74b Q2 l1 l3 σ) (kX20 : (∀ (z0 : Int32) (z1 : Int32) (z2 : Int32) (z3 : VS), X20a z0 z1 z2 z3 → X20b z0 z1 z2 z3 → X20 z0 z1 z2 z3)) (kX52 : (∀ (z0 : Int32) (z1 : Int32) (z2 : VS), X52a z0 z1 z2 → X52b z0 z1 z2 → X52 z0 z1 z2)) (kX74 : (∀ (z0 : Int32) (z1 : Int32) (z2 : Int32) (z3 : Int32) (z4 : VS), X74a z0 z1 z2 z3 z4 → X74b z0 z1 z2 z3 z4 → X74 z0 z1 z2 z3 z4)) (kq : (∀ (z0 : Int32) (z1 : VS), Q1 z0 z1 → Q2 z0 z1 → Q z0 z1)) : b_X1wouldRing_52 X20 X52 X74 Q l1 l3 σ := by
  unfold b_X1wouldRing_52 at h1 h2 ⊢
  exact ⟨(fun c0 => ⟨(h1.1 c0).1, ⟨(h1.1 c0).2.1, (kq _ _ (h1.1 c0).2.2 (h2.1 c0).2.2)⟩⟩), (fun c0 => ⟨(h1.2 c0).1, (fun c1 => (fun c2 => (fun c3 => (fun c4 => (kX74 _ _ _ _ _ (((((h1.2 c0).2 c1) c2) c3) c4) (((((h2.2 c0).2 c1) c2) c3) c4))))))⟩)⟩
theorem ab_X1wouldRing_43 {X20a X20b X20 : Int32 → Int32 → Int32 → VS → Prop} {X52a X52b X52 : Int32 → Int32 → VS → Prop} {X74a X74b X74 : Int32 → Int32 → Int32 → Int32 → VS → Prop} {Q1 Q2 Q : Int32 → VS → Prop} {l1 : Int32} {l2 : Int32} {l3 : Int32} {k0 : Int32} {k1 : Int32} {σ : VS} (h1 : b_X1wouldRing_43 X20a X52a X74a Q1 l1 l2 l3 k0 k1 σ) (h2 : b_X1wouldRing_43 X20b X52b X74b Q2 l1 l2 l3 k0 k1 σ) (kX20 : (∀ (z0 : Int32) (z1 : Int32) (z2 : Int32) (z3 : VS), X20a z0 z1 z2 z3 → X20b z0 z1 z2 z3 → X20 z0 z1 z2 z3)) (kX52 : (∀ (z0 : Int32) (z1 : Int32) (z2 : VS), X52a z0 z1 z2 → X52b z0 z1 z2 → X52 z0 z1 z2)) (kX74 : (∀ (z0 : Int32) (z1 : Int32) (z2 : Int32) (z3 : Int32) (z4 : VS), X74a z0 z1 z2 z3 z4 → X74b z0 z1 z2 z3 z4 → X74 z0 z1 z2 z3 z4)) (kq : (∀ (z0 : Int32) (z1 : VS), Q1 z0 z1 → Q2 z0 z1 → Q z0 z1)) : b_X1wouldRing_43 X20 X52 X74 Q l1 l2 l3 k0 k1 σ := by
  unfold b_X1wouldRing_43 at h1 h2 ⊢
  exact ⟨h1.1, ⟨h1.2.1, (kX20 _ _ _ _ h1.2.2 h2.2.2)⟩⟩
theorem ab_X1wouldRing_20 {X20a X20b X20 : Int32 → Int32 → Int32 → VS → Prop} {X52a X52b X52 : Int32 → Int32 → VS → Prop} {X74a X74b X74 : Int32 → Int32 → Int32 → Int32 → VS → Prop} {Q1 Q2 Q : Int32 → VS → Prop} {l1 : Int32} {l2 : Int32} {l3 : Int32} {σ : VS} (h1 : b_X1wouldRing_20 X20a X52a X74a Q1 l1 l2 l3 σ) (h2 : b_X1wouldRing_20 X20b X52b X74b Q2 l1 l2 l3 σ) (kX20 : (∀ (z0 : Int32) (z1 : Int32) (z2 : Int32) (z3 : VS), X20a z0 z1 z2 z3 → X20b z0 z1 z2 z3 → X20 z0 z1 z2 z3)) (kX52 : (∀ (z0 : Int32) (z1 : Int32) (z2 : VS), X52a z0 z1 z2 → X52b z0 z1 z2 → X52 z0 z1 z2)) (kX74 : (∀ (z0 : Int32) (z1 : Int32) (z2 : Int32) (z3 : Int32) (z4 : VS), X74a z0 z1 z2 z3 z4 → X74b z0 z1 z2 z3 z4 → X74 z0 z1 z2 z3 z4)) (kq : (∀ (z0 : Int32) (z1 : VS), Q1 z0 z1 → Q2 z0 z1 → Q z0 z1)) : b_X1wouldRing_20 X20 X52 X74 Q l1 l2 l3 σ := by
  unfold b_X1wouldRing_20 at h1 h2 ⊢
  exact ⟨(fun c0 => (kX52 _ _ _ (h1.1 c0) (h2.1 c0))), (fun c0 => ⟨(fun c1 => (ab_X1wouldRing_43 ((h1.2 c0).1 c1) ((h2.2 c0).1 c1) kX20 kX52 kX74 kq)), (fun c1 => (ab_X1wouldRing_43 ((h1.2 c0).2 c1) ((h2.2 c0).2 c1) kX20 kX52 kX74 kq))⟩)⟩
theorem ab_X1wouldRing_16 {X20a X20b X20 : Int32 → Int32 → Int32 → VS → Prop} {X52a X52b X52 : Int32 → Int32 → VS → Prop} {X74a X74b X74 : Int32 → Int32 → Int32 → Int32 → VS → Prop} {Q1 Q2 Q : Int32 → VS → Prop} {σ : VS} (h1 : b_X1wouldRing_16 X20a X52a X74a Q1 σ) (h2 : b_X1wouldRing_16 X20b X52b X74b Q2 σ) (kX20 : (∀ (z0 : Int32) (z1 : Int32) (z2 : Int32) (z3 : VS), X20a z0 z1 z2 z3 → X20b z0 z1 z2 z3 → X20 z0 z1 z2 z3)) (kX52 : (∀ (z0 : Int32) (z1 : Int32) (z2 : VS), X52a z0 z1 z2 → X52b z0 z1 z2 → X52 z0 z1 z2)) (kX74 : (∀ (z0 : Int32) (z1 : Int32) (z2 : Int32) (z3 : Int32) (z4 : VS), X74a z0 z1 z2 z3 z4 → X74b z0 z1 z2 z3 z4 → X74 z0 z1 z2 z3 z4)) (kq : (∀ (z0 : Int32) (z1 : VS), Q1 z0 z1 → Q2 z0 z1 → Q z0 z1)) : b_X1wouldRing_16 X20 X52 X74 Q σ := by
  unfold b_X1wouldRing_16 at h1 h2 ⊢
  exact (kq _ _ h1 h2)
theorem am_X1wouldRing {Q1 Q2 Q : Int32 → VS → Prop} {p1 : Int32} {p2 : Int32} {σ : VS} (h1 : wp_X1wouldRing Q1 p1 p2 σ) (h2 : wp_X1wouldRing Q2 p1 p2 σ) (kq : (∀ (z0 : Int32) (z1 : VS), Q1 z0 z1 → Q2 z0 z1 → Q z0 z1)) : wp_X1wouldRing Q p1 p2 σ := by
  unfold wp_X1wouldRing at h1 h2 ⊢
  intro X20 X52 X74 HX20 HX52 HX74
  obtain ⟨YX20, eYX20⟩ : ∃ Y : Int32 → Int32 → Int32 → VS → Prop, Y = fun wy0 wy1 wy2 wy3 => ∀ (X20 : Int32 → Int32 → Int32 → VS → Prop) (X52 : Int32 → Int32 → VS → Prop) (X74 : Int32 → Int32 → Int32 → Int32 → VS → Prop), (∀ (y0 : Int32) (y1 : Int32) (y2 : Int32) (y3 : VS), b_X1wouldRing_20 X20 X52 X74 Q2 y0 y1 y2 y3 → X20 y0 y1 y2 y3) → (∀ (y0 : Int32) (y1 : Int32) (y2 : VS), b_X1wouldRing_52 X20 X52 X74 Q2 y0 y1 y2 → X52 y0 y1 y2) → (∀ (y0 : Int32) (y1 : Int32) (y2 : Int32) (y3 : Int32) (y4 : VS), b_X1wouldRing_74 X20 X52 X74 Q2 y0 y1 y2 y3 y4 → X74 y0 y1 y2 y3 y4) → X20 wy0 wy1 wy2 wy3 := ⟨_, rfl⟩
  obtain ⟨YX52, eYX52⟩ : ∃ Y : Int32 → Int32 → VS → Prop, Y = fun wy0 wy1 wy2 => ∀ (X20 : Int32 → Int32 → Int32 → VS → Prop) (X52 : Int32 → Int32 → VS → Prop) (X74 : Int32 → Int32 → Int32 → Int32 → VS → Prop), (∀ (y0 : Int32) (y1 : Int32) (y2 : Int32) (y3 : VS), b_X1wouldRing_20 X20 X52 X74 Q2 y0 y1 y2 y3 → X20 y0 y1 y2 y3) → (∀ (y0 : Int32) (y1 : Int32) (y2 : VS), b_X1wouldRing_52 X20 X52 X74 Q2 y0 y1 y2 → X52 y0 y1 y2) → (∀ (y0 : Int32) (y1 : Int32) (y2 : Int32) (y3 : Int32) (y4 : VS), b_X1wouldRing_74 X20 X52 X74 Q2 y0 y1 y2 y3 y4 → X74 y0 y1 y2 y3 y4) → X52 wy0 wy1 wy2 := ⟨_, rfl⟩
  obtain ⟨YX74, eYX74⟩ : ∃ Y : Int32 → Int32 → Int32 → Int32 → VS → Prop, Y = fun wy0 wy1 wy2 wy3 wy4 => ∀ (X20 : Int32 → Int32 → Int32 → VS → Prop) (X52 : Int32 → Int32 → VS → Prop) (X74 : Int32 → Int32 → Int32 → Int32 → VS → Prop), (∀ (y0 : Int32) (y1 : Int32) (y2 : Int32) (y3 : VS), b_X1wouldRing_20 X20 X52 X74 Q2 y0 y1 y2 y3 → X20 y0 y1 y2 y3) → (∀ (y0 : Int32) (y1 : Int32) (y2 : VS), b_X1wouldRing_52 X20 X52 X74 Q2 y0 y1 y2 → X52 y0 y1 y2) → (∀ (y0 : Int32) (y1 : Int32) (y2 : Int32) (y3 : Int32) (y4 : VS), b_X1wouldRing_74 X20 X52 X74 Q2 y0 y1 y2 y3 y4 → X74 y0 y1 y2 y3 y4) → X74 wy0 wy1 wy2 wy3 wy4 := ⟨_, rfl⟩
  have foldX20 : ∀ y0 y1 y2 y3, b_X1wouldRing_20 YX20 YX52 YX74 Q2 y0 y1 y2 y3 → YX20 y0 y1 y2 y3 := by
    intro y0 y1 y2 y3 h
    rw [eYX20]
    intro ZX20 ZX52 ZX74 KX20 KX52 KX74
    exact KX20 _ _ _ _ (ab_X1wouldRing_20 h h (fun _ _ _ _ y _ => by rw [eYX20] at y; exact y ZX20 ZX52 ZX74 KX20 KX52 KX74) (fun _ _ _ y _ => by rw [eYX52] at y; exact y ZX20 ZX52 ZX74 KX20 KX52 KX74) (fun _ _ _ _ _ y _ => by rw [eYX74] at y; exact y ZX20 ZX52 ZX74 KX20 KX52 KX74) (fun _ _ q _ => q))
  have foldX52 : ∀ y0 y1 y2, b_X1wouldRing_52 YX20 YX52 YX74 Q2 y0 y1 y2 → YX52 y0 y1 y2 := by
    intro y0 y1 y2 h
    rw [eYX52]
    intro ZX20 ZX52 ZX74 KX20 KX52 KX74
    exact KX52 _ _ _ (ab_X1wouldRing_52 h h (fun _ _ _ _ y _ => by rw [eYX20] at y; exact y ZX20 ZX52 ZX74 KX20 KX52 KX74) (fun _ _ _ y _ => by rw [eYX52] at y; exact y ZX20 ZX52 ZX74 KX20 KX52 KX74) (fun _ _ _ _ _ y _ => by rw [eYX74] at y; exact y ZX20 ZX52 ZX74 KX20 KX52 KX74) (fun _ _ q _ => q))
  have foldX74 : ∀ y0 y1 y2 y3 y4, b_X1wouldRing_74 YX20 YX52 YX74 Q2 y0 y1 y2 y3 y4 → YX74 y0 y1 y2 y3 y4 := by
    intro y0 y1 y2 y3 y4 h
    rw [eYX74]
    intro ZX20 ZX52 ZX74 KX20 KX52 KX74
    exact KX74 _ _ _ _ _ (ab_X1wouldRing_74 h h (fun _ _ _ _ y _ => by rw [eYX20] at y; exact y ZX20 ZX52 ZX74 KX20 KX52 KX74) (fun _ _ _ y _ => by rw [eYX52] at y; exact y ZX20 ZX52 ZX74 KX20 KX52 KX74) (fun _ _ _ _ _ y _ => by rw [eYX74] at y; exact y ZX20 ZX52 ZX74 KX20 KX52 KX74) (fun _ _ q _ => q))
  have invX20 : ∀ y0 y1 y2 y3, YX20 y0 y1 y2 y3 → b_X1wouldRing_20 YX20 YX52 YX74 Q2 y0 y1 y2 y3 := by
    intro y0 y1 y2 y3 h
    rw [eYX20] at h
    exact h (fun w0 w1 w2 w3 => b_X1wouldRing_20 YX20 YX52 YX74 Q2 w0 w1 w2 w3) (fun w0 w1 w2 => b_X1wouldRing_52 YX20 YX52 YX74 Q2 w0 w1 w2) (fun w0 w1 w2 w3 w4 => b_X1wouldRing_74 YX20 YX52 YX74 Q2 w0 w1 w2 w3 w4) (fun _ _ _ _ h => ab_X1wouldRing_20 h h (fun _ _ _ _ y _ => foldX20 _ _ _ _ y) (fun _ _ _ y _ => foldX52 _ _ _ y) (fun _ _ _ _ _ y _ => foldX74 _ _ _ _ _ y) (fun _ _ q _ => q)) (fun _ _ _ h => ab_X1wouldRing_52 h h (fun _ _ _ _ y _ => foldX20 _ _ _ _ y) (fun _ _ _ y _ => foldX52 _ _ _ y) (fun _ _ _ _ _ y _ => foldX74 _ _ _ _ _ y) (fun _ _ q _ => q)) (fun _ _ _ _ _ h => ab_X1wouldRing_74 h h (fun _ _ _ _ y _ => foldX20 _ _ _ _ y) (fun _ _ _ y _ => foldX52 _ _ _ y) (fun _ _ _ _ _ y _ => foldX74 _ _ _ _ _ y) (fun _ _ q _ => q))
  have invX52 : ∀ y0 y1 y2, YX52 y0 y1 y2 → b_X1wouldRing_52 YX20 YX52 YX74 Q2 y0 y1 y2 := by
    intro y0 y1 y2 h
    rw [eYX52] at h
    exact h (fun w0 w1 w2 w3 => b_X1wouldRing_20 YX20 YX52 YX74 Q2 w0 w1 w2 w3) (fun w0 w1 w2 => b_X1wouldRing_52 YX20 YX52 YX74 Q2 w0 w1 w2) (fun w0 w1 w2 w3 w4 => b_X1wouldRing_74 YX20 YX52 YX74 Q2 w0 w1 w2 w3 w4) (fun _ _ _ _ h => ab_X1wouldRing_20 h h (fun _ _ _ _ y _ => foldX20 _ _ _ _ y) (fun _ _ _ y _ => foldX52 _ _ _ y) (fun _ _ _ _ _ y _ => foldX74 _ _ _ _ _ y) (fun _ _ q _ => q)) (fun _ _ _ h => ab_X1wouldRing_52 h h (fun _ _ _ _ y _ => foldX20 _ _ _ _ y) (fun _ _ _ y _ => foldX52 _ _ _ y) (fun _ _ _ _ _ y _ => foldX74 _ _ _ _ _ y) (fun _ _ q _ => q)) (fun _ _ _ _ _ h => ab_X1wouldRing_74 h h (fun _ _ _ _ y _ => foldX20 _ _ _ _ y) (fun _ _ _ y _ => foldX52 _ _ _ y) (fun _ _ _ _ _ y _ => foldX74 _ _ _ _ _ y) (fun _ _ q _ => q))
  have invX74 : ∀ y0 y1 y2 y3 y4, YX74 y0 y1 y2 y3 y4 → b_X1wouldRing_74 YX20 YX52 YX74 Q2 y0 y1 y2 y3 y4 := by
    intro y0 y1 y2 y3 y4 h
    rw [eYX74] at h
    exact h (fun w0 w1 w2 w3 => b_X1wouldRing_20 YX20 YX52 YX74 Q2 w0 w1 w2 w3) (fun w0 w1 w2 => b_X1wouldRing_52 YX20 YX52 YX74 Q2 w0 w1 w2) (fun w0 w1 w2 w3 w4 => b_X1wouldRing_74 YX20 YX52 YX74 Q2 w0 w1 w2 w3 w4) (fun _ _ _ _ h => ab_X1wouldRing_20 h h (fun _ _ _ _ y _ => foldX20 _ _ _ _ y) (fun _ _ _ y _ => foldX52 _ _ _ y) (fun _ _ _ _ _ y _ => foldX74 _ _ _ _ _ y) (fun _ _ q _ => q)) (fun _ _ _ h => ab_X1wouldRing_52 h h (fun _ _ _ _ y _ => foldX20 _ _ _ _ y) (fun _ _ _ y _ => foldX52 _ _ _ y) (fun _ _ _ _ _ y _ => foldX74 _ _ _ _ _ y) (fun _ _ q _ => q)) (fun _ _ _ _ _ h => ab_X1wouldRing_74 h h (fun _ _ _ _ y _ => foldX20 _ _ _ _ y) (fun _ _ _ y _ => foldX52 _ _ _ y) (fun _ _ _ _ _ y _ => foldX74 _ _ _ _ _ y) (fun _ _ q _ => q))
  have g2 := h2 YX20 YX52 YX74 foldX20 foldX52 foldX74
  have g1 := h1 (fun w0 w1 w2 w3 => YX20 w0 w1 w2 w3 → X20 w0 w1 w2 w3) (fun w0 w1 w2 => YX52 w0 w1 w2 → X52 w0 w1 w2) (fun w0 w1 w2 w3 w4 => YX74 w0 w1 w2 w3 w4 → X74 w0 w1 w2 w3 w4) (fun _ _ _ _ h y => HX20 _ _ _ _ (ab_X1wouldRing_20 h (invX20 _ _ _ _ y) (fun _ _ _ _ f y => f y) (fun _ _ _ f y => f y) (fun _ _ _ _ _ f y => f y) kq)) (fun _ _ _ h y => HX52 _ _ _ (ab_X1wouldRing_52 h (invX52 _ _ _ y) (fun _ _ _ _ f y => f y) (fun _ _ _ f y => f y) (fun _ _ _ _ _ f y => f y) kq)) (fun _ _ _ _ _ h y => HX74 _ _ _ _ _ (ab_X1wouldRing_74 h (invX74 _ _ _ _ _ y) (fun _ _ _ _ f y => f y) (fun _ _ _ f y => f y) (fun _ _ _ _ _ f y => f y) kq))
  have kX20 : ∀ y0 y1 y2 y3, (YX20 y0 y1 y2 y3 → X20 y0 y1 y2 y3) → YX20 y0 y1 y2 y3 → X20 y0 y1 y2 y3 := fun _ _ _ _ f y => f y
  have kX52 : ∀ y0 y1 y2, (YX52 y0 y1 y2 → X52 y0 y1 y2) → YX52 y0 y1 y2 → X52 y0 y1 y2 := fun _ _ _ f y => f y
  have kX74 : ∀ y0 y1 y2 y3 y4, (YX74 y0 y1 y2 y3 y4 → X74 y0 y1 y2 y3 y4) → YX74 y0 y1 y2 y3 y4 → X74 y0 y1 y2 y3 y4 := fun _ _ _ _ _ f y => f y
  exact (am_X1isGate g1 g2 (fun _ _ u0 v0 => ⟨(fun c1 => (ab_X1wouldRing_16 (u0.1 c1) (v0.1 c1) kX20 kX52 kX74 kq)), (fun c1 => (am_X1isGate (u0.2 c1) (v0.2 c1) (fun _ _ u2 v2 => ⟨(fun c3 => (kX20 _ _ _ _ (u2.1 c3) (v2.1 c3))), (fun c3 => (ab_X1wouldRing_16 (u2.2 c3) (v2.2 c3) kX20 kX52 kX74 kq))⟩)))⟩))
theorem ab_X1gatesTakenBy_45 {X6a X6b X6 : Int32 → Int32 → Int32 → VS → Prop} {Q1 Q2 Q : Int32 → VS → Prop} {l1 : Int32} {l2 : Int32} {l3 : Int32} {σ : VS} (h1 : b_X1gatesTakenBy_45 X6a Q1 l1 l2 l3 σ) (h2 : b_X1gatesTakenBy_45 X6b Q2 l1 l2 l3 σ) (kX6 : (∀ (z0 : Int32) (z1 : Int32) (z2 : Int32) (z3 : VS), X6a z0 z1 z2 z3 → X6b z0 z1 z2 z3 → X6 z0 z1 z2 z3)) (kq : (∀ (z0 : Int32) (z1 : VS), Q1 z0 z1 → Q2 z0 z1 → Q z0 z1)) : b_X1gatesTakenBy_45 X6 Q l1 l2 l3 σ := by
  unfold b_X1gatesTakenBy_45 at h1 h2 ⊢
  exact (kX6 _ _ _ _ h1 h2)
theorem ab_X1gatesTakenBy_6 {X6a X6b X6 : Int32 → Int32 → Int32 → VS → Prop} {Q1 Q2 Q : Int32 → VS → Prop} {l1 : Int32} {l2 : Int32} {l3 : Int32} {σ : VS} (h1 : b_X1gatesTakenBy_6 X6a Q1 l1 l2 l3 σ) (h2 : b_X1gatesTakenBy_6 X6b Q2 l1 l2 l3 σ) (kX6 : (∀ (z0 : Int32) (z1 : Int32) (z2 : Int32) (z3 : VS), X6a z0 z1 z2 z3 → X6b z0 z1 z2 z3 → X6 z0 z1 z2 z3)) (kq : (∀ (z0 : Int32) (z1 : VS), Q1 z0 z1 → Q2 z0 z1 → Q z0 z1)) : b_X1gatesTakenBy_6 X6 Q l1 l2 l3 σ := by
  unfold b_X1gatesTakenBy_6 at h1 h2 ⊢
  exact ⟨h1.1, ⟨(fun c0 => (kq _ _ (h1.2.1 c0) (h2.2.1 c0))), (fun c0 => ⟨(h1.2.2 c0).1, ⟨(fun c1 => (ab_X1gatesTakenBy_45 ((h1.2.2 c0).2.1 c1) ((h2.2.2 c0).2.1 c1) kX6 kq)), (fun c1 => ⟨((h1.2.2 c0).2.2 c1).1, (am_X1isGate ((h1.2.2 c0).2.2 c1).2 ((h2.2.2 c0).2.2 c1).2 (fun _ _ u2 v2 => ⟨(fun c3 => (ab_X1gatesTakenBy_45 (u2.1 c3) (v2.1 c3) kX6 kq)), (fun c3 => (ab_X1gatesTakenBy_45 (u2.2 c3) (v2.2 c3) kX6 kq))⟩))⟩)⟩⟩)⟩⟩
theorem am_X1gatesTakenBy {Q1 Q2 Q : Int32 → VS → Prop} {p1 : Int32} {σ : VS} (h1 : wp_X1gatesTakenBy Q1 p1 σ) (h2 : wp_X1gatesTakenBy Q2 p1 σ) (kq : (∀ (z0 : Int32) (z1 : VS), Q1 z0 z1 → Q2 z0 z1 → Q z0 z1)) : wp_X1gatesTakenBy Q p1 σ := by
  unfold wp_X1gatesTakenBy at h1 h2 ⊢
  intro X6 HX6
  obtain ⟨YX6, eYX6⟩ : ∃ Y : Int32 → Int32 → Int32 → VS → Prop, Y = fun wy0 wy1 wy2 wy3 => ∀ (X6 : Int32 → Int32 → Int32 → VS → Prop), (∀ (y0 : Int32) (y1 : Int32) (y2 : Int32) (y3 : VS), b_X1gatesTakenBy_6 X6 Q2 y0 y1 y2 y3 → X6 y0 y1 y2 y3) → X6 wy0 wy1 wy2 wy3 := ⟨_, rfl⟩
  have foldX6 : ∀ y0 y1 y2 y3, b_X1gatesTakenBy_6 YX6 Q2 y0 y1 y2 y3 → YX6 y0 y1 y2 y3 := by
    intro y0 y1 y2 y3 h
    rw [eYX6]
    intro ZX6 KX6
    exact KX6 _ _ _ _ (ab_X1gatesTakenBy_6 h h (fun _ _ _ _ y _ => by rw [eYX6] at y; exact y ZX6 KX6) (fun _ _ q _ => q))
  have invX6 : ∀ y0 y1 y2 y3, YX6 y0 y1 y2 y3 → b_X1gatesTakenBy_6 YX6 Q2 y0 y1 y2 y3 := by
    intro y0 y1 y2 y3 h
    rw [eYX6] at h
    exact h (fun w0 w1 w2 w3 => b_X1gatesTakenBy_6 YX6 Q2 w0 w1 w2 w3) (fun _ _ _ _ h => ab_X1gatesTakenBy_6 h h (fun _ _ _ _ y _ => foldX6 _ _ _ _ y) (fun _ _ q _ => q))
  have g2 := h2 YX6 foldX6
  have g1 := h1 (fun w0 w1 w2 w3 => YX6 w0 w1 w2 w3 → X6 w0 w1 w2 w3) (fun _ _ _ _ h y => HX6 _ _ _ _ (ab_X1gatesTakenBy_6 h (invX6 _ _ _ _ y) (fun _ _ _ _ f y => f y) kq))
  have kX6 : ∀ y0 y1 y2 y3, (YX6 y0 y1 y2 y3 → X6 y0 y1 y2 y3) → YX6 y0 y1 y2 y3 → X6 y0 y1 y2 y3 := fun _ _ _ _ f y => f y
  exact (fun c0 => (fun c1 => (kX6 _ _ _ _ ((g1 c0) c1) ((g2 c0) c1))))
theorem ab_X1listTakers_151 {X10a X10b X10 : Int32 → VS → Prop} {X59a X59b X59 : Int32 → VS → Prop} {X108a X108b X108 : Int32 → VS → Prop} {Q1 Q2 Q : VS → Prop} {l1 : Int32} {σ : VS} (h1 : b_X1listTakers_151 X10a X59a X108a Q1 l1 σ) (h2 : b_X1listTakers_151 X10b X59b X108b Q2 l1 σ) (kX10 : (∀ (z0 : Int32) (z1 : VS), X10a z0 z1 → X10b z0 z1 → X10 z0 z1)) (kX59 : (∀ (z0 : Int32) (z1 : VS), X59a z0 z1 → X59b z0 z1 → X59 z0 z1)) (kX108 : (∀ (z0 : Int32) (z1 : VS), X108a z0 z1 → X108b z0 z1 → X108 z0 z1)) (kq : (∀ (z0 : VS), Q1 z0 → Q2 z0 → Q z0)) : b_X1listTakers_151 X10 X59 X108 Q l1 σ := by
  unfold b_X1listTakers_151 at h1 h2 ⊢
  exact (kX108 _ _ h1 h2)
theorem ab_X1listTakers_108 {X10a X10b X10 : Int32 → VS → Prop} {X59a X59b X59 : Int32 → VS → Prop} {X108a X108b X108 : Int32 → VS → Prop} {Q1 Q2 Q : VS → Prop} {l1 : Int32} {σ : VS} (h1 : b_X1listTakers_108 X10a X59a X108a Q1 l1 σ) (h2 : b_X1listTakers_108 X10b X59b X108b Q2 l1 σ) (kX10 : (∀ (z0 : Int32) (z1 : VS), X10a z0 z1 → X10b z0 z1 → X10 z0 z1)) (kX59 : (∀ (z0 : Int32) (z1 : VS), X59a z0 z1 → X59b z0 z1 → X59 z0 z1)) (kX108 : (∀ (z0 : Int32) (z1 : VS), X108a z0 z1 → X108b z0 z1 → X108 z0 z1)) (kq : (∀ (z0 : VS), Q1 z0 → Q2 z0 → Q z0)) : b_X1listTakers_108 X10 X59 X108 Q l1 σ := by
  unfold b_X1listTakers_108 at h1 h2 ⊢
  exact ⟨(fun c0 => (kq _ (h1.1 c0) (h2.1 c0))), (fun c0 => ⟨(h1.2 c0).1, (fun c1 => (fun c2 => ⟨(fun c3 => (ab_X1listTakers_151 ((((h1.2 c0).2 c1) c2).1 c3) ((((h2.2 c0).2 c1) c2).1 c3) kX10 kX59 kX108 kq)), (fun c3 => ⟨((((h1.2 c0).2 c1) c2).2 c3).1, ⟨((((h1.2 c0).2 c1) c2).2 c3).2.1, ⟨((((h1.2 c0).2 c1) c2).2 c3).2.2.1, ⟨((((h1.2 c0).2 c1) c2).2 c3).2.2.2.1, (ab_X1listTakers_151 ((((h1.2 c0).2 c1) c2).2 c3).2.2.2.2 ((((h2.2 c0).2 c1) c2).2 c3).2.2.2.2 kX10 kX59 kX108 kq)⟩⟩⟩⟩)⟩))⟩)⟩
theorem ab_X1listTakers_59 {X10a X10b X10 : Int32 → VS → Prop} {X59a X59b X59 : Int32 → VS → Prop} {X108a X108b X108 : Int32 → VS → Prop} {Q1 Q2 Q : VS → Prop} {l1 : Int32} {σ : VS} (h1 : b_X1listTakers_59 X10a X59a X108a Q1 l1 σ) (h2 : b_X1listTakers_59 X10b X59b X108b Q2 l1 σ) (kX10 : (∀ (z0 : Int32) (z1 : VS), X10a z0 z1 → X10b z0 z1 → X10 z0 z1)) (kX59 : (∀ (z0 : Int32) (z1 : VS), X59a z0 z1 → X59b z0 z1 → X59 z0 z1)) (kX108 : (∀ (z0 : Int32) (z1 : VS), X108a z0 z1 → X108b z0 z1 → X108 z0 z1)) (kq : (∀ (z0 : VS), Q1 z0 → Q2 z0 → Q z0)) : b_X1listTakers_59 X10 X59 X108 Q l1 σ := by
  unfold b_X1listTakers_59 at h1 h2 ⊢
  exact ⟨(fun c0 => (kX108 _ _ (h1.1 c0) (h2.1 c0))), (fun c0 => ⟨(h1.2 c0).1, ⟨(h1.2 c0).2.1, ⟨(h1.2 c0).2.2.1, ⟨(h1.2 c0).2.2.2.1, ⟨(h1.2 c0).2.2.2.2.1, (kX59 _ _ (h1.2 c0).2.2.2.2.2 (h2.2 c0).2.2.2.2.2)⟩⟩⟩⟩⟩)⟩
theorem ab_X1listTakers_44 {X10a X10b X10 : Int32 → VS → Prop} {X59a X59b X59 : Int32 → VS → Prop} {X108a X108b X108 : Int32 → VS → Prop} {Q1 Q2 Q : VS → Prop} {l1 : Int32} {σ : VS} (h1 : b_X1listTakers_44 X10a X59a X108a Q1 l1 σ) (h2 : b_X1listTakers_44 X10b X59b X108b Q2 l1 σ) (kX10 : (∀ (z0 : Int32) (z1 : VS), X10a z0 z1 → X10b z0 z1 → X10 z0 z1)) (kX59 : (∀ (z0 : Int32) (z1 : VS), X59a z0 z1 → X59b z0 z1 → X59 z0 z1)) (kX108 : (∀ (z0 : Int32) (z1 : VS), X108a z0 z1 → X108b z0 z1 → X108 z0 z1)) (kq : (∀ (z0 : VS), Q1 z0 → Q2 z0 → Q z0)) : b_X1listTakers_44 X10 X59 X108 Q l1 σ := by
  unfold b_X1listTakers_44 at h1 h2 ⊢
  exact (kX10 _ _ h1 h2)
theorem ab_X1listTakers_10 {X10a X10b X10 : Int32 → VS → Prop} {X59a X59b X59 : Int32 → VS → Prop} {X108a X108b X108 : Int32 → VS → Prop} {Q1 Q2 Q : VS → Prop} {l1 : Int32} {σ : VS} (h1 : b_X1listTakers_10 X10a X59a X108a Q1 l1 σ) (h2 : b_X1listTakers_10 X10b X59b X108b Q2 l1 σ) (kX10 : (∀ (z0 : Int32) (z1 : VS), X10a z0 z1 → X10b z0 z1 → X10 z0 z1)) (kX59 : (∀ (z0 : Int32) (z1 : VS), X59a z0 z1 → X59b z0 z1 → X59 z0 z1)) (kX108 : (∀ (z0 : Int32) (z1 : VS), X108a z0 z1 → X108b z0 z1 → X108 z0 z1)) (kq : (∀ (z0 : VS), Q1 z0 → Q2 z0 → Q z0)) : b_X1listTakers_10 X10 X59 X108 Q l1 σ := by
  unfold b_X1listTakers_10 at h1 h2 ⊢
  exact ⟨(fun c0 => (kX59 _ _ (h1.1 c0) (h2.1 c0))), (fun c0 => ⟨(h1.2 c0).1, ⟨(fun c1 => (ab_X1listTakers_44 ((h1.2 c0).2.1 c1) ((h2.2 c0).2.1 c1) kX10 kX59 kX108 kq)), (fun c1 => ⟨((h1.2 c0).2.2 c1).1, ⟨((h1.2 c0).2.2 c1).2.1, ⟨((h1.2 c0).2.2 c1).2.2.1, (ab_X1listTakers_44 ((h1.2 c0).2.2 c1).2.2.2 ((h2.2 c0).2.2 c1).2.2.2 kX10 kX59 kX108 kq)⟩⟩⟩)⟩⟩)⟩
theorem am_X1listTakers {Q1 Q2 Q : VS → Prop} {σ : VS} (h1 : wp_X1listTakers Q1 σ) (h2 : wp_X1listTakers Q2 σ) (kq : (∀ (z0 : VS), Q1 z0 → Q2 z0 → Q z0)) : wp_X1listTakers Q σ := by
  unfold wp_X1listTakers at h1 h2 ⊢
  intro X10 X59 X108 HX10 HX59 HX108
  obtain ⟨YX10, eYX10⟩ : ∃ Y : Int32 → VS → Prop, Y = fun wy0 wy1 => ∀ (X10 : Int32 → VS → Prop) (X59 : Int32 → VS → Prop) (X108 : Int32 → VS → Prop), (∀ (y0 : Int32) (y1 : VS), b_X1listTakers_10 X10 X59 X108 Q2 y0 y1 → X10 y0 y1) → (∀ (y0 : Int32) (y1 : VS), b_X1listTakers_59 X10 X59 X108 Q2 y0 y1 → X59 y0 y1) → (∀ (y0 : Int32) (y1 : VS), b_X1listTakers_108 X10 X59 X108 Q2 y0 y1 → X108 y0 y1) → X10 wy0 wy1 := ⟨_, rfl⟩
  obtain ⟨YX59, eYX59⟩ : ∃ Y : Int32 → VS → Prop, Y = fun wy0 wy1 => ∀ (X10 : Int32 → VS → Prop) (X59 : Int32 → VS → Prop) (X108 : Int32 → VS → Prop), (∀ (y0 : Int32) (y1 : VS), b_X1listTakers_10 X10 X59 X108 Q2 y0 y1 → X10 y0 y1) → (∀ (y0 : Int32) (y1 : VS), b_X1listTakers_59 X10 X59 X108 Q2 y0 y1 → X59 y0 y1) → (∀ (y0 : Int32) (y1 : VS), b_X1listTakers_108 X10 X59 X108 Q2 y0 y1 → X108 y0 y1) → X59 wy0 wy1 := ⟨_, rfl⟩
  obtain ⟨YX108, eYX108⟩ : ∃ Y : Int32 → VS → Prop, Y = fun wy0 wy1 => ∀ (X10 : Int32 → VS → Prop) (X59 : Int32 → VS → Prop) (X108 : Int32 → VS → Prop), (∀ (y0 : Int32) (y1 : VS), b_X1listTakers_10 X10 X59 X108 Q2 y0 y1 → X10 y0 y1) → (∀ (y0 : Int32) (y1 : VS), b_X1listTakers_59 X10 X59 X108 Q2 y0 y1 → X59 y0 y1) → (∀ (y0 : Int32) (y1 : VS), b_X1listTakers_108 X10 X59 X108 Q2 y0 y1 → X108 y0 y1) → X108 wy0 wy1 := ⟨_, rfl⟩
  have foldX10 : ∀ y0 y1, b_X1listTakers_10 YX10 YX59 YX108 Q2 y0 y1 → YX10 y0 y1 := by
    intro y0 y1 h
    rw [eYX10]
    intro ZX10 ZX59 ZX108 KX10 KX59 KX108
    exact KX10 _ _ (ab_X1listTakers_10 h h (fun _ _ y _ => by rw [eYX10] at y; exact y ZX10 ZX59 ZX108 KX10 KX59 KX108) (fun _ _ y _ => by rw [eYX59] at y; exact y ZX10 ZX59 ZX108 KX10 KX59 KX108) (fun _ _ y _ => by rw [eYX108] at y; exact y ZX10 ZX59 ZX108 KX10 KX59 KX108) (fun _ q _ => q))
  have foldX59 : ∀ y0 y1, b_X1listTakers_59 YX10 YX59 YX108 Q2 y0 y1 → YX59 y0 y1 := by
    intro y0 y1 h
    rw [eYX59]
    intro ZX10 ZX59 ZX108 KX10 KX59 KX108
    exact KX59 _ _ (ab_X1listTakers_59 h h (fun _ _ y _ => by rw [eYX10] at y; exact y ZX10 ZX59 ZX108 KX10 KX59 KX108) (fun _ _ y _ => by rw [eYX59] at y; exact y ZX10 ZX59 ZX108 KX10 KX59 KX108) (fun _ _ y _ => by rw [eYX108] at y; exact y ZX10 ZX59 ZX108 KX10 KX59 KX108) (fun _ q _ => q))
  have foldX108 : ∀ y0 y1, b_X1listTakers_108 YX10 YX59 YX108 Q2 y0 y1 → YX108 y0 y1 := by
    intro y0 y1 h
    rw [eYX108]
    intro ZX10 ZX59 ZX108 KX10 KX59 KX108
    exact KX108 _ _ (ab_X1listTakers_108 h h (fun _ _ y _ => by rw [eYX10] at y; exact y ZX10 ZX59 ZX108 KX10 KX59 KX108) (fun _ _ y _ => by rw [eYX59] at y; exact y ZX10 ZX59 ZX108 KX10 KX59 KX108) (fun _ _ y _ => by rw [eYX108] at y; exact y ZX10 ZX59 ZX108 KX10 KX59 KX108) (fun _ q _ => q))
  have invX10 : ∀ y0 y1, YX10 y0 y1 → b_X1listTakers_10 YX10 YX59 YX108 Q2 y0 y1 := by
    intro y0 y1 h
    rw [eYX10] at h
    exact h (fun w0 w1 => b_X1listTakers_10 YX10 YX59 YX108 Q2 w0 w1) (fun w0 w1 => b_X1listTakers_59 YX10 YX59 YX108 Q2 w0 w1) (fun w0 w1 => b_X1listTakers_108 YX10 YX59 YX108 Q2 w0 w1) (fun _ _ h => ab_X1listTakers_10 h h (fun _ _ y _ => foldX10 _ _ y) (fun _ _ y _ => foldX59 _ _ y) (fun _ _ y _ => foldX108 _ _ y) (fun _ q _ => q)) (fun _ _ h => ab_X1listTakers_59 h h (fun _ _ y _ => foldX10 _ _ y) (fun _ _ y _ => foldX59 _ _ y) (fun _ _ y _ => foldX108 _ _ y) (fun _ q _ => q)) (fun _ _ h => ab_X1listTakers_108 h h (fun _ _ y _ => foldX10 _ _ y) (fun _ _ y _ => foldX59 _ _ y) (fun _ _ y _ => foldX108 _ _ y) (fun _ q _ => q))
  have invX59 : ∀ y0 y1, YX59 y0 y1 → b_X1listTakers_59 YX10 YX59 YX108 Q2 y0 y1 := by
    intro y0 y1 h
    rw [eYX59] at h
    exact h (fun w0 w1 => b_X1listTakers_10 YX10 YX59 YX108 Q2 w0 w1) (fun w0 w1 => b_X1listTakers_59 YX10 YX59 YX108 Q2 w0 w1) (fun w0 w1 => b_X1listTakers_108 YX10 YX59 YX108 Q2 w0 w1) (fun _ _ h => ab_X1listTakers_10 h h (fun _ _ y _ => foldX10 _ _ y) (fun _ _ y _ => foldX59 _ _ y) (fun _ _ y _ => foldX108 _ _ y) (fun _ q _ => q)) (fun _ _ h => ab_X1listTakers_59 h h (fun _ _ y _ => foldX10 _ _ y) (fun _ _ y _ => foldX59 _ _ y) (fun _ _ y _ => foldX108 _ _ y) (fun _ q _ => q)) (fun _ _ h => ab_X1listTakers_108 h h (fun _ _ y _ => foldX10 _ _ y) (fun _ _ y _ => foldX59 _ _ y) (fun _ _ y _ => foldX108 _ _ y) (fun _ q _ => q))
  have invX108 : ∀ y0 y1, YX108 y0 y1 → b_X1listTakers_108 YX10 YX59 YX108 Q2 y0 y1 := by
    intro y0 y1 h
    rw [eYX108] at h
    exact h (fun w0 w1 => b_X1listTakers_10 YX10 YX59 YX108 Q2 w0 w1) (fun w0 w1 => b_X1listTakers_59 YX10 YX59 YX108 Q2 w0 w1) (fun w0 w1 => b_X1listTakers_108 YX10 YX59 YX108 Q2 w0 w1) (fun _ _ h => ab_X1listTakers_10 h h (fun _ _ y _ => foldX10 _ _ y) (fun _ _ y _ => foldX59 _ _ y) (fun _ _ y _ => foldX108 _ _ y) (fun _ q _ => q)) (fun _ _ h => ab_X1listTakers_59 h h (fun _ _ y _ => foldX10 _ _ y) (fun _ _ y _ => foldX59 _ _ y) (fun _ _ y _ => foldX108 _ _ y) (fun _ q _ => q)) (fun _ _ h => ab_X1listTakers_108 h h (fun _ _ y _ => foldX10 _ _ y) (fun _ _ y _ => foldX59 _ _ y) (fun _ _ y _ => foldX108 _ _ y) (fun _ q _ => q))
  have g2 := h2 YX10 YX59 YX108 foldX10 foldX59 foldX108
  have g1 := h1 (fun w0 w1 => YX10 w0 w1 → X10 w0 w1) (fun w0 w1 => YX59 w0 w1 → X59 w0 w1) (fun w0 w1 => YX108 w0 w1 → X108 w0 w1) (fun _ _ h y => HX10 _ _ (ab_X1listTakers_10 h (invX10 _ _ y) (fun _ _ f y => f y) (fun _ _ f y => f y) (fun _ _ f y => f y) kq)) (fun _ _ h y => HX59 _ _ (ab_X1listTakers_59 h (invX59 _ _ y) (fun _ _ f y => f y) (fun _ _ f y => f y) (fun _ _ f y => f y) kq)) (fun _ _ h y => HX108 _ _ (ab_X1listTakers_108 h (invX108 _ _ y) (fun _ _ f y => f y) (fun _ _ f y => f y) (fun _ _ f y => f y) kq))
  have kX10 : ∀ y0 y1, (YX10 y0 y1 → X10 y0 y1) → YX10 y0 y1 → X10 y0 y1 := fun _ _ f y => f y
  have kX59 : ∀ y0 y1, (YX59 y0 y1 → X59 y0 y1) → YX59 y0 y1 → X59 y0 y1 := fun _ _ f y => f y
  have kX108 : ∀ y0 y1, (YX108 y0 y1 → X108 y0 y1) → YX108 y0 y1 → X108 y0 y1 := fun _ _ f y => f y
  exact (kX10 _ _ g1 g2)
theorem ab_X1orderGates_184 {X7a X7b X7 : Int32 → VS → Prop} {X71a X71b X71 : Int32 → VS → Prop} {X99a X99b X99 : Int32 → Int32 → Int32 → VS → Prop} {Q1 Q2 Q : VS → Prop} {σ : VS} (h1 : b_X1orderGates_184 X7a X71a X99a Q1 σ) (h2 : b_X1orderGates_184 X7b X71b X99b Q2 σ) (kX7 : (∀ (z0 : Int32) (z1 : VS), X7a z0 z1 → X7b z0 z1 → X7 z0 z1)) (kX71 : (∀ (z0 : Int32) (z1 : VS), X71a z0 z1 → X71b z0 z1 → X71 z0 z1)) (kX99 : (∀ (z0 : Int32) (z1 : Int32) (z2 : Int32) (z3 : VS), X99a z0 z1 z2 z3 → X99b z0 z1 z2 z3 → X99 z0 z1 z2 z3)) (kq : (∀ (z0 : VS), Q1 z0 → Q2 z0 → Q z0)) : b_X1orderGates_184 X7 X71 X99 Q σ := by
  unfold b_X1orderGates_184 at h1 h2 ⊢
  exact (kq _ h1 h2)
theorem ab_X1orderGates_172 {X7a X7b X7 : Int32 → VS → Prop} {X71a X71b X71 : Int32 → VS → Prop} {X99a X99b X99 : Int32 → Int32 → Int32 → VS → Prop} {Q1 Q2 Q : VS → Prop} {l1 : Int32} {l2 : Int32} {l3 : Int32} {σ : VS} (h1 : b_X1orderGates_172 X7a X71a X99a Q1 l1 l2 l3 σ) (h2 : b_X1orderGates_172 X7b X71b X99b Q2 l1 l2 l3 σ) (kX7 : (∀ (z0 : Int32) (z1 : VS), X7a z0 z1 → X7b z0 z1 → X7 z0 z1)) (kX71 : (∀ (z0 : Int32) (z1 : VS), X71a z0 z1 → X71b z0 z1 → X71 z0 z1)) (kX99 : (∀ (z0 : Int32) (z1 : Int32) (z2 : Int32) (z3 : VS), X99a z0 z1 z2 z3 → X99b z0 z1 z2 z3 → X99 z0 z1 z2 z3)) (kq : (∀ (z0 : VS), Q1 z0 → Q2 z0 → Q z0)) : b_X1orderGates_172 X7 X71 X99 Q l1 l2 l3 σ := by
  unfold b_X1orderGates_172 at h1 h2 ⊢
  exact (kX99 _ _ _ _ h1 h2)
theorem ab_X1orderGates_99 {X7a X7b X7 : Int32 → VS → Prop} {X71a X71b X71 : Int32 → VS → Prop} {X99a X99b X99 : Int32 → Int32 → Int32 → VS → Prop} {Q1 Q2 Q : VS → Prop} {l1 : Int32} {l2 : Int32} {l3 : Int32} {σ : VS} (h1 : b_X1orderGates_99 X7a X71a X99a Q1 l1 l2 l3 σ) (h2 : b_X1orderGates_99 X7b X71b X99b Q2 l1 l2 l3 σ) (kX7 : (∀ (z0 : Int32) (z1 : VS), X7a z0 z1 → X7b z0 z1 → X7 z0 z1)) (kX71 : (∀ (z0 : Int32) (z1 : VS), X71a z0 z1 → X71b z0 z1 → X71 z0 z1)) (kX99 : (∀ (z0 : Int32) (z1 : Int32) (z2 : Int32) (z3 : VS), X99a z0 z1 z2 z3 → X99b z0 z1 z2 z3 → X99 z0 z1 z2 z3)) (kq : (∀ (z0 : VS), Q1 z0 → Q2 z0 → Q z0)) : b_X1orderGates_99 X7 X71 X99 Q l1 l2 l3 σ := by
  unfold b_X1orderGates_99 at h1 h2 ⊢
  exact ⟨h1.1, ⟨(fun c0 => (kX71 _ _ (h1.2.1 c0) (h2.2.1 c0))), (fun c0 => ⟨(h1.2.2 c0).1, (fun c1 => (fun c2 => ⟨(((h1.2.2 c0).2 c1) c2).1, ⟨(((h1.2.2 c0).2 c1) c2).2.1, (am_X1isGate (((h1.2.2 c0).2 c1) c2).2.2 (((h2.2.2 c0).2 c1) c2).2.2 (fun _ _ u3 v3 => ⟨(fun c4 => (ab_X1orderGates_172 (u3.1 c4) (v3.1 c4) kX7 kX71 kX99 kq)), (fun c4 => ⟨(u3.2 c4).1, ⟨(fun c5 => (ab_X1orderGates_172 ((u3.2 c4).2.1 c5) ((v3.2 c4).2.1 c5) kX7 kX71 kX99 kq)), (fun c5 => ⟨((u3.2 c4).2.2 c5).1, (ab_X1orderGates_172 ((u3.2 c4).2.2 c5).2 ((v3.2 c4).2.2 c5).2 kX7 kX71 kX99 kq)⟩)⟩⟩)⟩))⟩⟩))⟩)⟩⟩
theorem ab_X1orderGates_71 {X7a X7b X7 : Int32 → VS → Prop} {X71a X71b X71 : Int32 → VS → Prop} {X99a X99b X99 : Int32 → Int32 → Int32 → VS → Prop} {Q1 Q2 Q : VS → Prop} {l1 : Int32} {σ : VS} (h1 : b_X1orderGates_71 X7a X71a X99a Q1 l1 σ) (h2 : b_X1orderGates_71 X7b X71b X99b Q2 l1 σ) (kX7 : (∀ (z0 : Int32) (z1 : VS), X7a z0 z1 → X7b z0 z1 → X7 z0 z1)) (kX71 : (∀ (z0 : Int32) (z1 : VS), X71a z0 z1 → X71b z0 z1 → X71 z0 z1)) (kX99 : (∀ (z0 : Int32) (z1 : Int32) (z2 : Int32) (z3 : VS), X99a z0 z1 z2 z3 → X99b z0 z1 z2 z3 → X99 z0 z1 z2 z3)) (kq : (∀ (z0 : VS), Q1 z0 → Q2 z0 → Q z0)) : b_X1orderGates_71 X7 X71 X99 Q l1 σ := by
  unfold b_X1orderGates_71 at h1 h2 ⊢
  exact ⟨(fun c0 => (ab_X1orderGates_184 (h1.1 c0) (h2.1 c0) kX7 kX71 kX99 kq)), (fun c0 => ⟨(fun c1 => (ab_X1orderGates_184 ((h1.2 c0).1 c1) ((h2.2 c0).1 c1) kX7 kX71 kX99 kq)), (fun c1 => ⟨((h1.2 c0).2 c1).1, (fun c2 => (fun c3 => ⟨((((h1.2 c0).2 c1).2 c2) c3).1, (fun c4 => (fun c5 => (kX99 _ _ _ _ ((((((h1.2 c0).2 c1).2 c2) c3).2 c4) c5) ((((((h2.2 c0).2 c1).2 c2) c3).2 c4) c5))))⟩))⟩)⟩)⟩
theorem ab_X1orderGates_63 {X7a X7b X7 : Int32 → VS → Prop} {X71a X71b X71 : Int32 → VS → Prop} {X99a X99b X99 : Int32 → Int32 → Int32 → VS → Prop} {Q1 Q2 Q : VS → Prop} {l1 : Int32} {σ : VS} (h1 : b_X1orderGates_63 X7a X71a X99a Q1 l1 σ) (h2 : b_X1orderGates_63 X7b X71b X99b Q2 l1 σ) (kX7 : (∀ (z0 : Int32) (z1 : VS), X7a z0 z1 → X7b z0 z1 → X7 z0 z1)) (kX71 : (∀ (z0 : Int32) (z1 : VS), X71a z0 z1 → X71b z0 z1 → X71 z0 z1)) (kX99 : (∀ (z0 : Int32) (z1 : Int32) (z2 : Int32) (z3 : VS), X99a z0 z1 z2 z3 → X99b z0 z1 z2 z3 → X99 z0 z1 z2 z3)) (kq : (∀ (z0 : VS), Q1 z0 → Q2 z0 → Q z0)) : b_X1orderGates_63 X7 X71 X99 Q l1 σ := by
  unfold b_X1orderGates_63 at h1 h2 ⊢
  exact (kX7 _ _ h1 h2)
theorem ab_X1orderGates_7 {X7a X7b X7 : Int32 → VS → Prop} {X71a X71b X71 : Int32 → VS → Prop} {X99a X99b X99 : Int32 → Int32 → Int32 → VS → Prop} {Q1 Q2 Q : VS → Prop} {l1 : Int32} {σ : VS} (h1 : b_X1orderGates_7 X7a X71a X99a Q1 l1 σ) (h2 : b_X1orderGates_7 X7b X71b X99b Q2 l1 σ) (kX7 : (∀ (z0 : Int32) (z1 : VS), X7a z0 z1 → X7b z0 z1 → X7 z0 z1)) (kX71 : (∀ (z0 : Int32) (z1 : VS), X71a z0 z1 → X71b z0 z1 → X71 z0 z1)) (kX99 : (∀ (z0 : Int32) (z1 : Int32) (z2 : Int32) (z3 : VS), X99a z0 z1 z2 z3 → X99b z0 z1 z2 z3 → X99 z0 z1 z2 z3)) (kq : (∀ (z0 : VS), Q1 z0 → Q2 z0 → Q z0)) : b_X1orderGates_7 X7 X71 X99 Q l1 σ := by
  unfold b_X1orderGates_7 at h1 h2 ⊢
  exact ⟨(fun c0 => (kX71 _ _ (h1.1 c0) (h2.1 c0))), (fun c0 => (am_X1gatesTakenBy (h1.2 c0) (h2.2 c0) (fun _ _ u1 v1 => ⟨u1.1, (am_X1isGate u1.2 v1.2 (fun _ _ u2 v2 => ⟨(fun c3 => (ab_X1orderGates_63 (u2.1 c3) (v2.1 c3) kX7 kX71 kX99 kq)), (fun c3 => ⟨(u2.2 c3).1, ⟨(fun c4 => (ab_X1orderGates_63 ((u2.2 c3).2.1 c4) ((v2.2 c3).2.1 c4) kX7 kX71 kX99 kq)), (fun c4 => ⟨((u2.2 c3).2.2 c4).1, (ab_X1orderGates_63 ((u2.2 c3).2.2 c4).2 ((v2.2 c3).2.2 c4).2 kX7 kX71 kX99 kq)⟩)⟩⟩)⟩))⟩)))⟩
theorem am_X1orderGates {Q1 Q2 Q : VS → Prop} {σ : VS} (h1 : wp_X1orderGates Q1 σ) (h2 : wp_X1orderGates Q2 σ) (kq : (∀ (z0 : VS), Q1 z0 → Q2 z0 → Q z0)) : wp_X1orderGates Q σ := by
  unfold wp_X1orderGates at h1 h2 ⊢
  intro X7 X71 X99 HX7 HX71 HX99
  obtain ⟨YX7, eYX7⟩ : ∃ Y : Int32 → VS → Prop, Y = fun wy0 wy1 => ∀ (X7 : Int32 → VS → Prop) (X71 : Int32 → VS → Prop) (X99 : Int32 → Int32 → Int32 → VS → Prop), (∀ (y0 : Int32) (y1 : VS), b_X1orderGates_7 X7 X71 X99 Q2 y0 y1 → X7 y0 y1) → (∀ (y0 : Int32) (y1 : VS), b_X1orderGates_71 X7 X71 X99 Q2 y0 y1 → X71 y0 y1) → (∀ (y0 : Int32) (y1 : Int32) (y2 : Int32) (y3 : VS), b_X1orderGates_99 X7 X71 X99 Q2 y0 y1 y2 y3 → X99 y0 y1 y2 y3) → X7 wy0 wy1 := ⟨_, rfl⟩
  obtain ⟨YX71, eYX71⟩ : ∃ Y : Int32 → VS → Prop, Y = fun wy0 wy1 => ∀ (X7 : Int32 → VS → Prop) (X71 : Int32 → VS → Prop) (X99 : Int32 → Int32 → Int32 → VS → Prop), (∀ (y0 : Int32) (y1 : VS), b_X1orderGates_7 X7 X71 X99 Q2 y0 y1 → X7 y0 y1) → (∀ (y0 : Int32) (y1 : VS), b_X1orderGates_71 X7 X71 X99 Q2 y0 y1 → X71 y0 y1) → (∀ (y0 : Int32) (y1 : Int32) (y2 : Int32) (y3 : VS), b_X1orderGates_99 X7 X71 X99 Q2 y0 y1 y2 y3 → X99 y0 y1 y2 y3) → X71 wy0 wy1 := ⟨_, rfl⟩
  obtain ⟨YX99, eYX99⟩ : ∃ Y : Int32 → Int32 → Int32 → VS → Prop, Y = fun wy0 wy1 wy2 wy3 => ∀ (X7 : Int32 → VS → Prop) (X71 : Int32 → VS → Prop) (X99 : Int32 → Int32 → Int32 → VS → Prop), (∀ (y0 : Int32) (y1 : VS), b_X1orderGates_7 X7 X71 X99 Q2 y0 y1 → X7 y0 y1) → (∀ (y0 : Int32) (y1 : VS), b_X1orderGates_71 X7 X71 X99 Q2 y0 y1 → X71 y0 y1) → (∀ (y0 : Int32) (y1 : Int32) (y2 : Int32) (y3 : VS), b_X1orderGates_99 X7 X71 X99 Q2 y0 y1 y2 y3 → X99 y0 y1 y2 y3) → X99 wy0 wy1 wy2 wy3 := ⟨_, rfl⟩
  have foldX7 : ∀ y0 y1, b_X1orderGates_7 YX7 YX71 YX99 Q2 y0 y1 → YX7 y0 y1 := by
    intro y0 y1 h
    rw [eYX7]
    intro ZX7 ZX71 ZX99 KX7 KX71 KX99
    exact KX7 _ _ (ab_X1orderGates_7 h h (fun _ _ y _ => by rw [eYX7] at y; exact y ZX7 ZX71 ZX99 KX7 KX71 KX99) (fun _ _ y _ => by rw [eYX71] at y; exact y ZX7 ZX71 ZX99 KX7 KX71 KX99) (fun _ _ _ _ y _ => by rw [eYX99] at y; exact y ZX7 ZX71 ZX99 KX7 KX71 KX99) (fun _ q _ => q))
  have foldX71 : ∀ y0 y1, b_X1orderGates_71 YX7 YX71 YX99 Q2 y0 y1 → YX71 y0 y1 := by
    intro y0 y1 h
    rw [eYX71]
    intro ZX7 ZX71 ZX99 KX7 KX71 KX99
    exact KX71 _ _ (ab_X1orderGates_71 h h (fun _ _ y _ => by rw [eYX7] at y; exact y ZX7 ZX71 ZX99 KX7 KX71 KX99) (fun _ _ y _ => by rw [eYX71] at y; exact y ZX7 ZX71 ZX99 KX7 KX71 KX99) (fun _ _ _ _ y _ => by rw [eYX99] at y; exact y ZX7 ZX71 ZX99 KX7 KX71 KX99) (fun _ q _ => q))
  have foldX99 : ∀ y0 y1 y2 y3, b_X1orderGates_99 YX7 YX71 YX99 Q2 y0 y1 y2 y3 → YX99 y0 y1 y2 y3 := by
    intro y0 y1 y2 y3 h
    rw [eYX99]
    intro ZX7 ZX71 ZX99 KX7 KX71 KX99
    exact KX99 _ _ _ _ (ab_X1orderGates_99 h h (fun _ _ y _ => by rw [eYX7] at y; exact y ZX7 ZX71 ZX99 KX7 KX71 KX99) (fun _ _ y _ => by rw [eYX71] at y; exact y ZX7 ZX71 ZX99 KX7 KX71 KX99) (fun _ _ _ _ y _ => by rw [eYX99] at y; exact y ZX7 ZX71 ZX99 KX7 KX71 KX99) (fun _ q _ => q))
  have invX7 : ∀ y0 y1, YX7 y0 y1 → b_X1orderGates_7 YX7 YX71 YX99 Q2 y0 y1 := by
    intro y0 y1 h
    rw [eYX7] at h
    exact h (fun w0 w1 => b_X1orderGates_7 YX7 YX71 YX99 Q2 w0 w1) (fun w0 w1 => b_X1orderGates_71 YX7 YX71 YX99 Q2 w0 w1) (fun w0 w1 w2 w3 => b_X1orderGates_99 YX7 YX71 YX99 Q2 w0 w1 w2 w3) (fun _ _ h => ab_X1orderGates_7 h h (fun _ _ y _ => foldX7 _ _ y) (fun _ _ y _ => foldX71 _ _ y) (fun _ _ _ _ y _ => foldX99 _ _ _ _ y) (fun _ q _ => q)) (fun _ _ h => ab_X1orderGates_71 h h (fun _ _ y _ => foldX7 _ _ y) (fun _ _ y _ => foldX71 _ _ y) (fun _ _ _ _ y _ => foldX99 _ _ _ _ y) (fun _ q _ => q)) (fun _ _ _ _ h => ab_X1orderGates_99 h h (fun _ _ y _ => foldX7 _ _ y) (fun _ _ y _ => foldX71 _ _ y) (fun _ _ _ _ y _ => foldX99 _ _ _ _ y) (fun _ q _ => q))
  have invX71 : ∀ y0 y1, YX71 y0 y1 → b_X1orderGates_71 YX7 YX71 YX99 Q2 y0 y1 := by
    intro y0 y1 h
    rw [eYX71] at h
    exact h (fun w0 w1 => b_X1orderGates_7 YX7 YX71 YX99 Q2 w0 w1) (fun w0 w1 => b_X1orderGates_71 YX7 YX71 YX99 Q2 w0 w1) (fun w0 w1 w2 w3 => b_X1orderGates_99 YX7 YX71 YX99 Q2 w0 w1 w2 w3) (fun _ _ h => ab_X1orderGates_7 h h (fun _ _ y _ => foldX7 _ _ y) (fun _ _ y _ => foldX71 _ _ y) (fun _ _ _ _ y _ => foldX99 _ _ _ _ y) (fun _ q _ => q)) (fun _ _ h => ab_X1orderGates_71 h h (fun _ _ y _ => foldX7 _ _ y) (fun _ _ y _ => foldX71 _ _ y) (fun _ _ _ _ y _ => foldX99 _ _ _ _ y) (fun _ q _ => q)) (fun _ _ _ _ h => ab_X1orderGates_99 h h (fun _ _ y _ => foldX7 _ _ y) (fun _ _ y _ => foldX71 _ _ y) (fun _ _ _ _ y _ => foldX99 _ _ _ _ y) (fun _ q _ => q))
  have invX99 : ∀ y0 y1 y2 y3, YX99 y0 y1 y2 y3 → b_X1orderGates_99 YX7 YX71 YX99 Q2 y0 y1 y2 y3 := by
    intro y0 y1 y2 y3 h
    rw [eYX99] at h
    exact h (fun w0 w1 => b_X1orderGates_7 YX7 YX71 YX99 Q2 w0 w1) (fun w0 w1 => b_X1orderGates_71 YX7 YX71 YX99 Q2 w0 w1) (fun w0 w1 w2 w3 => b_X1orderGates_99 YX7 YX71 YX99 Q2 w0 w1 w2 w3) (fun _ _ h => ab_X1orderGates_7 h h (fun _ _ y _ => foldX7 _ _ y) (fun _ _ y _ => foldX71 _ _ y) (fun _ _ _ _ y _ => foldX99 _ _ _ _ y) (fun _ q _ => q)) (fun _ _ h => ab_X1orderGates_71 h h (fun _ _ y _ => foldX7 _ _ y) (fun _ _ y _ => foldX71 _ _ y) (fun _ _ _ _ y _ => foldX99 _ _ _ _ y) (fun _ q _ => q)) (fun _ _ _ _ h => ab_X1orderGates_99 h h (fun _ _ y _ => foldX7 _ _ y) (fun _ _ y _ => foldX71 _ _ y) (fun _ _ _ _ y _ => foldX99 _ _ _ _ y) (fun _ q _ => q))
  have g2 := h2 YX7 YX71 YX99 foldX7 foldX71 foldX99
  have g1 := h1 (fun w0 w1 => YX7 w0 w1 → X7 w0 w1) (fun w0 w1 => YX71 w0 w1 → X71 w0 w1) (fun w0 w1 w2 w3 => YX99 w0 w1 w2 w3 → X99 w0 w1 w2 w3) (fun _ _ h y => HX7 _ _ (ab_X1orderGates_7 h (invX7 _ _ y) (fun _ _ f y => f y) (fun _ _ f y => f y) (fun _ _ _ _ f y => f y) kq)) (fun _ _ h y => HX71 _ _ (ab_X1orderGates_71 h (invX71 _ _ y) (fun _ _ f y => f y) (fun _ _ f y => f y) (fun _ _ _ _ f y => f y) kq)) (fun _ _ _ _ h y => HX99 _ _ _ _ (ab_X1orderGates_99 h (invX99 _ _ _ _ y) (fun _ _ f y => f y) (fun _ _ f y => f y) (fun _ _ _ _ f y => f y) kq))
  have kX7 : ∀ y0 y1, (YX7 y0 y1 → X7 y0 y1) → YX7 y0 y1 → X7 y0 y1 := fun _ _ f y => f y
  have kX71 : ∀ y0 y1, (YX71 y0 y1 → X71 y0 y1) → YX71 y0 y1 → X71 y0 y1 := fun _ _ f y => f y
  have kX99 : ∀ y0 y1 y2 y3, (YX99 y0 y1 y2 y3 → X99 y0 y1 y2 y3) → YX99 y0 y1 y2 y3 → X99 y0 y1 y2 y3 := fun _ _ _ _ f y => f y
  exact (kX7 _ _ g1 g2)
theorem am_X1arrange {Q1 Q2 Q : VS → Prop} {σ : VS} (h1 : wp_X1arrange Q1 σ) (h2 : wp_X1arrange Q2 σ) (kq : (∀ (z0 : VS), Q1 z0 → Q2 z0 → Q z0)) : wp_X1arrange Q σ := by
  unfold wp_X1arrange at h1 h2 ⊢
  exact (am_X1listTakers h1 h2 (fun _ u0 v0 => (am_X1orderGates u0 v0 (fun _ u1 v1 => (kq _ u1 v1)))))
theorem am_X1addCell {Q1 Q2 Q : Int32 → VS → Prop} {p1 : Int32} {p2 : Int32} {p3 : Int32} {σ : VS} (h1 : wp_X1addCell Q1 p1 p2 p3 σ) (h2 : wp_X1addCell Q2 p1 p2 p3 σ) (kq : (∀ (z0 : Int32) (z1 : VS), Q1 z0 z1 → Q2 z0 z1 → Q z0 z1)) : wp_X1addCell Q p1 p2 p3 σ := by
  unfold wp_X1addCell at h1 h2 ⊢
  exact (fun c0 => (fun c1 => ⟨((h1 c0) c1).1, ⟨((h1 c0) c1).2.1, ⟨((h1 c0) c1).2.2.1, (am_X1arrange ((h1 c0) c1).2.2.2 ((h2 c0) c1).2.2.2 (fun _ u2 v2 => (kq _ _ u2 v2)))⟩⟩⟩))
theorem am_X1connect {Q1 Q2 Q : Int32 → VS → Prop} {p1 : Int32} {p2 : Int32} {σ : VS} (h1 : wp_X1connect Q1 p1 p2 σ) (h2 : wp_X1connect Q2 p1 p2 σ) (kq : (∀ (z0 : Int32) (z1 : VS), Q1 z0 z1 → Q2 z0 z1 → Q z0 z1)) : wp_X1connect Q p1 p2 σ := by
  unfold wp_X1connect at h1 h2 ⊢
  exact ⟨h1.1, (fun c0 => (fun c1 => ⟨((h1.2 c0) c1).1, (am_X1arrange ((h1.2 c0) c1).2 ((h2.2 c0) c1).2 (fun _ u2 v2 => (kq _ _ u2 v2)))⟩))⟩
theorem ab_X3spreadBits_57 {X2a X2b X2 : Int32 → VS → Prop} {X17a X17b X17 : Int32 → Int32 → VS → Prop} {Q1 Q2 Q : VS → Prop} {l1 : Int32} {l2 : Int32} {σ : VS} (h1 : b_X3spreadBits_57 X2a X17a Q1 l1 l2 σ) (h2 : b_X3spreadBits_57 X2b X17b Q2 l1 l2 σ) (kX2 : (∀ (z0 : Int32) (z1 : VS), X2a z0 z1 → X2b z0 z1 → X2 z0 z1)) (kX17 : (∀ (z0 : Int32) (z1 : Int32) (z2 : VS), X17a z0 z1 z2 → X17b z0 z1 z2 → X17 z0 z1 z2)) (kq : (∀ (z0 : VS), Q1 z0 → Q2 z0 → Q z0)) : b_X3spreadBits_57 X2 X17 Q l1 l2 σ := by
  unfold b_X3spreadBits_57 at h1 h2 ⊢
  exact (kX17 _ _ _ h1 h2)
theorem ab_X3spreadBits_45 {X2a X2b X2 : Int32 → VS → Prop} {X17a X17b X17 : Int32 → Int32 → VS → Prop} {Q1 Q2 Q : VS → Prop} {l1 : Int32} {l2 : Int32} {σ : VS} (h1 : b_X3spreadBits_45 X2a X17a Q1 l1 l2 σ) (h2 : b_X3spreadBits_45 X2b X17b Q2 l1 l2 σ) (kX2 : (∀ (z0 : Int32) (z1 : VS), X2a z0 z1 → X2b z0 z1 → X2 z0 z1)) (kX17 : (∀ (z0 : Int32) (z1 : Int32) (z2 : VS), X17a z0 z1 z2 → X17b z0 z1 z2 → X17 z0 z1 z2)) (kq : (∀ (z0 : VS), Q1 z0 → Q2 z0 → Q z0)) : b_X3spreadBits_45 X2 X17 Q l1 l2 σ := by
  unfold b_X3spreadBits_45 at h1 h2 ⊢
  exact ⟨h1.1, ⟨h1.2.1, (ab_X3spreadBits_57 h1.2.2 h2.2.2 kX2 kX17 kq)⟩⟩
theorem ab_X3spreadBits_17 {X2a X2b X2 : Int32 → VS → Prop} {X17a X17b X17 : Int32 → Int32 → VS → Prop} {Q1 Q2 Q : VS → Prop} {l1 : Int32} {l2 : Int32} {σ : VS} (h1 : b_X3spreadBits_17 X2a X17a Q1 l1 l2 σ) (h2 : b_X3spreadBits_17 X2b X17b Q2 l1 l2 σ) (kX2 : (∀ (z0 : Int32) (z1 : VS), X2a z0 z1 → X2b z0 z1 → X2 z0 z1)) (kX17 : (∀ (z0 : Int32) (z1 : Int32) (z2 : VS), X17a z0 z1 z2 → X17b z0 z1 z2 → X17 z0 z1 z2)) (kq : (∀ (z0 : VS), Q1 z0 → Q2 z0 → Q z0)) : b_X3spreadBits_17 X2 X17 Q l1 l2 σ := by
  unfold b_X3spreadBits_17 at h1 h2 ⊢
  exact ⟨(fun c0 => (kX2 _ _ (h1.1 c0) (h2.1 c0))), (fun c0 => ⟨(h1.2 c0).1, ⟨(fun c1 => (ab_X3spreadBits_45 ((h1.2 c0).2.1 c1) ((h2.2 c0).2.1 c1) kX2 kX17 kq)), (fun c1 => ⟨((h1.2 c0).2.2 c1).1, ⟨(fun c2 => (ab_X3spreadBits_57 (((h1.2 c0).2.2 c1).2.1 c2) (((h2.2 c0).2.2 c1).2.1 c2) kX2 kX17 kq)), (fun c2 => (ab_X3spreadBits_45 (((h1.2 c0).2.2 c1).2.2 c2) (((h2.2 c0).2.2 c1).2.2 c2) kX2 kX17 kq))⟩⟩)⟩⟩)⟩
theorem ab_X3spreadBits_2 {X2a X2b X2 : Int32 → VS → Prop} {X17a X17b X17 : Int32 → Int32 → VS → Prop} {Q1 Q2 Q : VS → Prop} {l1 : Int32} {σ : VS} (h1 : b_X3spreadBits_2 X2a X17a Q1 l1 σ) (h2 : b_X3spreadBits_2 X2b X17b Q2 l1 σ) (kX2 : (∀ (z0 : Int32) (z1 : VS), X2a z0 z1 → X2b z0 z1 → X2 z0 z1)) (kX17 : (∀ (z0 : Int32) (z1 : Int32) (z2 : VS), X17a z0 z1 z2 → X17b z0 z1 z2 → X17 z0 z1 z2)) (kq : (∀ (z0 : VS), Q1 z0 → Q2 z0 → Q z0)) : b_X3spreadBits_2 X2 X17 Q l1 σ := by
  unfold b_X3spreadBits_2 at h1 h2 ⊢
  exact ⟨(fun c0 => (kq _ (h1.1 c0) (h2.1 c0))), (fun c0 => ⟨(h1.2 c0).1, (kX17 _ _ _ (h1.2 c0).2 (h2.2 c0).2)⟩)⟩
theorem am_X3spreadBits {Q1 Q2 Q : VS → Prop} {σ : VS} (h1 : wp_X3spreadBits Q1 σ) (h2 : wp_X3spreadBits Q2 σ) (kq : (∀ (z0 : VS), Q1 z0 → Q2 z0 → Q z0)) : wp_X3spreadBits Q σ := by
  unfold wp_X3spreadBits at h1 h2 ⊢
  intro X2 X17 HX2 HX17
  obtain ⟨YX2, eYX2⟩ : ∃ Y : Int32 → VS → Prop, Y = fun wy0 wy1 => ∀ (X2 : Int32 → VS → Prop) (X17 : Int32 → Int32 → VS → Prop), (∀ (y0 : Int32) (y1 : VS), b_X3spreadBits_2 X2 X17 Q2 y0 y1 → X2 y0 y1) → (∀ (y0 : Int32) (y1 : Int32) (y2 : VS), b_X3spreadBits_17 X2 X17 Q2 y0 y1 y2 → X17 y0 y1 y2) → X2 wy0 wy1 := ⟨_, rfl⟩
  obtain ⟨YX17, eYX17⟩ : ∃ Y : Int32 → Int32 → VS → Prop, Y = fun wy0 wy1 wy2 => ∀ (X2 : Int32 → VS → Prop) (X17 : Int32 → Int32 → VS → Prop), (∀ (y0 : Int32) (y1 : VS), b_X3spreadBits_2 X2 X17 Q2 y0 y1 → X2 y0 y1) → (∀ (y0 : Int32) (y1 : Int32) (y2 : VS), b_X3spreadBits_17 X2 X17 Q2 y0 y1 y2 → X17 y0 y1 y2) → X17 wy0 wy1 wy2 := ⟨_, rfl⟩
  have foldX2 : ∀ y0 y1, b_X3spreadBits_2 YX2 YX17 Q2 y0 y1 → YX2 y0 y1 := by
    intro y0 y1 h
    rw [eYX2]
    intro ZX2 ZX17 KX2 KX17
    exact KX2 _ _ (ab_X3spreadBits_2 h h (fun _ _ y _ => by rw [eYX2] at y; exact y ZX2 ZX17 KX2 KX17) (fun _ _ _ y _ => by rw [eYX17] at y; exact y ZX2 ZX17 KX2 KX17) (fun _ q _ => q))
  have foldX17 : ∀ y0 y1 y2, b_X3spreadBits_17 YX2 YX17 Q2 y0 y1 y2 → YX17 y0 y1 y2 := by
    intro y0 y1 y2 h
    rw [eYX17]
    intro ZX2 ZX17 KX2 KX17
    exact KX17 _ _ _ (ab_X3spreadBits_17 h h (fun _ _ y _ => by rw [eYX2] at y; exact y ZX2 ZX17 KX2 KX17) (fun _ _ _ y _ => by rw [eYX17] at y; exact y ZX2 ZX17 KX2 KX17) (fun _ q _ => q))
  have invX2 : ∀ y0 y1, YX2 y0 y1 → b_X3spreadBits_2 YX2 YX17 Q2 y0 y1 := by
    intro y0 y1 h
    rw [eYX2] at h
    exact h (fun w0 w1 => b_X3spreadBits_2 YX2 YX17 Q2 w0 w1) (fun w0 w1 w2 => b_X3spreadBits_17 YX2 YX17 Q2 w0 w1 w2) (fun _ _ h => ab_X3spreadBits_2 h h (fun _ _ y _ => foldX2 _ _ y) (fun _ _ _ y _ => foldX17 _ _ _ y) (fun _ q _ => q)) (fun _ _ _ h => ab_X3spreadBits_17 h h (fun _ _ y _ => foldX2 _ _ y) (fun _ _ _ y _ => foldX17 _ _ _ y) (fun _ q _ => q))
  have invX17 : ∀ y0 y1 y2, YX17 y0 y1 y2 → b_X3spreadBits_17 YX2 YX17 Q2 y0 y1 y2 := by
    intro y0 y1 y2 h
    rw [eYX17] at h
    exact h (fun w0 w1 => b_X3spreadBits_2 YX2 YX17 Q2 w0 w1) (fun w0 w1 w2 => b_X3spreadBits_17 YX2 YX17 Q2 w0 w1 w2) (fun _ _ h => ab_X3spreadBits_2 h h (fun _ _ y _ => foldX2 _ _ y) (fun _ _ _ y _ => foldX17 _ _ _ y) (fun _ q _ => q)) (fun _ _ _ h => ab_X3spreadBits_17 h h (fun _ _ y _ => foldX2 _ _ y) (fun _ _ _ y _ => foldX17 _ _ _ y) (fun _ q _ => q))
  have g2 := h2 YX2 YX17 foldX2 foldX17
  have g1 := h1 (fun w0 w1 => YX2 w0 w1 → X2 w0 w1) (fun w0 w1 w2 => YX17 w0 w1 w2 → X17 w0 w1 w2) (fun _ _ h y => HX2 _ _ (ab_X3spreadBits_2 h (invX2 _ _ y) (fun _ _ f y => f y) (fun _ _ _ f y => f y) kq)) (fun _ _ _ h y => HX17 _ _ _ (ab_X3spreadBits_17 h (invX17 _ _ _ y) (fun _ _ f y => f y) (fun _ _ _ f y => f y) kq))
  have kX2 : ∀ y0 y1, (YX2 y0 y1 → X2 y0 y1) → YX2 y0 y1 → X2 y0 y1 := fun _ _ f y => f y
  have kX17 : ∀ y0 y1 y2, (YX17 y0 y1 y2 → X17 y0 y1 y2) → YX17 y0 y1 y2 → X17 y0 y1 y2 := fun _ _ _ f y => f y
  exact (kX2 _ _ g1 g2)
theorem am_X3addRule {Q1 Q2 Q : Int32 → VS → Prop} {p1 : Int32} {p2 : Int32} {p3 : Int32} {p4 : Int32} {σ : VS} (h1 : wp_X3addRule Q1 p1 p2 p3 p4 σ) (h2 : wp_X3addRule Q2 p1 p2 p3 p4 σ) (kq : (∀ (z0 : Int32) (z1 : VS), Q1 z0 z1 → Q2 z0 z1 → Q z0 z1)) : wp_X3addRule Q p1 p2 p3 p4 σ := by
  unfold wp_X3addRule at h1 h2 ⊢
  exact (fun c0 => (fun c1 => ⟨((h1 c0) c1).1, ⟨((h1 c0) c1).2.1, ⟨((h1 c0) c1).2.2.1, ⟨((h1 c0) c1).2.2.2.1, (am_X3spreadBits ((h1 c0) c1).2.2.2.2 ((h2 c0) c1).2.2.2.2 (fun _ u2 v2 => (kq _ _ u2 v2)))⟩⟩⟩⟩))
theorem am_X3dropLatest {Q1 Q2 Q : Int32 → VS → Prop} {σ : VS} (h1 : wp_X3dropLatest Q1 σ) (h2 : wp_X3dropLatest Q2 σ) (kq : (∀ (z0 : Int32) (z1 : VS), Q1 z0 z1 → Q2 z0 z1 → Q z0 z1)) : wp_X3dropLatest Q σ := by
  unfold wp_X3dropLatest at h1 h2 ⊢
  exact (am_X3spreadBits h1 h2 (fun _ u0 v0 => (kq _ _ u0 v0)))
theorem ab_X5has_15  {Q1 Q2 Q : Int32 → VS → Prop} {k0 : Int32} {σ : VS} (h1 : b_X5has_15  Q1 k0 σ) (h2 : b_X5has_15  Q2 k0 σ)  (kq : (∀ (z0 : Int32) (z1 : VS), Q1 z0 z1 → Q2 z0 z1 → Q z0 z1)) : b_X5has_15  Q k0 σ := by
  unfold b_X5has_15 at h1 h2 ⊢
  exact ⟨h1.1, (kq _ _ h1.2 h2.2)⟩
theorem ab_X5has_14  {Q1 Q2 Q : Int32 → VS → Prop} {σ : VS} (h1 : b_X5has_14  Q1 σ) (h2 : b_X5has_14  Q2 σ)  (kq : (∀ (z0 : Int32) (z1 : VS), Q1 z0 z1 → Q2 z0 z1 → Q z0 z1)) : b_X5has_14  Q σ := by
  unfold b_X5has_14 at h1 h2 ⊢
  exact (ab_X5has_15 h1 h2 kq)
theorem am_X5has {Q1 Q2 Q : Int32 → VS → Prop} {p1 : Int32} {σ : VS} (h1 : wp_X5has Q1 p1 σ) (h2 : wp_X5has Q2 p1 σ) (kq : (∀ (z0 : Int32) (z1 : VS), Q1 z0 z1 → Q2 z0 z1 → Q z0 z1)) : wp_X5has Q p1 σ := by
  unfold wp_X5has at h1 h2 ⊢
  exact ⟨(fun c0 => (ab_X5has_14 (h1.1 c0) (h2.1 c0) kq)), (fun c0 => ⟨(fun c1 => (ab_X5has_14 ((h1.2 c0).1 c1) ((h2.2 c0).1 c1) kq)), (fun c1 => (ab_X5has_15 ((h1.2 c0).2 c1) ((h2.2 c0).2 c1) kq))⟩)⟩
theorem ab_X5hasRow_30  {Q1 Q2 Q : Int32 → VS → Prop} {k0 : Int32} {σ : VS} (h1 : b_X5hasRow_30  Q1 k0 σ) (h2 : b_X5hasRow_30  Q2 k0 σ)  (kq : (∀ (z0 : Int32) (z1 : VS), Q1 z0 z1 → Q2 z0 z1 → Q z0 z1)) : b_X5hasRow_30  Q k0 σ := by
  unfold b_X5hasRow_30 at h1 h2 ⊢
  exact ⟨h1.1, (kq _ _ h1.2 h2.2)⟩
theorem ab_X5hasRow_29  {Q1 Q2 Q : Int32 → VS → Prop} {σ : VS} (h1 : b_X5hasRow_29  Q1 σ) (h2 : b_X5hasRow_29  Q2 σ)  (kq : (∀ (z0 : Int32) (z1 : VS), Q1 z0 z1 → Q2 z0 z1 → Q z0 z1)) : b_X5hasRow_29  Q σ := by
  unfold b_X5hasRow_29 at h1 h2 ⊢
  exact (ab_X5hasRow_30 h1 h2 kq)
theorem am_X5hasRow {Q1 Q2 Q : Int32 → VS → Prop} {p1 : Int32} {p2 : Int32} {p3 : Int32} {σ : VS} (h1 : wp_X5hasRow Q1 p1 p2 p3 σ) (h2 : wp_X5hasRow Q2 p1 p2 p3 σ) (kq : (∀ (z0 : Int32) (z1 : VS), Q1 z0 z1 → Q2 z0 z1 → Q z0 z1)) : wp_X5hasRow Q p1 p2 p3 σ := by
  unfold wp_X5hasRow at h1 h2 ⊢
  exact (am_X5has h1 h2 (fun _ _ u0 v0 => ⟨(fun c1 => (ab_X5hasRow_29 (u0.1 c1) (v0.1 c1) kq)), (fun c1 => ⟨(fun c2 => (ab_X5hasRow_29 ((u0.2 c1).1 c2) ((v0.2 c1).1 c2) kq)), (fun c2 => ⟨(fun c3 => (ab_X5hasRow_29 (((u0.2 c1).2 c2).1 c3) (((v0.2 c1).2 c2).1 c3) kq)), (fun c3 => ⟨(fun c4 => (ab_X5hasRow_29 ((((u0.2 c1).2 c2).2 c3).1 c4) ((((v0.2 c1).2 c2).2 c3).1 c4) kq)), (fun c4 => ⟨(fun c5 => (ab_X5hasRow_29 (((((u0.2 c1).2 c2).2 c3).2 c4).1 c5) (((((v0.2 c1).2 c2).2 c3).2 c4).1 c5) kq)), (fun c5 => (ab_X5hasRow_30 (((((u0.2 c1).2 c2).2 c3).2 c4).2 c5) (((((v0.2 c1).2 c2).2 c3).2 c4).2 c5) kq))⟩)⟩)⟩)⟩)⟩))
theorem am_X5rowPlace {Q1 Q2 Q : Int32 → VS → Prop} {p1 : Int32} {p2 : Int32} {p3 : Int32} {σ : VS} (h1 : wp_X5rowPlace Q1 p1 p2 p3 σ) (h2 : wp_X5rowPlace Q2 p1 p2 p3 σ) (kq : (∀ (z0 : Int32) (z1 : VS), Q1 z0 z1 → Q2 z0 z1 → Q z0 z1)) : wp_X5rowPlace Q p1 p2 p3 σ := by
  unfold wp_X5rowPlace at h1 h2 ⊢
  exact (kq _ _ h1 h2)
theorem ab_X5whyAbsent_28  {Q1 Q2 Q : Int32 → VS → Prop} {k0 : Int32} {σ : VS} (h1 : b_X5whyAbsent_28  Q1 k0 σ) (h2 : b_X5whyAbsent_28  Q2 k0 σ)  (kq : (∀ (z0 : Int32) (z1 : VS), Q1 z0 z1 → Q2 z0 z1 → Q z0 z1)) : b_X5whyAbsent_28  Q k0 σ := by
  unfold b_X5whyAbsent_28 at h1 h2 ⊢
  exact (kq _ _ h1 h2)
theorem am_X5whyAbsent {Q1 Q2 Q : Int32 → VS → Prop} {p1 : Int32} {p2 : Int32} {σ : VS} (h1 : wp_X5whyAbsent Q1 p1 p2 σ) (h2 : wp_X5whyAbsent Q2 p1 p2 σ) (kq : (∀ (z0 : Int32) (z1 : VS), Q1 z0 z1 → Q2 z0 z1 → Q z0 z1)) : wp_X5whyAbsent Q p1 p2 σ := by
  unfold wp_X5whyAbsent at h1 h2 ⊢
  exact ⟨h1.1, ⟨(fun c0 => ⟨(h1.2.1 c0).1, ⟨(fun c1 => (ab_X5whyAbsent_28 ((h1.2.1 c0).2.1 c1) ((h2.2.1 c0).2.1 c1) kq)), (fun c1 => (ab_X5whyAbsent_28 ((h1.2.1 c0).2.2 c1) ((h2.2.1 c0).2.2 c1) kq))⟩⟩), (fun c0 => (kq _ _ (h1.2.2 c0) (h2.2.2 c0)))⟩⟩
theorem ab_X5cutRow_10 {X10a X10b X10 : Int32 → Int32 → Int32 → Int32 → VS → Prop} {Q1 Q2 Q : Int32 → VS → Prop} {l1 : Int32} {l2 : Int32} {l3 : Int32} {l4 : Int32} {σ : VS} (h1 : b_X5cutRow_10 X10a Q1 l1 l2 l3 l4 σ) (h2 : b_X5cutRow_10 X10b Q2 l1 l2 l3 l4 σ) (kX10 : (∀ (z0 : Int32) (z1 : Int32) (z2 : Int32) (z3 : Int32) (z4 : VS), X10a z0 z1 z2 z3 z4 → X10b z0 z1 z2 z3 z4 → X10 z0 z1 z2 z3 z4)) (kq : (∀ (z0 : Int32) (z1 : VS), Q1 z0 z1 → Q2 z0 z1 → Q z0 z1)) : b_X5cutRow_10 X10 Q l1 l2 l3 l4 σ := by
  unfold b_X5cutRow_10 at h1 h2 ⊢
  exact ⟨(fun c0 => ⟨(h1.1 c0).1, (kq _ _ (h1.1 c0).2 (h2.1 c0).2)⟩), (fun c0 => ⟨(h1.2 c0).1, (kX10 _ _ _ _ _ (h1.2 c0).2 (h2.2 c0).2)⟩)⟩
theorem am_X5cutRow {Q1 Q2 Q : Int32 → VS → Prop} {p1 : Int32} {p2 : Int32} {σ : VS} (h1 : wp_X5cutRow Q1 p1 p2 σ) (h2 : wp_X5cutRow Q2 p1 p2 σ) (kq : (∀ (z0 : Int32) (z1 : VS), Q1 z0 z1 → Q2 z0 z1 → Q z0 z1)) : wp_X5cutRow Q p1 p2 σ := by
  unfold wp_X5cutRow at h1 h2 ⊢
  intro X10 HX10
  obtain ⟨YX10, eYX10⟩ : ∃ Y : Int32 → Int32 → Int32 → Int32 → VS → Prop, Y = fun wy0 wy1 wy2 wy3 wy4 => ∀ (X10 : Int32 → Int32 → Int32 → Int32 → VS → Prop), (∀ (y0 : Int32) (y1 : Int32) (y2 : Int32) (y3 : Int32) (y4 : VS), b_X5cutRow_10 X10 Q2 y0 y1 y2 y3 y4 → X10 y0 y1 y2 y3 y4) → X10 wy0 wy1 wy2 wy3 wy4 := ⟨_, rfl⟩
  have foldX10 : ∀ y0 y1 y2 y3 y4, b_X5cutRow_10 YX10 Q2 y0 y1 y2 y3 y4 → YX10 y0 y1 y2 y3 y4 := by
    intro y0 y1 y2 y3 y4 h
    rw [eYX10]
    intro ZX10 KX10
    exact KX10 _ _ _ _ _ (ab_X5cutRow_10 h h (fun _ _ _ _ _ y _ => by rw [eYX10] at y; exact y ZX10 KX10) (fun _ _ q _ => q))
  have invX10 : ∀ y0 y1 y2 y3 y4, YX10 y0 y1 y2 y3 y4 → b_X5cutRow_10 YX10 Q2 y0 y1 y2 y3 y4 := by
    intro y0 y1 y2 y3 y4 h
    rw [eYX10] at h
    exact h (fun w0 w1 w2 w3 w4 => b_X5cutRow_10 YX10 Q2 w0 w1 w2 w3 w4) (fun _ _ _ _ _ h => ab_X5cutRow_10 h h (fun _ _ _ _ _ y _ => foldX10 _ _ _ _ _ y) (fun _ _ q _ => q))
  have g2 := h2 YX10 foldX10
  have g1 := h1 (fun w0 w1 w2 w3 w4 => YX10 w0 w1 w2 w3 w4 → X10 w0 w1 w2 w3 w4) (fun _ _ _ _ _ h y => HX10 _ _ _ _ _ (ab_X5cutRow_10 h (invX10 _ _ _ _ _ y) (fun _ _ _ _ _ f y => f y) kq))
  have kX10 : ∀ y0 y1 y2 y3 y4, (YX10 y0 y1 y2 y3 y4 → X10 y0 y1 y2 y3 y4) → YX10 y0 y1 y2 y3 y4 → X10 y0 y1 y2 y3 y4 := fun _ _ _ _ _ f y => f y
  exact ⟨g1.1, (fun c0 => (fun c1 => (kX10 _ _ _ _ _ ((g1.2 c0) c1) ((g2.2 c0) c1))))⟩
theorem ab_X2sharedOf_26  {Q1 Q2 Q : Int32 → VS → Prop} {σ : VS} (h1 : b_X2sharedOf_26  Q1 σ) (h2 : b_X2sharedOf_26  Q2 σ)  (kq : (∀ (z0 : Int32) (z1 : VS), Q1 z0 z1 → Q2 z0 z1 → Q z0 z1)) : b_X2sharedOf_26  Q σ := by
  unfold b_X2sharedOf_26 at h1 h2 ⊢
  exact (kq _ _ h1 h2)
theorem am_X2sharedOf {Q1 Q2 Q : Int32 → VS → Prop} {p1 : Int32} {p2 : Int32} {σ : VS} (h1 : wp_X2sharedOf Q1 p1 p2 σ) (h2 : wp_X2sharedOf Q2 p1 p2 σ) (kq : (∀ (z0 : Int32) (z1 : VS), Q1 z0 z1 → Q2 z0 z1 → Q z0 z1)) : wp_X2sharedOf Q p1 p2 σ := by
  unfold wp_X2sharedOf at h1 h2 ⊢
  exact ⟨h1.1, ⟨(fun c0 => (ab_X2sharedOf_26 (h1.2.1 c0) (h2.2.1 c0) kq)), (fun c0 => ⟨(h1.2.2 c0).1, ⟨(fun c1 => ⟨((h1.2.2 c0).2.1 c1).1, ⟨((h1.2.2 c0).2.1 c1).2.1, (am_X0sharedOf ((h1.2.2 c0).2.1 c1).2.2 ((h2.2.2 c0).2.1 c1).2.2 (fun _ _ u2 v2 => (kq _ _ u2 v2)))⟩⟩), (fun c1 => (ab_X2sharedOf_26 ((h1.2.2 c0).2.2 c1) ((h2.2.2 c0).2.2 c1) kq))⟩⟩)⟩⟩
theorem ab_X9within_15  {Q1 Q2 Q : Int32 → VS → Prop} {k0 : Int32} {σ : VS} (h1 : b_X9within_15  Q1 k0 σ) (h2 : b_X9within_15  Q2 k0 σ)  (kq : (∀ (z0 : Int32) (z1 : VS), Q1 z0 z1 → Q2 z0 z1 → Q z0 z1)) : b_X9within_15  Q k0 σ := by
  unfold b_X9within_15 at h1 h2 ⊢
  exact ⟨h1.1, (kq _ _ h1.2 h2.2)⟩
theorem ab_X9within_14  {Q1 Q2 Q : Int32 → VS → Prop} {σ : VS} (h1 : b_X9within_14  Q1 σ) (h2 : b_X9within_14  Q2 σ)  (kq : (∀ (z0 : Int32) (z1 : VS), Q1 z0 z1 → Q2 z0 z1 → Q z0 z1)) : b_X9within_14  Q σ := by
  unfold b_X9within_14 at h1 h2 ⊢
  exact (ab_X9within_15 h1 h2 kq)
theorem am_X9within {Q1 Q2 Q : Int32 → VS → Prop} {p1 : Int32} {p2 : Int32} {p3 : Int32} {σ : VS} (h1 : wp_X9within Q1 p1 p2 p3 σ) (h2 : wp_X9within Q2 p1 p2 p3 σ) (kq : (∀ (z0 : Int32) (z1 : VS), Q1 z0 z1 → Q2 z0 z1 → Q z0 z1)) : wp_X9within Q p1 p2 p3 σ := by
  unfold wp_X9within at h1 h2 ⊢
  exact ⟨(fun c0 => (ab_X9within_14 (h1.1 c0) (h2.1 c0) kq)), (fun c0 => ⟨(fun c1 => (ab_X9within_14 ((h1.2 c0).1 c1) ((h2.2 c0).1 c1) kq)), (fun c1 => (ab_X9within_15 ((h1.2 c0).2 c1) ((h2.2 c0).2 c1) kq))⟩)⟩
theorem ab_X9hasOrAny_21  {Q1 Q2 Q : Int32 → VS → Prop} {k0 : Int32} {σ : VS} (h1 : b_X9hasOrAny_21  Q1 k0 σ) (h2 : b_X9hasOrAny_21  Q2 k0 σ)  (kq : (∀ (z0 : Int32) (z1 : VS), Q1 z0 z1 → Q2 z0 z1 → Q z0 z1)) : b_X9hasOrAny_21  Q k0 σ := by
  unfold b_X9hasOrAny_21 at h1 h2 ⊢
  exact ⟨h1.1, (kq _ _ h1.2 h2.2)⟩
theorem ab_X9hasOrAny_16  {Q1 Q2 Q : Int32 → VS → Prop} {σ : VS} (h1 : b_X9hasOrAny_16  Q1 σ) (h2 : b_X9hasOrAny_16  Q2 σ)  (kq : (∀ (z0 : Int32) (z1 : VS), Q1 z0 z1 → Q2 z0 z1 → Q z0 z1)) : b_X9hasOrAny_16  Q σ := by
  unfold b_X9hasOrAny_16 at h1 h2 ⊢
  exact (ab_X9hasOrAny_21 h1 h2 kq)
theorem am_X9hasOrAny {Q1 Q2 Q : Int32 → VS → Prop} {p1 : Int32} {σ : VS} (h1 : wp_X9hasOrAny Q1 p1 σ) (h2 : wp_X9hasOrAny Q2 p1 σ) (kq : (∀ (z0 : Int32) (z1 : VS), Q1 z0 z1 → Q2 z0 z1 → Q z0 z1)) : wp_X9hasOrAny Q p1 σ := by
  unfold wp_X9hasOrAny at h1 h2 ⊢
  exact ⟨(fun c0 => (ab_X9hasOrAny_16 (h1.1 c0) (h2.1 c0) kq)), (fun c0 => (am_X1has (h1.2 c0) (h2.2 c0) (fun _ _ u1 v1 => ⟨(fun c2 => (ab_X9hasOrAny_21 (u1.1 c2) (v1.1 c2) kq)), (fun c2 => (ab_X9hasOrAny_16 (u1.2 c2) (v1.2 c2) kq))⟩)))⟩
theorem am_X9forget {Q1 Q2 Q : VS → Prop} {σ : VS} (h1 : wp_X9forget Q1 σ) (h2 : wp_X9forget Q2 σ) (kq : (∀ (z0 : VS), Q1 z0 → Q2 z0 → Q z0)) : wp_X9forget Q σ := by
  unfold wp_X9forget at h1 h2 ⊢
  exact (kq _ h1 h2)
theorem ab_X9make_86  {Q1 Q2 Q : Int32 → VS → Prop} {l1 : Int32} {l3 : Int32} {k0 : Int32} {σ : VS} (h1 : b_X9make_86  Q1 l1 l3 k0 σ) (h2 : b_X9make_86  Q2 l1 l3 k0 σ)  (kq : (∀ (z0 : Int32) (z1 : VS), Q1 z0 z1 → Q2 z0 z1 → Q z0 z1)) : b_X9make_86  Q l1 l3 k0 σ := by
  unfold b_X9make_86 at h1 h2 ⊢
  exact (am_X9forget h1 h2 (fun _ u0 v0 => (am_X1addCell u0 v0 (fun _ _ u1 v1 => (kq _ _ u1 v1)))))
theorem ab_X9make_53  {Q1 Q2 Q : Int32 → VS → Prop} {l1 : Int32} {l2 : Int32} {l3 : Int32} {l4 : Int32} {σ : VS} (h1 : b_X9make_53  Q1 l1 l2 l3 l4 σ) (h2 : b_X9make_53  Q2 l1 l2 l3 l4 σ)  (kq : (∀ (z0 : Int32) (z1 : VS), Q1 z0 z1 → Q2 z0 z1 → Q z0 z1)) : b_X9make_53  Q l1 l2 l3 l4 σ := by
  unfold b_X9make_53 at h1 h2 ⊢
  exact ⟨(fun c0 => ⟨(fun c1 => ⟨(fun c2 => (ab_X9make_86 (((h1.1 c0).1 c1).1 c2) (((h2.1 c0).1 c1).1 c2) kq)), (fun c2 => (ab_X9make_86 (((h1.1 c0).1 c1).2 c2) (((h2.1 c0).1 c1).2 c2) kq))⟩), (fun c1 => (ab_X9make_86 ((h1.1 c0).2 c1) ((h2.1 c0).2 c1) kq))⟩), (fun c0 => (kq _ _ (h1.2 c0) (h2.2 c0)))⟩
theorem ab_X9make_35  {Q1 Q2 Q : Int32 → VS → Prop} {l1 : Int32} {l2 : Int32} {l3 : Int32} {k0 : Int32} {σ : VS} (h1 : b_X9make_35  Q1 l1 l2 l3 k0 σ) (h2 : b_X9make_35  Q2 l1 l2 l3 k0 σ)  (kq : (∀ (z0 : Int32) (z1 : VS), Q1 z0 z1 → Q2 z0 z1 → Q z0 z1)) : b_X9make_35  Q l1 l2 l3 k0 σ := by
  unfold b_X9make_35 at h1 h2 ⊢
  exact ⟨(fun c0 => (ab_X9make_53 (h1.1 c0) (h2.1 c0) kq)), (fun c0 => (am_X9within (h1.2 c0) (h2.2 c0) (fun _ _ u1 v1 => ⟨(fun c2 => (ab_X9make_53 (u1.1 c2) (v1.1 c2) kq)), (fun c2 => (kq _ _ (u1.2 c2) (v1.2 c2)))⟩)))⟩
theorem ab_X9make_34  {Q1 Q2 Q : Int32 → VS → Prop} {l1 : Int32} {l2 : Int32} {l3 : Int32} {σ : VS} (h1 : b_X9make_34  Q1 l1 l2 l3 σ) (h2 : b_X9make_34  Q2 l1 l2 l3 σ)  (kq : (∀ (z0 : Int32) (z1 : VS), Q1 z0 z1 → Q2 z0 z1 → Q z0 z1)) : b_X9make_34  Q l1 l2 l3 σ := by
  unfold b_X9make_34 at h1 h2 ⊢
  exact (ab_X9make_35 h1 h2 kq)
theorem ab_X9make_16  {Q1 Q2 Q : Int32 → VS → Prop} {σ : VS} (h1 : b_X9make_16  Q1 σ) (h2 : b_X9make_16  Q2 σ)  (kq : (∀ (z0 : Int32) (z1 : VS), Q1 z0 z1 → Q2 z0 z1 → Q z0 z1)) : b_X9make_16  Q σ := by
  unfold b_X9make_16 at h1 h2 ⊢
  exact (kq _ _ h1 h2)
theorem am_X9make {Q1 Q2 Q : Int32 → VS → Prop} {p1 : Int32} {p2 : Int32} {p3 : Int32} {σ : VS} (h1 : wp_X9make Q1 p1 p2 p3 σ) (h2 : wp_X9make Q2 p1 p2 p3 σ) (kq : (∀ (z0 : Int32) (z1 : VS), Q1 z0 z1 → Q2 z0 z1 → Q z0 z1)) : wp_X9make Q p1 p2 p3 σ := by
  unfold wp_X9make at h1 h2 ⊢
  exact ⟨(fun c0 => (ab_X9make_16 (h1.1 c0) (h2.1 c0) kq)), (fun c0 => ⟨(fun c1 => (ab_X9make_16 ((h1.2 c0).1 c1) ((h2.2 c0).1 c1) kq)), (fun c1 => (am_X5has ((h1.2 c0).2 c1) ((h2.2 c0).2 c1) (fun _ _ u2 v2 => ⟨(fun c3 => (am_X1isGateKind (u2.1 c3) (v2.1 c3) (fun _ _ u4 v4 => ⟨(fun c5 => (ab_X9make_34 (u4.1 c5) (v4.1 c5) kq)), (fun c5 => ⟨(fun c6 => (ab_X9make_34 ((u4.2 c5).1 c6) ((v4.2 c5).1 c6) kq)), (fun c6 => (ab_X9make_35 ((u4.2 c5).2 c6) ((v4.2 c5).2 c6) kq))⟩)⟩))), (fun c3 => (ab_X9make_16 (u2.2 c3) (v2.2 c3) kq))⟩)))⟩)⟩
theorem ab_X9wire_90  {Q1 Q2 Q : Int32 → VS → Prop} {l2 : Int32} {l3 : Int32} {k0 : Int32} {σ : VS} (h1 : b_X9wire_90  Q1 l2 l3 k0 σ) (h2 : b_X9wire_90  Q2 l2 l3 k0 σ)  (kq : (∀ (z0 : Int32) (z1 : VS), Q1 z0 z1 → Q2 z0 z1 → Q z0 z1)) : b_X9wire_90  Q l2 l3 k0 σ := by
  unfold b_X9wire_90 at h1 h2 ⊢
  exact (am_X1connect h1 h2 (fun _ _ u0 v0 => (kq _ _ u0 v0)))
theorem ab_X9wire_71  {Q1 Q2 Q : Int32 → VS → Prop} {l1 : Int32} {l2 : Int32} {l3 : Int32} {σ : VS} (h1 : b_X9wire_71  Q1 l1 l2 l3 σ) (h2 : b_X9wire_71  Q2 l1 l2 l3 σ)  (kq : (∀ (z0 : Int32) (z1 : VS), Q1 z0 z1 → Q2 z0 z1 → Q z0 z1)) : b_X9wire_71  Q l1 l2 l3 σ := by
  unfold b_X9wire_71 at h1 h2 ⊢
  exact (am_X9forget h1 h2 (fun _ u0 v0 => ⟨(fun c1 => (ab_X9wire_90 (u0.1 c1) (v0.1 c1) kq)), (fun c1 => (ab_X9wire_90 (u0.2 c1) (v0.2 c1) kq))⟩))
theorem ab_X9wire_51  {Q1 Q2 Q : Int32 → VS → Prop} {l1 : Int32} {l2 : Int32} {l3 : Int32} {σ : VS} (h1 : b_X9wire_51  Q1 l1 l2 l3 σ) (h2 : b_X9wire_51  Q2 l1 l2 l3 σ)  (kq : (∀ (z0 : Int32) (z1 : VS), Q1 z0 z1 → Q2 z0 z1 → Q z0 z1)) : b_X9wire_51  Q l1 l2 l3 σ := by
  unfold b_X9wire_51 at h1 h2 ⊢
  exact ⟨(fun c0 => (ab_X9wire_71 (h1.1 c0) (h2.1 c0) kq)), (fun c0 => (am_X1wouldRing (h1.2 c0) (h2.2 c0) (fun _ _ u1 v1 => ⟨(fun c2 => (ab_X9wire_71 (u1.1 c2) (v1.1 c2) kq)), (fun c2 => (kq _ _ (u1.2 c2) (v1.2 c2)))⟩)))⟩
theorem ab_X9wire_28  {Q1 Q2 Q : Int32 → VS → Prop} {σ : VS} (h1 : b_X9wire_28  Q1 σ) (h2 : b_X9wire_28  Q2 σ)  (kq : (∀ (z0 : Int32) (z1 : VS), Q1 z0 z1 → Q2 z0 z1 → Q z0 z1)) : b_X9wire_28  Q σ := by
  unfold b_X9wire_28 at h1 h2 ⊢
  exact (kq _ _ h1 h2)
theorem ab_X9wire_16  {Q1 Q2 Q : Int32 → VS → Prop} {l1 : Int32} {l2 : Int32} {l3 : Int32} {σ : VS} (h1 : b_X9wire_16  Q1 l1 l2 l3 σ) (h2 : b_X9wire_16  Q2 l1 l2 l3 σ)  (kq : (∀ (z0 : Int32) (z1 : VS), Q1 z0 z1 → Q2 z0 z1 → Q z0 z1)) : b_X9wire_16  Q l1 l2 l3 σ := by
  unfold b_X9wire_16 at h1 h2 ⊢
  exact (am_X1hasInput h1 h2 (fun _ _ u0 v0 => ⟨(fun c1 => ⟨(fun c2 => (ab_X9wire_51 ((u0.1 c1).1 c2) ((v0.1 c1).1 c2) kq)), (fun c2 => ⟨((u0.1 c1).2 c2).1, ⟨(fun c3 => (ab_X9wire_51 (((u0.1 c1).2 c2).2.1 c3) (((v0.1 c1).2 c2).2.1 c3) kq)), (fun c3 => (kq _ _ (((u0.1 c1).2 c2).2.2 c3) (((v0.1 c1).2 c2).2.2 c3)))⟩⟩)⟩), (fun c1 => (ab_X9wire_28 (u0.2 c1) (v0.2 c1) kq))⟩))
theorem am_X9wire {Q1 Q2 Q : Int32 → VS → Prop} {p1 : Int32} {p2 : Int32} {p3 : Int32} {σ : VS} (h1 : wp_X9wire Q1 p1 p2 p3 σ) (h2 : wp_X9wire Q2 p1 p2 p3 σ) (kq : (∀ (z0 : Int32) (z1 : VS), Q1 z0 z1 → Q2 z0 z1 → Q z0 z1)) : wp_X9wire Q p1 p2 p3 σ := by
  unfold wp_X9wire at h1 h2 ⊢
  exact ⟨(fun c0 => (ab_X9wire_16 (h1.1 c0) (h2.1 c0) kq)), (fun c0 => (am_X1has (h1.2 c0) (h2.2 c0) (fun _ _ u1 v1 => ⟨(fun c2 => (ab_X9wire_28 (u1.1 c2) (v1.1 c2) kq)), (fun c2 => (ab_X9wire_16 (u1.2 c2) (v1.2 c2) kq))⟩)))⟩
theorem ab_X9extra_22  {Q1 Q2 Q : Int32 → VS → Prop} {σ : VS} (h1 : b_X9extra_22  Q1 σ) (h2 : b_X9extra_22  Q2 σ)  (kq : (∀ (z0 : Int32) (z1 : VS), Q1 z0 z1 → Q2 z0 z1 → Q z0 z1)) : b_X9extra_22  Q σ := by
  unfold b_X9extra_22 at h1 h2 ⊢
  exact (kq _ _ h1 h2)
theorem am_X9extra {Q1 Q2 Q : Int32 → VS → Prop} {p1 : Int32} {p2 : Int32} {σ : VS} (h1 : wp_X9extra Q1 p1 p2 σ) (h2 : wp_X9extra Q2 p1 p2 σ) (kq : (∀ (z0 : Int32) (z1 : VS), Q1 z0 z1 → Q2 z0 z1 → Q z0 z1)) : wp_X9extra Q p1 p2 σ := by
  unfold wp_X9extra at h1 h2 ⊢
  exact (am_X1has h1 h2 (fun _ _ u0 v0 => ⟨(fun c1 => (ab_X9extra_22 (u0.1 c1) (v0.1 c1) kq)), (fun c1 => (am_X9within (u0.2 c1) (v0.2 c1) (fun _ _ u2 v2 => ⟨(fun c3 => ⟨(u2.1 c3).1, ⟨(fun c4 => ⟨((u2.1 c3).2.1 c4).1, (fun c5 => (fun c6 => ⟨((((u2.1 c3).2.1 c4).2 c5) c6).1, (am_X9forget ((((u2.1 c3).2.1 c4).2 c5) c6).2 ((((v2.1 c3).2.1 c4).2 c5) c6).2 (fun _ u7 v7 => (kq _ _ u7 v7)))⟩))⟩), (fun c4 => (kq _ _ ((u2.1 c3).2.2 c4) ((v2.1 c3).2.2 c4)))⟩⟩), (fun c3 => (ab_X9extra_22 (u2.2 c3) (v2.2 c3) kq))⟩)))⟩))
theorem ab_X9port_42  {Q1 Q2 Q : Int32 → VS → Prop} {σ : VS} (h1 : b_X9port_42  Q1 σ) (h2 : b_X9port_42  Q2 σ)  (kq : (∀ (z0 : Int32) (z1 : VS), Q1 z0 z1 → Q2 z0 z1 → Q z0 z1)) : b_X9port_42  Q σ := by
  unfold b_X9port_42 at h1 h2 ⊢
  exact (kq _ _ h1 h2)
theorem am_X9port {Q1 Q2 Q : Int32 → VS → Prop} {p1 : Int32} {p2 : Int32} {p3 : Int32} {p4 : Int32} {σ : VS} (h1 : wp_X9port Q1 p1 p2 p3 p4 σ) (h2 : wp_X9port Q2 p1 p2 p3 p4 σ) (kq : (∀ (z0 : Int32) (z1 : VS), Q1 z0 z1 → Q2 z0 z1 → Q z0 z1)) : wp_X9port Q p1 p2 p3 p4 σ := by
  unfold wp_X9port at h1 h2 ⊢
  exact (am_X1has h1 h2 (fun _ _ u0 v0 => ⟨(fun c1 => (ab_X9port_42 (u0.1 c1) (v0.1 c1) kq)), (fun c1 => (am_X9within (u0.2 c1) (v0.2 c1) (fun _ _ u2 v2 => ⟨(fun c3 => (ab_X9port_42 (u2.1 c3) (v2.1 c3) kq)), (fun c3 => (am_X9within (u2.2 c3) (v2.2 c3) (fun _ _ u4 v4 => ⟨(fun c5 => (ab_X9port_42 (u4.1 c5) (v4.1 c5) kq)), (fun c5 => (am_X9within (u4.2 c5) (v4.2 c5) (fun _ _ u6 v6 => ⟨(fun c7 => ⟨(u6.1 c7).1, ⟨(fun c8 => ⟨((u6.1 c7).2.1 c8).1, ⟨((u6.1 c7).2.1 c8).2.1, ⟨((u6.1 c7).2.1 c8).2.2.1, (am_X9forget ((u6.1 c7).2.1 c8).2.2.2 ((v6.1 c7).2.1 c8).2.2.2 (fun _ u9 v9 => (kq _ _ u9 v9)))⟩⟩⟩), (fun c8 => (kq _ _ ((u6.1 c7).2.2 c8) ((v6.1 c7).2.2 c8)))⟩⟩), (fun c7 => (ab_X9port_42 (u6.2 c7) (v6.2 c7) kq))⟩)))⟩)))⟩)))⟩))
theorem ab_X9target_71  {Q1 Q2 Q : Int32 → VS → Prop} {l1 : Int32} {l2 : Int32} {l3 : Int32} {l4 : Int32} {σ : VS} (h1 : b_X9target_71  Q1 l1 l2 l3 l4 σ) (h2 : b_X9target_71  Q2 l1 l2 l3 l4 σ)  (kq : (∀ (z0 : Int32) (z1 : VS), Q1 z0 z1 → Q2 z0 z1 → Q z0 z1)) : b_X9target_71  Q l1 l2 l3 l4 σ := by
  unfold b_X9target_71 at h1 h2 ⊢
  exact (am_X1isTarget h1 h2 (fun _ _ u0 v0 => ⟨(fun c1 => ⟨(u0.1 c1).1, ⟨(u0.1 c1).2.1, ⟨(u0.1 c1).2.2.1, (am_X9forget (u0.1 c1).2.2.2 (v0.1 c1).2.2.2 (fun _ u2 v2 => (kq _ _ u2 v2)))⟩⟩⟩), (fun c1 => (kq _ _ (u0.2 c1) (v0.2 c1)))⟩))
theorem ab_X9target_49  {Q1 Q2 Q : Int32 → VS → Prop} {σ : VS} (h1 : b_X9target_49  Q1 σ) (h2 : b_X9target_49  Q2 σ)  (kq : (∀ (z0 : Int32) (z1 : VS), Q1 z0 z1 → Q2 z0 z1 → Q z0 z1)) : b_X9target_49  Q σ := by
  unfold b_X9target_49 at h1 h2 ⊢
  exact (kq _ _ h1 h2)
theorem am_X9target {Q1 Q2 Q : Int32 → VS → Prop} {p1 : Int32} {p2 : Int32} {p3 : Int32} {p4 : Int32} {σ : VS} (h1 : wp_X9target Q1 p1 p2 p3 p4 σ) (h2 : wp_X9target Q2 p1 p2 p3 p4 σ) (kq : (∀ (z0 : Int32) (z1 : VS), Q1 z0 z1 → Q2 z0 z1 → Q z0 z1)) : wp_X9target Q p1 p2 p3 p4 σ := by
  unfold wp_X9target at h1 h2 ⊢
  exact (am_X1has h1 h2 (fun _ _ u0 v0 => ⟨(fun c1 => (ab_X9target_49 (u0.1 c1) (v0.1 c1) kq)), (fun c1 => (am_X0hasOrRoot (u0.2 c1) (v0.2 c1) (fun _ _ u2 v2 => ⟨(fun c3 => (ab_X9target_49 (u2.1 c3) (v2.1 c3) kq)), (fun c3 => (am_X9within (u2.2 c3) (v2.2 c3) (fun _ _ u4 v4 => ⟨(fun c5 => (ab_X9target_49 (u4.1 c5) (v4.1 c5) kq)), (fun c5 => (am_X9within (u4.2 c5) (v4.2 c5) (fun _ _ u6 v6 => ⟨(fun c7 => ⟨(u6.1 c7).1, ⟨(fun c8 => (ab_X9target_71 ((u6.1 c7).2.1 c8) ((v6.1 c7).2.1 c8) kq)), (fun c8 => ⟨(fun c9 => (ab_X9target_71 (((u6.1 c7).2.2 c8).1 c9) (((v6.1 c7).2.2 c8).1 c9) kq)), (fun c9 => (kq _ _ (((u6.1 c7).2.2 c8).2 c9) (((v6.1 c7).2.2 c8).2 c9)))⟩)⟩⟩), (fun c7 => (ab_X9target_49 (u6.2 c7) (v6.2 c7) kq))⟩)))⟩)))⟩)))⟩))
theorem ab_X9entry_31  {Q1 Q2 Q : Int32 → VS → Prop} {σ : VS} (h1 : b_X9entry_31  Q1 σ) (h2 : b_X9entry_31  Q2 σ)  (kq : (∀ (z0 : Int32) (z1 : VS), Q1 z0 z1 → Q2 z0 z1 → Q z0 z1)) : b_X9entry_31  Q σ := by
  unfold b_X9entry_31 at h1 h2 ⊢
  exact (kq _ _ h1 h2)
theorem am_X9entry {Q1 Q2 Q : Int32 → VS → Prop} {p1 : Int32} {p2 : Int32} {p3 : Int32} {p4 : Int32} {p5 : Int32} {σ : VS} (h1 : wp_X9entry Q1 p1 p2 p3 p4 p5 σ) (h2 : wp_X9entry Q2 p1 p2 p3 p4 p5 σ) (kq : (∀ (z0 : Int32) (z1 : VS), Q1 z0 z1 → Q2 z0 z1 → Q z0 z1)) : wp_X9entry Q p1 p2 p3 p4 p5 σ := by
  unfold wp_X9entry at h1 h2 ⊢
  exact (am_X5hasRow h1 h2 (fun _ _ u0 v0 => ⟨(fun c1 => (ab_X9entry_31 (u0.1 c1) (v0.1 c1) kq)), (fun c1 => (am_X9within (u0.2 c1) (v0.2 c1) (fun _ _ u2 v2 => ⟨(fun c3 => (ab_X9entry_31 (u2.1 c3) (v2.1 c3) kq)), (fun c3 => (am_X9within (u2.2 c3) (v2.2 c3) (fun _ _ u4 v4 => ⟨(fun c5 => (am_X5rowPlace (u4.1 c5) (v4.1 c5) (fun _ _ u6 v6 => (am_X5whyAbsent u6 v6 (fun _ _ u7 v7 => ⟨(fun c8 => ⟨(u7.1 c8).1, (fun c9 => (fun c10 => ⟨(((u7.1 c8).2 c9) c10).1, (am_X9forget (((u7.1 c8).2 c9) c10).2 (((v7.1 c8).2 c9) c10).2 (fun _ u11 v11 => (kq _ _ u11 v11)))⟩))⟩), (fun c8 => (kq _ _ (u7.2 c8) (v7.2 c8)))⟩))))), (fun c5 => (ab_X9entry_31 (u4.2 c5) (v4.2 c5) kq))⟩)))⟩)))⟩))
theorem ab_X9tear_19  {Q1 Q2 Q : Int32 → VS → Prop} {σ : VS} (h1 : b_X9tear_19  Q1 σ) (h2 : b_X9tear_19  Q2 σ)  (kq : (∀ (z0 : Int32) (z1 : VS), Q1 z0 z1 → Q2 z0 z1 → Q z0 z1)) : b_X9tear_19  Q σ := by
  unfold b_X9tear_19 at h1 h2 ⊢
  exact (kq _ _ h1 h2)
theorem am_X9tear {Q1 Q2 Q : Int32 → VS → Prop} {p1 : Int32} {p2 : Int32} {p3 : Int32} {p4 : Int32} {σ : VS} (h1 : wp_X9tear Q1 p1 p2 p3 p4 σ) (h2 : wp_X9tear Q2 p1 p2 p3 p4 σ) (kq : (∀ (z0 : Int32) (z1 : VS), Q1 z0 z1 → Q2 z0 z1 → Q z0 z1)) : wp_X9tear Q p1 p2 p3 p4 σ := by
  unfold wp_X9tear at h1 h2 ⊢
  exact (am_X5hasRow h1 h2 (fun _ _ u0 v0 => ⟨(fun c1 => (ab_X9tear_19 (u0.1 c1) (v0.1 c1) kq)), (fun c1 => (am_X9within (u0.2 c1) (v0.2 c1) (fun _ _ u2 v2 => ⟨(fun c3 => (am_X9forget (u2.1 c3) (v2.1 c3) (fun _ u4 v4 => (am_X5rowPlace u4 v4 (fun _ _ u5 v5 => (am_X5cutRow u5 v5 (fun _ _ u6 v6 => (kq _ _ u6 v6)))))))), (fun c3 => (ab_X9tear_19 (u2.2 c3) (v2.2 c3) kq))⟩)))⟩))
theorem ab_X9fall_18  {Q1 Q2 Q : Int32 → VS → Prop} {σ : VS} (h1 : b_X9fall_18  Q1 σ) (h2 : b_X9fall_18  Q2 σ)  (kq : (∀ (z0 : Int32) (z1 : VS), Q1 z0 z1 → Q2 z0 z1 → Q z0 z1)) : b_X9fall_18  Q σ := by
  unfold b_X9fall_18 at h1 h2 ⊢
  exact (kq _ _ h1 h2)
theorem am_X9fall {Q1 Q2 Q : Int32 → VS → Prop} {p1 : Int32} {p2 : Int32} {σ : VS} (h1 : wp_X9fall Q1 p1 p2 σ) (h2 : wp_X9fall Q2 p1 p2 σ) (kq : (∀ (z0 : Int32) (z1 : VS), Q1 z0 z1 → Q2 z0 z1 → Q z0 z1)) : wp_X9fall Q p1 p2 σ := by
  unfold wp_X9fall at h1 h2 ⊢
  exact (am_X5has h1 h2 (fun _ _ u0 v0 => ⟨(fun c1 => (ab_X9fall_18 (u0.1 c1) (v0.1 c1) kq)), (fun c1 => (am_X9within (u0.2 c1) (v0.2 c1) (fun _ _ u2 v2 => ⟨(fun c3 => ⟨(u2.1 c3).1, (fun c4 => (fun c5 => ⟨(((u2.1 c3).2 c4) c5).1, (am_X9forget (((u2.1 c3).2 c4) c5).2 (((v2.1 c3).2 c4) c5).2 (fun _ u6 v6 => (kq _ _ u6 v6)))⟩))⟩), (fun c3 => (ab_X9fall_18 (u2.2 c3) (v2.2 c3) kq))⟩)))⟩))
theorem ab_X9corner_22  {Q1 Q2 Q : Int32 → VS → Prop} {σ : VS} (h1 : b_X9corner_22  Q1 σ) (h2 : b_X9corner_22  Q2 σ)  (kq : (∀ (z0 : Int32) (z1 : VS), Q1 z0 z1 → Q2 z0 z1 → Q z0 z1)) : b_X9corner_22  Q σ := by
  unfold b_X9corner_22 at h1 h2 ⊢
  exact (kq _ _ h1 h2)
theorem am_X9corner {Q1 Q2 Q : Int32 → VS → Prop} {p1 : Int32} {p2 : Int32} {σ : VS} (h1 : wp_X9corner Q1 p1 p2 σ) (h2 : wp_X9corner Q2 p1 p2 σ) (kq : (∀ (z0 : Int32) (z1 : VS), Q1 z0 z1 → Q2 z0 z1 → Q z0 z1)) : wp_X9corner Q p1 p2 σ := by
  unfold wp_X9corner at h1 h2 ⊢
  exact (am_X9within h1 h2 (fun _ _ u0 v0 => ⟨(fun c1 => (ab_X9corner_22 (u0.1 c1) (v0.1 c1) kq)), (fun c1 => (am_X9within (u0.2 c1) (v0.2 c1) (fun _ _ u2 v2 => ⟨(fun c3 => (am_X9forget (u2.1 c3) (v2.1 c3) (fun _ u4 v4 => (kq _ _ u4 v4)))), (fun c3 => (ab_X9corner_22 (u2.2 c3) (v2.2 c3) kq))⟩)))⟩))
theorem am_X9period {Q1 Q2 Q : Int32 → VS → Prop} {p1 : Int32} {σ : VS} (h1 : wp_X9period Q1 p1 σ) (h2 : wp_X9period Q2 p1 σ) (kq : (∀ (z0 : Int32) (z1 : VS), Q1 z0 z1 → Q2 z0 z1 → Q z0 z1)) : wp_X9period Q p1 σ := by
  unfold wp_X9period at h1 h2 ⊢
  exact (am_X9within h1 h2 (fun _ _ u0 v0 => ⟨(fun c1 => (fun c2 => (fun c3 => (am_X9forget (((u0.1 c1) c2) c3) (((v0.1 c1) c2) c3) (fun _ u4 v4 => (kq _ _ u4 v4)))))), (fun c1 => (kq _ _ (u0.2 c1) (v0.2 c1)))⟩))
theorem ab_X9node_26  {Q1 Q2 Q : Int32 → VS → Prop} {σ : VS} (h1 : b_X9node_26  Q1 σ) (h2 : b_X9node_26  Q2 σ)  (kq : (∀ (z0 : Int32) (z1 : VS), Q1 z0 z1 → Q2 z0 z1 → Q z0 z1)) : b_X9node_26  Q σ := by
  unfold b_X9node_26 at h1 h2 ⊢
  exact (kq _ _ h1 h2)
theorem am_X9node {Q1 Q2 Q : Int32 → VS → Prop} {p1 : Int32} {p2 : Int32} {p3 : Int32} {σ : VS} (h1 : wp_X9node Q1 p1 p2 p3 σ) (h2 : wp_X9node Q2 p1 p2 p3 σ) (kq : (∀ (z0 : Int32) (z1 : VS), Q1 z0 z1 → Q2 z0 z1 → Q z0 z1)) : wp_X9node Q p1 p2 p3 σ := by
  unfold wp_X9node at h1 h2 ⊢
  exact (am_X0hasOrRoot h1 h2 (fun _ _ u0 v0 => ⟨(fun c1 => (ab_X9node_26 (u0.1 c1) (v0.1 c1) kq)), (fun c1 => ⟨(fun c2 => (ab_X9node_26 ((u0.2 c1).1 c2) ((v0.2 c1).1 c2) kq)), (fun c2 => ⟨(fun c3 => (ab_X9node_26 (((u0.2 c1).2 c2).1 c3) (((v0.2 c1).2 c2).1 c3) kq)), (fun c3 => ⟨(fun c4 => ⟨(fun c5 => (am_X0addNode (((((u0.2 c1).2 c2).2 c3).1 c4).1 c5) (((((v0.2 c1).2 c2).2 c3).1 c4).1 c5) (fun _ _ u6 v6 => (kq _ _ u6 v6)))), (fun c5 => (kq _ _ (((((u0.2 c1).2 c2).2 c3).1 c4).2 c5) (((((v0.2 c1).2 c2).2 c3).1 c4).2 c5)))⟩), (fun c4 => (ab_X9node_26 ((((u0.2 c1).2 c2).2 c3).2 c4) ((((v0.2 c1).2 c2).2 c3).2 c4) kq))⟩)⟩)⟩)⟩))
theorem ab_X9except_58  {Q1 Q2 Q : Int32 → VS → Prop} {l1 : Int32} {l2 : Int32} {l3 : Int32} {l4 : Int32} {σ : VS} (h1 : b_X9except_58  Q1 l1 l2 l3 l4 σ) (h2 : b_X9except_58  Q2 l1 l2 l3 l4 σ)  (kq : (∀ (z0 : Int32) (z1 : VS), Q1 z0 z1 → Q2 z0 z1 → Q z0 z1)) : b_X9except_58  Q l1 l2 l3 l4 σ := by
  unfold b_X9except_58 at h1 h2 ⊢
  exact ⟨(fun c0 => (am_X9forget (h1.1 c0) (h2.1 c0) (fun _ u1 v1 => (am_X3addRule u1 v1 (fun _ _ u2 v2 => (kq _ _ u2 v2)))))), (fun c0 => (kq _ _ (h1.2 c0) (h2.2 c0)))⟩
theorem ab_X9except_38  {Q1 Q2 Q : Int32 → VS → Prop} {σ : VS} (h1 : b_X9except_38  Q1 σ) (h2 : b_X9except_38  Q2 σ)  (kq : (∀ (z0 : Int32) (z1 : VS), Q1 z0 z1 → Q2 z0 z1 → Q z0 z1)) : b_X9except_38  Q σ := by
  unfold b_X9except_38 at h1 h2 ⊢
  exact (kq _ _ h1 h2)
theorem ab_X9except_13  {Q1 Q2 Q : Int32 → VS → Prop} {l1 : Int32} {l2 : Int32} {l3 : Int32} {l4 : Int32} {σ : VS} (h1 : b_X9except_13  Q1 l1 l2 l3 l4 σ) (h2 : b_X9except_13  Q2 l1 l2 l3 l4 σ)  (kq : (∀ (z0 : Int32) (z1 : VS), Q1 z0 z1 → Q2 z0 z1 → Q z0 z1)) : b_X9except_13  Q l1 l2 l3 l4 σ := by
  unfold b_X9except_13 at h1 h2 ⊢
  exact (am_X9hasOrAny h1 h2 (fun _ _ u0 v0 => ⟨(fun c1 => (ab_X9except_38 (u0.1 c1) (v0.1 c1) kq)), (fun c1 => (am_X9hasOrAny (u0.2 c1) (v0.2 c1) (fun _ _ u2 v2 => ⟨(fun c3 => (ab_X9except_38 (u2.1 c3) (v2.1 c3) kq)), (fun c3 => (am_X9hasOrAny (u2.2 c3) (v2.2 c3) (fun _ _ u4 v4 => ⟨(fun c5 => ⟨(fun c6 => (ab_X9except_58 ((u4.1 c5).1 c6) ((v4.1 c5).1 c6) kq)), (fun c6 => ⟨(fun c7 => (ab_X9except_58 (((u4.1 c5).2 c6).1 c7) (((v4.1 c5).2 c6).1 c7) kq)), (fun c7 => ⟨(fun c8 => (ab_X9except_58 ((((u4.1 c5).2 c6).2 c7).1 c8) ((((v4.1 c5).2 c6).2 c7).1 c8) kq)), (fun c8 => (kq _ _ ((((u4.1 c5).2 c6).2 c7).2 c8) ((((v4.1 c5).2 c6).2 c7).2 c8)))⟩)⟩)⟩), (fun c5 => (ab_X9except_38 (u4.2 c5) (v4.2 c5) kq))⟩)))⟩)))⟩))
theorem am_X9except {Q1 Q2 Q : Int32 → VS → Prop} {p1 : Int32} {p2 : Int32} {p3 : Int32} {p4 : Int32} {σ : VS} (h1 : wp_X9except Q1 p1 p2 p3 p4 σ) (h2 : wp_X9except Q2 p1 p2 p3 p4 σ) (kq : (∀ (z0 : Int32) (z1 : VS), Q1 z0 z1 → Q2 z0 z1 → Q z0 z1)) : wp_X9except Q p1 p2 p3 p4 σ := by
  unfold wp_X9except at h1 h2 ⊢
  exact ⟨(fun c0 => (ab_X9except_13 (h1.1 c0) (h2.1 c0) kq)), (fun c0 => (am_X9within (h1.2 c0) (h2.2 c0) (fun _ _ u1 v1 => ⟨(fun c2 => (ab_X9except_38 (u1.1 c2) (v1.1 c2) kq)), (fun c2 => (ab_X9except_13 (u1.2 c2) (v1.2 c2) kq))⟩)))⟩
theorem am_X9unexcept {Q1 Q2 Q : Int32 → VS → Prop} {σ : VS} (h1 : wp_X9unexcept Q1 σ) (h2 : wp_X9unexcept Q2 σ) (kq : (∀ (z0 : Int32) (z1 : VS), Q1 z0 z1 → Q2 z0 z1 → Q z0 z1)) : wp_X9unexcept Q σ := by
  unfold wp_X9unexcept at h1 h2 ⊢
  exact ⟨(fun c0 => (am_X9forget (h1.1 c0) (h2.1 c0) (fun _ u1 v1 => (am_X3dropLatest u1 v1 (fun _ _ u2 v2 => (kq _ _ u2 v2)))))), (fun c0 => (kq _ _ (h1.2 c0) (h2.2 c0)))⟩
theorem ab_X9takes_29  {Q1 Q2 Q : Int32 → VS → Prop} {k0 : Int32} {σ : VS} (h1 : b_X9takes_29  Q1 k0 σ) (h2 : b_X9takes_29  Q2 k0 σ)  (kq : (∀ (z0 : Int32) (z1 : VS), Q1 z0 z1 → Q2 z0 z1 → Q z0 z1)) : b_X9takes_29  Q k0 σ := by
  unfold b_X9takes_29 at h1 h2 ⊢
  exact (kq _ _ h1 h2)
theorem am_X9takes {Q1 Q2 Q : Int32 → VS → Prop} {p1 : Int32} {p2 : Int32} {σ : VS} (h1 : wp_X9takes Q1 p1 p2 σ) (h2 : wp_X9takes Q2 p1 p2 σ) (kq : (∀ (z0 : Int32) (z1 : VS), Q1 z0 z1 → Q2 z0 z1 → Q z0 z1)) : wp_X9takes Q p1 p2 σ := by
  unfold wp_X9takes at h1 h2 ⊢
  exact (am_X1hasInput h1 h2 (fun _ _ u0 v0 => ⟨(fun c1 => (ab_X9takes_29 (u0.1 c1) (v0.1 c1) kq)), (fun c1 => ⟨(u0.2 c1).1, (ab_X9takes_29 (u0.2 c1).2 (v0.2 c1).2 kq)⟩)⟩))
theorem ab_X9common_35  {Q1 Q2 Q : Int32 → VS → Prop} {k0 : Int32} {σ : VS} (h1 : b_X9common_35  Q1 k0 σ) (h2 : b_X9common_35  Q2 k0 σ)  (kq : (∀ (z0 : Int32) (z1 : VS), Q1 z0 z1 → Q2 z0 z1 → Q z0 z1)) : b_X9common_35  Q k0 σ := by
  unfold b_X9common_35 at h1 h2 ⊢
  exact (kq _ _ h1 h2)
theorem ab_X9common_34  {Q1 Q2 Q : Int32 → VS → Prop} {σ : VS} (h1 : b_X9common_34  Q1 σ) (h2 : b_X9common_34  Q2 σ)  (kq : (∀ (z0 : Int32) (z1 : VS), Q1 z0 z1 → Q2 z0 z1 → Q z0 z1)) : b_X9common_34  Q σ := by
  unfold b_X9common_34 at h1 h2 ⊢
  exact (ab_X9common_35 h1 h2 kq)
theorem am_X9common {Q1 Q2 Q : Int32 → VS → Prop} {p1 : Int32} {p2 : Int32} {σ : VS} (h1 : wp_X9common Q1 p1 p2 σ) (h2 : wp_X9common Q2 p1 p2 σ) (kq : (∀ (z0 : Int32) (z1 : VS), Q1 z0 z1 → Q2 z0 z1 → Q z0 z1)) : wp_X9common Q p1 p2 σ := by
  unfold wp_X9common at h1 h2 ⊢
  exact (am_X1has h1 h2 (fun _ _ u0 v0 => ⟨(fun c1 => (ab_X9common_34 (u0.1 c1) (v0.1 c1) kq)), (fun c1 => (am_X1has (u0.2 c1) (v0.2 c1) (fun _ _ u2 v2 => ⟨(fun c3 => (ab_X9common_34 (u2.1 c3) (v2.1 c3) kq)), (fun c3 => (am_X2sharedOf (u2.2 c3) (v2.2 c3) (fun _ _ u4 v4 => (ab_X9common_35 u4 v4 kq))))⟩)))⟩))
