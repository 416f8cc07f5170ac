/-! ABOUT, SIZE ON BOTH SIDES -/
def srcK (D : Nat → Nat → Int) (c : Nat) : Int := if D 0 c = 5 then D 5 (4 * c) else (c : Int)
def AbR (D V : Nat → Nat → Int) (c : Nat) (p r : Int) : Prop := (p = 0 → r = D 0 c) ∧ (p = 1 → r = D 1 c) ∧ (p = 2 → r = D 4 c) ∧ (p = 3 → r = D 3 c) ∧ (p = 4 → ((0 ≤ srcK D c ∧ V 0 (srcK D c).toNat ≠ 0) → r = 1) ∧ (¬ (0 ≤ srcK D c ∧ V 0 (srcK D c).toNat ≠ 0) → r = 0)) ∧ (p = 5 → ((0 ≤ srcK D c ∧ V 1 (srcK D c).toNat ≠ 0) → (D 0 c ≠ 5 → r = V 1 c) ∧ (D 0 c = 5 → r = 1)) ∧ (¬ (0 ≤ srcK D c ∧ V 1 (srcK D c).toNat ≠ 0) → r = 0))
theorem AbR.lo {D V : Nat → Nat → Int} {c : Nat} {p r : Int} (h : p < 4) (h0 : p = 0 → r = D 0 c) (h1 : p = 1 → r = D 1 c) (h2 : p = 2 → r = D 4 c) (h3 : p = 3 → r = D 3 c) : AbR D V c p r := ⟨h0, h1, h2, h3, fun z => absurd z (by omega), fun z => absurd z (by omega)⟩
theorem AbR.a4 {D V : Nat → Nat → Int} {c : Nat} {p r : Int} (h : p = 4) (h1 : (0 ≤ srcK D c ∧ V 0 (srcK D c).toNat ≠ 0) → r = 1) (h2 : ¬ (0 ≤ srcK D c ∧ V 0 (srcK D c).toNat ≠ 0) → r = 0) : AbR D V c p r := ⟨fun z => absurd z (by omega), fun z => absurd z (by omega), fun z => absurd z (by omega), fun z => absurd z (by omega), fun _ => ⟨h1, h2⟩, fun z => absurd z (by omega)⟩
theorem AbR.a5 {D V : Nat → Nat → Int} {c : Nat} {p r : Int} (h : p = 5) (h1 : (0 ≤ srcK D c ∧ V 1 (srcK D c).toNat ≠ 0) → (D 0 c ≠ 5 → r = V 1 c) ∧ (D 0 c = 5 → r = 1)) (h2 : ¬ (0 ≤ srcK D c ∧ V 1 (srcK D c).toNat ≠ 0) → r = 0) : AbR D V c p r := ⟨fun z => absurd z (by omega), fun z => absurd z (by omega), fun z => absurd z (by omega), fun z => absurd z (by omega), fun z => absurd z (by omega), fun _ => ⟨h1, h2⟩⟩
theorem ld5 {τ : VS} (Z : Dz τ) (M : MI τ) {c : Nat} (hc : c < nC τ) (k : vv τ 2 c = 5) : dM τ 3 c = 0 := by
  have g := ldF_gap (x := xtM τ c) (src := vv τ 7) (sz := szM τ) (c := (c : Int)) (a := 0) (nC τ * 4) (by omega) (fun w _ hw e => by
    have q := Z.2.2 w (by omega) (by omega)
    rw [e] at q
    exact q k)
  rw [dM_3 hc, ← g]
  show xtM τ c = 0
  unfold xtM
  rw [if_pos k]
theorem rx_about {Q : Int32 → VS → Prop} {p1 p2 : Int32} {τ : VS} {c : Nat} (B : RB τ) (ec : p1.toInt = (c : Int)) (cn : c < nC τ) (hp : 0 ≤ p2.toInt ∧ p2.toInt ≤ 5) (hq : ∀ (r : Int32) (y : VS), RQ τ y → (∀ a, a < nC τ → LE2 (dM τ) (vM y) (vM y) a) → AbR (dM τ) (vM y) c p2.toInt r.toInt → Q r y) : wp_about Q p1 p2 τ := by
  have M : MI τ := B.1
  have a1 : 0 ≤ (τ.1 1).toInt ∧ (τ.1 1).toInt ≤ 50 := M.1 1
  have en : (τ.1 1).toInt = ((nC τ : Nat) : Int) := by unfold nC; omega
  unfold wp_about
  refine cell_x (fun _ => ⟨fun w => absurd w (by decide), fun _ => ⟨fun w => by omega, fun _ => ⟨fun _ => ?_, fun w => by omega⟩⟩⟩) (fun z => absurd ⟨by omega, by omega⟩ z)
  refine rx_timeQ B (fun y Ry Ty Ly => ?_)
  have My : MI y := Ry.1.1
  have ny : nC y = nC τ := by unfold nC; rw [Ry.2.1 1 (by decide)]
  have dy : dM y = dM τ := dM_q Ry.2 (by decide) (by decide) (vv_eo Ry.2 (by decide))
  have c5 : c < 50 := by omega
  have k2 : (rd y 2 p1).toInt = dM τ 0 c := by rw [vv_rd ec, vv_eo Ry.2 (by decide), dM_0 cn]
  have u4 : (4 * p1).toInt = ((4 * c : Nat) : Int) := by
    have w : (4 * p1).toInt = 4 * (c : Int) := i3_mulc (show (4 : Int32).toInt = 4 from rfl) ec rfl (by omega)
    omega
  have e5 : dM τ 5 (4 * c) = vv τ 7 (4 * c) := d5M M (by omega)
  have b7 : vv τ 7 (4 * c) ≤ 49 := by
    have q : -1 ≤ vv τ 7 (4 * c) ∧ vv τ 7 (4 * c) ≤ 49 := M.2 7 (4 * c)
    exact q.2
  have r7 : (rd y 7 (4 * p1)).toInt = vv τ 7 (4 * c) := by rw [vv_rd u4, vv_eo Ry.2 (by decide)]
  have sK : srcK (dM τ) c ≤ 49 := by
    unfold srcK
    by_cases z : dM τ 0 c = 5
    · rw [if_pos z, e5]; exact b7
    · rw [if_neg z]; omega
  have body : ∀ k0 : Int32, k0.toInt = srcK (dM τ) c → b_about_45 Q p1 p2 k0 y := fun k0 ek => by
    have at0 : 0 ≤ k0.toInt → (rd y 34 k0).toInt = vM y 0 (srcK (dM τ) c).toNat ∧ (rd y 35 k0).toInt = vM y 1 (srcK (dM τ) c).toNat := fun z => by
      have en0 : k0.toInt = (((srcK (dM τ) c).toNat : Nat) : Int) := by omega
      exact ⟨vv_rd en0, vv_rd en0⟩
    unfold b_about_45 b_about_120 b_about_138 b_about_139 b_about_153 b_about_177
    refine ⟨fun z => ⟨⟨by omega, by omega⟩, hq _ y Ry Ly (AbR.lo (by omega) (fun _ => k2) (fun w => by omega) (fun w => by omega) (fun w => by omega))⟩, fun z => ⟨⟨by omega, by omega⟩, hq _ y Ry Ly (AbR.lo (by omega) (fun w => by omega) (fun _ => ?_) (fun w => by omega) (fun w => by omega))⟩, fun z => ⟨⟨by omega, by omega⟩, hq _ y Ry Ly (AbR.lo (by omega) (fun w => by omega) (fun w => by omega) (fun _ => ?_) (fun w => by omega))⟩, fun z => ⟨⟨by omega, by omega⟩, fun n5 => ?_, fun y5 => hq _ y Ry Ly (AbR.lo (by omega) (fun w => by omega) (fun w => by omega) (fun w => by omega) (fun _ => ?_))⟩, fun z => ?_, fun z => ?_⟩
    · rw [vv_rd ec, vv_eo Ry.2 (by decide), dM_1 cn]
    · rw [vv_rd ec, vv_eo Ry.2 (by decide), dM_4 cn]
    · refine rx_load ec c5 My Ry.1.2.2.1 (fun r er _ => hq r y Ry Ly (AbR.lo (by omega) (fun w => by omega) (fun w => by omega) (fun w => by omega) (fun _ => ?_)))
      rw [← dy, dM_3 (by omega)]
      exact er
    · rw [k2, dM_0 cn] at y5
      rw [ld5 B.2.2.2.1 M cn y5]; rfl
    · refine ⟨fun neg => hq _ y Ry Ly (AbR.a4 z (fun w => by omega) (fun _ => rfl)), fun pos => ⟨⟨by omega, by omega⟩, fun v0 => hq _ y Ry Ly (AbR.a4 z (fun w => ?_) (fun _ => rfl)), fun v0 => hq _ y Ry Ly (AbR.a4 z (fun _ => rfl) (fun w => ?_))⟩⟩
      · rw [(at0 pos).1] at v0
        exact absurd v0 w.2
      · rw [(at0 pos).1] at v0
        exact absurd ⟨by omega, v0⟩ w
    · have z5 : p2.toInt = 5 := by omega
      refine ⟨fun neg => hq _ y Ry Ly (AbR.a5 z5 (fun w => by omega) (fun _ => rfl)), fun pos => ⟨⟨by omega, by omega⟩, fun v1 => ⟨⟨by omega, by omega⟩, fun n5 => ⟨⟨by omega, by omega⟩, hq _ y Ry Ly (AbR.a5 z5 (fun w => ⟨fun _ => ?_, fun q => ?_⟩) (fun w => ?_))⟩, fun y5 => hq _ y Ry Ly (AbR.a5 z5 (fun w => ⟨fun q => ?_, fun _ => rfl⟩) (fun w => ?_))⟩, fun v1 => hq _ y Ry Ly (AbR.a5 z5 (fun w => ?_) (fun _ => rfl))⟩⟩
      · rw [(at0 pos).2]
        rw [k2] at n5
        have e : (srcK (dM τ) c).toNat = c := by
          unfold srcK
          rw [if_neg n5]; omega
        rw [e]
      · rw [k2] at n5
        exact absurd q n5
      · rw [(at0 pos).2] at v1
        exact absurd ⟨by omega, v1⟩ w
      · rw [k2] at y5
        exact absurd y5 q
      · rw [(at0 pos).2] at v1
        exact absurd ⟨by omega, v1⟩ w
      · rw [(at0 pos).2] at v1
        exact absurd v1 w.2
  refine ⟨⟨by omega, by omega⟩, fun n5 => body p1 ?_, fun y5 => ⟨⟨by omega, by omega⟩, body _ ?_⟩⟩
  · rw [k2] at n5
    unfold srcK
    rw [if_neg n5]; exact ec
  · rw [k2] at y5
    unfold srcK
    rw [if_pos y5, r7, e5]
theorem rx_abR {Q : Int32 → VS → Prop} {p1 p2 : Int32} {τ : VS} (h : ¬ ((0 ≤ p1.toInt ∧ p1.toInt < (τ.1 1).toInt) ∧ 0 ≤ p2.toInt ∧ p2.toInt ≤ 5)) (hq : Q (-1) τ) : wp_about Q p1 p2 τ := by
  unfold wp_about
  exact cell_x (fun z => ⟨fun w => absurd w (by decide), fun _ => ⟨fun _ => hq, fun a => ⟨fun b => absurd ⟨z, a, b⟩ h, fun _ => hq⟩⟩⟩) (fun _ => ⟨fun _ => hq, fun w => absurd rfl w⟩)
theorem Ju.sK {σ τ : VS} (J : Ju σ τ) {c : Nat} (cn : c < nCl σ) : srcK (dC σ) c < (nCl σ : Int) := by
  obtain ⟨ρ, hW⟩ := J.1.wo
  unfold srcK
  by_cases z : dC σ 0 c = 5
  · rw [if_pos z]
    by_cases p : 0 ≤ dC σ 5 (4 * c)
    · have q := (hW.2.2.2.2 (4 * c) (by omega) p).1
      omega
    · omega
  · rw [if_neg z]; omega
theorem cx_about {Q : Int32 → VS → Prop} {p1 p2 : Int32} {σ τ : VS} {c : Nat} (J : Ju σ τ) (ec : p1.toInt = (c : Int)) (cn : c < nCl σ) (hp : 0 ≤ p2.toInt ∧ p2.toInt ≤ 5) (hq : ∀ (r : Int32) (x : VS), CQ σ τ x → ((p2.toInt = 4 ∨ p2.toInt = 5) → ∀ a, a < nCl σ → LE2 (dC σ) (vC x) (vC x) a) → AbR (dC σ) (vC x) c p2.toInt r.toInt → Q r x) : wp_X9about Q p1 p2 σ := by
  have hM : CI σ := J.cbt.ci
  have a2 : 0 ≤ (σ.1 2).toInt ∧ (σ.1 2).toInt ≤ 50 := hM.1 2
  have en : (σ.1 2).toInt = ((nCl σ : Nat) : Int) := by unfold nCl; omega
  have c5 : c < 50 := by omega
  have d0 : dC σ 0 c = vv σ 11 c := dC_0 cn
  have u4 : (p1 * 4).toInt = ((4 * c : Nat) : Int) := by
    have w : (p1 * 4).toInt = (c : Int) * 4 := i3_mulc ec (show (4 : Int32).toInt = 4 from rfl) rfl (by omega)
    omega
  have e5 : dC σ 5 (4 * c) = max (vv σ 16 (4 * c)) (-1) := dC_5 (by omega)
  have k11 : ∀ x : VS, CQ σ τ x → (rd x 11 p1).toInt = dC σ 0 c := fun x Cx => by rw [vv_rd ec, vv_eo Cx.2.1 (by decide), d0]
  unfold wp_X9about
  refine xhas_x (fun _ => ⟨fun _ => ?_, fun w => absurd w (by decide)⟩) (fun z => absurd ⟨by omega, by omega⟩ z)
  refine ⟨fun z => ⟨⟨by omega, by omega⟩, hq _ σ J.cq (fun w => by omega) (AbR.lo (by omega) (fun _ => ?_) (fun w => by omega) (fun w => by omega) (fun w => by omega))⟩, fun z => ⟨⟨by omega, by omega⟩, hq _ σ J.cq (fun w => by omega) (AbR.lo (by omega) (fun w => by omega) (fun _ => ?_) (fun w => by omega) (fun w => by omega))⟩, fun z => ⟨⟨by omega, by omega⟩, hq _ σ J.cq (fun w => by omega) (AbR.lo (by omega) (fun w => by omega) (fun w => by omega) (fun _ => ?_) (fun w => by omega))⟩, fun z => ?_, fun z => ?_, fun z => ?_, fun z => by omega⟩
  · rw [vv_rd ec, d0]
  · rw [vv_rd ec, dC_1 cn]
  · rw [vv_rd ec, dC_4 cn]
  · refine cx_loadOf ec cn hM J.1.2.2.2.2.2 (fun r er _ => hq r σ J.cq (fun w => by omega) (AbR.lo (by omega) (fun w => by omega) (fun w => by omega) (fun w => by omega) (fun _ => ?_)))
    rw [dC_3 cn]; exact er
  · refine cx_timeQ J (fun x Cx Lx Ax => ?_)
    have Mx : CI x := Cx.1.ci
    have v16 : vv x 16 = vv σ 16 := vv_eo Cx.2.1 (by decide)
    have b39 : 0 ≤ vv x 39 c ∧ vv x 39 c ≤ 1 := Mx.2 39 c
    have kk := k11 x Cx
    have r39 : (rd x 39 p1).toInt = vC x 0 c := vv_rd ec
    unfold wp_X6isReached b_X6isReached_29 b_X9about_111
    refine ⟨⟨by omega, by omega⟩, fun n5 => ⟨⟨by omega, by omega⟩, ⟨by rw [vv_rd ec]; exact b39.1, by rw [vv_rd ec]; exact b39.2⟩, fun w => hq 0 x Cx (fun _ => Lx) (AbR.a4 z (fun q => ?_) (fun _ => rfl)), fun w => hq 1 x Cx (fun _ => Lx) (AbR.a4 z (fun _ => rfl) (fun q => ?_))⟩, fun y5 => ?_⟩
    · rw [kk] at n5
      unfold srcK at q
      rw [if_neg n5] at q
      have q2 := q.2
      rw [show ((c : Int)).toNat = c by omega] at q2
      exact absurd (r39.symm.trans w) q2
    · rw [kk] at n5
      unfold srcK at q
      rw [if_neg n5, show ((c : Int)).toNat = c by omega] at q
      exact absurd ⟨by omega, fun z2 => w (r39.trans z2)⟩ q
    · rw [kk] at y5
      have sE : srcK (dC σ) c = max (vv σ 16 (4 * c)) (-1) := by
        unfold srcK
        rw [if_pos y5, e5]
      refine cx_inR u4 (by omega) Mx (fun p v => ⟨⟨by decide, by decide⟩, fun w => absurd w (by decide), fun _ => hq 1 x Cx (fun _ => Lx) (AbR.a4 z (fun _ => rfl) (fun q => ?_))⟩) (fun n => ⟨⟨by decide, by decide⟩, fun _ => hq 0 x Cx (fun _ => Lx) (AbR.a4 z (fun q => ?_) (fun _ => rfl)), fun w => absurd rfl w⟩)
      · rw [v16] at p v
        have e : srcK (dC σ) c = vv σ 16 (4 * c) := by omega
        rw [e] at q
        exact absurd ⟨p, v⟩ q
      · rw [v16] at n
        have e : srcK (dC σ) c = vv σ 16 (4 * c) := by
          have q1 := q.1
          omega
        rw [e] at q
        exact absurd q n
  · refine cx_timeQ J (fun x Cx Lx Ax => ?_)
    have Mx : CI x := Cx.1.ci
    have v16 : vv x 16 = vv σ 16 := vv_eo Cx.2.1 (by decide)
    have kk := k11 x Cx
    have r40 : (rd x 40 p1).toInt = vC x 1 c := vv_rd ec
    unfold wp_X6whyOpen b_X6whyOpen_28
    refine ⟨⟨by omega, by omega⟩, fun n5 => ⟨⟨by omega, by omega⟩, hq _ x Cx (fun _ => Lx) (AbR.a5 z (fun q => ⟨fun _ => r40, fun w => ?_⟩) (fun q => ?_))⟩, fun y5 => ?_⟩
    · rw [kk] at n5
      exact absurd w n5
    · rw [kk] at n5
      unfold srcK at q
      rw [if_neg n5, show ((c : Int)).toNat = c by omega] at q
      rw [r40]
      exact Decidable.not_not.mp (fun w => q ⟨by omega, w⟩)
    · rw [kk] at y5
      have sE : srcK (dC σ) c = max (vv σ 16 (4 * c)) (-1) := by
        unfold srcK
        rw [if_pos y5, e5]
      refine cx_inO u4 (by omega) Mx (fun p v => ⟨fun w => absurd w (by decide), fun _ => hq 1 x Cx (fun _ => Lx) (AbR.a5 z (fun _ => ⟨fun w => absurd y5 w, fun _ => rfl⟩) (fun q => ?_))⟩) (fun n => ⟨fun _ => hq 0 x Cx (fun _ => Lx) (AbR.a5 z (fun q => ?_) (fun _ => rfl)), fun w => absurd rfl w⟩)
      · rw [v16] at p v
        have e : srcK (dC σ) c = vv σ 16 (4 * c) := by omega
        rw [e] at q
        exact absurd ⟨p, v⟩ q
      · rw [v16] at n
        have e : srcK (dC σ) c = vv σ 16 (4 * c) := by
          have q1 := q.1
          omega
        rw [e] at q
        exact absurd q n
theorem qu_about {p1 p2 : Int32} {σ τ : VS} (J : Ju σ τ) : wp_X9about (fun r σ' => wp_about (fun r2 τ' => r = r2 ∧ Ju σ' τ') p1 p2 τ) p1 p2 σ := by
  obtain ⟨wd, wu, wn, wr, wl⟩ := J.wd
  have nn := J.nn
  by_cases ok : (0 ≤ p1.toInt ∧ p1.toInt < (σ.1 2).toInt) ∧ 0 ≤ p2.toInt ∧ p2.toInt ≤ 5
  · obtain ⟨c, ec, cn, c5, kd, kb⟩ := J.cell ok.1
    obtain ⟨ρ, hW⟩ := J.1.wo
    refine cx_about J ec cn ok.2 (fun r x Cx Lx ax => ?_)
    refine rx_about J.rb ec (by omega) ok.2 (fun r2 y Ry Ly ay => ⟨Int32.toInt_inj.mp ?_, J.qq Cx Ry⟩)
    rw [← wd] at ay
    obtain ⟨x0, x1, x2, x3, x4, x5⟩ := ax
    obtain ⟨y0, y1, y2, y3, y4, y5⟩ := ay
    rcases (show p2.toInt = 0 ∨ p2.toInt = 1 ∨ p2.toInt = 2 ∨ p2.toInt = 3 ∨ p2.toInt = 4 ∨ p2.toInt = 5 by omega) with p | p | p | p | p | p
    · rw [x0 p, y0 p]
    · rw [x1 p, y1 p]
    · rw [x2 p, y2 p]
    · rw [x3 p, y3 p]
    · have Ly' : ∀ a, a < nCl σ → LE2 (dC σ) (vM y) (vM y) a := fun a ha => by rw [wd]; exact Ly a (by omega)
      have U := un_le hW.1 hW.2.1 (Lx (Or.inl p)) Ly'
      have sk := J.sK cn
      obtain ⟨xa, xb⟩ := x4 p
      obtain ⟨ya, yb⟩ := y4 p
      by_cases z : 0 ≤ srcK (dC σ) c ∧ vC x 0 (srcK (dC σ) c).toNat ≠ 0
      · have u := (U (srcK (dC σ) c).toNat (by have q := z.1; omega)).1.1
        rw [xa z, ya ⟨z.1, by rw [← u]; exact z.2⟩]
      · refine (xb z).trans (yb (fun q => z ⟨q.1, ?_⟩)).symm
        have u := (U (srcK (dC σ) c).toNat (by have q1 := q.1; omega)).1.1
        rw [u]; exact q.2
    · have Ly' : ∀ a, a < nCl σ → LE2 (dC σ) (vM y) (vM y) a := fun a ha => by rw [wd]; exact Ly a (by omega)
      have U := un_le hW.1 hW.2.1 (Lx (Or.inr p)) Ly'
      have sk := J.sK cn
      obtain ⟨xa, xb⟩ := x5 p
      obtain ⟨ya, yb⟩ := y5 p
      by_cases z : 0 ≤ srcK (dC σ) c ∧ vC x 1 (srcK (dC σ) c).toNat ≠ 0
      · have u := (U (srcK (dC σ) c).toNat (by have q := z.1; omega)).1.2.1
        have u2 := (U c cn).1.2.1
        obtain ⟨xa1, xa2⟩ := xa z
        obtain ⟨ya1, ya2⟩ := ya ⟨z.1, by rw [← u]; exact z.2⟩
        by_cases k : dC σ 0 c = 5
        · rw [xa2 k, ya2 k]
        · rw [xa1 k, ya1 k, u2]
      · refine (xb z).trans (yb (fun q => z ⟨q.1, ?_⟩)).symm
        have u := (U (srcK (dC σ) c).toNat (by have q1 := q.1; omega)).1.2.1
        rw [u]; exact q.2
  · unfold wp_X9about
    refine xhas_x (fun h => ⟨fun _ => ?_, fun w => absurd w (by decide)⟩) (fun h => ⟨fun w => absurd rfl w, fun _ => rx_abR (fun z => ok ⟨⟨z.1.1, by have q := z.1.2; omega⟩, z.2⟩) ⟨rfl, J⟩⟩)
    have out : ¬ (0 ≤ p2.toInt ∧ p2.toInt ≤ 5) := fun z => ok ⟨h, z⟩
    exact ⟨fun z => absurd ⟨by omega, by omega⟩ out, fun z => absurd ⟨by omega, by omega⟩ out, fun z => absurd ⟨by omega, by omega⟩ out, fun z => absurd ⟨by omega, by omega⟩ out, fun z => absurd ⟨by omega, by omega⟩ out, fun z => absurd ⟨by omega, by omega⟩ out, fun _ => rx_abR (fun z => out z.2) ⟨rfl, J⟩⟩
theorem qu_size {p1 p2 : Int32} {σ τ : VS} (J : Ju σ τ) : wp_X9size (fun r σ' => wp_size (fun r2 τ' => r = r2 ∧ Ju σ' τ') p1 p2 τ) p1 p2 σ := by
  have nn := J.nn
  have hM : CI σ := J.cbt.ci
  have i0 : (0 : Int32).toInt = 0 := rfl
  have i2 : (2 : Int32).toInt = 2 := rfl
  have a1 : 0 ≤ (τ.1 1).toInt ∧ (τ.1 1).toInt ≤ 50 := J.rb.1.1 1
  have rej : ¬ ((0 ≤ p1.toInt ∧ p1.toInt < (τ.1 1).toInt) ∧ 0 ≤ p2.toInt ∧ p2.toInt ≤ 2) → wp_size (fun r2 τ' => (-1 : Int32) = r2 ∧ Ju σ τ') p1 p2 τ := fun h => by
    unfold wp_size
    exact cell_x (fun z => ⟨fun w => absurd w (by decide), fun _ => ⟨fun _ => ⟨rfl, J⟩, fun a => ⟨fun b => absurd ⟨z, a, b⟩ h, fun _ => ⟨rfl, J⟩⟩⟩⟩) (fun _ => ⟨fun _ => ⟨rfl, J⟩, fun w => absurd rfl w⟩)
  unfold wp_X9size b_X9size_20
  refine xhas_x (fun h => ⟨fun w => absurd w (by decide), fun _ => ?_⟩) (fun h => ⟨fun _ => rej (fun z => h ⟨z.1.1, by have q := z.1.2; omega⟩), fun w => absurd rfl w⟩)
  obtain ⟨c, ec, cn, c5, kd, kb⟩ := J.cell h
  refine xwithin_x (fun h2 => ⟨fun _ => ?_, fun w => absurd w (by decide)⟩) (fun h2 => ⟨fun w => absurd rfl w, fun _ => rej (fun z => h2 ⟨by have q := z.2.1; omega, by have q := z.2.2; omega⟩)⟩)
  rw [i0, i2] at h2
  have r2 : (rd τ 2 p1).toInt = vv σ 11 c := by rw [vv_rd ec, kd]
  have bad : (vv σ 11 c = 0 ∨ vv σ 11 c = 5) → wp_size (fun r2 τ' => (-2 : Int32) = r2 ∧ Ju σ τ') p1 p2 τ := fun k => by
    unfold wp_size
    refine cell_x (fun z => ⟨fun w => absurd w (by decide), fun _ => ⟨fun w => by omega, fun a => ⟨fun b => ⟨⟨by omega, by omega⟩, fun _ => ⟨rfl, J⟩, fun _ => ⟨⟨by omega, by omega⟩, fun w => by omega, fun _ => ⟨rfl, J⟩⟩⟩, fun w => by omega⟩⟩⟩) (fun z => absurd ⟨by omega, by omega⟩ z)
  refine cx_hasSize ec c5 (fun k0 k5 => ⟨fun _ => ⟨⟨by omega, by omega⟩, fun x7 e7 => ⟨⟨by omega, by omega⟩, ?_⟩⟩, fun w => absurd w (by decide)⟩) (fun k => ⟨fun w => absurd rfl w, fun _ => bad k⟩)
  show wp_size (fun r2 τ' => x7 = r2 ∧ Ju (sf (sf (sa σ 14 p1 p2) 0 0) 1 0) τ') p1 p2 τ
  unfold wp_size
  refine cell_x (fun z => ⟨fun w => absurd w (by decide), fun _ => ⟨fun w => by omega, fun a => ⟨fun b => ⟨⟨by omega, by omega⟩, fun w => by omega, fun _ => ⟨⟨by omega, by omega⟩, fun _ => ⟨⟨by omega, by omega⟩, fun x3 e3 => ⟨⟨by omega, by omega⟩, ?_, ?_⟩⟩, fun w => by omega⟩⟩, fun w => by omega⟩⟩⟩) (fun z => absurd ⟨by omega, by omega⟩ z)
  · have q := J.2.2.1.1 c cn
    rw [e7, e3, rd_at σ 14 p1 ec, rd_at τ 5 p1 ec, q]
  · obtain ⟨x, ex'⟩ : ∃ x : VS, x = sf (sf (sa σ 14 p1 p2) 0 0) 1 0 := ⟨_, rfl⟩
    obtain ⟨y, ey⟩ : ∃ y : VS, y = sa τ 5 p1 p2 := ⟨_, rfl⟩
    rw [← ex', ← ey]
    have Mx : CI x := by rw [ex']; exact (((hM.sa 14 p1 p2 (show 0 ≤ p2.toInt ∧ p2.toInt ≤ 2 by omega)).sf 0 0 (by decide)).sf 1 0 (by decide))
    have Ex : Eo CF CA σ x := by rw [ex']; exact (((Eo.rfl (F := CF) (A := CA) (σ := σ)).sa 14 p1 p2 (by decide)).sf 0 0 (by decide)).sf 1 0 (by decide)
    have My : MI y := by rw [ey]; exact J.rb.1.sa 5 p1 p2 (show 0 ≤ p2.toInt ∧ p2.toInt ≤ 2 by omega)
    have Ey : Eo [] [5] τ y := by rw [ey]; exact Eo.rfl.sa 5 p1 p2 (by decide)
    have v14 : vv x 14 = fu (vv σ 14) c p2.toInt := by
      rw [ex']
      show vv (sa σ 14 p1 p2) 14 = _
      rw [vv_sa σ 14 p1 p2 ec]
    have v5 : vv y 5 = fu (vv τ 5) c p2.toInt := by rw [ey, vv_sa τ 5 p1 p2 ec]
    have k5' : vv τ 2 c ≠ 5 := by rw [← kd]; exact k5
    obtain ⟨M, S, W, Z, I⟩ := J.rb
    have By : RB y := ⟨My, S.same Ey (by decide), W.same Ey (by decide), Z.sz Ey (by decide) (fun j hj => by
      rw [v5]
      refine fu_ne (fun z2 => k5' ?_)
      rw [← z2]; exact hj), I.same Ey (by decide)⟩
    have Bx : CBt x τ := J.cbt.qc Mx Ex
    have nx : nCl x = nCl σ := by unfold nCl; rw [Ex.1 2 (by decide)]
    have f0 : (x.1 0).toInt = 0 := by rw [ex']; rfl
    have f1 : (x.1 1).toInt = 0 := by rw [ex']; rfl
    refine ⟨Bx.1.mq By Ey (by decide) (by decide) (by decide) (by decide), By.2.2.2.1, ⟨fun j hj => ?_, fun j hj => ?_⟩, Bx.2.2, fun w => absurd f0 w, fun w => absurd f1 w, J.2.2.2.2.2.2.same (F := [0, 1]) (A := [14]) (by rw [ex']; exact ((Eo.rfl.sa 14 p1 p2 (by decide)).sf 0 0 (by decide)).sf 1 0 (by decide)) Ey (by decide) (by decide)⟩
    · refine Int32.toInt_inj.mp ?_
      show vv x 14 j = vv y 5 j
      rw [v14, v5]
      by_cases e : j = c
      · rw [e, fu_eq, fu_eq]
      · rw [fu_ne e, fu_ne e]
        have q := J.2.2.1.1 j (by omega)
        unfold vv
        rw [q]
    · have ne : j ≠ c := by omega
      have q : vv x 14 j = vv σ 14 j := by rw [v14, fu_ne ne]
      have q2 := J.2.2.1.2 j (by omega)
      refine Int32.toInt_inj.mp ?_
      show vv x 14 j = _
      rw [q]
      unfold vv
      rw [q2]
