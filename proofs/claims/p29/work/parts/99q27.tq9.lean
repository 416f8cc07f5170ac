theorem cP_all {φ : List Nat → Prop} {L : List (List Nat)} (h : ∀ p, p ∈ L → ¬ φ p) : cP φ L = 0 := by
  have q := cP_pos (φ := φ) L
  have n : ¬ 0 < cP φ L := fun k => by
    obtain ⟨p, hp, hq⟩ := q.mp k
    exact h p hp hq
  omega
set_option maxHeartbeats 1000000 in
theorem cx_finish {Q : VS → Prop} {p1 p2 : Int32} {σ : VS} {K s t fs R n0 : Nat} {b : Nat → Nat} {L : Nat → List (List Nat)} {La Ea : List Nat → Nat → Int} {sh rm hr : Int} {N : List Nat → Int} {M0 : Int → Int → Prop} {S0 : Int → Prop} (h1 : p1.toInt = (s : Int)) (h2 : p2.toInt = (t : Int)) (hs : s < nCl σ) (ht : t < nCl σ) (hM : CI σ) (hK : (σ.1 9).toInt = (K : Int)) (hK1 : 1 ≤ K ∧ K ≤ 16) (hor : ∀ x y, x < K → y < K → x ||| y < K) (hb : vv σ 35 t = ((b t : Nat) : Int)) (hbK : ∀ c, b c < K) (hR : (σ.1 6).toInt = (R : Int)) (hfs : vv σ 16 (4 * t) = (fs : Int)) (hf50 : fs < 50) (hL : ∀ e, e < 2 → RO b s K La Ea (L e) fs e σ) (bp : ∀ e p, e < 2 → p ∈ L e → (0 ≤ La p e ∧ La p e ≤ 3000000) ∧ 0 ≤ Ea p e ∧ Ea p e ≤ 3000000) (hsh : ∀ Q : Int32 → VS → Prop, (∀ r : Int32, r.toInt = sh → Q r σ) → wp_X2sharedOf Q p1 p2 σ) (bsh : -2000000 ≤ sh ∧ sh ≤ 2000000) (h13 : 0 ≤ dC σ 13 t ∧ dC σ 13 t ≤ 2000000) (h14 : 0 ≤ dC σ 14 t ∧ dC σ 14 t ≤ 2000000) (hrm : rm = dC σ 14 t - vv σ 26 t + sh) (hhr : hr = sh - dC σ 13 t - vv σ 27 t) (hN : ∀ p, N p = perK (vv σ 31) (hitC (vv σ 32) (vv σ 34) s t (mkP b s p ||| b t)) R) (hE0 : En n0 M0 (vv σ 50 t) (vv σ 51 t) (vv σ 52 t)) (hN0 : Nd S0 (σ.1 10).toInt)
    (hq : ∀ τ : VS, CI τ → Eo [10] [50, 51, 52] σ τ → (∀ j, j ≠ t → vv τ 50 j = vv σ 50 j ∧ vv τ 51 j = vv σ 51 j ∧ vv τ 52 j = vv σ 52 j) → En (n0 + cG b s K (2 * K) N (L 0) (L 1)) (fun x y => M0 x y ∨ MG b s K (2 * K) N La Ea L (σ.1 4).toInt rm hr x y) (vv τ 50 t) (vv τ 51 t) (vv τ 52 t) → Nd (fun x => S0 x ∨ DG b s K (2 * K) N La L rm x) (τ.1 10).toInt → Q τ) : wp_X2finish Q p1 p2 σ := by
  have hn50 : nCl σ ≤ 50 := by
    have a : 0 ≤ (σ.1 2).toInt ∧ (σ.1 2).toInt ≤ 50 := hM.1 2
    unfold nCl; omega
  have hbm : ∀ p, mkP b s p < K := mkP_lt hor hbK
  have b26 : -10000 ≤ vv σ 26 t ∧ vv σ 26 t ≤ 10000 := hM.2 26 t
  have b27 : -10000 ≤ vv σ 27 t ∧ vv σ 27 t ≤ 10000 := hM.2 27 t
  have b25 : -1 ≤ vv σ 25 t ∧ vv σ 25 t ≤ 19 := hM.2 25 t
  have r25 : (rd σ 25 p2).toInt = vv σ 25 t := vv_rd h2
  have x25 : rd σ 25 p2 = σ.2.1 25 t := rd_at σ 25 p2 h2
  have e14 : (ex (σ.2.1 29) (rd σ 25 p2)).toInt = dC σ 14 t := by rw [x25, dC_14 ht]
  have e13 : (ex (σ.2.1 30) (rd σ 25 p2)).toInt = dC σ 13 t := by rw [x25, dC_13 ht]
  have hR4 : 0 ≤ (σ.1 6).toInt ∧ (σ.1 6).toInt ≤ 4 := hM.1 6
  unfold wp_X2finish
  intro X38 H
  have u1 : (p2 * 4).toInt = ((4 * t : Nat) : Int) := by
    have q := i3_mulc (x := p2 * 4) h2 (show (4 : Int32).toInt = 4 from rfl) rfl (by omega)
    omega
  refine ⟨⟨by omega, by omega⟩, fun x1 e1 => ?_⟩
  have v1 : (rd σ 16 (p2 * 4)).toInt = (fs : Int) := by rw [vv_rd u1, hfs]
  have v2 : (rd σ 16 (p2 * 4) * 2).toInt = ((2 * fs : Nat) : Int) := by
    have q := i3_mulc (x := rd σ 16 (p2 * 4) * 2) v1 (show (2 : Int32).toInt = 2 from rfl) rfl (by omega)
    omega
  have t1 : x1.toInt = ((2 * fs * K : Nat) : Int) := ix_m v2 hK (by omega) hK1.2 e1
  clear e1
  unfold wp_X2slackRoom wp_X2holdRoom
  refine ⟨⟨by omega, by omega⟩, early_x ⟨by omega, by omega⟩ ⟨⟨by omega, by omega⟩, hsh _ (fun r3 e3 => hsh _ (fun r5 e5 => ⟨⟨by omega, by omega⟩, late_x ⟨by omega, by omega⟩ ⟨⟨by omega, by omega⟩, ?_⟩⟩))⟩⟩
  have r26 : (rd σ 26 p2).toInt = vv σ 26 t := vv_rd h2
  have r27 : (rd σ 27 p2).toInt = vv σ 27 t := vv_rd h2
  obtain ⟨l4, el4⟩ : ∃ l4 : Int32, l4 = ex (σ.2.1 29) (rd σ 25 p2) - rd σ 26 p2 + r3 := ⟨_, rfl⟩
  obtain ⟨l5, el5⟩ : ∃ l5 : Int32, l5 = r5 - ex (σ.2.1 30) (rd σ 25 p2) - rd σ 27 p2 := ⟨_, rfl⟩
  have t4 : l4.toInt = rm := by
    have q1 : (ex (σ.2.1 29) (rd σ 25 p2) - rd σ 26 p2).toInt = dC σ 14 t - vv σ 26 t := i3_subc e14 r26 rfl (by omega)
    have q2 := i3_addc (x := l4) q1 e3 el4 (by omega)
    rw [q2, hrm]
  have t5 : l5.toInt = hr := by
    have q1 : (r5 - ex (σ.2.1 30) (rd σ 25 p2)).toInt = sh - dC σ 13 t := i3_subc e5 e13 rfl (by omega)
    have q2 := i3_subc (x := l5) q1 r27 el5 (by omega)
    rw [q2, hhr]
  rw [← el4, ← el5]
  clear el4 el5 e3 e5
  have Z : ∀ (d f m : Nat) (l6 : Int32) (τ : VS), 2 * K + 1 ≤ d + (f * K + m) → (f < 2 ∧ m < K ∨ f = 2 ∧ m = 0) → l6.toInt = ((f * K + m : Nat) : Int) → CI τ → Eo [10] [50, 51, 52] σ τ → (∀ j, j ≠ t → vv τ 50 j = vv σ 50 j ∧ vv τ 51 j = vv σ 51 j ∧ vv τ 52 j = vv σ 52 j) → En (n0 + cG b s K (f * K + m) N (L 0) (L 1)) (fun x y => M0 x y ∨ MG b s K (f * K + m) N La Ea L (σ.1 4).toInt rm hr x y) (vv τ 50 t) (vv τ 51 t) (vv τ 52 t) → Nd (fun x => S0 x ∨ DG b s K (f * K + m) N La L rm x) (τ.1 10).toInt → X38 p1 p2 x1 l4 l5 l6 τ := by
    intro d
    induction d with
    | zero =>
      intro f m l6 τ a c
      exfalso
      rcases c with ⟨c1, c2⟩ | ⟨c1, c2⟩
      · have q : (f + 1) * K ≤ 2 * K := Nat.mul_le_mul_right K (by omega)
        rw [Nat.succ_mul] at q
        omega
      · rw [c1, c2] at a
        omega
    | succ d ih =>
      intro f m l6 τ a c e6 hMt hE hF hEn hNd
      refine H p1 p2 x1 l4 l5 l6 τ ?_
      unfold b_X2finish_38
      have k9 : (τ.1 9).toInt = (K : Int) := by rw [hE.1 9 (by decide)]; exact hK
      have k2 : (2 * τ.1 9).toInt = 2 * (K : Int) := i3_mulc rfl k9 rfl (by have q : (2 : Int32).toInt = 2 := rfl; omega)
      rw [k2]
      refine ⟨fun z => ?_, fun z => ?_⟩
      · rcases c with ⟨c1, c2⟩ | ⟨c1, c2⟩
        · exfalso
          have q : (f + 1) * K ≤ 2 * K := Nat.mul_le_mul_right K (by omega)
          rw [Nat.succ_mul] at q
          omega
        · rw [c1, c2, Nat.add_zero] at hEn hNd
          exact hq τ hMt hE hF hEn hNd
      · rcases c with ⟨c1, c2⟩ | ⟨c1, c2⟩
        · intro x6 ex6
          have fK : f * K + m < 32 := by
            have q : (f + 1) * K ≤ 2 * 16 := Nat.mul_le_mul (by omega) hK1.2
            rw [Nat.succ_mul] at q
            omega
          have ixe : 2 * fs * K + (f * K + m) = (2 * fs + f) * K + m := by rw [Nat.add_mul]; omega
          have lt6 := ix_lt (a := 2 * fs + f) (K := K) (t := m) (by omega) hK1.2 c2
          have t6 : x6.toInt = (((2 * fs + f) * K + m : Nat) : Int) := by
            have q := i3_addc (x := x6) t1 e6 ex6 (by omega)
            omega
          clear ex6
          -- the next place
          have NX : ∀ (y : Int32) (τ2 : VS), y.toInt = ((f * K + m + 1 : Nat) : Int) → CI τ2 → Eo [10] [50, 51, 52] σ τ2 → (∀ j, j ≠ t → vv τ2 50 j = vv σ 50 j ∧ vv τ2 51 j = vv σ 51 j ∧ vv τ2 52 j = vv σ 52 j) → En (n0 + cG b s K (f * K + m + 1) N (L 0) (L 1)) (fun x y => M0 x y ∨ MG b s K (f * K + m + 1) N La Ea L (σ.1 4).toInt rm hr x y) (vv τ2 50 t) (vv τ2 51 t) (vv τ2 52 t) → Nd (fun x => S0 x ∨ DG b s K (f * K + m + 1) N La L rm x) (τ2.1 10).toInt → X38 p1 p2 x1 l4 l5 y τ2 := by
            intro y τ2 ey q1 q2 q3 q4 q5
            by_cases w : m + 1 < K
            · exact ih f (m + 1) y τ2 (by omega) (Or.inl ⟨c1, w⟩) ey q1 q2 q3 q4 q5
            · have em : m + 1 = K := by omega
              have ei : f * K + m + 1 = (f + 1) * K + 0 := by rw [Nat.succ_mul]; omega
              rw [ei] at ey q4 q5
              refine ih (f + 1) 0 y τ2 (by omega) ?_ ey q1 q2 q3 q4 q5
              by_cases w2 : f + 1 < 2
              · exact Or.inl ⟨w2, by omega⟩
              · exact Or.inr ⟨by omega, rfl⟩
          have t7 : (l6 + 1).toInt = ((f * K + m + 1 : Nat) : Int) := by
            have q := i3_addc (x := l6 + 1) e6 (show (1 : Int32).toInt = 1 from rfl) rfl (by omega)
            omega
          have n9 : ¬ τ.1 9 = 0 := i3_nz (by omega)
          have dv : (l6 / τ.1 9).toInt = (f : Int) := by
            have q := i3_divc (x := l6 / τ.1 9) e6 k9 rfl (by omega) (by omega)
            have w : (((f * K + m : Nat) : Int) / (K : Int)) = (((f * K + m) / K : Nat) : Int) := rfl
            rw [q, w, ix_div c2]
          have mo : (l6 - l6 / τ.1 9 * τ.1 9).toInt = (m : Int) := by
            have q1 : (l6 / τ.1 9 * τ.1 9).toInt = ((f * K : Nat) : Int) := ix_m dv k9 (by omega) hK1.2 rfl
            have q2 := i3_subc (x := l6 - l6 / τ.1 9 * τ.1 9) e6 q1 rfl (by omega)
            omega
          have r35 : (rd τ 35 p2).toInt = ((b t : Nat) : Int) := by rw [vv_rd h2, vv_eo hE (by decide), hb]
          have mk1 : ((l6 - l6 / τ.1 9 * τ.1 9) ||| rd τ 35 p2).toInt = ((m ||| b t : Nat) : Int) := or_nat mo r35 (by omega) (by have := hbK t; omega)
          have mlt : m ||| b t < 16 := by have q := hor m (b t) c2 (hbK t); omega
          refine ⟨n9, ⟨by omega, by omega⟩, cx_periodsOf (s := s) (t := t) (m := m ||| b t) (R := R) h1 h2 mk1 mlt hMt (by rw [hE.1 6 (by decide)]; exact hR) (fun r7 er7 br7 => ?_)⟩
          rw [vv_eo hE (show 31 ∉ [50, 51, 52] by decide), vv_eo hE (show 32 ∉ [50, 51, 52] by decide), vv_eo hE (show 34 ∉ [50, 51, 52] by decide)] at er7
          have NG : ∀ p, p ∈ L f → mkP b s p = m → N p = r7.toInt := fun p _ w => by rw [hN p, w, er7]
          have src := hL f c1 m c2
          have f47 : vv τ 47 = vv σ 47 := vv_eo hE (by decide)
          have f48 : vv τ 48 = vv σ 48 := vv_eo hE (by decide)
          have f49 : vv τ 49 = vv σ 49 := vv_eo hE (by decide)
          have r47 : (rd τ 47 x6).toInt = vv σ 47 ((2 * fs + f) * K + m) := by rw [vv_rd t6, f47]
          have wb := src.1
          have keep : (∀ p, p ∈ L f → mkP b s p = m → ¬ 0 < N p) → X38 p1 p2 x1 l4 l5 (l6 + 1) τ := fun hk => by
            have G := cG_keep (L := L) (N := N) c1 c2 hbm hk
            refine NX (l6 + 1) τ t7 hMt hE hF ?_ ?_
            · refine En.cg (by rw [G.1]) (fun x y => ?_) hEn
              rw [MG_same G.2]
            · have e : (fun x => S0 x ∨ DG b s K (f * K + m + 1) N La L rm x) = (fun x => S0 x ∨ DG b s K (f * K + m) N La L rm x) := by
                funext x
                exact propext (by rw [DG_same G.2])
              rw [e]; exact hNd
          unfold b_X2finish_219
          refine ⟨⟨by omega, by omega⟩, fun z1 => keep (fun p hp w _ => ?_), fun z1 => ⟨fun z2 => keep (fun p hp w k => ?_), fun z2 => ⟨⟨by omega, by omega⟩, fun x9 e9 => ?_⟩⟩⟩
          · rw [r47] at z1
            have n1 := (cP_pos (φ := fun p => mkP b s p = m) (L f)).mpr ⟨p, hp, w⟩
            have n2 := (Sm3.pos src).mpr n1
            omega
          · rw [NG p hp w] at k
            omega
          · rw [r47] at z1
            obtain ⟨pp, qq, m1, m2, mm, ev1, ev2⟩ := src.val z1
            have bb1 := (bp f pp c1 m1).1
            have bb2 := (bp f qq c1 m2).2
            have wE := hEn.1
            have G := cG_add (L := L) (N := N) c1 c2 hbm NG z2
            have F := cx_fin1 (X38 := X38) (Q := Q) (l1 := p1) (l2 := p2) (l3 := x1) (l4 := l4) (l5 := l5) (l6 := l6) (r7 := r7) (x6 := x6) (τ := τ) (t := t) (x := (2 * fs + f) * K + m) h2 (by omega) t6 lt6 hMt (by omega) (by omega) (by omega) (by rw [f47]; omega) (by rw [f48]; omega) (by rw [f49]; omega) (by omega) (fun τ2 M2 E2 g1 g2 g3 g4 => ?_) x9 e9 _ rfl
            · exact ⟨⟨by omega, by omega⟩, ⟨by omega, by omega⟩, ⟨by omega, by omega⟩, ⟨by omega, by omega⟩, ⟨by omega, by omega⟩, ⟨by omega, by omega⟩, ⟨by omega, by omega⟩, ⟨by omega, by omega⟩, F⟩
            · rw [f47] at g1
              rw [f48, t4, hE.1 4 (by decide)] at g2
              rw [f49, t5] at g3
              rw [f48, t4] at g4
              refine NX (l6 + 1) τ2 t7 M2 (hE.trans E2) (fun j hj => ?_) ?_ ?_
              · rw [g1, g2, g3, fu_ne hj, fu_ne hj, fu_ne hj]; exact hF j hj
              · rw [g1, g2, g3, fu_eq, fu_eq, fu_eq]
                have A := En.add (x := r7.toInt * (σ.1 4).toInt + rm) (y := hr) hEn src z1
                refine En.cg (by rw [G.1]; omega) (fun x y => ⟨fun k => ?_, fun k => ?_⟩) A
                · rcases k with (k | ⟨e, p, he, hp, w, r⟩) | ⟨u, v, ⟨p, hp, w, r1, r2⟩, k1, k2⟩
                  · exact Or.inl k
                  · exact Or.inr ⟨e, p, he, hp, (G.2 e p he hp).mpr (Or.inl w), r⟩
                  · exact Or.inr ⟨f, p, c1, hp, (G.2 f p c1 hp).mpr (Or.inr ⟨rfl, w⟩), by rw [NG p hp w, r1]; exact k1, by rw [r2]; exact k2⟩
                · rcases k with k | ⟨e, p, he, hp, w, r1, r2⟩
                  · exact Or.inl (Or.inl k)
                  · rcases (G.2 e p he hp).mp w with w | ⟨w1, w2⟩
                    · exact Or.inl (Or.inr ⟨e, p, he, hp, w, r1, r2⟩)
                    · rw [w1] at hp r1 r2
                      rw [NG p hp w2] at r1
                      exact Or.inr ⟨La p f, Ea p f, ⟨p, hp, w2, rfl, rfl⟩, r1, r2⟩
              · rw [g4]
                refine ⟨⟨by have := hNd.1.1; omega, fun x k => ?_⟩, ?_⟩
                · rcases k with k | ⟨e, p, he, hp, w, r⟩
                  · have q := hNd.1.2 x (Or.inl k)
                    omega
                  · rcases (G.2 e p he hp).mp w with w | ⟨w1, w2⟩
                    · have q := hNd.1.2 x (Or.inr ⟨e, p, he, hp, w, r⟩)
                      omega
                    · rw [w1] at hp r
                      rw [NG p hp w2] at r
                      have up := (src.2.2 ((Sm3.pos src).mp z1)).1 (La p f) (Ea p f) ⟨p, hp, w2, rfl, rfl⟩
                      have q := ndP_mono (n := r7.toInt) z2 (show rm - vv σ 48 ((2 * fs + f) * K + m) ≤ rm - La p f by omega)
                      omega
                · by_cases w : (τ.1 10).toInt ≤ ndP r7.toInt (rm - vv σ 48 ((2 * fs + f) * K + m))
                  · refine Or.inr (Or.inr ⟨f, pp, c1, m1, (G.2 f pp c1 m1).mpr (Or.inr ⟨rfl, mm⟩), ?_⟩)
                    rw [NG pp m1 mm, ev1]
                    omega
                  · have e : max (τ.1 10).toInt (ndP r7.toInt (rm - vv σ 48 ((2 * fs + f) * K + m))) = (τ.1 10).toInt := by omega
                    rw [e]
                    rcases hNd.2 with k | k | ⟨e2, p, he, hp, k, r⟩
                    · exact Or.inl k
                    · exact Or.inr (Or.inl k)
                    · exact Or.inr (Or.inr ⟨e2, p, he, hp, (G.2 e2 p he hp).mpr (Or.inl k), r⟩)
        · exfalso
          rw [c1, c2] at e6
          omega
  have base : ∀ e p, Gp b s K 0 N e p → False := fun e p k => by have := k.1; omega
  have c0 : cG b s K 0 N (L 0) (L 1) = 0 := by
    unfold cG
    rw [cP_all (fun p _ => base 0 p), cP_all (fun p _ => base 1 p)]
  refine Z (2 * K + 1) 0 0 0 σ (by omega) (Or.inl ⟨by decide, by omega⟩) (by rw [Nat.zero_mul]; rfl) hM Eo.rfl (fun j _ => ⟨rfl, rfl, rfl⟩) ?_ ?_
  · rw [Nat.zero_mul, Nat.zero_add]
    exact En.cg (by rw [c0, Nat.add_zero]) (fun x y => ⟨fun k => Or.inl k, fun k => k.elim (fun w => w) (fun ⟨e, p, _, _, w, _⟩ => absurd w (base e p))⟩) hE0
  · rw [Nat.zero_mul, Nat.zero_add]
    refine ⟨⟨hN0.1.1, fun x k => k.elim (hN0.1.2 x) (fun ⟨e, p, _, _, w, _⟩ => absurd w (base e p))⟩, hN0.2.imp (fun w => w) Or.inl⟩
