def nmM (σ : VS) (i : Int) : Int := (σ.2.1 15 i.toNat).toInt
def lfM (σ : VS) (i : Int) : Int := (σ.2.1 16 i.toNat).toInt
def stp (F w : Int) : Int := if F ≠ 0 then F else w
theorem rx_number {Q : Int64 → VS → Prop} {p1 p2 : Int32} {σ : VS} (h1 : 0 ≤ p1.toInt ∧ p1.toInt ≤ 63) (h2 : 0 ≤ p2.toInt ∧ p2.toInt ≤ 2) (hM : MI σ) (hq : ∀ (r : Int64) (σ' : VS), 0 ≤ r.toInt ∧ r.toInt ≤ 3000 → MI σ' → Eo [30] [] σ σ' → (σ'.1 30).toInt = stp (σ.1 30).toInt (wyA (lfM σ) p1.toInt p2.toInt) → ((σ'.1 30).toInt = 0 → r.toInt = nmM σ (3 * p1.toInt + p2.toInt)) → Q r σ') : wp_number Q p1 p2 σ := by
  have t1 : (3 * p1).toInt = 3 * p1.toInt := i3_mulc rfl rfl rfl (by omega)
  have t2 : (3 * p1 + p2).toInt = (3 * p1).toInt + p2.toInt := i3_addc rfl rfl rfl (by omega)
  have el : lfM σ p1.toInt = (rd σ 16 p1).toInt := by
    unfold lfM
    rw [rd_at σ 16 p1 (n := p1.toInt.toNat) (by omega)]
  have h41 : ∀ τ : VS, MI τ → Eo [30] [] σ τ → (τ.1 30).toInt = stp (σ.1 30).toInt (wyA (lfM σ) p1.toInt p2.toInt) → b_number_41 Q p1 p2 τ := by
    intro τ hT hE hF
    unfold b_number_41 b_number_63
    have a1 : 0 ≤ (rd τ 15 (3 * p1 + p2)).toInt ∧ (rd τ 15 (3 * p1 + p2)).toInt ≤ 3000 := hT.2 15 _
    have en : nmM σ (3 * p1.toInt + p2.toInt) = (rd τ 15 (3 * p1 + p2)).toInt := by
      unfold nmM
      rw [rd_at τ 15 (3 * p1 + p2) (n := (3 * p1.toInt + p2.toInt).toNat) (by omega), hE.2 15 (by decide)]
    exact ⟨fun _ => ⟨⟨by omega, by omega⟩, hq _ τ (by rw [i6_of]; exact a1) hT hE hF (fun _ => by rw [i6_of, en])⟩, fun h => hq 0 τ (by decide) hT hE hF (fun k => absurd k h)⟩
  have h38 : ∀ k : Int32, (σ.1 30).toInt = 0 → k.toInt = wyA (lfM σ) p1.toInt p2.toInt → b_number_38 Q p1 p2 k σ := fun k h0 hk => h41 _ (hM.sf 30 k (i3_bd _)) (Eo.rfl.sf 30 k (by decide)) (by rw [sf_same, hk]; unfold stp; rw [if_neg (fun z => z h0)])
  unfold wp_number
  refine ⟨fun h => h41 σ hM Eo.rfl (by unfold stp; rw [if_pos h]), fun h0 => ⟨⟨by omega, by omega⟩, fun a => ⟨⟨by omega, by omega⟩, fun b => h38 0 h0 ?_, fun b => h38 _ h0 ?_⟩, fun a => h38 _ h0 ?_⟩⟩
  · unfold wyA; rw [el, if_neg a, if_pos b]; rfl
  · unfold wyA; rw [el, if_neg a, if_neg (by omega)]; rfl
  · unfold wyA; rw [el, if_pos a]; rfl
section
variable {X38 : Int32 → Int32 → Int32 → Int32 → Int32 → Int32 → VS → Prop} {X57 : Int32 → Int32 → Int32 → Int32 → Int32 → Int32 → Int32 → VS → Prop} {Q : Int32 → VS → Prop}
theorem mx_305 {l5 : Int32} {l12 l14 l21 : Int64} {σ : VS} (h12 : 1 ≤ l12.toInt ∧ l12.toInt ≤ 40) (h14 : 1 ≤ l14.toInt ∧ l14.toInt ≤ 48) (h21 : 0 ≤ l21.toInt ∧ l21.toInt ≤ l12.toInt * l14.toInt * 3000) (hq : ∀ r : Int32, r.toInt = (l21.toInt + (if l5.toInt ≠ 0 then l12.toInt * l14.toInt - 1 else 0)) / (l12.toInt * l14.toInt) → Q r σ) : b_lookUp_305 X38 X57 Q l5 l12 l14 l21 σ := by
  intro x hx
  have hp1 : 1 * 1 ≤ l12.toInt * l14.toInt := Int.mul_le_mul h12.1 h14.1 (by decide) (by omega)
  have hp2 : l12.toInt * l14.toInt ≤ 40 * 48 := Int.mul_le_mul h12.2 h14.2 (by omega) (by decide)
  have tx := i6_mul hx (by omega)
  obtain ⟨P, hP⟩ : ∃ P : Int, P = l12.toInt * l14.toInt := ⟨_, rfl⟩
  rw [← hP] at tx hp1 hp2 h21 hq
  have hb : ∀ n : Int, 0 ≤ n → n ≤ P * 3000 + P → 0 ≤ n / P ∧ n / P ≤ 3001 := by
    intro n h1 h2
    refine ⟨Int.ediv_nonneg h1 (by omega), Int.le_of_lt_add_one (Int.ediv_lt_of_lt_mul (by omega) ?_)⟩
    have : (3001 + 1) * P = P * 3000 + P + P := by rw [Int.add_mul, Int.mul_comm 3001 P, show (3001 : Int) = 3000 + 1 from rfl, Int.mul_add]; omega
    omega
  refine ⟨fun h => ⟨i6_nz (by omega), ?_⟩, fun h => ⟨i6_nz (by omega), ?_⟩⟩
  · unfold b_lookUp_335
    have t1 := i6_div (x := l21 / x) rfl (by omega) (by omega)
    have b := hb l21.toInt (by omega) (by omega)
    rw [tx] at t1
    refine hq _ ?_
    rw [if_neg (fun k => k h), i6_to rfl (by omega), t1, Int.add_zero]
  · unfold b_lookUp_335
    have e1 : (1 : Int64).toInt = 1 := rfl
    have t1 : (l21 + x).toInt = l21.toInt + x.toInt := i6_add rfl (by omega)
    have t2 : (l21 + x - 1).toInt = (l21 + x).toInt - (1 : Int64).toInt := i6_sub rfl (by omega)
    have t3 := i6_div (x := (l21 + x - 1) / x) rfl (by omega) (by omega)
    have b := hb (l21.toInt + P - 1) (by omega) (by omega)
    have t4 : (l21 + x - 1).toInt = l21.toInt + P - 1 := by omega
    rw [tx, t4] at t3
    refine hq _ ?_
    rw [if_pos h, i6_to rfl (by omega), t3]
    congr 1; omega
theorem mx_272 {A B C D : Int} {l5 l9 l10 l11 l20 : Int32} {l12 l14 l16 l18 l21 : Int64} {σ : VS} (hA : 0 ≤ A) (hB : 0 ≤ B) (hC : 0 ≤ C) (hD : 0 ≤ D) (hAB : 1 ≤ A + B ∧ A + B ≤ 40) (hCD : 1 ≤ C + D ∧ C + D ≤ 48) (h12 : l12.toInt = A + B) (h14 : l14.toInt = C + D) (h16 : l16.toInt = B) (h18 : l18.toInt = D) (h20 : 0 ≤ l20.toInt ∧ l20.toInt ≤ 63) (h9 : 0 ≤ l9.toInt ∧ l9.toInt ≤ 2) (h10 : l10.toInt ≠ 0 → l20.toInt ≤ 62) (h11 : l11.toInt ≠ 0 → l9.toInt ≤ 1) (h21 : 0 ≤ l21.toInt ∧ l21.toInt ≤ (A * C + A * D + B * C) * 3000) (hM : MI σ)
    (hq : ∀ (r : Int32) (σ' : VS), MI σ' → Eo [30] [] σ σ' → (σ'.1 30).toInt = (if l10.toInt ≠ 0 ∧ l11.toInt ≠ 0 then stp (σ.1 30).toInt (wyA (lfM σ) (l20.toInt + 1) (l9.toInt + 1)) else (σ.1 30).toInt) → ((σ'.1 30).toInt = 0 → r.toInt = ((l21.toInt + (if l10.toInt ≠ 0 ∧ l11.toInt ≠ 0 then B * D * nmM σ (3 * (l20.toInt + 1) + (l9.toInt + 1)) else 0)) + (if l5.toInt ≠ 0 then (A + B) * (C + D) - 1 else 0)) / ((A + B) * (C + D))) → Q r σ') : b_lookUp_272 X38 X57 Q l5 l9 l10 l11 l12 l14 l16 l18 l20 l21 σ := by
  have e : l12.toInt * l14.toInt = A * C + A * D + B * C + B * D := by rw [h12, h14, Int.add_mul, Int.mul_add, Int.mul_add]; omega
  have p1 := (mu_bd (a := A) (b := C) (A := 40) (B := 48) (by omega) (by omega))
  have p2 := (mu_bd (a := A) (b := D) (A := 40) (B := 48) (by omega) (by omega))
  have p3 := (mu_bd (a := B) (b := C) (A := 40) (B := 48) (by omega) (by omega))
  have p4 := (mu_bd (a := B) (b := D) (A := 40) (B := 48) (by omega) (by omega))
  unfold b_lookUp_272
  have h305 : ¬ (l10.toInt ≠ 0 ∧ l11.toInt ≠ 0) → b_lookUp_305 X38 X57 Q l5 l12 l14 l21 σ := fun hn => mx_305 (by omega) (by omega) ⟨h21.1, by rw [e]; omega⟩ (fun r hr => hq r σ hM Eo.rfl (by rw [if_neg hn]) (fun _ => by rw [if_neg hn, Int.add_zero, hr, h12, h14]))
  refine ⟨fun a => h305 (fun k => k.1 a), fun a => ⟨fun b => h305 (fun k => k.2 b), fun b => ?_⟩⟩
  have k1 := h10 a
  have k2 := h11 b
  have t1 : (l20 + 1).toInt = l20.toInt + 1 := i3_addc rfl rfl rfl (by omega)
  have t2 : (l9 + 1).toInt = l9.toInt + 1 := i3_addc rfl rfl rfl (by omega)
  refine rx_number (by omega) (by omega) hM (fun r τ hr hT hE hF hv => ?_)
  rw [t1, t2] at hF hv
  intro x hx
  have s1 : (l16 * l18).toInt = l16.toInt * l18.toInt := i6_mul rfl (by rw [h16, h18]; omega)
  rw [h16, h18] at s1
  have m4 := mu_bd (a := B * D) (b := r.toInt) (A := B * D) (B := 3000) ⟨p4.1, Int.le_refl _⟩ hr
  have s2 : ((l16 * l18) * r).toInt = (l16 * l18).toInt * r.toInt := i6_mul rfl (by rw [s1]; omega)
  rw [s1] at s2
  have s3 := i6_add hx (by omega)
  refine mx_305 (by omega) (by omega) ⟨by omega, by rw [e]; omega⟩ (fun r2 hr2 => hq r2 τ hT hE (by rw [if_pos ⟨a, b⟩]; exact hF) (fun z => ?_))
  rw [if_pos ⟨a, b⟩, hr2, s3, s2, hv z, h12, h14]
theorem mx_243 {A B C D : Int} {l5 l9 l10 l11 l20 : Int32} {l12 l14 l16 l18 l21 : Int64} {σ : VS} (hA : 0 ≤ A) (hB : 0 ≤ B) (hC : 0 ≤ C) (hD : 0 ≤ D) (hAB : 1 ≤ A + B ∧ A + B ≤ 40) (hCD : 1 ≤ C + D ∧ C + D ≤ 48) (h12 : l12.toInt = A + B) (h14 : l14.toInt = C + D) (h16 : l16.toInt = B) (h18 : l18.toInt = D) (h20 : 0 ≤ l20.toInt ∧ l20.toInt ≤ 63) (h9 : 0 ≤ l9.toInt ∧ l9.toInt ≤ 2) (h10 : l10.toInt ≠ 0 → l20.toInt ≤ 62) (h11 : l11.toInt ≠ 0 → l9.toInt ≤ 1) (h21 : 0 ≤ l21.toInt ∧ l21.toInt ≤ (A * C + A * D) * 3000) (hM : MI σ)
    (hq : ∀ (r : Int32) (σ' : VS), MI σ' → Eo [30] [] σ σ' → (σ'.1 30).toInt = (if l10.toInt ≠ 0 then (if l11.toInt ≠ 0 then stp (stp (σ.1 30).toInt (wyA (lfM σ) (l20.toInt + 1) l9.toInt)) (wyA (lfM σ) (l20.toInt + 1) (l9.toInt + 1)) else stp (σ.1 30).toInt (wyA (lfM σ) (l20.toInt + 1) l9.toInt)) else (σ.1 30).toInt) → ((σ'.1 30).toInt = 0 → r.toInt = ((l21.toInt + (if l10.toInt ≠ 0 then B * C * nmM σ (3 * (l20.toInt + 1) + l9.toInt) + (if l11.toInt ≠ 0 then B * D * nmM σ (3 * (l20.toInt + 1) + (l9.toInt + 1)) else 0) else 0)) + (if l5.toInt ≠ 0 then (A + B) * (C + D) - 1 else 0)) / ((A + B) * (C + D))) → Q r σ') : b_lookUp_243 X38 X57 Q l5 l9 l10 l11 l12 l14 l16 l18 l20 l21 σ := by
  have p1 := (mu_bd (a := A) (b := C) (A := 40) (B := 48) (by omega) (by omega))
  have p2 := (mu_bd (a := A) (b := D) (A := 40) (B := 48) (by omega) (by omega))
  have p3 := (mu_bd (a := B) (b := C) (A := 40) (B := 48) (by omega) (by omega))
  unfold b_lookUp_243
  refine ⟨fun a => mx_272 hA hB hC hD hAB hCD h12 h14 h16 h18 h20 h9 h10 h11 ⟨h21.1, by omega⟩ hM (fun r σ' q1 q2 q3 q4 => hq r σ' q1 q2 (by rw [q3, if_neg (fun k => k.1 a), if_neg (show ¬ l10.toInt ≠ 0 from fun k => k a)]) (fun z => by rw [q4 z, if_neg (show ¬ (l10.toInt ≠ 0 ∧ l11.toInt ≠ 0) from fun k => k.1 a), if_neg (show ¬ l10.toInt ≠ 0 from fun k => k a)])), fun a => ?_⟩
  have k1 := h10 a
  have t1 : (l20 + 1).toInt = l20.toInt + 1 := i3_addc rfl rfl rfl (by omega)
  refine rx_number (by omega) h9 hM (fun r τ hr hT hE hF hv => ?_)
  rw [t1] at hF hv
  intro x hx
  have s0 : (l14 - l18).toInt = l14.toInt - l18.toInt := i6_sub rfl (by omega)
  have s00 : (l14 - l18).toInt = C := by omega
  have s1 : (l16 * (l14 - l18)).toInt = l16.toInt * (l14 - l18).toInt := i6_mul rfl (by rw [h16, s00]; omega)
  rw [h16, s00] at s1
  have m4 := mu_bd (a := B * C) (b := r.toInt) (A := B * C) (B := 3000) ⟨p3.1, Int.le_refl _⟩ hr
  have s2 : ((l16 * (l14 - l18)) * r).toInt = (l16 * (l14 - l18)).toInt * r.toInt := i6_mul rfl (by rw [s1]; omega)
  rw [s1] at s2
  have s3 := i6_add hx (by omega)
  have el : lfM τ = lfM σ := by unfold lfM; rw [hE.2 16 (by decide)]
  have en : nmM τ = nmM σ := by unfold nmM; rw [hE.2 15 (by decide)]
  refine mx_272 hA hB hC hD hAB hCD h12 h14 h16 h18 h20 h9 h10 h11 ⟨by omega, by omega⟩ hT (fun r2 τ2 q1 q2 q3 q4 => hq r2 τ2 q1 (hE.trans q2) ?_ (fun z => ?_))
  · rw [q3, if_pos a, el, hF]
    by_cases c : l11.toInt ≠ 0
    · rw [if_pos ⟨a, c⟩, if_pos c]
    · rw [if_neg (fun k => c k.2), if_neg c]
  · have hz : (τ.1 30).toInt = 0 := by
      rw [z] at q3
      by_cases c : l11.toInt ≠ 0
      · rw [if_pos ⟨a, c⟩] at q3
        unfold stp at q3
        by_cases d : (τ.1 30).toInt ≠ 0
        · rw [if_pos d] at q3; exact q3.symm
        · exact Decidable.not_not.mp d
      · rw [if_neg (fun k => c k.2)] at q3; exact q3.symm
    rw [q4 z, if_pos a, s3, s2, hv hz, en]
    by_cases c : l11.toInt ≠ 0
    · rw [if_pos ⟨a, c⟩, if_pos c]; congr 1; omega
    · rw [if_neg (fun k => c k.2), if_neg c]; congr 1; omega
end
section
variable {X38 : Int32 → Int32 → Int32 → Int32 → Int32 → Int32 → VS → Prop} {X57 : Int32 → Int32 → Int32 → Int32 → Int32 → Int32 → Int32 → VS → Prop} {Q : Int32 → VS → Prop}
theorem ld_x {p1 : Int32} {Q : Int32 → VS → Prop} {σ : VS} (h : 0 ≤ p1.toInt ∧ p1.toInt ≤ 3) (hq : ∀ r : Int32, r.toInt = ldM p1.toInt → Q r σ) : wp_loadAt Q p1 σ := by
  refine ld_s (fun r a b c d => hq r ?_)
  unfold ldM
  by_cases e0 : p1.toInt = 0
  · rw [if_pos e0]; exact a e0
  · rw [if_neg e0]
    by_cases e1 : p1.toInt = 1
    · rw [if_pos e1]; exact b e1
    · rw [if_neg e1]
      by_cases e2 : p1.toInt = 2
      · rw [if_pos e2]; exact c e2
      · rw [if_neg e2]; exact d e0 e1 e2
theorem sl_x {p1 : Int32} {Q : Int32 → VS → Prop} {σ : VS} (h : 0 ≤ p1.toInt ∧ p1.toInt ≤ 2) (hq : ∀ r : Int32, r.toInt = slM p1.toInt → Q r σ) : wp_slopeAt Q p1 σ := by
  refine sl_s (fun r a b c => hq r ?_)
  unfold slM
  by_cases e0 : p1.toInt = 0
  · rw [if_pos e0]; exact a e0
  · rw [if_neg e0]
    by_cases e1 : p1.toInt = 1
    · rw [if_pos e1]; exact b e1
    · rw [if_neg e1]; exact c e0 e1
/-- the two reasons of a row are one -/
theorem stp_row {lf : Int → Int} {p k : Int} : stp (wyA lf p k) (wyA lf p (k + 1)) = wyA lf p (k + 1) := by
  unfold stp wyA
  by_cases a : lf p = 0
  · rw [if_pos a, if_pos (by decide), if_pos a]
  · rw [if_neg a, if_neg a]
    by_cases b : k < lf p
    · rw [if_pos b, if_neg (fun z => z rfl)]
    · rw [if_neg b, if_pos (by decide), if_neg (by omega)]
theorem stp_0 (w : Int) : stp 0 w = w := by unfold stp; rw [if_neg (fun z => z rfl)]
theorem stp_s {F a b : Int} : stp (stp F a) b = stp F (stp a b) := by
  unfold stp
  by_cases h : F ≠ 0
  · rw [if_pos h, if_pos h, if_pos h]
  · rw [if_neg h, if_neg h]
/-- why the look-up fails, in the reference's order of looking -/
def whyM (lf : Int → Int) (p k bx bo : Int) : Int := stp (wyA lf p (if 0 < bo then k + 1 else k)) (if 0 < bx then wyA lf (p + 1) (if 0 < bo then k + 1 else k) else 0)
theorem mx_155 {l1 l2 l5 l6 l7 l8 l9 l10 l11 : Int32} {l12 k0 : Int64} {σ : VS} (h1 : 0 ≤ l1.toInt ∧ l1.toInt ≤ 7) (h2 : 0 ≤ l2.toInt ∧ l2.toInt ≤ 1) (h6 : 0 ≤ l6.toInt ∧ l6.toInt ≤ 64) (h7 : 0 ≤ l7.toInt ∧ l7.toInt ≤ 64) (h8 : 0 ≤ l8.toInt ∧ l8.toInt ≤ 3) (h9 : 0 ≤ l9.toInt ∧ l9.toInt ≤ 2) (h10 : l10.toInt ≠ 0 ↔ 0 < l6.toInt - ldM l8.toInt) (h10b : l10.toInt ≠ 0 → l8.toInt ≤ 2) (h11 : l11.toInt ≠ 0 ↔ 0 < l7.toInt - slM l9.toInt) (h11b : l11.toInt ≠ 0 → l9.toInt ≤ 1) (hx : 0 ≤ l6.toInt - ldM l8.toInt ∧ l6.toInt - ldM l8.toInt ≤ l12.toInt) (hy : 0 ≤ l7.toInt - slM l9.toInt ∧ l7.toInt - slM l9.toInt ≤ k0.toInt) (h12 : 1 ≤ l12.toInt ∧ l12.toInt ≤ 40) (hk : 1 ≤ k0.toInt ∧ k0.toInt ≤ 48) (hM : MI σ) (h0 : (σ.1 30).toInt = 0)
    (hq : ∀ (r : Int32) (σ' : VS), MI σ' → Eo [30] [] σ σ' → (σ'.1 30).toInt = whyM (lfM σ) (8 * l1.toInt + 4 * l2.toInt + l8.toInt) l9.toInt (l6.toInt - ldM l8.toInt) (l7.toInt - slM l9.toInt) → ((σ'.1 30).toInt = 0 → r.toInt = (LUs (nmM σ) (8 * l1.toInt + 4 * l2.toInt + l8.toInt) l9.toInt (l6.toInt - ldM l8.toInt) (l7.toInt - slM l9.toInt) l12.toInt k0.toInt + (if l5.toInt ≠ 0 then l12.toInt * k0.toInt - 1 else 0)) / (l12.toInt * k0.toInt)) → Q r σ') : b_lookUp_155 X38 X57 Q l1 l2 l5 l6 l7 l8 l9 l10 l11 l12 k0 σ := by
  unfold b_lookUp_155
  refine ld_x h8 (fun r er => ?_)
  intro x19 e19
  refine sl_x h9 (fun r2 er2 => ?_)
  intro x22 e22 x23 e23
  have t6 : (l6 - r).toInt = l6.toInt - ldM l8.toInt := i3_subc rfl er rfl (by omega)
  have t7 : (l7 - r2).toInt = l7.toInt - slM l9.toInt := i3_subc rfl er2 rfl (by omega)
  have s19 : x19.toInt = l6.toInt - ldM l8.toInt := by rw [e19, i6_of]; exact t6
  have s22 : x22.toInt = l7.toInt - slM l9.toInt := by rw [e22, i6_of]; exact t7
  have u1 : (8 * l1).toInt = 8 * l1.toInt := i3_mulc rfl rfl rfl (by omega)
  have u2 : (4 * l2).toInt = 4 * l2.toInt := i3_mulc rfl rfl rfl (by omega)
  have u3 : (8 * l1 + 4 * l2).toInt = (8 * l1).toInt + (4 * l2).toInt := i3_addc rfl rfl rfl (by omega)
  have u4 : x23.toInt = (8 * l1 + 4 * l2).toInt + l8.toInt := i3_addc rfl rfl e23 (by omega)
  have u5 : x23.toInt = 8 * l1.toInt + 4 * l2.toInt + l8.toInt := by omega
  rw [← u5, ← s19, ← s22] at hq
  rw [← s19] at hx h10
  rw [← s22] at hy h11
  obtain ⟨A, hA⟩ : ∃ A : Int, A = l12.toInt - x19.toInt := ⟨_, rfl⟩
  obtain ⟨C, hC⟩ : ∃ A : Int, A = k0.toInt - x22.toInt := ⟨_, rfl⟩
  obtain ⟨D, hD⟩ : ∃ A : Int, A = x22.toInt := ⟨_, rfl⟩
  obtain ⟨B, hB⟩ : ∃ A : Int, A = x19.toInt := ⟨_, rfl⟩
  have p1 := (mu_bd (a := A) (b := C) (A := 40) (B := 48) (by omega) (by omega))
  have p2 := (mu_bd (a := A) (b := D) (A := 40) (B := 48) (by omega) (by omega))
  have v1 : (l12 - x19).toInt = A := by rw [i6_sub rfl (by omega)]; omega
  have v2 : (k0 - x22).toInt = C := by rw [i6_sub rfl (by omega)]; omega
  have v3 : ((l12 - x19) * (k0 - x22)).toInt = A * C := by rw [i6_mul rfl (by rw [v1, v2]; omega), v1, v2]
  have v4 : ((l12 - x19) * x22).toInt = A * D := by rw [i6_mul rfl (by rw [v1, ← hD]; omega), v1, ← hD]
  have ek : k0.toInt = C + D := by omega
  have e12 : l12.toInt = A + B := by omega
  -- what the whole is, once nothing fails
  have hsum : ∀ S : Int, S = A * C * nmM σ (3 * x23.toInt + l9.toInt) + (if l11.toInt ≠ 0 then A * D * nmM σ (3 * x23.toInt + (l9.toInt + 1)) else 0) + (if l10.toInt ≠ 0 then B * C * nmM σ (3 * (x23.toInt + 1) + l9.toInt) + (if l11.toInt ≠ 0 then B * D * nmM σ (3 * (x23.toInt + 1) + (l9.toInt + 1)) else 0) else 0) → S = LUs (nmM σ) x23.toInt l9.toInt x19.toInt x22.toInt l12.toInt k0.toInt := by
    intro S hS
    rw [hS]
    unfold LUs weigh
    have c1 : l12.toInt - x19.toInt = A := hA.symm
    have c2 : k0.toInt - x22.toInt = C := hC.symm
    rw [c1, c2, ← hD, ← hB]
    rw [← hB] at h10
    rw [← hD] at h11
    have ma : ∀ x y : Int, A * (x + y) = A * x + A * y := fun x y => Int.mul_add A x y
    have mb : ∀ x y : Int, B * (x + y) = B * x + B * y := fun x y => Int.mul_add B x y
    have m1 : ∀ i, A * (nmM σ i * C) = A * C * nmM σ i := fun i => by rw [Int.mul_comm (nmM σ i) C, Int.mul_assoc]
    have m2 : ∀ i, A * (nmM σ i * D) = A * D * nmM σ i := fun i => by rw [Int.mul_comm (nmM σ i) D, Int.mul_assoc]
    have m3 : ∀ i, B * (nmM σ i * C) = B * C * nmM σ i := fun i => by rw [Int.mul_comm (nmM σ i) C, Int.mul_assoc]
    have m4 : ∀ i, B * (nmM σ i * D) = B * D * nmM σ i := fun i => by rw [Int.mul_comm (nmM σ i) D, Int.mul_assoc]
    have q1 : 3 * x23.toInt + (l9.toInt + 1) = 3 * x23.toInt + l9.toInt + 1 := by omega
    have q2 : 3 * (x23.toInt + 1) + (l9.toInt + 1) = 3 * (x23.toInt + 1) + l9.toInt + 1 := by omega
    rw [q1, q2]
    by_cases a : l10.toInt ≠ 0 <;> by_cases b : l11.toInt ≠ 0
    · rw [if_pos a, if_pos b, if_pos b, if_pos (h10.mp a), if_pos (h11.mp b), if_pos (h11.mp b), ma, mb, m1, m2, m3, m4]
    · rw [if_pos a, if_neg b, if_neg b, if_pos (h10.mp a), if_neg (fun z => b (h11.mpr z)), if_neg (fun z => b (h11.mpr z)), ma, mb, m1, m3]; try simp
    · rw [if_neg a, if_pos b, if_neg (fun z => a (h10.mpr z)), if_pos (h11.mp b), ma, m1, m2]; try simp
    · rw [if_neg a, if_neg b, if_neg (fun z => a (h10.mpr z)), if_neg (fun z => b (h11.mpr z)), ma, m1]; try simp
  have hwhy : (if l10.toInt ≠ 0 then (if l11.toInt ≠ 0 then stp (stp (stp (wyA (lfM σ) x23.toInt l9.toInt) (wyA (lfM σ) x23.toInt (l9.toInt + 1))) (wyA (lfM σ) (x23.toInt + 1) l9.toInt)) (wyA (lfM σ) (x23.toInt + 1) (l9.toInt + 1)) else stp (wyA (lfM σ) x23.toInt l9.toInt) (wyA (lfM σ) (x23.toInt + 1) l9.toInt)) else (if l11.toInt ≠ 0 then stp (wyA (lfM σ) x23.toInt l9.toInt) (wyA (lfM σ) x23.toInt (l9.toInt + 1)) else wyA (lfM σ) x23.toInt l9.toInt)) = whyM (lfM σ) x23.toInt l9.toInt x19.toInt x22.toInt := by
    unfold whyM
    have z0 : ∀ F, stp F 0 = F := fun F => by
      unfold stp
      by_cases h : F ≠ 0
      · rw [if_pos h]
      · rw [if_neg h]; omega
    by_cases a : l10.toInt ≠ 0 <;> by_cases b : l11.toInt ≠ 0
    · rw [if_pos a, if_pos b, if_pos (h10.mp a), if_pos (h11.mp b), stp_row, stp_s, stp_row]
    · rw [if_pos a, if_neg b, if_pos (h10.mp a), if_neg (fun z => b (h11.mpr z))]
    · rw [if_neg a, if_pos b, if_neg (fun z => a (h10.mpr z)), if_pos (h11.mp b), stp_row, z0]
    · rw [if_neg a, if_neg b, if_neg (fun z => a (h10.mpr z)), if_neg (fun z => b (h11.mpr z)), z0]
  refine rx_number (by omega) h9 hM (fun n1 τ hn1 hT hE hF hv => ?_)
  rw [h0, stp_0] at hF
  intro x26 e26
  have m1 := mu_bd (a := A * C) (b := n1.toInt) (A := A * C) (B := 3000) ⟨p1.1, Int.le_refl _⟩ hn1
  have s26 : x26.toInt = A * C * n1.toInt := by rw [i6_mul e26 (by rw [v3]; omega), v3]
  have el : lfM τ = lfM σ := by unfold lfM; rw [hE.2 16 (by decide)]
  have en : nmM τ = nmM σ := by unfold nmM; rw [hE.2 15 (by decide)]
  have nz : ∀ {F w : Int}, stp F w = 0 → F = 0 := fun {F w} h => by
    unfold stp at h
    by_cases d : F ≠ 0
    · rw [if_pos d] at h; exact h
    · exact Decidable.not_not.mp d
  refine ⟨fun b => ?_, fun b => ?_⟩
  · have hb : ¬ l11.toInt ≠ 0 := fun z => z b
    refine mx_243 (A := A) (B := B) (C := C) (D := D) (by omega) (by omega) (by omega) (by omega) (by omega) (by omega) (by omega) (by omega) (by omega) (by omega) (by omega) h9 (fun h => by have := h10b h; omega) h11b ⟨by omega, by omega⟩ hT (fun r2 τ2 q1 q2 q3 q4 => hq r2 τ2 q1 (hE.trans q2) ?_ (fun z => ?_))
    · rw [q3, el, hF, ← hwhy, if_neg hb, if_neg hb, if_neg hb]
    · have hz : (τ.1 30).toInt = 0 := by
        rw [z] at q3
        by_cases a : l10.toInt ≠ 0
        · rw [if_pos a, if_neg hb] at q3; exact nz q3.symm
        · rw [if_neg a] at q3; exact q3.symm
      rw [q4 z, ← hsum _ rfl, s26, hv hz, en, if_neg hb, if_neg hb, e12, ek, Int.add_zero, Int.add_zero]
  · have k2 := h11b b
    have t2 : (l9 + 1).toInt = l9.toInt + 1 := i3_addc rfl rfl rfl (by omega)
    refine rx_number (by omega) (by omega) hT (fun n2 τ2 hn2 hT2 hE2 hF2 hv2 => ?_)
    rw [t2, el, hF] at hF2
    rw [t2, en] at hv2
    intro x29 e29
    have m2 := mu_bd (a := A * D) (b := n2.toInt) (A := A * D) (B := 3000) ⟨p2.1, Int.le_refl _⟩ hn2
    have s28 : (((l12 - x19) * x22) * n2).toInt = A * D * n2.toInt := by rw [i6_mul rfl (by rw [v4]; omega), v4]
    have s29 := i6_add e29 (by omega)
    have el2 : lfM τ2 = lfM σ := by unfold lfM; rw [hE2.2 16 (by decide), hE.2 16 (by decide)]
    have en2 : nmM τ2 = nmM σ := by unfold nmM; rw [hE2.2 15 (by decide), hE.2 15 (by decide)]
    refine mx_243 (A := A) (B := B) (C := C) (D := D) (by omega) (by omega) (by omega) (by omega) (by omega) (by omega) (by omega) (by omega) (by omega) (by omega) (by omega) h9 (fun h => by have := h10b h; omega) h11b ⟨by omega, by omega⟩ hT2 (fun r3 τ3 q1 q2 q3 q4 => hq r3 τ3 q1 ((hE.trans hE2).trans q2) ?_ (fun z => ?_))
    · rw [q3, el2, hF2, ← hwhy, if_pos b, if_pos b, if_pos b]
    · have hz2 : (τ2.1 30).toInt = 0 := by
        rw [z] at q3
        by_cases a : l10.toInt ≠ 0
        · rw [if_pos a, if_pos b] at q3; exact nz (nz q3.symm)
        · rw [if_neg a] at q3; exact q3.symm
      have hz : (τ.1 30).toInt = 0 := by rw [hF]; rw [hF2] at hz2; exact nz hz2
      rw [q4 z, ← hsum _ rfl, s29, s26, s28, hv hz, hv2 hz2, en2, if_pos b, if_pos b, e12, ek]
end
section
variable {X38 : Int32 → Int32 → Int32 → Int32 → Int32 → Int32 → VS → Prop} {X57 : Int32 → Int32 → Int32 → Int32 → Int32 → Int32 → Int32 → VS → Prop} {Q : Int32 → VS → Prop}
/-- what the reference's look-up says: why it fails, or the number -/
def LUm (σ : VS) (p1 p2 p5 l6 l7 l8 l9 : Int32) (Q : Int32 → VS → Prop) : Prop := ∀ (r : Int32) (σ' : VS), MI σ' → Eo [30] [] σ σ' → (σ'.1 30).toInt = whyM (lfM σ) (8 * p1.toInt + 4 * p2.toInt + l8.toInt) l9.toInt (l6.toInt - ldM l8.toInt) (l7.toInt - slM l9.toInt) → ((σ'.1 30).toInt = 0 → r.toInt = (LUs (nmM σ) (8 * p1.toInt + 4 * p2.toInt + l8.toInt) l9.toInt (l6.toInt - ldM l8.toInt) (l7.toInt - slM l9.toInt) (if 0 < l6.toInt - ldM l8.toInt then ldM (l8.toInt + 1) - ldM l8.toInt else 1) (if 0 < l7.toInt - slM l9.toInt then slM (l9.toInt + 1) - slM l9.toInt else 1) + (if p5.toInt ≠ 0 then (if 0 < l6.toInt - ldM l8.toInt then ldM (l8.toInt + 1) - ldM l8.toInt else 1) * (if 0 < l7.toInt - slM l9.toInt then slM (l9.toInt + 1) - slM l9.toInt else 1) - 1 else 0)) / ((if 0 < l6.toInt - ldM l8.toInt then ldM (l8.toInt + 1) - ldM l8.toInt else 1) * (if 0 < l7.toInt - slM l9.toInt then slM (l9.toInt + 1) - slM l9.toInt else 1))) → Q r σ'
theorem fitL {x r : Int} (h : atL x r) : (0 ≤ x ∧ x ≤ 64) ∧ (0 ≤ r ∧ r ≤ 3) ∧ 0 ≤ x - ldM r ∧ (0 < x - ldM r → r ≤ 2 ∧ x - ldM r ≤ ldM (r + 1) - ldM r ∧ 1 ≤ ldM (r + 1) - ldM r ∧ ldM (r + 1) - ldM r ≤ 40) := by
  unfold atL at h
  have d0 : ldM 0 = 0 := by decide
  have d1 : ldM 1 = 8 := by decide
  have d2 : ldM 2 = 24 := by decide
  have d3 : ldM 3 = 64 := by decide
  have f0 : ldM (0 + 1) = 8 := by decide
  have f1 : ldM (1 + 1) = 24 := by decide
  have f2 : ldM (2 + 1) = 64 := by decide
  rcases h with ⟨e, a⟩ | ⟨e, a⟩ | ⟨e, a⟩ | ⟨e, a⟩
  · subst e; rw [d3]; exact ⟨⟨by omega, by omega⟩, ⟨by omega, by omega⟩, by omega, fun k => by omega⟩
  · subst e; rw [d2, f2]; exact ⟨⟨by omega, by omega⟩, ⟨by omega, by omega⟩, by omega, fun k => ⟨by omega, by omega, by omega, by omega⟩⟩
  · subst e; rw [d1, f1]; exact ⟨⟨by omega, by omega⟩, ⟨by omega, by omega⟩, by omega, fun k => ⟨by omega, by omega, by omega, by omega⟩⟩
  · subst e; rw [d0, f0]; exact ⟨⟨by omega, by omega⟩, ⟨by omega, by omega⟩, by omega, fun k => ⟨by omega, by omega, by omega, by omega⟩⟩
theorem fitS {y k : Int} (h : atS y k) : (0 ≤ y ∧ y ≤ 64) ∧ (0 ≤ k ∧ k ≤ 2) ∧ 0 ≤ y - slM k ∧ (0 < y - slM k → k ≤ 1 ∧ y - slM k ≤ slM (k + 1) - slM k ∧ 1 ≤ slM (k + 1) - slM k ∧ slM (k + 1) - slM k ≤ 48) := by
  unfold atS at h
  have d0 : slM 0 = 0 := by decide
  have d1 : slM 1 = 16 := by decide
  have d2 : slM 2 = 64 := by decide
  have f0 : slM (0 + 1) = 16 := by decide
  have f1 : slM (1 + 1) = 64 := by decide
  rcases h with ⟨e, a⟩ | ⟨e, a⟩ | ⟨e, a⟩
  · subst e; rw [d2]; exact ⟨⟨by omega, by omega⟩, ⟨by omega, by omega⟩, by omega, fun k => by omega⟩
  · subst e; rw [d1, f1]; exact ⟨⟨by omega, by omega⟩, ⟨by omega, by omega⟩, by omega, fun k => ⟨by omega, by omega, by omega, by omega⟩⟩
  · subst e; rw [d0, f0]; exact ⟨⟨by omega, by omega⟩, ⟨by omega, by omega⟩, by omega, fun k => ⟨by omega, by omega, by omega, by omega⟩⟩
theorem mx_130 {l1 l2 l5 l6 l7 l8 l9 l10 l11 : Int32} {k0 : Int64} {σ : VS} (h1 : 0 ≤ l1.toInt ∧ l1.toInt ≤ 7) (h2 : 0 ≤ l2.toInt ∧ l2.toInt ≤ 1) (hL : atL l6.toInt l8.toInt) (hS : atS l7.toInt l9.toInt) (h10 : l10.toInt ≠ 0 ↔ 0 < l6.toInt - ldM l8.toInt) (h11 : l11.toInt ≠ 0 ↔ 0 < l7.toInt - slM l9.toInt) (hk : k0.toInt = (if 0 < l6.toInt - ldM l8.toInt then ldM (l8.toInt + 1) - ldM l8.toInt else 1)) (hM : MI σ) (h0 : (σ.1 30).toInt = 0) (hq : LUm σ l1 l2 l5 l6 l7 l8 l9 Q) : b_lookUp_130 X38 X57 Q l1 l2 l5 l6 l7 l8 l9 l10 l11 k0 σ := by
  have f1 := fitL hL
  have f2 := fitS hS
  have hk2 : (1 ≤ k0.toInt ∧ k0.toInt ≤ 40) ∧ l6.toInt - ldM l8.toInt ≤ k0.toInt := by
    rw [hk]
    by_cases a : 0 < l6.toInt - ldM l8.toInt
    · rw [if_pos a]; have := f1.2.2.2 a; omega
    · rw [if_neg a]; omega
  unfold LUm at hq
  rw [← hk] at hq
  unfold b_lookUp_130
  refine ⟨fun a => ?_, fun a => ?_⟩
  · have hn : ¬ 0 < l7.toInt - slM l9.toInt := fun z => (h11.mpr z) a
    rw [if_neg hn] at hq
    have e1 : (1 : Int64).toInt = 1 := rfl
    rw [← e1] at hq
    exact mx_155 h1 h2 f1.1 f2.1 f1.2.1 f2.2.1 h10 (fun h => (f1.2.2.2 (h10.mp h)).1) h11 (fun h => absurd a h) ⟨f1.2.2.1, hk2.2⟩ ⟨f2.2.2.1, by omega⟩ hk2.1 ⟨by decide, by decide⟩ hM h0 hq
  · have hp := h11.mp a
    have g := f2.2.2.2 hp
    have t2 : (l9 + 1).toInt = l9.toInt + 1 := i3_addc rfl rfl rfl (by have e9 : (1 : Int32).toInt = 1 := rfl; omega)
    refine sl_x (by omega) (fun r er => ?_)
    refine sl_x f2.2.1 (fun r2 er2 => ?_)
    rw [t2] at er
    have t3 : (r - r2).toInt = slM (l9.toInt + 1) - slM l9.toInt := i3_subc er er2 rfl (by omega)
    have t4 : ((r - r2).toInt64).toInt = slM (l9.toInt + 1) - slM l9.toInt := by rw [i6_of]; exact t3
    rw [if_pos hp, ← t4] at hq
    exact mx_155 h1 h2 f1.1 f2.1 f1.2.1 f2.2.1 h10 (fun h => (f1.2.2.2 (h10.mp h)).1) h11 (fun _ => g.1) ⟨f1.2.2.1, hk2.2⟩ ⟨f2.2.2.1, by rw [t4]; exact g.2.1⟩ hk2.1 (by rw [t4]; exact ⟨g.2.2.1, g.2.2.2⟩) hM h0 hq
theorem mx_105 {l1 l2 l5 l6 l7 l8 l9 l10 k0 : Int32} {σ : VS} (h1 : 0 ≤ l1.toInt ∧ l1.toInt ≤ 7) (h2 : 0 ≤ l2.toInt ∧ l2.toInt ≤ 1) (hL : atL l6.toInt l8.toInt) (hS : atS l7.toInt l9.toInt) (h10 : l10.toInt ≠ 0 ↔ 0 < l6.toInt - ldM l8.toInt) (h11 : k0.toInt ≠ 0 ↔ 0 < l7.toInt - slM l9.toInt) (hM : MI σ) (h0 : (σ.1 30).toInt = 0) (hq : LUm σ l1 l2 l5 l6 l7 l8 l9 Q) : b_lookUp_105 X38 X57 Q l1 l2 l5 l6 l7 l8 l9 l10 k0 σ := by
  have f1 := fitL hL
  unfold b_lookUp_105
  refine ⟨fun a => ?_, fun a => ?_⟩
  · exact mx_130 h1 h2 hL hS h10 h11 (by rw [if_neg (fun z => (h10.mpr z) a)]; rfl) hM h0 hq
  · have hp := h10.mp a
    have g := f1.2.2.2 hp
    have t2 : (l8 + 1).toInt = l8.toInt + 1 := i3_addc rfl rfl rfl (by have e9 : (1 : Int32).toInt = 1 := rfl; omega)
    refine ld_x (by omega) (fun r er => ?_)
    refine ld_x f1.2.1 (fun r2 er2 => ?_)
    rw [t2] at er
    have t3 : (r - r2).toInt = ldM (l8.toInt + 1) - ldM l8.toInt := i3_subc er er2 rfl (by omega)
    exact mx_130 h1 h2 hL hS h10 h11 (by rw [if_pos hp, i6_of]; exact t3) hM h0 hq
end
