theorem wire_si {σ τ : VS} {w tt i0 : Nat} (hS : SI σ) (hM : MI σ) (hE : Eo [] [7, 14] σ τ) (hw : w = 4 * tt + i0) (hi0 : i0 < 4) {v : Int32} (h7 : ∀ j, τ.2.1 7 j = if j = w then v else σ.2.1 7 j) (hv : v.toInt < (σ.1 1).toInt) (hr : 0 ≤ v.toInt → gate σ v.toInt.toNat → gate σ tt → ∃ S : Nat → Bool, S tt = true ∧ S v.toInt.toNat = false ∧ ∀ d i : Nat, d < nC σ → gate σ d → (i : Int) < Ip σ d → 4 * d + i ≠ w → 0 ≤ Tk σ (4 * d + i) → S (Tk σ (4 * d + i)).toNat = true → S d = true) : SI τ := by
  obtain ⟨hS1, hS2, hS3, hS4, ρ, hρ⟩ := hS
  have hc : 0 ≤ (σ.1 1).toInt ∧ (σ.1 1).toInt ≤ 50 := hM.1 1
  have hT : ∀ j, Tk τ j = if j = w then v.toInt else Tk σ j := fun j => by
    unfold Tk; rw [h7]; split <;> rfl
  have hK : ∀ c, Kd τ c = Kd σ c := fun c => by unfold Kd; rw [hE.2 2 (by decide)]
  have hI : ∀ c, Ip τ c = Ip σ c := fun c => by unfold Ip; rw [hE.2 3 (by decide)]
  have hg : ∀ c, gate τ c ↔ gate σ c := fun c => by unfold gate; rw [hK]
  have h1 : (τ.1 1) = σ.1 1 := hE.1 1 (by decide)
  have h21 : (τ.1 21) = σ.1 21 := hE.1 21 (by decide)
  refine ⟨fun j hj => ?_, fun j hj => ?_, fun c hcc => ?_, fun c hcc hk => ?_, ?_⟩
  · rw [hT, h1]; rw [h1] at hj
    split
    · exact hv
    · exact hS1 j hj
  · rw [hE.2 22 (by decide)]; rw [h21] at hj; exact hS2 j hj
  · rw [hE.2 11 (by decide), h21]; rw [h1] at hcc; exact hS3 c hcc
  · rw [hI]; rw [hK] at hk; rw [h1] at hcc; exact hS4 c hcc hk
  · by_cases hb : 0 ≤ v.toInt ∧ gate σ v.toInt.toNat ∧ gate σ tt
    · obtain ⟨S, s1, s2, s3⟩ := hr hb.1 hb.2.1 hb.2.2
      refine ⟨fun x => ρ x + (if S x = true then ρ v.toInt.toNat + 1 else 0), fun d i hd hi hgd h0 hgs => ?_⟩
      rw [h1] at hd
      rw [hI] at hi
      rw [hg] at hgd hgs
      have hIp : Ip σ d ≤ 4 := (hM.2 3 d).2
      rw [hT] at h0 hgs ⊢
      show ρ _ + _ < ρ d + _
      by_cases e : 4 * d + i = w
      · rw [if_pos e] at h0 hgs ⊢
        have ed : d = tt := by omega
        rw [ed, if_pos s1, s2]
        simp only [Bool.false_eq_true, if_false]
        omega
      · rw [if_neg e] at h0 hgs ⊢
        have h9 := hρ d i hd hi hgd h0 hgs
        by_cases es : S (Tk σ (4 * d + i)).toNat = true
        · rw [if_pos es, if_pos (s3 d i (by unfold nC; omega) hgd hi e h0 es)]; omega
        · rw [if_neg es]; omega
    · refine ⟨ρ, fun d i hd hi hgd h0 hgs => ?_⟩
      rw [h1] at hd
      rw [hI] at hi
      rw [hg] at hgd hgs
      have hIp : Ip σ d ≤ 4 := (hM.2 3 d).2
      rw [hT] at h0 hgs ⊢
      by_cases e : 4 * d + i = w
      · rw [if_pos e] at h0 hgs
        have ed : d = tt := by omega
        rw [ed] at hgd
        exact absurd ⟨h0, hgs, hgd⟩ hb
      · rw [if_neg e] at h0 hgs ⊢
        exact hρ d i hd hi hgd h0 hgs
set_option maxHeartbeats 4000000 in
theorem rg_wire {Q : Int32 → VS → Prop} {p1 p2 p3 : Int32} {σ : VS} (hS : SI σ) (hM : MI σ) (hLI : LI σ) (hq : ∀ (r : Int32) (σ' : VS), MI σ' → SI σ' → LI σ' → Eo [] [7, 14] σ σ' → Q r σ') : wp_wire Q p1 p2 p3 σ := by
  have hc : 0 ≤ (σ.1 1).toInt ∧ (σ.1 1).toInt ≤ 50 := hM.1 1
  have hq0 : ∀ (r : Int32) (τ : VS), MI τ → Eo [] [] σ τ → Q r τ := fun r τ hMt hEt => hq r τ hMt (hS.same hEt (by decide)) (hLI.same hEt (by decide)) (hEt.mono (by decide) (by decide))
  unfold wp_wire b_wire_22
  refine ⟨fun _ => hq0 _ _ hM Eo.rfl, fun h1 => ⟨fun _ => hq0 _ _ hM Eo.rfl, fun h2 => ?_⟩⟩
  refine rg_isInput hM (fun r σ2 _ himp hM2 hE2 => ⟨fun hr => ?_, fun _ => hq0 _ _ hM2 hE2⟩)
  have hp := himp hr
  obtain ⟨tt, htt⟩ : ∃ t : Nat, p2.toInt = (t : Int) := ⟨p2.toInt.toNat, by omega⟩
  obtain ⟨i0, hi0⟩ : ∃ t : Nat, p3.toInt = (t : Int) := ⟨p3.toInt.toNat, by omega⟩
  have v1 : (4 * p2).toInt = 4 * p2.toInt := i3_mulc rfl rfl rfl (by omega)
  have v2 : (4 * p2 + p3).toInt = (4 * p2).toInt + p3.toInt := i3_addc rfl rfl rfl (by omega)
  have hw : (4 * p2 + p3).toInt = ((4 * tt + i0 : Nat) : Int) := by omega
  -- the end: the input takes p1
  have h108 : ∀ (l4 : Int32) (x : VS), MI x → Eo [] [7, 14] σ x → (∀ j, j ≠ 4 * tt + i0 → x.2.1 7 j = σ.2.1 7 j) → (0 ≤ p1.toInt → gate σ p1.toInt.toNat → gate σ tt → ∃ S : Nat → Bool, S tt = true ∧ S p1.toInt.toNat = false ∧ ∀ d i : Nat, d < nC σ → gate σ d → (i : Int) < Ip σ d → 4 * d + i ≠ 4 * tt + i0 → 0 ≤ Tk σ (4 * d + i) → S (Tk σ (4 * d + i)).toNat = true → S d = true) → b_wire_108 Q p1 p2 p3 l4 x := by
    intro l4 x hMx hEx hoth hS9
    have hMy := hMx.sa 7 (4 * p2 + p3) p1 (show -1 ≤ p1.toInt ∧ p1.toInt ≤ 49 by omega)
    have hEy := hEx.sa 7 (4 * p2 + p3) p1 (by decide)
    have hSy : SI (sa x 7 (4 * p2 + p3) p1) := wire_si hS hM hEy rfl (by omega) (v := p1) (fun j => by
      rw [sa_at x 7 _ p1 hw]
      by_cases e : j = 4 * tt + i0
      · rw [if_pos e, if_pos e]
      · rw [if_neg e, if_neg e]; exact hoth j e) (by omega) hS9
    have hLy : LI (sa x 7 (4 * p2 + p3) p1) := hLI.same hEy (by decide)
    unfold b_wire_108 b_wire_131
    exact ⟨⟨by omega, by omega⟩, fun _ => hq _ _ hMy hSy hLy hEy, fun _ => hq _ _ hMy hSy hLy hEy⟩
  have h41 : b_wire_41 Q p1 p2 p3 σ2 := by
    unfold b_wire_41
    refine ⟨⟨by omega, by omega⟩, fun x3 e3 => ⟨⟨by omega, by omega⟩, ?_⟩⟩
    have b3 : -1 ≤ x3.toInt ∧ x3.toInt ≤ 49 := by rw [e3]; exact hM2.2 7 _
    have hx3 : x3 = σ.2.1 7 (4 * tt + i0) := by rw [e3, rd_at σ2 7 _ hw, hE2.2 7 (by decide)]
    obtain ⟨x, hx⟩ : ∃ x : VS, x = sa σ2 7 (4 * p2 + p3) (-1) := ⟨_, rfl⟩
    rw [← hx]
    have hMx : MI x := by rw [hx]; exact hM2.sa 7 _ _ (show -1 ≤ (-1 : Int32).toInt ∧ (-1 : Int32).toInt ≤ 49 by decide)
    have hEx : Eo [] [7, 14] σ x := by rw [hx]; exact (hE2.mono (by decide) (by decide)).sa 7 _ _ (by decide)
    have x7 : ∀ j, x.2.1 7 j = if j = 4 * tt + i0 then -1 else σ.2.1 7 j := fun j => by rw [hx, sa_at σ2 7 _ _ hw, hE2.2 7 (by decide)]
    have hxo : ∀ j, j ≠ 4 * tt + i0 → x.2.1 7 j = σ.2.1 7 j := fun j e => by rw [x7, if_neg e]
    refine ⟨fun hneg => h108 x3 x hMx hEx hxo (fun h => by omega), fun hpos => ?_⟩
    obtain ⟨f, hf⟩ : ∃ f : Nat, p1.toInt = (f : Int) := ⟨p1.toInt.toNat, by omega⟩
    have hft : p1.toInt.toNat = f := by omega
    have hgx : ∀ c, gate x c ↔ gate σ c := fun c => gate_same hEx (by decide) c
    refine isGate_s hf (by omega) (fun hg1 => ⟨fun h => absurd h (by decide), fun _ => ?_⟩) (fun hg1 => ⟨fun _ => h108 x3 x hMx hEx hxo (fun _ h _ => absurd ((hgx f).mpr (by rw [hft] at h; exact h)) hg1), fun h => absurd rfl h⟩)
    refine isGate_s htt (by omega) (fun hg2 => ⟨fun h => absurd h (by decide), fun _ => ?_⟩) (fun hg2 => ⟨fun _ => h108 x3 x hMx hEx hxo (fun _ _ h => absurd ((hgx tt).mpr h) hg2), fun h => absurd rfl h⟩)
    have hcx : (x.1 1).toInt = (σ.1 1).toInt := by rw [hEx.1 1 (by decide)]
    have hnx : nC x = nC σ := by unfold nC; rw [hcx]
    have hTx : ∀ j, Tk x j = if j = 4 * tt + i0 then -1 else Tk σ j := fun j => by
      unfold Tk; rw [x7]; split <;> rfl
    refine rg_leads htt hf (by rw [hnx]; unfold nC; omega) (by rw [hnx]; unfold nC; omega) (fun j hj => ?_) hMx (fun r8 y hMy hEy hcl => ?_)
    · rw [hTx, hcx]; rw [hcx] at hj
      split
      · omega
      · exact hS.1 j hj
    · have hEy2 : Eo [] [7, 14] σ y := hEx.of hEy (by decide) (by decide)
      have hyo : ∀ j, y.2.1 7 j = x.2.1 7 j := fun j => by rw [hEy.2 7 (by decide)]
      refine ⟨fun hz => ?_, fun hnz => ⟨⟨by omega, by omega⟩, ?_⟩⟩
      · refine h108 x3 y hMy hEy2 (fun j e => by rw [hyo]; exact hxo j e) (fun _ _ _ => ?_)
        obtain ⟨S, s1, s2, s3⟩ := hcl hz
        refine ⟨S, s1, by rw [hft]; exact s2, fun d i k1 k2 k3 k4 k5 k6 => ?_⟩
        have eT : Tk x (4 * d + i) = Tk σ (4 * d + i) := by rw [hTx, if_neg k4]
        have eI : Ip x d = Ip σ d := by unfold Ip; rw [hEx.2 3 (by decide)]
        exact s3 d i (by rw [hnx]; exact k1) ((hgx d).mpr k2) (by rw [eI]; exact k3) (by rw [eT]; exact k5) (by rw [eT]; exact k6)
      · have hEz : Eo [] [14] σ (sa y 7 (4 * p2 + p3) x3) := by
          refine ⟨fun k _ => hEy2.1 k (fun h => nomatch h), fun k hk => ?_⟩
          by_cases e : k = 7
          · subst e
            funext j
            rw [sa_at y 7 _ x3 hw]
            by_cases e2 : j = 4 * tt + i0
            · rw [if_pos e2, e2]; exact hx3
            · rw [if_neg e2, hyo]; exact hxo j e2
          · rw [sa_other e]
            refine hEy2.2 k (fun h => ?_)
            rcases List.mem_cons.mp h with q | q
            · exact e q
            · exact hk q
        exact hq _ _ (hMy.sa 7 _ _ (show -1 ≤ x3.toInt ∧ x3.toInt ≤ 49 from b3)) (hS.same hEz (by decide)) (hLI.same hEz (by decide)) (hEz.mono (by decide) (by decide))
  refine ⟨fun _ => h41, fun hpos => ⟨⟨by omega, by omega⟩, fun _ => h41, fun _ => hq0 _ _ hM2 hE2⟩⟩

