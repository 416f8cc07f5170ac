set_option maxHeartbeats 2000000 in
theorem rg_arrival {Q : Int32 → VS → Prop} {p1 p2 p3 : Int32} {σ : VS} (hS : SI σ) (hM : MI σ) (hq : ∀ (r : Int32) (σ' : VS), MI σ' → Eo [30, 32] [31, 33, 34, 35, 36, 37, 38, 39, 40, 41] σ σ' → Q r σ') : wp_arrival Q p1 p2 p3 σ := by
  unfold wp_arrival
  intro X101 X156 H101 H156
  have hc : 0 ≤ (σ.1 1).toInt ∧ (σ.1 1).toInt ≤ 50 := hM.1 1
  refine rg_isCell hM (fun r σ2 _ himp hM2 hE2 => ?_)
  have hE2' : Eo [30, 32] [31, 33, 34, 35, 36, 37, 38, 39, 40, 41] σ σ2 := hE2.mono (by decide) (by decide)
  unfold b_arrival_36 b_arrival_62
  refine ⟨fun _ => hq _ _ hM2 hE2', fun hr => ?_⟩
  have hp1 := himp hr
  refine ⟨⟨by omega, by omega⟩, fun _ => hq _ _ hM2 hE2', fun _ => ⟨fun _ => hq _ _ hM2 hE2', fun h20 => ⟨fun _ => hq _ _ hM2 hE2', fun h21 => ⟨fun _ => hq _ _ hM2 hE2', fun h30 => ⟨fun h33 => ?_, fun _ => hq _ _ hM2 hE2'⟩⟩⟩⟩⟩
  refine rg_time (hS.same hE2 (by decide)) hM2 (fun τ hMt hEt hDt => ?_)
  have hEt' : Eo [30, 32] [31, 33, 34, 35, 36, 37, 38, 39, 40, 41] σ τ := hE2'.of hEt (by decide) (by decide)
  have u1 : (2 * p1).toInt = 2 * p1.toInt := i3_mulc rfl rfl rfl (by omega)
  have u2 : (2 * p1 + p2).toInt = (2 * p1).toInt + p2.toInt := i3_addc rfl rfl rfl (by omega)
  have hSt := hS.same hEt' (by decide)
  have hct : 0 ≤ (τ.1 1).toInt ∧ (τ.1 1).toInt ≤ 50 := hMt.1 1
  have hot : 0 ≤ (τ.1 32).toInt ∧ (τ.1 32).toInt ≤ 50 := hMt.1 32
  have L101 : ∀ (n : Nat) (l4 : Int32) (x : VS), 50 - l4.toInt < (n : Int) → 0 ≤ l4.toInt ∧ l4.toInt ≤ 50 → MI x → Eo [] [40, 41] τ x → X101 p1 p2 p3 l4 x := by
    intro n
    induction n with
    | zero => intro l4 x k1 k2; omega
    | succ n ih =>
      intro l4 x k1 k2 hMx hEx
      refine H101 _ _ _ _ _ ?_
      unfold b_arrival_101
      rw [hEx.1 32 (by decide)]
      have hEx' : Eo [30, 32] [31, 33, 34, 35, 36, 37, 38, 39, 40, 41] σ x := hEt'.of hEx (by decide) (by decide)
      refine ⟨fun _ => ⟨fun _ => ⟨⟨by omega, by omega⟩, hq _ _ hMx hEx'⟩, fun _ => ⟨⟨by omega, by omega⟩, hq _ _ hMx hEx'⟩⟩, fun hlt => ⟨⟨by omega, by omega⟩, fun x5 e5 => ?_⟩⟩
      have u4 : (l4 + 1).toInt = l4.toInt + 1 := i3_addc rfl rfl rfl (by omega)
      have b5 : 0 ≤ x5.toInt ∧ x5.toInt ≤ 49 := by rw [e5]; exact hMx.2 31 _
      obtain ⟨k, hk⟩ : ∃ k : Nat, l4.toInt = (k : Int) := ⟨l4.toInt.toNat, by omega⟩
      have hd : x5.toInt < (τ.1 1).toInt := by
        have h1 := hDt.2.1 k (by unfold oL; omega)
        have h2 : x5 = τ.2.1 31 k := by rw [e5, rd_at x 31 l4 hk, hEx.2 31 (by decide)]
        unfold oN nC at h1
        rw [← h2] at h1
        omega
      have h176 : ∀ y : VS, MI y → Eo [] [40, 41] τ y → b_arrival_176 X101 X156 Q p1 p2 p3 l4 y := by
        intro y hMy hEy
        unfold b_arrival_176
        exact ih (l4 + 1) y (by omega) (by omega) hMy hEy
      refine ⟨⟨by omega, by omega⟩, fun _ => h176 x hMx hEx, fun _ => ⟨⟨by omega, by omega⟩, fun _ => h176 x hMx hEx, fun _ => ⟨⟨by omega, by omega⟩, fun _ => ?_, fun _ => h176 x hMx hEx⟩⟩⟩
      have L156 : ∀ (m : Nat) (l6 : Int32) (y : VS), 2 - l6.toInt < (m : Int) → 0 ≤ l6.toInt ∧ l6.toInt ≤ 2 → MI y → Eo [] [40, 41] τ y → X156 p1 p2 p3 l4 x5 l6 y := by
        intro m
        induction m with
        | zero => intro l6 y j1 j2; omega
        | succ m ihm =>
          intro l6 y j1 j2 hMy hEy
          refine H156 _ _ _ _ _ _ _ ?_
          unfold b_arrival_156
          have u6 : l6.toInt < 2 → (l6 + 1).toInt = l6.toInt + 1 := fun h => i3_addc rfl rfl rfl (by omega)
          refine ⟨fun _ => h176 y hMy hEy, fun hl => ?_⟩
          have hcy : (y.1 1).toInt = (τ.1 1).toInt := by rw [hEy.1 1 (by decide)]
          have u6 := u6 hl
          exact rg_arrive ⟨by omega, by omega⟩ ⟨by omega, by omega⟩ ⟨by omega, by omega⟩ (by omega) (hSt.same hEy (by decide)) hMy (fun z hMz hEz => ihm (l6 + 1) z (by omega) (by omega) hMz (hEy.of hEz (by decide) (by decide)))
      exact L156 3 0 x (by decide) (by decide) hMx hEx
  refine ⟨⟨by omega, by omega⟩, fun _ => hq _ _ hMt hEt', fun _ => ⟨⟨by omega, by omega⟩, fun _ => ⟨fun _ => ⟨fun _ => L101 51 0 τ (by decide) (by decide) hMt Eo.rfl, fun _ => ⟨⟨by omega, by omega⟩, hq _ _ hMt hEt'⟩⟩, fun _ => ⟨⟨by omega, by omega⟩, hq _ _ hMt hEt'⟩⟩, fun _ => hq _ _ hMt hEt'⟩⟩

