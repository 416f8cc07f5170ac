theorem dL_law_802 : decode cL_law 802 = .ok (.aload_n 1, 1) := by decide +kernel
theorem dL_law_803 : decode cL_law 803 = .ok (.aload_n 0, 1) := by decide +kernel
theorem dL_law_804 : decode cL_law 804 = .ok (.iload_n 3, 1) := by decide +kernel
theorem dL_law_805 : decode cL_law 805 = .ok (.iconst 1, 1) := by decide +kernel
theorem dL_law_806 : decode cL_law 806 = .ok (.iadd, 1) := by decide +kernel
theorem dL_law_807 : decode cL_law 807 = .ok (.iaload, 1) := by decide +kernel
theorem dL_law_808 : decode cL_law 808 = .ok (.aload_n 0, 1) := by decide +kernel
theorem dL_law_809 : decode cL_law 809 = .ok (.iload_n 3, 1) := by decide +kernel
theorem dL_law_810 : decode cL_law 810 = .ok (.iconst 2, 1) := by decide +kernel
theorem dL_law_811 : decode cL_law 811 = .ok (.iadd, 1) := by decide +kernel
theorem dL_law_812 : decode cL_law 812 = .ok (.iaload, 1) := by decide +kernel
theorem dL_law_813 : decode cL_law 813 = .ok (.aload_n 0, 1) := by decide +kernel
theorem dL_law_814 : decode cL_law 814 = .ok (.iload_n 3, 1) := by decide +kernel
theorem dL_law_815 : decode cL_law 815 = .ok (.iconst 3, 1) := by decide +kernel
theorem dL_law_816 : decode cL_law 816 = .ok (.iadd, 1) := by decide +kernel
theorem dL_law_817 : decode cL_law 817 = .ok (.iaload, 1) := by decide +kernel
theorem dL_law_818 : decode cL_law 818 = .ok (.invokevirtual 83, 3) := by decide +kernel
theorem g_law_X9arrival : GoodIn lw_tbl (wsV RL 83 RX9 yX9_arrival w_X9arrival) := goodIn_app (gt_of (GW_of (by decide +kernel)) [776, 777, 778, 68] (by decide +kernel)) gt_X9arrival
theorem dL_law_821 : decode cL_law 821 = .ok (.pop, 1) := by decide +kernel
theorem dL_law_822 : decode cL_law 822 = .ok (.aload_n 2, 1) := by decide +kernel
theorem dL_law_823 : decode cL_law 823 = .ok (.aload_n 0, 1) := by decide +kernel
theorem dL_law_824 : decode cL_law 824 = .ok (.iload_n 3, 1) := by decide +kernel
theorem dL_law_825 : decode cL_law 825 = .ok (.iconst 1, 1) := by decide +kernel
theorem dL_law_826 : decode cL_law 826 = .ok (.iadd, 1) := by decide +kernel
theorem dL_law_827 : decode cL_law 827 = .ok (.iaload, 1) := by decide +kernel
theorem dL_law_828 : decode cL_law 828 = .ok (.aload_n 0, 1) := by decide +kernel
theorem dL_law_829 : decode cL_law 829 = .ok (.iload_n 3, 1) := by decide +kernel
theorem dL_law_830 : decode cL_law 830 = .ok (.iconst 2, 1) := by decide +kernel
theorem dL_law_831 : decode cL_law 831 = .ok (.iadd, 1) := by decide +kernel
theorem dL_law_832 : decode cL_law 832 = .ok (.iaload, 1) := by decide +kernel
theorem dL_law_833 : decode cL_law 833 = .ok (.aload_n 0, 1) := by decide +kernel
theorem dL_law_834 : decode cL_law 834 = .ok (.iload_n 3, 1) := by decide +kernel
theorem dL_law_835 : decode cL_law 835 = .ok (.iconst 3, 1) := by decide +kernel
theorem dL_law_836 : decode cL_law 836 = .ok (.iadd, 1) := by decide +kernel
theorem dL_law_837 : decode cL_law 837 = .ok (.iaload, 1) := by decide +kernel
theorem dL_law_838 : decode cL_law 838 = .ok (.invokevirtual 86, 3) := by decide +kernel
theorem g_law_arrival : GoodIn lw_tbl (wsV RL 86 RX10 yX10_arrival w_arrival) := goodIn_app (gt_of (GW_of (by decide +kernel)) [1278, 1279, 1280, 79] (by decide +kernel)) gt_arrival
theorem dL_law_841 : decode cL_law 841 = .ok (.pop, 1) := by decide +kernel
theorem dL_law_842 : decode cL_law 842 = .ok (.goto 289, 3) := by decide +kernel
set_option maxHeartbeats 4000000 in
set_option maxRecDepth 100000 in
theorem law_arrival {p : Program} {l : Launch} {e : Env} {s : State} {m : MethodId} {below : List Frame} {meth : Method} {c : Code} {b L : Nat} {xs : Nat → Int32} {E : gE} {A : Nat → Prop} {B B2 : Nat → Nat} (C0 : lw_At p s m meth c b L xs) (hL : L ≤ 3072) (hAe : A = fun q => s.heap.size ≤ q) (hK : va_K E.1 vwCl (tyE E) s) (hN : nw_ok s) (hZ : stk E A s s.heap) {H : Heap} {locs : List Loc} {ls : Array Slot} {σ τ : VS} {i : Int32} (J : Jt σ τ) (hi0 : 0 ≤ i.toInt) (hi6 : i.toInt + 6 ≤ (L : Int)) (hP : va_P E.1 vwCl (wc E B σ ++ wm E B2 τ) H) (hD : va_D A (wc E B σ ++ wm E B2 τ)) (hS : va_S A s.heap H locs) (hl : lv_has ls 4 [(3, .int i), (2, .ref (B2 0)), (1, .ref (B 0)), (0, .ref b)]) (K : ∀ (σ' τ' : VS) (H' : Heap) (locs' : List Loc), Jt σ' τ' → va_P E.1 vwCl (wc E B σ' ++ wm E B2 τ') H' → va_D A (wc E B σ' ++ wm E B2 τ') → va_S A s.heap H' locs' → W p l e room_1 s m #[Value.ref b] below meth c H' locs' 1000 1000000 (lw_Z below #[Value.ref b] s) (F0 m 1131 ls [])) : W p l e room_1 s m #[Value.ref b] below meth c H locs 1000 1000000 (lw_Z below #[Value.ref b] s) (F0 m 802 ls []) := by
  obtain ⟨hx, hb, hr, hml, hown, hts, hX, hbl, hlocks, hgv⟩ := id C0
  have hown : s.vm.findClass RL = some m.cls := hown
  have hA : ∀ q, s.heap.size ≤ q → A q := fun q h => by rw [hAe]; exact h
  have hbA : ¬ A b := by rw [hAe]; exact Nat.not_le.mpr hbl
  refine lv_aload_n hx hb dL_law_802 rfl (lv_at hl 2 rfl) ?_
  refine lv_aload_n hx hb dL_law_803 rfl (lv_at hl 3 rfl) ?_
  refine lv_iload_n hx hb dL_law_804 rfl (lv_at hl 0 rfl) ?_
  refine lv_iconst (v := 1) hx hb dL_law_805 (by decide) ?_
  refine lv_iadd hx hb dL_law_806 ?_
  refine va_sld hx hb hX hbl hbA hS (law_in hi0 hi6 hL (by decide)) dL_law_807 ?_
  refine lv_aload_n hx hb dL_law_808 rfl (lv_at hl 3 rfl) ?_
  refine lv_iload_n hx hb dL_law_809 rfl (lv_at hl 0 rfl) ?_
  refine lv_iconst (v := 2) hx hb dL_law_810 (by decide) ?_
  refine lv_iadd hx hb dL_law_811 ?_
  refine va_sld hx hb hX hbl hbA hS (law_in hi0 hi6 hL (by decide)) dL_law_812 ?_
  refine lv_aload_n hx hb dL_law_813 rfl (lv_at hl 3 rfl) ?_
  refine lv_iload_n hx hb dL_law_814 rfl (lv_at hl 0 rfl) ?_
  refine lv_iconst (v := 3) hx hb dL_law_815 (by decide) ?_
  refine lv_iadd hx hb dL_law_816 ?_
  refine va_sld hx hb hX hbl hbA hS (law_in hi0 hi6 hL (by decide)) dL_law_817 ?_
  refine lw_call (As := [.int (xs (i + 1).toNatClampNeg), .int (xs (i + 2).toNatClampNeg), .int (xs (i + 3).toNatClampNeg)]) (rest := []) (ci := 9) ⟨hx, hb, hml, hown, hts⟩ (ct_X9arrival l E B _ (xs (i + 1).toNatClampNeg) (xs (i + 2).toNatClampNeg) (xs (i + 3).toNatClampNeg) σ (qt_arrival J)) (cwV 3 hts g_law_X9arrival rfl rfl rfl (by decide +kernel) ⟨Nat.le_of_ble_eq_true rfl, Nat.le_of_ble_eq_true rfl⟩) ⟨rfl, rfl⟩ hK hN hZ hS hA hP hD rfl rfl rfl hl.1 rfl (Nat.le_of_ble_eq_true rfl) dL_law_818 ⟨Nat.le_of_ble_eq_true rfl, Nat.le_of_ble_eq_true rfl⟩ (fun r1 w H locs hw hP hD hS => ?_)
  obtain ⟨σ', hq, rfl⟩ := hw
  refine lv_pop hx hb dL_law_821 rfl ?_
  refine lv_aload_n hx hb dL_law_822 rfl (lv_at hl 1 rfl) ?_
  refine lv_aload_n hx hb dL_law_823 rfl (lv_at hl 3 rfl) ?_
  refine lv_iload_n hx hb dL_law_824 rfl (lv_at hl 0 rfl) ?_
  refine lv_iconst (v := 1) hx hb dL_law_825 (by decide) ?_
  refine lv_iadd hx hb dL_law_826 ?_
  refine va_sld hx hb hX hbl hbA hS (law_in hi0 hi6 hL (by decide)) dL_law_827 ?_
  refine lv_aload_n hx hb dL_law_828 rfl (lv_at hl 3 rfl) ?_
  refine lv_iload_n hx hb dL_law_829 rfl (lv_at hl 0 rfl) ?_
  refine lv_iconst (v := 2) hx hb dL_law_830 (by decide) ?_
  refine lv_iadd hx hb dL_law_831 ?_
  refine va_sld hx hb hX hbl hbA hS (law_in hi0 hi6 hL (by decide)) dL_law_832 ?_
  refine lv_aload_n hx hb dL_law_833 rfl (lv_at hl 3 rfl) ?_
  refine lv_iload_n hx hb dL_law_834 rfl (lv_at hl 0 rfl) ?_
  refine lv_iconst (v := 3) hx hb dL_law_835 (by decide) ?_
  refine lv_iadd hx hb dL_law_836 ?_
  refine va_sld hx hb hX hbl hbA hS (law_in hi0 hi6 hL (by decide)) dL_law_837 ?_
  refine lw_call (As := [.int (xs (i + 1).toNatClampNeg), .int (xs (i + 2).toNatClampNeg), .int (xs (i + 3).toNatClampNeg)]) (rest := []) (ci := 10) ⟨hx, hb, hml, hown, hts⟩ (ct_arrival l E B2 _ (xs (i + 1).toNatClampNeg) (xs (i + 2).toNatClampNeg) (xs (i + 3).toNatClampNeg) τ hq) (cwV 3 hts g_law_arrival rfl rfl rfl (by decide +kernel) ⟨Nat.le_of_ble_eq_true rfl, Nat.le_of_ble_eq_true rfl⟩) ⟨rfl, rfl⟩ hK hN hZ hS hA hP hD rfl rfl rfl hl.1 rfl (Nat.le_of_ble_eq_true rfl) dL_law_838 ⟨Nat.le_of_ble_eq_true rfl, Nat.le_of_ble_eq_true rfl⟩ (fun r2 w H locs hw hP hD hS => ?_)
  obtain ⟨τ', hj, rfl⟩ := hw
  refine lv_pop hx hb dL_law_841 rfl ?_
  refine lv_goto (tgt := 1131) hx hb dL_law_842 (by decide) ?_
  exact K σ' τ' H locs hj hP hD hS
theorem dL_law_845 : decode cL_law 845 = .ok (.aload_n 1, 1) := by decide +kernel
theorem dL_law_846 : decode cL_law 846 = .ok (.aload_n 0, 1) := by decide +kernel
theorem dL_law_847 : decode cL_law 847 = .ok (.iload_n 3, 1) := by decide +kernel
theorem dL_law_848 : decode cL_law 848 = .ok (.iconst 1, 1) := by decide +kernel
theorem dL_law_849 : decode cL_law 849 = .ok (.iadd, 1) := by decide +kernel
theorem dL_law_850 : decode cL_law 850 = .ok (.iaload, 1) := by decide +kernel
theorem dL_law_851 : decode cL_law 851 = .ok (.invokevirtual 87, 3) := by decide +kernel
theorem g_law_X9told : GoodIn lw_tbl (wsV RL 87 RX9 yX9_told w_X9told) := goodIn_app (gt_of (GW_of (by decide +kernel)) [781, 782, 783, 68] (by decide +kernel)) gt_X9told
theorem dL_law_854 : decode cL_law 854 = .ok (.pop, 1) := by decide +kernel
theorem dL_law_855 : decode cL_law 855 = .ok (.aload_n 2, 1) := by decide +kernel
theorem dL_law_856 : decode cL_law 856 = .ok (.aload_n 0, 1) := by decide +kernel
theorem dL_law_857 : decode cL_law 857 = .ok (.iload_n 3, 1) := by decide +kernel
theorem dL_law_858 : decode cL_law 858 = .ok (.iconst 1, 1) := by decide +kernel
theorem dL_law_859 : decode cL_law 859 = .ok (.iadd, 1) := by decide +kernel
theorem dL_law_860 : decode cL_law 860 = .ok (.iaload, 1) := by decide +kernel
theorem dL_law_861 : decode cL_law 861 = .ok (.invokevirtual 90, 3) := by decide +kernel
theorem g_law_told : GoodIn lw_tbl (wsV RL 90 RX10 yX10_told w_told) := goodIn_app (gt_of (GW_of (by decide +kernel)) [1345, 1346, 1347, 79] (by decide +kernel)) gt_told
theorem dL_law_864 : decode cL_law 864 = .ok (.pop, 1) := by decide +kernel
theorem dL_law_865 : decode cL_law 865 = .ok (.goto 266, 3) := by decide +kernel
set_option maxHeartbeats 4000000 in
set_option maxRecDepth 100000 in
theorem law_told {p : Program} {l : Launch} {e : Env} {s : State} {m : MethodId} {below : List Frame} {meth : Method} {c : Code} {b L : Nat} {xs : Nat → Int32} {E : gE} {A : Nat → Prop} {B B2 : Nat → Nat} (C0 : lw_At p s m meth c b L xs) (hL : L ≤ 3072) (hAe : A = fun q => s.heap.size ≤ q) (hK : va_K E.1 vwCl (tyE E) s) (hN : nw_ok s) (hZ : stk E A s s.heap) {H : Heap} {locs : List Loc} {ls : Array Slot} {σ τ : VS} {i : Int32} (J : Jt σ τ) (hi0 : 0 ≤ i.toInt) (hi6 : i.toInt + 6 ≤ (L : Int)) (hP : va_P E.1 vwCl (wc E B σ ++ wm E B2 τ) H) (hD : va_D A (wc E B σ ++ wm E B2 τ)) (hS : va_S A s.heap H locs) (hl : lv_has ls 4 [(3, .int i), (2, .ref (B2 0)), (1, .ref (B 0)), (0, .ref b)]) (K : ∀ (σ' τ' : VS) (H' : Heap) (locs' : List Loc), Jt σ' τ' → va_P E.1 vwCl (wc E B σ' ++ wm E B2 τ') H' → va_D A (wc E B σ' ++ wm E B2 τ') → va_S A s.heap H' locs' → W p l e room_1 s m #[Value.ref b] below meth c H' locs' 1000 1000000 (lw_Z below #[Value.ref b] s) (F0 m 1131 ls [])) : W p l e room_1 s m #[Value.ref b] below meth c H locs 1000 1000000 (lw_Z below #[Value.ref b] s) (F0 m 845 ls []) := by
  obtain ⟨hx, hb, hr, hml, hown, hts, hX, hbl, hlocks, hgv⟩ := id C0
  have hown : s.vm.findClass RL = some m.cls := hown
  have hA : ∀ q, s.heap.size ≤ q → A q := fun q h => by rw [hAe]; exact h
  have hbA : ¬ A b := by rw [hAe]; exact Nat.not_le.mpr hbl
  refine lv_aload_n hx hb dL_law_845 rfl (lv_at hl 2 rfl) ?_
  refine lv_aload_n hx hb dL_law_846 rfl (lv_at hl 3 rfl) ?_
  refine lv_iload_n hx hb dL_law_847 rfl (lv_at hl 0 rfl) ?_
  refine lv_iconst (v := 1) hx hb dL_law_848 (by decide) ?_
  refine lv_iadd hx hb dL_law_849 ?_
  refine va_sld hx hb hX hbl hbA hS (law_in hi0 hi6 hL (by decide)) dL_law_850 ?_
  refine lw_call (As := [.int (xs (i + 1).toNatClampNeg)]) (rest := []) (ci := 9) ⟨hx, hb, hml, hown, hts⟩ (ct_X9told l E B _ (xs (i + 1).toNatClampNeg) σ (qt_told J)) (cwV 1 hts g_law_X9told rfl rfl rfl (by decide +kernel) ⟨Nat.le_of_ble_eq_true rfl, Nat.le_of_ble_eq_true rfl⟩) ⟨rfl, rfl⟩ hK hN hZ hS hA hP hD rfl rfl rfl hl.1 rfl (Nat.le_of_ble_eq_true rfl) dL_law_851 ⟨Nat.le_of_ble_eq_true rfl, Nat.le_of_ble_eq_true rfl⟩ (fun r1 w H locs hw hP hD hS => ?_)
  obtain ⟨σ', hq, rfl⟩ := hw
  refine lv_pop hx hb dL_law_854 rfl ?_
  refine lv_aload_n hx hb dL_law_855 rfl (lv_at hl 1 rfl) ?_
  refine lv_aload_n hx hb dL_law_856 rfl (lv_at hl 3 rfl) ?_
  refine lv_iload_n hx hb dL_law_857 rfl (lv_at hl 0 rfl) ?_
  refine lv_iconst (v := 1) hx hb dL_law_858 (by decide) ?_
  refine lv_iadd hx hb dL_law_859 ?_
  refine va_sld hx hb hX hbl hbA hS (law_in hi0 hi6 hL (by decide)) dL_law_860 ?_
  refine lw_call (As := [.int (xs (i + 1).toNatClampNeg)]) (rest := []) (ci := 10) ⟨hx, hb, hml, hown, hts⟩ (ct_told l E B2 _ (xs (i + 1).toNatClampNeg) τ hq) (cwV 1 hts g_law_told rfl rfl rfl (by decide +kernel) ⟨Nat.le_of_ble_eq_true rfl, Nat.le_of_ble_eq_true rfl⟩) ⟨rfl, rfl⟩ hK hN hZ hS hA hP hD rfl rfl rfl hl.1 rfl (Nat.le_of_ble_eq_true rfl) dL_law_861 ⟨Nat.le_of_ble_eq_true rfl, Nat.le_of_ble_eq_true rfl⟩ (fun r2 w H locs hw hP hD hS => ?_)
  obtain ⟨τ', hj, rfl⟩ := hw
  refine lv_pop hx hb dL_law_864 rfl ?_
  refine lv_goto (tgt := 1131) hx hb dL_law_865 (by decide) ?_
  exact K σ' τ' H locs hj hP hD hS
theorem dL_law_868 : decode cL_law 868 = .ok (.aload_n 1, 1) := by decide +kernel
theorem dL_law_869 : decode cL_law 869 = .ok (.aload_n 0, 1) := by decide +kernel
theorem dL_law_870 : decode cL_law 870 = .ok (.iload_n 3, 1) := by decide +kernel
theorem dL_law_871 : decode cL_law 871 = .ok (.iconst 1, 1) := by decide +kernel
theorem dL_law_872 : decode cL_law 872 = .ok (.iadd, 1) := by decide +kernel
theorem dL_law_873 : decode cL_law 873 = .ok (.iaload, 1) := by decide +kernel
theorem dL_law_874 : decode cL_law 874 = .ok (.invokevirtual 91, 3) := by decide +kernel
theorem g_law_X9slack : GoodIn lw_tbl (wsV RL 91 RX9 yX9_slack w_X9slack) := goodIn_app (gt_of (GW_of (by decide +kernel)) [846, 847, 848, 68] (by decide +kernel)) gt_X9slack
theorem dL_law_877 : decode cL_law 877 = .ok (.pop, 1) := by decide +kernel
theorem dL_law_878 : decode cL_law 878 = .ok (.aload_n 2, 1) := by decide +kernel
theorem dL_law_879 : decode cL_law 879 = .ok (.aload_n 0, 1) := by decide +kernel
theorem dL_law_880 : decode cL_law 880 = .ok (.iload_n 3, 1) := by decide +kernel
theorem dL_law_881 : decode cL_law 881 = .ok (.iconst 1, 1) := by decide +kernel
theorem dL_law_882 : decode cL_law 882 = .ok (.iadd, 1) := by decide +kernel
theorem dL_law_883 : decode cL_law 883 = .ok (.iaload, 1) := by decide +kernel
theorem dL_law_884 : decode cL_law 884 = .ok (.invokevirtual 94, 3) := by decide +kernel
theorem g_law_slack : GoodIn lw_tbl (wsV RL 94 RX10 yX10_slack w_slack) := goodIn_app (gt_of (GW_of (by decide +kernel)) [1382, 1383, 1384, 79] (by decide +kernel)) gt_slack
theorem dL_law_887 : decode cL_law 887 = .ok (.pop, 1) := by decide +kernel
theorem dL_law_888 : decode cL_law 888 = .ok (.goto 243, 3) := by decide +kernel
set_option maxHeartbeats 4000000 in
set_option maxRecDepth 100000 in
theorem law_slack {p : Program} {l : Launch} {e : Env} {s : State} {m : MethodId} {below : List Frame} {meth : Method} {c : Code} {b L : Nat} {xs : Nat → Int32} {E : gE} {A : Nat → Prop} {B B2 : Nat → Nat} (C0 : lw_At p s m meth c b L xs) (hL : L ≤ 3072) (hAe : A = fun q => s.heap.size ≤ q) (hK : va_K E.1 vwCl (tyE E) s) (hN : nw_ok s) (hZ : stk E A s s.heap) {H : Heap} {locs : List Loc} {ls : Array Slot} {σ τ : VS} {i : Int32} (J : Jt σ τ) (hi0 : 0 ≤ i.toInt) (hi6 : i.toInt + 6 ≤ (L : Int)) (hP : va_P E.1 vwCl (wc E B σ ++ wm E B2 τ) H) (hD : va_D A (wc E B σ ++ wm E B2 τ)) (hS : va_S A s.heap H locs) (hl : lv_has ls 4 [(3, .int i), (2, .ref (B2 0)), (1, .ref (B 0)), (0, .ref b)]) (K : ∀ (σ' τ' : VS) (H' : Heap) (locs' : List Loc), Jt σ' τ' → va_P E.1 vwCl (wc E B σ' ++ wm E B2 τ') H' → va_D A (wc E B σ' ++ wm E B2 τ') → va_S A s.heap H' locs' → W p l e room_1 s m #[Value.ref b] below meth c H' locs' 1000 1000000 (lw_Z below #[Value.ref b] s) (F0 m 1131 ls [])) : W p l e room_1 s m #[Value.ref b] below meth c H locs 1000 1000000 (lw_Z below #[Value.ref b] s) (F0 m 868 ls []) := by
  obtain ⟨hx, hb, hr, hml, hown, hts, hX, hbl, hlocks, hgv⟩ := id C0
  have hown : s.vm.findClass RL = some m.cls := hown
  have hA : ∀ q, s.heap.size ≤ q → A q := fun q h => by rw [hAe]; exact h
  have hbA : ¬ A b := by rw [hAe]; exact Nat.not_le.mpr hbl
  refine lv_aload_n hx hb dL_law_868 rfl (lv_at hl 2 rfl) ?_
  refine lv_aload_n hx hb dL_law_869 rfl (lv_at hl 3 rfl) ?_
  refine lv_iload_n hx hb dL_law_870 rfl (lv_at hl 0 rfl) ?_
  refine lv_iconst (v := 1) hx hb dL_law_871 (by decide) ?_
  refine lv_iadd hx hb dL_law_872 ?_
  refine va_sld hx hb hX hbl hbA hS (law_in hi0 hi6 hL (by decide)) dL_law_873 ?_
  refine lw_call (As := [.int (xs (i + 1).toNatClampNeg)]) (rest := []) (ci := 9) ⟨hx, hb, hml, hown, hts⟩ (ct_X9slack l E B _ (xs (i + 1).toNatClampNeg) σ (qt_slack J)) (cwV 1 hts g_law_X9slack rfl rfl rfl (by decide +kernel) ⟨Nat.le_of_ble_eq_true rfl, Nat.le_of_ble_eq_true rfl⟩) ⟨rfl, rfl⟩ hK hN hZ hS hA hP hD rfl rfl rfl hl.1 rfl (Nat.le_of_ble_eq_true rfl) dL_law_874 ⟨Nat.le_of_ble_eq_true rfl, Nat.le_of_ble_eq_true rfl⟩ (fun r1 w H locs hw hP hD hS => ?_)
  obtain ⟨σ', hq, rfl⟩ := hw
  refine lv_pop hx hb dL_law_877 rfl ?_
  refine lv_aload_n hx hb dL_law_878 rfl (lv_at hl 1 rfl) ?_
  refine lv_aload_n hx hb dL_law_879 rfl (lv_at hl 3 rfl) ?_
  refine lv_iload_n hx hb dL_law_880 rfl (lv_at hl 0 rfl) ?_
  refine lv_iconst (v := 1) hx hb dL_law_881 (by decide) ?_
  refine lv_iadd hx hb dL_law_882 ?_
  refine va_sld hx hb hX hbl hbA hS (law_in hi0 hi6 hL (by decide)) dL_law_883 ?_
  refine lw_call (As := [.int (xs (i + 1).toNatClampNeg)]) (rest := []) (ci := 10) ⟨hx, hb, hml, hown, hts⟩ (ct_slack l E B2 _ (xs (i + 1).toNatClampNeg) τ hq) (cwV 1 hts g_law_slack rfl rfl rfl (by decide +kernel) ⟨Nat.le_of_ble_eq_true rfl, Nat.le_of_ble_eq_true rfl⟩) ⟨rfl, rfl⟩ hK hN hZ hS hA hP hD rfl rfl rfl hl.1 rfl (Nat.le_of_ble_eq_true rfl) dL_law_884 ⟨Nat.le_of_ble_eq_true rfl, Nat.le_of_ble_eq_true rfl⟩ (fun r2 w H locs hw hP hD hS => ?_)
  obtain ⟨τ', hj, rfl⟩ := hw
  refine lv_pop hx hb dL_law_887 rfl ?_
  refine lv_goto (tgt := 1131) hx hb dL_law_888 (by decide) ?_
  exact K σ' τ' H locs hj hP hD hS
theorem dL_law_891 : decode cL_law 891 = .ok (.aload_n 1, 1) := by decide +kernel
theorem dL_law_892 : decode cL_law 892 = .ok (.aload_n 0, 1) := by decide +kernel
theorem dL_law_893 : decode cL_law 893 = .ok (.iload_n 3, 1) := by decide +kernel
theorem dL_law_894 : decode cL_law 894 = .ok (.iconst 1, 1) := by decide +kernel
theorem dL_law_895 : decode cL_law 895 = .ok (.iadd, 1) := by decide +kernel
theorem dL_law_896 : decode cL_law 896 = .ok (.iaload, 1) := by decide +kernel
theorem dL_law_897 : decode cL_law 897 = .ok (.invokevirtual 95, 3) := by decide +kernel
theorem g_law_X9hold : GoodIn lw_tbl (wsV RL 95 RX9 yX9_hold w_X9hold) := goodIn_app (gt_of (GW_of (by decide +kernel)) [855, 856, 857, 68] (by decide +kernel)) gt_X9hold
theorem dL_law_900 : decode cL_law 900 = .ok (.pop, 1) := by decide +kernel
theorem dL_law_901 : decode cL_law 901 = .ok (.aload_n 2, 1) := by decide +kernel
theorem dL_law_902 : decode cL_law 902 = .ok (.aload_n 0, 1) := by decide +kernel
theorem dL_law_903 : decode cL_law 903 = .ok (.iload_n 3, 1) := by decide +kernel
theorem dL_law_904 : decode cL_law 904 = .ok (.iconst 1, 1) := by decide +kernel
theorem dL_law_905 : decode cL_law 905 = .ok (.iadd, 1) := by decide +kernel
theorem dL_law_906 : decode cL_law 906 = .ok (.iaload, 1) := by decide +kernel
theorem dL_law_907 : decode cL_law 907 = .ok (.invokevirtual 98, 3) := by decide +kernel
theorem g_law_hold : GoodIn lw_tbl (wsV RL 98 RX10 yX10_hold w_hold) := goodIn_app (gt_of (GW_of (by decide +kernel)) [1386, 1387, 1388, 79] (by decide +kernel)) gt_hold
theorem dL_law_910 : decode cL_law 910 = .ok (.pop, 1) := by decide +kernel
theorem dL_law_911 : decode cL_law 911 = .ok (.goto 220, 3) := by decide +kernel
set_option maxHeartbeats 4000000 in
set_option maxRecDepth 100000 in
theorem law_hold {p : Program} {l : Launch} {e : Env} {s : State} {m : MethodId} {below : List Frame} {meth : Method} {c : Code} {b L : Nat} {xs : Nat → Int32} {E : gE} {A : Nat → Prop} {B B2 : Nat → Nat} (C0 : lw_At p s m meth c b L xs) (hL : L ≤ 3072) (hAe : A = fun q => s.heap.size ≤ q) (hK : va_K E.1 vwCl (tyE E) s) (hN : nw_ok s) (hZ : stk E A s s.heap) {H : Heap} {locs : List Loc} {ls : Array Slot} {σ τ : VS} {i : Int32} (J : Jt σ τ) (hi0 : 0 ≤ i.toInt) (hi6 : i.toInt + 6 ≤ (L : Int)) (hP : va_P E.1 vwCl (wc E B σ ++ wm E B2 τ) H) (hD : va_D A (wc E B σ ++ wm E B2 τ)) (hS : va_S A s.heap H locs) (hl : lv_has ls 4 [(3, .int i), (2, .ref (B2 0)), (1, .ref (B 0)), (0, .ref b)]) (K : ∀ (σ' τ' : VS) (H' : Heap) (locs' : List Loc), Jt σ' τ' → va_P E.1 vwCl (wc E B σ' ++ wm E B2 τ') H' → va_D A (wc E B σ' ++ wm E B2 τ') → va_S A s.heap H' locs' → W p l e room_1 s m #[Value.ref b] below meth c H' locs' 1000 1000000 (lw_Z below #[Value.ref b] s) (F0 m 1131 ls [])) : W p l e room_1 s m #[Value.ref b] below meth c H locs 1000 1000000 (lw_Z below #[Value.ref b] s) (F0 m 891 ls []) := by
  obtain ⟨hx, hb, hr, hml, hown, hts, hX, hbl, hlocks, hgv⟩ := id C0
  have hown : s.vm.findClass RL = some m.cls := hown
  have hA : ∀ q, s.heap.size ≤ q → A q := fun q h => by rw [hAe]; exact h
  have hbA : ¬ A b := by rw [hAe]; exact Nat.not_le.mpr hbl
  refine lv_aload_n hx hb dL_law_891 rfl (lv_at hl 2 rfl) ?_
  refine lv_aload_n hx hb dL_law_892 rfl (lv_at hl 3 rfl) ?_
  refine lv_iload_n hx hb dL_law_893 rfl (lv_at hl 0 rfl) ?_
  refine lv_iconst (v := 1) hx hb dL_law_894 (by decide) ?_
  refine lv_iadd hx hb dL_law_895 ?_
  refine va_sld hx hb hX hbl hbA hS (law_in hi0 hi6 hL (by decide)) dL_law_896 ?_
  refine lw_call (As := [.int (xs (i + 1).toNatClampNeg)]) (rest := []) (ci := 9) ⟨hx, hb, hml, hown, hts⟩ (ct_X9hold l E B _ (xs (i + 1).toNatClampNeg) σ (qt_hold J)) (cwV 1 hts g_law_X9hold rfl rfl rfl (by decide +kernel) ⟨Nat.le_of_ble_eq_true rfl, Nat.le_of_ble_eq_true rfl⟩) ⟨rfl, rfl⟩ hK hN hZ hS hA hP hD rfl rfl rfl hl.1 rfl (Nat.le_of_ble_eq_true rfl) dL_law_897 ⟨Nat.le_of_ble_eq_true rfl, Nat.le_of_ble_eq_true rfl⟩ (fun r1 w H locs hw hP hD hS => ?_)
  obtain ⟨σ', hq, rfl⟩ := hw
  refine lv_pop hx hb dL_law_900 rfl ?_
  refine lv_aload_n hx hb dL_law_901 rfl (lv_at hl 1 rfl) ?_
  refine lv_aload_n hx hb dL_law_902 rfl (lv_at hl 3 rfl) ?_
  refine lv_iload_n hx hb dL_law_903 rfl (lv_at hl 0 rfl) ?_
  refine lv_iconst (v := 1) hx hb dL_law_904 (by decide) ?_
  refine lv_iadd hx hb dL_law_905 ?_
  refine va_sld hx hb hX hbl hbA hS (law_in hi0 hi6 hL (by decide)) dL_law_906 ?_
  refine lw_call (As := [.int (xs (i + 1).toNatClampNeg)]) (rest := []) (ci := 10) ⟨hx, hb, hml, hown, hts⟩ (ct_hold l E B2 _ (xs (i + 1).toNatClampNeg) τ hq) (cwV 1 hts g_law_hold rfl rfl rfl (by decide +kernel) ⟨Nat.le_of_ble_eq_true rfl, Nat.le_of_ble_eq_true rfl⟩) ⟨rfl, rfl⟩ hK hN hZ hS hA hP hD rfl rfl rfl hl.1 rfl (Nat.le_of_ble_eq_true rfl) dL_law_907 ⟨Nat.le_of_ble_eq_true rfl, Nat.le_of_ble_eq_true rfl⟩ (fun r2 w H locs hw hP hD hS => ?_)
  obtain ⟨τ', hj, rfl⟩ := hw
  refine lv_pop hx hb dL_law_910 rfl ?_
  refine lv_goto (tgt := 1131) hx hb dL_law_911 (by decide) ?_
  exact K σ' τ' H locs hj hP hD hS
