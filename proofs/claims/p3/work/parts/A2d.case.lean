theorem dL_law_670 : decode cL_law 670 = .ok (.aload_n 1, 1) := by decide +kernel
theorem dL_law_671 : decode cL_law 671 = .ok (.aload_n 0, 1) := by decide +kernel
theorem dL_law_672 : decode cL_law 672 = .ok (.iload_n 3, 1) := by decide +kernel
theorem dL_law_673 : decode cL_law 673 = .ok (.iconst 1, 1) := by decide +kernel
theorem dL_law_674 : decode cL_law 674 = .ok (.iadd, 1) := by decide +kernel
theorem dL_law_675 : decode cL_law 675 = .ok (.iaload, 1) := by decide +kernel
theorem dL_law_676 : decode cL_law 676 = .ok (.aload_n 0, 1) := by decide +kernel
theorem dL_law_677 : decode cL_law 677 = .ok (.iload_n 3, 1) := by decide +kernel
theorem dL_law_678 : decode cL_law 678 = .ok (.iconst 2, 1) := by decide +kernel
theorem dL_law_679 : decode cL_law 679 = .ok (.iadd, 1) := by decide +kernel
theorem dL_law_680 : decode cL_law 680 = .ok (.iaload, 1) := by decide +kernel
theorem dL_law_681 : decode cL_law 681 = .ok (.aload_n 0, 1) := by decide +kernel
theorem dL_law_682 : decode cL_law 682 = .ok (.iload_n 3, 1) := by decide +kernel
theorem dL_law_683 : decode cL_law 683 = .ok (.iconst 3, 1) := by decide +kernel
theorem dL_law_684 : decode cL_law 684 = .ok (.iadd, 1) := by decide +kernel
theorem dL_law_685 : decode cL_law 685 = .ok (.iaload, 1) := by decide +kernel
theorem dL_law_686 : decode cL_law 686 = .ok (.aload_n 0, 1) := by decide +kernel
theorem dL_law_687 : decode cL_law 687 = .ok (.iload_n 3, 1) := by decide +kernel
theorem dL_law_688 : decode cL_law 688 = .ok (.iconst 4, 1) := by decide +kernel
theorem dL_law_689 : decode cL_law 689 = .ok (.iadd, 1) := by decide +kernel
theorem dL_law_690 : decode cL_law 690 = .ok (.iaload, 1) := by decide +kernel
theorem dL_law_691 : decode cL_law 691 = .ok (.invokevirtual 66, 3) := by decide +kernel
theorem g_law_X9except : GoodIn lw_tbl (wsV RL 66 RX9 yX9_except w_X9except) := goodIn_app (gt_of (GW_of (by decide +kernel)) [656, 657, 658, 68] (by decide +kernel)) gt_X9except
theorem dL_law_694 : decode cL_law 694 = .ok (.pop, 1) := by decide +kernel
theorem dL_law_695 : decode cL_law 695 = .ok (.aload_n 2, 1) := by decide +kernel
theorem dL_law_696 : decode cL_law 696 = .ok (.aload_n 0, 1) := by decide +kernel
theorem dL_law_697 : decode cL_law 697 = .ok (.iload_n 3, 1) := by decide +kernel
theorem dL_law_698 : decode cL_law 698 = .ok (.iconst 1, 1) := by decide +kernel
theorem dL_law_699 : decode cL_law 699 = .ok (.iadd, 1) := by decide +kernel
theorem dL_law_700 : decode cL_law 700 = .ok (.iaload, 1) := by decide +kernel
theorem dL_law_701 : decode cL_law 701 = .ok (.aload_n 0, 1) := by decide +kernel
theorem dL_law_702 : decode cL_law 702 = .ok (.iload_n 3, 1) := by decide +kernel
theorem dL_law_703 : decode cL_law 703 = .ok (.iconst 2, 1) := by decide +kernel
theorem dL_law_704 : decode cL_law 704 = .ok (.iadd, 1) := by decide +kernel
theorem dL_law_705 : decode cL_law 705 = .ok (.iaload, 1) := by decide +kernel
theorem dL_law_706 : decode cL_law 706 = .ok (.aload_n 0, 1) := by decide +kernel
theorem dL_law_707 : decode cL_law 707 = .ok (.iload_n 3, 1) := by decide +kernel
theorem dL_law_708 : decode cL_law 708 = .ok (.iconst 3, 1) := by decide +kernel
theorem dL_law_709 : decode cL_law 709 = .ok (.iadd, 1) := by decide +kernel
theorem dL_law_710 : decode cL_law 710 = .ok (.iaload, 1) := by decide +kernel
theorem dL_law_711 : decode cL_law 711 = .ok (.aload_n 0, 1) := by decide +kernel
theorem dL_law_712 : decode cL_law 712 = .ok (.iload_n 3, 1) := by decide +kernel
theorem dL_law_713 : decode cL_law 713 = .ok (.iconst 4, 1) := by decide +kernel
theorem dL_law_714 : decode cL_law 714 = .ok (.iadd, 1) := by decide +kernel
theorem dL_law_715 : decode cL_law 715 = .ok (.iaload, 1) := by decide +kernel
theorem dL_law_716 : decode cL_law 716 = .ok (.invokevirtual 69, 3) := by decide +kernel
theorem g_law_except : GoodIn lw_tbl (wsV RL 69 RX10 yX10_except w_except) := goodIn_app (gt_of (GW_of (by decide +kernel)) [1254, 1255, 1256, 79] (by decide +kernel)) gt_except
theorem dL_law_719 : decode cL_law 719 = .ok (.pop, 1) := by decide +kernel
theorem dL_law_720 : decode cL_law 720 = .ok (.goto 411, 3) := by decide +kernel
set_option maxHeartbeats 4000000 in
set_option maxRecDepth 100000 in
theorem law_except {p : Program} {l : Launch} {e : Env} {s : State} {m : MethodId} {below : List Frame} {meth : Method} {c : Code} {b L : Nat} {xs : Nat → Int32} {E : gE} {A : Nat → Prop} {B B2 : Nat → Nat} (C0 : lw_At p s m meth c b L xs) (hL : L ≤ 3072) (hAe : A = fun q => s.heap.size ≤ q) (hK : va_K E.1 vwCl (tyE E) s) (hN : nw_ok s) (hZ : stk E A s s.heap) {H : Heap} {locs : List Loc} {ls : Array Slot} {σ τ : VS} {i : Int32} (J : Jt σ τ) (hi0 : 0 ≤ i.toInt) (hi6 : i.toInt + 6 ≤ (L : Int)) (hP : va_P E.1 vwCl (wc E B σ ++ wm E B2 τ) H) (hD : va_D A (wc E B σ ++ wm E B2 τ)) (hS : va_S A s.heap H locs) (hl : lv_has ls 4 [(3, .int i), (2, .ref (B2 0)), (1, .ref (B 0)), (0, .ref b)]) (K : ∀ (σ' τ' : VS) (H' : Heap) (locs' : List Loc), Jt σ' τ' → va_P E.1 vwCl (wc E B σ' ++ wm E B2 τ') H' → va_D A (wc E B σ' ++ wm E B2 τ') → va_S A s.heap H' locs' → W p l e room_1 s m #[Value.ref b] below meth c H' locs' 1000 1000000 (lw_Z below #[Value.ref b] s) (F0 m 1131 ls [])) : W p l e room_1 s m #[Value.ref b] below meth c H locs 1000 1000000 (lw_Z below #[Value.ref b] s) (F0 m 670 ls []) := by
  obtain ⟨hx, hb, hr, hml, hown, hts, hX, hbl, hlocks, hgv⟩ := id C0
  have hown : s.vm.findClass RL = some m.cls := hown
  have hA : ∀ q, s.heap.size ≤ q → A q := fun q h => by rw [hAe]; exact h
  have hbA : ¬ A b := by rw [hAe]; exact Nat.not_le.mpr hbl
  refine lv_aload_n hx hb dL_law_670 rfl (lv_at hl 2 rfl) ?_
  refine lv_aload_n hx hb dL_law_671 rfl (lv_at hl 3 rfl) ?_
  refine lv_iload_n hx hb dL_law_672 rfl (lv_at hl 0 rfl) ?_
  refine lv_iconst (v := 1) hx hb dL_law_673 (by decide) ?_
  refine lv_iadd hx hb dL_law_674 ?_
  refine va_sld hx hb hX hbl hbA hS (law_in hi0 hi6 hL (by decide)) dL_law_675 ?_
  refine lv_aload_n hx hb dL_law_676 rfl (lv_at hl 3 rfl) ?_
  refine lv_iload_n hx hb dL_law_677 rfl (lv_at hl 0 rfl) ?_
  refine lv_iconst (v := 2) hx hb dL_law_678 (by decide) ?_
  refine lv_iadd hx hb dL_law_679 ?_
  refine va_sld hx hb hX hbl hbA hS (law_in hi0 hi6 hL (by decide)) dL_law_680 ?_
  refine lv_aload_n hx hb dL_law_681 rfl (lv_at hl 3 rfl) ?_
  refine lv_iload_n hx hb dL_law_682 rfl (lv_at hl 0 rfl) ?_
  refine lv_iconst (v := 3) hx hb dL_law_683 (by decide) ?_
  refine lv_iadd hx hb dL_law_684 ?_
  refine va_sld hx hb hX hbl hbA hS (law_in hi0 hi6 hL (by decide)) dL_law_685 ?_
  refine lv_aload_n hx hb dL_law_686 rfl (lv_at hl 3 rfl) ?_
  refine lv_iload_n hx hb dL_law_687 rfl (lv_at hl 0 rfl) ?_
  refine lv_iconst (v := 4) hx hb dL_law_688 (by decide) ?_
  refine lv_iadd hx hb dL_law_689 ?_
  refine va_sld hx hb hX hbl hbA hS (law_in hi0 hi6 hL (by decide)) dL_law_690 ?_
  refine lw_call (As := [.int (xs (i + 1).toNatClampNeg), .int (xs (i + 2).toNatClampNeg), .int (xs (i + 3).toNatClampNeg), .int (xs (i + 4).toNatClampNeg)]) (rest := []) (ci := 9) ⟨hx, hb, hml, hown, hts⟩ (ct_X9except l E B _ (xs (i + 1).toNatClampNeg) (xs (i + 2).toNatClampNeg) (xs (i + 3).toNatClampNeg) (xs (i + 4).toNatClampNeg) σ (qt_except J)) (cwV 4 hts g_law_X9except rfl rfl rfl (by decide +kernel) ⟨Nat.le_of_ble_eq_true rfl, Nat.le_of_ble_eq_true rfl⟩) ⟨rfl, rfl⟩ hK hN hZ hS hA hP hD rfl rfl rfl hl.1 rfl (Nat.le_of_ble_eq_true rfl) dL_law_691 ⟨Nat.le_of_ble_eq_true rfl, Nat.le_of_ble_eq_true rfl⟩ (fun r1 w H locs hw hP hD hS => ?_)
  obtain ⟨σ', hq, rfl⟩ := hw
  refine lv_pop hx hb dL_law_694 rfl ?_
  refine lv_aload_n hx hb dL_law_695 rfl (lv_at hl 1 rfl) ?_
  refine lv_aload_n hx hb dL_law_696 rfl (lv_at hl 3 rfl) ?_
  refine lv_iload_n hx hb dL_law_697 rfl (lv_at hl 0 rfl) ?_
  refine lv_iconst (v := 1) hx hb dL_law_698 (by decide) ?_
  refine lv_iadd hx hb dL_law_699 ?_
  refine va_sld hx hb hX hbl hbA hS (law_in hi0 hi6 hL (by decide)) dL_law_700 ?_
  refine lv_aload_n hx hb dL_law_701 rfl (lv_at hl 3 rfl) ?_
  refine lv_iload_n hx hb dL_law_702 rfl (lv_at hl 0 rfl) ?_
  refine lv_iconst (v := 2) hx hb dL_law_703 (by decide) ?_
  refine lv_iadd hx hb dL_law_704 ?_
  refine va_sld hx hb hX hbl hbA hS (law_in hi0 hi6 hL (by decide)) dL_law_705 ?_
  refine lv_aload_n hx hb dL_law_706 rfl (lv_at hl 3 rfl) ?_
  refine lv_iload_n hx hb dL_law_707 rfl (lv_at hl 0 rfl) ?_
  refine lv_iconst (v := 3) hx hb dL_law_708 (by decide) ?_
  refine lv_iadd hx hb dL_law_709 ?_
  refine va_sld hx hb hX hbl hbA hS (law_in hi0 hi6 hL (by decide)) dL_law_710 ?_
  refine lv_aload_n hx hb dL_law_711 rfl (lv_at hl 3 rfl) ?_
  refine lv_iload_n hx hb dL_law_712 rfl (lv_at hl 0 rfl) ?_
  refine lv_iconst (v := 4) hx hb dL_law_713 (by decide) ?_
  refine lv_iadd hx hb dL_law_714 ?_
  refine va_sld hx hb hX hbl hbA hS (law_in hi0 hi6 hL (by decide)) dL_law_715 ?_
  refine lw_call (As := [.int (xs (i + 1).toNatClampNeg), .int (xs (i + 2).toNatClampNeg), .int (xs (i + 3).toNatClampNeg), .int (xs (i + 4).toNatClampNeg)]) (rest := []) (ci := 10) ⟨hx, hb, hml, hown, hts⟩ (ct_except l E B2 _ (xs (i + 1).toNatClampNeg) (xs (i + 2).toNatClampNeg) (xs (i + 3).toNatClampNeg) (xs (i + 4).toNatClampNeg) τ hq) (cwV 4 hts g_law_except rfl rfl rfl (by decide +kernel) ⟨Nat.le_of_ble_eq_true rfl, Nat.le_of_ble_eq_true rfl⟩) ⟨rfl, rfl⟩ hK hN hZ hS hA hP hD rfl rfl rfl hl.1 rfl (Nat.le_of_ble_eq_true rfl) dL_law_716 ⟨Nat.le_of_ble_eq_true rfl, Nat.le_of_ble_eq_true rfl⟩ (fun r2 w H locs hw hP hD hS => ?_)
  obtain ⟨τ', hj, rfl⟩ := hw
  refine lv_pop hx hb dL_law_719 rfl ?_
  refine lv_goto (tgt := 1131) hx hb dL_law_720 (by decide) ?_
  exact K σ' τ' H locs hj.2 hP hD hS
theorem dL_law_723 : decode cL_law 723 = .ok (.aload_n 1, 1) := by decide +kernel
theorem dL_law_724 : decode cL_law 724 = .ok (.invokevirtual 70, 3) := by decide +kernel
theorem g_law_X9unexcept : GoodIn lw_tbl (wsV RL 70 RX9 yX9_unexcept w_X9unexcept) := goodIn_app (gt_of (GW_of (by decide +kernel)) [672, 673, 674, 68] (by decide +kernel)) gt_X9unexcept
theorem dL_law_727 : decode cL_law 727 = .ok (.pop, 1) := by decide +kernel
theorem dL_law_728 : decode cL_law 728 = .ok (.aload_n 2, 1) := by decide +kernel
theorem dL_law_729 : decode cL_law 729 = .ok (.invokevirtual 74, 3) := by decide +kernel
theorem g_law_unexcept : GoodIn lw_tbl (wsV RL 74 RX10 yX10_unexcept w_unexcept) := goodIn_app (gt_of (GW_of (by decide +kernel)) [1262, 1263, 1264, 79] (by decide +kernel)) gt_unexcept
theorem dL_law_732 : decode cL_law 732 = .ok (.pop, 1) := by decide +kernel
theorem dL_law_733 : decode cL_law 733 = .ok (.goto 398, 3) := by decide +kernel
set_option maxHeartbeats 4000000 in
set_option maxRecDepth 100000 in
theorem law_unexcept {p : Program} {l : Launch} {e : Env} {s : State} {m : MethodId} {below : List Frame} {meth : Method} {c : Code} {b L : Nat} {xs : Nat → Int32} {E : gE} {A : Nat → Prop} {B B2 : Nat → Nat} (C0 : lw_At p s m meth c b L xs) (hL : L ≤ 3072) (hAe : A = fun q => s.heap.size ≤ q) (hK : va_K E.1 vwCl (tyE E) s) (hN : nw_ok s) (hZ : stk E A s s.heap) {H : Heap} {locs : List Loc} {ls : Array Slot} {σ τ : VS} {i : Int32} (J : Jt σ τ) (hi0 : 0 ≤ i.toInt) (hi6 : i.toInt + 6 ≤ (L : Int)) (hP : va_P E.1 vwCl (wc E B σ ++ wm E B2 τ) H) (hD : va_D A (wc E B σ ++ wm E B2 τ)) (hS : va_S A s.heap H locs) (hl : lv_has ls 4 [(3, .int i), (2, .ref (B2 0)), (1, .ref (B 0)), (0, .ref b)]) (K : ∀ (σ' τ' : VS) (H' : Heap) (locs' : List Loc), Jt σ' τ' → va_P E.1 vwCl (wc E B σ' ++ wm E B2 τ') H' → va_D A (wc E B σ' ++ wm E B2 τ') → va_S A s.heap H' locs' → W p l e room_1 s m #[Value.ref b] below meth c H' locs' 1000 1000000 (lw_Z below #[Value.ref b] s) (F0 m 1131 ls [])) : W p l e room_1 s m #[Value.ref b] below meth c H locs 1000 1000000 (lw_Z below #[Value.ref b] s) (F0 m 723 ls []) := by
  obtain ⟨hx, hb, hr, hml, hown, hts, hX, hbl, hlocks, hgv⟩ := id C0
  have hown : s.vm.findClass RL = some m.cls := hown
  have hA : ∀ q, s.heap.size ≤ q → A q := fun q h => by rw [hAe]; exact h
  have hbA : ¬ A b := by rw [hAe]; exact Nat.not_le.mpr hbl
  refine lv_aload_n hx hb dL_law_723 rfl (lv_at hl 2 rfl) ?_
  refine lw_call (As := []) (rest := []) (ci := 9) ⟨hx, hb, hml, hown, hts⟩ (ct_X9unexcept l E B _ σ (qt_unexcept J)) (cwV 0 hts g_law_X9unexcept rfl rfl rfl (by decide +kernel) ⟨Nat.le_of_ble_eq_true rfl, Nat.le_of_ble_eq_true rfl⟩) ⟨rfl, rfl⟩ hK hN hZ hS hA hP hD rfl rfl rfl hl.1 rfl (Nat.le_of_ble_eq_true rfl) dL_law_724 ⟨Nat.le_of_ble_eq_true rfl, Nat.le_of_ble_eq_true rfl⟩ (fun r1 w H locs hw hP hD hS => ?_)
  obtain ⟨σ', hq, rfl⟩ := hw
  refine lv_pop hx hb dL_law_727 rfl ?_
  refine lv_aload_n hx hb dL_law_728 rfl (lv_at hl 1 rfl) ?_
  refine lw_call (As := []) (rest := []) (ci := 10) ⟨hx, hb, hml, hown, hts⟩ (ct_unexcept l E B2 _ τ hq) (cwV 0 hts g_law_unexcept rfl rfl rfl (by decide +kernel) ⟨Nat.le_of_ble_eq_true rfl, Nat.le_of_ble_eq_true rfl⟩) ⟨rfl, rfl⟩ hK hN hZ hS hA hP hD rfl rfl rfl hl.1 rfl (Nat.le_of_ble_eq_true rfl) dL_law_729 ⟨Nat.le_of_ble_eq_true rfl, Nat.le_of_ble_eq_true rfl⟩ (fun r2 w H locs hw hP hD hS => ?_)
  obtain ⟨τ', hj, rfl⟩ := hw
  refine lv_pop hx hb dL_law_732 rfl ?_
  refine lv_goto (tgt := 1131) hx hb dL_law_733 (by decide) ?_
  exact K σ' τ' H locs hj.2 hP hD hS
theorem dL_law_736 : decode cL_law 736 = .ok (.aload_n 1, 1) := by decide +kernel
theorem dL_law_737 : decode cL_law 737 = .ok (.aload_n 0, 1) := by decide +kernel
theorem dL_law_738 : decode cL_law 738 = .ok (.iload_n 3, 1) := by decide +kernel
theorem dL_law_739 : decode cL_law 739 = .ok (.iconst 1, 1) := by decide +kernel
theorem dL_law_740 : decode cL_law 740 = .ok (.iadd, 1) := by decide +kernel
theorem dL_law_741 : decode cL_law 741 = .ok (.iaload, 1) := by decide +kernel
theorem dL_law_742 : decode cL_law 742 = .ok (.aload_n 0, 1) := by decide +kernel
theorem dL_law_743 : decode cL_law 743 = .ok (.iload_n 3, 1) := by decide +kernel
theorem dL_law_744 : decode cL_law 744 = .ok (.iconst 2, 1) := by decide +kernel
theorem dL_law_745 : decode cL_law 745 = .ok (.iadd, 1) := by decide +kernel
theorem dL_law_746 : decode cL_law 746 = .ok (.iaload, 1) := by decide +kernel
theorem dL_law_747 : decode cL_law 747 = .ok (.invokevirtual 75, 3) := by decide +kernel
theorem g_law_X9about : GoodIn lw_tbl (wsV RL 75 RX9 yX9_about w_X9about) := goodIn_app (gt_of (GW_of (by decide +kernel)) [680, 681, 682, 68] (by decide +kernel)) gt_X9about
theorem dL_law_750 : decode cL_law 750 = .ok (.pop, 1) := by decide +kernel
theorem dL_law_751 : decode cL_law 751 = .ok (.aload_n 2, 1) := by decide +kernel
theorem dL_law_752 : decode cL_law 752 = .ok (.aload_n 0, 1) := by decide +kernel
theorem dL_law_753 : decode cL_law 753 = .ok (.iload_n 3, 1) := by decide +kernel
theorem dL_law_754 : decode cL_law 754 = .ok (.iconst 1, 1) := by decide +kernel
theorem dL_law_755 : decode cL_law 755 = .ok (.iadd, 1) := by decide +kernel
theorem dL_law_756 : decode cL_law 756 = .ok (.iaload, 1) := by decide +kernel
theorem dL_law_757 : decode cL_law 757 = .ok (.aload_n 0, 1) := by decide +kernel
theorem dL_law_758 : decode cL_law 758 = .ok (.iload_n 3, 1) := by decide +kernel
theorem dL_law_759 : decode cL_law 759 = .ok (.iconst 2, 1) := by decide +kernel
theorem dL_law_760 : decode cL_law 760 = .ok (.iadd, 1) := by decide +kernel
theorem dL_law_761 : decode cL_law 761 = .ok (.iaload, 1) := by decide +kernel
theorem dL_law_762 : decode cL_law 762 = .ok (.invokevirtual 78, 3) := by decide +kernel
theorem g_law_about : GoodIn lw_tbl (wsV RL 78 RX10 yX10_about w_about) := goodIn_app (gt_of (GW_of (by decide +kernel)) [1337, 1338, 1339, 79] (by decide +kernel)) gt_about
theorem dL_law_765 : decode cL_law 765 = .ok (.pop, 1) := by decide +kernel
theorem dL_law_766 : decode cL_law 766 = .ok (.goto 365, 3) := by decide +kernel
set_option maxHeartbeats 4000000 in
set_option maxRecDepth 100000 in
theorem law_about {p : Program} {l : Launch} {e : Env} {s : State} {m : MethodId} {below : List Frame} {meth : Method} {c : Code} {b L : Nat} {xs : Nat → Int32} {E : gE} {A : Nat → Prop} {B B2 : Nat → Nat} (C0 : lw_At p s m meth c b L xs) (hL : L ≤ 3072) (hAe : A = fun q => s.heap.size ≤ q) (hK : va_K E.1 vwCl (tyE E) s) (hN : nw_ok s) (hZ : stk E A s s.heap) {H : Heap} {locs : List Loc} {ls : Array Slot} {σ τ : VS} {i : Int32} (J : Jt σ τ) (hi0 : 0 ≤ i.toInt) (hi6 : i.toInt + 6 ≤ (L : Int)) (hP : va_P E.1 vwCl (wc E B σ ++ wm E B2 τ) H) (hD : va_D A (wc E B σ ++ wm E B2 τ)) (hS : va_S A s.heap H locs) (hl : lv_has ls 4 [(3, .int i), (2, .ref (B2 0)), (1, .ref (B 0)), (0, .ref b)]) (K : ∀ (σ' τ' : VS) (H' : Heap) (locs' : List Loc), Jt σ' τ' → va_P E.1 vwCl (wc E B σ' ++ wm E B2 τ') H' → va_D A (wc E B σ' ++ wm E B2 τ') → va_S A s.heap H' locs' → W p l e room_1 s m #[Value.ref b] below meth c H' locs' 1000 1000000 (lw_Z below #[Value.ref b] s) (F0 m 1131 ls [])) : W p l e room_1 s m #[Value.ref b] below meth c H locs 1000 1000000 (lw_Z below #[Value.ref b] s) (F0 m 736 ls []) := by
  obtain ⟨hx, hb, hr, hml, hown, hts, hX, hbl, hlocks, hgv⟩ := id C0
  have hown : s.vm.findClass RL = some m.cls := hown
  have hA : ∀ q, s.heap.size ≤ q → A q := fun q h => by rw [hAe]; exact h
  have hbA : ¬ A b := by rw [hAe]; exact Nat.not_le.mpr hbl
  refine lv_aload_n hx hb dL_law_736 rfl (lv_at hl 2 rfl) ?_
  refine lv_aload_n hx hb dL_law_737 rfl (lv_at hl 3 rfl) ?_
  refine lv_iload_n hx hb dL_law_738 rfl (lv_at hl 0 rfl) ?_
  refine lv_iconst (v := 1) hx hb dL_law_739 (by decide) ?_
  refine lv_iadd hx hb dL_law_740 ?_
  refine va_sld hx hb hX hbl hbA hS (law_in hi0 hi6 hL (by decide)) dL_law_741 ?_
  refine lv_aload_n hx hb dL_law_742 rfl (lv_at hl 3 rfl) ?_
  refine lv_iload_n hx hb dL_law_743 rfl (lv_at hl 0 rfl) ?_
  refine lv_iconst (v := 2) hx hb dL_law_744 (by decide) ?_
  refine lv_iadd hx hb dL_law_745 ?_
  refine va_sld hx hb hX hbl hbA hS (law_in hi0 hi6 hL (by decide)) dL_law_746 ?_
  refine lw_call (As := [.int (xs (i + 1).toNatClampNeg), .int (xs (i + 2).toNatClampNeg)]) (rest := []) (ci := 9) ⟨hx, hb, hml, hown, hts⟩ (ct_X9about l E B _ (xs (i + 1).toNatClampNeg) (xs (i + 2).toNatClampNeg) σ (qt_about J)) (cwV 2 hts g_law_X9about rfl rfl rfl (by decide +kernel) ⟨Nat.le_of_ble_eq_true rfl, Nat.le_of_ble_eq_true rfl⟩) ⟨rfl, rfl⟩ hK hN hZ hS hA hP hD rfl rfl rfl hl.1 rfl (Nat.le_of_ble_eq_true rfl) dL_law_747 ⟨Nat.le_of_ble_eq_true rfl, Nat.le_of_ble_eq_true rfl⟩ (fun r1 w H locs hw hP hD hS => ?_)
  obtain ⟨σ', hq, rfl⟩ := hw
  refine lv_pop hx hb dL_law_750 rfl ?_
  refine lv_aload_n hx hb dL_law_751 rfl (lv_at hl 1 rfl) ?_
  refine lv_aload_n hx hb dL_law_752 rfl (lv_at hl 3 rfl) ?_
  refine lv_iload_n hx hb dL_law_753 rfl (lv_at hl 0 rfl) ?_
  refine lv_iconst (v := 1) hx hb dL_law_754 (by decide) ?_
  refine lv_iadd hx hb dL_law_755 ?_
  refine va_sld hx hb hX hbl hbA hS (law_in hi0 hi6 hL (by decide)) dL_law_756 ?_
  refine lv_aload_n hx hb dL_law_757 rfl (lv_at hl 3 rfl) ?_
  refine lv_iload_n hx hb dL_law_758 rfl (lv_at hl 0 rfl) ?_
  refine lv_iconst (v := 2) hx hb dL_law_759 (by decide) ?_
  refine lv_iadd hx hb dL_law_760 ?_
  refine va_sld hx hb hX hbl hbA hS (law_in hi0 hi6 hL (by decide)) dL_law_761 ?_
  refine lw_call (As := [.int (xs (i + 1).toNatClampNeg), .int (xs (i + 2).toNatClampNeg)]) (rest := []) (ci := 10) ⟨hx, hb, hml, hown, hts⟩ (ct_about l E B2 _ (xs (i + 1).toNatClampNeg) (xs (i + 2).toNatClampNeg) τ hq) (cwV 2 hts g_law_about rfl rfl rfl (by decide +kernel) ⟨Nat.le_of_ble_eq_true rfl, Nat.le_of_ble_eq_true rfl⟩) ⟨rfl, rfl⟩ hK hN hZ hS hA hP hD rfl rfl rfl hl.1 rfl (Nat.le_of_ble_eq_true rfl) dL_law_762 ⟨Nat.le_of_ble_eq_true rfl, Nat.le_of_ble_eq_true rfl⟩ (fun r2 w H locs hw hP hD hS => ?_)
  obtain ⟨τ', hj, rfl⟩ := hw
  refine lv_pop hx hb dL_law_765 rfl ?_
  refine lv_goto (tgt := 1131) hx hb dL_law_766 (by decide) ?_
  exact K σ' τ' H locs hj hP hD hS
theorem dL_law_769 : decode cL_law 769 = .ok (.aload_n 1, 1) := by decide +kernel
theorem dL_law_770 : decode cL_law 770 = .ok (.aload_n 0, 1) := by decide +kernel
theorem dL_law_771 : decode cL_law 771 = .ok (.iload_n 3, 1) := by decide +kernel
theorem dL_law_772 : decode cL_law 772 = .ok (.iconst 1, 1) := by decide +kernel
theorem dL_law_773 : decode cL_law 773 = .ok (.iadd, 1) := by decide +kernel
theorem dL_law_774 : decode cL_law 774 = .ok (.iaload, 1) := by decide +kernel
theorem dL_law_775 : decode cL_law 775 = .ok (.aload_n 0, 1) := by decide +kernel
theorem dL_law_776 : decode cL_law 776 = .ok (.iload_n 3, 1) := by decide +kernel
theorem dL_law_777 : decode cL_law 777 = .ok (.iconst 2, 1) := by decide +kernel
theorem dL_law_778 : decode cL_law 778 = .ok (.iadd, 1) := by decide +kernel
theorem dL_law_779 : decode cL_law 779 = .ok (.iaload, 1) := by decide +kernel
theorem dL_law_780 : decode cL_law 780 = .ok (.invokevirtual 79, 3) := by decide +kernel
theorem g_law_X9takes : GoodIn lw_tbl (wsV RL 79 RX9 yX9_takes w_X9takes) := goodIn_app (gt_of (GW_of (by decide +kernel)) [772, 773, 774, 68] (by decide +kernel)) gt_X9takes
theorem dL_law_783 : decode cL_law 783 = .ok (.pop, 1) := by decide +kernel
theorem dL_law_784 : decode cL_law 784 = .ok (.aload_n 2, 1) := by decide +kernel
theorem dL_law_785 : decode cL_law 785 = .ok (.aload_n 0, 1) := by decide +kernel
theorem dL_law_786 : decode cL_law 786 = .ok (.iload_n 3, 1) := by decide +kernel
theorem dL_law_787 : decode cL_law 787 = .ok (.iconst 1, 1) := by decide +kernel
theorem dL_law_788 : decode cL_law 788 = .ok (.iadd, 1) := by decide +kernel
theorem dL_law_789 : decode cL_law 789 = .ok (.iaload, 1) := by decide +kernel
theorem dL_law_790 : decode cL_law 790 = .ok (.aload_n 0, 1) := by decide +kernel
theorem dL_law_791 : decode cL_law 791 = .ok (.iload_n 3, 1) := by decide +kernel
theorem dL_law_792 : decode cL_law 792 = .ok (.iconst 2, 1) := by decide +kernel
theorem dL_law_793 : decode cL_law 793 = .ok (.iadd, 1) := by decide +kernel
theorem dL_law_794 : decode cL_law 794 = .ok (.iaload, 1) := by decide +kernel
theorem dL_law_795 : decode cL_law 795 = .ok (.invokevirtual 82, 3) := by decide +kernel
theorem g_law_takes : GoodIn lw_tbl (wsV RL 82 RX10 yX10_takes w_takes) := goodIn_app (gt_of (GW_of (by decide +kernel)) [1341, 1342, 1343, 79] (by decide +kernel)) gt_takes
theorem dL_law_798 : decode cL_law 798 = .ok (.pop, 1) := by decide +kernel
theorem dL_law_799 : decode cL_law 799 = .ok (.goto 332, 3) := by decide +kernel
set_option maxHeartbeats 4000000 in
set_option maxRecDepth 100000 in
theorem law_takes {p : Program} {l : Launch} {e : Env} {s : State} {m : MethodId} {below : List Frame} {meth : Method} {c : Code} {b L : Nat} {xs : Nat → Int32} {E : gE} {A : Nat → Prop} {B B2 : Nat → Nat} (C0 : lw_At p s m meth c b L xs) (hL : L ≤ 3072) (hAe : A = fun q => s.heap.size ≤ q) (hK : va_K E.1 vwCl (tyE E) s) (hN : nw_ok s) (hZ : stk E A s s.heap) {H : Heap} {locs : List Loc} {ls : Array Slot} {σ τ : VS} {i : Int32} (J : Jt σ τ) (hi0 : 0 ≤ i.toInt) (hi6 : i.toInt + 6 ≤ (L : Int)) (hP : va_P E.1 vwCl (wc E B σ ++ wm E B2 τ) H) (hD : va_D A (wc E B σ ++ wm E B2 τ)) (hS : va_S A s.heap H locs) (hl : lv_has ls 4 [(3, .int i), (2, .ref (B2 0)), (1, .ref (B 0)), (0, .ref b)]) (K : ∀ (σ' τ' : VS) (H' : Heap) (locs' : List Loc), Jt σ' τ' → va_P E.1 vwCl (wc E B σ' ++ wm E B2 τ') H' → va_D A (wc E B σ' ++ wm E B2 τ') → va_S A s.heap H' locs' → W p l e room_1 s m #[Value.ref b] below meth c H' locs' 1000 1000000 (lw_Z below #[Value.ref b] s) (F0 m 1131 ls [])) : W p l e room_1 s m #[Value.ref b] below meth c H locs 1000 1000000 (lw_Z below #[Value.ref b] s) (F0 m 769 ls []) := by
  obtain ⟨hx, hb, hr, hml, hown, hts, hX, hbl, hlocks, hgv⟩ := id C0
  have hown : s.vm.findClass RL = some m.cls := hown
  have hA : ∀ q, s.heap.size ≤ q → A q := fun q h => by rw [hAe]; exact h
  have hbA : ¬ A b := by rw [hAe]; exact Nat.not_le.mpr hbl
  refine lv_aload_n hx hb dL_law_769 rfl (lv_at hl 2 rfl) ?_
  refine lv_aload_n hx hb dL_law_770 rfl (lv_at hl 3 rfl) ?_
  refine lv_iload_n hx hb dL_law_771 rfl (lv_at hl 0 rfl) ?_
  refine lv_iconst (v := 1) hx hb dL_law_772 (by decide) ?_
  refine lv_iadd hx hb dL_law_773 ?_
  refine va_sld hx hb hX hbl hbA hS (law_in hi0 hi6 hL (by decide)) dL_law_774 ?_
  refine lv_aload_n hx hb dL_law_775 rfl (lv_at hl 3 rfl) ?_
  refine lv_iload_n hx hb dL_law_776 rfl (lv_at hl 0 rfl) ?_
  refine lv_iconst (v := 2) hx hb dL_law_777 (by decide) ?_
  refine lv_iadd hx hb dL_law_778 ?_
  refine va_sld hx hb hX hbl hbA hS (law_in hi0 hi6 hL (by decide)) dL_law_779 ?_
  refine lw_call (As := [.int (xs (i + 1).toNatClampNeg), .int (xs (i + 2).toNatClampNeg)]) (rest := []) (ci := 9) ⟨hx, hb, hml, hown, hts⟩ (ct_X9takes l E B _ (xs (i + 1).toNatClampNeg) (xs (i + 2).toNatClampNeg) σ (qt_takes J)) (cwV 2 hts g_law_X9takes rfl rfl rfl (by decide +kernel) ⟨Nat.le_of_ble_eq_true rfl, Nat.le_of_ble_eq_true rfl⟩) ⟨rfl, rfl⟩ hK hN hZ hS hA hP hD rfl rfl rfl hl.1 rfl (Nat.le_of_ble_eq_true rfl) dL_law_780 ⟨Nat.le_of_ble_eq_true rfl, Nat.le_of_ble_eq_true rfl⟩ (fun r1 w H locs hw hP hD hS => ?_)
  obtain ⟨σ', hq, rfl⟩ := hw
  refine lv_pop hx hb dL_law_783 rfl ?_
  refine lv_aload_n hx hb dL_law_784 rfl (lv_at hl 1 rfl) ?_
  refine lv_aload_n hx hb dL_law_785 rfl (lv_at hl 3 rfl) ?_
  refine lv_iload_n hx hb dL_law_786 rfl (lv_at hl 0 rfl) ?_
  refine lv_iconst (v := 1) hx hb dL_law_787 (by decide) ?_
  refine lv_iadd hx hb dL_law_788 ?_
  refine va_sld hx hb hX hbl hbA hS (law_in hi0 hi6 hL (by decide)) dL_law_789 ?_
  refine lv_aload_n hx hb dL_law_790 rfl (lv_at hl 3 rfl) ?_
  refine lv_iload_n hx hb dL_law_791 rfl (lv_at hl 0 rfl) ?_
  refine lv_iconst (v := 2) hx hb dL_law_792 (by decide) ?_
  refine lv_iadd hx hb dL_law_793 ?_
  refine va_sld hx hb hX hbl hbA hS (law_in hi0 hi6 hL (by decide)) dL_law_794 ?_
  refine lw_call (As := [.int (xs (i + 1).toNatClampNeg), .int (xs (i + 2).toNatClampNeg)]) (rest := []) (ci := 10) ⟨hx, hb, hml, hown, hts⟩ (ct_takes l E B2 _ (xs (i + 1).toNatClampNeg) (xs (i + 2).toNatClampNeg) τ hq) (cwV 2 hts g_law_takes rfl rfl rfl (by decide +kernel) ⟨Nat.le_of_ble_eq_true rfl, Nat.le_of_ble_eq_true rfl⟩) ⟨rfl, rfl⟩ hK hN hZ hS hA hP hD rfl rfl rfl hl.1 rfl (Nat.le_of_ble_eq_true rfl) dL_law_795 ⟨Nat.le_of_ble_eq_true rfl, Nat.le_of_ble_eq_true rfl⟩ (fun r2 w H locs hw hP hD hS => ?_)
  obtain ⟨τ', hj, rfl⟩ := hw
  refine lv_pop hx hb dL_law_798 rfl ?_
  refine lv_goto (tgt := 1131) hx hb dL_law_799 (by decide) ?_
  exact K σ' τ' H locs hj.2 hP hD hS
