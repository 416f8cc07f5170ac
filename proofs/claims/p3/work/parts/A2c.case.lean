theorem dL_law_538 : decode cL_law 538 = .ok (.aload_n 1, 1) := by decide +kernel
theorem dL_law_539 : decode cL_law 539 = .ok (.aload_n 0, 1) := by decide +kernel
theorem dL_law_540 : decode cL_law 540 = .ok (.iload_n 3, 1) := by decide +kernel
theorem dL_law_541 : decode cL_law 541 = .ok (.iconst 1, 1) := by decide +kernel
theorem dL_law_542 : decode cL_law 542 = .ok (.iadd, 1) := by decide +kernel
theorem dL_law_543 : decode cL_law 543 = .ok (.iaload, 1) := by decide +kernel
theorem dL_law_544 : decode cL_law 544 = .ok (.aload_n 0, 1) := by decide +kernel
theorem dL_law_545 : decode cL_law 545 = .ok (.iload_n 3, 1) := by decide +kernel
theorem dL_law_546 : decode cL_law 546 = .ok (.iconst 2, 1) := by decide +kernel
theorem dL_law_547 : decode cL_law 547 = .ok (.iadd, 1) := by decide +kernel
theorem dL_law_548 : decode cL_law 548 = .ok (.iaload, 1) := by decide +kernel
theorem dL_law_549 : decode cL_law 549 = .ok (.invokevirtual 49, 3) := by decide +kernel
theorem g_law_X9fall : GoodIn lw_tbl (wsV RL 49 RX9 yX9_fall w_X9fall) := goodIn_app (gt_of (GW_of (by decide +kernel)) [627, 628, 629, 68] (by decide +kernel)) gt_X9fall
theorem dL_law_552 : decode cL_law 552 = .ok (.pop, 1) := by decide +kernel
theorem dL_law_553 : decode cL_law 553 = .ok (.aload_n 2, 1) := by decide +kernel
theorem dL_law_554 : decode cL_law 554 = .ok (.aload_n 0, 1) := by decide +kernel
theorem dL_law_555 : decode cL_law 555 = .ok (.iload_n 3, 1) := by decide +kernel
theorem dL_law_556 : decode cL_law 556 = .ok (.iconst 1, 1) := by decide +kernel
theorem dL_law_557 : decode cL_law 557 = .ok (.iadd, 1) := by decide +kernel
theorem dL_law_558 : decode cL_law 558 = .ok (.iaload, 1) := by decide +kernel
theorem dL_law_559 : decode cL_law 559 = .ok (.aload_n 0, 1) := by decide +kernel
theorem dL_law_560 : decode cL_law 560 = .ok (.iload_n 3, 1) := by decide +kernel
theorem dL_law_561 : decode cL_law 561 = .ok (.iconst 2, 1) := by decide +kernel
theorem dL_law_562 : decode cL_law 562 = .ok (.iadd, 1) := by decide +kernel
theorem dL_law_563 : decode cL_law 563 = .ok (.iaload, 1) := by decide +kernel
theorem dL_law_564 : decode cL_law 564 = .ok (.invokevirtual 52, 3) := by decide +kernel
theorem g_law_fall : GoodIn lw_tbl (wsV RL 52 RX10 yX10_fall w_fall) := goodIn_app (gt_of (GW_of (by decide +kernel)) [1237, 1238, 1239, 79] (by decide +kernel)) gt_fall
theorem dL_law_567 : decode cL_law 567 = .ok (.pop, 1) := by decide +kernel
theorem dL_law_568 : decode cL_law 568 = .ok (.goto 563, 3) := by decide +kernel
set_option maxHeartbeats 4000000 in
set_option maxRecDepth 100000 in
theorem law_fall {p : Program} {l : Launch} {e : Env} {s : State} {m : MethodId} {below : List Frame} {meth : Method} {c : Code} {b L : Nat} {xs : Nat → Int32} {E : gE} {A : Nat → Prop} {B B2 : Nat → Nat} (C0 : lw_At p s m meth c b L xs) (hL : L ≤ 3072) (hAe : A = fun q => s.heap.size ≤ q) (hK : va_K E.1 vwCl (tyE E) s) (hN : nw_ok s) (hZ : stk E A s s.heap) {H : Heap} {locs : List Loc} {ls : Array Slot} {σ τ : VS} {i : Int32} (J : Jt σ τ) (hi0 : 0 ≤ i.toInt) (hi6 : i.toInt + 6 ≤ (L : Int)) (hP : va_P E.1 vwCl (wc E B σ ++ wm E B2 τ) H) (hD : va_D A (wc E B σ ++ wm E B2 τ)) (hS : va_S A s.heap H locs) (hl : lv_has ls 4 [(3, .int i), (2, .ref (B2 0)), (1, .ref (B 0)), (0, .ref b)]) (K : ∀ (σ' τ' : VS) (H' : Heap) (locs' : List Loc), Jt σ' τ' → va_P E.1 vwCl (wc E B σ' ++ wm E B2 τ') H' → va_D A (wc E B σ' ++ wm E B2 τ') → va_S A s.heap H' locs' → W p l e room_1 s m #[Value.ref b] below meth c H' locs' 1000 1000000 (lw_Z below #[Value.ref b] s) (F0 m 1131 ls [])) : W p l e room_1 s m #[Value.ref b] below meth c H locs 1000 1000000 (lw_Z below #[Value.ref b] s) (F0 m 538 ls []) := by
  obtain ⟨hx, hb, hr, hml, hown, hts, hX, hbl, hlocks, hgv⟩ := id C0
  have hown : s.vm.findClass RL = some m.cls := hown
  have hA : ∀ q, s.heap.size ≤ q → A q := fun q h => by rw [hAe]; exact h
  have hbA : ¬ A b := by rw [hAe]; exact Nat.not_le.mpr hbl
  refine lv_aload_n hx hb dL_law_538 rfl (lv_at hl 2 rfl) ?_
  refine lv_aload_n hx hb dL_law_539 rfl (lv_at hl 3 rfl) ?_
  refine lv_iload_n hx hb dL_law_540 rfl (lv_at hl 0 rfl) ?_
  refine lv_iconst (v := 1) hx hb dL_law_541 (by decide) ?_
  refine lv_iadd hx hb dL_law_542 ?_
  refine va_sld hx hb hX hbl hbA hS (law_in hi0 hi6 hL (by decide)) dL_law_543 ?_
  refine lv_aload_n hx hb dL_law_544 rfl (lv_at hl 3 rfl) ?_
  refine lv_iload_n hx hb dL_law_545 rfl (lv_at hl 0 rfl) ?_
  refine lv_iconst (v := 2) hx hb dL_law_546 (by decide) ?_
  refine lv_iadd hx hb dL_law_547 ?_
  refine va_sld hx hb hX hbl hbA hS (law_in hi0 hi6 hL (by decide)) dL_law_548 ?_
  refine lw_call (As := [.int (xs (i + 1).toNatClampNeg), .int (xs (i + 2).toNatClampNeg)]) (rest := []) (ci := 9) ⟨hx, hb, hml, hown, hts⟩ (ct_X9fall l E B _ (xs (i + 1).toNatClampNeg) (xs (i + 2).toNatClampNeg) σ (qt_fall J)) (cwV 2 hts g_law_X9fall rfl rfl rfl (by decide +kernel) ⟨Nat.le_of_ble_eq_true rfl, Nat.le_of_ble_eq_true rfl⟩) ⟨rfl, rfl⟩ hK hN hZ hS hA hP hD rfl rfl rfl hl.1 rfl (Nat.le_of_ble_eq_true rfl) dL_law_549 ⟨Nat.le_of_ble_eq_true rfl, Nat.le_of_ble_eq_true rfl⟩ (fun r1 w H locs hw hP hD hS => ?_)
  obtain ⟨σ', hq, rfl⟩ := hw
  refine lv_pop hx hb dL_law_552 rfl ?_
  refine lv_aload_n hx hb dL_law_553 rfl (lv_at hl 1 rfl) ?_
  refine lv_aload_n hx hb dL_law_554 rfl (lv_at hl 3 rfl) ?_
  refine lv_iload_n hx hb dL_law_555 rfl (lv_at hl 0 rfl) ?_
  refine lv_iconst (v := 1) hx hb dL_law_556 (by decide) ?_
  refine lv_iadd hx hb dL_law_557 ?_
  refine va_sld hx hb hX hbl hbA hS (law_in hi0 hi6 hL (by decide)) dL_law_558 ?_
  refine lv_aload_n hx hb dL_law_559 rfl (lv_at hl 3 rfl) ?_
  refine lv_iload_n hx hb dL_law_560 rfl (lv_at hl 0 rfl) ?_
  refine lv_iconst (v := 2) hx hb dL_law_561 (by decide) ?_
  refine lv_iadd hx hb dL_law_562 ?_
  refine va_sld hx hb hX hbl hbA hS (law_in hi0 hi6 hL (by decide)) dL_law_563 ?_
  refine lw_call (As := [.int (xs (i + 1).toNatClampNeg), .int (xs (i + 2).toNatClampNeg)]) (rest := []) (ci := 10) ⟨hx, hb, hml, hown, hts⟩ (ct_fall l E B2 _ (xs (i + 1).toNatClampNeg) (xs (i + 2).toNatClampNeg) τ hq) (cwV 2 hts g_law_fall rfl rfl rfl (by decide +kernel) ⟨Nat.le_of_ble_eq_true rfl, Nat.le_of_ble_eq_true rfl⟩) ⟨rfl, rfl⟩ hK hN hZ hS hA hP hD rfl rfl rfl hl.1 rfl (Nat.le_of_ble_eq_true rfl) dL_law_564 ⟨Nat.le_of_ble_eq_true rfl, Nat.le_of_ble_eq_true rfl⟩ (fun r2 w H locs hw hP hD hS => ?_)
  obtain ⟨τ', hj, rfl⟩ := hw
  refine lv_pop hx hb dL_law_567 rfl ?_
  refine lv_goto (tgt := 1131) hx hb dL_law_568 (by decide) ?_
  exact K σ' τ' H locs hj.2 hP hD hS
theorem dL_law_571 : decode cL_law 571 = .ok (.aload_n 1, 1) := by decide +kernel
theorem dL_law_572 : decode cL_law 572 = .ok (.aload_n 0, 1) := by decide +kernel
theorem dL_law_573 : decode cL_law 573 = .ok (.iload_n 3, 1) := by decide +kernel
theorem dL_law_574 : decode cL_law 574 = .ok (.iconst 1, 1) := by decide +kernel
theorem dL_law_575 : decode cL_law 575 = .ok (.iadd, 1) := by decide +kernel
theorem dL_law_576 : decode cL_law 576 = .ok (.iaload, 1) := by decide +kernel
theorem dL_law_577 : decode cL_law 577 = .ok (.aload_n 0, 1) := by decide +kernel
theorem dL_law_578 : decode cL_law 578 = .ok (.iload_n 3, 1) := by decide +kernel
theorem dL_law_579 : decode cL_law 579 = .ok (.iconst 2, 1) := by decide +kernel
theorem dL_law_580 : decode cL_law 580 = .ok (.iadd, 1) := by decide +kernel
theorem dL_law_581 : decode cL_law 581 = .ok (.iaload, 1) := by decide +kernel
theorem dL_law_582 : decode cL_law 582 = .ok (.invokevirtual 53, 3) := by decide +kernel
theorem g_law_X9corner : GoodIn lw_tbl (wsV RL 53 RX9 yX9_corner w_X9corner) := goodIn_app (gt_of (GW_of (by decide +kernel)) [631, 632, 633, 68] (by decide +kernel)) gt_X9corner
theorem dL_law_585 : decode cL_law 585 = .ok (.pop, 1) := by decide +kernel
theorem dL_law_586 : decode cL_law 586 = .ok (.aload_n 2, 1) := by decide +kernel
theorem dL_law_587 : decode cL_law 587 = .ok (.aload_n 0, 1) := by decide +kernel
theorem dL_law_588 : decode cL_law 588 = .ok (.iload_n 3, 1) := by decide +kernel
theorem dL_law_589 : decode cL_law 589 = .ok (.iconst 1, 1) := by decide +kernel
theorem dL_law_590 : decode cL_law 590 = .ok (.iadd, 1) := by decide +kernel
theorem dL_law_591 : decode cL_law 591 = .ok (.iaload, 1) := by decide +kernel
theorem dL_law_592 : decode cL_law 592 = .ok (.aload_n 0, 1) := by decide +kernel
theorem dL_law_593 : decode cL_law 593 = .ok (.iload_n 3, 1) := by decide +kernel
theorem dL_law_594 : decode cL_law 594 = .ok (.iconst 2, 1) := by decide +kernel
theorem dL_law_595 : decode cL_law 595 = .ok (.iadd, 1) := by decide +kernel
theorem dL_law_596 : decode cL_law 596 = .ok (.iaload, 1) := by decide +kernel
theorem dL_law_597 : decode cL_law 597 = .ok (.invokevirtual 56, 3) := by decide +kernel
theorem g_law_corner : GoodIn lw_tbl (wsV RL 56 RX10 yX10_corner w_corner) := goodIn_app (gt_of (GW_of (by decide +kernel)) [1241, 1242, 1243, 79] (by decide +kernel)) gt_corner
theorem dL_law_600 : decode cL_law 600 = .ok (.pop, 1) := by decide +kernel
theorem dL_law_601 : decode cL_law 601 = .ok (.goto 530, 3) := by decide +kernel
set_option maxHeartbeats 4000000 in
set_option maxRecDepth 100000 in
theorem law_corner {p : Program} {l : Launch} {e : Env} {s : State} {m : MethodId} {below : List Frame} {meth : Method} {c : Code} {b L : Nat} {xs : Nat → Int32} {E : gE} {A : Nat → Prop} {B B2 : Nat → Nat} (C0 : lw_At p s m meth c b L xs) (hL : L ≤ 3072) (hAe : A = fun q => s.heap.size ≤ q) (hK : va_K E.1 vwCl (tyE E) s) (hN : nw_ok s) (hZ : stk E A s s.heap) {H : Heap} {locs : List Loc} {ls : Array Slot} {σ τ : VS} {i : Int32} (J : Jt σ τ) (hi0 : 0 ≤ i.toInt) (hi6 : i.toInt + 6 ≤ (L : Int)) (hP : va_P E.1 vwCl (wc E B σ ++ wm E B2 τ) H) (hD : va_D A (wc E B σ ++ wm E B2 τ)) (hS : va_S A s.heap H locs) (hl : lv_has ls 4 [(3, .int i), (2, .ref (B2 0)), (1, .ref (B 0)), (0, .ref b)]) (K : ∀ (σ' τ' : VS) (H' : Heap) (locs' : List Loc), Jt σ' τ' → va_P E.1 vwCl (wc E B σ' ++ wm E B2 τ') H' → va_D A (wc E B σ' ++ wm E B2 τ') → va_S A s.heap H' locs' → W p l e room_1 s m #[Value.ref b] below meth c H' locs' 1000 1000000 (lw_Z below #[Value.ref b] s) (F0 m 1131 ls [])) : W p l e room_1 s m #[Value.ref b] below meth c H locs 1000 1000000 (lw_Z below #[Value.ref b] s) (F0 m 571 ls []) := by
  obtain ⟨hx, hb, hr, hml, hown, hts, hX, hbl, hlocks, hgv⟩ := id C0
  have hown : s.vm.findClass RL = some m.cls := hown
  have hA : ∀ q, s.heap.size ≤ q → A q := fun q h => by rw [hAe]; exact h
  have hbA : ¬ A b := by rw [hAe]; exact Nat.not_le.mpr hbl
  refine lv_aload_n hx hb dL_law_571 rfl (lv_at hl 2 rfl) ?_
  refine lv_aload_n hx hb dL_law_572 rfl (lv_at hl 3 rfl) ?_
  refine lv_iload_n hx hb dL_law_573 rfl (lv_at hl 0 rfl) ?_
  refine lv_iconst (v := 1) hx hb dL_law_574 (by decide) ?_
  refine lv_iadd hx hb dL_law_575 ?_
  refine va_sld hx hb hX hbl hbA hS (law_in hi0 hi6 hL (by decide)) dL_law_576 ?_
  refine lv_aload_n hx hb dL_law_577 rfl (lv_at hl 3 rfl) ?_
  refine lv_iload_n hx hb dL_law_578 rfl (lv_at hl 0 rfl) ?_
  refine lv_iconst (v := 2) hx hb dL_law_579 (by decide) ?_
  refine lv_iadd hx hb dL_law_580 ?_
  refine va_sld hx hb hX hbl hbA hS (law_in hi0 hi6 hL (by decide)) dL_law_581 ?_
  refine lw_call (As := [.int (xs (i + 1).toNatClampNeg), .int (xs (i + 2).toNatClampNeg)]) (rest := []) (ci := 9) ⟨hx, hb, hml, hown, hts⟩ (ct_X9corner l E B _ (xs (i + 1).toNatClampNeg) (xs (i + 2).toNatClampNeg) σ (qt_corner J)) (cwV 2 hts g_law_X9corner rfl rfl rfl (by decide +kernel) ⟨Nat.le_of_ble_eq_true rfl, Nat.le_of_ble_eq_true rfl⟩) ⟨rfl, rfl⟩ hK hN hZ hS hA hP hD rfl rfl rfl hl.1 rfl (Nat.le_of_ble_eq_true rfl) dL_law_582 ⟨Nat.le_of_ble_eq_true rfl, Nat.le_of_ble_eq_true rfl⟩ (fun r1 w H locs hw hP hD hS => ?_)
  obtain ⟨σ', hq, rfl⟩ := hw
  refine lv_pop hx hb dL_law_585 rfl ?_
  refine lv_aload_n hx hb dL_law_586 rfl (lv_at hl 1 rfl) ?_
  refine lv_aload_n hx hb dL_law_587 rfl (lv_at hl 3 rfl) ?_
  refine lv_iload_n hx hb dL_law_588 rfl (lv_at hl 0 rfl) ?_
  refine lv_iconst (v := 1) hx hb dL_law_589 (by decide) ?_
  refine lv_iadd hx hb dL_law_590 ?_
  refine va_sld hx hb hX hbl hbA hS (law_in hi0 hi6 hL (by decide)) dL_law_591 ?_
  refine lv_aload_n hx hb dL_law_592 rfl (lv_at hl 3 rfl) ?_
  refine lv_iload_n hx hb dL_law_593 rfl (lv_at hl 0 rfl) ?_
  refine lv_iconst (v := 2) hx hb dL_law_594 (by decide) ?_
  refine lv_iadd hx hb dL_law_595 ?_
  refine va_sld hx hb hX hbl hbA hS (law_in hi0 hi6 hL (by decide)) dL_law_596 ?_
  refine lw_call (As := [.int (xs (i + 1).toNatClampNeg), .int (xs (i + 2).toNatClampNeg)]) (rest := []) (ci := 10) ⟨hx, hb, hml, hown, hts⟩ (ct_corner l E B2 _ (xs (i + 1).toNatClampNeg) (xs (i + 2).toNatClampNeg) τ hq) (cwV 2 hts g_law_corner rfl rfl rfl (by decide +kernel) ⟨Nat.le_of_ble_eq_true rfl, Nat.le_of_ble_eq_true rfl⟩) ⟨rfl, rfl⟩ hK hN hZ hS hA hP hD rfl rfl rfl hl.1 rfl (Nat.le_of_ble_eq_true rfl) dL_law_597 ⟨Nat.le_of_ble_eq_true rfl, Nat.le_of_ble_eq_true rfl⟩ (fun r2 w H locs hw hP hD hS => ?_)
  obtain ⟨τ', hj, rfl⟩ := hw
  refine lv_pop hx hb dL_law_600 rfl ?_
  refine lv_goto (tgt := 1131) hx hb dL_law_601 (by decide) ?_
  exact K σ' τ' H locs hj.2 hP hD hS
theorem dL_law_604 : decode cL_law 604 = .ok (.aload_n 1, 1) := by decide +kernel
theorem dL_law_605 : decode cL_law 605 = .ok (.aload_n 0, 1) := by decide +kernel
theorem dL_law_606 : decode cL_law 606 = .ok (.iload_n 3, 1) := by decide +kernel
theorem dL_law_607 : decode cL_law 607 = .ok (.iconst 1, 1) := by decide +kernel
theorem dL_law_608 : decode cL_law 608 = .ok (.iadd, 1) := by decide +kernel
theorem dL_law_609 : decode cL_law 609 = .ok (.iaload, 1) := by decide +kernel
theorem dL_law_610 : decode cL_law 610 = .ok (.invokevirtual 57, 3) := by decide +kernel
theorem g_law_X9period : GoodIn lw_tbl (wsV RL 57 RX9 yX9_period w_X9period) := goodIn_app (gt_of (GW_of (by decide +kernel)) [635, 636, 637, 68] (by decide +kernel)) gt_X9period
theorem dL_law_613 : decode cL_law 613 = .ok (.pop, 1) := by decide +kernel
theorem dL_law_614 : decode cL_law 614 = .ok (.aload_n 2, 1) := by decide +kernel
theorem dL_law_615 : decode cL_law 615 = .ok (.aload_n 0, 1) := by decide +kernel
theorem dL_law_616 : decode cL_law 616 = .ok (.iload_n 3, 1) := by decide +kernel
theorem dL_law_617 : decode cL_law 617 = .ok (.iconst 1, 1) := by decide +kernel
theorem dL_law_618 : decode cL_law 618 = .ok (.iadd, 1) := by decide +kernel
theorem dL_law_619 : decode cL_law 619 = .ok (.iaload, 1) := by decide +kernel
theorem dL_law_620 : decode cL_law 620 = .ok (.invokevirtual 61, 3) := by decide +kernel
theorem g_law_period : GoodIn lw_tbl (wsV RL 61 RX10 yX10_period w_period) := goodIn_app (gt_of (GW_of (by decide +kernel)) [1245, 1246, 1247, 79] (by decide +kernel)) gt_period
theorem dL_law_623 : decode cL_law 623 = .ok (.pop, 1) := by decide +kernel
theorem dL_law_624 : decode cL_law 624 = .ok (.goto 507, 3) := by decide +kernel
set_option maxHeartbeats 4000000 in
set_option maxRecDepth 100000 in
theorem law_period {p : Program} {l : Launch} {e : Env} {s : State} {m : MethodId} {below : List Frame} {meth : Method} {c : Code} {b L : Nat} {xs : Nat → Int32} {E : gE} {A : Nat → Prop} {B B2 : Nat → Nat} (C0 : lw_At p s m meth c b L xs) (hL : L ≤ 3072) (hAe : A = fun q => s.heap.size ≤ q) (hK : va_K E.1 vwCl (tyE E) s) (hN : nw_ok s) (hZ : stk E A s s.heap) {H : Heap} {locs : List Loc} {ls : Array Slot} {σ τ : VS} {i : Int32} (J : Jt σ τ) (hi0 : 0 ≤ i.toInt) (hi6 : i.toInt + 6 ≤ (L : Int)) (hP : va_P E.1 vwCl (wc E B σ ++ wm E B2 τ) H) (hD : va_D A (wc E B σ ++ wm E B2 τ)) (hS : va_S A s.heap H locs) (hl : lv_has ls 4 [(3, .int i), (2, .ref (B2 0)), (1, .ref (B 0)), (0, .ref b)]) (K : ∀ (σ' τ' : VS) (H' : Heap) (locs' : List Loc), Jt σ' τ' → va_P E.1 vwCl (wc E B σ' ++ wm E B2 τ') H' → va_D A (wc E B σ' ++ wm E B2 τ') → va_S A s.heap H' locs' → W p l e room_1 s m #[Value.ref b] below meth c H' locs' 1000 1000000 (lw_Z below #[Value.ref b] s) (F0 m 1131 ls [])) : W p l e room_1 s m #[Value.ref b] below meth c H locs 1000 1000000 (lw_Z below #[Value.ref b] s) (F0 m 604 ls []) := by
  obtain ⟨hx, hb, hr, hml, hown, hts, hX, hbl, hlocks, hgv⟩ := id C0
  have hown : s.vm.findClass RL = some m.cls := hown
  have hA : ∀ q, s.heap.size ≤ q → A q := fun q h => by rw [hAe]; exact h
  have hbA : ¬ A b := by rw [hAe]; exact Nat.not_le.mpr hbl
  refine lv_aload_n hx hb dL_law_604 rfl (lv_at hl 2 rfl) ?_
  refine lv_aload_n hx hb dL_law_605 rfl (lv_at hl 3 rfl) ?_
  refine lv_iload_n hx hb dL_law_606 rfl (lv_at hl 0 rfl) ?_
  refine lv_iconst (v := 1) hx hb dL_law_607 (by decide) ?_
  refine lv_iadd hx hb dL_law_608 ?_
  refine va_sld hx hb hX hbl hbA hS (law_in hi0 hi6 hL (by decide)) dL_law_609 ?_
  refine lw_call (As := [.int (xs (i + 1).toNatClampNeg)]) (rest := []) (ci := 9) ⟨hx, hb, hml, hown, hts⟩ (ct_X9period l E B _ (xs (i + 1).toNatClampNeg) σ (qt_period J)) (cwV 1 hts g_law_X9period rfl rfl rfl (by decide +kernel) ⟨Nat.le_of_ble_eq_true rfl, Nat.le_of_ble_eq_true rfl⟩) ⟨rfl, rfl⟩ hK hN hZ hS hA hP hD rfl rfl rfl hl.1 rfl (Nat.le_of_ble_eq_true rfl) dL_law_610 ⟨Nat.le_of_ble_eq_true rfl, Nat.le_of_ble_eq_true rfl⟩ (fun r1 w H locs hw hP hD hS => ?_)
  obtain ⟨σ', hq, rfl⟩ := hw
  refine lv_pop hx hb dL_law_613 rfl ?_
  refine lv_aload_n hx hb dL_law_614 rfl (lv_at hl 1 rfl) ?_
  refine lv_aload_n hx hb dL_law_615 rfl (lv_at hl 3 rfl) ?_
  refine lv_iload_n hx hb dL_law_616 rfl (lv_at hl 0 rfl) ?_
  refine lv_iconst (v := 1) hx hb dL_law_617 (by decide) ?_
  refine lv_iadd hx hb dL_law_618 ?_
  refine va_sld hx hb hX hbl hbA hS (law_in hi0 hi6 hL (by decide)) dL_law_619 ?_
  refine lw_call (As := [.int (xs (i + 1).toNatClampNeg)]) (rest := []) (ci := 10) ⟨hx, hb, hml, hown, hts⟩ (ct_period l E B2 _ (xs (i + 1).toNatClampNeg) τ hq) (cwV 1 hts g_law_period rfl rfl rfl (by decide +kernel) ⟨Nat.le_of_ble_eq_true rfl, Nat.le_of_ble_eq_true rfl⟩) ⟨rfl, rfl⟩ hK hN hZ hS hA hP hD rfl rfl rfl hl.1 rfl (Nat.le_of_ble_eq_true rfl) dL_law_620 ⟨Nat.le_of_ble_eq_true rfl, Nat.le_of_ble_eq_true rfl⟩ (fun r2 w H locs hw hP hD hS => ?_)
  obtain ⟨τ', hj, rfl⟩ := hw
  refine lv_pop hx hb dL_law_623 rfl ?_
  refine lv_goto (tgt := 1131) hx hb dL_law_624 (by decide) ?_
  exact K σ' τ' H locs hj.2 hP hD hS
theorem dL_law_627 : decode cL_law 627 = .ok (.aload_n 1, 1) := by decide +kernel
theorem dL_law_628 : decode cL_law 628 = .ok (.aload_n 0, 1) := by decide +kernel
theorem dL_law_629 : decode cL_law 629 = .ok (.iload_n 3, 1) := by decide +kernel
theorem dL_law_630 : decode cL_law 630 = .ok (.iconst 1, 1) := by decide +kernel
theorem dL_law_631 : decode cL_law 631 = .ok (.iadd, 1) := by decide +kernel
theorem dL_law_632 : decode cL_law 632 = .ok (.iaload, 1) := by decide +kernel
theorem dL_law_633 : decode cL_law 633 = .ok (.aload_n 0, 1) := by decide +kernel
theorem dL_law_634 : decode cL_law 634 = .ok (.iload_n 3, 1) := by decide +kernel
theorem dL_law_635 : decode cL_law 635 = .ok (.iconst 2, 1) := by decide +kernel
theorem dL_law_636 : decode cL_law 636 = .ok (.iadd, 1) := by decide +kernel
theorem dL_law_637 : decode cL_law 637 = .ok (.iaload, 1) := by decide +kernel
theorem dL_law_638 : decode cL_law 638 = .ok (.aload_n 0, 1) := by decide +kernel
theorem dL_law_639 : decode cL_law 639 = .ok (.iload_n 3, 1) := by decide +kernel
theorem dL_law_640 : decode cL_law 640 = .ok (.iconst 3, 1) := by decide +kernel
theorem dL_law_641 : decode cL_law 641 = .ok (.iadd, 1) := by decide +kernel
theorem dL_law_642 : decode cL_law 642 = .ok (.iaload, 1) := by decide +kernel
theorem dL_law_643 : decode cL_law 643 = .ok (.invokevirtual 62, 3) := by decide +kernel
theorem g_law_X9node : GoodIn lw_tbl (wsV RL 62 RX9 yX9_node w_X9node) := goodIn_app (gt_of (GW_of (by decide +kernel)) [640, 641, 642, 68] (by decide +kernel)) gt_X9node
theorem dL_law_646 : decode cL_law 646 = .ok (.pop, 1) := by decide +kernel
theorem dL_law_647 : decode cL_law 647 = .ok (.aload_n 2, 1) := by decide +kernel
theorem dL_law_648 : decode cL_law 648 = .ok (.aload_n 0, 1) := by decide +kernel
theorem dL_law_649 : decode cL_law 649 = .ok (.iload_n 3, 1) := by decide +kernel
theorem dL_law_650 : decode cL_law 650 = .ok (.iconst 1, 1) := by decide +kernel
theorem dL_law_651 : decode cL_law 651 = .ok (.iadd, 1) := by decide +kernel
theorem dL_law_652 : decode cL_law 652 = .ok (.iaload, 1) := by decide +kernel
theorem dL_law_653 : decode cL_law 653 = .ok (.aload_n 0, 1) := by decide +kernel
theorem dL_law_654 : decode cL_law 654 = .ok (.iload_n 3, 1) := by decide +kernel
theorem dL_law_655 : decode cL_law 655 = .ok (.iconst 2, 1) := by decide +kernel
theorem dL_law_656 : decode cL_law 656 = .ok (.iadd, 1) := by decide +kernel
theorem dL_law_657 : decode cL_law 657 = .ok (.iaload, 1) := by decide +kernel
theorem dL_law_658 : decode cL_law 658 = .ok (.aload_n 0, 1) := by decide +kernel
theorem dL_law_659 : decode cL_law 659 = .ok (.iload_n 3, 1) := by decide +kernel
theorem dL_law_660 : decode cL_law 660 = .ok (.iconst 3, 1) := by decide +kernel
theorem dL_law_661 : decode cL_law 661 = .ok (.iadd, 1) := by decide +kernel
theorem dL_law_662 : decode cL_law 662 = .ok (.iaload, 1) := by decide +kernel
theorem dL_law_663 : decode cL_law 663 = .ok (.invokevirtual 65, 3) := by decide +kernel
theorem g_law_node : GoodIn lw_tbl (wsV RL 65 RX10 yX10_node w_node) := goodIn_app (gt_of (GW_of (by decide +kernel)) [1250, 1251, 1252, 79] (by decide +kernel)) gt_node
theorem dL_law_666 : decode cL_law 666 = .ok (.pop, 1) := by decide +kernel
theorem dL_law_667 : decode cL_law 667 = .ok (.goto 464, 3) := by decide +kernel
set_option maxHeartbeats 4000000 in
set_option maxRecDepth 100000 in
theorem law_node {p : Program} {l : Launch} {e : Env} {s : State} {m : MethodId} {below : List Frame} {meth : Method} {c : Code} {b L : Nat} {xs : Nat → Int32} {E : gE} {A : Nat → Prop} {B B2 : Nat → Nat} (C0 : lw_At p s m meth c b L xs) (hL : L ≤ 3072) (hAe : A = fun q => s.heap.size ≤ q) (hK : va_K E.1 vwCl (tyE E) s) (hN : nw_ok s) (hZ : stk E A s s.heap) {H : Heap} {locs : List Loc} {ls : Array Slot} {σ τ : VS} {i : Int32} (J : Jt σ τ) (hi0 : 0 ≤ i.toInt) (hi6 : i.toInt + 6 ≤ (L : Int)) (hP : va_P E.1 vwCl (wc E B σ ++ wm E B2 τ) H) (hD : va_D A (wc E B σ ++ wm E B2 τ)) (hS : va_S A s.heap H locs) (hl : lv_has ls 4 [(3, .int i), (2, .ref (B2 0)), (1, .ref (B 0)), (0, .ref b)]) (K : ∀ (σ' τ' : VS) (H' : Heap) (locs' : List Loc), Jt σ' τ' → va_P E.1 vwCl (wc E B σ' ++ wm E B2 τ') H' → va_D A (wc E B σ' ++ wm E B2 τ') → va_S A s.heap H' locs' → W p l e room_1 s m #[Value.ref b] below meth c H' locs' 1000 1000000 (lw_Z below #[Value.ref b] s) (F0 m 1131 ls [])) : W p l e room_1 s m #[Value.ref b] below meth c H locs 1000 1000000 (lw_Z below #[Value.ref b] s) (F0 m 627 ls []) := by
  obtain ⟨hx, hb, hr, hml, hown, hts, hX, hbl, hlocks, hgv⟩ := id C0
  have hown : s.vm.findClass RL = some m.cls := hown
  have hA : ∀ q, s.heap.size ≤ q → A q := fun q h => by rw [hAe]; exact h
  have hbA : ¬ A b := by rw [hAe]; exact Nat.not_le.mpr hbl
  refine lv_aload_n hx hb dL_law_627 rfl (lv_at hl 2 rfl) ?_
  refine lv_aload_n hx hb dL_law_628 rfl (lv_at hl 3 rfl) ?_
  refine lv_iload_n hx hb dL_law_629 rfl (lv_at hl 0 rfl) ?_
  refine lv_iconst (v := 1) hx hb dL_law_630 (by decide) ?_
  refine lv_iadd hx hb dL_law_631 ?_
  refine va_sld hx hb hX hbl hbA hS (law_in hi0 hi6 hL (by decide)) dL_law_632 ?_
  refine lv_aload_n hx hb dL_law_633 rfl (lv_at hl 3 rfl) ?_
  refine lv_iload_n hx hb dL_law_634 rfl (lv_at hl 0 rfl) ?_
  refine lv_iconst (v := 2) hx hb dL_law_635 (by decide) ?_
  refine lv_iadd hx hb dL_law_636 ?_
  refine va_sld hx hb hX hbl hbA hS (law_in hi0 hi6 hL (by decide)) dL_law_637 ?_
  refine lv_aload_n hx hb dL_law_638 rfl (lv_at hl 3 rfl) ?_
  refine lv_iload_n hx hb dL_law_639 rfl (lv_at hl 0 rfl) ?_
  refine lv_iconst (v := 3) hx hb dL_law_640 (by decide) ?_
  refine lv_iadd hx hb dL_law_641 ?_
  refine va_sld hx hb hX hbl hbA hS (law_in hi0 hi6 hL (by decide)) dL_law_642 ?_
  refine lw_call (As := [.int (xs (i + 1).toNatClampNeg), .int (xs (i + 2).toNatClampNeg), .int (xs (i + 3).toNatClampNeg)]) (rest := []) (ci := 9) ⟨hx, hb, hml, hown, hts⟩ (ct_X9node l E B _ (xs (i + 1).toNatClampNeg) (xs (i + 2).toNatClampNeg) (xs (i + 3).toNatClampNeg) σ (qt_node J)) (cwV 3 hts g_law_X9node rfl rfl rfl (by decide +kernel) ⟨Nat.le_of_ble_eq_true rfl, Nat.le_of_ble_eq_true rfl⟩) ⟨rfl, rfl⟩ hK hN hZ hS hA hP hD rfl rfl rfl hl.1 rfl (Nat.le_of_ble_eq_true rfl) dL_law_643 ⟨Nat.le_of_ble_eq_true rfl, Nat.le_of_ble_eq_true rfl⟩ (fun r1 w H locs hw hP hD hS => ?_)
  obtain ⟨σ', hq, rfl⟩ := hw
  refine lv_pop hx hb dL_law_646 rfl ?_
  refine lv_aload_n hx hb dL_law_647 rfl (lv_at hl 1 rfl) ?_
  refine lv_aload_n hx hb dL_law_648 rfl (lv_at hl 3 rfl) ?_
  refine lv_iload_n hx hb dL_law_649 rfl (lv_at hl 0 rfl) ?_
  refine lv_iconst (v := 1) hx hb dL_law_650 (by decide) ?_
  refine lv_iadd hx hb dL_law_651 ?_
  refine va_sld hx hb hX hbl hbA hS (law_in hi0 hi6 hL (by decide)) dL_law_652 ?_
  refine lv_aload_n hx hb dL_law_653 rfl (lv_at hl 3 rfl) ?_
  refine lv_iload_n hx hb dL_law_654 rfl (lv_at hl 0 rfl) ?_
  refine lv_iconst (v := 2) hx hb dL_law_655 (by decide) ?_
  refine lv_iadd hx hb dL_law_656 ?_
  refine va_sld hx hb hX hbl hbA hS (law_in hi0 hi6 hL (by decide)) dL_law_657 ?_
  refine lv_aload_n hx hb dL_law_658 rfl (lv_at hl 3 rfl) ?_
  refine lv_iload_n hx hb dL_law_659 rfl (lv_at hl 0 rfl) ?_
  refine lv_iconst (v := 3) hx hb dL_law_660 (by decide) ?_
  refine lv_iadd hx hb dL_law_661 ?_
  refine va_sld hx hb hX hbl hbA hS (law_in hi0 hi6 hL (by decide)) dL_law_662 ?_
  refine lw_call (As := [.int (xs (i + 1).toNatClampNeg), .int (xs (i + 2).toNatClampNeg), .int (xs (i + 3).toNatClampNeg)]) (rest := []) (ci := 10) ⟨hx, hb, hml, hown, hts⟩ (ct_node l E B2 _ (xs (i + 1).toNatClampNeg) (xs (i + 2).toNatClampNeg) (xs (i + 3).toNatClampNeg) τ hq) (cwV 3 hts g_law_node rfl rfl rfl (by decide +kernel) ⟨Nat.le_of_ble_eq_true rfl, Nat.le_of_ble_eq_true rfl⟩) ⟨rfl, rfl⟩ hK hN hZ hS hA hP hD rfl rfl rfl hl.1 rfl (Nat.le_of_ble_eq_true rfl) dL_law_663 ⟨Nat.le_of_ble_eq_true rfl, Nat.le_of_ble_eq_true rfl⟩ (fun r2 w H locs hw hP hD hS => ?_)
  obtain ⟨τ', hj, rfl⟩ := hw
  refine lv_pop hx hb dL_law_666 rfl ?_
  refine lv_goto (tgt := 1131) hx hb dL_law_667 (by decide) ?_
  exact K σ' τ' H locs hj.2 hP hD hS
