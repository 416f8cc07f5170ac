def b_X9about_111 (Q : Int32 → VS → Prop) (k0 : Int32) (σ : VS) : Prop := Q k0 σ
def wp_X9about (Q : Int32 → VS → Prop) (p1 : Int32) (p2 : Int32) (σ : VS) : Prop := wp_X1has (fun (r1 : Int32) (σ2 : VS) => ((r1.toInt ≠ 0 → ((p2.toInt = 0 → (In p1 50 ∧ Q (rd σ2 11 p1) σ2)) ∧ (p2.toInt = 1 → (In p1 50 ∧ Q (rd σ2 12 p1) σ2)) ∧ (p2.toInt = 2 → (In p1 50 ∧ Q (rd σ2 14 p1) σ2)) ∧ (p2.toInt = 3 → wp_X1loadOf (fun (r3 : Int32) (σ4 : VS) => Q r3 σ4) p1 σ2) ∧ (p2.toInt = 4 → wp_X9refreshTiming (fun (σ6 : VS) => wp_X6isReached (fun (r7 : Int32) (σ8 : VS) => ((r7.toInt = 0 → b_X9about_111 Q 0 σ8) ∧ (r7.toInt ≠ 0 → b_X9about_111 Q 1 σ8))) p1 σ6) σ2) ∧ (p2.toInt = 5 → wp_X9refreshTiming (fun (σ10 : VS) => wp_X6whyOpen (fun (r11 : Int32) (σ12 : VS) => Q r11 σ12) p1 σ10) σ2) ∧ ((p2.toInt < 0 ∨ 5 < p2.toInt) → Q (-1) σ2))) ∧ (r1.toInt = 0 → Q (-1) σ2))) p1 σ
theorem dX9_about_0 : decode cX9_about 0 = .ok (.aload_n 0, 1) := by decide +kernel
theorem dX9_about_1 : decode cX9_about 1 = .ok (.getfield 12, 3) := by decide +kernel
theorem dX9_about_4 : decode cX9_about 4 = .ok (.iload_n 1, 1) := by decide +kernel
theorem dX9_about_5 : decode cX9_about 5 = .ok (.invokevirtual 103, 3) := by decide +kernel
theorem dX9_about_8 : decode cX9_about 8 = .ok (.ifCond .ne 5, 3) := by decide +kernel
theorem dX9_about_13 : decode cX9_about 13 = .ok (.iload_n 2, 1) := by decide +kernel
theorem dX9_about_14 : decode cX9_about 14 = .ok (.tableswitch 111 0 5 #[38, 48, 58, 68, 77, 98], 38) := by decide +kernel
theorem dX9_about_52 : decode cX9_about 52 = .ok (.aload_n 0, 1) := by decide +kernel
theorem dX9_about_53 : decode cX9_about 53 = .ok (.getfield 12, 3) := by decide +kernel
theorem dX9_about_56 : decode cX9_about 56 = .ok (.getfield 108, 3) := by decide +kernel
theorem dX9_about_59 : decode cX9_about 59 = .ok (.iload_n 1, 1) := by decide +kernel
theorem dX9_about_60 : decode cX9_about 60 = .ok (.iaload, 1) := by decide +kernel
theorem dX9_about_61 : decode cX9_about 61 = .ok (.ireturn, 1) := by decide +kernel
theorem dX9_about_62 : decode cX9_about 62 = .ok (.aload_n 0, 1) := by decide +kernel
theorem dX9_about_63 : decode cX9_about 63 = .ok (.getfield 12, 3) := by decide +kernel
theorem dX9_about_66 : decode cX9_about 66 = .ok (.getfield 200, 3) := by decide +kernel
theorem dX9_about_69 : decode cX9_about 69 = .ok (.iload_n 1, 1) := by decide +kernel
theorem dX9_about_70 : decode cX9_about 70 = .ok (.iaload, 1) := by decide +kernel
theorem dX9_about_71 : decode cX9_about 71 = .ok (.ireturn, 1) := by decide +kernel
theorem dX9_about_72 : decode cX9_about 72 = .ok (.aload_n 0, 1) := by decide +kernel
theorem dX9_about_73 : decode cX9_about 73 = .ok (.getfield 12, 3) := by decide +kernel
theorem dX9_about_76 : decode cX9_about 76 = .ok (.getfield 125, 3) := by decide +kernel
theorem dX9_about_79 : decode cX9_about 79 = .ok (.iload_n 1, 1) := by decide +kernel
theorem dX9_about_80 : decode cX9_about 80 = .ok (.iaload, 1) := by decide +kernel
theorem dX9_about_81 : decode cX9_about 81 = .ok (.ireturn, 1) := by decide +kernel
theorem dX9_about_82 : decode cX9_about 82 = .ok (.aload_n 0, 1) := by decide +kernel
theorem dX9_about_83 : decode cX9_about 83 = .ok (.getfield 12, 3) := by decide +kernel
theorem dX9_about_86 : decode cX9_about 86 = .ok (.iload_n 1, 1) := by decide +kernel
theorem dX9_about_87 : decode cX9_about 87 = .ok (.invokevirtual 203, 3) := by decide +kernel
theorem dX9_about_90 : decode cX9_about 90 = .ok (.ireturn, 1) := by decide +kernel
theorem dX9_about_91 : decode cX9_about 91 = .ok (.aload_n 0, 1) := by decide +kernel
theorem dX9_about_92 : decode cX9_about 92 = .ok (.invokevirtual 207, 3) := by decide +kernel
theorem dX9_about_95 : decode cX9_about 95 = .ok (.aload_n 0, 1) := by decide +kernel
theorem dX9_about_96 : decode cX9_about 96 = .ok (.getfield 49, 3) := by decide +kernel
theorem dX9_about_99 : decode cX9_about 99 = .ok (.iload_n 1, 1) := by decide +kernel
theorem dX9_about_100 : decode cX9_about 100 = .ok (.invokevirtual 210, 3) := by decide +kernel
theorem dX9_about_103 : decode cX9_about 103 = .ok (.ifCond .eq 7, 3) := by decide +kernel
theorem dX9_about_110 : decode cX9_about 110 = .ok (.iconst 0, 1) := by decide +kernel
theorem dX9_about_106 : decode cX9_about 106 = .ok (.iconst 1, 1) := by decide +kernel
theorem dX9_about_107 : decode cX9_about 107 = .ok (.goto 4, 3) := by decide +kernel
theorem dX9_about_112 : decode cX9_about 112 = .ok (.aload_n 0, 1) := by decide +kernel
theorem dX9_about_113 : decode cX9_about 113 = .ok (.invokevirtual 207, 3) := by decide +kernel
theorem dX9_about_116 : decode cX9_about 116 = .ok (.aload_n 0, 1) := by decide +kernel
theorem dX9_about_117 : decode cX9_about 117 = .ok (.getfield 49, 3) := by decide +kernel
theorem dX9_about_120 : decode cX9_about 120 = .ok (.iload_n 1, 1) := by decide +kernel
theorem dX9_about_121 : decode cX9_about 121 = .ok (.invokevirtual 213, 3) := by decide +kernel
theorem dX9_about_124 : decode cX9_about 124 = .ok (.ireturn, 1) := by decide +kernel
theorem dX9_about_125 : decode cX9_about 125 = .ok (.iconst (-1), 1) := by decide +kernel
theorem dX9_about_126 : decode cX9_about 126 = .ok (.ireturn, 1) := by decide +kernel
theorem dX9_about_11 : decode cX9_about 11 = .ok (.iconst (-1), 1) := by decide +kernel
theorem dX9_about_12 : decode cX9_about 12 = .ok (.ireturn, 1) := by decide +kernel
theorem dX9_about_111 : decode cX9_about 111 = .ok (.ireturn, 1) := by decide +kernel
def wo_X9about : List Cond := [.code yX9_about cX9_about 3 (some .int), .methodLink RX9 103 yX1_has, .instanceMethod yX1_has, .selects RX1 yX1_has yX1_has, .initialized RX1, .methodLink RX9 203 yX1_loadOf, .instanceMethod yX1_loadOf, .selects RX1 yX1_loadOf yX1_loadOf, .methodLink RX9 207 yX9_refreshTiming, .instanceMethod yX9_refreshTiming, .selects RX9 yX9_refreshTiming yX9_refreshTiming, .initialized RX9, .methodLink RX9 210 yX6_isReached, .instanceMethod yX6_isReached, .selects RX6 yX6_isReached yX6_isReached, .initialized RX6, .methodLink RX9 213 yX6_whyOpen, .instanceMethod yX6_whyOpen, .selects RX6 yX6_whyOpen yX6_whyOpen]
def wr_X9about : List Cond := (wfC ++ (w_X1has ++ (w_X1loadOf ++ (w_X9refreshTiming ++ (w_X6isReached ++ (w_X6whyOpen ++ ([])))))))
def w_X9about : List Cond := wo_X9about ++ wr_X9about
theorem wg_X9about : GW w_X9about := GW_app (GW_of (by decide +kernel)) (GW_app (wg_fC) (GW_app (wg_X1has) (GW_app (wg_X1loadOf) (GW_app (wg_X9refreshTiming) (GW_app (wg_X6isReached) (GW_app (wg_X6whyOpen) (GW_nil)))))))
theorem in_X9about : ∀ w ∈ wfC, w ∈ w_X9about := fun _ h => List.mem_append_right _ (List.mem_append_left _ h)
theorem g_X9about_X1has_103 : GoodIn w_X9about (wsV RX9 103 RX1 yX1_has w_X1has) := goodIn_app (gi_left (goodIn_of _ (by decide +kernel))) (fun w h => ⟨List.mem_append_right _ (List.mem_append_right _ (List.mem_append_left _ h)), wg_X1has w h⟩)
theorem g_X9about_X1loadOf_203 : GoodIn w_X9about (wsV RX9 203 RX1 yX1_loadOf w_X1loadOf) := goodIn_app (gi_left (goodIn_of _ (by decide +kernel))) (fun w h => ⟨List.mem_append_right _ (List.mem_append_right _ (List.mem_append_right _ (List.mem_append_left _ h))), wg_X1loadOf w h⟩)
theorem g_X9about_X9refreshTiming_207 : GoodIn w_X9about (wsV RX9 207 RX9 yX9_refreshTiming w_X9refreshTiming) := goodIn_app (gi_left (goodIn_of _ (by decide +kernel))) (fun w h => ⟨List.mem_append_right _ (List.mem_append_right _ (List.mem_append_right _ (List.mem_append_right _ (List.mem_append_left _ h)))), wg_X9refreshTiming w h⟩)
theorem g_X9about_X6isReached_210 : GoodIn w_X9about (wsV RX9 210 RX6 yX6_isReached w_X6isReached) := goodIn_app (gi_left (goodIn_of _ (by decide +kernel))) (fun w h => ⟨List.mem_append_right _ (List.mem_append_right _ (List.mem_append_right _ (List.mem_append_right _ (List.mem_append_right _ (List.mem_append_left _ h))))), wg_X6isReached w h⟩)
theorem g_X9about_X6whyOpen_213 : GoodIn w_X9about (wsV RX9 213 RX6 yX6_whyOpen w_X6whyOpen) := goodIn_app (gi_left (goodIn_of _ (by decide +kernel))) (fun w h => ⟨List.mem_append_right _ (List.mem_append_right _ (List.mem_append_right _ (List.mem_append_right _ (List.mem_append_right _ (List.mem_append_right _ (List.mem_append_left _ h)))))), wg_X6whyOpen w h⟩)
set_option maxHeartbeats 4000000 in
set_option maxRecDepth 100000 in
theorem ct_X9about (l : Launch) (E : gE) (B : Nat → Nat) (Q : Int32 → VS → Prop) (p1 : Int32) (p2 : Int32) (σ : VS) (hw : wp_X9about Q p1 p2 σ) : CtI l E yX9_about w_X9about (({ frames := 6, cells := 0, slots := 0, locals := 168 } : Room)) (wc E B σ) [.ref (B 0), .int p1, .int p2] (fun r w => ∃ σ' : VS, Q r σ' ∧ w = wc E B σ') := by
  refine VC_I (cc := cX9_about) (mL := 3) (rt := (some .int)) (lv0 := [(0, .ref (B 0)), (1, .int p1), (2, .int p2)]) rfl (by decide) rfl (Nat.le_of_ble_eq_true rfl) ?_
  intro p e s m below meth c A F
  replace F : Fx p s m _ meth c A E cX9_about 3 (some .int) RX9 w_X9about := F
  have J_111 : ∀ (k0 : Int32) (σ : VS), b_X9about_111 Q k0 σ → WB p l e (({ frames := 6, cells := 0, slots := 0, locals := 168 } : Room)) s m (#[.ref (B 0), .int p1, .int p2]) below meth c (MQ below (va_Qi (fun r w => ∃ σ' : VS, Q r σ' ∧ w = wc E B σ') (AftU E A) A) (#[.ref (B 0), .int p1, .int p2]) s (({ frames := 6, cells := 0, slots := 0, locals := 168 } : Room)).cells (({ frames := 6, cells := 0, slots := 0, locals := 168 } : Room)).slots A) A E (wc E B) 3 111 [] [.int k0] σ := by
    intro k0 σ hw
    unfold b_X9about_111 at hw
    exact R_iret (Qc := Q) F rfl dX9_about_111 hw
  unfold wp_X9about at hw
  refine R_aload_n F dX9_about_0 rfl 0 rfl ?_
  refine gc_RX9_12_0 F in_X9about dX9_about_1 ?_
  refine R_iload_n F dX9_about_4 rfl 1 rfl ?_
  refine R_callI (As := [.int p1]) (C := RX1) (q0 := 1) (ci := 1) (N := 13) (T := TX1) (fs := cf_1 B) F (ct_X1has l E B _ p1 _ hw) (cwV 1 F.2.2.2.2.2.2.2.2.2.2 g_X9about_X1has_103 rfl rfl rfl (by decide +kernel) ⟨Nat.le_of_ble_eq_true rfl, Nat.le_of_ble_eq_true rfl⟩) ⟨rfl, rfl⟩ rfl (fun _ => rfl) rfl rfl (Nat.le_of_ble_eq_true rfl) dX9_about_5 (fun r1 σ2 hw => ?_)
  refine R_if_ne (tgt := 13) F dX9_about_8 (by decide) (fun hc => ?_) (fun hc => ?_)
  · replace hw := hw.1 hc
    refine R_iload_n F dX9_about_13 rfl 2 rfl ?_
    by_cases hc : p2.toInt = 0
    · refine R_tin (off := 38) (tgt := 52) F dX9_about_14 (by omega) (by omega) (by rw [hc]; rfl) (by decide) ?_
      replace hw := hw.1 hc
      refine R_aload_n F dX9_about_52 rfl 0 rfl ?_
      refine gc_RX9_12_0 F in_X9about dX9_about_53 ?_
      refine gc_RX9_108_1 F in_X9about dX9_about_56 ?_
      refine R_iload_n F dX9_about_59 rfl 1 rfl ?_
      refine R_ldi F qc_11 dX9_about_60 hw.1 ?_
      replace hw := hw.2
      exact R_iret (Qc := Q) F rfl dX9_about_61 hw
    replace hw := hw.2
    by_cases hc : p2.toInt = 1
    · refine R_tin (off := 48) (tgt := 62) F dX9_about_14 (by omega) (by omega) (by rw [hc]; rfl) (by decide) ?_
      replace hw := hw.1 hc
      refine R_aload_n F dX9_about_62 rfl 0 rfl ?_
      refine gc_RX9_12_0 F in_X9about dX9_about_63 ?_
      refine gc_RX9_200_1 F in_X9about dX9_about_66 ?_
      refine R_iload_n F dX9_about_69 rfl 1 rfl ?_
      refine R_ldi F qc_12 dX9_about_70 hw.1 ?_
      replace hw := hw.2
      exact R_iret (Qc := Q) F rfl dX9_about_71 hw
    replace hw := hw.2
    by_cases hc : p2.toInt = 2
    · refine R_tin (off := 58) (tgt := 72) F dX9_about_14 (by omega) (by omega) (by rw [hc]; rfl) (by decide) ?_
      replace hw := hw.1 hc
      refine R_aload_n F dX9_about_72 rfl 0 rfl ?_
      refine gc_RX9_12_0 F in_X9about dX9_about_73 ?_
      refine gc_RX9_125_1 F in_X9about dX9_about_76 ?_
      refine R_iload_n F dX9_about_79 rfl 1 rfl ?_
      refine R_ldi F qc_14 dX9_about_80 hw.1 ?_
      replace hw := hw.2
      exact R_iret (Qc := Q) F rfl dX9_about_81 hw
    replace hw := hw.2
    by_cases hc : p2.toInt = 3
    · refine R_tin (off := 68) (tgt := 82) F dX9_about_14 (by omega) (by omega) (by rw [hc]; rfl) (by decide) ?_
      replace hw := hw.1 hc
      refine R_aload_n F dX9_about_82 rfl 0 rfl ?_
      refine gc_RX9_12_0 F in_X9about dX9_about_83 ?_
      refine R_iload_n F dX9_about_86 rfl 1 rfl ?_
      refine R_callI (As := [.int p1]) (C := RX1) (q0 := 1) (ci := 1) (N := 13) (T := TX1) (fs := cf_1 B) F (ct_X1loadOf l E B _ p1 _ hw) (cwV 1 F.2.2.2.2.2.2.2.2.2.2 g_X9about_X1loadOf_203 rfl rfl rfl (by decide +kernel) ⟨Nat.le_of_ble_eq_true rfl, Nat.le_of_ble_eq_true rfl⟩) ⟨rfl, rfl⟩ rfl (fun _ => rfl) rfl rfl (Nat.le_of_ble_eq_true rfl) dX9_about_87 (fun r3 σ4 hw => ?_)
      exact R_iret (Qc := Q) F rfl dX9_about_90 hw
    replace hw := hw.2
    by_cases hc : p2.toInt = 4
    · refine R_tin (off := 77) (tgt := 91) F dX9_about_14 (by omega) (by omega) (by rw [hc]; rfl) (by decide) ?_
      replace hw := hw.1 hc
      refine R_aload_n F dX9_about_91 rfl 0 rfl ?_
      refine R_callV (As := []) (C := RX9) (q0 := 0) (ci := 9) (N := 12) (T := TX9) (fs := cf_0 B) F (ct_X9refreshTiming l E B _ _ hw) (cwV 0 F.2.2.2.2.2.2.2.2.2.2 g_X9about_X9refreshTiming_207 rfl rfl rfl (by decide +kernel) ⟨Nat.le_of_ble_eq_true rfl, Nat.le_of_ble_eq_true rfl⟩) ⟨rfl, rfl⟩ rfl (fun _ => rfl) rfl rfl (Nat.le_of_ble_eq_true rfl) dX9_about_92 (fun σ6 hw => ?_)
      refine R_aload_n F dX9_about_95 rfl 0 rfl ?_
      refine gc_RX9_49_0 F in_X9about dX9_about_96 ?_
      refine R_iload_n F dX9_about_99 rfl 1 rfl ?_
      refine R_callI (As := [.int p1]) (C := RX6) (q0 := 6) (ci := 6) (N := 12) (T := TX6) (fs := cf_6 B) F (ct_X6isReached l E B _ p1 _ hw) (cwV 1 F.2.2.2.2.2.2.2.2.2.2 g_X9about_X6isReached_210 rfl rfl rfl (by decide +kernel) ⟨Nat.le_of_ble_eq_true rfl, Nat.le_of_ble_eq_true rfl⟩) ⟨rfl, rfl⟩ rfl (fun _ => rfl) rfl rfl (Nat.le_of_ble_eq_true rfl) dX9_about_100 (fun r7 σ8 hw => ?_)
      refine R_if_eq (tgt := 110) F dX9_about_103 (by decide) (fun hc => ?_) (fun hc => ?_)
      · replace hw := hw.1 hc
        refine R_iconst F 0 dX9_about_110 (by decide) ?_
        exact R_sub [] rfl (J_111 0 σ8 hw)
      · replace hw := hw.2 hc
        refine R_iconst F 1 dX9_about_106 (by decide) ?_
        refine R_goto (tgt := 111) F dX9_about_107 (by decide) ?_
        exact R_sub [] rfl (J_111 1 σ8 hw)
    replace hw := hw.2
    by_cases hc : p2.toInt = 5
    · refine R_tin (off := 98) (tgt := 112) F dX9_about_14 (by omega) (by omega) (by rw [hc]; rfl) (by decide) ?_
      replace hw := hw.1 hc
      refine R_aload_n F dX9_about_112 rfl 0 rfl ?_
      refine R_callV (As := []) (C := RX9) (q0 := 0) (ci := 9) (N := 12) (T := TX9) (fs := cf_0 B) F (ct_X9refreshTiming l E B _ _ hw) (cwV 0 F.2.2.2.2.2.2.2.2.2.2 g_X9about_X9refreshTiming_207 rfl rfl rfl (by decide +kernel) ⟨Nat.le_of_ble_eq_true rfl, Nat.le_of_ble_eq_true rfl⟩) ⟨rfl, rfl⟩ rfl (fun _ => rfl) rfl rfl (Nat.le_of_ble_eq_true rfl) dX9_about_113 (fun σ10 hw => ?_)
      refine R_aload_n F dX9_about_116 rfl 0 rfl ?_
      refine gc_RX9_49_0 F in_X9about dX9_about_117 ?_
      refine R_iload_n F dX9_about_120 rfl 1 rfl ?_
      refine R_callI (As := [.int p1]) (C := RX6) (q0 := 6) (ci := 6) (N := 12) (T := TX6) (fs := cf_6 B) F (ct_X6whyOpen l E B _ p1 _ hw) (cwV 1 F.2.2.2.2.2.2.2.2.2.2 g_X9about_X6whyOpen_213 rfl rfl rfl (by decide +kernel) ⟨Nat.le_of_ble_eq_true rfl, Nat.le_of_ble_eq_true rfl⟩) ⟨rfl, rfl⟩ rfl (fun _ => rfl) rfl rfl (Nat.le_of_ble_eq_true rfl) dX9_about_121 (fun r11 σ12 hw => ?_)
      exact R_iret (Qc := Q) F rfl dX9_about_124 hw
    replace hw := hw.2
    refine R_tout (tgt := 125) F dX9_about_14 (by omega) (by decide) ?_
    replace hw := hw (by omega)
    refine R_iconst F (-1) dX9_about_125 (by decide) ?_
    exact R_iret (Qc := Q) F rfl dX9_about_126 hw
  · replace hw := hw.2 hc
    refine R_iconst F (-1) dX9_about_11 (by decide) ?_
    exact R_iret (Qc := Q) F rfl dX9_about_12 hw
def b_X9takes_29 (Q : Int32 → VS → Prop) (k0 : Int32) (σ : VS) : Prop := Q k0 σ
def wp_X9takes (Q : Int32 → VS → Prop) (p1 : Int32) (p2 : Int32) (σ : VS) : Prop := wp_X1hasInput (fun (r1 : Int32) (σ2 : VS) => ((r1.toInt = 0 → b_X9takes_29 Q (-1) σ2) ∧ (r1.toInt ≠ 0 → (In ((p1 * 4) + p2) 200 ∧ b_X9takes_29 Q (rd σ2 16 ((p1 * 4) + p2)) σ2)))) p1 p2 σ
theorem dX9_takes_0 : decode cX9_takes 0 = .ok (.aload_n 0, 1) := by decide +kernel
theorem dX9_takes_1 : decode cX9_takes 1 = .ok (.getfield 12, 3) := by decide +kernel
theorem dX9_takes_4 : decode cX9_takes 4 = .ok (.iload_n 1, 1) := by decide +kernel
theorem dX9_takes_5 : decode cX9_takes 5 = .ok (.iload_n 2, 1) := by decide +kernel
theorem dX9_takes_6 : decode cX9_takes 6 = .ok (.invokevirtual 104, 3) := by decide +kernel
theorem dX9_takes_9 : decode cX9_takes 9 = .ok (.ifCond .eq 19, 3) := by decide +kernel
theorem dX9_takes_28 : decode cX9_takes 28 = .ok (.iconst (-1), 1) := by decide +kernel
theorem dX9_takes_12 : decode cX9_takes 12 = .ok (.aload_n 0, 1) := by decide +kernel
theorem dX9_takes_13 : decode cX9_takes 13 = .ok (.getfield 12, 3) := by decide +kernel
theorem dX9_takes_16 : decode cX9_takes 16 = .ok (.getfield 216, 3) := by decide +kernel
theorem dX9_takes_19 : decode cX9_takes 19 = .ok (.iload_n 1, 1) := by decide +kernel
theorem dX9_takes_20 : decode cX9_takes 20 = .ok (.iconst 4, 1) := by decide +kernel
theorem dX9_takes_21 : decode cX9_takes 21 = .ok (.imul, 1) := by decide +kernel
theorem dX9_takes_22 : decode cX9_takes 22 = .ok (.iload_n 2, 1) := by decide +kernel
theorem dX9_takes_23 : decode cX9_takes 23 = .ok (.iadd, 1) := by decide +kernel
theorem dX9_takes_24 : decode cX9_takes 24 = .ok (.iaload, 1) := by decide +kernel
theorem dX9_takes_25 : decode cX9_takes 25 = .ok (.goto 4, 3) := by decide +kernel
theorem dX9_takes_29 : decode cX9_takes 29 = .ok (.ireturn, 1) := by decide +kernel
def wo_X9takes : List Cond := [.code yX9_takes cX9_takes 3 (some .int), .methodLink RX9 104 yX1_hasInput, .instanceMethod yX1_hasInput, .selects RX1 yX1_hasInput yX1_hasInput, .initialized RX1]
def wr_X9takes : List Cond := (wfC ++ (w_X1hasInput ++ ([])))
def w_X9takes : List Cond := wo_X9takes ++ wr_X9takes
theorem wg_X9takes : GW w_X9takes := GW_app (GW_of (by decide +kernel)) (GW_app (wg_fC) (GW_app (wg_X1hasInput) (GW_nil)))
theorem in_X9takes : ∀ w ∈ wfC, w ∈ w_X9takes := fun _ h => List.mem_append_right _ (List.mem_append_left _ h)
theorem g_X9takes_X1hasInput_104 : GoodIn w_X9takes (wsV RX9 104 RX1 yX1_hasInput w_X1hasInput) := goodIn_app (gi_left (goodIn_of _ (by decide +kernel))) (fun w h => ⟨List.mem_append_right _ (List.mem_append_right _ (List.mem_append_left _ h)), wg_X1hasInput w h⟩)
set_option maxHeartbeats 4000000 in
set_option maxRecDepth 100000 in
theorem ct_X9takes (l : Launch) (E : gE) (B : Nat → Nat) (Q : Int32 → VS → Prop) (p1 : Int32) (p2 : Int32) (σ : VS) (hw : wp_X9takes Q p1 p2 σ) : CtI l E yX9_takes w_X9takes (({ frames := 2, cells := 0, slots := 0, locals := 43 } : Room)) (wc E B σ) [.ref (B 0), .int p1, .int p2] (fun r w => ∃ σ' : VS, Q r σ' ∧ w = wc E B σ') := by
  refine VC_I (cc := cX9_takes) (mL := 3) (rt := (some .int)) (lv0 := [(0, .ref (B 0)), (1, .int p1), (2, .int p2)]) rfl (by decide) rfl (Nat.le_of_ble_eq_true rfl) ?_
  intro p e s m below meth c A F
  replace F : Fx p s m _ meth c A E cX9_takes 3 (some .int) RX9 w_X9takes := F
  have J_29 : ∀ (k0 : Int32) (σ : VS), b_X9takes_29 Q k0 σ → WB p l e (({ frames := 2, cells := 0, slots := 0, locals := 43 } : Room)) s m (#[.ref (B 0), .int p1, .int p2]) below meth c (MQ below (va_Qi (fun r w => ∃ σ' : VS, Q r σ' ∧ w = wc E B σ') (AftU E A) A) (#[.ref (B 0), .int p1, .int p2]) s (({ frames := 2, cells := 0, slots := 0, locals := 43 } : Room)).cells (({ frames := 2, cells := 0, slots := 0, locals := 43 } : Room)).slots A) A E (wc E B) 3 29 [] [.int k0] σ := by
    intro k0 σ hw
    unfold b_X9takes_29 at hw
    exact R_iret (Qc := Q) F rfl dX9_takes_29 hw
  unfold wp_X9takes at hw
  refine R_aload_n F dX9_takes_0 rfl 0 rfl ?_
  refine gc_RX9_12_0 F in_X9takes dX9_takes_1 ?_
  refine R_iload_n F dX9_takes_4 rfl 1 rfl ?_
  refine R_iload_n F dX9_takes_5 rfl 2 rfl ?_
  refine R_callI (As := [.int p1, .int p2]) (C := RX1) (q0 := 1) (ci := 1) (N := 13) (T := TX1) (fs := cf_1 B) F (ct_X1hasInput l E B _ p1 p2 _ hw) (cwV 2 F.2.2.2.2.2.2.2.2.2.2 g_X9takes_X1hasInput_104 rfl rfl rfl (by decide +kernel) ⟨Nat.le_of_ble_eq_true rfl, Nat.le_of_ble_eq_true rfl⟩) ⟨rfl, rfl⟩ rfl (fun _ => rfl) rfl rfl (Nat.le_of_ble_eq_true rfl) dX9_takes_6 (fun r1 σ2 hw => ?_)
  refine R_if_eq (tgt := 28) F dX9_takes_9 (by decide) (fun hc => ?_) (fun hc => ?_)
  · replace hw := hw.1 hc
    refine R_iconst F (-1) dX9_takes_28 (by decide) ?_
    exact R_sub [] rfl (J_29 (-1) σ2 hw)
  · replace hw := hw.2 hc
    refine R_aload_n F dX9_takes_12 rfl 0 rfl ?_
    refine gc_RX9_12_0 F in_X9takes dX9_takes_13 ?_
    refine gc_RX9_216_1 F in_X9takes dX9_takes_16 ?_
    refine R_iload_n F dX9_takes_19 rfl 1 rfl ?_
    refine R_iconst F 4 dX9_takes_20 (by decide) ?_
    refine R_imul F dX9_takes_21 ?_
    refine R_iload_n F dX9_takes_22 rfl 2 rfl ?_
    refine R_iadd F dX9_takes_23 ?_
    refine R_ldi F qc_16 dX9_takes_24 hw.1 ?_
    replace hw := hw.2
    refine R_goto (tgt := 29) F dX9_takes_25 (by decide) ?_
    exact R_sub [] rfl (J_29 (rd σ2 16 ((p1 * 4) + p2)) σ2 hw)
def b_X9arrival_64 (Q : Int32 → VS → Prop) (σ : VS) : Prop := Q (-1000000) σ
def b_X9arrival_33 (Q : Int32 → VS → Prop) (σ : VS) : Prop := Q (-1000000) σ
def wp_X9arrival (Q : Int32 → VS → Prop) (p1 : Int32) (p2 : Int32) (p3 : Int32) (σ : VS) : Prop := wp_X1has (fun (r1 : Int32) (σ2 : VS) => ((r1.toInt = 0 → b_X9arrival_33 Q σ2) ∧ (r1.toInt ≠ 0 → (In p1 50 ∧ (((rd σ2 11 p1).toInt = 5 → b_X9arrival_33 Q σ2) ∧ ((rd σ2 11 p1).toInt ≠ 5 → wp_X9within (fun (r3 : Int32) (σ4 : VS) => ((r3.toInt ≠ 0 → wp_X9refreshTiming (fun (σ6 : VS) => (In p1 50 ∧ (((rd σ6 39 p1).toInt = 0 → b_X9arrival_64 Q σ6) ∧ ((rd σ6 39 p1).toInt ≠ 0 → (In p1 50 ∧ (((rd σ6 40 p1).toInt = 0 → (∀ x7 : Int32, x7 = ((p1 * 2) + p2) → ((p3.toInt = 0 → (In x7 100 ∧ Q (rd σ6 45 x7) σ6)) ∧ (p3.toInt = 1 → (In x7 100 ∧ Q (rd σ6 46 x7) σ6)) ∧ (p3.toInt = 2 → (In x7 100 ∧ Q (rd σ6 43 x7) σ6)) ∧ (p3.toInt = 3 → (In x7 100 ∧ Q (rd σ6 44 x7) σ6)) ∧ ((p3.toInt < 0 ∨ 3 < p3.toInt) → Q (-1000000) σ6)))) ∧ ((rd σ6 40 p1).toInt ≠ 0 → b_X9arrival_64 Q σ6))))))) σ4) ∧ (r3.toInt = 0 → b_X9arrival_33 Q σ4))) p2 0 1 σ2)))))) p1 σ
theorem dX9_arrival_0 : decode cX9_arrival 0 = .ok (.aload_n 0, 1) := by decide +kernel
theorem dX9_arrival_1 : decode cX9_arrival 1 = .ok (.getfield 12, 3) := by decide +kernel
theorem dX9_arrival_4 : decode cX9_arrival 4 = .ok (.iload_n 1, 1) := by decide +kernel
theorem dX9_arrival_5 : decode cX9_arrival 5 = .ok (.invokevirtual 103, 3) := by decide +kernel
theorem dX9_arrival_8 : decode cX9_arrival 8 = .ok (.ifCond .eq 25, 3) := by decide +kernel
theorem dX9_arrival_11 : decode cX9_arrival 11 = .ok (.aload_n 0, 1) := by decide +kernel
theorem dX9_arrival_12 : decode cX9_arrival 12 = .ok (.getfield 12, 3) := by decide +kernel
theorem dX9_arrival_15 : decode cX9_arrival 15 = .ok (.getfield 108, 3) := by decide +kernel
theorem dX9_arrival_18 : decode cX9_arrival 18 = .ok (.iload_n 1, 1) := by decide +kernel
theorem dX9_arrival_19 : decode cX9_arrival 19 = .ok (.iaload, 1) := by decide +kernel
theorem dX9_arrival_20 : decode cX9_arrival 20 = .ok (.iconst 5, 1) := by decide +kernel
theorem dX9_arrival_21 : decode cX9_arrival 21 = .ok (.if_icmp .eq 12, 3) := by decide +kernel
theorem dX9_arrival_24 : decode cX9_arrival 24 = .ok (.iload_n 2, 1) := by decide +kernel
theorem dX9_arrival_25 : decode cX9_arrival 25 = .ok (.iconst 0, 1) := by decide +kernel
theorem dX9_arrival_26 : decode cX9_arrival 26 = .ok (.iconst 1, 1) := by decide +kernel
theorem dX9_arrival_27 : decode cX9_arrival 27 = .ok (.invokestatic 88, 3) := by decide +kernel
theorem dX9_arrival_30 : decode cX9_arrival 30 = .ok (.ifCond .ne 6, 3) := by decide +kernel
theorem dX9_arrival_36 : decode cX9_arrival 36 = .ok (.aload_n 0, 1) := by decide +kernel
theorem dX9_arrival_37 : decode cX9_arrival 37 = .ok (.invokevirtual 207, 3) := by decide +kernel
theorem dX9_arrival_40 : decode cX9_arrival 40 = .ok (.aload_n 0, 1) := by decide +kernel
theorem dX9_arrival_41 : decode cX9_arrival 41 = .ok (.getfield 49, 3) := by decide +kernel
theorem dX9_arrival_44 : decode cX9_arrival 44 = .ok (.getfield 220, 3) := by decide +kernel
theorem dX9_arrival_47 : decode cX9_arrival 47 = .ok (.iload_n 1, 1) := by decide +kernel
theorem dX9_arrival_48 : decode cX9_arrival 48 = .ok (.baload, 1) := by decide +kernel
theorem dX9_arrival_49 : decode cX9_arrival 49 = .ok (.ifCond .eq 15, 3) := by decide +kernel
theorem dX9_arrival_52 : decode cX9_arrival 52 = .ok (.aload_n 0, 1) := by decide +kernel
theorem dX9_arrival_53 : decode cX9_arrival 53 = .ok (.getfield 49, 3) := by decide +kernel
theorem dX9_arrival_56 : decode cX9_arrival 56 = .ok (.getfield 224, 3) := by decide +kernel
theorem dX9_arrival_59 : decode cX9_arrival 59 = .ok (.iload_n 1, 1) := by decide +kernel
theorem dX9_arrival_60 : decode cX9_arrival 60 = .ok (.iaload, 1) := by decide +kernel
theorem dX9_arrival_61 : decode cX9_arrival 61 = .ok (.ifCond .eq 6, 3) := by decide +kernel
theorem dX9_arrival_67 : decode cX9_arrival 67 = .ok (.iload_n 1, 1) := by decide +kernel
theorem dX9_arrival_68 : decode cX9_arrival 68 = .ok (.iconst 2, 1) := by decide +kernel
theorem dX9_arrival_69 : decode cX9_arrival 69 = .ok (.imul, 1) := by decide +kernel
theorem dX9_arrival_70 : decode cX9_arrival 70 = .ok (.iload_n 2, 1) := by decide +kernel
theorem dX9_arrival_71 : decode cX9_arrival 71 = .ok (.iadd, 1) := by decide +kernel
theorem dX9_arrival_72 : decode cX9_arrival 72 = .ok (.istore 4, 2) := by decide +kernel
theorem dX9_arrival_74 : decode cX9_arrival 74 = .ok (.iload_n 3, 1) := by decide +kernel
theorem dX9_arrival_75 : decode cX9_arrival 75 = .ok (.tableswitch 73 0 3 #[29, 40, 51, 62], 29) := by decide +kernel
theorem dX9_arrival_104 : decode cX9_arrival 104 = .ok (.aload_n 0, 1) := by decide +kernel
theorem dX9_arrival_105 : decode cX9_arrival 105 = .ok (.getfield 49, 3) := by decide +kernel
theorem dX9_arrival_108 : decode cX9_arrival 108 = .ok (.getfield 227, 3) := by decide +kernel
theorem dX9_arrival_111 : decode cX9_arrival 111 = .ok (.iload 4, 2) := by decide +kernel
theorem dX9_arrival_113 : decode cX9_arrival 113 = .ok (.iaload, 1) := by decide +kernel
theorem dX9_arrival_114 : decode cX9_arrival 114 = .ok (.ireturn, 1) := by decide +kernel
theorem dX9_arrival_115 : decode cX9_arrival 115 = .ok (.aload_n 0, 1) := by decide +kernel
theorem dX9_arrival_116 : decode cX9_arrival 116 = .ok (.getfield 49, 3) := by decide +kernel
theorem dX9_arrival_119 : decode cX9_arrival 119 = .ok (.getfield 230, 3) := by decide +kernel
theorem dX9_arrival_122 : decode cX9_arrival 122 = .ok (.iload 4, 2) := by decide +kernel
theorem dX9_arrival_124 : decode cX9_arrival 124 = .ok (.iaload, 1) := by decide +kernel
theorem dX9_arrival_125 : decode cX9_arrival 125 = .ok (.ireturn, 1) := by decide +kernel
theorem dX9_arrival_126 : decode cX9_arrival 126 = .ok (.aload_n 0, 1) := by decide +kernel
theorem dX9_arrival_127 : decode cX9_arrival 127 = .ok (.getfield 49, 3) := by decide +kernel
theorem dX9_arrival_130 : decode cX9_arrival 130 = .ok (.getfield 233, 3) := by decide +kernel
theorem dX9_arrival_133 : decode cX9_arrival 133 = .ok (.iload 4, 2) := by decide +kernel
theorem dX9_arrival_135 : decode cX9_arrival 135 = .ok (.iaload, 1) := by decide +kernel
theorem dX9_arrival_136 : decode cX9_arrival 136 = .ok (.ireturn, 1) := by decide +kernel
theorem dX9_arrival_137 : decode cX9_arrival 137 = .ok (.aload_n 0, 1) := by decide +kernel
theorem dX9_arrival_138 : decode cX9_arrival 138 = .ok (.getfield 49, 3) := by decide +kernel
theorem dX9_arrival_141 : decode cX9_arrival 141 = .ok (.getfield 236, 3) := by decide +kernel
theorem dX9_arrival_144 : decode cX9_arrival 144 = .ok (.iload 4, 2) := by decide +kernel
theorem dX9_arrival_146 : decode cX9_arrival 146 = .ok (.iaload, 1) := by decide +kernel
theorem dX9_arrival_147 : decode cX9_arrival 147 = .ok (.ireturn, 1) := by decide +kernel
theorem dX9_arrival_148 : decode cX9_arrival 148 = .ok (.ldc 219, 2) := by decide +kernel
theorem dX9_arrival_150 : decode cX9_arrival 150 = .ok (.ireturn, 1) := by decide +kernel
theorem dX9_arrival_33 : decode cX9_arrival 33 = .ok (.ldc 219, 2) := by decide +kernel
theorem dX9_arrival_35 : decode cX9_arrival 35 = .ok (.ireturn, 1) := by decide +kernel
theorem dX9_arrival_64 : decode cX9_arrival 64 = .ok (.ldc 219, 2) := by decide +kernel
theorem dX9_arrival_66 : decode cX9_arrival 66 = .ok (.ireturn, 1) := by decide +kernel
def wo_X9arrival : List Cond := [.code yX9_arrival cX9_arrival 5 (some .int), .methodLink RX9 103 yX1_has, .instanceMethod yX1_has, .selects RX1 yX1_has yX1_has, .initialized RX1, .methodLink RX9 88 yX9_within, .static yX9_within, .initialized RX9, .methodLink RX9 207 yX9_refreshTiming, .instanceMethod yX9_refreshTiming, .selects RX9 yX9_refreshTiming yX9_refreshTiming, .constant RX9 219 (-1000000)]
def wr_X9arrival : List Cond := (wfC ++ (w_X1has ++ (w_X9within ++ (w_X9refreshTiming ++ ([])))))
def w_X9arrival : List Cond := wo_X9arrival ++ wr_X9arrival
theorem wg_X9arrival : GW w_X9arrival := GW_app (GW_of (by decide +kernel)) (GW_app (wg_fC) (GW_app (wg_X1has) (GW_app (wg_X9within) (GW_app (wg_X9refreshTiming) (GW_nil)))))
theorem in_X9arrival : ∀ w ∈ wfC, w ∈ w_X9arrival := fun _ h => List.mem_append_right _ (List.mem_append_left _ h)
theorem g_X9arrival_X1has_103 : GoodIn w_X9arrival (wsV RX9 103 RX1 yX1_has w_X1has) := goodIn_app (gi_left (goodIn_of _ (by decide +kernel))) (fun w h => ⟨List.mem_append_right _ (List.mem_append_right _ (List.mem_append_left _ h)), wg_X1has w h⟩)
theorem g_X9arrival_X9within_88 : GoodIn w_X9arrival (va_wsS RX9 88 yX9_within w_X9within) := goodIn_app (gi_left (goodIn_of _ (by decide +kernel))) (fun w h => ⟨List.mem_append_right _ (List.mem_append_right _ (List.mem_append_right _ (List.mem_append_left _ h))), wg_X9within w h⟩)
theorem g_X9arrival_X9refreshTiming_207 : GoodIn w_X9arrival (wsV RX9 207 RX9 yX9_refreshTiming w_X9refreshTiming) := goodIn_app (gi_left (goodIn_of _ (by decide +kernel))) (fun w h => ⟨List.mem_append_right _ (List.mem_append_right _ (List.mem_append_right _ (List.mem_append_right _ (List.mem_append_left _ h)))), wg_X9refreshTiming w h⟩)
set_option maxHeartbeats 4000000 in
set_option maxRecDepth 100000 in
theorem ct_X9arrival (l : Launch) (E : gE) (B : Nat → Nat) (Q : Int32 → VS → Prop) (p1 : Int32) (p2 : Int32) (p3 : Int32) (σ : VS) (hw : wp_X9arrival Q p1 p2 p3 σ) : CtI l E yX9_arrival w_X9arrival (({ frames := 6, cells := 0, slots := 0, locals := 168 } : Room)) (wc E B σ) [.ref (B 0), .int p1, .int p2, .int p3] (fun r w => ∃ σ' : VS, Q r σ' ∧ w = wc E B σ') := by
  refine VC_I (cc := cX9_arrival) (mL := 5) (rt := (some .int)) (lv0 := [(0, .ref (B 0)), (1, .int p1), (2, .int p2), (3, .int p3)]) rfl (by decide) rfl (Nat.le_of_ble_eq_true rfl) ?_
  intro p e s m below meth c A F
  replace F : Fx p s m _ meth c A E cX9_arrival 5 (some .int) RX9 w_X9arrival := F
  have J_64 : ∀ (σ : VS), b_X9arrival_64 Q σ → WB p l e (({ frames := 6, cells := 0, slots := 0, locals := 168 } : Room)) s m (#[.ref (B 0), .int p1, .int p2, .int p3]) below meth c (MQ below (va_Qi (fun r w => ∃ σ' : VS, Q r σ' ∧ w = wc E B σ') (AftU E A) A) (#[.ref (B 0), .int p1, .int p2, .int p3]) s (({ frames := 6, cells := 0, slots := 0, locals := 168 } : Room)).cells (({ frames := 6, cells := 0, slots := 0, locals := 168 } : Room)).slots A) A E (wc E B) 5 64 [] [] σ := by
    intro σ hw
    unfold b_X9arrival_64 at hw
    refine R_ldc F (-1000000) (List.mem_append_left _ (show Cond.constant RX9 219 (-1000000) ∈ wo_X9arrival by decide +kernel)) dX9_arrival_64 ?_
    exact R_iret (Qc := Q) F rfl dX9_arrival_66 hw
  have J_33 : ∀ (σ : VS), b_X9arrival_33 Q σ → WB p l e (({ frames := 6, cells := 0, slots := 0, locals := 168 } : Room)) s m (#[.ref (B 0), .int p1, .int p2, .int p3]) below meth c (MQ below (va_Qi (fun r w => ∃ σ' : VS, Q r σ' ∧ w = wc E B σ') (AftU E A) A) (#[.ref (B 0), .int p1, .int p2, .int p3]) s (({ frames := 6, cells := 0, slots := 0, locals := 168 } : Room)).cells (({ frames := 6, cells := 0, slots := 0, locals := 168 } : Room)).slots A) A E (wc E B) 5 33 [] [] σ := by
    intro σ hw
    unfold b_X9arrival_33 at hw
    refine R_ldc F (-1000000) (List.mem_append_left _ (show Cond.constant RX9 219 (-1000000) ∈ wo_X9arrival by decide +kernel)) dX9_arrival_33 ?_
    exact R_iret (Qc := Q) F rfl dX9_arrival_35 hw
  unfold wp_X9arrival at hw
  refine R_aload_n F dX9_arrival_0 rfl 0 rfl ?_
  refine gc_RX9_12_0 F in_X9arrival dX9_arrival_1 ?_
  refine R_iload_n F dX9_arrival_4 rfl 1 rfl ?_
  refine R_callI (As := [.int p1]) (C := RX1) (q0 := 1) (ci := 1) (N := 13) (T := TX1) (fs := cf_1 B) F (ct_X1has l E B _ p1 _ hw) (cwV 1 F.2.2.2.2.2.2.2.2.2.2 g_X9arrival_X1has_103 rfl rfl rfl (by decide +kernel) ⟨Nat.le_of_ble_eq_true rfl, Nat.le_of_ble_eq_true rfl⟩) ⟨rfl, rfl⟩ rfl (fun _ => rfl) rfl rfl (Nat.le_of_ble_eq_true rfl) dX9_arrival_5 (fun r1 σ2 hw => ?_)
  refine R_if_eq (tgt := 33) F dX9_arrival_8 (by decide) (fun hc => ?_) (fun hc => ?_)
  · replace hw := hw.1 hc
    exact R_sub [] rfl (J_33 σ2 hw)
  · replace hw := hw.2 hc
    refine R_aload_n F dX9_arrival_11 rfl 0 rfl ?_
    refine gc_RX9_12_0 F in_X9arrival dX9_arrival_12 ?_
    refine gc_RX9_108_1 F in_X9arrival dX9_arrival_15 ?_
    refine R_iload_n F dX9_arrival_18 rfl 1 rfl ?_
    refine R_ldi F qc_11 dX9_arrival_19 hw.1 ?_
    replace hw := hw.2
    refine R_iconst F 5 dX9_arrival_20 (by decide) ?_
    refine R_icmp_eq (tgt := 33) F dX9_arrival_21 (by decide) (fun hc => ?_) (fun hc => ?_)
    · replace hw := hw.1 hc
      exact R_sub [] rfl (J_33 σ2 hw)
    · replace hw := hw.2 hc
      refine R_iload_n F dX9_arrival_24 rfl 2 rfl ?_
      refine R_iconst F 0 dX9_arrival_25 (by decide) ?_
      refine R_iconst F 1 dX9_arrival_26 (by decide) ?_
      refine R_callIS (As := [.int p2, .int 0, .int 1]) (C := RX10) (q0 := 0) (ci := 10) (b := 0) (N := 69) (T := TX10) (fs := fun _ => []) F (ct_X9within l E B _ p2 0 1 _ hw) (va_cwS 3 F.2.2.2.2.2.2.2.2.2.2 g_X9arrival_X9within_88 rfl rfl rfl (by decide +kernel) ⟨Nat.le_of_ble_eq_true rfl, Nat.le_of_ble_eq_true rfl⟩) ⟨rfl, rfl⟩ rfl rfl (Nat.le_of_ble_eq_true rfl) dX9_arrival_27 (fun r3 σ4 hw => ?_)
      refine R_if_ne (tgt := 36) F dX9_arrival_30 (by decide) (fun hc => ?_) (fun hc => ?_)
      · replace hw := hw.1 hc
        refine R_aload_n F dX9_arrival_36 rfl 0 rfl ?_
        refine R_callV (As := []) (C := RX9) (q0 := 0) (ci := 9) (N := 12) (T := TX9) (fs := cf_0 B) F (ct_X9refreshTiming l E B _ _ hw) (cwV 0 F.2.2.2.2.2.2.2.2.2.2 g_X9arrival_X9refreshTiming_207 rfl rfl rfl (by decide +kernel) ⟨Nat.le_of_ble_eq_true rfl, Nat.le_of_ble_eq_true rfl⟩) ⟨rfl, rfl⟩ rfl (fun _ => rfl) rfl rfl (Nat.le_of_ble_eq_true rfl) dX9_arrival_37 (fun σ6 hw => ?_)
        refine R_aload_n F dX9_arrival_40 rfl 0 rfl ?_
        refine gc_RX9_49_0 F in_X9arrival dX9_arrival_41 ?_
        refine gc_RX9_220_6 F in_X9arrival dX9_arrival_44 ?_
        refine R_iload_n F dX9_arrival_47 rfl 1 rfl ?_
        refine R_ldz F qc_39 dX9_arrival_48 hw.1 ?_
        replace hw := hw.2
        refine R_if_eq (tgt := 64) F dX9_arrival_49 (by decide) (fun hc => ?_) (fun hc => ?_)
        · replace hw := hw.1 hc
          exact R_sub [] rfl (J_64 σ6 hw)
        · replace hw := hw.2 hc
          refine R_aload_n F dX9_arrival_52 rfl 0 rfl ?_
          refine gc_RX9_49_0 F in_X9arrival dX9_arrival_53 ?_
          refine gc_RX9_224_6 F in_X9arrival dX9_arrival_56 ?_
          refine R_iload_n F dX9_arrival_59 rfl 1 rfl ?_
          refine R_ldi F qc_40 dX9_arrival_60 hw.1 ?_
          replace hw := hw.2
          refine R_if_eq (tgt := 67) F dX9_arrival_61 (by decide) (fun hc => ?_) (fun hc => ?_)
          · replace hw := hw.1 hc
            refine R_iload_n F dX9_arrival_67 rfl 1 rfl ?_
            refine R_iconst F 2 dX9_arrival_68 (by decide) ?_
            refine R_imul F dX9_arrival_69 ?_
            refine R_iload_n F dX9_arrival_70 rfl 2 rfl ?_
            refine R_iadd F dX9_arrival_71 ?_
            refine R_topi (fun x7 ex7 => ?_)
            replace hw := hw x7 ex7
            refine R_istore (lv' := [(4, .int x7), (0, .ref (B 0)), (1, .int p1), (2, .int p2), (3, .int p3)]) F dX9_arrival_72 (by decide) rfl ?_
            refine R_iload_n F dX9_arrival_74 rfl 4 rfl ?_
            by_cases hc : p3.toInt = 0
            · refine R_tin (off := 29) (tgt := 104) F dX9_arrival_75 (by omega) (by omega) (by rw [hc]; rfl) (by decide) ?_
              replace hw := hw.1 hc
              refine R_aload_n F dX9_arrival_104 rfl 1 rfl ?_
              refine gc_RX9_49_0 F in_X9arrival dX9_arrival_105 ?_
              refine gc_RX9_227_6 F in_X9arrival dX9_arrival_108 ?_
              refine R_iload F dX9_arrival_111 0 rfl ?_
              refine R_ldi F qc_45 dX9_arrival_113 hw.1 ?_
              replace hw := hw.2
              exact R_iret (Qc := Q) F rfl dX9_arrival_114 hw
            replace hw := hw.2
            by_cases hc : p3.toInt = 1
            · refine R_tin (off := 40) (tgt := 115) F dX9_arrival_75 (by omega) (by omega) (by rw [hc]; rfl) (by decide) ?_
              replace hw := hw.1 hc
              refine R_aload_n F dX9_arrival_115 rfl 1 rfl ?_
              refine gc_RX9_49_0 F in_X9arrival dX9_arrival_116 ?_
              refine gc_RX9_230_6 F in_X9arrival dX9_arrival_119 ?_
              refine R_iload F dX9_arrival_122 0 rfl ?_
              refine R_ldi F qc_46 dX9_arrival_124 hw.1 ?_
              replace hw := hw.2
              exact R_iret (Qc := Q) F rfl dX9_arrival_125 hw
            replace hw := hw.2
            by_cases hc : p3.toInt = 2
            · refine R_tin (off := 51) (tgt := 126) F dX9_arrival_75 (by omega) (by omega) (by rw [hc]; rfl) (by decide) ?_
              replace hw := hw.1 hc
              refine R_aload_n F dX9_arrival_126 rfl 1 rfl ?_
              refine gc_RX9_49_0 F in_X9arrival dX9_arrival_127 ?_
              refine gc_RX9_233_6 F in_X9arrival dX9_arrival_130 ?_
              refine R_iload F dX9_arrival_133 0 rfl ?_
              refine R_ldi F qc_43 dX9_arrival_135 hw.1 ?_
              replace hw := hw.2
              exact R_iret (Qc := Q) F rfl dX9_arrival_136 hw
            replace hw := hw.2
            by_cases hc : p3.toInt = 3
            · refine R_tin (off := 62) (tgt := 137) F dX9_arrival_75 (by omega) (by omega) (by rw [hc]; rfl) (by decide) ?_
              replace hw := hw.1 hc
              refine R_aload_n F dX9_arrival_137 rfl 1 rfl ?_
              refine gc_RX9_49_0 F in_X9arrival dX9_arrival_138 ?_
              refine gc_RX9_236_6 F in_X9arrival dX9_arrival_141 ?_
              refine R_iload F dX9_arrival_144 0 rfl ?_
              refine R_ldi F qc_44 dX9_arrival_146 hw.1 ?_
              replace hw := hw.2
              exact R_iret (Qc := Q) F rfl dX9_arrival_147 hw
            replace hw := hw.2
            refine R_tout (tgt := 148) F dX9_arrival_75 (by omega) (by decide) ?_
            replace hw := hw (by omega)
            refine R_ldc F (-1000000) (List.mem_append_left _ (show Cond.constant RX9 219 (-1000000) ∈ wo_X9arrival by decide +kernel)) dX9_arrival_148 ?_
            exact R_iret (Qc := Q) F rfl dX9_arrival_150 hw
          · replace hw := hw.2 hc
            exact R_sub [] rfl (J_64 σ6 hw)
      · replace hw := hw.2 hc
        exact R_sub [] rfl (J_33 σ4 hw)
def b_X9told_63 (Q : Int32 → VS → Prop) (k0 : Int32) (σ : VS) : Prop := Q k0 σ
def wp_X9told (Q : Int32 → VS → Prop) (p1 : Int32) (σ : VS) : Prop := wp_X1has (fun (r1 : Int32) (σ2 : VS) => ((r1.toInt ≠ 0 → wp_X1isTarget (fun (r3 : Int32) (σ4 : VS) => ((r3.toInt ≠ 0 → wp_X9refreshRace (fun (σ6 : VS) => wp_X6isInputOpen (fun (r7 : Int32) (σ8 : VS) => ((r7.toInt = 0 → (In p1 50 ∧ (((rd σ8 50 p1).toInt ≤ 0 → b_X9told_63 Q 0 σ8) ∧ (0 < (rd σ8 50 p1).toInt → b_X9told_63 Q 1 σ8)))) ∧ (r7.toInt ≠ 0 → Q 2 σ8))) (p1 * 4) σ6) σ4) ∧ (r3.toInt = 0 → Q (-2) σ4))) p1 σ2) ∧ (r1.toInt = 0 → Q (-1) σ2))) p1 σ
theorem dX9_told_0 : decode cX9_told 0 = .ok (.aload_n 0, 1) := by decide +kernel
theorem dX9_told_1 : decode cX9_told 1 = .ok (.getfield 12, 3) := by decide +kernel
theorem dX9_told_4 : decode cX9_told 4 = .ok (.iload_n 1, 1) := by decide +kernel
theorem dX9_told_5 : decode cX9_told 5 = .ok (.invokevirtual 103, 3) := by decide +kernel
theorem dX9_told_8 : decode cX9_told 8 = .ok (.ifCond .ne 5, 3) := by decide +kernel
theorem dX9_told_13 : decode cX9_told 13 = .ok (.aload_n 0, 1) := by decide +kernel
theorem dX9_told_14 : decode cX9_told 14 = .ok (.getfield 12, 3) := by decide +kernel
theorem dX9_told_17 : decode cX9_told 17 = .ok (.iload_n 1, 1) := by decide +kernel
theorem dX9_told_18 : decode cX9_told 18 = .ok (.invokevirtual 141, 3) := by decide +kernel
theorem dX9_told_21 : decode cX9_told 21 = .ok (.ifCond .ne 6, 3) := by decide +kernel
theorem dX9_told_27 : decode cX9_told 27 = .ok (.aload_n 0, 1) := by decide +kernel
theorem dX9_told_28 : decode cX9_told 28 = .ok (.invokevirtual 239, 3) := by decide +kernel
theorem dX9_told_31 : decode cX9_told 31 = .ok (.aload_n 0, 1) := by decide +kernel
theorem dX9_told_32 : decode cX9_told 32 = .ok (.getfield 49, 3) := by decide +kernel
theorem dX9_told_35 : decode cX9_told 35 = .ok (.iload_n 1, 1) := by decide +kernel
theorem dX9_told_36 : decode cX9_told 36 = .ok (.iconst 4, 1) := by decide +kernel
theorem dX9_told_37 : decode cX9_told 37 = .ok (.imul, 1) := by decide +kernel
theorem dX9_told_38 : decode cX9_told 38 = .ok (.invokevirtual 242, 3) := by decide +kernel
theorem dX9_told_41 : decode cX9_told 41 = .ok (.ifCond .eq 5, 3) := by decide +kernel
theorem dX9_told_46 : decode cX9_told 46 = .ok (.aload_n 0, 1) := by decide +kernel
theorem dX9_told_47 : decode cX9_told 47 = .ok (.getfield 58, 3) := by decide +kernel
theorem dX9_told_50 : decode cX9_told 50 = .ok (.getfield 245, 3) := by decide +kernel
theorem dX9_told_53 : decode cX9_told 53 = .ok (.iload_n 1, 1) := by decide +kernel
theorem dX9_told_54 : decode cX9_told 54 = .ok (.iaload, 1) := by decide +kernel
theorem dX9_told_55 : decode cX9_told 55 = .ok (.ifCond .le 7, 3) := by decide +kernel
theorem dX9_told_62 : decode cX9_told 62 = .ok (.iconst 0, 1) := by decide +kernel
theorem dX9_told_58 : decode cX9_told 58 = .ok (.iconst 1, 1) := by decide +kernel
theorem dX9_told_59 : decode cX9_told 59 = .ok (.goto 4, 3) := by decide +kernel
theorem dX9_told_44 : decode cX9_told 44 = .ok (.iconst 2, 1) := by decide +kernel
theorem dX9_told_45 : decode cX9_told 45 = .ok (.ireturn, 1) := by decide +kernel
theorem dX9_told_24 : decode cX9_told 24 = .ok (.bipush (-2), 2) := by decide +kernel
theorem dX9_told_26 : decode cX9_told 26 = .ok (.ireturn, 1) := by decide +kernel
theorem dX9_told_11 : decode cX9_told 11 = .ok (.iconst (-1), 1) := by decide +kernel
theorem dX9_told_12 : decode cX9_told 12 = .ok (.ireturn, 1) := by decide +kernel
theorem dX9_told_63 : decode cX9_told 63 = .ok (.ireturn, 1) := by decide +kernel
def wo_X9told : List Cond := [.code yX9_told cX9_told 2 (some .int), .methodLink RX9 103 yX1_has, .instanceMethod yX1_has, .selects RX1 yX1_has yX1_has, .initialized RX1, .methodLink RX9 141 yX1_isTarget, .instanceMethod yX1_isTarget, .selects RX1 yX1_isTarget yX1_isTarget, .methodLink RX9 239 yX9_refreshRace, .instanceMethod yX9_refreshRace, .selects RX9 yX9_refreshRace yX9_refreshRace, .initialized RX9, .methodLink RX9 242 yX6_isInputOpen, .instanceMethod yX6_isInputOpen, .selects RX6 yX6_isInputOpen yX6_isInputOpen, .initialized RX6]
def wr_X9told : List Cond := (wfC ++ (w_X1has ++ (w_X1isTarget ++ (w_X9refreshRace ++ (w_X6isInputOpen ++ ([]))))))
def w_X9told : List Cond := wo_X9told ++ wr_X9told
theorem wg_X9told : GW w_X9told := GW_app (GW_of (by decide +kernel)) (GW_app (wg_fC) (GW_app (wg_X1has) (GW_app (wg_X1isTarget) (GW_app (wg_X9refreshRace) (GW_app (wg_X6isInputOpen) (GW_nil))))))
theorem in_X9told : ∀ w ∈ wfC, w ∈ w_X9told := fun _ h => List.mem_append_right _ (List.mem_append_left _ h)
theorem g_X9told_X1has_103 : GoodIn w_X9told (wsV RX9 103 RX1 yX1_has w_X1has) := goodIn_app (gi_left (goodIn_of _ (by decide +kernel))) (fun w h => ⟨List.mem_append_right _ (List.mem_append_right _ (List.mem_append_left _ h)), wg_X1has w h⟩)
theorem g_X9told_X1isTarget_141 : GoodIn w_X9told (wsV RX9 141 RX1 yX1_isTarget w_X1isTarget) := goodIn_app (gi_left (goodIn_of _ (by decide +kernel))) (fun w h => ⟨List.mem_append_right _ (List.mem_append_right _ (List.mem_append_right _ (List.mem_append_left _ h))), wg_X1isTarget w h⟩)
theorem g_X9told_X9refreshRace_239 : GoodIn w_X9told (wsV RX9 239 RX9 yX9_refreshRace w_X9refreshRace) := goodIn_app (gi_left (goodIn_of _ (by decide +kernel))) (fun w h => ⟨List.mem_append_right _ (List.mem_append_right _ (List.mem_append_right _ (List.mem_append_right _ (List.mem_append_left _ h)))), wg_X9refreshRace w h⟩)
theorem g_X9told_X6isInputOpen_242 : GoodIn w_X9told (wsV RX9 242 RX6 yX6_isInputOpen w_X6isInputOpen) := goodIn_app (gi_left (goodIn_of _ (by decide +kernel))) (fun w h => ⟨List.mem_append_right _ (List.mem_append_right _ (List.mem_append_right _ (List.mem_append_right _ (List.mem_append_right _ (List.mem_append_left _ h))))), wg_X6isInputOpen w h⟩)
set_option maxHeartbeats 4000000 in
set_option maxRecDepth 100000 in
theorem ct_X9told (l : Launch) (E : gE) (B : Nat → Nat) (Q : Int32 → VS → Prop) (p1 : Int32) (σ : VS) (hw : wp_X9told Q p1 σ) : CtI l E yX9_told w_X9told (({ frames := 6, cells := 0, slots := 0, locals := 168 } : Room)) (wc E B σ) [.ref (B 0), .int p1] (fun r w => ∃ σ' : VS, Q r σ' ∧ w = wc E B σ') := by
  refine VC_I (cc := cX9_told) (mL := 2) (rt := (some .int)) (lv0 := [(0, .ref (B 0)), (1, .int p1)]) rfl (by decide) rfl (Nat.le_of_ble_eq_true rfl) ?_
  intro p e s m below meth c A F
  replace F : Fx p s m _ meth c A E cX9_told 2 (some .int) RX9 w_X9told := F
  have J_63 : ∀ (k0 : Int32) (σ : VS), b_X9told_63 Q k0 σ → WB p l e (({ frames := 6, cells := 0, slots := 0, locals := 168 } : Room)) s m (#[.ref (B 0), .int p1]) below meth c (MQ below (va_Qi (fun r w => ∃ σ' : VS, Q r σ' ∧ w = wc E B σ') (AftU E A) A) (#[.ref (B 0), .int p1]) s (({ frames := 6, cells := 0, slots := 0, locals := 168 } : Room)).cells (({ frames := 6, cells := 0, slots := 0, locals := 168 } : Room)).slots A) A E (wc E B) 2 63 [] [.int k0] σ := by
    intro k0 σ hw
    unfold b_X9told_63 at hw
    exact R_iret (Qc := Q) F rfl dX9_told_63 hw
  unfold wp_X9told at hw
  refine R_aload_n F dX9_told_0 rfl 0 rfl ?_
  refine gc_RX9_12_0 F in_X9told dX9_told_1 ?_
  refine R_iload_n F dX9_told_4 rfl 1 rfl ?_
  refine R_callI (As := [.int p1]) (C := RX1) (q0 := 1) (ci := 1) (N := 13) (T := TX1) (fs := cf_1 B) F (ct_X1has l E B _ p1 _ hw) (cwV 1 F.2.2.2.2.2.2.2.2.2.2 g_X9told_X1has_103 rfl rfl rfl (by decide +kernel) ⟨Nat.le_of_ble_eq_true rfl, Nat.le_of_ble_eq_true rfl⟩) ⟨rfl, rfl⟩ rfl (fun _ => rfl) rfl rfl (Nat.le_of_ble_eq_true rfl) dX9_told_5 (fun r1 σ2 hw => ?_)
  refine R_if_ne (tgt := 13) F dX9_told_8 (by decide) (fun hc => ?_) (fun hc => ?_)
  · replace hw := hw.1 hc
    refine R_aload_n F dX9_told_13 rfl 0 rfl ?_
    refine gc_RX9_12_0 F in_X9told dX9_told_14 ?_
    refine R_iload_n F dX9_told_17 rfl 1 rfl ?_
    refine R_callI (As := [.int p1]) (C := RX1) (q0 := 1) (ci := 1) (N := 13) (T := TX1) (fs := cf_1 B) F (ct_X1isTarget l E B _ p1 _ hw) (cwV 1 F.2.2.2.2.2.2.2.2.2.2 g_X9told_X1isTarget_141 rfl rfl rfl (by decide +kernel) ⟨Nat.le_of_ble_eq_true rfl, Nat.le_of_ble_eq_true rfl⟩) ⟨rfl, rfl⟩ rfl (fun _ => rfl) rfl rfl (Nat.le_of_ble_eq_true rfl) dX9_told_18 (fun r3 σ4 hw => ?_)
    refine R_if_ne (tgt := 27) F dX9_told_21 (by decide) (fun hc => ?_) (fun hc => ?_)
    · replace hw := hw.1 hc
      refine R_aload_n F dX9_told_27 rfl 0 rfl ?_
      refine R_callV (As := []) (C := RX9) (q0 := 0) (ci := 9) (N := 12) (T := TX9) (fs := cf_0 B) F (ct_X9refreshRace l E B _ _ hw) (cwV 0 F.2.2.2.2.2.2.2.2.2.2 g_X9told_X9refreshRace_239 rfl rfl rfl (by decide +kernel) ⟨Nat.le_of_ble_eq_true rfl, Nat.le_of_ble_eq_true rfl⟩) ⟨rfl, rfl⟩ rfl (fun _ => rfl) rfl rfl (Nat.le_of_ble_eq_true rfl) dX9_told_28 (fun σ6 hw => ?_)
      refine R_aload_n F dX9_told_31 rfl 0 rfl ?_
      refine gc_RX9_49_0 F in_X9told dX9_told_32 ?_
      refine R_iload_n F dX9_told_35 rfl 1 rfl ?_
      refine R_iconst F 4 dX9_told_36 (by decide) ?_
      refine R_imul F dX9_told_37 ?_
      refine R_callI (As := [.int (p1 * 4)]) (C := RX6) (q0 := 6) (ci := 6) (N := 12) (T := TX6) (fs := cf_6 B) F (ct_X6isInputOpen l E B _ (p1 * 4) _ hw) (cwV 1 F.2.2.2.2.2.2.2.2.2.2 g_X9told_X6isInputOpen_242 rfl rfl rfl (by decide +kernel) ⟨Nat.le_of_ble_eq_true rfl, Nat.le_of_ble_eq_true rfl⟩) ⟨rfl, rfl⟩ rfl (fun _ => rfl) rfl rfl (Nat.le_of_ble_eq_true rfl) dX9_told_38 (fun r7 σ8 hw => ?_)
      refine R_if_eq (tgt := 46) F dX9_told_41 (by decide) (fun hc => ?_) (fun hc => ?_)
      · replace hw := hw.1 hc
        refine R_aload_n F dX9_told_46 rfl 0 rfl ?_
        refine gc_RX9_58_0 F in_X9told dX9_told_47 ?_
        refine gc_RX9_245_7 F in_X9told dX9_told_50 ?_
        refine R_iload_n F dX9_told_53 rfl 1 rfl ?_
        refine R_ldi F qc_50 dX9_told_54 hw.1 ?_
        replace hw := hw.2
        refine R_if_le (tgt := 62) F dX9_told_55 (by decide) (fun hc => ?_) (fun hc => ?_)
        · replace hw := hw.1 hc
          refine R_iconst F 0 dX9_told_62 (by decide) ?_
          exact R_sub [] rfl (J_63 0 σ8 hw)
        · replace hw := hw.2 hc
          refine R_iconst F 1 dX9_told_58 (by decide) ?_
          refine R_goto (tgt := 63) F dX9_told_59 (by decide) ?_
          exact R_sub [] rfl (J_63 1 σ8 hw)
      · replace hw := hw.2 hc
        refine R_iconst F 2 dX9_told_44 (by decide) ?_
        exact R_iret (Qc := Q) F rfl dX9_told_45 hw
    · replace hw := hw.2 hc
      refine R_bipush F (-2) dX9_told_24 (by decide) ?_
      exact R_iret (Qc := Q) F rfl dX9_told_26 hw
  · replace hw := hw.2 hc
    refine R_iconst F (-1) dX9_told_11 (by decide) ?_
    exact R_iret (Qc := Q) F rfl dX9_told_12 hw
def b_X9slack_22 (Q : Int32 → VS → Prop) (k0 : Int32) (σ : VS) : Prop := Q k0 σ
def wp_X9slack (Q : Int32 → VS → Prop) (p1 : Int32) (σ : VS) : Prop := wp_X9isTold (fun (r1 : Int32) (σ2 : VS) => ((r1.toInt = 0 → b_X9slack_22 Q 1000000000 σ2) ∧ (r1.toInt ≠ 0 → (In p1 50 ∧ b_X9slack_22 Q (rd σ2 51 p1) σ2)))) p1 σ
theorem dX9_slack_0 : decode cX9_slack 0 = .ok (.aload_n 0, 1) := by decide +kernel
theorem dX9_slack_1 : decode cX9_slack 1 = .ok (.iload_n 1, 1) := by decide +kernel
theorem dX9_slack_2 : decode cX9_slack 2 = .ok (.invokevirtual 248, 3) := by decide +kernel
theorem dX9_slack_5 : decode cX9_slack 5 = .ok (.ifCond .eq 15, 3) := by decide +kernel
theorem dX9_slack_20 : decode cX9_slack 20 = .ok (.ldc 254, 2) := by decide +kernel
theorem dX9_slack_8 : decode cX9_slack 8 = .ok (.aload_n 0, 1) := by decide +kernel
theorem dX9_slack_9 : decode cX9_slack 9 = .ok (.getfield 58, 3) := by decide +kernel
theorem dX9_slack_12 : decode cX9_slack 12 = .ok (.getfield 251, 3) := by decide +kernel
theorem dX9_slack_15 : decode cX9_slack 15 = .ok (.iload_n 1, 1) := by decide +kernel
theorem dX9_slack_16 : decode cX9_slack 16 = .ok (.iaload, 1) := by decide +kernel
theorem dX9_slack_17 : decode cX9_slack 17 = .ok (.goto 5, 3) := by decide +kernel
theorem dX9_slack_22 : decode cX9_slack 22 = .ok (.ireturn, 1) := by decide +kernel
def wo_X9slack : List Cond := [.code yX9_slack cX9_slack 2 (some .int), .methodLink RX9 248 yX9_isTold, .instanceMethod yX9_isTold, .selects RX9 yX9_isTold yX9_isTold, .initialized RX9, .constant RX9 254 1000000000]
def wr_X9slack : List Cond := (wfC ++ (w_X9isTold ++ ([])))
def w_X9slack : List Cond := wo_X9slack ++ wr_X9slack
theorem wg_X9slack : GW w_X9slack := GW_app (GW_of (by decide +kernel)) (GW_app (wg_fC) (GW_app (wg_X9isTold) (GW_nil)))
theorem in_X9slack : ∀ w ∈ wfC, w ∈ w_X9slack := fun _ h => List.mem_append_right _ (List.mem_append_left _ h)
theorem g_X9slack_X9isTold_248 : GoodIn w_X9slack (wsV RX9 248 RX9 yX9_isTold w_X9isTold) := goodIn_app (gi_left (goodIn_of _ (by decide +kernel))) (fun w h => ⟨List.mem_append_right _ (List.mem_append_right _ (List.mem_append_left _ h)), wg_X9isTold w h⟩)
set_option maxHeartbeats 4000000 in
set_option maxRecDepth 100000 in
theorem ct_X9slack (l : Launch) (E : gE) (B : Nat → Nat) (Q : Int32 → VS → Prop) (p1 : Int32) (σ : VS) (hw : wp_X9slack Q p1 σ) : CtI l E yX9_slack w_X9slack (({ frames := 7, cells := 0, slots := 0, locals := 189 } : Room)) (wc E B σ) [.ref (B 0), .int p1] (fun r w => ∃ σ' : VS, Q r σ' ∧ w = wc E B σ') := by
  refine VC_I (cc := cX9_slack) (mL := 2) (rt := (some .int)) (lv0 := [(0, .ref (B 0)), (1, .int p1)]) rfl (by decide) rfl (Nat.le_of_ble_eq_true rfl) ?_
  intro p e s m below meth c A F
  replace F : Fx p s m _ meth c A E cX9_slack 2 (some .int) RX9 w_X9slack := F
  have J_22 : ∀ (k0 : Int32) (σ : VS), b_X9slack_22 Q k0 σ → WB p l e (({ frames := 7, cells := 0, slots := 0, locals := 189 } : Room)) s m (#[.ref (B 0), .int p1]) below meth c (MQ below (va_Qi (fun r w => ∃ σ' : VS, Q r σ' ∧ w = wc E B σ') (AftU E A) A) (#[.ref (B 0), .int p1]) s (({ frames := 7, cells := 0, slots := 0, locals := 189 } : Room)).cells (({ frames := 7, cells := 0, slots := 0, locals := 189 } : Room)).slots A) A E (wc E B) 2 22 [] [.int k0] σ := by
    intro k0 σ hw
    unfold b_X9slack_22 at hw
    exact R_iret (Qc := Q) F rfl dX9_slack_22 hw
  unfold wp_X9slack at hw
  refine R_aload_n F dX9_slack_0 rfl 0 rfl ?_
  refine R_iload_n F dX9_slack_1 rfl 1 rfl ?_
  refine R_callI (As := [.int p1]) (C := RX9) (q0 := 0) (ci := 9) (N := 12) (T := TX9) (fs := cf_0 B) F (ct_X9isTold l E B _ p1 _ hw) (cwV 1 F.2.2.2.2.2.2.2.2.2.2 g_X9slack_X9isTold_248 rfl rfl rfl (by decide +kernel) ⟨Nat.le_of_ble_eq_true rfl, Nat.le_of_ble_eq_true rfl⟩) ⟨rfl, rfl⟩ rfl (fun _ => rfl) rfl rfl (Nat.le_of_ble_eq_true rfl) dX9_slack_2 (fun r1 σ2 hw => ?_)
  refine R_if_eq (tgt := 20) F dX9_slack_5 (by decide) (fun hc => ?_) (fun hc => ?_)
  · replace hw := hw.1 hc
    refine R_ldc F 1000000000 (List.mem_append_left _ (show Cond.constant RX9 254 1000000000 ∈ wo_X9slack by decide +kernel)) dX9_slack_20 ?_
    exact R_sub [] rfl (J_22 1000000000 σ2 hw)
  · replace hw := hw.2 hc
    refine R_aload_n F dX9_slack_8 rfl 0 rfl ?_
    refine gc_RX9_58_0 F in_X9slack dX9_slack_9 ?_
    refine gc_RX9_251_7 F in_X9slack dX9_slack_12 ?_
    refine R_iload_n F dX9_slack_15 rfl 1 rfl ?_
    refine R_ldi F qc_51 dX9_slack_16 hw.1 ?_
    replace hw := hw.2
    refine R_goto (tgt := 22) F dX9_slack_17 (by decide) ?_
    exact R_sub [] rfl (J_22 (rd σ2 51 p1) σ2 hw)
def b_X9hold_22 (Q : Int32 → VS → Prop) (k0 : Int32) (σ : VS) : Prop := Q k0 σ
def wp_X9hold (Q : Int32 → VS → Prop) (p1 : Int32) (σ : VS) : Prop := wp_X9isTold (fun (r1 : Int32) (σ2 : VS) => ((r1.toInt = 0 → b_X9hold_22 Q 1000000000 σ2) ∧ (r1.toInt ≠ 0 → (In p1 50 ∧ b_X9hold_22 Q (rd σ2 52 p1) σ2)))) p1 σ
theorem dX9_hold_0 : decode cX9_hold 0 = .ok (.aload_n 0, 1) := by decide +kernel
theorem dX9_hold_1 : decode cX9_hold 1 = .ok (.iload_n 1, 1) := by decide +kernel
theorem dX9_hold_2 : decode cX9_hold 2 = .ok (.invokevirtual 248, 3) := by decide +kernel
theorem dX9_hold_5 : decode cX9_hold 5 = .ok (.ifCond .eq 15, 3) := by decide +kernel
theorem dX9_hold_20 : decode cX9_hold 20 = .ok (.ldc 254, 2) := by decide +kernel
theorem dX9_hold_8 : decode cX9_hold 8 = .ok (.aload_n 0, 1) := by decide +kernel
theorem dX9_hold_9 : decode cX9_hold 9 = .ok (.getfield 58, 3) := by decide +kernel
theorem dX9_hold_12 : decode cX9_hold 12 = .ok (.getfield 255, 3) := by decide +kernel
theorem dX9_hold_15 : decode cX9_hold 15 = .ok (.iload_n 1, 1) := by decide +kernel
theorem dX9_hold_16 : decode cX9_hold 16 = .ok (.iaload, 1) := by decide +kernel
theorem dX9_hold_17 : decode cX9_hold 17 = .ok (.goto 5, 3) := by decide +kernel
theorem dX9_hold_22 : decode cX9_hold 22 = .ok (.ireturn, 1) := by decide +kernel
def wo_X9hold : List Cond := [.code yX9_hold cX9_hold 2 (some .int), .methodLink RX9 248 yX9_isTold, .instanceMethod yX9_isTold, .selects RX9 yX9_isTold yX9_isTold, .initialized RX9, .constant RX9 254 1000000000]
def wr_X9hold : List Cond := (wfC ++ (w_X9isTold ++ ([])))
def w_X9hold : List Cond := wo_X9hold ++ wr_X9hold
theorem wg_X9hold : GW w_X9hold := GW_app (GW_of (by decide +kernel)) (GW_app (wg_fC) (GW_app (wg_X9isTold) (GW_nil)))
theorem in_X9hold : ∀ w ∈ wfC, w ∈ w_X9hold := fun _ h => List.mem_append_right _ (List.mem_append_left _ h)
theorem g_X9hold_X9isTold_248 : GoodIn w_X9hold (wsV RX9 248 RX9 yX9_isTold w_X9isTold) := goodIn_app (gi_left (goodIn_of _ (by decide +kernel))) (fun w h => ⟨List.mem_append_right _ (List.mem_append_right _ (List.mem_append_left _ h)), wg_X9isTold w h⟩)
set_option maxHeartbeats 4000000 in
set_option maxRecDepth 100000 in
theorem ct_X9hold (l : Launch) (E : gE) (B : Nat → Nat) (Q : Int32 → VS → Prop) (p1 : Int32) (σ : VS) (hw : wp_X9hold Q p1 σ) : CtI l E yX9_hold w_X9hold (({ frames := 7, cells := 0, slots := 0, locals := 189 } : Room)) (wc E B σ) [.ref (B 0), .int p1] (fun r w => ∃ σ' : VS, Q r σ' ∧ w = wc E B σ') := by
  refine VC_I (cc := cX9_hold) (mL := 2) (rt := (some .int)) (lv0 := [(0, .ref (B 0)), (1, .int p1)]) rfl (by decide) rfl (Nat.le_of_ble_eq_true rfl) ?_
  intro p e s m below meth c A F
  replace F : Fx p s m _ meth c A E cX9_hold 2 (some .int) RX9 w_X9hold := F
  have J_22 : ∀ (k0 : Int32) (σ : VS), b_X9hold_22 Q k0 σ → WB p l e (({ frames := 7, cells := 0, slots := 0, locals := 189 } : Room)) s m (#[.ref (B 0), .int p1]) below meth c (MQ below (va_Qi (fun r w => ∃ σ' : VS, Q r σ' ∧ w = wc E B σ') (AftU E A) A) (#[.ref (B 0), .int p1]) s (({ frames := 7, cells := 0, slots := 0, locals := 189 } : Room)).cells (({ frames := 7, cells := 0, slots := 0, locals := 189 } : Room)).slots A) A E (wc E B) 2 22 [] [.int k0] σ := by
    intro k0 σ hw
    unfold b_X9hold_22 at hw
    exact R_iret (Qc := Q) F rfl dX9_hold_22 hw
  unfold wp_X9hold at hw
  refine R_aload_n F dX9_hold_0 rfl 0 rfl ?_
  refine R_iload_n F dX9_hold_1 rfl 1 rfl ?_
  refine R_callI (As := [.int p1]) (C := RX9) (q0 := 0) (ci := 9) (N := 12) (T := TX9) (fs := cf_0 B) F (ct_X9isTold l E B _ p1 _ hw) (cwV 1 F.2.2.2.2.2.2.2.2.2.2 g_X9hold_X9isTold_248 rfl rfl rfl (by decide +kernel) ⟨Nat.le_of_ble_eq_true rfl, Nat.le_of_ble_eq_true rfl⟩) ⟨rfl, rfl⟩ rfl (fun _ => rfl) rfl rfl (Nat.le_of_ble_eq_true rfl) dX9_hold_2 (fun r1 σ2 hw => ?_)
  refine R_if_eq (tgt := 20) F dX9_hold_5 (by decide) (fun hc => ?_) (fun hc => ?_)
  · replace hw := hw.1 hc
    refine R_ldc F 1000000000 (List.mem_append_left _ (show Cond.constant RX9 254 1000000000 ∈ wo_X9hold by decide +kernel)) dX9_hold_20 ?_
    exact R_sub [] rfl (J_22 1000000000 σ2 hw)
  · replace hw := hw.2 hc
    refine R_aload_n F dX9_hold_8 rfl 0 rfl ?_
    refine gc_RX9_58_0 F in_X9hold dX9_hold_9 ?_
    refine gc_RX9_255_7 F in_X9hold dX9_hold_12 ?_
    refine R_iload_n F dX9_hold_15 rfl 1 rfl ?_
    refine R_ldi F qc_52 dX9_hold_16 hw.1 ?_
    replace hw := hw.2
    refine R_goto (tgt := 22) F dX9_hold_17 (by decide) ?_
    exact R_sub [] rfl (J_22 (rd σ2 52 p1) σ2 hw)
def wp_X9worst (Q : Int32 → VS → Prop) (p1 : Int32) (σ : VS) : Prop := wp_X9within (fun (r1 : Int32) (σ2 : VS) => ((r1.toInt ≠ 0 → wp_X9refreshRace (fun (σ4 : VS) => ((p1.toInt ≠ 0 → wp_X2leastOfH (fun (r5 : Int32) (σ6 : VS) => Q r5 σ6) σ4) ∧ (p1.toInt = 0 → wp_X2leastOfS (fun (r7 : Int32) (σ8 : VS) => Q r7 σ8) σ4))) σ2) ∧ (r1.toInt = 0 → Q (-1) σ2))) p1 0 1 σ
theorem dX9_worst_0 : decode cX9_worst 0 = .ok (.iload_n 1, 1) := by decide +kernel
theorem dX9_worst_1 : decode cX9_worst 1 = .ok (.iconst 0, 1) := by decide +kernel
theorem dX9_worst_2 : decode cX9_worst 2 = .ok (.iconst 1, 1) := by decide +kernel
theorem dX9_worst_3 : decode cX9_worst 3 = .ok (.invokestatic 88, 3) := by decide +kernel
theorem dX9_worst_6 : decode cX9_worst 6 = .ok (.ifCond .ne 5, 3) := by decide +kernel
theorem dX9_worst_11 : decode cX9_worst 11 = .ok (.aload_n 0, 1) := by decide +kernel
theorem dX9_worst_12 : decode cX9_worst 12 = .ok (.invokevirtual 239, 3) := by decide +kernel
theorem dX9_worst_15 : decode cX9_worst 15 = .ok (.aload_n 0, 1) := by decide +kernel
theorem dX9_worst_16 : decode cX9_worst 16 = .ok (.getfield 58, 3) := by decide +kernel
theorem dX9_worst_19 : decode cX9_worst 19 = .ok (.iload_n 1, 1) := by decide +kernel
theorem dX9_worst_20 : decode cX9_worst 20 = .ok (.ifCond .ne 13, 3) := by decide +kernel
theorem dX9_worst_33 : decode cX9_worst 33 = .ok (.aload_n 0, 1) := by decide +kernel
theorem dX9_worst_34 : decode cX9_worst 34 = .ok (.getfield 58, 3) := by decide +kernel
theorem dX9_worst_37 : decode cX9_worst 37 = .ok (.getfield 255, 3) := by decide +kernel
theorem dX9_worst_40 : decode cX9_worst 40 = .ok (.invokevirtual 258, 3) := by decide +kernel
theorem dX9_worst_43 : decode cX9_worst 43 = .ok (.ireturn, 1) := by decide +kernel
theorem dX9_worst_23 : decode cX9_worst 23 = .ok (.aload_n 0, 1) := by decide +kernel
theorem dX9_worst_24 : decode cX9_worst 24 = .ok (.getfield 58, 3) := by decide +kernel
theorem dX9_worst_27 : decode cX9_worst 27 = .ok (.getfield 251, 3) := by decide +kernel
theorem dX9_worst_30 : decode cX9_worst 30 = .ok (.goto 10, 3) := by decide +kernel
theorem dX9_worst_9 : decode cX9_worst 9 = .ok (.iconst (-1), 1) := by decide +kernel
theorem dX9_worst_10 : decode cX9_worst 10 = .ok (.ireturn, 1) := by decide +kernel
def wo_X9worst : List Cond := [.code yX9_worst cX9_worst 2 (some .int), .methodLink RX9 88 yX9_within, .static yX9_within, .initialized RX9, .methodLink RX9 239 yX9_refreshRace, .instanceMethod yX9_refreshRace, .selects RX9 yX9_refreshRace yX9_refreshRace, .methodLink RX9 258 yX2_leastOf, .instanceMethod yX2_leastOf, .selects RX2 yX2_leastOf yX2_leastOf, .initialized RX2]
def wr_X9worst : List Cond := (wfC ++ (w_X9within ++ (w_X9refreshRace ++ (w_X2leastOfH ++ (w_X2leastOfS ++ ([]))))))
def w_X9worst : List Cond := wo_X9worst ++ wr_X9worst
theorem wg_X9worst : GW w_X9worst := GW_app (GW_of (by decide +kernel)) (GW_app (wg_fC) (GW_app (wg_X9within) (GW_app (wg_X9refreshRace) (GW_app (wg_X2leastOfH) (GW_app (wg_X2leastOfS) (GW_nil))))))
theorem in_X9worst : ∀ w ∈ wfC, w ∈ w_X9worst := fun _ h => List.mem_append_right _ (List.mem_append_left _ h)
theorem g_X9worst_X9within_88 : GoodIn w_X9worst (va_wsS RX9 88 yX9_within w_X9within) := goodIn_app (gi_left (goodIn_of _ (by decide +kernel))) (fun w h => ⟨List.mem_append_right _ (List.mem_append_right _ (List.mem_append_left _ h)), wg_X9within w h⟩)
theorem g_X9worst_X9refreshRace_239 : GoodIn w_X9worst (wsV RX9 239 RX9 yX9_refreshRace w_X9refreshRace) := goodIn_app (gi_left (goodIn_of _ (by decide +kernel))) (fun w h => ⟨List.mem_append_right _ (List.mem_append_right _ (List.mem_append_right _ (List.mem_append_left _ h))), wg_X9refreshRace w h⟩)
theorem g_X9worst_X2leastOfH_258 : GoodIn w_X9worst (wsV RX9 258 RX2 yX2_leastOf w_X2leastOfH) := goodIn_app (gi_left (goodIn_of _ (by decide +kernel))) (fun w h => ⟨List.mem_append_right _ (List.mem_append_right _ (List.mem_append_right _ (List.mem_append_right _ (List.mem_append_left _ h)))), wg_X2leastOfH w h⟩)
theorem g_X9worst_X2leastOfS_258 : GoodIn w_X9worst (wsV RX9 258 RX2 yX2_leastOf w_X2leastOfS) := goodIn_app (gi_left (goodIn_of _ (by decide +kernel))) (fun w h => ⟨List.mem_append_right _ (List.mem_append_right _ (List.mem_append_right _ (List.mem_append_right _ (List.mem_append_right _ (List.mem_append_left _ h))))), wg_X2leastOfS w h⟩)
set_option maxHeartbeats 4000000 in
set_option maxRecDepth 100000 in
theorem ct_X9worst (l : Launch) (E : gE) (B : Nat → Nat) (Q : Int32 → VS → Prop) (p1 : Int32) (σ : VS) (hw : wp_X9worst Q p1 σ) : CtI l E yX9_worst w_X9worst (({ frames := 6, cells := 0, slots := 0, locals := 168 } : Room)) (wc E B σ) [.ref (B 0), .int p1] (fun r w => ∃ σ' : VS, Q r σ' ∧ w = wc E B σ') := by
  refine VC_I (cc := cX9_worst) (mL := 2) (rt := (some .int)) (lv0 := [(0, .ref (B 0)), (1, .int p1)]) rfl (by decide) rfl (Nat.le_of_ble_eq_true rfl) ?_
  intro p e s m below meth c A F
  replace F : Fx p s m _ meth c A E cX9_worst 2 (some .int) RX9 w_X9worst := F
  unfold wp_X9worst at hw
  refine R_iload_n F dX9_worst_0 rfl 1 rfl ?_
  refine R_iconst F 0 dX9_worst_1 (by decide) ?_
  refine R_iconst F 1 dX9_worst_2 (by decide) ?_
  refine R_callIS (As := [.int p1, .int 0, .int 1]) (C := RX10) (q0 := 0) (ci := 10) (b := 0) (N := 69) (T := TX10) (fs := fun _ => []) F (ct_X9within l E B _ p1 0 1 _ hw) (va_cwS 3 F.2.2.2.2.2.2.2.2.2.2 g_X9worst_X9within_88 rfl rfl rfl (by decide +kernel) ⟨Nat.le_of_ble_eq_true rfl, Nat.le_of_ble_eq_true rfl⟩) ⟨rfl, rfl⟩ rfl rfl (Nat.le_of_ble_eq_true rfl) dX9_worst_3 (fun r1 σ2 hw => ?_)
  refine R_if_ne (tgt := 11) F dX9_worst_6 (by decide) (fun hc => ?_) (fun hc => ?_)
  · replace hw := hw.1 hc
    refine R_aload_n F dX9_worst_11 rfl 0 rfl ?_
    refine R_callV (As := []) (C := RX9) (q0 := 0) (ci := 9) (N := 12) (T := TX9) (fs := cf_0 B) F (ct_X9refreshRace l E B _ _ hw) (cwV 0 F.2.2.2.2.2.2.2.2.2.2 g_X9worst_X9refreshRace_239 rfl rfl rfl (by decide +kernel) ⟨Nat.le_of_ble_eq_true rfl, Nat.le_of_ble_eq_true rfl⟩) ⟨rfl, rfl⟩ rfl (fun _ => rfl) rfl rfl (Nat.le_of_ble_eq_true rfl) dX9_worst_12 (fun σ4 hw => ?_)
    refine R_aload_n F dX9_worst_15 rfl 0 rfl ?_
    refine gc_RX9_58_0 F in_X9worst dX9_worst_16 ?_
    refine R_iload_n F dX9_worst_19 rfl 1 rfl ?_
    refine R_if_ne (tgt := 33) F dX9_worst_20 (by decide) (fun hc => ?_) (fun hc => ?_)
    · replace hw := hw.1 hc
      refine R_aload_n F dX9_worst_33 rfl 0 rfl ?_
      refine gc_RX9_58_0 F in_X9worst dX9_worst_34 ?_
      refine gc_RX9_255_7 F in_X9worst dX9_worst_37 ?_
      refine R_callI (As := [.ref (B 52)]) (C := RX2) (q0 := 7) (ci := 2) (N := 13) (T := TX2) (fs := cf_7 B) F (ct_X2leastOfH l E B _ _ hw) (cwV 1 F.2.2.2.2.2.2.2.2.2.2 g_X9worst_X2leastOfH_258 rfl rfl rfl (by decide +kernel) ⟨Nat.le_of_ble_eq_true rfl, Nat.le_of_ble_eq_true rfl⟩) ⟨rfl, rfl⟩ rfl (fun _ => rfl) rfl rfl (Nat.le_of_ble_eq_true rfl) dX9_worst_40 (fun r5 σ6 hw => ?_)
      exact R_iret (Qc := Q) F rfl dX9_worst_43 hw
    · replace hw := hw.2 hc
      refine R_aload_n F dX9_worst_23 rfl 0 rfl ?_
      refine gc_RX9_58_0 F in_X9worst dX9_worst_24 ?_
      refine gc_RX9_251_7 F in_X9worst dX9_worst_27 ?_
      refine R_goto (tgt := 40) F dX9_worst_30 (by decide) ?_
      refine R_callI (As := [.ref (B 51)]) (C := RX2) (q0 := 7) (ci := 2) (N := 13) (T := TX2) (fs := cf_7 B) F (ct_X2leastOfS l E B _ _ hw) (cwV 1 F.2.2.2.2.2.2.2.2.2.2 g_X9worst_X2leastOfS_258 rfl rfl rfl (by decide +kernel) ⟨Nat.le_of_ble_eq_true rfl, Nat.le_of_ble_eq_true rfl⟩) ⟨rfl, rfl⟩ rfl (fun _ => rfl) rfl rfl (Nat.le_of_ble_eq_true rfl) dX9_worst_40 (fun r7 σ8 hw => ?_)
      exact R_iret (Qc := Q) F rfl dX9_worst_43 hw
  · replace hw := hw.2 hc
    refine R_iconst F (-1) dX9_worst_9 (by decide) ?_
    exact R_iret (Qc := Q) F rfl dX9_worst_10 hw
def wp_X9paths (Q : Int32 → VS → Prop) (p1 : Int32) (σ : VS) : Prop := wp_X1has (fun (r1 : Int32) (σ2 : VS) => ((r1.toInt ≠ 0 → wp_X1isTarget (fun (r3 : Int32) (σ4 : VS) => ((r3.toInt ≠ 0 → wp_X9refreshRace (fun (σ6 : VS) => (In p1 50 ∧ Q (rd σ6 50 p1) σ6)) σ4) ∧ (r3.toInt = 0 → Q (-2) σ4))) p1 σ2) ∧ (r1.toInt = 0 → Q (-1) σ2))) p1 σ
theorem dX9_paths_0 : decode cX9_paths 0 = .ok (.aload_n 0, 1) := by decide +kernel
theorem dX9_paths_1 : decode cX9_paths 1 = .ok (.getfield 12, 3) := by decide +kernel
theorem dX9_paths_4 : decode cX9_paths 4 = .ok (.iload_n 1, 1) := by decide +kernel
theorem dX9_paths_5 : decode cX9_paths 5 = .ok (.invokevirtual 103, 3) := by decide +kernel
theorem dX9_paths_8 : decode cX9_paths 8 = .ok (.ifCond .ne 5, 3) := by decide +kernel
theorem dX9_paths_13 : decode cX9_paths 13 = .ok (.aload_n 0, 1) := by decide +kernel
theorem dX9_paths_14 : decode cX9_paths 14 = .ok (.getfield 12, 3) := by decide +kernel
theorem dX9_paths_17 : decode cX9_paths 17 = .ok (.iload_n 1, 1) := by decide +kernel
theorem dX9_paths_18 : decode cX9_paths 18 = .ok (.invokevirtual 141, 3) := by decide +kernel
theorem dX9_paths_21 : decode cX9_paths 21 = .ok (.ifCond .ne 6, 3) := by decide +kernel
theorem dX9_paths_27 : decode cX9_paths 27 = .ok (.aload_n 0, 1) := by decide +kernel
theorem dX9_paths_28 : decode cX9_paths 28 = .ok (.invokevirtual 239, 3) := by decide +kernel
theorem dX9_paths_31 : decode cX9_paths 31 = .ok (.aload_n 0, 1) := by decide +kernel
theorem dX9_paths_32 : decode cX9_paths 32 = .ok (.getfield 58, 3) := by decide +kernel
theorem dX9_paths_35 : decode cX9_paths 35 = .ok (.getfield 245, 3) := by decide +kernel
theorem dX9_paths_38 : decode cX9_paths 38 = .ok (.iload_n 1, 1) := by decide +kernel
theorem dX9_paths_39 : decode cX9_paths 39 = .ok (.iaload, 1) := by decide +kernel
theorem dX9_paths_40 : decode cX9_paths 40 = .ok (.ireturn, 1) := by decide +kernel
theorem dX9_paths_24 : decode cX9_paths 24 = .ok (.bipush (-2), 2) := by decide +kernel
theorem dX9_paths_26 : decode cX9_paths 26 = .ok (.ireturn, 1) := by decide +kernel
theorem dX9_paths_11 : decode cX9_paths 11 = .ok (.iconst (-1), 1) := by decide +kernel
theorem dX9_paths_12 : decode cX9_paths 12 = .ok (.ireturn, 1) := by decide +kernel
def wo_X9paths : List Cond := [.code yX9_paths cX9_paths 2 (some .int), .methodLink RX9 103 yX1_has, .instanceMethod yX1_has, .selects RX1 yX1_has yX1_has, .initialized RX1, .methodLink RX9 141 yX1_isTarget, .instanceMethod yX1_isTarget, .selects RX1 yX1_isTarget yX1_isTarget, .methodLink RX9 239 yX9_refreshRace, .instanceMethod yX9_refreshRace, .selects RX9 yX9_refreshRace yX9_refreshRace, .initialized RX9]
def wr_X9paths : List Cond := (wfC ++ (w_X1has ++ (w_X1isTarget ++ (w_X9refreshRace ++ ([])))))
def w_X9paths : List Cond := wo_X9paths ++ wr_X9paths
theorem wg_X9paths : GW w_X9paths := GW_app (GW_of (by decide +kernel)) (GW_app (wg_fC) (GW_app (wg_X1has) (GW_app (wg_X1isTarget) (GW_app (wg_X9refreshRace) (GW_nil)))))
theorem in_X9paths : ∀ w ∈ wfC, w ∈ w_X9paths := fun _ h => List.mem_append_right _ (List.mem_append_left _ h)
theorem g_X9paths_X1has_103 : GoodIn w_X9paths (wsV RX9 103 RX1 yX1_has w_X1has) := goodIn_app (gi_left (goodIn_of _ (by decide +kernel))) (fun w h => ⟨List.mem_append_right _ (List.mem_append_right _ (List.mem_append_left _ h)), wg_X1has w h⟩)
theorem g_X9paths_X1isTarget_141 : GoodIn w_X9paths (wsV RX9 141 RX1 yX1_isTarget w_X1isTarget) := goodIn_app (gi_left (goodIn_of _ (by decide +kernel))) (fun w h => ⟨List.mem_append_right _ (List.mem_append_right _ (List.mem_append_right _ (List.mem_append_left _ h))), wg_X1isTarget w h⟩)
theorem g_X9paths_X9refreshRace_239 : GoodIn w_X9paths (wsV RX9 239 RX9 yX9_refreshRace w_X9refreshRace) := goodIn_app (gi_left (goodIn_of _ (by decide +kernel))) (fun w h => ⟨List.mem_append_right _ (List.mem_append_right _ (List.mem_append_right _ (List.mem_append_right _ (List.mem_append_left _ h)))), wg_X9refreshRace w h⟩)
set_option maxHeartbeats 4000000 in
set_option maxRecDepth 100000 in
theorem ct_X9paths (l : Launch) (E : gE) (B : Nat → Nat) (Q : Int32 → VS → Prop) (p1 : Int32) (σ : VS) (hw : wp_X9paths Q p1 σ) : CtI l E yX9_paths w_X9paths (({ frames := 6, cells := 0, slots := 0, locals := 168 } : Room)) (wc E B σ) [.ref (B 0), .int p1] (fun r w => ∃ σ' : VS, Q r σ' ∧ w = wc E B σ') := by
  refine VC_I (cc := cX9_paths) (mL := 2) (rt := (some .int)) (lv0 := [(0, .ref (B 0)), (1, .int p1)]) rfl (by decide) rfl (Nat.le_of_ble_eq_true rfl) ?_
  intro p e s m below meth c A F
  replace F : Fx p s m _ meth c A E cX9_paths 2 (some .int) RX9 w_X9paths := F
  unfold wp_X9paths at hw
  refine R_aload_n F dX9_paths_0 rfl 0 rfl ?_
  refine gc_RX9_12_0 F in_X9paths dX9_paths_1 ?_
  refine R_iload_n F dX9_paths_4 rfl 1 rfl ?_
  refine R_callI (As := [.int p1]) (C := RX1) (q0 := 1) (ci := 1) (N := 13) (T := TX1) (fs := cf_1 B) F (ct_X1has l E B _ p1 _ hw) (cwV 1 F.2.2.2.2.2.2.2.2.2.2 g_X9paths_X1has_103 rfl rfl rfl (by decide +kernel) ⟨Nat.le_of_ble_eq_true rfl, Nat.le_of_ble_eq_true rfl⟩) ⟨rfl, rfl⟩ rfl (fun _ => rfl) rfl rfl (Nat.le_of_ble_eq_true rfl) dX9_paths_5 (fun r1 σ2 hw => ?_)
  refine R_if_ne (tgt := 13) F dX9_paths_8 (by decide) (fun hc => ?_) (fun hc => ?_)
  · replace hw := hw.1 hc
    refine R_aload_n F dX9_paths_13 rfl 0 rfl ?_
    refine gc_RX9_12_0 F in_X9paths dX9_paths_14 ?_
    refine R_iload_n F dX9_paths_17 rfl 1 rfl ?_
    refine R_callI (As := [.int p1]) (C := RX1) (q0 := 1) (ci := 1) (N := 13) (T := TX1) (fs := cf_1 B) F (ct_X1isTarget l E B _ p1 _ hw) (cwV 1 F.2.2.2.2.2.2.2.2.2.2 g_X9paths_X1isTarget_141 rfl rfl rfl (by decide +kernel) ⟨Nat.le_of_ble_eq_true rfl, Nat.le_of_ble_eq_true rfl⟩) ⟨rfl, rfl⟩ rfl (fun _ => rfl) rfl rfl (Nat.le_of_ble_eq_true rfl) dX9_paths_18 (fun r3 σ4 hw => ?_)
    refine R_if_ne (tgt := 27) F dX9_paths_21 (by decide) (fun hc => ?_) (fun hc => ?_)
    · replace hw := hw.1 hc
      refine R_aload_n F dX9_paths_27 rfl 0 rfl ?_
      refine R_callV (As := []) (C := RX9) (q0 := 0) (ci := 9) (N := 12) (T := TX9) (fs := cf_0 B) F (ct_X9refreshRace l E B _ _ hw) (cwV 0 F.2.2.2.2.2.2.2.2.2.2 g_X9paths_X9refreshRace_239 rfl rfl rfl (by decide +kernel) ⟨Nat.le_of_ble_eq_true rfl, Nat.le_of_ble_eq_true rfl⟩) ⟨rfl, rfl⟩ rfl (fun _ => rfl) rfl rfl (Nat.le_of_ble_eq_true rfl) dX9_paths_28 (fun σ6 hw => ?_)
      refine R_aload_n F dX9_paths_31 rfl 0 rfl ?_
      refine gc_RX9_58_0 F in_X9paths dX9_paths_32 ?_
      refine gc_RX9_245_7 F in_X9paths dX9_paths_35 ?_
      refine R_iload_n F dX9_paths_38 rfl 1 rfl ?_
      refine R_ldi F qc_50 dX9_paths_39 hw.1 ?_
      replace hw := hw.2
      exact R_iret (Qc := Q) F rfl dX9_paths_40 hw
    · replace hw := hw.2 hc
      refine R_bipush F (-2) dX9_paths_24 (by decide) ?_
      exact R_iret (Qc := Q) F rfl dX9_paths_26 hw
  · replace hw := hw.2 hc
    refine R_iconst F (-1) dX9_paths_11 (by decide) ?_
    exact R_iret (Qc := Q) F rfl dX9_paths_12 hw
def b_X9path_63 (Q : Int32 → VS → Prop) (σ : VS) : Prop := Q (-1) σ
def b_X9path_15 (Q : Int32 → VS → Prop) (σ : VS) : Prop := Q (-1) σ
def wp_X9path (Q : Int32 → VS → Prop) (p1 : Int32) (p2 : Int32) (σ : VS) : Prop := wp_X1has (fun (r1 : Int32) (σ2 : VS) => ((r1.toInt = 0 → b_X9path_15 Q σ2) ∧ (r1.toInt ≠ 0 → ((0 ≤ p2.toInt → wp_X1isTarget (fun (r3 : Int32) (σ4 : VS) => ((r3.toInt ≠ 0 → wp_X9refreshRace (fun (σ6 : VS) => (In p1 50 ∧ ((1000 ≤ (rd σ6 50 p1).toInt → b_X9path_63 Q σ6) ∧ ((rd σ6 50 p1).toInt < 1000 → (In p1 50 ∧ ((p2.toInt < (rd σ6 50 p1).toInt → wp_X7traceS (fun (σ8 : VS) => Q (σ8.1 16) σ8) p1 p2 σ6) ∧ ((rd σ6 50 p1).toInt ≤ p2.toInt → b_X9path_63 Q σ6))))))) σ4) ∧ (r3.toInt = 0 → Q (-2) σ4))) p1 σ2) ∧ (p2.toInt < 0 → b_X9path_15 Q σ2))))) p1 σ
theorem dX9_path_0 : decode cX9_path 0 = .ok (.aload_n 0, 1) := by decide +kernel
theorem dX9_path_1 : decode cX9_path 1 = .ok (.getfield 12, 3) := by decide +kernel
theorem dX9_path_4 : decode cX9_path 4 = .ok (.iload_n 1, 1) := by decide +kernel
theorem dX9_path_5 : decode cX9_path 5 = .ok (.invokevirtual 103, 3) := by decide +kernel
theorem dX9_path_8 : decode cX9_path 8 = .ok (.ifCond .eq 7, 3) := by decide +kernel
theorem dX9_path_11 : decode cX9_path 11 = .ok (.iload_n 2, 1) := by decide +kernel
theorem dX9_path_12 : decode cX9_path 12 = .ok (.ifCond .ge 5, 3) := by decide +kernel
theorem dX9_path_17 : decode cX9_path 17 = .ok (.aload_n 0, 1) := by decide +kernel
theorem dX9_path_18 : decode cX9_path 18 = .ok (.getfield 12, 3) := by decide +kernel
theorem dX9_path_21 : decode cX9_path 21 = .ok (.iload_n 1, 1) := by decide +kernel
theorem dX9_path_22 : decode cX9_path 22 = .ok (.invokevirtual 141, 3) := by decide +kernel
theorem dX9_path_25 : decode cX9_path 25 = .ok (.ifCond .ne 6, 3) := by decide +kernel
theorem dX9_path_31 : decode cX9_path 31 = .ok (.aload_n 0, 1) := by decide +kernel
theorem dX9_path_32 : decode cX9_path 32 = .ok (.invokevirtual 239, 3) := by decide +kernel
theorem dX9_path_35 : decode cX9_path 35 = .ok (.aload_n 0, 1) := by decide +kernel
theorem dX9_path_36 : decode cX9_path 36 = .ok (.getfield 58, 3) := by decide +kernel
theorem dX9_path_39 : decode cX9_path 39 = .ok (.getfield 245, 3) := by decide +kernel
theorem dX9_path_42 : decode cX9_path 42 = .ok (.iload_n 1, 1) := by decide +kernel
theorem dX9_path_43 : decode cX9_path 43 = .ok (.iaload, 1) := by decide +kernel
theorem dX9_path_44 : decode cX9_path 44 = .ok (.sipush 1000, 3) := by decide +kernel
theorem dX9_path_47 : decode cX9_path 47 = .ok (.if_icmp .ge 16, 3) := by decide +kernel
theorem dX9_path_50 : decode cX9_path 50 = .ok (.iload_n 2, 1) := by decide +kernel
theorem dX9_path_51 : decode cX9_path 51 = .ok (.aload_n 0, 1) := by decide +kernel
theorem dX9_path_52 : decode cX9_path 52 = .ok (.getfield 58, 3) := by decide +kernel
theorem dX9_path_55 : decode cX9_path 55 = .ok (.getfield 245, 3) := by decide +kernel
theorem dX9_path_58 : decode cX9_path 58 = .ok (.iload_n 1, 1) := by decide +kernel
theorem dX9_path_59 : decode cX9_path 59 = .ok (.iaload, 1) := by decide +kernel
theorem dX9_path_60 : decode cX9_path 60 = .ok (.if_icmp .lt 5, 3) := by decide +kernel
theorem dX9_path_65 : decode cX9_path 65 = .ok (.aload_n 0, 1) := by decide +kernel
theorem dX9_path_66 : decode cX9_path 66 = .ok (.getfield 67, 3) := by decide +kernel
theorem dX9_path_69 : decode cX9_path 69 = .ok (.iload_n 1, 1) := by decide +kernel
theorem dX9_path_70 : decode cX9_path 70 = .ok (.iload_n 2, 1) := by decide +kernel
theorem dX9_path_71 : decode cX9_path 71 = .ok (.aload_n 0, 1) := by decide +kernel
theorem dX9_path_72 : decode cX9_path 72 = .ok (.getfield 74, 3) := by decide +kernel
theorem dX9_path_75 : decode cX9_path 75 = .ok (.invokevirtual 262, 3) := by decide +kernel
theorem dX9_path_78 : decode cX9_path 78 = .ok (.aload_n 0, 1) := by decide +kernel
theorem dX9_path_79 : decode cX9_path 79 = .ok (.getfield 74, 3) := by decide +kernel
theorem dX9_path_82 : decode cX9_path 82 = .ok (.getfield 266, 3) := by decide +kernel
theorem dX9_path_85 : decode cX9_path 85 = .ok (.ireturn, 1) := by decide +kernel
theorem dX9_path_28 : decode cX9_path 28 = .ok (.bipush (-2), 2) := by decide +kernel
theorem dX9_path_30 : decode cX9_path 30 = .ok (.ireturn, 1) := by decide +kernel
theorem dX9_path_15 : decode cX9_path 15 = .ok (.iconst (-1), 1) := by decide +kernel
theorem dX9_path_16 : decode cX9_path 16 = .ok (.ireturn, 1) := by decide +kernel
theorem dX9_path_63 : decode cX9_path 63 = .ok (.iconst (-1), 1) := by decide +kernel
theorem dX9_path_64 : decode cX9_path 64 = .ok (.ireturn, 1) := by decide +kernel
def wo_X9path : List Cond := [.code yX9_path cX9_path 3 (some .int), .methodLink RX9 103 yX1_has, .instanceMethod yX1_has, .selects RX1 yX1_has yX1_has, .initialized RX1, .methodLink RX9 141 yX1_isTarget, .instanceMethod yX1_isTarget, .selects RX1 yX1_isTarget yX1_isTarget, .methodLink RX9 239 yX9_refreshRace, .instanceMethod yX9_refreshRace, .selects RX9 yX9_refreshRace yX9_refreshRace, .initialized RX9, .methodLink RX9 262 yX7_trace, .instanceMethod yX7_trace, .selects RX7 yX7_trace yX7_trace, .initialized RX7]
def wr_X9path : List Cond := (wfC ++ (w_X1has ++ (w_X1isTarget ++ (w_X9refreshRace ++ (w_X7traceS ++ ([]))))))
def w_X9path : List Cond := wo_X9path ++ wr_X9path
theorem wg_X9path : GW w_X9path := GW_app (GW_of (by decide +kernel)) (GW_app (wg_fC) (GW_app (wg_X1has) (GW_app (wg_X1isTarget) (GW_app (wg_X9refreshRace) (GW_app (wg_X7traceS) (GW_nil))))))
theorem in_X9path : ∀ w ∈ wfC, w ∈ w_X9path := fun _ h => List.mem_append_right _ (List.mem_append_left _ h)
theorem g_X9path_X1has_103 : GoodIn w_X9path (wsV RX9 103 RX1 yX1_has w_X1has) := goodIn_app (gi_left (goodIn_of _ (by decide +kernel))) (fun w h => ⟨List.mem_append_right _ (List.mem_append_right _ (List.mem_append_left _ h)), wg_X1has w h⟩)
theorem g_X9path_X1isTarget_141 : GoodIn w_X9path (wsV RX9 141 RX1 yX1_isTarget w_X1isTarget) := goodIn_app (gi_left (goodIn_of _ (by decide +kernel))) (fun w h => ⟨List.mem_append_right _ (List.mem_append_right _ (List.mem_append_right _ (List.mem_append_left _ h))), wg_X1isTarget w h⟩)
theorem g_X9path_X9refreshRace_239 : GoodIn w_X9path (wsV RX9 239 RX9 yX9_refreshRace w_X9refreshRace) := goodIn_app (gi_left (goodIn_of _ (by decide +kernel))) (fun w h => ⟨List.mem_append_right _ (List.mem_append_right _ (List.mem_append_right _ (List.mem_append_right _ (List.mem_append_left _ h)))), wg_X9refreshRace w h⟩)
theorem g_X9path_X7traceS_262 : GoodIn w_X9path (wsV RX9 262 RX7 yX7_trace w_X7traceS) := goodIn_app (gi_left (goodIn_of _ (by decide +kernel))) (fun w h => ⟨List.mem_append_right _ (List.mem_append_right _ (List.mem_append_right _ (List.mem_append_right _ (List.mem_append_right _ (List.mem_append_left _ h))))), wg_X7traceS w h⟩)
set_option maxHeartbeats 4000000 in
set_option maxRecDepth 100000 in
theorem ct_X9path (l : Launch) (E : gE) (B : Nat → Nat) (Q : Int32 → VS → Prop) (p1 : Int32) (p2 : Int32) (σ : VS) (hw : wp_X9path Q p1 p2 σ) : CtI l E yX9_path w_X9path (({ frames := 7, cells := 0, slots := 0, locals := 168 } : Room)) (wc E B σ) [.ref (B 0), .int p1, .int p2] (fun r w => ∃ σ' : VS, Q r σ' ∧ w = wc E B σ') := by
  refine VC_I (cc := cX9_path) (mL := 3) (rt := (some .int)) (lv0 := [(0, .ref (B 0)), (1, .int p1), (2, .int p2)]) rfl (by decide) rfl (Nat.le_of_ble_eq_true rfl) ?_
  intro p e s m below meth c A F
  replace F : Fx p s m _ meth c A E cX9_path 3 (some .int) RX9 w_X9path := F
  have J_63 : ∀ (σ : VS), b_X9path_63 Q σ → WB p l e (({ frames := 7, cells := 0, slots := 0, locals := 168 } : Room)) s m (#[.ref (B 0), .int p1, .int p2]) below meth c (MQ below (va_Qi (fun r w => ∃ σ' : VS, Q r σ' ∧ w = wc E B σ') (AftU E A) A) (#[.ref (B 0), .int p1, .int p2]) s (({ frames := 7, cells := 0, slots := 0, locals := 168 } : Room)).cells (({ frames := 7, cells := 0, slots := 0, locals := 168 } : Room)).slots A) A E (wc E B) 3 63 [] [] σ := by
    intro σ hw
    unfold b_X9path_63 at hw
    refine R_iconst F (-1) dX9_path_63 (by decide) ?_
    exact R_iret (Qc := Q) F rfl dX9_path_64 hw
  have J_15 : ∀ (σ : VS), b_X9path_15 Q σ → WB p l e (({ frames := 7, cells := 0, slots := 0, locals := 168 } : Room)) s m (#[.ref (B 0), .int p1, .int p2]) below meth c (MQ below (va_Qi (fun r w => ∃ σ' : VS, Q r σ' ∧ w = wc E B σ') (AftU E A) A) (#[.ref (B 0), .int p1, .int p2]) s (({ frames := 7, cells := 0, slots := 0, locals := 168 } : Room)).cells (({ frames := 7, cells := 0, slots := 0, locals := 168 } : Room)).slots A) A E (wc E B) 3 15 [] [] σ := by
    intro σ hw
    unfold b_X9path_15 at hw
    refine R_iconst F (-1) dX9_path_15 (by decide) ?_
    exact R_iret (Qc := Q) F rfl dX9_path_16 hw
  unfold wp_X9path at hw
  refine R_aload_n F dX9_path_0 rfl 0 rfl ?_
  refine gc_RX9_12_0 F in_X9path dX9_path_1 ?_
  refine R_iload_n F dX9_path_4 rfl 1 rfl ?_
  refine R_callI (As := [.int p1]) (C := RX1) (q0 := 1) (ci := 1) (N := 13) (T := TX1) (fs := cf_1 B) F (ct_X1has l E B _ p1 _ hw) (cwV 1 F.2.2.2.2.2.2.2.2.2.2 g_X9path_X1has_103 rfl rfl rfl (by decide +kernel) ⟨Nat.le_of_ble_eq_true rfl, Nat.le_of_ble_eq_true rfl⟩) ⟨rfl, rfl⟩ rfl (fun _ => rfl) rfl rfl (Nat.le_of_ble_eq_true rfl) dX9_path_5 (fun r1 σ2 hw => ?_)
  refine R_if_eq (tgt := 15) F dX9_path_8 (by decide) (fun hc => ?_) (fun hc => ?_)
  · replace hw := hw.1 hc
    exact R_sub [] rfl (J_15 σ2 hw)
  · replace hw := hw.2 hc
    refine R_iload_n F dX9_path_11 rfl 2 rfl ?_
    refine R_if_ge (tgt := 17) F dX9_path_12 (by decide) (fun hc => ?_) (fun hc => ?_)
    · replace hw := hw.1 hc
      refine R_aload_n F dX9_path_17 rfl 0 rfl ?_
      refine gc_RX9_12_0 F in_X9path dX9_path_18 ?_
      refine R_iload_n F dX9_path_21 rfl 1 rfl ?_
      refine R_callI (As := [.int p1]) (C := RX1) (q0 := 1) (ci := 1) (N := 13) (T := TX1) (fs := cf_1 B) F (ct_X1isTarget l E B _ p1 _ hw) (cwV 1 F.2.2.2.2.2.2.2.2.2.2 g_X9path_X1isTarget_141 rfl rfl rfl (by decide +kernel) ⟨Nat.le_of_ble_eq_true rfl, Nat.le_of_ble_eq_true rfl⟩) ⟨rfl, rfl⟩ rfl (fun _ => rfl) rfl rfl (Nat.le_of_ble_eq_true rfl) dX9_path_22 (fun r3 σ4 hw => ?_)
      refine R_if_ne (tgt := 31) F dX9_path_25 (by decide) (fun hc => ?_) (fun hc => ?_)
      · replace hw := hw.1 hc
        refine R_aload_n F dX9_path_31 rfl 0 rfl ?_
        refine R_callV (As := []) (C := RX9) (q0 := 0) (ci := 9) (N := 12) (T := TX9) (fs := cf_0 B) F (ct_X9refreshRace l E B _ _ hw) (cwV 0 F.2.2.2.2.2.2.2.2.2.2 g_X9path_X9refreshRace_239 rfl rfl rfl (by decide +kernel) ⟨Nat.le_of_ble_eq_true rfl, Nat.le_of_ble_eq_true rfl⟩) ⟨rfl, rfl⟩ rfl (fun _ => rfl) rfl rfl (Nat.le_of_ble_eq_true rfl) dX9_path_32 (fun σ6 hw => ?_)
        refine R_aload_n F dX9_path_35 rfl 0 rfl ?_
        refine gc_RX9_58_0 F in_X9path dX9_path_36 ?_
        refine gc_RX9_245_7 F in_X9path dX9_path_39 ?_
        refine R_iload_n F dX9_path_42 rfl 1 rfl ?_
        refine R_ldi F qc_50 dX9_path_43 hw.1 ?_
        replace hw := hw.2
        refine R_sipush F 1000 dX9_path_44 (by decide) ?_
        refine R_icmp_ge (tgt := 63) F dX9_path_47 (by decide) (fun hc => ?_) (fun hc => ?_)
        · replace hw := hw.1 hc
          exact R_sub [] rfl (J_63 σ6 hw)
        · replace hw := hw.2 hc
          refine R_iload_n F dX9_path_50 rfl 2 rfl ?_
          refine R_aload_n F dX9_path_51 rfl 0 rfl ?_
          refine gc_RX9_58_0 F in_X9path dX9_path_52 ?_
          refine gc_RX9_245_7 F in_X9path dX9_path_55 ?_
          refine R_iload_n F dX9_path_58 rfl 1 rfl ?_
          refine R_ldi F qc_50 dX9_path_59 hw.1 ?_
          replace hw := hw.2
          refine R_icmp_lt (tgt := 65) F dX9_path_60 (by decide) (fun hc => ?_) (fun hc => ?_)
          · replace hw := hw.1 hc
            refine R_aload_n F dX9_path_65 rfl 0 rfl ?_
            refine gc_RX9_67_0 F in_X9path dX9_path_66 ?_
            refine R_iload_n F dX9_path_69 rfl 1 rfl ?_
            refine R_iload_n F dX9_path_70 rfl 2 rfl ?_
            refine R_aload_n F dX9_path_71 rfl 0 rfl ?_
            refine gc_RX9_74_0 F in_X9path dX9_path_72 ?_
            refine R_callV (As := [.int p1, .int p2, .ref (B 9)]) (C := RX7) (q0 := 8) (ci := 7) (N := 12) (T := TX7) (fs := cf_8 B) F (ct_X7traceS l E B _ p1 p2 _ hw) (cwV 3 F.2.2.2.2.2.2.2.2.2.2 g_X9path_X7traceS_262 rfl rfl rfl (by decide +kernel) ⟨Nat.le_of_ble_eq_true rfl, Nat.le_of_ble_eq_true rfl⟩) ⟨rfl, rfl⟩ rfl (fun _ => rfl) rfl rfl (Nat.le_of_ble_eq_true rfl) dX9_path_75 (fun σ8 hw => ?_)
            refine R_aload_n F dX9_path_78 rfl 0 rfl ?_
            refine gc_RX9_74_0 F in_X9path dX9_path_79 ?_
            refine gc_RX9_266_9 F in_X9path dX9_path_82 ?_
            exact R_iret (Qc := Q) F rfl dX9_path_85 hw
          · replace hw := hw.2 hc
            exact R_sub [] rfl (J_63 σ6 hw)
      · replace hw := hw.2 hc
        refine R_bipush F (-2) dX9_path_28 (by decide) ?_
        exact R_iret (Qc := Q) F rfl dX9_path_30 hw
    · replace hw := hw.2 hc
      exact R_sub [] rfl (J_15 σ2 hw)
def wp_X9step (Q : Int32 → VS → Prop) (p1 : Int32) (p2 : Int32) (σ : VS) : Prop := (((σ.1 16).toInt ≠ 0 → ((p2.toInt ≠ 4 → ((p2.toInt ≠ 5 → wp_X9within (fun (r1 : Int32) (σ2 : VS) => ((r1.toInt ≠ 0 → ((p2.toInt = 0 → (In p1 51 ∧ Q (rd σ2 55 p1) σ2)) ∧ (p2.toInt = 1 → (In p1 51 ∧ Q (rd σ2 56 p1) σ2)) ∧ (p2.toInt = 2 → (In p1 51 ∧ Q (rd σ2 57 p1) σ2)) ∧ (p2.toInt = 3 → (In p1 51 ∧ Q (rd σ2 58 p1) σ2)) ∧ ((p2.toInt < 0 ∨ 3 < p2.toInt) → Q 1000000000 σ2))) ∧ (r1.toInt = 0 → Q 1000000000 σ2))) p1 0 ((σ.1 16) - 1) σ) ∧ (p2.toInt = 5 → Q (σ.1 18) σ))) ∧ (p2.toInt = 4 → Q (σ.1 17) σ))) ∧ ((σ.1 16).toInt = 0 → Q 1000000000 σ))
theorem dX9_step_0 : decode cX9_step 0 = .ok (.aload_n 0, 1) := by decide +kernel
theorem dX9_step_1 : decode cX9_step 1 = .ok (.getfield 74, 3) := by decide +kernel
theorem dX9_step_4 : decode cX9_step 4 = .ok (.getfield 266, 3) := by decide +kernel
theorem dX9_step_7 : decode cX9_step 7 = .ok (.ifCond .ne 6, 3) := by decide +kernel
theorem dX9_step_13 : decode cX9_step 13 = .ok (.iload_n 2, 1) := by decide +kernel
theorem dX9_step_14 : decode cX9_step 14 = .ok (.iconst 4, 1) := by decide +kernel
theorem dX9_step_15 : decode cX9_step 15 = .ok (.if_icmp .ne 11, 3) := by decide +kernel
theorem dX9_step_26 : decode cX9_step 26 = .ok (.iload_n 2, 1) := by decide +kernel
theorem dX9_step_27 : decode cX9_step 27 = .ok (.iconst 5, 1) := by decide +kernel
theorem dX9_step_28 : decode cX9_step 28 = .ok (.if_icmp .ne 11, 3) := by decide +kernel
theorem dX9_step_39 : decode cX9_step 39 = .ok (.iload_n 1, 1) := by decide +kernel
theorem dX9_step_40 : decode cX9_step 40 = .ok (.iconst 0, 1) := by decide +kernel
theorem dX9_step_41 : decode cX9_step 41 = .ok (.aload_n 0, 1) := by decide +kernel
theorem dX9_step_42 : decode cX9_step 42 = .ok (.getfield 74, 3) := by decide +kernel
theorem dX9_step_45 : decode cX9_step 45 = .ok (.getfield 266, 3) := by decide +kernel
theorem dX9_step_48 : decode cX9_step 48 = .ok (.iconst 1, 1) := by decide +kernel
theorem dX9_step_49 : decode cX9_step 49 = .ok (.isub, 1) := by decide +kernel
theorem dX9_step_50 : decode cX9_step 50 = .ok (.invokestatic 88, 3) := by decide +kernel
theorem dX9_step_53 : decode cX9_step 53 = .ok (.ifCond .ne 6, 3) := by decide +kernel
theorem dX9_step_59 : decode cX9_step 59 = .ok (.iload_n 2, 1) := by decide +kernel
theorem dX9_step_60 : decode cX9_step 60 = .ok (.tableswitch 72 0 3 #[32, 42, 52, 62], 32) := by decide +kernel
theorem dX9_step_92 : decode cX9_step 92 = .ok (.aload_n 0, 1) := by decide +kernel
theorem dX9_step_93 : decode cX9_step 93 = .ok (.getfield 74, 3) := by decide +kernel
theorem dX9_step_96 : decode cX9_step 96 = .ok (.getfield 273, 3) := by decide +kernel
theorem dX9_step_99 : decode cX9_step 99 = .ok (.iload_n 1, 1) := by decide +kernel
theorem dX9_step_100 : decode cX9_step 100 = .ok (.iaload, 1) := by decide +kernel
theorem dX9_step_101 : decode cX9_step 101 = .ok (.ireturn, 1) := by decide +kernel
theorem dX9_step_102 : decode cX9_step 102 = .ok (.aload_n 0, 1) := by decide +kernel
theorem dX9_step_103 : decode cX9_step 103 = .ok (.getfield 74, 3) := by decide +kernel
theorem dX9_step_106 : decode cX9_step 106 = .ok (.getfield 275, 3) := by decide +kernel
theorem dX9_step_109 : decode cX9_step 109 = .ok (.iload_n 1, 1) := by decide +kernel
theorem dX9_step_110 : decode cX9_step 110 = .ok (.iaload, 1) := by decide +kernel
theorem dX9_step_111 : decode cX9_step 111 = .ok (.ireturn, 1) := by decide +kernel
theorem dX9_step_112 : decode cX9_step 112 = .ok (.aload_n 0, 1) := by decide +kernel
theorem dX9_step_113 : decode cX9_step 113 = .ok (.getfield 74, 3) := by decide +kernel
theorem dX9_step_116 : decode cX9_step 116 = .ok (.getfield 276, 3) := by decide +kernel
theorem dX9_step_119 : decode cX9_step 119 = .ok (.iload_n 1, 1) := by decide +kernel
theorem dX9_step_120 : decode cX9_step 120 = .ok (.iaload, 1) := by decide +kernel
theorem dX9_step_121 : decode cX9_step 121 = .ok (.ireturn, 1) := by decide +kernel
theorem dX9_step_122 : decode cX9_step 122 = .ok (.aload_n 0, 1) := by decide +kernel
theorem dX9_step_123 : decode cX9_step 123 = .ok (.getfield 74, 3) := by decide +kernel
theorem dX9_step_126 : decode cX9_step 126 = .ok (.getfield 279, 3) := by decide +kernel
theorem dX9_step_129 : decode cX9_step 129 = .ok (.iload_n 1, 1) := by decide +kernel
theorem dX9_step_130 : decode cX9_step 130 = .ok (.iaload, 1) := by decide +kernel
theorem dX9_step_131 : decode cX9_step 131 = .ok (.ireturn, 1) := by decide +kernel
theorem dX9_step_132 : decode cX9_step 132 = .ok (.ldc 254, 2) := by decide +kernel
theorem dX9_step_134 : decode cX9_step 134 = .ok (.ireturn, 1) := by decide +kernel
theorem dX9_step_56 : decode cX9_step 56 = .ok (.ldc 254, 2) := by decide +kernel
theorem dX9_step_58 : decode cX9_step 58 = .ok (.ireturn, 1) := by decide +kernel
theorem dX9_step_31 : decode cX9_step 31 = .ok (.aload_n 0, 1) := by decide +kernel
theorem dX9_step_32 : decode cX9_step 32 = .ok (.getfield 74, 3) := by decide +kernel
theorem dX9_step_35 : decode cX9_step 35 = .ok (.getfield 270, 3) := by decide +kernel
theorem dX9_step_38 : decode cX9_step 38 = .ok (.ireturn, 1) := by decide +kernel
theorem dX9_step_18 : decode cX9_step 18 = .ok (.aload_n 0, 1) := by decide +kernel
theorem dX9_step_19 : decode cX9_step 19 = .ok (.getfield 74, 3) := by decide +kernel
theorem dX9_step_22 : decode cX9_step 22 = .ok (.getfield 267, 3) := by decide +kernel
theorem dX9_step_25 : decode cX9_step 25 = .ok (.ireturn, 1) := by decide +kernel
theorem dX9_step_10 : decode cX9_step 10 = .ok (.ldc 254, 2) := by decide +kernel
theorem dX9_step_12 : decode cX9_step 12 = .ok (.ireturn, 1) := by decide +kernel
def wo_X9step : List Cond := [.code yX9_step cX9_step 3 (some .int), .methodLink RX9 88 yX9_within, .static yX9_within, .initialized RX9, .constant RX9 254 1000000000]
def wr_X9step : List Cond := (wfC ++ (w_X9within ++ ([])))
def w_X9step : List Cond := wo_X9step ++ wr_X9step
theorem wg_X9step : GW w_X9step := GW_app (GW_of (by decide +kernel)) (GW_app (wg_fC) (GW_app (wg_X9within) (GW_nil)))
theorem in_X9step : ∀ w ∈ wfC, w ∈ w_X9step := fun _ h => List.mem_append_right _ (List.mem_append_left _ h)
theorem g_X9step_X9within_88 : GoodIn w_X9step (va_wsS RX9 88 yX9_within w_X9within) := goodIn_app (gi_left (goodIn_of _ (by decide +kernel))) (fun w h => ⟨List.mem_append_right _ (List.mem_append_right _ (List.mem_append_left _ h)), wg_X9within w h⟩)
set_option maxHeartbeats 4000000 in
set_option maxRecDepth 100000 in
theorem ct_X9step (l : Launch) (E : gE) (B : Nat → Nat) (Q : Int32 → VS → Prop) (p1 : Int32) (p2 : Int32) (σ : VS) (hw : wp_X9step Q p1 p2 σ) : CtI l E yX9_step w_X9step (({ frames := 1, cells := 0, slots := 0, locals := 22 } : Room)) (wc E B σ) [.ref (B 0), .int p1, .int p2] (fun r w => ∃ σ' : VS, Q r σ' ∧ w = wc E B σ') := by
  refine VC_I (cc := cX9_step) (mL := 3) (rt := (some .int)) (lv0 := [(0, .ref (B 0)), (1, .int p1), (2, .int p2)]) rfl (by decide) rfl (Nat.le_of_ble_eq_true rfl) ?_
  intro p e s m below meth c A F
  replace F : Fx p s m _ meth c A E cX9_step 3 (some .int) RX9 w_X9step := F
  unfold wp_X9step at hw
  refine R_aload_n F dX9_step_0 rfl 0 rfl ?_
  refine gc_RX9_74_0 F in_X9step dX9_step_1 ?_
  refine gc_RX9_266_9 F in_X9step dX9_step_4 ?_
  refine R_if_ne (tgt := 13) F dX9_step_7 (by decide) (fun hc => ?_) (fun hc => ?_)
  · replace hw := hw.1 hc
    refine R_iload_n F dX9_step_13 rfl 2 rfl ?_
    refine R_iconst F 4 dX9_step_14 (by decide) ?_
    refine R_icmp_ne (tgt := 26) F dX9_step_15 (by decide) (fun hc => ?_) (fun hc => ?_)
    · replace hw := hw.1 hc
      refine R_iload_n F dX9_step_26 rfl 2 rfl ?_
      refine R_iconst F 5 dX9_step_27 (by decide) ?_
      refine R_icmp_ne (tgt := 39) F dX9_step_28 (by decide) (fun hc => ?_) (fun hc => ?_)
      · replace hw := hw.1 hc
        refine R_iload_n F dX9_step_39 rfl 1 rfl ?_
        refine R_iconst F 0 dX9_step_40 (by decide) ?_
        refine R_aload_n F dX9_step_41 rfl 0 rfl ?_
        refine gc_RX9_74_0 F in_X9step dX9_step_42 ?_
        refine gc_RX9_266_9 F in_X9step dX9_step_45 ?_
        refine R_iconst F 1 dX9_step_48 (by decide) ?_
        refine R_isub F dX9_step_49 ?_
        refine R_callIS (As := [.int p1, .int 0, .int ((σ.1 16) - 1)]) (C := RX10) (q0 := 0) (ci := 10) (b := 0) (N := 69) (T := TX10) (fs := fun _ => []) F (ct_X9within l E B _ p1 0 ((σ.1 16) - 1) _ hw) (va_cwS 3 F.2.2.2.2.2.2.2.2.2.2 g_X9step_X9within_88 rfl rfl rfl (by decide +kernel) ⟨Nat.le_of_ble_eq_true rfl, Nat.le_of_ble_eq_true rfl⟩) ⟨rfl, rfl⟩ rfl rfl (Nat.le_of_ble_eq_true rfl) dX9_step_50 (fun r1 σ2 hw => ?_)
        refine R_if_ne (tgt := 59) F dX9_step_53 (by decide) (fun hc => ?_) (fun hc => ?_)
        · replace hw := hw.1 hc
          refine R_iload_n F dX9_step_59 rfl 2 rfl ?_
          by_cases hc : p2.toInt = 0
          · refine R_tin (off := 32) (tgt := 92) F dX9_step_60 (by omega) (by omega) (by rw [hc]; rfl) (by decide) ?_
            replace hw := hw.1 hc
            refine R_aload_n F dX9_step_92 rfl 0 rfl ?_
            refine gc_RX9_74_0 F in_X9step dX9_step_93 ?_
            refine gc_RX9_273_9 F in_X9step dX9_step_96 ?_
            refine R_iload_n F dX9_step_99 rfl 1 rfl ?_
            refine R_ldi F qc_55 dX9_step_100 hw.1 ?_
            replace hw := hw.2
            exact R_iret (Qc := Q) F rfl dX9_step_101 hw
          replace hw := hw.2
          by_cases hc : p2.toInt = 1
          · refine R_tin (off := 42) (tgt := 102) F dX9_step_60 (by omega) (by omega) (by rw [hc]; rfl) (by decide) ?_
            replace hw := hw.1 hc
            refine R_aload_n F dX9_step_102 rfl 0 rfl ?_
            refine gc_RX9_74_0 F in_X9step dX9_step_103 ?_
            refine gc_RX9_275_9 F in_X9step dX9_step_106 ?_
            refine R_iload_n F dX9_step_109 rfl 1 rfl ?_
            refine R_ldi F qc_56 dX9_step_110 hw.1 ?_
            replace hw := hw.2
            exact R_iret (Qc := Q) F rfl dX9_step_111 hw
          replace hw := hw.2
          by_cases hc : p2.toInt = 2
          · refine R_tin (off := 52) (tgt := 112) F dX9_step_60 (by omega) (by omega) (by rw [hc]; rfl) (by decide) ?_
            replace hw := hw.1 hc
            refine R_aload_n F dX9_step_112 rfl 0 rfl ?_
            refine gc_RX9_74_0 F in_X9step dX9_step_113 ?_
            refine gc_RX9_276_9 F in_X9step dX9_step_116 ?_
            refine R_iload_n F dX9_step_119 rfl 1 rfl ?_
            refine R_ldi F qc_57 dX9_step_120 hw.1 ?_
            replace hw := hw.2
            exact R_iret (Qc := Q) F rfl dX9_step_121 hw
          replace hw := hw.2
          by_cases hc : p2.toInt = 3
          · refine R_tin (off := 62) (tgt := 122) F dX9_step_60 (by omega) (by omega) (by rw [hc]; rfl) (by decide) ?_
            replace hw := hw.1 hc
            refine R_aload_n F dX9_step_122 rfl 0 rfl ?_
            refine gc_RX9_74_0 F in_X9step dX9_step_123 ?_
            refine gc_RX9_279_9 F in_X9step dX9_step_126 ?_
            refine R_iload_n F dX9_step_129 rfl 1 rfl ?_
            refine R_ldi F qc_58 dX9_step_130 hw.1 ?_
            replace hw := hw.2
            exact R_iret (Qc := Q) F rfl dX9_step_131 hw
          replace hw := hw.2
          refine R_tout (tgt := 132) F dX9_step_60 (by omega) (by decide) ?_
          replace hw := hw (by omega)
          refine R_ldc F 1000000000 (List.mem_append_left _ (show Cond.constant RX9 254 1000000000 ∈ wo_X9step by decide +kernel)) dX9_step_132 ?_
          exact R_iret (Qc := Q) F rfl dX9_step_134 hw
        · replace hw := hw.2 hc
          refine R_ldc F 1000000000 (List.mem_append_left _ (show Cond.constant RX9 254 1000000000 ∈ wo_X9step by decide +kernel)) dX9_step_56 ?_
          exact R_iret (Qc := Q) F rfl dX9_step_58 hw
      · replace hw := hw.2 hc
        refine R_aload_n F dX9_step_31 rfl 0 rfl ?_
        refine gc_RX9_74_0 F in_X9step dX9_step_32 ?_
        refine gc_RX9_270_9 F in_X9step dX9_step_35 ?_
        exact R_iret (Qc := Q) F rfl dX9_step_38 hw
    · replace hw := hw.2 hc
      refine R_aload_n F dX9_step_18 rfl 0 rfl ?_
      refine gc_RX9_74_0 F in_X9step dX9_step_19 ?_
      refine gc_RX9_267_9 F in_X9step dX9_step_22 ?_
      exact R_iret (Qc := Q) F rfl dX9_step_25 hw
  · replace hw := hw.2 hc
    refine R_ldc F 1000000000 (List.mem_append_left _ (show Cond.constant RX9 254 1000000000 ∈ wo_X9step by decide +kernel)) dX9_step_10 ?_
    exact R_iret (Qc := Q) F rfl dX9_step_12 hw
def b_X9common_35 (Q : Int32 → VS → Prop) (k0 : Int32) (σ : VS) : Prop := Q k0 σ
def b_X9common_34 (Q : Int32 → VS → Prop) (σ : VS) : Prop := b_X9common_35 Q (-1) σ
def wp_X9common (Q : Int32 → VS → Prop) (p1 : Int32) (p2 : Int32) (σ : VS) : Prop := wp_X1has (fun (r1 : Int32) (σ2 : VS) => ((r1.toInt = 0 → b_X9common_34 Q σ2) ∧ (r1.toInt ≠ 0 → wp_X1has (fun (r3 : Int32) (σ4 : VS) => ((r3.toInt = 0 → b_X9common_34 Q σ4) ∧ (r3.toInt ≠ 0 → wp_X2sharedOf (fun (r5 : Int32) (σ6 : VS) => b_X9common_35 Q r5 σ6) p1 p2 σ4))) p2 σ2))) p1 σ
theorem dX9_common_0 : decode cX9_common 0 = .ok (.aload_n 0, 1) := by decide +kernel
theorem dX9_common_1 : decode cX9_common 1 = .ok (.getfield 12, 3) := by decide +kernel
theorem dX9_common_4 : decode cX9_common 4 = .ok (.iload_n 1, 1) := by decide +kernel
theorem dX9_common_5 : decode cX9_common 5 = .ok (.invokevirtual 103, 3) := by decide +kernel
theorem dX9_common_8 : decode cX9_common 8 = .ok (.ifCond .eq 26, 3) := by decide +kernel
theorem dX9_common_11 : decode cX9_common 11 = .ok (.aload_n 0, 1) := by decide +kernel
theorem dX9_common_12 : decode cX9_common 12 = .ok (.getfield 12, 3) := by decide +kernel
theorem dX9_common_15 : decode cX9_common 15 = .ok (.iload_n 2, 1) := by decide +kernel
theorem dX9_common_16 : decode cX9_common 16 = .ok (.invokevirtual 103, 3) := by decide +kernel
theorem dX9_common_19 : decode cX9_common 19 = .ok (.ifCond .eq 15, 3) := by decide +kernel
theorem dX9_common_22 : decode cX9_common 22 = .ok (.aload_n 0, 1) := by decide +kernel
theorem dX9_common_23 : decode cX9_common 23 = .ok (.getfield 58, 3) := by decide +kernel
theorem dX9_common_26 : decode cX9_common 26 = .ok (.iload_n 1, 1) := by decide +kernel
theorem dX9_common_27 : decode cX9_common 27 = .ok (.iload_n 2, 1) := by decide +kernel
theorem dX9_common_28 : decode cX9_common 28 = .ok (.invokevirtual 280, 3) := by decide +kernel
theorem dX9_common_31 : decode cX9_common 31 = .ok (.goto 4, 3) := by decide +kernel
theorem dX9_common_34 : decode cX9_common 34 = .ok (.iconst (-1), 1) := by decide +kernel
theorem dX9_common_35 : decode cX9_common 35 = .ok (.ireturn, 1) := by decide +kernel
def wo_X9common : List Cond := [.code yX9_common cX9_common 3 (some .int), .methodLink RX9 103 yX1_has, .instanceMethod yX1_has, .selects RX1 yX1_has yX1_has, .initialized RX1, .methodLink RX9 280 yX2_sharedOf, .instanceMethod yX2_sharedOf, .selects RX2 yX2_sharedOf yX2_sharedOf, .initialized RX2]
def wr_X9common : List Cond := (wfC ++ (w_X1has ++ (w_X2sharedOf ++ ([]))))
def w_X9common : List Cond := wo_X9common ++ wr_X9common
theorem wg_X9common : GW w_X9common := GW_app (GW_of (by decide +kernel)) (GW_app (wg_fC) (GW_app (wg_X1has) (GW_app (wg_X2sharedOf) (GW_nil))))
theorem in_X9common : ∀ w ∈ wfC, w ∈ w_X9common := fun _ h => List.mem_append_right _ (List.mem_append_left _ h)
theorem g_X9common_X1has_103 : GoodIn w_X9common (wsV RX9 103 RX1 yX1_has w_X1has) := goodIn_app (gi_left (goodIn_of _ (by decide +kernel))) (fun w h => ⟨List.mem_append_right _ (List.mem_append_right _ (List.mem_append_left _ h)), wg_X1has w h⟩)
theorem g_X9common_X2sharedOf_280 : GoodIn w_X9common (wsV RX9 280 RX2 yX2_sharedOf w_X2sharedOf) := goodIn_app (gi_left (goodIn_of _ (by decide +kernel))) (fun w h => ⟨List.mem_append_right _ (List.mem_append_right _ (List.mem_append_right _ (List.mem_append_left _ h))), wg_X2sharedOf w h⟩)
set_option maxHeartbeats 4000000 in
set_option maxRecDepth 100000 in
theorem ct_X9common (l : Launch) (E : gE) (B : Nat → Nat) (Q : Int32 → VS → Prop) (p1 : Int32) (p2 : Int32) (σ : VS) (hw : wp_X9common Q p1 p2 σ) : CtI l E yX9_common w_X9common (({ frames := 2, cells := 0, slots := 0, locals := 47 } : Room)) (wc E B σ) [.ref (B 0), .int p1, .int p2] (fun r w => ∃ σ' : VS, Q r σ' ∧ w = wc E B σ') := by
  refine VC_I (cc := cX9_common) (mL := 3) (rt := (some .int)) (lv0 := [(0, .ref (B 0)), (1, .int p1), (2, .int p2)]) rfl (by decide) rfl (Nat.le_of_ble_eq_true rfl) ?_
  intro p e s m below meth c A F
  replace F : Fx p s m _ meth c A E cX9_common 3 (some .int) RX9 w_X9common := F
  have J_35 : ∀ (k0 : Int32) (σ : VS), b_X9common_35 Q k0 σ → WB p l e (({ frames := 2, cells := 0, slots := 0, locals := 47 } : Room)) s m (#[.ref (B 0), .int p1, .int p2]) below meth c (MQ below (va_Qi (fun r w => ∃ σ' : VS, Q r σ' ∧ w = wc E B σ') (AftU E A) A) (#[.ref (B 0), .int p1, .int p2]) s (({ frames := 2, cells := 0, slots := 0, locals := 47 } : Room)).cells (({ frames := 2, cells := 0, slots := 0, locals := 47 } : Room)).slots A) A E (wc E B) 3 35 [] [.int k0] σ := by
    intro k0 σ hw
    unfold b_X9common_35 at hw
    exact R_iret (Qc := Q) F rfl dX9_common_35 hw
  have J_34 : ∀ (σ : VS), b_X9common_34 Q σ → WB p l e (({ frames := 2, cells := 0, slots := 0, locals := 47 } : Room)) s m (#[.ref (B 0), .int p1, .int p2]) below meth c (MQ below (va_Qi (fun r w => ∃ σ' : VS, Q r σ' ∧ w = wc E B σ') (AftU E A) A) (#[.ref (B 0), .int p1, .int p2]) s (({ frames := 2, cells := 0, slots := 0, locals := 47 } : Room)).cells (({ frames := 2, cells := 0, slots := 0, locals := 47 } : Room)).slots A) A E (wc E B) 3 34 [] [] σ := by
    intro σ hw
    unfold b_X9common_34 at hw
    refine R_iconst F (-1) dX9_common_34 (by decide) ?_
    exact R_sub [] rfl (J_35 (-1) σ hw)
  unfold wp_X9common at hw
  refine R_aload_n F dX9_common_0 rfl 0 rfl ?_
  refine gc_RX9_12_0 F in_X9common dX9_common_1 ?_
  refine R_iload_n F dX9_common_4 rfl 1 rfl ?_
  refine R_callI (As := [.int p1]) (C := RX1) (q0 := 1) (ci := 1) (N := 13) (T := TX1) (fs := cf_1 B) F (ct_X1has l E B _ p1 _ hw) (cwV 1 F.2.2.2.2.2.2.2.2.2.2 g_X9common_X1has_103 rfl rfl rfl (by decide +kernel) ⟨Nat.le_of_ble_eq_true rfl, Nat.le_of_ble_eq_true rfl⟩) ⟨rfl, rfl⟩ rfl (fun _ => rfl) rfl rfl (Nat.le_of_ble_eq_true rfl) dX9_common_5 (fun r1 σ2 hw => ?_)
  refine R_if_eq (tgt := 34) F dX9_common_8 (by decide) (fun hc => ?_) (fun hc => ?_)
  · replace hw := hw.1 hc
    exact R_sub [] rfl (J_34 σ2 hw)
  · replace hw := hw.2 hc
    refine R_aload_n F dX9_common_11 rfl 0 rfl ?_
    refine gc_RX9_12_0 F in_X9common dX9_common_12 ?_
    refine R_iload_n F dX9_common_15 rfl 2 rfl ?_
    refine R_callI (As := [.int p2]) (C := RX1) (q0 := 1) (ci := 1) (N := 13) (T := TX1) (fs := cf_1 B) F (ct_X1has l E B _ p2 _ hw) (cwV 1 F.2.2.2.2.2.2.2.2.2.2 g_X9common_X1has_103 rfl rfl rfl (by decide +kernel) ⟨Nat.le_of_ble_eq_true rfl, Nat.le_of_ble_eq_true rfl⟩) ⟨rfl, rfl⟩ rfl (fun _ => rfl) rfl rfl (Nat.le_of_ble_eq_true rfl) dX9_common_16 (fun r3 σ4 hw => ?_)
    refine R_if_eq (tgt := 34) F dX9_common_19 (by decide) (fun hc => ?_) (fun hc => ?_)
    · replace hw := hw.1 hc
      exact R_sub [] rfl (J_34 σ4 hw)
    · replace hw := hw.2 hc
      refine R_aload_n F dX9_common_22 rfl 0 rfl ?_
      refine gc_RX9_58_0 F in_X9common dX9_common_23 ?_
      refine R_iload_n F dX9_common_26 rfl 1 rfl ?_
      refine R_iload_n F dX9_common_27 rfl 2 rfl ?_
      refine R_callI (As := [.int p1, .int p2]) (C := RX2) (q0 := 7) (ci := 2) (N := 13) (T := TX2) (fs := cf_7 B) F (ct_X2sharedOf l E B _ p1 p2 _ hw) (cwV 2 F.2.2.2.2.2.2.2.2.2.2 g_X9common_X2sharedOf_280 rfl rfl rfl (by decide +kernel) ⟨Nat.le_of_ble_eq_true rfl, Nat.le_of_ble_eq_true rfl⟩) ⟨rfl, rfl⟩ rfl (fun _ => rfl) rfl rfl (Nat.le_of_ble_eq_true rfl) dX9_common_28 (fun r5 σ6 hw => ?_)
      refine R_goto (tgt := 35) F dX9_common_31 (by decide) ?_
      exact R_sub [] rfl (J_35 r5 σ6 hw)
def b_X9least_38 (Q : Int32 → VS → Prop) (k0 : Int32) (σ : VS) : Prop := Q k0 σ
def wp_X9least (Q : Int32 → VS → Prop) (p1 : Int32) (σ : VS) : Prop := wp_X9within (fun (r1 : Int32) (σ2 : VS) => ((r1.toInt ≠ 0 → wp_X9refreshRace (fun (σ4 : VS) => ((p1.toInt < (σ4.1 10).toInt → b_X9least_38 Q 0 σ4) ∧ ((σ4.1 10).toInt ≤ p1.toInt → b_X9least_38 Q (σ4.1 10) σ4))) σ2) ∧ (r1.toInt = 0 → Q (-1) σ2))) p1 1 1000000 σ
theorem dX9_least_0 : decode cX9_least 0 = .ok (.iload_n 1, 1) := by decide +kernel
theorem dX9_least_1 : decode cX9_least 1 = .ok (.iconst 1, 1) := by decide +kernel
theorem dX9_least_2 : decode cX9_least 2 = .ok (.ldc 177, 2) := by decide +kernel
theorem dX9_least_4 : decode cX9_least 4 = .ok (.invokestatic 88, 3) := by decide +kernel
theorem dX9_least_7 : decode cX9_least 7 = .ok (.ifCond .ne 5, 3) := by decide +kernel
theorem dX9_least_12 : decode cX9_least 12 = .ok (.aload_n 0, 1) := by decide +kernel
theorem dX9_least_13 : decode cX9_least 13 = .ok (.invokevirtual 239, 3) := by decide +kernel
theorem dX9_least_16 : decode cX9_least 16 = .ok (.aload_n 0, 1) := by decide +kernel
theorem dX9_least_17 : decode cX9_least 17 = .ok (.getfield 58, 3) := by decide +kernel
theorem dX9_least_20 : decode cX9_least 20 = .ok (.getfield 283, 3) := by decide +kernel
theorem dX9_least_23 : decode cX9_least 23 = .ok (.iload_n 1, 1) := by decide +kernel
theorem dX9_least_24 : decode cX9_least 24 = .ok (.if_icmp .gt 13, 3) := by decide +kernel
theorem dX9_least_37 : decode cX9_least 37 = .ok (.iconst 0, 1) := by decide +kernel
theorem dX9_least_27 : decode cX9_least 27 = .ok (.aload_n 0, 1) := by decide +kernel
theorem dX9_least_28 : decode cX9_least 28 = .ok (.getfield 58, 3) := by decide +kernel
theorem dX9_least_31 : decode cX9_least 31 = .ok (.getfield 283, 3) := by decide +kernel
theorem dX9_least_34 : decode cX9_least 34 = .ok (.goto 4, 3) := by decide +kernel
theorem dX9_least_10 : decode cX9_least 10 = .ok (.iconst (-1), 1) := by decide +kernel
theorem dX9_least_11 : decode cX9_least 11 = .ok (.ireturn, 1) := by decide +kernel
theorem dX9_least_38 : decode cX9_least 38 = .ok (.ireturn, 1) := by decide +kernel
def wo_X9least : List Cond := [.code yX9_least cX9_least 2 (some .int), .constant RX9 177 1000000, .methodLink RX9 88 yX9_within, .static yX9_within, .initialized RX9, .methodLink RX9 239 yX9_refreshRace, .instanceMethod yX9_refreshRace, .selects RX9 yX9_refreshRace yX9_refreshRace]
def wr_X9least : List Cond := (wfC ++ (w_X9within ++ (w_X9refreshRace ++ ([]))))
def w_X9least : List Cond := wo_X9least ++ wr_X9least
theorem wg_X9least : GW w_X9least := GW_app (GW_of (by decide +kernel)) (GW_app (wg_fC) (GW_app (wg_X9within) (GW_app (wg_X9refreshRace) (GW_nil))))
theorem in_X9least : ∀ w ∈ wfC, w ∈ w_X9least := fun _ h => List.mem_append_right _ (List.mem_append_left _ h)
theorem g_X9least_X9within_88 : GoodIn w_X9least (va_wsS RX9 88 yX9_within w_X9within) := goodIn_app (gi_left (goodIn_of _ (by decide +kernel))) (fun w h => ⟨List.mem_append_right _ (List.mem_append_right _ (List.mem_append_left _ h)), wg_X9within w h⟩)
theorem g_X9least_X9refreshRace_239 : GoodIn w_X9least (wsV RX9 239 RX9 yX9_refreshRace w_X9refreshRace) := goodIn_app (gi_left (goodIn_of _ (by decide +kernel))) (fun w h => ⟨List.mem_append_right _ (List.mem_append_right _ (List.mem_append_right _ (List.mem_append_left _ h))), wg_X9refreshRace w h⟩)
set_option maxHeartbeats 4000000 in
set_option maxRecDepth 100000 in
theorem ct_X9least (l : Launch) (E : gE) (B : Nat → Nat) (Q : Int32 → VS → Prop) (p1 : Int32) (σ : VS) (hw : wp_X9least Q p1 σ) : CtI l E yX9_least w_X9least (({ frames := 6, cells := 0, slots := 0, locals := 168 } : Room)) (wc E B σ) [.ref (B 0), .int p1] (fun r w => ∃ σ' : VS, Q r σ' ∧ w = wc E B σ') := by
  refine VC_I (cc := cX9_least) (mL := 2) (rt := (some .int)) (lv0 := [(0, .ref (B 0)), (1, .int p1)]) rfl (by decide) rfl (Nat.le_of_ble_eq_true rfl) ?_
  intro p e s m below meth c A F
  replace F : Fx p s m _ meth c A E cX9_least 2 (some .int) RX9 w_X9least := F
  have J_38 : ∀ (k0 : Int32) (σ : VS), b_X9least_38 Q k0 σ → WB p l e (({ frames := 6, cells := 0, slots := 0, locals := 168 } : Room)) s m (#[.ref (B 0), .int p1]) below meth c (MQ below (va_Qi (fun r w => ∃ σ' : VS, Q r σ' ∧ w = wc E B σ') (AftU E A) A) (#[.ref (B 0), .int p1]) s (({ frames := 6, cells := 0, slots := 0, locals := 168 } : Room)).cells (({ frames := 6, cells := 0, slots := 0, locals := 168 } : Room)).slots A) A E (wc E B) 2 38 [] [.int k0] σ := by
    intro k0 σ hw
    unfold b_X9least_38 at hw
    exact R_iret (Qc := Q) F rfl dX9_least_38 hw
  unfold wp_X9least at hw
  refine R_iload_n F dX9_least_0 rfl 1 rfl ?_
  refine R_iconst F 1 dX9_least_1 (by decide) ?_
  refine R_ldc F 1000000 (List.mem_append_left _ (show Cond.constant RX9 177 1000000 ∈ wo_X9least by decide +kernel)) dX9_least_2 ?_
  refine R_callIS (As := [.int p1, .int 1, .int 1000000]) (C := RX10) (q0 := 0) (ci := 10) (b := 0) (N := 69) (T := TX10) (fs := fun _ => []) F (ct_X9within l E B _ p1 1 1000000 _ hw) (va_cwS 3 F.2.2.2.2.2.2.2.2.2.2 g_X9least_X9within_88 rfl rfl rfl (by decide +kernel) ⟨Nat.le_of_ble_eq_true rfl, Nat.le_of_ble_eq_true rfl⟩) ⟨rfl, rfl⟩ rfl rfl (Nat.le_of_ble_eq_true rfl) dX9_least_4 (fun r1 σ2 hw => ?_)
  refine R_if_ne (tgt := 12) F dX9_least_7 (by decide) (fun hc => ?_) (fun hc => ?_)
  · replace hw := hw.1 hc
    refine R_aload_n F dX9_least_12 rfl 0 rfl ?_
    refine R_callV (As := []) (C := RX9) (q0 := 0) (ci := 9) (N := 12) (T := TX9) (fs := cf_0 B) F (ct_X9refreshRace l E B _ _ hw) (cwV 0 F.2.2.2.2.2.2.2.2.2.2 g_X9least_X9refreshRace_239 rfl rfl rfl (by decide +kernel) ⟨Nat.le_of_ble_eq_true rfl, Nat.le_of_ble_eq_true rfl⟩) ⟨rfl, rfl⟩ rfl (fun _ => rfl) rfl rfl (Nat.le_of_ble_eq_true rfl) dX9_least_13 (fun σ4 hw => ?_)
    refine R_aload_n F dX9_least_16 rfl 0 rfl ?_
    refine gc_RX9_58_0 F in_X9least dX9_least_17 ?_
    refine gc_RX9_283_7 F in_X9least dX9_least_20 ?_
    refine R_iload_n F dX9_least_23 rfl 1 rfl ?_
    refine R_icmp_gt (tgt := 37) F dX9_least_24 (by decide) (fun hc => ?_) (fun hc => ?_)
    · replace hw := hw.1 hc
      refine R_iconst F 0 dX9_least_37 (by decide) ?_
      exact R_sub [] rfl (J_38 0 σ4 hw)
    · replace hw := hw.2 hc
      refine R_aload_n F dX9_least_27 rfl 0 rfl ?_
      refine gc_RX9_58_0 F in_X9least dX9_least_28 ?_
      refine gc_RX9_283_7 F in_X9least dX9_least_31 ?_
      refine R_goto (tgt := 38) F dX9_least_34 (by decide) ?_
      exact R_sub [] rfl (J_38 (σ4.1 10) σ4 hw)
  · replace hw := hw.2 hc
    refine R_iconst F (-1) dX9_least_10 (by decide) ?_
    exact R_iret (Qc := Q) F rfl dX9_least_11 hw
def b_X9fix_58 (X2 : Int32 → VS → Prop) (Q : Int32 → VS → Prop) (l1 : Int32) (σ : VS) : Prop := Q l1 σ
def b_X9fix_2 (X2 : Int32 → VS → Prop) (Q : Int32 → VS → Prop) (l1 : Int32) (σ : VS) : Prop := ((100 ≤ l1.toInt → Q 100 σ) ∧ (l1.toInt < 100 → wp_X9refreshRace (fun (σ2 : VS) => wp_X2leastOfS (fun (r3 : Int32) (σ4 : VS) => ((r3.toInt < 0 → b_X9fix_58 X2 Q l1 σ4) ∧ (0 ≤ r3.toInt → (In r3 50 ∧ ((0 ≤ (rd σ4 51 r3).toInt → b_X9fix_58 X2 Q l1 σ4) ∧ ((rd σ4 51 r3).toInt < 0 → (In r3 50 ∧ (((rd σ4 50 r3).toInt < 1000 → wp_X7traceT (fun (σ6 : VS) => wp_X9growOneOfTrial (fun (r7 : Int32) (σ8 : VS) => ((r7.toInt ≠ 0 → X2 (l1 + 1) σ8) ∧ (r7.toInt = 0 → Q l1 σ8))) σ6) r3 0 σ4) ∧ (1000 ≤ (rd σ4 50 r3).toInt → b_X9fix_58 X2 Q l1 σ4))))))))) σ2) σ))
def wp_X9fix (Q : Int32 → VS → Prop) (σ : VS) : Prop := ∀ (X2 : Int32 → VS → Prop), (∀ (l1 : Int32) (σ : VS), b_X9fix_2 X2 Q l1 σ → X2 l1 σ) → X2 0 σ
theorem dX9_fix_0 : decode cX9_fix 0 = .ok (.iconst 0, 1) := by decide +kernel
theorem dX9_fix_1 : decode cX9_fix 1 = .ok (.istore_n 1, 1) := by decide +kernel
theorem dX9_fix_2 : decode cX9_fix 2 = .ok (.iload_n 1, 1) := by decide +kernel
theorem dX9_fix_3 : decode cX9_fix 3 = .ok (.bipush 100, 2) := by decide +kernel
theorem dX9_fix_5 : decode cX9_fix 5 = .ok (.if_icmp .ge 83, 3) := by decide +kernel
theorem dX9_fix_88 : decode cX9_fix 88 = .ok (.bipush 100, 2) := by decide +kernel
theorem dX9_fix_90 : decode cX9_fix 90 = .ok (.ireturn, 1) := by decide +kernel
theorem dX9_fix_8 : decode cX9_fix 8 = .ok (.aload_n 0, 1) := by decide +kernel
theorem dX9_fix_9 : decode cX9_fix 9 = .ok (.invokevirtual 239, 3) := by decide +kernel
theorem dX9_fix_12 : decode cX9_fix 12 = .ok (.aload_n 0, 1) := by decide +kernel
theorem dX9_fix_13 : decode cX9_fix 13 = .ok (.getfield 58, 3) := by decide +kernel
theorem dX9_fix_16 : decode cX9_fix 16 = .ok (.aload_n 0, 1) := by decide +kernel
theorem dX9_fix_17 : decode cX9_fix 17 = .ok (.getfield 58, 3) := by decide +kernel
theorem dX9_fix_20 : decode cX9_fix 20 = .ok (.getfield 251, 3) := by decide +kernel
theorem dX9_fix_23 : decode cX9_fix 23 = .ok (.invokevirtual 258, 3) := by decide +kernel
theorem dX9_fix_26 : decode cX9_fix 26 = .ok (.istore_n 2, 1) := by decide +kernel
theorem dX9_fix_27 : decode cX9_fix 27 = .ok (.iload_n 2, 1) := by decide +kernel
theorem dX9_fix_28 : decode cX9_fix 28 = .ok (.ifCond .lt 30, 3) := by decide +kernel
theorem dX9_fix_31 : decode cX9_fix 31 = .ok (.aload_n 0, 1) := by decide +kernel
theorem dX9_fix_32 : decode cX9_fix 32 = .ok (.getfield 58, 3) := by decide +kernel
theorem dX9_fix_35 : decode cX9_fix 35 = .ok (.getfield 251, 3) := by decide +kernel
theorem dX9_fix_38 : decode cX9_fix 38 = .ok (.iload_n 2, 1) := by decide +kernel
theorem dX9_fix_39 : decode cX9_fix 39 = .ok (.iaload, 1) := by decide +kernel
theorem dX9_fix_40 : decode cX9_fix 40 = .ok (.ifCond .ge 18, 3) := by decide +kernel
theorem dX9_fix_43 : decode cX9_fix 43 = .ok (.aload_n 0, 1) := by decide +kernel
theorem dX9_fix_44 : decode cX9_fix 44 = .ok (.getfield 58, 3) := by decide +kernel
theorem dX9_fix_47 : decode cX9_fix 47 = .ok (.getfield 245, 3) := by decide +kernel
theorem dX9_fix_50 : decode cX9_fix 50 = .ok (.iload_n 2, 1) := by decide +kernel
theorem dX9_fix_51 : decode cX9_fix 51 = .ok (.iaload, 1) := by decide +kernel
theorem dX9_fix_52 : decode cX9_fix 52 = .ok (.sipush 1000, 3) := by decide +kernel
theorem dX9_fix_55 : decode cX9_fix 55 = .ok (.if_icmp .lt 5, 3) := by decide +kernel
theorem dX9_fix_60 : decode cX9_fix 60 = .ok (.aload_n 0, 1) := by decide +kernel
theorem dX9_fix_61 : decode cX9_fix 61 = .ok (.getfield 67, 3) := by decide +kernel
theorem dX9_fix_64 : decode cX9_fix 64 = .ok (.iload_n 2, 1) := by decide +kernel
theorem dX9_fix_65 : decode cX9_fix 65 = .ok (.iconst 0, 1) := by decide +kernel
theorem dX9_fix_66 : decode cX9_fix 66 = .ok (.aload_n 0, 1) := by decide +kernel
theorem dX9_fix_67 : decode cX9_fix 67 = .ok (.getfield 78, 3) := by decide +kernel
theorem dX9_fix_70 : decode cX9_fix 70 = .ok (.invokevirtual 262, 3) := by decide +kernel
theorem dX9_fix_73 : decode cX9_fix 73 = .ok (.aload_n 0, 1) := by decide +kernel
theorem dX9_fix_74 : decode cX9_fix 74 = .ok (.invokevirtual 286, 3) := by decide +kernel
theorem dX9_fix_77 : decode cX9_fix 77 = .ok (.ifCond .ne 5, 3) := by decide +kernel
theorem dX9_fix_82 : decode cX9_fix 82 = .ok (.iinc 1 1, 3) := by decide +kernel
theorem dX9_fix_85 : decode cX9_fix 85 = .ok (.goto (-83), 3) := by decide +kernel
theorem dX9_fix_80 : decode cX9_fix 80 = .ok (.iload_n 1, 1) := by decide +kernel
theorem dX9_fix_81 : decode cX9_fix 81 = .ok (.ireturn, 1) := by decide +kernel
theorem dX9_fix_58 : decode cX9_fix 58 = .ok (.iload_n 1, 1) := by decide +kernel
theorem dX9_fix_59 : decode cX9_fix 59 = .ok (.ireturn, 1) := by decide +kernel
def wo_X9fix : List Cond := [.code yX9_fix cX9_fix 3 (some .int), .methodLink RX9 239 yX9_refreshRace, .instanceMethod yX9_refreshRace, .selects RX9 yX9_refreshRace yX9_refreshRace, .initialized RX9, .methodLink RX9 258 yX2_leastOf, .instanceMethod yX2_leastOf, .selects RX2 yX2_leastOf yX2_leastOf, .initialized RX2, .methodLink RX9 262 yX7_trace, .instanceMethod yX7_trace, .selects RX7 yX7_trace yX7_trace, .initialized RX7, .methodLink RX9 286 yX9_growOneOfTrial, .instanceMethod yX9_growOneOfTrial, .selects RX9 yX9_growOneOfTrial yX9_growOneOfTrial]
def wr_X9fix : List Cond := (wfC ++ (w_X9refreshRace ++ (w_X2leastOfS ++ (w_X7traceT ++ (w_X9growOneOfTrial ++ ([]))))))
def w_X9fix : List Cond := wo_X9fix ++ wr_X9fix
theorem wg_X9fix : GW w_X9fix := GW_app (GW_of (by decide +kernel)) (GW_app (wg_fC) (GW_app (wg_X9refreshRace) (GW_app (wg_X2leastOfS) (GW_app (wg_X7traceT) (GW_app (wg_X9growOneOfTrial) (GW_nil))))))
theorem in_X9fix : ∀ w ∈ wfC, w ∈ w_X9fix := fun _ h => List.mem_append_right _ (List.mem_append_left _ h)
theorem g_X9fix_X9refreshRace_239 : GoodIn w_X9fix (wsV RX9 239 RX9 yX9_refreshRace w_X9refreshRace) := goodIn_app (gi_left (goodIn_of _ (by decide +kernel))) (fun w h => ⟨List.mem_append_right _ (List.mem_append_right _ (List.mem_append_left _ h)), wg_X9refreshRace w h⟩)
theorem g_X9fix_X2leastOfS_258 : GoodIn w_X9fix (wsV RX9 258 RX2 yX2_leastOf w_X2leastOfS) := goodIn_app (gi_left (goodIn_of _ (by decide +kernel))) (fun w h => ⟨List.mem_append_right _ (List.mem_append_right _ (List.mem_append_right _ (List.mem_append_left _ h))), wg_X2leastOfS w h⟩)
theorem g_X9fix_X7traceT_262 : GoodIn w_X9fix (wsV RX9 262 RX7 yX7_trace w_X7traceT) := goodIn_app (gi_left (goodIn_of _ (by decide +kernel))) (fun w h => ⟨List.mem_append_right _ (List.mem_append_right _ (List.mem_append_right _ (List.mem_append_right _ (List.mem_append_left _ h)))), wg_X7traceT w h⟩)
theorem g_X9fix_X9growOneOfTrial_286 : GoodIn w_X9fix (wsV RX9 286 RX9 yX9_growOneOfTrial w_X9growOneOfTrial) := goodIn_app (gi_left (goodIn_of _ (by decide +kernel))) (fun w h => ⟨List.mem_append_right _ (List.mem_append_right _ (List.mem_append_right _ (List.mem_append_right _ (List.mem_append_right _ (List.mem_append_left _ h))))), wg_X9growOneOfTrial w h⟩)
set_option maxHeartbeats 4000000 in
set_option maxRecDepth 100000 in
theorem ct_X9fix (l : Launch) (E : gE) (B : Nat → Nat) (Q : Int32 → VS → Prop) (σ : VS) (hw : wp_X9fix Q σ) : CtI l E yX9_fix w_X9fix (({ frames := 7, cells := 0, slots := 0, locals := 192 } : Room)) (wc E B σ) [.ref (B 0)] (fun r w => ∃ σ' : VS, Q r σ' ∧ w = wc E B σ') := by
  refine VC_I (cc := cX9_fix) (mL := 3) (rt := (some .int)) (lv0 := [(0, .ref (B 0))]) rfl (by decide) rfl (Nat.le_of_ble_eq_true rfl) ?_
  intro p e s m below meth c A F
  replace F : Fx p s m _ meth c A E cX9_fix 3 (some .int) RX9 w_X9fix := F
  obtain ⟨X2, hX2⟩ : ∃ X : Int32 → VS → Prop, X = fun l1 σ => WB p l e (({ frames := 7, cells := 0, slots := 0, locals := 192 } : Room)) s m (#[.ref (B 0)]) below meth c (MQ below (va_Qi (fun r w => ∃ σ' : VS, Q r σ' ∧ w = wc E B σ') (AftU E A) A) (#[.ref (B 0)]) s (({ frames := 7, cells := 0, slots := 0, locals := 192 } : Room)).cells (({ frames := 7, cells := 0, slots := 0, locals := 192 } : Room)).slots A) A E (wc E B) 3 2 [(0, .ref (B 0)), (1, .int l1)] [] σ := ⟨_, rfl⟩
  have U_2 : ∀ (l1 : Int32) (σ : VS), X2 l1 σ → WB p l e (({ frames := 7, cells := 0, slots := 0, locals := 192 } : Room)) s m (#[.ref (B 0)]) below meth c (MQ below (va_Qi (fun r w => ∃ σ' : VS, Q r σ' ∧ w = wc E B σ') (AftU E A) A) (#[.ref (B 0)]) s (({ frames := 7, cells := 0, slots := 0, locals := 192 } : Room)).cells (({ frames := 7, cells := 0, slots := 0, locals := 192 } : Room)).slots A) A E (wc E B) 3 2 [(0, .ref (B 0)), (1, .int l1)] [] σ := by
    intro l1 σ hw; rw [hX2] at hw; exact hw
  have J_58 : ∀ (l1 : Int32) (σ : VS), b_X9fix_58 X2 Q l1 σ → WB p l e (({ frames := 7, cells := 0, slots := 0, locals := 192 } : Room)) s m (#[.ref (B 0)]) below meth c (MQ below (va_Qi (fun r w => ∃ σ' : VS, Q r σ' ∧ w = wc E B σ') (AftU E A) A) (#[.ref (B 0)]) s (({ frames := 7, cells := 0, slots := 0, locals := 192 } : Room)).cells (({ frames := 7, cells := 0, slots := 0, locals := 192 } : Room)).slots A) A E (wc E B) 3 58 [(1, .int l1)] [] σ := by
    intro l1 σ hw
    unfold b_X9fix_58 at hw
    refine R_iload_n F dX9_fix_58 rfl 0 rfl ?_
    exact R_iret (Qc := Q) F rfl dX9_fix_59 hw
  have C_2 : ∀ (l1 : Int32) (σ : VS), b_X9fix_2 X2 Q l1 σ → X2 l1 σ := by
    intro l1 σ hw
    unfold b_X9fix_2 at hw
    rw [hX2]
    show WB p l e (({ frames := 7, cells := 0, slots := 0, locals := 192 } : Room)) s m (#[.ref (B 0)]) below meth c (MQ below (va_Qi (fun r w => ∃ σ' : VS, Q r σ' ∧ w = wc E B σ') (AftU E A) A) (#[.ref (B 0)]) s (({ frames := 7, cells := 0, slots := 0, locals := 192 } : Room)).cells (({ frames := 7, cells := 0, slots := 0, locals := 192 } : Room)).slots A) A E (wc E B) 3 2 [(0, .ref (B 0)), (1, .int l1)] [] σ
    refine R_iload_n F dX9_fix_2 rfl 1 rfl ?_
    refine R_bipush F 100 dX9_fix_3 (by decide) ?_
    refine R_icmp_ge (tgt := 88) F dX9_fix_5 (by decide) (fun hc => ?_) (fun hc => ?_)
    · replace hw := hw.1 hc
      refine R_bipush F 100 dX9_fix_88 (by decide) ?_
      exact R_iret (Qc := Q) F rfl dX9_fix_90 hw
    · replace hw := hw.2 hc
      refine R_aload_n F dX9_fix_8 rfl 0 rfl ?_
      refine R_callV (As := []) (C := RX9) (q0 := 0) (ci := 9) (N := 12) (T := TX9) (fs := cf_0 B) F (ct_X9refreshRace l E B _ _ hw) (cwV 0 F.2.2.2.2.2.2.2.2.2.2 g_X9fix_X9refreshRace_239 rfl rfl rfl (by decide +kernel) ⟨Nat.le_of_ble_eq_true rfl, Nat.le_of_ble_eq_true rfl⟩) ⟨rfl, rfl⟩ rfl (fun _ => rfl) rfl rfl (Nat.le_of_ble_eq_true rfl) dX9_fix_9 (fun σ2 hw => ?_)
      refine R_aload_n F dX9_fix_12 rfl 0 rfl ?_
      refine gc_RX9_58_0 F in_X9fix dX9_fix_13 ?_
      refine R_aload_n F dX9_fix_16 rfl 0 rfl ?_
      refine gc_RX9_58_0 F in_X9fix dX9_fix_17 ?_
      refine gc_RX9_251_7 F in_X9fix dX9_fix_20 ?_
      refine R_callI (As := [.ref (B 51)]) (C := RX2) (q0 := 7) (ci := 2) (N := 13) (T := TX2) (fs := cf_7 B) F (ct_X2leastOfS l E B _ _ hw) (cwV 1 F.2.2.2.2.2.2.2.2.2.2 g_X9fix_X2leastOfS_258 rfl rfl rfl (by decide +kernel) ⟨Nat.le_of_ble_eq_true rfl, Nat.le_of_ble_eq_true rfl⟩) ⟨rfl, rfl⟩ rfl (fun _ => rfl) rfl rfl (Nat.le_of_ble_eq_true rfl) dX9_fix_23 (fun r3 σ4 hw => ?_)
      refine R_istore_n (lv' := [(2, .int r3), (0, .ref (B 0)), (1, .int l1)]) F dX9_fix_26 rfl (by decide) rfl ?_
      refine R_iload_n F dX9_fix_27 rfl 0 rfl ?_
      refine R_if_lt (tgt := 58) F dX9_fix_28 (by decide) (fun hc => ?_) (fun hc => ?_)
      · replace hw := hw.1 hc
        exact R_sub [2] rfl (J_58 l1 σ4 hw)
      · replace hw := hw.2 hc
        refine R_aload_n F dX9_fix_31 rfl 1 rfl ?_
        refine gc_RX9_58_0 F in_X9fix dX9_fix_32 ?_
        refine gc_RX9_251_7 F in_X9fix dX9_fix_35 ?_
        refine R_iload_n F dX9_fix_38 rfl 0 rfl ?_
        refine R_ldi F qc_51 dX9_fix_39 hw.1 ?_
        replace hw := hw.2
        refine R_if_ge (tgt := 58) F dX9_fix_40 (by decide) (fun hc => ?_) (fun hc => ?_)
        · replace hw := hw.1 hc
          exact R_sub [2] rfl (J_58 l1 σ4 hw)
        · replace hw := hw.2 hc
          refine R_aload_n F dX9_fix_43 rfl 1 rfl ?_
          refine gc_RX9_58_0 F in_X9fix dX9_fix_44 ?_
          refine gc_RX9_245_7 F in_X9fix dX9_fix_47 ?_
          refine R_iload_n F dX9_fix_50 rfl 0 rfl ?_
          refine R_ldi F qc_50 dX9_fix_51 hw.1 ?_
          replace hw := hw.2
          refine R_sipush F 1000 dX9_fix_52 (by decide) ?_
          refine R_icmp_lt (tgt := 60) F dX9_fix_55 (by decide) (fun hc => ?_) (fun hc => ?_)
          · replace hw := hw.1 hc
            refine R_aload_n F dX9_fix_60 rfl 1 rfl ?_
            refine gc_RX9_67_0 F in_X9fix dX9_fix_61 ?_
            refine R_iload_n F dX9_fix_64 rfl 0 rfl ?_
            refine R_iconst F 0 dX9_fix_65 (by decide) ?_
            refine R_aload_n F dX9_fix_66 rfl 1 rfl ?_
            refine gc_RX9_78_0 F in_X9fix dX9_fix_67 ?_
            refine R_callV (As := [.int r3, .int 0, .ref (B 10)]) (C := RX7) (q0 := 8) (ci := 7) (N := 12) (T := TX7) (fs := cf_8 B) F (ct_X7traceT l E B _ r3 0 _ hw) (cwV 3 F.2.2.2.2.2.2.2.2.2.2 g_X9fix_X7traceT_262 rfl rfl rfl (by decide +kernel) ⟨Nat.le_of_ble_eq_true rfl, Nat.le_of_ble_eq_true rfl⟩) ⟨rfl, rfl⟩ rfl (fun _ => rfl) rfl rfl (Nat.le_of_ble_eq_true rfl) dX9_fix_70 (fun σ6 hw => ?_)
            refine R_aload_n F dX9_fix_73 rfl 1 rfl ?_
            refine R_callI (As := []) (C := RX9) (q0 := 0) (ci := 9) (N := 12) (T := TX9) (fs := cf_0 B) F (ct_X9growOneOfTrial l E B _ _ hw) (cwV 0 F.2.2.2.2.2.2.2.2.2.2 g_X9fix_X9growOneOfTrial_286 rfl rfl rfl (by decide +kernel) ⟨Nat.le_of_ble_eq_true rfl, Nat.le_of_ble_eq_true rfl⟩) ⟨rfl, rfl⟩ rfl (fun _ => rfl) rfl rfl (Nat.le_of_ble_eq_true rfl) dX9_fix_74 (fun r7 σ8 hw => ?_)
            refine R_if_ne (tgt := 82) F dX9_fix_77 (by decide) (fun hc => ?_) (fun hc => ?_)
            · replace hw := hw.1 hc
              refine R_iinc (q := 2) (v := (l1 + 1)) (lv' := [(1, .int (l1 + 1)), (2, .int r3), (0, .ref (B 0))]) F dX9_fix_82 rfl rfl (by decide) rfl ?_
              refine R_goto (tgt := 2) F dX9_fix_85 (by decide) ?_
              exact R_sub [2, 0] rfl (U_2 (l1 + 1) σ8 hw)
            · replace hw := hw.2 hc
              refine R_iload_n F dX9_fix_80 rfl 2 rfl ?_
              exact R_iret (Qc := Q) F rfl dX9_fix_81 hw
          · replace hw := hw.2 hc
            exact R_sub [2] rfl (J_58 l1 σ4 hw)
  unfold wp_X9fix at hw
  replace hw := hw X2 C_2
  refine R_iconst F 0 dX9_fix_0 (by decide) ?_
  refine R_istore_n (lv' := [(1, .int 0), (0, .ref (B 0))]) F dX9_fix_1 rfl (by decide) rfl ?_
  exact R_sub [1, 0] rfl (U_2 0 σ hw)
def b_X9area_50 (X4 : Int32 → Int32 → VS → Prop) (Q : Int32 → VS → Prop) (l1 : Int32) (l2 : Int32) (σ : VS) : Prop := X4 l1 (l2 + 1) σ
def b_X9area_4 (X4 : Int32 → Int32 → VS → Prop) (Q : Int32 → VS → Prop) (l1 : Int32) (l2 : Int32) (σ : VS) : Prop := (((σ.1 2).toInt ≤ l2.toInt → Q l1 σ) ∧ (l2.toInt < (σ.1 2).toInt → wp_X1hasSize (fun (r1 : Int32) (σ2 : VS) => ((r1.toInt = 0 → b_X9area_50 X4 Q l1 l2 σ2) ∧ (r1.toInt ≠ 0 → (In l2 50 ∧ (In l2 50 ∧ (∀ x3 : Int32, x3 = (l1 + ((1 + (rd σ2 14 l2)) * (rd σ2 12 l2))) → b_X9area_50 X4 Q x3 l2 σ2)))))) l2 σ))
def wp_X9area (Q : Int32 → VS → Prop) (σ : VS) : Prop := ∀ (X4 : Int32 → Int32 → VS → Prop), (∀ (l1 : Int32) (l2 : Int32) (σ : VS), b_X9area_4 X4 Q l1 l2 σ → X4 l1 l2 σ) → X4 0 0 σ
theorem dX9_area_0 : decode cX9_area 0 = .ok (.iconst 0, 1) := by decide +kernel
theorem dX9_area_1 : decode cX9_area 1 = .ok (.istore_n 1, 1) := by decide +kernel
theorem dX9_area_2 : decode cX9_area 2 = .ok (.iconst 0, 1) := by decide +kernel
theorem dX9_area_3 : decode cX9_area 3 = .ok (.istore_n 2, 1) := by decide +kernel
theorem dX9_area_4 : decode cX9_area 4 = .ok (.iload_n 2, 1) := by decide +kernel
theorem dX9_area_5 : decode cX9_area 5 = .ok (.aload_n 0, 1) := by decide +kernel
theorem dX9_area_6 : decode cX9_area 6 = .ok (.getfield 12, 3) := by decide +kernel
theorem dX9_area_9 : decode cX9_area 9 = .ok (.getfield 92, 3) := by decide +kernel
theorem dX9_area_12 : decode cX9_area 12 = .ok (.if_icmp .ge 44, 3) := by decide +kernel
theorem dX9_area_56 : decode cX9_area 56 = .ok (.iload_n 1, 1) := by decide +kernel
theorem dX9_area_57 : decode cX9_area 57 = .ok (.ireturn, 1) := by decide +kernel
theorem dX9_area_15 : decode cX9_area 15 = .ok (.aload_n 0, 1) := by decide +kernel
theorem dX9_area_16 : decode cX9_area 16 = .ok (.getfield 12, 3) := by decide +kernel
theorem dX9_area_19 : decode cX9_area 19 = .ok (.iload_n 2, 1) := by decide +kernel
theorem dX9_area_20 : decode cX9_area 20 = .ok (.invokevirtual 122, 3) := by decide +kernel
theorem dX9_area_23 : decode cX9_area 23 = .ok (.ifCond .eq 27, 3) := by decide +kernel
theorem dX9_area_26 : decode cX9_area 26 = .ok (.iload_n 1, 1) := by decide +kernel
theorem dX9_area_27 : decode cX9_area 27 = .ok (.iconst 1, 1) := by decide +kernel
theorem dX9_area_28 : decode cX9_area 28 = .ok (.aload_n 0, 1) := by decide +kernel
theorem dX9_area_29 : decode cX9_area 29 = .ok (.getfield 12, 3) := by decide +kernel
theorem dX9_area_32 : decode cX9_area 32 = .ok (.getfield 125, 3) := by decide +kernel
theorem dX9_area_35 : decode cX9_area 35 = .ok (.iload_n 2, 1) := by decide +kernel
theorem dX9_area_36 : decode cX9_area 36 = .ok (.iaload, 1) := by decide +kernel
theorem dX9_area_37 : decode cX9_area 37 = .ok (.iadd, 1) := by decide +kernel
theorem dX9_area_38 : decode cX9_area 38 = .ok (.aload_n 0, 1) := by decide +kernel
theorem dX9_area_39 : decode cX9_area 39 = .ok (.getfield 12, 3) := by decide +kernel
theorem dX9_area_42 : decode cX9_area 42 = .ok (.getfield 200, 3) := by decide +kernel
theorem dX9_area_45 : decode cX9_area 45 = .ok (.iload_n 2, 1) := by decide +kernel
theorem dX9_area_46 : decode cX9_area 46 = .ok (.iaload, 1) := by decide +kernel
theorem dX9_area_47 : decode cX9_area 47 = .ok (.imul, 1) := by decide +kernel
theorem dX9_area_48 : decode cX9_area 48 = .ok (.iadd, 1) := by decide +kernel
theorem dX9_area_49 : decode cX9_area 49 = .ok (.istore_n 1, 1) := by decide +kernel
theorem dX9_area_50 : decode cX9_area 50 = .ok (.iinc 2 1, 3) := by decide +kernel
theorem dX9_area_53 : decode cX9_area 53 = .ok (.goto (-49), 3) := by decide +kernel
def wo_X9area : List Cond := [.code yX9_area cX9_area 3 (some .int), .methodLink RX9 122 yX1_hasSize, .instanceMethod yX1_hasSize, .selects RX1 yX1_hasSize yX1_hasSize, .initialized RX1]
def wr_X9area : List Cond := (wfC ++ (w_X1hasSize ++ ([])))
def w_X9area : List Cond := wo_X9area ++ wr_X9area
theorem wg_X9area : GW w_X9area := GW_app (GW_of (by decide +kernel)) (GW_app (wg_fC) (GW_app (wg_X1hasSize) (GW_nil)))
theorem in_X9area : ∀ w ∈ wfC, w ∈ w_X9area := fun _ h => List.mem_append_right _ (List.mem_append_left _ h)
theorem g_X9area_X1hasSize_122 : GoodIn w_X9area (wsV RX9 122 RX1 yX1_hasSize w_X1hasSize) := goodIn_app (gi_left (goodIn_of _ (by decide +kernel))) (fun w h => ⟨List.mem_append_right _ (List.mem_append_right _ (List.mem_append_left _ h)), wg_X1hasSize w h⟩)
set_option maxHeartbeats 4000000 in
set_option maxRecDepth 100000 in
theorem ct_X9area (l : Launch) (E : gE) (B : Nat → Nat) (Q : Int32 → VS → Prop) (σ : VS) (hw : wp_X9area Q σ) : CtI l E yX9_area w_X9area (({ frames := 1, cells := 0, slots := 0, locals := 21 } : Room)) (wc E B σ) [.ref (B 0)] (fun r w => ∃ σ' : VS, Q r σ' ∧ w = wc E B σ') := by
  refine VC_I (cc := cX9_area) (mL := 3) (rt := (some .int)) (lv0 := [(0, .ref (B 0))]) rfl (by decide) rfl (Nat.le_of_ble_eq_true rfl) ?_
  intro p e s m below meth c A F
  replace F : Fx p s m _ meth c A E cX9_area 3 (some .int) RX9 w_X9area := F
  obtain ⟨X4, hX4⟩ : ∃ X : Int32 → Int32 → VS → Prop, X = fun l1 l2 σ => WB p l e (({ frames := 1, cells := 0, slots := 0, locals := 21 } : Room)) s m (#[.ref (B 0)]) below meth c (MQ below (va_Qi (fun r w => ∃ σ' : VS, Q r σ' ∧ w = wc E B σ') (AftU E A) A) (#[.ref (B 0)]) s (({ frames := 1, cells := 0, slots := 0, locals := 21 } : Room)).cells (({ frames := 1, cells := 0, slots := 0, locals := 21 } : Room)).slots A) A E (wc E B) 3 4 [(0, .ref (B 0)), (1, .int l1), (2, .int l2)] [] σ := ⟨_, rfl⟩
  have U_4 : ∀ (l1 : Int32) (l2 : Int32) (σ : VS), X4 l1 l2 σ → WB p l e (({ frames := 1, cells := 0, slots := 0, locals := 21 } : Room)) s m (#[.ref (B 0)]) below meth c (MQ below (va_Qi (fun r w => ∃ σ' : VS, Q r σ' ∧ w = wc E B σ') (AftU E A) A) (#[.ref (B 0)]) s (({ frames := 1, cells := 0, slots := 0, locals := 21 } : Room)).cells (({ frames := 1, cells := 0, slots := 0, locals := 21 } : Room)).slots A) A E (wc E B) 3 4 [(0, .ref (B 0)), (1, .int l1), (2, .int l2)] [] σ := by
    intro l1 l2 σ hw; rw [hX4] at hw; exact hw
  have J_50 : ∀ (l1 : Int32) (l2 : Int32) (σ : VS), b_X9area_50 X4 Q l1 l2 σ → WB p l e (({ frames := 1, cells := 0, slots := 0, locals := 21 } : Room)) s m (#[.ref (B 0)]) below meth c (MQ below (va_Qi (fun r w => ∃ σ' : VS, Q r σ' ∧ w = wc E B σ') (AftU E A) A) (#[.ref (B 0)]) s (({ frames := 1, cells := 0, slots := 0, locals := 21 } : Room)).cells (({ frames := 1, cells := 0, slots := 0, locals := 21 } : Room)).slots A) A E (wc E B) 3 50 [(0, .ref (B 0)), (1, .int l1), (2, .int l2)] [] σ := by
    intro l1 l2 σ hw
    unfold b_X9area_50 at hw
    refine R_iinc (q := 2) (v := (l2 + 1)) (lv' := [(2, .int (l2 + 1)), (0, .ref (B 0)), (1, .int l1)]) F dX9_area_50 rfl rfl (by decide) rfl ?_
    refine R_goto (tgt := 4) F dX9_area_53 (by decide) ?_
    exact R_sub [1, 2, 0] rfl (U_4 l1 (l2 + 1) σ hw)
  have C_4 : ∀ (l1 : Int32) (l2 : Int32) (σ : VS), b_X9area_4 X4 Q l1 l2 σ → X4 l1 l2 σ := by
    intro l1 l2 σ hw
    unfold b_X9area_4 at hw
    rw [hX4]
    show WB p l e (({ frames := 1, cells := 0, slots := 0, locals := 21 } : Room)) s m (#[.ref (B 0)]) below meth c (MQ below (va_Qi (fun r w => ∃ σ' : VS, Q r σ' ∧ w = wc E B σ') (AftU E A) A) (#[.ref (B 0)]) s (({ frames := 1, cells := 0, slots := 0, locals := 21 } : Room)).cells (({ frames := 1, cells := 0, slots := 0, locals := 21 } : Room)).slots A) A E (wc E B) 3 4 [(0, .ref (B 0)), (1, .int l1), (2, .int l2)] [] σ
    refine R_iload_n F dX9_area_4 rfl 2 rfl ?_
    refine R_aload_n F dX9_area_5 rfl 0 rfl ?_
    refine gc_RX9_12_0 F in_X9area dX9_area_6 ?_
    refine gc_RX9_92_1 F in_X9area dX9_area_9 ?_
    refine R_icmp_ge (tgt := 56) F dX9_area_12 (by decide) (fun hc => ?_) (fun hc => ?_)
    · replace hw := hw.1 hc
      refine R_iload_n F dX9_area_56 rfl 1 rfl ?_
      exact R_iret (Qc := Q) F rfl dX9_area_57 hw
    · replace hw := hw.2 hc
      refine R_aload_n F dX9_area_15 rfl 0 rfl ?_
      refine gc_RX9_12_0 F in_X9area dX9_area_16 ?_
      refine R_iload_n F dX9_area_19 rfl 2 rfl ?_
      refine R_callI (As := [.int l2]) (C := RX1) (q0 := 1) (ci := 1) (N := 13) (T := TX1) (fs := cf_1 B) F (ct_X1hasSize l E B _ l2 _ hw) (cwV 1 F.2.2.2.2.2.2.2.2.2.2 g_X9area_X1hasSize_122 rfl rfl rfl (by decide +kernel) ⟨Nat.le_of_ble_eq_true rfl, Nat.le_of_ble_eq_true rfl⟩) ⟨rfl, rfl⟩ rfl (fun _ => rfl) rfl rfl (Nat.le_of_ble_eq_true rfl) dX9_area_20 (fun r1 σ2 hw => ?_)
      refine R_if_eq (tgt := 50) F dX9_area_23 (by decide) (fun hc => ?_) (fun hc => ?_)
      · replace hw := hw.1 hc
        exact R_sub [0, 1, 2] rfl (J_50 l1 l2 σ2 hw)
      · replace hw := hw.2 hc
        refine R_iload_n F dX9_area_26 rfl 1 rfl ?_
        refine R_iconst F 1 dX9_area_27 (by decide) ?_
        refine R_aload_n F dX9_area_28 rfl 0 rfl ?_
        refine gc_RX9_12_0 F in_X9area dX9_area_29 ?_
        refine gc_RX9_125_1 F in_X9area dX9_area_32 ?_
        refine R_iload_n F dX9_area_35 rfl 2 rfl ?_
        refine R_ldi F qc_14 dX9_area_36 hw.1 ?_
        replace hw := hw.2
        refine R_iadd F dX9_area_37 ?_
        refine R_aload_n F dX9_area_38 rfl 0 rfl ?_
        refine gc_RX9_12_0 F in_X9area dX9_area_39 ?_
        refine gc_RX9_200_1 F in_X9area dX9_area_42 ?_
        refine R_iload_n F dX9_area_45 rfl 2 rfl ?_
        refine R_ldi F qc_12 dX9_area_46 hw.1 ?_
        replace hw := hw.2
        refine R_imul F dX9_area_47 ?_
        refine R_iadd F dX9_area_48 ?_
        refine R_topi (fun x3 ex3 => ?_)
        replace hw := hw x3 ex3
        refine R_istore_n (lv' := [(1, .int x3), (0, .ref (B 0)), (2, .int l2)]) F dX9_area_49 rfl (by decide) rfl ?_
        exact R_sub [1, 0, 2] rfl (J_50 x3 l2 σ2 hw)
  unfold wp_X9area at hw
  replace hw := hw X4 C_4
  refine R_iconst F 0 dX9_area_0 (by decide) ?_
  refine R_istore_n (lv' := [(1, .int 0), (0, .ref (B 0))]) F dX9_area_1 rfl (by decide) rfl ?_
  refine R_iconst F 0 dX9_area_2 (by decide) ?_
  refine R_istore_n (lv' := [(2, .int 0), (1, .int 0), (0, .ref (B 0))]) F dX9_area_3 rfl (by decide) rfl ?_
  exact R_sub [2, 1, 0] rfl (U_4 0 0 σ hw)
def wp_X9count (Q : Int32 → VS → Prop) (p1 : Int32) (σ : VS) : Prop := ((p1.toInt = 0 → Q (σ.1 2) σ) ∧ (p1.toInt = 1 → Q (σ.1 5) σ) ∧ (p1.toInt = 2 → Q (σ.1 6) σ) ∧ (p1.toInt = 3 → Q (σ.1 4) σ) ∧ ((p1.toInt < 0 ∨ 3 < p1.toInt) → Q (-1) σ))
theorem dX9_count_0 : decode cX9_count 0 = .ok (.iload_n 1, 1) := by decide +kernel
theorem dX9_count_1 : decode cX9_count 1 = .ok (.tableswitch 63 0 3 #[31, 39, 47, 55], 31) := by decide +kernel
theorem dX9_count_32 : decode cX9_count 32 = .ok (.aload_n 0, 1) := by decide +kernel
theorem dX9_count_33 : decode cX9_count 33 = .ok (.getfield 12, 3) := by decide +kernel
theorem dX9_count_36 : decode cX9_count 36 = .ok (.getfield 92, 3) := by decide +kernel
theorem dX9_count_39 : decode cX9_count 39 = .ok (.ireturn, 1) := by decide +kernel
theorem dX9_count_40 : decode cX9_count 40 = .ok (.aload_n 0, 1) := by decide +kernel
theorem dX9_count_41 : decode cX9_count 41 = .ok (.getfield 26, 3) := by decide +kernel
theorem dX9_count_44 : decode cX9_count 44 = .ok (.getfield 181, 3) := by decide +kernel
theorem dX9_count_47 : decode cX9_count 47 = .ok (.ireturn, 1) := by decide +kernel
theorem dX9_count_48 : decode cX9_count 48 = .ok (.aload_n 0, 1) := by decide +kernel
theorem dX9_count_49 : decode cX9_count 49 = .ok (.getfield 33, 3) := by decide +kernel
theorem dX9_count_52 : decode cX9_count 52 = .ok (.getfield 189, 3) := by decide +kernel
theorem dX9_count_55 : decode cX9_count 55 = .ok (.ireturn, 1) := by decide +kernel
theorem dX9_count_56 : decode cX9_count 56 = .ok (.aload_n 0, 1) := by decide +kernel
theorem dX9_count_57 : decode cX9_count 57 = .ok (.getfield 26, 3) := by decide +kernel
theorem dX9_count_60 : decode cX9_count 60 = .ok (.getfield 178, 3) := by decide +kernel
theorem dX9_count_63 : decode cX9_count 63 = .ok (.ireturn, 1) := by decide +kernel
theorem dX9_count_64 : decode cX9_count 64 = .ok (.iconst (-1), 1) := by decide +kernel
theorem dX9_count_65 : decode cX9_count 65 = .ok (.ireturn, 1) := by decide +kernel
def wo_X9count : List Cond := [.code yX9_count cX9_count 2 (some .int)]
def wr_X9count : List Cond := (wfC ++ ([]))
def w_X9count : List Cond := wo_X9count ++ wr_X9count
theorem wg_X9count : GW w_X9count := GW_app (GW_of (by decide +kernel)) (GW_app (wg_fC) (GW_nil))
theorem in_X9count : ∀ w ∈ wfC, w ∈ w_X9count := fun _ h => List.mem_append_right _ (List.mem_append_left _ h)
set_option maxHeartbeats 4000000 in
set_option maxRecDepth 100000 in
theorem ct_X9count (l : Launch) (E : gE) (B : Nat → Nat) (Q : Int32 → VS → Prop) (p1 : Int32) (σ : VS) (hw : wp_X9count Q p1 σ) : CtI l E yX9_count w_X9count (({ frames := 0, cells := 0, slots := 0, locals := 0 } : Room)) (wc E B σ) [.ref (B 0), .int p1] (fun r w => ∃ σ' : VS, Q r σ' ∧ w = wc E B σ') := by
  refine VC_I (cc := cX9_count) (mL := 2) (rt := (some .int)) (lv0 := [(0, .ref (B 0)), (1, .int p1)]) rfl (by decide) rfl (Nat.le_of_ble_eq_true rfl) ?_
  intro p e s m below meth c A F
  replace F : Fx p s m _ meth c A E cX9_count 2 (some .int) RX9 w_X9count := F
  unfold wp_X9count at hw
  refine R_iload_n F dX9_count_0 rfl 1 rfl ?_
  by_cases hc : p1.toInt = 0
  · refine R_tin (off := 31) (tgt := 32) F dX9_count_1 (by omega) (by omega) (by rw [hc]; rfl) (by decide) ?_
    replace hw := hw.1 hc
    refine R_aload_n F dX9_count_32 rfl 0 rfl ?_
    refine gc_RX9_12_0 F in_X9count dX9_count_33 ?_
    refine gc_RX9_92_1 F in_X9count dX9_count_36 ?_
    exact R_iret (Qc := Q) F rfl dX9_count_39 hw
  replace hw := hw.2
  by_cases hc : p1.toInt = 1
  · refine R_tin (off := 39) (tgt := 40) F dX9_count_1 (by omega) (by omega) (by rw [hc]; rfl) (by decide) ?_
    replace hw := hw.1 hc
    refine R_aload_n F dX9_count_40 rfl 0 rfl ?_
    refine gc_RX9_26_0 F in_X9count dX9_count_41 ?_
    refine gc_RX9_181_3 F in_X9count dX9_count_44 ?_
    exact R_iret (Qc := Q) F rfl dX9_count_47 hw
  replace hw := hw.2
  by_cases hc : p1.toInt = 2
  · refine R_tin (off := 47) (tgt := 48) F dX9_count_1 (by omega) (by omega) (by rw [hc]; rfl) (by decide) ?_
    replace hw := hw.1 hc
    refine R_aload_n F dX9_count_48 rfl 0 rfl ?_
    refine gc_RX9_33_0 F in_X9count dX9_count_49 ?_
    refine gc_RX9_189_4 F in_X9count dX9_count_52 ?_
    exact R_iret (Qc := Q) F rfl dX9_count_55 hw
  replace hw := hw.2
  by_cases hc : p1.toInt = 3
  · refine R_tin (off := 55) (tgt := 56) F dX9_count_1 (by omega) (by omega) (by rw [hc]; rfl) (by decide) ?_
    replace hw := hw.1 hc
    refine R_aload_n F dX9_count_56 rfl 0 rfl ?_
    refine gc_RX9_26_0 F in_X9count dX9_count_57 ?_
    refine gc_RX9_178_3 F in_X9count dX9_count_60 ?_
    exact R_iret (Qc := Q) F rfl dX9_count_63 hw
  replace hw := hw.2
  refine R_tout (tgt := 64) F dX9_count_1 (by omega) (by decide) ?_
  replace hw := hw (by omega)
  refine R_iconst F (-1) dX9_count_64 (by decide) ?_
  exact R_iret (Qc := Q) F rfl dX9_count_65 hw
