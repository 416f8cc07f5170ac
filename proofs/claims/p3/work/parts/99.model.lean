theorem arr_eq1 {E : gE} {q n : Nat} {f g : Nat → Int32} {H : Heap} {x : Nat × va_E} {wr : va_W} (h : ∀ j, j < n → f j = g j) (hP : va_P E.1 vwCl (x :: (q, aI E n f) :: wr) H) : va_P E.1 vwCl (x :: (q, aI E n g) :: wr) H := by
  intro k y hk
  match k, hk with
  | 0, hk => exact hP 0 y hk
  | 1, hk =>
    have h1 : va_P E.1 vwCl [(q, aI E n f)] H := fun k y hk => by
      match k, hk with
      | 0, hk => cases hk; exact hP 1 _ rfl
    cases hk
    exact (arr_eq h h1) 0 _ rfl
  | k + 2, hk => exact hP (k + 2) y hk
theorem dX10_init_462 : decode cX10_init 462 = .ok (.iload_n 1, 1) := by decide +kernel
theorem dX10_init_463 : decode cX10_init 463 = .ok (.sipush 192, 3) := by decide +kernel
theorem dX10_init_466 : decode cX10_init 466 = .ok (.if_icmp .ge 17, 3) := by decide +kernel
theorem dX10_init_469 : decode cX10_init 469 = .ok (.aload_n 0, 1) := by decide +kernel
theorem dX10_init_470 : decode cX10_init 470 = .ok (.getfield 78, 3) := by decide +kernel
theorem dX10_init_473 : decode cX10_init 473 = .ok (.iload_n 1, 1) := by decide +kernel
theorem dX10_init_474 : decode cX10_init 474 = .ok (.bipush 10, 2) := by decide +kernel
theorem dX10_init_476 : decode cX10_init 476 = .ok (.iastore, 1) := by decide +kernel
theorem dX10_init_477 : decode cX10_init 477 = .ok (.iinc 1 1, 3) := by decide +kernel
theorem dX10_init_480 : decode cX10_init 480 = .ok (.goto (-18), 3) := by decide +kernel
set_option maxHeartbeats 4000000 in
set_option maxRecDepth 100000 in
theorem mi_loop1 {p : Program} {l : Launch} {e : Env} {R : Room} {s : State} {m : MethodId} {args : Array Value} {below : List Frame} {meth : Method} {c : Code} {H0 : Heap} {cells slots : Nat} {Q : State → Prop} {A : Nat → Prop} {E : gE} {Ts : List Cond} {fs : List Value} {wr : va_W} {h q : Nat} (hx : p.tables.exec = Jvm.exec) (hb : c.code = cX10_init) (hts : ∀ w ∈ Ts, w.before args s = true) (hin : ∀ w ∈ wsX100, w ∈ Ts) (hown : s.vm.findClass RX10 = some m.cls) (hlink : (Cond.fieldLink RX10 78 "TimingHouseModel" "numbers" "[I").before args s = true) (hK : va_K E.1 vwCl (tyE E) s) (hf : fs[15]? = some (.ref q))
    (kk : ∀ (H : Heap) (locs : List Loc) (ls : Array Slot), va_P E.1 vwCl ((h, .inr (10, fs)) :: (q, aI E 192 (fun _ => 10)) :: wr) H → va_D A ((h, .inr (10, fs)) :: (q, aI E 192 (fun _ => 10)) :: wr) → va_S A H0 H locs → lv_has ls 2 [(0, .ref h)] → W p l e R s m args below meth c H locs cells slots Q (F0 m 483 ls [])) :
    ∀ (d j : Nat) (i : Int32) (g : Nat → Int32) (H : Heap) (locs : List Loc) (ls : Array Slot), j + d = 192 → i.toInt = j → (∀ t, t < j → g t = 10) → va_P E.1 vwCl ((h, .inr (10, fs)) :: (q, aI E 192 g) :: wr) H → va_D A ((h, .inr (10, fs)) :: (q, aI E 192 g) :: wr) → va_S A H0 H locs → lv_has ls 2 [(1, .int i), (0, .ref h)] → W p l e R s m args below meth c H locs cells slots Q (F0 m 462 ls []) := by
  intro d
  induction d with
  | zero =>
    intro j i g H locs ls hj hi hg hP hD hS hl
    refine lv_iload_n hx hb dX10_init_462 rfl (lv_at hl 0 rfl) ?_
    refine lv_sipush (v := 192) hx hb dX10_init_463 (by decide) ?_
    refine lv_icmp_ge (tgt := 483) hx hb dX10_init_466 (by decide) (fun c_1 => ?_) (fun c_1 => ?_)
    · exact kk H locs ls (arr_eq1 (fun t ht => hg t (by omega)) hP) (hD.set (p := 1) (e := aI E 192 (fun _ => 10)) rfl) hS (lv_sub hl [1] rfl)
    · have e_1 : i.toInt < 192 := i3_nle c_1
      exfalso; omega
  | succ d ih =>
    intro j i g H locs ls hj hi hg hP hD hS hl
    refine lv_iload_n hx hb dX10_init_462 rfl (lv_at hl 0 rfl) ?_
    refine lv_sipush (v := 192) hx hb dX10_init_463 (by decide) ?_
    refine lv_icmp_ge (tgt := 483) hx hb dX10_init_466 (by decide) (fun c_1 => ?_) (fun c_1 => ?_)
    · have e_1 : 192 ≤ i.toInt := i3_le c_1
      exfalso; omega
    · refine lv_aload_n hx hb dX10_init_469 rfl (lv_at hl 1 rfl) ?_
      refine va_get (D := E.1) (ci := 10) (v := .ref q) (own := RX10) (C := RX10) (T := TX10) (N := 69) hx hb hts hin hown hK hP 0 rfl rfl 15 (by decide) hlink (fun _ h9 => h9) hf dX10_init_470 ?_
      refine lv_iload_n hx hb dX10_init_473 rfl (lv_at hl 0 rfl) ?_
      refine lv_bipush (v := 10) hx hb dX10_init_474 (by decide) ?_
      have hik := i3_nat (i := i) (by omega)
      refine va_iast hx hb hK hP hD hS 1 0 rfl rfl (i3_in (by omega)) dX10_init_476 (fun H locs hP hD hS => ?_)
      have hik2 : i.toNatClampNeg = j := by omega
      rw [hik2] at hP hD
      obtain ⟨y, ey⟩ : ∃ y : Int32, y = i + 1 := ⟨_, rfl⟩
      have ty : y.toInt = i.toInt + 1 := i3_addc rfl rfl ey (by omega)
      refine lv_iinc (v := y) (lv' := [(1, .int y), (0, .ref h)]) hx hb dX10_init_477 hl (k := 0) rfl (by rw [ey]; rfl) (by decide) rfl (fun ls hl => ?_)
      refine lv_goto (tgt := 462) hx hb dX10_init_480 (by decide) ?_
      exact ih (j + 1) y (upd g j 10) H locs ls (by omega) (by omega) (fun t ht => upd_lt hg ht) hP hD hS hl
theorem dX10_init_485 : decode cX10_init 485 = .ok (.iload_n 1, 1) := by decide +kernel
theorem dX10_init_486 : decode cX10_init 486 = .ok (.bipush 64, 2) := by decide +kernel
theorem dX10_init_488 : decode cX10_init 488 = .ok (.if_icmp .ge 16, 3) := by decide +kernel
theorem dX10_init_491 : decode cX10_init 491 = .ok (.aload_n 0, 1) := by decide +kernel
theorem dX10_init_492 : decode cX10_init 492 = .ok (.getfield 81, 3) := by decide +kernel
theorem dX10_init_495 : decode cX10_init 495 = .ok (.iload_n 1, 1) := by decide +kernel
theorem dX10_init_496 : decode cX10_init 496 = .ok (.iconst 3, 1) := by decide +kernel
theorem dX10_init_497 : decode cX10_init 497 = .ok (.iastore, 1) := by decide +kernel
theorem dX10_init_498 : decode cX10_init 498 = .ok (.iinc 1 1, 3) := by decide +kernel
theorem dX10_init_501 : decode cX10_init 501 = .ok (.goto (-16), 3) := by decide +kernel
set_option maxHeartbeats 4000000 in
set_option maxRecDepth 100000 in
theorem mi_loop2 {p : Program} {l : Launch} {e : Env} {R : Room} {s : State} {m : MethodId} {args : Array Value} {below : List Frame} {meth : Method} {c : Code} {H0 : Heap} {cells slots : Nat} {Q : State → Prop} {A : Nat → Prop} {E : gE} {Ts : List Cond} {fs : List Value} {wr : va_W} {h q : Nat} (hx : p.tables.exec = Jvm.exec) (hb : c.code = cX10_init) (hts : ∀ w ∈ Ts, w.before args s = true) (hin : ∀ w ∈ wsX100, w ∈ Ts) (hown : s.vm.findClass RX10 = some m.cls) (hlink : (Cond.fieldLink RX10 81 "TimingHouseModel" "rowSize" "[I").before args s = true) (hK : va_K E.1 vwCl (tyE E) s) (hf : fs[16]? = some (.ref q))
    (kk : ∀ (H : Heap) (locs : List Loc) (ls : Array Slot), va_P E.1 vwCl ((h, .inr (10, fs)) :: (q, aI E 64 (fun _ => 3)) :: wr) H → va_D A ((h, .inr (10, fs)) :: (q, aI E 64 (fun _ => 3)) :: wr) → va_S A H0 H locs → lv_has ls 2 [(0, .ref h)] → W p l e R s m args below meth c H locs cells slots Q (F0 m 504 ls [])) :
    ∀ (d j : Nat) (i : Int32) (g : Nat → Int32) (H : Heap) (locs : List Loc) (ls : Array Slot), j + d = 64 → i.toInt = j → (∀ t, t < j → g t = 3) → va_P E.1 vwCl ((h, .inr (10, fs)) :: (q, aI E 64 g) :: wr) H → va_D A ((h, .inr (10, fs)) :: (q, aI E 64 g) :: wr) → va_S A H0 H locs → lv_has ls 2 [(1, .int i), (0, .ref h)] → W p l e R s m args below meth c H locs cells slots Q (F0 m 485 ls []) := by
  intro d
  induction d with
  | zero =>
    intro j i g H locs ls hj hi hg hP hD hS hl
    refine lv_iload_n hx hb dX10_init_485 rfl (lv_at hl 0 rfl) ?_
    refine lv_bipush (v := 64) hx hb dX10_init_486 (by decide) ?_
    refine lv_icmp_ge (tgt := 504) hx hb dX10_init_488 (by decide) (fun c_1 => ?_) (fun c_1 => ?_)
    · exact kk H locs ls (arr_eq1 (fun t ht => hg t (by omega)) hP) (hD.set (p := 1) (e := aI E 64 (fun _ => 3)) rfl) hS (lv_sub hl [1] rfl)
    · have e_1 : i.toInt < 64 := i3_nle c_1
      exfalso; omega
  | succ d ih =>
    intro j i g H locs ls hj hi hg hP hD hS hl
    refine lv_iload_n hx hb dX10_init_485 rfl (lv_at hl 0 rfl) ?_
    refine lv_bipush (v := 64) hx hb dX10_init_486 (by decide) ?_
    refine lv_icmp_ge (tgt := 504) hx hb dX10_init_488 (by decide) (fun c_1 => ?_) (fun c_1 => ?_)
    · have e_1 : 64 ≤ i.toInt := i3_le c_1
      exfalso; omega
    · refine lv_aload_n hx hb dX10_init_491 rfl (lv_at hl 1 rfl) ?_
      refine va_get (D := E.1) (ci := 10) (v := .ref q) (own := RX10) (C := RX10) (T := TX10) (N := 69) hx hb hts hin hown hK hP 0 rfl rfl 16 (by decide) hlink (fun _ h9 => h9) hf dX10_init_492 ?_
      refine lv_iload_n hx hb dX10_init_495 rfl (lv_at hl 0 rfl) ?_
      refine lv_iconst (v := 3) hx hb dX10_init_496 (by decide) ?_
      have hik := i3_nat (i := i) (by omega)
      refine va_iast hx hb hK hP hD hS 1 0 rfl rfl (i3_in (by omega)) dX10_init_497 (fun H locs hP hD hS => ?_)
      have hik2 : i.toNatClampNeg = j := by omega
      rw [hik2] at hP hD
      obtain ⟨y, ey⟩ : ∃ y : Int32, y = i + 1 := ⟨_, rfl⟩
      have ty : y.toInt = i.toInt + 1 := i3_addc rfl rfl ey (by omega)
      refine lv_iinc (v := y) (lv' := [(1, .int y), (0, .ref h)]) hx hb dX10_init_498 hl (k := 0) rfl (by rw [ey]; rfl) (by decide) rfl (fun ls hl => ?_)
      refine lv_goto (tgt := 485) hx hb dX10_init_501 (by decide) ?_
      exact ih (j + 1) y (upd g j 3) H locs ls (by omega) (by omega) (fun t ht => upd_lt hg ht) hP hD hS hl
