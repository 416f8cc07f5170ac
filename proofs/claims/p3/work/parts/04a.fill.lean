theorem dJ7_fill_53178_0 : decode cJ7_fill_53178 0 = .ok (.iconst 0, 1) := by decide +kernel
theorem dJ7_fill_53178_1 : decode cJ7_fill_53178 1 = .ok (.istore_n 2, 1) := by decide +kernel
theorem dJ7_fill_53178_2 : decode cJ7_fill_53178 2 = .ok (.aload_n 0, 1) := by decide +kernel
theorem dJ7_fill_53178_3 : decode cJ7_fill_53178 3 = .ok (.arraylength, 1) := by decide +kernel
theorem dJ7_fill_53178_4 : decode cJ7_fill_53178 4 = .ok (.istore_n 3, 1) := by decide +kernel
theorem dJ7_fill_53178_5 : decode cJ7_fill_53178 5 = .ok (.iload_n 2, 1) := by decide +kernel
theorem dJ7_fill_53178_6 : decode cJ7_fill_53178 6 = .ok (.iload_n 3, 1) := by decide +kernel
theorem dJ7_fill_53178_7 : decode cJ7_fill_53178 7 = .ok (.if_icmp .ge 13, 3) := by decide +kernel
theorem dJ7_fill_53178_10 : decode cJ7_fill_53178 10 = .ok (.aload_n 0, 1) := by decide +kernel
theorem dJ7_fill_53178_11 : decode cJ7_fill_53178 11 = .ok (.iload_n 2, 1) := by decide +kernel
theorem dJ7_fill_53178_12 : decode cJ7_fill_53178 12 = .ok (.iload_n 1, 1) := by decide +kernel
theorem dJ7_fill_53178_13 : decode cJ7_fill_53178 13 = .ok (.iastore, 1) := by decide +kernel
theorem dJ7_fill_53178_14 : decode cJ7_fill_53178 14 = .ok (.iinc 2 1, 3) := by decide +kernel
theorem dJ7_fill_53178_17 : decode cJ7_fill_53178 17 = .ok (.goto (-12), 3) := by decide +kernel
theorem dJ7_fill_53178_20 : decode cJ7_fill_53178 20 = .ok (.return_, 1) := by decide +kernel
/-- two arrays that agree within their length are one -/
theorem arr_eq {E : gE} {q n : Nat} {f g : Nat → Int32} {H : Heap} (h : ∀ j, j < n → f j = g j) (hP : va_P E.1 vwCl [(q, aI E n f)] H) : va_P E.1 vwCl [(q, aI E n g)] H := by
  have e : vp_cell E.2.1 (n, .inl f) = vp_cell E.2.1 (n, .inl g) := by
    rw [vp_cell_i, vp_cell_i]
    unfold arrV
    congr 1
    apply Array.ext
    · simp
    · intro i h1 h2
      simp at h1
      simp [h i h1]
  intro k x hk
  match k, hk with
  | 0, hk =>
    cases hk
    have h1 := hP 0 _ rfl
    show H[q]? = some _
    rw [← e]; exact h1
theorem nI_ti {n : Nat} (h : n < 2147483648) : (nI n).toInt = n := Int32.toInt_ofNat_of_lt (by omega)
theorem upd_lt {f : Nat → Int32} {k j : Nat} {v : Int32} (h : ∀ j, j < k → f j = v) (hj : j < k + 1) : upd f k v j = v := by
  unfold upd
  by_cases e : j = k
  · rw [if_pos e]
  · rw [if_neg e]; exact h j (by omega)
set_option maxHeartbeats 4000000 in
set_option maxRecDepth 100000 in
theorem fill_loop {p : Program} {l : Launch} {e : Env} {R : Room} {s : State} {m : MethodId} {args : Array Value} {below : List Frame} {meth : Method} {c : Code} {H0 : Heap} {cells slots : Nat} {Q : State → Prop} {A : Nat → Prop} {E : gE} (hx : p.tables.exec = Jvm.exec) (hb : c.code = cJ7_fill_53178) (hK : va_K E.1 vwCl (tyE E) s) {q n : Nat} (hn : n ≤ 1000000) {v nn : Int32} (hnn : nn.toInt = n)
    (kk : ∀ (g : Nat → Int32) (H : Heap) (locs : List Loc) (ls : Array Slot), (∀ j, j < n → g j = v) → va_P E.1 vwCl [(q, aI E n g)] H → va_D A [(q, aI E n g)] → va_S A H0 H locs → W p l e R s m args below meth c H locs cells slots Q (F0 m 20 ls [])) :
    ∀ (d k : Nat) (i : Int32) (g : Nat → Int32) (H : Heap) (locs : List Loc) (ls : Array Slot), k + d = n → i.toInt = k → (∀ j, j < k → g j = v) → va_P E.1 vwCl [(q, aI E n g)] H → va_D A [(q, aI E n g)] → va_S A H0 H locs → lv_has ls 4 [(2, .int i), (3, .int nn), (0, .ref q), (1, .int v)] → W p l e R s m args below meth c H locs cells slots Q (F0 m 5 ls []) := by
  intro d
  induction d with
  | zero =>
    intro k i g H locs ls hk hi hg hP hD hS hl
    refine lv_iload_n hx hb dJ7_fill_53178_5 rfl (lv_at hl 0 rfl) ?_
    refine lv_iload_n hx hb dJ7_fill_53178_6 rfl (lv_at hl 1 rfl) ?_
    refine lv_icmp_ge (tgt := 20) hx hb dJ7_fill_53178_7 (by decide) (fun c_1 => ?_) (fun c_1 => ?_)
    · exact kk g H locs ls (fun j hj => hg j (by omega)) hP hD hS
    · have e_1 := i3_nle c_1
      exfalso; omega
  | succ d ih =>
    intro k i g H locs ls hk hi hg hP hD hS hl
    refine lv_iload_n hx hb dJ7_fill_53178_5 rfl (lv_at hl 0 rfl) ?_
    refine lv_iload_n hx hb dJ7_fill_53178_6 rfl (lv_at hl 1 rfl) ?_
    refine lv_icmp_ge (tgt := 20) hx hb dJ7_fill_53178_7 (by decide) (fun c_1 => ?_) (fun c_1 => ?_)
    · have e_1 := i3_le c_1
      exfalso; omega
    · refine lv_aload_n hx hb dJ7_fill_53178_10 rfl (lv_at hl 2 rfl) ?_
      refine lv_iload_n hx hb dJ7_fill_53178_11 rfl (lv_at hl 0 rfl) ?_
      refine lv_iload_n hx hb dJ7_fill_53178_12 rfl (lv_at hl 3 rfl) ?_
      have hik := i3_nat (i := i) (by omega)
      refine va_iast hx hb hK hP hD hS 0 0 rfl rfl (i3_in (by omega)) dJ7_fill_53178_13 (fun H locs hP hD hS => ?_)
      have hik2 : i.toNatClampNeg = k := by omega
      rw [hik2] at hP hD
      obtain ⟨y, ey⟩ : ∃ y : Int32, y = i + 1 := ⟨_, rfl⟩
      have ty : y.toInt = i.toInt + 1 := i3_addc rfl rfl ey (by omega)
      refine lv_iinc (v := y) (lv' := [(2, .int y), (3, .int nn), (0, .ref q), (1, .int v)]) hx hb dJ7_fill_53178_14 hl (k := 0) rfl (by rw [ey]; rfl) (by decide) rfl (fun ls hl => ?_)
      refine lv_goto (tgt := 5) hx hb dJ7_fill_53178_17 (by decide) ?_
      exact ih (k + 1) y (upd g k v) H locs ls (by omega) (by omega) (fun j hj => upd_lt hg hj) hP hD hS hl
def wo_k_fill : List Cond := wsJ7_fill_53178
def w_k_fill : List Cond := wo_k_fill
theorem wg_k_fill : GW w_k_fill := GW_of (by decide +kernel)
set_option maxHeartbeats 4000000 in
set_option maxRecDepth 100000 in
theorem k_fill (l : Launch) (E : gE) (q n : Nat) (f : Nat → Int32) (v : Int32) (hn : n ≤ 1000000) : CtV l E yJ7_fill_53178 w_k_fill ({ frames := 0, cells := 0, slots := 0, locals := 0 }) [(q, aI E n f)] [.ref q, .int v] (fun w => w = [(q, aI E n (fun _ => v))]) := by
  refine CtV.of (cc := cJ7_fill_53178) (maxL := 4) (rt := none) (by decide) rfl (Nat.le_of_ble_eq_true rfl) ?_
  intro p e s m below meth c A B ls hl
  obtain ⟨hx, hb, hml, hr, hlk, hin, hts, hown, hK, hN, hZ, hA, hP, hD, hS⟩ := B
  have hl : lv_has ls 4 [(0, .ref q), (1, .int v)] := hl
  refine lv_iconst (v := 0) hx hb dJ7_fill_53178_0 (by decide) ?_
  refine lv_istore_n (lv' := [(2, .int 0), (0, .ref q), (1, .int v)]) hx hb dJ7_fill_53178_1 rfl hl (by decide) rfl (fun ls hl => ?_)
  refine lv_aload_n hx hb dJ7_fill_53178_2 rfl (lv_at hl 1 rfl) ?_
  refine va_alen (v := nI n) hx hb hK hP 0 0 rfl rfl rfl dJ7_fill_53178_3 ?_
  refine lv_istore_n (lv' := [(3, .int (nI n)), (2, .int 0), (0, .ref q), (1, .int v)]) hx hb dJ7_fill_53178_4 rfl hl (by decide) rfl (fun ls hl => ?_)
  refine fill_loop (A := A) (E := E) (H0 := s.heap) hx hb hK hn (nn := nI n) (nI_ti (by omega)) (fun g H locs ls hg hP hD hS => ?_) n 0 0 f _ _ ls (by omega) (by decide) (fun j hj => absurd hj (by omega)) hP hD hS (lv_sub hl [1, 0, 2, 3] rfl)
  exact ret_v hx hb hr hlk (arr_eq hg hP) (hD.set (p := 0) (e := aI E n (fun _ => v)) rfl) hS dJ7_fill_53178_20 (Nat.le_of_ble_eq_true rfl) (Nat.le_of_ble_eq_true rfl) rfl
