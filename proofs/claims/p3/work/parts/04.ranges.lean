section
variable {p : Program} {l : Launch} {e : Env} {R : Room} {s : State} {m : MethodId} {args : Array Value} {below : List Frame} {meth : Method} {c : Code} {H : Heap} {locs : List Loc} {cells slots : Nat} {Q : State → Prop} {cc : ByteArray} {pc : Nat} {ls : Array Slot} {rest : List Value} {A : Nat → Prop} {E : gE}
theorem nw_int (hexec : p.tables.exec = Jvm.exec) (hb : c.code = cc) (harr : (Cond.arrayClass .int).before args s = true) {ws : va_W} {H0 : Heap} (hK : va_K E.1 vwCl (tyE E) s) (hP : va_P E.1 vwCl ws H) (hD : va_D A ws) (hS : va_S A H0 H locs) (hA : ∀ q, H0.size ≤ q → A q) {n : Int32} {N' : Nat} (hN : n.toInt = (N' : Int)) (hs : N' ≤ 1000000) (hcells : cells + 1 ≤ R.cells) (hslots : slots + N' ≤ R.slots) (hdg : decode cc pc = .ok (.newarray .int, 2))
    (kk : ∀ (q : Nat) (H1 : Heap), va_P E.1 vwCl (ws ++ [(q, aI E N' (fun _ => 0))]) H1 → va_D A (ws ++ [(q, aI E N' (fun _ => 0))]) → va_S A H0 H1 locs →
      W p l e R s m args below meth c H1 locs (cells + 1) (slots + N') Q (F0 m (pc + 2) ls (.ref q :: rest))) : W p l e R s m args below meth c H locs cells slots Q (F0 m pc ls (.int n :: rest)) := by
  have h0 : ¬ n < 0 := fun q => by have := i3_lt q; have e : (0 : Int32).toInt = 0 := by decide
                                   omega
  have h1 : n.toNatClampNeg = N' := by have := i3_nat (i := n) (by omega); omega
  have h2 : N' * componentBytes FieldType.int ≤ 536870912 := by show N' * 4 ≤ 536870912; omega
  exact nw_arr (A := A) (E := E) (atype := .int) (ty := .int) (a0 := (N', .inl (fun _ => 0))) hexec hb harr rfl (fun _ h9 => by cases h9) hK hP hD hS hA 0 rfl (fun _ => rfl) h0 h1 h2 hcells hslots hdg kk
theorem nw_bool (hexec : p.tables.exec = Jvm.exec) (hb : c.code = cc) (harr : (Cond.arrayClass .boolean).before args s = true) {ws : va_W} {H0 : Heap} (hK : va_K E.1 vwCl (tyE E) s) (hP : va_P E.1 vwCl ws H) (hD : va_D A ws) (hS : va_S A H0 H locs) (hA : ∀ q, H0.size ≤ q → A q) {n : Int32} {N' : Nat} (hN : n.toInt = (N' : Int)) (hs : N' ≤ 1000000) (hcells : cells + 1 ≤ R.cells) (hslots : slots + N' ≤ R.slots) (hdg : decode cc pc = .ok (.newarray .boolean, 2))
    (kk : ∀ (q : Nat) (H1 : Heap), va_P E.1 vwCl (ws ++ [(q, aZ E N' (fun _ => 0))]) H1 → va_D A (ws ++ [(q, aZ E N' (fun _ => 0))]) → va_S A H0 H1 locs →
      W p l e R s m args below meth c H1 locs (cells + 1) (slots + N') Q (F0 m (pc + 2) ls (.ref q :: rest))) : W p l e R s m args below meth c H locs cells slots Q (F0 m pc ls (.int n :: rest)) := by
  have h0 : ¬ n < 0 := fun q => by have := i3_lt q; have e : (0 : Int32).toInt = 0 := by decide
                                   omega
  have h1 : n.toNatClampNeg = N' := by have := i3_nat (i := n) (by omega); omega
  have h2 : N' * componentBytes FieldType.boolean ≤ 536870912 := by show N' * 1 ≤ 536870912; omega
  exact nw_arr (A := A) (E := E) (atype := .boolean) (ty := .boolean) (a0 := (N', .inl (fun _ => 0))) hexec hb harr rfl (fun _ h9 => by cases h9) hK hP hD hS hA 2 rfl (fun _ => rfl) h0 h1 h2 hcells hslots hdg kk
theorem nw_long (hexec : p.tables.exec = Jvm.exec) (hb : c.code = cc) (harr : (Cond.arrayClass .long).before args s = true) {ws : va_W} {H0 : Heap} (hK : va_K E.1 vwCl (tyE E) s) (hP : va_P E.1 vwCl ws H) (hD : va_D A ws) (hS : va_S A H0 H locs) (hA : ∀ q, H0.size ≤ q → A q) {n : Int32} {N' : Nat} (hN : n.toInt = (N' : Int)) (hs : N' ≤ 1000000) (hcells : cells + 1 ≤ R.cells) (hslots : slots + N' ≤ R.slots) (hdg : decode cc pc = .ok (.newarray .long, 2))
    (kk : ∀ (q : Nat) (H1 : Heap), va_P E.1 vwCl (ws ++ [(q, aJ E N' (fun _ => 0))]) H1 → va_D A (ws ++ [(q, aJ E N' (fun _ => 0))]) → va_S A H0 H1 locs →
      W p l e R s m args below meth c H1 locs (cells + 1) (slots + N') Q (F0 m (pc + 2) ls (.ref q :: rest))) : W p l e R s m args below meth c H locs cells slots Q (F0 m pc ls (.int n :: rest)) := by
  have h0 : ¬ n < 0 := fun q => by have := i3_lt q; have e : (0 : Int32).toInt = 0 := by decide
                                   omega
  have h1 : n.toNatClampNeg = N' := by have := i3_nat (i := n) (by omega); omega
  have h2 : N' * componentBytes FieldType.long ≤ 536870912 := by show N' * 8 ≤ 536870912; omega
  exact nw_arr (A := A) (E := E) (atype := .long) (ty := .long) (a0 := (N', .inr (.inl (fun _ => 0)))) hexec hb harr rfl (fun _ h9 => by cases h9) hK hP hD hS hA 1 rfl (fun _ => rfl) h0 h1 h2 hcells hslots hdg kk
end
def GW (ws : List Cond) : Prop := ∀ w ∈ ws, (w.onTables && w.keeps) = true ∨ ∃ ty, w = .arrayClass ty
theorem GW_nil : GW [] := fun _ h => absurd h List.not_mem_nil
theorem GW_app {a b : List Cond} (ha : GW a) (hb : GW b) : GW (a ++ b) := fun w h => (List.mem_append.mp h).elim (ha w) (hb w)
theorem GW_of {a : List Cond} (h : a.all goodWord = true) : GW a := fun w hw => good_of_word (List.all_eq_true.mp h w hw)
theorem gi_left {a b ws : List Cond} (h : GoodIn a ws) : GoodIn (a ++ b) ws := fun w hw => ⟨List.mem_append_left _ (h w hw).1, (h w hw).2⟩
theorem gi_right {a b ws : List Cond} (h : GoodIn b ws) : GoodIn (a ++ b) ws := fun w hw => ⟨List.mem_append_right _ (h w hw).1, (h w hw).2⟩
theorem nb_if {P : Prop} [Decidable P] {r : Int32} (h : r = if P then 1 else 0) : narrow .boolean (.int r) = .int r := by
  subst h; split <;> rfl

/-! ranges -/
def RG (x : Int32) (lo hi : Int) : Prop := lo ≤ x.toInt ∧ x.toInt ≤ hi
theorem RG.out {x : Int32} {lo hi : Int} (h : RG x lo hi) : lo ≤ x.toInt ∧ x.toInt ≤ hi := h
theorem RG.mk {x : Int32} {lo hi : Int} (h : lo ≤ x.toInt ∧ x.toInt ≤ hi) : RG x lo hi := h
def AR (f : Nat → Int32) (n : Nat) (lo hi : Int) : Prop := ∀ j, j < n → lo ≤ (f j).toInt ∧ (f j).toInt ≤ hi
theorem AR.rd {f : Nat → Int32} {n : Nat} {lo hi : Int} (h : AR f n lo hi) {x i : Int32} (e : x = f i.toNatClampNeg) (hq : 0 ≤ i.toInt ∧ i.toInt < (n : Int)) : lo ≤ x.toInt ∧ x.toInt ≤ hi := by
  have h1 := i3_nat hq.1
  rw [e]; exact h i.toNatClampNeg (by omega)
theorem AR.up {f : Nat → Int32} {n : Nat} {lo hi : Int} (h : AR f n lo hi) {x : Int32} {k : Nat} (hx : lo ≤ x.toInt ∧ x.toInt ≤ hi) : AR (upd f k x) n lo hi := by
  intro j hj
  unfold upd
  by_cases e : j = k
  · rw [if_pos e]; exact hx
  · rw [if_neg e]; exact h j hj
theorem AR.cst {n : Nat} {c : Int32} {lo hi : Int} (h : lo ≤ c.toInt ∧ c.toInt ≤ hi) : AR (fun _ => c) n lo hi := fun _ _ => h
theorem i3_z {x y z : Int32} (_ : x = y) (h : y = z) : x = z := by rw [‹x = y›, h]
theorem i3_mulb {x a b : Int32} {A B : Int} (e : x = a * b) (ha : 0 ≤ a.toInt ∧ a.toInt ≤ A) (hb : 0 ≤ b.toInt ∧ b.toInt ≤ B) (h : A * B ≤ 2147483647) : 0 ≤ x.toInt ∧ x.toInt ≤ A * B := by
  have h1 : 0 ≤ a.toInt * b.toInt := Int.mul_nonneg ha.1 hb.1
  have h2 : a.toInt * b.toInt ≤ A * B := Int.mul_le_mul ha.2 hb.2 hb.1 (by omega)
  have h3 := i3_mul e (by omega)
  omega
theorem i3_divc {x a b : Int32} {na nb : Int} (ha : a.toInt = na) (hb : b.toInt = nb) (e : x = a / b) (h0 : 0 ≤ na) (h1 : 0 < nb) : x.toInt = na / nb := by
  subst ha; subst hb
  have hbd := i3_bd a
  rw [e, Int32.toInt_div, Int.tdiv_eq_ediv_of_nonneg h0]
  have h2 : a.toInt / b.toInt ≤ a.toInt := Int.ediv_le_self _ h0
  have h3 : 0 ≤ a.toInt / b.toInt := Int.ediv_nonneg h0 (by omega)
  exact i3_bm (by omega)
theorem i3_divb {x a b : Int32} (e : x = a / b) (h0 : 0 ≤ a.toInt) (h1 : 0 < b.toInt) : 0 ≤ x.toInt ∧ x.toInt ≤ a.toInt := by
  have h := i3_divc rfl rfl e h0 h1
  have h2 : a.toInt / b.toInt ≤ a.toInt := Int.ediv_le_self _ h0
  have h3 : 0 ≤ a.toInt / b.toInt := Int.ediv_nonneg h0 (by omega)
  omega
theorem i3_remb {x a b : Int32} (e : x = a - a / b * b) (h0 : 0 ≤ a.toInt) (h1 : 0 < b.toInt) : 0 ≤ x.toInt ∧ x.toInt < b.toInt := by
  have hbd := i3_bd a
  obtain ⟨q, eq⟩ : ∃ q : Int32, q = a / b := ⟨_, rfl⟩
  have tq := i3_divc rfl rfl eq h0 h1
  have h2 : 0 ≤ a.toInt % b.toInt := Int.emod_nonneg _ (by omega)
  have h3 : a.toInt % b.toInt < b.toInt := Int.emod_lt_of_pos _ h1
  have h4 : a.toInt % b.toInt = a.toInt - b.toInt * (a.toInt / b.toInt) := Int.emod_def _ _
  have h6 : 0 ≤ b.toInt * (a.toInt / b.toInt) := Int.mul_nonneg (by omega) (Int.ediv_nonneg h0 (by omega))
  obtain ⟨w, ew⟩ : ∃ w : Int32, w = q * b := ⟨_, rfl⟩
  have h5 : q.toInt * b.toInt = b.toInt * (a.toInt / b.toInt) := by rw [tq, Int.mul_comm]
  have tw := i3_mul ew (by rw [h5]; omega)
  have tx : x.toInt = a.toInt - w.toInt := i3_sub (by rw [e, ew, eq]) (by omega)
  omega
theorem i3_nz {y : Int32} (h : 0 < y.toInt) : ¬ y = 0 := by
  intro q
  have h1 := i3_eq q
  have e : (0 : Int32).toInt = 0 := by decide
  omega
section
variable {p : Program} {l : Launch} {e : Env} {R : Room} {s : State} {m : MethodId} {args : Array Value} {below : List Frame} {meth : Method} {c : Code} {H : Heap} {locs : List Loc} {cells slots : Nat} {Q : State → Prop} {cc : ByteArray} {pc : Nat} {ls : Array Slot} {rest : List Value} {A : Nat → Prop} {E : gE} {H0 : Heap} {ws : va_W}
/-- an int array's place read: a number of the array's range -/
theorem ld_i (hx : p.tables.exec = Jvm.exec) (hb : c.code = cc) (hK : va_K E.1 vwCl (tyE E) s) (hP : va_P E.1 vwCl ws H) (q0 : Nat) {a n : Nat} {f : Nat → Int32} (ha : ws[q0]? = some (a, aI E n f)) {i : Int32} (hi : 0 ≤ i.toInt ∧ i.toInt < (n : Int)) (hdg : decode cc pc = .ok (.iaload, 1))
    (kk : ∀ x : Int32, x = f i.toNatClampNeg → W p l e R s m args below meth c H locs cells slots Q (F0 m (pc + 1) ls (.int x :: rest))) : W p l e R s m args below meth c H locs cells slots Q (F0 m pc ls (.int i :: .ref a :: rest)) :=
  va_iald hx hb hK hP q0 0 ha rfl (i3_in hi) hdg (kk _ rfl)
theorem ld_z (hx : p.tables.exec = Jvm.exec) (hb : c.code = cc) (hK : va_K E.1 vwCl (tyE E) s) (hP : va_P E.1 vwCl ws H) (q0 : Nat) {a n : Nat} {f : Nat → Int32} (ha : ws[q0]? = some (a, aZ E n f)) {i : Int32} (hi : 0 ≤ i.toInt ∧ i.toInt < (n : Int)) (hdg : decode cc pc = .ok (.baload, 1))
    (kk : ∀ x : Int32, x = f i.toNatClampNeg → W p l e R s m args below meth c H locs cells slots Q (F0 m (pc + 1) ls (.int x :: rest))) : W p l e R s m args below meth c H locs cells slots Q (F0 m pc ls (.int i :: .ref a :: rest)) :=
  va_zald hx hb hK hP q0 2 ha rfl (i3_in hi) hdg (kk _ rfl)
theorem st_i (hx : p.tables.exec = Jvm.exec) (hb : c.code = cc) (hK : va_K E.1 vwCl (tyE E) s) (hP : va_P E.1 vwCl ws H) (hD : va_D A ws) (hS : va_S A H0 H locs) (q0 : Nat) {a n : Nat} {f : Nat → Int32} (ha : ws[q0]? = some (a, aI E n f)) {i x : Int32} (hi : 0 ≤ i.toInt ∧ i.toInt < (n : Int)) (hdg : decode cc pc = .ok (.iastore, 1))
    (kk : ∀ (g : Nat → Int32) (H1 : Heap) (locs1 : List Loc), g = upd f i.toNatClampNeg x → va_P E.1 vwCl (ws.set q0 (a, aI E n g)) H1 → va_D A (ws.set q0 (a, aI E n g)) → va_S A H0 H1 locs1 → W p l e R s m args below meth c H1 locs1 cells slots Q (F0 m (pc + 1) ls rest)) : W p l e R s m args below meth c H locs cells slots Q (F0 m pc ls (.int x :: .int i :: .ref a :: rest)) :=
  va_iast hx hb hK hP hD hS q0 0 ha rfl (i3_in hi) hdg (fun H1 locs1 h1 h2 h3 => kk _ H1 locs1 rfl h1 h2 h3)
theorem st_z (hx : p.tables.exec = Jvm.exec) (hb : c.code = cc) (hK : va_K E.1 vwCl (tyE E) s) (hP : va_P E.1 vwCl ws H) (hD : va_D A ws) (hS : va_S A H0 H locs) (q0 : Nat) {a n : Nat} {f : Nat → Int32} (ha : ws[q0]? = some (a, aZ E n f)) {i x : Int32} (hi : 0 ≤ i.toInt ∧ i.toInt < (n : Int)) (hxv : 0 ≤ x.toInt ∧ x.toInt ≤ 1) (hdg : decode cc pc = .ok (.bastore, 1))
    (kk : ∀ (g : Nat → Int32) (H1 : Heap) (locs1 : List Loc), g = upd f i.toNatClampNeg x → va_P E.1 vwCl (ws.set q0 (a, aZ E n g)) H1 → va_D A (ws.set q0 (a, aZ E n g)) → va_S A H0 H1 locs1 → W p l e R s m args below meth c H1 locs1 cells slots Q (F0 m (pc + 1) ls rest)) : W p l e R s m args below meth c H locs cells slots Q (F0 m pc ls (.int x :: .int i :: .ref a :: rest)) := by
  have e : vp_nar .boolean x = x := by
    rcases (show x.toInt = 0 ∨ x.toInt = 1 by omega) with h | h
    · have : x = 0 := Int32.toInt_inj.mp (by rw [h]; decide)
      subst this; rfl
    · have : x = 1 := Int32.toInt_inj.mp (by rw [h]; decide)
      subst this; rfl
  exact va_zast hx hb hK hP hD hS q0 2 ha rfl (i3_in hi) hdg (fun H1 locs1 h1 h2 h3 => kk _ H1 locs1 (by rw [e]) h1 h2 h3)
end
