section
variable {p : Program} {l : Launch} {e : Env} {R : Room} {s : State} {m : MethodId} {args : Array Value} {below : List Frame} {meth : Method} {c : Code} {H : Heap} {locs : List Loc} {cells slots : Nat} {Q : State → Prop} {cc : ByteArray} {pc : Nat} {ls : Array Slot} {rest : List Value} {A : Nat → Prop} {E : gE}
theorem nw_int (hexec : p.tables.exec = Jvm.exec) (hb : c.code = cc) (harr : (Cond.arrayClass .int).before args s = true) {ws : va_W} {H0 : Heap} (hK : va_K E.1 vwCl (tyE E) s) (hP : va_P E.1 vwCl ws H) (hD : va_D A ws) (hS : va_S A H0 H locs) (hA : ∀ q, H0.size ≤ q → A q) {n : Int32} {N' : Nat} (hN : n.toInt = (N' : Int)) (hs : N' ≤ 1000000) (hcells : cells + 1 ≤ R.cells) (hslots : slots + N' ≤ R.slots) (hdg : decode cc pc = .ok (.newarray .int, 2))
    (kk : ∀ (q : Nat) (H1 : Heap), va_P E.1 vwCl (ws ++ [(q, aI E N' (fun _ => 0))]) H1 → va_D A (ws ++ [(q, aI E N' (fun _ => 0))]) → va_S A H0 H1 locs →
      W p l e R s m args below meth c H1 locs (cells + 1) (slots + N') Q (F0 m (pc + 2) ls (.ref q :: rest))) : W p l e R s m args below meth c H locs cells slots Q (F0 m pc ls (.int n :: rest)) := by
  have h0 : ¬ n < 0 := fun q => by have := i3_lt q; have e : (0 : Int32).toInt = 0 := by decide
                                   omega
  have h1 : n.toNatClampNeg = N' := by have := i3_nat (i := n) (by omega); omega
  have h2 : N' * componentBytes FieldType.int ≤ 536870912 := by show N' * 4 ≤ 536870912; omega
  exact nw_arr (A := A) (E := E) (atype := .int) (ty := .int) (a0 := (N', .inl (fun _ => 0))) hexec hb harr rfl (fun _ h9 => by cases h9) hK hP hD hS hA 0 rfl (fun _ => rfl) h0 h1 h2 hcells hslots hdg kk
theorem nw_bool (hexec : p.tables.exec = Jvm.exec) (hb : c.code = cc) (harr : (Cond.arrayClass .boolean).before args s = true) {ws : va_W} {H0 : Heap} (hK : va_K E.1 vwCl (tyE E) s) (hP : va_P E.1 vwCl ws H) (hD : va_D A ws) (hS : va_S A H0 H locs) (hA : ∀ q, H0.size ≤ q → A q) {n : Int32} {N' : Nat} (hN : n.toInt = (N' : Int)) (hs : N' ≤ 1000000) (hcells : cells + 1 ≤ R.cells) (hslots : slots + N' ≤ R.slots) (hdg : decode cc pc = .ok (.newarray .boolean, 2))
    (kk : ∀ (q : Nat) (H1 : Heap), va_P E.1 vwCl (ws ++ [(q, aZ E N' (fun _ => 0))]) H1 → va_D A (ws ++ [(q, aZ E N' (fun _ => 0))]) → va_S A H0 H1 locs →
      W p l e R s m args below meth c H1 locs (cells + 1) (slots + N') Q (F0 m (pc + 2) ls (.ref q :: rest))) : W p l e R s m args below meth c H locs cells slots Q (F0 m pc ls (.int n :: rest)) := by
  have h0 : ¬ n < 0 := fun q => by have := i3_lt q; have e : (0 : Int32).toInt = 0 := by decide
                                   omega
  have h1 : n.toNatClampNeg = N' := by have := i3_nat (i := n) (by omega); omega
  have h2 : N' * componentBytes FieldType.boolean ≤ 536870912 := by show N' * 1 ≤ 536870912; omega
  exact nw_arr (A := A) (E := E) (atype := .boolean) (ty := .boolean) (a0 := (N', .inl (fun _ => 0))) hexec hb harr rfl (fun _ h9 => by cases h9) hK hP hD hS hA 2 rfl (fun _ => rfl) h0 h1 h2 hcells hslots hdg kk
theorem nw_long (hexec : p.tables.exec = Jvm.exec) (hb : c.code = cc) (harr : (Cond.arrayClass .long).before args s = true) {ws : va_W} {H0 : Heap} (hK : va_K E.1 vwCl (tyE E) s) (hP : va_P E.1 vwCl ws H) (hD : va_D A ws) (hS : va_S A H0 H locs) (hA : ∀ q, H0.size ≤ q → A q) {n : Int32} {N' : Nat} (hN : n.toInt = (N' : Int)) (hs : N' ≤ 1000000) (hcells : cells + 1 ≤ R.cells) (hslots : slots + N' ≤ R.slots) (hdg : decode cc pc = .ok (.newarray .long, 2))
    (kk : ∀ (q : Nat) (H1 : Heap), va_P E.1 vwCl (ws ++ [(q, aJ E N' (fun _ => 0))]) H1 → va_D A (ws ++ [(q, aJ E N' (fun _ => 0))]) → va_S A H0 H1 locs →
      W p l e R s m args below meth c H1 locs (cells + 1) (slots + N') Q (F0 m (pc + 2) ls (.ref q :: rest))) : W p l e R s m args below meth c H locs cells slots Q (F0 m pc ls (.int n :: rest)) := by
  have h0 : ¬ n < 0 := fun q => by have := i3_lt q; have e : (0 : Int32).toInt = 0 := by decide
                                   omega
  have h1 : n.toNatClampNeg = N' := by have := i3_nat (i := n) (by omega); omega
  have h2 : N' * componentBytes FieldType.long ≤ 536870912 := by show N' * 8 ≤ 536870912; omega
  exact nw_arr (A := A) (E := E) (atype := .long) (ty := .long) (a0 := (N', .inr (.inl (fun _ => 0)))) hexec hb harr rfl (fun _ h9 => by cases h9) hK hP hD hS hA 1 rfl (fun _ => rfl) h0 h1 h2 hcells hslots hdg kk
end
