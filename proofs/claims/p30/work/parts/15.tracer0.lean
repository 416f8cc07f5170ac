theorem i3_div2 {x a b : Int32} (e : x = a / b) (h0 : 0 ≤ a.toInt) (h1 : 0 < b.toInt) (h2 : a.toInt < 2 * b.toInt) : 0 ≤ x.toInt ∧ x.toInt ≤ 1 := by
  have h := i3_divc rfl rfl e h0 h1
  have h3 : 0 ≤ a.toInt / b.toInt := Int.ediv_nonneg h0 (by omega)
  have h4 : a.toInt / b.toInt < 2 := Int.ediv_lt_of_lt_mul h1 (by omega)
  omega
theorem l6_and {v : Int32} {x : Int64} (e : v = (x &&& 1023).toInt32) : 0 ≤ v.toInt ∧ v.toInt ≤ 1023 := by
  have h1 : v.toBitVec.toNat = x.toBitVec.toNat &&& 1023 := by
    rw [e, Int64.toBitVec_toInt32, BitVec.signExtend_eq_setWidth_of_le _ (by decide), BitVec.toNat_setWidth, Int64.toBitVec_and, BitVec.toNat_and]
    have h2 : (1023 : Int64).toBitVec.toNat = 1023 := by decide
    rw [h2]
    have h3 : x.toBitVec.toNat &&& 1023 ≤ 1023 := Nat.and_le_right
    omega
  have h3 : x.toBitVec.toNat &&& 1023 ≤ 1023 := Nat.and_le_right
  have h4 := i3_ofn h1 (by omega)
  omega
section
variable {p : Program} {l : Launch} {e : Env} {R : Room} {s : State} {m : MethodId} {args : Array Value} {below : List Frame} {meth : Method} {c : Code} {H : Heap} {locs : List Loc} {cells slots : Nat} {Q : State → Prop} {cc : ByteArray} {pc : Nat} {ls : Array Slot} {rest : List Value} {A : Nat → Prop} {E : gE} {H0 : Heap} {ws : va_W}
theorem st_j (hx : p.tables.exec = Jvm.exec) (hb : c.code = cc) (hK : va_K E.1 vwCl (tyE E) s) (hP : va_P E.1 vwCl ws H) (hD : va_D A ws) (hS : va_S A H0 H locs) (q0 : Nat) {a n : Nat} {f : Nat → Int64} (ha : ws[q0]? = some (a, aJ E n f)) {i : Int32} {x : Int64} (hi : 0 ≤ i.toInt ∧ i.toInt < (n : Int)) (hdg : decode cc pc = .ok (.lastore, 1))
    (kk : ∀ (g : Nat → Int64) (H1 : Heap) (locs1 : List Loc), g = vp_updL f i.toNatClampNeg x → va_P E.1 vwCl (ws.set q0 (a, aJ E n g)) H1 → va_D A (ws.set q0 (a, aJ E n g)) → va_S A H0 H1 locs1 → W p l e R s m args below meth c H1 locs1 cells slots Q (F0 m (pc + 1) ls rest)) : W p l e R s m args below meth c H locs cells slots Q (F0 m pc ls (.long x :: .int i :: .ref a :: rest)) :=
  va_last hx hb hK hP hD hS q0 1 ha rfl (i3_in hi) hdg (fun H1 locs1 h1 h2 h3 => kk _ H1 locs1 rfl h1 h2 h3)
end
