/-! MY OWN LAYER: signed readings of ints, one form of contract, its entry, ends and calls -/
abbrev vwCl : List vw_C := [(RX0, TX0, 5), (RX1, TX1, 13), (RX2, TX2, 13), (RX3, TX3, 6), (RX4, TX4, 6), (RX5, TX5, 5), (RX6, TX6, 12), (RX7, TX7, 12), (RX8, TX8, 7), (RX9, TX9, 12), (RX10, TX10, 69)]
theorem i3_le {a b : Int32} (h : a ≤ b) : a.toInt ≤ b.toInt := Int32.le_iff_toInt_le.mp h
theorem i3_lt {a b : Int32} (h : a < b) : a.toInt < b.toInt := Int32.lt_iff_toInt_lt.mp h
theorem i3_nle {a b : Int32} (h : ¬ a ≤ b) : b.toInt < a.toInt := Int.not_le.mp fun q => h (Int32.le_iff_toInt_le.mpr q)
theorem i3_nlt {a b : Int32} (h : ¬ a < b) : b.toInt ≤ a.toInt := Int.not_lt.mp fun q => h (Int32.lt_iff_toInt_lt.mpr q)
theorem i3_eq {a b : Int32} (h : a = b) : a.toInt = b.toInt := by rw [h]
theorem i3_ne {a b : Int32} (h : ¬ a = b) : a.toInt ≠ b.toInt := fun q => h (Int32.toInt_inj.mp q)
theorem i3_bd (a : Int32) : -2147483648 ≤ a.toInt ∧ a.toInt ≤ 2147483647 := by
  have h1 := Int32.minValue_le_toInt a
  have h2 := Int32.toInt_lt a
  have e : (Int32.minValue).toInt = -2147483648 := by decide
  omega
theorem i3_bm {n : Int} (h : -2147483648 ≤ n ∧ n ≤ 2147483647) : n.bmod (2 ^ 32) = n := by
  rw [Int.bmod_def]
  omega
theorem i3_add {x a b : Int32} (e : x = a + b) (h : -2147483648 ≤ a.toInt + b.toInt ∧ a.toInt + b.toInt ≤ 2147483647) : x.toInt = a.toInt + b.toInt := by
  rw [e, Int32.toInt_add]; exact i3_bm h
theorem i3_sub {x a b : Int32} (e : x = a - b) (h : -2147483648 ≤ a.toInt - b.toInt ∧ a.toInt - b.toInt ≤ 2147483647) : x.toInt = a.toInt - b.toInt := by
  rw [e, Int32.toInt_sub]; exact i3_bm h
theorem i3_mul {x a b : Int32} (e : x = a * b) (h : -2147483648 ≤ a.toInt * b.toInt ∧ a.toInt * b.toInt ≤ 2147483647) : x.toInt = a.toInt * b.toInt := by
  rw [e, Int32.toInt_mul]; exact i3_bm h
theorem i3_nat {i : Int32} (h : 0 ≤ i.toInt) : (i.toNatClampNeg : Int) = i.toInt := by
  have : i.toNatClampNeg = i.toInt.toNat := rfl
  omega
theorem i3_in {i : Int32} {n : Nat} (h : 0 ≤ i.toInt ∧ i.toInt < n) : vp_in i n := by
  have h1 := i3_nat h.1
  intro q
  rcases q with q | q
  · have := i3_lt q
    have e : (0 : Int32).toInt = 0 := by decide
    omega
  · omega
theorem bi_pos {P : Prop} [Decidable P] {r : Int32} (e : r = if P then 1 else 0) (h : ¬ r = 0) : P := by
  by_cases q : P
  · exact q
  · rw [if_neg q] at e; exact absurd e h
theorem bi_neg {P : Prop} [Decidable P] {r : Int32} (e : r = if P then 1 else 0) (h : r = 0) : ¬ P := by
  intro q
  rw [if_pos q, h] at e
  exact absurd e (by decide)
theorem bi_pos1 {P : Prop} [Decidable P] {r : Int32} (e : r = if P then 1 else 0) (h : r.toInt ≠ 0) : P := bi_pos e (fun q => h (by rw [q]; decide))
theorem bi_neg1 {P : Prop} [Decidable P] {r : Int32} (e : r = if P then 1 else 0) (h : r.toInt = 0) : ¬ P := bi_neg e (Int32.toInt_inj.mp (by rw [h]; decide))
def nF : List (String × Nat × String × String × String × String) := [("TimingHouse$Timing", 53, "TimingHouse$Net", "cells", "I", "TimingHouse"), ("TimingHouse$Race", 69, "TimingHouse$Net", "cells", "I", "TimingHouse"), ("TimingHouse", 92, "TimingHouse$Net", "cells", "I", "TimingHouse"), ("TimingHouse$Tracer", 67, "TimingHouse$Net", "cells", "I", "TimingHouse"), ("TimingHouse$Timing", 63, "TimingHouse$Net", "kinds", "[I", "TimingHouse"), ("TimingHouse", 108, "TimingHouse$Net", "kinds", "[I", "TimingHouse"), ("TimingHouse$Race", 104, "TimingHouse$Net", "kinds", "[I", "TimingHouse"), ("TimingHouse$Tracer", 150, "TimingHouse$Net", "kinds", "[I", "TimingHouse"), ("TimingHouse$Timing", 131, "TimingHouse$Net", "inputs", "[I", "TimingHouse"), ("TimingHouse$Race", 151, "TimingHouse$Net", "inputs", "[I", "TimingHouse"), ("TimingHouse", 200, "TimingHouse$Net", "inputs", "[I", "TimingHouse"), ("TimingHouse$Timing", 135, "TimingHouse$Net", "tables", "[I", "TimingHouse"), ("TimingHouse", 125, "TimingHouse$Net", "sizes", "[I", "TimingHouse"), ("TimingHouse$Timing", 137, "TimingHouse$Net", "sizes", "[I", "TimingHouse"), ("TimingHouse", 119, "TimingHouse$Net", "extras", "[I", "TimingHouse"), ("TimingHouse$Race", 90, "TimingHouse$Net", "sources", "[I", "TimingHouse"), ("TimingHouse$Timing", 82, "TimingHouse$Net", "sources", "[I", "TimingHouse"), ("TimingHouse", 216, "TimingHouse$Net", "sources", "[I", "TimingHouse"), ("TimingHouse$Tracer", 111, "TimingHouse$Net", "takers", "[I", "TimingHouse"), ("TimingHouse$Tracer", 108, "TimingHouse$Net", "firstTaker", "[I", "TimingHouse"), ("TimingHouse$Timing", 76, "TimingHouse$Net", "order", "[I", "TimingHouse"), ("TimingHouse$Tracer", 98, "TimingHouse$Net", "order", "[I", "TimingHouse"), ("TimingHouse$Race", 148, "TimingHouse$Net", "order", "[I", "TimingHouse"), ("TimingHouse$Timing", 73, "TimingHouse$Net", "ordered", "I", "TimingHouse"), ("TimingHouse$Tracer", 95, "TimingHouse$Net", "ordered", "I", "TimingHouse"), ("TimingHouse$Race", 145, "TimingHouse$Net", "ordered", "I", "TimingHouse"), ("TimingHouse", 129, "TimingHouse$Stations", "earlies", "[I", "TimingHouse"), ("TimingHouse$Timing", 99, "TimingHouse$Stations", "earlies", "[I", "TimingHouse"), ("TimingHouse", 132, "TimingHouse$Stations", "lates", "[I", "TimingHouse"), ("TimingHouse$Timing", 96, "TimingHouse$Stations", "lates", "[I", "TimingHouse"), ("TimingHouse", 135, "TimingHouse$Stations", "slopes", "[I", "TimingHouse"), ("TimingHouse$Timing", 91, "TimingHouse$Stations", "slopes", "[I", "TimingHouse"), ("TimingHouse$Race", 107, "TimingHouse$Stations", "nodes", "[I", "TimingHouse"), ("TimingHouse", 144, "TimingHouse$Stations", "nodes", "[I", "TimingHouse"), ("TimingHouse$Timing", 106, "TimingHouse$Stations", "nodes", "[I", "TimingHouse"), ("TimingHouse", 147, "TimingHouse$Stations", "setups", "[I", "TimingHouse"), ("TimingHouse$Race", 122, "TimingHouse$Stations", "setups", "[I", "TimingHouse"), ("TimingHouse", 150, "TimingHouse$Stations", "holds", "[I", "TimingHouse"), ("TimingHouse$Race", 129, "TimingHouse$Stations", "holds", "[I", "TimingHouse"), ("TimingHouse$Tracer", 159, "TimingHouse$Clock", "length", "I", "TimingHouse"), ("TimingHouse", 178, "TimingHouse$Clock", "length", "I", "TimingHouse"), ("TimingHouse$Race", 181, "TimingHouse$Clock", "length", "I", "TimingHouse"), ("TimingHouse", 181, "TimingHouse$Clock", "nodes", "I", "TimingHouse"), ("TimingHouse", 189, "TimingHouse$Rules", "told", "I", "TimingHouse"), ("TimingHouse$Tracer", 105, "TimingHouse$Rules", "bits", "[I", "TimingHouse"), ("TimingHouse$Race", 132, "TimingHouse$Rules", "bits", "[I", "TimingHouse"), ("TimingHouse", 162, "TimingHouse$Tables", "numbers", "[I", "TimingHouse"), ("TimingHouse", 168, "TimingHouse$Tables", "falls", "[I", "TimingHouse"), ("TimingHouse$Timing", 146, "TimingHouse$Tables", "falls", "[I", "TimingHouse"), ("TimingHouse", 171, "TimingHouse$Tables", "lateCorner", "I", "TimingHouse"), ("TimingHouse$Timing", 149, "TimingHouse$Tables", "lateCorner", "I", "TimingHouse"), ("TimingHouse", 174, "TimingHouse$Tables", "earlyCorner", "I", "TimingHouse"), ("TimingHouse$Timing", 152, "TimingHouse$Tables", "earlyCorner", "I", "TimingHouse"), ("TimingHouse", 220, "TimingHouse$Timing", "reached", "[Z", "TimingHouse"), ("TimingHouse$Race", 78, "TimingHouse$Timing", "open", "[I", "TimingHouse"), ("TimingHouse", 224, "TimingHouse$Timing", "open", "[I", "TimingHouse"), ("TimingHouse$Tracer", 153, "TimingHouse$Timing", "lateDelays", "[I", "TimingHouse"), ("TimingHouse$Race", 157, "TimingHouse$Timing", "lateDelays", "[I", "TimingHouse"), ("TimingHouse$Tracer", 156, "TimingHouse$Timing", "earlyDelays", "[I", "TimingHouse"), ("TimingHouse$Race", 160, "TimingHouse$Timing", "earlyDelays", "[I", "TimingHouse"), ("TimingHouse", 233, "TimingHouse$Timing", "lateSlopes", "[I", "TimingHouse"), ("TimingHouse", 236, "TimingHouse$Timing", "earlySlopes", "[I", "TimingHouse"), ("TimingHouse$Tracer", 129, "TimingHouse$Timing", "lateArrivals", "[I", "TimingHouse"), ("TimingHouse$Race", 135, "TimingHouse$Timing", "lateArrivals", "[I", "TimingHouse"), ("TimingHouse", 227, "TimingHouse$Timing", "lateArrivals", "[I", "TimingHouse"), ("TimingHouse$Tracer", 134, "TimingHouse$Timing", "earlyArrivals", "[I", "TimingHouse"), ("TimingHouse$Race", 138, "TimingHouse$Timing", "earlyArrivals", "[I", "TimingHouse"), ("TimingHouse", 230, "TimingHouse$Timing", "earlyArrivals", "[I", "TimingHouse"), ("TimingHouse", 245, "TimingHouse$Race", "counts", "[I", "TimingHouse"), ("TimingHouse", 251, "TimingHouse$Race", "slacks", "[I", "TimingHouse"), ("TimingHouse", 255, "TimingHouse$Race", "holdSlacks", "[I", "TimingHouse"), ("TimingHouse", 283, "TimingHouse$Race", "needed", "I", "TimingHouse"), ("TimingHouse$Tracer", 140, "TimingHouse$Trail", "length", "I", "TimingHouse"), ("TimingHouse", 266, "TimingHouse$Trail", "length", "I", "TimingHouse"), ("TimingHouse", 273, "TimingHouse$Trail", "cells", "[I", "TimingHouse"), ("TimingHouse", 275, "TimingHouse$Trail", "inputs", "[I", "TimingHouse"), ("TimingHouse", 276, "TimingHouse$Trail", "edges", "[I", "TimingHouse"), ("TimingHouse", 279, "TimingHouse$Trail", "lates", "[I", "TimingHouse"), ("TimingHouse$Tracer", 84, "TimingHouse$Trail", "slackThere", "I", "TimingHouse"), ("TimingHouse", 267, "TimingHouse$Trail", "slackThere", "I", "TimingHouse"), ("TimingHouse$Tracer", 170, "TimingHouse$Trail", "holdThere", "I", "TimingHouse"), ("TimingHouse", 270, "TimingHouse$Trail", "holdThere", "I", "TimingHouse")]
def nM : List (String × Nat × MethodName × String) := [("TimingHouse", 25, ⟨"TimingHouse$Clock", "<init>", "()V"⟩, "TimingHouse"), ("TimingHouse", 32, ⟨"TimingHouse$Rules", "<init>", "()V"⟩, "TimingHouse"), ("TimingHouse", 73, ⟨"TimingHouse$Trail", "<init>", "()V"⟩, "TimingHouse")]
def nw_ok (U : State) : Prop := (∀ q ∈ nF, va_Nw (.fieldLinkNest q.1 q.2.1 q.2.2.1 q.2.2.2.1 q.2.2.2.2.1 q.2.2.2.2.2) U) ∧ ∀ q ∈ nM, va_Nw (.methodLinkNest q.1 q.2.1 q.2.2.1 q.2.2.2) U
theorem nw_ok.moved {s U : State} (hW : s.WarmedH U.vm) (h : nw_ok s) : nw_ok U := ⟨fun q hq => va_Nw.warmF hW (h.1 q hq), fun q hq => va_Nw.warmM hW (h.2 q hq)⟩
theorem nw_ok.same {s U : State} (hv : s.vm = U.vm) (h : nw_ok s) : nw_ok U := ⟨fun q hq => va_Nw.same rfl hv (h.1 q hq), fun q hq => va_Nw.same rfl hv (h.2 q hq)⟩
theorem nw_F {U : State} (h : nw_ok U) (k : Nat) {a b n d g : String} {i : Nat} (hk : nF[k]? = some (a, i, b, n, d, g)) {args : Array Value} : (Cond.fieldLinkNest a i b n d g).before args U = true := va_Nw.use rfl (h.1 _ (List.mem_of_getElem? hk))
theorem nw_M {U : State} (h : nw_ok U) (k : Nat) {a g : String} {i : Nat} {x : MethodName} (hk : nM[k]? = some (a, i, x, g)) : va_Nw (.methodLinkNest a i x g) U := h.2 _ (List.mem_of_getElem? hk)
/-- the layout; the classes of int, long and boolean arrays; the addresses of the three static arrays -/
abbrev gE : Type := va_G × ClassId × ClassId × ClassId × Nat × Nat × Nat
abbrev tyE (E : gE) : List (ClassId × FieldType) := [(E.2.1, .int), (E.2.2.1, .long), (E.2.2.2.1, .boolean)]
abbrev aI (E : gE) (n : Nat) (f : Nat → Int32) : va_E := .inl (E.2.1, n, .inl f)
abbrev aZ (E : gE) (n : Nat) (f : Nat → Int32) : va_E := .inl (E.2.2.2.1, n, .inl f)
abbrev aJ (E : gE) (n : Nat) (f : Nat → Int64) : va_E := .inl (E.2.2.1, n, .inr (.inl f))
def lm_load : List Int32 := [0, 8, 24, 64]
def lm_slope : List Int32 := [0, 16, 64]
def lm_gaps : List Int32 := [701, 301, 132, 57, 23, 10, 4, 1]
/-- the three static arrays, outside of what may be written -/
def stk (E : gE) (A : Nat → Prop) (U : State) (H : Heap) : Prop :=
  (va_Z "TimingHouse$Tables" "LOAD_MARKS" "[I" (.ref E.2.2.2.2.1) A U H ∧ va_T .int E.2.2.2.2.1 4 (fun j => .int (lm_load.getD j 0)) A U H) ∧
  (va_Z "TimingHouse$Tables" "SLOPE_MARKS" "[I" (.ref E.2.2.2.2.2.1) A U H ∧ va_T .int E.2.2.2.2.2.1 3 (fun j => .int (lm_slope.getD j 0)) A U H) ∧
  (va_Z "TimingHouse$Tracer" "GAPS" "[I" (.ref E.2.2.2.2.2.2) A U H ∧ va_T .int E.2.2.2.2.2.2 8 (fun j => .int (lm_gaps.getD j 0)) A U H)
theorem stk.moved {E : gE} {A : Nat → Prop} {u U : State} {H : Heap} (hvm : u.vm.Alike U.vm) (h : stk E A u H) : stk E A U H := ⟨⟨va_Z.moved hvm h.1.1, va_T.moved hvm h.1.2⟩, ⟨va_Z.moved hvm h.2.1.1, va_T.moved hvm h.2.1.2⟩, va_Z.moved hvm h.2.2.1, va_T.moved hvm h.2.2.2⟩
theorem stk.kept {E : gE} {A : Nat → Prop} {U : State} {H H1 : Heap} (h : stk E A U H) (hq : ∀ a : Nat, a < H.size → ¬ A a → H1[a]? = H[a]?) : stk E A U H1 := ⟨⟨h.1.1.kept hq, h.1.2.kept hq⟩, ⟨h.2.1.1.kept hq, h.2.1.2.kept hq⟩, h.2.2.1.kept hq, h.2.2.2.kept hq⟩
theorem stk.narrow {E : gE} {A B : Nat → Prop} {U : State} {H : Heap} (h : stk E A U H) (hAB : ∀ q, B q → A q) : stk E B U H := ⟨⟨h.1.1.narrow hAB, h.1.2.narrow hAB⟩, ⟨h.2.1.1.narrow hAB, h.2.1.2.narrow hAB⟩, h.2.2.1.narrow hAB, h.2.2.2.narrow hAB⟩
def PreU (E : gE) (ws : va_W) (sz : Nat) (U : State) : Prop := U.heap.size = sz ∧ va_P E.1 vwCl ws U.heap ∧ va_K E.1 vwCl (tyE E) U ∧ nw_ok U ∧ stk E (va_A ws sz) U U.heap ∧ va_D (fun _ => True) ws
def AftU (E : gE) (A : Nat → Prop) (w : va_W) (t : State) : Prop := va_P E.1 vwCl w t.heap ∧ va_D A w
/-- a contract with an int (or boolean) for an answer: 'post answer world' -/
def CtI (l : Launch) (E : gE) (y : MethodName) (wds : List Cond) (rm : Room) (ws : va_W) (av : List Value) (post : Int32 → va_W → Prop) : Prop :=
  ∀ sz : Nat, Met l y wds rm (va_Pc av (PreU E ws sz)) (va_Qi post (AftU E (va_A ws sz)) (va_A ws sz)) rm.cells rm.slots (va_A ws sz)
/-- a contract without an answer -/
def CtV (l : Launch) (E : gE) (y : MethodName) (wds : List Cond) (rm : Room) (ws : va_W) (av : List Value) (post : va_W → Prop) : Prop :=
  ∀ sz : Nat, Met l y wds rm (va_Pc av (PreU E ws sz)) (va_Qv post (AftU E (va_A ws sz)) (va_A ws sz)) rm.cells rm.slots (va_A ws sz)
theorem PreU.blind {E : gE} {ws : va_W} {sz : Nat} {av : List Value} : FrameBlind (va_Pc av (PreU E ws sz)) := by
  intro a U g mk q
  obtain ⟨q0, q1, q2, q3, q4, q6, q5⟩ := q
  exact ⟨q0, q1, q2, va_K.moved (u := U) (U := U.calling g mk a) (Vm.Alike.refl U.vm) q3, nw_ok.same (s := U) (U := U.calling g mk a) rfl q4, stk.moved (u := U) (U := U.calling g mk a) (Vm.Alike.refl U.vm) q6, q5⟩
theorem pre_S {E : gE} {s : State} {H : Heap} {locs : List Loc} {A : Nat → Prop} {wc : va_W} {As : List Value} (hK : va_K E.1 vwCl (tyE E) s) (hN : nw_ok s) (hZ : stk E A s s.heap) (hS : va_S A s.heap H locs) (hF : ∀ q, va_A wc H.size q → A q) (hP : va_P E.1 vwCl wc H) (hD : va_D A wc) : PreS s H (va_Pc As (PreU E wc H.size)) As :=
  ⟨PreU.blind, fun U hU hW => ⟨rfl, by rw [hU], by rw [hU]; exact hP, va_K.moved hW.alike hK, hN.moved hW, by rw [hU]; exact ((hZ.kept hS.2.1).narrow hF).moved hW.alike, hD.weaken (fun _ _ _ _ => trivial)⟩⟩
theorem pre_V {E : gE} {s : State} {H : Heap} {locs : List Loc} {A : Nat → Prop} {wc : va_W} {As : List Value} {b ci q0 : Nat} {q : vw_C} {fs : List Value} (hK : va_K E.1 vwCl (tyE E) s) (hN : nw_ok s) (hZ : stk E A s s.heap) (hS : va_S A s.heap H locs) (hF : ∀ q, va_A wc H.size q → A q) (hP : va_P E.1 vwCl wc H) (hD : va_D A wc) (hc : vwCl[ci]? = some q) (he : wc[q0]? = some (b, .inr (ci, fs))) : PreV s H q.1 b (va_Pc (.ref b :: As) (PreU E wc H.size)) As :=
  ⟨PreU.blind, va_recv hK hP hc he, fun U hU hW => ⟨rfl, by rw [hU], by rw [hU]; exact hP, va_K.moved hW.alike hK, hN.moved hW, by rw [hU]; exact ((hZ.kept hS.2.1).narrow hF).moved hW.alike, hD.weaken (fun _ _ _ _ => trivial)⟩⟩
section
variable {p : Program} {l : Launch} {e : Env} {R : Room} {s : State} {m : MethodId} {args : Array Value} {below : List Frame} {meth : Method} {c : Code} {H : Heap} {locs : List Loc} {cells slots : Nat} {Q : State → Prop} {cc : ByteArray} {pc : Nat} {ls : Array Slot} {rest : List Value} {A : Nat → Prop} {E : gE}
/-- what a method's body begins with -/
def BdU (p : Program) (l : Launch) (e : Env) (E : gE) (y : MethodName) (wds : List Cond) (cc : ByteArray) (maxL : Nat) (rt : Option FieldType) (ws : va_W) (av : List Value) (s : State) (m : MethodId) (meth : Method) (c : Code) (A : Nat → Prop) : Prop :=
  p.tables.exec = Jvm.exec ∧ c.code = cc ∧ c.maxLocals = maxL ∧ meth.sig.returnType = rt ∧ meth.locks = false ∧ meth.name = y.name ∧ (∀ w ∈ wds, w.before av.toArray s = true) ∧ s.vm.findClass y.cls = some m.cls ∧ va_K E.1 vwCl (tyE E) s ∧ nw_ok s ∧ stk E A s s.heap ∧ (∀ q, s.heap.size ≤ q → A q) ∧ va_P E.1 vwCl ws s.heap ∧ va_D A ws ∧ va_S A s.heap s.heap []
theorem CtI.of {y : MethodName} {wds wds' : List Cond} {rm : Room} {ws : va_W} {av : List Value} {post : Int32 → va_W → Prop} {maxL : Nat} {rt : Option FieldType} (hy : plainName y.cls = true) (hw : wds = Cond.code y cc maxL rt :: wds') (hlen : (lg_sl av).length ≤ maxL)
    (body : ∀ p e s m below meth c A, BdU p l e E y wds cc maxL rt ws av s m meth c A → ∀ ls, lv_has ls maxL (lv_args 0 av) →
      W p l e rm s m av.toArray below meth c s.heap [] 0 0 (MQ below (va_Qi post (AftU E A) A) av.toArray s rm.cells rm.slots A) (F0 m 0 ls [])) : CtI l E y wds rm ws av post := by
  intro sz
  refine Met.ofW (cc := cc) (maxL := maxL) (ret := rt) hy hw ?_
  intro p e s m args below meth c s₁ B hml hv
  obtain ⟨rfl, hsz, hP, hK, hN, hZ, hD0⟩ := hv
  subst hsz
  rw [lg_entry_eq]
  exact body p e s m below meth c (va_A ws s.heap.size) ⟨B.exec, B.bytes, hml, B.returns, B.notSynchronized, (name_of_methodNamed B.named B.method).1, atoms_spec (ws := wds) B.pre, findClass_of_methodNamed B.named, hK, hN, hZ, fun q h => Or.inr h, hP, hD0.self, va_S.rf⟩ _ (lv_entry av hlen)
theorem CtV.of {y : MethodName} {wds wds' : List Cond} {rm : Room} {ws : va_W} {av : List Value} {post : va_W → Prop} {maxL : Nat} {rt : Option FieldType} (hy : plainName y.cls = true) (hw : wds = Cond.code y cc maxL rt :: wds') (hlen : (lg_sl av).length ≤ maxL)
    (body : ∀ p e s m below meth c A, BdU p l e E y wds cc maxL rt ws av s m meth c A → ∀ ls, lv_has ls maxL (lv_args 0 av) →
      W p l e rm s m av.toArray below meth c s.heap [] 0 0 (MQ below (va_Qv post (AftU E A) A) av.toArray s rm.cells rm.slots A) (F0 m 0 ls [])) : CtV l E y wds rm ws av post := by
  intro sz
  refine Met.ofW (cc := cc) (maxL := maxL) (ret := rt) hy hw ?_
  intro p e s m args below meth c s₁ B hml hv
  obtain ⟨rfl, hsz, hP, hK, hN, hZ, hD0⟩ := hv
  subst hsz
  rw [lg_entry_eq]
  exact body p e s m below meth c (va_A ws s.heap.size) ⟨B.exec, B.bytes, hml, B.returns, B.notSynchronized, (name_of_methodNamed B.named B.method).1, atoms_spec (ws := wds) B.pre, findClass_of_methodNamed B.named, hK, hN, hZ, fun q h => Or.inr h, hP, hD0.self, va_S.rf⟩ _ (lv_entry av hlen)
theorem ret_i {post : Int32 → va_W → Prop} {w : va_W} {v : Int32} {ty : FieldType} (hx : p.tables.exec = Jvm.exec) (hb : c.code = cc) (hr : meth.sig.returnType = some ty) (hlk : meth.locks = false) (hP : va_P E.1 vwCl w H) (hD : va_D A w) (hS : va_S A s.heap H locs) (hn : narrow ty (.int v) = .int v) (hdg : decode cc pc = .ok (.ireturn, 1)) {k n : Nat} (h1 : cells ≤ k) (h2 : slots ≤ n) (hpost : post v w) :
    W p l e R s m args below meth c H locs cells slots (MQ below (va_Qi post (AftU E A) A) args s k n A) (F0 m pc ls [.int v]) :=
  W.widen h1 h2 (W.zret hx hb hr hn (fun t ht _ => ⟨⟨v, w, rfl, hpost, by rw [ht]; exact hP, hD⟩, hS.F ht⟩) hS.2.2 hdg hlk)
theorem ret_v {post : va_W → Prop} {w : va_W} (hx : p.tables.exec = Jvm.exec) (hb : c.code = cc) (hr : meth.sig.returnType = none) (hlk : meth.locks = false) (hP : va_P E.1 vwCl w H) (hD : va_D A w) (hS : va_S A s.heap H locs) (hdg : decode cc pc = .ok (.return_, 1)) {k n : Nat} (h1 : cells ≤ k) (h2 : slots ≤ n) (hpost : post w) :
    W p l e R s m args below meth c H locs cells slots (MQ below (va_Qv post (AftU E A) A) args s k n A) (F0 m pc ls []) :=
  W.widen h1 h2 (W.vret hx hb hr (fun t ht _ => ⟨⟨w, rfl, hpost, by rw [ht]; exact hP, hD⟩, hS.F ht⟩) hS.2.2 hdg hlk)
theorem call_i {post : Int32 → va_W → Prop} {a : Array Value} {ws wc wr : va_W} {H0 : Heap} {mc ms : Nat} {st0 : List Value} (hr : va_Run p l e R s m args below meth c H locs cells slots mc ms (F0 m pc ls st0) rest (va_Qi post (AftU E (va_A wc H.size)) (va_A wc H.size) a) (va_A wc H.size))
    (hP : va_P E.1 vwCl ws H) (hD : va_D A ws) (hS : va_S A H0 H locs) (hA : ∀ q, H0.size ≤ q → A q) (isC isR : List Nat) (hC : isC.map (fun i => ws[i]?) = wc.map some) (hR : isR.map (fun i => ws[i]?) = wr.map some) (hn : va_nd isR = true) (hdis : ∀ i ∈ isR, i ∉ isC)
    (kk : ∀ (r : Int32) (w : va_W) (H1 : Heap) (locs1 : List Loc), post r w → va_P E.1 vwCl (wr ++ w) H1 → va_D A (wr ++ w) → va_S A H0 H1 locs1 → W p l e R s m args below meth c H1 locs1 (cells + mc) (slots + ms) Q (F0 m (pc + 3) ls (.int r :: rest))) : W p l e R s m args below meth c H locs cells slots Q (F0 m pc ls st0) := by
  have hF := va_free (wc := wc) hD hS hA isC hC
  refine va_calli hr hS (fun q _ h => hF q h) hF (fun r u t H1 locs1 ht hvm hw hB hz1 hk1 hS1 => ?_)
  obtain ⟨hP1, hD1⟩ := hB
  rw [ht] at hP1
  obtain ⟨h1, h2⟩ := va_join (wr := wr) (w1 := u) hP hD isC isR hC hR hn hdis hk1 hF hP1 hD1
  exact kk r u H1 locs1 hw h1 h2 hS1
theorem call_v {post : va_W → Prop} {a : Array Value} {ws wc wr : va_W} {H0 : Heap} {mc ms : Nat} {st0 : List Value} (hr : va_Run p l e R s m args below meth c H locs cells slots mc ms (F0 m pc ls st0) rest (va_Qv post (AftU E (va_A wc H.size)) (va_A wc H.size) a) (va_A wc H.size))
    (hP : va_P E.1 vwCl ws H) (hD : va_D A ws) (hS : va_S A H0 H locs) (hA : ∀ q, H0.size ≤ q → A q) (isC isR : List Nat) (hC : isC.map (fun i => ws[i]?) = wc.map some) (hR : isR.map (fun i => ws[i]?) = wr.map some) (hn : va_nd isR = true) (hdis : ∀ i ∈ isR, i ∉ isC)
    (kk : ∀ (w : va_W) (H1 : Heap) (locs1 : List Loc), post w → va_P E.1 vwCl (wr ++ w) H1 → va_D A (wr ++ w) → va_S A H0 H1 locs1 → W p l e R s m args below meth c H1 locs1 (cells + mc) (slots + ms) Q (F0 m (pc + 3) ls rest)) : W p l e R s m args below meth c H locs cells slots Q (F0 m pc ls st0) := by
  have hF := va_free (wc := wc) hD hS hA isC hC
  refine va_callv hr hS (fun q _ h => hF q h) hF (fun u t H1 locs1 ht hvm hw hB hz1 hk1 hS1 => ?_)
  obtain ⟨hP1, hD1⟩ := hB
  rw [ht] at hP1
  obtain ⟨h1, h2⟩ := va_join (wr := wr) (w1 := u) hP hD isC isR hC hR hn hdis hk1 hF hP1 hD1
  exact kk u H1 locs1 hw h1 h2 hS1
/-- a computed number is this one -/
theorem lv_cst {x y : Int32} (h : x = y) (k : W p l e R s m args below meth c H locs cells slots Q (F0 m pc ls (.int y :: rest))) : W p l e R s m args below meth c H locs cells slots Q (F0 m pc ls (.int x :: rest)) := h ▸ k
/-- the world said in other words -/
theorem wd_eq {ws ws' : va_W} (h : ws = ws') (hP : va_P E.1 vwCl ws H) : va_P E.1 vwCl ws' H := h ▸ hP
/-- a new array of a primitive type whose class the tables' words name already -/
theorem nw_arr (hexec : p.tables.exec = Jvm.exec) (hb : c.code = cc) {atype : ArrayType} (harr : (Cond.arrayClass (newarray.typeOf atype)).before args s = true) {ty : FieldType} (hty : newarray.typeOf atype = ty) (hprim : ∀ C, ty ≠ .object C) {ws : va_W} {H0 : Heap} (hK : va_K E.1 vwCl (tyE E) s) (hP : va_P E.1 vwCl ws H) (hD : va_D A ws) (hS : va_S A H0 H locs) (hA : ∀ q, H0.size ≤ q → A q) (t0 : Nat) {cA : ClassId} (ht : (tyE E)[t0]? = some (cA, ty))
    {n : Int32} {N' : Nat} {a0 : vp_A} (ha : ∀ cA : ClassId, vp_cell cA a0 = arrV cA N' (fun _ => defaultValue ty)) (hn : ¬ n < 0) (hN : n.toNatClampNeg = N') (hbytes : N' * componentBytes ty ≤ 536870912) (hcells : cells + 1 ≤ R.cells) (hslots : slots + N' ≤ R.slots) (hdg : decode cc pc = .ok (.newarray atype, 2))
    (kk : ∀ (q : Nat) (H1 : Heap), va_P E.1 vwCl (ws ++ [(q, .inl (cA, a0))]) H1 → va_D A (ws ++ [(q, .inl (cA, a0))]) → va_S A H0 H1 locs →
      W p l e R s m args below meth c H1 locs (cells + 1) (slots + N') Q (F0 m (pc + 2) ls (.ref q :: rest))) : W p l e R s m args below meth c H locs cells slots Q (F0 m pc ls (.int n :: rest)) := by
  refine va_newa hexec hb harr hty hK hP hD hS hA ha hn hN hbytes hcells hslots hdg (fun q cA' H1 hK1 hP1 hD1 hS1 => ?_)
  have e1 := (hK1.2 (tyE E).length (cA', ty) (by simp)).2
  have e2 := (hK.2 t0 (cA, ty) ht).2
  have e3 : cA' = cA := by
    cases ty with
    | object C => exact absurd rfl (hprim C)
    | _ => exact Option.some.inj (Eq.trans (Eq.symm e1) e2)
  subst e3
  exact kk q H1 hP1 hD1 hS1
end
theorem i3_addc {x a b : Int32} {na nb : Int} (ha : a.toInt = na) (hb : b.toInt = nb) (e : x = a + b) (h : -2147483648 ≤ na + nb ∧ na + nb ≤ 2147483647) : x.toInt = na + nb := by
  subst ha; subst hb; exact i3_add e h
theorem i3_subc {x a b : Int32} {na nb : Int} (ha : a.toInt = na) (hb : b.toInt = nb) (e : x = a - b) (h : -2147483648 ≤ na - nb ∧ na - nb ≤ 2147483647) : x.toInt = na - nb := by
  subst ha; subst hb; exact i3_sub e h
theorem i3_mulc {x a b : Int32} {na nb : Int} (ha : a.toInt = na) (hb : b.toInt = nb) (e : x = a * b) (h : -2147483648 ≤ na * nb ∧ na * nb ≤ 2147483647) : x.toInt = na * nb := by
  subst ha; subst hb; exact i3_mul e h
theorem W_heap {p : Program} {l : Launch} {e : Env} {R : Room} {s : State} {m : MethodId} {args : Array Value} {below : List Frame} {meth : Method} {c : Code} {H : Heap} {locs : List Loc} {cells slots : Nat} {Q : State → Prop} {g : JFrame} (h : H = s.heap) (k : W p l e R s m args below meth c H locs cells slots Q g) : W p l e R s m args below meth c s.heap locs cells slots Q g := h ▸ k
