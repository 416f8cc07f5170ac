/-! ALL PATHS TO AN END, NUMBERED -/
def slkA (D V : Nat → Nat → Int) (nmS : Nat → Nat → Int) (b : Nat → Nat) (len : Int) (rm : Nat → Int) (x : Nat × Nat × List Nat) : Int := nmS x.1 (endM b (b x.1) x.2.2) * len + rm x.1 - endL D V 2 x.2.1 (saD D V (2 * x.1 + x.2.1)) x.2.2
def kap (L : List (Nat × Nat × List Nat)) (sl : Nat × Nat × List Nat → Int) (j : Nat) : Int := match L[j]? with
  | some x => sl x * 1024 + (j : Int)
  | none => -1
theorem kap_s {L : List (Nat × Nat × List Nat)} {sl : Nat × Nat × List Nat → Int} {j : Nat} {x : Nat × Nat × List Nat} (h : L[j]? = some x) : kap L sl j = sl x * 1024 + (j : Int) := by
  unfold kap
  rw [h]
theorem get_ex {α : Type} {L : List α} {j : Nat} (h : j < L.length) : ∃ x, L[j]? = some x := ⟨L[j], List.getElem?_eq_getElem h⟩
theorem kap_ij {L : List (Nat × Nat × List Nat)} {sl : Nat × Nat × List Nat → Int} (h : L.length ≤ 1000) : Ij L.length (kap L sl) := fun i j hi hj e => by
  obtain ⟨x, hx⟩ := get_ex hi
  obtain ⟨y, hy⟩ := get_ex hj
  rw [kap_s hx, kap_s hy] at e
  omega
theorem APk_pre {D : Nat → Nat → Int} {FF : Nat → Nat → Nat → List (List Nat)} {b : Nat → Nat} {k : Nat} : ∀ n : Nat, k ≤ n → ∃ r, APk D FF b n = APk D FF b k ++ r
  | 0, h => ⟨[], by
      have e : k = 0 := by omega
      rw [e, List.append_nil]⟩
  | n + 1, h => by
    by_cases q : k = n + 1
    · exact ⟨[], by rw [q, List.append_nil]⟩
    · obtain ⟨r, hr⟩ := APk_pre (D := D) (FF := FF) (b := b) (k := k) n (by omega)
      by_cases s : D 0 n = 0 ∨ D 0 n = 4
      · exact ⟨r ++ ((FF n n (b n)).map (fun p => (n, 0, p)) ++ (FF n n (b n)).map (fun p => (n, 1, p))), by rw [APk_y s, hr, List.append_assoc]⟩
      · exact ⟨r, by rw [APk_n s, hr]⟩
theorem APk_up {D : Nat → Nat → Int} {FF : Nat → Nat → Nat → List (List Nat)} {b : Nat → Nat} {k n j : Nat} (h : k ≤ n) (hj : j < (APk D FF b k).length) : (APk D FF b n)[j]? = (APk D FF b k)[j]? := by
  obtain ⟨r, hr⟩ := APk_pre (D := D) (FF := FF) (b := b) n h
  rw [hr, List.getElem?_append_left hj]
theorem APk_le {D : Nat → Nat → Int} {FF : Nat → Nat → Nat → List (List Nat)} {b : Nat → Nat} {k n : Nat} (h : k ≤ n) : (APk D FF b k).length ≤ (APk D FF b n).length := by
  obtain ⟨r, hr⟩ := APk_pre (D := D) (FF := FF) (b := b) n h
  rw [hr, List.length_append]
  omega
theorem APk_l {D : Nat → Nat → Int} {FF : Nat → Nat → Nat → List (List Nat)} {b : Nat → Nat} {k : Nat} (h : D 0 k = 0 ∨ D 0 k = 4) : (APk D FF b (k + 1)).length = (APk D FF b k).length + 2 * (FF k k (b k)).length := by
  rw [APk_y h, List.length_append, List.length_append, List.length_map, List.length_map]
  omega
theorem APk_at {D : Nat → Nat → Int} {FF : Nat → Nat → Nat → List (List Nat)} {b : Nat → Nat} {k i f : Nat} {p : List Nat} (h : D 0 k = 0 ∨ D 0 k = 4) (hf : f = (FF k k (b k)).length) (hi : i < 2 * f) (hp : (FF k k (b k))[i % f]? = some p) : (APk D FF b (k + 1))[(APk D FF b k).length + i]? = some (k, i / f, p) := by
  rw [APk_y h, List.getElem?_append_right (by omega), show (APk D FF b k).length + i - (APk D FF b k).length = i by omega]
  by_cases z : i < f
  · rw [List.getElem?_append_left (by rw [List.length_map]; omega), List.getElem?_map, Nat.div_eq_of_lt z]
    rw [Nat.mod_eq_of_lt z] at hp
    rw [hp]; rfl
  · obtain ⟨j, ej⟩ : ∃ j, i = f + j := ⟨i - f, by omega⟩
    have jf : j < f := by omega
    have e1 : i / f = 1 := by rw [ej, Nat.add_div_left j (by omega), Nat.div_eq_of_lt jf]
    have e2 : i % f = j := by rw [ej, Nat.add_mod_left, Nat.mod_eq_of_lt jf]
    rw [e2] at hp
    rw [e1, List.getElem?_append_right (by rw [List.length_map]; omega), List.length_map, List.getElem?_map, show i - (FF k k (b k)).length = j by omega, hp]; rfl
def TrP (σ : VS) (R t : Nat) (b : Nat → Nat) (nmS : Nat → Nat → Int) (FF : Nat → Nat → Nat → List (List Nat)) : Prop :=
  t < nCl σ ∧ dC σ 1 t = 1 ∧ tgD (dC σ) t ∧ vC σ 1 (fD (dC σ) t) = 0 ∧ (∀ s m, s < nCl σ → m < 2 ^ R → nmS s m = perK (vv σ 31) (hitC (vv σ 32) (vv σ 34) s t (m ||| b t)) R) ∧ (∀ s c m, c < nCl σ → FF s c m = FPs (dC σ) (nmS s) b t (nCl σ) (FF s) c m) ∧ (APk (dC σ) FF b (nCl σ)).length < 1000
theorem TrE.mk {σ τ : VS} {R s t : Nat} {b : Nat → Nat} {sh : Nat → Nat → Int} {nmS : Nat → Nat → Int} {FF : Nat → Nat → Nat → List (List Nat)} (H : LyE σ R b sh) (P : TrP σ R t b nmS FF) (hE : Eo TF TA σ τ) (h11 : (τ.1 11).toInt = ((2 ^ R : Nat) : Int)) (h13 : (τ.1 13).toInt = (t : Int)) (hs : s < nCl σ) : TrE τ (dC σ) (nCl σ) R s t b (nmS s) (FF s) := by
  obtain ⟨hT, hO, hC, hWl, hSt, hR, hb0, hbK0, bsh, hsh⟩ := H
  obtain ⟨p1, p2, p3, p4, p5, p6, p7⟩ := P
  refine ⟨by unfold nCl; rw [hE.1 2 (by decide)], fun w hw c => ?_, fun c hc => ?_, by rw [hE.1 6 (by decide)]; exact hR, h11, fun c hc => by rw [vv_eo hE (by decide)]; exact hb0 c hc, hbK0, ⟨hs, p1⟩, fun m hm => ?_, p6 s, h13⟩
  · rw [vv_eo hE (by decide), dC_5 hw]
    omega
  · rw [vv_eo hE (by decide), dC_0 hc]
  · rw [vv_eo hE (show 31 ∉ TA by decide), vv_eo hE (show 32 ∉ TA by decide), vv_eo hE (show 34 ∉ TA by decide)]
    exact p5 s m hs hm
theorem div_x {l4 l3 : Int32} {i f : Nat} (e4 : l4.toInt = (i : Int)) (e3 : l3.toInt = (f : Int)) (hf : 0 < f) (hi : i < 3000) : (l4 / l3).toInt = ((i / f : Nat) : Int) ∧ (l4 - l4 / l3 * l3).toInt = ((i % f : Nat) : Int) := by
  have q1 : (l4 / l3).toInt = ((i / f : Nat) : Int) := by
    have q := i3_divc (x := l4 / l3) e4 e3 rfl (by omega) (by omega)
    rw [q, Int.natCast_ediv]
  have k := Nat.div_add_mod i f
  have e0 : ((i / f : Nat) : Int) * ((f : Nat) : Int) = ((f * (i / f) : Nat) : Int) := by rw [Nat.mul_comm f (i / f), Int.natCast_mul]
  have q2 : (l4 / l3 * l3).toInt = ((f * (i / f) : Nat) : Int) := by
    have q := i3_mulc (x := l4 / l3 * l3) q1 e3 rfl (by rw [e0]; omega)
    rw [q, e0]
  refine ⟨q1, ?_⟩
  have q := i3_subc (x := l4 - l4 / l3 * l3) e4 q2 rfl (by omega)
  omega
