/-! AS MANY FORWARD AS BACKWARD -/
def ND {α : Type} : List α → Prop
  | [] => True
  | p :: L => p ∉ L ∧ ND L
theorem ND_app {α : Type} : ∀ {A B : List α}, ND A → ND B → (∀ x, x ∈ A → x ∉ B) → ND (A ++ B)
  | [], _, _, h, _ => h
  | a :: _, _, h, k, d => ⟨fun q => (List.mem_append.mp q).elim h.1 (d a List.mem_cons_self), ND_app h.2 k (fun x hx => d x (List.mem_cons_of_mem _ hx))⟩
theorem ND_mapi {α β : Type} {g : α → β} : ∀ {A : List α}, (∀ x y, x ∈ A → y ∈ A → g x = g y → x = y) → ND A → ND (A.map g)
  | [], _, _ => trivial
  | a :: A, i, h => ⟨fun q => by
      obtain ⟨x, hx, e⟩ := List.mem_map.mp q
      have e2 := i x a (List.mem_cons_of_mem _ hx) List.mem_cons_self e
      exact h.1 (e2 ▸ hx), ND_mapi (fun x y hx hy => i x y (List.mem_cons_of_mem _ hx) (List.mem_cons_of_mem _ hy)) h.2⟩
theorem cons_i {w : Nat} {x y : List Nat} (h : w :: x = w :: y) : x = y := by
  injection h
theorem cons_h {v w : Nat} {x y : List Nat} (h : v :: x = w :: y) : v = w := by
  injection h
theorem nd_len {α : Type} [DecidableEq α] : ∀ (A B : List α), ND A → (∀ x, x ∈ A → x ∈ B) → A.length ≤ B.length
  | [], B, _, _ => Nat.zero_le _
  | a :: A, B, h, s => by
    have ha := s a List.mem_cons_self
    have ih := nd_len A (B.erase a) h.2 (fun x hx => (List.mem_erase_of_ne (fun (e : x = a) => h.1 (by rw [← e]; exact hx))).mpr (s x (List.mem_cons_of_mem _ hx)))
    have l := List.length_erase_of_mem ha
    have p : 0 < B.length := List.length_pos_of_mem ha
    rw [List.length_cons]
    omega
theorem cP_len {φ : List Nat → Prop} : ∀ L : List (List Nat), ND L → ∃ K, ND K ∧ (∀ p, p ∈ K ↔ p ∈ L ∧ φ p) ∧ K.length = cP φ L
  | [], _ => ⟨[], trivial, fun p => ⟨fun h => (by cases h), fun h => h.1⟩, rfl⟩
  | q :: L, h => by
    obtain ⟨K, k1, k2, k3⟩ := cP_len (φ := φ) L h.2
    by_cases z : φ q
    · refine ⟨q :: K, ⟨fun y => h.1 ((k2 q).mp y).1, k1⟩, fun p => ?_, by rw [cP_y z, List.length_cons, k3]⟩
      rw [List.mem_cons, List.mem_cons, k2 p]
      refine ⟨fun y => ?_, fun y => ?_⟩
      · rcases y with y | y
        · exact ⟨Or.inl y, y ▸ z⟩
        · exact ⟨Or.inr y.1, y.2⟩
      · rcases y.1 with y1 | y1
        · exact Or.inl y1
        · exact Or.inr ⟨y1, y.2⟩
    · refine ⟨K, k1, fun p => ?_, by rw [cP_n z, k3]⟩
      rw [List.mem_cons, k2 p]
      refine ⟨fun y => ⟨Or.inr y.1, y.2⟩, fun y => ?_⟩
      rcases y.1 with y1 | y1
      · exact absurd (y1 ▸ y.2) z
      · exact ⟨y1, y.2⟩
theorem BPi_nd {c : Nat} {src : Nat → Int} {R : Nat → List (List Nat)} : ∀ m : Nat, (∀ i, i < m → 0 ≤ src (4 * c + i) → ND (R i)) → ND (BPi c src R m)
  | 0, _ => trivial
  | m + 1, h => by
    have ih := BPi_nd m (fun i hi => h i (by omega))
    by_cases k : 0 ≤ src (4 * c + m)
    · rw [BPi_y k]
      refine ND_app ih (ND_mapi (fun x y _ _ e => cons_i e) (h m (by omega) k)) (fun x hx hy => ?_)
      obtain ⟨i, hi, _, q, _, e⟩ := (BPi_mem _).mp hx
      obtain ⟨q2, _, e2⟩ := List.mem_map.mp hy
      rw [e] at e2
      have z := cons_h e2
      omega
    · rw [BPi_n k]; exact ih
theorem FPi_nd {src : Nat → Int} {c : Nat} {f : Nat → List (List Nat)} : ∀ W : Nat, (∀ w, w < W → src w = (c : Int) → ND (f w)) → (∀ w p, p ∈ f w → ∃ q, p = w :: q) → ND (FPi src c f W)
  | 0, _, _ => trivial
  | W + 1, h, g => by
    have ih := FPi_nd W (fun w hw => h w (by omega)) g
    by_cases k : src W = (c : Int)
    · rw [FPi_y k]
      refine ND_app ih (h W (by omega) k) (fun x hx hy => ?_)
      obtain ⟨i, hi, _, hxi⟩ := (FPi_mem _).mp hx
      obtain ⟨q1, e1⟩ := g i x hxi
      obtain ⟨q2, e2⟩ := g W x hy
      rw [e1] at e2
      have z := cons_h e2
      omega
    · rw [FPi_n k]; exact ih
section
variable {D V : Nat → Nat → Int} {nm : Nat → Int} {b : Nat → Nat} {s t n : Nat} {ρ : Nat → Nat} {F B : Nat → Nat → List (List Nat)}
theorem FPw_hd {m w : Nat} {p : List Nat} (h : p ∈ FPw D nm b t F m w) : ∃ q, p = w :: q := by
  by_cases a : w / 4 = t
  · rw [FPw_t a] at h
    by_cases z : 0 < nm m
    · rw [if_pos z] at h
      exact ⟨[], List.mem_singleton.mp h⟩
    · rw [if_neg z] at h
      cases h
  · by_cases g : gN D (w / 4)
    · rw [FPw_g a g] at h
      obtain ⟨q, _, e⟩ := List.mem_map.mp h
      exact ⟨q, e.symm⟩
    · rw [FPw_0 a g] at h
      cases h
theorem FP_nd (hW : Wo D n ρ) (hF : ∀ c m, c < n → F c m = FPs D nm b t n F c m) : ∀ c, c < n → ∀ m, ND (F c m) := by
  refine hW.fwd (P := fun c => ∀ m, ND (F c m)) (fun c hc ih m => ?_)
  rw [hF c m hc]
  refine FPi_nd _ (fun w hw e => ?_) (fun w p h => FPw_hd h)
  by_cases a : w / 4 = t
  · rw [FPw_t a]
    by_cases z : 0 < nm m
    · rw [if_pos z]; exact ⟨fun h => (by cases h), trivial⟩
    · rw [if_neg z]; exact trivial
  · by_cases g : gN D (w / 4)
    · rw [FPw_g a g]
      exact ND_mapi (fun x y _ _ e => cons_i e) (ih w hw e g _)
    · rw [FPw_0 a g]; exact trivial
theorem BP_nd (hB : ∀ c e, c < n → B c e = BPs D (V 1) s B c e) (hW : Wo D n ρ) : ∀ c, c < n → ∀ e, ND (B c e) := by
  refine hW.1.ind (P := fun c => ∀ e, ND (B c e)) (fun c hc ih e => ?_)
  by_cases z : c = s
  · rw [z, BP_s (V := V) hB (by omega)]; exact ⟨fun h => (by cases h), trivial⟩
  · by_cases g : gN D c ∧ V 1 c = 0
    · rw [BP_g (V := V) hB hc z g.1 g.2]
      exact BPi_nd _ (fun i hi q => ih i hi g.1 q _)
    · rw [BP_0 (V := V) hB hc z g]; exact trivial
theorem BP_e (hB : ∀ c e, c < n → B c e = BPs D (V 1) s B c e) (hW : Wo D n ρ) : ∀ c, c < n → ∀ e f, B c e = B c f := by
  refine hW.1.ind (P := fun c => ∀ e f, B c e = B c f) (fun c hc ih e f => ?_)
  by_cases z : c = s
  · rw [z, BP_s (V := V) hB (by omega), BP_s (V := V) hB (by omega)]
  · by_cases g : gN D c ∧ V 1 c = 0
    · rw [BP_g (V := V) hB hc z g.1 g.2, BP_g (V := V) hB hc z g.1 g.2]
      exact BPi_c _ (fun i hi q => ih i hi g.1 q _ _)
    · rw [BP_0 (V := V) hB hc z g, BP_0 (V := V) hB hc z g]
theorem BF_a (hB : ∀ c e, c < n → B c e = BPs D (V 1) s B c e) (hW : Wo D n ρ) (hF : ∀ c m, c < n → F c m = FPs D nm b t n F c m) (ht : tgD D t) : ∀ c, c < n → ∀ e q, q ∈ B c e → ∀ p, p ∈ F c (mkP b s q) → q.reverse ++ p ∈ F s (b s) := by
  refine BP_ind hB hW.1 (P := fun c _ q => ∀ p, p ∈ F c (mkP b s q) → q.reverse ++ p ∈ F s (b s)) (fun e p hp => hp) (fun c e i q hc hne g o hi q5 hsn hq ih p hp => ?_)
  have i4 := hW.2.2.1 c
  have e4 : (4 * c + i) / 4 = c := by omega
  have hp2 : p ∈ F c (mkP b s q ||| b ((4 * c + i) / 4)) := hp
  rw [e4] at hp2
  have nt : ¬ (4 * c + i) / 4 = t := fun z => by
    rw [e4] at z
    rw [z] at g
    have g2 := g.2
    have t2 : 3 < D 0 t := ht
    omega
  have m := (FP_mem hF hsn (m := mkP b s q) (p := (4 * c + i) :: p)).mpr ⟨4 * c + i, by omega, by omega, Or.inr ⟨nt, by rw [e4]; exact g, p, by rw [e4]; exact hp2, rfl⟩⟩
  rw [List.reverse_cons, List.append_assoc]
  exact ih _ m
theorem BF_b (hL : ∀ c, c < n → LE2 D V V c) (hB : ∀ c e, c < n → B c e = BPs D (V 1) s B c e) (hW : Wo D n ρ) (hF : ∀ c m, c < n → F c m = FPs D nm b t n F c m) (h1 : D 1 t = 1) (ho : V 1 (fD D t) = 0) (hs : D 0 s = 0 ∨ D 0 s = 4) : ∀ c, c < n → ∀ m p, p ∈ F c m → ∀ e q, q ∈ B c e → m = mkP b s q → ∃ q2, q2 ∈ B (fD D t) 0 ∧ 0 < nm (mkP b s q2) ∧ q.reverse ++ p = q2.reverse ++ [4 * t] := by
  refine FP_ind hW hF (P := fun c m p => ∀ e q, q ∈ B c e → m = mkP b s q → ∃ q2, q2 ∈ B (fD D t) 0 ∧ 0 < nm (mkP b s q2) ∧ q.reverse ++ p = q2.reverse ++ [4 * t]) (fun c m w hw e hc a z f q hq hm => ?_) (fun c m w q' hw e hc a g hn hq' ih f q hq hm => ?_)
  · have k := (hW.2.2.2.2 w hw (by omega)).2
    rw [a] at k
    unfold ipN at k
    rw [h1] at k
    have e0 : w = 4 * t := by
      have : (1 : Int).toNat = 1 := rfl
      omega
    have ec : fD D t = c := by
      unfold fD
      rw [← e0, e]; rfl
    refine ⟨q, ?_, by rw [← hm]; exact z, by rw [e0]⟩
    rw [ec, BP_e hB hW c hc 0 f]; exact hq
  · have k := (hW.2.2.2.2 w hw (by omega)).2
    have o : V 1 (w / 4) = 0 := FP_opn hW hL hF h1 ho (w / 4) hn _ q' hq'
    have ns : w / 4 ≠ s := fun z => by
      rw [z] at g
      have g1 := g.1
      have g2 := g.2
      omega
    have e4 : 4 * (w / 4) + w % 4 = w := by omega
    have ec : (D 5 w).toNat = c := by omega
    have mem : w :: q ∈ B (w / 4) 0 := by
      rw [BP_g (V := V) hB hn ns g o]
      refine (BPi_mem _).mpr ⟨w % 4, k, by rw [e4]; omega, q, ?_, by rw [e4]⟩
      rw [e4, ec, BP_e hB hW c hc _ f]; exact hq
    obtain ⟨q2, r1, r2, r3⟩ := ih 0 (w :: q) mem (by rw [hm]; rfl)
    refine ⟨q2, r1, r2, ?_⟩
    rw [List.reverse_cons, List.append_assoc] at r3
    exact r3
theorem rev_i {v : Nat} {x y : List Nat} (h : x.reverse ++ [v] = y.reverse ++ [v]) : x = y := by
  have q := List.append_cancel_right h
  have r := congrArg List.reverse q
  rw [List.reverse_reverse, List.reverse_reverse] at r
  exact r
theorem BF_len (hL : ∀ c, c < n → LE2 D V V c) (hB : ∀ c e, c < n → B c e = BPs D (V 1) s B c e) (hW : Wo D n ρ) (hF : ∀ c m, c < n → F c m = FPs D nm b t n F c m) (htn : t < n) (ht : tgD D t) (h1 : D 1 t = 1) (h5 : 0 ≤ D 5 (4 * t)) (ho : V 1 (fD D t) = 0) (hs : D 0 s = 0 ∨ D 0 s = 4) (hsn : s < n) (e : Nat) : cP (fun p => 0 < nm (mkP b s p)) (B (fD D t) e) = (F s (b s)).length := by
  have ft := fD_lt hW htn h5
  rw [BP_e hB hW _ ft e 0]
  obtain ⟨K, k1, k2, k3⟩ := cP_len (φ := fun p => 0 < nm (mkP b s p)) (B (fD D t) 0) (BP_nd hB hW _ ft 0)
  rw [← k3]
  have nd2 : ND (K.map (fun q => q.reverse ++ [4 * t])) := ND_mapi (fun x y _ _ e => rev_i e) k1
  have l1 := nd_len (K.map (fun q => q.reverse ++ [4 * t])) (F s (b s)) nd2 (fun x hx => by
    obtain ⟨q, hq, e2⟩ := List.mem_map.mp hx
    rw [← e2]
    have r := (k2 q).mp hq
    refine BF_a hB hW hF ht _ ft 0 q r.1 [4 * t] ((FP_mem hF ft).mpr ⟨4 * t, by omega, ?_, Or.inl ⟨by omega, r.2, rfl⟩⟩)
    unfold fD
    omega)
  have l2 := nd_len (F s (b s)) (K.map (fun q => q.reverse ++ [4 * t])) (FP_nd hW hF s hsn _) (fun x hx => by
    obtain ⟨q2, r1, r2, r3⟩ := BF_b hL hB hW hF h1 ho hs s hsn (b s) x hx 0 [] (by rw [BP_s (V := V) hB hsn]; exact List.mem_singleton.mpr rfl) rfl
    refine List.mem_map.mpr ⟨q2, (k2 q2).mpr ⟨r1, r2⟩, ?_⟩
    rw [← r3]; rfl)
  rw [List.length_map] at l1 l2
  omega
end
/-- all paths to an end: by START, EDGE, then cells and inputs -/
def APk (D : Nat → Nat → Int) (FF : Nat → Nat → Nat → List (List Nat)) (b : Nat → Nat) : Nat → List (Nat × Nat × List Nat)
  | 0 => []
  | k + 1 => APk D FF b k ++ (if D 0 k = 0 ∨ D 0 k = 4 then (FF k k (b k)).map (fun p => (k, 0, p)) ++ (FF k k (b k)).map (fun p => (k, 1, p)) else [])
theorem APk_y {D : Nat → Nat → Int} {FF : Nat → Nat → Nat → List (List Nat)} {b : Nat → Nat} {k : Nat} (h : D 0 k = 0 ∨ D 0 k = 4) : APk D FF b (k + 1) = APk D FF b k ++ ((FF k k (b k)).map (fun p => (k, 0, p)) ++ (FF k k (b k)).map (fun p => (k, 1, p))) := by
  show APk D FF b k ++ (if D 0 k = 0 ∨ D 0 k = 4 then (FF k k (b k)).map (fun p => (k, 0, p)) ++ (FF k k (b k)).map (fun p => (k, 1, p)) else []) = _
  rw [if_pos h]
theorem APk_n {D : Nat → Nat → Int} {FF : Nat → Nat → Nat → List (List Nat)} {b : Nat → Nat} {k : Nat} (h : ¬ (D 0 k = 0 ∨ D 0 k = 4)) : APk D FF b (k + 1) = APk D FF b k := by
  show APk D FF b k ++ (if D 0 k = 0 ∨ D 0 k = 4 then (FF k k (b k)).map (fun p => (k, 0, p)) ++ (FF k k (b k)).map (fun p => (k, 1, p)) else []) = _
  rw [if_neg h, List.append_nil]
theorem APk_len {D V U : Nat → Nat → Int} {R t n : Nat} {ρ : Nat → Nat} {FF BB : Nat → Nat → Nat → List (List Nat)} (hW : Wo D n ρ) (hO : OkV D V n BB) (hF : ∀ s c m, c < n → FF s c m = FPs D (nmD U R s t) (bC (U 2) R) t n (FF s) c m) (htn : t < n) (ht : tgD D t) (h1 : D 1 t = 1) (h5 : 0 ≤ D 5 (4 * t)) (ho : V 1 (fD D t) = 0) : ∀ k, k ≤ n → (APk D FF (bC (U 2) R) k).length = nT (isD D V) (cnD D U R BB) k t
  | 0, _ => rfl
  | k + 1, hk => by
    have ih := APk_len hW hO hF htn ht h1 h5 ho k (by omega)
    by_cases s : D 0 k = 0 ∨ D 0 k = 4
    · rw [APk_y s, List.length_append, List.length_append, List.length_map, List.length_map, ih]
      by_cases o : V 1 k = 0
      · have e := BF_len hO.1 (hO.2 k) hW (hF k) htn ht h1 h5 ho s (by omega)
        have q : cnD D U R BB k t = (FF k k (bC (U 2) R k)).length + (FF k k (bC (U 2) R k)).length := by
          unfold cnD nP
          rw [if_pos h5]
          have e0 := e 0
          have e1 := e 1
          unfold npD
          rw [e0, e1]
        show nT (isD D V) (cnD D U R BB) k t + _ = sT (isD D V) (fun s => cnD D U R BB s t) (k + 1)
        rw [sT_y ⟨s, o⟩, q]; rfl
      · have emp : FF k k (bC (U 2) R k) = [] := by
          refine List.eq_nil_iff_forall_not_mem.mpr (fun p hp => o ?_)
          exact FP_opn hW hO.1 (hF k) h1 ho k (by omega) _ p hp
        rw [emp]
        show nT (isD D V) (cnD D U R BB) k t + (0 + 0) = sT (isD D V) (fun s => cnD D U R BB s t) (k + 1)
        rw [sT_n (fun z => o z.2)]; rfl
    · rw [APk_n s, ih]
      show _ = sT (isD D V) (fun s => cnD D U R BB s t) (k + 1)
      rw [sT_n (fun z => s z.1)]; rfl
theorem sT_pos {C : Nat → Prop} {g : Nat → Nat} : ∀ k : Nat, 0 < sT C g k → ∃ s, s < k ∧ C s ∧ 0 < g s
  | 0, h => by
    have e : sT C g 0 = 0 := rfl
    omega
  | k + 1, h => by
    by_cases c : C k
    · rw [sT_y c] at h
      by_cases z : 0 < g k
      · exact ⟨k, by omega, c, z⟩
      · obtain ⟨s, a, b⟩ := sT_pos (C := C) (g := g) k (by omega)
        exact ⟨s, by omega, b⟩
    · rw [sT_n c] at h
      obtain ⟨s, a, b⟩ := sT_pos (C := C) (g := g) k h
      exact ⟨s, by omega, b⟩
theorem nT_opn {D V U : Nat → Nat → Int} {R t n : Nat} {ρ : Nat → Nat} {BB : Nat → Nat → Nat → List (List Nat)} (hW : Wo D n ρ) (hO : OkV D V n BB) (htn : t < n) {k : Nat} (h : 0 < nT (isD D V) (cnD D U R BB) k t) : 0 ≤ D 5 (4 * t) ∧ V 1 (fD D t) = 0 := by
  obtain ⟨s, hs, hS, hc⟩ := sT_pos k h
  unfold cnD at hc
  by_cases z : 0 ≤ D 5 (4 * t)
  · rw [if_pos z] at hc
    refine ⟨z, Decidable.not_not.mp (fun o => ?_)⟩
    have ft := fD_lt hW htn z
    have ns : fD D t ≠ s := fun e => o (by rw [e]; exact hS.2)
    unfold nP at hc
    rw [BP_0 (V := V) (hO.2 s) ft ns (fun g => o g.2), BP_0 (V := V) (hO.2 s) ft ns (fun g => o g.2)] at hc
    have e : cP (fun p => 0 < npD U R s t p) [] = 0 := rfl
    omega
  · rw [if_neg z] at hc
    omega
/-- no path has more steps than there are cells -/
def gsP (p : List Nat) : List Nat := p.dropLast.map (fun w => w / 4)
theorem FP_pl {D : Nat → Nat → Int} {nm : Nat → Int} {b : Nat → Nat} {s t n : Nat} {ρ : Nat → Nat} {F : Nat → Nat → List (List Nat)} (hW : Wo D n ρ) (hF : ∀ c m, c < n → F c m = FPs D nm b t n F c m) (hs : s < n) (hg : ¬ gN D s) {m : Nat} {p : List Nat} (hp : p ∈ F s m) : p.length ≤ n := by
  have Z : ∀ c, c < n → ∀ m p, p ∈ F c m → (∀ d, d ∈ gsP p → d < n ∧ gN D d ∧ (gN D c → ρ c < ρ d)) ∧ ND (gsP p) ∧ p.length = (gsP p).length + 1 := by
    refine FP_ind hW hF (P := fun c _ p => (∀ d, d ∈ gsP p → d < n ∧ gN D d ∧ (gN D c → ρ c < ρ d)) ∧ ND (gsP p) ∧ p.length = (gsP p).length + 1) (fun c m w hw e hc a z => ⟨fun d hd => (by cases hd), trivial, rfl⟩) (fun c m w q hw e hc a g hn hq ih => ?_)
    have k := hW.up hw e g
    cases q with
    | nil =>
      obtain ⟨w2, _, _, k2⟩ := (FP_mem hF hn).mp hq
      rcases k2 with ⟨_, _, e3⟩ | ⟨_, _, q3, _, e3⟩
      · cases e3
      · cases e3
    | cons v q2 =>
      have eg : gsP (w :: v :: q2) = w / 4 :: gsP (v :: q2) := rfl
      rw [eg]
      refine ⟨fun d hd => ?_, ⟨fun hd => ?_, ih.2.1⟩, by rw [List.length_cons, ih.2.2, List.length_cons]⟩
      · rcases List.mem_cons.mp hd with z | z
        · rw [z]; exact ⟨k.1, g, k.2.2⟩
        · have y := ih.1 d z
          exact ⟨y.1, y.2.1, fun gc => Nat.lt_trans (k.2.2 gc) (y.2.2 g)⟩
      · have y := (ih.1 _ hd).2.2 g
        omega
  have z := Z s hs m p hp
  have l := nd_len (s :: gsP p) (List.range n) ⟨fun hd => hg (z.1 s hd).2.1, z.2.1⟩ (fun x hx => by
    rcases List.mem_cons.mp hx with y | y
    · rw [y]; exact List.mem_range.mpr hs
    · exact List.mem_range.mpr (z.1 x y).1)
  rw [List.length_range, List.length_cons] at l
  omega
