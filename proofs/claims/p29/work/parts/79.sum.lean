/-- sums -/
def sm : Nat → (Nat → Nat) → Nat
  | 0, _ => 0
  | n + 1, f => sm n f + f n
section
variable (N M : Nat) (a : Nat → Nat → Bool) (dst : Nat → Nat → Nat) (tgt : Nat → Nat)
def Bn : Nat → Nat → Nat
  | 0, _ => 0
  | n + 1, X => tgt X + sm M (fun w => if a X w = true then Bn n (dst X w) else 0)
end
