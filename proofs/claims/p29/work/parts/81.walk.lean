/-- node X: output X / 32 at edge X / 16 % 2 with the exceptions X % 16 met; wire w leads from there on -/
def aB (τ : VS) (X w : Nat) : Bool := decide (w / 4 < nC τ ∧ 0 < Kd τ (w / 4) ∧ Kd τ (w / 4) < 4 ∧ (τ.2.1 34 (w / 4)).toInt ≠ 0 ∧ (τ.2.1 35 (w / 4)).toInt = 0 ∧ ((w % 4 : Nat) : Int) < Ip τ (w / 4) ∧ Tk τ w = ((X / 32 : Nat) : Int) ∧ (τ.2.1 34 (X / 32)).toInt ≠ 0)
def outE (τ : VS) (d e : Nat) : Nat := if Kd τ d = 2 then 1 - e else e
def dN (τ : VS) (X w : Nat) : Nat := 16 * (2 * (w / 4) + outE τ (w / 4) (X / 16 % 2)) + (X % 16 ||| metN τ (w / 4))
def hw (τ : VS) (X : Nat) : Nat := (τ.2.1 42 X).toInt.toNat
