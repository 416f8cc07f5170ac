def tgN (σ : VS) (s t X : Nat) : Nat := if Tk σ (4 * t) = ((X / 32 : Nat) : Int) ∧ (σ.2.1 35 (X / 32)).toInt = 0 ∧ (perV σ s t (Int32.ofNat (X % 16 ||| metN σ t))).toInt ≠ 0 then 1 else 0
def BB (σ : VS) (s t X : Nat) : Nat := Bn 200 (aB σ) (dN σ) (tgN σ s t) 50 X
