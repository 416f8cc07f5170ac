def nX (x : VS) (j : Nat) : Nat := 16 * (2 * (x.2.1 57 j).toInt.toNat + (x.2.1 59 j).toInt.toNat) + (x.2.1 60 j).toInt.toNat
def rs (x : VS) (j : Nat) : Nat := 4 * (x.2.1 57 (j + 1)).toInt.toNat + (x.2.1 58 (j + 1)).toInt.toNat + 1
