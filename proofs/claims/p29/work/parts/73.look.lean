section
variable {X38 : Int32 → Int32 → Int32 → Int32 → Int32 → Int32 → VS → Prop} {X57 : Int32 → Int32 → Int32 → Int32 → Int32 → Int32 → Int32 → VS → Prop} {Q : Int32 → VS → Prop}
/-- where x lies among the marks -/
def atL (x r : Int) : Prop := (r = 3 ∧ x = 64) ∨ (r = 2 ∧ 24 ≤ x ∧ x < 64) ∨ (r = 1 ∧ 8 ≤ x ∧ x < 24) ∨ (r = 0 ∧ 0 ≤ x ∧ x < 8)
def atS (y k : Int) : Prop := (k = 2 ∧ y = 64) ∨ (k = 1 ∧ 16 ≤ y ∧ y < 64) ∨ (k = 0 ∧ 0 ≤ y ∧ y < 16)
end
