/-- a number that was taken, or none -/
def NumP (r a b : Int) : Prop := r = -1 ∨ a ≤ r ∧ r ≤ b
