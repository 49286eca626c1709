/-- bounds -/
def zB (c : Int) (x : Int32) : Prop := -c ≤ x.toInt ∧ x.toInt ≤ c
