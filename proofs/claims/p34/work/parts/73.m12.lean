/-- how many chords cross a square -/
def sXs (ρ : zRS) (s n : Nat) (q : Nat) : Int32 := sSum (fun c => if q ∈ sPa s (zn (ρ 4 c)) (zn (ρ 5 c)) then 1 else 0) n
