/-- the same state of a ring, of n chords -/
def zEQ (n : Nat) (ρ ρ' : zRS) : Prop := (∀ i, i ≤ 5 → ρ 0 i = ρ' 0 i) ∧ (∀ i, i < 3 → ρ 1 i = ρ' 1 i ∧ ρ 2 i = ρ' 2 i ∧ ρ 3 i = ρ' 3 i) ∧ (∀ c, c < n → ρ 4 c = ρ' 4 c ∧ ρ 5 c = ρ' 5 c ∧ ρ 6 c = ρ' 6 c) ∧ ∀ q, q < 144 → ρ 7 q = ρ' 7 q ∧ ρ 8 q = ρ' 8 q
