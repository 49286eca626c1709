/-- behind a row: place p', b: well or not -/
def sPO (L e : Nat) (ch : Nat → Nat) (g0 : Nat → Int32) (σ σ' : Nat → Int32) (p b : Nat) : Prop :=
  p ≤ L ∧ (∀ i, i ≤ p → sRun ch i ≠ 16) ∧ (∀ j, j < 616 ∨ 760 ≤ j → σ' j = σ j) ∧ (e = 0 → σ' = σ) ∧
  ((b = 1 ∧ sEnd (sRun ch p) = true ∧ (12 ≤ sRun ch p ∨ p = L ∨ sIsD (ch p) = false) ∧ (e = 1 → ∀ j, j < 144 → σ' (616 + j) = (sTl ch g0 p).2.2.2 j)) ∨
   (b = 0 ∧ (p = L → sEnd (sRun ch p) = false) ∧ (p < L → sRun ch (p + 1) = 16)))
