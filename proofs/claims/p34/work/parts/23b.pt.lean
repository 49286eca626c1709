def sTr (lo hi : Nat) : Nat → List Nat
  | 0 => []
  | k + 1 => if ((sTr lo hi k).length ≠ 0 ∧ (sTr lo hi k).getD ((sTr lo hi k).length - 1) 0 = sSq lo hi k) ∨ 23 ≤ (sTr lo hi k).length then sTr lo hi k else sTr lo hi k ++ [sSq lo hi k]
def sPT (lo hi : Nat) : List Nat := sTr lo hi (sN lo hi + 1)
theorem sTr_le (lo hi : Nat) : ∀ k, (sTr lo hi k).length ≤ 23
  | 0 => by simp [sTr]
  | k + 1 => by
    unfold sTr
    have := sTr_le lo hi k
    split
    · exact this
    · rename_i h
      simp only [List.length_append, List.length_singleton]
      omega
theorem sPT_ok : ∀ hi, hi < 24 → ∀ lo, lo < hi → (sPT lo hi).length ≤ 19 ∧ (sPT lo hi).Nodup ∧ (∀ q ∈ sPT lo hi, q < 144) := by decide +kernel
