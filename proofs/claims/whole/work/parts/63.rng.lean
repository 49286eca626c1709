theorem sXk_ok : ∀ hi, hi < 24 → ∀ lo, lo < hi → ∀ k, k < sN lo hi + 1 → 0 ≤ sXk lo hi k ∧ sXk lo hi k ≤ 120 := by decide +kernel
theorem sYk_ok : ∀ hi, hi < 24 → ∀ lo, lo < hi → ∀ k, k < sN lo hi + 1 → 0 ≤ sYk lo hi k ∧ sYk lo hi k ≤ 120 := by decide +kernel
theorem sMk_n : ∀ n, n < 121 → sMk (nI n) = if 11 < nI n / 10 then 11 else nI n / 10 := by decide +kernel
