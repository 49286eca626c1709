theorem sXk_ok : ∀ hi, hi < 24 → ∀ lo, lo < hi → ∀ k, k < sN lo hi + 1 → 0 ≤ sXk lo hi k ∧ sXk lo hi k ≤ 120 := by decide +kernel
theorem sYk_ok : ∀ hi, hi < 24 → ∀ lo, lo < hi → ∀ k, k < sN lo hi + 1 → 0 ≤ sYk lo hi k ∧ sYk lo hi k ≤ 120 := by decide +kernel
theorem sMk_n : ∀ n, n < 121 → sMk (nI n) = if 11 < nI n / 10 then 11 else nI n / 10 := by decide +kernel
theorem i32_n : ∀ b : Nat, b < 121 → (Int32.ofNat b).toInt = (b : Int) := by decide +kernel
theorem i32_rng {x : Int32} (h0 : 0 ≤ x) (h1 : x ≤ 120) : ∃ n, n < 121 ∧ x = nI n := by
  have a0 : (0 : Int) ≤ x.toInt := Int32.le_iff_toInt_le.mp h0
  have a1 : x.toInt ≤ 120 := Int32.le_iff_toInt_le.mp h1
  refine ⟨x.toInt.toNat, by omega, ?_⟩
  apply Int32.toInt_inj.mp
  show x.toInt = (Int32.ofNat x.toInt.toNat).toInt
  rw [i32_n _ (by omega)]
  omega
theorem sMk_r {x : Int32} (h : 0 ≤ x ∧ x ≤ 120) : sMk x = if 11 < x / 10 then 11 else x / 10 := by
  obtain ⟨n, h1, h2⟩ := i32_rng h.1 h.2
  rw [h2]
  exact sMk_n n h1
theorem sqM_ok {lo hi k : Nat} (h1 : hi < 24) (h2 : lo < hi) (h3 : k < sN lo hi + 1) : 12 * sMk (sYk lo hi k) + sMk (sXk lo hi k) = nI (sSq lo hi k) ∧ sSq lo hi k < 144 := by
  have h4 := sEk_ok hi h1 lo h2 k h3
  refine ⟨?_, h4.2⟩
  rw [← h4.1, sMk_r (sXk_ok hi h1 lo h2 k h3), sMk_r (sYk_ok hi h1 lo h2 k h3), Int32.mul_comm]
  rfl
