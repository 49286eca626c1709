def sDX (lo hi : Nat) : Int32 := sX hi - sX lo
def sDY (lo hi : Nat) : Int32 := sY hi - sY lo
def sSt (lo hi : Nat) : Int32 := if sAbs (sDX lo hi) < sAbs (sDY lo hi) then sAbs (sDY lo hi) else sAbs (sDX lo hi)
def sN (lo hi : Nat) : Nat := (sSt lo hi).toNatClampNeg
def sXk (lo hi k : Nat) : Int32 := sX lo + sDX lo hi * nI k / nI (sN lo hi)
def sYk (lo hi k : Nat) : Int32 := sY lo + sDY lo hi * nI k / nI (sN lo hi)
def sEk (lo hi k : Nat) : Int32 := (if 11 < sYk lo hi k / 10 then 11 else sYk lo hi k / 10) * 12 + (if 11 < sXk lo hi k / 10 then 11 else sXk lo hi k / 10)
def sSq (lo hi k : Nat) : Nat := (sEk lo hi k).toNatClampNeg
def sQd (lo hi : Nat) : Nat := (sDX lo hi * sDX lo hi + sDY lo hi * sDY lo hi).toNatClampNeg
def sLen (lo hi : Nat) : Nat := sRt (sQd lo hi)
theorem sN_ok : ∀ hi, hi < 24 → ∀ lo, lo < hi → sSt lo hi = nI (sN lo hi) ∧ 1 ≤ sN lo hi ∧ sN lo hi ≤ 120 ∧ sDX lo hi * sDX lo hi + sDY lo hi * sDY lo hi = nI (sQd lo hi) ∧ sQd lo hi < 57600 := by decide +kernel
theorem sEk_ok : ∀ hi, hi < 24 → ∀ lo, lo < hi → ∀ k, k < sN lo hi + 1 → sEk lo hi k = nI (sSq lo hi k) ∧ sSq lo hi k < 144 := by decide +kernel
