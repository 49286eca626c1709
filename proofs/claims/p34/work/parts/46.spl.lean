theorem RPic.congr {f : zHM} {t r la n : Nat} {A : Nat → Nat} {ρ ρ' : zRS} {xs tm xs' tm' : Nat → Int32} (hr : RPic f t r la A ρ n xs tm) (h0 : ∀ i, i ≤ 5 → ρ 0 i = ρ' 0 i) (h1 : ∀ i, i < 3 → ρ 1 i = ρ' 1 i ∧ ρ 2 i = ρ' 2 i ∧ ρ 3 i = ρ' 3 i) (h4 : ∀ c, c < n → ρ 4 c = ρ' 4 c ∧ ρ 5 c = ρ' 5 c ∧ ρ 6 c = ρ' 6 c) (h7 : ∀ q, q < 144 → ρ 7 q = ρ' 7 q ∧ ρ 8 q = ρ' 8 q ∧ xs q = xs' q) (h9 : ∀ p, p < 276 → tm p = tm' p) : RPic f t r la A ρ' n xs' tm' := by
  obtain ⟨r0, r1, r2, r3, r4, r5, r6, r7, r8, r9, r10⟩ := hr
  have e : sStep ρ = sStep ρ' := by unfold sStep; rw [h0 0 (by omega)]
  rw [e, h0 0 (by omega), h0 1 (by omega), h0 2 (by omega), h0 3 (by omega), h0 4 (by omega), h0 5 (by omega)] at r0
  exact ⟨r0, r1.congr (fun i hi => (h1 i hi).1), r2.congr (fun i hi => (h1 i hi).2.1), r3.congr (fun i hi => (h1 i hi).2.2), r4.congr (fun i hi => (h4 i hi).1), r5.congr (fun i hi => (h4 i hi).2.1), r6.congr (fun i hi => (h4 i hi).2.2), r7.congr (fun i hi => (h7 i hi).1), r8.congr (fun i hi => (h7 i hi).2.1), r9.congr (fun i hi => (h7 i hi).2.2), r10.congr h9⟩
def sNow (ρ : zRS) (v : Int32) : zRS := zset ρ 0 (fun j => if j = 2 then v else ρ 0 j)
