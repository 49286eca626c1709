theorem RW_le {ρ : zRS} {N s n m : Nat} (h : RW ρ N s n) (hm : m ≤ n) : RW ρ N s m := ⟨h.1, by have := h.2.1; omega, fun c hc => h.2.2 c (by omega)⟩
theorem RW_dn {ρ : zRS} {N s n : Nat} (h : RW ρ N s n) (xs tm : Nat → Int32) (j : Nat) : RW (sDn ρ xs tm s n j).1 N s n := by
  obtain ⟨h4, h5, h6, h0⟩ := sDn_ch ρ xs tm s n j
  refine ⟨⟨h0.trans h.1.1, ?_, h.1.2.2⟩, h.2.1, fun c hc => ?_⟩
  · rw [← h.1.2.1]
    unfold sStep
    rw [h0]
  · obtain ⟨a, b, u, ha, hb, hab, hu, q4, q5, q6⟩ := h.2.2 c hc
    exact ⟨a, b, u, ha, hb, hab, hu, (h4 c).trans q4, (h5 c).trans q5, (h6 c).trans q6⟩
theorem sDn_s {ρ : zRS} {xs tm : Nat → Int32} {s n j a b u : Nat} (ha : a < 24) (hb : b < 24) (hu : u < 3) (q4 : ρ 4 (n - 1 - j) = nI a) (q5 : ρ 5 (n - 1 - j) = nI b) (q6 : ρ 6 (n - 1 - j) = nI u) : (sDn ρ xs tm s n (j + 1)).1 = sOff (sDn ρ xs tm s n j).1 s a b u := by
  have e : (sDn ρ xs tm s n (j + 1)).1 = sOff (sDn ρ xs tm s n j).1 s (zn (ρ 4 (n - 1 - j))) (zn (ρ 5 (n - 1 - j))) (zn (ρ 6 (n - 1 - j))) := rfl
  rw [e, q4, q5, q6, zn_nI (by omega), zn_nI (by omega), zn_nI (by omega)]
