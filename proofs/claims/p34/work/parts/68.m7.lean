/-- the reference's object with its state, its mark and its arrays of squares -/
def MX (f : zHM) (o : Nat) (B : Nat → Nat) (w : Nat → Int32) (hh : Int64) (σ : Nat → Int32) (mr : Nat) : Prop :=
  f o = some (700, .inr (4, zMo B w hh)) ∧ f (B 0) = some (701, .inl (0, 904, .inl σ)) ∧ (∃ gc, f (B 5) = some (706, .inl (0, 144, .inl gc))) ∧ (∃ gm, f (B 6) = some (707, .inl (0, 144, .inl gm)) ∧ ∀ q, q < 144 → ∃ j, j ≤ mr ∧ gm q = nI j) ∧ w 4 = nI mr
abbrev zTY : Nat → Prop := fun τ => τ = 700 ∨ τ = 701 ∨ τ = 706 ∨ τ = 707
/-- all numbers but crossedMany and mark are kept -/
def wK (w w' : Nat → Int32) : Prop := ∀ i, i ≠ 3 → i ≠ 4 → w' i = w i
theorem wK.trans {w w' w2 : Nat → Int32} (h : wK w w') (h2 : wK w' w2) : wK w w2 := fun i a b => (h2 i a b).trans (h i a b)
theorem MX.s {f f' : zHM} {o mr : Nat} {B : Nat → Nat} {w : Nat → Int32} {hh : Int64} {σ σ' : Nat → Int32} (h : MX f o B w hh σ mr) (hp : f' (B 0) = some (701, .inl (0, 904, .inl σ'))) (hf : zFr (fun τ => τ = 701) f f') : MX f' o B w hh σ' mr := by
  obtain ⟨h1, h2, ⟨gc, h3⟩, ⟨gm, h4, h5⟩, h6⟩ := h
  exact ⟨hf _ _ _ h1 (by omega), hp, ⟨gc, hf _ _ _ h3 (by omega)⟩, ⟨gm, hf _ _ _ h4 (by omega), h5⟩, h6⟩
