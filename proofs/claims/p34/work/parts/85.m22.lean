def wP (w w' : Nat → Int32) : Prop := ∀ i, i ≠ 5 → i ≠ 6 → w' i = w i
theorem wP.refl (w : Nat → Int32) : wP w w := fun _ _ _ => rfl
theorem wP.trans {w w' w2 : Nat → Int32} (h : wP w w') (h2 : wP w' w2) : wP w w2 := fun i a b => (h2 i a b).trans (h i a b)
