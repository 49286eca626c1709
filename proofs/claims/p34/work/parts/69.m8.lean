theorem wK.refl (w : Nat → Int32) : wK w w := fun _ _ _ => rfl
theorem MX.st {f0 f f' : zHM} {o mr : Nat} {B : Nat → Nat} {w : Nat → Int32} {hh : Int64} {σ σ' : Nat → Int32} (h : MX f o B w hh σ mr) (hp : zPut f (B 0) (701, .inl (0, 904, .inl σ')) f') (hf : zFr zTY f0 f) : MX f' o B w hh σ' mr ∧ zFr zTY f0 f' :=
  ⟨h.s hp.1 (zFr.put zFr.refl hp rfl), hf.put hp (Or.inr (Or.inl rfl))⟩
theorem sSum_congr {F H : Nat → Int32} : ∀ n, (∀ c, c < n → F c = H c) → sSum F n = sSum H n
  | 0, _ => rfl
  | n + 1, h => by
    show sSum F n + F n = sSum H n + H n
    rw [sSum_congr n (fun c hc => h c (by omega)), h n (by omega)]
