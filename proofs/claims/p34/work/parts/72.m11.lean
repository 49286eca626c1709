/-- the reference's other arrays: saved states, snapshots, the buffer -/
def zNO (f : zHM) (B : Nat → Nat) (k : Nat) (sv : Nat → Nat → Int32) (hsl : Nat → Int32) (sl : Nat → Nat → Int32) (L : Nat) (ch : Nat → Nat) : Prop :=
  (k ≤ 6 ∧ ∃ g, f (B 1) = some (702, .inl (0, 5424, .inl g)) ∧ ∀ j, j < k → ∀ i, i < 904 → g (904 * j + i) = sv j i) ∧
  (∃ g, f (B 2) = some (703, .inl (0, 1808, .inl g)) ∧ ∀ j, j < 2 → ∀ i, i < 904 → g (904 * j + i) = sl j i) ∧
  (∃ g, f (B 3) = some (704, .inl (2, 2, .inl g)) ∧ ∀ j, j < 2 → g j = hsl j) ∧
  (L ≤ 60 ∧ ∃ g, f (B 4) = some (705, .inl (0, 60, .inl g)) ∧ ∀ i, i < L → g i = nI (ch i)) ∧
  ∃ g, f (B 7) = some (708, .inl (0, 144, .inl g))
theorem zNO.fr {T : Nat → Prop} {f f' : zHM} {B : Nat → Nat} {k L : Nat} {sv : Nat → Nat → Int32} {hsl : Nat → Int32} {sl : Nat → Nat → Int32} {ch : Nat → Nat} (h : zNO f B k sv hsl sl L ch) (hf : zFr T f f') (hT : ∀ τ, T τ → ¬ ((702 ≤ τ ∧ τ ≤ 705) ∨ τ = 708)) : zNO f' B k sv hsl sl L ch := by
  obtain ⟨⟨h1, g1, h2, h3⟩, ⟨g2, h4, h5⟩, ⟨g3, h6, h7⟩, ⟨h8, g4, h9, h10⟩, g5, h11⟩ := h
  exact ⟨⟨h1, g1, hf _ _ _ h2 (fun z => hT _ z (by omega)), h3⟩, ⟨g2, hf _ _ _ h4 (fun z => hT _ z (by omega)), h5⟩, ⟨g3, hf _ _ _ h6 (fun z => hT _ z (by omega)), h7⟩, ⟨h8, g4, hf _ _ _ h9 (fun z => hT _ z (by omega)), h10⟩, g5, hf _ _ _ h11 (fun z => hT _ z (by omega))⟩
/-- the reference's object, whole -/
def zNZ (f : zHM) (o : Nat) (B : Nat → Nat) (hh : Int64) (σ : Nat → Int32) (mr : Nat) (th : Int32) (k : Nat) (sv : Nat → Nat → Int32) (hsl : Nat → Int32) (sl : Nat → Nat → Int32) (L : Nat) (ch : Nat → Nat) : Prop := ∃ w, MX f o B w hh σ mr ∧ w 0 = th ∧ w 1 = nI k ∧ w 2 = nI L ∧ zNO f B k sv hsl sl L ch
theorem MX.put {f0 f f' : zHM} {o mr : Nat} {B : Nat → Nat} {w w' : Nat → Int32} {hh hh' : Int64} {σ : Nat → Int32} (h : MX f o B w hh σ mr) (hp : zPut f o (700, .inr (4, zMo B w' hh')) f') (e : w' 4 = w 4) (hf : zFr zTY f0 f) : MX f' o B w' hh' σ mr ∧ zFr zTY f0 f' := by
  obtain ⟨h1, h2, ⟨gc, h3⟩, ⟨gm, h4, h5⟩, h6⟩ := h
  exact ⟨⟨hp.1, hp.ne h2 (by omega), ⟨gc, hp.ne h3 (by omega)⟩, ⟨gm, hp.ne h4 (by omega), h5⟩, e.trans h6⟩, hf.put hp (Or.inl rfl)⟩
theorem MX.fr7 {f f' : zHM} {o mr : Nat} {B : Nat → Nat} {w : Nat → Int32} {hh : Int64} {σ : Nat → Int32} {T : Nat → Prop} (h : MX f o B w hh σ mr) (hf : zFr T f f') (hT : ∀ τ, τ = 700 ∨ τ = 701 ∨ τ = 706 ∨ τ = 707 → ¬ T τ) : MX f' o B w hh σ mr := by
  obtain ⟨h1, h2, ⟨gc, h3⟩, ⟨gm, h4, h5⟩, h6⟩ := h
  exact ⟨hf _ _ _ h1 (hT _ (by omega)), hf _ _ _ h2 (hT _ (by omega)), ⟨gc, hf _ _ _ h3 (hT _ (by omega))⟩, ⟨gm, hf _ _ _ h4 (hT _ (by omega)), h5⟩, h6⟩
