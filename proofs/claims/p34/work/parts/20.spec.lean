/-! WHAT A RING'S STATE IS: ρ 0: numbers (0 nails, 1 the nail of now, 2 the spool of now, 3 wound, 4 refused, 5 knots), ρ 1 shades, ρ 2 thread left, ρ 3 settings, ρ 4, 5, 6 from, to, spool of the chords that lie, ρ 7 greys, ρ 8 darkness; n: how many chords lie. -/
abbrev zRS : Type := Nat → Nat → Int32
def ZA (f : zHM) (a t len val : Nat) (φ : Nat → Int32) : Prop := ∃ g, f a = some (t, .inl (0, len, .inl g)) ∧ ∀ i, i < val → g i = φ i
theorem ZA.ne {f f' : zHM} {a b t t2 len val : Nat} {c : (Nat × vp_A) ⊕ (Nat × List Value)} {φ : Nat → Int32} (h : zPut f a (t, c) f') (hb : ZA f b t2 len val φ) (ht : t2 ≠ t) : ZA f' b t2 len val φ := by
  obtain ⟨g, h1, h2⟩ := hb
  exact ⟨g, h.ne h1 ht, h2⟩
theorem ZA.congr {f : zHM} {a t len val : Nat} {φ ψ : Nat → Int32} (h : ZA f a t len val φ) (e : ∀ i, i < val → φ i = ψ i) : ZA f a t len val ψ := by
  obtain ⟨g, h1, h2⟩ := h
  exact ⟨g, h1, fun i hi => (h2 i hi).trans (e i hi)⟩
def sSum (F : Nat → Int32) : Nat → Int32
  | 0 => 0
  | n + 1 => sSum F n + F n
def sAbs (x : Int32) : Int32 := if 0 ≤ x then x else 0 - x
def sSgn (x : Int32) : Int32 := if 0 < x then 1 else if x < 0 then -1 else 0
def sLack (ρ : zRS) (q : Nat) : Int32 := ρ 7 q * ρ 3 2 - ρ 8 q
def sRel (l s : Int32) : Int32 := sAbs l - sAbs (l - s)
def sMisfit (ρ : zRS) : Int32 := sSum (fun q => sAbs (sLack ρ q)) 144
def sThat (ρ : zRS) (s : Int32) : Int32 := sSum (fun q => if sSgn (sLack ρ q) = s then 1 else 0) 144
theorem zlkE {lv : List (Nat × Value)} {i : Nat} {x y : Int32} (h : zlk lv i = some (.int x)) (e : x = y) : zlk lv i = some (.int y) := by rw [h, e]
def sPr (one other : Nat) : Nat := max one other * (max one other - 1) / 2 + min one other
/-- the places of a chord's nails: a nail times the step -/
def sStep (ρ : zRS) : Int32 := 24 / ρ 0 0
/-- how often a chord lies: by its pair of places -/
def sTm (ρ : zRS) (n : Nat) (p : Nat) : Int32 := sSum (fun c => if sPr ((ρ 4 c).toNatClampNeg * (sStep ρ).toNatClampNeg) ((ρ 5 c).toNatClampNeg * (sStep ρ).toNatClampNeg) = p then 1 else 0) n
/-- a ring in the heap: t its tag, la the row of lines, A its arrays, xs, tm: crossings and times -/
def RPic (f : zHM) (t r la : Nat) (A : Nat → Nat) (ρ : zRS) (n : Nat) (xs tm : Nat → Int32) : Prop :=
  f r = some (t, .inr (1, [.ref la, .int (ρ 0 0), .int (sStep ρ), .int (ρ 0 1), .int (ρ 0 2), .int (ρ 0 3), .int (ρ 0 4), .int (ρ 0 5), .int (nI n), .ref (A 0), .ref (A 1), .ref (A 2), .ref (A 3), .ref (A 4), .ref (A 5), .ref (A 6), .ref (A 7), .ref (A 8), .ref (A 9)])) ∧
  ZA f (A 0) (t + 1) 3 3 (ρ 1) ∧ ZA f (A 1) (t + 2) 3 3 (ρ 2) ∧ ZA f (A 2) (t + 3) 3 3 (ρ 3) ∧ ZA f (A 3) (t + 4) 201 n (ρ 4) ∧ ZA f (A 4) (t + 5) 201 n (ρ 5) ∧ ZA f (A 5) (t + 6) 201 n (ρ 6) ∧
  ZA f (A 6) (t + 7) 144 144 (ρ 7) ∧ ZA f (A 7) (t + 8) 144 144 (ρ 8) ∧ ZA f (A 8) (t + 9) 144 144 xs ∧ ZA f (A 9) (t + 10) 276 276 tm
/-- all but the cells of some tags is as it was -/
def zFr (T : Nat → Prop) (f f' : zHM) : Prop := ∀ (a t : Nat) (c : (Nat × vp_A) ⊕ (Nat × List Value)), f a = some (t, c) → ¬ T t → f' a = some (t, c)
theorem zFr.refl {T : Nat → Prop} {f : zHM} : zFr T f f := fun _ _ _ h _ => h
theorem zFr.trans {T : Nat → Prop} {f f' f2 : zHM} (h : zFr T f f') (h2 : zFr T f' f2) : zFr T f f2 := fun a t c q n => h2 a t c (h a t c q n) n
theorem zFr.put {T : Nat → Prop} {f f' f2 : zHM} {a : Nat} {e : zCE} (h : zFr T f f') (h2 : zPut f' a e f2) (ht : T e.1) : zFr T f f2 := fun b t c q n => h2.2.1 b t c (h b t c q n) (fun z => n (by rw [z]; exact ht))
theorem zFr.new {T : Nat → Prop} {f f' f2 : zHM} {a : Nat} {e : zCE} (h : zFr T f f') (h2 : zNew f' a e f2) : zFr T f f2 := fun b t c q n => h2.2.2 b _ (h b t c q n)
theorem zFr.weaken {T T' : Nat → Prop} {f f' : zHM} (h : zFr T f f') (ht : ∀ t, T t → T' t) : zFr T' f f' := fun a t c q n => h a t c q (fun z => n (ht t z))
theorem ZA.fr {T : Nat → Prop} {f f' : zHM} {b t2 len val : Nat} {φ : Nat → Int32} (h : zFr T f f') (hb : ZA f b t2 len val φ) (ht : ¬ T t2) : ZA f' b t2 len val φ := by
  obtain ⟨g, h1, h2⟩ := hb
  exact ⟨g, h _ _ _ h1 ht, h2⟩
theorem RPic.fr {T : Nat → Prop} {f f' : zHM} {t r la n : Nat} {A : Nat → Nat} {ρ : zRS} {xs tm : Nat → Int32} (h : zFr T f f') (hr : RPic f t r la A ρ n xs tm) (ht : ∀ k, k ≤ 10 → ¬ T (t + k)) : RPic f' t r la A ρ n xs tm := by
  obtain ⟨r0, r1, r2, r3, r4, r5, r6, r7, r8, r9, r10⟩ := hr
  exact ⟨h _ _ _ r0 (ht 0 (by omega)), r1.fr h (ht 1 (by omega)), r2.fr h (ht 2 (by omega)), r3.fr h (ht 3 (by omega)), r4.fr h (ht 4 (by omega)), r5.fr h (ht 5 (by omega)), r6.fr h (ht 6 (by omega)), r7.fr h (ht 7 (by omega)), r8.fr h (ht 8 (by omega)), r9.fr h (ht 9 (by omega)), r10.fr h (ht 10 (by omega))⟩
