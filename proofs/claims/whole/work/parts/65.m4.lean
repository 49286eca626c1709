theorem zUp_zUp (w : Nat → Int32) (k : Nat) (x y : Int32) : zUp (zUp w k x) k y = zUp w k y := by
  funext i
  unfold zUp
  by_cases h : i = k
  · rw [if_pos h, if_pos h]
  · rw [if_neg h, if_neg h, if_neg h]
theorem sDL_le {lo hi k : Nat} (h1 : hi < 24) (h2 : lo < hi) (hk : k ≤ sN lo hi + 1) : (sDL lo hi k).length ≤ 19 := by
  obtain ⟨h3, h4, -⟩ := sPT_ok hi h1 lo h2
  have h5 := sTr_pre lo hi k (sN lo hi + 1 - k)
  rw [show k + (sN lo hi + 1 - k) = sN lo hi + 1 from by omega] at h5
  rw [sDL_tr lo hi (sN lo hi + 1) h3 h4 k hk]
  exact Nat.le_trans h5.length_le h3
/-- the arrays of a chord's squares, k points on -/
def MCr (f : zHM) (o : Nat) (B : Nat → Nat) (w : Nat → Int32) (hh : Int64) (mr : Nat) (L : List Nat) : Prop :=
  f o = some (700, .inr (4, zMo B (zUp (zUp w 4 (nI (mr + 1))) 3 (nI L.length)) hh)) ∧
  (∃ gc, f (B 5) = some (706, .inl (0, 144, .inl gc)) ∧ ∀ i, i < L.length → gc i = nI (L.getD i 0)) ∧
  ∃ gm, f (B 6) = some (707, .inl (0, 144, .inl gm)) ∧ ∀ q, q < 144 → (q ∈ L ↔ gm q = nI (mr + 1)) ∧ ∃ j, j ≤ mr + 1 ∧ gm q = nI j
theorem MCr_old {f : zHM} {o : Nat} {B : Nat → Nat} {w : Nat → Int32} {hh : Int64} {mr q : Nat} {L : List Nat} (h : MCr f o B w hh mr L) (hq : q ∈ L) : MCr f o B w hh mr (sPush L q) := by
  unfold sPush
  rw [if_pos hq]
  exact h
set_option maxRecDepth 10000 in
set_option maxHeartbeats 1000000 in
theorem c_crosses {G : zW} {f : zHM} {m : Nat × Nat} {o : Nat} {B : Nat → Nat} {w : Nat → Int32} {hh : Int64} {mr : Nat} {L : List Nat} (h : MCr f o B w hh mr L) (hL : L.length < 144) {x y : Int32} {q : Nat} (hq : q < 144) (hxy : 12 * sMk y + sMk x = nI q) : zM G yX4_crosses cX4_crosses 4 none 2 [.ref o, .int x, .int y] (f, m) (zD none (fun f' m' => MCr f' o B w hh mr (sPush L q) ∧ zFr zTX f f' ∧ m' = m)) := by
  obtain ⟨ho, ⟨gc, c1, c2⟩, gm, g1, g2⟩ := id h
  by_cases hm : q ∈ L
  · have e : gm q = zUp (zUp w 4 (nI (mr + 1))) 3 (nI L.length) 4 := (g2 q hq).1.mp hm
    refine zM.mono ?_ (c_crosses_old ho c1 g1 hq hxy e)
    rintro v ⟨f9, m9⟩ ⟨h1, rfl, rfl⟩
    exact ⟨h1, MCr_old h hm, zFr.refl, rfl⟩
  · have e : ¬ gm q = zUp (zUp w 4 (nI (mr + 1))) 3 (nI L.length) 4 := fun z => hm ((g2 q hq).1.mpr z)
    refine zM.mono ?_ (c_crosses_new ho c1 g1 hq hxy e (c := L.length) rfl hL)
    rintro v ⟨f9, m9⟩ ⟨h1, h2, h3, h4, h5, rfl⟩
    rw [zUp_zUp] at h2
    refine ⟨h1, ?_, h5, rfl⟩
    unfold sPush
    rw [if_neg hm]
    refine ⟨?_, ⟨_, h3, fun i hi => ?_⟩, _, h4, fun p hp => ?_⟩
    · rw [List.length_append, List.length_singleton]
      exact h2
    · rw [List.length_append, List.length_singleton] at hi
      show (if i = L.length then nI q else gc i) = _
      by_cases e2 : i = L.length
      · subst e2
        rw [if_pos rfl, List.getD_eq_getElem?_getD, List.getElem?_append_right (Nat.le_refl _), Nat.sub_self]
        rfl
      · rw [if_neg e2, c2 i (by omega), List.getD_eq_getElem?_getD, List.getD_eq_getElem?_getD, List.getElem?_append_left (by omega)]
    · show (p ∈ L ++ [q] ↔ (if p = q then nI (mr + 1) else gm p) = nI (mr + 1)) ∧ ∃ j, j ≤ mr + 1 ∧ (if p = q then nI (mr + 1) else gm p) = nI j
      by_cases e2 : p = q
      · rw [if_pos e2]
        exact ⟨⟨fun _ => rfl, fun _ => List.mem_append.mpr (Or.inr (List.mem_singleton.mpr e2))⟩, mr + 1, Nat.le_refl _, rfl⟩
      · rw [if_neg e2]
        refine ⟨⟨fun z => (g2 p hp).1.mp ?_, fun z => List.mem_append.mpr (Or.inl ((g2 p hp).1.mpr z))⟩, (g2 p hp).2⟩
        rcases List.mem_append.mp z with z | z
        · exact z
        · exact absurd (List.mem_singleton.mp z) e2
