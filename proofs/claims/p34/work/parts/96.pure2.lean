/-! PURE FACTS: what the law says of a state, and what its act does to one. -/
theorem sSum_add2 (F H : Nat → Int32) : ∀ n, sSum (fun j => F j + H j) n = sSum F n + sSum H n
  | 0 => rfl
  | n + 1 => by
    show sSum (fun j => F j + H j) n + (F n + H n) = sSum F n + F n + (sSum H n + H n)
    rw [sSum_add2 F H n]
    generalize sSum F n = x
    generalize sSum H n = y
    generalize F n = z
    generalize H n = t
    grind
theorem sSum_one {a : Nat} (ha : a < 1000) : ∀ n, n ≤ 1000 → sSum (fun b => if nI a = nI b then 1 else 0) n = if a < n then 1 else 0
  | 0, _ => (if_neg (Nat.not_lt_zero a)).symm
  | n + 1, hn => by
    show sSum (fun b => if nI a = nI b then 1 else 0) n + (if nI a = nI n then 1 else 0) = _
    rw [sSum_one ha n (by omega)]
    by_cases e : a = n
    · subst e
      rw [if_neg (Nat.lt_irrefl a), if_pos rfl, if_pos (Nat.lt_succ_self a)]
      rfl
    · rw [if_neg (show ¬ nI a = nI n from fun z => e ((nI_eq (by omega) (by omega)).mp z)), Int32.add_zero]
      by_cases h : a < n
      · rw [if_pos h, if_pos (by omega)]
      · rw [if_neg h, if_neg (by omega)]
theorem sEnds_sum {N s n : Nat} {ρ : zRS} (hw : RW ρ N s n) : ∀ m, m ≤ n → sSum (fun b => sEnds ρ m (nI b)) N = nI (2 * m)
  | 0, _ => by
    have hz : ∀ N, sSum (fun b => sEnds ρ 0 (nI b)) N = nI 0 := fun N => by
      induction N with
      | zero => rfl
      | succ N ih =>
        show sSum (fun b => sEnds ρ 0 (nI b)) N + 0 = nI 0
        rw [ih]
        rfl
    exact hz N
  | m + 1, hm => by
    obtain ⟨a, b, u, ha, hb, hab, hu, q4, q5, q6⟩ := hw.2.2 m (by omega)
    have hN := hw.1.N24
    have e : sSum (fun x => sEnds ρ (m + 1) (nI x)) N = sSum (fun x => sEnds ρ m (nI x) + ((if nI a = nI x then 1 else 0) + (if nI b = nI x then 1 else 0))) N := sSum_congr N fun x hx => by
      show sEnds ρ m (nI x) + (if ρ 4 m = nI x ∨ ρ 5 m = nI x then 1 else 0) = _
      rw [q4, q5]
      by_cases e1 : nI a = nI x
      · have e2 : ¬ nI b = nI x := fun z => hab ((nI_eq (by omega) (by omega)).mp (e1.trans z.symm))
        rw [if_pos (Or.inl e1), if_pos e1, if_neg e2]
        rfl
      · rw [if_neg e1]
        by_cases e2 : nI b = nI x
        · rw [if_pos (Or.inr e2), if_pos e2]
          rfl
        · rw [if_neg (fun z => z.elim e1 e2), if_neg e2]
          rfl
    rw [e, sSum_add2 (fun x => sEnds ρ m (nI x)), sSum_add2 (fun x => if nI a = nI x then 1 else 0), sEnds_sum hw m (by omega), sSum_one (by omega) N (by omega), sSum_one (by omega) N (by omega), if_pos ha, if_pos hb]
    show nI (2 * m) + nI (1 + 1) = _
    rw [nI_add]
    exact congrArg nI (by omega)
theorem sCh_sum {N s n : Nat} {ρ : zRS} (hw : RW ρ N s n) : ∀ m, m ≤ n → sSum (fun u => sCh ρ m (nI u)) 3 = nI m
  | 0, _ => rfl
  | m + 1, hm => by
    obtain ⟨a, b, u, ha, hb, hab, hu, q4, q5, q6⟩ := hw.2.2 m (by omega)
    have e : sSum (fun x => sCh ρ (m + 1) (nI x)) 3 = sSum (fun x => sCh ρ m (nI x) + (if nI u = nI x then 1 else 0)) 3 := sSum_congr 3 fun x hx => by
      show sCh ρ m (nI x) + (if ρ 6 m = nI x then 1 else 0) = _
      rw [q6]
    rw [e, sSum_add2 (fun x => sCh ρ m (nI x)), sCh_sum hw m (by omega), sSum_one (by omega) 3 (by omega), if_pos hu, nI_1]
theorem sSum_cnt0 (p : Nat → Prop) [DecidablePred p] : ∀ n, ∃ k, k ≤ n ∧ sSum (fun q => if p q then 1 else 0) n = nI k ∧ (k = 0 ↔ ∀ j, j < n → ¬ p j)
  | 0 => ⟨0, Nat.le_refl 0, rfl, ⟨fun _ j hj => absurd hj (Nat.not_lt_zero j), fun _ => rfl⟩⟩
  | n + 1 => by
    obtain ⟨k, h1, h2, h3⟩ := sSum_cnt0 p n
    by_cases h : p n
    · refine ⟨k + 1, by omega, ?_, ⟨fun z => by omega, fun z => absurd h (z n (Nat.lt_succ_self n))⟩⟩
      show sSum _ n + (if p n then 1 else 0) = _
      rw [h2, if_pos h, nI_1]
    · refine ⟨k, by omega, ?_, ⟨fun z j hj => ?_, fun z => h3.mpr (fun j hj => z j (by omega))⟩⟩
      · show sSum _ n + (if p n then 1 else 0) = _
        rw [h2, if_neg h, Int32.add_zero]
      · rcases (by omega : j = n ∨ j < n) with e | e
        · subst e; exact h
        · exact h3.mp z j e
theorem sSgn_1 (x : Int32) : sSgn x = 1 ↔ 0 < x := by
  unfold sSgn
  constructor
  · intro h
    split at h
    · assumption
    · split at h
      · exact absurd h (by decide)
      · exact absurd h (by decide)
  · intro h
    exact if_pos h
theorem sSgn_m (x : Int32) : sSgn x = -1 ↔ x < 0 := by
  unfold sSgn
  constructor
  · intro h
    split at h
    · exact absurd h (by decide)
    · split at h
      · assumption
      · exact absurd h (by decide)
  · intro h
    rw [if_neg (fun z => absurd (Int32.lt_trans z h) Int32.lt_irrefl), if_pos h]
theorem sPal_ok (ρ : zRS) : ∀ q, q ≤ 144 → ((sPal ρ q).1 = -1 ∧ (sPal ρ q).2 = 0 ∧ ∀ j, j < q → ¬ 0 < sLack ρ j) ∨ (¬ (sPal ρ q).1 = -1 ∧ 0 < (sPal ρ q).2 ∧ ∃ j, j < q ∧ 0 < sLack ρ j)
  | 0, _ => Or.inl ⟨rfl, rfl, fun j hj => absurd hj (Nat.not_lt_zero j)⟩
  | q + 1, hq => by
    have ih := sPal_ok ρ q (by omega)
    unfold sPal
    split
    · rename_i h
      rcases ih with ⟨h1, h2, h3⟩ | ⟨h1, h2, j, h3, h4⟩
      · refine Or.inl ⟨h1, h2, fun j hj => ?_⟩
        rcases (by omega : j = q ∨ j < q) with e | e
        · subst e
          rw [h2] at h
          exact Int32.not_lt.mpr h
        · exact h3 j e
      · exact Or.inr ⟨h1, h2, j, by omega, h4⟩
    · rename_i h
      have hl : 0 < sLack ρ q := by
        rcases ih with ⟨h1, h2, h3⟩ | ⟨h1, h2, j, h3, h4⟩
        · rw [h2] at h
          exact Int32.not_le.mp h
        · exact Int32.lt_trans h2 (Int32.not_le.mp h)
      exact Or.inr ⟨nI_m1 (by omega), hl, q, Nat.lt_succ_self q, hl⟩
/-- no square is too pale exactly when no square lacks -/
theorem pal_ok (ρ : zRS) : ((sPal ρ 144).1 = -1 ∧ sThat ρ 1 = 0) ∨ (¬ (sPal ρ 144).1 = -1 ∧ ¬ sThat ρ 1 = 0) := by
  obtain ⟨k, k1, k2, k3⟩ := sSum_cnt0 (fun q => sSgn (sLack ρ q) = 1) 144
  have k2 : sThat ρ 1 = nI k := k2
  rcases sPal_ok ρ 144 (Nat.le_refl _) with ⟨h1, -, h3⟩ | ⟨h1, -, j, h3, h4⟩
  · refine Or.inl ⟨h1, ?_⟩
    rw [k2, k3.mpr (fun j hj z => h3 j hj ((sSgn_1 _).mp z))]
    rfl
  · refine Or.inr ⟨h1, fun z => ?_⟩
    rw [k2] at z
    have z : k = 0 := (nI_eq (b := 0) (by omega) (by omega)).mp z
    exact k3.mp z j h3 ((sSgn_1 _).mpr h4)
def sAny (F : Nat → Int32) : Nat → Int32
  | 0 => 0
  | i + 1 => if sAny F i = 0 ∧ ¬ F i = 0 then 0 else 1
theorem sAny_ok (F : Nat → Int32) : ∀ n, (sAny F n = 0 ∧ ∀ b, b < n → ¬ F b = 0) ∨ (sAny F n = 1 ∧ ∃ b, b < n ∧ F b = 0)
  | 0 => Or.inl ⟨rfl, fun b hb => absurd hb (Nat.not_lt_zero b)⟩
  | n + 1 => by
    unfold sAny
    rcases sAny_ok F n with ⟨h1, h2⟩ | ⟨h1, b, h2, h3⟩
    · by_cases e : F n = 0
      · exact Or.inr ⟨if_neg (fun z => z.2 e), n, Nat.lt_succ_self n, e⟩
      · refine Or.inl ⟨if_pos ⟨h1, e⟩, fun b hb => ?_⟩
        rcases (by omega : b = n ∨ b < n) with z | z
        · subst z; exact e
        · exact h2 b z
    · exact Or.inr ⟨if_neg (fun z => absurd (h1.symm.trans z.1) (by decide)), b, by omega, h3⟩
theorem sRef_a (N s : Nat) (ap ti lf : Int32) (tm : Nat → Int32) (a : Nat) : sRef N s ap ti lf tm a a = 1 := if_pos rfl
theorem sRef_b {N s : Nat} {ap ti lf : Int32} {tm : Nat → Int32} {a b : Nat} (h : ¬ b = a) : ¬ sRef N s ap ti lf tm a b = 1 := fun z => by
  unfold sRef at z
  rw [if_neg h] at z
  split at z
  · exact absurd z (by decide)
  · split at z
    · exact absurd z (by decide)
    · split at z
      · exact absurd z (by decide)
      · exact absurd z (by decide)
theorem sRef_nI (N s : Nat) (ap ti lf : Int32) (tm : Nat → Int32) (a b : Nat) : ∃ j, j < 2 ^ 31 ∧ sRef N s ap ti lf tm a b = nI j := by
  unfold sRef
  split
  · exact ⟨1, by decide, rfl⟩
  · split
    · exact ⟨2, by decide, rfl⟩
    · split
      · exact ⟨3, by decide, rfl⟩
      · split
        · exact ⟨4, by decide, rfl⟩
        · exact ⟨0, by decide, rfl⟩
section ZBEST
variable {N s n a u : Nat} {ρ : zRS}
theorem sG9_b (i : IVr N s n ρ) (ha : a < N) (hu : u < 3) {b : Nat} (hb : b < N) (hab : ¬ b = a) : sGain9 ρ s u a b = sGain ρ s (ρ 1 u) a b + 10000 ∧ zB 200 (sGain ρ s (ρ 1 u) a b) ∧ (sGain9 ρ s u a b).toInt = (sGain ρ s (ρ 1 u) a b).toInt + 10000 := by
  have e : sGain9 ρ s u a b = sGain ρ s (ρ 1 u) a b + 10000 := if_neg hab
  have hs := sShade_b i hu
  have hB : zB 200 (sGain ρ s (ρ 1 u) a b) := sGain_b (ρ' := ρ) i.1.1 ha hb (fun z => hab z.symm) hs.1 hs.2 (fun q hq => by
    have hl := sLack_b i hq
    have h1 : -3000 ≤ (sLack ρ q).toInt ∧ (sLack ρ q).toInt ≤ 3000 := hl
    show -3100 ≤ (sLack ρ q).toInt ∧ (sLack ρ q).toInt ≤ 3100
    omega)
  refine ⟨e, hB, ?_⟩
  rw [e, zB_add (c := 200) (d := 10000) hB (by unfold zB; decide) (by decide)]
  rfl
theorem sG9_m (i : IVr N s n ρ) (ha : a < N) (hu : u < 3) {b : Nat} (hb : b < N) (hab : ¬ b = a) : ¬ sGain9 ρ s u a b = -1 := fun z => by
  obtain ⟨-, h1, h2⟩ := sG9_b i ha hu hb hab
  have h1 : -200 ≤ (sGain ρ s (ρ 1 u) a b).toInt ∧ (sGain ρ s (ρ 1 u) a b).toInt ≤ 200 := h1
  rw [z] at h2
  have : (-1 : Int32).toInt = -1 := rfl
  omega
theorem best_ok (i : IVr N s n ρ) (ha : a < N) (hu : u < 3) {tm : Nat → Int32} {b : Nat} (hb : b < N) (hr : sRef N s (ρ 3 0) (ρ 3 1) (ρ 2 u) tm a b = 0) : ∃ b0, b0 < N ∧ sBest ρ N s tm a u = nI b0 ∧ sGain9 ρ s u a b ≤ sGain9 ρ s u a b0 := by
  have hN := i.1.1.N24
  obtain ⟨h1, h2⟩ := sBst_max (fun b => sRef N s (ρ 3 0) (ρ 3 1) (ρ 2 u) tm a b) (fun b => sGain ρ s (ρ 1 u) a b) (fun b => tm (sPr (a * s) (b * s))) (fun b => sLn s a b) N hN b hb hr
  rcases sBst_ref (fun b => sRef N s (ρ 3 0) (ρ 3 1) (ρ 2 u) tm a b) (fun b => sGain ρ s (ρ 1 u) a b) (fun b => tm (sPr (a * s) (b * s))) (fun b => sLn s a b) N with g | ⟨c, c1, c2, c3, c4⟩
  · exact absurd g h1
  · refine ⟨c, c1, c2, ?_⟩
    rw [c3] at h2
    have h2 : sGain ρ s (ρ 1 u) a b ≤ sGain ρ s (ρ 1 u) a c := h2
    have n1 : ¬ b = a := fun z => sRef_self _ _ _ _ _ _ _ (z ▸ hr)
    have c4 : sRef N s (ρ 3 0) (ρ 3 1) (ρ 2 u) tm a c = 0 := c4
    have n2 : ¬ c = a := fun z => sRef_self _ _ _ _ _ _ _ (z ▸ c4)
    obtain ⟨-, -, e1⟩ := sG9_b i ha hu hb n1
    obtain ⟨-, -, e2⟩ := sG9_b i ha hu c1 n2
    have h3 := Int32.le_iff_toInt_le.mp h2
    apply Int32.le_iff_toInt_le.mpr
    omega
theorem any_ok (i : IVr N s n ρ) (ha : a < N) (hu : u < 3) (tm : Nat → Int32) : (sAny (fun b => sRef N s (ρ 3 0) (ρ 3 1) (ρ 2 u) tm a b) N = 1 ∧ ¬ sBest ρ N s tm a u < 0) ∨ (sAny (fun b => sRef N s (ρ 3 0) (ρ 3 1) (ρ 2 u) tm a b) N = 0 ∧ sBest ρ N s tm a u < 0) := by
  have hN := i.1.1.N24
  rcases sAny_ok (fun b => sRef N s (ρ 3 0) (ρ 3 1) (ρ 2 u) tm a b) N with ⟨h1, h2⟩ | ⟨h1, b, h2, h3⟩
  · refine Or.inr ⟨h1, ?_⟩
    rcases sBst_ref (fun b => sRef N s (ρ 3 0) (ρ 3 1) (ρ 2 u) tm a b) (fun b => sGain ρ s (ρ 1 u) a b) (fun b => tm (sPr (a * s) (b * s))) (fun b => sLn s a b) N with g | ⟨c, c1, c2, c3, c4⟩
    · have g : sBest ρ N s tm a u = -1 := g
      rw [g]
      decide
    · exact absurd c4 (h2 c c1)
  · refine Or.inl ⟨h1, ?_⟩
    obtain ⟨c, c1, c2, -⟩ := best_ok i ha hu h2 h3
    rw [c2]
    exact nI_pos (by omega)
end ZBEST
/-! what the law's act does, by its two ints -/
def lw (v : Int32) (d : Nat) : Nat := v.toBitVec.toNat % 2147483648 % d
theorem lw_lt {v : Int32} {d : Nat} (h : 0 < d) : lw v d < d := Nat.mod_lt _ h
def shr (w k : Int32) : Int32 := w >>> (k &&& 31)
def sNails (S : zST) (v : Int32) : zST := (sNailsS (sAllOff S.1 S.2.2.1 S.2.2.2 (zs S) S.2.1) v, 0, (sDn S.1 S.2.2.1 S.2.2.2 (zs S) S.2.1 S.2.1).2.1, (sDn S.1 S.2.2.1 S.2.2.2 (zs S) S.2.1 S.2.1).2.2)
def sNx (t : Nat) : Int32 := if t < 3 then 4 + 2 * nI t else if t = 3 then 12 else 24
def sA0 (S : zST) (w : Int32) : Option (Int32 × zST) := if shr w 20 &&& 3 = 0 then some (S.1 0 0, sNails S (sNx (lw w 5))) else none
def sA1 (S : zST) (w : Int32) : Option (Int32 × zST) := if nI (lw w 3) = S.1 0 2 ∨ ¬ sCh S.1 S.2.1 (nI (lw w 3)) ≤ 0 then none else some (S.1 2 (lw w 3), (sSpoolS S.1 (lw w 3) (1 + nI (lw (shr w 2) 9)) (nI (lw (shr w 6) 10000)), S.2.1, S.2.2.1, S.2.2.2))
def sA2 (S : zST) (w : Int32) : Option (Int32 × zST) := some (S.1 0 5 + 1, (sKnotS S.1 ((zn (S.1 0 2) + 1 + lw w 2) % 3), S.2.1, S.2.2.1, S.2.2.2))
def sA3 (S : zST) (w : Int32) : Option (Int32 × zST) := some (S.1 3 (lw w 3), (sSetS S.1 (lw w 3) (1 + nI (lw (shr w 2) 4)), S.2.1, S.2.2.1, S.2.2.2))
def sA4 (S : zST) (w : Int32) : Option (Int32 × zST) := some (S.1 7 (lw (shr w 4) 12 * 12 + lw w 12), (sWantS S.1 (lw (shr w 4) 12 * 12 + lw w 12) (nI (lw (shr w 8) 10)), S.2.1, S.2.2.1, S.2.2.2))
def sA6 (S : zST) (w : Int32) : Option (Int32 × zST) := some (sMisfit (zset S.1 7 (sTurn (lw w 3) (S.1 7))), (zset S.1 7 (sTurn (lw w 3) (S.1 7)), S.2.1, S.2.2.1, S.2.2.2))
def sA7 (S : zST) : Option (Int32 × zST) := if S.2.1 = 0 then none else some (S.1 4 (S.2.1 - 1), (sOff S.1 (zs S) (zn (S.1 4 (S.2.1 - 1))) (zn (S.1 5 (S.2.1 - 1))) (zn (S.1 6 (S.2.1 - 1))), S.2.1 - 1, sInL (sPa (zs S) (zn (S.1 4 (S.2.1 - 1))) (zn (S.1 5 (S.2.1 - 1)))) (-1) S.2.2.1, sPutT S.2.2.2 (sPr (zn (S.1 4 (S.2.1 - 1)) * zs S) (zn (S.1 5 (S.2.1 - 1)) * zs S)) (-1)))
def sA8 (S : zST) (w : Int32) : Option (Int32 × zST) := some (nI (sWB (zN S) (zs S) (1 + lw w 4) S).2, (sWB (zN S) (zs S) (1 + lw w 4) S).1)
def sRf (S : zST) (b : Nat) : Int32 := sRef (zN S) (zs S) (S.1 3 0) (S.1 3 1) (S.1 2 (zn (S.1 0 2))) S.2.2.2 (zn (S.1 0 1)) b
def sA10 (S : zST) (w : Int32) : Option (Int32 × zST) := if S.2.1 = 200 then none else if sRf S (lw w (zN S)) = 0 then some (0, sWBn S.1 (zs S) S.2.1 S.2.2.1 S.2.2.2 (zn (S.1 0 1)) (lw w (zN S)) (zn (S.1 0 2))) else some (sRf S (lw w (zN S)), (sInc S.1 4, S.2.1, S.2.2.1, S.2.2.2))
def sAct (S : zST) (v w : Int32) : Option (Int32 × zST) :=
  if v.toBitVec.toNat % 16 = 0 then sA0 S w else if v.toBitVec.toNat % 16 = 1 then sA1 S w else if v.toBitVec.toNat % 16 = 2 then sA2 S w else if v.toBitVec.toNat % 16 = 3 then sA3 S w else if v.toBitVec.toNat % 16 = 4 ∨ v.toBitVec.toNat % 16 = 5 then sA4 S w else if v.toBitVec.toNat % 16 = 6 then sA6 S w else if v.toBitVec.toNat % 16 = 7 then sA7 S else if v.toBitVec.toNat % 16 = 8 ∨ v.toBitVec.toNat % 16 = 9 then sA8 S w else sA10 S w
/-- the answer is not below 0, and the state can be reached -/
def AOK (c : Nat) (R : Option (Int32 × zST)) : Prop := ∀ q, R = some q → GS (c + 1) q.2 ∧ ∃ j, j < 2 ^ 31 ∧ q.1 = nI j
theorem GS.to {c N s W K B : Nat} {S : zST} (h : G3 N s W K B S) (hW : W ≤ 1000 * c + 1000) (hK : K ≤ 1000 * c + 1000) (hB : B ≤ 100000 * c + 100000) : GS (c + 1) S := ⟨N, s, h.wide (by omega) (by omega) (by omega)⟩
theorem sNx_ok : ∀ t, t < 5 → ¬ sStepOf (sNx t) = -1 := by decide
section ZAOK
variable {c : Nat} {S : zST}
theorem one_nI (t : Nat) : 1 + nI t = nI (1 + t) := by
  rw [show (1 : Int32) = nI 1 from rfl, nI_add]
theorem sA0_ok (g : GS c S) (w : Int32) : AOK c (sA0 S w) := fun q e => by
  unfold sA0 at e
  split at e
  · cases e
    have g3 := g.g3
    obtain ⟨N2, s2, h⟩ := G3.nails (ρ := S.1) (n := S.2.1) (xs := S.2.2.1) (tm := S.2.2.2) (xs2 := S.2.2.1) (tm2 := S.2.2.2) (xs' := (sDn S.1 S.2.2.1 S.2.2.2 (zs S) S.2.1 S.2.1).2.1) (tm' := (sDn S.1 S.2.2.1 S.2.2.2 (zs S) S.2.1 S.2.1).2.2) g3 (sNx_ok (lw w 5) (lw_lt (by decide)))
    exact ⟨GS.to h (by omega) (by omega) (by omega), zN S, by have := g3.1.1.1.N24; omega, g3.1.1.1.1⟩
  · cases e
theorem sA1_ok (g : GS c S) (hc1 : 1 ≤ c) (hc : c ≤ 1000) (w : Int32) : AOK c (sA1 S w) := fun q e => by
  unfold sA1 at e
  split at e
  · cases e
  · rename_i h
    cases e
    have g3 := g.g3
    have h2 : sCh S.1 S.2.1 (nI (lw w 3)) ≤ 0 := Classical.not_not.mp (fun z => h (Or.inr z))
    have l3 : lw w 3 < 3 := lw_lt (by decide)
    have l9 : lw (shr w 2) 9 < 9 := lw_lt (by decide)
    have l0 : lw (shr w 6) 10000 < 10000 := lw_lt (by decide)
    obtain ⟨l, q1, q2⟩ := g3.2.2.2.2.1 (lw w 3) l3
    exact ⟨GS.to (g3.spool l3 h2 ⟨1 + lw (shr w 2) 9, by omega, by omega, one_nI _⟩ ⟨lw (shr w 6) 10000, by omega, rfl⟩) (by omega) (by omega) (by omega), l, by omega, q2⟩
theorem sA2_ok (g : GS c S) (hc : c ≤ 1000) (w : Int32) : AOK c (sA2 S w) := fun q e => by
  unfold sA2 at e
  cases e
  have g3 := g.g3
  obtain ⟨k, q1, q2⟩ := g3.2.2.2.1
  exact ⟨GS.to (g3.knot (Nat.mod_lt _ (by decide))) (by omega) (by omega) (by omega), k + 1, by omega, by show S.1 0 5 + 1 = _; rw [q2, nI_1]⟩
theorem sA3_ok (g : GS c S) (w : Int32) : AOK c (sA3 S w) := fun q e => by
  unfold sA3 at e
  cases e
  have g3 := g.g3
  have l4 : lw (shr w 2) 4 < 4 := lw_lt (by decide)
  obtain ⟨k, q1, q2, q3⟩ := g3.2.2.2.2.2 (lw w 3) (lw_lt (by decide))
  exact ⟨GS.to (g3.set ⟨1 + lw (shr w 2) 4, by omega, by omega, one_nI _⟩) (by omega) (by omega) (by omega), k, by omega, q3⟩
theorem sA4_ok (g : GS c S) (w : Int32) : AOK c (sA4 S w) := fun q e => by
  unfold sA4 at e
  cases e
  have g3 := g.g3
  have l1 : lw w 12 < 12 := lw_lt (by decide)
  have l2 : lw (shr w 4) 12 < 12 := lw_lt (by decide)
  have l3 : lw (shr w 8) 10 < 10 := lw_lt (by decide)
  obtain ⟨k, q1, q2⟩ := g3.1.2.2.2.2.2.2.1 (lw (shr w 4) 12 * 12 + lw w 12) (by omega)
  exact ⟨GS.to (g3.want ⟨lw (shr w 8) 10, by omega, rfl⟩) (by omega) (by omega) (by omega), k, by omega, q2⟩
theorem sA6_ok (g : GS c S) (w : Int32) : AOK c (sA6 S w) := fun q e => by
  unfold sA6 at e
  cases e
  have g4 := g.g3.turn (t := lw w 3)
  obtain ⟨j, q1, q2⟩ := sMis_nI (S := (zset S.1 7 (sTurn (lw w 3) (S.1 7)), S.2.1, S.2.2.1, S.2.2.2)) g4.1 144 (Nat.le_refl _)
  exact ⟨GS.to g4 (by omega) (by omega) (by omega), j, by omega, q2⟩
theorem sA7_ok (g : GS c S) : AOK c (sA7 S) := fun q e => by
  unfold sA7 at e
  split at e
  · cases e
  · rename_i h
    cases e
    have g3 := g.g3
    obtain ⟨ρ, n, xs, tm⟩ := S
    obtain ⟨n, rfl⟩ : ∃ j, n = j + 1 := ⟨n - 1, by have h : ¬ n = 0 := h; omega⟩
    obtain ⟨a, b, u, ha, hb, hab, hu, q4, q5, q6⟩ := g3.1.1.2.2 n (show n < n + 1 by omega)
    have hN := g3.1.1.1.N24
    have q4 : ρ 4 n = nI a := q4
    have q5 : ρ 5 n = nI b := q5
    have q6 : ρ 6 n = nI u := q6
    refine ⟨GS.to (N := zN (ρ, n + 1, xs, tm)) (s := zs (ρ, n + 1, xs, tm)) (W := 1000 * c) (K := 1000 * c) (B := 100000 * c + 240) ?_ (by omega) (by omega) (by omega), a, by omega, q4⟩
    show G3 _ _ _ _ _ (sOff ρ _ (zn (ρ 4 n)) (zn (ρ 5 n)) (zn (ρ 6 n)), n, sInL (sPa _ (zn (ρ 4 n)) (zn (ρ 5 n))) (-1) xs, sPutT tm (sPr (zn (ρ 4 n) * _) (zn (ρ 5 n) * _)) (-1))
    rw [q4, q5, q6, zn_nI (by omega), zn_nI (by omega), zn_nI (by omega)]
    exact G3.off g3 ha hb hu q4 q5 q6
theorem sA8_ok (g : GS c S) (hc : c ≤ 1000) (w : Int32) : AOK c (sA8 S w) := fun q e => by
  unfold sA8 at e
  cases e
  have l4 : lw w 4 < 4 := lw_lt (by decide)
  obtain ⟨h1, h2⟩ := G3.wb (N := zN S) (s := zs S) (K := 1000 * c) (B := 100000 * c) (by omega) (1 + lw w 4) (1000 * c) S g.g3
  exact ⟨GS.to h1 (by omega) (by omega) (by omega), _, by omega, rfl⟩
theorem sA10_ok (g : GS c S) (hc : c ≤ 1000) (w : Int32) : AOK c (sA10 S w) := fun q e => by
  unfold sA10 at e
  split at e
  · cases e
  · rename_i h
    have g3 := g.g3
    have hN := g3.1.1.1.N24
    have hN4 := g3.1.1.1.2.2.2
    have hn := g3.1.2.1
    split at e
    · rename_i hr
      cases e
      obtain ⟨a, ha, hat⟩ := g3.1.2.2.1
      obtain ⟨u, hu, hnow⟩ := g3.1.2.2.2.1
      have ea : zn (S.1 0 1) = a := by rw [hat, zn_nI (by omega)]
      have eu : zn (S.1 0 2) = u := by rw [hnow, zn_nI (by omega)]
      unfold sRf at hr
      rw [ea, eu] at hr
      have hb : lw w (zN S) < zN S := lw_lt (by omega)
      have hab : a ≠ lw w (zN S) := fun e => sRef_self _ _ _ _ _ _ _ (e ▸ hr)
      refine ⟨?_, 0, by decide, rfl⟩
      show GS (c + 1) (sWBn S.1 (zs S) S.2.1 S.2.2.1 S.2.2.2 (zn (S.1 0 1)) (lw w (zN S)) (zn (S.1 0 2)))
      rw [ea, eu]
      refine GS.to (g3.lay (by omega) ha hb hab hu hat hnow (by omega) (fun z => ?_)) (by omega) (by omega) (by omega)
      unfold sRef at hr
      rw [if_neg (fun z => hab z.symm)] at hr
      split at hr
      · exact absurd hr (by decide)
      · split at hr
        · exact absurd hr (by decide)
        · exact absurd hr (by decide)
    · cases e
      exact ⟨GS.to g3.inc4 (by omega) (by omega) (by omega), sRef_nI _ _ _ _ _ _ _ _⟩
theorem sAct_ok (g : GS c S) (hc1 : 1 ≤ c) (hc : c ≤ 1000) (v w : Int32) : AOK c (sAct S v w) := by
  unfold sAct
  split
  · exact sA0_ok g w
  split
  · exact sA1_ok g hc1 hc w
  split
  · exact sA2_ok g hc w
  split
  · exact sA3_ok g w
  split
  · exact sA4_ok g w
  split
  · exact sA6_ok g w
  split
  · exact sA7_ok g
  split
  · exact sA8_ok g hc w
  · exact sA10_ok g hc w
end ZAOK
