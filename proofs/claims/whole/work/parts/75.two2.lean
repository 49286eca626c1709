theorem RW_of {σ σ' : Nat → Int32} {N s n : Nat} (h0 : σ' 0 = σ 0) (hc : ∀ i, 16 ≤ i → i < 616 → σ' i = σ i) (hn : n ≤ 200) (hw : RW (rOf σ) N s n) : RW (rOf σ') N s n :=
  ⟨RV_of hw.1 h0, hw.2.1, fun c hc9 => by
    obtain ⟨a, b, u, ha, hb, hab, hu, q4, q5, q6⟩ := hw.2.2 c hc9
    exact ⟨a, b, u, ha, hb, hab, hu, (hc (16 + 3 * c) (by omega) (by omega)).trans q4, (hc (16 + 3 * c + 1) (by omega) (by omega)).trans q5, (hc (16 + 3 * c + 2) (by omega) (by omega)).trans q6⟩⟩
theorem sTm_of {σ σ' : Nat → Int32} {n : Nat} (h0 : σ' 0 = σ 0) (hc : ∀ i, 16 ≤ i → i < 616 → σ' i = σ i) (hn : n ≤ 200) : sTm (rOf σ') n = sTm (rOf σ) n := by
  funext p
  refine sSum_congr n fun c hc9 => ?_
  have e0 : sStep (rOf σ') = sStep (rOf σ) := by show 24 / σ' 0 = 24 / σ 0; rw [h0]
  have e4 : rOf σ' 4 c = rOf σ 4 c := hc (16 + 3 * c) (by omega) (by omega)
  have e5 : rOf σ' 5 c = rOf σ 5 c := hc (16 + 3 * c + 1) (by omega) (by omega)
  rw [e0, e4, e5]
theorem sRef0 {N s a b : Nat} {ap ti lf : Int32} {tm : Nat → Int32} : sRef N s ap ti lf tm a b = 0 ↔ ¬ b = a ∧ ¬ nI (min (sFar a b) (N - sFar a b)) < ap ∧ ¬ ti ≤ tm (sPr (a * s) (b * s)) ∧ ¬ lf < sLn s a b := by
  unfold sRef
  by_cases h1 : b = a
  · rw [if_pos h1]; exact ⟨fun z => absurd z (by decide), fun z => absurd h1 z.1⟩
  · by_cases h2 : nI (min (sFar a b) (N - sFar a b)) < ap
    · rw [if_neg h1, if_pos h2]; exact ⟨fun z => absurd z (by decide), fun z => absurd h2 z.2.1⟩
    · by_cases h3 : ti ≤ tm (sPr (a * s) (b * s))
      · rw [if_neg h1, if_neg h2, if_pos h3]; exact ⟨fun z => absurd z (by decide), fun z => absurd h3 z.2.2.1⟩
      · by_cases h4 : lf < sLn s a b
        · rw [if_neg h1, if_neg h2, if_neg h3, if_pos h4]; exact ⟨fun z => absurd z (by decide), fun z => absurd h4 z.2.2.2⟩
        · rw [if_neg h1, if_neg h2, if_neg h3, if_neg h4]; exact ⟨fun _ => ⟨h1, h2, h3, h4⟩, fun _ => rfl⟩
/-- with the first chord laid, a second one is refused just if it is so without, or it goes back and the pair lies too often -/
theorem sSc_ok {ρ : zRS} {N s n a i j : Nat} {ap ti lf : Int32} (hw : RW ρ N s n) (hn : n ≤ 200) (ha : a < N) (hi : i < N) (hj : j < N) (hai : a ≠ i) :
    (j = a → (sRef N s ap ti lf (sPutT (sTm ρ n) (sPr (a * s) (i * s)) 1) i j = 0 ↔ sRef N s ap ti lf (sTm ρ n) i j = 0 ∧ sTm ρ n (sPr (a * s) (i * s)) + 1 < ti)) ∧
    (j ≠ a → (sRef N s ap ti lf (sPutT (sTm ρ n) (sPr (a * s) (i * s)) 1) i j = 0 ↔ sRef N s ap ti lf (sTm ρ n) i j = 0)) := by
  have hv := hw.1
  have hp := hv.pos
  obtain ⟨t1, h1, e1⟩ := sTm_n ρ n (sPr (a * s) (i * s))
  rw [sRef0, sRef0]
  have hk : ∀ p q, p < N → q < N → (p * s = q * s ↔ p = q) := fun p q _ _ => ⟨fun e => Nat.eq_of_mul_eq_mul_right hp.1 e, fun e => by rw [e]⟩
  constructor
  · intro e
    subst e
    have ep : sPr (i * s) (j * s) = sPr (j * s) (i * s) := by rw [← sPr_mm (i * s) (j * s), ← sPr_mm (j * s) (i * s), Nat.min_comm, Nat.max_comm]
    rw [ep]
    show (_ ∧ _ ∧ ¬ ti ≤ (if sPr (j * s) (i * s) = sPr (j * s) (i * s) then sTm ρ n (sPr (j * s) (i * s)) + 1 else sTm ρ n (sPr (j * s) (i * s))) ∧ _) ↔ _
    rw [if_pos rfl, e1, nI_1, Int32.not_le, Int32.not_le]
    constructor
    · rintro ⟨z1, z2, z3, z4⟩
      exact ⟨⟨z1, z2, Int32.lt_of_le_of_lt (nI_le (by omega) (by omega)) z3, z4⟩, z3⟩
    · rintro ⟨⟨z1, z2, -, z4⟩, z3⟩
      exact ⟨z1, z2, z3, z4⟩
  · intro hja
    have ep : i ≠ j → sPr (i * s) (j * s) ≠ sPr (a * s) (i * s) := fun hij e => by
      rw [sPr_eq (hv.pl hi) (hv.pl hj) (hv.pl ha) (hv.pl hi) (hv.ne hij) (hv.ne hai), hk i a hi ha, hk j i hj hi, hk j a hj ha] at e
      rcases e with ⟨z, -⟩ | ⟨-, z⟩
      · exact hai z.symm
      · exact hja z
    by_cases hij : i = j
    · exact ⟨fun z => absurd hij.symm z.1, fun z => absurd hij.symm z.1⟩
    · have e9 : sPutT (sTm ρ n) (sPr (a * s) (i * s)) 1 (sPr (i * s) (j * s)) = sTm ρ n (sPr (i * s) (j * s)) := if_neg (ep hij)
      rw [e9]
/-- bounds -/
def zB (c : Int) (x : Int32) : Prop := -c ≤ x.toInt ∧ x.toInt ≤ c
theorem zB_add {c d : Int} {x y : Int32} (hx : zB c x) (hy : zB d y) (h : c + d ≤ 1000000) : (x + y).toInt = x.toInt + y.toInt := by
  obtain ⟨h1, h2⟩ := hx
  obtain ⟨h3, h4⟩ := hy
  rw [Int32.toInt_add]
  exact Int.bmod_eq_of_le (by omega) (by omega)
theorem zB_sub {c d : Int} {x y : Int32} (hx : zB c x) (hy : zB d y) (h : c + d ≤ 1000000) : (x - y).toInt = x.toInt - y.toInt := by
  obtain ⟨h1, h2⟩ := hx
  obtain ⟨h3, h4⟩ := hy
  rw [Int32.toInt_sub]
  exact Int.bmod_eq_of_le (by omega) (by omega)
theorem zB_abs {c : Int} {x : Int32} (hx : zB c x) (h : c ≤ 1000000) : (sAbs x).toInt = if 0 ≤ x.toInt then x.toInt else -x.toInt := by
  have h0 : zB 0 0 := ⟨by decide, by decide⟩
  unfold sAbs
  by_cases e : 0 ≤ x
  · rw [if_pos e, if_pos (i32_le0.mp e)]
  · rw [if_neg e, if_neg (fun z => e (i32_le0.mpr z)), zB_sub h0 hx (by omega)]
    have : (0 : Int32).toInt = 0 := by decide
    omega
theorem sRel_b {l sh : Int32} (hl : zB 3100 l) (h0 : 0 ≤ sh.toInt) (h9 : sh.toInt ≤ 9) : zB 9 (sRel l sh) := by
  have hs : zB 9 sh := ⟨by omega, h9⟩
  have e1 := zB_sub hl hs (by omega)
  obtain ⟨g1, g2⟩ := id hl
  have hd : zB 3109 (l - sh) := ⟨by rw [e1]; omega, by rw [e1]; omega⟩
  have a1 := zB_abs hl (by omega)
  have a2 := zB_abs hd (by omega)
  have b1 : zB 3100 (sAbs l) := ⟨by rw [a1]; split <;> omega, by rw [a1]; split <;> omega⟩
  have b2 : zB 3109 (sAbs (l - sh)) := ⟨by rw [a2]; split <;> omega, by rw [a2]; split <;> omega⟩
  have e := zB_sub b1 b2 (by omega)
  unfold sRel
  refine ⟨?_, ?_⟩ <;> rw [e, a1, a2, e1] <;> split <;> split <;> omega
theorem sGn_b {ρ : zRS} {sh : Int32} (h0 : 0 ≤ sh.toInt) (h9 : sh.toInt ≤ 9) : ∀ (L : List Nat) (z : Int32) (k : Nat), (∀ q ∈ L, zB 3100 (sLack ρ q)) → zB k z → k + 9 * L.length ≤ 10000 → zB ((k + 9 * L.length : Nat) : Int) (sGn ρ sh L z)
  | [], z, k, _, hz, _ => by
    show zB ((k + 9 * 0 : Nat) : Int) z
    rw [Nat.mul_zero, Nat.add_zero]
    exact hz
  | q :: L, z, k, hL, hz, hk => by
    have h1 := sRel_b (hL q List.mem_cons_self) h0 h9
    have e := zB_add hz h1 (by simp only [List.length_cons] at hk; omega)
    obtain ⟨g1, g2⟩ := id hz
    obtain ⟨g3, g4⟩ := id h1
    have h2 := sGn_b h0 h9 L (z + sRel (sLack ρ q) sh) (k + 9) (fun x hx => hL x (List.mem_cons_of_mem _ hx)) ⟨by rw [e]; omega, by rw [e]; omega⟩ (by simp only [List.length_cons] at hk; omega)
    have e2 : k + 9 * (q :: L).length = k + 9 + 9 * L.length := by simp only [List.length_cons]; omega
    rw [e2]
    exact h2
theorem sGain_b {ρ ρ' : zRS} {N s a b : Nat} {sh : Int32} (hv : RV ρ' N s) (ha : a < N) (hb : b < N) (hab : a ≠ b) (h0 : 0 ≤ sh.toInt) (h9 : sh.toInt ≤ 9) (hL : ∀ q, q < 144 → zB 3100 (sLack ρ q)) : zB 200 (sGain ρ s sh a b) := by
  obtain ⟨h1, -, h3⟩ := sPa_ok hv ha hb hab
  obtain ⟨g1, g2⟩ := sGn_b h0 h9 (sPa s a b) 0 0 (fun q hq => hL q (h3 q hq)) ⟨by decide, by decide⟩ (by omega)
  exact ⟨by unfold sGain; omega, by unfold sGain; omega⟩
theorem sGn_congr {ρ ρ' : zRS} {sh : Int32} : ∀ (L : List Nat) (z : Int32), (∀ q ∈ L, sLack ρ q = sLack ρ' q) → sGn ρ sh L z = sGn ρ' sh L z
  | [], _, _ => rfl
  | q :: L, z, h => by
    show sGn ρ sh L (z + sRel (sLack ρ q) sh) = sGn ρ' sh L (z + sRel (sLack ρ' q) sh)
    rw [h q List.mem_cons_self]
    exact sGn_congr L _ (fun x hx => h x (List.mem_cons_of_mem _ hx))
/-- all seconds behind a first, told one by one -/
def sSec (rf gn : Nat → Int32) (its : Int32) (i : Nat) (S : Int32 × Int32) : Nat → Int32 × Int32
  | 0 => S
  | j + 1 => if rf j = 0 ∧ (sSec rf gn its i S j).2 < its + gn j then (nI (100 * i + j), its + gn j) else sSec rf gn its i S j
theorem sSec_ok {rf gn : Nat → Int32} {its : Int32} {i : Nat} {S : Int32 × Int32} {N : Nat} (hN : N ≤ 24) (hi : zB 200 its) (hg : ∀ j, j < N → rf j = 0 → zB 200 (gn j)) : ∀ j, j ≤ N →
    ((sMst rf gn j).1 = -1 ∧ sSec rf gn its i S j = S) ∨ ∃ c, c < j ∧ rf c = 0 ∧ sMst rf gn j = (nI c, gn c) ∧ sSec rf gn its i S j = if S.2 < its + gn c then (nI (100 * i + c), its + gn c) else S
  | 0, _ => Or.inl ⟨rfl, rfl⟩
  | j + 1, hj => by
    have ih := sSec_ok (S := S) (i := i) hN hi hg j (by omega)
    by_cases hr : rf j = 0
    · have hgj := hg j (by omega) hr
      have ej := zB_add hi hgj (by omega)
      rcases ih with ⟨h1, h2⟩ | ⟨c, hc, hrc, h1, h2⟩
      · refine Or.inr ⟨j, by omega, hr, if_pos ⟨hr, Or.inl h1⟩, ?_⟩
        show (if rf j = 0 ∧ (sSec rf gn its i S j).2 < its + gn j then (nI (100 * i + j), its + gn j) else sSec rf gn its i S j) = _
        rw [h2]
        by_cases h3 : S.2 < its + gn j
        · rw [if_pos ⟨hr, h3⟩, if_pos h3]
        · rw [if_neg (fun z => h3 z.2), if_neg h3]
      · have ec := zB_add hi (hg c (by omega) hrc) (by omega)
        have hm1 : ¬ nI c = -1 := nI_m1 (by omega)
        have s1 : sMst rf gn (j + 1) = if rf j = 0 ∧ ((sMst rf gn j).1 = -1 ∨ ¬ gn j ≤ (sMst rf gn j).2) then (nI j, gn j) else sMst rf gn j := rfl
        have s2 : sSec rf gn its i S (j + 1) = if rf j = 0 ∧ (sSec rf gn its i S j).2 < its + gn j then (nI (100 * i + j), its + gn j) else sSec rf gn its i S j := rfl
        rw [h1] at s1
        rw [h2] at s2
        have hlt : its + gn c < its + gn j ↔ ¬ gn j ≤ gn c := by rw [Int32.lt_iff_toInt_lt, Int32.le_iff_toInt_le, ej, ec]; omega
        by_cases h3 : gn j ≤ gn c
        · rw [if_neg (fun z => z.2.elim hm1 (fun z => z h3))] at s1
          refine Or.inr ⟨c, by omega, hrc, s1, s2.trans ?_⟩
          by_cases h4 : S.2 < its + gn c
          · rw [if_pos h4, if_neg (fun z => (hlt.mp z.2) h3)]
          · rw [if_neg h4, if_neg (fun z => h4 ?_)]
            have z2 := z.2
            rw [Int32.lt_iff_toInt_lt, ej] at z2
            rw [Int32.lt_iff_toInt_lt, ec]
            rw [Int32.le_iff_toInt_le] at h3
            omega
        · rw [if_pos ⟨hr, Or.inr h3⟩] at s1
          refine Or.inr ⟨j, by omega, hr, s1, s2.trans ?_⟩
          by_cases h4 : S.2 < its + gn c
          · rw [if_pos h4, if_pos ⟨hr, hlt.mpr h3⟩, if_pos (Int32.lt_trans h4 (hlt.mpr h3))]
          · rw [if_neg h4]
            by_cases h5 : S.2 < its + gn j
            · rw [if_pos ⟨hr, h5⟩, if_pos h5]
            · rw [if_neg (fun z => h5 z.2), if_neg h5]
    · have s1 : sMst rf gn (j + 1) = sMst rf gn j := if_neg (fun z => hr z.1)
      have s2 : sSec rf gn its i S (j + 1) = sSec rf gn its i S j := if_neg (fun z => hr z.1)
      rw [s1, s2]
      rcases ih with h | ⟨c, hc, h⟩
      · exact Or.inl h
      · exact Or.inr ⟨c, by omega, h⟩
