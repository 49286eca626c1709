/-! WHAT TIES BOTH: pure facts about a ring's state. -/
theorem zEQ.symm {n : Nat} {ρ ρ' : zRS} (h : zEQ n ρ ρ') : zEQ n ρ' ρ := by
  obtain ⟨h0, h1, h4, h7⟩ := h
  exact ⟨fun i hi => (h0 i hi).symm, fun i hi => ⟨(h1 i hi).1.symm, (h1 i hi).2.1.symm, (h1 i hi).2.2.symm⟩, fun c hc => ⟨(h4 c hc).1.symm, (h4 c hc).2.1.symm, (h4 c hc).2.2.symm⟩, fun q hq => ⟨(h7 q hq).1.symm, (h7 q hq).2.symm⟩⟩
theorem zEQ.trans {n : Nat} {ρ ρ' ρ2 : zRS} (h : zEQ n ρ ρ') (g : zEQ n ρ' ρ2) : zEQ n ρ ρ2 := by
  obtain ⟨h0, h1, h4, h7⟩ := h
  obtain ⟨g0, g1, g4, g7⟩ := g
  exact ⟨fun i hi => (h0 i hi).trans (g0 i hi), fun i hi => ⟨(h1 i hi).1.trans (g1 i hi).1, (h1 i hi).2.1.trans (g1 i hi).2.1, (h1 i hi).2.2.trans (g1 i hi).2.2⟩, fun c hc => ⟨(h4 c hc).1.trans (g4 c hc).1, (h4 c hc).2.1.trans (g4 c hc).2.1, (h4 c hc).2.2.trans (g4 c hc).2.2⟩, fun q hq => ⟨(h7 q hq).1.trans (g7 q hq).1, (h7 q hq).2.trans (g7 q hq).2⟩⟩
theorem zEQ.less {n m : Nat} {ρ ρ' : zRS} (h : zEQ n ρ ρ') (hm : m ≤ n) : zEQ m ρ ρ' := ⟨h.1, h.2.1, fun c hc => h.2.2.1 c (by omega), h.2.2.2⟩
theorem sStep_eq {n : Nat} {ρ ρ' : zRS} (h : zEQ n ρ ρ') : sStep ρ = sStep ρ' := by
  unfold sStep
  rw [h.1 0 (by omega)]
theorem RV_eq {n N s : Nat} {ρ ρ' : zRS} (h : zEQ n ρ ρ') (hv : RV ρ N s) : RV ρ' N s := ⟨(h.1 0 (by omega)).symm.trans hv.1, (sStep_eq h).symm.trans hv.2.1, hv.2.2⟩
theorem RW_eq {n N s : Nat} {ρ ρ' : zRS} (h : zEQ n ρ ρ') (hw : RW ρ N s n) : RW ρ' N s n := ⟨RV_eq h hw.1, hw.2.1, fun c hc => by
  obtain ⟨a, b, u, ha, hb, hab, hu, q4, q5, q6⟩ := hw.2.2 c hc
  obtain ⟨e4, e5, e6⟩ := h.2.2.1 c hc
  exact ⟨a, b, u, ha, hb, hab, hu, e4.symm.trans q4, e5.symm.trans q5, e6.symm.trans q6⟩⟩
/-- how much thread of which shade darkens a square -/
def sDk (ρ : zRS) (s n q : Nat) : Int32 := sSum (fun c => if q ∈ sPa s (zn (ρ 4 c)) (zn (ρ 5 c)) then ρ 1 (zn (ρ 6 c)) else 0) n
theorem sDk_eq {n N s q : Nat} {ρ ρ' : zRS} (hw : RW ρ N s n) (h : zEQ n ρ ρ') : sDk ρ s n q = sDk ρ' s n q := sSum_congr n fun c hc => by
  obtain ⟨k4, k5, k6⟩ := h.2.2.1 c hc
  obtain ⟨a, b, u, ha, hb, hab, hu, q4, q5, q6⟩ := hw.2.2 c hc
  rw [← k4, ← k5, ← k6, q6, zn_nI (by omega), (h.2.1 u hu).1]
/-- a state of a ring that can be reached -/
def IVr (N s n : Nat) (ρ : zRS) : Prop := RW ρ N s n ∧ n ≤ 200 ∧ (∃ a, a < N ∧ ρ 0 1 = nI a) ∧ (∃ u, u < 3 ∧ ρ 0 2 = nI u) ∧ (∀ u, u < 3 → ∃ h, 1 ≤ h ∧ h ≤ 9 ∧ ρ 1 u = nI h) ∧ (∃ h, 1 ≤ h ∧ h ≤ 9 ∧ ρ 3 2 = nI h) ∧ (∀ q, q < 144 → ∃ g, g ≤ 9 ∧ ρ 7 q = nI g) ∧ ∀ q, q < 144 → ρ 8 q = sDk ρ s n q
theorem IVr_eq {N s n : Nat} {ρ ρ' : zRS} (h : zEQ n ρ ρ') (i : IVr N s n ρ) : IVr N s n ρ' := by
  obtain ⟨h1, h2, ⟨a, h3, h4⟩, ⟨u, h5, h6⟩, h7, ⟨k, h8, h9, h10⟩, h11, h12⟩ := i
  exact ⟨RW_eq h h1, h2, ⟨a, h3, (h.1 1 (by omega)).symm.trans h4⟩, ⟨u, h5, (h.1 2 (by omega)).symm.trans h6⟩, fun u hu => by
    obtain ⟨k, a, b, c⟩ := h7 u hu
    exact ⟨k, a, b, (h.2.1 u hu).1.symm.trans c⟩, ⟨k, h8, h9, (h.2.1 2 (by omega)).2.2.symm.trans h10⟩, fun q hq => by
    obtain ⟨g, a, b⟩ := h11 q hq
    exact ⟨g, a, (h.2.2.2 q hq).1.symm.trans b⟩, fun q hq => (h.2.2.2 q hq).2.symm.trans ((h12 q hq).trans (sDk_eq h1 h))⟩
theorem sDk_nI {N s n : Nat} {ρ : zRS} (i : IVr N s n ρ) (q : Nat) : ∀ m, m ≤ n → ∃ d, d ≤ 9 * m ∧ sDk ρ s m q = nI d
  | 0, _ => ⟨0, Nat.le_refl _, rfl⟩
  | m + 1, hm => by
    obtain ⟨d, h1, h2⟩ := sDk_nI i q m (by omega)
    obtain ⟨a, b, u, ha, hb, hab, hu, q4, q5, q6⟩ := i.1.2.2 m (by omega)
    obtain ⟨k, k1, k2, k3⟩ := i.2.2.2.2.1 u hu
    have e : sDk ρ s (m + 1) q = sDk ρ s m q + (if q ∈ sPa s (zn (ρ 4 m)) (zn (ρ 5 m)) then ρ 1 (zn (ρ 6 m)) else 0) := rfl
    rw [q6, zn_nI (by omega), k3, h2] at e
    by_cases hq : q ∈ sPa s (zn (ρ 4 m)) (zn (ρ 5 m))
    · rw [if_pos hq, nI_add] at e
      exact ⟨d + k, by omega, e⟩
    · rw [if_neg hq, Int32.add_zero] at e
      exact ⟨d, by omega, e⟩
theorem sLack_b {N s n q : Nat} {ρ : zRS} (i : IVr N s n ρ) (hq : q < 144) : zB 3000 (sLack ρ q) := by
  obtain ⟨k, h8, h9, h10⟩ := i.2.2.2.2.2.1
  obtain ⟨g, h11, h12⟩ := i.2.2.2.2.2.2.1 q hq
  obtain ⟨d, h13, h14⟩ := sDk_nI i q n (Nat.le_refl n)
  have hn := i.2.1
  have hgk : g * k ≤ 9 * 9 := Nat.mul_le_mul h11 h9
  unfold sLack zB
  rw [i.2.2.2.2.2.2.2 q hq, h14, h12, h10, pk_mul, pk_sub_toInt (by omega) (by omega)]
  omega
theorem sShade_b {N s n u : Nat} {ρ : zRS} (i : IVr N s n ρ) (hu : u < 3) : 0 ≤ (ρ 1 u).toInt ∧ (ρ 1 u).toInt ≤ 9 := by
  obtain ⟨k, a, b, c⟩ := i.2.2.2.2.1 u hu
  rw [c, nI_toInt (by omega)]
  omega
/-- the misfit, told by gains -/
theorem sSum_upd {F : Nat → Int32} {q : Nat} {v : Int32} : ∀ n, q < n → sSum (fun j => if j = q then v else F j) n = sSum F n - F q + v
  | 0, h => absurd h (Nat.not_lt_zero q)
  | n + 1, h => by
    show sSum (fun j => if j = q then v else F j) n + (if n = q then v else F n) = sSum F n + F n - F q + v
    by_cases e : n = q
    · subst e
      rw [if_pos rfl, sSum_congr (F := fun j => if j = n then v else F j) (H := F) n (fun c hc => if_neg (by omega))]
      generalize sSum F n = x
      generalize F n = y
      grind
    · rw [if_neg e, sSum_upd n (by omega)]
      generalize sSum F n = x
      generalize F n = y
      generalize F q = z
      grind
theorem sMGp_sum {sh : Int32} : ∀ (L : List Nat) (S : Int32 × (Nat → Int32)), (∀ q ∈ L, q < 144) → S.1 = sSum (fun q => sAbs (S.2 q)) 144 → (sMGp sh L S).1 = sSum (fun q => sAbs ((sMGp sh L S).2 q)) 144
  | [], _, _, h => h
  | q :: L, S, hL, h => by
    refine sMGp_sum L _ (fun x hx => hL x (List.mem_cons_of_mem _ hx)) ?_
    show S.1 - sRel (S.2 q) sh = sSum (fun j => sAbs (if j = q then S.2 q - sh else S.2 j)) 144
    have e : (fun j => sAbs (if j = q then S.2 q - sh else S.2 j)) = fun j => if j = q then sAbs (S.2 q - sh) else (fun j => sAbs (S.2 j)) j := funext fun j => by
      by_cases z : j = q
      · rw [if_pos z, if_pos z]
      · rw [if_neg z, if_neg z]
    rw [e, sSum_upd 144 (hL q List.mem_cons_self), ← h]
    unfold sRel
    generalize S.1 = x
    generalize sAbs (S.2 q) = y
    generalize sAbs (S.2 q - sh) = z
    grind
theorem sMGp_lk {sh : Int32} : ∀ (L : List Nat) (S : Int32 × (Nat → Int32)), L.Nodup → ∀ j, (sMGp sh L S).2 j = S.2 j - (if j ∈ L then sh else 0)
  | [], S, _, j => by
    show S.2 j = S.2 j - (if j ∈ [] then sh else 0)
    rw [if_neg (by simp), Int32.sub_zero]
  | q :: L, S, hL, j => by
    obtain ⟨h1, h2⟩ := List.nodup_cons.mp hL
    show (sMGp sh L (S.1 - sRel (S.2 q) sh, fun j => if j = q then S.2 q - sh else S.2 j)).2 j = _
    rw [sMGp_lk L _ h2 j]
    show (if j = q then S.2 q - sh else S.2 j) - (if j ∈ L then sh else 0) = _
    by_cases e : j = q
    · subst e
      rw [if_pos rfl, if_neg h1, if_pos List.mem_cons_self, Int32.sub_zero]
    · rw [if_neg e]
      by_cases e2 : j ∈ L
      · rw [if_pos e2, if_pos (List.mem_cons_of_mem _ e2)]
      · rw [if_neg e2, if_neg (fun z => (List.mem_cons.mp z).elim e e2)]
theorem sMG_ok {N s n : Nat} {ρ : zRS} (i : IVr N s n ρ) : ∀ m, m ≤ n → (sMG ρ s m).1 = sSum (fun q => sAbs ((sMG ρ s m).2 q)) 144 ∧ ∀ q, q < 144 → (sMG ρ s m).2 q = ρ 7 q * ρ 3 2 - sDk ρ s m q
  | 0, _ => by
    refine ⟨sSum_congr 144 fun q hq => ?_, fun q hq => ?_⟩
    · obtain ⟨k, h8, h9, h10⟩ := i.2.2.2.2.2.1
      obtain ⟨g, h11, h12⟩ := i.2.2.2.2.2.2.1 q hq
      show ρ 7 q * ρ 3 2 = sAbs (ρ 7 q * ρ 3 2)
      have hgk : g * k ≤ 9 * 9 := Nat.mul_le_mul h11 h9
      rw [h12, h10, pk_mul]
      unfold sAbs
      rw [if_pos (show (0 : Int32) ≤ nI (g * k) from nI_le (a := 0) (Nat.zero_le _) (by omega))]
    · show ρ 7 q * ρ 3 2 = ρ 7 q * ρ 3 2 - 0
      rw [Int32.sub_zero]
  | m + 1, hm => by
    obtain ⟨h1, h2⟩ := sMG_ok i m (by omega)
    obtain ⟨a, b, u, ha, hb, hab, hu, q4, q5, q6⟩ := i.1.2.2 m (by omega)
    have hp := i.1.1.pos
    obtain ⟨-, hnd, hlt⟩ := sPa_ok i.1.1 ha hb hab
    have ea : zn (ρ 4 m) = a := by rw [q4, zn_nI (by omega)]
    have eb : zn (ρ 5 m) = b := by rw [q5, zn_nI (by omega)]
    have e : sMG ρ s (m + 1) = sMGp (ρ 1 (zn (ρ 6 m))) (sPa s a b) (sMG ρ s m) := by rw [← ea, ← eb]; rfl
    rw [e]
    refine ⟨sMGp_sum _ _ hlt h1, fun q hq => ?_⟩
    rw [sMGp_lk _ _ hnd q, h2 q hq]
    have e2 : sDk ρ s (m + 1) q = sDk ρ s m q + (if q ∈ sPa s (zn (ρ 4 m)) (zn (ρ 5 m)) then ρ 1 (zn (ρ 6 m)) else 0) := rfl
    rw [e2, ea, eb]
    generalize sDk ρ s m q = x
    generalize ρ 7 q * ρ 3 2 = y
    generalize (if q ∈ sPa s a b then ρ 1 (zn (ρ 6 m)) else 0) = z
    grind
theorem sMG_misfit {N s n : Nat} {ρ : zRS} (i : IVr N s n ρ) : (sMG ρ s n).1 = sMisfit ρ := by
  obtain ⟨h1, h2⟩ := sMG_ok i n (Nat.le_refl n)
  rw [h1]
  exact sSum_congr 144 fun q hq => by
    rw [h2 q hq, ← i.2.2.2.2.2.2.2 q hq]
    rfl
