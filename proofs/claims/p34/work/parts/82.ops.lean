/-! EACH CHANGE OF A RING'S STATE: it stays reachable, and times and crossings stay counts. -/
theorem sSum_s (F : Nat → Int32) (n : Nat) : sSum F (n + 1) = sSum F n + F n := rfl
theorem lay_old {ρ : zRS} {s n a b u c : Nat} (h : c < n) : sLay ρ s n a b u 4 c = ρ 4 c ∧ sLay ρ s n a b u 5 c = ρ 5 c ∧ sLay ρ s n a b u 6 c = ρ 6 c := ⟨if_neg (by omega), if_neg (by omega), if_neg (by omega)⟩
theorem lay_new {ρ : zRS} {s n a b u : Nat} : sLay ρ s n a b u 4 n = nI a ∧ sLay ρ s n a b u 5 n = nI b ∧ sLay ρ s n a b u 6 n = nI u := ⟨if_pos rfl, if_pos rfl, if_pos rfl⟩
theorem lay_8 (ρ : zRS) (s n a b u q : Nat) : sLay ρ s n a b u 8 q = if q ∈ sPa s a b then ρ 8 q + 1 * ρ 1 u else ρ 8 q := by
  unfold sLay sPutR
  generalize sPa s a b = PL
  rfl
theorem off_8 (ρ : zRS) (s a b u q : Nat) : sOff ρ s a b u 8 q = if q ∈ sPa s a b then ρ 8 q + (-1) * ρ 1 u else ρ 8 q := by
  unfold sOff sPutR
  generalize sPa s a b = PL
  rfl
theorem sXs_lay {ρ : zRS} {s n a b u q : Nat} (ha : a < 24) (hb : b < 24) : sXs (sLay ρ s n a b u) s (n + 1) q = sInL (sPa s a b) 1 (sXs ρ s n) q := by
  unfold sXs
  rw [sSum_s, sSum_congr (H := fun c => if q ∈ sPa s (zn (ρ 4 c)) (zn (ρ 5 c)) then 1 else 0) n (fun c hc => by rw [(lay_old hc).1, (lay_old hc).2.1]), lay_new.1, lay_new.2.1, zn_nI (by omega), zn_nI (by omega)]
  unfold sInL
  generalize sPa s a b = PL
  by_cases e : q ∈ PL
  · rw [if_pos e, if_pos e]
  · rw [if_neg e, if_neg e, Int32.add_zero]
theorem sTm_lay {ρ : zRS} {N s n a b u p : Nat} (hv : RV ρ N s) (ha : a < 24) (hb : b < 24) : sTm (sLay ρ s n a b u) (n + 1) p = sPutT (sTm ρ n) (sPr (a * s) (b * s)) 1 p := by
  have hp := hv.pos
  have e0 : sStep (sLay ρ s n a b u) = sStep ρ := rfl
  unfold sTm
  rw [sSum_s, e0, sSum_congr (H := fun c => if sPr ((ρ 4 c).toNatClampNeg * (sStep ρ).toNatClampNeg) ((ρ 5 c).toNatClampNeg * (sStep ρ).toNatClampNeg) = p then 1 else 0) n (fun c hc => by rw [(lay_old hc).1, (lay_old hc).2.1]), lay_new.1, lay_new.2.1, hv.2.1, nI_clamp (by omega), nI_clamp (by omega), nI_clamp (by omega)]
  unfold sPutT
  by_cases e : p = sPr (a * s) (b * s)
  · rw [if_pos e.symm, if_pos e]
  · rw [if_neg (fun z => e z.symm), if_neg e, Int32.add_zero]
theorem sXs_off {ρ : zRS} {s n a b u q : Nat} (ha : a < 24) (hb : b < 24) (q4 : ρ 4 n = nI a) (q5 : ρ 5 n = nI b) : sXs (sOff ρ s a b u) s n q = sInL (sPa s a b) (-1) (sXs ρ s (n + 1)) q := by
  have e1 : sXs (sOff ρ s a b u) s n q = sXs ρ s n q := rfl
  have e2 : sXs ρ s (n + 1) q = sXs ρ s n q + (if q ∈ sPa s a b then 1 else 0) := by
    have : sXs ρ s (n + 1) q = sXs ρ s n q + (if q ∈ sPa s (zn (ρ 4 n)) (zn (ρ 5 n)) then 1 else 0) := rfl
    rw [this, q4, q5, zn_nI (by omega), zn_nI (by omega)]
  rw [e1]
  unfold sInL
  rw [e2]
  generalize sXs ρ s n q = x
  generalize sPa s a b = PL
  by_cases e : q ∈ PL
  · rw [if_pos e, if_pos e]; grind
  · rw [if_neg e, if_neg e, Int32.add_zero]
theorem sTm_off {ρ : zRS} {N s n a b u p : Nat} (hv : RV ρ N s) (ha : a < 24) (hb : b < 24) (q4 : ρ 4 n = nI a) (q5 : ρ 5 n = nI b) : sTm (sOff ρ s a b u) n p = sPutT (sTm ρ (n + 1)) (sPr (a * s) (b * s)) (-1) p := by
  have hp := hv.pos
  have e1 : sTm (sOff ρ s a b u) n p = sTm ρ n p := rfl
  have e2 : sTm ρ (n + 1) p = sTm ρ n p + (if sPr (a * s) (b * s) = p then 1 else 0) := by
    have : sTm ρ (n + 1) p = sTm ρ n p + (if sPr ((ρ 4 n).toNatClampNeg * (sStep ρ).toNatClampNeg) ((ρ 5 n).toNatClampNeg * (sStep ρ).toNatClampNeg) = p then 1 else 0) := rfl
    rw [this, q4, q5, hv.2.1, nI_clamp (by omega), nI_clamp (by omega), nI_clamp (by omega)]
  rw [e1]
  unfold sPutT
  rw [e2]
  generalize sTm ρ n p = x
  by_cases e : p = sPr (a * s) (b * s)
  · rw [if_pos e, if_pos e.symm]; grind
  · rw [if_neg e, if_neg (fun z => e z.symm), Int32.add_zero]
/-- only the numbers 1 .. 5 changed: at, now and the counts -/
theorem IVr_sc {N s n : Nat} {ρ : zRS} (i : IVr N s n ρ) (ψ : Nat → Int32) (e0 : ψ 0 = ρ 0 0) (e1 : ∃ a, a < N ∧ ψ 1 = nI a) (e2 : ∃ u, u < 3 ∧ ψ 2 = nI u) : IVr N s n (zset ρ 0 ψ) := by
  obtain ⟨h1, h2, -, -, h7, h8, h11, h12⟩ := i
  exact ⟨RW.sc h1 ψ e0, h2, e1, e2, h7, h8, h11, h12⟩
theorem IVr_inc {N s n j : Nat} {ρ : zRS} (i : IVr N s n ρ) (hj : 3 ≤ j) : IVr N s n (sInc ρ j) := by
  obtain ⟨a, h3, h4⟩ := i.2.2.1
  obtain ⟨u, h5, h6⟩ := i.2.2.2.1
  exact IVr_sc i _ (if_neg (by omega)) ⟨a, h3, (if_neg (by omega)).trans h4⟩ ⟨u, h5, (if_neg (by omega)).trans h6⟩
theorem IVr_knot {N s n u : Nat} {ρ : zRS} (i : IVr N s n ρ) (hu : u < 3) : IVr N s n (sKnotS ρ u) := by
  obtain ⟨a, h3, h4⟩ := i.2.2.1
  exact IVr_sc i _ rfl ⟨a, h3, h4⟩ ⟨u, hu, rfl⟩
theorem IVr_now {N s n u : Nat} {ρ : zRS} (i : IVr N s n ρ) (hu : u < 3) : IVr N s n (sNow ρ (nI u)) := by
  obtain ⟨a, h3, h4⟩ := i.2.2.1
  exact IVr_sc i _ rfl ⟨a, h3, h4⟩ ⟨u, hu, rfl⟩
theorem IVr_set {N s n e : Nat} {v : Int32} {ρ : zRS} (i : IVr N s n ρ) (h : e = 2 → ∃ k, 1 ≤ k ∧ k ≤ 9 ∧ v = nI k) : IVr N s n (sSetS ρ e v) := by
  obtain ⟨h1, h2, h3, h4, h7, h8, h11, h12⟩ := i
  refine ⟨h1, h2, h3, h4, h7, ?_, h11, h12⟩
  show ∃ k, 1 ≤ k ∧ k ≤ 9 ∧ (if 2 = e then v else ρ 3 2) = nI k
  by_cases z : 2 = e
  · rw [if_pos z]; exact h z.symm
  · rw [if_neg z]; exact h8
theorem IVr_grey {N s n : Nat} {φ : Nat → Int32} {ρ : zRS} (i : IVr N s n ρ) (h : ∀ q, q < 144 → ∃ g, g ≤ 9 ∧ φ q = nI g) : IVr N s n (zset ρ 7 φ) := by
  obtain ⟨h1, h2, h3, h4, h7, h8, h11, h12⟩ := i
  exact ⟨h1, h2, h3, h4, h7, h8, h, h12⟩
theorem sCh_0 {ρ : zRS} {u : Nat} : ∀ n, n ≤ 200 → (sCh ρ n (nI u) ≤ 0) → ∀ c, c < n → ¬ ρ 6 c = nI u := fun n hn h c hc e => by
  have key : ∀ m, m ≤ n → ∃ k, k ≤ m ∧ sCh ρ m (nI u) = nI k ∧ (c < m → 1 ≤ k) := by
    intro m
    induction m with
    | zero => exact fun _ => ⟨0, Nat.le_refl _, rfl, fun z => absurd z (Nat.not_lt_zero c)⟩
    | succ m ih =>
      intro hm
      obtain ⟨k, k1, k2, k3⟩ := ih (by omega)
      have e2 : sCh ρ (m + 1) (nI u) = sCh ρ m (nI u) + (if ρ 6 m = nI u then 1 else 0) := rfl
      rw [k2] at e2
      by_cases z : ρ 6 m = nI u
      · rw [if_pos z, nI_1] at e2
        exact ⟨k + 1, by omega, e2, fun _ => by omega⟩
      · rw [if_neg z, Int32.add_zero] at e2
        exact ⟨k, by omega, e2, fun w => k3 (by
          rcases Nat.lt_or_ge c m with y | y
          · exact y
          · exact absurd ((show m = c by omega) ▸ e) z)⟩
  obtain ⟨k, k1, k2, k3⟩ := key n (Nat.le_refl n)
  rw [k2, show (0 : Int32) = nI 0 from rfl, nI_leI (by omega) (by omega)] at h
  have := k3 hc
  omega
theorem IVr_spool {N s n u : Nat} {sh lf : Int32} {ρ : zRS} (i : IVr N s n ρ) (hu : u < 3) (hch : sCh ρ n (nI u) ≤ 0) (hs : ∃ k, 1 ≤ k ∧ k ≤ 9 ∧ sh = nI k) : IVr N s n (sSpoolS ρ u sh lf) := by
  obtain ⟨h1, h2, h3, h4, h7, h8, h11, h12⟩ := i
  refine ⟨h1, h2, h3, h4, fun w hw => ?_, h8, h11, fun q hq => (h12 q hq).trans (sSum_congr n fun c hc => ?_)⟩
  · show ∃ k, 1 ≤ k ∧ k ≤ 9 ∧ (if w = u then sh else ρ 1 w) = nI k
    by_cases z : w = u
    · rw [if_pos z]; exact hs
    · rw [if_neg z]; exact h7 w hw
  · obtain ⟨a, b, w, ha, hb, hab, hw, q4, q5, q6⟩ := h1.2.2 c hc
    have hne := sCh_0 n h2 hch c hc
    show (if q ∈ sPa s (zn (ρ 4 c)) (zn (ρ 5 c)) then ρ 1 (zn (ρ 6 c)) else 0) = (if q ∈ sPa s (zn (ρ 4 c)) (zn (ρ 5 c)) then (if zn (ρ 6 c) = u then sh else ρ 1 (zn (ρ 6 c))) else 0)
    rw [q6] at hne ⊢
    rw [zn_nI (by omega), if_neg (show ¬ w = u from fun z => hne (by rw [z]))]
theorem IVr_lay {N s n a b u : Nat} {ρ : zRS} (i : IVr N s n ρ) (hn : n < 200) (ha : a < N) (hb : b < N) (hab : a ≠ b) (hu : u < 3) (hnow : ρ 0 2 = nI u) : IVr N s (n + 1) (sLay ρ s n a b u) := by
  obtain ⟨h1, h2, h3, h4, h7, h8, h11, h12⟩ := i
  have hp := h1.1.pos
  refine ⟨RW.lay h1 h2 ha hb hab hu, by omega, ⟨b, hb, rfl⟩, ⟨u, hu, hnow⟩, h7, h8, h11, fun q hq => ?_⟩
  have e1 : sDk (sLay ρ s n a b u) s n q = sDk ρ s n q := sSum_congr n (fun c hc => by rw [(lay_old hc).1, (lay_old hc).2.1, (lay_old hc).2.2]; rfl)
  have e2 : sDk (sLay ρ s n a b u) s (n + 1) q = sDk (sLay ρ s n a b u) s n q + (if q ∈ sPa s (zn (sLay ρ s n a b u 4 n)) (zn (sLay ρ s n a b u 5 n)) then ρ 1 (zn (sLay ρ s n a b u 6 n)) else 0) := rfl
  rw [lay_8, h12 q hq, e2, e1, lay_new.1, lay_new.2.1, lay_new.2.2, zn_nI (by omega), zn_nI (by omega), zn_nI (by omega), Int32.one_mul]
  generalize sDk ρ s n q = x
  generalize sPa s a b = PL
  by_cases e : q ∈ PL
  · rw [if_pos e, if_pos e]
  · rw [if_neg e, if_neg e, Int32.add_zero]
theorem RW_off {N s n a b u : Nat} {ρ : zRS} (h : RW ρ N s (n + 1)) : RW (sOff ρ s a b u) N s n := ⟨h.1, by have := h.2.1; omega, fun c hc => h.2.2 c (by omega)⟩
theorem IVr_off {N s n a b u : Nat} {ρ : zRS} (i : IVr N s (n + 1) ρ) (ha : a < N) (hb : b < N) (hu : u < 3) (q4 : ρ 4 n = nI a) (q5 : ρ 5 n = nI b) (q6 : ρ 6 n = nI u) : IVr N s n (sOff ρ s a b u) := by
  obtain ⟨h1, h2, h3, h4, h7, h8, h11, h12⟩ := i
  have hp := h1.1.pos
  refine ⟨RW_off h1, by omega, ⟨a, ha, rfl⟩, ⟨u, hu, rfl⟩, h7, h8, h11, fun q hq => ?_⟩
  have e1 : sDk (sOff ρ s a b u) s n q = sDk ρ s n q := rfl
  have e2 : sDk ρ s (n + 1) q = sDk ρ s n q + (if q ∈ sPa s (zn (ρ 4 n)) (zn (ρ 5 n)) then ρ 1 (zn (ρ 6 n)) else 0) := rfl
  rw [off_8, h12 q hq, e1, e2, q4, q5, q6, zn_nI (by omega), zn_nI (by omega), zn_nI (by omega)]
  generalize sDk ρ s n q = x
  generalize sPa s a b = PL
  generalize ρ 1 u = y
  by_cases e : q ∈ PL
  · rw [if_pos e, if_pos e]; grind
  · rw [if_neg e, if_neg e, Int32.add_zero]
