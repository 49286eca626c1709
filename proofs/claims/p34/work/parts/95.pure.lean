/-! PURE FACTS: what a state that the law can reach keeps, change by change. -/
def Chn (ρ : zRS) (n : Nat) : Prop := (∀ c, c + 1 < n → ρ 4 (c + 1) = ρ 5 c) ∧ (0 < n → ρ 5 (n - 1) = ρ 0 1)
def G3 (N s W K B : Nat) (S : zST) : Prop := IVr N s S.2.1 S.1 ∧ Chn S.1 S.2.1 ∧ (∃ w, S.2.1 ≤ w ∧ w ≤ W ∧ S.1 0 3 = nI w) ∧ (∃ k, k ≤ K ∧ S.1 0 5 = nI k) ∧ (∀ u, u < 3 → ∃ l, l ≤ B ∧ S.1 2 u = nI l) ∧ ∀ i, i < 3 → ∃ h, 1 ≤ h ∧ h ≤ 9 ∧ S.1 3 i = nI h
theorem G3.wide {N s W K B W2 K2 B2 : Nat} {S : zST} (h : G3 N s W K B S) (hW : W ≤ W2) (hK : K ≤ K2) (hB : B ≤ B2) : G3 N s W2 K2 B2 S := by
  obtain ⟨h1, h2, ⟨w, h3, h4, h5⟩, ⟨k, h6, h7⟩, h8, h9⟩ := h
  exact ⟨h1, h2, ⟨w, h3, Nat.le_trans h4 hW, h5⟩, ⟨k, Nat.le_trans h6 hK, h7⟩, fun u hu => by
    obtain ⟨l, a, b⟩ := h8 u hu
    exact ⟨l, Nat.le_trans a hB, b⟩, h9⟩
def GS (c : Nat) (S : zST) : Prop := ∃ N s, G3 N s (1000 * c) (1000 * c) (100000 * c) S
theorem GS.mono {c d : Nat} {S : zST} (h : GS c S) (hc : c ≤ d) : GS d S := by
  obtain ⟨N, s, h⟩ := h
  exact ⟨N, s, h.wide (by omega) (by omega) (by omega)⟩
theorem GS.iv {c : Nat} {S : zST} (h : GS c S) : IVS S := by
  obtain ⟨N, s, h⟩ := h
  exact IVS.of h.1
theorem GS.g3 {c : Nat} {S : zST} (h : GS c S) : G3 (zN S) (zs S) (1000 * c) (1000 * c) (100000 * c) S := by
  obtain ⟨N, s, h⟩ := h
  rw [RV_zN h.1.1.1, RV_zs h.1.1.1]
  exact h
theorem G3.of {N s W K B n : Nat} {ρ ρ' : zRS} {xs tm xs' tm' : Nat → Int32} (h : G3 N s W K B (ρ, n, xs, tm)) (i : IVr N s n ρ') (e1 : ρ' 0 1 = ρ 0 1) (e3 : ρ' 0 3 = ρ 0 3) (e5 : ρ' 0 5 = ρ 0 5) (k2 : ∀ j, ρ' 2 j = ρ 2 j) (k3 : ∀ j, ρ' 3 j = ρ 3 j) (k4 : ∀ j, ρ' 4 j = ρ 4 j) (k5 : ∀ j, ρ' 5 j = ρ 5 j) : G3 N s W K B (ρ', n, xs', tm') := by
  obtain ⟨h1, ⟨c1, c2⟩, ⟨w, h3, h4, h5⟩, ⟨k, h6, h7⟩, h8, h9⟩ := h
  refine ⟨i, ⟨fun c hc => ?_, fun hn => ?_⟩, ⟨w, h3, h4, e3.trans h5⟩, ⟨k, h6, e5.trans h7⟩, fun u hu => ?_, fun j hj => ?_⟩
  · show ρ' 4 (c + 1) = ρ' 5 c
    rw [k4, k5]; exact c1 c hc
  · show ρ' 5 (n - 1) = ρ' 0 1
    rw [k5, e1]; exact c2 hn
  · obtain ⟨l, a, b⟩ := h8 u hu
    exact ⟨l, a, (k2 u).trans b⟩
  · obtain ⟨l, a, b, c⟩ := h9 j hj
    exact ⟨l, a, b, (k3 j).trans c⟩
section ZGS
variable {N s W K B : Nat} {S : zST}
theorem G3.want (h : G3 N s W K B S) {q : Nat} {v : Int32} (hv : ∃ g, g ≤ 9 ∧ v = nI g) : G3 N s W K B (sWantS S.1 q v, S.2.1, S.2.2.1, S.2.2.2) :=
  G3.of (ρ := S.1) h (IVr_grey h.1 (fun p hp => by
    unfold upd
    split
    · exact hv
    · exact h.1.2.2.2.2.2.2.1 p hp)) rfl rfl rfl (fun _ => rfl) (fun _ => rfl) (fun _ => rfl) (fun _ => rfl)
theorem G3.turn (h : G3 N s W K B S) {t : Nat} : G3 N s W K B (zset S.1 7 (sTurn t (S.1 7)), S.2.1, S.2.2.1, S.2.2.2) :=
  G3.of (ρ := S.1) h (IVr_grey h.1 (sTurn_g h.1.2.2.2.2.2.2.1)) rfl rfl rfl (fun _ => rfl) (fun _ => rfl) (fun _ => rfl) (fun _ => rfl)
theorem G3.inc4 (h : G3 N s W K B S) : G3 N s W K B (sInc S.1 4, S.2.1, S.2.2.1, S.2.2.2) :=
  G3.of (ρ := S.1) h (IVr_inc h.1 (by decide)) rfl rfl rfl (fun _ => rfl) (fun _ => rfl) (fun _ => rfl) (fun _ => rfl)
theorem G3.knot (h : G3 N s W K B S) {u : Nat} (hu : u < 3) : G3 N s W (K + 1) B (sKnotS S.1 u, S.2.1, S.2.2.1, S.2.2.2) := by
  obtain ⟨h1, ⟨c1, c2⟩, h3, ⟨k, h6, h7⟩, h8, h9⟩ := h
  refine ⟨IVr_knot h1 hu, ⟨c1, c2⟩, h3, ⟨k + 1, by omega, ?_⟩, h8, h9⟩
  show S.1 0 5 + 1 = nI (k + 1)
  rw [h7, nI_1]
theorem G3.set (h : G3 N s W K B S) {e : Nat} {v : Int32} (hv : ∃ k, 1 ≤ k ∧ k ≤ 9 ∧ v = nI k) : G3 N s W K B (sSetS S.1 e v, S.2.1, S.2.2.1, S.2.2.2) := by
  obtain ⟨h1, ⟨c1, c2⟩, h3, h6, h8, h9⟩ := h
  refine ⟨IVr_set h1 (fun _ => hv), ⟨c1, c2⟩, h3, h6, h8, fun i hi => ?_⟩
  show ∃ k, 1 ≤ k ∧ k ≤ 9 ∧ upd (S.1 3) e v i = nI k
  unfold upd
  split
  · exact hv
  · exact h9 i hi
theorem G3.spool (h : G3 N s W K B S) {u : Nat} (hu : u < 3) {sh lf : Int32} (hch : sCh S.1 S.2.1 (nI u) ≤ 0) (hs : ∃ k, 1 ≤ k ∧ k ≤ 9 ∧ sh = nI k) (hl : ∃ l, l ≤ B ∧ lf = nI l) : G3 N s W K B (sSpoolS S.1 u sh lf, S.2.1, S.2.2.1, S.2.2.2) := by
  obtain ⟨h1, ⟨c1, c2⟩, h3, h6, h8, h9⟩ := h
  refine ⟨IVr_spool h1 hu hch hs, ⟨c1, c2⟩, h3, h6, fun w hw => ?_, h9⟩
  show ∃ l, l ≤ B ∧ upd (S.1 2) u lf w = nI l
  unfold upd
  split
  · exact hl
  · exact h8 w hw
theorem sLn_nI (s a b : Nat) : ∃ d, d ≤ 240 ∧ sLn s a b = nI d := by
  refine ⟨_, ?_, rfl⟩
  have h := sRtF_le 240 0 (sQd (min (a * s) (b * s)) (max (a * s) (b * s)))
  unfold sLen sRt
  omega
theorem i32_m1 (x z : Int32) : x - 1 * z = x - z := by grind
theorem i32_p1 (x z : Int32) : x - (-1) * z = x + z := by grind
theorem G3.lay (h : G3 N s W K B S) {a b u : Nat} (hn : S.2.1 < 200) (ha : a < N) (hb : b < N) (hab : a ≠ b) (hu : u < 3) (hat : S.1 0 1 = nI a) (hnow : S.1 0 2 = nI u) (hB : B < 2 ^ 30) (hl : ¬ S.1 2 u < sLn s a b) : G3 N s (W + 1) K B (sWBn S.1 s S.2.1 S.2.2.1 S.2.2.2 a b u) := by
  obtain ⟨h1, ⟨c1, c2⟩, ⟨w, h3, h4, h5⟩, h6, h8, h9⟩ := h
  obtain ⟨ρ, n, xs, tm⟩ := S
  have i := IVr_inc (IVr_lay h1 hn ha hb hab hu hnow) (j := 3) (by decide)
  refine ⟨i, ⟨fun c hc => ?_, fun _ => ?_⟩, ⟨w + 1, ?_, by omega, ?_⟩, h6, fun v hv => ?_, h9⟩
  · show (if c + 1 = n then nI a else ρ 4 (c + 1)) = (if c = n then nI b else ρ 5 c)
    have hc : c + 1 < n + 1 := hc
    rw [if_neg (show ¬ c = n by omega)]
    by_cases e : c + 1 = n
    · rw [if_pos e]
      have z := c2 (show 0 < n by omega)
      have z : ρ 5 (n - 1) = ρ 0 1 := z
      rw [show n - 1 = c by omega] at z
      exact (z.trans hat).symm
    · rw [if_neg e]
      exact c1 c (show c + 1 < n by omega)
  · show (if n + 1 - 1 = n then nI b else ρ 5 (n + 1 - 1)) = nI b
    exact if_pos (by omega)
  · show n + 1 ≤ w + 1
    exact Nat.succ_le_succ h3
  · show ρ 0 3 + 1 = nI (w + 1)
    have h5 : ρ 0 3 = nI w := h5
    rw [h5, nI_1]
  · show ∃ l, l ≤ B ∧ (if v = u then ρ 2 v - 1 * sLn s a b else ρ 2 v) = nI l
    obtain ⟨l, g1, g2⟩ := h8 v hv
    have g2 : ρ 2 v = nI l := g2
    by_cases e : v = u
    · subst e
      obtain ⟨d, d1, d2⟩ := sLn_nI s a b
      have hl : ¬ ρ 2 v < sLn s a b := hl
      rw [g2, d2, nI_ltI (by omega) (by omega)] at hl
      rw [if_pos rfl, g2, d2, i32_m1, pk_sub (by omega)]
      exact ⟨l - d, by omega, rfl⟩
    · rw [if_neg e]
      exact ⟨l, g1, g2⟩
theorem G3.off {ρ : zRS} {n : Nat} {xs tm xs' tm' : Nat → Int32} (h : G3 N s W K B (ρ, n + 1, xs, tm)) {a b u : Nat} (ha : a < N) (hb : b < N) (hu : u < 3) (q4 : ρ 4 n = nI a) (q5 : ρ 5 n = nI b) (q6 : ρ 6 n = nI u) : G3 N s W K (B + 240) (sOff ρ s a b u, n, xs', tm') := by
  obtain ⟨h1, ⟨c1, c2⟩, ⟨w, h3, h4, h5⟩, h6, h8, h9⟩ := h
  refine ⟨IVr_off h1 ha hb hu q4 q5 q6, ⟨fun c hc => ?_, fun hn => ?_⟩, ⟨w, ?_, h4, h5⟩, h6, fun v hv => ?_, h9⟩
  · have hc : c + 1 < n := hc
    exact c1 c (show c + 1 < n + 1 by omega)
  · have hn : 0 < n := hn
    have z : ρ 4 (n - 1 + 1) = ρ 5 (n - 1) := c1 (n - 1) (show n - 1 + 1 < n + 1 by omega)
    rw [show n - 1 + 1 = n by omega] at z
    show ρ 5 (n - 1) = nI a
    rw [← z, q4]
  · have h3 : n + 1 ≤ w := h3
    show n ≤ w
    omega
  · show ∃ l, l ≤ B + 240 ∧ (if v = u then ρ 2 v - (-1) * sLn s a b else ρ 2 v) = nI l
    obtain ⟨l, g1, g2⟩ := h8 v hv
    have g2 : ρ 2 v = nI l := g2
    by_cases e : v = u
    · obtain ⟨d, d1, d2⟩ := sLn_nI s a b
      rw [if_pos e, g2, d2, i32_p1, nI_add]
      exact ⟨l + d, by omega, rfl⟩
    · rw [if_neg e]
      exact ⟨l, by omega, g2⟩
theorem G3.dn {ρ : zRS} {n : Nat} {xs tm xs2 tm2 : Nat → Int32} (h : G3 N s W K B (ρ, n, xs, tm)) (hN : N ≤ 24) : ∀ j, j ≤ n → G3 N s W K (B + 240 * j) ((sDn ρ xs2 tm2 s n j).1, n - j, xs, tm)
  | 0, _ => h
  | j + 1, hj => by
    have ih := G3.dn (xs2 := xs2) (tm2 := tm2) h hN j (by omega)
    obtain ⟨a, b, u, ha, hb, hab, hu, k4, k5, k6⟩ := h.1.1.2.2 (n - 1 - j) (show n - 1 - j < n by omega)
    have k4 : ρ 4 (n - 1 - j) = nI a := k4
    have k5 : ρ 5 (n - 1 - j) = nI b := k5
    have k6 : ρ 6 (n - 1 - j) = nI u := k6
    obtain ⟨c4, c5, c6, c0⟩ := sDn_ch ρ xs2 tm2 s n j
    rw [show n - j = n - 1 - j + 1 by omega] at ih
    rw [sDn_s0, k4, k5, k6, zn_nI (by omega), zn_nI (by omega), zn_nI (by omega), show n - (j + 1) = n - 1 - j by omega]
    exact (G3.off ih ha hb hu ((c4 _).trans k4) ((c5 _).trans k5) ((c6 _).trans k6)).wide (Nat.le_refl _) (Nat.le_refl _) (by omega)
theorem G3.nails {ρ : zRS} {n : Nat} {xs tm xs2 tm2 xs' tm' : Nat → Int32} (h : G3 N s W K B (ρ, n, xs, tm)) {v : Int32} (hst : ¬ sStepOf v = -1) : ∃ N2 s2, G3 N2 s2 W K (B + 48000) (sNailsS (sAllOff ρ xs2 tm2 s n) v, 0, xs', tm') := by
  have hN := h.1.1.1.N24
  obtain ⟨N2, s2, hi⟩ := IVr_nailsX (IVr_all h.1 hN xs2 tm2) hst
  have hn : n ≤ 200 := h.1.2.1
  obtain ⟨-, -, ⟨w, h3, h4, h5⟩, ⟨k, h6, h7⟩, h8, h9⟩ := G3.dn (xs2 := xs2) (tm2 := tm2) h hN n (Nat.le_refl n)
  exact ⟨N2, s2, hi, ⟨fun c hc => absurd hc (Nat.not_lt_zero _), fun h0 => absurd h0 (Nat.lt_irrefl 0)⟩, ⟨w, Nat.zero_le _, h4, h5⟩, ⟨k, h6, h7⟩, fun u hu => by
    obtain ⟨l, a, b⟩ := h8 u hu
    exact ⟨l, by omega, b⟩, h9⟩
theorem sBst_ref (rf gn ot ln : Nat → Int32) : ∀ n, (sBst rf gn ot ln n).1 = -1 ∨ ∃ b, b < n ∧ (sBst rf gn ot ln n).1 = nI b ∧ (sBst rf gn ot ln n).2.1 = gn b ∧ rf b = 0
  | 0 => Or.inl rfl
  | n + 1 => by
    unfold sBst
    split
    · rename_i h
      exact Or.inr ⟨n, by omega, rfl, rfl, h.1⟩
    · rcases sBst_ref rf gn ot ln n with h | ⟨b, h1, h2, h3, h4⟩
      · exact Or.inl h
      · exact Or.inr ⟨b, by omega, h2, h3, h4⟩
/-- the best of all: if any is allowed there is one, and none gains more -/
theorem sBst_max (rf gn ot ln : Nat → Int32) : ∀ n, n ≤ 24 → ∀ b, b < n → rf b = 0 → ¬ (sBst rf gn ot ln n).1 = -1 ∧ gn b ≤ (sBst rf gn ot ln n).2.1
  | 0, _, b, hb, _ => absurd hb (Nat.not_lt_zero _)
  | n + 1, hn, b, hb, hr => by
    have ih := sBst_max rf gn ot ln n (by omega)
    unfold sBst
    split
    · rename_i h
      refine ⟨nI_m1 (by omega), ?_⟩
      show gn b ≤ gn n
      rcases (by omega : b = n ∨ b < n) with e | e
      · subst e; exact Int32.le_refl _
      · obtain ⟨i1, i2⟩ := ih b e hr
        rcases h.2 with h2 | h2 | h2
        · exact absurd h2 i1
        · exact Int32.le_trans i2 (Int32.le_of_lt h2)
        · rw [h2.1]; exact i2
    · rename_i h
      rcases (by omega : b = n ∨ b < n) with e | e
      · subst e
        have h : ¬ ((sBst rf gn ot ln b).1 = -1 ∨ (sBst rf gn ot ln b).2.1 < gn b ∨ _) := fun z => h ⟨hr, z⟩
        refine ⟨fun z => h (Or.inl z), Int32.not_lt.mp (fun z => h (Or.inr (Or.inl z)))⟩
      · exact ih b e hr
theorem G3.wb1 (h : G3 N s W K B S) (hB : B < 2 ^ 30) {S' : zST} (e : sWBs N s S.1 S.2.1 S.2.2.1 S.2.2.2 = some S') : G3 N s (W + 1) K B S' := by
  obtain ⟨hw, hn2, ⟨a, ha, hat⟩, ⟨u, hu, hnow⟩, -⟩ := id h.1
  have hN := hw.1.N24
  have ea : zn (S.1 0 1) = a := by rw [hat, zn_nI (by omega)]
  have eu : zn (S.1 0 2) = u := by rw [hnow, zn_nI (by omega)]
  unfold sWBs at e
  rw [ea, eu] at e
  split at e
  · cases e
  · rename_i q
    cases e
    rcases sBst_ref (fun b => sRef N s (S.1 3 0) (S.1 3 1) (S.1 2 u) S.2.2.2 a b) (fun b => sGain S.1 s (S.1 1 u) a b) (fun b => S.2.2.2 (sPr (a * s) (b * s))) (fun b => sLn s a b) N with g | ⟨b, b1, b2, -, b4⟩
    · exact absurd (Or.inl g) q
    · have b2 : sBest S.1 N s S.2.2.2 a u = nI b := b2
      have b4 : sRef N s (S.1 3 0) (S.1 3 1) (S.1 2 u) S.2.2.2 a b = 0 := b4
      rw [b2, zn_nI (by omega)]
      have hab : a ≠ b := fun e => sRef_self _ _ _ _ _ _ _ (e ▸ b4)
      refine h.lay (Nat.not_le.mp (fun z => q (Or.inr (Or.inl z)))) ha b1 hab hu hat hnow hB (fun z => ?_)
      unfold sRef at b4
      rw [if_neg (fun z => hab z.symm)] at b4
      split at b4
      · exact absurd b4 (by decide)
      · split at b4
        · exact absurd b4 (by decide)
        · exact absurd b4 (by decide)
theorem G3.wb (hB : B < 2 ^ 30) : ∀ (j W : Nat) (S : zST), G3 N s W K B S → G3 N s (W + j) K B (sWB N s j S).1 ∧ (sWB N s j S).2 ≤ j
  | 0, W, S, h => ⟨h, Nat.le_refl 0⟩
  | j + 1, W, S, h => by
    cases e : sWBs N s S.1 S.2.1 S.2.2.1 S.2.2.2 with
    | none =>
      have z : sWB N s (j + 1) S = (S, 0) := sWB_no (ρ := S.1) (n := S.2.1) (xs := S.2.2.1) (tm := S.2.2.2) e
      rw [z]
      exact ⟨h.wide (by omega) (Nat.le_refl _) (Nat.le_refl _), Nat.zero_le _⟩
    | some S' =>
      have z : sWB N s (j + 1) S = ((sWB N s j S').1, (sWB N s j S').2 + 1) := sWB_so (ρ := S.1) (n := S.2.1) (xs := S.2.2.1) (tm := S.2.2.2) e
      rw [z]
      obtain ⟨i1, i2⟩ := G3.wb hB j (W + 1) S' (h.wb1 hB e)
      exact ⟨i1.wide (by omega) (Nat.le_refl _) (Nat.le_refl _), Nat.succ_le_succ i2⟩
theorem sMis_nI (i : IVr N s S.2.1 S.1) : ∀ n, n ≤ 144 → ∃ j, j ≤ 3000 * n ∧ sSum (fun q => sAbs (sLack S.1 q)) n = nI j
  | 0, _ => ⟨0, Nat.le_refl _, rfl⟩
  | n + 1, hn => by
    obtain ⟨j, h1, h2⟩ := sMis_nI i n (by omega)
    have hb := sLack_b i (q := n) (by omega)
    have e := zB_abs hb (by decide)
    have hb2 : -3000 ≤ (sLack S.1 n).toInt ∧ (sLack S.1 n).toInt ≤ 3000 := hb
    have h0 : ¬ sAbs (sLack S.1 n) < 0 := fun z => by
      rw [i32_lt0, e] at z
      split at z <;> omega
    obtain ⟨g, g1, g2⟩ := i32_nn h0
    rw [g2, nI_toInt g1] at e
    refine ⟨j + g, ?_, ?_⟩
    · split at e <;> omega
    · show sSum _ n + sAbs (sLack S.1 n) = _
      rw [h2, g2, nI_add]
theorem GS_new : GS 1 sFresh := by
  refine ⟨12, 2, IVr_new, ⟨fun c hc => absurd hc (Nat.not_lt_zero _), fun h0 => absurd h0 (Nat.lt_irrefl 0)⟩, ⟨0, Nat.le_refl _, by omega, rfl⟩, ⟨0, by omega, rfl⟩, fun u hu => ⟨2000, by omega, rfl⟩, fun i hi => ?_⟩
  rcases (by omega : i = 0 ∨ i = 1 ∨ i = 2) with e | e | e
  · subst e; exact ⟨1, by decide, by decide, rfl⟩
  · subst e; exact ⟨1, by decide, by decide, rfl⟩
  · subst e; exact ⟨2, by decide, by decide, rfl⟩
end ZGS
