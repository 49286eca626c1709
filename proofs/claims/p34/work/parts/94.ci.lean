/-! THE OBJECT WHOLE, CALL BY CALL. -/
theorem sRtF_le : ∀ (k r v : Nat), sRtF k r v ≤ r + k
  | 0, r, v => Nat.le_refl _
  | k + 1, r, v => by
    unfold sRtF
    split
    · have := sRtF_le k (r + 1) v; omega
    · omega
abbrev zTW : Nat → Prop := fun τ => τ ≤ 10 ∨ τ = 600 ∨ τ = 601 ∨ τ = 602 ∨ τ = 605 ∨ (100 ≤ τ ∧ τ ≤ 210) ∨ τ = 950
def sFresh : zST := (sNew, 0, fun _ => 0, fun _ => 0)
theorem i32_lt0 {z : Int32} : z < 0 ↔ z.toInt < 0 := by rw [Int32.lt_iff_toInt_lt]; rfl
theorem i32_le0 {z : Int32} : 0 ≤ z ↔ 0 ≤ z.toInt := by rw [Int32.le_iff_toInt_le]; rfl
theorem i32_eq0 {z : Int32} : z = 0 ↔ z.toInt = 0 := by rw [← Int32.toInt_inj]; rfl
theorem zB_add {c d : Int} {x y : Int32} (hx : zB c x) (hy : zB d y) (h : c + d ≤ 1000000) : (x + y).toInt = x.toInt + y.toInt := by
  obtain ⟨h1, h2⟩ := hx
  obtain ⟨h3, h4⟩ := hy
  rw [Int32.toInt_add]
  exact Int.bmod_eq_of_le (by omega) (by omega)
theorem zB_sub {c d : Int} {x y : Int32} (hx : zB c x) (hy : zB d y) (h : c + d ≤ 1000000) : (x - y).toInt = x.toInt - y.toInt := by
  obtain ⟨h1, h2⟩ := hx
  obtain ⟨h3, h4⟩ := hy
  rw [Int32.toInt_sub]
  exact Int.bmod_eq_of_le (by omega) (by omega)
theorem zB_abs {c : Int} {x : Int32} (hx : zB c x) (h : c ≤ 1000000) : (sAbs x).toInt = if 0 ≤ x.toInt then x.toInt else -x.toInt := by
  have h0 : zB 0 0 := ⟨by decide, by decide⟩
  unfold sAbs
  by_cases e : 0 ≤ x
  · rw [if_pos e, if_pos (i32_le0.mp e)]
  · rw [if_neg e, if_neg (fun z => e (i32_le0.mpr z)), zB_sub h0 hx (by omega)]
    have : (0 : Int32).toInt = 0 := by decide
    omega
theorem sRel_b {l sh : Int32} (hl : zB 3100 l) (h0 : 0 ≤ sh.toInt) (h9 : sh.toInt ≤ 9) : zB 9 (sRel l sh) := by
  have hs : zB 9 sh := ⟨by omega, h9⟩
  have e1 := zB_sub hl hs (by omega)
  obtain ⟨g1, g2⟩ := id hl
  have hd : zB 3109 (l - sh) := ⟨by rw [e1]; omega, by rw [e1]; omega⟩
  have a1 := zB_abs hl (by omega)
  have a2 := zB_abs hd (by omega)
  have b1 : zB 3100 (sAbs l) := ⟨by rw [a1]; split <;> omega, by rw [a1]; split <;> omega⟩
  have b2 : zB 3109 (sAbs (l - sh)) := ⟨by rw [a2]; split <;> omega, by rw [a2]; split <;> omega⟩
  have e := zB_sub b1 b2 (by omega)
  unfold sRel
  refine ⟨?_, ?_⟩ <;> rw [e, a1, a2, e1] <;> split <;> split <;> omega
theorem sGn_b {ρ : zRS} {sh : Int32} (h0 : 0 ≤ sh.toInt) (h9 : sh.toInt ≤ 9) : ∀ (L : List Nat) (z : Int32) (k : Nat), (∀ q ∈ L, zB 3100 (sLack ρ q)) → zB k z → k + 9 * L.length ≤ 10000 → zB ((k + 9 * L.length : Nat) : Int) (sGn ρ sh L z)
  | [], z, k, _, hz, _ => by
    show zB ((k + 9 * 0 : Nat) : Int) z
    rw [Nat.mul_zero, Nat.add_zero]
    exact hz
  | q :: L, z, k, hL, hz, hk => by
    have h1 := sRel_b (hL q List.mem_cons_self) h0 h9
    have e := zB_add hz h1 (by simp only [List.length_cons] at hk; omega)
    obtain ⟨g1, g2⟩ := id hz
    obtain ⟨g3, g4⟩ := id h1
    have h2 := sGn_b h0 h9 L (z + sRel (sLack ρ q) sh) (k + 9) (fun x hx => hL x (List.mem_cons_of_mem _ hx)) ⟨by rw [e]; omega, by rw [e]; omega⟩ (by simp only [List.length_cons] at hk; omega)
    have e2 : k + 9 * (q :: L).length = k + 9 + 9 * L.length := by simp only [List.length_cons]; omega
    rw [e2]
    exact h2
theorem sGain_b {ρ ρ' : zRS} {N s a b : Nat} {sh : Int32} (hv : RV ρ' N s) (ha : a < N) (hb : b < N) (hab : a ≠ b) (h0 : 0 ≤ sh.toInt) (h9 : sh.toInt ≤ 9) (hL : ∀ q, q < 144 → zB 3100 (sLack ρ q)) : zB 200 (sGain ρ s sh a b) := by
  obtain ⟨h1, -, h3⟩ := sPa_ok hv ha hb hab
  obtain ⟨g1, g2⟩ := sGn_b h0 h9 (sPa s a b) 0 0 (fun q hq => hL q (h3 q hq)) ⟨by decide, by decide⟩ (by omega)
  exact ⟨by unfold sGain; omega, by unfold sGain; omega⟩
/-! A STEP OF THE LAW: the wrapper's contract, then the reference's, and the head of the loop again. -/
theorem CI_ZP {f f1 : zHM} {m1 : Nat × Nat} {x k L r tr sc tx sl sv la co : Nat} {A : Nat → Nat} {gv gs : Nat → Option Nat} {st : Nat → zST} {ss : Nat → Option zST} {S S2 : zST} {ch : Nat → Nat} {M J : Nat × Nat} (q4 : RAny f 20 tr la) (q5 : ∃ g, f sc = some (601, .inl (0, 144, .inl g))) (q6 : TPic f 602 tx co L ch) (q8 : SLP f sl la gs ss) (q9 : M.1 + 11 * zcn gv 6 + 11 * zcn gs 2 ≤ J.1) (q10 : M.2 + 1339 * zcn gv 6 + 1339 * zcn gs 2 ≤ J.2) (h : ZP f x r tr sc tx sl sv k la A gv st M S S2 f1 m1) : CI f1 m1 x (sPK k) (sPS k st S) ss S2 L ch J ∧ zFr zTU f f1 := by
  obtain ⟨gv', π', M', h1, h2, h3, h4, h5, h6, h7⟩ := h
  obtain ⟨g, q5⟩ := q5
  have hn : ∀ τ, (10 < τ ∧ τ < 100) ∨ (210 < τ ∧ τ < 600) ∨ (600 < τ ∧ τ < 605) → ¬ zTU τ := fun τ q z => by
    rcases z with z | z | z | z | z <;> omega
  exact ⟨⟨r, tr, sc, tx, sl, sv, la, A, gv', π', gs, co, M', h5, h6, h2, q4.fr h7 (fun k hk => hn _ (by omega)), ⟨g, h7 _ _ _ q5 (hn _ (by omega))⟩, q6.fr h7 (hn _ (by omega)) (hn _ (by omega)), h1, q8.fr h7 (fun τ hτ => hn _ (by omega)), by omega, by omega⟩, h7⟩
theorem CI_ZPT {T : Nat → Prop} {f f1 : zHM} {m1 : Nat × Nat} {x k L r tr sc tx sl sv la co : Nat} {A : Nat → Nat} {gv gs : Nat → Option Nat} {st : Nat → zST} {ss : Nat → Option zST} {S S2 : zST} {ch : Nat → Nat} {M J : Nat × Nat} (q4 : RAny f 20 tr la) (q6 : TPic f1 602 tx co L ch) (q8 : SLP f sl la gs ss) (q9 : M.1 + 11 * zcn gv 6 + 11 * zcn gs 2 ≤ J.1) (q10 : M.2 + 1339 * zcn gv 6 + 1339 * zcn gs 2 ≤ J.2) (hT : ∀ τ, T τ → zTW τ) (h : ZPT T f x r tr sc tx sl sv k la A gv st M S S2 f1 m1) : CI f1 m1 x (sPK k) (sPS k st S) ss S2 L ch J ∧ zFr T f f1 := by
  obtain ⟨gv', π', M', h1, h2, h3, h4, h5, h6, h7, h8⟩ := h
  have hn : ∀ τ, (10 < τ ∧ τ < 100) ∨ τ = 604 → ¬ T τ := fun τ q z => by
    rcases hT τ z with z | z | z | z | z | z | z <;> omega
  exact ⟨⟨r, tr, sc, tx, sl, sv, la, A, gv', π', gs, co, M', h5, h6, h2, q4.fr h7 (fun k hk => hn _ (by omega)), h8, q6, h1, q8.fr h7 (fun τ hτ => hn _ (by omega)), by omega, by omega⟩, h7⟩
theorem zD.mono {w : Option Value} {P P9 : zHM → Nat × Nat → Prop} (h : ∀ f m, P f m → P9 f m) : ∀ o h9, zD w P o h9 → zD w P9 o h9 := fun o h9 q => ⟨q.1, h _ _ q.2⟩
/-! THE STEPS OF THE LAW, ONE BY ONE: the questions. -/
theorem i32_nn {v : Int32} (h : ¬ v < 0) : ∃ g, g < 2 ^ 31 ∧ v = nI g := by
  have a0 : (0 : Int) ≤ v.toInt := Int32.le_iff_toInt_le.mp (Int32.not_lt.mp h)
  have a1 := v.toInt_lt
  refine ⟨v.toInt.toNat, by omega, ?_⟩
  apply Int32.toInt_inj.mp
  show v.toInt = (Int32.ofNat v.toInt.toNat).toInt
  rw [Int32.toInt_ofNat_of_lt (by omega)]
  omega
theorem i32_lt {N : Nat} (hN : N < 2 ^ 31) {v c : Int32} (hc : c = nI N) (h : ¬ (v < 0 ∨ ¬ v < c)) : ∃ b, b < N ∧ v = nI b := by
  obtain ⟨g, h1, rfl⟩ := i32_nn (fun z => h (Or.inl z))
  have h2 : nI g < c := Classical.not_not.mp (fun z => h (Or.inr z))
  rw [hc, nI_ltI h1 hN] at h2
  exact ⟨g, h2, rfl⟩
theorem i32_le {N : Nat} (hN : N < 2 ^ 31) {v c : Int32} (hc : c = nI N) (h : ¬ (v < 0 ∨ ¬ v ≤ c)) : ∃ b, b ≤ N ∧ v = nI b := by
  obtain ⟨g, h1, rfl⟩ := i32_nn (fun z => h (Or.inl z))
  have h2 : nI g ≤ c := Classical.not_not.mp (fun z => h (Or.inr z))
  rw [hc, nI_leI h1 hN] at h2
  exact ⟨g, h2, rfl⟩
theorem RV.N24 {ρ : zRS} {N s : Nat} (h : RV ρ N s) : N ≤ 24 := by
  obtain ⟨-, -, h3, -⟩ := h
  rcases Nat.eq_zero_or_pos s with e | e
  · subst e; omega
  · have := Nat.le_mul_of_pos_right N e
    omega
theorem LNok.m1 {f : zHM} {m : Nat × Nat} {la : Nat} {M : Nat × Nat} (h : LNok f m la M) : m.1 ≤ M.1 := by
  obtain ⟨-, -, g, -, -, h1, h2⟩ := h
  omega
theorem LNok.m2 {f : zHM} {m : Nat × Nat} {la : Nat} {M : Nat × Nat} (h : LNok f m la M) : m.2 ≤ M.2 := by
  obtain ⟨-, -, g, -, -, h1, h2⟩ := h
  omega
/-- a call that only makes lines (or lays in the two spare places) -/
theorem CI_D {T : Nat → Prop} {f f1 : zHM} {m m1 : Nat × Nat} {x k L r tr sc tx sl sv la co : Nat} {A : Nat → Nat} {gv gs : Nat → Option Nat} {π : Nat → Nat} {st : Nat → zST} {ss : Nat → Option zST} {ρ : zRS} {n : Nat} {xs tm : Nat → Int32} {ch : Nat → Nat} {M J : Nat × Nat} (q1 : f x = some (600, .inr (3, zOb r tr sc tx sl sv k))) (q2 : RPic f 0 r la A ρ n xs tm) (q4 : RAny f1 20 tr la) (q5 : ∃ g, f1 sc = some (601, .inl (0, 144, .inl g))) (q6 : TPic f 602 tx co L ch) (q7 : SVP f sv la gv π k st) (q8 : SLP f sl la gs ss) (q9 : M.1 + 11 * zcn gv 6 + 11 * zcn gs 2 ≤ J.1) (q10 : M.2 + 1339 * zcn gv 6 + 1339 * zcn gs 2 ≤ J.2) (hL : LNok f1 m1 la M) (hF : zFr T f f1) (hT : ∀ τ, T τ → τ = 950 ∨ τ = 601 ∨ (20 ≤ τ ∧ τ ≤ 30)) : CI f1 m1 x k st ss (ρ, n, xs, tm) L ch J ∧ zFr T f f1 := by
  have hn : ∀ τ, τ < 20 ∨ (30 < τ ∧ τ < 601) ∨ (601 < τ ∧ τ < 950) → ¬ T τ := fun τ q z => by
    rcases hT τ z with z | z | z <;> omega
  exact ⟨⟨r, tr, sc, tx, sl, sv, la, A, gv, π, gs, co, M, hF _ _ _ q1 (hn _ (by omega)), q2.fr hF (fun k hk => hn _ (by omega)), hL, q4, q5, q6.fr hF (hn _ (by omega)) (hn _ (by omega)), q7.fr hF (fun τ hτ => hn _ (by omega)), q8.fr hF (fun τ hτ => hn _ (by omega)), q9, q10⟩, hF⟩
theorem CI_9 {f f1 : zHM} {m m1 : Nat × Nat} {x k L r tr sc tx sl sv la co : Nat} {A : Nat → Nat} {gv gs : Nat → Option Nat} {π : Nat → Nat} {st : Nat → zST} {ss : Nat → Option zST} {ρ : zRS} {n : Nat} {xs tm : Nat → Int32} {ch : Nat → Nat} {M J : Nat × Nat} (q1 : f x = some (600, .inr (3, zOb r tr sc tx sl sv k))) (q2 : RPic f 0 r la A ρ n xs tm) (q4 : RAny f 20 tr la) (q5 : ∃ g, f sc = some (601, .inl (0, 144, .inl g))) (q6 : TPic f 602 tx co L ch) (q7 : SVP f sv la gv π k st) (q8 : SLP f sl la gs ss) (q9 : M.1 + 11 * zcn gv 6 + 11 * zcn gs 2 ≤ J.1) (q10 : M.2 + 1339 * zcn gv 6 + 1339 * zcn gs 2 ≤ J.2) (hL : LNok f1 m1 la M) (hF : zFr zT9 f f1) : CI f1 m1 x k st ss (ρ, n, xs, tm) L ch J ∧ zFr zT9 f f1 := by
  obtain ⟨g, q5⟩ := q5
  exact CI_D (m := m) q1 q2 (q4.fr hF (fun k hk z => by have z : _ = 950 := z; omega)) ⟨g, hF _ _ _ q5 (fun z => by have z : 601 = 950 := z; omega)⟩ q6 q7 q8 q9 q10 hL hF (fun τ z => Or.inl z)
theorem i32_19 {v : Int32} (h1 : ¬ v < 1) (h2 : v ≤ 9) : ∃ k, 1 ≤ k ∧ k ≤ 9 ∧ v = nI k := by
  have a0 : (1 : Int) ≤ v.toInt := Int32.le_iff_toInt_le.mp (Int32.not_lt.mp h1)
  obtain ⟨e, he, rfl⟩ := i32_le (N := 9) (v := v) (c := 9) (by decide) rfl (fun z => by
    rcases z with z | z
    · have a1 : v.toInt < 0 := Int32.lt_iff_toInt_lt.mp z
      omega
    · exact z h2)
  refine ⟨e, ?_, he, rfl⟩
  rcases Nat.eq_zero_or_pos e with z | z
  · subst z
    exact absurd h1 (by decide)
  · exact z
theorem zTVW : ∀ τ, zTV τ → zTW τ := fun τ h => by
  rcases h with h | h | h | h | h | h
  · exact Or.inl h
  · exact Or.inr (Or.inl h)
  · exact Or.inr (Or.inr (Or.inl h))
  · exact Or.inr (Or.inr (Or.inr (Or.inr (Or.inl h))))
  · exact Or.inr (Or.inr (Or.inr (Or.inr (Or.inr (Or.inl h)))))
  · exact Or.inr (Or.inr (Or.inr (Or.inr (Or.inr (Or.inr h)))))
theorem CI_ZPV {f f1 : zHM} {m1 : Nat × Nat} {x k L r tr sc tx sl sv la co : Nat} {A : Nat → Nat} {gv gs : Nat → Option Nat} {st : Nat → zST} {ss : Nat → Option zST} {S S2 : zST} {ch : Nat → Nat} {M J : Nat × Nat} (q4 : RAny f 20 tr la) (q6 : TPic f 602 tx co L ch) (q8 : SLP f sl la gs ss) (q9 : M.1 + 11 * zcn gv 6 + 11 * zcn gs 2 ≤ J.1) (q10 : M.2 + 1339 * zcn gv 6 + 1339 * zcn gs 2 ≤ J.2) (h : ZPT zTV f x r tr sc tx sl sv k la A gv st M S S2 f1 m1) : CI f1 m1 x (sPK k) (sPS k st S) ss S2 L ch J ∧ zFr zTV f f1 := by
  obtain ⟨gv', π', M', h1, h2, h3, h4, h5, h6, h7, h8⟩ := id h
  exact CI_ZPT q4 (q6.fr h7 (fun z => by rcases z with z | z | z | z | z | z <;> omega) (fun z => by rcases z with z | z | z | z | z | z <;> omega)) q8 q9 q10 zTVW h
theorem nine_sub : ∀ e, e < 10 → (9 : Int32) - nI e = nI (9 - e) := by decide +kernel
theorem sTurn_g {w : Nat} {g : Nat → Int32} (h : ∀ q, q < 144 → ∃ e, e ≤ 9 ∧ g q = nI e) : ∀ q, q < 144 → ∃ e, e ≤ 9 ∧ sTurn w g q = nI e := fun q hq => by
  obtain ⟨e, he, hee⟩ := h _ (sTs_lt (w := w) hq)
  unfold sTurn sTv
  split
  · exact ⟨9 - e, by omega, by rw [hee]; exact nine_sub e (by omega)⟩
  · exact ⟨e, he, hee⟩
theorem CI_K {f f1 : zHM} {m m1 : Nat × Nat} {x k L r tr sc tx sl sv la co : Nat} {A : Nat → Nat} {gv gs : Nat → Option Nat} {π : Nat → Nat} {st : Nat → zST} {ss ss2 : Nat → Option zST} {ρ : zRS} {n : Nat} {xs tm : Nat → Int32} {ch : Nat → Nat} {M J : Nat × Nat} (q1 : f x = some (600, .inr (3, zOb r tr sc tx sl sv k))) (q2 : RPic f 0 r la A ρ n xs tm) (q4 : RAny f 20 tr la) (q5 : ∃ g, f sc = some (601, .inl (0, 144, .inl g))) (q6 : TPic f 602 tx co L ch) (q7 : SVP f sv la gv π k st) (q9 : M.1 + 11 * zcn gv 6 + 11 * zcn gs 2 ≤ J.1) (q10 : M.2 + 1339 * zcn gv 6 + 1339 * zcn gs 2 ≤ J.2) (h : ∃ gs' M', SLP f1 sl la gs' ss2 ∧ LNok f1 m1 la M' ∧ M'.1 + 11 * zcn gs' 2 = M.1 + 11 * zcn gs 2 ∧ M'.2 + 1339 * zcn gs' 2 = M.2 + 1339 * zcn gs 2 ∧ zFr zTK f f1) : CI f1 m1 x k st ss2 (ρ, n, xs, tm) L ch J ∧ zFr zTK f f1 := by
  obtain ⟨gs', M', h1, h2, h3, h4, hF⟩ := h
  obtain ⟨g, q5⟩ := q5
  have hn : ∀ τ, τ < 40 ∨ (70 < τ ∧ τ < 604) ∨ 604 < τ → ¬ zTK τ := fun τ q z => by
    rcases z with z | z <;> omega
  exact ⟨⟨r, tr, sc, tx, sl, sv, la, A, gv, π, gs', co, M', hF _ _ _ q1 (hn _ (by omega)), q2.fr hF (fun k hk => hn _ (by omega)), h2, q4.fr hF (fun k hk => hn _ (by omega)), ⟨g, hF _ _ _ q5 (hn _ (by omega))⟩, q6.fr hF (hn _ (by omega)) (hn _ (by omega)), q7.fr hF (fun τ hτ => hn _ (by omega)), h1, by omega, by omega⟩, hF⟩
theorem sDk_0 (ρ : zRS) (s q : Nat) : sDk ρ s 0 q = 0 := by
  unfold sDk
  rfl
theorem sDn_s0 (ρ : zRS) (xs tm : Nat → Int32) (s n j : Nat) : (sDn ρ xs tm s n (j + 1)).1 = sOff (sDn ρ xs tm s n j).1 s (zn (ρ 4 (n - 1 - j))) (zn (ρ 5 (n - 1 - j))) (zn (ρ 6 (n - 1 - j))) := rfl
theorem IVr_dn {ρ : zRS} {N s n : Nat} (i : IVr N s n ρ) (hN : N ≤ 24) (xs tm : Nat → Int32) (j : Nat) (hj : j ≤ n) : IVr N s (n - j) (sDn ρ xs tm s n j).1 := by
  induction j with
  | zero => exact i
  | succ j ih =>
    obtain ⟨a, b, u, ha, hb, hab, hu, k4, k5, k6⟩ := i.1.2.2 (n - 1 - j) (by omega)
    have ih := ih (by omega)
    obtain ⟨c4, c5, c6, c0⟩ := sDn_ch ρ xs tm s n j
    rw [show n - j = n - 1 - j + 1 by omega] at ih
    rw [sDn_s0, k4, k5, k6, zn_nI (by omega), zn_nI (by omega), zn_nI (by omega), show n - (j + 1) = n - 1 - j by omega]
    exact IVr_off ih ha hb hu ((c4 _).trans k4) ((c5 _).trans k5) ((c6 _).trans k6)
theorem IVr_all {ρ : zRS} {N s n : Nat} (i : IVr N s n ρ) (hN : N ≤ 24) (xs tm : Nat → Int32) : IVr N s 0 (sAllOff ρ xs tm s n) := by
  have h := IVr_dn i hN xs tm n (Nat.le_refl n)
  rw [Nat.sub_self] at h
  unfold sAllOff
  refine IVr_sc h _ rfl ?_ ?_
  · exact h.2.2.1
  · exact i.2.2.2.1
theorem IVr_nails {ρ : zRS} {N s N2 s2 : Nat} {x : Int32} (i : IVr N s 0 ρ) (hx : x = nI N2) (hs : 24 / x = nI s2) (h24 : N2 * s2 = 24) (h4 : 4 ≤ N2) : IVr N2 s2 0 (sNailsS ρ x) := by
  obtain ⟨h1, h2, h3, h5, h7, h8, h11, h12⟩ := i
  have e0 : sNailsS ρ x 0 0 = x := rfl
  have es : sStep (sNailsS ρ x) = nI s2 := by
    unfold sStep
    rw [e0]
    exact hs
  have e8 : ∀ q, sNailsS ρ x 8 q = ρ 8 q := fun _ => rfl
  exact ⟨⟨⟨e0.trans hx, es, h24, h4⟩, by omega, fun c hc => by omega⟩, h2, ⟨0, by omega, rfl⟩, h5, h7, h8, h11, fun q hq => by rw [e8, h12 q hq, sDk_0, sDk_0]⟩
theorem IVr_nailsX {ρ : zRS} {N s : Nat} {x : Int32} (i : IVr N s 0 ρ) (h : ¬ sStepOf x = -1) : ∃ N2 s2, IVr N2 s2 0 (sNailsS ρ x) := by
  unfold sStepOf at h
  by_cases h4 : x = 4
  · exact ⟨4, 6, IVr_nails i h4 (by subst h4; decide) (by decide) (by decide)⟩
  by_cases h6 : x = 6
  · exact ⟨6, 4, IVr_nails i h6 (by subst h6; decide) (by decide) (by decide)⟩
  by_cases h8 : x = 8
  · exact ⟨8, 3, IVr_nails i h8 (by subst h8; decide) (by decide) (by decide)⟩
  by_cases h12 : x = 12
  · exact ⟨12, 2, IVr_nails i h12 (by subst h12; decide) (by decide) (by decide)⟩
  by_cases h24 : x = 24
  · exact ⟨24, 1, IVr_nails i h24 (by subst h24; decide) (by decide) (by decide)⟩
  exact absurd (by rw [if_neg h4, if_neg h6, if_neg h8, if_neg h12, if_neg h24]) h
theorem IVr_new : IVr 12 2 0 sNew := by
  refine ⟨⟨⟨rfl, by decide, by decide, by decide⟩, by decide, fun c hc => by omega⟩, by decide, ⟨0, by decide, rfl⟩, ⟨0, by decide, rfl⟩, fun u hu => ?_, ⟨2, by decide, by decide, rfl⟩, fun q hq => ⟨0, by decide, rfl⟩, fun q hq => (sDk_0 _ _ _).symm⟩
  rcases (by omega : u = 0 ∨ u = 1 ∨ u = 2) with e | e | e
  · subst e; exact ⟨1, by decide, by decide, rfl⟩
  · subst e; exact ⟨2, by decide, by decide, rfl⟩
  · subst e; exact ⟨3, by decide, by decide, rfl⟩
theorem zcn_none : ∀ n, zcn (fun _ => none) n = n
  | 0 => rfl
  | n + 1 => by
    unfold zcn
    rw [zcn_none n, if_pos rfl]
    try omega
def zN (S : zST) : Nat := zn (S.1 0 0)
def zs (S : zST) : Nat := zn (sStep S.1)
/-- the state's ring can be reached -/
def IVS (S : zST) : Prop := IVr (zN S) (zs S) S.2.1 S.1
theorem RV_zN {S : zST} {N s : Nat} (h : RV S.1 N s) : zN S = N := by
  have h1 := h.N24
  unfold zN
  rw [h.1, zn_nI (by omega)]
theorem RV_zs {S : zST} {N s : Nat} (h : RV S.1 N s) : zs S = s := by
  have h1 := h.pos
  unfold zs
  rw [h.2.1, zn_nI (by omega)]
theorem IVS.of {S : zST} {N s : Nat} (h : IVr N s S.2.1 S.1) : IVS S := by
  unfold IVS
  rw [RV_zN h.1.1, RV_zs h.1.1]
  exact h
theorem CI.x {f : zHM} {m : Nat × Nat} {x k L : Nat} {st : Nat → zST} {ss : Nat → Option zST} {S : zST} {ch : Nat → Nat} {J : Nat × Nat} (h : CI f m x k st ss S L ch J) : ∃ vs, f x = some (600, .inr (3, vs)) := by
  obtain ⟨r, tr, sc, tx, sl, sv, la, A, gv, π, gs, co, M, q1, q⟩ := h
  exact ⟨_, q1⟩
abbrev CP (x k : Nat) (st : Nat → zST) (ss : Nat → Option zST) (S : zST) (L : Nat) (ch : Nat → Nat) (J : Nat × Nat) : zHM → Nat × Nat → Prop := fun f m => CI f m x k st ss S L ch J
theorem ci_nailOf {G : zW} {f : zHM} {m : Nat × Nat} {x k L : Nat} {st : Nat → zST} {ss : Nat → Option zST} {S : zST} {ch : Nat → Nat} {J : Nat × Nat} (h : CI f m x k st ss S L ch J) (i : IVS S) {b w : Nat} (hb : b < zN S) (hw : w ≤ 3) : zM G yX3_nailOf cX3_nailOf 3 (some .int) 7 [.ref x, .int (nI b), .int (nI w)] (f, m) (zS (.int (sNailOf S.1 (zs S) S.2.1 b w)) f m) := by
  obtain ⟨r, tr, sc, tx, sl, sv, la, A, gv, π, gs, co, M, q1, q2, q3, q4, q5, q6, q7, q8, q9, q10⟩ := h
  obtain ⟨g, q5⟩ := q5
  exact c_nailOf q1 q2 i.1.1 (Nat.le_succ_of_le i.2.1) hb hw
theorem ci_setting {G : zW} {f : zHM} {m : Nat × Nat} {x k L : Nat} {st : Nat → zST} {ss : Nat → Option zST} {S : zST} {ch : Nat → Nat} {J : Nat × Nat} (h : CI f m x k st ss S L ch J) {u : Nat} (hu : u < 3) : zM G yX3_setting cX3_setting 2 (some .int) 7 [.ref x, .int (nI u)] (f, m) (zS (.int (S.1 3 u)) f m) := by
  obtain ⟨r, tr, sc, tx, sl, sv, la, A, gv, π, gs, co, M, q1, q2, q3, q4, q5, q6, q7, q8, q9, q10⟩ := h
  obtain ⟨g, q5⟩ := q5
  exact c_setting q1 q2 hu
theorem ci_wound {G : zW} {f : zHM} {m : Nat × Nat} {x k L : Nat} {st : Nat → zST} {ss : Nat → Option zST} {S : zST} {ch : Nat → Nat} {J : Nat × Nat} (h : CI f m x k st ss S L ch J) (i : IVS S) {g w : Nat} (hg : g < 2 ^ 31) (hw : w ≤ 2) : zM G yX3_wound cX3_wound 4 (some .int) 7 [.ref x, .int (nI g), .int (nI w)] (f, m) (zS (.int (sWound S.1 S.2.1 g w)) f m) := by
  obtain ⟨r, tr, sc, tx, sl, sv, la, A, gv, π, gs, co, M, q1, q2, q3, q4, q5, q6, q7, q8, q9, q10⟩ := h
  obtain ⟨g, q5⟩ := q5
  exact c_wound q1 q2 (Nat.le_succ_of_le i.2.1) hg hw
theorem ci_square {G : zW} {f : zHM} {m : Nat × Nat} {x k L : Nat} {st : Nat → zST} {ss : Nat → Option zST} {S : zST} {ch : Nat → Nat} {J : Nat × Nat} (h : CI f m x k st ss S L ch J) {a b w : Nat} (ha : a < 12) (hb : b < 12) (hw : w ≤ 3) : zM G yX3_square cX3_square 5 (some .int) 7 [.ref x, .int (nI a), .int (nI b), .int (nI w)] (f, m) (zS (.int (sSquare S.1 S.2.2.1 (b * 12 + a) w)) f m) := by
  obtain ⟨r, tr, sc, tx, sl, sv, la, A, gv, π, gs, co, M, q1, q2, q3, q4, q5, q6, q7, q8, q9, q10⟩ := h
  obtain ⟨g, q5⟩ := q5
  exact c_square q1 q2 ha hb hw
theorem ci_palest {G : zW} {f : zHM} {m : Nat × Nat} {x k L : Nat} {st : Nat → zST} {ss : Nat → Option zST} {S : zST} {ch : Nat → Nat} {J : Nat × Nat} (h : CI f m x k st ss S L ch J)  : zM G yX3_palest cX3_palest 5 (some .int) 7 [.ref x] (f, m) (zS (.int ((sPal S.1 144).1)) f m) := by
  obtain ⟨r, tr, sc, tx, sl, sv, la, A, gv, π, gs, co, M, q1, q2, q3, q4, q5, q6, q7, q8, q9, q10⟩ := h
  obtain ⟨g, q5⟩ := q5
  exact c_palest q1 q2
theorem ci_spoolOf {G : zW} {f : zHM} {m : Nat × Nat} {x k L : Nat} {st : Nat → zST} {ss : Nat → Option zST} {S : zST} {ch : Nat → Nat} {J : Nat × Nat} (h : CI f m x k st ss S L ch J) (i : IVS S) {u w : Nat} (hu : u < 3) (hw : w ≤ 4) : zM G yX3_spoolOf cX3_spoolOf 3 (some .int) 7 [.ref x, .int (nI u), .int (nI w)] (f, m) (zD (some (.int (sSpoolOf S.1 (zs S) S.2.1 u w))) (CP x k st ss S L ch J)) := by
  obtain ⟨r, tr, sc, tx, sl, sv, la, A, gv, π, gs, co, M, q1, q2, q3, q4, q5, q6, q7, q8, q9, q10⟩ := h
  obtain ⟨g, q5⟩ := q5
  exact zM.mono (zD.mono (fun f1 m1 h1 => (CI_9 (m := m) q1 q2 q4 ⟨g, q5⟩ q6 q7 q8 q9 q10 h1.1 h1.2).1)) (c_spoolOf q1 q2 i.1 q3 hu hw)
theorem ci_whyNot {G : zW} {f : zHM} {m : Nat × Nat} {x k L : Nat} {st : Nat → zST} {ss : Nat → Option zST} {S : zST} {ch : Nat → Nat} {J : Nat × Nat} (h : CI f m x k st ss S L ch J) (i : IVS S) {a u : Nat} (ha : a < zN S) (hu : u < 3) (hat : S.1 0 1 = nI a) (hnow : S.1 0 2 = nI u) {b : Nat} (hb : b < zN S) : zM G yX3_whyNot cX3_whyNot 2 (some .int) 7 [.ref x, .int (nI b)] (f, m) (zD (some (.int (sRef (zN S) (zs S) (S.1 3 0) (S.1 3 1) (S.1 2 u) S.2.2.2 a b))) (CP x k st ss S L ch J)) := by
  obtain ⟨r, tr, sc, tx, sl, sv, la, A, gv, π, gs, co, M, q1, q2, q3, q4, q5, q6, q7, q8, q9, q10⟩ := h
  obtain ⟨g, q5⟩ := q5
  exact zM.mono (zD.mono (fun f1 m1 h1 => (CI_9 (m := m) q1 q2 q4 ⟨g, q5⟩ q6 q7 q8 q9 q10 h1.1 h1.2).1)) (c_whyNot q1 q2 i.1.1 q3 ha hu hat hnow hb)
theorem ci_gain {G : zW} {f : zHM} {m : Nat × Nat} {x k L : Nat} {st : Nat → zST} {ss : Nat → Option zST} {S : zST} {ch : Nat → Nat} {J : Nat × Nat} (h : CI f m x k st ss S L ch J) (i : IVS S) {a u : Nat} (ha : a < zN S) (hu : u < 3) (hat : S.1 0 1 = nI a) (hnow : S.1 0 2 = nI u) {b : Nat} (hb : b < zN S) : zM G yX3_gain cX3_gain 2 (some .int) 7 [.ref x, .int (nI b)] (f, m) (zD (some (.int (sGain9 S.1 (zs S) u a b))) (CP x k st ss S L ch J)) := by
  obtain ⟨r, tr, sc, tx, sl, sv, la, A, gv, π, gs, co, M, q1, q2, q3, q4, q5, q6, q7, q8, q9, q10⟩ := h
  obtain ⟨g, q5⟩ := q5
  exact zM.mono (zD.mono (fun f1 m1 h1 => (CI_9 (m := m) q1 q2 q4 ⟨g, q5⟩ q6 q7 q8 q9 q10 h1.1 h1.2).1)) (c_gain q1 q2 i.1.1 q3 ha hu hat hnow hb)
theorem ci_best {G : zW} {f : zHM} {m : Nat × Nat} {x k L : Nat} {st : Nat → zST} {ss : Nat → Option zST} {S : zST} {ch : Nat → Nat} {J : Nat × Nat} (h : CI f m x k st ss S L ch J) (i : IVS S) {a u : Nat} (ha : a < zN S) (hu : u < 3) (hat : S.1 0 1 = nI a) (hnow : S.1 0 2 = nI u) : zM G yX3_best cX3_best 1 (some .int) 6 [.ref x] (f, m) (zD (some (.int (sBest S.1 (zN S) (zs S) S.2.2.2 a u))) (CP x k st ss S L ch J)) := by
  obtain ⟨r, tr, sc, tx, sl, sv, la, A, gv, π, gs, co, M, q1, q2, q3, q4, q5, q6, q7, q8, q9, q10⟩ := h
  obtain ⟨g, q5⟩ := q5
  exact zM.mono (zD.mono (fun f1 m1 h1 => (CI_9 (m := m) q1 q2 q4 ⟨g, q5⟩ q6 q7 q8 q9 q10 h1.1 h1.2).1)) (c_best q1 q2 i.1.1 q3 ha hu hat hnow)
theorem ci_count {G : zW} {f : zHM} {m : Nat × Nat} {x k L : Nat} {st : Nat → zST} {ss : Nat → Option zST} {S : zST} {ch : Nat → Nat} {J : Nat × Nat} (h : CI f m x k st ss S L ch J) (i : IVS S) {w : Nat} (hw : w ≤ 12) : zM G yX3_count cX3_count 2 (some .int) 7 [.ref x, .int (nI w)] (f, m) (zD (some (.int (sCount S.1 (zs S) S.2.1 k w))) (CP x k st ss S L ch J)) := by
  obtain ⟨r, tr, sc, tx, sl, sv, la, A, gv, π, gs, co, M, q1, q2, q3, q4, q5, q6, q7, q8, q9, q10⟩ := h
  obtain ⟨g, q5⟩ := q5
  exact zM.mono (zD.mono (fun f1 m1 h1 => (CI_D (m := m) q1 q2 (q4.fr h1.2.2 (fun k hk z => by rcases z with z | z <;> omega)) h1.1 q6 q7 q8 q9 q10 h1.2.1 h1.2.2 (fun τ z => z.elim Or.inl (fun z => Or.inr (Or.inl z)))).1)) (c_count q1 q2 i.1 q3 q5 hw)
theorem ci_want {G : zW} {f : zHM} {m : Nat × Nat} {x k L : Nat} {st : Nat → zST} {ss : Nat → Option zST} {S : zST} {ch : Nat → Nat} {J : Nat × Nat} (h : CI f m x k st ss S L ch J) (i : IVS S) (j1 : J.1 ≤ 50000) (j2 : J.2 ≤ 399990) {a b : Nat} (ha : a < 12) (hb : b < 12) {v : Int32} (h0 : ¬ v < 0) (h9 : v ≤ 9) : zM G yX3_want cX3_want 6 (some .int) 7 [.ref x, .int (nI a), .int (nI b), .int v] (f, m) (zD (some (.int (S.1 7 (b * 12 + a)))) (CP x (sPK k) (sPS k st S) ss ((sWantS S.1 (b * 12 + a) v, S.2.1, S.2.2.1, S.2.2.2)) L ch J)) := by
  obtain ⟨r, tr, sc, tx, sl, sv, la, A, gv, π, gs, co, M, q1, q2, q3, q4, q5, q6, q7, q8, q9, q10⟩ := h
  obtain ⟨g, q5⟩ := q5
  have hB : M.1 + 11 * zcn gv 6 ≤ 50000 ∧ M.2 + 1339 * zcn gv 6 ≤ 399990 := ⟨by omega, by omega⟩
  exact zM.mono (zD.mono (fun f1 m1 h1 => (CI_ZP q4 ⟨g, q5⟩ q6 q8 q9 q10 h1).1)) (c_want q1 q2 (Nat.le_succ_of_le i.2.1) q3 q7 hB ha hb h0 h9)
theorem ci_knot {G : zW} {f : zHM} {m : Nat × Nat} {x k L : Nat} {st : Nat → zST} {ss : Nat → Option zST} {S : zST} {ch : Nat → Nat} {J : Nat × Nat} (h : CI f m x k st ss S L ch J) (i : IVS S) (j1 : J.1 ≤ 50000) (j2 : J.2 ≤ 399990) {u : Nat} (hu : u < 3) (hne : ¬ nI u = S.1 0 2) : zM G yX3_knot cX3_knot 2 (some .int) 7 [.ref x, .int (nI u)] (f, m) (zD (some (.int (S.1 0 5 + 1))) (CP x (sPK k) (sPS k st S) ss ((sKnotS S.1 u, S.2.1, S.2.2.1, S.2.2.2)) L ch J)) := by
  obtain ⟨r, tr, sc, tx, sl, sv, la, A, gv, π, gs, co, M, q1, q2, q3, q4, q5, q6, q7, q8, q9, q10⟩ := h
  obtain ⟨g, q5⟩ := q5
  have hB : M.1 + 11 * zcn gv 6 ≤ 50000 ∧ M.2 + 1339 * zcn gv 6 ≤ 399990 := ⟨by omega, by omega⟩
  exact zM.mono (zD.mono (fun f1 m1 h1 => (CI_ZP q4 ⟨g, q5⟩ q6 q8 q9 q10 h1).1)) (c_knot q1 q2 (Nat.le_succ_of_le i.2.1) q3 q7 hB hu hne)
theorem ci_set {G : zW} {f : zHM} {m : Nat × Nat} {x k L : Nat} {st : Nat → zST} {ss : Nat → Option zST} {S : zST} {ch : Nat → Nat} {J : Nat × Nat} (h : CI f m x k st ss S L ch J) (i : IVS S) (j1 : J.1 ≤ 50000) (j2 : J.2 ≤ 399990) {e : Nat} (he : e < 3) {v : Int32} (h1 : ¬ v < 1) (h2 : v ≤ zMS.getD e 0) : zM G yX3_set cX3_set 4 (some .int) 7 [.ref x, .int (nI e), .int v] (f, m) (zD (some (.int (S.1 3 e))) (CP x (sPK k) (sPS k st S) ss ((sSetS S.1 e v, S.2.1, S.2.2.1, S.2.2.2)) L ch J)) := by
  obtain ⟨r, tr, sc, tx, sl, sv, la, A, gv, π, gs, co, M, q1, q2, q3, q4, q5, q6, q7, q8, q9, q10⟩ := h
  obtain ⟨g, q5⟩ := q5
  have hB : M.1 + 11 * zcn gv 6 ≤ 50000 ∧ M.2 + 1339 * zcn gv 6 ≤ 399990 := ⟨by omega, by omega⟩
  exact zM.mono (zD.mono (fun f1 m1 h1 => (CI_ZP q4 ⟨g, q5⟩ q6 q8 q9 q10 h1).1)) (c_set q1 q2 (Nat.le_succ_of_le i.2.1) q3 q7 hB he h1 h2)
theorem ci_spool {G : zW} {f : zHM} {m : Nat × Nat} {x k L : Nat} {st : Nat → zST} {ss : Nat → Option zST} {S : zST} {ch : Nat → Nat} {J : Nat × Nat} (h : CI f m x k st ss S L ch J) (i : IVS S) (j1 : J.1 ≤ 50000) (j2 : J.2 ≤ 399990) {u : Nat} (hu : u < 3) {sh lf : Int32} (h1 : ¬ sh < 1) (h2 : sh ≤ 9) (h3 : ¬ lf < 0) (h4 : lf ≤ 9999) (hne : ¬ nI u = S.1 0 2) (hch : sCh S.1 S.2.1 (nI u) ≤ 0) : zM G yX3_spool cX3_spool 5 (some .int) 7 [.ref x, .int (nI u), .int sh, .int lf] (f, m) (zD (some (.int (S.1 2 u))) (CP x (sPK k) (sPS k st S) ss ((sSpoolS S.1 u sh lf, S.2.1, S.2.2.1, S.2.2.2)) L ch J)) := by
  obtain ⟨r, tr, sc, tx, sl, sv, la, A, gv, π, gs, co, M, q1, q2, q3, q4, q5, q6, q7, q8, q9, q10⟩ := h
  obtain ⟨g, q5⟩ := q5
  have hB : M.1 + 11 * zcn gv 6 ≤ 50000 ∧ M.2 + 1339 * zcn gv 6 ≤ 399990 := ⟨by omega, by omega⟩
  exact zM.mono (zD.mono (fun f1 m1 h1 => (CI_ZP q4 ⟨g, q5⟩ q6 q8 q9 q10 h1).1)) (c_spool q1 q2 (Nat.le_succ_of_le i.2.1) q3 q7 hB hu h1 h2 h3 h4 hne hch)
theorem ci_wind_ok {G : zW} {f : zHM} {m : Nat × Nat} {x k L : Nat} {st : Nat → zST} {ss : Nat → Option zST} {S : zST} {ch : Nat → Nat} {J : Nat × Nat} (h : CI f m x k st ss S L ch J) (i : IVS S) (j1 : J.1 ≤ 50000) (j2 : J.2 ≤ 399990) {a u : Nat} (ha : a < zN S) (hu : u < 3) (hat : S.1 0 1 = nI a) (hnow : S.1 0 2 = nI u) {b : Nat} (hb : b < zN S) (hn : S.2.1 < 200) (href : sRef (zN S) (zs S) (S.1 3 0) (S.1 3 1) (S.1 2 u) S.2.2.2 a b = 0 ∧ True) : zM G yX3_wind cX3_wind 3 (some .int) 7 [.ref x, .int (nI b)] (f, m) (zD (some (.int (0))) (CP x (sPK k) (sPS k st S) ss (sWBn S.1 (zs S) S.2.1 S.2.2.1 S.2.2.2 a b u) L ch J)) := by
  obtain ⟨r, tr, sc, tx, sl, sv, la, A, gv, π, gs, co, M, q1, q2, q3, q4, q5, q6, q7, q8, q9, q10⟩ := h
  obtain ⟨g, q5⟩ := q5
  have hB : M.1 + 11 * zcn gv 6 ≤ 50000 ∧ M.2 + 1339 * zcn gv 6 ≤ 399990 := ⟨by omega, by omega⟩
  exact zM.mono (zD.mono (fun f1 m1 h1 => (CI_ZP q4 ⟨g, q5⟩ q6 q8 q9 q10 h1).1)) (c_wind_ok q1 q2 (Nat.le_succ_of_le i.2.1) q3 q7 hB i.1 ha hu hat hnow hb hn href)
theorem ci_wind_no {G : zW} {f : zHM} {m : Nat × Nat} {x k L : Nat} {st : Nat → zST} {ss : Nat → Option zST} {S : zST} {ch : Nat → Nat} {J : Nat × Nat} (h : CI f m x k st ss S L ch J) (i : IVS S) (j1 : J.1 ≤ 50000) (j2 : J.2 ≤ 399990) {a u : Nat} (ha : a < zN S) (hu : u < 3) (hat : S.1 0 1 = nI a) (hnow : S.1 0 2 = nI u) {b : Nat} (hb : b < zN S) (hn : S.2.1 < 200) (href : ¬ sRef (zN S) (zs S) (S.1 3 0) (S.1 3 1) (S.1 2 u) S.2.2.2 a b = 0 ∧ True) : zM G yX3_wind cX3_wind 3 (some .int) 7 [.ref x, .int (nI b)] (f, m) (zD (some (.int (sRef (zN S) (zs S) (S.1 3 0) (S.1 3 1) (S.1 2 u) S.2.2.2 a b))) (CP x (sPK k) (sPS k st S) ss ((sInc S.1 4, S.2.1, S.2.2.1, S.2.2.2)) L ch J)) := by
  obtain ⟨r, tr, sc, tx, sl, sv, la, A, gv, π, gs, co, M, q1, q2, q3, q4, q5, q6, q7, q8, q9, q10⟩ := h
  obtain ⟨g, q5⟩ := q5
  have hB : M.1 + 11 * zcn gv 6 ≤ 50000 ∧ M.2 + 1339 * zcn gv 6 ≤ 399990 := ⟨by omega, by omega⟩
  exact zM.mono (zD.mono (fun f1 m1 h1 => (CI_ZP q4 ⟨g, q5⟩ q6 q8 q9 q10 h1).1)) (c_wind_no q1 q2 (Nat.le_succ_of_le i.2.1) q3 q7 hB i.1 ha hu hat hnow hb hn href)
theorem ci_windBest {G : zW} {f : zHM} {m : Nat × Nat} {x k L : Nat} {st : Nat → zST} {ss : Nat → Option zST} {S : zST} {ch : Nat → Nat} {J : Nat × Nat} (h : CI f m x k st ss S L ch J) (i : IVS S) (j1 : J.1 ≤ 50000) (j2 : J.2 ≤ 399990) {a u : Nat} (ha : a < zN S) (hu : u < 3) (hat : S.1 0 1 = nI a) (hnow : S.1 0 2 = nI u) {w : Nat} (hw1 : 1 ≤ w) (hw50 : w ≤ 50) : zM G yX3_windBest cX3_windBest 4 (some .int) 7 [.ref x, .int (nI w)] (f, m) (zD (some (.int (nI (sWB (zN S) (zs S) w S).2))) (CP x (sPK k) (sPS k st S) ss ((sWB (zN S) (zs S) w S).1) L ch J)) := by
  obtain ⟨r, tr, sc, tx, sl, sv, la, A, gv, π, gs, co, M, q1, q2, q3, q4, q5, q6, q7, q8, q9, q10⟩ := h
  obtain ⟨g, q5⟩ := q5
  have hB : M.1 + 11 * zcn gv 6 ≤ 50000 ∧ M.2 + 1339 * zcn gv 6 ≤ 399990 := ⟨by omega, by omega⟩
  exact zM.mono (zD.mono (fun f1 m1 h1 => (CI_ZP q4 ⟨g, q5⟩ q6 q8 q9 q10 h1).1)) (c_windBest q1 q2 (Nat.le_succ_of_le i.2.1) q3 q7 hB i.1 ha hu hat hnow hw1 hw50)
theorem ci_nails {G : zW} {f : zHM} {m : Nat × Nat} {x k L : Nat} {st : Nat → zST} {ss : Nat → Option zST} {S : zST} {ch : Nat → Nat} {J : Nat × Nat} (h : CI f m x k st ss S L ch J) (i : IVS S) (j1 : J.1 ≤ 50000) (j2 : J.2 ≤ 399990) {v : Int32} (hst : ¬ sStepOf v = -1) : zM G yX3_nails cX3_nails 4 (some .int) 7 [.ref x, .int v] (f, m) (zD (some (.int (S.1 0 0))) (CP x (sPK k) (sPS k st S) ss ((sNailsS (sAllOff S.1 S.2.2.1 S.2.2.2 (zs S) S.2.1) v, 0, (sDn S.1 S.2.2.1 S.2.2.2 (zs S) S.2.1 S.2.1).2.1, (sDn S.1 S.2.2.1 S.2.2.2 (zs S) S.2.1 S.2.1).2.2)) L ch J)) := by
  obtain ⟨r, tr, sc, tx, sl, sv, la, A, gv, π, gs, co, M, q1, q2, q3, q4, q5, q6, q7, q8, q9, q10⟩ := h
  obtain ⟨g, q5⟩ := q5
  have hB : M.1 + 11 * zcn gv 6 ≤ 50000 ∧ M.2 + 1339 * zcn gv 6 ≤ 399990 := ⟨by omega, by omega⟩
  exact zM.mono (zD.mono (fun f1 m1 h1 => (CI_ZP q4 ⟨g, q5⟩ q6 q8 q9 q10 h1).1)) (c_nails q1 q2 (Nat.le_succ_of_le i.2.1) q3 q7 hB i.1 hst)
theorem ci_turnFace_0 {G : zW} {f : zHM} {m : Nat × Nat} {x k L : Nat} {st : Nat → zST} {ss : Nat → Option zST} {S : zST} {ch : Nat → Nat} {J : Nat × Nat} (h : CI f m x k st ss S L ch J) (i : IVS S) (j1 : J.1 ≤ 50000) (j2 : J.2 ≤ 399990)  : zM G yX3_turnFace cX3_turnFace 5 (some .int) 7 [.ref x, .int (nI 0)] (f, m) (zD (some (.int (sMisfit (zset S.1 7 (sTurn 0 (S.1 7)))))) (CP x (sPK k) (sPS k st S) ss ((zset S.1 7 (sTurn 0 (S.1 7)), S.2.1, S.2.2.1, S.2.2.2)) L ch J)) := by
  obtain ⟨r, tr, sc, tx, sl, sv, la, A, gv, π, gs, co, M, q1, q2, q3, q4, q5, q6, q7, q8, q9, q10⟩ := h
  obtain ⟨g, q5⟩ := q5
  have hB : M.1 + 11 * zcn gv 6 ≤ 50000 ∧ M.2 + 1339 * zcn gv 6 ≤ 399990 := ⟨by omega, by omega⟩
  exact zM.mono (zD.mono (fun f1 m1 h1 => (CI_ZPV q4 q6 q8 q9 q10 h1).1)) (c_turnFace_0 q1 q2 (Nat.le_succ_of_le i.2.1) q3 q7 hB q5)
theorem ci_turnFace_1 {G : zW} {f : zHM} {m : Nat × Nat} {x k L : Nat} {st : Nat → zST} {ss : Nat → Option zST} {S : zST} {ch : Nat → Nat} {J : Nat × Nat} (h : CI f m x k st ss S L ch J) (i : IVS S) (j1 : J.1 ≤ 50000) (j2 : J.2 ≤ 399990)  : zM G yX3_turnFace cX3_turnFace 5 (some .int) 7 [.ref x, .int (nI 1)] (f, m) (zD (some (.int (sMisfit (zset S.1 7 (sTurn 1 (S.1 7)))))) (CP x (sPK k) (sPS k st S) ss ((zset S.1 7 (sTurn 1 (S.1 7)), S.2.1, S.2.2.1, S.2.2.2)) L ch J)) := by
  obtain ⟨r, tr, sc, tx, sl, sv, la, A, gv, π, gs, co, M, q1, q2, q3, q4, q5, q6, q7, q8, q9, q10⟩ := h
  obtain ⟨g, q5⟩ := q5
  have hB : M.1 + 11 * zcn gv 6 ≤ 50000 ∧ M.2 + 1339 * zcn gv 6 ≤ 399990 := ⟨by omega, by omega⟩
  exact zM.mono (zD.mono (fun f1 m1 h1 => (CI_ZPV q4 q6 q8 q9 q10 h1).1)) (c_turnFace_1 q1 q2 (Nat.le_succ_of_le i.2.1) q3 q7 hB q5)
theorem ci_turnFace_2 {G : zW} {f : zHM} {m : Nat × Nat} {x k L : Nat} {st : Nat → zST} {ss : Nat → Option zST} {S : zST} {ch : Nat → Nat} {J : Nat × Nat} (h : CI f m x k st ss S L ch J) (i : IVS S) (j1 : J.1 ≤ 50000) (j2 : J.2 ≤ 399990)  : zM G yX3_turnFace cX3_turnFace 5 (some .int) 7 [.ref x, .int (nI 2)] (f, m) (zD (some (.int (sMisfit (zset S.1 7 (sTurn 2 (S.1 7)))))) (CP x (sPK k) (sPS k st S) ss ((zset S.1 7 (sTurn 2 (S.1 7)), S.2.1, S.2.2.1, S.2.2.2)) L ch J)) := by
  obtain ⟨r, tr, sc, tx, sl, sv, la, A, gv, π, gs, co, M, q1, q2, q3, q4, q5, q6, q7, q8, q9, q10⟩ := h
  obtain ⟨g, q5⟩ := q5
  have hB : M.1 + 11 * zcn gv 6 ≤ 50000 ∧ M.2 + 1339 * zcn gv 6 ≤ 399990 := ⟨by omega, by omega⟩
  exact zM.mono (zD.mono (fun f1 m1 h1 => (CI_ZPV q4 q6 q8 q9 q10 h1).1)) (c_turnFace_2 q1 q2 (Nat.le_succ_of_le i.2.1) q3 q7 hB q5)
theorem ci_unwind {G : zW} {f : zHM} {m : Nat × Nat} {x k L : Nat} {st : Nat → zST} {ss : Nat → Option zST} {ρ : zRS} {n : Nat} {xs tm : Nat → Int32} {ch : Nat → Nat} {J : Nat × Nat} (h : CI f m x k st ss (ρ, n + 1, xs, tm) L ch J) (j1 : J.1 ≤ 50000) (j2 : J.2 ≤ 399990) {N s : Nat} (hn : n + 1 ≤ 200) (hw : RW ρ N s (n + 1)) {a b u : Nat} (ha : a < N) (hb : b < N) (hab : a ≠ b) (hu : u < 3) (q4 : ρ 4 n = nI a) (q5 : ρ 5 n = nI b) (q6 : ρ 6 n = nI u) : zM G yX3_unwind cX3_unwind 1 (some .int) 7 [.ref x] (f, m) (zD (some (.int (nI a))) (CP x (sPK k) (sPS k st (ρ, n + 1, xs, tm)) ss (sOff ρ s a b u, n, sInL (sPa s a b) (-1) xs, sPutT tm (sPr (a * s) (b * s)) (-1)) L ch J)) := by
  obtain ⟨r, tr, sc, tx, sl, sv, la, A, gv, π, gs, co, M, p1, p2, p3, p4, p5, p6, p7, p8, p9, p10⟩ := h
  obtain ⟨g, p5⟩ := p5
  have hB : M.1 + 11 * zcn gv 6 ≤ 50000 ∧ M.2 + 1339 * zcn gv 6 ≤ 399990 := ⟨by omega, by omega⟩
  exact zM.mono (zD.mono (fun f1 m1 h1 => (CI_ZP p4 ⟨g, p5⟩ p6 p8 p9 p10 h1).1)) (c_unwind p1 p2 (by omega) p3 p7 hB hw ha hb hab hu q4 q5 q6)
theorem ci_keep {G : zW} {f : zHM} {m : Nat × Nat} {x k L : Nat} {st : Nat → zST} {ss : Nat → Option zST} {S : zST} {ch : Nat → Nat} {J : Nat × Nat} (h : CI f m x k st ss S L ch J) (i : IVS S) (j1 : J.1 ≤ 50000) (j2 : J.2 ≤ 399990) {e : Nat} (he : e < 2) : zM G yX3_keep cX3_keep 2 (some .int) 7 [.ref x, .int (nI e)] (f, m) (zD (some (.int (nI S.2.1))) (CP x k st (fun j => if j = e then some S else ss j) S L ch J)) := by
  obtain ⟨r, tr, sc, tx, sl, sv, la, A, gv, π, gs, co, M, q1, q2, q3, q4, q5, q6, q7, q8, q9, q10⟩ := h
  obtain ⟨g, q5⟩ := q5
  have hB2 : M.1 + 11 * zcn gs 2 ≤ 50000 ∧ M.2 + 1339 * zcn gs 2 ≤ 399990 := ⟨by omega, by omega⟩
  exact zM.mono (zD.mono (fun f1 m1 h1 => (CI_K (m := m) (ss := ss) q1 q2 q4 ⟨g, q5⟩ q6 q7 q9 q10 h1).1)) (c_keep q1 q2 (Nat.le_succ_of_le i.2.1) q3 q8 hB2 he)
theorem ci_goBack {G : zW} {f : zHM} {m : Nat × Nat} {x k L : Nat} {st : Nat → zST} {ss : Nat → Option zST} {S : zST} {ch : Nat → Nat} {J : Nat × Nat} (h : CI f m x k st ss S L ch J) (i : IVS S) (j1 : J.1 ≤ 50000) (j2 : J.2 ≤ 399990) {e : Nat} {T : zST} (he : e < 2) (hT : ss e = some T) (hn : T.2.1 ≤ 200) : zM G yX3_goBack cX3_goBack 3 (some .int) 7 [.ref x, .int (nI e)] (f, m) (zD (some (.int (nI T.2.1))) (CP x (sPK k) (sPS k st S) ss T L ch J)) := by
  obtain ⟨r, tr, sc, tx, sl, sv, la, A, gv, π, gs, co, M, q1, q2, q3, q4, q5, q6, q7, q8, q9, q10⟩ := h
  obtain ⟨g, q5⟩ := q5
  have hB : M.1 + 11 * zcn gv 6 ≤ 50000 ∧ M.2 + 1339 * zcn gv 6 ≤ 399990 := ⟨by omega, by omega⟩
  rcases q8.2 e he with ⟨g1, g2⟩ | ⟨q, T2, g1, g2, g3⟩
  · rw [hT] at g2
    cases g2
  · rw [hT] at g2
    cases g2
    exact zM.mono (zD.mono (fun f1 m1 h1 => (CI_ZP q4 ⟨g, q5⟩ q6 q8 q9 q10 h1).1)) (c_goBack q1 q2 (Nat.le_succ_of_le i.2.1) q3 q7 hB q8 he g1 g3 (Nat.le_succ_of_le hn))
theorem ci_undo {G : zW} {f : zHM} {m : Nat × Nat} {x k L : Nat} {st : Nat → zST} {ss : Nat → Option zST} {S : zST} {ch : Nat → Nat} {J : Nat × Nat} (h : CI f m x k st ss S L ch J) (hk : 1 ≤ k) (hn : (st (k - 1)).2.1 ≤ 200) : zM G yX3_undo cX3_undo 2 (some .int) 7 [.ref x] (f, m) (zD (some (.int (nI (k - 1)))) (CP x (k - 1) st ss (st (k - 1)) L ch J)) := by
  obtain ⟨r, tr, sc, tx, sl, sv, la, A, gv, π, gs, co, M, q1, q2, q3, q4, q5, q6, q7, q8, q9, q10⟩ := h
  obtain ⟨g, q5⟩ := q5
  exact zM.mono (zD.mono (fun f1 m1 h1 => by
    obtain ⟨p1, p2, p3, p4, hF⟩ := h1
    exact ⟨r, tr, sc, tx, sl, sv, la, A, gv, π, gs, co, M, p3, p4, p2, q4.fr hF (fun k hk => by omega), ⟨g, hF _ _ _ q5 (by omega)⟩, q6.fr hF (by omega) (by omega), p1, q8.fr hF (fun τ hτ => by omega), q9, q10⟩)) (c_undo q1 q2 q3 q7 hk (Nat.le_succ_of_le hn))
theorem ci_new {f : zHM} {m : Nat × Nat} {r tr sc tx sl sv la x co : Nat} {A A2 : Nat → Nat} (c1 : f x = some (600, .inr (3, zOb r tr sc tx sl sv 0))) (c2 : RPic f 0 r la A sNew 0 (fun _ => 0) (fun _ => 0)) (c3 : RPic f 20 tr la A2 sNew 0 (fun _ => 0) (fun _ => 0)) (c4 : f sc = some (601, .inl (0, 144, .inl (fun _ => 0)))) (c5 : TPic f 602 tx co 0 (fun _ => 0)) (c6 : f sl = some (604, zrow (fun _ => none) 2)) (c7 : f sv = some (605, zrow (fun _ => none) 6)) (c8 : f la = some (950, .inl (4, 276, .inr (.inr (.inr (.inr (fun _ => none))))))) : CI f (29, 3175) x 0 (fun _ => sFresh) (fun _ => none) sFresh 0 (fun _ => 0) (945, 26031) :=
  ⟨r, tr, sc, tx, sl, sv, la, A, fun _ => none, fun j => j, fun _ => none, co, (857, 15319), c1, c2, ⟨by decide, by decide, _, c8, (fun p hp q hq => nomatch hq), by rw [zcn_none]; decide, by rw [zcn_none]; decide⟩, ⟨_, _, _, _, _, c3⟩, ⟨_, c4⟩, c5, ⟨by decide, c7, fun j hj => hj, fun i j _ _ h => h, fun j hj => by omega, (fun j q hj h => nomatch h)⟩, ⟨c6, fun j hj => Or.inl ⟨rfl, rfl⟩⟩, by rw [zcn_none, zcn_none]; decide, by rw [zcn_none, zcn_none]; decide⟩
