/-! THE STEPS OF THE LAW, ONE BY ONE: the questions. -/
theorem i32_nn {v : Int32} (h : ¬ v < 0) : ∃ g, g < 2 ^ 31 ∧ v = nI g := by
  have a0 : (0 : Int) ≤ v.toInt := Int32.le_iff_toInt_le.mp (Int32.not_lt.mp h)
  have a1 := v.toInt_lt
  refine ⟨v.toInt.toNat, by omega, ?_⟩
  apply Int32.toInt_inj.mp
  show v.toInt = (Int32.ofNat v.toInt.toNat).toInt
  rw [Int32.toInt_ofNat_of_lt (by omega)]
  omega
theorem i32_lt {N : Nat} (hN : N < 2 ^ 31) {v c : Int32} (hc : c = nI N) (h : ¬ (v < 0 ∨ ¬ v < c)) : ∃ b, b < N ∧ v = nI b := by
  obtain ⟨g, h1, rfl⟩ := i32_nn (fun z => h (Or.inl z))
  have h2 : nI g < c := Classical.not_not.mp (fun z => h (Or.inr z))
  rw [hc, nI_ltI h1 hN] at h2
  exact ⟨g, h2, rfl⟩
theorem i32_le {N : Nat} (hN : N < 2 ^ 31) {v c : Int32} (hc : c = nI N) (h : ¬ (v < 0 ∨ ¬ v ≤ c)) : ∃ b, b ≤ N ∧ v = nI b := by
  obtain ⟨g, h1, rfl⟩ := i32_nn (fun z => h (Or.inl z))
  have h2 : nI g ≤ c := Classical.not_not.mp (fun z => h (Or.inr z))
  rw [hc, nI_leI h1 hN] at h2
  exact ⟨g, h2, rfl⟩
theorem RV.N24 {ρ : zRS} {N s : Nat} (h : RV ρ N s) : N ≤ 24 := by
  obtain ⟨-, -, h3, -⟩ := h
  rcases Nat.eq_zero_or_pos s with e | e
  · subst e; omega
  · have := Nat.le_mul_of_pos_right N e
    omega
theorem LNok.m1 {f : zHM} {m : Nat × Nat} {la : Nat} {M : Nat × Nat} (h : LNok f m la M) : m.1 ≤ M.1 := by
  obtain ⟨-, -, g, -, -, h1, h2⟩ := h
  omega
theorem LNok.m2 {f : zHM} {m : Nat × Nat} {la : Nat} {M : Nat × Nat} (h : LNok f m la M) : m.2 ≤ M.2 := by
  obtain ⟨-, -, g, -, -, h1, h2⟩ := h
  omega
theorem zT9_o : ∀ τ, zT9 τ → τ < 700 ∨ 750 < τ := fun τ h => by
  have h : τ = 950 := h
  omega
/-- a call that only makes lines (or lays in the two spare places) -/
theorem CI_D {T : Nat → Prop} {f f1 : zHM} {m m1 : Nat × Nat} {x k L r tr sc tx sl sv la co : Nat} {A : Nat → Nat} {gv gs : Nat → Option Nat} {π : Nat → Nat} {st : Nat → zST} {ss : Nat → Option zST} {ρ : zRS} {n : Nat} {xs tm : Nat → Int32} {ch : Nat → Nat} {M J : Nat × Nat} (q1 : f x = some (600, .inr (3, zOb r tr sc tx sl sv k))) (q2 : RPic f 0 r la A ρ n xs tm) (q4 : RAny f1 20 tr la) (q5 : ∃ g, f1 sc = some (601, .inl (0, 144, .inl g))) (q6 : TPic f 602 tx co L ch) (q7 : SVP f sv la gv π k st) (q8 : SLP f sl la gs ss) (q9 : M.1 + 11 * zcn gv 6 + 11 * zcn gs 2 ≤ J.1) (q10 : M.2 + 1339 * zcn gv 6 + 1339 * zcn gs 2 ≤ J.2) (hL : LNok f1 m1 la M) (hF : zFr T f f1) (hT : ∀ τ, T τ → τ = 950 ∨ τ = 601 ∨ (20 ≤ τ ∧ τ ≤ 30)) : CI f1 m1 x k st ss (ρ, n, xs, tm) L ch J ∧ zFr T f f1 := by
  have hn : ∀ τ, τ < 20 ∨ (30 < τ ∧ τ < 601) ∨ (601 < τ ∧ τ < 950) → ¬ T τ := fun τ q z => by
    rcases hT τ z with z | z | z <;> omega
  exact ⟨⟨r, tr, sc, tx, sl, sv, la, A, gv, π, gs, co, M, hF _ _ _ q1 (hn _ (by omega)), q2.fr hF (fun k hk => hn _ (by omega)), hL, q4, q5, q6.fr hF (hn _ (by omega)) (hn _ (by omega)), q7.fr hF (fun τ hτ => hn _ (by omega)), q8.fr hF (fun τ hτ => hn _ (by omega)), q9, q10⟩, hF⟩
theorem CI_9 {f f1 : zHM} {m m1 : Nat × Nat} {x k L r tr sc tx sl sv la co : Nat} {A : Nat → Nat} {gv gs : Nat → Option Nat} {π : Nat → Nat} {st : Nat → zST} {ss : Nat → Option zST} {ρ : zRS} {n : Nat} {xs tm : Nat → Int32} {ch : Nat → Nat} {M J : Nat × Nat} (q1 : f x = some (600, .inr (3, zOb r tr sc tx sl sv k))) (q2 : RPic f 0 r la A ρ n xs tm) (q4 : RAny f 20 tr la) (q5 : ∃ g, f sc = some (601, .inl (0, 144, .inl g))) (q6 : TPic f 602 tx co L ch) (q7 : SVP f sv la gv π k st) (q8 : SLP f sl la gs ss) (q9 : M.1 + 11 * zcn gv 6 + 11 * zcn gs 2 ≤ J.1) (q10 : M.2 + 1339 * zcn gv 6 + 1339 * zcn gs 2 ≤ J.2) (hL : LNok f1 m1 la M) (hF : zFr zT9 f f1) : CI f1 m1 x k st ss (ρ, n, xs, tm) L ch J ∧ zFr zT9 f f1 := by
  obtain ⟨g, q5⟩ := q5
  exact CI_D (m := m) q1 q2 (q4.fr hF (fun k hk z => by have z : _ = 950 := z; omega)) ⟨g, hF _ _ _ q5 (fun z => by have z : 601 = 950 := z; omega)⟩ q6 q7 q8 q9 q10 hL hF (fun τ z => Or.inl z)
theorem zq_same {σ : Nat → Int32} {n N s k : Nat} {st : Nat → zST} {svm : Nat → Nat → Int32} {ss : Nat → Option zST} {hsl : Nat → Int32} {slm : Nat → Nat → Int32} (hR : RB σ n N s k st svm ss hsl slm) : ∀ σ9, σ9 = σ → ∃ N2 s2, SR s2 (sCan σ s n) σ9 ∧ RB σ9 (sCan σ s n).2.1 N2 s2 k st svm ss hsl slm := fun σ9 e => by
  subst e
  exact ⟨N, s, SR_can hR.1, hR⟩
set_option maxRecDepth 10000 in
set_option maxHeartbeats 1000000 in
theorem s_nailOf {G : zW} {f : zHM} {m : Nat × Nat} {x o out cap : Nat} {th : Int32} {J : Nat × Nat} (hJ : JI f m x o th cap J) (hout : ∃ g : Nat → Int64, f out = some (750, .inl (1, 1, .inr (.inl g)))) (hb1 : J.1 + 1 ≤ 50000) (hb2 : J.2 + 6 ≤ 399990) (hcap : cap + 400000 < 2 ^ 30) (x1 x2 : Int32) : zSp G x o out (cap + 400000) (J.1 + 1, J.2 + 6) f m yL_nailOf cL_nailOf 5 [(0, 10, 13, 19), (0, 10, 17, 13)] yX4_nailOf cX4_nailOf 3 [.int x1, .int x2] := by
  obtain ⟨k, st, ss, L, ch, B, hh, σ, mr, svm, hsl, slm, N, s, n, hC, hz, hR, hmr⟩ := hJ
  have hC0 := hC
  obtain ⟨r, tr, sc, tx, sl, sv, la, A, gv, π, gs, co, M, q1, q2, q3, q4, q5, q6, q7, q8, q9, q10⟩ := hC
  have q2 : RPic f 0 r la A (rOf σ) n (sXs (rOf σ) s n) (sTm (rOf σ) n) := q2
  obtain ⟨r1, r2, r3, r4⟩ := id hR
  obtain ⟨hw, hn2, ⟨a, ha, hat⟩, ⟨u0, hu0, hnow⟩, -⟩ := id r2
  have hv := hw.1
  have hN : N ≤ 24 := hv.N24
  have hm1 : m.1 + 1 ≤ 50000 := by have := q3.m1; omega
  have hm2 : m.2 + 6 ≤ 400000 := by have := q3.m2; omega
  by_cases h1 : x1 < 0 ∨ ¬ x1 < nI N
  · exact zSp_err hC0 hz hR hmr hout hb1 hb2 (b := nI 1) (by decide) (w_nailOf q1 (by decide) (x_nailOf_1 q1 q2 hm1 hm2 (by rw [hv.1]; exact h1)) wv_no (fun E h9 hq => Or.inl ⟨Sum.inr.inj hq.1, rfl, hq.2⟩)) (fun w hM t k0 l0 O => y_nailOf_1 hM t k0 l0 O hv h1)
  · obtain ⟨b, hb, rfl⟩ := i32_lt (N := N) (by omega) rfl h1
    by_cases h2 : x2 < 0 ∨ ¬ x2 ≤ 3
    · exact zSp_err hC0 hz hR hmr hout hb1 hb2 (b := nI 2) (by decide) (w_nailOf q1 (by decide) (x_nailOf_2 q1 q2 hv hm1 hm2 hb h2) wv_no (fun E h9 hq => Or.inr (⟨Sum.inr.inj hq.1, rfl, hq.2⟩))) (fun w hM t k0 l0 O => y_nailOf_2 hM t k0 l0 O hv hb h2)
    · obtain ⟨e, he, rfl⟩ := i32_le (N := 3) (by decide) rfl h2
      exact zSp_qry hC0 hz hR hmr hout (fun hk => w_nailOf q1 (by decide) (c_nailOf q1 q2 hv (by omega) hb he) (wv_ok hk) wx_no) (fun f2 m2 w hM t k0 l0 O => c_m9nailOf hM t k0 l0 O hw r1 hn2 hb (by omega)) (by decide)
set_option maxRecDepth 10000 in
set_option maxHeartbeats 1000000 in
theorem s_spoolOf {G : zW} {f : zHM} {m : Nat × Nat} {x o out cap : Nat} {th : Int32} {J : Nat × Nat} (hJ : JI f m x o th cap J) (hout : ∃ g : Nat → Int64, f out = some (750, .inl (1, 1, .inr (.inl g)))) (hb1 : J.1 + 1 ≤ 50000) (hb2 : J.2 + 6 ≤ 399990) (hcap : cap + 400000 < 2 ^ 30) (x1 x2 : Int32) : zSp G x o out (cap + 400000) (J.1 + 1, J.2 + 6) f m yL_spoolOf cL_spoolOf 5 [(0, 10, 13, 19), (0, 10, 17, 13)] yX4_spoolOf cX4_spoolOf 3 [.int x1, .int x2] := by
  obtain ⟨k, st, ss, L, ch, B, hh, σ, mr, svm, hsl, slm, N, s, n, hC, hz, hR, hmr⟩ := hJ
  have hC0 := hC
  obtain ⟨r, tr, sc, tx, sl, sv, la, A, gv, π, gs, co, M, q1, q2, q3, q4, q5, q6, q7, q8, q9, q10⟩ := hC
  have q2 : RPic f 0 r la A (rOf σ) n (sXs (rOf σ) s n) (sTm (rOf σ) n) := q2
  obtain ⟨r1, r2, r3, r4⟩ := id hR
  obtain ⟨hw, hn2, ⟨a, ha, hat⟩, ⟨u0, hu0, hnow⟩, -⟩ := id r2
  have hv := hw.1
  have hN : N ≤ 24 := hv.N24
  have hm1 : m.1 + 1 ≤ 50000 := by have := q3.m1; omega
  have hm2 : m.2 + 6 ≤ 400000 := by have := q3.m2; omega
  by_cases h1 : x1 < 0 ∨ ¬ x1 < 3
  · exact zSp_err hC0 hz hR hmr hout hb1 hb2 (b := nI 1) (by decide) (w_spoolOf q1 (by decide) (x_spoolOf_1 hm1 hm2 h1) wv_no (fun E h9 hq => Or.inl ⟨Sum.inr.inj hq.1, rfl, hq.2⟩)) (fun w hM t k0 l0 O => y_spoolOf_1 hM t k0 l0 O h1)
  · obtain ⟨b, hb, rfl⟩ := i32_lt (N := 3) (by decide) rfl h1
    by_cases h2 : x2 < 0 ∨ ¬ x2 ≤ 4
    · exact zSp_err hC0 hz hR hmr hout hb1 hb2 (b := nI 2) (by decide) (w_spoolOf q1 (by decide) (x_spoolOf_2 hm1 hm2 hb h2) wv_no (fun E h9 hq => Or.inr (⟨Sum.inr.inj hq.1, rfl, hq.2⟩))) (fun w hM t k0 l0 O => y_spoolOf_2 hM t k0 l0 O hb h2)
    · obtain ⟨e, he, rfl⟩ := i32_le (N := 4) (by decide) rfl h2
      exact zSp_ok (T := zT9) (S2 := sCan σ s n) (st2 := st) (ss2 := ss) hz hmr hout zT9_o (fun f1 m1 h1 => CI_9 (m := m) q1 q2 q4 q5 q6 q7 q8 q9 q10 h1.1 h1.2) (fun hk => w_spoolOf q1 (by decide) (c_spoolOf q1 q2 hw q3 hb he) (wv_ok hk) wx_no) (fun f2 m2 w hM t k0 l0 O => c_m9spoolOf hM t k0 l0 O hw r1 hn2 hb (by omega)) (by decide) (zq_same hR)
set_option maxRecDepth 10000 in
set_option maxHeartbeats 1000000 in
theorem s_chord {G : zW} {f : zHM} {m : Nat × Nat} {x o out cap : Nat} {th : Int32} {J : Nat × Nat} (hJ : JI f m x o th cap J) (hout : ∃ g : Nat → Int64, f out = some (750, .inl (1, 1, .inr (.inl g)))) (hb1 : J.1 + 1 ≤ 50000) (hb2 : J.2 + 6 ≤ 399990) (hcap : cap + 400000 < 2 ^ 30) (x1 x2 x3 : Int32) : zSp G x o out (cap + 400000) (J.1 + 1, J.2 + 6) f m yL_chord cL_chord 6 [(0, 12, 15, 19), (0, 12, 19, 13)] yX4_chord cX4_chord 4 [.int x1, .int x2, .int x3] := by
  obtain ⟨k, st, ss, L, ch, B, hh, σ, mr, svm, hsl, slm, N, s, n, hC, hz, hR, hmr⟩ := hJ
  have hC0 := hC
  obtain ⟨r, tr, sc, tx, sl, sv, la, A, gv, π, gs, co, M, q1, q2, q3, q4, q5, q6, q7, q8, q9, q10⟩ := hC
  have q2 : RPic f 0 r la A (rOf σ) n (sXs (rOf σ) s n) (sTm (rOf σ) n) := q2
  obtain ⟨r1, r2, r3, r4⟩ := id hR
  obtain ⟨hw, hn2, ⟨a, ha, hat⟩, ⟨u0, hu0, hnow⟩, -⟩ := id r2
  have hv := hw.1
  have hN : N ≤ 24 := hv.N24
  have hm1 : m.1 + 1 ≤ 50000 := by have := q3.m1; omega
  have hm2 : m.2 + 6 ≤ 400000 := by have := q3.m2; omega
  by_cases h1 : x1 < 0 ∨ ¬ x1 < nI N
  · exact zSp_err hC0 hz hR hmr hout hb1 hb2 (b := nI 1) (by decide) (w_chord q1 (by decide) (x_chord_1 q1 q2 hm1 hm2 (by rw [hv.1]; exact h1)) wv_no (fun E h9 hq => Or.inl ⟨Sum.inr.inj hq.1, rfl, hq.2⟩)) (fun w hM t k0 l0 O => y_chord_1 hM t k0 l0 O hv h1)
  · obtain ⟨b, hb, rfl⟩ := i32_lt (N := N) (by omega) rfl h1
    by_cases h2 : x2 < 0 ∨ ¬ x2 < nI N
    · exact zSp_err hC0 hz hR hmr hout hb1 hb2 (b := nI 1) (by decide) (w_chord q1 (by decide) (x_chord_2 q1 q2 hv hm1 hm2 hb (by rw [hv.1]; exact h2)) wv_no (fun E h9 hq => Or.inl ⟨Sum.inr.inj hq.1, rfl, hq.2⟩)) (fun w hM t k0 l0 O => y_chord_2 hM t k0 l0 O hv h2 hb)
    · obtain ⟨c, hc, rfl⟩ := i32_lt (N := N) (by omega) rfl h2
      by_cases h3 : x3 < 0 ∨ ¬ x3 ≤ 2
      · exact zSp_err hC0 hz hR hmr hout hb1 hb2 (b := nI 2) (by decide) (w_chord q1 (by decide) (x_chord_3 q1 q2 hv hm1 hm2 hb hc h3) wv_no (fun E h9 hq => Or.inr (⟨Sum.inr.inj hq.1, rfl, hq.2⟩))) (fun w hM t k0 l0 O => y_chord_3 hM t k0 l0 O hv hb hc h3)
      · obtain ⟨e, he, rfl⟩ := i32_le (N := 2) (by decide) rfl h3
        exact zSp_ok (T := zT9) (S2 := sCan σ s n) (st2 := st) (ss2 := ss) hz hmr hout zT9_o (fun f1 m1 h1 => CI_9 (m := m) q1 q2 q4 q5 q6 q7 q8 q9 q10 h1.1 h1.2) (fun hk => w_chord q1 (by decide) (c_chord q1 q2 hv q3 hb hc he) (wv_ok hk) wx_no) (fun f2 m2 w hM t k0 l0 O => c_m9chord hM t k0 l0 O (by omega) hw r1 hn2 hb hc (by omega)) (by decide) (zq_same hR)
set_option maxRecDepth 10000 in
set_option maxHeartbeats 1000000 in
theorem s_wound {G : zW} {f : zHM} {m : Nat × Nat} {x o out cap : Nat} {th : Int32} {J : Nat × Nat} (hJ : JI f m x o th cap J) (hout : ∃ g : Nat → Int64, f out = some (750, .inl (1, 1, .inr (.inl g)))) (hb1 : J.1 + 1 ≤ 50000) (hb2 : J.2 + 6 ≤ 399990) (hcap : cap + 400000 < 2 ^ 30) (x1 x2 : Int32) : zSp G x o out (cap + 400000) (J.1 + 1, J.2 + 6) f m yL_wound cL_wound 5 [(0, 10, 13, 13)] yX4_wound cX4_wound 3 [.int x1, .int x2] := by
  obtain ⟨k, st, ss, L, ch, B, hh, σ, mr, svm, hsl, slm, N, s, n, hC, hz, hR, hmr⟩ := hJ
  have hC0 := hC
  obtain ⟨r, tr, sc, tx, sl, sv, la, A, gv, π, gs, co, M, q1, q2, q3, q4, q5, q6, q7, q8, q9, q10⟩ := hC
  have q2 : RPic f 0 r la A (rOf σ) n (sXs (rOf σ) s n) (sTm (rOf σ) n) := q2
  obtain ⟨r1, r2, r3, r4⟩ := id hR
  obtain ⟨hw, hn2, ⟨a, ha, hat⟩, ⟨u0, hu0, hnow⟩, -⟩ := id r2
  have hv := hw.1
  have hN : N ≤ 24 := hv.N24
  have hm1 : m.1 + 1 ≤ 50000 := by have := q3.m1; omega
  have hm2 : m.2 + 6 ≤ 400000 := by have := q3.m2; omega
  by_cases h1 : x1 < 0
  · exact zSp_err hC0 hz hR hmr hout hb1 hb2 (b := nI 1) (by decide) (w_wound q1 (by decide) (x_wound_1 hm1 hm2 h1) wv_no (fun E h9 hq => ⟨Sum.inr.inj hq.1, rfl, hq.2⟩)) (fun w hM t k0 l0 O => y_wound_1 hM t k0 l0 O h1)
  · obtain ⟨g, hg, rfl⟩ := i32_nn h1
    by_cases h2 : x2 < 0 ∨ ¬ x2 ≤ 2
    · exact zSp_err hC0 hz hR hmr hout hb1 hb2 (b := nI 1) (by decide) (w_wound q1 (by decide) (x_wound_2 hm1 hm2 h1 h2) wv_no (fun E h9 hq => ⟨Sum.inr.inj hq.1, rfl, hq.2⟩)) (fun w hM t k0 l0 O => y_wound_2 hM t k0 l0 O hg h2)
    · obtain ⟨e, he, rfl⟩ := i32_le (N := 2) (by decide) rfl h2
      exact zSp_qry hC0 hz hR hmr hout (fun hk => w_wound q1 (by decide) (c_wound q1 q2 (by omega) hg he) (wv_ok hk) wx_no) (fun f2 m2 w hM t k0 l0 O => c_m9wound hM t k0 l0 O r1 hn2 hg (by omega)) (by decide)
set_option maxRecDepth 10000 in
set_option maxHeartbeats 1000000 in
theorem s_square {G : zW} {f : zHM} {m : Nat × Nat} {x o out cap : Nat} {th : Int32} {J : Nat × Nat} (hJ : JI f m x o th cap J) (hout : ∃ g : Nat → Int64, f out = some (750, .inl (1, 1, .inr (.inl g)))) (hb1 : J.1 + 1 ≤ 50000) (hb2 : J.2 + 6 ≤ 399990) (hcap : cap + 400000 < 2 ^ 30) (x1 x2 x3 : Int32) : zSp G x o out (cap + 400000) (J.1 + 1, J.2 + 6) f m yL_square cL_square 6 [(0, 12, 15, 19), (0, 12, 19, 13)] yX4_square cX4_square 4 [.int x1, .int x2, .int x3] := by
  obtain ⟨k, st, ss, L, ch, B, hh, σ, mr, svm, hsl, slm, N, s, n, hC, hz, hR, hmr⟩ := hJ
  have hC0 := hC
  obtain ⟨r, tr, sc, tx, sl, sv, la, A, gv, π, gs, co, M, q1, q2, q3, q4, q5, q6, q7, q8, q9, q10⟩ := hC
  have q2 : RPic f 0 r la A (rOf σ) n (sXs (rOf σ) s n) (sTm (rOf σ) n) := q2
  obtain ⟨r1, r2, r3, r4⟩ := id hR
  obtain ⟨hw, hn2, ⟨a, ha, hat⟩, ⟨u0, hu0, hnow⟩, -⟩ := id r2
  have hv := hw.1
  have hN : N ≤ 24 := hv.N24
  have hm1 : m.1 + 1 ≤ 50000 := by have := q3.m1; omega
  have hm2 : m.2 + 6 ≤ 400000 := by have := q3.m2; omega
  by_cases h1 : x1 < 0 ∨ 12 ≤ x1 ∨ x2 < 0 ∨ ¬ x2 < 12
  · exact zSp_err hC0 hz hR hmr hout hb1 hb2 (b := nI 1) (by decide) (w_square q1 (by decide) (x_square_1 hm1 hm2 h1) wv_no (fun E h9 hq => Or.inl ⟨Sum.inr.inj hq.1, rfl, hq.2⟩)) (fun w hM t k0 l0 O => y_square_1 hM t k0 l0 O h1)
  · obtain ⟨b, hb, rfl⟩ := i32_lt (N := 12) (v := x1) (c := 12) (by decide) rfl (fun z => z.elim (fun z => h1 (Or.inl z)) (fun z => h1 (Or.inr (Or.inl (Int32.not_lt.mp z)))))
    obtain ⟨c, hc, rfl⟩ := i32_lt (N := 12) (v := x2) (c := 12) (by decide) rfl (fun z => h1 (Or.inr (Or.inr z)))
    by_cases h3 : x3 < 0 ∨ ¬ x3 ≤ 3
    · exact zSp_err hC0 hz hR hmr hout hb1 hb2 (b := nI 2) (by decide) (w_square q1 (by decide) (x_square_2 hm1 hm2 hb hc h3) wv_no (fun E h9 hq => Or.inr (⟨Sum.inr.inj hq.1, rfl, hq.2⟩))) (fun w hM t k0 l0 O => y_square_2 hM t k0 l0 O hb hc h3)
    · obtain ⟨e, he, rfl⟩ := i32_le (N := 3) (by decide) rfl h3
      exact zSp_qry hC0 hz hR hmr hout (fun hk => w_square q1 (by decide) (c_square q1 q2 hb hc he) (wv_ok hk) wx_no) (fun f2 m2 w hM t k0 l0 O => c_m9square hM t k0 l0 O (by omega) hw r1 hn2 hb hc (by omega)) (by decide)
set_option maxRecDepth 10000 in
set_option maxHeartbeats 1000000 in
theorem s_count {G : zW} {f : zHM} {m : Nat × Nat} {x o out cap : Nat} {th : Int32} {J : Nat × Nat} (hJ : JI f m x o th cap J) (hout : ∃ g : Nat → Int64, f out = some (750, .inl (1, 1, .inr (.inl g)))) (hb1 : J.1 + 1 ≤ 50000) (hb2 : J.2 + 6 ≤ 399990) (hcap : cap + 400000 < 2 ^ 30) (x1 : Int32) : zSp G x o out (cap + 400000) (J.1 + 1, J.2 + 6) f m yL_count cL_count 4 [(0, 9, 12, 13)] yX4_count cX4_count 2 [.int x1] := by
  obtain ⟨k, st, ss, L, ch, B, hh, σ, mr, svm, hsl, slm, N, s, n, hC, hz, hR, hmr⟩ := hJ
  have hC0 := hC
  obtain ⟨r, tr, sc, tx, sl, sv, la, A, gv, π, gs, co, M, q1, q2, q3, q4, q5, q6, q7, q8, q9, q10⟩ := hC
  have q2 : RPic f 0 r la A (rOf σ) n (sXs (rOf σ) s n) (sTm (rOf σ) n) := q2
  obtain ⟨r1, r2, r3, r4⟩ := id hR
  obtain ⟨hw, hn2, ⟨a, ha, hat⟩, ⟨u0, hu0, hnow⟩, -⟩ := id r2
  have hv := hw.1
  have hN : N ≤ 24 := hv.N24
  have hm1 : m.1 + 1 ≤ 50000 := by have := q3.m1; omega
  have hm2 : m.2 + 6 ≤ 400000 := by have := q3.m2; omega
  by_cases h1 : x1 < 0 ∨ ¬ x1 ≤ 12
  · exact zSp_err hC0 hz hR hmr hout hb1 hb2 (b := nI 1) (by decide) (w_count q1 (by decide) (x_count hm1 hm2 h1) wv_no (fun E h9 hq => ⟨Sum.inr.inj hq.1, rfl, hq.2⟩)) (fun w hM t k0 l0 O => y_count_1 hM t k0 l0 O h1)
  · obtain ⟨e, he, rfl⟩ := i32_le (N := 12) (by decide) rfl h1
    obtain ⟨gq, q5⟩ := q5
    have hcn : mCount (rOf σ) s n k e = sCount (rOf σ) s n k e := by
      unfold mCount
      split
      · rename_i h8
        subst h8
        exact (sMG_misfit r2).symm
      · rfl
    exact zSp_ok (T := zT96) (S2 := sCan σ s n) (st2 := st) (ss2 := ss) hz hmr hout (fun τ h => by rcases h with h | h <;> omega) (fun f1 m1 h1 => CI_D (m := m) q1 q2 (q4.fr h1.2.2 (fun k hk z => by rcases z with z | z <;> omega)) h1.1 q6 q7 q8 q9 q10 h1.2.1 h1.2.2 (fun τ z => z.elim Or.inl (fun z => Or.inr (Or.inl z)))) (fun hk => w_count q1 (by decide) (c_count q1 q2 hw q3 q5 he) (wv_ok hk) wx_no) (fun f2 m2 w hM t k0 l0 O => hcn ▸ c_m9count hM t k0 l0 O hw r1 hn2 (by omega)) (by decide) (zq_same hR)
set_option maxRecDepth 10000 in
set_option maxHeartbeats 1000000 in
theorem s_setting {G : zW} {f : zHM} {m : Nat × Nat} {x o out cap : Nat} {th : Int32} {J : Nat × Nat} (hJ : JI f m x o th cap J) (hout : ∃ g : Nat → Int64, f out = some (750, .inl (1, 1, .inr (.inl g)))) (hb1 : J.1 + 1 ≤ 50000) (hb2 : J.2 + 6 ≤ 399990) (hcap : cap + 400000 < 2 ^ 30) (x1 : Int32) : zSp G x o out (cap + 400000) (J.1 + 1, J.2 + 6) f m yL_setting cL_setting 4 [(0, 9, 12, 19)] yX4_setting cX4_setting 2 [.int x1] := by
  obtain ⟨k, st, ss, L, ch, B, hh, σ, mr, svm, hsl, slm, N, s, n, hC, hz, hR, hmr⟩ := hJ
  have hC0 := hC
  obtain ⟨r, tr, sc, tx, sl, sv, la, A, gv, π, gs, co, M, q1, q2, q3, q4, q5, q6, q7, q8, q9, q10⟩ := hC
  have q2 : RPic f 0 r la A (rOf σ) n (sXs (rOf σ) s n) (sTm (rOf σ) n) := q2
  obtain ⟨r1, r2, r3, r4⟩ := id hR
  obtain ⟨hw, hn2, ⟨a, ha, hat⟩, ⟨u0, hu0, hnow⟩, -⟩ := id r2
  have hv := hw.1
  have hN : N ≤ 24 := hv.N24
  have hm1 : m.1 + 1 ≤ 50000 := by have := q3.m1; omega
  have hm2 : m.2 + 6 ≤ 400000 := by have := q3.m2; omega
  by_cases h1 : x1 < 0 ∨ ¬ x1 < 3
  · exact zSp_err hC0 hz hR hmr hout hb1 hb2 (b := nI 1) (by decide) (w_setting q1 (by decide) (x_setting hm1 hm2 h1) wv_no (fun E h9 hq => ⟨Sum.inr.inj hq.1, rfl, hq.2⟩)) (fun w hM t k0 l0 O => y_setting_1 hM t k0 l0 O h1)
  · obtain ⟨b, hb, rfl⟩ := i32_lt (N := 3) (by decide) rfl h1
    exact zSp_qry hC0 hz hR hmr hout (fun hk => w_setting q1 (by decide) (c_setting q1 q2 hb) (wv_ok hk) wx_no) (fun f2 m2 w hM t k0 l0 O => c_m9setting hM t k0 l0 O hb) (by decide)
set_option maxRecDepth 10000 in
set_option maxHeartbeats 1000000 in
theorem s_whyNot {G : zW} {f : zHM} {m : Nat × Nat} {x o out cap : Nat} {th : Int32} {J : Nat × Nat} (hJ : JI f m x o th cap J) (hout : ∃ g : Nat → Int64, f out = some (750, .inl (1, 1, .inr (.inl g)))) (hb1 : J.1 + 1 ≤ 50000) (hb2 : J.2 + 6 ≤ 399990) (hcap : cap + 400000 < 2 ^ 30) (x1 : Int32) : zSp G x o out (cap + 400000) (J.1 + 1, J.2 + 6) f m yL_whyNot cL_whyNot 4 [(0, 9, 12, 19)] yX4_whyNot cX4_whyNot 2 [.int x1] := by
  obtain ⟨k, st, ss, L, ch, B, hh, σ, mr, svm, hsl, slm, N, s, n, hC, hz, hR, hmr⟩ := hJ
  have hC0 := hC
  obtain ⟨r, tr, sc, tx, sl, sv, la, A, gv, π, gs, co, M, q1, q2, q3, q4, q5, q6, q7, q8, q9, q10⟩ := hC
  have q2 : RPic f 0 r la A (rOf σ) n (sXs (rOf σ) s n) (sTm (rOf σ) n) := q2
  obtain ⟨r1, r2, r3, r4⟩ := id hR
  obtain ⟨hw, hn2, ⟨a, ha, hat⟩, ⟨u0, hu0, hnow⟩, -⟩ := id r2
  have hv := hw.1
  have hN : N ≤ 24 := hv.N24
  have hm1 : m.1 + 1 ≤ 50000 := by have := q3.m1; omega
  have hm2 : m.2 + 6 ≤ 400000 := by have := q3.m2; omega
  by_cases h1 : x1 < 0 ∨ ¬ x1 < nI N
  · exact zSp_err hC0 hz hR hmr hout hb1 hb2 (b := nI 1) (by decide) (w_whyNot q1 (by decide) (x_whyNot q1 q2 hm1 hm2 (by rw [hv.1]; exact h1)) wv_no (fun E h9 hq => ⟨Sum.inr.inj hq.1, rfl, hq.2⟩)) (fun w hM t k0 l0 O => y_whyNot_1 hM t k0 l0 O hv h1)
  · obtain ⟨b, hb, rfl⟩ := i32_lt (N := N) (by omega) rfl h1
    exact zSp_ok (T := zT9) (S2 := sCan σ s n) (st2 := st) (ss2 := ss) hz hmr hout zT9_o (fun f1 m1 h1 => CI_9 (m := m) q1 q2 q4 q5 q6 q7 q8 q9 q10 h1.1 h1.2) (fun hk => w_whyNot q1 (by decide) (c_whyNot q1 q2 hv q3 ha hu0 hat hnow hb) (wv_ok hk) wx_no) (fun f2 m2 w hM t k0 l0 O => c_m9whyNot hM t k0 l0 O hw r1 hn2 ha hat hu0 hnow hb) (by decide) (zq_same hR)
set_option maxRecDepth 10000 in
set_option maxHeartbeats 1000000 in
theorem s_gain {G : zW} {f : zHM} {m : Nat × Nat} {x o out cap : Nat} {th : Int32} {J : Nat × Nat} (hJ : JI f m x o th cap J) (hout : ∃ g : Nat → Int64, f out = some (750, .inl (1, 1, .inr (.inl g)))) (hb1 : J.1 + 1 ≤ 50000) (hb2 : J.2 + 6 ≤ 399990) (hcap : cap + 400000 < 2 ^ 30) (x1 : Int32) : zSp G x o out (cap + 400000) (J.1 + 1, J.2 + 6) f m yL_gain cL_gain 4 [(0, 9, 12, 19)] yX4_gain cX4_gain 2 [.int x1] := by
  obtain ⟨k, st, ss, L, ch, B, hh, σ, mr, svm, hsl, slm, N, s, n, hC, hz, hR, hmr⟩ := hJ
  have hC0 := hC
  obtain ⟨r, tr, sc, tx, sl, sv, la, A, gv, π, gs, co, M, q1, q2, q3, q4, q5, q6, q7, q8, q9, q10⟩ := hC
  have q2 : RPic f 0 r la A (rOf σ) n (sXs (rOf σ) s n) (sTm (rOf σ) n) := q2
  obtain ⟨r1, r2, r3, r4⟩ := id hR
  obtain ⟨hw, hn2, ⟨a, ha, hat⟩, ⟨u0, hu0, hnow⟩, -⟩ := id r2
  have hv := hw.1
  have hN : N ≤ 24 := hv.N24
  have hm1 : m.1 + 1 ≤ 50000 := by have := q3.m1; omega
  have hm2 : m.2 + 6 ≤ 400000 := by have := q3.m2; omega
  by_cases h1 : x1 < 0 ∨ ¬ x1 < nI N
  · exact zSp_err hC0 hz hR hmr hout hb1 hb2 (b := nI 1) (by decide) (w_gain q1 (by decide) (x_gain q1 q2 hm1 hm2 (by rw [hv.1]; exact h1)) wv_no (fun E h9 hq => ⟨Sum.inr.inj hq.1, rfl, hq.2⟩)) (fun w hM t k0 l0 O => y_gain_1 hM t k0 l0 O hv h1)
  · obtain ⟨b, hb, rfl⟩ := i32_lt (N := N) (by omega) rfl h1
    exact zSp_ok (T := zT9) (S2 := sCan σ s n) (st2 := st) (ss2 := ss) hz hmr hout zT9_o (fun f1 m1 h1 => CI_9 (m := m) q1 q2 q4 q5 q6 q7 q8 q9 q10 h1.1 h1.2) (fun hk => w_gain q1 (by decide) (c_gain q1 q2 hv q3 ha hu0 hat hnow hb) (wv_ok hk) wx_no) (fun f2 m2 w hM t k0 l0 O => c_m9gain hM t k0 l0 O (by omega) hw r1 hn2 ha hat hu0 hnow hb) (by decide) (zq_same hR)
