/-! THE STEPS OF THE LAW, ONE BY ONE: the calls that save. -/
theorem zTU_o : ∀ τ, zTU τ → τ < 700 ∨ 750 < τ := fun τ h => by
  rcases h with h | h | h | h | h <;> omega
theorem i32_19 {v : Int32} (h1 : ¬ v < 1) (h2 : v ≤ 9) : ∃ k, 1 ≤ k ∧ k ≤ 9 ∧ v = nI k := by
  have a0 : (1 : Int) ≤ v.toInt := Int32.le_iff_toInt_le.mp (Int32.not_lt.mp h1)
  obtain ⟨e, he, rfl⟩ := i32_le (N := 9) (v := v) (c := 9) (by decide) rfl (fun z => by
    rcases z with z | z
    · have a1 : v.toInt < 0 := Int32.lt_iff_toInt_lt.mp z
      omega
    · exact z h2)
  refine ⟨e, ?_, he, rfl⟩
  rcases Nat.eq_zero_or_pos e with z | z
  · subst z
    exact absurd h1 (by decide)
  · exact z
/-- after a call that saved and laid no chord -/
theorem zq_set {σ σ9 : Nat → Int32} {n N s k : Nat} {st : Nat → zST} {svm : Nat → Nat → Int32} {ss : Nat → Option zST} {hsl : Nat → Int32} {slm : Nat → Nat → Int32} (hR : RB σ n N s k st svm ss hsl slm) (hk : k ≤ 6) {ρ2 : zRS} (he : zEQ n ρ2 (rOf σ9)) (h15 : σ9 15 = σ 15) (hi : IVr N s n ρ2) (h4 : ρ2 4 = rOf σ 4) (h5 : ρ2 5 = rOf σ 5) (h0 : ρ2 0 0 = rOf σ 0 0) :
    ∃ N2 s2, SR s2 (ρ2, n, sXs (rOf σ) s n, sTm (rOf σ) n) σ9 ∧ RB σ9 n N2 s2 (sPK k) (sPS k st (sCan σ s n)) (sPM k svm σ) ss hsl slm := by
  refine ⟨N, s, ⟨h15.trans hR.1, he, fun q hq => ?_, fun p hp => ?_⟩, hR.save hk (h15.trans hR.1) (IVr_eq he hi)⟩
  · show sXs (rOf σ) s n q = sXs (rOf σ9) s n q
    rw [← sXs_eq he]
    unfold sXs
    rw [h4, h5]
  · show sTm (rOf σ) n p = sTm (rOf σ9) n p
    rw [← sTm_eq he]
    unfold sTm sStep
    rw [h4, h5, h0]
set_option maxRecDepth 10000 in
set_option maxHeartbeats 1000000 in
theorem s_knot {G : zW} {f : zHM} {m : Nat × Nat} {x o out cap : Nat} {th : Int32} {J : Nat × Nat} (hJ : JI f m x o th cap J) (hout : ∃ g : Nat → Int64, f out = some (750, .inl (1, 1, .inr (.inl g)))) (hb1 : J.1 + 1 ≤ 50000) (hb2 : J.2 + 6 ≤ 399990) (hcap : cap + 400000 < 2 ^ 30) (x1 : Int32) : zSp G x o out (cap + 400000) (J.1 + 1, J.2 + 6) f m yL_knot cL_knot 4 [(0, 9, 12, 19), (0, 9, 15, 21)] yX4_knot cX4_knot 2 [.int x1] := by
  obtain ⟨k, st, ss, L, ch, B, hh, σ, mr, svm, hsl, slm, N, s, n, hC, hz, hR, hmr⟩ := hJ
  have hC0 := hC
  obtain ⟨r, tr, sc, tx, sl, sv, la, A, gv, π, gs, co, M, q1, q2, q3, q4, q5, q6, q7, q8, q9, q10⟩ := hC
  have q2 : RPic f 0 r la A (rOf σ) n (sXs (rOf σ) s n) (sTm (rOf σ) n) := q2
  obtain ⟨r1, r2, r3, r4⟩ := id hR
  obtain ⟨hw, hn2, ⟨a, ha, hat⟩, ⟨u0, hu0, hnow⟩, -⟩ := id r2
  have hv := hw.1
  have hN : N ≤ 24 := hv.N24
  have hm1 : m.1 + 1 ≤ 50000 := by have := q3.m1; omega
  have hm2 : m.2 + 6 ≤ 400000 := by have := q3.m2; omega
  have hB : M.1 + 11 * zcn gv 6 ≤ 50000 ∧ M.2 + 1339 * zcn gv 6 ≤ 399990 := ⟨by omega, by omega⟩
  have hk6 := q7.1
  by_cases h1 : x1 < 0 ∨ ¬ x1 < 3
  · exact zSp_err hC0 hz hR hmr hout hb1 hb2 (b := nI 1) (by decide) (w_knot q1 (by decide) (x_knot_1 hm1 hm2 h1) wv_no (fun E h9 hq => Or.inl ⟨Sum.inr.inj hq.1, rfl, hq.2⟩)) (fun w hM t k0 l0 O => y_knot_1 hM t k0 l0 O h1)
  · obtain ⟨b, hb, rfl⟩ := i32_lt (N := 3) (by decide) rfl h1
    by_cases h2 : nI b = rOf σ 0 2
    · exact zSp_err hC0 hz hR hmr hout hb1 hb2 (b := nI 2) (by decide) (w_knot q1 (by decide) (x_knot_2 q1 q2 hm1 hm2 hb h2) wv_no (fun E h9 hq => Or.inr (⟨Sum.inr.inj hq.1, rfl, hq.2⟩))) (fun w hM t k0 l0 O => y_knot_2 hM t k0 l0 O hb h2)
    · exact zSp_ok (T := zTU) (S2 := (sKnotS (rOf σ) b, n, sXs (rOf σ) s n, sTm (rOf σ) n)) (st2 := sPS k st (sCan σ s n)) (ss2 := ss) hz hmr hout zTU_o (fun f1 m1 h1 => CI_ZP q4 q5 q6 q8 q9 q10 h1) (fun hk => w_knot q1 (by decide) (c_knot q1 q2 (by omega) q3 q7 hB hb h2) (wv_ok hk) wx_no) (fun f2 m2 w hM t k0 l0 O => c_m9knot hM t k0 l0 O hb h2) (by decide) (fun σ9 h => zq_set hR hk6 (h.1 n hn2) h.2 (IVr_knot r2 hb) rfl rfl rfl)
set_option maxRecDepth 10000 in
set_option maxHeartbeats 1000000 in
theorem s_set {G : zW} {f : zHM} {m : Nat × Nat} {x o out cap : Nat} {th : Int32} {J : Nat × Nat} (hJ : JI f m x o th cap J) (hout : ∃ g : Nat → Int64, f out = some (750, .inl (1, 1, .inr (.inl g)))) (hb1 : J.1 + 1 ≤ 50000) (hb2 : J.2 + 6 ≤ 399990) (hcap : cap + 400000 < 2 ^ 30) (x1 x2 : Int32) : zSp G x o out (cap + 400000) (J.1 + 1, J.2 + 6) f m yL_set cL_set 5 [(0, 10, 13, 19), (0, 10, 17, 13)] yX4_set cX4_set 4 [.int x1, .int x2] := by
  obtain ⟨k, st, ss, L, ch, B, hh, σ, mr, svm, hsl, slm, N, s, n, hC, hz, hR, hmr⟩ := hJ
  have hC0 := hC
  obtain ⟨r, tr, sc, tx, sl, sv, la, A, gv, π, gs, co, M, q1, q2, q3, q4, q5, q6, q7, q8, q9, q10⟩ := hC
  have q2 : RPic f 0 r la A (rOf σ) n (sXs (rOf σ) s n) (sTm (rOf σ) n) := q2
  obtain ⟨r1, r2, r3, r4⟩ := id hR
  obtain ⟨hw, hn2, ⟨a, ha, hat⟩, ⟨u0, hu0, hnow⟩, -⟩ := id r2
  have hv := hw.1
  have hN : N ≤ 24 := hv.N24
  have hm1 : m.1 + 1 ≤ 50000 := by have := q3.m1; omega
  have hm2 : m.2 + 6 ≤ 400000 := by have := q3.m2; omega
  have hB : M.1 + 11 * zcn gv 6 ≤ 50000 ∧ M.2 + 1339 * zcn gv 6 ≤ 399990 := ⟨by omega, by omega⟩
  have hk6 := q7.1
  by_cases h1 : x1 < 0 ∨ ¬ x1 < 3
  · exact zSp_err hC0 hz hR hmr hout hb1 hb2 (b := nI 1) (by decide) (w_set q1 (by decide) (x_set_1 hm1 hm2 h1) wv_no (fun E h9 hq => Or.inl ⟨Sum.inr.inj hq.1, rfl, hq.2⟩)) (fun w hM t k0 l0 O => y_set_1 hM t k0 l0 O h1)
  · obtain ⟨b, hb, rfl⟩ := i32_lt (N := 3) (by decide) rfl h1
    by_cases h2 : x2 < 1 ∨ ¬ x2 ≤ zMS.getD b 0
    · exact zSp_err hC0 hz hR hmr hout hb1 hb2 (b := nI 2) (by decide) (w_set q1 (by decide) (x_set_2 hm1 hm2 hb h2) wv_no (fun E h9 hq => Or.inr (⟨Sum.inr.inj hq.1, rfl, hq.2⟩))) (fun w hM t k0 l0 O => y_set_2 hM t k0 l0 O hb h2)
    · have v1 : ¬ x2 < 1 := fun z => h2 (Or.inl z)
      have v2 : x2 ≤ zMS.getD b 0 := Classical.not_not.mp (fun z => h2 (Or.inr z))
      exact zSp_ok (T := zTU) (S2 := (sSetS (rOf σ) b x2, n, sXs (rOf σ) s n, sTm (rOf σ) n)) (st2 := sPS k st (sCan σ s n)) (ss2 := ss) hz hmr hout zTU_o (fun f1 m1 h1 => CI_ZP q4 q5 q6 q8 q9 q10 h1) (fun hk => w_set q1 (by decide) (c_set q1 q2 (by omega) q3 q7 hB hb v1 v2) (wv_ok hk) wx_no) (fun f2 m2 w hM t k0 l0 O => c_m9set hM t k0 l0 O hb v1 v2) (by decide) (fun σ9 h => zq_set hR hk6 (h.1 n hn2) h.2 (IVr_set r2 (fun e => i32_19 v1 (by subst e; exact v2))) rfl rfl rfl)
set_option maxRecDepth 10000 in
set_option maxHeartbeats 1000000 in
theorem s_spool {G : zW} {f : zHM} {m : Nat × Nat} {x o out cap : Nat} {th : Int32} {J : Nat × Nat} (hJ : JI f m x o th cap J) (hout : ∃ g : Nat → Int64, f out = some (750, .inl (1, 1, .inr (.inl g)))) (hb1 : J.1 + 1 ≤ 50000) (hb2 : J.2 + 6 ≤ 399990) (hcap : cap + 400000 < 2 ^ 30) (x1 x2 x3 : Int32) : zSp G x o out (cap + 400000) (J.1 + 1, J.2 + 6) f m yL_spool cL_spool 6 [(0, 12, 15, 19), (0, 12, 19, 13), (0, 12, 23, 21)] yX4_spool cX4_spool 5 [.int x1, .int x2, .int x3] := by
  obtain ⟨k, st, ss, L, ch, B, hh, σ, mr, svm, hsl, slm, N, s, n, hC, hz, hR, hmr⟩ := hJ
  have hC0 := hC
  obtain ⟨r, tr, sc, tx, sl, sv, la, A, gv, π, gs, co, M, q1, q2, q3, q4, q5, q6, q7, q8, q9, q10⟩ := hC
  have q2 : RPic f 0 r la A (rOf σ) n (sXs (rOf σ) s n) (sTm (rOf σ) n) := q2
  obtain ⟨r1, r2, r3, r4⟩ := id hR
  obtain ⟨hw, hn2, ⟨a, ha, hat⟩, ⟨u0, hu0, hnow⟩, -⟩ := id r2
  have hv := hw.1
  have hN : N ≤ 24 := hv.N24
  have hm1 : m.1 + 1 ≤ 50000 := by have := q3.m1; omega
  have hm2 : m.2 + 6 ≤ 400000 := by have := q3.m2; omega
  have hB : M.1 + 11 * zcn gv 6 ≤ 50000 ∧ M.2 + 1339 * zcn gv 6 ≤ 399990 := ⟨by omega, by omega⟩
  have hk6 := q7.1
  by_cases h1 : x1 < 0 ∨ ¬ x1 < 3
  · exact zSp_err hC0 hz hR hmr hout hb1 hb2 (b := nI 1) (by decide) (w_spool q1 (by decide) (x_spool_1 hm1 hm2 h1) wv_no (fun E h9 hq => Or.inl ⟨Sum.inr.inj hq.1, rfl, hq.2⟩)) (fun w hM t k0 l0 O => y_spool_1 hM t k0 l0 O h1)
  · obtain ⟨b, hb, rfl⟩ := i32_lt (N := 3) (by decide) rfl h1
    by_cases h2 : x2 < 1 ∨ ¬ x2 ≤ 9
    · exact zSp_err hC0 hz hR hmr hout hb1 hb2 (b := nI 2) (by decide) (w_spool q1 (by decide) (x_spool_2 hm1 hm2 hb h2) wv_no (fun E h9 hq => Or.inr (Or.inl ⟨Sum.inr.inj hq.1, rfl, hq.2⟩))) (fun w hM t k0 l0 O => y_spool_2 hM t k0 l0 O hb h2)
    · have v1 : ¬ x2 < 1 := fun z => h2 (Or.inl z)
      have v2 : x2 ≤ 9 := Classical.not_not.mp (fun z => h2 (Or.inr z))
      by_cases h3 : x3 < 0 ∨ ¬ x3 ≤ 9999
      · exact zSp_err hC0 hz hR hmr hout hb1 hb2 (b := nI 2) (by decide) (w_spool q1 (by decide) (x_spool_3 hm1 hm2 hb v1 v2 h3) wv_no (fun E h9 hq => Or.inr (Or.inl ⟨Sum.inr.inj hq.1, rfl, hq.2⟩))) (fun w hM t k0 l0 O => y_spool_3 hM t k0 l0 O hb v1 v2 h3)
      · have v3 : ¬ x3 < 0 := fun z => h3 (Or.inl z)
        have v4 : x3 ≤ 9999 := Classical.not_not.mp (fun z => h3 (Or.inr z))
        by_cases h4 : nI b = rOf σ 0 2 ∨ ¬ sCh (rOf σ) n (nI b) ≤ 0
        · exact zSp_err hC0 hz hR hmr hout hb1 hb2 (b := nI 3) (by decide) (w_spool q1 (by decide) (x_spool_4 q1 q2 (by omega) hm1 hm2 hb v1 v2 v3 v4 h4) wv_no (fun E h9 hq => Or.inr (Or.inr (⟨Sum.inr.inj hq.1, rfl, hq.2⟩)))) (fun w hM t k0 l0 O => y_spool_4 hM t k0 l0 O r1 hn2 hb v1 v2 v3 v4 h4)
        · have v5 : ¬ nI b = rOf σ 0 2 := fun z => h4 (Or.inl z)
          have v6 : sCh (rOf σ) n (nI b) ≤ 0 := Classical.not_not.mp (fun z => h4 (Or.inr z))
          exact zSp_ok (T := zTU) (S2 := (sSpoolS (rOf σ) b x2 x3, n, sXs (rOf σ) s n, sTm (rOf σ) n)) (st2 := sPS k st (sCan σ s n)) (ss2 := ss) hz hmr hout zTU_o (fun f1 m1 h1 => CI_ZP q4 q5 q6 q8 q9 q10 h1) (fun hk => w_spool q1 (by decide) (c_spool q1 q2 (by omega) q3 q7 hB hb v1 v2 v3 v4 v5 v6) (wv_ok hk) wx_no) (fun f2 m2 w hM t k0 l0 O => c_m9spool hM t k0 l0 O r1 hn2 hb v1 v2 v3 v4 v5 v6) (by decide) (fun σ9 h => zq_set hR hk6 (h.1 n hn2) h.2 (IVr_spool r2 hb v6 (i32_19 v1 v2)) rfl rfl rfl)
set_option maxRecDepth 10000 in
set_option maxHeartbeats 1000000 in
theorem s_want {G : zW} {f : zHM} {m : Nat × Nat} {x o out cap : Nat} {th : Int32} {J : Nat × Nat} (hJ : JI f m x o th cap J) (hout : ∃ g : Nat → Int64, f out = some (750, .inl (1, 1, .inr (.inl g)))) (hb1 : J.1 + 1 ≤ 50000) (hb2 : J.2 + 6 ≤ 399990) (hcap : cap + 400000 < 2 ^ 30) (x1 x2 x3 : Int32) : zSp G x o out (cap + 400000) (J.1 + 1, J.2 + 6) f m yL_want cL_want 6 [(0, 12, 15, 19), (0, 12, 19, 13)] yX4_want cX4_want 5 [.int x1, .int x2, .int x3] := by
  obtain ⟨k, st, ss, L, ch, B, hh, σ, mr, svm, hsl, slm, N, s, n, hC, hz, hR, hmr⟩ := hJ
  have hC0 := hC
  obtain ⟨r, tr, sc, tx, sl, sv, la, A, gv, π, gs, co, M, q1, q2, q3, q4, q5, q6, q7, q8, q9, q10⟩ := hC
  have q2 : RPic f 0 r la A (rOf σ) n (sXs (rOf σ) s n) (sTm (rOf σ) n) := q2
  obtain ⟨r1, r2, r3, r4⟩ := id hR
  obtain ⟨hw, hn2, ⟨a, ha, hat⟩, ⟨u0, hu0, hnow⟩, -⟩ := id r2
  have hv := hw.1
  have hN : N ≤ 24 := hv.N24
  have hm1 : m.1 + 1 ≤ 50000 := by have := q3.m1; omega
  have hm2 : m.2 + 6 ≤ 400000 := by have := q3.m2; omega
  have hB : M.1 + 11 * zcn gv 6 ≤ 50000 ∧ M.2 + 1339 * zcn gv 6 ≤ 399990 := ⟨by omega, by omega⟩
  have hk6 := q7.1
  by_cases h1 : x1 < 0 ∨ 12 ≤ x1 ∨ x2 < 0 ∨ ¬ x2 < 12
  · exact zSp_err hC0 hz hR hmr hout hb1 hb2 (b := nI 1) (by decide) (w_want q1 (by decide) (x_want_1 hm1 hm2 h1) wv_no (fun E h9 hq => Or.inl ⟨Sum.inr.inj hq.1, rfl, hq.2⟩)) (fun w hM t k0 l0 O => y_want_1 hM t k0 l0 O h1)
  · obtain ⟨b, hb, rfl⟩ := i32_lt (N := 12) (v := x1) (c := 12) (by decide) rfl (fun z => z.elim (fun z => h1 (Or.inl z)) (fun z => h1 (Or.inr (Or.inl (Int32.not_lt.mp z)))))
    obtain ⟨c, hc, rfl⟩ := i32_lt (N := 12) (v := x2) (c := 12) (by decide) rfl (fun z => h1 (Or.inr (Or.inr z)))
    by_cases h3 : x3 < 0 ∨ ¬ x3 ≤ 9
    · exact zSp_err hC0 hz hR hmr hout hb1 hb2 (b := nI 2) (by decide) (w_want q1 (by decide) (x_want_2 hm1 hm2 (fun z => h1 (Or.inl z)) (fun z => h1 (Or.inr (Or.inl z))) (fun z => h1 (Or.inr (Or.inr (Or.inl z)))) (Classical.not_not.mp (fun z => h1 (Or.inr (Or.inr (Or.inr z))))) h3) wv_no (fun E h9 hq => Or.inr (⟨Sum.inr.inj hq.1, rfl, hq.2⟩))) (fun w hM t k0 l0 O => y_want_2 hM t k0 l0 O hb hc h3)
    · have v1 : ¬ x3 < 0 := fun z => h3 (Or.inl z)
      have v2 : x3 ≤ 9 := Classical.not_not.mp (fun z => h3 (Or.inr z))
      obtain ⟨e, he, hee⟩ := i32_le (N := 9) (by decide) rfl h3
      exact zSp_ok (T := zTU) (S2 := (sWantS (rOf σ) (c * 12 + b) x3, n, sXs (rOf σ) s n, sTm (rOf σ) n)) (st2 := sPS k st (sCan σ s n)) (ss2 := ss) hz hmr hout zTU_o (fun f1 m1 h1 => CI_ZP q4 q5 q6 q8 q9 q10 h1) (fun hk => w_want q1 (by decide) (c_want q1 q2 (by omega) q3 q7 hB hb hc v1 v2) (wv_ok hk) wx_no) (fun f2 m2 w hM t k0 l0 O => c_m9want hM t k0 l0 O hb hc v1 v2) (by decide) (fun σ9 h => zq_set hR hk6 (h.1 n hn2) h.2 (IVr_grey r2 (fun q hq => by
        unfold upd
        split
        · exact ⟨e, he, hee⟩
        · exact r2.2.2.2.2.2.2.1 q hq)) rfl rfl rfl)
set_option maxRecDepth 10000 in
set_option maxHeartbeats 1000000 in
theorem s_wind {G : zW} {f : zHM} {m : Nat × Nat} {x o out cap : Nat} {th : Int32} {J : Nat × Nat} (hJ : JI f m x o th cap J) (hout : ∃ g : Nat → Int64, f out = some (750, .inl (1, 1, .inr (.inl g)))) (hb1 : J.1 + 1 ≤ 50000) (hb2 : J.2 + 6 ≤ 399990) (hcap : cap + 400000 < 2 ^ 30) (x1 : Int32) : zSp G x o out (cap + 400000) (J.1 + 1, J.2 + 6) f m yL_wind cL_wind 4 [(0, 9, 12, 19), (0, 9, 15, 21)] yX4_wind cX4_wind 3 [.int x1] := by
  obtain ⟨k, st, ss, L, ch, B, hh, σ, mr, svm, hsl, slm, N, s, n, hC, hz, hR, hmr⟩ := hJ
  have hC0 := hC
  obtain ⟨r, tr, sc, tx, sl, sv, la, A, gv, π, gs, co, M, q1, q2, q3, q4, q5, q6, q7, q8, q9, q10⟩ := hC
  have q2 : RPic f 0 r la A (rOf σ) n (sXs (rOf σ) s n) (sTm (rOf σ) n) := q2
  obtain ⟨r1, r2, r3, r4⟩ := id hR
  obtain ⟨hw, hn2, ⟨a, ha, hat⟩, ⟨u0, hu0, hnow⟩, -⟩ := id r2
  have hv := hw.1
  have hN : N ≤ 24 := hv.N24
  have hm1 : m.1 + 1 ≤ 50000 := by have := q3.m1; omega
  have hm2 : m.2 + 6 ≤ 400000 := by have := q3.m2; omega
  have hB : M.1 + 11 * zcn gv 6 ≤ 50000 ∧ M.2 + 1339 * zcn gv 6 ≤ 399990 := ⟨by omega, by omega⟩
  have hk6 := q7.1
  by_cases h1 : x1 < 0 ∨ ¬ x1 < nI N
  · exact zSp_err hC0 hz hR hmr hout hb1 hb2 (b := nI 1) (by decide) (w_wind q1 (by decide) (x_wind_1 q1 q2 hm1 hm2 (by rw [hv.1]; exact h1)) wv_no (fun E h9 hq => Or.inl ⟨Sum.inr.inj hq.1, rfl, hq.2⟩)) (fun w hM t k0 l0 O => y_wind_1 hM t k0 l0 O hv h1)
  · obtain ⟨b, hb, rfl⟩ := i32_lt (N := N) (by omega) rfl h1
    by_cases h2 : n < 200
    · by_cases h3 : sRef N s (rOf σ 3 0) (rOf σ 3 1) (rOf σ 2 u0) (sTm (rOf σ) n) a b = 0
      · have hab : a ≠ b := fun e => sRef_self _ _ _ _ _ _ _ (e ▸ h3)
        exact zSp_ok (T := zTU) (S2 := sWBn (rOf σ) s n (sXs (rOf σ) s n) (sTm (rOf σ) n) a b u0) (st2 := sPS k st (sCan σ s n)) (ss2 := ss) hz hmr hout zTU_o (fun f1 m1 h1 => CI_ZP q4 q5 q6 q8 q9 q10 h1) (fun hk => w_wind q1 (by decide) (c_wind_ok q1 q2 (by omega) q3 q7 hB hw ha hu0 hat hnow hb h2 ⟨h3, trivial⟩) (wv_ok hk) wx_no) (fun f2 m2 w hM t k0 l0 O => c_m9wind hM t k0 l0 O (by omega) hw r1 h2 ha hat hu0 hnow hb ⟨h3, trivial⟩) (by decide) (fun σ9 h => ⟨N, s, SR_lay (SR_can r1) hw ha hb hab hu0 h.1 h.2, hR.save hk6 h.1 (IVr_eq h.2 (IVr_inc (IVr_lay r2 h2 ha hb hab hu0 hnow) (by decide)))⟩)
      · exact zSp_ok (T := zTU) (S2 := (sInc (rOf σ) 4, n, sXs (rOf σ) s n, sTm (rOf σ) n)) (st2 := sPS k st (sCan σ s n)) (ss2 := ss) hz hmr hout zTU_o (fun f1 m1 h1 => CI_ZP q4 q5 q6 q8 q9 q10 h1) (fun hk => w_wind q1 (by decide) (c_wind_no q1 q2 (by omega) q3 q7 hB hw ha hu0 hat hnow hb h2 ⟨h3, trivial⟩) (wv_ok hk) wx_no) (fun f2 m2 w hM t k0 l0 O => y_wind_no hM t k0 l0 O hw r1 h2 ha hat hu0 hnow hb ⟨h3, trivial⟩) (by decide) (fun σ9 h => zq_set hR hk6 h.2 (h.1.trans r1.symm) (IVr_inc r2 (by decide)) rfl rfl rfl)
    · exact zSp_err hC0 hz hR hmr hout hb1 hb2 (b := nI 2) (by decide) (w_wind q1 (by decide) (x_wind_2 q1 q2 hm1 hm2 hv hb (by omega) (by omega)) wv_no (fun E h9 hq => Or.inr (⟨Sum.inr.inj hq.1, rfl, hq.2⟩))) (fun w hM t k0 l0 O => y_wind_2 hM t k0 l0 O hv hb (by rw [r1, show n = 200 by omega]))
set_option maxRecDepth 10000 in
set_option maxHeartbeats 1000000 in
theorem s_windBest {G : zW} {f : zHM} {m : Nat × Nat} {x o out cap : Nat} {th : Int32} {J : Nat × Nat} (hJ : JI f m x o th cap J) (hout : ∃ g : Nat → Int64, f out = some (750, .inl (1, 1, .inr (.inl g)))) (hb1 : J.1 + 1 ≤ 50000) (hb2 : J.2 + 6 ≤ 399990) (hcap : cap + 400000 < 2 ^ 30) (x1 : Int32) : zSp G x o out (cap + 400000) (J.1 + 1, J.2 + 6) f m yL_windBest cL_windBest 4 [(0, 9, 12, 13)] yX4_windBest cX4_windBest 4 [.int x1] := by
  obtain ⟨k, st, ss, L, ch, B, hh, σ, mr, svm, hsl, slm, N, s, n, hC, hz, hR, hmr⟩ := hJ
  have hC0 := hC
  obtain ⟨r, tr, sc, tx, sl, sv, la, A, gv, π, gs, co, M, q1, q2, q3, q4, q5, q6, q7, q8, q9, q10⟩ := hC
  have q2 : RPic f 0 r la A (rOf σ) n (sXs (rOf σ) s n) (sTm (rOf σ) n) := q2
  obtain ⟨r1, r2, r3, r4⟩ := id hR
  obtain ⟨hw, hn2, ⟨a, ha, hat⟩, ⟨u0, hu0, hnow⟩, -⟩ := id r2
  have hv := hw.1
  have hN : N ≤ 24 := hv.N24
  have hm1 : m.1 + 1 ≤ 50000 := by have := q3.m1; omega
  have hm2 : m.2 + 6 ≤ 400000 := by have := q3.m2; omega
  have hB : M.1 + 11 * zcn gv 6 ≤ 50000 ∧ M.2 + 1339 * zcn gv 6 ≤ 399990 := ⟨by omega, by omega⟩
  have hk6 := q7.1
  by_cases h1 : x1 < 1 ∨ ¬ x1 ≤ 50
  · exact zSp_err hC0 hz hR hmr hout hb1 hb2 (b := nI 1) (by decide) (w_windBest q1 (by decide) (x_windBest hm1 hm2 h1) wv_no (fun E h9 hq => ⟨Sum.inr.inj hq.1, rfl, hq.2⟩)) (fun w hM t k0 l0 O => y_windBest_1 hM t k0 l0 O h1)
  · obtain ⟨e, he, rfl⟩ := i32_le (N := 50) (v := x1) (c := 50) (by decide) rfl (fun z => by
      rcases z with z | z
      · exact h1 (Or.inl (Int32.lt_iff_toInt_lt.mpr (Int.lt_trans (Int32.lt_iff_toInt_lt.mp z) (by decide))))
      · exact h1 (Or.inr z))
    have he1 : 1 ≤ e := by
      rcases Nat.eq_zero_or_pos e with z | z
      · subst z
        exact absurd (Or.inl (by decide)) h1
      · exact z
    exact zSp_ok (T := zTU) (S2 := (sWB N s e (sCan σ s n)).1) (st2 := sPS k st (sCan σ s n)) (ss2 := ss) hz hmr hout zTU_o (fun f1 m1 h1 => CI_ZP q4 q5 q6 q8 q9 q10 h1) (fun hk => w_windBest q1 (by decide) (c_windBest q1 q2 (by omega) q3 q7 hB hw ha hu0 hat hnow he1 he) (wv_ok hk) wx_no) (fun f2 m2 w hM t k0 l0 O => c_m9windBest hM t k0 l0 O (by omega) (SR_can r1) r2 ha hat hu0 hnow he1 he) (by decide) (fun σ9 h => ⟨N, s, h.1, hR.save hk6 h.1.1 h.2⟩)
