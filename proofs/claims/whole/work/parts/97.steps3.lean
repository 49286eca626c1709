/-! THE STEPS OF THE LAW, ONE BY ONE: faces, the text, the slots, the way back. -/
theorem zTW_o : ∀ τ, zTW τ → τ < 700 ∨ 750 < τ := fun τ h => by
  rcases h with h | h | h | h | h | h | h <;> omega
theorem zTVW : ∀ τ, zTV τ → zTW τ := fun τ h => by
  rcases h with h | h | h | h | h | h
  · exact Or.inl h
  · exact Or.inr (Or.inl h)
  · exact Or.inr (Or.inr (Or.inl h))
  · exact Or.inr (Or.inr (Or.inr (Or.inr (Or.inl h))))
  · exact Or.inr (Or.inr (Or.inr (Or.inr (Or.inr (Or.inl h)))))
  · exact Or.inr (Or.inr (Or.inr (Or.inr (Or.inr (Or.inr h)))))
theorem CI_ZPV {f f1 : zHM} {m1 : Nat × Nat} {x k L r tr sc tx sl sv la co : Nat} {A : Nat → Nat} {gv gs : Nat → Option Nat} {st : Nat → zST} {ss : Nat → Option zST} {S S2 : zST} {ch : Nat → Nat} {M J : Nat × Nat} (q4 : RAny f 20 tr la) (q6 : TPic f 602 tx co L ch) (q8 : SLP f sl la gs ss) (q9 : M.1 + 11 * zcn gv 6 + 11 * zcn gs 2 ≤ J.1) (q10 : M.2 + 1339 * zcn gv 6 + 1339 * zcn gs 2 ≤ J.2) (h : ZPT zTV f x r tr sc tx sl sv k la A gv st M S S2 f1 m1) : CI f1 m1 x (sPK k) (sPS k st S) ss S2 L ch J ∧ zFr zTV f f1 := by
  obtain ⟨gv', π', M', h1, h2, h3, h4, h5, h6, h7, h8⟩ := id h
  exact CI_ZPT q4 (q6.fr h7 (fun z => by rcases z with z | z | z | z | z | z <;> omega) (fun z => by rcases z with z | z | z | z | z | z <;> omega)) q8 q9 q10 zTVW h
theorem CI_T {f f1 : zHM} {m m1 : Nat × Nat} {x k L L2 r tr sc tx sl sv la co : Nat} {A : Nat → Nat} {gv gs : Nat → Option Nat} {π : Nat → Nat} {st : Nat → zST} {ss : Nat → Option zST} {ρ : zRS} {n : Nat} {xs tm : Nat → Int32} {ch ch2 : Nat → Nat} {M J : Nat × Nat} (q1 : f x = some (600, .inr (3, zOb r tr sc tx sl sv k))) (q2 : RPic f 0 r la A ρ n xs tm) (q3 : LNok f m la M) (q4 : RAny f 20 tr la) (q5 : ∃ g, f sc = some (601, .inl (0, 144, .inl g))) (q7 : SVP f sv la gv π k st) (q8 : SLP f sl la gs ss) (q9 : M.1 + 11 * zcn gv 6 + 11 * zcn gs 2 ≤ J.1) (q10 : M.2 + 1339 * zcn gv 6 + 1339 * zcn gs 2 ≤ J.2) (h : TPic f1 602 tx co L2 ch2 ∧ zFr (fun τ => τ = 602 ∨ τ = 603) f f1 ∧ m1 = m) : CI f1 m1 x k st ss (ρ, n, xs, tm) L2 ch2 J ∧ zFr (fun τ => τ = 602 ∨ τ = 603) f f1 := by
  obtain ⟨h1, hF, e⟩ := h
  subst e
  obtain ⟨g, q5⟩ := q5
  exact ⟨⟨r, tr, sc, tx, sl, sv, la, A, gv, π, gs, co, M, hF _ _ _ q1 (by omega), q2.fr hF (fun k hk => by omega), q3.fr hF (fun t ht => by omega), q4.fr hF (fun k hk => by omega), ⟨g, hF _ _ _ q5 (by omega)⟩, h1, q7.fr hF (fun τ hτ => by omega), q8.fr hF (fun τ hτ => by omega), q9, q10⟩, hF⟩
theorem nine_sub : ∀ e, e < 10 → (9 : Int32) - nI e = nI (9 - e) := by decide +kernel
theorem sTurn_g {w : Nat} {g : Nat → Int32} (h : ∀ q, q < 144 → ∃ e, e ≤ 9 ∧ g q = nI e) : ∀ q, q < 144 → ∃ e, e ≤ 9 ∧ sTurn w g q = nI e := fun q hq => by
  obtain ⟨e, he, hee⟩ := h _ (sTs_lt (w := w) hq)
  unfold sTurn sTv
  split
  · exact ⟨9 - e, by omega, by rw [hee]; exact nine_sub e (by omega)⟩
  · exact ⟨e, he, hee⟩
theorem sTl_g {ch : Nat → Nat} {g : Nat → Int32} (h : ∀ q, q < 144 → ∃ e, e ≤ 9 ∧ g q = nI e) : ∀ L q, q < 144 → ∃ e, e ≤ 9 ∧ (sTl ch g L).2.2.2 q = nI e
  | 0, q, hq => h q hq
  | i + 1, q, hq => by
    have ih := sTl_g (ch := ch) h i
    have hD : sIsD (ch i) = true → ch i - 48 ≤ 9 := fun z => by
      unfold sIsD at z
      simp at z
      omega
    show ∃ e, e ≤ 9 ∧ (match sTl ch g i with
      | (s, k, b, g) => if sIsL (ch i) = true then ((ch i - 97) * 12, 0, false, g) else if ch i = 42 then (s, k, true, g)
        else if sIsD (ch i) = true ∧ b = true then (s, k, b, fun j => if s ≤ j ∧ j < s + 12 then nI (ch i - 48) else g j)
        else if sIsD (ch i) = true ∧ ¬ 12 ≤ k then (s, k + 1, b, fun j => if j = s + k then nI (ch i - 48) else g j) else (s, k, b, g)).2.2.2 q = nI e
    generalize hS : sTl ch g i = S at ih
    obtain ⟨s, k, b, g2⟩ := S
    dsimp only at ih ⊢
    split
    · exact ih q hq
    · split
      · exact ih q hq
      · split
        · rename_i z
          dsimp only
          split
          · exact ⟨_, hD z.1, rfl⟩
          · exact ih q hq
        · split
          · rename_i z
            dsimp only
            split
            · exact ⟨_, hD z.1, rfl⟩
            · exact ih q hq
          · exact ih q hq
theorem CI_K {f f1 : zHM} {m m1 : Nat × Nat} {x k L r tr sc tx sl sv la co : Nat} {A : Nat → Nat} {gv gs : Nat → Option Nat} {π : Nat → Nat} {st : Nat → zST} {ss ss2 : Nat → Option zST} {ρ : zRS} {n : Nat} {xs tm : Nat → Int32} {ch : Nat → Nat} {M J : Nat × Nat} (q1 : f x = some (600, .inr (3, zOb r tr sc tx sl sv k))) (q2 : RPic f 0 r la A ρ n xs tm) (q4 : RAny f 20 tr la) (q5 : ∃ g, f sc = some (601, .inl (0, 144, .inl g))) (q6 : TPic f 602 tx co L ch) (q7 : SVP f sv la gv π k st) (q9 : M.1 + 11 * zcn gv 6 + 11 * zcn gs 2 ≤ J.1) (q10 : M.2 + 1339 * zcn gv 6 + 1339 * zcn gs 2 ≤ J.2) (h : ∃ gs' M', SLP f1 sl la gs' ss2 ∧ LNok f1 m1 la M' ∧ M'.1 + 11 * zcn gs' 2 = M.1 + 11 * zcn gs 2 ∧ M'.2 + 1339 * zcn gs' 2 = M.2 + 1339 * zcn gs 2 ∧ zFr zTK f f1) : CI f1 m1 x k st ss2 (ρ, n, xs, tm) L ch J ∧ zFr zTK f f1 := by
  obtain ⟨gs', M', h1, h2, h3, h4, hF⟩ := h
  obtain ⟨g, q5⟩ := q5
  have hn : ∀ τ, τ < 40 ∨ (70 < τ ∧ τ < 604) ∨ 604 < τ → ¬ zTK τ := fun τ q z => by
    rcases z with z | z <;> omega
  exact ⟨⟨r, tr, sc, tx, sl, sv, la, A, gv, π, gs', co, M', hF _ _ _ q1 (hn _ (by omega)), q2.fr hF (fun k hk => hn _ (by omega)), h2, q4.fr hF (fun k hk => hn _ (by omega)), ⟨g, hF _ _ _ q5 (hn _ (by omega))⟩, q6.fr hF (hn _ (by omega)) (hn _ (by omega)), q7.fr hF (fun τ hτ => hn _ (by omega)), h1, by omega, by omega⟩, hF⟩
theorem zTK_o : ∀ τ, zTK τ → τ < 700 ∨ 750 < τ := fun τ h => by
  rcases h with h | h <;> omega
theorem RB.keep {σ : Nat → Int32} {n N s k e : Nat} {st : Nat → zST} {svm : Nat → Nat → Int32} {ss : Nat → Option zST} {hsl : Nat → Int32} {slm : Nat → Nat → Int32} (h : RB σ n N s k st svm ss hsl slm) : RB σ n N s k st svm (fun j => if j = e then some (sCan σ s n) else ss j) (fun j => if j = e then 1 else hsl j) (fun j => if j = e then σ else slm j) := by
  obtain ⟨h1, h2, h3, h4⟩ := h
  refine ⟨h1, h2, h3, fun j hj => ?_⟩
  by_cases hje : j = e
  · refine Or.inr ⟨sCan σ s n, N, s, if_pos hje, if_pos hje, ?_, ?_⟩
    · dsimp only
      rw [if_pos hje]
      exact SR_can h1
    · dsimp only
      rw [if_pos hje]
      exact h2
  · dsimp only
    rw [if_neg hje, if_neg hje, if_neg hje]
    exact h4 j hj
theorem SR_mk {s n : Nat} {ρ : zRS} {xs tm σ : Nat → Int32} (h15 : σ 15 = nI n) (he : zEQ n ρ (rOf σ)) (hx : ∀ q, q < 144 → xs q = sXs (rOf σ) s n q) (ht : ∀ p, p < 276 → tm p = sTm (rOf σ) n p) : SR s (ρ, n, xs, tm) σ := ⟨h15, he, hx, ht⟩
theorem SR_off {N s j a b u : Nat} {ρ : zRS} {σ9 : Nat → Int32} (hv : RV ρ N s) (ha : a < 24) (hb : b < 24) (k4 : ρ 4 j = nI a) (k5 : ρ 5 j = nI b) (h15 : σ9 15 = nI j) (he : zEQ j (sOff ρ s a b u) (rOf σ9)) : SR s (sOff ρ s a b u, j, sInL (sPa s a b) (-1) (sXs ρ s (j + 1)), sPutT (sTm ρ (j + 1)) (sPr (a * s) (b * s)) (-1)) σ9 := SR_mk h15 he (fun q hq => (sXs_off (u := u) ha hb k4 k5).symm.trans (sXs_eq he)) (fun p hp => (sTm_off (u := u) hv ha hb k4 k5).symm.trans (sTm_eq he))
theorem SR_904 {σ0 σ9 : Nat → Int32} {N s : Nat} {S : zST} (h : ∀ i, i < 904 → σ9 i = σ0 i) (hS : SR s S σ0) (hi : IVr N s S.2.1 (rOf σ0)) : SR s S σ9 ∧ IVr N s S.2.1 (rOf σ9) := by
  have hn := hi.2.1
  have he : zEQ S.2.1 (rOf σ0) (rOf σ9) := ⟨fun i hi => (h i (by omega)).symm, fun i hi => ⟨(h (9 + 2 * i) (by omega)).symm, (h (9 + 2 * i + 1) (by omega)).symm, (h (6 + i) (by omega)).symm⟩, fun c hc => ⟨(h (16 + 3 * c) (by omega)).symm, (h (16 + 3 * c + 1) (by omega)).symm, (h (16 + 3 * c + 2) (by omega)).symm⟩, fun q hq => ⟨(h (616 + q) (by omega)).symm, (h (760 + q) (by omega)).symm⟩⟩
  obtain ⟨e1, e2, e3, e4⟩ := hS
  exact ⟨⟨(h 15 (by omega)).trans e1, e2.trans he, fun q hq => (e3 q hq).trans (sXs_eq he), fun p hp => (e4 p hp).trans (sTm_eq he)⟩, IVr_eq he hi⟩
set_option maxRecDepth 10000 in
set_option maxHeartbeats 1000000 in
theorem s_turnFace {G : zW} {f : zHM} {m : Nat × Nat} {x o out cap : Nat} {th : Int32} {J : Nat × Nat} (hJ : JI f m x o th cap J) (hout : ∃ g : Nat → Int64, f out = some (750, .inl (1, 1, .inr (.inl g)))) (hb1 : J.1 + 1 ≤ 50000) (hb2 : J.2 + 6 ≤ 399990) (hcap : cap + 400000 < 2 ^ 30) (x1 : Int32) : zSp G x o out (cap + 400000) (J.1 + 1, J.2 + 6) f m yL_turnFace cL_turnFace 4 [(0, 9, 12, 13)] yX4_turnFace cX4_turnFace 3 [.int x1] := by
  obtain ⟨k, st, ss, L, ch, B, hh, σ, mr, svm, hsl, slm, N, s, n, hC, hz, hR, hmr⟩ := hJ
  have hC0 := hC
  obtain ⟨r, tr, sc, tx, sl, sv, la, A, gv, π, gs, co, M, q1, q2, q3, q4, q5, q6, q7, q8, q9, q10⟩ := hC
  have q2 : RPic f 0 r la A (rOf σ) n (sXs (rOf σ) s n) (sTm (rOf σ) n) := q2
  obtain ⟨r1, r2, r3, r4⟩ := id hR
  obtain ⟨hw, hn2, ⟨a, ha, hat⟩, ⟨u0, hu0, hnow⟩, -⟩ := id r2
  have hv := hw.1
  have hN : N ≤ 24 := hv.N24
  have hm1 : m.1 + 1 ≤ 50000 := by have := q3.m1; omega
  have hm2 : m.2 + 6 ≤ 400000 := by have := q3.m2; omega
  have hB : M.1 + 11 * zcn gv 6 ≤ 50000 ∧ M.2 + 1339 * zcn gv 6 ≤ 399990 := ⟨by omega, by omega⟩
  have hk6 := q7.1
  by_cases h1 : x1 < 0 ∨ ¬ x1 ≤ 2
  · exact zSp_err hC0 hz hR hmr hout hb1 hb2 (b := nI 1) (by decide) (w_turnFace q1 (by decide) (x_turnFace hm1 hm2 h1) wv_no (fun E h9 hq => ⟨Sum.inr.inj hq.1, rfl, hq.2⟩)) (fun w hM t k0 l0 O => y_turnFace_1 hM t k0 l0 O h1)
  · obtain ⟨e, he, rfl⟩ := i32_le (N := 2) (by decide) rfl h1
    obtain ⟨gq, q5⟩ := q5
    rcases (by omega : e = 0 ∨ e = 1 ∨ e = 2) with e0 | e0 | e0
    · subst e0
      exact zSp_ok (T := zTV) (S2 := (zset (rOf σ) 7 (sTurn 0 (rOf σ 7)), n, sXs (rOf σ) s n, sTm (rOf σ) n)) (st2 := sPS k st (sCan σ s n)) (ss2 := ss) hz hmr hout (fun τ h => zTW_o τ (zTVW τ h)) (fun f1 m1 h1 => CI_ZPV q4 q6 q8 q9 q10 h1) (fun hk => w_turnFace q1 (by decide) (c_turnFace_0 q1 q2 (by omega) q3 q7 hB q5) (wv_ok hk) wx_no) (fun f2 m2 w hM t k0 l0 O => c_m9turnFace_0 hM t k0 l0 O ) (by decide) (fun σ9 h => zq_set hR hk6 (h.1 n hn2) h.2 (IVr_grey r2 (sTurn_g r2.2.2.2.2.2.2.1)) rfl rfl rfl)
    · subst e0
      exact zSp_ok (T := zTV) (S2 := (zset (rOf σ) 7 (sTurn 1 (rOf σ 7)), n, sXs (rOf σ) s n, sTm (rOf σ) n)) (st2 := sPS k st (sCan σ s n)) (ss2 := ss) hz hmr hout (fun τ h => zTW_o τ (zTVW τ h)) (fun f1 m1 h1 => CI_ZPV q4 q6 q8 q9 q10 h1) (fun hk => w_turnFace q1 (by decide) (c_turnFace_1 q1 q2 (by omega) q3 q7 hB q5) (wv_ok hk) wx_no) (fun f2 m2 w hM t k0 l0 O => c_m9turnFace_1 hM t k0 l0 O ) (by decide) (fun σ9 h => zq_set hR hk6 (h.1 n hn2) h.2 (IVr_grey r2 (sTurn_g r2.2.2.2.2.2.2.1)) rfl rfl rfl)
    · subst e0
      exact zSp_ok (T := zTV) (S2 := (zset (rOf σ) 7 (sTurn 2 (rOf σ 7)), n, sXs (rOf σ) s n, sTm (rOf σ) n)) (st2 := sPS k st (sCan σ s n)) (ss2 := ss) hz hmr hout (fun τ h => zTW_o τ (zTVW τ h)) (fun f1 m1 h1 => CI_ZPV q4 q6 q8 q9 q10 h1) (fun hk => w_turnFace q1 (by decide) (c_turnFace_2 q1 q2 (by omega) q3 q7 hB q5) (wv_ok hk) wx_no) (fun f2 m2 w hM t k0 l0 O => c_m9turnFace_2 hM t k0 l0 O ) (by decide) (fun σ9 h => zq_set hR hk6 (h.1 n hn2) h.2 (IVr_grey r2 (sTurn_g r2.2.2.2.2.2.2.1)) rfl rfl rfl)
set_option maxRecDepth 10000 in
set_option maxHeartbeats 1000000 in
theorem s_unwind {G : zW} {f : zHM} {m : Nat × Nat} {x o out cap : Nat} {th : Int32} {J : Nat × Nat} (hJ : JI f m x o th cap J) (hout : ∃ g : Nat → Int64, f out = some (750, .inl (1, 1, .inr (.inl g)))) (hb1 : J.1 + 1 ≤ 50000) (hb2 : J.2 + 6 ≤ 399990) (hcap : cap + 400000 < 2 ^ 30) : zSp G x o out (cap + 400000) (J.1 + 1, J.2 + 6) f m yL_unwind cL_unwind 3 [(0, 8, 11, 21)] yX4_unwind cX4_unwind 1 [] := by
  obtain ⟨k, st, ss, L, ch, B, hh, σ, mr, svm, hsl, slm, N, s, n, hC, hz, hR, hmr⟩ := hJ
  have hC0 := hC
  obtain ⟨r, tr, sc, tx, sl, sv, la, A, gv, π, gs, co, M, q1, q2, q3, q4, q5, q6, q7, q8, q9, q10⟩ := hC
  have q2 : RPic f 0 r la A (rOf σ) n (sXs (rOf σ) s n) (sTm (rOf σ) n) := q2
  obtain ⟨r1, r2, r3, r4⟩ := id hR
  obtain ⟨hw, hn2, ⟨a, ha, hat⟩, ⟨u0, hu0, hnow⟩, -⟩ := id r2
  have hv := hw.1
  have hN : N ≤ 24 := hv.N24
  have hm1 : m.1 + 1 ≤ 50000 := by have := q3.m1; omega
  have hm2 : m.2 + 6 ≤ 400000 := by have := q3.m2; omega
  have hB : M.1 + 11 * zcn gv 6 ≤ 50000 ∧ M.2 + 1339 * zcn gv 6 ≤ 399990 := ⟨by omega, by omega⟩
  have hk6 := q7.1
  rcases Nat.eq_zero_or_pos n with e0 | e0
  · subst e0
    exact zSp_err hC0 hz hR hmr hout hb1 hb2 (b := nI 1) (by decide) (w_unwind q1 (by decide) (x_unwind q1 q2 hm1 hm2) wv_no (fun E h9 hq => ⟨Sum.inr.inj hq.1, rfl, hq.2⟩)) (fun w hM t k0 l0 O => y_unwind_1 hM t k0 l0 O r1)
  · obtain ⟨j, rfl⟩ : ∃ j, n = j + 1 := ⟨n - 1, by omega⟩
    obtain ⟨a1, b1, u1, ha1, hb1', hab1, hu1, k4, k5, k6⟩ := hw.2.2 j (by omega)
    have e4 : σ (16 + 3 * j + 0) = nI a1 := by rw [Nat.add_zero]; exact k4
    have e5 : σ (16 + 3 * j + 1) = nI b1 := k5
    have e6 : σ (16 + 3 * j + 2) = nI u1 := k6
    exact zSp_ok (T := zTU) (S2 := (sOff (rOf σ) s a1 b1 u1, j, sInL (sPa s a1 b1) (-1) (sXs (rOf σ) s (j + 1)), sPutT (sTm (rOf σ) (j + 1)) (sPr (a1 * s) (b1 * s)) (-1))) (st2 := sPS k st (sCan σ s (j + 1))) (ss2 := ss) hz hmr hout zTU_o (fun f1 m1 h1 => CI_ZP q4 q5 q6 q8 q9 q10 h1) (fun hk => w_unwind q1 (by decide) (c_unwind q1 q2 (by omega) q3 q7 hB hw ha1 hb1' hab1 hu1 k4 k5 k6) (wv_ok hk) wx_no) (fun f2 m2 w hM t k0 l0 O => c_m9unwind hM t k0 l0 O (by omega) hw r1 hn2 ha1 hb1' hab1 hu1 e4 e5 e6) (by decide) (fun σ9 h => ⟨N, s, SR_off hv (by omega) (by omega) k4 k5 h.1 h.2, hR.save hk6 h.1 (IVr_eq h.2 (IVr_off r2 ha1 hb1' hu1 k4 k5 k6))⟩)
set_option maxRecDepth 10000 in
set_option maxHeartbeats 1000000 in
theorem s_append {G : zW} {f : zHM} {m : Nat × Nat} {x o out cap : Nat} {th : Int32} {J : Nat × Nat} (hJ : JI f m x o th cap J) (hout : ∃ g : Nat → Int64, f out = some (750, .inl (1, 1, .inr (.inl g)))) (hb1 : J.1 + 1 ≤ 50000) (hb2 : J.2 + 6 ≤ 399990) (hcap : cap + 400000 < 2 ^ 30) (x1 : Int32) : zSp G x o out (cap + 400000) (J.1 + 1, J.2 + 6) f m yL_append cL_append 4 [(0, 9, 12, 13), (0, 9, 15, 21)] yX4_append cX4_append 2 [.int x1] := by
  obtain ⟨k, st, ss, L, ch, B, hh, σ, mr, svm, hsl, slm, N, s, n, hC, hz, hR, hmr⟩ := hJ
  have hC0 := hC
  obtain ⟨r, tr, sc, tx, sl, sv, la, A, gv, π, gs, co, M, q1, q2, q3, q4, q5, q6, q7, q8, q9, q10⟩ := hC
  have q2 : RPic f 0 r la A (rOf σ) n (sXs (rOf σ) s n) (sTm (rOf σ) n) := q2
  obtain ⟨r1, r2, r3, r4⟩ := id hR
  obtain ⟨hw, hn2, ⟨a, ha, hat⟩, ⟨u0, hu0, hnow⟩, -⟩ := id r2
  have hv := hw.1
  have hN : N ≤ 24 := hv.N24
  have hm1 : m.1 + 1 ≤ 50000 := by have := q3.m1; omega
  have hm2 : m.2 + 6 ≤ 400000 := by have := q3.m2; omega
  have hB : M.1 + 11 * zcn gv 6 ≤ 50000 ∧ M.2 + 1339 * zcn gv 6 ≤ 399990 := ⟨by omega, by omega⟩
  have hk6 := q7.1
  have hL60 : L ≤ 60 := by
    obtain ⟨w, -, -, -, -, z⟩ := hz
    exact z.2.2.2.1.1
  by_cases h1 : x1 < 33 ∨ ¬ x1 ≤ 126
  · exact zSp_err hC0 hz hR hmr hout hb1 hb2 (b := nI 1) (by decide) (w_append q1 (by decide) (x_append_1 hm1 hm2 h1) wv_no (fun E h9 hq => Or.inl ⟨Sum.inr.inj hq.1, rfl, hq.2⟩)) (fun w hM t k0 l0 O => y_append_1 hM t k0 l0 O h1)
  · obtain ⟨e, he, rfl⟩ := i32_le (N := 126) (v := x1) (c := 126) (by decide) rfl (fun z => by
      rcases z with z | z
      · exact h1 (Or.inl (Int32.lt_iff_toInt_lt.mpr (Int.lt_trans (Int32.lt_iff_toInt_lt.mp z) (by decide))))
      · exact h1 (Or.inr z))
    have he3 : 33 ≤ e := Nat.not_lt.mp (fun z => h1 (Or.inl (by rw [show (33 : Int32) = nI 33 from rfl, nI_ltI (by omega) (by omega)]; exact z)))
    by_cases h60 : L = 60
    · exact zSp_err hC0 hz hR hmr hout hb1 hb2 (b := nI 2) (by decide) (w_append q1 (by decide) (x_append_2 q1 q6 h60 hm1 hm2 he3 he) wv_no (fun E h9 hq => Or.inr (⟨Sum.inr.inj hq.1, rfl, hq.2⟩))) (fun w hM t k0 l0 O => y_append_2 hM t k0 l0 O h60 he3 he)
    · exact zSp_ok (T := (fun τ => τ = 602 ∨ τ = 603)) (S2 := sCan σ s n) (st2 := st) (ss2 := ss) hz hmr hout (fun τ h => by omega) (fun f1 m1 h1 => CI_T (m := m) (L := L) (ch := ch) q1 q2 q3 q4 q5 q7 q8 q9 q10 h1) (fun hk => w_append q1 (by decide) (c_append q1 q6 (by omega) he3 he) (wv_ok hk) wx_no) (fun f2 m2 w hM t k0 l0 O => c_m9append hM t k0 l0 O (by omega) he3 he) (by decide) (fun σ9 h => zq_same hR σ9 h)
set_option maxRecDepth 10000 in
set_option maxHeartbeats 1000000 in
theorem s_load {G : zW} {f : zHM} {m : Nat × Nat} {x o out cap : Nat} {th : Int32} {J : Nat × Nat} (hJ : JI f m x o th cap J) (hout : ∃ g : Nat → Int64, f out = some (750, .inl (1, 1, .inr (.inl g)))) (hb1 : J.1 + 1 ≤ 50000) (hb2 : J.2 + 6 ≤ 399990) (hcap : cap + 400000 < 2 ^ 30) : zSp G x o out (cap + 400000) (J.1 + 1, J.2 + 6) f m yL_load cL_load 3 [(0, 8, 11, 13)] yX4_load cX4_load 3 [] := by
  obtain ⟨k, st, ss, L, ch, B, hh, σ, mr, svm, hsl, slm, N, s, n, hC, hz, hR, hmr⟩ := hJ
  have hC0 := hC
  obtain ⟨r, tr, sc, tx, sl, sv, la, A, gv, π, gs, co, M, q1, q2, q3, q4, q5, q6, q7, q8, q9, q10⟩ := hC
  have q2 : RPic f 0 r la A (rOf σ) n (sXs (rOf σ) s n) (sTm (rOf σ) n) := q2
  obtain ⟨r1, r2, r3, r4⟩ := id hR
  obtain ⟨hw, hn2, ⟨a, ha, hat⟩, ⟨u0, hu0, hnow⟩, -⟩ := id r2
  have hv := hw.1
  have hN : N ≤ 24 := hv.N24
  have hm1 : m.1 + 1 ≤ 50000 := by have := q3.m1; omega
  have hm2 : m.2 + 6 ≤ 400000 := by have := q3.m2; omega
  have hB : M.1 + 11 * zcn gv 6 ≤ 50000 ∧ M.2 + 1339 * zcn gv 6 ≤ 399990 := ⟨by omega, by omega⟩
  have hk6 := q7.1
  have hL60 : L ≤ 60 := by
    obtain ⟨w, -, -, -, -, z⟩ := hz
    exact z.2.2.2.1.1
  have hch : ∀ i, i < L → ch i < 128 := by
    obtain ⟨-, g, -, z⟩ := q6
    exact fun i hi => (z i hi).2
  obtain ⟨gq, q5⟩ := q5
  cases hF : sEnd (sRun ch L) with
  | false => exact zSp_err hC0 hz hR hmr hout hb1 hb2 (b := nI 1) (by decide) (w_load q1 (by decide) (x_load q1 q2 hm1 hm2 q6 hL60 hF) wv_no (fun E h9 hq => ⟨Sum.inr.inj hq.1, rfl, hq.2⟩)) (fun w hM t k0 l0 O => y_load_1 hM t k0 l0 O hch hF)
  | true => exact zSp_ok (T := zTW) (S2 := (zset (rOf σ) 7 (sTl ch (rOf σ 7) L).2.2.2, n, sXs (rOf σ) s n, sTm (rOf σ) n)) (st2 := sPS k st (sCan σ s n)) (ss2 := ss) hz hmr hout zTW_o (fun f1 m1 h1 => CI_ZPT q4 h1.2 q8 q9 q10 (fun _ z => z) h1.1) (fun hk => w_load q1 (by decide) (c_load q1 q2 (by omega) q3 q7 hB q5 q6 hL60 hF) (wv_ok hk) wx_no) (fun f2 m2 w hM t k0 l0 O => c_m9load hM t k0 l0 O hch hF) (by decide) (fun σ9 h => zq_set hR hk6 (h.1 n hn2) h.2 (IVr_grey r2 (sTl_g r2.2.2.2.2.2.2.1 L)) rfl rfl rfl)
set_option maxRecDepth 10000 in
set_option maxHeartbeats 1000000 in
theorem s_keep {G : zW} {f : zHM} {m : Nat × Nat} {x o out cap : Nat} {th : Int32} {J : Nat × Nat} (hJ : JI f m x o th cap J) (hout : ∃ g : Nat → Int64, f out = some (750, .inl (1, 1, .inr (.inl g)))) (hb1 : J.1 + 1 ≤ 50000) (hb2 : J.2 + 6 ≤ 399990) (hcap : cap + 400000 < 2 ^ 30) (x1 : Int32) : zSp G x o out (cap + 400000) (J.1 + 1, J.2 + 6) f m yL_keep cL_keep 4 [(0, 9, 12, 13)] yX4_keep cX4_keep 3 [.int x1] := by
  obtain ⟨k, st, ss, L, ch, B, hh, σ, mr, svm, hsl, slm, N, s, n, hC, hz, hR, hmr⟩ := hJ
  have hC0 := hC
  obtain ⟨r, tr, sc, tx, sl, sv, la, A, gv, π, gs, co, M, q1, q2, q3, q4, q5, q6, q7, q8, q9, q10⟩ := hC
  have q2 : RPic f 0 r la A (rOf σ) n (sXs (rOf σ) s n) (sTm (rOf σ) n) := q2
  obtain ⟨r1, r2, r3, r4⟩ := id hR
  obtain ⟨hw, hn2, ⟨a, ha, hat⟩, ⟨u0, hu0, hnow⟩, -⟩ := id r2
  have hv := hw.1
  have hN : N ≤ 24 := hv.N24
  have hm1 : m.1 + 1 ≤ 50000 := by have := q3.m1; omega
  have hm2 : m.2 + 6 ≤ 400000 := by have := q3.m2; omega
  have hB : M.1 + 11 * zcn gv 6 ≤ 50000 ∧ M.2 + 1339 * zcn gv 6 ≤ 399990 := ⟨by omega, by omega⟩
  have hk6 := q7.1
  have hB2 : M.1 + 11 * zcn gs 2 ≤ 50000 ∧ M.2 + 1339 * zcn gs 2 ≤ 399990 := ⟨by omega, by omega⟩
  by_cases h1 : x1 < 0 ∨ ¬ x1 ≤ 1
  · exact zSp_err hC0 hz hR hmr hout hb1 hb2 (b := nI 1) (by decide) (w_keep q1 (by decide) (x_keep_1 hm1 hm2 h1) wv_no (fun E h9 hq => ⟨Sum.inr.inj hq.1, rfl, hq.2⟩)) (fun w hM t k0 l0 O => y_keep_1 hM t k0 l0 O h1)
  · obtain ⟨e, he, rfl⟩ := i32_le (N := 1) (by decide) rfl h1
    exact zSp_ok (T := zTK) (S2 := sCan σ s n) (st2 := st) (ss2 := fun j => if j = e then some (sCan σ s n) else ss j) hz hmr hout zTK_o (fun f1 m1 h1 => CI_K (m := m) (ss := ss) q1 q2 q4 q5 q6 q7 q9 q10 h1) (fun hk => w_keep q1 (by decide) (c_keep q1 q2 (by omega) q3 q8 hB2 (by omega)) (wv_ok hk) wx_no) (fun f2 m2 w hM t k0 l0 O => by
      have z := c_m9keep (G := G) (m := m2) hM t k0 l0 O (e := e) (by omega)
      rw [r1] at z
      exact z) (by decide) (fun σ9 h => by
      subst h
      exact ⟨N, s, SR_can r1, hR.keep⟩)
set_option maxRecDepth 10000 in
set_option maxHeartbeats 1000000 in
theorem s_goBack {G : zW} {f : zHM} {m : Nat × Nat} {x o out cap : Nat} {th : Int32} {J : Nat × Nat} (hJ : JI f m x o th cap J) (hout : ∃ g : Nat → Int64, f out = some (750, .inl (1, 1, .inr (.inl g)))) (hb1 : J.1 + 1 ≤ 50000) (hb2 : J.2 + 6 ≤ 399990) (hcap : cap + 400000 < 2 ^ 30) (x1 : Int32) : zSp G x o out (cap + 400000) (J.1 + 1, J.2 + 6) f m yL_goBack cL_goBack 4 [(0, 9, 12, 13), (0, 9, 15, 21)] yX4_goBack cX4_goBack 3 [.int x1] := by
  obtain ⟨k, st, ss, L, ch, B, hh, σ, mr, svm, hsl, slm, N, s, n, hC, hz, hR, hmr⟩ := hJ
  have hC0 := hC
  obtain ⟨r, tr, sc, tx, sl, sv, la, A, gv, π, gs, co, M, q1, q2, q3, q4, q5, q6, q7, q8, q9, q10⟩ := hC
  have q2 : RPic f 0 r la A (rOf σ) n (sXs (rOf σ) s n) (sTm (rOf σ) n) := q2
  obtain ⟨r1, r2, r3, r4⟩ := id hR
  obtain ⟨hw, hn2, ⟨a, ha, hat⟩, ⟨u0, hu0, hnow⟩, -⟩ := id r2
  have hv := hw.1
  have hN : N ≤ 24 := hv.N24
  have hm1 : m.1 + 1 ≤ 50000 := by have := q3.m1; omega
  have hm2 : m.2 + 6 ≤ 400000 := by have := q3.m2; omega
  have hB : M.1 + 11 * zcn gv 6 ≤ 50000 ∧ M.2 + 1339 * zcn gv 6 ≤ 399990 := ⟨by omega, by omega⟩
  have hk6 := q7.1
  by_cases h1 : x1 < 0 ∨ ¬ x1 ≤ 1
  · exact zSp_err hC0 hz hR hmr hout hb1 hb2 (b := nI 1) (by decide) (w_goBack q1 (by decide) (x_goBack_1 hm1 hm2 h1) wv_no (fun E h9 hq => Or.inl ⟨Sum.inr.inj hq.1, rfl, hq.2⟩)) (fun w hM t k0 l0 O => y_goBack_1 hM t k0 l0 O h1)
  · obtain ⟨e, he, rfl⟩ := i32_le (N := 1) (by decide) rfl h1
    rcases q8.2 e (by omega) with ⟨g1, g2⟩ | ⟨q, S, g1, g2, g3⟩
    · rcases r4 e (by omega) with ⟨g4, g5⟩ | ⟨T, N2, s2, g4, g5⟩
      · exact zSp_err hC0 hz hR hmr hout hb1 hb2 (b := nI 2) (by decide) (w_goBack q1 (by decide) (x_goBack_2 q1 q2 hm1 hm2 q8 (by omega) g1) wv_no (fun E h9 hq => Or.inr (⟨Sum.inr.inj hq.1, rfl, hq.2⟩))) (fun w hM t k0 l0 O => y_goBack_2 hM t k0 l0 O (by omega) g5)
      · rw [g2] at g4
        cases g4
    · rcases r4 e (by omega) with ⟨g4, g5⟩ | ⟨T, N2, s2, g4, g5, g6, g7⟩
      · rw [g2] at g4
        cases g4
      · rw [g2] at g4
        cases g4
        have g8 := g7.2.1
        exact zSp_ok (T := zTU) (S2 := S) (st2 := sPS k st (sCan σ s n)) (ss2 := ss) hz hmr hout zTU_o (fun f1 m1 h1 => CI_ZP q4 q5 q6 q8 q9 q10 h1) (fun hk => w_goBack q1 (by decide) (c_goBack q1 q2 (by omega) q3 q7 hB q8 (by omega) g1 g3 (by omega)) (wv_ok hk) wx_no) (fun f2 m2 w hM t k0 l0 O => by
          have z := c_m9goBack (G := G) (m := m2) hM t k0 l0 O (e := e) (by omega) (by rw [g5]; decide)
          rw [g6.1] at z
          exact z) (by decide) (fun σ9 h => ⟨N2, s2, (SR_904 h g6 g7).1, hR.save hk6 (SR_904 h g6 g7).1.1 (SR_904 h g6 g7).2⟩)
set_option maxRecDepth 10000 in
set_option maxHeartbeats 1000000 in
theorem s_undo {G : zW} {f : zHM} {m : Nat × Nat} {x o out cap : Nat} {th : Int32} {J : Nat × Nat} (hJ : JI f m x o th cap J) (hout : ∃ g : Nat → Int64, f out = some (750, .inl (1, 1, .inr (.inl g)))) (hb1 : J.1 + 1 ≤ 50000) (hb2 : J.2 + 6 ≤ 399990) (hcap : cap + 400000 < 2 ^ 30) : zSp G x o out (cap + 400000) (J.1 + 1, J.2 + 6) f m yL_undo cL_undo 3 [(0, 8, 11, 21)] yX4_undo cX4_undo 2 [] := by
  obtain ⟨k, st, ss, L, ch, B, hh, σ, mr, svm, hsl, slm, N, s, n, hC, hz, hR, hmr⟩ := hJ
  have hC0 := hC
  obtain ⟨r, tr, sc, tx, sl, sv, la, A, gv, π, gs, co, M, q1, q2, q3, q4, q5, q6, q7, q8, q9, q10⟩ := hC
  have q2 : RPic f 0 r la A (rOf σ) n (sXs (rOf σ) s n) (sTm (rOf σ) n) := q2
  obtain ⟨r1, r2, r3, r4⟩ := id hR
  obtain ⟨hw, hn2, ⟨a, ha, hat⟩, ⟨u0, hu0, hnow⟩, -⟩ := id r2
  have hv := hw.1
  have hN : N ≤ 24 := hv.N24
  have hm1 : m.1 + 1 ≤ 50000 := by have := q3.m1; omega
  have hm2 : m.2 + 6 ≤ 400000 := by have := q3.m2; omega
  have hB : M.1 + 11 * zcn gv 6 ≤ 50000 ∧ M.2 + 1339 * zcn gv 6 ≤ 399990 := ⟨by omega, by omega⟩
  have hk6 := q7.1
  rcases Nat.eq_zero_or_pos k with e0 | e0
  · subst e0
    exact zSp_err hC0 hz hR hmr hout hb1 hb2 (b := nI 1) (by decide) (w_undo q1 (by decide) (x_undo q1 hm1 hm2) wv_no (fun E h9 hq => ⟨Sum.inr.inj hq.1, rfl, hq.2⟩)) (fun w hM t k0 l0 O => y_undo_1 hM t k0 l0 O rfl)
  · obtain ⟨j, rfl⟩ : ∃ j, k = j + 1 := ⟨k - 1, by omega⟩
    obtain ⟨N2, s2, g6, g7⟩ := r3 j (by omega)
    have g8 := g7.2.1
    exact zSp_ok (T := (fun τ => τ ≤ 10 ∨ τ = 600)) (S2 := st j) (st2 := st) (ss2 := ss) hz hmr hout (fun τ h => by omega) (fun f1 m1 h1 => by
      obtain ⟨p1, p2, p3, p4, hF⟩ := h1
      obtain ⟨g, q5⟩ := q5
      exact ⟨⟨r, tr, sc, tx, sl, sv, la, A, gv, π, gs, co, M, p3, p4, p2, q4.fr hF (fun k hk => by omega), ⟨g, hF _ _ _ q5 (by omega)⟩, q6.fr hF (by omega) (by omega), p1, q8.fr hF (fun τ hτ => by omega), q9, q10⟩, hF⟩) (fun hk => w_undo q1 (by decide) (c_undo q1 q2 q3 q7 (by omega) (by show (st j).2.1 ≤ 201; omega)) (wv_ok hk) wx_no) (fun f2 m2 w hM t k0 l0 O => c_m9undo hM t k0 l0 O ) (by decide) (fun σ9 h => ⟨N2, s2, (SR_904 h g6 g7).1, (SR_904 h g6 g7).1.1, (SR_904 h g6 g7).2, fun i hi => r3 i (by omega), r4⟩)
