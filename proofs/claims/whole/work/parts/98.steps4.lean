/-! THE STEPS OF THE LAW, ONE BY ONE: nails, and the questions without an argument. -/
theorem sXs_rows {ρ ρ2 : zRS} {s n q : Nat} (h4 : ρ2 4 = ρ 4) (h5 : ρ2 5 = ρ 5) : sXs ρ2 s n q = sXs ρ s n q := by
  unfold sXs
  rw [h4, h5]
theorem sTm_rows {ρ ρ2 : zRS} {n p : Nat} (h4 : ρ2 4 = ρ 4) (h5 : ρ2 5 = ρ 5) (h0 : ρ2 0 0 = ρ 0 0) : sTm ρ2 n p = sTm ρ n p := by
  unfold sTm sStep
  rw [h4, h5, h0]
theorem sXs_0 (ρ : zRS) (s q : Nat) : sXs ρ s 0 q = 0 := by
  unfold sXs
  rfl
theorem sTm_0 (ρ : zRS) (p : Nat) : sTm ρ 0 p = 0 := by
  unfold sTm
  rfl
theorem sDk_0 (ρ : zRS) (s q : Nat) : sDk ρ s 0 q = 0 := by
  unfold sDk
  rfl
theorem sDn_s1 (ρ : zRS) (xs tm : Nat → Int32) (s n j : Nat) : (sDn ρ xs tm s n (j + 1)).2.1 = sInL (sPa s (zn (ρ 4 (n - 1 - j))) (zn (ρ 5 (n - 1 - j)))) (-1) (sDn ρ xs tm s n j).2.1 := by
  rw [sDn]
theorem sDn_s2 (ρ : zRS) (xs tm : Nat → Int32) (s n j : Nat) : (sDn ρ xs tm s n (j + 1)).2.2 = sPutT (sDn ρ xs tm s n j).2.2 (sPr (zn (ρ 4 (n - 1 - j)) * s) (zn (ρ 5 (n - 1 - j)) * s)) (-1) := rfl
theorem sDn_s0 (ρ : zRS) (xs tm : Nat → Int32) (s n j : Nat) : (sDn ρ xs tm s n (j + 1)).1 = sOff (sDn ρ xs tm s n j).1 s (zn (ρ 4 (n - 1 - j))) (zn (ρ 5 (n - 1 - j))) (zn (ρ 6 (n - 1 - j))) := rfl
theorem sDn_z1 (ρ : zRS) (xs tm : Nat → Int32) (s n : Nat) : (sDn ρ xs tm s n 0).2.1 = xs := rfl
theorem sDn_z2 (ρ : zRS) (xs tm : Nat → Int32) (s n : Nat) : (sDn ρ xs tm s n 0).2.2 = tm := rfl
theorem sDn_xs {ρ : zRS} {N s n : Nat} (hw : RW ρ N s n) (hN : N ≤ 24) (tm : Nat → Int32) (j : Nat) (hj : j ≤ n) : ∀ q, (sDn ρ (sXs ρ s n) tm s n j).2.1 q = sXs ρ s (n - j) q := by
  induction j with
  | zero =>
    intro q
    rw [sDn_z1, Nat.sub_zero]
  | succ j ih =>
    intro q
    obtain ⟨a, b, u, ha, hb, hab, hu, k4, k5, k6⟩ := hw.2.2 (n - 1 - j) (by omega)
    rw [sDn_s1, k4, k5, zn_nI (by omega), zn_nI (by omega), show n - (j + 1) = n - 1 - j by omega, ← sXs_rows (ρ := ρ) (ρ2 := sOff ρ s a b 0) rfl rfl, sXs_off (by omega) (by omega) k4 k5]
    unfold sInL
    rw [ih (by omega), show n - j = n - 1 - j + 1 by omega]
theorem sDn_tm {ρ : zRS} {N s n : Nat} (hw : RW ρ N s n) (hN : N ≤ 24) (xs : Nat → Int32) (j : Nat) (hj : j ≤ n) : ∀ p, (sDn ρ xs (sTm ρ n) s n j).2.2 p = sTm ρ (n - j) p := by
  induction j with
  | zero =>
    intro p
    rw [sDn_z2, Nat.sub_zero]
  | succ j ih =>
    intro p
    obtain ⟨a, b, u, ha, hb, hab, hu, k4, k5, k6⟩ := hw.2.2 (n - 1 - j) (by omega)
    rw [sDn_s2, k4, k5, zn_nI (by omega), zn_nI (by omega), show n - (j + 1) = n - 1 - j by omega, ← sTm_rows (ρ := ρ) (ρ2 := sOff ρ s a b 0) rfl rfl rfl, sTm_off hw.1 (by omega) (by omega) k4 k5]
    unfold sPutT
    rw [ih (by omega), show n - j = n - 1 - j + 1 by omega]
theorem IVr_dn {ρ : zRS} {N s n : Nat} (i : IVr N s n ρ) (hN : N ≤ 24) (xs tm : Nat → Int32) (j : Nat) (hj : j ≤ n) : IVr N s (n - j) (sDn ρ xs tm s n j).1 := by
  induction j with
  | zero => exact i
  | succ j ih =>
    obtain ⟨a, b, u, ha, hb, hab, hu, k4, k5, k6⟩ := i.1.2.2 (n - 1 - j) (by omega)
    have ih := ih (by omega)
    obtain ⟨c4, c5, c6, c0⟩ := sDn_ch ρ xs tm s n j
    rw [show n - j = n - 1 - j + 1 by omega] at ih
    rw [sDn_s0, k4, k5, k6, zn_nI (by omega), zn_nI (by omega), zn_nI (by omega), show n - (j + 1) = n - 1 - j by omega]
    exact IVr_off ih ha hb hu ((c4 _).trans k4) ((c5 _).trans k5) ((c6 _).trans k6)
theorem IVr_all {ρ : zRS} {N s n : Nat} (i : IVr N s n ρ) (hN : N ≤ 24) (xs tm : Nat → Int32) : IVr N s 0 (sAllOff ρ xs tm s n) := by
  have h := IVr_dn i hN xs tm n (Nat.le_refl n)
  rw [Nat.sub_self] at h
  unfold sAllOff
  refine IVr_sc h _ rfl ?_ ?_
  · exact h.2.2.1
  · exact i.2.2.2.1
theorem IVr_nails {ρ : zRS} {N s N2 s2 : Nat} {x : Int32} (i : IVr N s 0 ρ) (hx : x = nI N2) (hs : 24 / x = nI s2) (h24 : N2 * s2 = 24) (h4 : 4 ≤ N2) : IVr N2 s2 0 (sNailsS ρ x) := by
  obtain ⟨h1, h2, h3, h5, h7, h8, h11, h12⟩ := i
  have e0 : sNailsS ρ x 0 0 = x := rfl
  have es : sStep (sNailsS ρ x) = nI s2 := by
    unfold sStep
    rw [e0]
    exact hs
  have e8 : ∀ q, sNailsS ρ x 8 q = ρ 8 q := fun _ => rfl
  exact ⟨⟨⟨e0.trans hx, es, h24, h4⟩, by omega, fun c hc => by omega⟩, h2, ⟨0, by omega, rfl⟩, h5, h7, h8, h11, fun q hq => by rw [e8, h12 q hq, sDk_0, sDk_0]⟩
theorem IVr_nailsX {ρ : zRS} {N s : Nat} {x : Int32} (i : IVr N s 0 ρ) (h : ¬ sStepOf x = -1) : ∃ N2 s2, IVr N2 s2 0 (sNailsS ρ x) := by
  unfold sStepOf at h
  by_cases h4 : x = 4
  · exact ⟨4, 6, IVr_nails i h4 (by subst h4; decide) (by decide) (by decide)⟩
  by_cases h6 : x = 6
  · exact ⟨6, 4, IVr_nails i h6 (by subst h6; decide) (by decide) (by decide)⟩
  by_cases h8 : x = 8
  · exact ⟨8, 3, IVr_nails i h8 (by subst h8; decide) (by decide) (by decide)⟩
  by_cases h12 : x = 12
  · exact ⟨12, 2, IVr_nails i h12 (by subst h12; decide) (by decide) (by decide)⟩
  by_cases h24 : x = 24
  · exact ⟨24, 1, IVr_nails i h24 (by subst h24; decide) (by decide) (by decide)⟩
  exact absurd (by rw [if_neg h4, if_neg h6, if_neg h8, if_neg h12, if_neg h24]) h
set_option maxRecDepth 10000 in
set_option maxHeartbeats 1000000 in
theorem s_nails {G : zW} {f : zHM} {m : Nat × Nat} {x o out cap : Nat} {th : Int32} {J : Nat × Nat} (hJ : JI f m x o th cap J) (hout : ∃ g : Nat → Int64, f out = some (750, .inl (1, 1, .inr (.inl g)))) (hb1 : J.1 + 1 ≤ 50000) (hb2 : J.2 + 6 ≤ 399990) (hcap : cap + 400000 < 2 ^ 30) (x1 : Int32) : zSp G x o out (cap + 400000) (J.1 + 1, J.2 + 6) f m yL_nails cL_nails 4 [(0, 9, 12, 13)] yX4_nails cX4_nails 4 [.int x1] := by
  obtain ⟨k, st, ss, L, ch, B, hh, σ, mr, svm, hsl, slm, N, s, n, hC, hz, hR, hmr⟩ := hJ
  have hC0 := hC
  obtain ⟨r, tr, sc, tx, sl, sv, la, A, gv, π, gs, co, M, q1, q2, q3, q4, q5, q6, q7, q8, q9, q10⟩ := hC
  have q2 : RPic f 0 r la A (rOf σ) n (sXs (rOf σ) s n) (sTm (rOf σ) n) := q2
  obtain ⟨r1, r2, r3, r4⟩ := id hR
  obtain ⟨hw, hn2, ⟨a, ha, hat⟩, ⟨u0, hu0, hnow⟩, -⟩ := id r2
  have hv := hw.1
  have hN : N ≤ 24 := hv.N24
  have hm1 : m.1 + 1 ≤ 50000 := by have := q3.m1; omega
  have hm2 : m.2 + 6 ≤ 400000 := by have := q3.m2; omega
  have hB : M.1 + 11 * zcn gv 6 ≤ 50000 ∧ M.2 + 1339 * zcn gv 6 ≤ 399990 := ⟨by omega, by omega⟩
  have hk6 := q7.1
  by_cases h1 : sStepOf x1 = -1
  · exact zSp_err hC0 hz hR hmr hout hb1 hb2 (b := nI 1) (by decide) (w_nails q1 (by decide) (x_nails hm1 hm2 h1) wv_no (fun E h9 hq => ⟨Sum.inr.inj hq.1, rfl, hq.2⟩)) (fun w hM t k0 l0 O => y_nails_1 hM t k0 l0 O h1)
  · refine zSp_ok (T := zTU) (S2 := (sNailsS (sAllOff (rOf σ) (sXs (rOf σ) s n) (sTm (rOf σ) n) s n) x1, 0, (sDn (rOf σ) (sXs (rOf σ) s n) (sTm (rOf σ) n) s n n).2.1, (sDn (rOf σ) (sXs (rOf σ) s n) (sTm (rOf σ) n) s n n).2.2)) (st2 := sPS k st (sCan σ s n)) (ss2 := ss) hz hmr hout zTU_o (fun f1 m1 h1 => CI_ZP q4 q5 q6 q8 q9 q10 h1) (fun hk => w_nails q1 (by decide) (c_nails q1 q2 (by omega) q3 q7 hB hw h1) (wv_ok hk) wx_no) (fun f2 m2 w hM t k0 l0 O => ?_) (by decide : 200 ≤ 400000) (fun σ9 h => ?_) (svm2 := sPM k svm σ) (hsl2 := hsl) (slm2 := slm) (R := fun σ9 => σ9 15 = nI 0 ∧ zEQ 0 (sNailsS (sAllOff (rOf σ) (sXs (rOf σ) s n) (sTm (rOf σ) n) s n) x1) (rOf σ9))
    · have z := c_m9nails (G := G) (m := m2) hM t k0 l0 O (by omega) hw r1 hn2 (xs := sXs (rOf σ) s n) (tm := sTm (rOf σ) n) hnow h1
      rw [hv.1]
      exact z
    · obtain ⟨N2, s2, hi⟩ := IVr_nailsX (IVr_all r2 hN (sXs (rOf σ) s n) (sTm (rOf σ) n)) h1
      refine ⟨N2, s2, SR_mk h.1 h.2 (fun q hq => ?_) (fun p hp => ?_), hR.save hk6 h.1 (IVr_eq h.2 hi)⟩
      · rw [sDn_xs hw hN _ n (Nat.le_refl n), Nat.sub_self, sXs_0, sXs_0]
      · rw [sDn_tm hw hN _ n (Nat.le_refl n), Nat.sub_self, sTm_0, sTm_0]
/-- a question without an argument, asked of both -/
def zSq {α : Type} (mk : α → Value) (ret : FieldType) (G : zW) (x o out cap : Nat) (J : Nat × Nat) (f : zHM) (m : Nat × Nat) (yc : MethodName) (cc : ByteArray) (nLc dc : Nat) (yr : MethodName) (cr : ByteArray) (nLr : Nat) : Prop :=
  ∃ (v : α) (P1 : zHM → Nat × Nat → Prop), zM G yc cc nLc (some ret) dc [.ref x] (f, m) (zD (some (mk v)) P1) ∧ ∀ f2 m2, P1 f2 m2 → (∃ vs, f2 o = some (700, .inr (4, vs))) ∧ zM G yr cr nLr (some ret) 9 [.ref o] (f2, m2) (zD (some (mk v)) (fun f3 m3 => JI f3 m3 x o 0 cap J ∧ ∃ g : Nat → Int64, f3 out = some (750, .inl (1, 1, .inr (.inl g)))))
theorem zSq_ok {α : Type} {mk : α → Value} {ret : FieldType} {G : zW} {yc yr : MethodName} {cc cr : ByteArray} {nLc nLr dc : Nat} {f : zHM} {m : Nat × Nat} {x o out cap : Nat} {th : Int32} {J : Nat × Nat} {k : Nat} {L : Nat} {ch : Nat → Nat} {B : Nat → Nat} {hh : Int64} {σ : Nat → Int32} {mr : Nat} {svm : Nat → Nat → Int32} {hsl : Nat → Int32} {slm : Nat → Nat → Int32} {T : Nat → Prop} {P : zHM → Nat × Nat → Prop} {v : α} {k2 L2 K : Nat} {st2 : Nat → zST} {ss2 : Nat → Option zST} {S2 : zST} {ch2 : Nat → Nat} {svm2 : Nat → Nat → Int32} {hsl2 : Nat → Int32} {slm2 : Nat → Nat → Int32} {R : (Nat → Int32) → Prop} (hz : zNZ f o B hh σ mr th k svm hsl slm L ch) (hmr : mr ≤ cap) (hout : ∃ g : Nat → Int64, f out = some (750, .inl (1, 1, .inr (.inl g)))) (hT : ∀ τ, T τ → τ < 700 ∨ (750 < τ))
    (hP : ∀ f1 m1, P f1 m1 → CI f1 m1 x k2 st2 ss2 S2 L2 ch2 J ∧ zFr T f f1)
    (hc : zM G yc cc nLc (some ret) dc [.ref x] (f, m) (zD (some (mk v)) P))
    (hr : ∀ f2 m2 w, MX f2 o B w hh σ mr → w 0 = th → w 1 = nI k → w 2 = nI L → zNO f2 B k svm hsl slm L ch → ∃ hh2, zM G yr cr nLr (some ret) 9 [.ref o] (f2, m2) (zD (some (mk v)) (fun f9 m9 => (∃ hh3, zNP f2 o B hh3 mr K 0 k2 svm2 hsl2 slm2 L2 ch2 R f9) ∧ m9 = m2)) ∧ hh2 = hh)
    (hK : K ≤ 400000) (hq : ∀ σ9, R σ9 → ∃ N2 s2, SR s2 S2 σ9 ∧ RB σ9 S2.2.1 N2 s2 k2 st2 svm2 ss2 hsl2 slm2) :
    zSq mk ret G x o out (cap + 400000) (J.1 + 1, J.2 + 6) f m yc cc nLc dc yr cr nLr := by
  obtain ⟨g, hg⟩ := hout
  refine ⟨v, P, hc, fun f2 m2 p1 => ?_⟩
  obtain ⟨c1, c2⟩ := hP _ _ p1
  have hz2 := hz.fr c2 (fun τ z => by have := hT _ z; omega)
  obtain ⟨w, z1, z2, z3, z4, z5⟩ := hz2
  obtain ⟨-, hr2, -⟩ := hr f2 m2 w z1 z2 z3 z4 z5
  refine ⟨⟨_, z1.1⟩, zM.mono (zD.mono ?_) hr2⟩
  rintro f3 m3 ⟨⟨hh3, σ9, mr9, a1, a2, a3, a4⟩, e⟩
  subst e
  obtain ⟨N2, s2, b1, b2⟩ := hq σ9 a3
  have ht : ∀ τ, zTZ τ → 700 ≤ τ ∧ τ ≤ 750 := fun τ z => ⟨z.1, by have := z.2; omega⟩
  have cc9 := (c1.fr a4 ht).canon b1
  exact ⟨⟨k2, st2, ss2, L2, ch2, B, hh3, σ9, mr9, svm2, hsl2, slm2, N2, s2, S2.2.1, cc9.wide (by show J.1 ≤ J.1 + 1; omega) (by show J.2 ≤ J.2 + 6; omega), a2, b2, by omega⟩, g, a4 _ _ _ (c2 _ _ _ hg (fun z => by have := hT _ z; omega)) (fun z => by have := z.2; omega)⟩
set_option maxRecDepth 10000 in
set_option maxHeartbeats 1000000 in
theorem s_clearBuffer {G : zW} {f : zHM} {m : Nat × Nat} {x o out cap : Nat} {th : Int32} {J : Nat × Nat} (hJ : JI f m x o th cap J) (hout : ∃ g : Nat → Int64, f out = some (750, .inl (1, 1, .inr (.inl g)))) (hb1 : J.1 + 1 ≤ 50000) (hb2 : J.2 + 6 ≤ 399990) (hcap : cap + 400000 < 2 ^ 30) : zSq Value.int .int G x o out (cap + 400000) (J.1 + 1, J.2 + 6) f m yX3_clearBuffer cX3_clearBuffer 2 7 yX4_clearBuffer cX4_clearBuffer 2 := by
  obtain ⟨k, st, ss, L, ch, B, hh, σ, mr, svm, hsl, slm, N, s, n, hC, hz, hR, hmr⟩ := hJ
  have hC0 := hC
  obtain ⟨r, tr, sc, tx, sl, sv, la, A, gv, π, gs, co, M, q1, q2, q3, q4, q5, q6, q7, q8, q9, q10⟩ := hC
  have q2 : RPic f 0 r la A (rOf σ) n (sXs (rOf σ) s n) (sTm (rOf σ) n) := q2
  obtain ⟨r1, r2, r3, r4⟩ := id hR
  obtain ⟨hw, hn2, ⟨a, ha, hat⟩, ⟨u0, hu0, hnow⟩, -⟩ := id r2
  have hv := hw.1
  have hN : N ≤ 24 := hv.N24
  have hm1 : m.1 + 1 ≤ 50000 := by have := q3.m1; omega
  have hm2 : m.2 + 6 ≤ 400000 := by have := q3.m2; omega
  have hL60 : L ≤ 60 := by
    obtain ⟨w, -, -, -, -, z⟩ := hz
    exact z.2.2.2.1.1
  have hch : ∀ i, i < L → ch i < 128 := by
    obtain ⟨-, g, -, z⟩ := id q6
    exact fun i hi => (z i hi).2
  have hl : ∀ q, q < 144 → zB 3000 (sLack (rOf σ) q) := fun q hq => sLack_b r2 hq
  have hs0 : ∀ u, u < 3 → 0 ≤ (σ (9 + 2 * u)).toInt ∧ (σ (9 + 2 * u)).toInt ≤ 9 := fun u hu => by
    obtain ⟨e, he1, he2, he3⟩ := r2.2.2.2.2.1 u hu
    have he3 : σ (9 + 2 * u) = nI e := he3
    rw [he3, show (nI e).toInt = (e : Int) from i32_n e (by omega)]
    omega
  exact zSq_ok (T := (fun τ => τ = 602 ∨ τ = 603)) (S2 := sCan σ s n) (st2 := st) (ss2 := ss) hz hmr hout (fun τ h => by omega) (fun f1 m1 h1 => CI_T (m := m) (L := L) (ch := ch) q1 q2 q3 q4 q5 q7 q8 q9 q10 h1) (c_clearBuffer q1 q6 hL60) (fun f2 m2 w hM t k0 l0 O => ⟨hh, zM.mono (zD.mono (fun _ _ z => ⟨⟨hh, z.1⟩, z.2⟩)) (c_m9clearBuffer hM t k0 l0 O ), rfl⟩) (by decide) (zq_same hR)
set_option maxRecDepth 10000 in
set_option maxHeartbeats 1000000 in
theorem s_firstError {G : zW} {f : zHM} {m : Nat × Nat} {x o out cap : Nat} {th : Int32} {J : Nat × Nat} (hJ : JI f m x o th cap J) (hout : ∃ g : Nat → Int64, f out = some (750, .inl (1, 1, .inr (.inl g)))) (hb1 : J.1 + 1 ≤ 50000) (hb2 : J.2 + 6 ≤ 399990) (hcap : cap + 400000 < 2 ^ 30) : zSq Value.int .int G x o out (cap + 400000) (J.1 + 1, J.2 + 6) f m yX3_firstError cX3_firstError 1 4 yX4_firstError cX4_firstError 1 := by
  obtain ⟨k, st, ss, L, ch, B, hh, σ, mr, svm, hsl, slm, N, s, n, hC, hz, hR, hmr⟩ := hJ
  have hC0 := hC
  obtain ⟨r, tr, sc, tx, sl, sv, la, A, gv, π, gs, co, M, q1, q2, q3, q4, q5, q6, q7, q8, q9, q10⟩ := hC
  have q2 : RPic f 0 r la A (rOf σ) n (sXs (rOf σ) s n) (sTm (rOf σ) n) := q2
  obtain ⟨r1, r2, r3, r4⟩ := id hR
  obtain ⟨hw, hn2, ⟨a, ha, hat⟩, ⟨u0, hu0, hnow⟩, -⟩ := id r2
  have hv := hw.1
  have hN : N ≤ 24 := hv.N24
  have hm1 : m.1 + 1 ≤ 50000 := by have := q3.m1; omega
  have hm2 : m.2 + 6 ≤ 400000 := by have := q3.m2; omega
  have hL60 : L ≤ 60 := by
    obtain ⟨w, -, -, -, -, z⟩ := hz
    exact z.2.2.2.1.1
  have hch : ∀ i, i < L → ch i < 128 := by
    obtain ⟨-, g, -, z⟩ := id q6
    exact fun i hi => (z i hi).2
  have hl : ∀ q, q < 144 → zB 3000 (sLack (rOf σ) q) := fun q hq => sLack_b r2 hq
  have hs0 : ∀ u, u < 3 → 0 ≤ (σ (9 + 2 * u)).toInt ∧ (σ (9 + 2 * u)).toInt ≤ 9 := fun u hu => by
    obtain ⟨e, he1, he2, he3⟩ := r2.2.2.2.2.1 u hu
    have he3 : σ (9 + 2 * u) = nI e := he3
    rw [he3, show (nI e).toInt = (e : Int) from i32_n e (by omega)]
    omega
  exact zSq_ok (T := (fun _ => False)) (S2 := sCan σ s n) (st2 := st) (ss2 := ss) hz hmr hout (fun τ z => z.elim) (fun f1 m1 h1 => by
    obtain ⟨e1, e2⟩ := h1
    subst e1; subst e2
    exact ⟨hC0, zFr.refl⟩) (c_firstError q1 q6 hL60) (fun f2 m2 w hM t k0 l0 O => ⟨hh, zM.mono (zD.mono (fun _ _ z => ⟨⟨hh, z.1⟩, z.2⟩)) (c_m9firstError hM t k0 l0 O hch), rfl⟩) (by decide) (zq_same hR)
set_option maxRecDepth 10000 in
set_option maxHeartbeats 1000000 in
theorem s_best {G : zW} {f : zHM} {m : Nat × Nat} {x o out cap : Nat} {th : Int32} {J : Nat × Nat} (hJ : JI f m x o th cap J) (hout : ∃ g : Nat → Int64, f out = some (750, .inl (1, 1, .inr (.inl g)))) (hb1 : J.1 + 1 ≤ 50000) (hb2 : J.2 + 6 ≤ 399990) (hcap : cap + 400000 < 2 ^ 30) : zSq Value.int .int G x o out (cap + 400000) (J.1 + 1, J.2 + 6) f m yX3_best cX3_best 1 6 yX4_best cX4_best 1 := by
  obtain ⟨k, st, ss, L, ch, B, hh, σ, mr, svm, hsl, slm, N, s, n, hC, hz, hR, hmr⟩ := hJ
  have hC0 := hC
  obtain ⟨r, tr, sc, tx, sl, sv, la, A, gv, π, gs, co, M, q1, q2, q3, q4, q5, q6, q7, q8, q9, q10⟩ := hC
  have q2 : RPic f 0 r la A (rOf σ) n (sXs (rOf σ) s n) (sTm (rOf σ) n) := q2
  obtain ⟨r1, r2, r3, r4⟩ := id hR
  obtain ⟨hw, hn2, ⟨a, ha, hat⟩, ⟨u0, hu0, hnow⟩, -⟩ := id r2
  have hv := hw.1
  have hN : N ≤ 24 := hv.N24
  have hm1 : m.1 + 1 ≤ 50000 := by have := q3.m1; omega
  have hm2 : m.2 + 6 ≤ 400000 := by have := q3.m2; omega
  have hL60 : L ≤ 60 := by
    obtain ⟨w, -, -, -, -, z⟩ := hz
    exact z.2.2.2.1.1
  have hch : ∀ i, i < L → ch i < 128 := by
    obtain ⟨-, g, -, z⟩ := id q6
    exact fun i hi => (z i hi).2
  have hl : ∀ q, q < 144 → zB 3000 (sLack (rOf σ) q) := fun q hq => sLack_b r2 hq
  have hs0 : ∀ u, u < 3 → 0 ≤ (σ (9 + 2 * u)).toInt ∧ (σ (9 + 2 * u)).toInt ≤ 9 := fun u hu => by
    obtain ⟨e, he1, he2, he3⟩ := r2.2.2.2.2.1 u hu
    have he3 : σ (9 + 2 * u) = nI e := he3
    rw [he3, show (nI e).toInt = (e : Int) from i32_n e (by omega)]
    omega
  exact zSq_ok (T := zT9) (S2 := sCan σ s n) (st2 := st) (ss2 := ss) hz hmr hout zT9_o (fun f1 m1 h1 => CI_9 (m := m) q1 q2 q4 q5 q6 q7 q8 q9 q10 h1.1 h1.2) (c_best q1 q2 hv q3 ha hu0 hat hnow) (fun f2 m2 w hM t k0 l0 O => ⟨hh, zM.mono (zD.mono (fun _ _ z => ⟨⟨hh, z.1⟩, z.2⟩)) (c_m9best hM t k0 l0 O (by omega) hw r1 hn2 ha hat hu0 hnow), rfl⟩) (by decide) (zq_same hR)
set_option maxRecDepth 10000 in
set_option maxHeartbeats 1000000 in
theorem s_bestTwo {G : zW} {f : zHM} {m : Nat × Nat} {x o out cap : Nat} {th : Int32} {J : Nat × Nat} (hJ : JI f m x o th cap J) (hout : ∃ g : Nat → Int64, f out = some (750, .inl (1, 1, .inr (.inl g)))) (hb1 : J.1 + 1 ≤ 50000) (hb2 : J.2 + 6 ≤ 399990) (hcap : cap + 400000 < 2 ^ 30) : zSq Value.int .int G x o out (cap + 400000) (J.1 + 1, J.2 + 6) f m yX3_bestTwo cX3_bestTwo 6 7 yX4_bestTwo cX4_bestTwo 1 := by
  obtain ⟨k, st, ss, L, ch, B, hh, σ, mr, svm, hsl, slm, N, s, n, hC, hz, hR, hmr⟩ := hJ
  have hC0 := hC
  obtain ⟨r, tr, sc, tx, sl, sv, la, A, gv, π, gs, co, M, q1, q2, q3, q4, q5, q6, q7, q8, q9, q10⟩ := hC
  have q2 : RPic f 0 r la A (rOf σ) n (sXs (rOf σ) s n) (sTm (rOf σ) n) := q2
  obtain ⟨r1, r2, r3, r4⟩ := id hR
  obtain ⟨hw, hn2, ⟨a, ha, hat⟩, ⟨u0, hu0, hnow⟩, -⟩ := id r2
  have hv := hw.1
  have hN : N ≤ 24 := hv.N24
  have hm1 : m.1 + 1 ≤ 50000 := by have := q3.m1; omega
  have hm2 : m.2 + 6 ≤ 400000 := by have := q3.m2; omega
  have hL60 : L ≤ 60 := by
    obtain ⟨w, -, -, -, -, z⟩ := hz
    exact z.2.2.2.1.1
  have hch : ∀ i, i < L → ch i < 128 := by
    obtain ⟨-, g, -, z⟩ := id q6
    exact fun i hi => (z i hi).2
  have hl : ∀ q, q < 144 → zB 3000 (sLack (rOf σ) q) := fun q hq => sLack_b r2 hq
  have hs0 : ∀ u, u < 3 → 0 ≤ (σ (9 + 2 * u)).toInt ∧ (σ (9 + 2 * u)).toInt ≤ 9 := fun u hu => by
    obtain ⟨e, he1, he2, he3⟩ := r2.2.2.2.2.1 u hu
    have he3 : σ (9 + 2 * u) = nI e := he3
    rw [he3, show (nI e).toInt = (e : Int) from i32_n e (by omega)]
    omega
  exact zSq_ok (T := zTB) (S2 := sCan σ s n) (st2 := st) (ss2 := ss) hz hmr hout (fun τ h => by rcases h with h | h <;> omega) (fun f1 m1 h1 => by
    obtain ⟨p1, p2, p3⟩ := h1
    obtain ⟨g, q5⟩ := q5
    exact CI_D (m := m) q1 q2 p2 ⟨g, p3 _ _ _ q5 (fun z => by rcases z with z | z <;> omega)⟩ q6 q7 q8 q9 q10 p1 p3 (fun τ z => z.elim Or.inl (fun z => Or.inr (Or.inr z)))) (c_bestTwo q1 q2 hn2 q3 q4 hw ha hu0 hat hnow) (fun f2 m2 w hM t k0 l0 O => ⟨hh, zM.mono (zD.mono (fun _ _ z => ⟨⟨hh, z.1⟩, z.2⟩)) (c_m9bestTwo hM t k0 l0 O (by omega) hw r1 hn2 ha hat hu0 hnow hs0 hl), rfl⟩) (by decide) (zq_same hR)
set_option maxRecDepth 10000 in
set_option maxHeartbeats 1000000 in
theorem s_palest {G : zW} {f : zHM} {m : Nat × Nat} {x o out cap : Nat} {th : Int32} {J : Nat × Nat} (hJ : JI f m x o th cap J) (hout : ∃ g : Nat → Int64, f out = some (750, .inl (1, 1, .inr (.inl g)))) (hb1 : J.1 + 1 ≤ 50000) (hb2 : J.2 + 6 ≤ 399990) (hcap : cap + 400000 < 2 ^ 30) : zSq Value.int .int G x o out (cap + 400000) (J.1 + 1, J.2 + 6) f m yX3_palest cX3_palest 5 7 yX4_palest cX4_palest 1 := by
  obtain ⟨k, st, ss, L, ch, B, hh, σ, mr, svm, hsl, slm, N, s, n, hC, hz, hR, hmr⟩ := hJ
  have hC0 := hC
  obtain ⟨r, tr, sc, tx, sl, sv, la, A, gv, π, gs, co, M, q1, q2, q3, q4, q5, q6, q7, q8, q9, q10⟩ := hC
  have q2 : RPic f 0 r la A (rOf σ) n (sXs (rOf σ) s n) (sTm (rOf σ) n) := q2
  obtain ⟨r1, r2, r3, r4⟩ := id hR
  obtain ⟨hw, hn2, ⟨a, ha, hat⟩, ⟨u0, hu0, hnow⟩, -⟩ := id r2
  have hv := hw.1
  have hN : N ≤ 24 := hv.N24
  have hm1 : m.1 + 1 ≤ 50000 := by have := q3.m1; omega
  have hm2 : m.2 + 6 ≤ 400000 := by have := q3.m2; omega
  have hL60 : L ≤ 60 := by
    obtain ⟨w, -, -, -, -, z⟩ := hz
    exact z.2.2.2.1.1
  have hch : ∀ i, i < L → ch i < 128 := by
    obtain ⟨-, g, -, z⟩ := id q6
    exact fun i hi => (z i hi).2
  have hl : ∀ q, q < 144 → zB 3000 (sLack (rOf σ) q) := fun q hq => sLack_b r2 hq
  have hs0 : ∀ u, u < 3 → 0 ≤ (σ (9 + 2 * u)).toInt ∧ (σ (9 + 2 * u)).toInt ≤ 9 := fun u hu => by
    obtain ⟨e, he1, he2, he3⟩ := r2.2.2.2.2.1 u hu
    have he3 : σ (9 + 2 * u) = nI e := he3
    rw [he3, show (nI e).toInt = (e : Int) from i32_n e (by omega)]
    omega
  exact zSq_ok (T := (fun _ => False)) (S2 := sCan σ s n) (st2 := st) (ss2 := ss) hz hmr hout (fun τ z => z.elim) (fun f1 m1 h1 => by
    obtain ⟨e1, e2⟩ := h1
    subst e1; subst e2
    exact ⟨hC0, zFr.refl⟩) (c_palest q1 q2) (fun f2 m2 w hM t k0 l0 O => ⟨hh, zM.mono (zD.mono (fun _ _ z => ⟨⟨hh, z.1⟩, z.2⟩)) (c_m9palest hM t k0 l0 O ), rfl⟩) (by decide) (zq_same hR)
set_option maxRecDepth 10000 in
set_option maxHeartbeats 1000000 in
theorem s_bestSpool {G : zW} {f : zHM} {m : Nat × Nat} {x o out cap : Nat} {th : Int32} {J : Nat × Nat} (hJ : JI f m x o th cap J) (hout : ∃ g : Nat → Int64, f out = some (750, .inl (1, 1, .inr (.inl g)))) (hb1 : J.1 + 1 ≤ 50000) (hb2 : J.2 + 6 ≤ 399990) (hcap : cap + 400000 < 2 ^ 30) : zSq Value.int .int G x o out (cap + 400000) (J.1 + 1, J.2 + 6) f m yX3_bestSpool cX3_bestSpool 6 7 yX4_bestSpool cX4_bestSpool 1 := by
  obtain ⟨k, st, ss, L, ch, B, hh, σ, mr, svm, hsl, slm, N, s, n, hC, hz, hR, hmr⟩ := hJ
  have hC0 := hC
  obtain ⟨r, tr, sc, tx, sl, sv, la, A, gv, π, gs, co, M, q1, q2, q3, q4, q5, q6, q7, q8, q9, q10⟩ := hC
  have q2 : RPic f 0 r la A (rOf σ) n (sXs (rOf σ) s n) (sTm (rOf σ) n) := q2
  obtain ⟨r1, r2, r3, r4⟩ := id hR
  obtain ⟨hw, hn2, ⟨a, ha, hat⟩, ⟨u0, hu0, hnow⟩, -⟩ := id r2
  have hv := hw.1
  have hN : N ≤ 24 := hv.N24
  have hm1 : m.1 + 1 ≤ 50000 := by have := q3.m1; omega
  have hm2 : m.2 + 6 ≤ 400000 := by have := q3.m2; omega
  have hL60 : L ≤ 60 := by
    obtain ⟨w, -, -, -, -, z⟩ := hz
    exact z.2.2.2.1.1
  have hch : ∀ i, i < L → ch i < 128 := by
    obtain ⟨-, g, -, z⟩ := id q6
    exact fun i hi => (z i hi).2
  have hl : ∀ q, q < 144 → zB 3000 (sLack (rOf σ) q) := fun q hq => sLack_b r2 hq
  have hs0 : ∀ u, u < 3 → 0 ≤ (σ (9 + 2 * u)).toInt ∧ (σ (9 + 2 * u)).toInt ≤ 9 := fun u hu => by
    obtain ⟨e, he1, he2, he3⟩ := r2.2.2.2.2.1 u hu
    have he3 : σ (9 + 2 * u) = nI e := he3
    rw [he3, show (nI e).toInt = (e : Int) from i32_n e (by omega)]
    omega
  exact zSq_ok (T := zTB) (S2 := sCan σ s n) (st2 := st) (ss2 := ss) hz hmr hout (fun τ h => by rcases h with h | h <;> omega) (fun f1 m1 h1 => by
    obtain ⟨p1, p2, p3⟩ := h1
    obtain ⟨g, q5⟩ := q5
    exact CI_D (m := m) q1 q2 p2 ⟨g, p3 _ _ _ q5 (fun z => by rcases z with z | z <;> omega)⟩ q6 q7 q8 q9 q10 p1 p3 (fun τ z => z.elim Or.inl (fun z => Or.inr (Or.inr z)))) (c_bestSpool q1 q2 (by omega) q3 q4 hw ha hu0 hat hnow) (fun f2 m2 w hM t k0 l0 O => ⟨hh, zM.mono (zD.mono (fun _ _ z => ⟨⟨hh, z.1⟩, z.2⟩)) (c_m9bestSpool hM t k0 l0 O (by omega) hw r1 hn2 ha hat hs0 hl), rfl⟩) (by decide) (zq_same hR)
set_option maxRecDepth 10000 in
set_option maxHeartbeats 1000000 in
theorem s_shownShare {G : zW} {f : zHM} {m : Nat × Nat} {x o out cap : Nat} {th : Int32} {J : Nat × Nat} (hJ : JI f m x o th cap J) (hout : ∃ g : Nat → Int64, f out = some (750, .inl (1, 1, .inr (.inl g)))) (hb1 : J.1 + 1 ≤ 50000) (hb2 : J.2 + 6 ≤ 399990) (hcap : cap + 400000 < 2 ^ 30) : zSq Value.double .double G x o out (cap + 400000) (J.1 + 1, J.2 + 6) f m yX3_shownShare cX3_shownShare 1 7 yX4_shownShare cX4_shownShare 1 := by
  obtain ⟨k, st, ss, L, ch, B, hh, σ, mr, svm, hsl, slm, N, s, n, hC, hz, hR, hmr⟩ := hJ
  have hC0 := hC
  obtain ⟨r, tr, sc, tx, sl, sv, la, A, gv, π, gs, co, M, q1, q2, q3, q4, q5, q6, q7, q8, q9, q10⟩ := hC
  have q2 : RPic f 0 r la A (rOf σ) n (sXs (rOf σ) s n) (sTm (rOf σ) n) := q2
  obtain ⟨r1, r2, r3, r4⟩ := id hR
  obtain ⟨hw, hn2, ⟨a, ha, hat⟩, ⟨u0, hu0, hnow⟩, -⟩ := id r2
  have hv := hw.1
  have hN : N ≤ 24 := hv.N24
  have hm1 : m.1 + 1 ≤ 50000 := by have := q3.m1; omega
  have hm2 : m.2 + 6 ≤ 400000 := by have := q3.m2; omega
  have hL60 : L ≤ 60 := by
    obtain ⟨w, -, -, -, -, z⟩ := hz
    exact z.2.2.2.1.1
  have hch : ∀ i, i < L → ch i < 128 := by
    obtain ⟨-, g, -, z⟩ := id q6
    exact fun i hi => (z i hi).2
  have hl : ∀ q, q < 144 → zB 3000 (sLack (rOf σ) q) := fun q hq => sLack_b r2 hq
  have hs0 : ∀ u, u < 3 → 0 ≤ (σ (9 + 2 * u)).toInt ∧ (σ (9 + 2 * u)).toInt ≤ 9 := fun u hu => by
    obtain ⟨e, he1, he2, he3⟩ := r2.2.2.2.2.1 u hu
    have he3 : σ (9 + 2 * u) = nI e := he3
    rw [he3, show (nI e).toInt = (e : Int) from i32_n e (by omega)]
    omega
  exact zSq_ok (T := (fun _ => False)) (S2 := sCan σ s n) (st2 := st) (ss2 := ss) hz hmr hout (fun τ z => z.elim) (fun f1 m1 h1 => by
    obtain ⟨e1, e2⟩ := h1
    subst e1; subst e2
    exact ⟨hC0, zFr.refl⟩) (c_shownShare q1 q2) (fun f2 m2 w hM t k0 l0 O => ⟨hh, zM.mono (zD.mono (fun _ _ z => ⟨⟨hh, z.1⟩, z.2⟩)) (c_m9shownShare hM t k0 l0 O ), rfl⟩) (by decide) (zq_same hR)
set_option maxRecDepth 10000 in
set_option maxHeartbeats 1000000 in
theorem s_digest {G : zW} {f : zHM} {m : Nat × Nat} {x o out cap : Nat} {th : Int32} {J : Nat × Nat} (hJ : JI f m x o th cap J) (hout : ∃ g : Nat → Int64, f out = some (750, .inl (1, 1, .inr (.inl g)))) (hb1 : J.1 + 1 ≤ 50000) (hb2 : J.2 + 6 ≤ 399990) (hcap : cap + 400000 < 2 ^ 30) : zSq Value.long .long G x o out (cap + 400000) (J.1 + 1, J.2 + 6) f m yX3_digest cX3_digest 4 9 yX4_digest cX4_digest 2 := by
  obtain ⟨k, st, ss, L, ch, B, hh, σ, mr, svm, hsl, slm, N, s, n, hC, hz, hR, hmr⟩ := hJ
  have hC0 := hC
  obtain ⟨r, tr, sc, tx, sl, sv, la, A, gv, π, gs, co, M, q1, q2, q3, q4, q5, q6, q7, q8, q9, q10⟩ := hC
  have q2 : RPic f 0 r la A (rOf σ) n (sXs (rOf σ) s n) (sTm (rOf σ) n) := q2
  obtain ⟨r1, r2, r3, r4⟩ := id hR
  obtain ⟨hw, hn2, ⟨a, ha, hat⟩, ⟨u0, hu0, hnow⟩, -⟩ := id r2
  have hv := hw.1
  have hN : N ≤ 24 := hv.N24
  have hm1 : m.1 + 1 ≤ 50000 := by have := q3.m1; omega
  have hm2 : m.2 + 6 ≤ 400000 := by have := q3.m2; omega
  have hL60 : L ≤ 60 := by
    obtain ⟨w, -, -, -, -, z⟩ := hz
    exact z.2.2.2.1.1
  have hch : ∀ i, i < L → ch i < 128 := by
    obtain ⟨-, g, -, z⟩ := id q6
    exact fun i hi => (z i hi).2
  have hl : ∀ q, q < 144 → zB 3000 (sLack (rOf σ) q) := fun q hq => sLack_b r2 hq
  have hs0 : ∀ u, u < 3 → 0 ≤ (σ (9 + 2 * u)).toInt ∧ (σ (9 + 2 * u)).toInt ≤ 9 := fun u hu => by
    obtain ⟨e, he1, he2, he3⟩ := r2.2.2.2.2.1 u hu
    have he3 : σ (9 + 2 * u) = nI e := he3
    rw [he3, show (nI e).toInt = (e : Int) from i32_n e (by omega)]
    omega
  have hgs : ∀ i, i < 2 → hsl i = sSl gs i := fun i hi => by
    unfold sSl
    rcases q8.2 i hi with ⟨g1, g2⟩ | ⟨q, S, g1, g2, g3⟩
    · rcases r4 i hi with ⟨g4, g5⟩ | ⟨T, N2, s2, g4, g5⟩
      · rw [if_pos g1]
        exact g5
      · rw [g2] at g4
        cases g4
    · rcases r4 i hi with ⟨g4, g5⟩ | ⟨T, N2, s2, g4, g5, g6, g7⟩
      · rw [g2] at g4
        cases g4
      · rw [if_neg (by rw [g1]; exact fun z => nomatch z)]
        exact g5
  exact zSq_ok (T := zTD) (S2 := sCan σ s n) (st2 := st) (ss2 := ss) hz hmr hout (fun τ h => by rcases h with h | h | h <;> omega) (fun f1 m1 h1 => by
    obtain ⟨p1, p2, p3, p4⟩ := h1
    exact CI_D (m := m) q1 q2 p3 p2 q6 q7 q8 q9 q10 p1 p4 (fun τ z => z)) (c_digest q1 q2 hn2 hw ha hu0 hat hnow q8 q6 hL60 q3 q5 q4) (fun f2 m2 w hM t k0 l0 O => ⟨hh, zM.mono (zD.mono (fun _ _ z => z)) (c_m9digest hM t k0 l0 O (by omega) hw r1 hn2 ha hat hu0 hnow hs0 hl r2 hgs), rfl⟩) (by decide) (zq_same hR)
