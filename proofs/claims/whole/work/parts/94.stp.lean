/-! A STEP OF THE LAW: the wrapper's contract, then the reference's, and the head of the loop again. -/
theorem CI_ZP {f f1 : zHM} {m1 : Nat × Nat} {x k L r tr sc tx sl sv la co : Nat} {A : Nat → Nat} {gv gs : Nat → Option Nat} {st : Nat → zST} {ss : Nat → Option zST} {S S2 : zST} {ch : Nat → Nat} {M J : Nat × Nat} (q4 : RAny f 20 tr la) (q5 : ∃ g, f sc = some (601, .inl (0, 144, .inl g))) (q6 : TPic f 602 tx co L ch) (q8 : SLP f sl la gs ss) (q9 : M.1 + 11 * zcn gv 6 + 11 * zcn gs 2 ≤ J.1) (q10 : M.2 + 1339 * zcn gv 6 + 1339 * zcn gs 2 ≤ J.2) (h : ZP f x r tr sc tx sl sv k la A gv st M S S2 f1 m1) : CI f1 m1 x (sPK k) (sPS k st S) ss S2 L ch J ∧ zFr zTU f f1 := by
  obtain ⟨gv', π', M', h1, h2, h3, h4, h5, h6, h7⟩ := h
  obtain ⟨g, q5⟩ := q5
  have hn : ∀ τ, (10 < τ ∧ τ < 100) ∨ (210 < τ ∧ τ < 600) ∨ (600 < τ ∧ τ < 605) → ¬ zTU τ := fun τ q z => by
    rcases z with z | z | z | z | z <;> omega
  exact ⟨⟨r, tr, sc, tx, sl, sv, la, A, gv', π', gs, co, M', h5, h6, h2, q4.fr h7 (fun k hk => hn _ (by omega)), ⟨g, h7 _ _ _ q5 (hn _ (by omega))⟩, q6.fr h7 (hn _ (by omega)) (hn _ (by omega)), h1, q8.fr h7 (fun τ hτ => hn _ (by omega)), by omega, by omega⟩, h7⟩
theorem CI_ZPT {T : Nat → Prop} {f f1 : zHM} {m1 : Nat × Nat} {x k L r tr sc tx sl sv la co : Nat} {A : Nat → Nat} {gv gs : Nat → Option Nat} {st : Nat → zST} {ss : Nat → Option zST} {S S2 : zST} {ch : Nat → Nat} {M J : Nat × Nat} (q4 : RAny f 20 tr la) (q6 : TPic f1 602 tx co L ch) (q8 : SLP f sl la gs ss) (q9 : M.1 + 11 * zcn gv 6 + 11 * zcn gs 2 ≤ J.1) (q10 : M.2 + 1339 * zcn gv 6 + 1339 * zcn gs 2 ≤ J.2) (hT : ∀ τ, T τ → zTW τ) (h : ZPT T f x r tr sc tx sl sv k la A gv st M S S2 f1 m1) : CI f1 m1 x (sPK k) (sPS k st S) ss S2 L ch J ∧ zFr T f f1 := by
  obtain ⟨gv', π', M', h1, h2, h3, h4, h5, h6, h7, h8⟩ := h
  have hn : ∀ τ, (10 < τ ∧ τ < 100) ∨ τ = 604 → ¬ T τ := fun τ q z => by
    rcases hT τ z with z | z | z | z | z | z | z <;> omega
  exact ⟨⟨r, tr, sc, tx, sl, sv, la, A, gv', π', gs, co, M', h5, h6, h2, q4.fr h7 (fun k hk => hn _ (by omega)), h8, q6, h1, q8.fr h7 (fun τ hτ => hn _ (by omega)), by omega, by omega⟩, h7⟩
/-- the wrapper's answer lies in the out array -/
def zP1 (P : zHM → Nat × Nat → Prop) (out : Nat) (v : Int32) : zHM → Nat × Nat → Prop := fun f2 m2 => ∃ f1, P f1 m2 ∧ zFr (fun τ => τ = 750) f1 f2 ∧ ∃ g : Nat → Int64, f2 out = some (750, .inl (1, 1, .inr (.inl g))) ∧ g 0 = v.toInt64
theorem wv_ok {P : zHM → Nat × Nat → Prop} {out : Nat} {v : Int32} (hk : ∀ f1 m1, P f1 m1 → ∃ g : Nat → Int64, f1 out = some (750, .inl (1, 1, .inr (.inl g)))) : ∀ v9 h9, zD (some (.int v)) P (.inl v9) h9 → ∃ (w : Int32) (g : Nat → Int64), v9 = some (.int w) ∧ h9.1 out = some (750, .inl (1, 1, .inr (.inl g))) ∧ zD (some (.int 0)) (zP1 P out v) (.inl (some (.int 0))) (zup h9.1 out (750, .inl (1, 1, .inr (.inl (vp_updL g 0 w.toInt64)))), h9.2) := by
  rintro v9 h9 ⟨e, hP⟩
  obtain ⟨g, hg⟩ := hk _ _ hP
  cases Sum.inl.inj e
  exact ⟨v, g, rfl, hg, rfl, h9.1, hP, zFr.put zFr.refl (zPut.of hg) rfl, _, zup_at _ _ _, rfl⟩
theorem wv_no {E : String} {P : zHM → Nat × Nat → Prop} {X : Option Value → zH → Prop} : ∀ v9 h9, zDx E P (.inl v9) h9 → X v9 h9 := fun v9 h9 h => nomatch h.1
theorem wx_no {w : Option Value} {P : zHM → Nat × Nat → Prop} {X : String → zH → Prop} : ∀ E h9, zD w P (.inr E) h9 → X E h9 := fun E h9 h => nomatch h.1
def zSp (G : zW) (x o out cap : Nat) (J : Nat × Nat) (f : zHM) (m : Nat × Nat) (yw : MethodName) (cw : ByteArray) (nLw : Nat) (hhw : List (Nat × Nat × Nat × Nat)) (yr : MethodName) (cr : ByteArray) (nLr : Nat) (as : List Value) : Prop :=
  ∃ (b v : Int32) (P1 : zHM → Nat × Nat → Prop), zMh G yw cw nLw (some .int) hhw 11 (.ref x :: (as ++ [.ref out])) (f, m) (zD (some (.int b)) P1) ∧ ∀ f2 m2, P1 f2 m2 → (∃ vs, f2 o = some (700, .inr (4, vs))) ∧ zM G yr cr nLr (some .int) 9 (.ref o :: as) (f2, m2) (zD (some (.int v)) (fun f3 m3 => JI f3 m3 x o b cap J ∧ zOut1 f3 out b v))
theorem zD.mono {w : Option Value} {P P9 : zHM → Nat × Nat → Prop} (h : ∀ f m, P f m → P9 f m) : ∀ o h9, zD w P o h9 → zD w P9 o h9 := fun o h9 q => ⟨q.1, h _ _ q.2⟩
section ZSTP
variable {G : zW} {yw yr : MethodName} {cw cr : ByteArray} {nLw nLr : Nat} {hhw : List (Nat × Nat × Nat × Nat)} {as : List Value} {f : zHM} {m : Nat × Nat} {x o out cap : Nat} {th : Int32} {J : Nat × Nat} {k : Nat} {st : Nat → zST} {ss : Nat → Option zST} {L : Nat} {ch : Nat → Nat} {B : Nat → Nat} {hh : Int64} {σ : Nat → Int32} {mr : Nat} {svm : Nat → Nat → Int32} {hsl : Nat → Int32} {slm : Nat → Nat → Int32} {N s n : Nat}
theorem zSp_err (hC : CI f m x k st ss (sCan σ s n) L ch J) (hz : zNZ f o B hh σ mr th k svm hsl slm L ch) (hR : RB σ n N s k st svm ss hsl slm) (hmr : mr ≤ cap) (hout : ∃ g : Nat → Int64, f out = some (750, .inl (1, 1, .inr (.inl g)))) (hb1 : J.1 + 1 ≤ 50000) (hb2 : J.2 + 6 ≤ 399990) {b : Int32} (hb0 : ¬ b = 0)
    (hw : zMh G yw cw nLw (some .int) hhw 11 (.ref x :: (as ++ [.ref out])) (f, m) (zD (some (.int b)) (zTh f m)))
    (hr : ∀ w, MX f o B w hh σ mr → w 0 = th → w 1 = nI k → w 2 = nI L → zNO f B k svm hsl slm L ch → zM G yr cr nLr (some .int) 9 (.ref o :: as) (f, (m.1 + 1, m.2 + 6)) (zD (some (.int 0)) (fun f9 m9 => zNP f o B hh mr 0 b k svm hsl slm L ch (fun σ9 => σ9 = σ) f9 ∧ m9 = (m.1 + 1, m.2 + 6)))) :
    zSp G x o out (cap + 400000) (J.1 + 1, J.2 + 6) f m yw cw nLw hhw yr cr nLr as := by
  obtain ⟨g, hg⟩ := hout
  refine ⟨b, 0, _, hw, ?_⟩
  rintro f2 m2 ⟨e1, e2⟩
  subst e1; subst e2
  obtain ⟨w, z1, z2, z3, z4, z5⟩ := hz
  refine ⟨⟨_, z1.1⟩, zM.mono (zD.mono ?_) (hr w z1 z2 z3 z4 z5)⟩
  rintro f3 m3 ⟨⟨σ9, mr9, a1, a2, a3, a4⟩, e⟩
  subst e; subst a3
  have ht : ∀ τ, zTZ τ → 700 ≤ τ ∧ τ ≤ 750 := fun τ z => ⟨z.1, by have := z.2; omega⟩
  exact ⟨⟨k, st, ss, L, ch, B, hh, σ9, mr9, svm, hsl, slm, N, s, n, (hC.more 1 6 hb1 hb2).fr a4 ht, a2, hR, by omega⟩, g, a4 _ _ _ hg (fun z => by have := z.2; omega), fun z => absurd z hb0⟩
theorem zSp_ok {T : Nat → Prop} {P : zHM → Nat × Nat → Prop} {v : Int32} {k2 L2 K : Nat} {st2 : Nat → zST} {ss2 : Nat → Option zST} {S2 : zST} {ch2 : Nat → Nat} {svm2 : Nat → Nat → Int32} {hsl2 : Nat → Int32} {slm2 : Nat → Nat → Int32} {R : (Nat → Int32) → Prop} (hz : zNZ f o B hh σ mr th k svm hsl slm L ch) (hmr : mr ≤ cap) (hout : ∃ g : Nat → Int64, f out = some (750, .inl (1, 1, .inr (.inl g)))) (hT : ∀ τ, T τ → τ < 700 ∨ (750 < τ))
    (hP : ∀ f1 m1, P f1 m1 → CI f1 m1 x k2 st2 ss2 S2 L2 ch2 J ∧ zFr T f f1)
    (hw : (∀ f1 m1, P f1 m1 → ∃ g : Nat → Int64, f1 out = some (750, .inl (1, 1, .inr (.inl g)))) → zMh G yw cw nLw (some .int) hhw 11 (.ref x :: (as ++ [.ref out])) (f, m) (zD (some (.int 0)) (zP1 P out v)))
    (hr : ∀ f2 m2 w, MX f2 o B w hh σ mr → w 0 = th → w 1 = nI k → w 2 = nI L → zNO f2 B k svm hsl slm L ch → zM G yr cr nLr (some .int) 9 (.ref o :: as) (f2, m2) (zD (some (.int v)) (fun f9 m9 => zNP f2 o B hh mr K 0 k2 svm2 hsl2 slm2 L2 ch2 R f9 ∧ m9 = m2)))
    (hK : K ≤ 400000) (hq : ∀ σ9, R σ9 → ∃ N2 s2, SR s2 S2 σ9 ∧ RB σ9 S2.2.1 N2 s2 k2 st2 svm2 ss2 hsl2 slm2) :
    zSp G x o out (cap + 400000) (J.1 + 1, J.2 + 6) f m yw cw nLw hhw yr cr nLr as := by
  obtain ⟨g, hg⟩ := hout
  refine ⟨0, v, _, hw (fun f1 m1 h1 => ⟨g, (hP f1 m1 h1).2 _ _ _ hg (fun z => by have := hT _ z; omega)⟩), ?_⟩
  rintro f2 m2 ⟨f1, p1, p2, g2, p3, p4⟩
  obtain ⟨c1, c2⟩ := hP _ _ p1
  have hz2 := (hz.fr c2 (fun τ z => by have := hT _ z; omega)).fr p2 (fun τ z => by omega)
  obtain ⟨w, z1, z2, z3, z4, z5⟩ := hz2
  refine ⟨⟨_, z1.1⟩, zM.mono (zD.mono ?_) (hr f2 m2 w z1 z2 z3 z4 z5)⟩
  rintro f3 m3 ⟨⟨σ9, mr9, a1, a2, a3, a4⟩, e⟩
  subst e
  obtain ⟨N2, s2, b1, b2⟩ := hq σ9 a3
  have ht : ∀ τ, zTZ τ → 700 ≤ τ ∧ τ ≤ 750 := fun τ z => ⟨z.1, by have := z.2; omega⟩
  have cc := ((c1.fr p2 (fun τ z => by omega)).fr a4 ht).canon b1
  exact ⟨⟨k2, st2, ss2, L2, ch2, B, hh, σ9, mr9, svm2, hsl2, slm2, N2, s2, S2.2.1, cc.wide (by show J.1 ≤ J.1 + 1; omega) (by show J.2 ≤ J.2 + 6; omega), a2, b2, by omega⟩, g2, a4 _ _ _ p3 (fun z => by have := z.2; omega), fun _ => p4⟩
/-- a question: neither of the two is changed -/
theorem zSp_qry {v : Int32} {K : Nat} (hC : CI f m x k st ss (sCan σ s n) L ch J) (hz : zNZ f o B hh σ mr th k svm hsl slm L ch) (hR : RB σ n N s k st svm ss hsl slm) (hmr : mr ≤ cap) (hout : ∃ g : Nat → Int64, f out = some (750, .inl (1, 1, .inr (.inl g))))
    (hw : (∀ f1 m1, (fun f9 m9 => f9 = f ∧ m9 = m : zHM → Nat × Nat → Prop) f1 m1 → ∃ g : Nat → Int64, f1 out = some (750, .inl (1, 1, .inr (.inl g)))) → zMh G yw cw nLw (some .int) hhw 11 (.ref x :: (as ++ [.ref out])) (f, m) (zD (some (.int 0)) (zP1 (fun f9 m9 => f9 = f ∧ m9 = m) out v)))
    (hr : ∀ f2 m2 w, MX f2 o B w hh σ mr → w 0 = th → w 1 = nI k → w 2 = nI L → zNO f2 B k svm hsl slm L ch → zM G yr cr nLr (some .int) 9 (.ref o :: as) (f2, m2) (zD (some (.int v)) (fun f9 m9 => zNP f2 o B hh mr K 0 k svm hsl slm L ch (fun σ9 => σ9 = σ) f9 ∧ m9 = m2)))
    (hK : K ≤ 400000) : zSp G x o out (cap + 400000) (J.1 + 1, J.2 + 6) f m yw cw nLw hhw yr cr nLr as := by
  refine zSp_ok (T := fun _ => False) (S2 := sCan σ s n) (st2 := st) (ss2 := ss) hz hmr hout (fun τ z => z.elim) ?_ hw hr hK ?_
  · rintro f1 m1 ⟨e1, e2⟩
    subst e1; subst e2
    exact ⟨hC, zFr.refl⟩
  · intro σ9 e
    subst e
    exact ⟨N, s, SR_can hR.1, hR⟩
end ZSTP
