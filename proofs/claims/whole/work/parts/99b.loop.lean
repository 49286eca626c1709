/-! THE LAW'S LOOP, AND ITS START. -/
theorem and31 (e : Int32) : ∃ t, t < 32 ∧ e &&& 31 = nI t := by
  refine ⟨e.toBitVec.toNat % 32, Nat.mod_lt _ (by decide), ?_⟩
  apply Int32.toBitVec_inj.mp
  apply BitVec.eq_of_toNat_eq
  have h1 : (e &&& 31).toBitVec = e.toBitVec &&& 31#32 := rfl
  have h2 : e.toBitVec.toNat &&& 31 = e.toBitVec.toNat % 32 := Nat.and_two_pow_sub_one_eq_mod _ 5
  have h3 : e.toBitVec.toNat % 32 < 32 := Nat.mod_lt _ (by decide)
  rw [h1, BitVec.toNat_and, show (31#32).toNat = 31 from rfl, h2]
  show _ = (BitVec.ofNat 32 _).toNat
  rw [BitVec.toNat_ofNat, Nat.mod_eq_of_lt (b := 2 ^ 32) (by omega)]
theorem JI.wide {f : zHM} {m : Nat × Nat} {x o cap cap2 : Nat} {th : Int32} {J J2 : Nat × Nat} (h : JI f m x o th cap J) (hc : cap ≤ cap2) (h1 : J.1 ≤ J2.1) (h2 : J.2 ≤ J2.2) : JI f m x o th cap2 J2 := by
  obtain ⟨k, st, ss, L, ch, B, hh, σ, mr, svm, hsl, slm, N, s, n, hC, hz, hR, hm⟩ := h
  exact ⟨k, st, ss, L, ch, B, hh, σ, mr, svm, hsl, slm, N, s, n, hC.wide h1 h2, hz, hR, Nat.le_trans hm hc⟩
theorem vpN {a N : Nat} (h : a < N) (hN : N ≤ 2048) : vp_in (nI a) N := fun z => by
  rcases z with z | z
  · exact nI_pos (by omega) z
  · rw [nI_clamp (by omega)] at z
    omega
theorem nI_sum (a b : Nat) : nI a + nI b = nI (a + b) := (Int32.ofNat_add a b).symm
set_option maxRecDepth 10000 in
set_option maxHeartbeats 1000000 in
theorem law_disp {G : zW} {f : zHM} {m : Nat × Nat} {x o out cap : Nat} {th : Int32} {J : Nat × Nat} {Q : zOut → zH → Prop} {i : Int32} (hJ : JI f m x o th cap J) (hout : ∃ g : Nat → Int64, f out = some (750, .inl (1, 1, .inr (.inl g)))) (hb1 : J.1 + 1 ≤ 50000) (hb2 : J.2 + 6 ≤ 399990) (hcap : cap + 400000 < 2 ^ 30) (h1 : vp_in (i + 1) (zSc G).2.1) (h2 : vp_in (i + 2) (zSc G).2.1) (h3 : vp_in (i + 3) (zSc G).2.1) (e : Int32) (kk : ∀ f3 m3 (b3 : Int32), JI f3 m3 x o b3 (cap + 400000) (J.1 + 1, J.2 + 6) → (∃ g : Nat → Int64, f3 out = some (750, .inl (1, 1, .inr (.inl g)))) → zVl G yL_law cL_law 9 (some .boolean) 12 1705 [(0, .ref (zSc G).1), (1, .ref x), (2, .ref o), (3, .ref out), (4, .int i)] [] (f3, m3) Q) : zVl G yL_law cL_law 9 (some .boolean) 12 39 [(0, .ref (zSc G).1), (1, .ref x), (2, .ref o), (3, .ref out), (4, .int i)] [.int (e &&& 31)] (f, m) Q := by
  obtain ⟨vx, hx⟩ := hJ.x
  obtain ⟨t, ht, e1⟩ := and31 e
  rw [e1]
  rcases (by omega : t = 0 ∨ t = 1 ∨ t = 2 ∨ t = 3 ∨ t = 4 ∨ t = 5 ∨ t = 6 ∨ t = 7 ∨ t = 8 ∨ t = 9 ∨ t = 10 ∨ t = 11 ∨ t = 12 ∨ t = 13 ∨ t = 14 ∨ t = 15 ∨ t = 16 ∨ t = 17 ∨ t = 18 ∨ t = 19 ∨ t = 20 ∨ t = 21 ∨ t = 22 ∨ t = 23 ∨ t = 24 ∨ t = 25 ∨ t = 26 ∨ t = 27 ∨ t = 28 ∨ t = 29 ∨ t = 30 ∨ t = 31) with e0 | e0 | e0 | e0 | e0 | e0 | e0 | e0 | e0 | e0 | e0 | e0 | e0 | e0 | e0 | e0 | e0 | e0 | e0 | e0 | e0 | e0 | e0 | e0 | e0 | e0 | e0 | e0 | e0 | e0 | e0 | e0
  · subst e0
    refine zl_tableIn 176 dL_law_39 (by decide) (by decide) (off := 137) (by rfl) (by decide) ?_
    exact l_nails h1 (s_nails hJ hout hb1 hb2 hcap _) kk
  · subst e0
    refine zl_tableIn 232 dL_law_39 (by decide) (by decide) (off := 193) (by rfl) (by decide) ?_
    exact l_spool h1 h2 h3 (s_spool hJ hout hb1 hb2 hcap _ _ _) kk
  · subst e0
    refine zl_tableIn 312 dL_law_39 (by decide) (by decide) (off := 273) (by rfl) (by decide) ?_
    exact l_knot h1 (s_knot hJ hout hb1 hb2 hcap _) kk
  · subst e0
    refine zl_tableIn 368 dL_law_39 (by decide) (by decide) (off := 329) (by rfl) (by decide) ?_
    exact l_set h1 h2 (s_set hJ hout hb1 hb2 hcap _ _) kk
  · subst e0
    refine zl_tableIn 436 dL_law_39 (by decide) (by decide) (off := 397) (by rfl) (by decide) ?_
    exact l_wind h1 (s_wind hJ hout hb1 hb2 hcap _) kk
  · subst e0
    refine zl_tableIn 492 dL_law_39 (by decide) (by decide) (off := 453) (by rfl) (by decide) ?_
    exact l_unwind  (s_unwind hJ hout hb1 hb2 hcap) kk
  · subst e0
    refine zl_tableIn 536 dL_law_39 (by decide) (by decide) (off := 497) (by rfl) (by decide) ?_
    exact l_windBest h1 (s_windBest hJ hout hb1 hb2 hcap _) kk
  · subst e0
    refine zl_tableIn 592 dL_law_39 (by decide) (by decide) (off := 553) (by rfl) (by decide) ?_
    exact l_want h1 h2 h3 (s_want hJ hout hb1 hb2 hcap _ _ _) kk
  · subst e0
    refine zl_tableIn 672 dL_law_39 (by decide) (by decide) (off := 633) (by rfl) (by decide) ?_
    exact l_turnFace h1 (s_turnFace hJ hout hb1 hb2 hcap _) kk
  · subst e0
    refine zl_tableIn 728 dL_law_39 (by decide) (by decide) (off := 689) (by rfl) (by decide) ?_
    exact l_append h1 (s_append hJ hout hb1 hb2 hcap _) kk
  · subst e0
    refine zl_tableIn 784 dL_law_39 (by decide) (by decide) (off := 745) (by rfl) (by decide) ?_
    exact l_clearBuffer hx (s_clearBuffer hJ hout hb1 hb2 hcap) kk
  · subst e0
    refine zl_tableIn 797 dL_law_39 (by decide) (by decide) (off := 758) (by rfl) (by decide) ?_
    exact l_firstError hx (s_firstError hJ hout hb1 hb2 hcap) kk
  · subst e0
    refine zl_tableIn 810 dL_law_39 (by decide) (by decide) (off := 771) (by rfl) (by decide) ?_
    exact l_load  (s_load hJ hout hb1 hb2 hcap) kk
  · subst e0
    refine zl_tableIn 854 dL_law_39 (by decide) (by decide) (off := 815) (by rfl) (by decide) ?_
    exact l_keep h1 (s_keep hJ hout hb1 hb2 hcap _) kk
  · subst e0
    refine zl_tableIn 910 dL_law_39 (by decide) (by decide) (off := 871) (by rfl) (by decide) ?_
    exact l_goBack h1 (s_goBack hJ hout hb1 hb2 hcap _) kk
  · subst e0
    refine zl_tableIn 966 dL_law_39 (by decide) (by decide) (off := 927) (by rfl) (by decide) ?_
    exact l_undo  (s_undo hJ hout hb1 hb2 hcap) kk
  · subst e0
    refine zl_tableIn 1010 dL_law_39 (by decide) (by decide) (off := 971) (by rfl) (by decide) ?_
    exact l_nailOf h1 h2 (s_nailOf hJ hout hb1 hb2 hcap _ _) kk
  · subst e0
    refine zl_tableIn 1078 dL_law_39 (by decide) (by decide) (off := 1039) (by rfl) (by decide) ?_
    exact l_spoolOf h1 h2 (s_spoolOf hJ hout hb1 hb2 hcap _ _) kk
  · subst e0
    refine zl_tableIn 1146 dL_law_39 (by decide) (by decide) (off := 1107) (by rfl) (by decide) ?_
    exact l_chord h1 h2 h3 (s_chord hJ hout hb1 hb2 hcap _ _ _) kk
  · subst e0
    refine zl_tableIn 1226 dL_law_39 (by decide) (by decide) (off := 1187) (by rfl) (by decide) ?_
    exact l_wound h1 h2 (s_wound hJ hout hb1 hb2 hcap _ _) kk
  · subst e0
    refine zl_tableIn 1294 dL_law_39 (by decide) (by decide) (off := 1255) (by rfl) (by decide) ?_
    exact l_square h1 h2 h3 (s_square hJ hout hb1 hb2 hcap _ _ _) kk
  · subst e0
    refine zl_tableIn 1374 dL_law_39 (by decide) (by decide) (off := 1335) (by rfl) (by decide) ?_
    exact l_count h1 (s_count hJ hout hb1 hb2 hcap _) kk
  · subst e0
    refine zl_tableIn 1430 dL_law_39 (by decide) (by decide) (off := 1391) (by rfl) (by decide) ?_
    exact l_setting h1 (s_setting hJ hout hb1 hb2 hcap _) kk
  · subst e0
    refine zl_tableIn 1486 dL_law_39 (by decide) (by decide) (off := 1447) (by rfl) (by decide) ?_
    exact l_whyNot h1 (s_whyNot hJ hout hb1 hb2 hcap _) kk
  · subst e0
    refine zl_tableIn 1542 dL_law_39 (by decide) (by decide) (off := 1503) (by rfl) (by decide) ?_
    exact l_gain h1 (s_gain hJ hout hb1 hb2 hcap _) kk
  · subst e0
    refine zl_tableIn 1598 dL_law_39 (by decide) (by decide) (off := 1559) (by rfl) (by decide) ?_
    exact l_best hx (s_best hJ hout hb1 hb2 hcap) kk
  · subst e0
    refine zl_tableIn 1611 dL_law_39 (by decide) (by decide) (off := 1572) (by rfl) (by decide) ?_
    exact l_bestTwo hx (s_bestTwo hJ hout hb1 hb2 hcap) kk
  · subst e0
    refine zl_tableIn 1624 dL_law_39 (by decide) (by decide) (off := 1585) (by rfl) (by decide) ?_
    exact l_palest hx (s_palest hJ hout hb1 hb2 hcap) kk
  · subst e0
    refine zl_tableIn 1637 dL_law_39 (by decide) (by decide) (off := 1598) (by rfl) (by decide) ?_
    exact l_bestSpool hx (s_bestSpool hJ hout hb1 hb2 hcap) kk
  · subst e0
    refine zl_tableIn 1650 dL_law_39 (by decide) (by decide) (off := 1611) (by rfl) (by decide) ?_
    exact l_shownShare hx (s_shownShare hJ hout hb1 hb2 hcap) kk
  · subst e0
    refine zl_tableIn 1691 dL_law_39 (by decide) (by decide) (off := 1652) (by rfl) (by decide) ?_
    exact l_digest hx (s_digest hJ hout hb1 hb2 hcap) kk
  · subst e0
    refine zl_tableOut 1705 dL_law_39 (by decide) (by decide) ?_
    exact kk f m th (hJ.wide (by omega) (by show J.1 ≤ J.1 + 1; omega) (by show J.2 ≤ J.2 + 6; omega)) hout
theorem law_sub {L : Nat} (hL : L ≤ 2048) : (nI L - 4).toInt = (L : Int) - 4 := pk_sub_toInt (a := L) (b := 4) (by omega) (by omega)
theorem nI_tI {a : Nat} (h : a ≤ 4096) : (nI a).toInt = (a : Int) := Int32.toInt_ofNat_of_lt (by omega)
theorem law_cmp {L j : Nat} (hL : L ≤ 2048) (h4 : 4 * j ≤ 2052) (h : 4 * j + 4 ≤ L) : ¬ Int32.ofNat L - 4 < nI (4 * j) := fun z => by
  have z := Int32.lt_iff_toInt_lt.mp z
  rw [nI_tI (by omega)] at z
  have e := law_sub hL
  unfold nI at e
  omega
theorem law_cmp2 {L j : Nat} (hL : L ≤ 2048) (h4 : 4 * j ≤ 2052) (h : L < 4 * j + 4) : Int32.ofNat L - 4 < nI (4 * j) := by
  apply Int32.lt_iff_toInt_lt.mpr
  rw [nI_tI (by omega)]
  have e := law_sub hL
  unfold nI at e
  omega
set_option maxRecDepth 10000 in
set_option maxHeartbeats 1000000 in
theorem law_end {G : zW} {f : zHM} {m : Nat × Nat} {x o out j : Nat} {Q : zOut → zH → Prop} (hQ : ∀ h, Q (.inl (some (.int 1))) h) (hL : (zSc G).2.1 ≤ 2048) (h4 : 4 * j ≤ 2052) (h : (zSc G).2.1 < 4 * j + 4) : zVl G yL_law cL_law 9 (some .boolean) 12 23 [(0, .ref (zSc G).1), (1, .ref x), (2, .ref o), (3, .ref out), (4, .int (nI (4 * j)))] [] (f, m) Q := by
  refine zl_iload dL_law_23 rfl ?_
  refine zl_aload_n dL_law_25 rfl rfl ?_
  refine zl_slen dL_law_26 ?_
  refine zl_iconst (4) dL_law_27 (by decide) ?_
  refine zl_isub dL_law_28 ?_
  refine zl_icmp_gt 1711 dL_law_29 (by decide) (fun _ => ?_) (fun z => absurd (law_cmp2 hL h4 h) z)
  refine zl_iconst (1) dL_law_1711 (by decide) ?_
  exact zl_zreturn dL_law_1712 rfl (by decide) (hQ _)
set_option maxRecDepth 10000 in
set_option maxHeartbeats 1000000 in
theorem law_loop {G : zW} {x o out : Nat} {Q : zOut → zH → Prop} (hQ : ∀ h, Q (.inl (some (.int 1))) h) (hL : (zSc G).2.1 ≤ 2048) {J : Nat × Nat} (hJ1 : J.1 + 600 ≤ 50000) (hJ2 : J.2 + 3600 ≤ 399990) : ∀ (r j : Nat) (f : zHM) (m : Nat × Nat) (th : Int32), (zSc G).2.1 < 4 * (j + r) + 4 → 4 * j ≤ 2052 → JI f m x o th (400000 * j) (J.1 + j, J.2 + 6 * j) → (∃ g : Nat → Int64, f out = some (750, .inl (1, 1, .inr (.inl g)))) → zVl G yL_law cL_law 9 (some .boolean) 12 23 [(0, .ref (zSc G).1), (1, .ref x), (2, .ref o), (3, .ref out), (4, .int (nI (4 * j)))] [] (f, m) Q := by
  intro r
  induction r with
  | zero =>
    intro j f m th hr h4 hJ hout
    exact law_end hQ hL h4 (by omega)
  | succ r ih =>
    intro j f m th hr h4 hJ hout
    by_cases hlt : (zSc G).2.1 < 4 * j + 4
    · exact law_end hQ hL h4 hlt
    · refine zl_iload dL_law_23 rfl ?_
      refine zl_aload_n dL_law_25 rfl rfl ?_
      refine zl_slen dL_law_26 ?_
      refine zl_iconst (4) dL_law_27 (by decide) ?_
      refine zl_isub dL_law_28 ?_
      refine zl_icmp_gt 1711 dL_law_29 (by decide) (fun z => absurd z (law_cmp hL h4 (by omega))) (fun _ => ?_)
      refine zl_aload_n dL_law_32 rfl rfl ?_
      refine zl_iload dL_law_33 rfl ?_
      refine zl_sload dL_law_35 (vpN (by omega) hL) ?_
      refine zl_bipush (31) dL_law_36 (by decide) ?_
      refine zl_iand dL_law_38 ?_
      have hi1 : vp_in (nI (4 * j) + 1) (zSc G).2.1 := by rw [show (1 : Int32) = nI 1 from rfl, nI_sum]; exact vpN (by omega) hL
      have hi2 : vp_in (nI (4 * j) + 2) (zSc G).2.1 := by rw [show (2 : Int32) = nI 2 from rfl, nI_sum]; exact vpN (by omega) hL
      have hi3 : vp_in (nI (4 * j) + 3) (zSc G).2.1 := by rw [show (3 : Int32) = nI 3 from rfl, nI_sum]; exact vpN (by omega) hL
      refine law_disp hJ hout (by show J.1 + j + 1 ≤ 50000; omega) (by show J.2 + 6 * j + 6 ≤ 399990; omega) (by omega) hi1 hi2 hi3 _ (fun f3 m3 b3 hJ3 hout3 => ?_)
      refine zl_iincC (4) dL_law_1705 rfl (by decide) (by decide) ?_
      rw [show nI (4 * j) + 4 = nI (4 * (j + 1)) by rw [show (4 : Int32) = nI 4 from rfl, nI_sum]; rfl]
      refine zl_goto 23 dL_law_1708 (by decide) ?_
      exact zl_loc (lv' := [(0, .ref (zSc G).1), (1, .ref x), (2, .ref o), (3, .ref out), (4, .int (nI (4 * (j + 1))))]) ⟨rfl, rfl, rfl, rfl, rfl, trivial⟩ (ih (j + 1) f3 m3 b3 (by omega) (by omega) (hJ3.wide (by omega) (by show J.1 + j + 1 ≤ J.1 + (j + 1); omega) (by show J.2 + 6 * j + 6 ≤ J.2 + 6 * (j + 1); omega)) hout3)
theorem IVr_new : IVr 12 2 0 sNew := by
  refine ⟨⟨⟨rfl, by decide, by decide, by decide⟩, by decide, fun c hc => by omega⟩, by decide, ⟨0, by decide, rfl⟩, ⟨0, by decide, rfl⟩, fun u hu => ?_, ⟨2, by decide, by decide, rfl⟩, fun q hq => ⟨0, by decide, rfl⟩, fun q hq => (sDk_0 _ _ _).symm⟩
  rcases (by omega : u = 0 ∨ u = 1 ∨ u = 2) with e | e | e
  · subst e; exact ⟨1, by decide, by decide, rfl⟩
  · subst e; exact ⟨2, by decide, by decide, rfl⟩
  · subst e; exact ⟨3, by decide, by decide, rfl⟩
theorem zcn_none : ∀ n, zcn (fun _ => none) n = n
  | 0 => rfl
  | n + 1 => by
    unfold zcn
    rw [zcn_none n, if_pos rfl]
    try omega
set_option maxRecDepth 10000 in
set_option maxHeartbeats 1000000 in
theorem law_start {G : zW} {Q : zOut → zH → Prop} (hQ : ∀ h, Q (.inl (some (.int 1))) h) (hL : (zSc G).2.1 ≤ 2048) : zVl G yL_law cL_law 9 (some .boolean) 12 0 (lv_args 0 [.ref (zSc G).1]) [] (fun _ => none, (0, 0)) Q := by
  refine zl_newX 600 nL_8 dL_law_0 (by decide) (by decide) (fun x f1 hx => ?_)
  refine zl_dup dL_law_3 rfl ?_
  refine zl_callI0 kL_88 gi_X3_init rfl dL_law_4 (c_new hx.1 (by decide) (by decide)) rfl rfl (by decide) (Nat.le_of_ble_eq_true rfl) (fun f2 m2 hc => ?_)
  obtain ⟨r, tr, sc, tx, sl, sv, la, A, A2, co, c1, c2, c3, c4, c5, c6, c7, c8, c9, rfl⟩ := hc
  have hC : CI f2 (29, 3175) x 0 (fun _ => (sNew, 0, (fun _ => 0), (fun _ => 0))) (fun _ => none) (sNew, 0, (fun _ => 0), (fun _ => 0)) 0 (fun _ => 0) (945, 26031) := by
    refine ⟨r, tr, sc, tx, sl, sv, la, A, fun _ => none, fun j => j, fun _ => none, co, (857, 15319), c1, c2, ⟨by decide, by decide, _, c8, (fun p hp q hq => nomatch hq), by rw [zcn_none]; decide, by rw [zcn_none]; decide⟩, ⟨_, _, _, _, _, c3⟩, ⟨_, c4⟩, c5, ⟨by decide, c7, fun j hj => hj, fun i j _ _ h => h, fun j hj => by omega, (fun j q hj h => nomatch h)⟩, ⟨c6, fun j hj => Or.inl ⟨rfl, rfl⟩⟩, by rw [zcn_none, zcn_none]; decide, by rw [zcn_none, zcn_none]; decide⟩
  refine zl_astore_n dL_law_7 rfl (by decide) ?_
  refine zl_newX 700 nL_89 dL_law_8 (by decide) (by decide) (fun o f3 ho => ?_)
  refine zl_dup dL_law_11 rfl ?_
  refine zl_callI0 kL_91 gi_X4_init rfl dL_law_12 (c_mnew ho.1 (by decide) (by decide)) rfl rfl (by decide) (Nat.le_of_ble_eq_true rfl) (fun f4 m4 hc => ?_)
  obtain ⟨⟨B, σ, z1, z2, z3, z4⟩, rfl⟩ := hc
  refine zl_astore_n dL_law_15 rfl (by decide) ?_
  refine zl_iconst (1) dL_law_16 (by decide) ?_
  refine zl_newJX 750 1 dL_law_17 (by decide) (by decide) (by decide) (by decide) (by decide) (fun out f5 hu => ?_)
  refine zl_astore_n dL_law_19 rfl (by decide) ?_
  refine zl_iconst (0) dL_law_20 (by decide) ?_
  refine zl_istore dL_law_21 (by decide) ?_
  have hT : ∀ τ, zTZ τ → 700 ≤ τ ∧ τ ≤ 750 := fun τ z => ⟨z.1, by have := z.2; omega⟩
  have hC3 : CI f5 (29, 3175) x 0 (fun _ => (sNew, 0, (fun _ => 0), (fun _ => 0))) (fun _ => none) (sNew, 0, (fun _ => 0), (fun _ => 0)) 0 (fun _ => 0) (945, 26031) := ((hC.fr (zFr.new (T := fun _ => False) zFr.refl ho) (fun τ z => z.elim)).fr z4 hT).fr (zFr.new (T := fun _ => False) zFr.refl hu) (fun τ z => z.elim)
  have hC4 := (hC3.more 10 8647 (by decide) (by decide)).canon (SR_mk (s := 2) z2 z3 (fun q _ => (sXs_0 _ _ _).symm) (fun p _ => (sTm_0 _ _).symm))
  have hJ : JI f5 (39, 11822) x o 0 0 (955, 34678) := ⟨0, _, _, 0, _, B, 0, σ, 0, _, _, _, 12, 2, 0, hC4, z1.fr (zFr.new (T := fun _ => False) zFr.refl hu) (fun τ z => z.elim), ⟨z2, IVr_eq z3 IVr_new, fun j hj => by omega, fun j _ => Or.inl ⟨rfl, rfl⟩⟩, Nat.le_refl 0⟩
  exact zl_loc (lv' := [(0, .ref (zSc G).1), (1, .ref x), (2, .ref o), (3, .ref out), (4, .int (nI (4 * 0)))]) ⟨rfl, rfl, rfl, rfl, rfl, trivial⟩ (law_loop (J := (955, 34678)) hQ hL (by decide) (by decide) 513 0 f5 (39, 11822) 0 (by omega) (by decide) hJ ⟨_, hu.1⟩)
