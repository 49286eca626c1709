/-! THE WRAPPERS, ONE BY ONE: out of a contract of the operation, the wrapper's. -/
theorem cl_L_13 : Cond.classLink RL 13 xIAE ∈ GT := GT_at 565 (by decide +kernel) (by decide +kernel)
theorem cl_L_19 : Cond.classLink RL 19 xIOB ∈ GT := GT_at 590 (by decide +kernel) (by decide +kernel)
theorem cl_L_21 : Cond.classLink RL 21 xISE ∈ GT := GT_at 591 (by decide +kernel) (by decide +kernel)
theorem ne_13_19 : xIAE ≠ xIOB := by decide +kernel
theorem ne_19_13 : xIOB ≠ xIAE := by decide +kernel
theorem ne_13_21 : xIAE ≠ xISE := by decide +kernel
theorem ne_21_13 : xISE ≠ xIAE := by decide +kernel
theorem ne_19_21 : xIOB ≠ xISE := by decide +kernel
theorem ne_21_19 : xISE ≠ xIOB := by decide +kernel
theorem z01 : vp_in 0 1 := fun h => by
  rcases h with h | h
  · exact absurd h (by decide)
  · exact absurd h (by decide)
theorem in_13 : xIAE ∈ zEXC := by decide +kernel
theorem in_19 : xIOB ∈ zEXC := by decide +kernel
theorem in_21 : xISE ∈ zEXC := by decide +kernel
set_option maxRecDepth 10000 in
set_option maxHeartbeats 1000000 in
theorem w_nails {G : zW} {h : zH} {Qc Q : zOut → zH → Prop} {d o out tg : Nat} {vs : List Value} {x1 : Int32} (hob : h.1 o = some (tg, .inr (3, vs))) (hd : d + 1 ≤ 11) (hM : zM G yX3_nails cX3_nails 4 (some .int) d [.ref o, .int x1] h Qc) (hv : ∀ v h9, Qc (.inl v) h9 → ∃ (w : Int32) (g : Nat → Int64), v = some (.int w) ∧ h9.1 out = some (750, .inl (1, 1, .inr (.inl g))) ∧ Q (.inl (some (.int 0))) (zup h9.1 out (750, .inl (1, 1, .inr (.inl (vp_updL g 0 w.toInt64)))), h9.2)) (hx : ∀ E h9, Qc (.inr E) h9 → (E = xIAE ∧ Q (.inl (some (.int 1))) h9)) : zMh G yL_nails cL_nails 4 (some .int) [(0, 9, 12, 13)] 11 [.ref o, .int x1, .ref out] h Q := by
  refine zMh.of (by decide) (Nat.le_of_ble_eq_true rfl) ?_
  refine w_aload_n (i := 2) dL_nails_0 rfl rfl ?_
  refine w_iconst 0 dL_nails_1 rfl ?_
  refine w_aload_n (i := 0) dL_nails_2 rfl rfl ?_
  refine w_iload_n (i := 1) dL_nails_3 rfl rfl ?_
  refine w_callV (as := [.int x1]) (rest := [.int 0, .ref out]) (vs := vs) (b := o) (ci := 3) kL_7 gi_X3_nails ge_X3_nails rfl dL_nails_4 hob hM rfl rfl hd (Nat.le_of_ble_eq_true rfl) ?_ ?_
  · intro v h9 hq
    obtain ⟨w, g, rfl, ho, hQ⟩ := hv v h9 hq
    refine w_i2l dL_nails_7 ?_
    refine w_lastore (i := 0) dL_nails_8 ho z01 ?_
    refine w_goto 15 dL_nails_9 (by decide) ?_
    refine w_iconst 0 dL_nails_15 rfl ?_
    exact w_ireturn dL_nails_16 rfl hQ
  · intro E h9 hq
    rcases hx E h9 hq with ⟨rfl, hQ⟩
    · refine ⟨[], ⟨0, 9, 12, 13⟩, [], rfl, (fun z hz => nomatch hz), by decide, by decide, cl_L_13, in_13, fun q => ?_⟩
      refine w_astore_n (i := 3) dL_nails_12 rfl (by decide) ?_
      refine w_iconst 1 dL_nails_13 rfl ?_
      exact w_ireturn dL_nails_14 rfl hQ
theorem kw_nails : zCSh RL 92 yL_nails cL_nails 4 (some .int) [(0, 9, 12, 13)] 3 := ⟨GT_at 562 (by decide +kernel) (by decide +kernel), GT_at 60 (by decide +kernel) (by decide +kernel), GT_at 564 (by decide +kernel) (by decide +kernel), by decide, by decide +kernel, by decide +kernel, by decide +kernel⟩
theorem gs_L_nails : Cond.static yL_nails ∈ GT := GT_at 563 (by decide +kernel) (by decide +kernel)
set_option maxRecDepth 10000 in
set_option maxHeartbeats 1000000 in
theorem w_spool {G : zW} {h : zH} {Qc Q : zOut → zH → Prop} {d o out tg : Nat} {vs : List Value} {x1 x2 x3 : Int32} (hob : h.1 o = some (tg, .inr (3, vs))) (hd : d + 1 ≤ 11) (hM : zM G yX3_spool cX3_spool 5 (some .int) d [.ref o, .int x1, .int x2, .int x3] h Qc) (hv : ∀ v h9, Qc (.inl v) h9 → ∃ (w : Int32) (g : Nat → Int64), v = some (.int w) ∧ h9.1 out = some (750, .inl (1, 1, .inr (.inl g))) ∧ Q (.inl (some (.int 0))) (zup h9.1 out (750, .inl (1, 1, .inr (.inl (vp_updL g 0 w.toInt64)))), h9.2)) (hx : ∀ E h9, Qc (.inr E) h9 → (E = xIOB ∧ Q (.inl (some (.int 1))) h9) ∨ (E = xIAE ∧ Q (.inl (some (.int 2))) h9) ∨ (E = xISE ∧ Q (.inl (some (.int 3))) h9)) : zMh G yL_spool cL_spool 6 (some .int) [(0, 12, 15, 19), (0, 12, 19, 13), (0, 12, 23, 21)] 11 [.ref o, .int x1, .int x2, .int x3, .ref out] h Q := by
  refine zMh.of (by decide) (Nat.le_of_ble_eq_true rfl) ?_
  refine w_aload (i := 4) dL_spool_0 rfl ?_
  refine w_iconst 0 dL_spool_2 rfl ?_
  refine w_aload_n (i := 0) dL_spool_3 rfl rfl ?_
  refine w_iload_n (i := 1) dL_spool_4 rfl rfl ?_
  refine w_iload_n (i := 2) dL_spool_5 rfl rfl ?_
  refine w_iload_n (i := 3) dL_spool_6 rfl rfl ?_
  refine w_callV (as := [.int x1, .int x2, .int x3]) (rest := [.int 0, .ref out]) (vs := vs) (b := o) (ci := 3) kL_15 gi_X3_spool ge_X3_spool rfl dL_spool_7 hob hM rfl rfl hd (Nat.le_of_ble_eq_true rfl) ?_ ?_
  · intro v h9 hq
    obtain ⟨w, g, rfl, ho, hQ⟩ := hv v h9 hq
    refine w_i2l dL_spool_10 ?_
    refine w_lastore (i := 0) dL_spool_11 ho z01 ?_
    refine w_goto 27 dL_spool_12 (by decide) ?_
    refine w_iconst 0 dL_spool_27 rfl ?_
    exact w_ireturn dL_spool_28 rfl hQ
  · intro E h9 hq
    rcases hx E h9 hq with ⟨rfl, hQ⟩ | ⟨rfl, hQ⟩ | ⟨rfl, hQ⟩
    · refine ⟨[], ⟨0, 12, 15, 19⟩, [⟨0, 12, 19, 13⟩, ⟨0, 12, 23, 21⟩], rfl, (fun z hz => nomatch hz), by decide, by decide, cl_L_19, in_19, fun q => ?_⟩
      refine w_astore (i := 5) dL_spool_15 (by decide) ?_
      refine w_iconst 1 dL_spool_17 rfl ?_
      exact w_ireturn dL_spool_18 rfl hQ
    · refine ⟨[⟨0, 12, 15, 19⟩], ⟨0, 12, 19, 13⟩, [⟨0, 12, 23, 21⟩], rfl, (fun z hz => by
        simp only [List.mem_cons, List.not_mem_nil, or_false] at hz
        rcases hz with rfl
        · exact ⟨by decide, xIOB, cl_L_19, in_19, ne_13_19⟩), by decide, by decide, cl_L_13, in_13, fun q => ?_⟩
      refine w_astore (i := 5) dL_spool_19 (by decide) ?_
      refine w_iconst 2 dL_spool_21 rfl ?_
      exact w_ireturn dL_spool_22 rfl hQ
    · refine ⟨[⟨0, 12, 15, 19⟩, ⟨0, 12, 19, 13⟩], ⟨0, 12, 23, 21⟩, [], rfl, (fun z hz => by
        simp only [List.mem_cons, List.not_mem_nil, or_false] at hz
        rcases hz with rfl | rfl
        · exact ⟨by decide, xIOB, cl_L_19, in_19, ne_21_19⟩
        · exact ⟨by decide, xIAE, cl_L_13, in_13, ne_21_13⟩), by decide, by decide, cl_L_21, in_21, fun q => ?_⟩
      refine w_astore (i := 5) dL_spool_23 (by decide) ?_
      refine w_iconst 3 dL_spool_25 rfl ?_
      exact w_ireturn dL_spool_26 rfl hQ
theorem kw_spool : zCSh RL 101 yL_spool cL_spool 6 (some .int) [(0, 12, 15, 19), (0, 12, 19, 13), (0, 12, 23, 21)] 5 := ⟨GT_at 587 (by decide +kernel) (by decide +kernel), GT_at 60 (by decide +kernel) (by decide +kernel), GT_at 589 (by decide +kernel) (by decide +kernel), by decide, by decide +kernel, by decide +kernel, by decide +kernel⟩
theorem gs_L_spool : Cond.static yL_spool ∈ GT := GT_at 588 (by decide +kernel) (by decide +kernel)
set_option maxRecDepth 10000 in
set_option maxHeartbeats 1000000 in
theorem w_knot {G : zW} {h : zH} {Qc Q : zOut → zH → Prop} {d o out tg : Nat} {vs : List Value} {x1 : Int32} (hob : h.1 o = some (tg, .inr (3, vs))) (hd : d + 1 ≤ 11) (hM : zM G yX3_knot cX3_knot 2 (some .int) d [.ref o, .int x1] h Qc) (hv : ∀ v h9, Qc (.inl v) h9 → ∃ (w : Int32) (g : Nat → Int64), v = some (.int w) ∧ h9.1 out = some (750, .inl (1, 1, .inr (.inl g))) ∧ Q (.inl (some (.int 0))) (zup h9.1 out (750, .inl (1, 1, .inr (.inl (vp_updL g 0 w.toInt64)))), h9.2)) (hx : ∀ E h9, Qc (.inr E) h9 → (E = xIOB ∧ Q (.inl (some (.int 1))) h9) ∨ (E = xISE ∧ Q (.inl (some (.int 2))) h9)) : zMh G yL_knot cL_knot 4 (some .int) [(0, 9, 12, 19), (0, 9, 15, 21)] 11 [.ref o, .int x1, .ref out] h Q := by
  refine zMh.of (by decide) (Nat.le_of_ble_eq_true rfl) ?_
  refine w_aload_n (i := 2) dL_knot_0 rfl rfl ?_
  refine w_iconst 0 dL_knot_1 rfl ?_
  refine w_aload_n (i := 0) dL_knot_2 rfl rfl ?_
  refine w_iload_n (i := 1) dL_knot_3 rfl rfl ?_
  refine w_callV (as := [.int x1]) (rest := [.int 0, .ref out]) (vs := vs) (b := o) (ci := 3) kL_23 gi_X3_knot ge_X3_knot rfl dL_knot_4 hob hM rfl rfl hd (Nat.le_of_ble_eq_true rfl) ?_ ?_
  · intro v h9 hq
    obtain ⟨w, g, rfl, ho, hQ⟩ := hv v h9 hq
    refine w_i2l dL_knot_7 ?_
    refine w_lastore (i := 0) dL_knot_8 ho z01 ?_
    refine w_goto 18 dL_knot_9 (by decide) ?_
    refine w_iconst 0 dL_knot_18 rfl ?_
    exact w_ireturn dL_knot_19 rfl hQ
  · intro E h9 hq
    rcases hx E h9 hq with ⟨rfl, hQ⟩ | ⟨rfl, hQ⟩
    · refine ⟨[], ⟨0, 9, 12, 19⟩, [⟨0, 9, 15, 21⟩], rfl, (fun z hz => nomatch hz), by decide, by decide, cl_L_19, in_19, fun q => ?_⟩
      refine w_astore_n (i := 3) dL_knot_12 rfl (by decide) ?_
      refine w_iconst 1 dL_knot_13 rfl ?_
      exact w_ireturn dL_knot_14 rfl hQ
    · refine ⟨[⟨0, 9, 12, 19⟩], ⟨0, 9, 15, 21⟩, [], rfl, (fun z hz => by
        simp only [List.mem_cons, List.not_mem_nil, or_false] at hz
        rcases hz with rfl
        · exact ⟨by decide, xIOB, cl_L_19, in_19, ne_21_19⟩), by decide, by decide, cl_L_21, in_21, fun q => ?_⟩
      refine w_astore_n (i := 3) dL_knot_15 rfl (by decide) ?_
      refine w_iconst 2 dL_knot_16 rfl ?_
      exact w_ireturn dL_knot_17 rfl hQ
theorem kw_knot : zCSh RL 105 yL_knot cL_knot 4 (some .int) [(0, 9, 12, 19), (0, 9, 15, 21)] 3 := ⟨GT_at 612 (by decide +kernel) (by decide +kernel), GT_at 60 (by decide +kernel) (by decide +kernel), GT_at 614 (by decide +kernel) (by decide +kernel), by decide, by decide +kernel, by decide +kernel, by decide +kernel⟩
theorem gs_L_knot : Cond.static yL_knot ∈ GT := GT_at 613 (by decide +kernel) (by decide +kernel)
set_option maxRecDepth 10000 in
set_option maxHeartbeats 1000000 in
theorem w_set {G : zW} {h : zH} {Qc Q : zOut → zH → Prop} {d o out tg : Nat} {vs : List Value} {x1 x2 : Int32} (hob : h.1 o = some (tg, .inr (3, vs))) (hd : d + 1 ≤ 11) (hM : zM G yX3_set cX3_set 4 (some .int) d [.ref o, .int x1, .int x2] h Qc) (hv : ∀ v h9, Qc (.inl v) h9 → ∃ (w : Int32) (g : Nat → Int64), v = some (.int w) ∧ h9.1 out = some (750, .inl (1, 1, .inr (.inl g))) ∧ Q (.inl (some (.int 0))) (zup h9.1 out (750, .inl (1, 1, .inr (.inl (vp_updL g 0 w.toInt64)))), h9.2)) (hx : ∀ E h9, Qc (.inr E) h9 → (E = xIOB ∧ Q (.inl (some (.int 1))) h9) ∨ (E = xIAE ∧ Q (.inl (some (.int 2))) h9)) : zMh G yL_set cL_set 5 (some .int) [(0, 10, 13, 19), (0, 10, 17, 13)] 11 [.ref o, .int x1, .int x2, .ref out] h Q := by
  refine zMh.of (by decide) (Nat.le_of_ble_eq_true rfl) ?_
  refine w_aload_n (i := 3) dL_set_0 rfl rfl ?_
  refine w_iconst 0 dL_set_1 rfl ?_
  refine w_aload_n (i := 0) dL_set_2 rfl rfl ?_
  refine w_iload_n (i := 1) dL_set_3 rfl rfl ?_
  refine w_iload_n (i := 2) dL_set_4 rfl rfl ?_
  refine w_callV (as := [.int x1, .int x2]) (rest := [.int 0, .ref out]) (vs := vs) (b := o) (ci := 3) kL_26 gi_X3_set ge_X3_set rfl dL_set_5 hob hM rfl rfl hd (Nat.le_of_ble_eq_true rfl) ?_ ?_
  · intro v h9 hq
    obtain ⟨w, g, rfl, ho, hQ⟩ := hv v h9 hq
    refine w_i2l dL_set_8 ?_
    refine w_lastore (i := 0) dL_set_9 ho z01 ?_
    refine w_goto 21 dL_set_10 (by decide) ?_
    refine w_iconst 0 dL_set_21 rfl ?_
    exact w_ireturn dL_set_22 rfl hQ
  · intro E h9 hq
    rcases hx E h9 hq with ⟨rfl, hQ⟩ | ⟨rfl, hQ⟩
    · refine ⟨[], ⟨0, 10, 13, 19⟩, [⟨0, 10, 17, 13⟩], rfl, (fun z hz => nomatch hz), by decide, by decide, cl_L_19, in_19, fun q => ?_⟩
      refine w_astore (i := 4) dL_set_13 (by decide) ?_
      refine w_iconst 1 dL_set_15 rfl ?_
      exact w_ireturn dL_set_16 rfl hQ
    · refine ⟨[⟨0, 10, 13, 19⟩], ⟨0, 10, 17, 13⟩, [], rfl, (fun z hz => by
        simp only [List.mem_cons, List.not_mem_nil, or_false] at hz
        rcases hz with rfl
        · exact ⟨by decide, xIOB, cl_L_19, in_19, ne_13_19⟩), by decide, by decide, cl_L_13, in_13, fun q => ?_⟩
      refine w_astore (i := 4) dL_set_17 (by decide) ?_
      refine w_iconst 2 dL_set_19 rfl ?_
      exact w_ireturn dL_set_20 rfl hQ
theorem kw_set : zCSh RL 108 yL_set cL_set 5 (some .int) [(0, 10, 13, 19), (0, 10, 17, 13)] 4 := ⟨GT_at 620 (by decide +kernel) (by decide +kernel), GT_at 60 (by decide +kernel) (by decide +kernel), GT_at 622 (by decide +kernel) (by decide +kernel), by decide, by decide +kernel, by decide +kernel, by decide +kernel⟩
theorem gs_L_set : Cond.static yL_set ∈ GT := GT_at 621 (by decide +kernel) (by decide +kernel)
set_option maxRecDepth 10000 in
set_option maxHeartbeats 1000000 in
theorem w_wind {G : zW} {h : zH} {Qc Q : zOut → zH → Prop} {d o out tg : Nat} {vs : List Value} {x1 : Int32} (hob : h.1 o = some (tg, .inr (3, vs))) (hd : d + 1 ≤ 11) (hM : zM G yX3_wind cX3_wind 3 (some .int) d [.ref o, .int x1] h Qc) (hv : ∀ v h9, Qc (.inl v) h9 → ∃ (w : Int32) (g : Nat → Int64), v = some (.int w) ∧ h9.1 out = some (750, .inl (1, 1, .inr (.inl g))) ∧ Q (.inl (some (.int 0))) (zup h9.1 out (750, .inl (1, 1, .inr (.inl (vp_updL g 0 w.toInt64)))), h9.2)) (hx : ∀ E h9, Qc (.inr E) h9 → (E = xIOB ∧ Q (.inl (some (.int 1))) h9) ∨ (E = xISE ∧ Q (.inl (some (.int 2))) h9)) : zMh G yL_wind cL_wind 4 (some .int) [(0, 9, 12, 19), (0, 9, 15, 21)] 11 [.ref o, .int x1, .ref out] h Q := by
  refine zMh.of (by decide) (Nat.le_of_ble_eq_true rfl) ?_
  refine w_aload_n (i := 2) dL_wind_0 rfl rfl ?_
  refine w_iconst 0 dL_wind_1 rfl ?_
  refine w_aload_n (i := 0) dL_wind_2 rfl rfl ?_
  refine w_iload_n (i := 1) dL_wind_3 rfl rfl ?_
  refine w_callV (as := [.int x1]) (rest := [.int 0, .ref out]) (vs := vs) (b := o) (ci := 3) kL_30 gi_X3_wind ge_X3_wind rfl dL_wind_4 hob hM rfl rfl hd (Nat.le_of_ble_eq_true rfl) ?_ ?_
  · intro v h9 hq
    obtain ⟨w, g, rfl, ho, hQ⟩ := hv v h9 hq
    refine w_i2l dL_wind_7 ?_
    refine w_lastore (i := 0) dL_wind_8 ho z01 ?_
    refine w_goto 18 dL_wind_9 (by decide) ?_
    refine w_iconst 0 dL_wind_18 rfl ?_
    exact w_ireturn dL_wind_19 rfl hQ
  · intro E h9 hq
    rcases hx E h9 hq with ⟨rfl, hQ⟩ | ⟨rfl, hQ⟩
    · refine ⟨[], ⟨0, 9, 12, 19⟩, [⟨0, 9, 15, 21⟩], rfl, (fun z hz => nomatch hz), by decide, by decide, cl_L_19, in_19, fun q => ?_⟩
      refine w_astore_n (i := 3) dL_wind_12 rfl (by decide) ?_
      refine w_iconst 1 dL_wind_13 rfl ?_
      exact w_ireturn dL_wind_14 rfl hQ
    · refine ⟨[⟨0, 9, 12, 19⟩], ⟨0, 9, 15, 21⟩, [], rfl, (fun z hz => by
        simp only [List.mem_cons, List.not_mem_nil, or_false] at hz
        rcases hz with rfl
        · exact ⟨by decide, xIOB, cl_L_19, in_19, ne_21_19⟩), by decide, by decide, cl_L_21, in_21, fun q => ?_⟩
      refine w_astore_n (i := 3) dL_wind_15 rfl (by decide) ?_
      refine w_iconst 2 dL_wind_16 rfl ?_
      exact w_ireturn dL_wind_17 rfl hQ
theorem kw_wind : zCSh RL 112 yL_wind cL_wind 4 (some .int) [(0, 9, 12, 19), (0, 9, 15, 21)] 3 := ⟨GT_at 633 (by decide +kernel) (by decide +kernel), GT_at 60 (by decide +kernel) (by decide +kernel), GT_at 635 (by decide +kernel) (by decide +kernel), by decide, by decide +kernel, by decide +kernel, by decide +kernel⟩
theorem gs_L_wind : Cond.static yL_wind ∈ GT := GT_at 634 (by decide +kernel) (by decide +kernel)
set_option maxRecDepth 10000 in
set_option maxHeartbeats 1000000 in
theorem w_unwind {G : zW} {h : zH} {Qc Q : zOut → zH → Prop} {d o out tg : Nat} {vs : List Value} (hob : h.1 o = some (tg, .inr (3, vs))) (hd : d + 1 ≤ 11) (hM : zM G yX3_unwind cX3_unwind 1 (some .int) d [.ref o] h Qc) (hv : ∀ v h9, Qc (.inl v) h9 → ∃ (w : Int32) (g : Nat → Int64), v = some (.int w) ∧ h9.1 out = some (750, .inl (1, 1, .inr (.inl g))) ∧ Q (.inl (some (.int 0))) (zup h9.1 out (750, .inl (1, 1, .inr (.inl (vp_updL g 0 w.toInt64)))), h9.2)) (hx : ∀ E h9, Qc (.inr E) h9 → (E = xISE ∧ Q (.inl (some (.int 1))) h9)) : zMh G yL_unwind cL_unwind 3 (some .int) [(0, 8, 11, 21)] 11 [.ref o, .ref out] h Q := by
  refine zMh.of (by decide) (Nat.le_of_ble_eq_true rfl) ?_
  refine w_aload_n (i := 1) dL_unwind_0 rfl rfl ?_
  refine w_iconst 0 dL_unwind_1 rfl ?_
  refine w_aload_n (i := 0) dL_unwind_2 rfl rfl ?_
  refine w_callV (as := []) (rest := [.int 0, .ref out]) (vs := vs) (b := o) (ci := 3) kL_33 gi_X3_unwind ge_X3_unwind rfl dL_unwind_3 hob hM rfl rfl hd (Nat.le_of_ble_eq_true rfl) ?_ ?_
  · intro v h9 hq
    obtain ⟨w, g, rfl, ho, hQ⟩ := hv v h9 hq
    refine w_i2l dL_unwind_6 ?_
    refine w_lastore (i := 0) dL_unwind_7 ho z01 ?_
    refine w_goto 14 dL_unwind_8 (by decide) ?_
    refine w_iconst 0 dL_unwind_14 rfl ?_
    exact w_ireturn dL_unwind_15 rfl hQ
  · intro E h9 hq
    rcases hx E h9 hq with ⟨rfl, hQ⟩
    · refine ⟨[], ⟨0, 8, 11, 21⟩, [], rfl, (fun z hz => nomatch hz), by decide, by decide, cl_L_21, in_21, fun q => ?_⟩
      refine w_astore_n (i := 2) dL_unwind_11 rfl (by decide) ?_
      refine w_iconst 1 dL_unwind_12 rfl ?_
      exact w_ireturn dL_unwind_13 rfl hQ
theorem kw_unwind : zCSh RL 115 yL_unwind cL_unwind 3 (some .int) [(0, 8, 11, 21)] 2 := ⟨GT_at 641 (by decide +kernel) (by decide +kernel), GT_at 60 (by decide +kernel) (by decide +kernel), GT_at 643 (by decide +kernel) (by decide +kernel), by decide, by decide +kernel, by decide +kernel, by decide +kernel⟩
theorem gs_L_unwind : Cond.static yL_unwind ∈ GT := GT_at 642 (by decide +kernel) (by decide +kernel)
set_option maxRecDepth 10000 in
set_option maxHeartbeats 1000000 in
theorem w_windBest {G : zW} {h : zH} {Qc Q : zOut → zH → Prop} {d o out tg : Nat} {vs : List Value} {x1 : Int32} (hob : h.1 o = some (tg, .inr (3, vs))) (hd : d + 1 ≤ 11) (hM : zM G yX3_windBest cX3_windBest 4 (some .int) d [.ref o, .int x1] h Qc) (hv : ∀ v h9, Qc (.inl v) h9 → ∃ (w : Int32) (g : Nat → Int64), v = some (.int w) ∧ h9.1 out = some (750, .inl (1, 1, .inr (.inl g))) ∧ Q (.inl (some (.int 0))) (zup h9.1 out (750, .inl (1, 1, .inr (.inl (vp_updL g 0 w.toInt64)))), h9.2)) (hx : ∀ E h9, Qc (.inr E) h9 → (E = xIAE ∧ Q (.inl (some (.int 1))) h9)) : zMh G yL_windBest cL_windBest 4 (some .int) [(0, 9, 12, 13)] 11 [.ref o, .int x1, .ref out] h Q := by
  refine zMh.of (by decide) (Nat.le_of_ble_eq_true rfl) ?_
  refine w_aload_n (i := 2) dL_windBest_0 rfl rfl ?_
  refine w_iconst 0 dL_windBest_1 rfl ?_
  refine w_aload_n (i := 0) dL_windBest_2 rfl rfl ?_
  refine w_iload_n (i := 1) dL_windBest_3 rfl rfl ?_
  refine w_callV (as := [.int x1]) (rest := [.int 0, .ref out]) (vs := vs) (b := o) (ci := 3) kL_37 gi_X3_windBest ge_X3_windBest rfl dL_windBest_4 hob hM rfl rfl hd (Nat.le_of_ble_eq_true rfl) ?_ ?_
  · intro v h9 hq
    obtain ⟨w, g, rfl, ho, hQ⟩ := hv v h9 hq
    refine w_i2l dL_windBest_7 ?_
    refine w_lastore (i := 0) dL_windBest_8 ho z01 ?_
    refine w_goto 15 dL_windBest_9 (by decide) ?_
    refine w_iconst 0 dL_windBest_15 rfl ?_
    exact w_ireturn dL_windBest_16 rfl hQ
  · intro E h9 hq
    rcases hx E h9 hq with ⟨rfl, hQ⟩
    · refine ⟨[], ⟨0, 9, 12, 13⟩, [], rfl, (fun z hz => nomatch hz), by decide, by decide, cl_L_13, in_13, fun q => ?_⟩
      refine w_astore_n (i := 3) dL_windBest_12 rfl (by decide) ?_
      refine w_iconst 1 dL_windBest_13 rfl ?_
      exact w_ireturn dL_windBest_14 rfl hQ
theorem kw_windBest : zCSh RL 119 yL_windBest cL_windBest 4 (some .int) [(0, 9, 12, 13)] 3 := ⟨GT_at 649 (by decide +kernel) (by decide +kernel), GT_at 60 (by decide +kernel) (by decide +kernel), GT_at 651 (by decide +kernel) (by decide +kernel), by decide, by decide +kernel, by decide +kernel, by decide +kernel⟩
theorem gs_L_windBest : Cond.static yL_windBest ∈ GT := GT_at 650 (by decide +kernel) (by decide +kernel)
set_option maxRecDepth 10000 in
set_option maxHeartbeats 1000000 in
theorem w_want {G : zW} {h : zH} {Qc Q : zOut → zH → Prop} {d o out tg : Nat} {vs : List Value} {x1 x2 x3 : Int32} (hob : h.1 o = some (tg, .inr (3, vs))) (hd : d + 1 ≤ 11) (hM : zM G yX3_want cX3_want 6 (some .int) d [.ref o, .int x1, .int x2, .int x3] h Qc) (hv : ∀ v h9, Qc (.inl v) h9 → ∃ (w : Int32) (g : Nat → Int64), v = some (.int w) ∧ h9.1 out = some (750, .inl (1, 1, .inr (.inl g))) ∧ Q (.inl (some (.int 0))) (zup h9.1 out (750, .inl (1, 1, .inr (.inl (vp_updL g 0 w.toInt64)))), h9.2)) (hx : ∀ E h9, Qc (.inr E) h9 → (E = xIOB ∧ Q (.inl (some (.int 1))) h9) ∨ (E = xIAE ∧ Q (.inl (some (.int 2))) h9)) : zMh G yL_want cL_want 6 (some .int) [(0, 12, 15, 19), (0, 12, 19, 13)] 11 [.ref o, .int x1, .int x2, .int x3, .ref out] h Q := by
  refine zMh.of (by decide) (Nat.le_of_ble_eq_true rfl) ?_
  refine w_aload (i := 4) dL_want_0 rfl ?_
  refine w_iconst 0 dL_want_2 rfl ?_
  refine w_aload_n (i := 0) dL_want_3 rfl rfl ?_
  refine w_iload_n (i := 1) dL_want_4 rfl rfl ?_
  refine w_iload_n (i := 2) dL_want_5 rfl rfl ?_
  refine w_iload_n (i := 3) dL_want_6 rfl rfl ?_
  refine w_callV (as := [.int x1, .int x2, .int x3]) (rest := [.int 0, .ref out]) (vs := vs) (b := o) (ci := 3) kL_40 gi_X3_want ge_X3_want rfl dL_want_7 hob hM rfl rfl hd (Nat.le_of_ble_eq_true rfl) ?_ ?_
  · intro v h9 hq
    obtain ⟨w, g, rfl, ho, hQ⟩ := hv v h9 hq
    refine w_i2l dL_want_10 ?_
    refine w_lastore (i := 0) dL_want_11 ho z01 ?_
    refine w_goto 23 dL_want_12 (by decide) ?_
    refine w_iconst 0 dL_want_23 rfl ?_
    exact w_ireturn dL_want_24 rfl hQ
  · intro E h9 hq
    rcases hx E h9 hq with ⟨rfl, hQ⟩ | ⟨rfl, hQ⟩
    · refine ⟨[], ⟨0, 12, 15, 19⟩, [⟨0, 12, 19, 13⟩], rfl, (fun z hz => nomatch hz), by decide, by decide, cl_L_19, in_19, fun q => ?_⟩
      refine w_astore (i := 5) dL_want_15 (by decide) ?_
      refine w_iconst 1 dL_want_17 rfl ?_
      exact w_ireturn dL_want_18 rfl hQ
    · refine ⟨[⟨0, 12, 15, 19⟩], ⟨0, 12, 19, 13⟩, [], rfl, (fun z hz => by
        simp only [List.mem_cons, List.not_mem_nil, or_false] at hz
        rcases hz with rfl
        · exact ⟨by decide, xIOB, cl_L_19, in_19, ne_13_19⟩), by decide, by decide, cl_L_13, in_13, fun q => ?_⟩
      refine w_astore (i := 5) dL_want_19 (by decide) ?_
      refine w_iconst 2 dL_want_21 rfl ?_
      exact w_ireturn dL_want_22 rfl hQ
theorem kw_want : zCSh RL 122 yL_want cL_want 6 (some .int) [(0, 12, 15, 19), (0, 12, 19, 13)] 5 := ⟨GT_at 656 (by decide +kernel) (by decide +kernel), GT_at 60 (by decide +kernel) (by decide +kernel), GT_at 658 (by decide +kernel) (by decide +kernel), by decide, by decide +kernel, by decide +kernel, by decide +kernel⟩
theorem gs_L_want : Cond.static yL_want ∈ GT := GT_at 657 (by decide +kernel) (by decide +kernel)
set_option maxRecDepth 10000 in
set_option maxHeartbeats 1000000 in
theorem w_turnFace {G : zW} {h : zH} {Qc Q : zOut → zH → Prop} {d o out tg : Nat} {vs : List Value} {x1 : Int32} (hob : h.1 o = some (tg, .inr (3, vs))) (hd : d + 1 ≤ 11) (hM : zM G yX3_turnFace cX3_turnFace 5 (some .int) d [.ref o, .int x1] h Qc) (hv : ∀ v h9, Qc (.inl v) h9 → ∃ (w : Int32) (g : Nat → Int64), v = some (.int w) ∧ h9.1 out = some (750, .inl (1, 1, .inr (.inl g))) ∧ Q (.inl (some (.int 0))) (zup h9.1 out (750, .inl (1, 1, .inr (.inl (vp_updL g 0 w.toInt64)))), h9.2)) (hx : ∀ E h9, Qc (.inr E) h9 → (E = xIAE ∧ Q (.inl (some (.int 1))) h9)) : zMh G yL_turnFace cL_turnFace 4 (some .int) [(0, 9, 12, 13)] 11 [.ref o, .int x1, .ref out] h Q := by
  refine zMh.of (by decide) (Nat.le_of_ble_eq_true rfl) ?_
  refine w_aload_n (i := 2) dL_turnFace_0 rfl rfl ?_
  refine w_iconst 0 dL_turnFace_1 rfl ?_
  refine w_aload_n (i := 0) dL_turnFace_2 rfl rfl ?_
  refine w_iload_n (i := 1) dL_turnFace_3 rfl rfl ?_
  refine w_callV (as := [.int x1]) (rest := [.int 0, .ref out]) (vs := vs) (b := o) (ci := 3) kL_43 gi_X3_turnFace ge_X3_turnFace rfl dL_turnFace_4 hob hM rfl rfl hd (Nat.le_of_ble_eq_true rfl) ?_ ?_
  · intro v h9 hq
    obtain ⟨w, g, rfl, ho, hQ⟩ := hv v h9 hq
    refine w_i2l dL_turnFace_7 ?_
    refine w_lastore (i := 0) dL_turnFace_8 ho z01 ?_
    refine w_goto 15 dL_turnFace_9 (by decide) ?_
    refine w_iconst 0 dL_turnFace_15 rfl ?_
    exact w_ireturn dL_turnFace_16 rfl hQ
  · intro E h9 hq
    rcases hx E h9 hq with ⟨rfl, hQ⟩
    · refine ⟨[], ⟨0, 9, 12, 13⟩, [], rfl, (fun z hz => nomatch hz), by decide, by decide, cl_L_13, in_13, fun q => ?_⟩
      refine w_astore_n (i := 3) dL_turnFace_12 rfl (by decide) ?_
      refine w_iconst 1 dL_turnFace_13 rfl ?_
      exact w_ireturn dL_turnFace_14 rfl hQ
theorem kw_turnFace : zCSh RL 125 yL_turnFace cL_turnFace 4 (some .int) [(0, 9, 12, 13)] 3 := ⟨GT_at 663 (by decide +kernel) (by decide +kernel), GT_at 60 (by decide +kernel) (by decide +kernel), GT_at 665 (by decide +kernel) (by decide +kernel), by decide, by decide +kernel, by decide +kernel, by decide +kernel⟩
theorem gs_L_turnFace : Cond.static yL_turnFace ∈ GT := GT_at 664 (by decide +kernel) (by decide +kernel)
set_option maxRecDepth 10000 in
set_option maxHeartbeats 1000000 in
theorem w_append {G : zW} {h : zH} {Qc Q : zOut → zH → Prop} {d o out tg : Nat} {vs : List Value} {x1 : Int32} (hob : h.1 o = some (tg, .inr (3, vs))) (hd : d + 1 ≤ 11) (hM : zM G yX3_append cX3_append 2 (some .int) d [.ref o, .int x1] h Qc) (hv : ∀ v h9, Qc (.inl v) h9 → ∃ (w : Int32) (g : Nat → Int64), v = some (.int w) ∧ h9.1 out = some (750, .inl (1, 1, .inr (.inl g))) ∧ Q (.inl (some (.int 0))) (zup h9.1 out (750, .inl (1, 1, .inr (.inl (vp_updL g 0 w.toInt64)))), h9.2)) (hx : ∀ E h9, Qc (.inr E) h9 → (E = xIAE ∧ Q (.inl (some (.int 1))) h9) ∨ (E = xISE ∧ Q (.inl (some (.int 2))) h9)) : zMh G yL_append cL_append 4 (some .int) [(0, 9, 12, 13), (0, 9, 15, 21)] 11 [.ref o, .int x1, .ref out] h Q := by
  refine zMh.of (by decide) (Nat.le_of_ble_eq_true rfl) ?_
  refine w_aload_n (i := 2) dL_append_0 rfl rfl ?_
  refine w_iconst 0 dL_append_1 rfl ?_
  refine w_aload_n (i := 0) dL_append_2 rfl rfl ?_
  refine w_iload_n (i := 1) dL_append_3 rfl rfl ?_
  refine w_callV (as := [.int x1]) (rest := [.int 0, .ref out]) (vs := vs) (b := o) (ci := 3) kL_46 gi_X3_append ge_X3_append rfl dL_append_4 hob hM rfl rfl hd (Nat.le_of_ble_eq_true rfl) ?_ ?_
  · intro v h9 hq
    obtain ⟨w, g, rfl, ho, hQ⟩ := hv v h9 hq
    refine w_i2l dL_append_7 ?_
    refine w_lastore (i := 0) dL_append_8 ho z01 ?_
    refine w_goto 18 dL_append_9 (by decide) ?_
    refine w_iconst 0 dL_append_18 rfl ?_
    exact w_ireturn dL_append_19 rfl hQ
  · intro E h9 hq
    rcases hx E h9 hq with ⟨rfl, hQ⟩ | ⟨rfl, hQ⟩
    · refine ⟨[], ⟨0, 9, 12, 13⟩, [⟨0, 9, 15, 21⟩], rfl, (fun z hz => nomatch hz), by decide, by decide, cl_L_13, in_13, fun q => ?_⟩
      refine w_astore_n (i := 3) dL_append_12 rfl (by decide) ?_
      refine w_iconst 1 dL_append_13 rfl ?_
      exact w_ireturn dL_append_14 rfl hQ
    · refine ⟨[⟨0, 9, 12, 13⟩], ⟨0, 9, 15, 21⟩, [], rfl, (fun z hz => by
        simp only [List.mem_cons, List.not_mem_nil, or_false] at hz
        rcases hz with rfl
        · exact ⟨by decide, xIAE, cl_L_13, in_13, ne_21_13⟩), by decide, by decide, cl_L_21, in_21, fun q => ?_⟩
      refine w_astore_n (i := 3) dL_append_15 rfl (by decide) ?_
      refine w_iconst 2 dL_append_16 rfl ?_
      exact w_ireturn dL_append_17 rfl hQ
theorem kw_append : zCSh RL 128 yL_append cL_append 4 (some .int) [(0, 9, 12, 13), (0, 9, 15, 21)] 3 := ⟨GT_at 671 (by decide +kernel) (by decide +kernel), GT_at 60 (by decide +kernel) (by decide +kernel), GT_at 673 (by decide +kernel) (by decide +kernel), by decide, by decide +kernel, by decide +kernel, by decide +kernel⟩
theorem gs_L_append : Cond.static yL_append ∈ GT := GT_at 672 (by decide +kernel) (by decide +kernel)
set_option maxRecDepth 10000 in
set_option maxHeartbeats 1000000 in
theorem w_load {G : zW} {h : zH} {Qc Q : zOut → zH → Prop} {d o out tg : Nat} {vs : List Value} (hob : h.1 o = some (tg, .inr (3, vs))) (hd : d + 1 ≤ 11) (hM : zM G yX3_load cX3_load 3 (some .int) d [.ref o] h Qc) (hv : ∀ v h9, Qc (.inl v) h9 → ∃ (w : Int32) (g : Nat → Int64), v = some (.int w) ∧ h9.1 out = some (750, .inl (1, 1, .inr (.inl g))) ∧ Q (.inl (some (.int 0))) (zup h9.1 out (750, .inl (1, 1, .inr (.inl (vp_updL g 0 w.toInt64)))), h9.2)) (hx : ∀ E h9, Qc (.inr E) h9 → (E = xIAE ∧ Q (.inl (some (.int 1))) h9)) : zMh G yL_load cL_load 3 (some .int) [(0, 8, 11, 13)] 11 [.ref o, .ref out] h Q := by
  refine zMh.of (by decide) (Nat.le_of_ble_eq_true rfl) ?_
  refine w_aload_n (i := 1) dL_load_0 rfl rfl ?_
  refine w_iconst 0 dL_load_1 rfl ?_
  refine w_aload_n (i := 0) dL_load_2 rfl rfl ?_
  refine w_callV (as := []) (rest := [.int 0, .ref out]) (vs := vs) (b := o) (ci := 3) kL_49 gi_X3_load ge_X3_load rfl dL_load_3 hob hM rfl rfl hd (Nat.le_of_ble_eq_true rfl) ?_ ?_
  · intro v h9 hq
    obtain ⟨w, g, rfl, ho, hQ⟩ := hv v h9 hq
    refine w_i2l dL_load_6 ?_
    refine w_lastore (i := 0) dL_load_7 ho z01 ?_
    refine w_goto 14 dL_load_8 (by decide) ?_
    refine w_iconst 0 dL_load_14 rfl ?_
    exact w_ireturn dL_load_15 rfl hQ
  · intro E h9 hq
    rcases hx E h9 hq with ⟨rfl, hQ⟩
    · refine ⟨[], ⟨0, 8, 11, 13⟩, [], rfl, (fun z hz => nomatch hz), by decide, by decide, cl_L_13, in_13, fun q => ?_⟩
      refine w_astore_n (i := 2) dL_load_11 rfl (by decide) ?_
      refine w_iconst 1 dL_load_12 rfl ?_
      exact w_ireturn dL_load_13 rfl hQ
theorem kw_load : zCSh RL 139 yL_load cL_load 3 (some .int) [(0, 8, 11, 13)] 2 := ⟨GT_at 683 (by decide +kernel) (by decide +kernel), GT_at 60 (by decide +kernel) (by decide +kernel), GT_at 685 (by decide +kernel) (by decide +kernel), by decide, by decide +kernel, by decide +kernel, by decide +kernel⟩
theorem gs_L_load : Cond.static yL_load ∈ GT := GT_at 684 (by decide +kernel) (by decide +kernel)
set_option maxRecDepth 10000 in
set_option maxHeartbeats 1000000 in
theorem w_keep {G : zW} {h : zH} {Qc Q : zOut → zH → Prop} {d o out tg : Nat} {vs : List Value} {x1 : Int32} (hob : h.1 o = some (tg, .inr (3, vs))) (hd : d + 1 ≤ 11) (hM : zM G yX3_keep cX3_keep 2 (some .int) d [.ref o, .int x1] h Qc) (hv : ∀ v h9, Qc (.inl v) h9 → ∃ (w : Int32) (g : Nat → Int64), v = some (.int w) ∧ h9.1 out = some (750, .inl (1, 1, .inr (.inl g))) ∧ Q (.inl (some (.int 0))) (zup h9.1 out (750, .inl (1, 1, .inr (.inl (vp_updL g 0 w.toInt64)))), h9.2)) (hx : ∀ E h9, Qc (.inr E) h9 → (E = xIAE ∧ Q (.inl (some (.int 1))) h9)) : zMh G yL_keep cL_keep 4 (some .int) [(0, 9, 12, 13)] 11 [.ref o, .int x1, .ref out] h Q := by
  refine zMh.of (by decide) (Nat.le_of_ble_eq_true rfl) ?_
  refine w_aload_n (i := 2) dL_keep_0 rfl rfl ?_
  refine w_iconst 0 dL_keep_1 rfl ?_
  refine w_aload_n (i := 0) dL_keep_2 rfl rfl ?_
  refine w_iload_n (i := 1) dL_keep_3 rfl rfl ?_
  refine w_callV (as := [.int x1]) (rest := [.int 0, .ref out]) (vs := vs) (b := o) (ci := 3) kL_52 gi_X3_keep ge_X3_keep rfl dL_keep_4 hob hM rfl rfl hd (Nat.le_of_ble_eq_true rfl) ?_ ?_
  · intro v h9 hq
    obtain ⟨w, g, rfl, ho, hQ⟩ := hv v h9 hq
    refine w_i2l dL_keep_7 ?_
    refine w_lastore (i := 0) dL_keep_8 ho z01 ?_
    refine w_goto 15 dL_keep_9 (by decide) ?_
    refine w_iconst 0 dL_keep_15 rfl ?_
    exact w_ireturn dL_keep_16 rfl hQ
  · intro E h9 hq
    rcases hx E h9 hq with ⟨rfl, hQ⟩
    · refine ⟨[], ⟨0, 9, 12, 13⟩, [], rfl, (fun z hz => nomatch hz), by decide, by decide, cl_L_13, in_13, fun q => ?_⟩
      refine w_astore_n (i := 3) dL_keep_12 rfl (by decide) ?_
      refine w_iconst 1 dL_keep_13 rfl ?_
      exact w_ireturn dL_keep_14 rfl hQ
theorem kw_keep : zCSh RL 142 yL_keep cL_keep 4 (some .int) [(0, 9, 12, 13)] 3 := ⟨GT_at 699 (by decide +kernel) (by decide +kernel), GT_at 60 (by decide +kernel) (by decide +kernel), GT_at 701 (by decide +kernel) (by decide +kernel), by decide, by decide +kernel, by decide +kernel, by decide +kernel⟩
theorem gs_L_keep : Cond.static yL_keep ∈ GT := GT_at 700 (by decide +kernel) (by decide +kernel)
set_option maxRecDepth 10000 in
set_option maxHeartbeats 1000000 in
theorem w_goBack {G : zW} {h : zH} {Qc Q : zOut → zH → Prop} {d o out tg : Nat} {vs : List Value} {x1 : Int32} (hob : h.1 o = some (tg, .inr (3, vs))) (hd : d + 1 ≤ 11) (hM : zM G yX3_goBack cX3_goBack 3 (some .int) d [.ref o, .int x1] h Qc) (hv : ∀ v h9, Qc (.inl v) h9 → ∃ (w : Int32) (g : Nat → Int64), v = some (.int w) ∧ h9.1 out = some (750, .inl (1, 1, .inr (.inl g))) ∧ Q (.inl (some (.int 0))) (zup h9.1 out (750, .inl (1, 1, .inr (.inl (vp_updL g 0 w.toInt64)))), h9.2)) (hx : ∀ E h9, Qc (.inr E) h9 → (E = xIAE ∧ Q (.inl (some (.int 1))) h9) ∨ (E = xISE ∧ Q (.inl (some (.int 2))) h9)) : zMh G yL_goBack cL_goBack 4 (some .int) [(0, 9, 12, 13), (0, 9, 15, 21)] 11 [.ref o, .int x1, .ref out] h Q := by
  refine zMh.of (by decide) (Nat.le_of_ble_eq_true rfl) ?_
  refine w_aload_n (i := 2) dL_goBack_0 rfl rfl ?_
  refine w_iconst 0 dL_goBack_1 rfl ?_
  refine w_aload_n (i := 0) dL_goBack_2 rfl rfl ?_
  refine w_iload_n (i := 1) dL_goBack_3 rfl rfl ?_
  refine w_callV (as := [.int x1]) (rest := [.int 0, .ref out]) (vs := vs) (b := o) (ci := 3) kL_55 gi_X3_goBack ge_X3_goBack rfl dL_goBack_4 hob hM rfl rfl hd (Nat.le_of_ble_eq_true rfl) ?_ ?_
  · intro v h9 hq
    obtain ⟨w, g, rfl, ho, hQ⟩ := hv v h9 hq
    refine w_i2l dL_goBack_7 ?_
    refine w_lastore (i := 0) dL_goBack_8 ho z01 ?_
    refine w_goto 18 dL_goBack_9 (by decide) ?_
    refine w_iconst 0 dL_goBack_18 rfl ?_
    exact w_ireturn dL_goBack_19 rfl hQ
  · intro E h9 hq
    rcases hx E h9 hq with ⟨rfl, hQ⟩ | ⟨rfl, hQ⟩
    · refine ⟨[], ⟨0, 9, 12, 13⟩, [⟨0, 9, 15, 21⟩], rfl, (fun z hz => nomatch hz), by decide, by decide, cl_L_13, in_13, fun q => ?_⟩
      refine w_astore_n (i := 3) dL_goBack_12 rfl (by decide) ?_
      refine w_iconst 1 dL_goBack_13 rfl ?_
      exact w_ireturn dL_goBack_14 rfl hQ
    · refine ⟨[⟨0, 9, 12, 13⟩], ⟨0, 9, 15, 21⟩, [], rfl, (fun z hz => by
        simp only [List.mem_cons, List.not_mem_nil, or_false] at hz
        rcases hz with rfl
        · exact ⟨by decide, xIAE, cl_L_13, in_13, ne_21_13⟩), by decide, by decide, cl_L_21, in_21, fun q => ?_⟩
      refine w_astore_n (i := 3) dL_goBack_15 rfl (by decide) ?_
      refine w_iconst 2 dL_goBack_16 rfl ?_
      exact w_ireturn dL_goBack_17 rfl hQ
theorem kw_goBack : zCSh RL 145 yL_goBack cL_goBack 4 (some .int) [(0, 9, 12, 13), (0, 9, 15, 21)] 3 := ⟨GT_at 706 (by decide +kernel) (by decide +kernel), GT_at 60 (by decide +kernel) (by decide +kernel), GT_at 708 (by decide +kernel) (by decide +kernel), by decide, by decide +kernel, by decide +kernel, by decide +kernel⟩
theorem gs_L_goBack : Cond.static yL_goBack ∈ GT := GT_at 707 (by decide +kernel) (by decide +kernel)
set_option maxRecDepth 10000 in
set_option maxHeartbeats 1000000 in
theorem w_undo {G : zW} {h : zH} {Qc Q : zOut → zH → Prop} {d o out tg : Nat} {vs : List Value} (hob : h.1 o = some (tg, .inr (3, vs))) (hd : d + 1 ≤ 11) (hM : zM G yX3_undo cX3_undo 2 (some .int) d [.ref o] h Qc) (hv : ∀ v h9, Qc (.inl v) h9 → ∃ (w : Int32) (g : Nat → Int64), v = some (.int w) ∧ h9.1 out = some (750, .inl (1, 1, .inr (.inl g))) ∧ Q (.inl (some (.int 0))) (zup h9.1 out (750, .inl (1, 1, .inr (.inl (vp_updL g 0 w.toInt64)))), h9.2)) (hx : ∀ E h9, Qc (.inr E) h9 → (E = xISE ∧ Q (.inl (some (.int 1))) h9)) : zMh G yL_undo cL_undo 3 (some .int) [(0, 8, 11, 21)] 11 [.ref o, .ref out] h Q := by
  refine zMh.of (by decide) (Nat.le_of_ble_eq_true rfl) ?_
  refine w_aload_n (i := 1) dL_undo_0 rfl rfl ?_
  refine w_iconst 0 dL_undo_1 rfl ?_
  refine w_aload_n (i := 0) dL_undo_2 rfl rfl ?_
  refine w_callV (as := []) (rest := [.int 0, .ref out]) (vs := vs) (b := o) (ci := 3) kL_58 gi_X3_undo ge_X3_undo rfl dL_undo_3 hob hM rfl rfl hd (Nat.le_of_ble_eq_true rfl) ?_ ?_
  · intro v h9 hq
    obtain ⟨w, g, rfl, ho, hQ⟩ := hv v h9 hq
    refine w_i2l dL_undo_6 ?_
    refine w_lastore (i := 0) dL_undo_7 ho z01 ?_
    refine w_goto 14 dL_undo_8 (by decide) ?_
    refine w_iconst 0 dL_undo_14 rfl ?_
    exact w_ireturn dL_undo_15 rfl hQ
  · intro E h9 hq
    rcases hx E h9 hq with ⟨rfl, hQ⟩
    · refine ⟨[], ⟨0, 8, 11, 21⟩, [], rfl, (fun z hz => nomatch hz), by decide, by decide, cl_L_21, in_21, fun q => ?_⟩
      refine w_astore_n (i := 2) dL_undo_11 rfl (by decide) ?_
      refine w_iconst 1 dL_undo_12 rfl ?_
      exact w_ireturn dL_undo_13 rfl hQ
theorem kw_undo : zCSh RL 148 yL_undo cL_undo 3 (some .int) [(0, 8, 11, 21)] 2 := ⟨GT_at 714 (by decide +kernel) (by decide +kernel), GT_at 60 (by decide +kernel) (by decide +kernel), GT_at 716 (by decide +kernel) (by decide +kernel), by decide, by decide +kernel, by decide +kernel, by decide +kernel⟩
theorem gs_L_undo : Cond.static yL_undo ∈ GT := GT_at 715 (by decide +kernel) (by decide +kernel)
set_option maxRecDepth 10000 in
set_option maxHeartbeats 1000000 in
theorem w_nailOf {G : zW} {h : zH} {Qc Q : zOut → zH → Prop} {d o out tg : Nat} {vs : List Value} {x1 x2 : Int32} (hob : h.1 o = some (tg, .inr (3, vs))) (hd : d + 1 ≤ 11) (hM : zM G yX3_nailOf cX3_nailOf 3 (some .int) d [.ref o, .int x1, .int x2] h Qc) (hv : ∀ v h9, Qc (.inl v) h9 → ∃ (w : Int32) (g : Nat → Int64), v = some (.int w) ∧ h9.1 out = some (750, .inl (1, 1, .inr (.inl g))) ∧ Q (.inl (some (.int 0))) (zup h9.1 out (750, .inl (1, 1, .inr (.inl (vp_updL g 0 w.toInt64)))), h9.2)) (hx : ∀ E h9, Qc (.inr E) h9 → (E = xIOB ∧ Q (.inl (some (.int 1))) h9) ∨ (E = xIAE ∧ Q (.inl (some (.int 2))) h9)) : zMh G yL_nailOf cL_nailOf 5 (some .int) [(0, 10, 13, 19), (0, 10, 17, 13)] 11 [.ref o, .int x1, .int x2, .ref out] h Q := by
  refine zMh.of (by decide) (Nat.le_of_ble_eq_true rfl) ?_
  refine w_aload_n (i := 3) dL_nailOf_0 rfl rfl ?_
  refine w_iconst 0 dL_nailOf_1 rfl ?_
  refine w_aload_n (i := 0) dL_nailOf_2 rfl rfl ?_
  refine w_iload_n (i := 1) dL_nailOf_3 rfl rfl ?_
  refine w_iload_n (i := 2) dL_nailOf_4 rfl rfl ?_
  refine w_callV (as := [.int x1, .int x2]) (rest := [.int 0, .ref out]) (vs := vs) (b := o) (ci := 3) kL_61 gi_X3_nailOf ge_X3_nailOf rfl dL_nailOf_5 hob hM rfl rfl hd (Nat.le_of_ble_eq_true rfl) ?_ ?_
  · intro v h9 hq
    obtain ⟨w, g, rfl, ho, hQ⟩ := hv v h9 hq
    refine w_i2l dL_nailOf_8 ?_
    refine w_lastore (i := 0) dL_nailOf_9 ho z01 ?_
    refine w_goto 21 dL_nailOf_10 (by decide) ?_
    refine w_iconst 0 dL_nailOf_21 rfl ?_
    exact w_ireturn dL_nailOf_22 rfl hQ
  · intro E h9 hq
    rcases hx E h9 hq with ⟨rfl, hQ⟩ | ⟨rfl, hQ⟩
    · refine ⟨[], ⟨0, 10, 13, 19⟩, [⟨0, 10, 17, 13⟩], rfl, (fun z hz => nomatch hz), by decide, by decide, cl_L_19, in_19, fun q => ?_⟩
      refine w_astore (i := 4) dL_nailOf_13 (by decide) ?_
      refine w_iconst 1 dL_nailOf_15 rfl ?_
      exact w_ireturn dL_nailOf_16 rfl hQ
    · refine ⟨[⟨0, 10, 13, 19⟩], ⟨0, 10, 17, 13⟩, [], rfl, (fun z hz => by
        simp only [List.mem_cons, List.not_mem_nil, or_false] at hz
        rcases hz with rfl
        · exact ⟨by decide, xIOB, cl_L_19, in_19, ne_13_19⟩), by decide, by decide, cl_L_13, in_13, fun q => ?_⟩
      refine w_astore (i := 4) dL_nailOf_17 (by decide) ?_
      refine w_iconst 2 dL_nailOf_19 rfl ?_
      exact w_ireturn dL_nailOf_20 rfl hQ
theorem kw_nailOf : zCSh RL 151 yL_nailOf cL_nailOf 5 (some .int) [(0, 10, 13, 19), (0, 10, 17, 13)] 4 := ⟨GT_at 722 (by decide +kernel) (by decide +kernel), GT_at 60 (by decide +kernel) (by decide +kernel), GT_at 724 (by decide +kernel) (by decide +kernel), by decide, by decide +kernel, by decide +kernel, by decide +kernel⟩
theorem gs_L_nailOf : Cond.static yL_nailOf ∈ GT := GT_at 723 (by decide +kernel) (by decide +kernel)
set_option maxRecDepth 10000 in
set_option maxHeartbeats 1000000 in
theorem w_spoolOf {G : zW} {h : zH} {Qc Q : zOut → zH → Prop} {d o out tg : Nat} {vs : List Value} {x1 x2 : Int32} (hob : h.1 o = some (tg, .inr (3, vs))) (hd : d + 1 ≤ 11) (hM : zM G yX3_spoolOf cX3_spoolOf 3 (some .int) d [.ref o, .int x1, .int x2] h Qc) (hv : ∀ v h9, Qc (.inl v) h9 → ∃ (w : Int32) (g : Nat → Int64), v = some (.int w) ∧ h9.1 out = some (750, .inl (1, 1, .inr (.inl g))) ∧ Q (.inl (some (.int 0))) (zup h9.1 out (750, .inl (1, 1, .inr (.inl (vp_updL g 0 w.toInt64)))), h9.2)) (hx : ∀ E h9, Qc (.inr E) h9 → (E = xIOB ∧ Q (.inl (some (.int 1))) h9) ∨ (E = xIAE ∧ Q (.inl (some (.int 2))) h9)) : zMh G yL_spoolOf cL_spoolOf 5 (some .int) [(0, 10, 13, 19), (0, 10, 17, 13)] 11 [.ref o, .int x1, .int x2, .ref out] h Q := by
  refine zMh.of (by decide) (Nat.le_of_ble_eq_true rfl) ?_
  refine w_aload_n (i := 3) dL_spoolOf_0 rfl rfl ?_
  refine w_iconst 0 dL_spoolOf_1 rfl ?_
  refine w_aload_n (i := 0) dL_spoolOf_2 rfl rfl ?_
  refine w_iload_n (i := 1) dL_spoolOf_3 rfl rfl ?_
  refine w_iload_n (i := 2) dL_spoolOf_4 rfl rfl ?_
  refine w_callV (as := [.int x1, .int x2]) (rest := [.int 0, .ref out]) (vs := vs) (b := o) (ci := 3) kL_64 gi_X3_spoolOf ge_X3_spoolOf rfl dL_spoolOf_5 hob hM rfl rfl hd (Nat.le_of_ble_eq_true rfl) ?_ ?_
  · intro v h9 hq
    obtain ⟨w, g, rfl, ho, hQ⟩ := hv v h9 hq
    refine w_i2l dL_spoolOf_8 ?_
    refine w_lastore (i := 0) dL_spoolOf_9 ho z01 ?_
    refine w_goto 21 dL_spoolOf_10 (by decide) ?_
    refine w_iconst 0 dL_spoolOf_21 rfl ?_
    exact w_ireturn dL_spoolOf_22 rfl hQ
  · intro E h9 hq
    rcases hx E h9 hq with ⟨rfl, hQ⟩ | ⟨rfl, hQ⟩
    · refine ⟨[], ⟨0, 10, 13, 19⟩, [⟨0, 10, 17, 13⟩], rfl, (fun z hz => nomatch hz), by decide, by decide, cl_L_19, in_19, fun q => ?_⟩
      refine w_astore (i := 4) dL_spoolOf_13 (by decide) ?_
      refine w_iconst 1 dL_spoolOf_15 rfl ?_
      exact w_ireturn dL_spoolOf_16 rfl hQ
    · refine ⟨[⟨0, 10, 13, 19⟩], ⟨0, 10, 17, 13⟩, [], rfl, (fun z hz => by
        simp only [List.mem_cons, List.not_mem_nil, or_false] at hz
        rcases hz with rfl
        · exact ⟨by decide, xIOB, cl_L_19, in_19, ne_13_19⟩), by decide, by decide, cl_L_13, in_13, fun q => ?_⟩
      refine w_astore (i := 4) dL_spoolOf_17 (by decide) ?_
      refine w_iconst 2 dL_spoolOf_19 rfl ?_
      exact w_ireturn dL_spoolOf_20 rfl hQ
theorem kw_spoolOf : zCSh RL 154 yL_spoolOf cL_spoolOf 5 (some .int) [(0, 10, 13, 19), (0, 10, 17, 13)] 4 := ⟨GT_at 726 (by decide +kernel) (by decide +kernel), GT_at 60 (by decide +kernel) (by decide +kernel), GT_at 728 (by decide +kernel) (by decide +kernel), by decide, by decide +kernel, by decide +kernel, by decide +kernel⟩
theorem gs_L_spoolOf : Cond.static yL_spoolOf ∈ GT := GT_at 727 (by decide +kernel) (by decide +kernel)
set_option maxRecDepth 10000 in
set_option maxHeartbeats 1000000 in
theorem w_chord {G : zW} {h : zH} {Qc Q : zOut → zH → Prop} {d o out tg : Nat} {vs : List Value} {x1 x2 x3 : Int32} (hob : h.1 o = some (tg, .inr (3, vs))) (hd : d + 1 ≤ 11) (hM : zM G yX3_chord cX3_chord 4 (some .int) d [.ref o, .int x1, .int x2, .int x3] h Qc) (hv : ∀ v h9, Qc (.inl v) h9 → ∃ (w : Int32) (g : Nat → Int64), v = some (.int w) ∧ h9.1 out = some (750, .inl (1, 1, .inr (.inl g))) ∧ Q (.inl (some (.int 0))) (zup h9.1 out (750, .inl (1, 1, .inr (.inl (vp_updL g 0 w.toInt64)))), h9.2)) (hx : ∀ E h9, Qc (.inr E) h9 → (E = xIOB ∧ Q (.inl (some (.int 1))) h9) ∨ (E = xIAE ∧ Q (.inl (some (.int 2))) h9)) : zMh G yL_chord cL_chord 6 (some .int) [(0, 12, 15, 19), (0, 12, 19, 13)] 11 [.ref o, .int x1, .int x2, .int x3, .ref out] h Q := by
  refine zMh.of (by decide) (Nat.le_of_ble_eq_true rfl) ?_
  refine w_aload (i := 4) dL_chord_0 rfl ?_
  refine w_iconst 0 dL_chord_2 rfl ?_
  refine w_aload_n (i := 0) dL_chord_3 rfl rfl ?_
  refine w_iload_n (i := 1) dL_chord_4 rfl rfl ?_
  refine w_iload_n (i := 2) dL_chord_5 rfl rfl ?_
  refine w_iload_n (i := 3) dL_chord_6 rfl rfl ?_
  refine w_callV (as := [.int x1, .int x2, .int x3]) (rest := [.int 0, .ref out]) (vs := vs) (b := o) (ci := 3) kL_67 gi_X3_chord ge_X3_chord rfl dL_chord_7 hob hM rfl rfl hd (Nat.le_of_ble_eq_true rfl) ?_ ?_
  · intro v h9 hq
    obtain ⟨w, g, rfl, ho, hQ⟩ := hv v h9 hq
    refine w_i2l dL_chord_10 ?_
    refine w_lastore (i := 0) dL_chord_11 ho z01 ?_
    refine w_goto 23 dL_chord_12 (by decide) ?_
    refine w_iconst 0 dL_chord_23 rfl ?_
    exact w_ireturn dL_chord_24 rfl hQ
  · intro E h9 hq
    rcases hx E h9 hq with ⟨rfl, hQ⟩ | ⟨rfl, hQ⟩
    · refine ⟨[], ⟨0, 12, 15, 19⟩, [⟨0, 12, 19, 13⟩], rfl, (fun z hz => nomatch hz), by decide, by decide, cl_L_19, in_19, fun q => ?_⟩
      refine w_astore (i := 5) dL_chord_15 (by decide) ?_
      refine w_iconst 1 dL_chord_17 rfl ?_
      exact w_ireturn dL_chord_18 rfl hQ
    · refine ⟨[⟨0, 12, 15, 19⟩], ⟨0, 12, 19, 13⟩, [], rfl, (fun z hz => by
        simp only [List.mem_cons, List.not_mem_nil, or_false] at hz
        rcases hz with rfl
        · exact ⟨by decide, xIOB, cl_L_19, in_19, ne_13_19⟩), by decide, by decide, cl_L_13, in_13, fun q => ?_⟩
      refine w_astore (i := 5) dL_chord_19 (by decide) ?_
      refine w_iconst 2 dL_chord_21 rfl ?_
      exact w_ireturn dL_chord_22 rfl hQ
theorem kw_chord : zCSh RL 157 yL_chord cL_chord 6 (some .int) [(0, 12, 15, 19), (0, 12, 19, 13)] 5 := ⟨GT_at 730 (by decide +kernel) (by decide +kernel), GT_at 60 (by decide +kernel) (by decide +kernel), GT_at 732 (by decide +kernel) (by decide +kernel), by decide, by decide +kernel, by decide +kernel, by decide +kernel⟩
theorem gs_L_chord : Cond.static yL_chord ∈ GT := GT_at 731 (by decide +kernel) (by decide +kernel)
set_option maxRecDepth 10000 in
set_option maxHeartbeats 1000000 in
theorem w_wound {G : zW} {h : zH} {Qc Q : zOut → zH → Prop} {d o out tg : Nat} {vs : List Value} {x1 x2 : Int32} (hob : h.1 o = some (tg, .inr (3, vs))) (hd : d + 1 ≤ 11) (hM : zM G yX3_wound cX3_wound 4 (some .int) d [.ref o, .int x1, .int x2] h Qc) (hv : ∀ v h9, Qc (.inl v) h9 → ∃ (w : Int32) (g : Nat → Int64), v = some (.int w) ∧ h9.1 out = some (750, .inl (1, 1, .inr (.inl g))) ∧ Q (.inl (some (.int 0))) (zup h9.1 out (750, .inl (1, 1, .inr (.inl (vp_updL g 0 w.toInt64)))), h9.2)) (hx : ∀ E h9, Qc (.inr E) h9 → (E = xIAE ∧ Q (.inl (some (.int 1))) h9)) : zMh G yL_wound cL_wound 5 (some .int) [(0, 10, 13, 13)] 11 [.ref o, .int x1, .int x2, .ref out] h Q := by
  refine zMh.of (by decide) (Nat.le_of_ble_eq_true rfl) ?_
  refine w_aload_n (i := 3) dL_wound_0 rfl rfl ?_
  refine w_iconst 0 dL_wound_1 rfl ?_
  refine w_aload_n (i := 0) dL_wound_2 rfl rfl ?_
  refine w_iload_n (i := 1) dL_wound_3 rfl rfl ?_
  refine w_iload_n (i := 2) dL_wound_4 rfl rfl ?_
  refine w_callV (as := [.int x1, .int x2]) (rest := [.int 0, .ref out]) (vs := vs) (b := o) (ci := 3) kL_70 gi_X3_wound ge_X3_wound rfl dL_wound_5 hob hM rfl rfl hd (Nat.le_of_ble_eq_true rfl) ?_ ?_
  · intro v h9 hq
    obtain ⟨w, g, rfl, ho, hQ⟩ := hv v h9 hq
    refine w_i2l dL_wound_8 ?_
    refine w_lastore (i := 0) dL_wound_9 ho z01 ?_
    refine w_goto 17 dL_wound_10 (by decide) ?_
    refine w_iconst 0 dL_wound_17 rfl ?_
    exact w_ireturn dL_wound_18 rfl hQ
  · intro E h9 hq
    rcases hx E h9 hq with ⟨rfl, hQ⟩
    · refine ⟨[], ⟨0, 10, 13, 13⟩, [], rfl, (fun z hz => nomatch hz), by decide, by decide, cl_L_13, in_13, fun q => ?_⟩
      refine w_astore (i := 4) dL_wound_13 (by decide) ?_
      refine w_iconst 1 dL_wound_15 rfl ?_
      exact w_ireturn dL_wound_16 rfl hQ
theorem kw_wound : zCSh RL 160 yL_wound cL_wound 5 (some .int) [(0, 10, 13, 13)] 4 := ⟨GT_at 734 (by decide +kernel) (by decide +kernel), GT_at 60 (by decide +kernel) (by decide +kernel), GT_at 736 (by decide +kernel) (by decide +kernel), by decide, by decide +kernel, by decide +kernel, by decide +kernel⟩
theorem gs_L_wound : Cond.static yL_wound ∈ GT := GT_at 735 (by decide +kernel) (by decide +kernel)
set_option maxRecDepth 10000 in
set_option maxHeartbeats 1000000 in
theorem w_square {G : zW} {h : zH} {Qc Q : zOut → zH → Prop} {d o out tg : Nat} {vs : List Value} {x1 x2 x3 : Int32} (hob : h.1 o = some (tg, .inr (3, vs))) (hd : d + 1 ≤ 11) (hM : zM G yX3_square cX3_square 5 (some .int) d [.ref o, .int x1, .int x2, .int x3] h Qc) (hv : ∀ v h9, Qc (.inl v) h9 → ∃ (w : Int32) (g : Nat → Int64), v = some (.int w) ∧ h9.1 out = some (750, .inl (1, 1, .inr (.inl g))) ∧ Q (.inl (some (.int 0))) (zup h9.1 out (750, .inl (1, 1, .inr (.inl (vp_updL g 0 w.toInt64)))), h9.2)) (hx : ∀ E h9, Qc (.inr E) h9 → (E = xIOB ∧ Q (.inl (some (.int 1))) h9) ∨ (E = xIAE ∧ Q (.inl (some (.int 2))) h9)) : zMh G yL_square cL_square 6 (some .int) [(0, 12, 15, 19), (0, 12, 19, 13)] 11 [.ref o, .int x1, .int x2, .int x3, .ref out] h Q := by
  refine zMh.of (by decide) (Nat.le_of_ble_eq_true rfl) ?_
  refine w_aload (i := 4) dL_square_0 rfl ?_
  refine w_iconst 0 dL_square_2 rfl ?_
  refine w_aload_n (i := 0) dL_square_3 rfl rfl ?_
  refine w_iload_n (i := 1) dL_square_4 rfl rfl ?_
  refine w_iload_n (i := 2) dL_square_5 rfl rfl ?_
  refine w_iload_n (i := 3) dL_square_6 rfl rfl ?_
  refine w_callV (as := [.int x1, .int x2, .int x3]) (rest := [.int 0, .ref out]) (vs := vs) (b := o) (ci := 3) kL_73 gi_X3_square ge_X3_square rfl dL_square_7 hob hM rfl rfl hd (Nat.le_of_ble_eq_true rfl) ?_ ?_
  · intro v h9 hq
    obtain ⟨w, g, rfl, ho, hQ⟩ := hv v h9 hq
    refine w_i2l dL_square_10 ?_
    refine w_lastore (i := 0) dL_square_11 ho z01 ?_
    refine w_goto 23 dL_square_12 (by decide) ?_
    refine w_iconst 0 dL_square_23 rfl ?_
    exact w_ireturn dL_square_24 rfl hQ
  · intro E h9 hq
    rcases hx E h9 hq with ⟨rfl, hQ⟩ | ⟨rfl, hQ⟩
    · refine ⟨[], ⟨0, 12, 15, 19⟩, [⟨0, 12, 19, 13⟩], rfl, (fun z hz => nomatch hz), by decide, by decide, cl_L_19, in_19, fun q => ?_⟩
      refine w_astore (i := 5) dL_square_15 (by decide) ?_
      refine w_iconst 1 dL_square_17 rfl ?_
      exact w_ireturn dL_square_18 rfl hQ
    · refine ⟨[⟨0, 12, 15, 19⟩], ⟨0, 12, 19, 13⟩, [], rfl, (fun z hz => by
        simp only [List.mem_cons, List.not_mem_nil, or_false] at hz
        rcases hz with rfl
        · exact ⟨by decide, xIOB, cl_L_19, in_19, ne_13_19⟩), by decide, by decide, cl_L_13, in_13, fun q => ?_⟩
      refine w_astore (i := 5) dL_square_19 (by decide) ?_
      refine w_iconst 2 dL_square_21 rfl ?_
      exact w_ireturn dL_square_22 rfl hQ
theorem kw_square : zCSh RL 163 yL_square cL_square 6 (some .int) [(0, 12, 15, 19), (0, 12, 19, 13)] 5 := ⟨GT_at 738 (by decide +kernel) (by decide +kernel), GT_at 60 (by decide +kernel) (by decide +kernel), GT_at 740 (by decide +kernel) (by decide +kernel), by decide, by decide +kernel, by decide +kernel, by decide +kernel⟩
theorem gs_L_square : Cond.static yL_square ∈ GT := GT_at 739 (by decide +kernel) (by decide +kernel)
set_option maxRecDepth 10000 in
set_option maxHeartbeats 1000000 in
theorem w_count {G : zW} {h : zH} {Qc Q : zOut → zH → Prop} {d o out tg : Nat} {vs : List Value} {x1 : Int32} (hob : h.1 o = some (tg, .inr (3, vs))) (hd : d + 1 ≤ 11) (hM : zM G yX3_count cX3_count 2 (some .int) d [.ref o, .int x1] h Qc) (hv : ∀ v h9, Qc (.inl v) h9 → ∃ (w : Int32) (g : Nat → Int64), v = some (.int w) ∧ h9.1 out = some (750, .inl (1, 1, .inr (.inl g))) ∧ Q (.inl (some (.int 0))) (zup h9.1 out (750, .inl (1, 1, .inr (.inl (vp_updL g 0 w.toInt64)))), h9.2)) (hx : ∀ E h9, Qc (.inr E) h9 → (E = xIAE ∧ Q (.inl (some (.int 1))) h9)) : zMh G yL_count cL_count 4 (some .int) [(0, 9, 12, 13)] 11 [.ref o, .int x1, .ref out] h Q := by
  refine zMh.of (by decide) (Nat.le_of_ble_eq_true rfl) ?_
  refine w_aload_n (i := 2) dL_count_0 rfl rfl ?_
  refine w_iconst 0 dL_count_1 rfl ?_
  refine w_aload_n (i := 0) dL_count_2 rfl rfl ?_
  refine w_iload_n (i := 1) dL_count_3 rfl rfl ?_
  refine w_callV (as := [.int x1]) (rest := [.int 0, .ref out]) (vs := vs) (b := o) (ci := 3) kL_76 gi_X3_count ge_X3_count rfl dL_count_4 hob hM rfl rfl hd (Nat.le_of_ble_eq_true rfl) ?_ ?_
  · intro v h9 hq
    obtain ⟨w, g, rfl, ho, hQ⟩ := hv v h9 hq
    refine w_i2l dL_count_7 ?_
    refine w_lastore (i := 0) dL_count_8 ho z01 ?_
    refine w_goto 15 dL_count_9 (by decide) ?_
    refine w_iconst 0 dL_count_15 rfl ?_
    exact w_ireturn dL_count_16 rfl hQ
  · intro E h9 hq
    rcases hx E h9 hq with ⟨rfl, hQ⟩
    · refine ⟨[], ⟨0, 9, 12, 13⟩, [], rfl, (fun z hz => nomatch hz), by decide, by decide, cl_L_13, in_13, fun q => ?_⟩
      refine w_astore_n (i := 3) dL_count_12 rfl (by decide) ?_
      refine w_iconst 1 dL_count_13 rfl ?_
      exact w_ireturn dL_count_14 rfl hQ
theorem kw_count : zCSh RL 166 yL_count cL_count 4 (some .int) [(0, 9, 12, 13)] 3 := ⟨GT_at 742 (by decide +kernel) (by decide +kernel), GT_at 60 (by decide +kernel) (by decide +kernel), GT_at 744 (by decide +kernel) (by decide +kernel), by decide, by decide +kernel, by decide +kernel, by decide +kernel⟩
theorem gs_L_count : Cond.static yL_count ∈ GT := GT_at 743 (by decide +kernel) (by decide +kernel)
set_option maxRecDepth 10000 in
set_option maxHeartbeats 1000000 in
theorem w_setting {G : zW} {h : zH} {Qc Q : zOut → zH → Prop} {d o out tg : Nat} {vs : List Value} {x1 : Int32} (hob : h.1 o = some (tg, .inr (3, vs))) (hd : d + 1 ≤ 11) (hM : zM G yX3_setting cX3_setting 2 (some .int) d [.ref o, .int x1] h Qc) (hv : ∀ v h9, Qc (.inl v) h9 → ∃ (w : Int32) (g : Nat → Int64), v = some (.int w) ∧ h9.1 out = some (750, .inl (1, 1, .inr (.inl g))) ∧ Q (.inl (some (.int 0))) (zup h9.1 out (750, .inl (1, 1, .inr (.inl (vp_updL g 0 w.toInt64)))), h9.2)) (hx : ∀ E h9, Qc (.inr E) h9 → (E = xIOB ∧ Q (.inl (some (.int 1))) h9)) : zMh G yL_setting cL_setting 4 (some .int) [(0, 9, 12, 19)] 11 [.ref o, .int x1, .ref out] h Q := by
  refine zMh.of (by decide) (Nat.le_of_ble_eq_true rfl) ?_
  refine w_aload_n (i := 2) dL_setting_0 rfl rfl ?_
  refine w_iconst 0 dL_setting_1 rfl ?_
  refine w_aload_n (i := 0) dL_setting_2 rfl rfl ?_
  refine w_iload_n (i := 1) dL_setting_3 rfl rfl ?_
  refine w_callV (as := [.int x1]) (rest := [.int 0, .ref out]) (vs := vs) (b := o) (ci := 3) kL_79 gi_X3_setting ge_X3_setting rfl dL_setting_4 hob hM rfl rfl hd (Nat.le_of_ble_eq_true rfl) ?_ ?_
  · intro v h9 hq
    obtain ⟨w, g, rfl, ho, hQ⟩ := hv v h9 hq
    refine w_i2l dL_setting_7 ?_
    refine w_lastore (i := 0) dL_setting_8 ho z01 ?_
    refine w_goto 15 dL_setting_9 (by decide) ?_
    refine w_iconst 0 dL_setting_15 rfl ?_
    exact w_ireturn dL_setting_16 rfl hQ
  · intro E h9 hq
    rcases hx E h9 hq with ⟨rfl, hQ⟩
    · refine ⟨[], ⟨0, 9, 12, 19⟩, [], rfl, (fun z hz => nomatch hz), by decide, by decide, cl_L_19, in_19, fun q => ?_⟩
      refine w_astore_n (i := 3) dL_setting_12 rfl (by decide) ?_
      refine w_iconst 1 dL_setting_13 rfl ?_
      exact w_ireturn dL_setting_14 rfl hQ
theorem kw_setting : zCSh RL 169 yL_setting cL_setting 4 (some .int) [(0, 9, 12, 19)] 3 := ⟨GT_at 746 (by decide +kernel) (by decide +kernel), GT_at 60 (by decide +kernel) (by decide +kernel), GT_at 748 (by decide +kernel) (by decide +kernel), by decide, by decide +kernel, by decide +kernel, by decide +kernel⟩
theorem gs_L_setting : Cond.static yL_setting ∈ GT := GT_at 747 (by decide +kernel) (by decide +kernel)
set_option maxRecDepth 10000 in
set_option maxHeartbeats 1000000 in
theorem w_whyNot {G : zW} {h : zH} {Qc Q : zOut → zH → Prop} {d o out tg : Nat} {vs : List Value} {x1 : Int32} (hob : h.1 o = some (tg, .inr (3, vs))) (hd : d + 1 ≤ 11) (hM : zM G yX3_whyNot cX3_whyNot 2 (some .int) d [.ref o, .int x1] h Qc) (hv : ∀ v h9, Qc (.inl v) h9 → ∃ (w : Int32) (g : Nat → Int64), v = some (.int w) ∧ h9.1 out = some (750, .inl (1, 1, .inr (.inl g))) ∧ Q (.inl (some (.int 0))) (zup h9.1 out (750, .inl (1, 1, .inr (.inl (vp_updL g 0 w.toInt64)))), h9.2)) (hx : ∀ E h9, Qc (.inr E) h9 → (E = xIOB ∧ Q (.inl (some (.int 1))) h9)) : zMh G yL_whyNot cL_whyNot 4 (some .int) [(0, 9, 12, 19)] 11 [.ref o, .int x1, .ref out] h Q := by
  refine zMh.of (by decide) (Nat.le_of_ble_eq_true rfl) ?_
  refine w_aload_n (i := 2) dL_whyNot_0 rfl rfl ?_
  refine w_iconst 0 dL_whyNot_1 rfl ?_
  refine w_aload_n (i := 0) dL_whyNot_2 rfl rfl ?_
  refine w_iload_n (i := 1) dL_whyNot_3 rfl rfl ?_
  refine w_callV (as := [.int x1]) (rest := [.int 0, .ref out]) (vs := vs) (b := o) (ci := 3) kL_82 gi_X3_whyNot ge_X3_whyNot rfl dL_whyNot_4 hob hM rfl rfl hd (Nat.le_of_ble_eq_true rfl) ?_ ?_
  · intro v h9 hq
    obtain ⟨w, g, rfl, ho, hQ⟩ := hv v h9 hq
    refine w_i2l dL_whyNot_7 ?_
    refine w_lastore (i := 0) dL_whyNot_8 ho z01 ?_
    refine w_goto 15 dL_whyNot_9 (by decide) ?_
    refine w_iconst 0 dL_whyNot_15 rfl ?_
    exact w_ireturn dL_whyNot_16 rfl hQ
  · intro E h9 hq
    rcases hx E h9 hq with ⟨rfl, hQ⟩
    · refine ⟨[], ⟨0, 9, 12, 19⟩, [], rfl, (fun z hz => nomatch hz), by decide, by decide, cl_L_19, in_19, fun q => ?_⟩
      refine w_astore_n (i := 3) dL_whyNot_12 rfl (by decide) ?_
      refine w_iconst 1 dL_whyNot_13 rfl ?_
      exact w_ireturn dL_whyNot_14 rfl hQ
theorem kw_whyNot : zCSh RL 172 yL_whyNot cL_whyNot 4 (some .int) [(0, 9, 12, 19)] 3 := ⟨GT_at 753 (by decide +kernel) (by decide +kernel), GT_at 60 (by decide +kernel) (by decide +kernel), GT_at 755 (by decide +kernel) (by decide +kernel), by decide, by decide +kernel, by decide +kernel, by decide +kernel⟩
theorem gs_L_whyNot : Cond.static yL_whyNot ∈ GT := GT_at 754 (by decide +kernel) (by decide +kernel)
set_option maxRecDepth 10000 in
set_option maxHeartbeats 1000000 in
theorem w_gain {G : zW} {h : zH} {Qc Q : zOut → zH → Prop} {d o out tg : Nat} {vs : List Value} {x1 : Int32} (hob : h.1 o = some (tg, .inr (3, vs))) (hd : d + 1 ≤ 11) (hM : zM G yX3_gain cX3_gain 2 (some .int) d [.ref o, .int x1] h Qc) (hv : ∀ v h9, Qc (.inl v) h9 → ∃ (w : Int32) (g : Nat → Int64), v = some (.int w) ∧ h9.1 out = some (750, .inl (1, 1, .inr (.inl g))) ∧ Q (.inl (some (.int 0))) (zup h9.1 out (750, .inl (1, 1, .inr (.inl (vp_updL g 0 w.toInt64)))), h9.2)) (hx : ∀ E h9, Qc (.inr E) h9 → (E = xIOB ∧ Q (.inl (some (.int 1))) h9)) : zMh G yL_gain cL_gain 4 (some .int) [(0, 9, 12, 19)] 11 [.ref o, .int x1, .ref out] h Q := by
  refine zMh.of (by decide) (Nat.le_of_ble_eq_true rfl) ?_
  refine w_aload_n (i := 2) dL_gain_0 rfl rfl ?_
  refine w_iconst 0 dL_gain_1 rfl ?_
  refine w_aload_n (i := 0) dL_gain_2 rfl rfl ?_
  refine w_iload_n (i := 1) dL_gain_3 rfl rfl ?_
  refine w_callV (as := [.int x1]) (rest := [.int 0, .ref out]) (vs := vs) (b := o) (ci := 3) kL_85 gi_X3_gain ge_X3_gain rfl dL_gain_4 hob hM rfl rfl hd (Nat.le_of_ble_eq_true rfl) ?_ ?_
  · intro v h9 hq
    obtain ⟨w, g, rfl, ho, hQ⟩ := hv v h9 hq
    refine w_i2l dL_gain_7 ?_
    refine w_lastore (i := 0) dL_gain_8 ho z01 ?_
    refine w_goto 15 dL_gain_9 (by decide) ?_
    refine w_iconst 0 dL_gain_15 rfl ?_
    exact w_ireturn dL_gain_16 rfl hQ
  · intro E h9 hq
    rcases hx E h9 hq with ⟨rfl, hQ⟩
    · refine ⟨[], ⟨0, 9, 12, 19⟩, [], rfl, (fun z hz => nomatch hz), by decide, by decide, cl_L_19, in_19, fun q => ?_⟩
      refine w_astore_n (i := 3) dL_gain_12 rfl (by decide) ?_
      refine w_iconst 1 dL_gain_13 rfl ?_
      exact w_ireturn dL_gain_14 rfl hQ
theorem kw_gain : zCSh RL 175 yL_gain cL_gain 4 (some .int) [(0, 9, 12, 19)] 3 := ⟨GT_at 757 (by decide +kernel) (by decide +kernel), GT_at 60 (by decide +kernel) (by decide +kernel), GT_at 759 (by decide +kernel) (by decide +kernel), by decide, by decide +kernel, by decide +kernel, by decide +kernel⟩
theorem gs_L_gain : Cond.static yL_gain ∈ GT := GT_at 758 (by decide +kernel) (by decide +kernel)
