set_option maxRecDepth 10000 in
set_option maxHeartbeats 1000000 in
theorem c_relief {G : zW} {f : zHM} {m : Nat × Nat} {x s : Int32} : zM G yX1_relief cX1_relief 2 (some .int) 2 [.int x, .int s] (f, m) (zS (.int (sRel x s)) f m) := by
  refine zM.of (by decide) (Nat.le_of_ble_eq_true rfl) ?_
  refine v_iload_n dX1_relief_0 rfl rfl ?_
  refine v_mabs kX1_98.1 gs_J9_abs_0f7a4 kX1_98.2.1 kX1_98.2.2.1 dX1_relief_1 (by decide) (Nat.le_of_ble_eq_true rfl) ?_
  refine v_iload_n dX1_relief_4 rfl rfl ?_
  refine v_iload_n dX1_relief_5 rfl rfl ?_
  refine v_isub dX1_relief_6 ?_
  refine v_mabs kX1_98.1 gs_J9_abs_0f7a4 kX1_98.2.1 kX1_98.2.2.1 dX1_relief_7 (by decide) (Nat.le_of_ble_eq_true rfl) ?_
  refine v_isub dX1_relief_10 ?_
  exact v_ireturn dX1_relief_11 rfl ⟨rfl, rfl, rfl⟩
set_option maxRecDepth 10000 in
set_option maxHeartbeats 1000000 in
theorem c_lackOf {G : zW} {f : zHM} {m : Nat × Nat} {t r la n : Nat} {A : Nat → Nat} {ρ : zRS} {xs tm : Nat → Int32} (hr : RPic f t r la A ρ n xs tm) {q : Nat} (hq : q < 144) : zM G yX1_lackOf cX1_lackOf 2 (some .int) 1 [.ref r, .int (nI q)] (f, m) (zS (.int (sLack ρ q)) f m) := by
  refine zM.of (by decide) (Nat.le_of_ble_eq_true rfl) ?_
  obtain ⟨r0, ⟨g1, a1, e1⟩, ⟨g2, a2, e2⟩, ⟨g3, a3, e3⟩, ⟨g4, a4, e4⟩, ⟨g5, a5, e5⟩, ⟨g6, a6, e6⟩, ⟨g7, a7, e7⟩, ⟨g8, a8, e8⟩, ⟨g9, a9, e9⟩, ⟨g10, a10, e10⟩⟩ := hr
  refine v_aload_n dX1_lackOf_0 rfl rfl ?_
  refine v_getfield fX1_37 dX1_lackOf_1 (by assumption) (by rfl) ?_
  refine v_iload_n dX1_lackOf_4 rfl rfl ?_
  refine v_iaload dX1_lackOf_5 (by assumption) (vp_in_nI hq (by omega)) ?_
  refine v_aload_n dX1_lackOf_6 rfl rfl ?_
  refine v_getfield fX1_25 dX1_lackOf_7 (by assumption) (by rfl) ?_
  refine v_iconst (2) dX1_lackOf_10 (by decide) ?_
  refine v_iaload dX1_lackOf_11 (by assumption) (by unfold vp_in; decide) ?_
  refine v_imul dX1_lackOf_12 ?_
  refine v_aload_n dX1_lackOf_13 rfl rfl ?_
  refine v_getfield fX1_40 dX1_lackOf_14 (by assumption) (by rfl) ?_
  refine v_iload_n dX1_lackOf_17 rfl rfl ?_
  refine v_iaload dX1_lackOf_18 (by assumption) (vp_in_nI hq (by omega)) ?_
  refine v_isub dX1_lackOf_19 ?_
  exact v_ireturn dX1_lackOf_20 rfl ⟨by rw [nI_clamp (by omega), e7 q hq, e8 q hq]; rw [show g3 (Int32.toNatClampNeg 2) = ρ 3 2 from e3 2 (by omega)]; rfl, rfl, rfl⟩
set_option maxRecDepth 10000 in
set_option maxHeartbeats 1000000 in
theorem c_misfit {G : zW} {f : zHM} {m : Nat × Nat} {t r la n : Nat} {A : Nat → Nat} {ρ : zRS} {xs tm : Nat → Int32} (hr : RPic f t r la A ρ n xs tm) : zM G yX1_misfit cX1_misfit 3 (some .int) 2 [.ref r] (f, m) (zS (.int (sMisfit ρ)) f m) := by
  refine zM.of (by decide) (Nat.le_of_ble_eq_true rfl) ?_
  have r0 := hr.1
  have loop : ∀ (k i : Nat), i + k = 144 → zV G yX1_misfit cX1_misfit 3 (some .int) 2 4 [(0, .ref r), (1, .int (sSum (fun q => sAbs (sLack ρ q)) i)), (2, .int (nI i))] [] (f, m) (zS (.int (sMisfit ρ)) f m) := by
    intro k
    induction k with
    | zero =>
      intro i hi
      have hi : i = 144 := by omega
      subst hi
      refine v_iload_n dX1_misfit_4 rfl rfl ?_
      refine v_sipush (nI 144) dX1_misfit_5 (by decide) ?_
      refine v_icmp_ge 28 dX1_misfit_8 (by decide) (fun b8 => ?_) (fun b8 => ?_)
      · refine v_iload_n dX1_misfit_28 rfl rfl ?_
        exact v_ireturn dX1_misfit_29 rfl ⟨rfl, rfl, rfl⟩
      · exact absurd (nI_le (by omega) (by omega)) b8
    | succ k ih =>
      intro i hi
      have h9 : i < 144 := by omega
      refine v_iload_n dX1_misfit_4 rfl rfl ?_
      refine v_sipush (nI 144) dX1_misfit_5 (by decide) ?_
      refine v_icmp_ge 28 dX1_misfit_8 (by decide) (fun b8 => ?_) (fun b8 => ?_)
      · exact absurd b8 (nI_ge h9 (by omega))
      · refine v_iload_n dX1_misfit_11 rfl rfl ?_
        refine v_aload_n dX1_misfit_12 rfl rfl ?_
        refine v_iload_n dX1_misfit_13 rfl rfl ?_
        refine v_callVp kX1_111 gi_X1_lackOf ge_X1_lackOf rfl dX1_misfit_14 (by assumption) (c_lackOf hr h9) rfl rfl (by decide) (Nat.le_of_ble_eq_true rfl) ?_
        refine v_mabs kX1_98.1 gs_J9_abs_0f7a4 kX1_98.2.1 kX1_98.2.2.1 dX1_misfit_17 (by decide) (Nat.le_of_ble_eq_true rfl) ?_
        refine v_iadd dX1_misfit_20 ?_
        refine v_istore_n dX1_misfit_21 rfl (by decide) ?_
        refine v_iincN dX1_misfit_22 rfl (by decide) ?_
        refine v_goto 4 dX1_misfit_25 (by decide) ?_
        exact v_loc (lv' := [(0, .ref r), (1, .int (sSum (fun q => sAbs (sLack ρ q)) (i + 1))), (2, .int (nI (i + 1)))]) ⟨rfl, rfl, rfl, trivial⟩ (ih (i + 1) (by omega))
  refine v_iconst (0) dX1_misfit_0 (by decide) ?_
  refine v_istore_n dX1_misfit_1 rfl (by decide) ?_
  refine v_iconst (0) dX1_misfit_2 (by decide) ?_
  refine v_istore_n dX1_misfit_3 rfl (by decide) ?_
  exact v_loc (lv' := [(0, .ref r), (1, .int (sSum (fun q => sAbs (sLack ρ q)) 0)), (2, .int (nI 0))]) ⟨rfl, rfl, rfl, trivial⟩ (loop 144 0 rfl)
