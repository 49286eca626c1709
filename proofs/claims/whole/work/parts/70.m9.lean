theorem sBst_yes {rf gn ot ln : Nat → Int32} {i : Nat} {b m x y : Int32} (h : sBst rf gn ot ln i = (b, m, x, y)) (hr : rf i = 0) (hc : b = -1 ∨ m < gn i ∨ (gn i = m ∧ (ot i < x ∨ (ot i = x ∧ ¬ y ≤ ln i)))) : sBst rf gn ot ln (i + 1) = (nI i, gn i, ot i, ln i) := by
  unfold sBst
  rw [h]
  exact if_pos ⟨hr, hc⟩
theorem sBst_no {rf gn ot ln : Nat → Int32} {i : Nat} {b m x y : Int32} (h : sBst rf gn ot ln i = (b, m, x, y)) (hc : ¬ (rf i = 0 ∧ (b = -1 ∨ m < gn i ∨ (gn i = m ∧ (ot i < x ∨ (ot i = x ∧ ¬ y ≤ ln i)))))) : sBst rf gn ot ln (i + 1) = (b, m, x, y) := by
  unfold sBst
  rw [h]
  exact if_neg hc
set_option maxRecDepth 10000 in
set_option maxHeartbeats 1000000 in
theorem c_bestWith {G : zW} {f : zHM} {m : Nat × Nat} {o mr : Nat} {B : Nat → Nat} {w : Nat → Int32} {hh : Int64} {σ : Nat → Int32} (h : MX f o B w hh σ mr) (hmr9 : mr + 30 < 2 ^ 30) {N s n : Nat} (hw : RW (rOf σ) N s n) (hn : σ 15 = nI n) (hn2 : n ≤ 200) {a : Nat} (ha : a < N) (hat : σ 1 = nI a) {u : Nat} (hu : u < 3) : zM G yX4_bestWith cX4_bestWith 7 (some .int) 6 [.ref o, .int (nI u)] (f, m) (zD (some (.int (sBest (rOf σ) N s (sTm (rOf σ) n) a u))) (fun f' m' => zNQ f w o B hh σ mr N f' ∧ m' = m)) := by
  refine zM.of (by decide) (Nat.le_of_ble_eq_true rfl) ?_
  have ho := h.1
  have hs := h.2.1
  have hv := hw.1
  have hN : σ 0 = nI N := hv.1
  have hp := hv.pos
  obtain ⟨rf, hrf⟩ : ∃ z : Nat → Int32, (∀ b, z b = sRef N s (rOf σ 3 0) (rOf σ 3 1) (rOf σ 2 u) (sTm (rOf σ) n) a b) ∧ True := ⟨_, fun _ => rfl, trivial⟩
  obtain ⟨gn, hgn⟩ : ∃ z : Nat → Int32, (∀ b, z b = sGain (rOf σ) s (rOf σ 1 u) a b) ∧ True := ⟨_, fun _ => rfl, trivial⟩
  obtain ⟨ln, hln⟩ : ∃ z : Nat → Int32, (∀ b, z b = sLn s a b) ∧ True := ⟨_, fun _ => rfl, trivial⟩
  obtain ⟨ot, hot⟩ : ∃ z : Nat → Int32, (∀ b, z b = sTm (rOf σ) n (sPr (a * s) (b * s))) ∧ True := ⟨_, fun _ => rfl, trivial⟩
  have hself : ∀ b, rf b = 0 → a ≠ b := fun b hb e => sRef_self N s (rOf σ 3 0) (rOf σ 3 1) (rOf σ 2 u) (sTm (rOf σ) n) a (by rw [← hb, hrf.1 b, e])
  have loop : ∀ (k i : Nat), i + k = N → ∀ (best most x y : Int32) (f1 : zHM) (w1 : Nat → Int32) (mr1 : Nat), sBst rf gn ot ln i = (best, most, x, y) → (best = -1 ∨ ∃ c, c < i ∧ rf c = 0 ∧ best = nI c ∧ most = gn c ∧ x = ot c ∧ y = ln c) → MX f1 o B w1 hh σ mr1 → mr1 ≤ mr + i → wK w w1 → zFr zTY f f1 → zV G yX4_bestWith cX4_bestWith 7 (some .int) 6 7 [(0, .ref o), (1, .int (nI u)), (2, .int best), (3, .int most), (4, .int (nI i))] [] (f1, m) (zD (some (.int (sBest (rOf σ) N s (sTm (rOf σ) n) a u))) (fun f' m' => zNQ f w o B hh σ mr N f' ∧ m' = m)) := by
    intro k
    induction k with
    | zero =>
      intro i hi best most x y f1 w1 mr1 hB hC h1 hm1 hk1 hf1
      have ho1 := h1.1
      have hs1 := h1.2.1
      refine v_iload dX4_bestWith_7 rfl ?_
      refine v_aload_n dX4_bestWith_9 rfl rfl ?_
      refine v_getfield fX4_7 dX4_bestWith_10 (by assumption) (by rfl) ?_
      refine v_iconst (nI 0) dX4_bestWith_13 (by decide) ?_
      refine v_iaload dX4_bestWith_14 (by assumption) (vp_in_nI (by omega) (by omega)) ?_
      rw [nI_clamp (n := 0) (by omega)]
      rw [hN]
      refine v_icmp_ge 117 dX4_bestWith_15 (by decide) (fun b15 => ?_) (fun b15 => ?_)
      · rw [nI_leI (by omega) (by omega)] at b15
        refine v_iload_n dX4_bestWith_117 rfl rfl ?_
        exact v_ireturn dX4_bestWith_118 rfl ⟨by unfold sBest; rw [show (fun b => sRef N s (rOf σ 3 0) (rOf σ 3 1) (rOf σ 2 u) (sTm (rOf σ) n) a b) = rf from (funext hrf.1).symm, show (fun b => sGain (rOf σ) s (rOf σ 1 u) a b) = gn from (funext hgn.1).symm, show (fun b => sTm (rOf σ) n (sPr (a * s) (b * s))) = ot from (funext hot.1).symm, show (fun b => sLn s a b) = ln from (funext hln.1).symm, show N = i from by omega, hB], ⟨mr1, by omega, w1, h1, hk1, hf1⟩, rfl⟩
      · rw [nI_leI (by omega) (by omega)] at b15
        omega
    | succ k ih =>
      intro i hi best most x y f1 w1 mr1 hB hC h1 hm1 hk1 hf1
      have ho1 := h1.1
      have hs1 := h1.2.1
      have hi9 : i < N := by omega
      rcases hC with rfl | ⟨c, hc, hrc, rfl, rfl, rfl, rfl⟩
      · refine v_iload dX4_bestWith_7 rfl ?_
        refine v_aload_n dX4_bestWith_9 rfl rfl ?_
        refine v_getfield fX4_7 dX4_bestWith_10 (by assumption) (by rfl) ?_
        refine v_iconst (nI 0) dX4_bestWith_13 (by decide) ?_
        refine v_iaload dX4_bestWith_14 (by assumption) (vp_in_nI (by omega) (by omega)) ?_
        rw [nI_clamp (n := 0) (by omega)]
        rw [hN]
        refine v_icmp_ge 117 dX4_bestWith_15 (by decide) (fun b15 => ?_) (fun b15 => ?_)
        · rw [nI_leI (by omega) (by omega)] at b15
          omega
        · rw [nI_leI (by omega) (by omega)] at b15
          refine v_aload_n dX4_bestWith_18 rfl rfl ?_
          refine v_aload_n dX4_bestWith_19 rfl rfl ?_
          refine v_getfield fX4_7 dX4_bestWith_20 (by assumption) (by rfl) ?_
          refine v_iconst (nI 1) dX4_bestWith_23 (by decide) ?_
          refine v_iaload dX4_bestWith_24 (by assumption) (vp_in_nI (by omega) (by omega)) ?_
          rw [nI_clamp (n := 1) (by omega)]
          rw [hat]
          refine v_iload dX4_bestWith_25 rfl ?_
          refine v_iload_n dX4_bestWith_27 rfl rfl ?_
          refine v_callVp kX4_107 gi_X4_refused ge_X4_refused rfl dX4_bestWith_28 (by assumption) (c_mrefused h1 hw hn hn2 ha hi9 hu) rfl rfl (by decide) (Nat.le_of_ble_eq_true rfl) ?_
          rw [← hrf.1 i]
          refine v_if_ne 111 dX4_bestWith_31 (by decide) (fun b31 => ?_) (fun b31 => ?_)
          · refine v_iincN dX4_bestWith_111 rfl (by decide) ?_
            refine v_goto 7 dX4_bestWith_114 (by decide) ?_
            exact v_loc (lv' := [(0, .ref o), (1, .int (nI u)), (2, .int (-1)), (3, .int most), (4, .int (nI (i + 1)))]) ⟨rfl, rfl, rfl, rfl, rfl, trivial⟩ (ih (i + 1) (by omega) _ _ _ _ f1 w1 mr1 (sBst_no hB (fun z => b31 z.1)) (Or.inl rfl) h1 (by omega) hk1 hf1)
          · have hne : a ≠ i := hself i b31
            refine v_aload_n dX4_bestWith_34 rfl rfl ?_
            refine v_aload_n dX4_bestWith_35 rfl rfl ?_
            refine v_getfield fX4_7 dX4_bestWith_36 (by assumption) (by rfl) ?_
            refine v_iconst (nI 1) dX4_bestWith_39 (by decide) ?_
            refine v_iaload dX4_bestWith_40 (by assumption) (vp_in_nI (by omega) (by omega)) ?_
            rw [nI_clamp (n := 1) (by omega)]
            rw [hat]
            refine v_iload dX4_bestWith_41 rfl ?_
            refine v_aload_n dX4_bestWith_43 rfl rfl ?_
            refine v_iload_n dX4_bestWith_44 rfl rfl ?_
            refine v_callVp kX4_88 gi_X4_shade ge_X4_shade rfl dX4_bestWith_45 (by assumption) (c_mshade ho1 hs1 hu) rfl rfl (by decide) (Nat.le_of_ble_eq_true rfl) ?_
            refine v_callV1 kX4_111 gi_X4_gained ge_X4_gained rfl dX4_bestWith_48 (by assumption) (c_gained h1 (by omega) hv ha hi9 hne (sh := σ (9 + 2 * u))) rfl rfl (by decide) (Nat.le_of_ble_eq_true rfl) (fun f2 m hc2 => ?_)
            obtain ⟨⟨mr2, hm2, w2, h2, hk2, hf2⟩, rfl⟩ := hc2
            replace hk2 := hk1.trans hk2
            replace hf2 := zFr.trans hf1 hf2
            have ho2 := h2.1
            have hs2 := h2.2.1
            rw [show sGain (rOf σ) s (σ (9 + 2 * u)) a i = gn i from (hgn.1 i).symm]
            refine v_istore dX4_bestWith_51 (by decide) ?_
            refine v_iload_n dX4_bestWith_53 rfl rfl ?_
            refine v_iconst (-1) dX4_bestWith_54 (by decide) ?_
            refine v_icmp_eq 80 dX4_bestWith_55 (by decide) (fun b55 => ?_) (fun b55 => ?_)
            · refine v_iconst (nI 1) dX4_bestWith_80 (by decide) ?_
              refine v_goto 85 dX4_bestWith_81 (by decide) ?_
              refine v_istore dX4_bestWith_85 (by decide) ?_
              refine v_iload dX4_bestWith_87 rfl ?_
              refine v_if_eq 97 dX4_bestWith_89 (by decide) (fun b89 => ?_) (fun b89 => ?_)
              · rw [show (0 : Int32) = nI 0 from rfl] at b89
                rw [nI_eq (by omega) (by omega)] at b89
                omega
              · rw [show (0 : Int32) = nI 0 from rfl] at b89
                rw [nI_eq (by omega) (by omega)] at b89
                refine v_iload dX4_bestWith_92 rfl ?_
                refine v_goto 98 dX4_bestWith_94 (by decide) ?_
                refine v_istore_n dX4_bestWith_98 rfl (by decide) ?_
                refine v_iload dX4_bestWith_99 rfl ?_
                refine v_if_eq 109 dX4_bestWith_101 (by decide) (fun b101 => ?_) (fun b101 => ?_)
                · rw [show (0 : Int32) = nI 0 from rfl] at b101
                  rw [nI_eq (by omega) (by omega)] at b101
                  omega
                · rw [show (0 : Int32) = nI 0 from rfl] at b101
                  rw [nI_eq (by omega) (by omega)] at b101
                  refine v_iload dX4_bestWith_104 rfl ?_
                  refine v_goto 110 dX4_bestWith_106 (by decide) ?_
                  refine v_istore_n dX4_bestWith_110 rfl (by decide) ?_
                  refine v_iincN dX4_bestWith_111 rfl (by decide) ?_
                  refine v_goto 7 dX4_bestWith_114 (by decide) ?_
                  exact v_loc (lv' := [(0, .ref o), (1, .int (nI u)), (2, .int (nI i)), (3, .int (gn i)), (4, .int (nI (i + 1)))]) ⟨rfl, rfl, rfl, rfl, rfl, trivial⟩ (ih (i + 1) (by omega) _ _ _ _ f2 w2 mr2 (sBst_yes hB b31 (Or.inl rfl)) (Or.inr ⟨i, by omega, b31, rfl, rfl, rfl, rfl⟩) h2 (by omega) hk2 hf2)
            · exact absurd rfl b55
      · refine v_iload dX4_bestWith_7 rfl ?_
        refine v_aload_n dX4_bestWith_9 rfl rfl ?_
        refine v_getfield fX4_7 dX4_bestWith_10 (by assumption) (by rfl) ?_
        refine v_iconst (nI 0) dX4_bestWith_13 (by decide) ?_
        refine v_iaload dX4_bestWith_14 (by assumption) (vp_in_nI (by omega) (by omega)) ?_
        rw [nI_clamp (n := 0) (by omega)]
        rw [hN]
        refine v_icmp_ge 117 dX4_bestWith_15 (by decide) (fun b15 => ?_) (fun b15 => ?_)
        · rw [nI_leI (by omega) (by omega)] at b15
          omega
        · rw [nI_leI (by omega) (by omega)] at b15
          refine v_aload_n dX4_bestWith_18 rfl rfl ?_
          refine v_aload_n dX4_bestWith_19 rfl rfl ?_
          refine v_getfield fX4_7 dX4_bestWith_20 (by assumption) (by rfl) ?_
          refine v_iconst (nI 1) dX4_bestWith_23 (by decide) ?_
          refine v_iaload dX4_bestWith_24 (by assumption) (vp_in_nI (by omega) (by omega)) ?_
          rw [nI_clamp (n := 1) (by omega)]
          rw [hat]
          refine v_iload dX4_bestWith_25 rfl ?_
          refine v_iload_n dX4_bestWith_27 rfl rfl ?_
          refine v_callVp kX4_107 gi_X4_refused ge_X4_refused rfl dX4_bestWith_28 (by assumption) (c_mrefused h1 hw hn hn2 ha hi9 hu) rfl rfl (by decide) (Nat.le_of_ble_eq_true rfl) ?_
          rw [← hrf.1 i]
          refine v_if_ne 111 dX4_bestWith_31 (by decide) (fun b31 => ?_) (fun b31 => ?_)
          · refine v_iincN dX4_bestWith_111 rfl (by decide) ?_
            refine v_goto 7 dX4_bestWith_114 (by decide) ?_
            exact v_loc (lv' := [(0, .ref o), (1, .int (nI u)), (2, .int (nI c)), (3, .int (gn c)), (4, .int (nI (i + 1)))]) ⟨rfl, rfl, rfl, rfl, rfl, trivial⟩ (ih (i + 1) (by omega) _ _ _ _ f1 w1 mr1 (sBst_no hB (fun z => b31 z.1)) (Or.inr ⟨c, by omega, hrc, rfl, rfl, rfl, rfl⟩) h1 (by omega) hk1 hf1)
          · have hne : a ≠ i := hself i b31
            refine v_aload_n dX4_bestWith_34 rfl rfl ?_
            refine v_aload_n dX4_bestWith_35 rfl rfl ?_
            refine v_getfield fX4_7 dX4_bestWith_36 (by assumption) (by rfl) ?_
            refine v_iconst (nI 1) dX4_bestWith_39 (by decide) ?_
            refine v_iaload dX4_bestWith_40 (by assumption) (vp_in_nI (by omega) (by omega)) ?_
            rw [nI_clamp (n := 1) (by omega)]
            rw [hat]
            refine v_iload dX4_bestWith_41 rfl ?_
            refine v_aload_n dX4_bestWith_43 rfl rfl ?_
            refine v_iload_n dX4_bestWith_44 rfl rfl ?_
            refine v_callVp kX4_88 gi_X4_shade ge_X4_shade rfl dX4_bestWith_45 (by assumption) (c_mshade ho1 hs1 hu) rfl rfl (by decide) (Nat.le_of_ble_eq_true rfl) ?_
            refine v_callV1 kX4_111 gi_X4_gained ge_X4_gained rfl dX4_bestWith_48 (by assumption) (c_gained h1 (by omega) hv ha hi9 hne (sh := σ (9 + 2 * u))) rfl rfl (by decide) (Nat.le_of_ble_eq_true rfl) (fun f2 m hc2 => ?_)
            obtain ⟨⟨mr2, hm2, w2, h2, hk2, hf2⟩, rfl⟩ := hc2
            replace hk2 := hk1.trans hk2
            replace hf2 := zFr.trans hf1 hf2
            have ho2 := h2.1
            have hs2 := h2.2.1
            rw [show sGain (rOf σ) s (σ (9 + 2 * u)) a i = gn i from (hgn.1 i).symm]
            refine v_istore dX4_bestWith_51 (by decide) ?_
            refine v_iload_n dX4_bestWith_53 rfl rfl ?_
            refine v_iconst (-1) dX4_bestWith_54 (by decide) ?_
            refine v_icmp_eq 80 dX4_bestWith_55 (by decide) (fun b55 => ?_) (fun b55 => ?_)
            · exact absurd b55 (nI_m1 (by omega))
            · refine v_iload dX4_bestWith_58 rfl ?_
              refine v_iload_n dX4_bestWith_60 rfl rfl ?_
              refine v_icmp_gt 80 dX4_bestWith_61 (by decide) (fun b61 => ?_) (fun b61 => ?_)
              · refine v_iconst (nI 1) dX4_bestWith_80 (by decide) ?_
                refine v_goto 85 dX4_bestWith_81 (by decide) ?_
                refine v_istore dX4_bestWith_85 (by decide) ?_
                refine v_iload dX4_bestWith_87 rfl ?_
                refine v_if_eq 97 dX4_bestWith_89 (by decide) (fun b89 => ?_) (fun b89 => ?_)
                · rw [show (0 : Int32) = nI 0 from rfl] at b89
                  rw [nI_eq (by omega) (by omega)] at b89
                  omega
                · rw [show (0 : Int32) = nI 0 from rfl] at b89
                  rw [nI_eq (by omega) (by omega)] at b89
                  refine v_iload dX4_bestWith_92 rfl ?_
                  refine v_goto 98 dX4_bestWith_94 (by decide) ?_
                  refine v_istore_n dX4_bestWith_98 rfl (by decide) ?_
                  refine v_iload dX4_bestWith_99 rfl ?_
                  refine v_if_eq 109 dX4_bestWith_101 (by decide) (fun b101 => ?_) (fun b101 => ?_)
                  · rw [show (0 : Int32) = nI 0 from rfl] at b101
                    rw [nI_eq (by omega) (by omega)] at b101
                    omega
                  · rw [show (0 : Int32) = nI 0 from rfl] at b101
                    rw [nI_eq (by omega) (by omega)] at b101
                    refine v_iload dX4_bestWith_104 rfl ?_
                    refine v_goto 110 dX4_bestWith_106 (by decide) ?_
                    refine v_istore_n dX4_bestWith_110 rfl (by decide) ?_
                    refine v_iincN dX4_bestWith_111 rfl (by decide) ?_
                    refine v_goto 7 dX4_bestWith_114 (by decide) ?_
                    exact v_loc (lv' := [(0, .ref o), (1, .int (nI u)), (2, .int (nI i)), (3, .int (gn i)), (4, .int (nI (i + 1)))]) ⟨rfl, rfl, rfl, rfl, rfl, trivial⟩ (ih (i + 1) (by omega) _ _ _ _ f2 w2 mr2 (sBst_yes hB b31 (Or.inr (Or.inl b61))) (Or.inr ⟨i, by omega, b31, rfl, rfl, rfl, rfl⟩) h2 (by omega) hk2 hf2)
              · refine v_iload dX4_bestWith_64 rfl ?_
                refine v_iload_n dX4_bestWith_66 rfl rfl ?_
                refine v_icmp_ne 84 dX4_bestWith_67 (by decide) (fun b67 => ?_) (fun b67 => ?_)
                · refine v_iconst (nI 0) dX4_bestWith_84 (by decide) ?_
                  refine v_istore dX4_bestWith_85 (by decide) ?_
                  refine v_iload dX4_bestWith_87 rfl ?_
                  refine v_if_eq 97 dX4_bestWith_89 (by decide) (fun b89 => ?_) (fun b89 => ?_)
                  · rw [show (0 : Int32) = nI 0 from rfl] at b89
                    rw [nI_eq (by omega) (by omega)] at b89
                    refine v_iload_n dX4_bestWith_97 rfl rfl ?_
                    refine v_istore_n dX4_bestWith_98 rfl (by decide) ?_
                    refine v_iload dX4_bestWith_99 rfl ?_
                    refine v_if_eq 109 dX4_bestWith_101 (by decide) (fun b101 => ?_) (fun b101 => ?_)
                    · rw [show (0 : Int32) = nI 0 from rfl] at b101
                      rw [nI_eq (by omega) (by omega)] at b101
                      refine v_iload_n dX4_bestWith_109 rfl rfl ?_
                      refine v_istore_n dX4_bestWith_110 rfl (by decide) ?_
                      refine v_iincN dX4_bestWith_111 rfl (by decide) ?_
                      refine v_goto 7 dX4_bestWith_114 (by decide) ?_
                      exact v_loc (lv' := [(0, .ref o), (1, .int (nI u)), (2, .int (nI c)), (3, .int (gn c)), (4, .int (nI (i + 1)))]) ⟨rfl, rfl, rfl, rfl, rfl, trivial⟩ (ih (i + 1) (by omega) _ _ _ _ f2 w2 mr2 (sBst_no hB (fun z => z.2.elim (nI_m1 (by omega)) (fun z => z.elim b61 (fun z => b67 z.1)))) (Or.inr ⟨c, by omega, hrc, rfl, rfl, rfl, rfl⟩) h2 (by omega) hk2 hf2)
                    · rw [show (0 : Int32) = nI 0 from rfl] at b101
                      rw [nI_eq (by omega) (by omega)] at b101
                      omega
                  · rw [show (0 : Int32) = nI 0 from rfl] at b89
                    rw [nI_eq (by omega) (by omega)] at b89
                    omega
                · refine v_aload_n dX4_bestWith_70 rfl rfl ?_
                  refine v_iload dX4_bestWith_71 rfl ?_
                  refine v_iload_n dX4_bestWith_73 rfl rfl ?_
                  refine v_callVp kX4_114 gi_X4_isNearer ge_X4_isNearer rfl dX4_bestWith_74 (by assumption) (c_isNearer h2 hw hn hn2 ha hat hi9 (by omega) hne (hself c hrc)) rfl rfl (by decide) (Nat.le_of_ble_eq_true rfl) ?_
                  rw [← hot.1 i, ← hot.1 c, ← hln.1 i, ← hln.1 c]
                  by_cases hP : ot i < ot c ∨ (ot i = ot c ∧ ln i < ln c)
                  · rw [if_pos hP]
                    refine v_if_eq 84 dX4_bestWith_77 (by decide) (fun z => absurd z (by decide)) (fun _ => ?_)
                    refine v_iconst (nI 1) dX4_bestWith_80 (by decide) ?_
                    refine v_goto 85 dX4_bestWith_81 (by decide) ?_
                    refine v_istore dX4_bestWith_85 (by decide) ?_
                    refine v_iload dX4_bestWith_87 rfl ?_
                    refine v_if_eq 97 dX4_bestWith_89 (by decide) (fun b89 => ?_) (fun b89 => ?_)
                    · rw [show (0 : Int32) = nI 0 from rfl] at b89
                      rw [nI_eq (by omega) (by omega)] at b89
                      omega
                    · rw [show (0 : Int32) = nI 0 from rfl] at b89
                      rw [nI_eq (by omega) (by omega)] at b89
                      refine v_iload dX4_bestWith_92 rfl ?_
                      refine v_goto 98 dX4_bestWith_94 (by decide) ?_
                      refine v_istore_n dX4_bestWith_98 rfl (by decide) ?_
                      refine v_iload dX4_bestWith_99 rfl ?_
                      refine v_if_eq 109 dX4_bestWith_101 (by decide) (fun b101 => ?_) (fun b101 => ?_)
                      · rw [show (0 : Int32) = nI 0 from rfl] at b101
                        rw [nI_eq (by omega) (by omega)] at b101
                        omega
                      · rw [show (0 : Int32) = nI 0 from rfl] at b101
                        rw [nI_eq (by omega) (by omega)] at b101
                        refine v_iload dX4_bestWith_104 rfl ?_
                        refine v_goto 110 dX4_bestWith_106 (by decide) ?_
                        refine v_istore_n dX4_bestWith_110 rfl (by decide) ?_
                        refine v_iincN dX4_bestWith_111 rfl (by decide) ?_
                        refine v_goto 7 dX4_bestWith_114 (by decide) ?_
                        exact v_loc (lv' := [(0, .ref o), (1, .int (nI u)), (2, .int (nI i)), (3, .int (gn i)), (4, .int (nI (i + 1)))]) ⟨rfl, rfl, rfl, rfl, rfl, trivial⟩ (ih (i + 1) (by omega) _ _ _ _ f2 w2 mr2 (sBst_yes hB b31 (Or.inr (Or.inr ⟨b67, hP.elim Or.inl (fun z => Or.inr ⟨z.1, Int32.not_le.mpr z.2⟩)⟩))) (Or.inr ⟨i, by omega, b31, rfl, rfl, rfl, rfl⟩) h2 (by omega) hk2 hf2)
                  · rw [if_neg hP]
                    refine v_if_eq 84 dX4_bestWith_77 (by decide) (fun _ => ?_) (fun z => absurd rfl z)
                    refine v_iconst (nI 0) dX4_bestWith_84 (by decide) ?_
                    refine v_istore dX4_bestWith_85 (by decide) ?_
                    refine v_iload dX4_bestWith_87 rfl ?_
                    refine v_if_eq 97 dX4_bestWith_89 (by decide) (fun b89 => ?_) (fun b89 => ?_)
                    · rw [show (0 : Int32) = nI 0 from rfl] at b89
                      rw [nI_eq (by omega) (by omega)] at b89
                      refine v_iload_n dX4_bestWith_97 rfl rfl ?_
                      refine v_istore_n dX4_bestWith_98 rfl (by decide) ?_
                      refine v_iload dX4_bestWith_99 rfl ?_
                      refine v_if_eq 109 dX4_bestWith_101 (by decide) (fun b101 => ?_) (fun b101 => ?_)
                      · rw [show (0 : Int32) = nI 0 from rfl] at b101
                        rw [nI_eq (by omega) (by omega)] at b101
                        refine v_iload_n dX4_bestWith_109 rfl rfl ?_
                        refine v_istore_n dX4_bestWith_110 rfl (by decide) ?_
                        refine v_iincN dX4_bestWith_111 rfl (by decide) ?_
                        refine v_goto 7 dX4_bestWith_114 (by decide) ?_
                        exact v_loc (lv' := [(0, .ref o), (1, .int (nI u)), (2, .int (nI c)), (3, .int (gn c)), (4, .int (nI (i + 1)))]) ⟨rfl, rfl, rfl, rfl, rfl, trivial⟩ (ih (i + 1) (by omega) _ _ _ _ f2 w2 mr2 (sBst_no hB (fun z => z.2.elim (nI_m1 (by omega)) (fun z => z.elim b61 (fun z => hP (z.2.elim Or.inl (fun z => Or.inr ⟨z.1, Int32.not_le.mp z.2⟩)))))) (Or.inr ⟨c, by omega, hrc, rfl, rfl, rfl, rfl⟩) h2 (by omega) hk2 hf2)
                      · rw [show (0 : Int32) = nI 0 from rfl] at b101
                        rw [nI_eq (by omega) (by omega)] at b101
                        omega
                    · rw [show (0 : Int32) = nI 0 from rfl] at b89
                      rw [nI_eq (by omega) (by omega)] at b89
                      omega
  refine v_iconst (-1) dX4_bestWith_0 (by decide) ?_
  refine v_istore_n dX4_bestWith_1 rfl (by decide) ?_
  refine v_iconst (nI 0) dX4_bestWith_2 (by decide) ?_
  refine v_istore_n dX4_bestWith_3 rfl (by decide) ?_
  refine v_iconst (nI 0) dX4_bestWith_4 (by decide) ?_
  refine v_istore dX4_bestWith_5 (by decide) ?_
  exact v_loc (lv' := [(0, .ref o), (1, .int (nI u)), (2, .int (-1)), (3, .int 0), (4, .int (nI 0))]) ⟨rfl, rfl, rfl, rfl, rfl, trivial⟩ (loop N 0 (by omega) (-1) 0 0 0 f w mr rfl (Or.inl rfl) h (by omega) (wK.refl w) zFr.refl)
