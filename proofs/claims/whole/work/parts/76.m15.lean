set_option maxRecDepth 10000 in
set_option maxHeartbeats 1000000 in
theorem c_isSecondRefused {G : zW} {f : zHM} {m : Nat × Nat} {o mr : Nat} {B : Nat → Nat} {w : Nat → Int32} {hh : Int64} {σ : Nat → Int32} (h : MX f o B w hh σ mr) {N s n : Nat} (hw : RW (rOf σ) N s n) (hn : σ 15 = nI n) (hn2 : n ≤ 200) {a : Nat} (ha : a < N) (hat : σ 1 = nI a) {u : Nat} (hu : u < 3) (hnow : σ 2 = nI u) {i j : Nat} (hi : i < N) (hj : j < N) (hai : a ≠ i) : zM G yX4_isSecondRefused cX4_isSecondRefused 7 (some .boolean) 6 [.ref o, .int (nI i), .int (nI j)] (f, m) (zD (some (.int (if sRef N s (rOf σ 3 0) (rOf σ 3 1) (rOf σ 2 u - 1 * sLn s a i) (sPutT (sTm (rOf σ) n) (sPr (a * s) (i * s)) 1) i j = 0 then 0 else 1))) (fun f' m' => zNQ f w o B hh σ mr 0 f' ∧ m' = m)) := by
  refine zM.of (by decide) (Nat.le_of_ble_eq_true rfl) ?_
  have ho := h.1
  have hs := h.2.1
  have hv := hw.1
  have hN : σ 0 = nI N := hv.1
  have hp := hv.pos
  obtain ⟨R, hR⟩ : ∃ R, R = sRef N s (rOf σ 3 0) (rOf σ 3 1) (rOf σ 2 u - 1 * sLn s a i) (sTm (rOf σ) n) i j ∧ True := ⟨_, rfl, trivial⟩
  obtain ⟨t1, ht1, et⟩ := sTm_n (rOf σ) n (sPr (a * s) (i * s))
  refine v_aload_n dX4_isSecondRefused_0 rfl rfl ?_
  refine v_getfield fX4_7 dX4_isSecondRefused_1 (by assumption) (by rfl) ?_
  refine v_iconst (nI 2) dX4_isSecondRefused_4 (by decide) ?_
  refine v_iaload dX4_isSecondRefused_5 (by assumption) (vp_in_nI (by omega) (by omega)) ?_
  rw [nI_clamp (n := 2) (by omega)]
  rw [hnow]
  refine v_istore_n dX4_isSecondRefused_6 rfl (by decide) ?_
  refine v_aload_n dX4_isSecondRefused_7 rfl rfl ?_
  refine v_aload_n dX4_isSecondRefused_8 rfl rfl ?_
  refine v_getfield fX4_7 dX4_isSecondRefused_9 (by assumption) (by rfl) ?_
  refine v_iconst (nI 1) dX4_isSecondRefused_12 (by decide) ?_
  refine v_iaload dX4_isSecondRefused_13 (by assumption) (vp_in_nI (by omega) (by omega)) ?_
  rw [nI_clamp (n := 1) (by omega)]
  rw [hat]
  refine v_iload_n dX4_isSecondRefused_14 rfl rfl ?_
  refine v_callVp kX4_95 gi_X4_lengthOf ge_X4_lengthOf rfl dX4_isSecondRefused_15 (by assumption) (c_mlengthOf ho hs hN hv.2.2.1 hv.2.2.2 ha hi) rfl rfl (by decide) (Nat.le_of_ble_eq_true rfl) ?_
  refine v_istore dX4_isSecondRefused_18 (by decide) ?_
  refine v_iload_n dX4_isSecondRefused_20 rfl rfl ?_
  refine v_aload_n dX4_isSecondRefused_21 rfl rfl ?_
  refine v_getfield fX4_7 dX4_isSecondRefused_22 (by assumption) (by rfl) ?_
  refine v_iconst (nI 1) dX4_isSecondRefused_25 (by decide) ?_
  refine v_iaload dX4_isSecondRefused_26 (by assumption) (vp_in_nI (by omega) (by omega)) ?_
  rw [nI_clamp (n := 1) (by omega)]
  rw [hat]
  refine v_icmp_ne 34 dX4_isSecondRefused_27 (by decide) (fun b27 => ?_) (fun b27 => ?_)
  · rw [nI_eq (by omega) (by omega)] at b27
    refine v_iconst (nI 0) dX4_isSecondRefused_34 (by decide) ?_
    refine v_istore dX4_isSecondRefused_35 (by decide) ?_
    refine v_aload_n dX4_isSecondRefused_37 rfl rfl ?_
    refine v_getfield fX4_7 dX4_isSecondRefused_38 (by assumption) (by rfl) ?_
    refine v_bipush (nI 9) dX4_isSecondRefused_41 (by decide) ?_
    refine v_iconst (nI 2) dX4_isSecondRefused_43 (by decide) ?_
    refine v_iload_n dX4_isSecondRefused_44 rfl rfl ?_
    refine v_imul dX4_isSecondRefused_45 ?_
    rw [pk_mul 2 u]
    refine v_iadd dX4_isSecondRefused_46 ?_
    rw [nI_add 9 (2 * u)]
    refine v_iconst (nI 1) dX4_isSecondRefused_47 (by decide) ?_
    refine v_iadd dX4_isSecondRefused_48 ?_
    rw [nI_add (9 + (2 * u)) 1]
    refine v_dup2 dX4_isSecondRefused_49 rfl rfl ?_
    refine v_iaload dX4_isSecondRefused_50 (by assumption) (vp_in_nI (by omega) (by omega)) ?_
    rw [nI_clamp (n := ((9 + (2 * u)) + 1)) (by omega)]
    refine v_iload dX4_isSecondRefused_51 rfl ?_
    refine v_isub dX4_isSecondRefused_53 ?_
    refine v_iastoreX dX4_isSecondRefused_54 (by assumption) (vp_in_nI (by omega) (by omega)) (fun f1 hp1 => ?_)
    rw [nI_clamp (n := ((9 + (2 * u)) + 1)) (by omega)] at hp1
    obtain ⟨h1, hf1⟩ := MX.st h hp1 zFr.refl
    clear hp1
    obtain ⟨σ1, e1, hg1⟩ := upd_nm σ ((9 + (2 * u)) + 1) ((σ ((9 + (2 * u)) + 1)) - (sLn s a i))
    rw [← e1] at h1
    clear e1
    have ho1 := h1.1
    have hs1 := h1.2.1
    refine v_aload_n dX4_isSecondRefused_55 rfl rfl ?_
    refine v_iload_n dX4_isSecondRefused_56 rfl rfl ?_
    refine v_iload_n dX4_isSecondRefused_57 rfl rfl ?_
    refine v_iload_n dX4_isSecondRefused_58 rfl rfl ?_
    refine v_callVp kX4_107 gi_X4_refused ge_X4_refused rfl dX4_isSecondRefused_59 (by assumption) (c_mrefused h1 (RW_of (by rw [hg1, if_neg (by omega)]) (fun i h1 h2 => by rw [hg1, if_neg (by omega)]) hn2 hw) (by rw [hg1, if_neg (by omega)]; exact hn) hn2 hi hj hu) rfl rfl (by decide) (Nat.le_of_ble_eq_true rfl) ?_
    rw [show sRef N s (rOf σ1 3 0) (rOf σ1 3 1) (rOf σ1 2 u) (sTm (rOf σ1) n) i j = R from by
      rw [show rOf σ1 3 0 = rOf σ 3 0 from (hg1 6).trans (if_neg (by omega)), show rOf σ1 3 1 = rOf σ 3 1 from (hg1 7).trans (if_neg (by omega)), show rOf σ1 2 u = rOf σ 2 u - 1 * sLn s a i from (hg1 (9 + 2 * u + 1)).trans ((if_pos rfl).trans (by rw [Int32.one_mul]; rfl)), sTm_of ((hg1 0).trans (if_neg (by omega))) (fun i h1 h2 => (hg1 i).trans (if_neg (by omega))) hn2]
      exact hR.1.symm]
    refine v_istore dX4_isSecondRefused_62 (by decide) ?_
    refine v_aload_n dX4_isSecondRefused_64 rfl rfl ?_
    refine v_getfield fX4_7 dX4_isSecondRefused_65 (by assumption) (by rfl) ?_
    refine v_bipush (nI 9) dX4_isSecondRefused_68 (by decide) ?_
    refine v_iconst (nI 2) dX4_isSecondRefused_70 (by decide) ?_
    refine v_iload_n dX4_isSecondRefused_71 rfl rfl ?_
    refine v_imul dX4_isSecondRefused_72 ?_
    rw [pk_mul 2 u]
    refine v_iadd dX4_isSecondRefused_73 ?_
    rw [nI_add 9 (2 * u)]
    refine v_iconst (nI 1) dX4_isSecondRefused_74 (by decide) ?_
    refine v_iadd dX4_isSecondRefused_75 ?_
    rw [nI_add (9 + (2 * u)) 1]
    refine v_dup2 dX4_isSecondRefused_76 rfl rfl ?_
    refine v_iaload dX4_isSecondRefused_77 (by assumption) (vp_in_nI (by omega) (by omega)) ?_
    rw [nI_clamp (n := ((9 + (2 * u)) + 1)) (by omega)]
    refine v_iload dX4_isSecondRefused_78 rfl ?_
    refine v_iadd dX4_isSecondRefused_80 ?_
    refine v_iastoreX dX4_isSecondRefused_81 (by assumption) (vp_in_nI (by omega) (by omega)) (fun f2 hp2 => ?_)
    rw [nI_clamp (n := ((9 + (2 * u)) + 1)) (by omega)] at hp2
    obtain ⟨h2, hf2⟩ := MX.st h1 hp2 hf1
    clear hp2
    obtain ⟨σ2, e2, hg2⟩ := upd_nm σ1 ((9 + (2 * u)) + 1) ((σ1 ((9 + (2 * u)) + 1)) + (sLn s a i))
    rw [← e2] at h2
    clear e2
    have ho2 := h2.1
    have hs2 := h2.2.1
    have e2 : σ2 = σ := funext fun j => by
      rw [hg2]
      by_cases e : j = 9 + 2 * u + 1
      · rw [if_pos e, hg1, if_pos (by omega), e]
        generalize σ (9 + 2 * u + 1) = x
        generalize sLn s a i = z
        grind
      · rw [if_neg e, hg1, if_neg (by omega)]
    rw [e2] at h2 hs2
    clear e2 hg2
    refine v_iload dX4_isSecondRefused_82 rfl ?_
    refine v_if_ne 115 dX4_isSecondRefused_84 (by decide) (fun b84 => ?_) (fun b84 => ?_)
    · refine v_iconst (1) dX4_isSecondRefused_115 (by decide) ?_
      refine v_goto 120 dX4_isSecondRefused_116 (by decide) ?_
      exact v_zreturn dX4_isSecondRefused_120 rfl (by decide) ⟨congrArg (fun z : Int32 => (Sum.inl (some (Value.int z)) : zOut)) (by symm; exact if_neg (fun z => b84 (hR.1.trans ((Decidable.em (j = a)).elim (fun e => (((sSc_ok hw hn2 ha hi hj hai).1 e).mp z).1) (fun e => ((sSc_ok hw hn2 ha hi hj hai).2 e).mp z))))), ⟨mr, by omega, w, h2, wK.refl w, hf2⟩, rfl⟩
    · refine v_iload dX4_isSecondRefused_87 rfl ?_
      refine v_if_eq 119 dX4_isSecondRefused_89 (by decide) (fun b89 => ?_) (fun b89 => ?_)
      · rw [show (0 : Int32) = nI 0 from rfl] at b89
        rw [nI_eq (by omega) (by omega)] at b89
        refine v_iconst (0) dX4_isSecondRefused_119 (by decide) ?_
        exact v_zreturn dX4_isSecondRefused_120 rfl (by decide) ⟨congrArg (fun z : Int32 => (Sum.inl (some (Value.int z)) : zOut)) (by symm; exact if_pos (((sSc_ok hw hn2 ha hi hj hai).2 b27).mpr (hR.1.symm.trans b84))), ⟨mr, by omega, w, h2, wK.refl w, hf2⟩, rfl⟩
      · rw [show (0 : Int32) = nI 0 from rfl] at b89
        rw [nI_eq (by omega) (by omega)] at b89
        omega
  · rw [nI_eq (by omega) (by omega)] at b27
    refine v_iconst (nI 1) dX4_isSecondRefused_30 (by decide) ?_
    refine v_goto 35 dX4_isSecondRefused_31 (by decide) ?_
    refine v_istore dX4_isSecondRefused_35 (by decide) ?_
    refine v_aload_n dX4_isSecondRefused_37 rfl rfl ?_
    refine v_getfield fX4_7 dX4_isSecondRefused_38 (by assumption) (by rfl) ?_
    refine v_bipush (nI 9) dX4_isSecondRefused_41 (by decide) ?_
    refine v_iconst (nI 2) dX4_isSecondRefused_43 (by decide) ?_
    refine v_iload_n dX4_isSecondRefused_44 rfl rfl ?_
    refine v_imul dX4_isSecondRefused_45 ?_
    rw [pk_mul 2 u]
    refine v_iadd dX4_isSecondRefused_46 ?_
    rw [nI_add 9 (2 * u)]
    refine v_iconst (nI 1) dX4_isSecondRefused_47 (by decide) ?_
    refine v_iadd dX4_isSecondRefused_48 ?_
    rw [nI_add (9 + (2 * u)) 1]
    refine v_dup2 dX4_isSecondRefused_49 rfl rfl ?_
    refine v_iaload dX4_isSecondRefused_50 (by assumption) (vp_in_nI (by omega) (by omega)) ?_
    rw [nI_clamp (n := ((9 + (2 * u)) + 1)) (by omega)]
    refine v_iload dX4_isSecondRefused_51 rfl ?_
    refine v_isub dX4_isSecondRefused_53 ?_
    refine v_iastoreX dX4_isSecondRefused_54 (by assumption) (vp_in_nI (by omega) (by omega)) (fun f1 hp1 => ?_)
    rw [nI_clamp (n := ((9 + (2 * u)) + 1)) (by omega)] at hp1
    obtain ⟨h1, hf1⟩ := MX.st h hp1 zFr.refl
    clear hp1
    obtain ⟨σ1, e1, hg1⟩ := upd_nm σ ((9 + (2 * u)) + 1) ((σ ((9 + (2 * u)) + 1)) - (sLn s a i))
    rw [← e1] at h1
    clear e1
    have ho1 := h1.1
    have hs1 := h1.2.1
    refine v_aload_n dX4_isSecondRefused_55 rfl rfl ?_
    refine v_iload_n dX4_isSecondRefused_56 rfl rfl ?_
    refine v_iload_n dX4_isSecondRefused_57 rfl rfl ?_
    refine v_iload_n dX4_isSecondRefused_58 rfl rfl ?_
    refine v_callVp kX4_107 gi_X4_refused ge_X4_refused rfl dX4_isSecondRefused_59 (by assumption) (c_mrefused h1 (RW_of (by rw [hg1, if_neg (by omega)]) (fun i h1 h2 => by rw [hg1, if_neg (by omega)]) hn2 hw) (by rw [hg1, if_neg (by omega)]; exact hn) hn2 hi hj hu) rfl rfl (by decide) (Nat.le_of_ble_eq_true rfl) ?_
    rw [show sRef N s (rOf σ1 3 0) (rOf σ1 3 1) (rOf σ1 2 u) (sTm (rOf σ1) n) i j = R from by
      rw [show rOf σ1 3 0 = rOf σ 3 0 from (hg1 6).trans (if_neg (by omega)), show rOf σ1 3 1 = rOf σ 3 1 from (hg1 7).trans (if_neg (by omega)), show rOf σ1 2 u = rOf σ 2 u - 1 * sLn s a i from (hg1 (9 + 2 * u + 1)).trans ((if_pos rfl).trans (by rw [Int32.one_mul]; rfl)), sTm_of ((hg1 0).trans (if_neg (by omega))) (fun i h1 h2 => (hg1 i).trans (if_neg (by omega))) hn2]
      exact hR.1.symm]
    refine v_istore dX4_isSecondRefused_62 (by decide) ?_
    refine v_aload_n dX4_isSecondRefused_64 rfl rfl ?_
    refine v_getfield fX4_7 dX4_isSecondRefused_65 (by assumption) (by rfl) ?_
    refine v_bipush (nI 9) dX4_isSecondRefused_68 (by decide) ?_
    refine v_iconst (nI 2) dX4_isSecondRefused_70 (by decide) ?_
    refine v_iload_n dX4_isSecondRefused_71 rfl rfl ?_
    refine v_imul dX4_isSecondRefused_72 ?_
    rw [pk_mul 2 u]
    refine v_iadd dX4_isSecondRefused_73 ?_
    rw [nI_add 9 (2 * u)]
    refine v_iconst (nI 1) dX4_isSecondRefused_74 (by decide) ?_
    refine v_iadd dX4_isSecondRefused_75 ?_
    rw [nI_add (9 + (2 * u)) 1]
    refine v_dup2 dX4_isSecondRefused_76 rfl rfl ?_
    refine v_iaload dX4_isSecondRefused_77 (by assumption) (vp_in_nI (by omega) (by omega)) ?_
    rw [nI_clamp (n := ((9 + (2 * u)) + 1)) (by omega)]
    refine v_iload dX4_isSecondRefused_78 rfl ?_
    refine v_iadd dX4_isSecondRefused_80 ?_
    refine v_iastoreX dX4_isSecondRefused_81 (by assumption) (vp_in_nI (by omega) (by omega)) (fun f2 hp2 => ?_)
    rw [nI_clamp (n := ((9 + (2 * u)) + 1)) (by omega)] at hp2
    obtain ⟨h2, hf2⟩ := MX.st h1 hp2 hf1
    clear hp2
    obtain ⟨σ2, e2, hg2⟩ := upd_nm σ1 ((9 + (2 * u)) + 1) ((σ1 ((9 + (2 * u)) + 1)) + (sLn s a i))
    rw [← e2] at h2
    clear e2
    have ho2 := h2.1
    have hs2 := h2.2.1
    have e2 : σ2 = σ := funext fun j => by
      rw [hg2]
      by_cases e : j = 9 + 2 * u + 1
      · rw [if_pos e, hg1, if_pos (by omega), e]
        generalize σ (9 + 2 * u + 1) = x
        generalize sLn s a i = z
        grind
      · rw [if_neg e, hg1, if_neg (by omega)]
    rw [e2] at h2 hs2
    clear e2 hg2
    refine v_iload dX4_isSecondRefused_82 rfl ?_
    refine v_if_ne 115 dX4_isSecondRefused_84 (by decide) (fun b84 => ?_) (fun b84 => ?_)
    · refine v_iconst (1) dX4_isSecondRefused_115 (by decide) ?_
      refine v_goto 120 dX4_isSecondRefused_116 (by decide) ?_
      exact v_zreturn dX4_isSecondRefused_120 rfl (by decide) ⟨congrArg (fun z : Int32 => (Sum.inl (some (Value.int z)) : zOut)) (by symm; exact if_neg (fun z => b84 (hR.1.trans ((Decidable.em (j = a)).elim (fun e => (((sSc_ok hw hn2 ha hi hj hai).1 e).mp z).1) (fun e => ((sSc_ok hw hn2 ha hi hj hai).2 e).mp z))))), ⟨mr, by omega, w, h2, wK.refl w, hf2⟩, rfl⟩
    · refine v_iload dX4_isSecondRefused_87 rfl ?_
      refine v_if_eq 119 dX4_isSecondRefused_89 (by decide) (fun b89 => ?_) (fun b89 => ?_)
      · rw [show (0 : Int32) = nI 0 from rfl] at b89
        rw [nI_eq (by omega) (by omega)] at b89
        omega
      · rw [show (0 : Int32) = nI 0 from rfl] at b89
        rw [nI_eq (by omega) (by omega)] at b89
        refine v_aload_n dX4_isSecondRefused_92 rfl rfl ?_
        refine v_aload_n dX4_isSecondRefused_93 rfl rfl ?_
        refine v_getfield fX4_7 dX4_isSecondRefused_94 (by assumption) (by rfl) ?_
        refine v_iconst (nI 1) dX4_isSecondRefused_97 (by decide) ?_
        refine v_iaload dX4_isSecondRefused_98 (by assumption) (vp_in_nI (by omega) (by omega)) ?_
        rw [nI_clamp (n := 1) (by omega)]
        rw [hat]
        refine v_iload_n dX4_isSecondRefused_99 rfl rfl ?_
        refine v_callVp kX4_98 gi_X4_liesBetween ge_X4_liesBetween rfl dX4_isSecondRefused_100 (by assumption) (c_liesBetween (σ := σ) (by assumption) (by assumption) hn hn2) rfl rfl (by decide) (Nat.le_of_ble_eq_true rfl) ?_
        rw [sLB_tm hw ha hi hai, et]
        refine v_iconst (nI 1) dX4_isSecondRefused_103 (by decide) ?_
        refine v_iadd dX4_isSecondRefused_104 ?_
        rw [nI_add t1 1]
        refine v_aload_n dX4_isSecondRefused_105 rfl rfl ?_
        refine v_getfield fX4_7 dX4_isSecondRefused_106 (by assumption) (by rfl) ?_
        refine v_bipush (nI 7) dX4_isSecondRefused_109 (by decide) ?_
        refine v_iaload dX4_isSecondRefused_111 (by assumption) (vp_in_nI (by omega) (by omega)) ?_
        rw [nI_clamp (n := 7) (by omega)]
        refine v_icmp_lt 119 dX4_isSecondRefused_112 (by decide) (fun b112 => ?_) (fun b112 => ?_)
        · refine v_iconst (0) dX4_isSecondRefused_119 (by decide) ?_
          exact v_zreturn dX4_isSecondRefused_120 rfl (by decide) ⟨congrArg (fun z : Int32 => (Sum.inl (some (Value.int z)) : zOut)) (by symm; exact if_pos (((sSc_ok hw hn2 ha hi hj hai).1 b27).mpr ⟨hR.1.symm.trans b84, by rw [et, nI_1]; exact b112⟩)), ⟨mr, by omega, w, h2, wK.refl w, hf2⟩, rfl⟩
        · refine v_iconst (1) dX4_isSecondRefused_115 (by decide) ?_
          refine v_goto 120 dX4_isSecondRefused_116 (by decide) ?_
          exact v_zreturn dX4_isSecondRefused_120 rfl (by decide) ⟨congrArg (fun z : Int32 => (Sum.inl (some (Value.int z)) : zOut)) (by symm; refine if_neg (fun z => b112 ?_); have z2 := (((sSc_ok hw hn2 ha hi hj hai).1 b27).mp z).2; rw [et, nI_1] at z2; exact z2), ⟨mr, by omega, w, h2, wK.refl w, hf2⟩, rfl⟩
/-- the best so far, once told with -1000000 for none -/
def sTR (S : Int32 × Int32) (b m : Int32) : Prop := b = S.1 ∧ ((S.1 = -1 ∧ m = -1000000) ∨ (¬ S.1 = -1 ∧ m = S.2 ∧ zB 500 m))
theorem far_lt {x : Int32} (h : zB 500 x) : -1000000 < x := by
  rw [Int32.lt_iff_toInt_lt, show (-1000000 : Int32).toInt = -1000000 from by decide]
  have := h.1
  omega
theorem sTwo_step {ρ : zRS} {n N s a u i : Nat} {tm rf gn : Nat → Int32} {its b m b' m' : Int32} (hN : N ≤ 24) (hi24 : i < 24) (h0 : sRef N s (ρ 3 0) (ρ 3 1) (ρ 2 u) tm a i = 0)
    (hrf : ∀ j, rf j = sRef N s (ρ 3 0) (ρ 3 1) (ρ 2 u - 1 * sLn s a i) (sPutT tm (sPr (a * s) (i * s)) 1) i j) (hgn : ∀ j, gn j = sGain (sLay ρ s n a i u) s (ρ 1 u) i j) (hits : its = sGain ρ s (ρ 1 u) a i)
    (b1 : zB 200 its) (b2 : ∀ j, j < N → rf j = 0 → zB 200 (gn j)) (hT : sTR (sTwo ρ n N s tm a u i) b m) (hS : sSec rf gn its i (b, m) N = (b', m')) : sTR (sTwo ρ n N s tm a u (i + 1)) b' m' := by
  have eM : sMost (sLay ρ s n a i u) N s (sPutT tm (sPr (a * s) (i * s)) 1) i u = (sMst rf gn N).1 := by
    unfold sMost
    rw [show rf = _ from funext hrf, show gn = _ from funext hgn, show sLay ρ s n a i u 2 u = ρ 2 u - 1 * sLn s a i from if_pos rfl]
    rfl
  rw [sTwo_s, if_pos h0, eM]
  rcases sSec_ok (S := (b, m)) (i := i) hN b1 b2 N (Nat.le_refl N) with ⟨z1, z2⟩ | ⟨c, hc, hrc, z1, z2⟩
  · rw [if_pos z1]
    rw [z2] at hS
    cases hS
    exact hT
  · have hm1 : ¬ nI c = -1 := nI_m1 (by omega)
    have eb := zB_add b1 (b2 c hc hrc) (by omega)
    have hB : zB 500 (its + gn c) := by
      obtain ⟨g1, g2⟩ := b1
      obtain ⟨g3, g4⟩ := b2 c hc hrc
      exact ⟨by rw [eb]; omega, by rw [eb]; omega⟩
    have e100 : 100 * nI i + nI c = nI (100 * i + c) := by
      rw [show (100 : Int32) = nI 100 from rfl, pk_mul, nI_add]
    rw [z1, if_neg hm1]
    show sTR (if (sTwo ρ n N s tm a u i).1 = -1 ∨ ¬ sGain ρ s (ρ 1 u) a i + sGain (sLay ρ s n a i u) s (ρ 1 u) i (zn (nI c)) ≤ (sTwo ρ n N s tm a u i).2 then (100 * nI i + nI c, sGain ρ s (ρ 1 u) a i + sGain (sLay ρ s n a i u) s (ρ 1 u) i (zn (nI c))) else sTwo ρ n N s tm a u i) b' m'
    rw [zn_nI (by omega), ← hits, ← hgn c, e100]
    rw [z2] at hS
    have hiff : ((sTwo ρ n N s tm a u i).1 = -1 ∨ ¬ its + gn c ≤ (sTwo ρ n N s tm a u i).2) ↔ m < its + gn c := by
      rcases hT.2 with ⟨k1, k2⟩ | ⟨k1, k2, -⟩
      · rw [k2]
        exact ⟨fun _ => far_lt hB, fun _ => Or.inl k1⟩
      · rw [k2]
        exact ⟨fun z => z.elim (fun z => absurd z k1) Int32.not_le.mp, fun z => Or.inr (Int32.not_le.mpr z)⟩
    by_cases h : m < its + gn c
    · rw [if_pos (hiff.mpr h)]
      rw [show ((b, m) : Int32 × Int32).2 = m from rfl, if_pos h] at hS
      cases hS
      exact ⟨rfl, Or.inr ⟨nI_m1 (by omega), rfl, hB⟩⟩
    · rw [if_neg (fun z => h (hiff.mp z))]
      rw [show ((b, m) : Int32 × Int32).2 = m from rfl, if_neg h] at hS
      cases hS
      exact hT
set_option maxRecDepth 10000 in
set_option maxHeartbeats 1000000 in
theorem c_twoBest {G : zW} {f : zHM} {m : Nat × Nat} {o mr : Nat} {B : Nat → Nat} {w : Nat → Int32} {hh : Int64} {σ : Nat → Int32} (h : MX f o B w hh σ mr) (hmr9 : mr + 1000 < 2 ^ 30) {N s n : Nat} (hw : RW (rOf σ) N s n) (hn : σ 15 = nI n) (hn2 : n ≤ 200) {a : Nat} (ha : a < N) (hat : σ 1 = nI a) {u : Nat} (hu : u < 3) (hnow : σ 2 = nI u) (hs0 : 0 ≤ (σ (9 + 2 * u)).toInt) (hs9 : (σ (9 + 2 * u)).toInt ≤ 9) (hl : ∀ q, q < 144 → zB 3000 (sLack (rOf σ) q)) : zM G yX4_twoBest cX4_twoBest 8 (some .int) 7 [.ref o] (f, m) (zD (some (.int ((sTwo (rOf σ) n N s (sTm (rOf σ) n) a u N).1))) (fun f' m' => zNQ f w o B hh σ mr 1000 f' ∧ m' = m)) := by
  refine zM.of (by decide) (Nat.le_of_ble_eq_true rfl) ?_
  have ho := h.1
  have hs := h.2.1
  have hv := hw.1
  have hN : σ 0 = nI N := hv.1
  have hp := hv.pos
  have hlb2 : ∀ q, q < 144 → ∀ i, i < N → a ≠ i → zB 3100 (sLack (sLay (rOf σ) s n a i u) q) := fun q hq i hi hai => by
    have h1 := hl q hq
    unfold sLay sPutR
    generalize sPa s a i = PL
    show zB 3100 (σ (616 + q) * σ 8 - sInL PL (1 * (σ (9 + 2 * u))) (fun q => σ (760 + q)) q)
    rw [Int32.one_mul]
    show zB 3100 (σ (616 + q) * σ 8 - (if q ∈ PL then σ (760 + q) + (σ (9 + 2 * u)) else σ (760 + q)))
    by_cases e : q ∈ PL
    · rw [if_pos e, show σ (616 + q) * σ 8 - (σ (760 + q) + (σ (9 + 2 * u))) = sLack (rOf σ) q - (σ (9 + 2 * u)) from by
        show _ = σ (616 + q) * σ 8 - σ (760 + q) - (σ (9 + 2 * u))
        generalize σ (616 + q) * σ 8 = x
        generalize σ (760 + q) = y
        generalize (σ (9 + 2 * u)) = z
        grind]
      have e2 := zB_sub (y := (σ (9 + 2 * u))) h1 ⟨show -9 ≤ _ by omega, hs9⟩ (by omega)
      obtain ⟨g1, g2⟩ := h1
      exact ⟨by rw [e2]; omega, by rw [e2]; omega⟩
    · rw [if_neg e]
      obtain ⟨g1, g2⟩ := h1
      exact ⟨Int.le_trans (by omega) g1, Int.le_trans g2 (by omega)⟩
  have hlb : ∀ q, q < 144 → zB 3100 (sLack (rOf σ) q) := fun q hq => by
    obtain ⟨g1, g2⟩ := hl q hq
    exact ⟨by omega, by omega⟩
  have loop : ∀ (k i : Nat), i + k = N → ∀ (best most : Int32) (f1 : zHM) (w1 : Nat → Int32) (mr1 : Nat), sTR (sTwo (rOf σ) n N s (sTm (rOf σ) n) a u i) best most → MX f1 o B w1 hh σ mr1 → mr1 ≤ mr + 30 * i → wK w w1 → zFr zTY f f1 → zV G yX4_twoBest cX4_twoBest 8 (some .int) 7 19 [(0, .ref o), (1, .int best), (2, .int most), (3, .int (σ (9 + 2 * u))), (4, .int (nI i))] [] (f1, m) (zD (some (.int ((sTwo (rOf σ) n N s (sTm (rOf σ) n) a u N).1))) (fun f' m' => zNQ f w o B hh σ mr 1000 f' ∧ m' = m)) := by
    intro k
    induction k with
    | zero =>
      intro i hi best most f1 w1 mr1 hT h1 hm1 hk1 hf1
      have ho1 := h1.1
      have hs1 := h1.2.1
      refine v_iload dX4_twoBest_19 rfl ?_
      refine v_aload_n dX4_twoBest_21 rfl rfl ?_
      refine v_getfield fX4_7 dX4_twoBest_22 (by assumption) (by rfl) ?_
      refine v_iconst (nI 0) dX4_twoBest_25 (by decide) ?_
      refine v_iaload dX4_twoBest_26 (by assumption) (vp_in_nI (by omega) (by omega)) ?_
      rw [nI_clamp (n := 0) (by omega)]
      rw [hN]
      refine v_icmp_ge 176 dX4_twoBest_27 (by decide) (fun b27 => ?_) (fun b27 => ?_)
      · rw [nI_leI (by omega) (by omega)] at b27
        refine v_iload_n dX4_twoBest_176 rfl rfl ?_
        exact v_ireturn dX4_twoBest_177 rfl ⟨by rw [hT.1, show i = N from by omega], ⟨mr1, by omega, w1, h1, hk1, hf1⟩, rfl⟩
      · rw [nI_leI (by omega) (by omega)] at b27
        omega
    | succ k ih =>
      intro i hi best most f1 w1 mr1 hT h1 hm1 hk1 hf1
      have ho1 := h1.1
      have hs1 := h1.2.1
      have hi9 : i < N := by omega
      refine v_iload dX4_twoBest_19 rfl ?_
      refine v_aload_n dX4_twoBest_21 rfl rfl ?_
      refine v_getfield fX4_7 dX4_twoBest_22 (by assumption) (by rfl) ?_
      refine v_iconst (nI 0) dX4_twoBest_25 (by decide) ?_
      refine v_iaload dX4_twoBest_26 (by assumption) (vp_in_nI (by omega) (by omega)) ?_
      rw [nI_clamp (n := 0) (by omega)]
      rw [hN]
      refine v_icmp_ge 176 dX4_twoBest_27 (by decide) (fun b27 => ?_) (fun b27 => ?_)
      · rw [nI_leI (by omega) (by omega)] at b27
        omega
      · rw [nI_leI (by omega) (by omega)] at b27
        refine v_aload_n dX4_twoBest_30 rfl rfl ?_
        refine v_aload_n dX4_twoBest_31 rfl rfl ?_
        refine v_getfield fX4_7 dX4_twoBest_32 (by assumption) (by rfl) ?_
        refine v_iconst (nI 1) dX4_twoBest_35 (by decide) ?_
        refine v_iaload dX4_twoBest_36 (by assumption) (vp_in_nI (by omega) (by omega)) ?_
        rw [nI_clamp (n := 1) (by omega)]
        rw [hat]
        refine v_iload dX4_twoBest_37 rfl ?_
        refine v_aload_n dX4_twoBest_39 rfl rfl ?_
        refine v_getfield fX4_7 dX4_twoBest_40 (by assumption) (by rfl) ?_
        refine v_iconst (nI 2) dX4_twoBest_43 (by decide) ?_
        refine v_iaload dX4_twoBest_44 (by assumption) (vp_in_nI (by omega) (by omega)) ?_
        rw [nI_clamp (n := 2) (by omega)]
        rw [hnow]
        refine v_callVp kX4_107 gi_X4_refused ge_X4_refused rfl dX4_twoBest_45 (by assumption) (c_mrefused h1 hw hn hn2 ha hi9 hu) rfl rfl (by decide) (Nat.le_of_ble_eq_true rfl) ?_
        refine v_if_ne 170 dX4_twoBest_48 (by decide) (fun b48 => ?_) (fun b48 => ?_)
        · refine v_iincN dX4_twoBest_170 rfl (by decide) ?_
          refine v_goto 19 dX4_twoBest_173 (by decide) ?_
          exact v_loc (lv' := [(0, .ref o), (1, .int best), (2, .int most), (3, .int (σ (9 + 2 * u))), (4, .int (nI (i + 1)))]) ⟨rfl, rfl, rfl, rfl, rfl, trivial⟩ (ih (i + 1) (by omega) best most f1 w1 mr1 (by rw [sTwo_s, if_neg b48]; exact hT) h1 (by omega) hk1 hf1)
        · have hai : a ≠ i := fun e => sRef_self _ _ _ _ _ _ _ (by rw [← b48, ← e])
          obtain ⟨its, hits⟩ : ∃ z, z = sGain (rOf σ) s (rOf σ 1 u) a i ∧ True := ⟨_, rfl, trivial⟩
          have hib : zB 200 its := by rw [hits.1]; exact sGain_b hv ha hi9 hai hs0 hs9 hlb
          obtain ⟨rf2, hrf2⟩ : ∃ z : Nat → Int32, (∀ j, z j = sRef N s (rOf σ 3 0) (rOf σ 3 1) (rOf σ 2 u - 1 * sLn s a i) (sPutT (sTm (rOf σ) n) (sPr (a * s) (i * s)) 1) i j) ∧ True := ⟨_, fun _ => rfl, trivial⟩
          obtain ⟨gn2, hgn2⟩ : ∃ z : Nat → Int32, (∀ j, z j = sGain (sLay (rOf σ) s n a i u) s (rOf σ 1 u) i j) ∧ True := ⟨_, fun _ => rfl, trivial⟩
          refine v_aload_n dX4_twoBest_51 rfl rfl ?_
          refine v_aload_n dX4_twoBest_52 rfl rfl ?_
          refine v_getfield fX4_7 dX4_twoBest_53 (by assumption) (by rfl) ?_
          refine v_iconst (nI 1) dX4_twoBest_56 (by decide) ?_
          refine v_iaload dX4_twoBest_57 (by assumption) (vp_in_nI (by omega) (by omega)) ?_
          rw [nI_clamp (n := 1) (by omega)]
          rw [hat]
          refine v_iload dX4_twoBest_58 rfl ?_
          refine v_iload_n dX4_twoBest_60 rfl rfl ?_
          refine v_callV1 kX4_111 gi_X4_gained ge_X4_gained rfl dX4_twoBest_61 (by assumption) (c_gained h1 (by omega) hv ha hi9 hai (sh := (σ (9 + 2 * u)))) rfl rfl (by decide) (Nat.le_of_ble_eq_true rfl) (fun f2 m hc2 => ?_)
          obtain ⟨⟨mr2, hm2, w2, h2, hk2, hf2⟩, rfl⟩ := hc2
          replace hk2 := hk1.trans hk2
          replace hf2 := zFr.trans hf1 hf2
          have ho2 := h2.1
          have hs2 := h2.2.1
          rw [show sGain (rOf σ) s (σ (9 + 2 * u)) a i = its from hits.1.symm]
          refine v_istore dX4_twoBest_64 (by decide) ?_
          refine v_aload_n dX4_twoBest_66 rfl rfl ?_
          refine v_aload_n dX4_twoBest_67 rfl rfl ?_
          refine v_getfield fX4_7 dX4_twoBest_68 (by assumption) (by rfl) ?_
          refine v_iconst (nI 1) dX4_twoBest_71 (by decide) ?_
          refine v_iaload dX4_twoBest_72 (by assumption) (vp_in_nI (by omega) (by omega)) ?_
          rw [nI_clamp (n := 1) (by omega)]
          rw [hat]
          refine v_iload dX4_twoBest_73 rfl ?_
          refine v_iload_n dX4_twoBest_75 rfl rfl ?_
          refine v_callV0 kX4_91 gi_X4_darkens ge_X4_darkens rfl dX4_twoBest_76 (by assumption) (c_darkens h2 (by omega) hv ha hi9 hai (z := (σ (9 + 2 * u)))) rfl rfl (by decide) (Nat.le_of_ble_eq_true rfl) (fun f3 m hc3 => ?_)
          obtain ⟨w3, σ3, h3, hk3, hlo3, hhi3, hf3, rfl⟩ := hc3
          replace hk3 := hk2.trans hk3
          replace hf3 := zFr.trans hf2 hf3
          have ho3 := h3.1
          have hs3 := h3.2.1
          refine v_iconst (nI 0) dX4_twoBest_79 (by decide) ?_
          refine v_istore dX4_twoBest_80 (by decide) ?_
          have hwD : RW (rOf σ3) N s n := RW_of (hlo3 0 (by omega)) (fun x _ h2 => hlo3 x (by omega)) hn2 hw
          have hnD : σ3 15 = nI n := (hlo3 15 (by omega)).trans hn
          have hatD : σ3 1 = nI a := (hlo3 1 (by omega)).trans hat
          have hnowD : σ3 2 = nI u := (hlo3 2 (by omega)).trans hnow
          have hND : σ3 0 = nI N := (hlo3 0 (by omega)).trans hN
          have hrfD : ∀ j, sRef N s (rOf σ3 3 0) (rOf σ3 3 1) (rOf σ3 2 u - 1 * sLn s a i) (sPutT (sTm (rOf σ3) n) (sPr (a * s) (i * s)) 1) i j = rf2 j := fun j => by
            rw [show rOf σ3 3 0 = rOf σ 3 0 from hlo3 6 (by omega), show rOf σ3 3 1 = rOf σ 3 1 from hlo3 7 (by omega), show rOf σ3 2 u = rOf σ 2 u from hlo3 (9 + 2 * u + 1) (by omega), sTm_of (hlo3 0 (by omega)) (fun x _ h2 => hlo3 x (by omega)) hn2]
            exact (hrf2.1 j).symm
          have hlk : ∀ q, q < 144 → sLack (rOf σ3) q = sLack (sLay (rOf σ) s n a i u) q := fun q hq => by
            have e8 : σ3 8 = σ 8 := hlo3 8 (by omega)
            have e7 : σ3 (616 + q) = σ (616 + q) := hlo3 _ (by omega)
            unfold sLay sPutR
            have h9 := hhi3 q
            generalize sPa s a i = PL at h9 ⊢
            show σ3 (616 + q) * σ3 8 - σ3 (760 + q) = σ (616 + q) * σ 8 - sInL PL (1 * (σ (9 + 2 * u))) (fun q => σ (760 + q)) q
            rw [e7, e8, h9, Int32.one_mul]
          have hgD : ∀ j, j < N → rf2 j = 0 → sGain (rOf σ3) s (σ (9 + 2 * u)) i j = gn2 j := fun j hj hz => by
            have hij : i ≠ j := fun e => sRef_self _ _ _ _ _ _ _ (by rw [← hz, hrf2.1 j, ← e])
            rw [hgn2.1 j]
            exact sGn_congr _ _ (fun q hq => hlk q ((sPa_ok hv hi9 hj hij).2.2 q hq))
          have hgb : ∀ j, j < N → rf2 j = 0 → zB 200 (gn2 j) := fun j hj hz => by
            have hij : i ≠ j := fun e => sRef_self _ _ _ _ _ _ _ (by rw [← hz, hrf2.1 j, ← e])
            rw [hgn2.1 j]
            exact sGain_b hv hi9 hj hij hs0 hs9 (fun q hq => hlb2 q hq i hi9 hai)
          have inner : ∀ (kk j : Nat), j + kk = N → ∀ (b5 m5 : Int32) (f5 : zHM) (w5 : Nat → Int32) (mr5 : Nat), sSec rf2 gn2 its i (best, most) j = (b5, m5) → MX f5 o B w5 hh σ3 mr5 → mr5 ≤ (mr2 + 1) + j → wK w w5 → zFr zTY f f5 → zV G yX4_twoBest cX4_twoBest 8 (some .int) 7 82 [(0, .ref o), (1, .int b5), (2, .int m5), (3, .int (σ (9 + 2 * u))), (4, .int (nI i)), (5, .int its), (6, .int (nI j))] [] (f5, m) (zD (some (.int ((sTwo (rOf σ) n N s (sTm (rOf σ) n) a u N).1))) (fun f' m' => zNQ f w o B hh σ mr 1000 f' ∧ m' = m)) := by
            intro kk
            induction kk with
            | zero =>
              intro j hj b5 m5 f5 w5 mr5 hS h5 hm5 hk5 hf5
              have ho5 := h5.1
              have hs5 := h5.2.1
              refine v_iload dX4_twoBest_82 rfl ?_
              refine v_aload_n dX4_twoBest_84 rfl rfl ?_
              refine v_getfield fX4_7 dX4_twoBest_85 (by assumption) (by rfl) ?_
              refine v_iconst (nI 0) dX4_twoBest_88 (by decide) ?_
              refine v_iaload dX4_twoBest_89 (by assumption) (vp_in_nI (by omega) (by omega)) ?_
              rw [nI_clamp (n := 0) (by omega)]
              rw [hND]
              refine v_icmp_ge 156 dX4_twoBest_90 (by decide) (fun b90 => ?_) (fun b90 => ?_)
              · rw [nI_leI (by omega) (by omega)] at b90
                refine v_aload_n dX4_twoBest_156 rfl rfl ?_
                refine v_aload_n dX4_twoBest_157 rfl rfl ?_
                refine v_getfield fX4_7 dX4_twoBest_158 (by assumption) (by rfl) ?_
                refine v_iconst (nI 1) dX4_twoBest_161 (by decide) ?_
                refine v_iaload dX4_twoBest_162 (by assumption) (vp_in_nI (by omega) (by omega)) ?_
                rw [nI_clamp (n := 1) (by omega)]
                rw [hatD]
                refine v_iload dX4_twoBest_163 rfl ?_
                refine v_iload_n dX4_twoBest_165 rfl rfl ?_
                refine v_ineg dX4_twoBest_166 ?_
                refine v_callV0 kX4_91 gi_X4_darkens ge_X4_darkens rfl dX4_twoBest_167 (by assumption) (c_darkens h5 (by omega) (RV_of hv (hlo3 0 (by omega))) ha hi9 hai (z := -(σ (9 + 2 * u)))) rfl rfl (by decide) (Nat.le_of_ble_eq_true rfl) (fun f7 m hc7 => ?_)
                obtain ⟨w7, σ7, h7, hk7, hlo7, hhi7, hf7, rfl⟩ := hc7
                replace hk7 := hk5.trans hk7
                replace hf7 := zFr.trans hf5 hf7
                have ho7 := h7.1
                have hs7 := h7.2.1
                have e9 : σ7 = σ := funext fun x => by
                  by_cases e : x < 760
                  · rw [hlo7 x e, hlo3 x e]
                  · obtain ⟨q, rfl⟩ : ∃ q, x = 760 + q := ⟨x - 760, by omega⟩
                    rw [hhi7 q]
                    rw [show (fun q => σ3 (760 + q)) = sInL (sPa s a i) (σ (9 + 2 * u)) (fun q => σ (760 + q)) from funext hhi3]
                    generalize sPa s a i = PL
                    show (if q ∈ PL then (if q ∈ PL then σ (760 + q) + (σ (9 + 2 * u)) else σ (760 + q)) + -(σ (9 + 2 * u)) else (if q ∈ PL then σ (760 + q) + (σ (9 + 2 * u)) else σ (760 + q))) = _
                    by_cases eq : q ∈ PL
                    · rw [if_pos eq, if_pos eq]
                      generalize σ (760 + q) = x
                      generalize (σ (9 + 2 * u)) = y
                      grind
                    · rw [if_neg eq, if_neg eq]
                rw [e9] at h7 hs7
                refine v_iincN dX4_twoBest_170 rfl (by decide) ?_
                refine v_goto 19 dX4_twoBest_173 (by decide) ?_
                exact v_loc (lv' := [(0, .ref o), (1, .int b5), (2, .int m5), (3, .int (σ (9 + 2 * u))), (4, .int (nI (i + 1)))]) ⟨rfl, rfl, rfl, rfl, rfl, trivial⟩ (ih (i + 1) (by omega) b5 m5 f7 w7 (mr5 + 1) (sTwo_step hv.pos.2.1 (by omega) b48 hrf2.1 hgn2.1 hits.1 hib hgb hT (by rw [show N = j from by omega]; exact hS)) h7 (by omega) hk7 hf7)
              · rw [nI_leI (by omega) (by omega)] at b90
                omega
            | succ kk ihi =>
              intro j hj b5 m5 f5 w5 mr5 hS h5 hm5 hk5 hf5
              have ho5 := h5.1
              have hs5 := h5.2.1
              have hj9 : j < N := by omega
              refine v_iload dX4_twoBest_82 rfl ?_
              refine v_aload_n dX4_twoBest_84 rfl rfl ?_
              refine v_getfield fX4_7 dX4_twoBest_85 (by assumption) (by rfl) ?_
              refine v_iconst (nI 0) dX4_twoBest_88 (by decide) ?_
              refine v_iaload dX4_twoBest_89 (by assumption) (vp_in_nI (by omega) (by omega)) ?_
              rw [nI_clamp (n := 0) (by omega)]
              rw [hND]
              refine v_icmp_ge 156 dX4_twoBest_90 (by decide) (fun b90 => ?_) (fun b90 => ?_)
              · rw [nI_leI (by omega) (by omega)] at b90
                omega
              · rw [nI_leI (by omega) (by omega)] at b90
                refine v_aload_n dX4_twoBest_93 rfl rfl ?_
                refine v_iload dX4_twoBest_94 rfl ?_
                refine v_iload dX4_twoBest_96 rfl ?_
                refine v_callV1 kX4_221 gi_X4_isSecondRefused ge_X4_isSecondRefused rfl dX4_twoBest_98 (by assumption) (c_isSecondRefused h5 hwD hnD hn2 ha hatD hu hnowD hi9 hj9 hai) rfl rfl (by decide) (Nat.le_of_ble_eq_true rfl) (fun f7 m hc7 => ?_)
                obtain ⟨⟨mr7, hm7, w7, h7, hk7, hf7⟩, rfl⟩ := hc7
                replace hk7 := hk5.trans hk7
                replace hf7 := zFr.trans hf5 hf7
                have ho7 := h7.1
                have hs7 := h7.2.1
                rw [show (if sRef N s (rOf σ3 3 0) (rOf σ3 3 1) (rOf σ3 2 u - 1 * sLn s a i) (sPutT (sTm (rOf σ3) n) (sPr (a * s) (i * s)) 1) i j = 0 then 0 else 1 : Int32) = (if rf2 j = 0 then 0 else 1 : Int32) from by rw [hrfD j]]
                by_cases hz : rf2 j = 0
                · rw [if_pos hz]
                  refine v_if_ne 150 dX4_twoBest_101 (by decide) (fun z => absurd rfl z) (fun _ => ?_)
                  have hij : i ≠ j := fun e => sRef_self _ _ _ _ _ _ _ (by rw [← hz, hrf2.1 j, ← e])
                  refine v_iload dX4_twoBest_104 rfl ?_
                  refine v_aload_n dX4_twoBest_106 rfl rfl ?_
                  refine v_iload dX4_twoBest_107 rfl ?_
                  refine v_iload dX4_twoBest_109 rfl ?_
                  refine v_iload_n dX4_twoBest_111 rfl rfl ?_
                  refine v_callV1 kX4_111 gi_X4_gained ge_X4_gained rfl dX4_twoBest_112 (by assumption) (c_gained h7 (by omega) hwD.1 hi9 hj9 hij (sh := (σ (9 + 2 * u)))) rfl rfl (by decide) (Nat.le_of_ble_eq_true rfl) (fun f8 m hc8 => ?_)
                  obtain ⟨⟨mr8, hm8, w8, h8, hk8, hf8⟩, rfl⟩ := hc8
                  replace hk8 := hk7.trans hk8
                  replace hf8 := zFr.trans hf7 hf8
                  have ho8 := h8.1
                  have hs8 := h8.2.1
                  rw [hgD j hj9 hz]
                  refine v_iadd dX4_twoBest_115 ?_
                  refine v_istore dX4_twoBest_116 (by decide) ?_
                  refine v_iload dX4_twoBest_118 rfl ?_
                  refine v_iload_n dX4_twoBest_120 rfl rfl ?_
                  refine v_icmp_le 135 dX4_twoBest_121 (by decide) (fun b121 => ?_) (fun b121 => ?_)
                  · refine v_iload_n dX4_twoBest_135 rfl rfl ?_
                    refine v_istore_n dX4_twoBest_136 rfl (by decide) ?_
                    refine v_iload dX4_twoBest_137 rfl ?_
                    refine v_iload_n dX4_twoBest_139 rfl rfl ?_
                    refine v_icmp_le 148 dX4_twoBest_140 (by decide) (fun b140 => ?_) (fun b140 => ?_)
                    · refine v_iload_n dX4_twoBest_148 rfl rfl ?_
                      refine v_istore_n dX4_twoBest_149 rfl (by decide) ?_
                      refine v_iincN dX4_twoBest_150 rfl (by decide) ?_
                      refine v_goto 82 dX4_twoBest_153 (by decide) ?_
                      exact v_loc (lv' := [(0, .ref o), (1, .int b5), (2, .int m5), (3, .int (σ (9 + 2 * u))), (4, .int (nI i)), (5, .int its), (6, .int (nI (j + 1)))]) ⟨rfl, rfl, rfl, rfl, rfl, rfl, rfl, trivial⟩ (ihi (j + 1) (by omega) _ _ f8 w8 mr8 (by show (if rf2 j = 0 ∧ (sSec rf2 gn2 its i (best, most) j).2 < its + gn2 j then _ else _) = _; rw [hS]; exact if_neg (fun z => Int32.not_lt.mpr b121 z.2)) h8 (by omega) hk8 hf8)
                    · exact absurd b121 b140
                  · refine v_bipush (nI 100) dX4_twoBest_124 (by decide) ?_
                    refine v_iload dX4_twoBest_126 rfl ?_
                    refine v_imul dX4_twoBest_128 ?_
                    rw [pk_mul 100 i]
                    refine v_iload dX4_twoBest_129 rfl ?_
                    refine v_iadd dX4_twoBest_131 ?_
                    rw [nI_add (100 * i) j]
                    refine v_goto 136 dX4_twoBest_132 (by decide) ?_
                    refine v_istore_n dX4_twoBest_136 rfl (by decide) ?_
                    refine v_iload dX4_twoBest_137 rfl ?_
                    refine v_iload_n dX4_twoBest_139 rfl rfl ?_
                    refine v_icmp_le 148 dX4_twoBest_140 (by decide) (fun b140 => ?_) (fun b140 => ?_)
                    · exact absurd b140 b121
                    · refine v_iload dX4_twoBest_143 rfl ?_
                      refine v_goto 149 dX4_twoBest_145 (by decide) ?_
                      refine v_istore_n dX4_twoBest_149 rfl (by decide) ?_
                      refine v_iincN dX4_twoBest_150 rfl (by decide) ?_
                      refine v_goto 82 dX4_twoBest_153 (by decide) ?_
                      exact v_loc (lv' := [(0, .ref o), (1, .int (nI (100 * i + j))), (2, .int (its + gn2 j)), (3, .int (σ (9 + 2 * u))), (4, .int (nI i)), (5, .int its), (6, .int (nI (j + 1)))]) ⟨rfl, rfl, rfl, rfl, rfl, rfl, rfl, trivial⟩ (ihi (j + 1) (by omega) _ _ f8 w8 mr8 (by show (if rf2 j = 0 ∧ (sSec rf2 gn2 its i (best, most) j).2 < its + gn2 j then _ else _) = _; rw [hS]; exact if_pos ⟨hz, Int32.not_le.mp b121⟩) h8 (by omega) hk8 hf8)
                · rw [if_neg hz]
                  refine v_if_ne 150 dX4_twoBest_101 (by decide) (fun _ => ?_) (fun z => absurd z (by decide))
                  refine v_iincN dX4_twoBest_150 rfl (by decide) ?_
                  refine v_goto 82 dX4_twoBest_153 (by decide) ?_
                  exact v_loc (lv' := [(0, .ref o), (1, .int b5), (2, .int m5), (3, .int (σ (9 + 2 * u))), (4, .int (nI i)), (5, .int its), (6, .int (nI (j + 1)))]) ⟨rfl, rfl, rfl, rfl, rfl, rfl, rfl, trivial⟩ (ihi (j + 1) (by omega) _ _ f7 w7 mr7 (by show (if rf2 j = 0 ∧ (sSec rf2 gn2 its i (best, most) j).2 < its + gn2 j then _ else _) = _; rw [hS]; exact if_neg (fun z => hz z.1)) h7 (by omega) hk7 hf7)
          exact v_loc (lv' := [(0, .ref o), (1, .int best), (2, .int most), (3, .int (σ (9 + 2 * u))), (4, .int (nI i)), (5, .int its), (6, .int (nI 0))]) ⟨rfl, rfl, rfl, rfl, rfl, rfl, rfl, trivial⟩ (inner N 0 (by omega) best most f3 w3 (mr2 + 1) rfl h3 (by omega) hk3 hf3)
  refine v_iconst (-1) dX4_twoBest_0 (by decide) ?_
  refine v_istore_n dX4_twoBest_1 rfl (by decide) ?_
  refine v_ldc (-1000000) dX4_twoBest_2 gMfar ?_
  refine v_istore_n dX4_twoBest_4 rfl (by decide) ?_
  refine v_aload_n dX4_twoBest_5 rfl rfl ?_
  refine v_aload_n dX4_twoBest_6 rfl rfl ?_
  refine v_getfield fX4_7 dX4_twoBest_7 (by assumption) (by rfl) ?_
  refine v_iconst (nI 2) dX4_twoBest_10 (by decide) ?_
  refine v_iaload dX4_twoBest_11 (by assumption) (vp_in_nI (by omega) (by omega)) ?_
  rw [nI_clamp (n := 2) (by omega)]
  rw [hnow]
  refine v_callVp kX4_88 gi_X4_shade ge_X4_shade rfl dX4_twoBest_12 (by assumption) (c_mshade (σ := σ) (by assumption) (by assumption) hu) rfl rfl (by decide) (Nat.le_of_ble_eq_true rfl) ?_
  refine v_istore_n dX4_twoBest_15 rfl (by decide) ?_
  refine v_iconst (nI 0) dX4_twoBest_16 (by decide) ?_
  refine v_istore dX4_twoBest_17 (by decide) ?_
  exact v_loc (lv' := [(0, .ref o), (1, .int (-1)), (2, .int (-1000000)), (3, .int (σ (9 + 2 * u))), (4, .int (nI 0))]) ⟨rfl, rfl, rfl, rfl, rfl, trivial⟩ (loop N 0 (by omega) (-1) (-1000000) f w mr ⟨rfl, Or.inl ⟨rfl, rfl⟩⟩ h (by omega) (wK.refl w) zFr.refl)
