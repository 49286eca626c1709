/-- the same state of a ring, of n chords -/
def zEQ (n : Nat) (ρ ρ' : zRS) : Prop := (∀ i, i ≤ 5 → ρ 0 i = ρ' 0 i) ∧ (∀ i, i < 3 → ρ 1 i = ρ' 1 i ∧ ρ 2 i = ρ' 2 i ∧ ρ 3 i = ρ' 3 i) ∧ (∀ c, c < n → ρ 4 c = ρ' 4 c ∧ ρ 5 c = ρ' 5 c ∧ ρ 6 c = ρ' 6 c) ∧ ∀ q, q < 144 → ρ 7 q = ρ' 7 q ∧ ρ 8 q = ρ' 8 q
theorem RV_of {σ σ' : Nat → Int32} {N s : Nat} (h : RV (rOf σ) N s) (e : σ' 0 = σ 0) : RV (rOf σ') N s := by
  obtain ⟨h1, h2, h3⟩ := h
  refine ⟨e.trans h1, ?_, h3⟩
  rw [← h2]
  show 24 / σ' 0 = 24 / σ 0
  rw [e]
theorem sWd_ok {σ σ1 σ2 σ3 σ4 σ5 σ6 σ7 : Nat → Int32} {N s n a b u : Nat} (hv : RV (rOf σ) N s) (hn : σ 15 = nI n) (hu : u < 3) (hat : σ 1 = nI a) (hnow : σ 2 = nI u)
    (hg1 : ∀ j, σ1 j = if j = 16 + 3 * n then nI a else σ j) (hg2 : ∀ j, σ2 j = if j = 16 + 3 * n + 1 then nI b else σ1 j) (hg3 : ∀ j, σ3 j = if j = 16 + 3 * n + 2 then nI u else σ2 j) (hg4 : ∀ j, σ4 j = if j = 15 then nI (n + 1) else σ3 j)
    (hlo5 : ∀ i, i < 760 → σ5 i = σ4 i) (hhi5 : ∀ q, σ5 (760 + q) = sInL (sPa s a b) (σ4 (9 + 2 * u)) (fun q => σ4 (760 + q)) q)
    (hg6 : ∀ j, σ6 j = if j = 9 + 2 * u + 1 then σ5 (9 + 2 * u + 1) - sLn s a b else σ5 j) (hg7 : ∀ j, σ7 j = if j = 1 then nI b else σ6 j) (hn2 : n < 200) : σ7 15 = nI (n + 1) ∧ zEQ (n + 1) (sLay (rOf σ) s n a b u) (rOf σ7) := by
  have lo : ∀ j, j ≠ 1 → j ≠ 9 + 2 * u + 1 → j ≠ 15 → j < 16 ∨ (616 ≤ j ∧ j < 760) → σ7 j = σ j := fun j h1 h2 h3 h4 => by
    rw [hg7, if_neg h1, hg6, if_neg h2, hlo5 j (by omega), hg4, if_neg h3, hg3, if_neg (by omega), hg2, if_neg (by omega), hg1, if_neg (by omega)]
  have l9 : ∀ j, j < 16 ∨ 616 ≤ j → j ≠ 15 → σ4 j = σ j := fun j h1 h2 => by
    rw [hg4, if_neg h2, hg3, if_neg (by omega), hg2, if_neg (by omega), hg1, if_neg (by omega)]
  refine ⟨by rw [hg7, if_neg (by omega), hg6, if_neg (by omega), hlo5 _ (by omega), hg4, if_pos rfl], fun i hi => ?_, fun i hi => ⟨?_, ?_, ?_⟩, fun c hc => ?_, fun q hq => ⟨?_, ?_⟩⟩
  · show (if i = 1 then nI b else σ i) = σ7 i
    by_cases e : i = 1
    · rw [if_pos e, hg7, if_pos e]
    · rw [if_neg e, lo i e (by omega) (by omega) (by omega)]
  · show σ (9 + 2 * i) = σ7 (9 + 2 * i)
    rw [lo _ (by omega) (by omega) (by omega) (by omega)]
  · show (if i = u then σ (9 + 2 * i + 1) - 1 * sLn s a b else σ (9 + 2 * i + 1)) = σ7 (9 + 2 * i + 1)
    by_cases e : i = u
    · subst e
      rw [if_pos rfl, hg7, if_neg (by omega), hg6, if_pos rfl, hlo5 _ (by omega), l9 _ (by omega) (by omega), Int32.one_mul]
    · rw [if_neg e, lo _ (by omega) (by omega) (by omega) (by omega)]
  · show σ (6 + i) = σ7 (6 + i)
    rw [lo _ (by omega) (by omega) (by omega) (by omega)]
  · have c7 : ∀ j, 16 ≤ j → j < 616 → σ7 j = if j = 16 + 3 * n + 2 then nI u else if j = 16 + 3 * n + 1 then nI b else if j = 16 + 3 * n then nI a else σ j := fun j h1 h2 => by
      rw [hg7, if_neg (by omega), hg6, if_neg (by omega), hlo5 _ (by omega), hg4, if_neg (by omega), hg3, hg2, hg1]
    show (if c = n then nI a else σ (16 + 3 * c)) = σ7 (16 + 3 * c) ∧ (if c = n then nI b else σ (16 + 3 * c + 1)) = σ7 (16 + 3 * c + 1) ∧ (if c = n then nI u else σ (16 + 3 * c + 2)) = σ7 (16 + 3 * c + 2)
    rw [c7 _ (by omega) (by omega), c7 _ (by omega) (by omega), c7 _ (by omega) (by omega)]
    by_cases e : c = n
    · subst e
      simp
    · rw [if_neg e, if_neg e, if_neg e]
      refine ⟨?_, ?_, ?_⟩ <;> rw [if_neg (by omega), if_neg (by omega), if_neg (by omega)]
  · show σ (616 + q) = σ7 (616 + q)
    rw [lo _ (by omega) (by omega) (by omega) (by omega)]
  · unfold sLay sPutR
    generalize sPa s a b = PL at hhi5 ⊢
    show sInL PL (1 * σ (9 + 2 * u)) (fun q => σ (760 + q)) q = σ7 (760 + q)
    rw [hg7, if_neg (by omega), hg6, if_neg (by omega), hhi5 q, l9 _ (by omega) (by omega), Int32.one_mul]
    congr 1
    funext q
    rw [l9 _ (by omega) (by omega)]
set_option maxRecDepth 10000 in
set_option maxHeartbeats 1000000 in
theorem c_winds {G : zW} {f : zHM} {m : Nat × Nat} {o mr : Nat} {B : Nat → Nat} {w : Nat → Int32} {hh : Int64} {σ : Nat → Int32} (h : MX f o B w hh σ mr) (hmr9 : mr < 2 ^ 30) {N s n : Nat} (hw : RW (rOf σ) N s n) (hn : σ 15 = nI n) (hn2 : n < 200) {a : Nat} (ha : a < N) (hat : σ 1 = nI a) {b : Nat} (hb : b < N) (hab : a ≠ b) {u : Nat} (hu : u < 3) (hnow : σ 2 = nI u) : zM G yX4_winds cX4_winds 4 none 6 [.ref o, .int (nI b)] (f, m) (zD none (fun f' m' => zND f w o B hh mr 1 (fun σ' => σ' 15 = nI (n + 1) ∧ zEQ (n + 1) (sLay (rOf σ) s n a b u) (rOf σ')) f' ∧ m' = m)) := by
  refine zM.of (by decide) (Nat.le_of_ble_eq_true rfl) ?_
  have ho := h.1
  have hs := h.2.1
  have hv := hw.1
  have hN : σ 0 = nI N := hv.1
  have hp := hv.pos
  refine v_aload_n dX4_winds_0 rfl rfl ?_
  refine v_getfield fX4_7 dX4_winds_1 (by assumption) (by rfl) ?_
  refine v_iconst (nI 1) dX4_winds_4 (by decide) ?_
  refine v_iaload dX4_winds_5 (by assumption) (vp_in_nI (by omega) (by omega)) ?_
  rw [nI_clamp (n := 1) (by omega)]
  rw [hat]
  refine v_istore_n dX4_winds_6 rfl (by decide) ?_
  refine v_aload_n dX4_winds_7 rfl rfl ?_
  refine v_getfield fX4_7 dX4_winds_8 (by assumption) (by rfl) ?_
  refine v_bipush (nI 15) dX4_winds_11 (by decide) ?_
  refine v_iaload dX4_winds_13 (by assumption) (vp_in_nI (by omega) (by omega)) ?_
  rw [nI_clamp (n := 15) (by omega)]
  rw [hn]
  refine v_istore_n dX4_winds_14 rfl (by decide) ?_
  refine v_aload_n dX4_winds_15 rfl rfl ?_
  refine v_getfield fX4_7 dX4_winds_16 (by assumption) (by rfl) ?_
  refine v_bipush (nI 16) dX4_winds_19 (by decide) ?_
  refine v_iconst (nI 3) dX4_winds_21 (by decide) ?_
  refine v_iload_n dX4_winds_22 rfl rfl ?_
  refine v_imul dX4_winds_23 ?_
  rw [pk_mul 3 n]
  refine v_iadd dX4_winds_24 ?_
  rw [nI_add 16 (3 * n)]
  refine v_iload_n dX4_winds_25 rfl rfl ?_
  refine v_iastoreX dX4_winds_26 (by assumption) (vp_in_nI (by omega) (by omega)) (fun f1 hp1 => ?_)
  rw [nI_clamp (n := (16 + (3 * n))) (by omega)] at hp1
  obtain ⟨h1, hf1⟩ := MX.st h hp1 zFr.refl
  clear hp1
  obtain ⟨σ1, e1, hg1⟩ := upd_nm σ (16 + (3 * n)) (nI a)
  rw [← e1] at h1
  clear e1
  have ho1 := h1.1
  have hs1 := h1.2.1
  refine v_aload_n dX4_winds_27 rfl rfl ?_
  refine v_getfield fX4_7 dX4_winds_28 (by assumption) (by rfl) ?_
  refine v_bipush (nI 16) dX4_winds_31 (by decide) ?_
  refine v_iconst (nI 3) dX4_winds_33 (by decide) ?_
  refine v_iload_n dX4_winds_34 rfl rfl ?_
  refine v_imul dX4_winds_35 ?_
  rw [pk_mul 3 n]
  refine v_iadd dX4_winds_36 ?_
  rw [nI_add 16 (3 * n)]
  refine v_iconst (nI 1) dX4_winds_37 (by decide) ?_
  refine v_iadd dX4_winds_38 ?_
  rw [nI_add (16 + (3 * n)) 1]
  refine v_iload_n dX4_winds_39 rfl rfl ?_
  refine v_iastoreX dX4_winds_40 (by assumption) (vp_in_nI (by omega) (by omega)) (fun f2 hp2 => ?_)
  rw [nI_clamp (n := ((16 + (3 * n)) + 1)) (by omega)] at hp2
  obtain ⟨h2, hf2⟩ := MX.st h1 hp2 hf1
  clear hp2
  obtain ⟨σ2, e2, hg2⟩ := upd_nm σ1 ((16 + (3 * n)) + 1) (nI b)
  rw [← e2] at h2
  clear e2
  have ho2 := h2.1
  have hs2 := h2.2.1
  refine v_aload_n dX4_winds_41 rfl rfl ?_
  refine v_getfield fX4_7 dX4_winds_42 (by assumption) (by rfl) ?_
  refine v_bipush (nI 16) dX4_winds_45 (by decide) ?_
  refine v_iconst (nI 3) dX4_winds_47 (by decide) ?_
  refine v_iload_n dX4_winds_48 rfl rfl ?_
  refine v_imul dX4_winds_49 ?_
  rw [pk_mul 3 n]
  refine v_iadd dX4_winds_50 ?_
  rw [nI_add 16 (3 * n)]
  refine v_iconst (nI 2) dX4_winds_51 (by decide) ?_
  refine v_iadd dX4_winds_52 ?_
  rw [nI_add (16 + (3 * n)) 2]
  refine v_aload_n dX4_winds_53 rfl rfl ?_
  refine v_getfield fX4_7 dX4_winds_54 (by assumption) (by rfl) ?_
  refine v_iconst (nI 2) dX4_winds_57 (by decide) ?_
  refine v_iaload dX4_winds_58 (by assumption) (vp_in_nI (by omega) (by omega)) ?_
  rw [nI_clamp (n := 2) (by omega), show σ2 2 = (nI u) from by rw [hg2, if_neg (by omega), hg1, if_neg (by omega)]; exact hnow]
  refine v_iastoreX dX4_winds_59 (by assumption) (vp_in_nI (by omega) (by omega)) (fun f3 hp3 => ?_)
  rw [nI_clamp (n := ((16 + (3 * n)) + 2)) (by omega)] at hp3
  obtain ⟨h3, hf3⟩ := MX.st h2 hp3 hf2
  clear hp3
  obtain ⟨σ3, e3, hg3⟩ := upd_nm σ2 ((16 + (3 * n)) + 2) (nI u)
  rw [← e3] at h3
  clear e3
  have ho3 := h3.1
  have hs3 := h3.2.1
  refine v_aload_n dX4_winds_60 rfl rfl ?_
  refine v_getfield fX4_7 dX4_winds_61 (by assumption) (by rfl) ?_
  refine v_bipush (nI 15) dX4_winds_64 (by decide) ?_
  refine v_dup2 dX4_winds_66 rfl rfl ?_
  refine v_iaload dX4_winds_67 (by assumption) (vp_in_nI (by omega) (by omega)) ?_
  rw [nI_clamp (n := 15) (by omega), show σ3 15 = (nI n) from by rw [hg3, if_neg (by omega), hg2, if_neg (by omega), hg1, if_neg (by omega)]; exact hn]
  refine v_iconst (nI 1) dX4_winds_68 (by decide) ?_
  refine v_iadd dX4_winds_69 ?_
  rw [nI_add n 1]
  refine v_iastoreX dX4_winds_70 (by assumption) (vp_in_nI (by omega) (by omega)) (fun f4 hp4 => ?_)
  rw [nI_clamp (n := 15) (by omega)] at hp4
  obtain ⟨h4, hf4⟩ := MX.st h3 hp4 hf3
  clear hp4
  obtain ⟨σ4, e4, hg4⟩ := upd_nm σ3 15 (nI (n + 1))
  rw [← e4] at h4
  clear e4
  have ho4 := h4.1
  have hs4 := h4.2.1
  refine v_aload_n dX4_winds_71 rfl rfl ?_
  refine v_iload_n dX4_winds_72 rfl rfl ?_
  refine v_iload_n dX4_winds_73 rfl rfl ?_
  refine v_aload_n dX4_winds_74 rfl rfl ?_
  refine v_aload_n dX4_winds_75 rfl rfl ?_
  refine v_getfield fX4_7 dX4_winds_76 (by assumption) (by rfl) ?_
  refine v_iconst (nI 2) dX4_winds_79 (by decide) ?_
  refine v_iaload dX4_winds_80 (by assumption) (vp_in_nI (by omega) (by omega)) ?_
  rw [nI_clamp (n := 2) (by omega), show σ4 2 = (nI u) from by rw [hg4, if_neg (by omega), hg3, if_neg (by omega), hg2, if_neg (by omega), hg1, if_neg (by omega)]; exact hnow]
  refine v_callVp kX4_88 gi_X4_shade ge_X4_shade rfl dX4_winds_81 (by assumption) (c_mshade (σ := σ4) (by assumption) (by assumption) hu) rfl rfl (by decide) (Nat.le_of_ble_eq_true rfl) ?_
  refine v_callV0 kX4_91 gi_X4_darkens ge_X4_darkens rfl dX4_winds_84 (by assumption) (c_darkens h4 (by omega) (RV_of hv (by rw [hg4, if_neg (by omega), hg3, if_neg (by omega), hg2, if_neg (by omega), hg1, if_neg (by omega)])) ha hb hab) rfl rfl (by decide) (Nat.le_of_ble_eq_true rfl) (fun f5 m hc5 => ?_)
  obtain ⟨w5, σ5, h5, hk5, hlo5, hhi5, hf5, rfl⟩ := hc5
  replace hk5 := (wK.refl w).trans hk5
  replace hf5 := zFr.trans hf4 hf5
  have ho5 := h5.1
  have hs5 := h5.2.1
  refine v_aload_n dX4_winds_87 rfl rfl ?_
  refine v_getfield fX4_7 dX4_winds_88 (by assumption) (by rfl) ?_
  refine v_bipush (nI 9) dX4_winds_91 (by decide) ?_
  refine v_iconst (nI 2) dX4_winds_93 (by decide) ?_
  refine v_aload_n dX4_winds_94 rfl rfl ?_
  refine v_getfield fX4_7 dX4_winds_95 (by assumption) (by rfl) ?_
  refine v_iconst (nI 2) dX4_winds_98 (by decide) ?_
  refine v_iaload dX4_winds_99 (by assumption) (vp_in_nI (by omega) (by omega)) ?_
  rw [nI_clamp (n := 2) (by omega), show σ5 2 = (nI u) from by rw [hlo5 _ (by omega), hg4, if_neg (by omega), hg3, if_neg (by omega), hg2, if_neg (by omega), hg1, if_neg (by omega)]; exact hnow]
  refine v_imul dX4_winds_100 ?_
  rw [pk_mul 2 u]
  refine v_iadd dX4_winds_101 ?_
  rw [nI_add 9 (2 * u)]
  refine v_iconst (nI 1) dX4_winds_102 (by decide) ?_
  refine v_iadd dX4_winds_103 ?_
  rw [nI_add (9 + (2 * u)) 1]
  refine v_dup2 dX4_winds_104 rfl rfl ?_
  refine v_iaload dX4_winds_105 (by assumption) (vp_in_nI (by omega) (by omega)) ?_
  rw [nI_clamp (n := ((9 + (2 * u)) + 1)) (by omega)]
  refine v_aload_n dX4_winds_106 rfl rfl ?_
  refine v_iload_n dX4_winds_107 rfl rfl ?_
  refine v_iload_n dX4_winds_108 rfl rfl ?_
  refine v_callVp kX4_95 gi_X4_lengthOf ge_X4_lengthOf rfl dX4_winds_109 (by assumption) (c_mlengthOf (σ := σ5) (by assumption) (by assumption) (by rw [hlo5 _ (by omega), hg4, if_neg (by omega), hg3, if_neg (by omega), hg2, if_neg (by omega), hg1, if_neg (by omega)]; exact hN) hv.2.2.1 hv.2.2.2 ha hb) rfl rfl (by decide) (Nat.le_of_ble_eq_true rfl) ?_
  refine v_isub dX4_winds_112 ?_
  refine v_iastoreX dX4_winds_113 (by assumption) (vp_in_nI (by omega) (by omega)) (fun f6 hp6 => ?_)
  rw [nI_clamp (n := ((9 + (2 * u)) + 1)) (by omega)] at hp6
  obtain ⟨h6, hf6⟩ := MX.st h5 hp6 hf5
  clear hp6
  obtain ⟨σ6, e6, hg6⟩ := upd_nm σ5 ((9 + (2 * u)) + 1) ((σ5 ((9 + (2 * u)) + 1)) - (sLn s a b))
  rw [← e6] at h6
  clear e6
  have ho6 := h6.1
  have hs6 := h6.2.1
  refine v_aload_n dX4_winds_114 rfl rfl ?_
  refine v_getfield fX4_7 dX4_winds_115 (by assumption) (by rfl) ?_
  refine v_iconst (nI 1) dX4_winds_118 (by decide) ?_
  refine v_iload_n dX4_winds_119 rfl rfl ?_
  refine v_iastoreX dX4_winds_120 (by assumption) (vp_in_nI (by omega) (by omega)) (fun f7 hp7 => ?_)
  rw [nI_clamp (n := 1) (by omega)] at hp7
  obtain ⟨h7, hf7⟩ := MX.st h6 hp7 hf6
  clear hp7
  obtain ⟨σ7, e7, hg7⟩ := upd_nm σ6 1 (nI b)
  rw [← e7] at h7
  clear e7
  have ho7 := h7.1
  have hs7 := h7.2.1
  exact v_return dX4_winds_121 rfl ⟨rfl, ⟨σ7, (mr + 1), by omega, ⟨w5, h7, hk5, hf7⟩, sWd_ok hv hn hu hat hnow hg1 hg2 hg3 hg4 hlo5 hhi5 hg6 hg7 hn2⟩, rfl⟩
theorem sUw_ok {σ σ1 σ2 σ3 σ4 σ5 σ6 σ7 σ8 : Nat → Int32} {s n a b u : Nat} (hu : u < 3)
    (hg1 : ∀ j, σ1 j = if j = 15 then nI n else σ j)
    (hlo2 : ∀ i, i < 760 → σ2 i = σ1 i) (hhi2 : ∀ q, σ2 (760 + q) = sInL (sPa s a b) (-(σ1 (9 + 2 * u))) (fun q => σ1 (760 + q)) q)
    (hg3 : ∀ j, σ3 j = if j = 9 + 2 * u + 1 then σ2 (9 + 2 * u + 1) + sLn s a b else σ2 j) (hg4 : ∀ j, σ4 j = if j = 1 then nI a else σ3 j) (hg5 : ∀ j, σ5 j = if j = 2 then nI u else σ4 j)
    (hg6 : ∀ j, σ6 j = if j = 16 + 3 * n + 0 then nI 0 else σ5 j) (hg7 : ∀ j, σ7 j = if j = 16 + 3 * n + 1 then nI 0 else σ6 j) (hg8 : ∀ j, σ8 j = if j = 16 + 3 * n + 2 then nI 0 else σ7 j) (hn2 : n < 200) : σ8 15 = nI n ∧ zEQ n (sOff (rOf σ) s a b u) (rOf σ8) := by
  have l5 : ∀ j, j < 16 + 3 * n ∨ 616 ≤ j → σ8 j = σ5 j := fun j h => by
    rw [hg8, if_neg (by omega), hg7, if_neg (by omega), hg6, if_neg (by omega)]
  have lo : ∀ j, j ≠ 1 → j ≠ 2 → j ≠ 9 + 2 * u + 1 → j ≠ 15 → j < 16 + 3 * n ∨ (616 ≤ j ∧ j < 760) → σ8 j = σ j := fun j h1 h2 h3 h4 h5 => by
    rw [l5 j (by omega), hg5, if_neg h2, hg4, if_neg h1, hg3, if_neg h3, hlo2 j (by omega), hg1, if_neg h4]
  refine ⟨by rw [l5 _ (by omega), hg5, if_neg (by omega), hg4, if_neg (by omega), hg3, if_neg (by omega), hlo2 _ (by omega), hg1, if_pos rfl], fun i hi => ?_, fun i hi => ⟨?_, ?_, ?_⟩, fun c hc => ?_, fun q hq => ⟨?_, ?_⟩⟩
  · show (if i = 1 then nI a else if i = 2 then nI u else σ i) = σ8 i
    by_cases e : i = 1
    · rw [if_pos e, l5 _ (by omega), hg5, if_neg (by omega), hg4, if_pos e]
    · by_cases e2 : i = 2
      · rw [if_neg e, if_pos e2, l5 _ (by omega), hg5, if_pos e2]
      · rw [if_neg e, if_neg e2, lo i e e2 (by omega) (by omega) (by omega)]
  · show σ (9 + 2 * i) = σ8 (9 + 2 * i)
    rw [lo _ (by omega) (by omega) (by omega) (by omega) (by omega)]
  · show (if i = u then σ (9 + 2 * i + 1) - -1 * sLn s a b else σ (9 + 2 * i + 1)) = σ8 (9 + 2 * i + 1)
    by_cases e : i = u
    · subst e
      rw [if_pos rfl, l5 _ (by omega), hg5, if_neg (by omega), hg4, if_neg (by omega), hg3, if_pos rfl, hlo2 _ (by omega), hg1, if_neg (by omega)]
      generalize σ (9 + 2 * i + 1) = x
      generalize sLn s a b = z
      grind
    · rw [if_neg e, lo _ (by omega) (by omega) (by omega) (by omega) (by omega)]
  · show σ (6 + i) = σ8 (6 + i)
    rw [lo _ (by omega) (by omega) (by omega) (by omega) (by omega)]
  · show σ (16 + 3 * c) = σ8 (16 + 3 * c) ∧ σ (16 + 3 * c + 1) = σ8 (16 + 3 * c + 1) ∧ σ (16 + 3 * c + 2) = σ8 (16 + 3 * c + 2)
    refine ⟨?_, ?_, ?_⟩ <;> rw [lo _ (by omega) (by omega) (by omega) (by omega) (by omega)]
  · show σ (616 + q) = σ8 (616 + q)
    rw [lo _ (by omega) (by omega) (by omega) (by omega) (by omega)]
  · unfold sOff sPutR
    generalize sPa s a b = PL at hhi2 ⊢
    show sInL PL (-1 * σ (9 + 2 * u)) (fun q => σ (760 + q)) q = σ8 (760 + q)
    rw [l5 _ (by omega), hg5, if_neg (by omega), hg4, if_neg (by omega), hg3, if_neg (by omega), hhi2 q, hg1, if_neg (by omega), show -1 * σ (9 + 2 * u) = -(σ (9 + 2 * u)) from by generalize σ (9 + 2 * u) = x; grind]
    congr 1
    funext q
    rw [hg1, if_neg (by omega)]
set_option maxRecDepth 10000 in
set_option maxHeartbeats 1000000 in
theorem c_unwinds {G : zW} {f : zHM} {m : Nat × Nat} {o mr : Nat} {B : Nat → Nat} {w : Nat → Int32} {hh : Int64} {σ : Nat → Int32} (h : MX f o B w hh σ mr) (hmr9 : mr < 2 ^ 30) {N s n : Nat} (hw : RW (rOf σ) N s (n + 1)) (hn : σ 15 = nI (n + 1)) (hn2 : n + 1 ≤ 200) {a b u : Nat} (ha : a < N) (hb : b < N) (hab : a ≠ b) (hu : u < 3) (q4 : σ (16 + 3 * n + 0) = nI a) (q5 : σ (16 + 3 * n + 1) = nI b) (q6 : σ (16 + 3 * n + 2) = nI u) : zM G yX4_unwinds cX4_unwinds 6 none 6 [.ref o] (f, m) (zD none (fun f' m' => zND f w o B hh mr 1 (fun σ' => σ' 15 = nI n ∧ zEQ n (sOff (rOf σ) s a b u) (rOf σ')) f' ∧ m' = m)) := by
  refine zM.of (by decide) (Nat.le_of_ble_eq_true rfl) ?_
  have ho := h.1
  have hs := h.2.1
  have hv := hw.1
  have hN : σ 0 = nI N := hv.1
  have hp := hv.pos
  have hn3 : n < 200 := by omega
  refine v_aload_n dX4_unwinds_0 rfl rfl ?_
  refine v_getfield fX4_7 dX4_unwinds_1 (by assumption) (by rfl) ?_
  refine v_bipush (nI 15) dX4_unwinds_4 (by decide) ?_
  refine v_iaload dX4_unwinds_6 (by assumption) (vp_in_nI (by omega) (by omega)) ?_
  rw [nI_clamp (n := 15) (by omega)]
  rw [hn]
  refine v_iconst (nI 1) dX4_unwinds_7 (by decide) ?_
  refine v_isub dX4_unwinds_8 ?_
  rw [show nI (n + 1) - nI 1 = nI n from pk_sub (by omega)]
  refine v_istore_n dX4_unwinds_9 rfl (by decide) ?_
  refine v_aload_n dX4_unwinds_10 rfl rfl ?_
  refine v_iload_n dX4_unwinds_11 rfl rfl ?_
  refine v_iconst (nI 0) dX4_unwinds_12 (by decide) ?_
  refine v_callVp kX4_78 gi_X4_ofChord ge_X4_ofChord rfl dX4_unwinds_13 (by assumption) (c_ofChord ho hs (k := 0) hn3 (by omega)) rfl rfl (by decide) (Nat.le_of_ble_eq_true rfl) ?_
  rw [q4]
  refine v_istore_n dX4_unwinds_16 rfl (by decide) ?_
  refine v_aload_n dX4_unwinds_17 rfl rfl ?_
  refine v_iload_n dX4_unwinds_18 rfl rfl ?_
  refine v_iconst (nI 1) dX4_unwinds_19 (by decide) ?_
  refine v_callVp kX4_78 gi_X4_ofChord ge_X4_ofChord rfl dX4_unwinds_20 (by assumption) (c_ofChord ho hs (k := 1) hn3 (by omega)) rfl rfl (by decide) (Nat.le_of_ble_eq_true rfl) ?_
  rw [q5]
  refine v_istore_n dX4_unwinds_23 rfl (by decide) ?_
  refine v_aload_n dX4_unwinds_24 rfl rfl ?_
  refine v_iload_n dX4_unwinds_25 rfl rfl ?_
  refine v_iconst (nI 2) dX4_unwinds_26 (by decide) ?_
  refine v_callVp kX4_78 gi_X4_ofChord ge_X4_ofChord rfl dX4_unwinds_27 (by assumption) (c_ofChord ho hs (k := 2) hn3 (by omega)) rfl rfl (by decide) (Nat.le_of_ble_eq_true rfl) ?_
  rw [q6]
  refine v_istore dX4_unwinds_30 (by decide) ?_
  refine v_aload_n dX4_unwinds_32 rfl rfl ?_
  refine v_getfield fX4_7 dX4_unwinds_33 (by assumption) (by rfl) ?_
  refine v_bipush (nI 15) dX4_unwinds_36 (by decide) ?_
  refine v_dup2 dX4_unwinds_38 rfl rfl ?_
  refine v_iaload dX4_unwinds_39 (by assumption) (vp_in_nI (by omega) (by omega)) ?_
  rw [nI_clamp (n := 15) (by omega)]
  rw [hn]
  refine v_iconst (nI 1) dX4_unwinds_40 (by decide) ?_
  refine v_isub dX4_unwinds_41 ?_
  rw [show nI (n + 1) - nI 1 = nI n from pk_sub (by omega)]
  refine v_iastoreX dX4_unwinds_42 (by assumption) (vp_in_nI (by omega) (by omega)) (fun f1 hp1 => ?_)
  rw [nI_clamp (n := 15) (by omega)] at hp1
  obtain ⟨h1, hf1⟩ := MX.st h hp1 zFr.refl
  clear hp1
  obtain ⟨σ1, e1, hg1⟩ := upd_nm σ 15 (nI n)
  rw [← e1] at h1
  clear e1
  have ho1 := h1.1
  have hs1 := h1.2.1
  refine v_aload_n dX4_unwinds_43 rfl rfl ?_
  refine v_iload_n dX4_unwinds_44 rfl rfl ?_
  refine v_iload_n dX4_unwinds_45 rfl rfl ?_
  refine v_aload_n dX4_unwinds_46 rfl rfl ?_
  refine v_iload dX4_unwinds_47 rfl ?_
  refine v_callVp kX4_88 gi_X4_shade ge_X4_shade rfl dX4_unwinds_49 (by assumption) (c_mshade (σ := σ1) (by assumption) (by assumption) hu) rfl rfl (by decide) (Nat.le_of_ble_eq_true rfl) ?_
  refine v_ineg dX4_unwinds_52 ?_
  refine v_callV0 kX4_91 gi_X4_darkens ge_X4_darkens rfl dX4_unwinds_53 (by assumption) (c_darkens h1 (by omega) (RV_of hv (by rw [hg1, if_neg (by omega)])) ha hb hab) rfl rfl (by decide) (Nat.le_of_ble_eq_true rfl) (fun f2 m hc2 => ?_)
  obtain ⟨w2, σ2, h2, hk2, hlo2, hhi2, hf2, rfl⟩ := hc2
  replace hk2 := (wK.refl w).trans hk2
  replace hf2 := zFr.trans hf1 hf2
  have ho2 := h2.1
  have hs2 := h2.2.1
  refine v_aload_n dX4_unwinds_56 rfl rfl ?_
  refine v_getfield fX4_7 dX4_unwinds_57 (by assumption) (by rfl) ?_
  refine v_bipush (nI 9) dX4_unwinds_60 (by decide) ?_
  refine v_iconst (nI 2) dX4_unwinds_62 (by decide) ?_
  refine v_iload dX4_unwinds_63 rfl ?_
  refine v_imul dX4_unwinds_65 ?_
  rw [pk_mul 2 u]
  refine v_iadd dX4_unwinds_66 ?_
  rw [nI_add 9 (2 * u)]
  refine v_iconst (nI 1) dX4_unwinds_67 (by decide) ?_
  refine v_iadd dX4_unwinds_68 ?_
  rw [nI_add (9 + (2 * u)) 1]
  refine v_dup2 dX4_unwinds_69 rfl rfl ?_
  refine v_iaload dX4_unwinds_70 (by assumption) (vp_in_nI (by omega) (by omega)) ?_
  rw [nI_clamp (n := ((9 + (2 * u)) + 1)) (by omega)]
  refine v_aload_n dX4_unwinds_71 rfl rfl ?_
  refine v_iload_n dX4_unwinds_72 rfl rfl ?_
  refine v_iload_n dX4_unwinds_73 rfl rfl ?_
  refine v_callVp kX4_95 gi_X4_lengthOf ge_X4_lengthOf rfl dX4_unwinds_74 (by assumption) (c_mlengthOf (σ := σ2) (by assumption) (by assumption) (by rw [hlo2 _ (by omega), hg1, if_neg (by omega)]; exact hN) hv.2.2.1 hv.2.2.2 ha hb) rfl rfl (by decide) (Nat.le_of_ble_eq_true rfl) ?_
  refine v_iadd dX4_unwinds_77 ?_
  refine v_iastoreX dX4_unwinds_78 (by assumption) (vp_in_nI (by omega) (by omega)) (fun f3 hp3 => ?_)
  rw [nI_clamp (n := ((9 + (2 * u)) + 1)) (by omega)] at hp3
  obtain ⟨h3, hf3⟩ := MX.st h2 hp3 hf2
  clear hp3
  obtain ⟨σ3, e3, hg3⟩ := upd_nm σ2 ((9 + (2 * u)) + 1) ((σ2 ((9 + (2 * u)) + 1)) + (sLn s a b))
  rw [← e3] at h3
  clear e3
  have ho3 := h3.1
  have hs3 := h3.2.1
  refine v_aload_n dX4_unwinds_79 rfl rfl ?_
  refine v_getfield fX4_7 dX4_unwinds_80 (by assumption) (by rfl) ?_
  refine v_iconst (nI 1) dX4_unwinds_83 (by decide) ?_
  refine v_iload_n dX4_unwinds_84 rfl rfl ?_
  refine v_iastoreX dX4_unwinds_85 (by assumption) (vp_in_nI (by omega) (by omega)) (fun f4 hp4 => ?_)
  rw [nI_clamp (n := 1) (by omega)] at hp4
  obtain ⟨h4, hf4⟩ := MX.st h3 hp4 hf3
  clear hp4
  obtain ⟨σ4, e4, hg4⟩ := upd_nm σ3 1 (nI a)
  rw [← e4] at h4
  clear e4
  have ho4 := h4.1
  have hs4 := h4.2.1
  refine v_aload_n dX4_unwinds_86 rfl rfl ?_
  refine v_getfield fX4_7 dX4_unwinds_87 (by assumption) (by rfl) ?_
  refine v_iconst (nI 2) dX4_unwinds_90 (by decide) ?_
  refine v_iload dX4_unwinds_91 rfl ?_
  refine v_iastoreX dX4_unwinds_93 (by assumption) (vp_in_nI (by omega) (by omega)) (fun f5 hp5 => ?_)
  rw [nI_clamp (n := 2) (by omega)] at hp5
  obtain ⟨h5, hf5⟩ := MX.st h4 hp5 hf4
  clear hp5
  obtain ⟨σ5, e5, hg5⟩ := upd_nm σ4 2 (nI u)
  rw [← e5] at h5
  clear e5
  have ho5 := h5.1
  have hs5 := h5.2.1
  refine v_iconst (nI 0) dX4_unwinds_94 (by decide) ?_
  refine v_istore dX4_unwinds_95 (by decide) ?_
  refine v_iload dX4_unwinds_97 rfl ?_
  refine v_iconst (nI 3) dX4_unwinds_99 (by decide) ?_
  refine v_icmp_ge 124 dX4_unwinds_100 (by decide) (fun b100 => ?_) (fun b100 => ?_)
  · rw [nI_leI (by omega) (by omega)] at b100
    omega
  · rw [nI_leI (by omega) (by omega)] at b100
    refine v_aload_n dX4_unwinds_103 rfl rfl ?_
    refine v_getfield fX4_7 dX4_unwinds_104 (by assumption) (by rfl) ?_
    refine v_bipush (nI 16) dX4_unwinds_107 (by decide) ?_
    refine v_iconst (nI 3) dX4_unwinds_109 (by decide) ?_
    refine v_iload_n dX4_unwinds_110 rfl rfl ?_
    refine v_imul dX4_unwinds_111 ?_
    rw [pk_mul 3 n]
    refine v_iadd dX4_unwinds_112 ?_
    rw [nI_add 16 (3 * n)]
    refine v_iload dX4_unwinds_113 rfl ?_
    refine v_iadd dX4_unwinds_115 ?_
    rw [nI_add (16 + (3 * n)) 0]
    refine v_iconst (nI 0) dX4_unwinds_116 (by decide) ?_
    refine v_iastoreX dX4_unwinds_117 (by assumption) (vp_in_nI (by omega) (by omega)) (fun f6 hp6 => ?_)
    rw [nI_clamp (n := ((16 + (3 * n)) + 0)) (by omega)] at hp6
    obtain ⟨h6, hf6⟩ := MX.st h5 hp6 hf5
    clear hp6
    obtain ⟨σ6, e6, hg6⟩ := upd_nm σ5 ((16 + (3 * n)) + 0) (nI 0)
    rw [← e6] at h6
    clear e6
    have ho6 := h6.1
    have hs6 := h6.2.1
    refine v_iincN dX4_unwinds_118 rfl (by decide) ?_
    rw [show nI (0 + 1) = nI 1 from rfl]
    refine v_goto 97 dX4_unwinds_121 (by decide) ?_
    refine v_iload dX4_unwinds_97 rfl ?_
    refine v_iconst (nI 3) dX4_unwinds_99 (by decide) ?_
    refine v_icmp_ge 124 dX4_unwinds_100 (by decide) (fun b100 => ?_) (fun b100 => ?_)
    · rw [nI_leI (by omega) (by omega)] at b100
      omega
    · rw [nI_leI (by omega) (by omega)] at b100
      refine v_aload_n dX4_unwinds_103 rfl rfl ?_
      refine v_getfield fX4_7 dX4_unwinds_104 (by assumption) (by rfl) ?_
      refine v_bipush (nI 16) dX4_unwinds_107 (by decide) ?_
      refine v_iconst (nI 3) dX4_unwinds_109 (by decide) ?_
      refine v_iload_n dX4_unwinds_110 rfl rfl ?_
      refine v_imul dX4_unwinds_111 ?_
      rw [pk_mul 3 n]
      refine v_iadd dX4_unwinds_112 ?_
      rw [nI_add 16 (3 * n)]
      refine v_iload dX4_unwinds_113 rfl ?_
      refine v_iadd dX4_unwinds_115 ?_
      rw [nI_add (16 + (3 * n)) 1]
      refine v_iconst (nI 0) dX4_unwinds_116 (by decide) ?_
      refine v_iastoreX dX4_unwinds_117 (by assumption) (vp_in_nI (by omega) (by omega)) (fun f7 hp7 => ?_)
      rw [nI_clamp (n := ((16 + (3 * n)) + 1)) (by omega)] at hp7
      obtain ⟨h7, hf7⟩ := MX.st h6 hp7 hf6
      clear hp7
      obtain ⟨σ7, e7, hg7⟩ := upd_nm σ6 ((16 + (3 * n)) + 1) (nI 0)
      rw [← e7] at h7
      clear e7
      have ho7 := h7.1
      have hs7 := h7.2.1
      refine v_iincN dX4_unwinds_118 rfl (by decide) ?_
      rw [show nI (1 + 1) = nI 2 from rfl]
      refine v_goto 97 dX4_unwinds_121 (by decide) ?_
      refine v_iload dX4_unwinds_97 rfl ?_
      refine v_iconst (nI 3) dX4_unwinds_99 (by decide) ?_
      refine v_icmp_ge 124 dX4_unwinds_100 (by decide) (fun b100 => ?_) (fun b100 => ?_)
      · rw [nI_leI (by omega) (by omega)] at b100
        omega
      · rw [nI_leI (by omega) (by omega)] at b100
        refine v_aload_n dX4_unwinds_103 rfl rfl ?_
        refine v_getfield fX4_7 dX4_unwinds_104 (by assumption) (by rfl) ?_
        refine v_bipush (nI 16) dX4_unwinds_107 (by decide) ?_
        refine v_iconst (nI 3) dX4_unwinds_109 (by decide) ?_
        refine v_iload_n dX4_unwinds_110 rfl rfl ?_
        refine v_imul dX4_unwinds_111 ?_
        rw [pk_mul 3 n]
        refine v_iadd dX4_unwinds_112 ?_
        rw [nI_add 16 (3 * n)]
        refine v_iload dX4_unwinds_113 rfl ?_
        refine v_iadd dX4_unwinds_115 ?_
        rw [nI_add (16 + (3 * n)) 2]
        refine v_iconst (nI 0) dX4_unwinds_116 (by decide) ?_
        refine v_iastoreX dX4_unwinds_117 (by assumption) (vp_in_nI (by omega) (by omega)) (fun f8 hp8 => ?_)
        rw [nI_clamp (n := ((16 + (3 * n)) + 2)) (by omega)] at hp8
        obtain ⟨h8, hf8⟩ := MX.st h7 hp8 hf7
        clear hp8
        obtain ⟨σ8, e8, hg8⟩ := upd_nm σ7 ((16 + (3 * n)) + 2) (nI 0)
        rw [← e8] at h8
        clear e8
        have ho8 := h8.1
        have hs8 := h8.2.1
        refine v_iincN dX4_unwinds_118 rfl (by decide) ?_
        rw [show nI (2 + 1) = nI 3 from rfl]
        refine v_goto 97 dX4_unwinds_121 (by decide) ?_
        refine v_iload dX4_unwinds_97 rfl ?_
        refine v_iconst (nI 3) dX4_unwinds_99 (by decide) ?_
        refine v_icmp_ge 124 dX4_unwinds_100 (by decide) (fun b100 => ?_) (fun b100 => ?_)
        · rw [nI_leI (by omega) (by omega)] at b100
          exact v_return dX4_unwinds_124 rfl ⟨rfl, ⟨σ8, (mr + 1), by omega, ⟨w2, h8, hk2, hf8⟩, sUw_ok hu hg1 hlo2 hhi2 hg3 hg4 hg5 hg6 hg7 hg8 hn3⟩, rfl⟩
        · rw [nI_leI (by omega) (by omega)] at b100
          omega
