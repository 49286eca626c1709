/-- a state of the class's ring, and the reference's -/
def SR (s : Nat) (S : zST) (σ : Nat → Int32) : Prop := σ 15 = nI S.2.1 ∧ zEQ S.2.1 S.1 (rOf σ) ∧ (∀ q, q < 144 → S.2.2.1 q = sXs (rOf σ) s S.2.1 q) ∧ ∀ p, p < 276 → S.2.2.2 p = sTm (rOf σ) S.2.1 p
theorem SR_lay {N s n a b u : Nat} {ρ : zRS} {xs tm : Nat → Int32} {σ σ' : Nat → Int32} (h : SR s (ρ, n, xs, tm) σ) (hw : RW (rOf σ) N s n) (ha : a < N) (hb : b < N) (hab : a ≠ b) (hu : u < 3) (e15 : σ' 15 = nI (n + 1)) (e : zEQ (n + 1) (sInc (sLay (rOf σ) s n a b u) 3) (rOf σ')) : SR s (sWBn ρ s n xs tm a b u) σ' := by
  obtain ⟨h1, h2, h3, h4⟩ := h
  have hp := hw.1.pos
  refine ⟨e15, (sInc_eq (by omega) (sLay_eq hu h2)).trans e, fun q hq => ?_, fun p hp9 => ?_⟩
  · have e1 : sXs (sInc (sLay (rOf σ) s n a b u) 3) s (n + 1) q = sXs (sLay (rOf σ) s n a b u) s (n + 1) q := rfl
    unfold sWBn
    dsimp only
    rw [← sXs_eq e, e1, sXs_lay (by omega) (by omega)]
    unfold sInL
    rw [show xs q = sXs (rOf σ) s n q from h3 q hq]
  · have e1 : sTm (sInc (sLay (rOf σ) s n a b u) 3) (n + 1) p = sTm (sLay (rOf σ) s n a b u) (n + 1) p := rfl
    unfold sWBn
    dsimp only
    rw [← sTm_eq e, e1, sTm_lay hw.1 (by omega) (by omega)]
    unfold sPutT
    rw [show tm p = sTm (rOf σ) n p from h4 p hp9]
set_option maxRecDepth 10000 in
set_option maxHeartbeats 1000000 in
theorem c_hasGain {G : zW} {f : zHM} {m : Nat × Nat} {o mr : Nat} {B : Nat → Nat} {w : Nat → Int32} {hh : Int64} {σ : Nat → Int32} (h : MX f o B w hh σ mr) (hmr9 : mr + 10 < 2 ^ 30) {N s n : Nat} (hw : RW (rOf σ) N s n) (hn : σ 15 = nI n) (hn2 : n ≤ 200) {a : Nat} (ha : a < N) (hat : σ 1 = nI a) {u : Nat} (hu : u < 3) (hnow : σ 2 = nI u) {b : Nat} (hb : b < N) (hab : a ≠ b) : zM G yX4_hasGain cX4_hasGain 2 (some .boolean) 6 [.ref o, .int (nI b)] (f, m) (zD (some (.int (if sGain (rOf σ) s (σ (9 + 2 * u)) a b ≤ 0 then 0 else 1))) (fun f' m' => zNQ f w o B hh σ mr 1 f' ∧ m' = m)) := by
  refine zM.of (by decide) (Nat.le_of_ble_eq_true rfl) ?_
  have ho := h.1
  have hs := h.2.1
  have hv := hw.1
  have hp := hv.pos
  refine v_iload_n dX4_hasGain_0 rfl rfl ?_
  refine v_iconst (-1) dX4_hasGain_1 (by decide) ?_
  refine v_icmp_eq 33 dX4_hasGain_2 (by decide) (fun b2 => ?_) (fun b2 => ?_)
  · exact absurd b2 (nI_m1 (by omega))
  · refine v_aload_n dX4_hasGain_5 rfl rfl ?_
    refine v_aload_n dX4_hasGain_6 rfl rfl ?_
    refine v_getfield fX4_7 dX4_hasGain_7 (by assumption) (by rfl) ?_
    refine v_iconst (nI 1) dX4_hasGain_10 (by decide) ?_
    refine v_iaload dX4_hasGain_11 (by assumption) (vp_in_nI (by omega) (by omega)) ?_
    rw [nI_clamp (n := 1) (by omega)]
    rw [hat]
    refine v_iload_n dX4_hasGain_12 rfl rfl ?_
    refine v_aload_n dX4_hasGain_13 rfl rfl ?_
    refine v_aload_n dX4_hasGain_14 rfl rfl ?_
    refine v_getfield fX4_7 dX4_hasGain_15 (by assumption) (by rfl) ?_
    refine v_iconst (nI 2) dX4_hasGain_18 (by decide) ?_
    refine v_iaload dX4_hasGain_19 (by assumption) (vp_in_nI (by omega) (by omega)) ?_
    rw [nI_clamp (n := 2) (by omega)]
    rw [hnow]
    refine v_callVp kX4_88 gi_X4_shade ge_X4_shade rfl dX4_hasGain_20 (by assumption) (c_mshade ho hs hu) rfl rfl (by decide) (Nat.le_of_ble_eq_true rfl) ?_
    refine v_callV1 kX4_111 gi_X4_gained ge_X4_gained rfl dX4_hasGain_23 (by assumption) (c_gained h (by omega) hv ha hb hab (sh := σ (9 + 2 * u))) rfl rfl (by decide) (Nat.le_of_ble_eq_true rfl) (fun f1 m hc1 => ?_)
    obtain ⟨⟨mr1, hm1, w1, h1, hk1, hf1⟩, rfl⟩ := hc1
    replace hk1 := (wK.refl w).trans hk1
    replace hf1 := zFr.trans zFr.refl hf1
    have ho1 := h1.1
    have hs1 := h1.2.1
    refine v_if_le 33 dX4_hasGain_26 (by decide) (fun b26 => ?_) (fun b26 => ?_)
    · refine v_iconst (0) dX4_hasGain_33 (by decide) ?_
      exact v_zreturn dX4_hasGain_34 rfl (by decide) ⟨by rw [if_pos b26], ⟨mr1, by omega, w1, h1, hk1, hf1⟩, rfl⟩
    · refine v_iconst (1) dX4_hasGain_29 (by decide) ?_
      refine v_goto 34 dX4_hasGain_30 (by decide) ?_
      exact v_zreturn dX4_hasGain_34 rfl (by decide) ⟨by rw [if_neg b26], ⟨mr1, by omega, w1, h1, hk1, hf1⟩, rfl⟩
set_option maxRecDepth 10000 in
set_option maxHeartbeats 1000000 in
theorem c_hasGain_no {G : zW} {f : zHM} {m : Nat × Nat} {o mr : Nat} {B : Nat → Nat} {w : Nat → Int32} {hh : Int64} {σ : Nat → Int32} (h : MX f o B w hh σ mr) : zM G yX4_hasGain cX4_hasGain 2 (some .boolean) 6 [.ref o, .int (-1)] (f, m) (zS (.int 0) f m) := by
  refine zM.of (by decide) (Nat.le_of_ble_eq_true rfl) ?_
  have ho := h.1
  have hs := h.2.1
  refine v_iload_n dX4_hasGain_0 rfl rfl ?_
  refine v_iconst (-1) dX4_hasGain_1 (by decide) ?_
  refine v_icmp_eq 33 dX4_hasGain_2 (by decide) (fun b2 => ?_) (fun b2 => ?_)
  · refine v_iconst (0) dX4_hasGain_33 (by decide) ?_
    exact v_zreturn dX4_hasGain_34 rfl (by decide) ⟨rfl, rfl, rfl⟩
  · exact absurd rfl b2
theorem sWB_n1 {N s j a u : Nat} {S : zST} {σ : Nat → Int32} (h : SR s S σ) (hw : RW (rOf σ) N s S.2.1) (ha : a < N) (hu : u < 3) (hat : σ 1 = nI a) (hnow : σ 2 = nI u) (e : sBest (rOf σ) N s (sTm (rOf σ) S.2.1) a u = -1) : sWB N s (j + 1) S = (S, 0) := by
  have hp := hw.1.pos
  obtain ⟨h1, h2, h3, h4⟩ := h
  obtain ⟨ρ, n, xs, tm⟩ := S
  replace h2 : zEQ n ρ (rOf σ) := h2
  replace h4 : ∀ p, p < 276 → tm p = sTm (rOf σ) n p := h4
  replace hw : RW (rOf σ) N s n := hw
  have z1 : zn (ρ 0 1) = a := by rw [h2.1 1 (by omega), show rOf σ 0 1 = nI a from hat, zn_nI (by omega)]
  have z2 : zn (ρ 0 2) = u := by rw [h2.1 2 (by omega), show rOf σ 0 2 = nI u from hnow, zn_nI (by omega)]
  exact sWB_no (sWBs_1 z1 z2 ((sBest_eq h2 (RV_eq h2.symm hw.1) ha hu h4).trans e))
theorem sWB_n2 {N s j : Nat} {S : zST} (h : 200 ≤ S.2.1) : sWB N s (j + 1) S = (S, 0) := by
  obtain ⟨ρ, n, xs, tm⟩ := S
  exact sWB_no (sWBs_2 h)
theorem sWB_n3 {N s j a u b : Nat} {S : zST} {σ : Nat → Int32} (h : SR s S σ) (hw : RW (rOf σ) N s S.2.1) (ha : a < N) (hu : u < 3) (hat : σ 1 = nI a) (hnow : σ 2 = nI u) (hb : b < N) (hab : a ≠ b) (e : sBest (rOf σ) N s (sTm (rOf σ) S.2.1) a u = nI b) (g : sGain (rOf σ) s (σ (9 + 2 * u)) a b ≤ 0) : sWB N s (j + 1) S = (S, 0) := by
  have hp := hw.1.pos
  obtain ⟨h1, h2, h3, h4⟩ := h
  obtain ⟨ρ, n, xs, tm⟩ := S
  replace h2 : zEQ n ρ (rOf σ) := h2
  replace h4 : ∀ p, p < 276 → tm p = sTm (rOf σ) n p := h4
  replace hw : RW (rOf σ) N s n := hw
  have z1 : zn (ρ 0 1) = a := by rw [h2.1 1 (by omega), show rOf σ 0 1 = nI a from hat, zn_nI (by omega)]
  have z2 : zn (ρ 0 2) = u := by rw [h2.1 2 (by omega), show rOf σ 0 2 = nI u from hnow, zn_nI (by omega)]
  exact sWB_no (sWBs_3 z1 z2 ((sBest_eq h2 (RV_eq h2.symm hw.1) ha hu h4).trans e) (by omega) (by rw [sGain_eq h2 (RV_eq h2.symm hw.1) ha hb hab hu]; exact g))
theorem sWB_y {N s j a u b : Nat} {S : zST} {σ : Nat → Int32} (h : SR s S σ) (hw : RW (rOf σ) N s S.2.1) (ha : a < N) (hu : u < 3) (hat : σ 1 = nI a) (hnow : σ 2 = nI u) (hb : b < N) (hab : a ≠ b) (e : sBest (rOf σ) N s (sTm (rOf σ) S.2.1) a u = nI b) (hn : S.2.1 < 200) (g : ¬ sGain (rOf σ) s (σ (9 + 2 * u)) a b ≤ 0) : sWB N s (j + 1) S = ((sWB N s j (sWBn S.1 s S.2.1 S.2.2.1 S.2.2.2 a b u)).1, (sWB N s j (sWBn S.1 s S.2.1 S.2.2.1 S.2.2.2 a b u)).2 + 1) := by
  have hp := hw.1.pos
  obtain ⟨h1, h2, h3, h4⟩ := h
  obtain ⟨ρ, n, xs, tm⟩ := S
  replace h2 : zEQ n ρ (rOf σ) := h2
  replace h4 : ∀ p, p < 276 → tm p = sTm (rOf σ) n p := h4
  replace hw : RW (rOf σ) N s n := hw
  have z1 : zn (ρ 0 1) = a := by rw [h2.1 1 (by omega), show rOf σ 0 1 = nI a from hat, zn_nI (by omega)]
  have z2 : zn (ρ 0 2) = u := by rw [h2.1 2 (by omega), show rOf σ 0 2 = nI u from hnow, zn_nI (by omega)]
  exact sWB_so (sWBs_4 z1 z2 ((sBest_eq h2 (RV_eq h2.symm hw.1) ha hu h4).trans e) (by omega) hn (by rw [sGain_eq h2 (RV_eq h2.symm hw.1) ha hb hab hu]; exact g))
set_option maxRecDepth 10000 in
set_option maxHeartbeats 1000000 in
theorem c_m9windBest {G : zW} {f : zHM} {m : Nat × Nat} {o mr : Nat} {B : Nat → Nat} {w : Nat → Int32} {hh : Int64} {σ : Nat → Int32} (h : MX f o B w hh σ mr) {th : Int32} {k L : Nat} {sv : Nat → Nat → Int32} {hsl : Nat → Int32} {sl : Nat → Nat → Int32} {ch : Nat → Nat} (t : w 0 = th) (k0 : w 1 = nI k) (l0 : w 2 = nI L) (O : zNO f B k sv hsl sl L ch) (hmr9 : mr + 3000 < 2 ^ 30) {N s a u : Nat} {S0 : zST} (hS0 : SR s S0 σ) (iv : IVr N s S0.2.1 (rOf σ)) (ha : a < N) (hat : σ 1 = nI a) (hu : u < 3) (hnow : σ 2 = nI u) {g : Nat} (hg1 : 1 ≤ g) (hg50 : g ≤ 50) : zM G yX4_windBest cX4_windBest 4 (some .int) 9 [.ref o, .int (nI g)] (f, m) (zD (some (.int (nI (sWB N s g S0).2))) (fun f' m' => zNP f o B hh mr 2200 0 (sPK k) (sPM k sv σ) hsl sl L ch (fun σ' => SR s (sWB N s g S0).1 σ' ∧ IVr N s (sWB N s g S0).1.2.1 (rOf σ')) f' ∧ m' = m)) := by
  refine zM.of (by decide) (Nat.le_of_ble_eq_true rfl) ?_
  have ho := h.1
  have hs := h.2.1
  have hn : σ 15 = nI S0.2.1 := hS0.1
  have hp := iv.1.1.pos
  refine v_aload_n dX4_windBest_0 rfl rfl ?_
  refine v_iconst (nI 0) dX4_windBest_1 (by decide) ?_
  refine v_putfieldX fX4_35 dX4_windBest_2 (by assumption) rfl rfl (Nat.le_of_ble_eq_true rfl) (fun f1 hp1 => ?_)
  obtain ⟨h1, hf1⟩ := MX.put (w' := zUp w 0 (nI 0)) (f0 := f) h hp1 rfl zFr.refl
  obtain ⟨w1, ew1⟩ : ∃ w9, w9 = zUp w 0 (nI 0) := ⟨_, rfl⟩
  rw [← ew1] at h1
  clear hp1
  have ho1 := h1.1
  have hs1 := h1.2.1
  have t1 : w1 0 = nI 0 := by rw [ew1]; rfl
  have k1 := (show w1 1 = w 1 from by rw [ew1]; rfl).trans k0
  have l1 := (show w1 2 = w 2 from by rw [ew1]; rfl).trans l0
  have O1 := zNO.fr O hf1 (by intro τ h; rcases h with h | h | h | h <;> omega)
  have F1 := zFr.trans zFr.refl (zFr.weaken hf1 zTYZ)
  refine v_iload_n dX4_windBest_5 rfl rfl ?_
  refine v_iconst (nI 1) dX4_windBest_6 (by decide) ?_
  refine v_bipush (nI 50) dX4_windBest_7 (by decide) ?_
  refine v_callSp kX4_42 gs_X4_in dX4_windBest_9 c_in rfl rfl (by decide) (Nat.le_of_ble_eq_true rfl) ?_
  rw [inN_y hg1 hg50 (by omega)]
  refine v_if_ne 21 dX4_windBest_12 (by decide) (fun b12 => ?_) (fun b12 => ?_)
  · rw [show (0 : Int32) = nI 0 from rfl] at b12
    rw [nI_eq (by omega) (by omega)] at b12
    refine v_aload_n dX4_windBest_21 rfl rfl ?_
    refine v_callV0 kX4_121 gi_X4_saves ge_X4_saves rfl dX4_windBest_22 (by assumption) (c_saves h1 k1 O1) rfl rfl (by decide) (Nat.le_of_ble_eq_true rfl) (fun f2 m hc2 => ?_)
    obtain ⟨⟨w2, h2, hk0, k2, O2, hf2⟩, rfl⟩ := hc2
    have t2 := (hk0 0 (by decide)).trans t1
    have l2 := (hk0 2 (by decide)).trans l1
    have F2 := zFr.trans F1 hf2
    have ho2 := h2.1
    have hs2 := h2.2.1
    refine v_iconst (nI 0) dX4_windBest_25 (by decide) ?_
    refine v_istore_n dX4_windBest_26 rfl (by decide) ?_
    refine v_aload_n dX4_windBest_27 rfl rfl ?_
    refine v_aload_n dX4_windBest_28 rfl rfl ?_
    refine v_getfield fX4_7 dX4_windBest_29 (by assumption) (by rfl) ?_
    refine v_iconst (nI 2) dX4_windBest_32 (by decide) ?_
    refine v_iaload dX4_windBest_33 (by assumption) (vp_in_nI (by omega) (by omega)) ?_
    rw [nI_clamp (n := 2) (by omega)]
    rw [hnow]
    refine v_callV1 kX4_141 gi_X4_bestWith ge_X4_bestWith rfl dX4_windBest_34 (by assumption) (c_bestWith h2 (by omega) iv.1 hn iv.2.1 ha hat hu) rfl rfl (by decide) (Nat.le_of_ble_eq_true rfl) (fun f3 m hc3 => ?_)
    obtain ⟨⟨mr3, hm3, w3, h3, hk3, hf3⟩, rfl⟩ := hc3
    have ho3 := h3.1
    have hs3 := h3.2.1
    have t3 := (hk3 0 (by decide) (by decide)).trans t2
    have k3 := (hk3 1 (by decide) (by decide)).trans k2
    have l3 := (hk3 2 (by decide) (by decide)).trans l2
    have O3 := zNO.fr O2 hf3 (by intro τ h; rcases h with h | h | h | h <;> omega)
    have F3 := zFr.trans F2 (zFr.weaken hf3 zTYZ)
    refine v_istore_n dX4_windBest_37 rfl (by decide) ?_
    have wb : ∀ (j d : Nat), d + j = g → ∀ (fx : zHM) (wx : Nat → Int32) (mrx : Nat) (σx : Nat → Int32), MX fx o B wx hh σx mrx → wx 0 = nI 0 → wx 1 = nI (sPK k) → wx 2 = nI L → zNO fx B (sPK k) (sPM k sv σ) hsl sl L ch → zFr zTZ f fx → mrx ≤ mr + 40 + 40 * d → ∀ (S : zST) (ac : Nat), SR s S σx → IVr N s S.2.1 (rOf σx) → σx 2 = nI u → ac < N → σx 1 = nI ac → (sWB N s g S0) = ((sWB N s j S).1, (sWB N s j S).2 + d) → zV G yX4_windBest cX4_windBest 4 (some .int) 9 38 [(0, .ref o), (1, .int (nI g)), (2, .int (nI d)), (3, .int (sBest (rOf σx) N s (sTm (rOf σx) S.2.1) ac u))] [] (fx, m) (zD (some (.int (nI (sWB N s g S0).2))) (fun f' m' => zNP f o B hh mr 2200 0 (sPK k) (sPM k sv σ) hsl sl L ch (fun σ' => SR s (sWB N s g S0).1 σ' ∧ IVr N s (sWB N s g S0).1.2.1 (rOf σ')) f' ∧ m' = m)) := by
      intro j
      induction j with
      | zero =>
        intro d hd fx wx mrx σx hx tx kx lx Ox Fx hmx S ac hS ivx hnowx hac hatx hW
        have hox := hx.1
        have hsx := hx.2.1
        refine v_iload_n dX4_windBest_38 rfl rfl ?_
        refine v_iload_n dX4_windBest_39 rfl rfl ?_
        refine v_icmp_ge 96 dX4_windBest_40 (by decide) (fun b40 => ?_) (fun b40 => ?_)
        · rw [nI_leI (by omega) (by omega)] at b40
          refine v_iload_n dX4_windBest_96 rfl rfl ?_
          exact v_ireturn dX4_windBest_97 rfl ⟨by rw [hW]; show _ = Sum.inl (some (Value.int (nI (0 + d)))); rw [Nat.zero_add], ⟨σx, mrx, by omega, ⟨wx, hx, tx, kx, lx, Ox⟩, by rw [hW]; exact ⟨hS, ivx⟩, Fx⟩, rfl⟩
        · rw [nI_leI (by omega) (by omega)] at b40
          omega
      | succ j ih =>
        intro d hd fx wx mrx σx hx tx kx lx Ox Fx hmx S ac hS ivx hnowx hac hatx hW
        have hox := hx.1
        have hsx := hx.2.1
        have hnx : σx 15 = nI S.2.1 := hS.1
        have hn2x := ivx.2.1
        rcases sBest_in (rOf σx) N s (sTm (rOf σx) S.2.1) ac u with eb | ⟨b, hb, eb, hcb⟩
        · rw [eb]
          have hno := sWB_n1 (j := j) hS ivx.1 hac hu hatx hnowx eb
          refine v_iload_n dX4_windBest_38 rfl rfl ?_
          refine v_iload_n dX4_windBest_39 rfl rfl ?_
          refine v_icmp_ge 96 dX4_windBest_40 (by decide) (fun b40 => ?_) (fun b40 => ?_)
          · rw [nI_leI (by omega) (by omega)] at b40
            omega
          · rw [nI_leI (by omega) (by omega)] at b40
            refine v_aload_n dX4_windBest_43 rfl rfl ?_
            refine v_getfield fX4_7 dX4_windBest_44 (by assumption) (by rfl) ?_
            refine v_bipush (nI 15) dX4_windBest_47 (by decide) ?_
            refine v_iaload dX4_windBest_49 (by assumption) (vp_in_nI (by omega) (by omega)) ?_
            rw [nI_clamp (n := 15) (by omega)]
            rw [hnx]
            refine v_sipush (nI 200) dX4_windBest_50 (by decide) ?_
            refine v_icmp_ge 96 dX4_windBest_53 (by decide) (fun b53 => ?_) (fun b53 => ?_)
            · rw [nI_leI (by omega) (by omega)] at b53
              have hno := sWB_n2 (N := N) (s := s) (j := j) (S := S) b53
              refine v_iload_n dX4_windBest_96 rfl rfl ?_
              exact v_ireturn dX4_windBest_97 rfl ⟨by rw [hW, hno]; show _ = Sum.inl (some (Value.int (nI (0 + d)))); rw [Nat.zero_add], ⟨σx, mrx, by omega, ⟨wx, hx, tx, kx, lx, Ox⟩, by rw [hW, hno]; exact ⟨hS, ivx⟩, Fx⟩, rfl⟩
            · rw [nI_leI (by omega) (by omega)] at b53
              refine v_aload_n dX4_windBest_56 rfl rfl ?_
              refine v_iload_n dX4_windBest_57 rfl rfl ?_
              refine v_callVp kX4_144 gi_X4_hasGain ge_X4_hasGain rfl dX4_windBest_58 (by assumption) (c_hasGain_no hx) rfl rfl (by decide) (Nat.le_of_ble_eq_true rfl) ?_
              rw [show (0 : Int32) = nI 0 from rfl]
              refine v_if_eq 96 dX4_windBest_61 (by decide) (fun b61 => ?_) (fun b61 => ?_)
              · rw [show (0 : Int32) = nI 0 from rfl] at b61
                rw [nI_eq (by omega) (by omega)] at b61
                refine v_iload_n dX4_windBest_96 rfl rfl ?_
                exact v_ireturn dX4_windBest_97 rfl ⟨by rw [hW, hno]; show _ = Sum.inl (some (Value.int (nI (0 + d)))); rw [Nat.zero_add], ⟨σx, mrx, by omega, ⟨wx, hx, tx, kx, lx, Ox⟩, by rw [hW, hno]; exact ⟨hS, ivx⟩, Fx⟩, rfl⟩
              · rw [show (0 : Int32) = nI 0 from rfl] at b61
                rw [nI_eq (by omega) (by omega)] at b61
                omega
        · rw [eb]
          refine v_iload_n dX4_windBest_38 rfl rfl ?_
          refine v_iload_n dX4_windBest_39 rfl rfl ?_
          refine v_icmp_ge 96 dX4_windBest_40 (by decide) (fun b40 => ?_) (fun b40 => ?_)
          · rw [nI_leI (by omega) (by omega)] at b40
            omega
          · rw [nI_leI (by omega) (by omega)] at b40
            refine v_aload_n dX4_windBest_43 rfl rfl ?_
            refine v_getfield fX4_7 dX4_windBest_44 (by assumption) (by rfl) ?_
            refine v_bipush (nI 15) dX4_windBest_47 (by decide) ?_
            refine v_iaload dX4_windBest_49 (by assumption) (vp_in_nI (by omega) (by omega)) ?_
            rw [nI_clamp (n := 15) (by omega)]
            rw [hnx]
            refine v_sipush (nI 200) dX4_windBest_50 (by decide) ?_
            refine v_icmp_ge 96 dX4_windBest_53 (by decide) (fun b53 => ?_) (fun b53 => ?_)
            · rw [nI_leI (by omega) (by omega)] at b53
              have hno := sWB_n2 (N := N) (s := s) (j := j) (S := S) b53
              refine v_iload_n dX4_windBest_96 rfl rfl ?_
              exact v_ireturn dX4_windBest_97 rfl ⟨by rw [hW, hno]; show _ = Sum.inl (some (Value.int (nI (0 + d)))); rw [Nat.zero_add], ⟨σx, mrx, by omega, ⟨wx, hx, tx, kx, lx, Ox⟩, by rw [hW, hno]; exact ⟨hS, ivx⟩, Fx⟩, rfl⟩
            · rw [nI_leI (by omega) (by omega)] at b53
              have hn9 : S.2.1 < 200 := by omega
              refine v_aload_n dX4_windBest_56 rfl rfl ?_
              refine v_iload_n dX4_windBest_57 rfl rfl ?_
              refine v_callV1 kX4_144 gi_X4_hasGain ge_X4_hasGain rfl dX4_windBest_58 (by assumption) (c_hasGain hx (by omega) ivx.1 hnx ivx.2.1 hac hatx hu hnowx hb hcb) rfl rfl (by decide) (Nat.le_of_ble_eq_true rfl) (fun f21 m hc21 => ?_)
              obtain ⟨⟨mr21, hm21, w21, h21, hk21, hf21⟩, rfl⟩ := hc21
              have ho21 := h21.1
              have hs21 := h21.2.1
              have t21 := (hk21 0 (by decide) (by decide)).trans tx
              have k21 := (hk21 1 (by decide) (by decide)).trans kx
              have l21 := (hk21 2 (by decide) (by decide)).trans lx
              have O21 := zNO.fr Ox hf21 (by intro τ h; rcases h with h | h | h | h <;> omega)
              have F21 := zFr.trans Fx (zFr.weaken hf21 zTYZ)
              by_cases hG : sGain (rOf σx) s (σx (9 + 2 * u)) ac b ≤ 0
              · rw [if_pos hG]
                refine v_if_eq 96 dX4_windBest_61 (by decide) (fun _ => ?_) (fun z => absurd rfl z)
                have hno := sWB_n3 (j := j) hS ivx.1 hac hu hatx hnowx hb hcb eb hG
                refine v_iload_n dX4_windBest_96 rfl rfl ?_
                exact v_ireturn dX4_windBest_97 rfl ⟨by rw [hW, hno]; show _ = Sum.inl (some (Value.int (nI (0 + d)))); rw [Nat.zero_add], ⟨σx, mr21, by omega, ⟨w21, h21, t21, k21, l21, O21⟩, by rw [hW, hno]; exact ⟨hS, ivx⟩, F21⟩, rfl⟩
              · rw [if_neg hG]
                refine v_if_eq 96 dX4_windBest_61 (by decide) (fun z => absurd z (by decide)) (fun _ => ?_)
                refine v_aload_n dX4_windBest_64 rfl rfl ?_
                refine v_iload_n dX4_windBest_65 rfl rfl ?_
                refine v_callV0 kX4_137 gi_X4_winds ge_X4_winds rfl dX4_windBest_66 (by assumption) (c_winds h21 (by omega) ivx.1 hnx hn9 hac hatx hb hcb hu hnowx) rfl rfl (by decide) (Nat.le_of_ble_eq_true rfl) (fun f22 m hc22 => ?_)
                obtain ⟨⟨σ22, mr22, hm22, ⟨w22, h22, hk22, hf22⟩, hg22⟩, rfl⟩ := hc22
                have ho22 := h22.1
                have hs22 := h22.2.1
                have t22 := (hk22 0 (by decide) (by decide)).trans t21
                have k22 := (hk22 1 (by decide) (by decide)).trans k21
                have l22 := (hk22 2 (by decide) (by decide)).trans l21
                have O22 := zNO.fr O21 hf22 (by intro τ h; rcases h with h | h | h | h <;> omega)
                have F22 := zFr.trans F21 (zFr.weaken hf22 zTYZ)
                refine v_aload_n dX4_windBest_69 rfl rfl ?_
                refine v_getfield fX4_7 dX4_windBest_70 (by assumption) (by rfl) ?_
                refine v_iconst (nI 3) dX4_windBest_73 (by decide) ?_
                refine v_dup2 dX4_windBest_74 rfl rfl ?_
                refine v_iaload dX4_windBest_75 (by assumption) (vp_in_nI (by omega) (by omega)) ?_
                rw [nI_clamp (n := 3) (by omega)]
                refine v_iconst (1) dX4_windBest_76 (by decide) ?_
                refine v_iadd dX4_windBest_77 ?_
                refine v_iastoreX dX4_windBest_78 (by assumption) (vp_in_nI (by omega) (by omega)) (fun f23 hp23 => ?_)
                rw [nI_clamp (n := 3) (by omega)] at hp23
                obtain ⟨h23, hf23⟩ := MX.st (f0 := f22) h22 hp23 zFr.refl
                clear hp23
                obtain ⟨σ23, e23, hg23⟩ := upd_nm σ22 3 ((σ22 3) + 1)
                rw [← e23] at h23
                clear e23
                have ho23 := h23.1
                have hs23 := h23.2.1
                have hk23 := wK.refl w22
                have t23 := (hk23 0 (by decide) (by decide)).trans t22
                have k23 := (hk23 1 (by decide) (by decide)).trans k22
                have l23 := (hk23 2 (by decide) (by decide)).trans l22
                have O23 := zNO.fr O22 hf23 (by intro τ h; rcases h with h | h | h | h <;> omega)
                have F23 := zFr.trans F22 (zFr.weaken hf23 zTYZ)
                have hny : σ23 15 = nI (S.2.1 + 1) := by rw [hg23, if_neg (by omega)]; exact hg22.1
                have hEy : zEQ (S.2.1 + 1) (sInc (sLay (rOf σx) s S.2.1 ac b u) 3) (rOf σ23) := sInc_ok (Or.inl rfl) (by omega) hg22.2 hg23
                have ivy := IVr_eq hEy (IVr_inc (IVr_lay ivx hn9 hac hb hcb hu hnowx) (by omega))
                have haty : σ23 1 = nI b := (hEy.1 1 (by omega)).symm
                have hnowy : σ23 2 = nI u := (hEy.1 2 (by omega)).symm.trans hnowx
                have hSy := SR_lay hS ivx.1 hac hb hcb hu hny hEy
                have hyes := sWB_y (j := j) hS ivx.1 hac hu hatx hnowx hb hcb eb hn9 hG
                obtain ⟨Sy, eSy⟩ : ∃ z, z = sWBn S.1 s S.2.1 S.2.2.1 S.2.2.2 ac b u := ⟨_, rfl⟩
                have eSn : Sy.2.1 = S.2.1 + 1 := by rw [eSy]; unfold sWBn; rfl
                rw [← eSy] at hSy hyes
                rw [← eSn] at ivy hny
                refine v_iincN dX4_windBest_79 rfl (by decide) ?_
                refine v_aload_n dX4_windBest_82 rfl rfl ?_
                refine v_aload_n dX4_windBest_83 rfl rfl ?_
                refine v_getfield fX4_7 dX4_windBest_84 (by assumption) (by rfl) ?_
                refine v_iconst (nI 2) dX4_windBest_87 (by decide) ?_
                refine v_iaload dX4_windBest_88 (by assumption) (vp_in_nI (by omega) (by omega)) ?_
                rw [nI_clamp (n := 2) (by omega), hnowy]
                refine v_callV1 kX4_141 gi_X4_bestWith ge_X4_bestWith rfl dX4_windBest_89 (by assumption) (c_bestWith h23 (by omega) ivy.1 hny ivy.2.1 hb haty hu) rfl rfl (by decide) (Nat.le_of_ble_eq_true rfl) (fun f24 m hc24 => ?_)
                obtain ⟨⟨mr24, hm24, w24, h24, hk24, hf24⟩, rfl⟩ := hc24
                have ho24 := h24.1
                have hs24 := h24.2.1
                have t24 := (hk24 0 (by decide) (by decide)).trans t23
                have k24 := (hk24 1 (by decide) (by decide)).trans k23
                have l24 := (hk24 2 (by decide) (by decide)).trans l23
                have O24 := zNO.fr O23 hf24 (by intro τ h; rcases h with h | h | h | h <;> omega)
                have F24 := zFr.trans F23 (zFr.weaken hf24 zTYZ)
                refine v_istore_n dX4_windBest_92 rfl (by decide) ?_
                refine v_goto 38 dX4_windBest_93 (by decide) ?_
                exact v_loc (lv' := [(0, .ref o), (1, .int (nI g)), (2, .int (nI (d + 1))), (3, .int (sBest (rOf σ23) N s (sTm (rOf σ23) Sy.2.1) b u))]) ⟨rfl, rfl, rfl, rfl, trivial⟩ (ih (d + 1) (by omega) f24 w24 mr24 σ23 h24 t24 k24 l24 O24 F24 (by omega) Sy b hSy ivy hnowy hb haty (by rw [hW, hyes]; show _ = (_, _ + (d + 1)); congr 1; omega))
    exact v_loc (lv' := [(0, .ref o), (1, .int (nI g)), (2, .int (nI 0)), (3, .int (sBest (rOf σ) N s (sTm (rOf σ) S0.2.1) a u))]) ⟨rfl, rfl, rfl, rfl, trivial⟩ (wb g 0 (by omega) f3 w3 mr3 σ h3 t3 k3 l3 O3 F3 (by omega) S0 a hS0 iv hnow ha hat (by rw [Nat.add_zero]))
  · rw [show (0 : Int32) = nI 0 from rfl] at b12
    rw [nI_eq (by omega) (by omega)] at b12
    omega
set_option maxRecDepth 10000 in
set_option maxHeartbeats 1000000 in
theorem y_windBest_1 {G : zW} {f : zHM} {m : Nat × Nat} {o mr : Nat} {B : Nat → Nat} {w : Nat → Int32} {hh : Int64} {σ : Nat → Int32} (h : MX f o B w hh σ mr) {th : Int32} {k L : Nat} {sv : Nat → Nat → Int32} {hsl : Nat → Int32} {sl : Nat → Nat → Int32} {ch : Nat → Nat} (t : w 0 = th) (k0 : w 1 = nI k) (l0 : w 2 = nI L) (O : zNO f B k sv hsl sl L ch) {v : Int32} (hx : v < 1 ∨ ¬ v ≤ 50) : zM G yX4_windBest cX4_windBest 4 (some .int) 9 [.ref o, .int v] (f, m) (zD (some (.int 0)) (fun f' m' => zNP f o B hh mr 0 (nI 1) k sv hsl sl L ch (fun σ' => σ' = σ) f' ∧ m' = m)) := by
  refine zM.of (by decide) (Nat.le_of_ble_eq_true rfl) ?_
  have ho := h.1
  have hs := h.2.1
  refine v_aload_n dX4_windBest_0 rfl rfl ?_
  refine v_iconst (nI 0) dX4_windBest_1 (by decide) ?_
  refine v_putfieldX fX4_35 dX4_windBest_2 (by assumption) rfl rfl (Nat.le_of_ble_eq_true rfl) (fun f1 hp1 => ?_)
  obtain ⟨h1, hf1⟩ := MX.put (w' := zUp w 0 (nI 0)) (f0 := f) h hp1 rfl zFr.refl
  obtain ⟨w1, ew1⟩ : ∃ w9, w9 = zUp w 0 (nI 0) := ⟨_, rfl⟩
  rw [← ew1] at h1
  clear hp1
  have ho1 := h1.1
  have hs1 := h1.2.1
  have t1 : w1 0 = nI 0 := by rw [ew1]; rfl
  have k1 := (show w1 1 = w 1 from by rw [ew1]; rfl).trans k0
  have l1 := (show w1 2 = w 2 from by rw [ew1]; rfl).trans l0
  have O1 := zNO.fr O hf1 (by intro τ h; rcases h with h | h | h | h <;> omega)
  have F1 := zFr.trans zFr.refl (zFr.weaken hf1 zTYZ)
  refine v_iload_n dX4_windBest_5 rfl rfl ?_
  refine v_iconst (nI 1) dX4_windBest_6 (by decide) ?_
  refine v_bipush (nI 50) dX4_windBest_7 (by decide) ?_
  refine v_callSp kX4_42 gs_X4_in dX4_windBest_9 c_in rfl rfl (by decide) (Nat.le_of_ble_eq_true rfl) ?_
  rw [in_n (a := nI 1) (b := nI 50) hx]
  refine v_if_ne 21 dX4_windBest_12 (by decide) (fun b12 => ?_) (fun b12 => ?_)
  · rw [show (0 : Int32) = nI 0 from rfl] at b12
    rw [nI_eq (by omega) (by omega)] at b12
    omega
  · rw [show (0 : Int32) = nI 0 from rfl] at b12
    rw [nI_eq (by omega) (by omega)] at b12
    refine v_aload_n dX4_windBest_15 rfl rfl ?_
    refine v_iconst (nI 1) dX4_windBest_16 (by decide) ?_
    refine v_callV1 kX4_118 gi_X4_fails ge_X4_fails rfl dX4_windBest_17 (by assumption) (c_fails h1) rfl rfl (by decide) (Nat.le_of_ble_eq_true rfl) (fun f2 m hc2 => ?_)
    obtain ⟨⟨w2, h2, t2, hq2, hf2⟩, rfl⟩ := hc2
    have k2 := (hq2 1 (by decide)).trans k1
    have l2 := (hq2 2 (by decide)).trans l1
    have ho2 := h2.1
    have hs2 := h2.2.1
    have O2 := zNO.fr O1 hf2 (by intro τ h; rcases h with h | h | h | h <;> omega)
    have F2 := zFr.trans F1 (zFr.weaken hf2 zTYZ)
    exact v_ireturn dX4_windBest_20 rfl ⟨rfl, ⟨σ, mr, by omega, ⟨w2, h2, t2, k2, l2, O2⟩, rfl, F2⟩, rfl⟩
