theorem gM31 : Cond.constantLong RX4 239 31 ∈ GT := GT_in (by decide +kernel) (by decide +kernel)
theorem gM33 : Cond.constantLong RX4 249 3301 ∈ GT := GT_in (by decide +kernel) (by decide +kernel)
theorem kJ_122 : zCS RJxe99ae 122 yJxe99ae_isNaN_b9ae7 cJxe99ae_isNaN_b9ae7 2 (some .boolean) 1 := ⟨GT_at 1176 (by decide +kernel) (by decide +kernel), GT_at 76 (by decide +kernel) (by decide +kernel), GT_at 1178 (by decide +kernel) (by decide +kernel), by decide, by decide +kernel, by decide +kernel, by decide +kernel⟩
theorem gJ_isNaN : Cond.static yJxe99ae_isNaN_b9ae7 ∈ GT := GT_at 1177 (by decide +kernel) (by decide +kernel)
theorem sSh_nan : ∀ k, k < 145 → Op.cmpValue (FP.dcmp (sSh k) (sSh k)) .l = 0 := by decide +kernel
set_option maxRecDepth 10000 in
set_option maxHeartbeats 1000000 in
theorem c_isNaN {G : zW} {f : zHM} {m : Nat × Nat} {k : Nat} (hk : k < 145) : zM G yJxe99ae_isNaN_b9ae7 cJxe99ae_isNaN_b9ae7 2 (some .boolean) 1 [.double (sSh k)] (f, m) (zS (.int 0) f m) := by
  refine zM.of (by decide) (Nat.le_of_ble_eq_true rfl) ?_
  refine v_dload_n dJxe99ae_isNaN_b9ae7_0 rfl rfl ?_
  refine v_dload_n dJxe99ae_isNaN_b9ae7_1 rfl rfl ?_
  refine v_dcmp dJxe99ae_isNaN_b9ae7_2 ?_
  rw [sSh_nan k hk]
  refine v_if_eq 10 dJxe99ae_isNaN_b9ae7_3 (by decide) (fun _ => ?_) (fun z => absurd rfl z)
  refine v_iconst 0 dJxe99ae_isNaN_b9ae7_10 (by decide) ?_
  exact v_zreturn dJxe99ae_isNaN_b9ae7_11 rfl (by decide) ⟨rfl, rfl, rfl⟩
set_option maxRecDepth 10000 in
set_option maxHeartbeats 1000000 in
theorem c_longBits {G : zW} {f : zHM} {m : Nat × Nat} {k : Nat} (hk : k < 145) : zM G yJxe99ae_doubleToLongBits_ccdee cJxe99ae_doubleToLongBits_ccdee 2 (some .long) 2 [.double (sSh k)] (f, m) (zS (.long (sSh k).toInt64) f m) := by
  refine zM.of (by decide) (Nat.le_of_ble_eq_true rfl) ?_
  refine v_dload_n dJxe99ae_doubleToLongBits_ccdee_0 rfl rfl ?_
  refine v_callSp kJ_122 gJ_isNaN dJxe99ae_doubleToLongBits_ccdee_1 (c_isNaN hk) rfl rfl (by decide) (Nat.le_of_ble_eq_true rfl) ?_
  refine v_if_ne 12 dJxe99ae_doubleToLongBits_ccdee_4 (by decide) (fun z => absurd rfl z) (fun _ => ?_)
  refine v_dload_n dJxe99ae_doubleToLongBits_ccdee_7 rfl rfl ?_
  refine v_rawBits (GT_at 1179 (by decide +kernel) (by decide +kernel)) (GT_at 1181 (by decide +kernel) (by decide +kernel)) (GT_at 1180 (by decide +kernel) (by decide +kernel)) (GT_at 76 (by decide +kernel) (by decide +kernel)) dJxe99ae_doubleToLongBits_ccdee_8 (by decide) (Nat.le_of_ble_eq_true rfl) ?_
  exact v_lreturn dJxe99ae_doubleToLongBits_ccdee_11 rfl ⟨rfl, rfl, rfl⟩
set_option maxRecDepth 10000 in
set_option maxHeartbeats 1000000 in
theorem c_hashes {G : zW} {f : zHM} {m : Nat × Nat} {o mr : Nat} {B : Nat → Nat} {w : Nat → Int32} {hh : Int64} {σ : Nat → Int32} (h : MX f o B w hh σ mr) {v : Int64} : zM G yX4_hashes cX4_hashes 3 none 1 [.ref o, .long v] (f, m) (zD none (fun f' m' => (MX f' o B w (31 * hh + v) σ mr ∧ zFr (fun τ => τ = 700) f f') ∧ m' = m)) := by
  refine zM.of (by decide) (Nat.le_of_ble_eq_true rfl) ?_
  have ho := h.1
  have hs := h.2.1
  refine v_aload_n dX4_hashes_0 rfl rfl ?_
  refine v_ldc2 (31) dX4_hashes_1 gM31 ?_
  refine v_aload_n dX4_hashes_4 rfl rfl ?_
  refine v_getfield fX4_241 dX4_hashes_5 (by assumption) (by rfl) ?_
  refine v_lmul dX4_hashes_8 ?_
  refine v_lload_n dX4_hashes_9 rfl rfl ?_
  refine v_ladd dX4_hashes_10 ?_
  refine v_putfieldX fX4_241 dX4_hashes_11 ho rfl rfl (Nat.le_of_ble_eq_true rfl) (fun f1 hp => ?_)
  obtain ⟨h1, -⟩ := MX.put (w' := w) (f0 := f) h hp rfl zFr.refl
  exact v_return dX4_hashes_14 rfl ⟨rfl, ⟨h1, zFr.put (T := fun τ => τ = 700) zFr.refl hp rfl⟩, rfl⟩
set_option maxRecDepth 10000 in
set_option maxHeartbeats 1000000 in
theorem c_hashesNail {G : zW} {f : zHM} {m : Nat × Nat} {o mr : Nat} {B : Nat → Nat} {w : Nat → Int32} {hh : Int64} {σ : Nat → Int32} (h : MX f o B w hh σ mr) (hmr9 : mr + 200000 < 2 ^ 30) {N s n : Nat} (hw : RW (rOf σ) N s n) (hn : σ 15 = nI n) (hn2 : n ≤ 200) {a : Nat} (ha : a < N) (hat : σ 1 = nI a) {u : Nat} (hu : u < 3) (hnow : σ 2 = nI u) {b : Nat} (hb : b < N) : zM G yX4_hashesNail cX4_hashesNail 3 none 7 [.ref o, .int (nI b)] (f, m) (zD none (fun f' m' => zNQ f w o B (sHn (rOf σ) N s n (sTm (rOf σ) n) a u b hh) σ mr 2 f' ∧ m' = m)) := by
  refine zM.of (by decide) (Nat.le_of_ble_eq_true rfl) ?_
  have ho := h.1
  have hs := h.2.1
  have hv := hw.1
  have hp := hv.pos
  have loop : ∀ (k i : Nat), i + k = 4 → ∀ (fx : zHM), MX fx o B w (sHf (sNailOf (rOf σ) s n b) i hh) σ mr → zFr zTY f fx → zV G yX4_hashesNail cX4_hashesNail 3 none 7 2 [(0, .ref o), (1, .int (nI b)), (2, .int (nI i))] [] (fx, m) (zD none (fun f' m' => zNQ f w o B (sHn (rOf σ) N s n (sTm (rOf σ) n) a u b hh) σ mr 2 f' ∧ m' = m)) := by
    intro k
    induction k with
    | zero =>
      intro i hi fx hx hfx
      have hox := hx.1
      have hsx := hx.2.1
      refine v_iload_n dX4_hashesNail_2 rfl rfl ?_
      refine v_iconst (nI 4) dX4_hashesNail_3 (by decide) ?_
      refine v_icmp_ge 24 dX4_hashesNail_4 (by decide) (fun b4 => ?_) (fun b4 => ?_)
      · rw [nI_leI (by omega) (by omega)] at b4
        refine v_aload_n dX4_hashesNail_24 rfl rfl ?_
        refine v_aload_n dX4_hashesNail_25 rfl rfl ?_
        refine v_aload_n dX4_hashesNail_26 rfl rfl ?_
        refine v_getfield fX4_7 dX4_hashesNail_27 (by assumption) (by rfl) ?_
        refine v_iconst (nI 1) dX4_hashesNail_30 (by decide) ?_
        refine v_iaload dX4_hashesNail_31 (by assumption) (vp_in_nI (by omega) (by omega)) ?_
        rw [nI_clamp (n := 1) (by omega)]
        rw [hat]
        refine v_iload_n dX4_hashesNail_32 rfl rfl ?_
        refine v_aload_n dX4_hashesNail_33 rfl rfl ?_
        refine v_getfield fX4_7 dX4_hashesNail_34 (by assumption) (by rfl) ?_
        refine v_iconst (nI 2) dX4_hashesNail_37 (by decide) ?_
        refine v_iaload dX4_hashesNail_38 (by assumption) (vp_in_nI (by omega) (by omega)) ?_
        rw [nI_clamp (n := 2) (by omega)]
        rw [hnow]
        refine v_callVp kX4_107 gi_X4_refused ge_X4_refused rfl dX4_hashesNail_39 (by assumption) (c_mrefused hx hw hn hn2 ha hb hu) rfl rfl (by decide) (Nat.le_of_ble_eq_true rfl) ?_
        refine v_i2l dX4_hashesNail_42 ?_
        refine v_callV0 kX4_245 gi_X4_hashes ge_X4_hashes rfl dX4_hashesNail_43 (by assumption) (c_hashes hx) rfl rfl (by decide) (Nat.le_of_ble_eq_true rfl) (fun f21 m hc21 => ?_)
        obtain ⟨⟨h21, hf21⟩, rfl⟩ := hc21
        replace hf21 := zFr.trans hfx (hf21.weaken (fun τ z => (Or.inl z : zTY τ)))
        obtain ⟨H21, eH21⟩ : ∃ z : Int64, z = 31 * (sHf (sNailOf (rOf σ) s n b) i hh) + (sRef N s (rOf σ 3 0) (rOf σ 3 1) (rOf σ 2 u) (sTm (rOf σ) n) a b).toInt64 := ⟨_, rfl⟩
        rw [← eH21] at h21
        have ho21 := h21.1
        have hs21 := h21.2.1
        refine v_aload_n dX4_hashesNail_46 rfl rfl ?_
        refine v_aload_n dX4_hashesNail_47 rfl rfl ?_
        refine v_iload_n dX4_hashesNail_48 rfl rfl ?_
        refine v_callV1 kX4_217 gi_X4_tellsGain ge_X4_tellsGain rfl dX4_hashesNail_49 (by assumption) (c_tellsGain h21 (by omega) hw hn hn2 ha hat hu hnow hb) rfl rfl (by decide) (Nat.le_of_ble_eq_true rfl) (fun f22 m hc22 => ?_)
        obtain ⟨⟨mr22, hm22, w22, h22, hk22, hf22⟩, rfl⟩ := hc22
        replace hk22 := (wK.refl w).trans hk22
        replace hf22 := zFr.trans hf21 hf22
        have ho22 := h22.1
        have hs22 := h22.2.1
        refine v_i2l dX4_hashesNail_52 ?_
        refine v_callV0 kX4_245 gi_X4_hashes ge_X4_hashes rfl dX4_hashesNail_53 (by assumption) (c_hashes h22) rfl rfl (by decide) (Nat.le_of_ble_eq_true rfl) (fun f23 m hc23 => ?_)
        obtain ⟨⟨h23, hf23⟩, rfl⟩ := hc23
        replace hf23 := zFr.trans hf22 (hf23.weaken (fun τ z => (Or.inl z : zTY τ)))
        obtain ⟨H23, eH23⟩ : ∃ z : Int64, z = 31 * H21 + (sGain9 (rOf σ) s u a b).toInt64 := ⟨_, rfl⟩
        rw [← eH23] at h23
        have ho23 := h23.1
        have hs23 := h23.2.1
        have e9 : H23 = sHn (rOf σ) N s n (sTm (rOf σ) n) a u b hh := by
          rw [eH23, eH21, show i = 4 from by omega]
          rfl
        rw [e9] at h23
        exact v_return dX4_hashesNail_56 rfl ⟨rfl, ⟨mr22, by omega, w22, h23, hk22, hf23⟩, rfl⟩
      · rw [nI_leI (by omega) (by omega)] at b4
        omega
    | succ k ih =>
      intro i hi fx hx hfx
      have hox := hx.1
      have hsx := hx.2.1
      have hi4 : i < 4 := by omega
      refine v_iload_n dX4_hashesNail_2 rfl rfl ?_
      refine v_iconst (nI 4) dX4_hashesNail_3 (by decide) ?_
      refine v_icmp_ge 24 dX4_hashesNail_4 (by decide) (fun b4 => ?_) (fun b4 => ?_)
      · rw [nI_leI (by omega) (by omega)] at b4
        omega
      · rw [nI_leI (by omega) (by omega)] at b4
        refine v_aload_n dX4_hashesNail_7 rfl rfl ?_
        refine v_aload_n dX4_hashesNail_8 rfl rfl ?_
        refine v_iload_n dX4_hashesNail_9 rfl rfl ?_
        refine v_iload_n dX4_hashesNail_10 rfl rfl ?_
        refine v_callVp kX4_190 gi_X4_tellsNail ge_X4_tellsNail rfl dX4_hashesNail_11 (by assumption) (c_tellsNail hx hw hn hn2 hb hi4) rfl rfl (by decide) (Nat.le_of_ble_eq_true rfl) ?_
        refine v_i2l dX4_hashesNail_14 ?_
        refine v_callV0 kX4_245 gi_X4_hashes ge_X4_hashes rfl dX4_hashesNail_15 (by assumption) (c_hashes hx) rfl rfl (by decide) (Nat.le_of_ble_eq_true rfl) (fun f21 m hc21 => ?_)
        obtain ⟨⟨h21, hf21⟩, rfl⟩ := hc21
        replace hf21 := zFr.trans hfx (hf21.weaken (fun τ z => (Or.inl z : zTY τ)))
        obtain ⟨H21, eH21⟩ : ∃ z : Int64, z = 31 * (sHf (sNailOf (rOf σ) s n b) i hh) + ((sNailOf (rOf σ) s n b) i).toInt64 := ⟨_, rfl⟩
        rw [← eH21] at h21
        have ho21 := h21.1
        have hs21 := h21.2.1
        refine v_iincN dX4_hashesNail_18 rfl (by decide) ?_
        refine v_goto 2 dX4_hashesNail_21 (by decide) ?_
        exact v_loc (lv' := [(0, .ref o), (1, .int (nI b)), (2, .int (nI (i + 1)))]) ⟨rfl, rfl, rfl, trivial⟩ (ih (i + 1) (by omega) f21 (by have e : H21 = sHf (sNailOf (rOf σ) s n b) (i + 1) hh := eH21; rw [← e]; exact h21) hf21)
  refine v_iconst (nI 0) dX4_hashesNail_0 (by decide) ?_
  refine v_istore_n dX4_hashesNail_1 rfl (by decide) ?_
  exact v_loc (lv' := [(0, .ref o), (1, .int (nI b)), (2, .int (nI 0))]) ⟨rfl, rfl, rfl, trivial⟩ (loop 4 0 (by omega) f h zFr.refl)
set_option maxRecDepth 10000 in
set_option maxHeartbeats 1000000 in
theorem c_hashesLooks {G : zW} {f : zHM} {m : Nat × Nat} {o mr : Nat} {B : Nat → Nat} {w : Nat → Int32} {hh : Int64} {σ : Nat → Int32} (h : MX f o B w hh σ mr) (hmr9 : mr + 200000 < 2 ^ 30) {N s n : Nat} (hw : RW (rOf σ) N s n) (hn : σ 15 = nI n) (hn2 : n ≤ 200) : zM G yX4_hashesLooks cX4_hashesLooks 2 none 7 [.ref o] (f, m) (zD none (fun f' m' => zNQ f w o B (sHf (fun k => sChord s (sTm (rOf σ) n) 0 (1 + k / 3) (k % 3)) 6 (sHf (fun k => sSquare (rOf σ) (sXs (rOf σ) s n) (k / 4) (k % 4)) 576 (sHf (fun k => sWound (rOf σ) n (k / 3) (k % 3)) 30 (sHf (fun k => sSpoolOf (rOf σ) s n (k / 5) (k % 5)) 15 hh)))) σ mr 116000 f' ∧ m' = m)) := by
  refine zM.of (by decide) (Nat.le_of_ble_eq_true rfl) ?_
  have ho := h.1
  have hs := h.2.1
  have hN4 := hw.1.2.2.2
  have loop3 : ∀ (k i : Nat), i + k = 6 → ∀ (fx : zHM) (wx : Nat → Int32) (mrx : Nat), MX fx o B wx (sHf (fun k => sChord s (sTm (rOf σ) n) 0 (1 + k / 3) (k % 3)) i (sHf (fun k => sSquare (rOf σ) (sXs (rOf σ) s n) (k / 4) (k % 4)) 576 (sHf (fun k => sWound (rOf σ) n (k / 3) (k % 3)) 30 (sHf (fun k => sSpoolOf (rOf σ) s n (k / 5) (k % 5)) 15 hh)))) σ mrx → mrx ≤ mr + 115200 + i → wK w wx → zFr zTY f fx → zV G yX4_hashesLooks cX4_hashesLooks 2 none 7 90 [(0, .ref o), (1, .int (nI i))] [] (fx, m) (zD none (fun f' m' => zNQ f w o B (sHf (fun k => sChord s (sTm (rOf σ) n) 0 (1 + k / 3) (k % 3)) 6 (sHf (fun k => sSquare (rOf σ) (sXs (rOf σ) s n) (k / 4) (k % 4)) 576 (sHf (fun k => sWound (rOf σ) n (k / 3) (k % 3)) 30 (sHf (fun k => sSpoolOf (rOf σ) s n (k / 5) (k % 5)) 15 hh)))) σ mr 116000 f' ∧ m' = m)) := by
    intro k
    induction k with
    | zero =>
      intro i hi fx wx mrx hx hmx hkx hfx
      have hox := hx.1
      have hsx := hx.2.1
      refine v_iload_n dX4_hashesLooks_90 rfl rfl ?_
      refine v_bipush (nI 6) dX4_hashesLooks_91 (by decide) ?_
      refine v_icmp_ge 120 dX4_hashesLooks_93 (by decide) (fun b93 => ?_) (fun b93 => ?_)
      · rw [nI_leI (by omega) (by omega)] at b93
        exact v_return dX4_hashesLooks_120 rfl ⟨rfl, ⟨mrx, by omega, wx, (by rw [show i = 6 from by omega] at hx; exact hx), hkx, hfx⟩, rfl⟩
      · rw [nI_leI (by omega) (by omega)] at b93
        omega
    | succ k ih =>
      intro i hi fx wx mrx hx hmx hkx hfx
      have hox := hx.1
      have hsx := hx.2.1
      have hiq : i < 6 := by omega
      refine v_iload_n dX4_hashesLooks_90 rfl rfl ?_
      refine v_bipush (nI 6) dX4_hashesLooks_91 (by decide) ?_
      refine v_icmp_ge 120 dX4_hashesLooks_93 (by decide) (fun b93 => ?_) (fun b93 => ?_)
      · rw [nI_leI (by omega) (by omega)] at b93
        omega
      · rw [nI_leI (by omega) (by omega)] at b93
        refine v_aload_n dX4_hashesLooks_96 rfl rfl ?_
        refine v_aload_n dX4_hashesLooks_97 rfl rfl ?_
        refine v_iconst (nI 0) dX4_hashesLooks_98 (by decide) ?_
        refine v_iconst (nI 1) dX4_hashesLooks_99 (by decide) ?_
        refine v_iload_n dX4_hashesLooks_100 rfl rfl ?_
        refine v_iconst (nI 3) dX4_hashesLooks_101 (by decide) ?_
        refine v_idiv dX4_hashesLooks_102 (by decide) ?_
        rw [pk_div (a := i) (d := 3) (by omega) (by omega) (by omega)]
        refine v_iadd dX4_hashesLooks_103 ?_
        rw [nI_add 1 (i / 3)]
        refine v_iload_n dX4_hashesLooks_104 rfl rfl ?_
        refine v_iconst (nI 3) dX4_hashesLooks_105 (by decide) ?_
        refine v_irem dX4_hashesLooks_106 (by decide) ?_
        rw [pk_rem (a := i) (d := 3) (by omega) (by omega) (by omega)]
        refine v_callV1 kX4_199 gi_X4_tellsChord ge_X4_tellsChord rfl dX4_hashesLooks_107 (by assumption) (c_tellsChord hx (by omega) hw hn hn2 (a := 0) (b := 1 + i / 3) (e := i % 3) (by omega) (by omega) (by omega)) rfl rfl (by decide) (Nat.le_of_ble_eq_true rfl) (fun f21 m hc21 => ?_)
        obtain ⟨⟨mr21, hm21, w21, h21, hk21, hf21⟩, rfl⟩ := hc21
        replace hk21 := hkx.trans hk21
        replace hf21 := zFr.trans hfx hf21
        have ho21 := h21.1
        have hs21 := h21.2.1
        refine v_i2l dX4_hashesLooks_110 ?_
        refine v_callV0 kX4_245 gi_X4_hashes ge_X4_hashes rfl dX4_hashesLooks_111 (by assumption) (c_hashes h21) rfl rfl (by decide) (Nat.le_of_ble_eq_true rfl) (fun f22 m hc22 => ?_)
        obtain ⟨⟨h22, hf22⟩, rfl⟩ := hc22
        replace hf22 := zFr.trans hf21 (hf22.weaken (fun τ z => (Or.inl z : zTY τ)))
        obtain ⟨H22, eH22⟩ : ∃ z : Int64, z = 31 * (sHf (fun k => sChord s (sTm (rOf σ) n) 0 (1 + k / 3) (k % 3)) i (sHf (fun k => sSquare (rOf σ) (sXs (rOf σ) s n) (k / 4) (k % 4)) 576 (sHf (fun k => sWound (rOf σ) n (k / 3) (k % 3)) 30 (sHf (fun k => sSpoolOf (rOf σ) s n (k / 5) (k % 5)) 15 hh)))) + ((fun k => sChord s (sTm (rOf σ) n) 0 (1 + k / 3) (k % 3)) i).toInt64 := ⟨_, rfl⟩
        rw [← eH22] at h22
        have ho22 := h22.1
        have hs22 := h22.2.1
        refine v_iincN dX4_hashesLooks_114 rfl (by decide) ?_
        refine v_goto 90 dX4_hashesLooks_117 (by decide) ?_
        exact v_loc (lv' := [(0, .ref o), (1, .int (nI (i + 1)))]) ⟨rfl, rfl, trivial⟩ (ih (i + 1) (by omega) f22 w21 mr21 (by have e : H22 = sHf (fun k => sChord s (sTm (rOf σ) n) 0 (1 + k / 3) (k % 3)) (i + 1) (sHf (fun k => sSquare (rOf σ) (sXs (rOf σ) s n) (k / 4) (k % 4)) 576 (sHf (fun k => sWound (rOf σ) n (k / 3) (k % 3)) 30 (sHf (fun k => sSpoolOf (rOf σ) s n (k / 5) (k % 5)) 15 hh))) := eH22; rw [← e]; exact h22) (by omega) hk21 hf22)
  have loop2 : ∀ (k i : Nat), i + k = 576 → ∀ (fx : zHM) (wx : Nat → Int32) (mrx : Nat), MX fx o B wx (sHf (fun k => sSquare (rOf σ) (sXs (rOf σ) s n) (k / 4) (k % 4)) i (sHf (fun k => sWound (rOf σ) n (k / 3) (k % 3)) 30 (sHf (fun k => sSpoolOf (rOf σ) s n (k / 5) (k % 5)) 15 hh))) σ mrx → mrx ≤ mr + 200 * i → wK w wx → zFr zTY f fx → zV G yX4_hashesLooks cX4_hashesLooks 2 none 7 60 [(0, .ref o), (1, .int (nI i))] [] (fx, m) (zD none (fun f' m' => zNQ f w o B (sHf (fun k => sChord s (sTm (rOf σ) n) 0 (1 + k / 3) (k % 3)) 6 (sHf (fun k => sSquare (rOf σ) (sXs (rOf σ) s n) (k / 4) (k % 4)) 576 (sHf (fun k => sWound (rOf σ) n (k / 3) (k % 3)) 30 (sHf (fun k => sSpoolOf (rOf σ) s n (k / 5) (k % 5)) 15 hh)))) σ mr 116000 f' ∧ m' = m)) := by
    intro k
    induction k with
    | zero =>
      intro i hi fx wx mrx hx hmx hkx hfx
      have hox := hx.1
      have hsx := hx.2.1
      refine v_iload_n dX4_hashesLooks_60 rfl rfl ?_
      refine v_sipush (nI 576) dX4_hashesLooks_61 (by decide) ?_
      refine v_icmp_ge 88 dX4_hashesLooks_64 (by decide) (fun b64 => ?_) (fun b64 => ?_)
      · rw [nI_leI (by omega) (by omega)] at b64
        refine v_iconst (nI 0) dX4_hashesLooks_88 (by decide) ?_
        refine v_istore_n dX4_hashesLooks_89 rfl (by decide) ?_
        rw [show i = 576 from by omega] at hx
        obtain ⟨X, eX⟩ : ∃ z : Int64, z = (sHf (fun k => sSquare (rOf σ) (sXs (rOf σ) s n) (k / 4) (k % 4)) 576 (sHf (fun k => sWound (rOf σ) n (k / 3) (k % 3)) 30 (sHf (fun k => sSpoolOf (rOf σ) s n (k / 5) (k % 5)) 15 hh))) := ⟨_, rfl⟩
        rw [← eX] at hx
        have hx2 : MX fx o B wx (sHf (fun k => sChord s (sTm (rOf σ) n) 0 (1 + k / 3) (k % 3)) 0 X) σ mrx := hx
        rw [eX] at hx2
        exact v_loc (lv' := [(0, .ref o), (1, .int (nI 0))]) ⟨rfl, rfl, trivial⟩ (loop3 6 0 (by omega) fx wx mrx hx2 (by omega) hkx hfx)
      · rw [nI_leI (by omega) (by omega)] at b64
        omega
    | succ k ih =>
      intro i hi fx wx mrx hx hmx hkx hfx
      have hox := hx.1
      have hsx := hx.2.1
      have hiq : i < 576 := by omega
      refine v_iload_n dX4_hashesLooks_60 rfl rfl ?_
      refine v_sipush (nI 576) dX4_hashesLooks_61 (by decide) ?_
      refine v_icmp_ge 88 dX4_hashesLooks_64 (by decide) (fun b64 => ?_) (fun b64 => ?_)
      · rw [nI_leI (by omega) (by omega)] at b64
        omega
      · rw [nI_leI (by omega) (by omega)] at b64
        refine v_aload_n dX4_hashesLooks_67 rfl rfl ?_
        refine v_aload_n dX4_hashesLooks_68 rfl rfl ?_
        refine v_iload_n dX4_hashesLooks_69 rfl rfl ?_
        refine v_iconst (nI 4) dX4_hashesLooks_70 (by decide) ?_
        refine v_idiv dX4_hashesLooks_71 (by decide) ?_
        rw [pk_div (a := i) (d := 4) (by omega) (by omega) (by omega)]
        refine v_iload_n dX4_hashesLooks_72 rfl rfl ?_
        refine v_iconst (nI 4) dX4_hashesLooks_73 (by decide) ?_
        refine v_irem dX4_hashesLooks_74 (by decide) ?_
        rw [pk_rem (a := i) (d := 4) (by omega) (by omega) (by omega)]
        refine v_callV1 kX4_208 gi_X4_tellsSquare ge_X4_tellsSquare rfl dX4_hashesLooks_75 (by assumption) (c_tellsSquare hx (by omega) hw hn hn2 (q := i / 4) (e := i % 4) (by omega) (by omega)) rfl rfl (by decide) (Nat.le_of_ble_eq_true rfl) (fun f21 m hc21 => ?_)
        obtain ⟨⟨mr21, hm21, w21, h21, hk21, hf21⟩, rfl⟩ := hc21
        replace hk21 := hkx.trans hk21
        replace hf21 := zFr.trans hfx hf21
        have ho21 := h21.1
        have hs21 := h21.2.1
        refine v_i2l dX4_hashesLooks_78 ?_
        refine v_callV0 kX4_245 gi_X4_hashes ge_X4_hashes rfl dX4_hashesLooks_79 (by assumption) (c_hashes h21) rfl rfl (by decide) (Nat.le_of_ble_eq_true rfl) (fun f22 m hc22 => ?_)
        obtain ⟨⟨h22, hf22⟩, rfl⟩ := hc22
        replace hf22 := zFr.trans hf21 (hf22.weaken (fun τ z => (Or.inl z : zTY τ)))
        obtain ⟨H22, eH22⟩ : ∃ z : Int64, z = 31 * (sHf (fun k => sSquare (rOf σ) (sXs (rOf σ) s n) (k / 4) (k % 4)) i (sHf (fun k => sWound (rOf σ) n (k / 3) (k % 3)) 30 (sHf (fun k => sSpoolOf (rOf σ) s n (k / 5) (k % 5)) 15 hh))) + ((fun k => sSquare (rOf σ) (sXs (rOf σ) s n) (k / 4) (k % 4)) i).toInt64 := ⟨_, rfl⟩
        rw [← eH22] at h22
        have ho22 := h22.1
        have hs22 := h22.2.1
        refine v_iincN dX4_hashesLooks_82 rfl (by decide) ?_
        refine v_goto 60 dX4_hashesLooks_85 (by decide) ?_
        exact v_loc (lv' := [(0, .ref o), (1, .int (nI (i + 1)))]) ⟨rfl, rfl, trivial⟩ (ih (i + 1) (by omega) f22 w21 mr21 (by have e : H22 = sHf (fun k => sSquare (rOf σ) (sXs (rOf σ) s n) (k / 4) (k % 4)) (i + 1) (sHf (fun k => sWound (rOf σ) n (k / 3) (k % 3)) 30 (sHf (fun k => sSpoolOf (rOf σ) s n (k / 5) (k % 5)) 15 hh)) := eH22; rw [← e]; exact h22) (by omega) hk21 hf22)
  have loop1 : ∀ (k i : Nat), i + k = 30 → ∀ (fx : zHM) (wx : Nat → Int32) (mrx : Nat), MX fx o B wx (sHf (fun k => sWound (rOf σ) n (k / 3) (k % 3)) i (sHf (fun k => sSpoolOf (rOf σ) s n (k / 5) (k % 5)) 15 hh)) σ mrx → mrx ≤ mr → wK w wx → zFr zTY f fx → zV G yX4_hashesLooks cX4_hashesLooks 2 none 7 31 [(0, .ref o), (1, .int (nI i))] [] (fx, m) (zD none (fun f' m' => zNQ f w o B (sHf (fun k => sChord s (sTm (rOf σ) n) 0 (1 + k / 3) (k % 3)) 6 (sHf (fun k => sSquare (rOf σ) (sXs (rOf σ) s n) (k / 4) (k % 4)) 576 (sHf (fun k => sWound (rOf σ) n (k / 3) (k % 3)) 30 (sHf (fun k => sSpoolOf (rOf σ) s n (k / 5) (k % 5)) 15 hh)))) σ mr 116000 f' ∧ m' = m)) := by
    intro k
    induction k with
    | zero =>
      intro i hi fx wx mrx hx hmx hkx hfx
      have hox := hx.1
      have hsx := hx.2.1
      refine v_iload_n dX4_hashesLooks_31 rfl rfl ?_
      refine v_bipush (nI 30) dX4_hashesLooks_32 (by decide) ?_
      refine v_icmp_ge 58 dX4_hashesLooks_34 (by decide) (fun b34 => ?_) (fun b34 => ?_)
      · rw [nI_leI (by omega) (by omega)] at b34
        refine v_iconst (nI 0) dX4_hashesLooks_58 (by decide) ?_
        refine v_istore_n dX4_hashesLooks_59 rfl (by decide) ?_
        rw [show i = 30 from by omega] at hx
        obtain ⟨X, eX⟩ : ∃ z : Int64, z = (sHf (fun k => sWound (rOf σ) n (k / 3) (k % 3)) 30 (sHf (fun k => sSpoolOf (rOf σ) s n (k / 5) (k % 5)) 15 hh)) := ⟨_, rfl⟩
        rw [← eX] at hx
        have hx2 : MX fx o B wx (sHf (fun k => sSquare (rOf σ) (sXs (rOf σ) s n) (k / 4) (k % 4)) 0 X) σ mrx := hx
        rw [eX] at hx2
        exact v_loc (lv' := [(0, .ref o), (1, .int (nI 0))]) ⟨rfl, rfl, trivial⟩ (loop2 576 0 (by omega) fx wx mrx hx2 (by omega) hkx hfx)
      · rw [nI_leI (by omega) (by omega)] at b34
        omega
    | succ k ih =>
      intro i hi fx wx mrx hx hmx hkx hfx
      have hox := hx.1
      have hsx := hx.2.1
      have hiq : i < 30 := by omega
      refine v_iload_n dX4_hashesLooks_31 rfl rfl ?_
      refine v_bipush (nI 30) dX4_hashesLooks_32 (by decide) ?_
      refine v_icmp_ge 58 dX4_hashesLooks_34 (by decide) (fun b34 => ?_) (fun b34 => ?_)
      · rw [nI_leI (by omega) (by omega)] at b34
        omega
      · rw [nI_leI (by omega) (by omega)] at b34
        refine v_aload_n dX4_hashesLooks_37 rfl rfl ?_
        refine v_aload_n dX4_hashesLooks_38 rfl rfl ?_
        refine v_iload_n dX4_hashesLooks_39 rfl rfl ?_
        refine v_iconst (nI 3) dX4_hashesLooks_40 (by decide) ?_
        refine v_idiv dX4_hashesLooks_41 (by decide) ?_
        rw [pk_div (a := i) (d := 3) (by omega) (by omega) (by omega)]
        refine v_iload_n dX4_hashesLooks_42 rfl rfl ?_
        refine v_iconst (nI 3) dX4_hashesLooks_43 (by decide) ?_
        refine v_irem dX4_hashesLooks_44 (by decide) ?_
        rw [pk_rem (a := i) (d := 3) (by omega) (by omega) (by omega)]
        refine v_callVp kX4_202 gi_X4_tellsWound ge_X4_tellsWound rfl dX4_hashesLooks_45 (by assumption) (c_tellsWound hx hn hn2 (g := i / 3) (e := i % 3) (by omega) (by omega)) rfl rfl (by decide) (Nat.le_of_ble_eq_true rfl) ?_
        refine v_i2l dX4_hashesLooks_48 ?_
        refine v_callV0 kX4_245 gi_X4_hashes ge_X4_hashes rfl dX4_hashesLooks_49 (by assumption) (c_hashes hx) rfl rfl (by decide) (Nat.le_of_ble_eq_true rfl) (fun f21 m hc21 => ?_)
        obtain ⟨⟨h21, hf21⟩, rfl⟩ := hc21
        replace hf21 := zFr.trans hfx (hf21.weaken (fun τ z => (Or.inl z : zTY τ)))
        obtain ⟨H21, eH21⟩ : ∃ z : Int64, z = 31 * (sHf (fun k => sWound (rOf σ) n (k / 3) (k % 3)) i (sHf (fun k => sSpoolOf (rOf σ) s n (k / 5) (k % 5)) 15 hh)) + ((fun k => sWound (rOf σ) n (k / 3) (k % 3)) i).toInt64 := ⟨_, rfl⟩
        rw [← eH21] at h21
        have ho21 := h21.1
        have hs21 := h21.2.1
        refine v_iincN dX4_hashesLooks_52 rfl (by decide) ?_
        refine v_goto 31 dX4_hashesLooks_55 (by decide) ?_
        exact v_loc (lv' := [(0, .ref o), (1, .int (nI (i + 1)))]) ⟨rfl, rfl, trivial⟩ (ih (i + 1) (by omega) f21 wx mrx (by have e : H21 = sHf (fun k => sWound (rOf σ) n (k / 3) (k % 3)) (i + 1) (sHf (fun k => sSpoolOf (rOf σ) s n (k / 5) (k % 5)) 15 hh) := eH21; rw [← e]; exact h21) (by omega) hkx hf21)
  have loop0 : ∀ (k i : Nat), i + k = 15 → ∀ (fx : zHM) (wx : Nat → Int32) (mrx : Nat), MX fx o B wx (sHf (fun k => sSpoolOf (rOf σ) s n (k / 5) (k % 5)) i hh) σ mrx → mrx ≤ mr → wK w wx → zFr zTY f fx → zV G yX4_hashesLooks cX4_hashesLooks 2 none 7 2 [(0, .ref o), (1, .int (nI i))] [] (fx, m) (zD none (fun f' m' => zNQ f w o B (sHf (fun k => sChord s (sTm (rOf σ) n) 0 (1 + k / 3) (k % 3)) 6 (sHf (fun k => sSquare (rOf σ) (sXs (rOf σ) s n) (k / 4) (k % 4)) 576 (sHf (fun k => sWound (rOf σ) n (k / 3) (k % 3)) 30 (sHf (fun k => sSpoolOf (rOf σ) s n (k / 5) (k % 5)) 15 hh)))) σ mr 116000 f' ∧ m' = m)) := by
    intro k
    induction k with
    | zero =>
      intro i hi fx wx mrx hx hmx hkx hfx
      have hox := hx.1
      have hsx := hx.2.1
      refine v_iload_n dX4_hashesLooks_2 rfl rfl ?_
      refine v_bipush (nI 15) dX4_hashesLooks_3 (by decide) ?_
      refine v_icmp_ge 29 dX4_hashesLooks_5 (by decide) (fun b5 => ?_) (fun b5 => ?_)
      · rw [nI_leI (by omega) (by omega)] at b5
        refine v_iconst (nI 0) dX4_hashesLooks_29 (by decide) ?_
        refine v_istore_n dX4_hashesLooks_30 rfl (by decide) ?_
        rw [show i = 15 from by omega] at hx
        obtain ⟨X, eX⟩ : ∃ z : Int64, z = (sHf (fun k => sSpoolOf (rOf σ) s n (k / 5) (k % 5)) 15 hh) := ⟨_, rfl⟩
        rw [← eX] at hx
        have hx2 : MX fx o B wx (sHf (fun k => sWound (rOf σ) n (k / 3) (k % 3)) 0 X) σ mrx := hx
        rw [eX] at hx2
        exact v_loc (lv' := [(0, .ref o), (1, .int (nI 0))]) ⟨rfl, rfl, trivial⟩ (loop1 30 0 (by omega) fx wx mrx hx2 (by omega) hkx hfx)
      · rw [nI_leI (by omega) (by omega)] at b5
        omega
    | succ k ih =>
      intro i hi fx wx mrx hx hmx hkx hfx
      have hox := hx.1
      have hsx := hx.2.1
      have hiq : i < 15 := by omega
      refine v_iload_n dX4_hashesLooks_2 rfl rfl ?_
      refine v_bipush (nI 15) dX4_hashesLooks_3 (by decide) ?_
      refine v_icmp_ge 29 dX4_hashesLooks_5 (by decide) (fun b5 => ?_) (fun b5 => ?_)
      · rw [nI_leI (by omega) (by omega)] at b5
        omega
      · rw [nI_leI (by omega) (by omega)] at b5
        refine v_aload_n dX4_hashesLooks_8 rfl rfl ?_
        refine v_aload_n dX4_hashesLooks_9 rfl rfl ?_
        refine v_iload_n dX4_hashesLooks_10 rfl rfl ?_
        refine v_iconst (nI 5) dX4_hashesLooks_11 (by decide) ?_
        refine v_idiv dX4_hashesLooks_12 (by decide) ?_
        rw [pk_div (a := i) (d := 5) (by omega) (by omega) (by omega)]
        refine v_iload_n dX4_hashesLooks_13 rfl rfl ?_
        refine v_iconst (nI 5) dX4_hashesLooks_14 (by decide) ?_
        refine v_irem dX4_hashesLooks_15 (by decide) ?_
        rw [pk_rem (a := i) (d := 5) (by omega) (by omega) (by omega)]
        refine v_callVp kX4_196 gi_X4_tellsSpool ge_X4_tellsSpool rfl dX4_hashesLooks_16 (by assumption) (c_tellsSpool hx hw hn hn2 (u := i / 5) (e := i % 5) (by omega) (by omega)) rfl rfl (by decide) (Nat.le_of_ble_eq_true rfl) ?_
        refine v_i2l dX4_hashesLooks_19 ?_
        refine v_callV0 kX4_245 gi_X4_hashes ge_X4_hashes rfl dX4_hashesLooks_20 (by assumption) (c_hashes hx) rfl rfl (by decide) (Nat.le_of_ble_eq_true rfl) (fun f21 m hc21 => ?_)
        obtain ⟨⟨h21, hf21⟩, rfl⟩ := hc21
        replace hf21 := zFr.trans hfx (hf21.weaken (fun τ z => (Or.inl z : zTY τ)))
        obtain ⟨H21, eH21⟩ : ∃ z : Int64, z = 31 * (sHf (fun k => sSpoolOf (rOf σ) s n (k / 5) (k % 5)) i hh) + ((fun k => sSpoolOf (rOf σ) s n (k / 5) (k % 5)) i).toInt64 := ⟨_, rfl⟩
        rw [← eH21] at h21
        have ho21 := h21.1
        have hs21 := h21.2.1
        refine v_iincN dX4_hashesLooks_23 rfl (by decide) ?_
        refine v_goto 2 dX4_hashesLooks_26 (by decide) ?_
        exact v_loc (lv' := [(0, .ref o), (1, .int (nI (i + 1)))]) ⟨rfl, rfl, trivial⟩ (ih (i + 1) (by omega) f21 wx mrx (by have e : H21 = sHf (fun k => sSpoolOf (rOf σ) s n (k / 5) (k % 5)) (i + 1) hh := eH21; rw [← e]; exact h21) (by omega) hkx hf21)
  refine v_iconst (nI 0) dX4_hashesLooks_0 (by decide) ?_
  refine v_istore_n dX4_hashesLooks_1 rfl (by decide) ?_
  exact v_loc (lv' := [(0, .ref o), (1, .int (nI 0))]) ⟨rfl, rfl, trivial⟩ (loop0 15 0 (by omega) f w mr h (by omega) (wK.refl w) zFr.refl)
