theorem RW_le {ρ : zRS} {N s n m : Nat} (h : RW ρ N s n) (hm : m ≤ n) : RW ρ N s m := ⟨h.1, by have := h.2.1; omega, fun c hc => h.2.2 c (by omega)⟩
theorem RW_dn {ρ : zRS} {N s n : Nat} (h : RW ρ N s n) (xs tm : Nat → Int32) (j : Nat) : RW (sDn ρ xs tm s n j).1 N s n := by
  obtain ⟨h4, h5, h6, h0⟩ := sDn_ch ρ xs tm s n j
  refine ⟨⟨h0.trans h.1.1, ?_, h.1.2.2⟩, h.2.1, fun c hc => ?_⟩
  · rw [← h.1.2.1]
    unfold sStep
    rw [h0]
  · obtain ⟨a, b, u, ha, hb, hab, hu, q4, q5, q6⟩ := h.2.2 c hc
    exact ⟨a, b, u, ha, hb, hab, hu, (h4 c).trans q4, (h5 c).trans q5, (h6 c).trans q6⟩
theorem sDn_s {ρ : zRS} {xs tm : Nat → Int32} {s n j a b u : Nat} (ha : a < 24) (hb : b < 24) (hu : u < 3) (q4 : ρ 4 (n - 1 - j) = nI a) (q5 : ρ 5 (n - 1 - j) = nI b) (q6 : ρ 6 (n - 1 - j) = nI u) : (sDn ρ xs tm s n (j + 1)).1 = sOff (sDn ρ xs tm s n j).1 s a b u := by
  have e : (sDn ρ xs tm s n (j + 1)).1 = sOff (sDn ρ xs tm s n j).1 s (zn (ρ 4 (n - 1 - j))) (zn (ρ 5 (n - 1 - j))) (zn (ρ 6 (n - 1 - j))) := rfl
  rw [e, q4, q5, q6, zn_nI (by omega), zn_nI (by omega), zn_nI (by omega)]
theorem nl_ok {σ σx σ1 σ2 σ3 : Nat → Int32} {xs tm : Nat → Int32} {s n j u0 : Nat} {x : Int32} (hnow : σ 2 = nI u0) (hj : j = n) (hE : zEQ 0 (sDn (rOf σ) xs tm s n j).1 (rOf σx)) (hg1 : ∀ i, σ1 i = if i = 0 then x else σx i) (hg2 : ∀ i, σ2 i = if i = 1 then nI 0 else σ1 i) (hg3 : ∀ i, σ3 i = if i = 2 then nI u0 else σ2 i) : zEQ 0 (sNailsS (sAllOff (rOf σ) xs tm s n) x) (rOf σ3) := by
  subst hj
  have lo : ∀ i, 3 ≤ i → σ3 i = σx i := fun i hi => by rw [hg3, if_neg (by omega), hg2, if_neg (by omega), hg1, if_neg (by omega)]
  obtain ⟨h0, h1, -, h7⟩ := hE
  refine ⟨fun i hi => ?_, fun i hi => ?_, fun c hc => absurd hc (Nat.not_lt_zero c), fun q hq => ?_⟩
  · show (if i = 0 then x else if i = 1 then 0 else if i = 2 then σ 2 else (sDn (rOf σ) xs tm s j j).1 0 i) = σ3 i
    by_cases e0 : i = 0
    · rw [if_pos e0, hg3, if_neg (by omega), hg2, if_neg (by omega), hg1, if_pos e0]
    · by_cases e1 : i = 1
      · rw [if_neg e0, if_pos e1, hg3, if_neg (by omega), hg2, if_pos e1]; rfl
      · by_cases e2 : i = 2
        · rw [if_neg e0, if_neg e1, if_pos e2, hg3, if_pos e2, hnow]
        · rw [if_neg e0, if_neg e1, if_neg e2, lo i (by omega)]
          exact h0 i hi
  · obtain ⟨a, b, c⟩ := h1 i hi
    exact ⟨a.trans (lo (9 + 2 * i) (by omega)).symm, b.trans (lo (9 + 2 * i + 1) (by omega)).symm, c.trans (lo (6 + i) (by omega)).symm⟩
  · obtain ⟨a, b⟩ := h7 q hq
    exact ⟨a.trans (lo (616 + q) (by omega)).symm, b.trans (lo (760 + q) (by omega)).symm⟩
set_option maxRecDepth 10000 in
set_option maxHeartbeats 1000000 in
theorem c_m9nails {G : zW} {f : zHM} {m : Nat × Nat} {o mr : Nat} {B : Nat → Nat} {w : Nat → Int32} {hh : Int64} {σ : Nat → Int32} (h : MX f o B w hh σ mr) {th : Int32} {k L : Nat} {sv : Nat → Nat → Int32} {hsl : Nat → Int32} {sl : Nat → Nat → Int32} {ch : Nat → Nat} (t : w 0 = th) (k0 : w 1 = nI k) (l0 : w 2 = nI L) (O : zNO f B k sv hsl sl L ch) (hmr9 : mr + 1000 < 2 ^ 30) {N s n : Nat} (hw : RW (rOf σ) N s n) (hn : σ 15 = nI n) (hn2 : n ≤ 200) {xs tm : Nat → Int32} {u0 : Nat} (hnow : σ 2 = nI u0) {x : Int32} (hst : ¬ sStepOf x = -1) : zM G yX4_nails cX4_nails 4 (some .int) 9 [.ref o, .int x] (f, m) (zD (some (.int (nI N))) (fun f' m' => zNP f o B hh mr 200 0 (sPK k) (sPM k sv σ) hsl sl L ch (fun σ' => σ' 15 = nI 0 ∧ zEQ 0 (sNailsS (sAllOff (rOf σ) xs tm s n) x) (rOf σ')) f' ∧ m' = m)) := by
  refine zM.of (by decide) (Nat.le_of_ble_eq_true rfl) ?_
  have ho := h.1
  have hs := h.2.1
  have hv := hw.1
  have hN : σ 0 = nI N := hv.1
  have hp := hv.pos
  refine v_aload_n dX4_nails_0 rfl rfl ?_
  refine v_iconst (nI 0) dX4_nails_1 (by decide) ?_
  refine v_putfieldX fX4_35 dX4_nails_2 (by assumption) rfl rfl (Nat.le_of_ble_eq_true rfl) (fun f1 hp1 => ?_)
  obtain ⟨h1, hf1⟩ := MX.put (w' := zUp w 0 (nI 0)) (f0 := f) h hp1 rfl zFr.refl
  obtain ⟨w1, ew1⟩ : ∃ w9, w9 = zUp w 0 (nI 0) := ⟨_, rfl⟩
  rw [← ew1] at h1
  clear hp1
  have ho1 := h1.1
  have hs1 := h1.2.1
  have t1 : w1 0 = nI 0 := by rw [ew1]; rfl
  have k1 := (show w1 1 = w 1 from by rw [ew1]; rfl).trans k0
  have l1 := (show w1 2 = w 2 from by rw [ew1]; rfl).trans l0
  have O1 := zNO.fr O hf1 (by intro τ h; rcases h with h | h | h | h <;> omega)
  have F1 := zFr.trans zFr.refl (zFr.weaken hf1 zTYZ)
  have c40 : zV G yX4_nails cX4_nails 4 (some .int) 9 40 [(0, .ref o), (1, .int x)] [] (f1, m) (zD (some (.int (nI N))) (fun f' m' => zNP f o B hh mr 200 0 (sPK k) (sPM k sv σ) hsl sl L ch (fun σ' => σ' 15 = nI 0 ∧ zEQ 0 (sNailsS (sAllOff (rOf σ) xs tm s n) x) (rOf σ')) f' ∧ m' = m)) := by
    refine v_aload_n dX4_nails_40 rfl rfl ?_
    refine v_callV0 kX4_121 gi_X4_saves ge_X4_saves rfl dX4_nails_41 (by assumption) (c_saves h1 k1 O1) rfl rfl (by decide) (Nat.le_of_ble_eq_true rfl) (fun f2 m hc2 => ?_)
    obtain ⟨⟨w2, h2, hk0, k2, O2, hf2⟩, rfl⟩ := hc2
    have t2 := (hk0 0 (by decide)).trans t1
    have l2 := (hk0 2 (by decide)).trans l1
    have F2 := zFr.trans F1 hf2
    have ho2 := h2.1
    have hs2 := h2.2.1
    refine v_aload_n dX4_nails_44 rfl rfl ?_
    refine v_getfield fX4_7 dX4_nails_45 (by assumption) (by rfl) ?_
    refine v_iconst (nI 0) dX4_nails_48 (by decide) ?_
    refine v_iaload dX4_nails_49 (by assumption) (vp_in_nI (by omega) (by omega)) ?_
    rw [nI_clamp (n := 0) (by omega)]
    rw [hN]
    refine v_istore_n dX4_nails_50 rfl (by decide) ?_
    refine v_aload_n dX4_nails_51 rfl rfl ?_
    refine v_getfield fX4_7 dX4_nails_52 (by assumption) (by rfl) ?_
    refine v_iconst (nI 2) dX4_nails_55 (by decide) ?_
    refine v_iaload dX4_nails_56 (by assumption) (vp_in_nI (by omega) (by omega)) ?_
    rw [nI_clamp (n := 2) (by omega)]
    rw [hnow]
    refine v_istore_n dX4_nails_57 rfl (by decide) ?_
    have nl : ∀ (c j : Nat), c + j = n → ∀ (fx : zHM) (wx : Nat → Int32) (mrx : Nat) (σx : Nat → Int32), MX fx o B wx hh σx mrx → wx 0 = nI 0 → wx 1 = nI (sPK k) → wx 2 = nI L → zNO fx B (sPK k) (sPM k sv σ) hsl sl L ch → zFr zTZ f fx → mrx ≤ mr + j → σx 15 = nI c → zEQ c (sDn (rOf σ) xs tm s n j).1 (rOf σx) → zV G yX4_nails cX4_nails 4 (some .int) 9 58 [(0, .ref o), (1, .int x), (2, .int (nI N)), (3, .int (nI u0))] [] (fx, m) (zD (some (.int (nI N))) (fun f' m' => zNP f o B hh mr 200 0 (sPK k) (sPM k sv σ) hsl sl L ch (fun σ' => σ' 15 = nI 0 ∧ zEQ 0 (sNailsS (sAllOff (rOf σ) xs tm s n) x) (rOf σ')) f' ∧ m' = m)) := by
      intro c
      induction c with
      | zero =>
        intro j hj fx wx mrx σx hx tx kx lx Ox Fx hmx hcx hEx
        have hox := hx.1
        have hsx := hx.2.1
        refine v_aload_n dX4_nails_58 rfl rfl ?_
        refine v_getfield fX4_7 dX4_nails_59 (by assumption) (by rfl) ?_
        refine v_bipush (nI 15) dX4_nails_62 (by decide) ?_
        refine v_iaload dX4_nails_64 (by assumption) (vp_in_nI (by omega) (by omega)) ?_
        rw [nI_clamp (n := 15) (by omega)]
        rw [hcx]
        refine v_if_le 75 dX4_nails_65 (by decide) (fun b65 => ?_) (fun b65 => ?_)
        · rw [show (0 : Int32) = nI 0 from rfl] at b65
          rw [nI_leI (by omega) (by omega)] at b65
          refine v_aload_n dX4_nails_75 rfl rfl ?_
          refine v_getfield fX4_7 dX4_nails_76 (by assumption) (by rfl) ?_
          refine v_iconst (nI 0) dX4_nails_79 (by decide) ?_
          refine v_iload_n dX4_nails_80 rfl rfl ?_
          refine v_iastoreX dX4_nails_81 (by assumption) (vp_in_nI (by omega) (by omega)) (fun f21 hp21 => ?_)
          rw [nI_clamp (n := 0) (by omega)] at hp21
          obtain ⟨h21, hf21⟩ := MX.st (f0 := fx) hx hp21 zFr.refl
          clear hp21
          obtain ⟨σ21, e21, hg21⟩ := upd_nm σx 0 x
          rw [← e21] at h21
          clear e21
          have ho21 := h21.1
          have hs21 := h21.2.1
          have hk21 := wK.refl wx
          have t21 := (hk21 0 (by decide) (by decide)).trans tx
          have k21 := (hk21 1 (by decide) (by decide)).trans kx
          have l21 := (hk21 2 (by decide) (by decide)).trans lx
          have O21 := zNO.fr Ox hf21 (by intro τ h; rcases h with h | h | h | h <;> omega)
          have F21 := zFr.trans Fx (zFr.weaken hf21 zTYZ)
          refine v_aload_n dX4_nails_82 rfl rfl ?_
          refine v_getfield fX4_7 dX4_nails_83 (by assumption) (by rfl) ?_
          refine v_iconst (nI 1) dX4_nails_86 (by decide) ?_
          refine v_iconst (nI 0) dX4_nails_87 (by decide) ?_
          refine v_iastoreX dX4_nails_88 (by assumption) (vp_in_nI (by omega) (by omega)) (fun f22 hp22 => ?_)
          rw [nI_clamp (n := 1) (by omega)] at hp22
          obtain ⟨h22, hf22⟩ := MX.st (f0 := f21) h21 hp22 zFr.refl
          clear hp22
          obtain ⟨σ22, e22, hg22⟩ := upd_nm σ21 1 (nI 0)
          rw [← e22] at h22
          clear e22
          have ho22 := h22.1
          have hs22 := h22.2.1
          have hk22 := wK.refl wx
          have t22 := (hk22 0 (by decide) (by decide)).trans t21
          have k22 := (hk22 1 (by decide) (by decide)).trans k21
          have l22 := (hk22 2 (by decide) (by decide)).trans l21
          have O22 := zNO.fr O21 hf22 (by intro τ h; rcases h with h | h | h | h <;> omega)
          have F22 := zFr.trans F21 (zFr.weaken hf22 zTYZ)
          refine v_aload_n dX4_nails_89 rfl rfl ?_
          refine v_getfield fX4_7 dX4_nails_90 (by assumption) (by rfl) ?_
          refine v_iconst (nI 2) dX4_nails_93 (by decide) ?_
          refine v_iload_n dX4_nails_94 rfl rfl ?_
          refine v_iastoreX dX4_nails_95 (by assumption) (vp_in_nI (by omega) (by omega)) (fun f23 hp23 => ?_)
          rw [nI_clamp (n := 2) (by omega)] at hp23
          obtain ⟨h23, hf23⟩ := MX.st (f0 := f22) h22 hp23 zFr.refl
          clear hp23
          obtain ⟨σ23, e23, hg23⟩ := upd_nm σ22 2 (nI u0)
          rw [← e23] at h23
          clear e23
          have ho23 := h23.1
          have hs23 := h23.2.1
          have hk23 := wK.refl wx
          have t23 := (hk23 0 (by decide) (by decide)).trans t22
          have k23 := (hk23 1 (by decide) (by decide)).trans k22
          have l23 := (hk23 2 (by decide) (by decide)).trans l22
          have O23 := zNO.fr O22 hf23 (by intro τ h; rcases h with h | h | h | h <;> omega)
          have F23 := zFr.trans F22 (zFr.weaken hf23 zTYZ)
          refine v_iload_n dX4_nails_96 rfl rfl ?_
          exact v_ireturn dX4_nails_97 rfl ⟨rfl, ⟨σ23, mrx, by omega, ⟨wx, h23, t23, k23, l23, O23⟩, ⟨by rw [hg23, if_neg (by omega), hg22, if_neg (by omega), hg21, if_neg (by omega)]; exact hcx, nl_ok hnow (show j = n by omega) hEx hg21 hg22 hg23⟩, F23⟩, rfl⟩
        · rw [show (0 : Int32) = nI 0 from rfl] at b65
          rw [nI_leI (by omega) (by omega)] at b65
          omega
      | succ c ih =>
        intro j hj fx wx mrx σx hx tx kx lx Ox Fx hmx hcx hEx
        have hox := hx.1
        have hsx := hx.2.1
        have hwx : RW (rOf σx) N s (c + 1) := RW_eq hEx (RW_le (RW_dn hw xs tm j) (by omega))
        obtain ⟨a, b, u, ha, hb, hab, hu, q4, q5, q6⟩ := hw.2.2 (n - 1 - j) (by omega)
        obtain ⟨d4, d5, d6, -⟩ := sDn_ch (rOf σ) xs tm s n j
        have ec : n - 1 - j = c := by omega
        obtain ⟨e4, e5, e6⟩ := hEx.2.2.1 c (by omega)
        have p4 : σx (16 + 3 * c + 0) = nI a := e4.symm.trans ((d4 c).trans (by rw [← ec]; exact q4))
        have p5 : σx (16 + 3 * c + 1) = nI b := e5.symm.trans ((d5 c).trans (by rw [← ec]; exact q5))
        have p6 : σx (16 + 3 * c + 2) = nI u := e6.symm.trans ((d6 c).trans (by rw [← ec]; exact q6))
        refine v_aload_n dX4_nails_58 rfl rfl ?_
        refine v_getfield fX4_7 dX4_nails_59 (by assumption) (by rfl) ?_
        refine v_bipush (nI 15) dX4_nails_62 (by decide) ?_
        refine v_iaload dX4_nails_64 (by assumption) (vp_in_nI (by omega) (by omega)) ?_
        rw [nI_clamp (n := 15) (by omega)]
        rw [hcx]
        refine v_if_le 75 dX4_nails_65 (by decide) (fun b65 => ?_) (fun b65 => ?_)
        · rw [show (0 : Int32) = nI 0 from rfl] at b65
          rw [nI_leI (by omega) (by omega)] at b65
          omega
        · rw [show (0 : Int32) = nI 0 from rfl] at b65
          rw [nI_leI (by omega) (by omega)] at b65
          refine v_aload_n dX4_nails_68 rfl rfl ?_
          refine v_callV0 kX4_124 gi_X4_unwinds ge_X4_unwinds rfl dX4_nails_69 (by assumption) (c_unwinds hx (by omega) hwx hcx (by omega) ha hb hab hu p4 p5 p6) rfl rfl (by decide) (Nat.le_of_ble_eq_true rfl) (fun f21 m hc21 => ?_)
          obtain ⟨⟨σ21, mr21, hm21, ⟨w21, h21, hk21, hf21⟩, hg21⟩, rfl⟩ := hc21
          have ho21 := h21.1
          have hs21 := h21.2.1
          have t21 := (hk21 0 (by decide) (by decide)).trans tx
          have k21 := (hk21 1 (by decide) (by decide)).trans kx
          have l21 := (hk21 2 (by decide) (by decide)).trans lx
          have O21 := zNO.fr Ox hf21 (by intro τ h; rcases h with h | h | h | h <;> omega)
          have F21 := zFr.trans Fx (zFr.weaken hf21 zTYZ)
          refine v_goto 58 dX4_nails_72 (by decide) ?_
          exact v_loc (lv' := [(0, .ref o), (1, .int x), (2, .int (nI N)), (3, .int (nI u0))]) ⟨rfl, rfl, rfl, rfl, trivial⟩ (ih (j + 1) (by omega) f21 w21 mr21 σ21 h21 t21 k21 l21 O21 F21 (by omega) hg21.1 (by rw [sDn_s (by omega) (by omega) hu q4 q5 q6]; exact (sOff_eq hu (hEx.less (by omega))).trans hg21.2))
    exact v_loc (lv' := [(0, .ref o), (1, .int x), (2, .int (nI N)), (3, .int (nI u0))]) ⟨rfl, rfl, rfl, rfl, trivial⟩ (nl n 0 (by omega) f2 w2 mr σ h2 t2 k2 l2 O2 F2 (by omega) hn zEQ.refl)
  refine v_iload_n dX4_nails_5 rfl rfl ?_
  refine v_iconst (4) dX4_nails_6 (by decide) ?_
  refine v_icmp_eq 40 dX4_nails_7 (by decide) (fun b7 => ?_) (fun b7 => ?_)
  · exact v_loc (lv' := [(0, .ref o), (1, .int x)]) ⟨rfl, rfl, trivial⟩ c40
  · refine v_iload_n dX4_nails_10 rfl rfl ?_
    refine v_bipush (6) dX4_nails_11 (by decide) ?_
    refine v_icmp_eq 40 dX4_nails_13 (by decide) (fun b13 => ?_) (fun b13 => ?_)
    · exact v_loc (lv' := [(0, .ref o), (1, .int x)]) ⟨rfl, rfl, trivial⟩ c40
    · refine v_iload_n dX4_nails_16 rfl rfl ?_
      refine v_bipush (8) dX4_nails_17 (by decide) ?_
      refine v_icmp_eq 40 dX4_nails_19 (by decide) (fun b19 => ?_) (fun b19 => ?_)
      · exact v_loc (lv' := [(0, .ref o), (1, .int x)]) ⟨rfl, rfl, trivial⟩ c40
      · refine v_iload_n dX4_nails_22 rfl rfl ?_
        refine v_bipush (12) dX4_nails_23 (by decide) ?_
        refine v_icmp_eq 40 dX4_nails_25 (by decide) (fun b25 => ?_) (fun b25 => ?_)
        · exact v_loc (lv' := [(0, .ref o), (1, .int x)]) ⟨rfl, rfl, trivial⟩ c40
        · refine v_iload_n dX4_nails_28 rfl rfl ?_
          refine v_bipush (24) dX4_nails_29 (by decide) ?_
          refine v_icmp_eq 40 dX4_nails_31 (by decide) (fun b31 => ?_) (fun b31 => ?_)
          · exact v_loc (lv' := [(0, .ref o), (1, .int x)]) ⟨rfl, rfl, trivial⟩ c40
          · exact absurd (by unfold sStepOf; rw [if_neg b7, if_neg b13, if_neg b19, if_neg b25, if_neg b31]) hst
set_option maxRecDepth 10000 in
set_option maxHeartbeats 1000000 in
theorem y_nails_1 {G : zW} {f : zHM} {m : Nat × Nat} {o mr : Nat} {B : Nat → Nat} {w : Nat → Int32} {hh : Int64} {σ : Nat → Int32} (h : MX f o B w hh σ mr) {th : Int32} {k L : Nat} {sv : Nat → Nat → Int32} {hsl : Nat → Int32} {sl : Nat → Nat → Int32} {ch : Nat → Nat} (t : w 0 = th) (k0 : w 1 = nI k) (l0 : w 2 = nI L) (O : zNO f B k sv hsl sl L ch) {x : Int32} (hst : sStepOf x = -1) : zM G yX4_nails cX4_nails 4 (some .int) 9 [.ref o, .int x] (f, m) (zD (some (.int 0)) (fun f' m' => zNP f o B hh mr 0 (nI 1) k sv hsl sl L ch (fun σ' => σ' = σ) f' ∧ m' = m)) := by
  refine zM.of (by decide) (Nat.le_of_ble_eq_true rfl) ?_
  have ho := h.1
  have hs := h.2.1
  refine v_aload_n dX4_nails_0 rfl rfl ?_
  refine v_iconst (nI 0) dX4_nails_1 (by decide) ?_
  refine v_putfieldX fX4_35 dX4_nails_2 (by assumption) rfl rfl (Nat.le_of_ble_eq_true rfl) (fun f1 hp1 => ?_)
  obtain ⟨h1, hf1⟩ := MX.put (w' := zUp w 0 (nI 0)) (f0 := f) h hp1 rfl zFr.refl
  obtain ⟨w1, ew1⟩ : ∃ w9, w9 = zUp w 0 (nI 0) := ⟨_, rfl⟩
  rw [← ew1] at h1
  clear hp1
  have ho1 := h1.1
  have hs1 := h1.2.1
  have t1 : w1 0 = nI 0 := by rw [ew1]; rfl
  have k1 := (show w1 1 = w 1 from by rw [ew1]; rfl).trans k0
  have l1 := (show w1 2 = w 2 from by rw [ew1]; rfl).trans l0
  have O1 := zNO.fr O hf1 (by intro τ h; rcases h with h | h | h | h <;> omega)
  have F1 := zFr.trans zFr.refl (zFr.weaken hf1 zTYZ)
  refine v_iload_n dX4_nails_5 rfl rfl ?_
  refine v_iconst (4) dX4_nails_6 (by decide) ?_
  refine v_icmp_eq 40 dX4_nails_7 (by decide) (fun b7 => ?_) (fun b7 => ?_)
  · exact absurd (by rw [b7] at hst; exact hst) (by decide)
  · refine v_iload_n dX4_nails_10 rfl rfl ?_
    refine v_bipush (6) dX4_nails_11 (by decide) ?_
    refine v_icmp_eq 40 dX4_nails_13 (by decide) (fun b13 => ?_) (fun b13 => ?_)
    · exact absurd (by rw [b13] at hst; exact hst) (by decide)
    · refine v_iload_n dX4_nails_16 rfl rfl ?_
      refine v_bipush (8) dX4_nails_17 (by decide) ?_
      refine v_icmp_eq 40 dX4_nails_19 (by decide) (fun b19 => ?_) (fun b19 => ?_)
      · exact absurd (by rw [b19] at hst; exact hst) (by decide)
      · refine v_iload_n dX4_nails_22 rfl rfl ?_
        refine v_bipush (12) dX4_nails_23 (by decide) ?_
        refine v_icmp_eq 40 dX4_nails_25 (by decide) (fun b25 => ?_) (fun b25 => ?_)
        · exact absurd (by rw [b25] at hst; exact hst) (by decide)
        · refine v_iload_n dX4_nails_28 rfl rfl ?_
          refine v_bipush (24) dX4_nails_29 (by decide) ?_
          refine v_icmp_eq 40 dX4_nails_31 (by decide) (fun b31 => ?_) (fun b31 => ?_)
          · exact absurd (by rw [b31] at hst; exact hst) (by decide)
          · refine v_aload_n dX4_nails_34 rfl rfl ?_
            refine v_iconst (nI 1) dX4_nails_35 (by decide) ?_
            refine v_callV1 kX4_118 gi_X4_fails ge_X4_fails rfl dX4_nails_36 (by assumption) (c_fails h1) rfl rfl (by decide) (Nat.le_of_ble_eq_true rfl) (fun f2 m hc2 => ?_)
            obtain ⟨⟨w2, h2, t2, hq2, hf2⟩, rfl⟩ := hc2
            have k2 := (hq2 1 (by decide)).trans k1
            have l2 := (hq2 2 (by decide)).trans l1
            have ho2 := h2.1
            have hs2 := h2.2.1
            have O2 := zNO.fr O1 hf2 (by intro τ h; rcases h with h | h | h | h <;> omega)
            have F2 := zFr.trans F1 (zFr.weaken hf2 zTYZ)
            exact v_ireturn dX4_nails_39 rfl ⟨rfl, ⟨σ, mr, by omega, ⟨w2, h2, t2, k2, l2, O2⟩, rfl, F2⟩, rfl⟩
set_option maxRecDepth 10000 in
set_option maxHeartbeats 1000000 in
theorem c_m9keep {G : zW} {f : zHM} {m : Nat × Nat} {o mr : Nat} {B : Nat → Nat} {w : Nat → Int32} {hh : Int64} {σ : Nat → Int32} (h : MX f o B w hh σ mr) {th : Int32} {k L : Nat} {sv : Nat → Nat → Int32} {hsl : Nat → Int32} {sl : Nat → Nat → Int32} {ch : Nat → Nat} (t : w 0 = th) (k0 : w 1 = nI k) (l0 : w 2 = nI L) (O : zNO f B k sv hsl sl L ch) {e : Nat} (he : e < 2) : zM G yX4_keep cX4_keep 3 (some .int) 9 [.ref o, .int (nI e)] (f, m) (zD (some (.int (σ 15))) (fun f' m' => zNP f o B hh mr 0 0 k sv (fun j => if j = e then 1 else hsl j) (fun j => if j = e then σ else sl j) L ch (fun σ' => σ' = σ) f' ∧ m' = m)) := by
  refine zM.of (by decide) (Nat.le_of_ble_eq_true rfl) ?_
  have ho := h.1
  have hs := h.2.1
  refine v_aload_n dX4_keep_0 rfl rfl ?_
  refine v_iconst (nI 0) dX4_keep_1 (by decide) ?_
  refine v_putfieldX fX4_35 dX4_keep_2 (by assumption) rfl rfl (Nat.le_of_ble_eq_true rfl) (fun f1 hp1 => ?_)
  obtain ⟨h1, hf1⟩ := MX.put (w' := zUp w 0 (nI 0)) (f0 := f) h hp1 rfl zFr.refl
  obtain ⟨w1, ew1⟩ : ∃ w9, w9 = zUp w 0 (nI 0) := ⟨_, rfl⟩
  rw [← ew1] at h1
  clear hp1
  have ho1 := h1.1
  have hs1 := h1.2.1
  have t1 : w1 0 = nI 0 := by rw [ew1]; rfl
  have k1 := (show w1 1 = w 1 from by rw [ew1]; rfl).trans k0
  have l1 := (show w1 2 = w 2 from by rw [ew1]; rfl).trans l0
  have O1 := zNO.fr O hf1 (by intro τ h; rcases h with h | h | h | h <;> omega)
  have F1 := zFr.trans zFr.refl (zFr.weaken hf1 zTYZ)
  refine v_iload_n dX4_keep_5 rfl rfl ?_
  refine v_iconst (nI 0) dX4_keep_6 (by decide) ?_
  refine v_iconst (nI 1) dX4_keep_7 (by decide) ?_
  refine v_callSp kX4_42 gs_X4_in dX4_keep_8 c_in rfl rfl (by decide) (Nat.le_of_ble_eq_true rfl) ?_
  rw [inN_y (Nat.zero_le e) (show e ≤ 1 by omega) (by omega)]
  refine v_if_ne 20 dX4_keep_11 (by decide) (fun b11 => ?_) (fun b11 => ?_)
  · rw [show (0 : Int32) = nI 0 from rfl] at b11
    rw [nI_eq (by omega) (by omega)] at b11
    refine v_iconst (nI 0) dX4_keep_20 (by decide) ?_
    refine v_istore_n dX4_keep_21 rfl (by decide) ?_
    obtain ⟨⟨hk6, gs1, s1a, s1v⟩, ⟨gs2, s2a, s2v⟩, ⟨gs3, s3a, s3v⟩, ⟨hL60, gs4, s4a, s4v⟩, gs5, s5a⟩ := id O1
    have kl : ∀ (kk i : Nat), i + kk = 904 → ∀ (fx : zHM) (g : Nat → Int32), MX fx o B w1 hh σ mr → fx (B 2) = some (703, .inl (0, 1808, .inl g)) → (∀ j, g j = if 904 * e ≤ j ∧ j < 904 * e + i then σ (j - 904 * e) else gs2 j) → zFr (fun τ => τ = 703) f1 fx → zV G yX4_keep cX4_keep 3 (some .int) 9 22 [(0, .ref o), (1, .int (nI e)), (2, .int (nI i))] [] (fx, m) (zD (some (.int (σ 15))) (fun f' m' => zNP f o B hh mr 0 0 k sv (fun j => if j = e then 1 else hsl j) (fun j => if j = e then σ else sl j) L ch (fun σ' => σ' = σ) f' ∧ m' = m)) := by
      intro kk
      induction kk with
      | zero =>
        intro i hi fx g hx hgx hgv hffx
        have hox := hx.1
        have hsx := hx.2.1
        have hg3x := hffx _ _ _ s3a (by omega)
        refine v_iload_n dX4_keep_22 rfl rfl ?_
        refine v_sipush (nI 904) dX4_keep_23 (by decide) ?_
        refine v_icmp_ge 53 dX4_keep_26 (by decide) (fun b26 => ?_) (fun b26 => ?_)
        · rw [nI_leI (by omega) (by omega)] at b26
          refine v_aload_n dX4_keep_53 rfl rfl ?_
          refine v_getfield fX4_19 dX4_keep_54 (by assumption) (by rfl) ?_
          refine v_iload_n dX4_keep_57 rfl rfl ?_
          refine v_iconst (1) dX4_keep_58 (by decide) ?_
          refine v_zastoreX dX4_keep_59 hg3x (vp_in_nI (by omega) (by omega)) (fun fy hp => ?_)
          rw [nI_clamp (n := e) (by omega)] at hp
          have hy := hx.fr7 (T := fun τ => τ = 704) (zFr.put (T := fun τ => τ = 704) zFr.refl hp rfl) (by omega)
          have hoy := hy.1
          have hsy := hy.2.1
          have Fy : zFr zTZ f fy := zFr.trans F1 ((hffx.weaken (fun τ e => (⟨by omega, by omega⟩ : zTZ τ))).trans (zFr.put (T := zTZ) zFr.refl hp ⟨(by decide : 700 ≤ 704), (by decide : 704 ≤ 708)⟩))
          have Oy : zNO fy B k sv (fun j => if j = e then 1 else hsl j) (fun j => if j = e then σ else sl j) L ch := by
            refine ⟨⟨hk6, gs1, hp.ne (hffx _ _ _ s1a (by omega)) (by omega), s1v⟩, ⟨g, hp.ne hgx (by omega), fun j hj i9 hi9 => ?_⟩, ⟨_, hp.1, fun j hj => ?_⟩, ⟨hL60, gs4, hp.ne (hffx _ _ _ s4a (by omega)) (by omega), s4v⟩, gs5, hp.ne (hffx _ _ _ s5a (by omega)) (by omega)⟩
            · show g (904 * j + i9) = (if j = e then σ else sl j) i9
              rw [hgv]
              by_cases z : j = e
              · rw [if_pos z, if_pos (by omega), z, show 904 * e + i9 - 904 * e = i9 from by omega]
              · rw [if_neg z, if_neg (by omega), s2v j hj i9 hi9]
            · show (if j = e then vp_nar .boolean 1 else gs3 j) = if j = e then 1 else hsl j
              by_cases z : j = e
              · rw [if_pos z, if_pos z]; rfl
              · rw [if_neg z, if_neg z, s3v j hj]
          refine v_aload_n dX4_keep_60 rfl rfl ?_
          refine v_getfield fX4_7 dX4_keep_61 (by assumption) (by rfl) ?_
          refine v_bipush (nI 15) dX4_keep_64 (by decide) ?_
          refine v_iaload dX4_keep_66 (by assumption) (vp_in_nI (by omega) (by omega)) ?_
          rw [nI_clamp (n := 15) (by omega)]
          exact v_ireturn dX4_keep_67 rfl ⟨rfl, ⟨σ, mr, by omega, ⟨w1, hy, t1, k1, l1, Oy⟩, rfl, Fy⟩, rfl⟩
        · rw [nI_leI (by omega) (by omega)] at b26
          omega
      | succ kk ih =>
        intro i hi fx g hx hgx hgv hffx
        have hox := hx.1
        have hsx := hx.2.1
        refine v_iload_n dX4_keep_22 rfl rfl ?_
        refine v_sipush (nI 904) dX4_keep_23 (by decide) ?_
        refine v_icmp_ge 53 dX4_keep_26 (by decide) (fun b26 => ?_) (fun b26 => ?_)
        · rw [nI_leI (by omega) (by omega)] at b26
          omega
        · rw [nI_leI (by omega) (by omega)] at b26
          refine v_aload_n dX4_keep_29 rfl rfl ?_
          refine v_getfield fX4_16 dX4_keep_30 (by assumption) (by rfl) ?_
          refine v_sipush (nI 904) dX4_keep_33 (by decide) ?_
          refine v_iload_n dX4_keep_36 rfl rfl ?_
          refine v_imul dX4_keep_37 ?_
          rw [pk_mul 904 e]
          refine v_iload_n dX4_keep_38 rfl rfl ?_
          refine v_iadd dX4_keep_39 ?_
          rw [nI_add (904 * e) i]
          refine v_aload_n dX4_keep_40 rfl rfl ?_
          refine v_getfield fX4_7 dX4_keep_41 (by assumption) (by rfl) ?_
          refine v_iload_n dX4_keep_44 rfl rfl ?_
          refine v_iaload dX4_keep_45 (by assumption) (vp_in_nI (by omega) (by omega)) ?_
          rw [nI_clamp (n := i) (by omega)]
          refine v_iastoreX dX4_keep_46 hgx (vp_in_nI (by omega) (by omega)) (fun fy hp => ?_)
          rw [nI_clamp (n := 904 * e + i) (by omega)] at hp
          have hz : zFr (fun t => t = 703) fx fy := zFr.put (T := fun t => t = 703) zFr.refl hp rfl
          refine v_iincN dX4_keep_47 rfl (by decide) ?_
          refine v_goto 22 dX4_keep_50 (by decide) ?_
          exact v_loc (lv' := [(0, .ref o), (1, .int (nI e)), (2, .int (nI (i + 1)))]) ⟨rfl, rfl, rfl, trivial⟩ (ih (i + 1) (by omega) fy _ (hx.fr7 hz (by omega)) hp.1 (fun j => by
            show (if j = 904 * e + i then σ i else g j) = _
            rw [hgv j]
            by_cases z : j = 904 * e + i
            · rw [if_pos z, if_pos (by omega), z, show 904 * e + i - 904 * e = i from by omega]
            · rw [if_neg z]
              by_cases z2 : 904 * e ≤ j ∧ j < 904 * e + i
              · rw [if_pos z2, if_pos (by omega)]
              · rw [if_neg z2, if_neg (by omega)]) (hffx.trans hz))
    exact v_loc (lv' := [(0, .ref o), (1, .int (nI e)), (2, .int (nI 0))]) ⟨rfl, rfl, rfl, trivial⟩ (kl 904 0 (by omega) f1 gs2 h1 s2a (fun j => by rw [if_neg (by omega)]) zFr.refl)
  · rw [show (0 : Int32) = nI 0 from rfl] at b11
    rw [nI_eq (by omega) (by omega)] at b11
    omega
set_option maxRecDepth 10000 in
set_option maxHeartbeats 1000000 in
theorem y_keep_1 {G : zW} {f : zHM} {m : Nat × Nat} {o mr : Nat} {B : Nat → Nat} {w : Nat → Int32} {hh : Int64} {σ : Nat → Int32} (h : MX f o B w hh σ mr) {th : Int32} {k L : Nat} {sv : Nat → Nat → Int32} {hsl : Nat → Int32} {sl : Nat → Nat → Int32} {ch : Nat → Nat} (t : w 0 = th) (k0 : w 1 = nI k) (l0 : w 2 = nI L) (O : zNO f B k sv hsl sl L ch) {v : Int32} (hx : v < 0 ∨ ¬ v ≤ 1) : zM G yX4_keep cX4_keep 3 (some .int) 9 [.ref o, .int v] (f, m) (zD (some (.int 0)) (fun f' m' => zNP f o B hh mr 0 (nI 1) k sv hsl sl L ch (fun σ' => σ' = σ) f' ∧ m' = m)) := by
  refine zM.of (by decide) (Nat.le_of_ble_eq_true rfl) ?_
  have ho := h.1
  have hs := h.2.1
  refine v_aload_n dX4_keep_0 rfl rfl ?_
  refine v_iconst (nI 0) dX4_keep_1 (by decide) ?_
  refine v_putfieldX fX4_35 dX4_keep_2 (by assumption) rfl rfl (Nat.le_of_ble_eq_true rfl) (fun f1 hp1 => ?_)
  obtain ⟨h1, hf1⟩ := MX.put (w' := zUp w 0 (nI 0)) (f0 := f) h hp1 rfl zFr.refl
  obtain ⟨w1, ew1⟩ : ∃ w9, w9 = zUp w 0 (nI 0) := ⟨_, rfl⟩
  rw [← ew1] at h1
  clear hp1
  have ho1 := h1.1
  have hs1 := h1.2.1
  have t1 : w1 0 = nI 0 := by rw [ew1]; rfl
  have k1 := (show w1 1 = w 1 from by rw [ew1]; rfl).trans k0
  have l1 := (show w1 2 = w 2 from by rw [ew1]; rfl).trans l0
  have O1 := zNO.fr O hf1 (by intro τ h; rcases h with h | h | h | h <;> omega)
  have F1 := zFr.trans zFr.refl (zFr.weaken hf1 zTYZ)
  refine v_iload_n dX4_keep_5 rfl rfl ?_
  refine v_iconst (nI 0) dX4_keep_6 (by decide) ?_
  refine v_iconst (nI 1) dX4_keep_7 (by decide) ?_
  refine v_callSp kX4_42 gs_X4_in dX4_keep_8 c_in rfl rfl (by decide) (Nat.le_of_ble_eq_true rfl) ?_
  rw [in_n (a := nI 0) (b := nI 1) hx]
  refine v_if_ne 20 dX4_keep_11 (by decide) (fun b11 => ?_) (fun b11 => ?_)
  · rw [show (0 : Int32) = nI 0 from rfl] at b11
    rw [nI_eq (by omega) (by omega)] at b11
    omega
  · rw [show (0 : Int32) = nI 0 from rfl] at b11
    rw [nI_eq (by omega) (by omega)] at b11
    refine v_aload_n dX4_keep_14 rfl rfl ?_
    refine v_iconst (nI 1) dX4_keep_15 (by decide) ?_
    refine v_callV1 kX4_118 gi_X4_fails ge_X4_fails rfl dX4_keep_16 (by assumption) (c_fails h1) rfl rfl (by decide) (Nat.le_of_ble_eq_true rfl) (fun f2 m hc2 => ?_)
    obtain ⟨⟨w2, h2, t2, hq2, hf2⟩, rfl⟩ := hc2
    have k2 := (hq2 1 (by decide)).trans k1
    have l2 := (hq2 2 (by decide)).trans l1
    have ho2 := h2.1
    have hs2 := h2.2.1
    have O2 := zNO.fr O1 hf2 (by intro τ h; rcases h with h | h | h | h <;> omega)
    have F2 := zFr.trans F1 (zFr.weaken hf2 zTYZ)
    exact v_ireturn dX4_keep_19 rfl ⟨rfl, ⟨σ, mr, by omega, ⟨w2, h2, t2, k2, l2, O2⟩, rfl, F2⟩, rfl⟩
set_option maxRecDepth 10000 in
set_option maxHeartbeats 1000000 in
theorem c_m9goBack {G : zW} {f : zHM} {m : Nat × Nat} {o mr : Nat} {B : Nat → Nat} {w : Nat → Int32} {hh : Int64} {σ : Nat → Int32} (h : MX f o B w hh σ mr) {th : Int32} {k L : Nat} {sv : Nat → Nat → Int32} {hsl : Nat → Int32} {sl : Nat → Nat → Int32} {ch : Nat → Nat} (t : w 0 = th) (k0 : w 1 = nI k) (l0 : w 2 = nI L) (O : zNO f B k sv hsl sl L ch) {e : Nat} (he : e < 2) (hse : ¬ hsl e = 0) : zM G yX4_goBack cX4_goBack 3 (some .int) 9 [.ref o, .int (nI e)] (f, m) (zD (some (.int (sl e 15))) (fun f' m' => zNP f o B hh mr 0 0 (sPK k) (sPM k sv σ) hsl sl L ch (fun σ' => ∀ i, i < 904 → σ' i = sl e i) f' ∧ m' = m)) := by
  refine zM.of (by decide) (Nat.le_of_ble_eq_true rfl) ?_
  have ho := h.1
  have hs := h.2.1
  have hk60 := O.1.1
  refine v_aload_n dX4_goBack_0 rfl rfl ?_
  refine v_iconst (nI 0) dX4_goBack_1 (by decide) ?_
  refine v_putfieldX fX4_35 dX4_goBack_2 (by assumption) rfl rfl (Nat.le_of_ble_eq_true rfl) (fun f1 hp1 => ?_)
  obtain ⟨h1, hf1⟩ := MX.put (w' := zUp w 0 (nI 0)) (f0 := f) h hp1 rfl zFr.refl
  obtain ⟨w1, ew1⟩ : ∃ w9, w9 = zUp w 0 (nI 0) := ⟨_, rfl⟩
  rw [← ew1] at h1
  clear hp1
  have ho1 := h1.1
  have hs1 := h1.2.1
  have t1 : w1 0 = nI 0 := by rw [ew1]; rfl
  have k1 := (show w1 1 = w 1 from by rw [ew1]; rfl).trans k0
  have l1 := (show w1 2 = w 2 from by rw [ew1]; rfl).trans l0
  have O1 := zNO.fr O hf1 (by intro τ h; rcases h with h | h | h | h <;> omega)
  have F1 := zFr.trans zFr.refl (zFr.weaken hf1 zTYZ)
  refine v_iload_n dX4_goBack_5 rfl rfl ?_
  refine v_iconst (nI 0) dX4_goBack_6 (by decide) ?_
  refine v_iconst (nI 1) dX4_goBack_7 (by decide) ?_
  refine v_callSp kX4_42 gs_X4_in dX4_goBack_8 c_in rfl rfl (by decide) (Nat.le_of_ble_eq_true rfl) ?_
  rw [inN_y (Nat.zero_le e) (show e ≤ 1 by omega) (by omega)]
  refine v_if_ne 20 dX4_goBack_11 (by decide) (fun b11 => ?_) (fun b11 => ?_)
  · rw [show (0 : Int32) = nI 0 from rfl] at b11
    rw [nI_eq (by omega) (by omega)] at b11
    refine v_aload_n dX4_goBack_20 rfl rfl ?_
    refine v_getfield fX4_19 dX4_goBack_21 (by assumption) (by rfl) ?_
    refine v_iload_n dX4_goBack_24 rfl rfl ?_
    obtain ⟨-, -, ⟨g3z, h3a, h3v⟩, -⟩ := id O1
    refine v_zaload dX4_goBack_25 h3a (vp_in_nI (by omega) (by omega)) ?_
    rw [nI_clamp (n := e) (by omega), h3v e he]
    refine v_if_ne 35 dX4_goBack_26 (by decide) (fun b26 => ?_) (fun b26 => ?_)
    · refine v_aload_n dX4_goBack_35 rfl rfl ?_
      refine v_callV0 kX4_121 gi_X4_saves ge_X4_saves rfl dX4_goBack_36 (by assumption) (c_saves h1 k1 O1) rfl rfl (by decide) (Nat.le_of_ble_eq_true rfl) (fun f2 m hc2 => ?_)
      obtain ⟨⟨w2, h2, hk0, k2, O2, hf2⟩, rfl⟩ := hc2
      have t2 := (hk0 0 (by decide)).trans t1
      have l2 := (hk0 2 (by decide)).trans l1
      have F2 := zFr.trans F1 hf2
      have ho2 := h2.1
      have hs2 := h2.2.1
      refine v_iconst (nI 0) dX4_goBack_39 (by decide) ?_
      refine v_istore_n dX4_goBack_40 rfl (by decide) ?_
      obtain ⟨-, ⟨gsA, sAa, sAv⟩, -⟩ := id O2
      have bl : ∀ (kk i : Nat), i + kk = 904 → ∀ (fx : zHM) (σx : Nat → Int32), MX fx o B w2 hh σx mr → (∀ j, σx j = if j < i then sl e j else σ j) → zFr (fun τ => τ = 701) f2 fx → zV G yX4_goBack cX4_goBack 3 (some .int) 9 41 [(0, .ref o), (1, .int (nI e)), (2, .int (nI i))] [] (fx, m) (zD (some (.int (sl e 15))) (fun f' m' => zNP f o B hh mr 0 0 (sPK k) (sPM k sv σ) hsl sl L ch (fun σ' => ∀ i, i < 904 → σ' i = sl e i) f' ∧ m' = m)) := by
        intro kk
        induction kk with
        | zero =>
          intro i hi fx σx hx hgv hffx
          have hox := hx.1
          have hsx := hx.2.1
          have Ox := zNO.fr O2 hffx (by omega)
          have Fx := zFr.trans F2 (hffx.weaken (fun τ e => (⟨by omega, by omega⟩ : zTZ τ)))
          refine v_iload_n dX4_goBack_41 rfl rfl ?_
          refine v_sipush (nI 904) dX4_goBack_42 (by decide) ?_
          refine v_icmp_ge 72 dX4_goBack_45 (by decide) (fun b45 => ?_) (fun b45 => ?_)
          · rw [nI_leI (by omega) (by omega)] at b45
            refine v_aload_n dX4_goBack_72 rfl rfl ?_
            refine v_getfield fX4_7 dX4_goBack_73 (by assumption) (by rfl) ?_
            refine v_bipush (nI 15) dX4_goBack_76 (by decide) ?_
            refine v_iaload dX4_goBack_78 (by assumption) (vp_in_nI (by omega) (by omega)) ?_
            rw [nI_clamp (n := 15) (by omega)]
            exact v_ireturn dX4_goBack_79 rfl ⟨by rw [hgv 15, if_pos (by omega)], ⟨σx, mr, by omega, ⟨w2, hx, t2, k2, l2, Ox⟩, fun i9 hi9 => by rw [hgv i9, if_pos (by omega)], Fx⟩, rfl⟩
          · rw [nI_leI (by omega) (by omega)] at b45
            omega
        | succ kk ih =>
          intro i hi fx σx hx hgv hffx
          have hi9 : i < 904 := by omega
          have hox := hx.1
          have hsx := hx.2.1
          have sAx := hffx _ _ _ sAa (by omega)
          refine v_iload_n dX4_goBack_41 rfl rfl ?_
          refine v_sipush (nI 904) dX4_goBack_42 (by decide) ?_
          refine v_icmp_ge 72 dX4_goBack_45 (by decide) (fun b45 => ?_) (fun b45 => ?_)
          · rw [nI_leI (by omega) (by omega)] at b45
            omega
          · rw [nI_leI (by omega) (by omega)] at b45
            refine v_aload_n dX4_goBack_48 rfl rfl ?_
            refine v_getfield fX4_7 dX4_goBack_49 (by assumption) (by rfl) ?_
            refine v_iload_n dX4_goBack_52 rfl rfl ?_
            refine v_aload_n dX4_goBack_53 rfl rfl ?_
            refine v_getfield fX4_16 dX4_goBack_54 (by assumption) (by rfl) ?_
            refine v_sipush (nI 904) dX4_goBack_57 (by decide) ?_
            refine v_iload_n dX4_goBack_60 rfl rfl ?_
            refine v_imul dX4_goBack_61 ?_
            rw [pk_mul 904 e]
            refine v_iload_n dX4_goBack_62 rfl rfl ?_
            refine v_iadd dX4_goBack_63 ?_
            rw [nI_add (904 * e) i]
            refine v_iaload dX4_goBack_64 (by assumption) (vp_in_nI (by omega) (by omega)) ?_
            rw [nI_clamp (n := ((904 * e) + i)) (by omega), show gsA (((904 * e) + i)) = sl e i from sAv _ (by omega) i hi9]
            refine v_iastoreX dX4_goBack_65 hsx (vp_in_nI (by omega) (by omega)) (fun fy hp => ?_)
            rw [nI_clamp (n := i) (by omega)] at hp
            have hz : zFr (fun t => t = 701) fx fy := zFr.put (T := fun t => t = 701) zFr.refl hp rfl
            refine v_iincN dX4_goBack_66 rfl (by decide) ?_
            refine v_goto 41 dX4_goBack_69 (by decide) ?_
            exact v_loc (lv' := [(0, .ref o), (1, .int (nI e)), (2, .int (nI (i + 1)))]) ⟨rfl, rfl, rfl, trivial⟩ (ih (i + 1) (by omega) fy _ (hx.s hp.1 hz) (fun j => by
              show (if j = i then sl e i else σx j) = _
              rw [hgv j]
              by_cases z : j = i
              · rw [if_pos z, if_pos (by omega), z]
              · rw [if_neg z]
                by_cases z2 : j < i
                · rw [if_pos z2, if_pos (by omega)]
                · rw [if_neg z2, if_neg (by omega)]) (hffx.trans hz))
      exact v_loc (lv' := [(0, .ref o), (1, .int (nI e)), (2, .int (nI 0))]) ⟨rfl, rfl, rfl, trivial⟩ (bl 904 0 (by omega) f2 σ h2 (fun j => by rw [if_neg (by omega)]) zFr.refl)
    · exact absurd b26 hse
  · rw [show (0 : Int32) = nI 0 from rfl] at b11
    rw [nI_eq (by omega) (by omega)] at b11
    omega
set_option maxRecDepth 10000 in
set_option maxHeartbeats 1000000 in
theorem y_goBack_1 {G : zW} {f : zHM} {m : Nat × Nat} {o mr : Nat} {B : Nat → Nat} {w : Nat → Int32} {hh : Int64} {σ : Nat → Int32} (h : MX f o B w hh σ mr) {th : Int32} {k L : Nat} {sv : Nat → Nat → Int32} {hsl : Nat → Int32} {sl : Nat → Nat → Int32} {ch : Nat → Nat} (t : w 0 = th) (k0 : w 1 = nI k) (l0 : w 2 = nI L) (O : zNO f B k sv hsl sl L ch) {v : Int32} (hx : v < 0 ∨ ¬ v ≤ 1) : zM G yX4_goBack cX4_goBack 3 (some .int) 9 [.ref o, .int v] (f, m) (zD (some (.int 0)) (fun f' m' => zNP f o B hh mr 0 (nI 1) k sv hsl sl L ch (fun σ' => σ' = σ) f' ∧ m' = m)) := by
  refine zM.of (by decide) (Nat.le_of_ble_eq_true rfl) ?_
  have ho := h.1
  have hs := h.2.1
  refine v_aload_n dX4_goBack_0 rfl rfl ?_
  refine v_iconst (nI 0) dX4_goBack_1 (by decide) ?_
  refine v_putfieldX fX4_35 dX4_goBack_2 (by assumption) rfl rfl (Nat.le_of_ble_eq_true rfl) (fun f1 hp1 => ?_)
  obtain ⟨h1, hf1⟩ := MX.put (w' := zUp w 0 (nI 0)) (f0 := f) h hp1 rfl zFr.refl
  obtain ⟨w1, ew1⟩ : ∃ w9, w9 = zUp w 0 (nI 0) := ⟨_, rfl⟩
  rw [← ew1] at h1
  clear hp1
  have ho1 := h1.1
  have hs1 := h1.2.1
  have t1 : w1 0 = nI 0 := by rw [ew1]; rfl
  have k1 := (show w1 1 = w 1 from by rw [ew1]; rfl).trans k0
  have l1 := (show w1 2 = w 2 from by rw [ew1]; rfl).trans l0
  have O1 := zNO.fr O hf1 (by intro τ h; rcases h with h | h | h | h <;> omega)
  have F1 := zFr.trans zFr.refl (zFr.weaken hf1 zTYZ)
  refine v_iload_n dX4_goBack_5 rfl rfl ?_
  refine v_iconst (nI 0) dX4_goBack_6 (by decide) ?_
  refine v_iconst (nI 1) dX4_goBack_7 (by decide) ?_
  refine v_callSp kX4_42 gs_X4_in dX4_goBack_8 c_in rfl rfl (by decide) (Nat.le_of_ble_eq_true rfl) ?_
  rw [in_n (a := nI 0) (b := nI 1) hx]
  refine v_if_ne 20 dX4_goBack_11 (by decide) (fun b11 => ?_) (fun b11 => ?_)
  · rw [show (0 : Int32) = nI 0 from rfl] at b11
    rw [nI_eq (by omega) (by omega)] at b11
    omega
  · rw [show (0 : Int32) = nI 0 from rfl] at b11
    rw [nI_eq (by omega) (by omega)] at b11
    refine v_aload_n dX4_goBack_14 rfl rfl ?_
    refine v_iconst (nI 1) dX4_goBack_15 (by decide) ?_
    refine v_callV1 kX4_118 gi_X4_fails ge_X4_fails rfl dX4_goBack_16 (by assumption) (c_fails h1) rfl rfl (by decide) (Nat.le_of_ble_eq_true rfl) (fun f2 m hc2 => ?_)
    obtain ⟨⟨w2, h2, t2, hq2, hf2⟩, rfl⟩ := hc2
    have k2 := (hq2 1 (by decide)).trans k1
    have l2 := (hq2 2 (by decide)).trans l1
    have ho2 := h2.1
    have hs2 := h2.2.1
    have O2 := zNO.fr O1 hf2 (by intro τ h; rcases h with h | h | h | h <;> omega)
    have F2 := zFr.trans F1 (zFr.weaken hf2 zTYZ)
    exact v_ireturn dX4_goBack_19 rfl ⟨rfl, ⟨σ, mr, by omega, ⟨w2, h2, t2, k2, l2, O2⟩, rfl, F2⟩, rfl⟩
set_option maxRecDepth 10000 in
set_option maxHeartbeats 1000000 in
theorem y_goBack_2 {G : zW} {f : zHM} {m : Nat × Nat} {o mr : Nat} {B : Nat → Nat} {w : Nat → Int32} {hh : Int64} {σ : Nat → Int32} (h : MX f o B w hh σ mr) {th : Int32} {k L : Nat} {sv : Nat → Nat → Int32} {hsl : Nat → Int32} {sl : Nat → Nat → Int32} {ch : Nat → Nat} (t : w 0 = th) (k0 : w 1 = nI k) (l0 : w 2 = nI L) (O : zNO f B k sv hsl sl L ch) {e : Nat} (he : e < 2) (hse : hsl e = 0) : zM G yX4_goBack cX4_goBack 3 (some .int) 9 [.ref o, .int (nI e)] (f, m) (zD (some (.int 0)) (fun f' m' => zNP f o B hh mr 0 (nI 2) k sv hsl sl L ch (fun σ' => σ' = σ) f' ∧ m' = m)) := by
  refine zM.of (by decide) (Nat.le_of_ble_eq_true rfl) ?_
  have ho := h.1
  have hs := h.2.1
  refine v_aload_n dX4_goBack_0 rfl rfl ?_
  refine v_iconst (nI 0) dX4_goBack_1 (by decide) ?_
  refine v_putfieldX fX4_35 dX4_goBack_2 (by assumption) rfl rfl (Nat.le_of_ble_eq_true rfl) (fun f1 hp1 => ?_)
  obtain ⟨h1, hf1⟩ := MX.put (w' := zUp w 0 (nI 0)) (f0 := f) h hp1 rfl zFr.refl
  obtain ⟨w1, ew1⟩ : ∃ w9, w9 = zUp w 0 (nI 0) := ⟨_, rfl⟩
  rw [← ew1] at h1
  clear hp1
  have ho1 := h1.1
  have hs1 := h1.2.1
  have t1 : w1 0 = nI 0 := by rw [ew1]; rfl
  have k1 := (show w1 1 = w 1 from by rw [ew1]; rfl).trans k0
  have l1 := (show w1 2 = w 2 from by rw [ew1]; rfl).trans l0
  have O1 := zNO.fr O hf1 (by intro τ h; rcases h with h | h | h | h <;> omega)
  have F1 := zFr.trans zFr.refl (zFr.weaken hf1 zTYZ)
  refine v_iload_n dX4_goBack_5 rfl rfl ?_
  refine v_iconst (nI 0) dX4_goBack_6 (by decide) ?_
  refine v_iconst (nI 1) dX4_goBack_7 (by decide) ?_
  refine v_callSp kX4_42 gs_X4_in dX4_goBack_8 c_in rfl rfl (by decide) (Nat.le_of_ble_eq_true rfl) ?_
  rw [inN_y (Nat.zero_le e) (show e ≤ 1 by omega) (by omega)]
  refine v_if_ne 20 dX4_goBack_11 (by decide) (fun b11 => ?_) (fun b11 => ?_)
  · rw [show (0 : Int32) = nI 0 from rfl] at b11
    rw [nI_eq (by omega) (by omega)] at b11
    refine v_aload_n dX4_goBack_20 rfl rfl ?_
    refine v_getfield fX4_19 dX4_goBack_21 (by assumption) (by rfl) ?_
    refine v_iload_n dX4_goBack_24 rfl rfl ?_
    obtain ⟨-, -, ⟨g3z, h3a, h3v⟩, -⟩ := id O1
    refine v_zaload dX4_goBack_25 h3a (vp_in_nI (by omega) (by omega)) ?_
    rw [nI_clamp (n := e) (by omega), h3v e he]
    refine v_if_ne 35 dX4_goBack_26 (by decide) (fun b26 => ?_) (fun b26 => ?_)
    · exact absurd hse b26
    · refine v_aload_n dX4_goBack_29 rfl rfl ?_
      refine v_iconst (nI 2) dX4_goBack_30 (by decide) ?_
      refine v_callV1 kX4_118 gi_X4_fails ge_X4_fails rfl dX4_goBack_31 (by assumption) (c_fails h1) rfl rfl (by decide) (Nat.le_of_ble_eq_true rfl) (fun f2 m hc2 => ?_)
      obtain ⟨⟨w2, h2, t2, hq2, hf2⟩, rfl⟩ := hc2
      have k2 := (hq2 1 (by decide)).trans k1
      have l2 := (hq2 2 (by decide)).trans l1
      have ho2 := h2.1
      have hs2 := h2.2.1
      have O2 := zNO.fr O1 hf2 (by intro τ h; rcases h with h | h | h | h <;> omega)
      have F2 := zFr.trans F1 (zFr.weaken hf2 zTYZ)
      exact v_ireturn dX4_goBack_34 rfl ⟨rfl, ⟨σ, mr, by omega, ⟨w2, h2, t2, k2, l2, O2⟩, rfl, F2⟩, rfl⟩
  · rw [show (0 : Int32) = nI 0 from rfl] at b11
    rw [nI_eq (by omega) (by omega)] at b11
    omega
theorem zNO.pop {f : zHM} {B : Nat → Nat} {k L : Nat} {sv : Nat → Nat → Int32} {hsl : Nat → Int32} {sl : Nat → Nat → Int32} {ch : Nat → Nat} (h : zNO f B (k + 1) sv hsl sl L ch) : zNO f B k sv hsl sl L ch := by
  obtain ⟨⟨h1, g, h2, h3⟩, h4⟩ := h
  exact ⟨⟨by omega, g, h2, fun j hj => h3 j (by omega)⟩, h4⟩
set_option maxRecDepth 10000 in
set_option maxHeartbeats 1000000 in
theorem c_m9undo {G : zW} {f : zHM} {m : Nat × Nat} {o mr : Nat} {B : Nat → Nat} {w : Nat → Int32} {hh : Int64} {σ : Nat → Int32} (h : MX f o B w hh σ mr) {th : Int32} {k L : Nat} {sv : Nat → Nat → Int32} {hsl : Nat → Int32} {sl : Nat → Nat → Int32} {ch : Nat → Nat} (t : w 0 = th) (k0 : w 1 = nI (k + 1)) (l0 : w 2 = nI L) (O : zNO f B (k + 1) sv hsl sl L ch) : zM G yX4_undo cX4_undo 2 (some .int) 9 [.ref o] (f, m) (zD (some (.int (nI k))) (fun f' m' => zNP f o B hh mr 0 0 k sv hsl sl L ch (fun σ' => ∀ i, i < 904 → σ' i = sv k i) f' ∧ m' = m)) := by
  refine zM.of (by decide) (Nat.le_of_ble_eq_true rfl) ?_
  have ho := h.1
  have hs := h.2.1
  have hk60 := O.1.1
  refine v_aload_n dX4_undo_0 rfl rfl ?_
  refine v_iconst (nI 0) dX4_undo_1 (by decide) ?_
  refine v_putfieldX fX4_35 dX4_undo_2 (by assumption) rfl rfl (Nat.le_of_ble_eq_true rfl) (fun f1 hp1 => ?_)
  obtain ⟨h1, hf1⟩ := MX.put (w' := zUp w 0 (nI 0)) (f0 := f) h hp1 rfl zFr.refl
  obtain ⟨w1, ew1⟩ : ∃ w9, w9 = zUp w 0 (nI 0) := ⟨_, rfl⟩
  rw [← ew1] at h1
  clear hp1
  have ho1 := h1.1
  have hs1 := h1.2.1
  have t1 : w1 0 = nI 0 := by rw [ew1]; rfl
  have k1 := (show w1 1 = w 1 from by rw [ew1]; rfl).trans k0
  have l1 := (show w1 2 = w 2 from by rw [ew1]; rfl).trans l0
  have O1 := zNO.fr O hf1 (by intro τ h; rcases h with h | h | h | h <;> omega)
  have F1 := zFr.trans zFr.refl (zFr.weaken hf1 zTYZ)
  refine v_aload_n dX4_undo_5 rfl rfl ?_
  refine v_getfield fX4_39 dX4_undo_6 (by assumption) (by rfl) ?_
  rw [k1]
  refine v_if_ne 18 dX4_undo_9 (by decide) (fun b9 => ?_) (fun b9 => ?_)
  · rw [show (0 : Int32) = nI 0 from rfl] at b9
    rw [nI_eq (by omega) (by omega)] at b9
    refine v_aload_n dX4_undo_18 rfl rfl ?_
    refine v_dup dX4_undo_19 rfl ?_
    refine v_getfield fX4_39 dX4_undo_20 (by assumption) (by rfl) ?_
    rw [k1]
    refine v_iconst (nI 1) dX4_undo_23 (by decide) ?_
    refine v_isub dX4_undo_24 ?_
    rw [show nI (k + 1) - nI 1 = nI k from pk_sub (by omega)]
    refine v_putfieldX fX4_39 dX4_undo_25 (by assumption) rfl rfl (Nat.le_of_ble_eq_true rfl) (fun f2 hp2 => ?_)
    obtain ⟨h2, hf2⟩ := MX.put (w' := zUp w1 1 (nI k)) (f0 := f1) h1 hp2 rfl zFr.refl
    obtain ⟨w2, ew2⟩ : ∃ w9, w9 = zUp w1 1 (nI k) := ⟨_, rfl⟩
    rw [← ew2] at h2
    clear hp2
    have ho2 := h2.1
    have hs2 := h2.2.1
    have t2 := (show w2 0 = w1 0 from by rw [ew2]; rfl).trans t1
    have k2 : w2 1 = nI k := by rw [ew2]; rfl
    have l2 := (show w2 2 = w1 2 from by rw [ew2]; rfl).trans l1
    have O2 := zNO.fr O1 hf2 (by intro τ h; rcases h with h | h | h | h <;> omega)
    have F2 := zFr.trans F1 (zFr.weaken hf2 zTYZ)
    replace O2 := O2.pop
    refine v_iconst (nI 0) dX4_undo_28 (by decide) ?_
    refine v_istore_n dX4_undo_29 rfl (by decide) ?_
    obtain ⟨⟨hkA, gsA, sAa, sAv0⟩, -⟩ := id O1
    have sAa := hf2 _ _ _ sAa (by intro z; rcases z with z | z | z | z <;> omega)
    have sAv : ∀ j, j = k → ∀ i, i < 904 → gsA (904 * j + i) = sv k i := fun j hj i hi => by rw [hj]; exact sAv0 k (by omega) i hi
    have bl : ∀ (kk i : Nat), i + kk = 904 → ∀ (fx : zHM) (σx : Nat → Int32), MX fx o B w2 hh σx mr → (∀ j, σx j = if j < i then sv k j else σ j) → zFr (fun τ => τ = 701) f2 fx → zV G yX4_undo cX4_undo 2 (some .int) 9 30 [(0, .ref o), (1, .int (nI i))] [] (fx, m) (zD (some (.int (nI k))) (fun f' m' => zNP f o B hh mr 0 0 k sv hsl sl L ch (fun σ' => ∀ i, i < 904 → σ' i = sv k i) f' ∧ m' = m)) := by
      intro kk
      induction kk with
      | zero =>
        intro i hi fx σx hx hgv hffx
        have hox := hx.1
        have hsx := hx.2.1
        have Ox := zNO.fr O2 hffx (by omega)
        have Fx := zFr.trans F2 (hffx.weaken (fun τ e => (⟨by omega, by omega⟩ : zTZ τ)))
        refine v_iload_n dX4_undo_30 rfl rfl ?_
        refine v_sipush (nI 904) dX4_undo_31 (by decide) ?_
        refine v_icmp_ge 64 dX4_undo_34 (by decide) (fun b34 => ?_) (fun b34 => ?_)
        · rw [nI_leI (by omega) (by omega)] at b34
          refine v_aload_n dX4_undo_64 rfl rfl ?_
          refine v_getfield fX4_39 dX4_undo_65 (by assumption) (by rfl) ?_
          rw [k2]
          exact v_ireturn dX4_undo_68 rfl ⟨rfl, ⟨σx, mr, by omega, ⟨w2, hx, t2, k2, l2, Ox⟩, fun i9 hi9 => by rw [hgv i9, if_pos (by omega)], Fx⟩, rfl⟩
        · rw [nI_leI (by omega) (by omega)] at b34
          omega
      | succ kk ih =>
        intro i hi fx σx hx hgv hffx
        have hi9 : i < 904 := by omega
        have hox := hx.1
        have hsx := hx.2.1
        have sAx := hffx _ _ _ sAa (by omega)
        refine v_iload_n dX4_undo_30 rfl rfl ?_
        refine v_sipush (nI 904) dX4_undo_31 (by decide) ?_
        refine v_icmp_ge 64 dX4_undo_34 (by decide) (fun b34 => ?_) (fun b34 => ?_)
        · rw [nI_leI (by omega) (by omega)] at b34
          omega
        · rw [nI_leI (by omega) (by omega)] at b34
          refine v_aload_n dX4_undo_37 rfl rfl ?_
          refine v_getfield fX4_7 dX4_undo_38 (by assumption) (by rfl) ?_
          refine v_iload_n dX4_undo_41 rfl rfl ?_
          refine v_aload_n dX4_undo_42 rfl rfl ?_
          refine v_getfield fX4_13 dX4_undo_43 (by assumption) (by rfl) ?_
          refine v_sipush (nI 904) dX4_undo_46 (by decide) ?_
          refine v_aload_n dX4_undo_49 rfl rfl ?_
          refine v_getfield fX4_39 dX4_undo_50 (by assumption) (by rfl) ?_
          rw [k2]
          refine v_imul dX4_undo_53 ?_
          rw [pk_mul 904 k]
          refine v_iload_n dX4_undo_54 rfl rfl ?_
          refine v_iadd dX4_undo_55 ?_
          rw [nI_add (904 * k) i]
          refine v_iaload dX4_undo_56 (by assumption) (vp_in_nI (by omega) (by omega)) ?_
          rw [nI_clamp (n := ((904 * k) + i)) (by omega), show gsA (((904 * k) + i)) = sv k i from sAv _ (by omega) i hi9]
          refine v_iastoreX dX4_undo_57 hsx (vp_in_nI (by omega) (by omega)) (fun fy hp => ?_)
          rw [nI_clamp (n := i) (by omega)] at hp
          have hz : zFr (fun t => t = 701) fx fy := zFr.put (T := fun t => t = 701) zFr.refl hp rfl
          refine v_iincN dX4_undo_58 rfl (by decide) ?_
          refine v_goto 30 dX4_undo_61 (by decide) ?_
          exact v_loc (lv' := [(0, .ref o), (1, .int (nI (i + 1)))]) ⟨rfl, rfl, trivial⟩ (ih (i + 1) (by omega) fy _ (hx.s hp.1 hz) (fun j => by
            show (if j = i then sv k i else σx j) = _
            rw [hgv j]
            by_cases z : j = i
            · rw [if_pos z, if_pos (by omega), z]
            · rw [if_neg z]
              by_cases z2 : j < i
              · rw [if_pos z2, if_pos (by omega)]
              · rw [if_neg z2, if_neg (by omega)]) (hffx.trans hz))
    exact v_loc (lv' := [(0, .ref o), (1, .int (nI 0))]) ⟨rfl, rfl, trivial⟩ (bl 904 0 (by omega) f2 σ h2 (fun j => by rw [if_neg (by omega)]) zFr.refl)
  · rw [show (0 : Int32) = nI 0 from rfl] at b9
    rw [nI_eq (by omega) (by omega)] at b9
    omega
set_option maxRecDepth 10000 in
set_option maxHeartbeats 1000000 in
theorem y_undo_1 {G : zW} {f : zHM} {m : Nat × Nat} {o mr : Nat} {B : Nat → Nat} {w : Nat → Int32} {hh : Int64} {σ : Nat → Int32} (h : MX f o B w hh σ mr) {th : Int32} {k L : Nat} {sv : Nat → Nat → Int32} {hsl : Nat → Int32} {sl : Nat → Nat → Int32} {ch : Nat → Nat} (t : w 0 = th) (k0 : w 1 = nI k) (l0 : w 2 = nI L) (O : zNO f B k sv hsl sl L ch) (hk0 : k = 0) : zM G yX4_undo cX4_undo 2 (some .int) 9 [.ref o] (f, m) (zD (some (.int 0)) (fun f' m' => zNP f o B hh mr 0 (nI 1) k sv hsl sl L ch (fun σ' => σ' = σ) f' ∧ m' = m)) := by
  refine zM.of (by decide) (Nat.le_of_ble_eq_true rfl) ?_
  have ho := h.1
  have hs := h.2.1
  have hk60 := O.1.1
  refine v_aload_n dX4_undo_0 rfl rfl ?_
  refine v_iconst (nI 0) dX4_undo_1 (by decide) ?_
  refine v_putfieldX fX4_35 dX4_undo_2 (by assumption) rfl rfl (Nat.le_of_ble_eq_true rfl) (fun f1 hp1 => ?_)
  obtain ⟨h1, hf1⟩ := MX.put (w' := zUp w 0 (nI 0)) (f0 := f) h hp1 rfl zFr.refl
  obtain ⟨w1, ew1⟩ : ∃ w9, w9 = zUp w 0 (nI 0) := ⟨_, rfl⟩
  rw [← ew1] at h1
  clear hp1
  have ho1 := h1.1
  have hs1 := h1.2.1
  have t1 : w1 0 = nI 0 := by rw [ew1]; rfl
  have k1 := (show w1 1 = w 1 from by rw [ew1]; rfl).trans k0
  have l1 := (show w1 2 = w 2 from by rw [ew1]; rfl).trans l0
  have O1 := zNO.fr O hf1 (by intro τ h; rcases h with h | h | h | h <;> omega)
  have F1 := zFr.trans zFr.refl (zFr.weaken hf1 zTYZ)
  refine v_aload_n dX4_undo_5 rfl rfl ?_
  refine v_getfield fX4_39 dX4_undo_6 (by assumption) (by rfl) ?_
  rw [k1]
  refine v_if_ne 18 dX4_undo_9 (by decide) (fun b9 => ?_) (fun b9 => ?_)
  · rw [show (0 : Int32) = nI 0 from rfl] at b9
    rw [nI_eq (by omega) (by omega)] at b9
    omega
  · rw [show (0 : Int32) = nI 0 from rfl] at b9
    rw [nI_eq (by omega) (by omega)] at b9
    refine v_aload_n dX4_undo_12 rfl rfl ?_
    refine v_iconst (nI 1) dX4_undo_13 (by decide) ?_
    refine v_callV1 kX4_118 gi_X4_fails ge_X4_fails rfl dX4_undo_14 (by assumption) (c_fails h1) rfl rfl (by decide) (Nat.le_of_ble_eq_true rfl) (fun f2 m hc2 => ?_)
    obtain ⟨⟨w2, h2, t2, hq2, hf2⟩, rfl⟩ := hc2
    have k2 := (hq2 1 (by decide)).trans k1
    have l2 := (hq2 2 (by decide)).trans l1
    have ho2 := h2.1
    have hs2 := h2.2.1
    have O2 := zNO.fr O1 hf2 (by intro τ h; rcases h with h | h | h | h <;> omega)
    have F2 := zFr.trans F1 (zFr.weaken hf2 zTYZ)
    exact v_ireturn dX4_undo_17 rfl ⟨rfl, ⟨σ, mr, by omega, ⟨w2, h2, t2, k2, l2, O2⟩, rfl, F2⟩, rfl⟩
