theorem gM144 : Cond.constantDouble RX4 233 4639270566145032192 ∈ GT := GT_in (by decide +kernel) (by decide +kernel)
theorem gMfar : Cond.constant RX4 220 (-1000000) ∈ GT := GT_in (by decide +kernel) (by decide +kernel)
set_option maxRecDepth 10000 in
set_option maxHeartbeats 1000000 in
theorem c_over {G : zW} {f : zHM} {m : Nat × Nat} {o mr : Nat} {B : Nat → Nat} {w : Nat → Int32} {hh : Int64} {σ : Nat → Int32} (h : MX f o B w hh σ mr) (hmr9 : mr + 300 < 2 ^ 30) {N s n : Nat} (hw : RW (rOf σ) N s n) (hn : σ 15 = nI n) (hn2 : n ≤ 200) {q : Nat} (hq : q < 144) : zM G yX4_over cX4_over 4 (some .int) 5 [.ref o, .int (nI q)] (f, m) (zD (some (.int (sXs (rOf σ) s n q))) (fun f' m' => zNQ f w o B hh σ mr 200 f' ∧ m' = m)) := by
  refine zM.of (by decide) (Nat.le_of_ble_eq_true rfl) ?_
  have ho := h.1
  have hs := h.2.1
  have hv := hw.1
  have hp := hv.pos
  have loop : ∀ (kk i : Nat), i + kk = n → ∀ (f1 : zHM) (w1 : Nat → Int32) (mr1 : Nat), MX f1 o B w1 hh σ mr1 → mr1 ≤ mr + i → wK w w1 → zFr zTY f f1 → zV G yX4_over cX4_over 4 (some .int) 5 4 [(0, .ref o), (1, .int (nI q)), (2, .int (sSum (fun c => if q ∈ sPa s (zn (rOf σ 4 c)) (zn (rOf σ 5 c)) then 1 else 0) i)), (3, .int (nI i))] [] (f1, m) (zD (some (.int (sXs (rOf σ) s n q))) (fun f' m' => zNQ f w o B hh σ mr 200 f' ∧ m' = m)) := by
    intro kk
    induction kk with
    | zero =>
      intro i hi f1 w1 mr1 h1 hm1 hk1 hf1
      have ho1 := h1.1
      have hs1 := h1.2.1
      refine v_iload_n dX4_over_4 rfl rfl ?_
      refine v_aload_n dX4_over_5 rfl rfl ?_
      refine v_getfield fX4_7 dX4_over_6 (by assumption) (by rfl) ?_
      refine v_bipush (nI 15) dX4_over_9 (by decide) ?_
      refine v_iaload dX4_over_11 (by assumption) (vp_in_nI (by omega) (by omega)) ?_
      rw [nI_clamp (n := 15) (by omega)]
      rw [hn]
      refine v_icmp_ge 58 dX4_over_12 (by decide) (fun b12 => ?_) (fun b12 => ?_)
      · rw [nI_leI (by omega) (by omega)] at b12
        refine v_iload_n dX4_over_58 rfl rfl ?_
        exact v_ireturn dX4_over_59 rfl ⟨by rw [show i = n from by omega]; rfl, ⟨mr1, by omega, w1, h1, hk1, hf1⟩, rfl⟩
      · rw [nI_leI (by omega) (by omega)] at b12
        omega
    | succ kk ih =>
      intro i hi f1 w1 mr1 h1 hm1 hk1 hf1
      have ho1 := h1.1
      have hs1 := h1.2.1
      have h9 : i < n := by omega
      obtain ⟨a, b, u, ha, hb, hab, hu, q4, q5, q6⟩ := hw.2.2 i h9
      have q4 : σ (16 + 3 * i + 0) = nI a := q4
      have q5 : σ (16 + 3 * i + 1) = nI b := q5
      refine v_iload_n dX4_over_4 rfl rfl ?_
      refine v_aload_n dX4_over_5 rfl rfl ?_
      refine v_getfield fX4_7 dX4_over_6 (by assumption) (by rfl) ?_
      refine v_bipush (nI 15) dX4_over_9 (by decide) ?_
      refine v_iaload dX4_over_11 (by assumption) (vp_in_nI (by omega) (by omega)) ?_
      rw [nI_clamp (n := 15) (by omega)]
      rw [hn]
      refine v_icmp_ge 58 dX4_over_12 (by decide) (fun b12 => ?_) (fun b12 => ?_)
      · rw [nI_leI (by omega) (by omega)] at b12
        omega
      · rw [nI_leI (by omega) (by omega)] at b12
        refine v_aload_n dX4_over_15 rfl rfl ?_
        refine v_aload_n dX4_over_16 rfl rfl ?_
        refine v_iload_n dX4_over_17 rfl rfl ?_
        refine v_iconst (nI 0) dX4_over_18 (by decide) ?_
        refine v_callVp kX4_78 gi_X4_ofChord ge_X4_ofChord rfl dX4_over_19 (by assumption) (c_ofChord ho1 hs1 (k := 0) (show i < 200 by omega) (by omega)) rfl rfl (by decide) (Nat.le_of_ble_eq_true rfl) ?_
        rw [q4]
        refine v_aload_n dX4_over_22 rfl rfl ?_
        refine v_iload_n dX4_over_23 rfl rfl ?_
        refine v_iconst (nI 1) dX4_over_24 (by decide) ?_
        refine v_callVp kX4_78 gi_X4_ofChord ge_X4_ofChord rfl dX4_over_25 (by assumption) (c_ofChord ho1 hs1 (k := 1) (show i < 200 by omega) (by omega)) rfl rfl (by decide) (Nat.le_of_ble_eq_true rfl) ?_
        rw [q5]
        refine v_callV0 kX4_85 gi_X4_laysCrossed ge_X4_laysCrossed rfl dX4_over_28 (by assumption) (c_lays h1 (by omega) hv ha hb hab) rfl rfl (by decide) (Nat.le_of_ble_eq_true rfl) (fun f2 m hc2 => ?_)
        obtain ⟨⟨w2, h2, hk2, hf2, hw32, hw42, ⟨gc2, hcr2, hgc2⟩, gm2, hgm2, hgv2⟩, rfl⟩ := hc2
        replace hk2 := hk1.trans hk2
        replace hf2 := zFr.trans hf1 hf2
        have ho2 := h2.1
        have hs2 := h2.2.1
        refine v_iload_n dX4_over_31 rfl rfl ?_
        refine v_aload_n dX4_over_32 rfl rfl ?_
        refine v_getfield fX4_29 dX4_over_33 (by assumption) (by rfl) ?_
        refine v_iload_n dX4_over_36 rfl rfl ?_
        refine v_iaload dX4_over_37 (by assumption) (vp_in_nI (by omega) (by omega)) ?_
        rw [nI_clamp (n := q) (by omega)]
        refine v_aload_n dX4_over_38 rfl rfl ?_
        refine v_getfield fX4_65 dX4_over_39 (by assumption) (by rfl) ?_
        rw [hw42]
        refine v_icmp_ne 49 dX4_over_42 (by decide) (fun b42 => ?_) (fun b42 => ?_)
        · refine v_iconst (0) dX4_over_49 (by decide) ?_
          refine v_iadd dX4_over_50 ?_
          refine v_istore_n dX4_over_51 rfl (by decide) ?_
          refine v_iincN dX4_over_52 rfl (by decide) ?_
          refine v_goto 4 dX4_over_55 (by decide) ?_
          exact v_loc (lv' := [(0, .ref o), (1, .int (nI q)), (2, .int (sSum (fun c => if q ∈ sPa s (zn (rOf σ 4 c)) (zn (rOf σ 5 c)) then 1 else 0) (i + 1))), (3, .int (nI (i + 1)))]) ⟨rfl, rfl, zlkE rfl (by show _ = sSum _ i + (if q ∈ sPa s (zn (σ (16 + 3 * i + 0))) (zn (σ (16 + 3 * i + 1))) then 1 else 0); rw [q4, q5, zn_nI (by omega), zn_nI (by omega)]; first | rw [if_pos ((hgv2 q hq).mpr b42)] | rw [if_neg (fun z => b42 ((hgv2 q hq).mp z))]), rfl, trivial⟩ (ih (i + 1) (by omega) _ _ _ h2 (by omega) hk2 hf2)
        · refine v_iconst (1) dX4_over_45 (by decide) ?_
          refine v_goto 50 dX4_over_46 (by decide) ?_
          refine v_iadd dX4_over_50 ?_
          refine v_istore_n dX4_over_51 rfl (by decide) ?_
          refine v_iincN dX4_over_52 rfl (by decide) ?_
          refine v_goto 4 dX4_over_55 (by decide) ?_
          exact v_loc (lv' := [(0, .ref o), (1, .int (nI q)), (2, .int (sSum (fun c => if q ∈ sPa s (zn (rOf σ 4 c)) (zn (rOf σ 5 c)) then 1 else 0) (i + 1))), (3, .int (nI (i + 1)))]) ⟨rfl, rfl, zlkE rfl (by show _ = sSum _ i + (if q ∈ sPa s (zn (σ (16 + 3 * i + 0))) (zn (σ (16 + 3 * i + 1))) then 1 else 0); rw [q4, q5, zn_nI (by omega), zn_nI (by omega)]; first | rw [if_pos ((hgv2 q hq).mpr b42)] | rw [if_neg (fun z => b42 ((hgv2 q hq).mp z))]), rfl, trivial⟩ (ih (i + 1) (by omega) _ _ _ h2 (by omega) hk2 hf2)
  refine v_iconst (0) dX4_over_0 (by decide) ?_
  refine v_istore_n dX4_over_1 rfl (by decide) ?_
  refine v_iconst (nI 0) dX4_over_2 (by decide) ?_
  refine v_istore_n dX4_over_3 rfl (by decide) ?_
  exact v_loc (lv' := [(0, .ref o), (1, .int (nI q)), (2, .int (sSum (fun c => if q ∈ sPa s (zn (rOf σ 4 c)) (zn (rOf σ 5 c)) then 1 else 0) 0)), (3, .int (nI 0))]) ⟨rfl, rfl, rfl, rfl, trivial⟩ (loop n 0 (by omega) f w mr h (by omega) (wK.refl w) zFr.refl)
set_option maxRecDepth 10000 in
set_option maxHeartbeats 1000000 in
theorem c_tellsNail_0 {G : zW} {f : zHM} {m : Nat × Nat} {o mr : Nat} {B : Nat → Nat} {w : Nat → Int32} {hh : Int64} {σ : Nat → Int32} (h : MX f o B w hh σ mr) {N s n : Nat} (hw : RW (rOf σ) N s n) (hn : σ 15 = nI n) (hn2 : n ≤ 200) {b : Nat} (hb : b < N) : zM G yX4_tellsNail cX4_tellsNail 3 (some .int) 4 [.ref o, .int (nI b), .int (nI 0)] (f, m) (zS (.int (sNailOf (rOf σ) s n b 0)) f m) := by
  refine zM.of (by decide) (Nat.le_of_ble_eq_true rfl) ?_
  have ho := h.1
  have hs := h.2.1
  have hv := hw.1
  have hN : σ 0 = nI N := hv.1
  have hp := hv.pos
  refine v_iload_n dX4_tellsNail_0 rfl rfl ?_
  refine v_tableIn 28 dX4_tellsNail_1 (by decide) (by decide) (off := 27) (by rfl) (by decide) ?_
  refine v_aload_n dX4_tellsNail_28 rfl rfl ?_
  refine v_iload_n dX4_tellsNail_29 rfl rfl ?_
  refine v_callVp kX4_53 gi_X4_x ge_X4_x rfl dX4_tellsNail_30 (by assumption) (c_mx ho hs hN hv.2.2.1 hv.2.2.2 hb) rfl rfl (by decide) (Nat.le_of_ble_eq_true rfl) ?_
  exact v_ireturn dX4_tellsNail_33 rfl ⟨rfl, rfl, rfl⟩
set_option maxRecDepth 10000 in
set_option maxHeartbeats 1000000 in
theorem c_tellsNail_1 {G : zW} {f : zHM} {m : Nat × Nat} {o mr : Nat} {B : Nat → Nat} {w : Nat → Int32} {hh : Int64} {σ : Nat → Int32} (h : MX f o B w hh σ mr) {N s n : Nat} (hw : RW (rOf σ) N s n) (hn : σ 15 = nI n) (hn2 : n ≤ 200) {b : Nat} (hb : b < N) : zM G yX4_tellsNail cX4_tellsNail 3 (some .int) 4 [.ref o, .int (nI b), .int (nI 1)] (f, m) (zS (.int (sNailOf (rOf σ) s n b 1)) f m) := by
  refine zM.of (by decide) (Nat.le_of_ble_eq_true rfl) ?_
  have ho := h.1
  have hs := h.2.1
  have hv := hw.1
  have hN : σ 0 = nI N := hv.1
  have hp := hv.pos
  refine v_iload_n dX4_tellsNail_0 rfl rfl ?_
  refine v_tableIn 34 dX4_tellsNail_1 (by decide) (by decide) (off := 33) (by rfl) (by decide) ?_
  refine v_aload_n dX4_tellsNail_34 rfl rfl ?_
  refine v_iload_n dX4_tellsNail_35 rfl rfl ?_
  refine v_callVp kX4_56 gi_X4_y ge_X4_y rfl dX4_tellsNail_36 (by assumption) (c_my ho hs hN hv.2.2.1 hv.2.2.2 hb) rfl rfl (by decide) (Nat.le_of_ble_eq_true rfl) ?_
  exact v_ireturn dX4_tellsNail_39 rfl ⟨rfl, rfl, rfl⟩
set_option maxRecDepth 10000 in
set_option maxHeartbeats 1000000 in
theorem c_tellsNail_2 {G : zW} {f : zHM} {m : Nat × Nat} {o mr : Nat} {B : Nat → Nat} {w : Nat → Int32} {hh : Int64} {σ : Nat → Int32} (h : MX f o B w hh σ mr) {N s n : Nat} (hw : RW (rOf σ) N s n) (hn : σ 15 = nI n) (hn2 : n ≤ 200) {b : Nat} (hb : b < N) : zM G yX4_tellsNail cX4_tellsNail 3 (some .int) 4 [.ref o, .int (nI b), .int (nI 2)] (f, m) (zS (.int (sNailOf (rOf σ) s n b 2)) f m) := by
  refine zM.of (by decide) (Nat.le_of_ble_eq_true rfl) ?_
  have ho := h.1
  have hs := h.2.1
  have hv := hw.1
  have hN : σ 0 = nI N := hv.1
  have hp := hv.pos
  refine v_iload_n dX4_tellsNail_0 rfl rfl ?_
  refine v_tableIn 40 dX4_tellsNail_1 (by decide) (by decide) (off := 39) (by rfl) (by decide) ?_
  refine v_aload_n dX4_tellsNail_40 rfl rfl ?_
  refine v_iload_n dX4_tellsNail_41 rfl rfl ?_
  refine v_callVp kX4_187 gi_X4_ends ge_X4_ends rfl dX4_tellsNail_42 (by assumption) (c_mends h hw hn hn2) rfl rfl (by decide) (Nat.le_of_ble_eq_true rfl) ?_
  exact v_ireturn dX4_tellsNail_45 rfl ⟨rfl, rfl, rfl⟩
set_option maxRecDepth 10000 in
set_option maxHeartbeats 1000000 in
theorem c_tellsNail_3 {G : zW} {f : zHM} {m : Nat × Nat} {o mr : Nat} {B : Nat → Nat} {w : Nat → Int32} {hh : Int64} {σ : Nat → Int32} (h : MX f o B w hh σ mr) {N s n : Nat} (hw : RW (rOf σ) N s n) (hn : σ 15 = nI n) (hn2 : n ≤ 200) {b : Nat} (hb : b < N) : zM G yX4_tellsNail cX4_tellsNail 3 (some .int) 4 [.ref o, .int (nI b), .int (nI 3)] (f, m) (zS (.int (sNailOf (rOf σ) s n b 3)) f m) := by
  refine zM.of (by decide) (Nat.le_of_ble_eq_true rfl) ?_
  have ho := h.1
  have hs := h.2.1
  have hv := hw.1
  have hN : σ 0 = nI N := hv.1
  have hp := hv.pos
  refine v_iload_n dX4_tellsNail_0 rfl rfl ?_
  refine v_tableOut 46 dX4_tellsNail_1 (Or.inr (by decide)) (by decide) ?_
  refine v_aload_n dX4_tellsNail_46 rfl rfl ?_
  refine v_getfield fX4_7 dX4_tellsNail_47 (by assumption) (by rfl) ?_
  refine v_iconst (nI 1) dX4_tellsNail_50 (by decide) ?_
  refine v_iaload dX4_tellsNail_51 (by assumption) (vp_in_nI (by omega) (by omega)) ?_
  rw [nI_clamp (n := 1) (by omega)]
  refine v_iload_n dX4_tellsNail_52 rfl rfl ?_
  refine v_icmp_ne 60 dX4_tellsNail_53 (by decide) (fun b53 => ?_) (fun b53 => ?_)
  · refine v_iconst (0) dX4_tellsNail_60 (by decide) ?_
    exact v_ireturn dX4_tellsNail_61 rfl ⟨by rw [show sNailOf (rOf σ) s n b 3 = 0 from if_neg (fun z => b53 z.symm)], rfl, rfl⟩
  · refine v_iconst (1) dX4_tellsNail_56 (by decide) ?_
    refine v_goto 61 dX4_tellsNail_57 (by decide) ?_
    exact v_ireturn dX4_tellsNail_61 rfl ⟨by rw [show sNailOf (rOf σ) s n b 3 = 1 from if_pos b53.symm], rfl, rfl⟩
theorem c_tellsNail {G : zW} {f : zHM} {m : Nat × Nat} {o mr : Nat} {B : Nat → Nat} {w : Nat → Int32} {hh : Int64} {σ : Nat → Int32} (h : MX f o B w hh σ mr) {N s n : Nat} (hw : RW (rOf σ) N s n) (hn : σ 15 = nI n) (hn2 : n ≤ 200) {b : Nat} (hb : b < N) {e : Nat} (he : e < 4) : zM G yX4_tellsNail cX4_tellsNail 3 (some .int) 4 [.ref o, .int (nI b), .int (nI e)] (f, m) (zS (.int (sNailOf (rOf σ) s n b e)) f m) := by
  match e, he with
  | 0, _ => exact c_tellsNail_0  h hw hn hn2 hb
  | 1, _ => exact c_tellsNail_1  h hw hn hn2 hb
  | 2, _ => exact c_tellsNail_2  h hw hn hn2 hb
  | 3, _ => exact c_tellsNail_3  h hw hn hn2 hb
set_option maxRecDepth 10000 in
set_option maxHeartbeats 1000000 in
theorem c_tellsSpool_0 {G : zW} {f : zHM} {m : Nat × Nat} {o mr : Nat} {B : Nat → Nat} {w : Nat → Int32} {hh : Int64} {σ : Nat → Int32} (h : MX f o B w hh σ mr) {N s n : Nat} (hw : RW (rOf σ) N s n) (hn : σ 15 = nI n) (hn2 : n ≤ 200) {u : Nat} (hu : u < 3) : zM G yX4_tellsSpool cX4_tellsSpool 3 (some .int) 6 [.ref o, .int (nI u), .int (nI 0)] (f, m) (zS (.int (sSpoolOf (rOf σ) s n u 0)) f m) := by
  refine zM.of (by decide) (Nat.le_of_ble_eq_true rfl) ?_
  have ho := h.1
  have hs := h.2.1
  refine v_iload_n dX4_tellsSpool_0 rfl rfl ?_
  refine v_tableIn 32 dX4_tellsSpool_1 (by decide) (by decide) (off := 31) (by rfl) (by decide) ?_
  refine v_aload_n dX4_tellsSpool_32 rfl rfl ?_
  refine v_iload_n dX4_tellsSpool_33 rfl rfl ?_
  refine v_callVp kX4_88 gi_X4_shade ge_X4_shade rfl dX4_tellsSpool_34 (by assumption) (c_mshade ho hs hu) rfl rfl (by decide) (Nat.le_of_ble_eq_true rfl) ?_
  exact v_ireturn dX4_tellsSpool_37 rfl ⟨rfl, rfl, rfl⟩
set_option maxRecDepth 10000 in
set_option maxHeartbeats 1000000 in
theorem c_tellsSpool_1 {G : zW} {f : zHM} {m : Nat × Nat} {o mr : Nat} {B : Nat → Nat} {w : Nat → Int32} {hh : Int64} {σ : Nat → Int32} (h : MX f o B w hh σ mr) {N s n : Nat} (hw : RW (rOf σ) N s n) (hn : σ 15 = nI n) (hn2 : n ≤ 200) {u : Nat} (hu : u < 3) : zM G yX4_tellsSpool cX4_tellsSpool 3 (some .int) 6 [.ref o, .int (nI u), .int (nI 1)] (f, m) (zS (.int (sSpoolOf (rOf σ) s n u 1)) f m) := by
  refine zM.of (by decide) (Nat.le_of_ble_eq_true rfl) ?_
  have ho := h.1
  have hs := h.2.1
  refine v_iload_n dX4_tellsSpool_0 rfl rfl ?_
  refine v_tableIn 38 dX4_tellsSpool_1 (by decide) (by decide) (off := 37) (by rfl) (by decide) ?_
  refine v_aload_n dX4_tellsSpool_38 rfl rfl ?_
  refine v_iload_n dX4_tellsSpool_39 rfl rfl ?_
  refine v_callVp kX4_101 gi_X4_left ge_X4_left rfl dX4_tellsSpool_40 (by assumption) (c_mleft ho hs hu) rfl rfl (by decide) (Nat.le_of_ble_eq_true rfl) ?_
  exact v_ireturn dX4_tellsSpool_43 rfl ⟨rfl, rfl, rfl⟩
set_option maxRecDepth 10000 in
set_option maxHeartbeats 1000000 in
theorem c_tellsSpool_2 {G : zW} {f : zHM} {m : Nat × Nat} {o mr : Nat} {B : Nat → Nat} {w : Nat → Int32} {hh : Int64} {σ : Nat → Int32} (h : MX f o B w hh σ mr) {N s n : Nat} (hw : RW (rOf σ) N s n) (hn : σ 15 = nI n) (hn2 : n ≤ 200) {u : Nat} (hu : u < 3) : zM G yX4_tellsSpool cX4_tellsSpool 3 (some .int) 6 [.ref o, .int (nI u), .int (nI 2)] (f, m) (zS (.int (sSpoolOf (rOf σ) s n u 2)) f m) := by
  refine zM.of (by decide) (Nat.le_of_ble_eq_true rfl) ?_
  have ho := h.1
  have hs := h.2.1
  refine v_iload_n dX4_tellsSpool_0 rfl rfl ?_
  refine v_tableIn 44 dX4_tellsSpool_1 (by decide) (by decide) (off := 43) (by rfl) (by decide) ?_
  refine v_aload_n dX4_tellsSpool_44 rfl rfl ?_
  refine v_iload_n dX4_tellsSpool_45 rfl rfl ?_
  refine v_callVp kX4_193 gi_X4_threadOf ge_X4_threadOf rfl dX4_tellsSpool_46 (by assumption) (c_mthreadOf h hw hn hn2) rfl rfl (by decide) (Nat.le_of_ble_eq_true rfl) ?_
  exact v_ireturn dX4_tellsSpool_49 rfl ⟨rfl, rfl, rfl⟩
set_option maxRecDepth 10000 in
set_option maxHeartbeats 1000000 in
theorem c_tellsSpool_3 {G : zW} {f : zHM} {m : Nat × Nat} {o mr : Nat} {B : Nat → Nat} {w : Nat → Int32} {hh : Int64} {σ : Nat → Int32} (h : MX f o B w hh σ mr) {N s n : Nat} (hw : RW (rOf σ) N s n) (hn : σ 15 = nI n) (hn2 : n ≤ 200) {u : Nat} (hu : u < 3) : zM G yX4_tellsSpool cX4_tellsSpool 3 (some .int) 6 [.ref o, .int (nI u), .int (nI 3)] (f, m) (zS (.int (sSpoolOf (rOf σ) s n u 3)) f m) := by
  refine zM.of (by decide) (Nat.le_of_ble_eq_true rfl) ?_
  have ho := h.1
  have hs := h.2.1
  refine v_iload_n dX4_tellsSpool_0 rfl rfl ?_
  refine v_tableIn 50 dX4_tellsSpool_1 (by decide) (by decide) (off := 49) (by rfl) (by decide) ?_
  refine v_aload_n dX4_tellsSpool_50 rfl rfl ?_
  refine v_iload_n dX4_tellsSpool_51 rfl rfl ?_
  refine v_callVp kX4_131 gi_X4_chordsOf ge_X4_chordsOf rfl dX4_tellsSpool_52 (by assumption) (c_mchordsOf h hn hn2) rfl rfl (by decide) (Nat.le_of_ble_eq_true rfl) ?_
  exact v_ireturn dX4_tellsSpool_55 rfl ⟨rfl, rfl, rfl⟩
set_option maxRecDepth 10000 in
set_option maxHeartbeats 1000000 in
theorem c_tellsSpool_4 {G : zW} {f : zHM} {m : Nat × Nat} {o mr : Nat} {B : Nat → Nat} {w : Nat → Int32} {hh : Int64} {σ : Nat → Int32} (h : MX f o B w hh σ mr) {N s n : Nat} (hw : RW (rOf σ) N s n) (hn : σ 15 = nI n) (hn2 : n ≤ 200) {u : Nat} (hu : u < 3) : zM G yX4_tellsSpool cX4_tellsSpool 3 (some .int) 6 [.ref o, .int (nI u), .int (nI 4)] (f, m) (zS (.int (sSpoolOf (rOf σ) s n u 4)) f m) := by
  refine zM.of (by decide) (Nat.le_of_ble_eq_true rfl) ?_
  have ho := h.1
  have hs := h.2.1
  refine v_iload_n dX4_tellsSpool_0 rfl rfl ?_
  refine v_tableOut 56 dX4_tellsSpool_1 (Or.inr (by decide)) (by decide) ?_
  refine v_aload_n dX4_tellsSpool_56 rfl rfl ?_
  refine v_getfield fX4_7 dX4_tellsSpool_57 (by assumption) (by rfl) ?_
  refine v_iconst (nI 2) dX4_tellsSpool_60 (by decide) ?_
  refine v_iaload dX4_tellsSpool_61 (by assumption) (vp_in_nI (by omega) (by omega)) ?_
  rw [nI_clamp (n := 2) (by omega)]
  refine v_iload_n dX4_tellsSpool_62 rfl rfl ?_
  refine v_icmp_ne 70 dX4_tellsSpool_63 (by decide) (fun b63 => ?_) (fun b63 => ?_)
  · refine v_iconst (0) dX4_tellsSpool_70 (by decide) ?_
    exact v_ireturn dX4_tellsSpool_71 rfl ⟨by rw [show sSpoolOf (rOf σ) s n u 4 = 0 from if_neg (fun z => b63 z.symm)], rfl, rfl⟩
  · refine v_iconst (1) dX4_tellsSpool_66 (by decide) ?_
    refine v_goto 71 dX4_tellsSpool_67 (by decide) ?_
    exact v_ireturn dX4_tellsSpool_71 rfl ⟨by rw [show sSpoolOf (rOf σ) s n u 4 = 1 from if_pos b63.symm], rfl, rfl⟩
theorem c_tellsSpool {G : zW} {f : zHM} {m : Nat × Nat} {o mr : Nat} {B : Nat → Nat} {w : Nat → Int32} {hh : Int64} {σ : Nat → Int32} (h : MX f o B w hh σ mr) {N s n : Nat} (hw : RW (rOf σ) N s n) (hn : σ 15 = nI n) (hn2 : n ≤ 200) {u : Nat} (hu : u < 3) {e : Nat} (he : e < 5) : zM G yX4_tellsSpool cX4_tellsSpool 3 (some .int) 6 [.ref o, .int (nI u), .int (nI e)] (f, m) (zS (.int (sSpoolOf (rOf σ) s n u e)) f m) := by
  match e, he with
  | 0, _ => exact c_tellsSpool_0  h hw hn hn2 hu
  | 1, _ => exact c_tellsSpool_1  h hw hn hn2 hu
  | 2, _ => exact c_tellsSpool_2  h hw hn hn2 hu
  | 3, _ => exact c_tellsSpool_3  h hw hn hn2 hu
  | 4, _ => exact c_tellsSpool_4  h hw hn hn2 hu
set_option maxRecDepth 10000 in
set_option maxHeartbeats 1000000 in
theorem c_tellsChord_0 {G : zW} {f : zHM} {m : Nat × Nat} {o mr : Nat} {B : Nat → Nat} {w : Nat → Int32} {hh : Int64} {σ : Nat → Int32} (h : MX f o B w hh σ mr) (hmr9 : mr + 300 < 2 ^ 30) {N s n : Nat} (hw : RW (rOf σ) N s n) (hn : σ 15 = nI n) (hn2 : n ≤ 200) {a b : Nat} (ha : a < N) (hb : b < N) : zM G yX4_tellsChord cX4_tellsChord 4 (some .int) 6 [.ref o, .int (nI a), .int (nI b), .int (nI 0)] (f, m) (zD (some (.int (sChord s (sTm (rOf σ) n) a b 0))) (fun f' m' => zNQ f w o B hh σ mr 1 f' ∧ m' = m)) := by
  refine zM.of (by decide) (Nat.le_of_ble_eq_true rfl) ?_
  have ho := h.1
  have hs := h.2.1
  have hv := hw.1
  have hN : σ 0 = nI N := hv.1
  have hp := hv.pos
  refine v_iload_n dX4_tellsChord_0 rfl rfl ?_
  refine v_iload_n dX4_tellsChord_1 rfl rfl ?_
  refine v_icmp_ne 7 dX4_tellsChord_2 (by decide) (fun b2 => ?_) (fun b2 => ?_)
  · rw [nI_eq (by omega) (by omega)] at b2
    refine v_aload_n dX4_tellsChord_7 rfl rfl ?_
    refine v_iload_n dX4_tellsChord_8 rfl rfl ?_
    refine v_iload_n dX4_tellsChord_9 rfl rfl ?_
    refine v_callV0 kX4_85 gi_X4_laysCrossed ge_X4_laysCrossed rfl dX4_tellsChord_10 (by assumption) (c_lays h (by omega) hv ha hb b2) rfl rfl (by decide) (Nat.le_of_ble_eq_true rfl) (fun f1 m hc1 => ?_)
    obtain ⟨⟨w1, h1, hk1, hf1, hw31, hw41, ⟨gc1, hcr1, hgc1⟩, gm1, hgm1, hgv1⟩, rfl⟩ := hc1
    replace hk1 := (wK.refl w).trans hk1
    replace hf1 := zFr.trans zFr.refl hf1
    have ho1 := h1.1
    have hs1 := h1.2.1
    refine v_iload_n dX4_tellsChord_13 rfl rfl ?_
    refine v_if_ne 26 dX4_tellsChord_14 (by decide) (fun b14 => ?_) (fun b14 => ?_)
    · rw [show (0 : Int32) = nI 0 from rfl] at b14
      rw [nI_eq (by omega) (by omega)] at b14
      omega
    · rw [show (0 : Int32) = nI 0 from rfl] at b14
      rw [nI_eq (by omega) (by omega)] at b14
      refine v_aload_n dX4_tellsChord_17 rfl rfl ?_
      refine v_iload_n dX4_tellsChord_18 rfl rfl ?_
      refine v_iload_n dX4_tellsChord_19 rfl rfl ?_
      refine v_callVp kX4_95 gi_X4_lengthOf ge_X4_lengthOf rfl dX4_tellsChord_20 (by assumption) (c_mlengthOf ho1 hs1 hN hv.2.2.1 hv.2.2.2 ha hb) rfl rfl (by decide) (Nat.le_of_ble_eq_true rfl) ?_
      refine v_goto 44 dX4_tellsChord_23 (by decide) ?_
      exact v_ireturn dX4_tellsChord_44 rfl ⟨by rw [show sChord s (sTm (rOf σ) n) a b 0 = _ from if_neg b2], ⟨_, Nat.le_refl _, w1, h1, hk1, hf1⟩, rfl⟩
  · rw [nI_eq (by omega) (by omega)] at b2
    refine v_iconst (-1) dX4_tellsChord_5 (by decide) ?_
    exact v_ireturn dX4_tellsChord_6 rfl ⟨by rw [show sChord s (sTm (rOf σ) n) a b 0 = _ from if_pos b2], ⟨mr, by omega, w, h, wK.refl w, zFr.refl⟩, rfl⟩
set_option maxRecDepth 10000 in
set_option maxHeartbeats 1000000 in
theorem c_tellsChord_1 {G : zW} {f : zHM} {m : Nat × Nat} {o mr : Nat} {B : Nat → Nat} {w : Nat → Int32} {hh : Int64} {σ : Nat → Int32} (h : MX f o B w hh σ mr) (hmr9 : mr + 300 < 2 ^ 30) {N s n : Nat} (hw : RW (rOf σ) N s n) (hn : σ 15 = nI n) (hn2 : n ≤ 200) {a b : Nat} (ha : a < N) (hb : b < N) : zM G yX4_tellsChord cX4_tellsChord 4 (some .int) 6 [.ref o, .int (nI a), .int (nI b), .int (nI 1)] (f, m) (zD (some (.int (sChord s (sTm (rOf σ) n) a b 1))) (fun f' m' => zNQ f w o B hh σ mr 1 f' ∧ m' = m)) := by
  refine zM.of (by decide) (Nat.le_of_ble_eq_true rfl) ?_
  have ho := h.1
  have hs := h.2.1
  have hv := hw.1
  have hN : σ 0 = nI N := hv.1
  have hp := hv.pos
  refine v_iload_n dX4_tellsChord_0 rfl rfl ?_
  refine v_iload_n dX4_tellsChord_1 rfl rfl ?_
  refine v_icmp_ne 7 dX4_tellsChord_2 (by decide) (fun b2 => ?_) (fun b2 => ?_)
  · rw [nI_eq (by omega) (by omega)] at b2
    refine v_aload_n dX4_tellsChord_7 rfl rfl ?_
    refine v_iload_n dX4_tellsChord_8 rfl rfl ?_
    refine v_iload_n dX4_tellsChord_9 rfl rfl ?_
    refine v_callV0 kX4_85 gi_X4_laysCrossed ge_X4_laysCrossed rfl dX4_tellsChord_10 (by assumption) (c_lays h (by omega) hv ha hb b2) rfl rfl (by decide) (Nat.le_of_ble_eq_true rfl) (fun f1 m hc1 => ?_)
    obtain ⟨⟨w1, h1, hk1, hf1, hw31, hw41, ⟨gc1, hcr1, hgc1⟩, gm1, hgm1, hgv1⟩, rfl⟩ := hc1
    replace hk1 := (wK.refl w).trans hk1
    replace hf1 := zFr.trans zFr.refl hf1
    have ho1 := h1.1
    have hs1 := h1.2.1
    refine v_iload_n dX4_tellsChord_13 rfl rfl ?_
    refine v_if_ne 26 dX4_tellsChord_14 (by decide) (fun b14 => ?_) (fun b14 => ?_)
    · rw [show (0 : Int32) = nI 0 from rfl] at b14
      rw [nI_eq (by omega) (by omega)] at b14
      refine v_iload_n dX4_tellsChord_26 rfl rfl ?_
      refine v_iconst (nI 1) dX4_tellsChord_27 (by decide) ?_
      refine v_icmp_ne 38 dX4_tellsChord_28 (by decide) (fun b28 => ?_) (fun b28 => ?_)
      · rw [nI_eq (by omega) (by omega)] at b28
        omega
      · rw [nI_eq (by omega) (by omega)] at b28
        refine v_aload_n dX4_tellsChord_31 rfl rfl ?_
        refine v_getfield fX4_68 dX4_tellsChord_32 (by assumption) (by rfl) ?_
        rw [hw31]
        refine v_goto 44 dX4_tellsChord_35 (by decide) ?_
        exact v_ireturn dX4_tellsChord_44 rfl ⟨by rw [show sChord s (sTm (rOf σ) n) a b 1 = _ from if_neg b2], ⟨_, Nat.le_refl _, w1, h1, hk1, hf1⟩, rfl⟩
    · rw [show (0 : Int32) = nI 0 from rfl] at b14
      rw [nI_eq (by omega) (by omega)] at b14
      omega
  · rw [nI_eq (by omega) (by omega)] at b2
    refine v_iconst (-1) dX4_tellsChord_5 (by decide) ?_
    exact v_ireturn dX4_tellsChord_6 rfl ⟨by rw [show sChord s (sTm (rOf σ) n) a b 1 = _ from if_pos b2], ⟨mr, by omega, w, h, wK.refl w, zFr.refl⟩, rfl⟩
set_option maxRecDepth 10000 in
set_option maxHeartbeats 1000000 in
theorem c_tellsChord_2 {G : zW} {f : zHM} {m : Nat × Nat} {o mr : Nat} {B : Nat → Nat} {w : Nat → Int32} {hh : Int64} {σ : Nat → Int32} (h : MX f o B w hh σ mr) (hmr9 : mr + 300 < 2 ^ 30) {N s n : Nat} (hw : RW (rOf σ) N s n) (hn : σ 15 = nI n) (hn2 : n ≤ 200) {a b : Nat} (ha : a < N) (hb : b < N) : zM G yX4_tellsChord cX4_tellsChord 4 (some .int) 6 [.ref o, .int (nI a), .int (nI b), .int (nI 2)] (f, m) (zD (some (.int (sChord s (sTm (rOf σ) n) a b 2))) (fun f' m' => zNQ f w o B hh σ mr 1 f' ∧ m' = m)) := by
  refine zM.of (by decide) (Nat.le_of_ble_eq_true rfl) ?_
  have ho := h.1
  have hs := h.2.1
  have hv := hw.1
  have hN : σ 0 = nI N := hv.1
  have hp := hv.pos
  refine v_iload_n dX4_tellsChord_0 rfl rfl ?_
  refine v_iload_n dX4_tellsChord_1 rfl rfl ?_
  refine v_icmp_ne 7 dX4_tellsChord_2 (by decide) (fun b2 => ?_) (fun b2 => ?_)
  · rw [nI_eq (by omega) (by omega)] at b2
    refine v_aload_n dX4_tellsChord_7 rfl rfl ?_
    refine v_iload_n dX4_tellsChord_8 rfl rfl ?_
    refine v_iload_n dX4_tellsChord_9 rfl rfl ?_
    refine v_callV0 kX4_85 gi_X4_laysCrossed ge_X4_laysCrossed rfl dX4_tellsChord_10 (by assumption) (c_lays h (by omega) hv ha hb b2) rfl rfl (by decide) (Nat.le_of_ble_eq_true rfl) (fun f1 m hc1 => ?_)
    obtain ⟨⟨w1, h1, hk1, hf1, hw31, hw41, ⟨gc1, hcr1, hgc1⟩, gm1, hgm1, hgv1⟩, rfl⟩ := hc1
    replace hk1 := (wK.refl w).trans hk1
    replace hf1 := zFr.trans zFr.refl hf1
    have ho1 := h1.1
    have hs1 := h1.2.1
    refine v_iload_n dX4_tellsChord_13 rfl rfl ?_
    refine v_if_ne 26 dX4_tellsChord_14 (by decide) (fun b14 => ?_) (fun b14 => ?_)
    · rw [show (0 : Int32) = nI 0 from rfl] at b14
      rw [nI_eq (by omega) (by omega)] at b14
      refine v_iload_n dX4_tellsChord_26 rfl rfl ?_
      refine v_iconst (nI 1) dX4_tellsChord_27 (by decide) ?_
      refine v_icmp_ne 38 dX4_tellsChord_28 (by decide) (fun b28 => ?_) (fun b28 => ?_)
      · rw [nI_eq (by omega) (by omega)] at b28
        refine v_aload_n dX4_tellsChord_38 rfl rfl ?_
        refine v_iload_n dX4_tellsChord_39 rfl rfl ?_
        refine v_iload_n dX4_tellsChord_40 rfl rfl ?_
        refine v_callVp kX4_98 gi_X4_liesBetween ge_X4_liesBetween rfl dX4_tellsChord_41 (by assumption) (c_liesBetween ho1 hs1 hn hn2) rfl rfl (by decide) (Nat.le_of_ble_eq_true rfl) ?_
        rw [sLB_tm hw ha hb b2]
        exact v_ireturn dX4_tellsChord_44 rfl ⟨by rw [show sChord s (sTm (rOf σ) n) a b 2 = _ from if_neg b2], ⟨_, Nat.le_refl _, w1, h1, hk1, hf1⟩, rfl⟩
      · rw [nI_eq (by omega) (by omega)] at b28
        omega
    · rw [show (0 : Int32) = nI 0 from rfl] at b14
      rw [nI_eq (by omega) (by omega)] at b14
      omega
  · rw [nI_eq (by omega) (by omega)] at b2
    refine v_iconst (-1) dX4_tellsChord_5 (by decide) ?_
    exact v_ireturn dX4_tellsChord_6 rfl ⟨by rw [show sChord s (sTm (rOf σ) n) a b 2 = _ from if_pos b2], ⟨mr, by omega, w, h, wK.refl w, zFr.refl⟩, rfl⟩
theorem c_tellsChord {G : zW} {f : zHM} {m : Nat × Nat} {o mr : Nat} {B : Nat → Nat} {w : Nat → Int32} {hh : Int64} {σ : Nat → Int32} (h : MX f o B w hh σ mr) (hmr9 : mr + 300 < 2 ^ 30) {N s n : Nat} (hw : RW (rOf σ) N s n) (hn : σ 15 = nI n) (hn2 : n ≤ 200) {a b : Nat} (ha : a < N) (hb : b < N) {e : Nat} (he : e < 3) : zM G yX4_tellsChord cX4_tellsChord 4 (some .int) 6 [.ref o, .int (nI a), .int (nI b), .int (nI e)] (f, m) (zD (some (.int (sChord s (sTm (rOf σ) n) a b e))) (fun f' m' => zNQ f w o B hh σ mr 1 f' ∧ m' = m)) := by
  match e, he with
  | 0, _ => exact c_tellsChord_0  h hmr9 hw hn hn2 ha hb
  | 1, _ => exact c_tellsChord_1  h hmr9 hw hn hn2 ha hb
  | 2, _ => exact c_tellsChord_2  h hmr9 hw hn hn2 ha hb
set_option maxRecDepth 10000 in
set_option maxHeartbeats 1000000 in
theorem c_tellsWound_0 {G : zW} {f : zHM} {m : Nat × Nat} {o mr : Nat} {B : Nat → Nat} {w : Nat → Int32} {hh : Int64} {σ : Nat → Int32} (h : MX f o B w hh σ mr) {n : Nat} (hn : σ 15 = nI n) (hn2 : n ≤ 200) {g : Nat} (hg : g < 2 ^ 31) : zM G yX4_tellsWound cX4_tellsWound 3 (some .int) 2 [.ref o, .int (nI g), .int (nI 0)] (f, m) (zS (.int (sWound (rOf σ) n g 0)) f m) := by
  refine zM.of (by decide) (Nat.le_of_ble_eq_true rfl) ?_
  have ho := h.1
  have hs := h.2.1
  refine v_iload_n dX4_tellsWound_0 rfl rfl ?_
  refine v_aload_n dX4_tellsWound_1 rfl rfl ?_
  refine v_getfield fX4_7 dX4_tellsWound_2 (by assumption) (by rfl) ?_
  refine v_bipush (nI 15) dX4_tellsWound_5 (by decide) ?_
  refine v_iaload dX4_tellsWound_7 (by assumption) (vp_in_nI (by omega) (by omega)) ?_
  rw [nI_clamp (n := 15) (by omega)]
  rw [hn]
  refine v_icmp_ge 30 dX4_tellsWound_8 (by decide) (fun b8 => ?_) (fun b8 => ?_)
  · rw [nI_leI (by omega) (by omega)] at b8
    refine v_iconst (-1) dX4_tellsWound_30 (by decide) ?_
    exact v_ireturn dX4_tellsWound_31 rfl ⟨by rw [show sWound (rOf σ) n g 0 = _ from if_pos (show n ≤ g by omega)], rfl, rfl⟩
  · rw [nI_leI (by omega) (by omega)] at b8
    refine v_aload_n dX4_tellsWound_11 rfl rfl ?_
    refine v_aload_n dX4_tellsWound_12 rfl rfl ?_
    refine v_getfield fX4_7 dX4_tellsWound_13 (by assumption) (by rfl) ?_
    refine v_bipush (nI 15) dX4_tellsWound_16 (by decide) ?_
    refine v_iaload dX4_tellsWound_18 (by assumption) (vp_in_nI (by omega) (by omega)) ?_
    rw [nI_clamp (n := 15) (by omega)]
    rw [hn]
    refine v_iconst (nI 1) dX4_tellsWound_19 (by decide) ?_
    refine v_isub dX4_tellsWound_20 ?_
    rw [pk_sub (a := n) (b := 1) (by omega)]
    refine v_iload_n dX4_tellsWound_21 rfl rfl ?_
    refine v_isub dX4_tellsWound_22 ?_
    rw [pk_sub (a := (n - 1)) (b := g) (by omega)]
    refine v_iload_n dX4_tellsWound_23 rfl rfl ?_
    refine v_callVp kX4_78 gi_X4_ofChord ge_X4_ofChord rfl dX4_tellsWound_24 (by assumption) (c_ofChord ho hs (c := n - 1 - g) (k := 0) (by omega) (by omega)) rfl rfl (by decide) (Nat.le_of_ble_eq_true rfl) ?_
    refine v_goto 31 dX4_tellsWound_27 (by decide) ?_
    exact v_ireturn dX4_tellsWound_31 rfl ⟨by rw [show sWound (rOf σ) n g 0 = _ from if_neg (show ¬ n ≤ g by omega)]; rfl, rfl, rfl⟩
set_option maxRecDepth 10000 in
set_option maxHeartbeats 1000000 in
theorem c_tellsWound_1 {G : zW} {f : zHM} {m : Nat × Nat} {o mr : Nat} {B : Nat → Nat} {w : Nat → Int32} {hh : Int64} {σ : Nat → Int32} (h : MX f o B w hh σ mr) {n : Nat} (hn : σ 15 = nI n) (hn2 : n ≤ 200) {g : Nat} (hg : g < 2 ^ 31) : zM G yX4_tellsWound cX4_tellsWound 3 (some .int) 2 [.ref o, .int (nI g), .int (nI 1)] (f, m) (zS (.int (sWound (rOf σ) n g 1)) f m) := by
  refine zM.of (by decide) (Nat.le_of_ble_eq_true rfl) ?_
  have ho := h.1
  have hs := h.2.1
  refine v_iload_n dX4_tellsWound_0 rfl rfl ?_
  refine v_aload_n dX4_tellsWound_1 rfl rfl ?_
  refine v_getfield fX4_7 dX4_tellsWound_2 (by assumption) (by rfl) ?_
  refine v_bipush (nI 15) dX4_tellsWound_5 (by decide) ?_
  refine v_iaload dX4_tellsWound_7 (by assumption) (vp_in_nI (by omega) (by omega)) ?_
  rw [nI_clamp (n := 15) (by omega)]
  rw [hn]
  refine v_icmp_ge 30 dX4_tellsWound_8 (by decide) (fun b8 => ?_) (fun b8 => ?_)
  · rw [nI_leI (by omega) (by omega)] at b8
    refine v_iconst (-1) dX4_tellsWound_30 (by decide) ?_
    exact v_ireturn dX4_tellsWound_31 rfl ⟨by rw [show sWound (rOf σ) n g 1 = _ from if_pos (show n ≤ g by omega)], rfl, rfl⟩
  · rw [nI_leI (by omega) (by omega)] at b8
    refine v_aload_n dX4_tellsWound_11 rfl rfl ?_
    refine v_aload_n dX4_tellsWound_12 rfl rfl ?_
    refine v_getfield fX4_7 dX4_tellsWound_13 (by assumption) (by rfl) ?_
    refine v_bipush (nI 15) dX4_tellsWound_16 (by decide) ?_
    refine v_iaload dX4_tellsWound_18 (by assumption) (vp_in_nI (by omega) (by omega)) ?_
    rw [nI_clamp (n := 15) (by omega)]
    rw [hn]
    refine v_iconst (nI 1) dX4_tellsWound_19 (by decide) ?_
    refine v_isub dX4_tellsWound_20 ?_
    rw [pk_sub (a := n) (b := 1) (by omega)]
    refine v_iload_n dX4_tellsWound_21 rfl rfl ?_
    refine v_isub dX4_tellsWound_22 ?_
    rw [pk_sub (a := (n - 1)) (b := g) (by omega)]
    refine v_iload_n dX4_tellsWound_23 rfl rfl ?_
    refine v_callVp kX4_78 gi_X4_ofChord ge_X4_ofChord rfl dX4_tellsWound_24 (by assumption) (c_ofChord ho hs (c := n - 1 - g) (k := 1) (by omega) (by omega)) rfl rfl (by decide) (Nat.le_of_ble_eq_true rfl) ?_
    refine v_goto 31 dX4_tellsWound_27 (by decide) ?_
    exact v_ireturn dX4_tellsWound_31 rfl ⟨by rw [show sWound (rOf σ) n g 1 = _ from if_neg (show ¬ n ≤ g by omega)]; rfl, rfl, rfl⟩
set_option maxRecDepth 10000 in
set_option maxHeartbeats 1000000 in
theorem c_tellsWound_2 {G : zW} {f : zHM} {m : Nat × Nat} {o mr : Nat} {B : Nat → Nat} {w : Nat → Int32} {hh : Int64} {σ : Nat → Int32} (h : MX f o B w hh σ mr) {n : Nat} (hn : σ 15 = nI n) (hn2 : n ≤ 200) {g : Nat} (hg : g < 2 ^ 31) : zM G yX4_tellsWound cX4_tellsWound 3 (some .int) 2 [.ref o, .int (nI g), .int (nI 2)] (f, m) (zS (.int (sWound (rOf σ) n g 2)) f m) := by
  refine zM.of (by decide) (Nat.le_of_ble_eq_true rfl) ?_
  have ho := h.1
  have hs := h.2.1
  refine v_iload_n dX4_tellsWound_0 rfl rfl ?_
  refine v_aload_n dX4_tellsWound_1 rfl rfl ?_
  refine v_getfield fX4_7 dX4_tellsWound_2 (by assumption) (by rfl) ?_
  refine v_bipush (nI 15) dX4_tellsWound_5 (by decide) ?_
  refine v_iaload dX4_tellsWound_7 (by assumption) (vp_in_nI (by omega) (by omega)) ?_
  rw [nI_clamp (n := 15) (by omega)]
  rw [hn]
  refine v_icmp_ge 30 dX4_tellsWound_8 (by decide) (fun b8 => ?_) (fun b8 => ?_)
  · rw [nI_leI (by omega) (by omega)] at b8
    refine v_iconst (-1) dX4_tellsWound_30 (by decide) ?_
    exact v_ireturn dX4_tellsWound_31 rfl ⟨by rw [show sWound (rOf σ) n g 2 = _ from if_pos (show n ≤ g by omega)], rfl, rfl⟩
  · rw [nI_leI (by omega) (by omega)] at b8
    refine v_aload_n dX4_tellsWound_11 rfl rfl ?_
    refine v_aload_n dX4_tellsWound_12 rfl rfl ?_
    refine v_getfield fX4_7 dX4_tellsWound_13 (by assumption) (by rfl) ?_
    refine v_bipush (nI 15) dX4_tellsWound_16 (by decide) ?_
    refine v_iaload dX4_tellsWound_18 (by assumption) (vp_in_nI (by omega) (by omega)) ?_
    rw [nI_clamp (n := 15) (by omega)]
    rw [hn]
    refine v_iconst (nI 1) dX4_tellsWound_19 (by decide) ?_
    refine v_isub dX4_tellsWound_20 ?_
    rw [pk_sub (a := n) (b := 1) (by omega)]
    refine v_iload_n dX4_tellsWound_21 rfl rfl ?_
    refine v_isub dX4_tellsWound_22 ?_
    rw [pk_sub (a := (n - 1)) (b := g) (by omega)]
    refine v_iload_n dX4_tellsWound_23 rfl rfl ?_
    refine v_callVp kX4_78 gi_X4_ofChord ge_X4_ofChord rfl dX4_tellsWound_24 (by assumption) (c_ofChord ho hs (c := n - 1 - g) (k := 2) (by omega) (by omega)) rfl rfl (by decide) (Nat.le_of_ble_eq_true rfl) ?_
    refine v_goto 31 dX4_tellsWound_27 (by decide) ?_
    exact v_ireturn dX4_tellsWound_31 rfl ⟨by rw [show sWound (rOf σ) n g 2 = _ from if_neg (show ¬ n ≤ g by omega)]; rfl, rfl, rfl⟩
theorem c_tellsWound {G : zW} {f : zHM} {m : Nat × Nat} {o mr : Nat} {B : Nat → Nat} {w : Nat → Int32} {hh : Int64} {σ : Nat → Int32} (h : MX f o B w hh σ mr) {n : Nat} (hn : σ 15 = nI n) (hn2 : n ≤ 200) {g : Nat} (hg : g < 2 ^ 31) {e : Nat} (he : e < 3) : zM G yX4_tellsWound cX4_tellsWound 3 (some .int) 2 [.ref o, .int (nI g), .int (nI e)] (f, m) (zS (.int (sWound (rOf σ) n g e)) f m) := by
  match e, he with
  | 0, _ => exact c_tellsWound_0  h hn hn2 hg
  | 1, _ => exact c_tellsWound_1  h hn hn2 hg
  | 2, _ => exact c_tellsWound_2  h hn hn2 hg
set_option maxRecDepth 10000 in
set_option maxHeartbeats 1000000 in
theorem c_tellsSquare_0 {G : zW} {f : zHM} {m : Nat × Nat} {o mr : Nat} {B : Nat → Nat} {w : Nat → Int32} {hh : Int64} {σ : Nat → Int32} (h : MX f o B w hh σ mr) (hmr9 : mr + 300 < 2 ^ 30) {N s n : Nat} (hw : RW (rOf σ) N s n) (hn : σ 15 = nI n) (hn2 : n ≤ 200) {q : Nat} (hq : q < 144) : zM G yX4_tellsSquare cX4_tellsSquare 3 (some .int) 6 [.ref o, .int (nI q), .int (nI 0)] (f, m) (zD (some (.int (sSquare (rOf σ) (sXs (rOf σ) s n) q 0))) (fun f' m' => zNQ f w o B hh σ mr 200 f' ∧ m' = m)) := by
  refine zM.of (by decide) (Nat.le_of_ble_eq_true rfl) ?_
  have ho := h.1
  have hs := h.2.1
  refine v_iload_n dX4_tellsSquare_0 rfl rfl ?_
  refine v_tableIn 28 dX4_tellsSquare_1 (by decide) (by decide) (off := 27) (by rfl) (by decide) ?_
  refine v_aload_n dX4_tellsSquare_28 rfl rfl ?_
  refine v_getfield fX4_7 dX4_tellsSquare_29 (by assumption) (by rfl) ?_
  refine v_sipush (nI 616) dX4_tellsSquare_32 (by decide) ?_
  refine v_iload_n dX4_tellsSquare_35 rfl rfl ?_
  refine v_iadd dX4_tellsSquare_36 ?_
  rw [nI_add 616 q]
  refine v_iaload dX4_tellsSquare_37 (by assumption) (vp_in_nI (by omega) (by omega)) ?_
  rw [nI_clamp (n := (616 + q)) (by omega)]
  exact v_ireturn dX4_tellsSquare_38 rfl ⟨rfl, ⟨mr, by omega, w, h, (wK.refl w), zFr.refl⟩, rfl⟩
set_option maxRecDepth 10000 in
set_option maxHeartbeats 1000000 in
theorem c_tellsSquare_1 {G : zW} {f : zHM} {m : Nat × Nat} {o mr : Nat} {B : Nat → Nat} {w : Nat → Int32} {hh : Int64} {σ : Nat → Int32} (h : MX f o B w hh σ mr) (hmr9 : mr + 300 < 2 ^ 30) {N s n : Nat} (hw : RW (rOf σ) N s n) (hn : σ 15 = nI n) (hn2 : n ≤ 200) {q : Nat} (hq : q < 144) : zM G yX4_tellsSquare cX4_tellsSquare 3 (some .int) 6 [.ref o, .int (nI q), .int (nI 1)] (f, m) (zD (some (.int (sSquare (rOf σ) (sXs (rOf σ) s n) q 1))) (fun f' m' => zNQ f w o B hh σ mr 200 f' ∧ m' = m)) := by
  refine zM.of (by decide) (Nat.le_of_ble_eq_true rfl) ?_
  have ho := h.1
  have hs := h.2.1
  refine v_iload_n dX4_tellsSquare_0 rfl rfl ?_
  refine v_tableIn 39 dX4_tellsSquare_1 (by decide) (by decide) (off := 38) (by rfl) (by decide) ?_
  refine v_aload_n dX4_tellsSquare_39 rfl rfl ?_
  refine v_getfield fX4_7 dX4_tellsSquare_40 (by assumption) (by rfl) ?_
  refine v_sipush (nI 760) dX4_tellsSquare_43 (by decide) ?_
  refine v_iload_n dX4_tellsSquare_46 rfl rfl ?_
  refine v_iadd dX4_tellsSquare_47 ?_
  rw [nI_add 760 q]
  refine v_iaload dX4_tellsSquare_48 (by assumption) (vp_in_nI (by omega) (by omega)) ?_
  rw [nI_clamp (n := (760 + q)) (by omega)]
  exact v_ireturn dX4_tellsSquare_49 rfl ⟨rfl, ⟨mr, by omega, w, h, (wK.refl w), zFr.refl⟩, rfl⟩
set_option maxRecDepth 10000 in
set_option maxHeartbeats 1000000 in
theorem c_tellsSquare_2 {G : zW} {f : zHM} {m : Nat × Nat} {o mr : Nat} {B : Nat → Nat} {w : Nat → Int32} {hh : Int64} {σ : Nat → Int32} (h : MX f o B w hh σ mr) (hmr9 : mr + 300 < 2 ^ 30) {N s n : Nat} (hw : RW (rOf σ) N s n) (hn : σ 15 = nI n) (hn2 : n ≤ 200) {q : Nat} (hq : q < 144) : zM G yX4_tellsSquare cX4_tellsSquare 3 (some .int) 6 [.ref o, .int (nI q), .int (nI 2)] (f, m) (zD (some (.int (sSquare (rOf σ) (sXs (rOf σ) s n) q 2))) (fun f' m' => zNQ f w o B hh σ mr 200 f' ∧ m' = m)) := by
  refine zM.of (by decide) (Nat.le_of_ble_eq_true rfl) ?_
  have ho := h.1
  have hs := h.2.1
  refine v_iload_n dX4_tellsSquare_0 rfl rfl ?_
  refine v_tableIn 50 dX4_tellsSquare_1 (by decide) (by decide) (off := 49) (by rfl) (by decide) ?_
  refine v_aload_n dX4_tellsSquare_50 rfl rfl ?_
  refine v_iload_n dX4_tellsSquare_51 rfl rfl ?_
  refine v_callVp kX4_104 gi_X4_lack ge_X4_lack rfl dX4_tellsSquare_52 (by assumption) (c_mlack ho hs hq) rfl rfl (by decide) (Nat.le_of_ble_eq_true rfl) ?_
  refine v_sipush (10000) dX4_tellsSquare_55 (by decide) ?_
  refine v_iadd dX4_tellsSquare_58 ?_
  exact v_ireturn dX4_tellsSquare_59 rfl ⟨rfl, ⟨mr, by omega, w, h, (wK.refl w), zFr.refl⟩, rfl⟩
set_option maxRecDepth 10000 in
set_option maxHeartbeats 1000000 in
theorem c_tellsSquare_3 {G : zW} {f : zHM} {m : Nat × Nat} {o mr : Nat} {B : Nat → Nat} {w : Nat → Int32} {hh : Int64} {σ : Nat → Int32} (h : MX f o B w hh σ mr) (hmr9 : mr + 300 < 2 ^ 30) {N s n : Nat} (hw : RW (rOf σ) N s n) (hn : σ 15 = nI n) (hn2 : n ≤ 200) {q : Nat} (hq : q < 144) : zM G yX4_tellsSquare cX4_tellsSquare 3 (some .int) 6 [.ref o, .int (nI q), .int (nI 3)] (f, m) (zD (some (.int (sSquare (rOf σ) (sXs (rOf σ) s n) q 3))) (fun f' m' => zNQ f w o B hh σ mr 200 f' ∧ m' = m)) := by
  refine zM.of (by decide) (Nat.le_of_ble_eq_true rfl) ?_
  have ho := h.1
  have hs := h.2.1
  refine v_iload_n dX4_tellsSquare_0 rfl rfl ?_
  refine v_tableOut 60 dX4_tellsSquare_1 (Or.inr (by decide)) (by decide) ?_
  refine v_aload_n dX4_tellsSquare_60 rfl rfl ?_
  refine v_iload_n dX4_tellsSquare_61 rfl rfl ?_
  refine v_callV1 kX4_205 gi_X4_over ge_X4_over rfl dX4_tellsSquare_62 (by assumption) (c_over h hmr9 hw hn hn2 hq) rfl rfl (by decide) (Nat.le_of_ble_eq_true rfl) (fun f1 m hc1 => ?_)
  obtain ⟨⟨mr1, hm1, w1, h1, hk1, hf1⟩, rfl⟩ := hc1
  replace hk1 := (wK.refl w).trans hk1
  replace hf1 := zFr.trans zFr.refl hf1
  have ho1 := h1.1
  have hs1 := h1.2.1
  exact v_ireturn dX4_tellsSquare_65 rfl ⟨rfl, ⟨mr1, by omega, w1, h1, hk1, hf1⟩, rfl⟩
theorem c_tellsSquare {G : zW} {f : zHM} {m : Nat × Nat} {o mr : Nat} {B : Nat → Nat} {w : Nat → Int32} {hh : Int64} {σ : Nat → Int32} (h : MX f o B w hh σ mr) (hmr9 : mr + 300 < 2 ^ 30) {N s n : Nat} (hw : RW (rOf σ) N s n) (hn : σ 15 = nI n) (hn2 : n ≤ 200) {q : Nat} (hq : q < 144) {e : Nat} (he : e < 4) : zM G yX4_tellsSquare cX4_tellsSquare 3 (some .int) 6 [.ref o, .int (nI q), .int (nI e)] (f, m) (zD (some (.int (sSquare (rOf σ) (sXs (rOf σ) s n) q e))) (fun f' m' => zNQ f w o B hh σ mr 200 f' ∧ m' = m)) := by
  match e, he with
  | 0, _ => exact c_tellsSquare_0  h hmr9 hw hn hn2 hq
  | 1, _ => exact c_tellsSquare_1  h hmr9 hw hn hn2 hq
  | 2, _ => exact c_tellsSquare_2  h hmr9 hw hn hn2 hq
  | 3, _ => exact c_tellsSquare_3  h hmr9 hw hn hn2 hq
def mCount (ρ : zRS) (s n k : Nat) (e : Nat) : Int32 := if e = 8 then sMisfit ρ else sCount ρ s n k e
set_option maxRecDepth 10000 in
set_option maxHeartbeats 1000000 in
theorem c_tellsCount_0 {G : zW} {f : zHM} {m : Nat × Nat} {o mr : Nat} {B : Nat → Nat} {w : Nat → Int32} {hh : Int64} {σ : Nat → Int32} (h : MX f o B w hh σ mr) {N s n : Nat} (hw : RW (rOf σ) N s n) (hn : σ 15 = nI n) (hn2 : n ≤ 200) {k : Nat} (k0 : w 1 = nI k) : zM G yX4_tellsCount cX4_tellsCount 2 (some .int) 6 [.ref o, .int (nI 0)] (f, m) (zS (.int (mCount (rOf σ) s n k 0)) f m) := by
  refine zM.of (by decide) (Nat.le_of_ble_eq_true rfl) ?_
  have ho := h.1
  have hs := h.2.1
  refine v_iload_n dX4_tellsCount_0 rfl rfl ?_
  refine v_tableIn 64 dX4_tellsCount_1 (by decide) (by decide) (off := 63) (by rfl) (by decide) ?_
  refine v_aload_n dX4_tellsCount_64 rfl rfl ?_
  refine v_getfield fX4_7 dX4_tellsCount_65 (by assumption) (by rfl) ?_
  refine v_iload_n dX4_tellsCount_68 rfl rfl ?_
  refine v_iaload dX4_tellsCount_69 (by assumption) (vp_in_nI (by omega) (by omega)) ?_
  rw [nI_clamp (n := 0) (by omega)]
  exact v_ireturn dX4_tellsCount_70 rfl ⟨rfl, rfl, rfl⟩
set_option maxRecDepth 10000 in
set_option maxHeartbeats 1000000 in
theorem c_tellsCount_1 {G : zW} {f : zHM} {m : Nat × Nat} {o mr : Nat} {B : Nat → Nat} {w : Nat → Int32} {hh : Int64} {σ : Nat → Int32} (h : MX f o B w hh σ mr) {N s n : Nat} (hw : RW (rOf σ) N s n) (hn : σ 15 = nI n) (hn2 : n ≤ 200) {k : Nat} (k0 : w 1 = nI k) : zM G yX4_tellsCount cX4_tellsCount 2 (some .int) 6 [.ref o, .int (nI 1)] (f, m) (zS (.int (mCount (rOf σ) s n k 1)) f m) := by
  refine zM.of (by decide) (Nat.le_of_ble_eq_true rfl) ?_
  have ho := h.1
  have hs := h.2.1
  refine v_iload_n dX4_tellsCount_0 rfl rfl ?_
  refine v_tableIn 64 dX4_tellsCount_1 (by decide) (by decide) (off := 63) (by rfl) (by decide) ?_
  refine v_aload_n dX4_tellsCount_64 rfl rfl ?_
  refine v_getfield fX4_7 dX4_tellsCount_65 (by assumption) (by rfl) ?_
  refine v_iload_n dX4_tellsCount_68 rfl rfl ?_
  refine v_iaload dX4_tellsCount_69 (by assumption) (vp_in_nI (by omega) (by omega)) ?_
  rw [nI_clamp (n := 1) (by omega)]
  exact v_ireturn dX4_tellsCount_70 rfl ⟨rfl, rfl, rfl⟩
set_option maxRecDepth 10000 in
set_option maxHeartbeats 1000000 in
theorem c_tellsCount_2 {G : zW} {f : zHM} {m : Nat × Nat} {o mr : Nat} {B : Nat → Nat} {w : Nat → Int32} {hh : Int64} {σ : Nat → Int32} (h : MX f o B w hh σ mr) {N s n : Nat} (hw : RW (rOf σ) N s n) (hn : σ 15 = nI n) (hn2 : n ≤ 200) {k : Nat} (k0 : w 1 = nI k) : zM G yX4_tellsCount cX4_tellsCount 2 (some .int) 6 [.ref o, .int (nI 2)] (f, m) (zS (.int (mCount (rOf σ) s n k 2)) f m) := by
  refine zM.of (by decide) (Nat.le_of_ble_eq_true rfl) ?_
  have ho := h.1
  have hs := h.2.1
  refine v_iload_n dX4_tellsCount_0 rfl rfl ?_
  refine v_tableIn 64 dX4_tellsCount_1 (by decide) (by decide) (off := 63) (by rfl) (by decide) ?_
  refine v_aload_n dX4_tellsCount_64 rfl rfl ?_
  refine v_getfield fX4_7 dX4_tellsCount_65 (by assumption) (by rfl) ?_
  refine v_iload_n dX4_tellsCount_68 rfl rfl ?_
  refine v_iaload dX4_tellsCount_69 (by assumption) (vp_in_nI (by omega) (by omega)) ?_
  rw [nI_clamp (n := 2) (by omega)]
  exact v_ireturn dX4_tellsCount_70 rfl ⟨rfl, rfl, rfl⟩
set_option maxRecDepth 10000 in
set_option maxHeartbeats 1000000 in
theorem c_tellsCount_3 {G : zW} {f : zHM} {m : Nat × Nat} {o mr : Nat} {B : Nat → Nat} {w : Nat → Int32} {hh : Int64} {σ : Nat → Int32} (h : MX f o B w hh σ mr) {N s n : Nat} (hw : RW (rOf σ) N s n) (hn : σ 15 = nI n) (hn2 : n ≤ 200) {k : Nat} (k0 : w 1 = nI k) : zM G yX4_tellsCount cX4_tellsCount 2 (some .int) 6 [.ref o, .int (nI 3)] (f, m) (zS (.int (mCount (rOf σ) s n k 3)) f m) := by
  refine zM.of (by decide) (Nat.le_of_ble_eq_true rfl) ?_
  have ho := h.1
  have hs := h.2.1
  refine v_iload_n dX4_tellsCount_0 rfl rfl ?_
  refine v_tableIn 71 dX4_tellsCount_1 (by decide) (by decide) (off := 70) (by rfl) (by decide) ?_
  refine v_aload_n dX4_tellsCount_71 rfl rfl ?_
  refine v_getfield fX4_7 dX4_tellsCount_72 (by assumption) (by rfl) ?_
  refine v_bipush (nI 15) dX4_tellsCount_75 (by decide) ?_
  refine v_iaload dX4_tellsCount_77 (by assumption) (vp_in_nI (by omega) (by omega)) ?_
  rw [nI_clamp (n := 15) (by omega)]
  rw [hn]
  exact v_ireturn dX4_tellsCount_78 rfl ⟨rfl, rfl, rfl⟩
set_option maxRecDepth 10000 in
set_option maxHeartbeats 1000000 in
theorem c_tellsCount_4 {G : zW} {f : zHM} {m : Nat × Nat} {o mr : Nat} {B : Nat → Nat} {w : Nat → Int32} {hh : Int64} {σ : Nat → Int32} (h : MX f o B w hh σ mr) {N s n : Nat} (hw : RW (rOf σ) N s n) (hn : σ 15 = nI n) (hn2 : n ≤ 200) {k : Nat} (k0 : w 1 = nI k) : zM G yX4_tellsCount cX4_tellsCount 2 (some .int) 6 [.ref o, .int (nI 4)] (f, m) (zS (.int (mCount (rOf σ) s n k 4)) f m) := by
  refine zM.of (by decide) (Nat.le_of_ble_eq_true rfl) ?_
  have ho := h.1
  have hs := h.2.1
  refine v_iload_n dX4_tellsCount_0 rfl rfl ?_
  refine v_tableIn 79 dX4_tellsCount_1 (by decide) (by decide) (off := 78) (by rfl) (by decide) ?_
  refine v_aload_n dX4_tellsCount_79 rfl rfl ?_
  refine v_getfield fX4_7 dX4_tellsCount_80 (by assumption) (by rfl) ?_
  refine v_iload_n dX4_tellsCount_83 rfl rfl ?_
  refine v_iconst (nI 1) dX4_tellsCount_84 (by decide) ?_
  refine v_isub dX4_tellsCount_85 ?_
  rw [show nI 4 - nI 1 = nI 3 from by decide]
  refine v_iaload dX4_tellsCount_86 (by assumption) (vp_in_nI (by omega) (by omega)) ?_
  rw [nI_clamp (n := 3) (by omega)]
  exact v_ireturn dX4_tellsCount_87 rfl ⟨rfl, rfl, rfl⟩
set_option maxRecDepth 10000 in
set_option maxHeartbeats 1000000 in
theorem c_tellsCount_5 {G : zW} {f : zHM} {m : Nat × Nat} {o mr : Nat} {B : Nat → Nat} {w : Nat → Int32} {hh : Int64} {σ : Nat → Int32} (h : MX f o B w hh σ mr) {N s n : Nat} (hw : RW (rOf σ) N s n) (hn : σ 15 = nI n) (hn2 : n ≤ 200) {k : Nat} (k0 : w 1 = nI k) : zM G yX4_tellsCount cX4_tellsCount 2 (some .int) 6 [.ref o, .int (nI 5)] (f, m) (zS (.int (mCount (rOf σ) s n k 5)) f m) := by
  refine zM.of (by decide) (Nat.le_of_ble_eq_true rfl) ?_
  have ho := h.1
  have hs := h.2.1
  refine v_iload_n dX4_tellsCount_0 rfl rfl ?_
  refine v_tableIn 79 dX4_tellsCount_1 (by decide) (by decide) (off := 78) (by rfl) (by decide) ?_
  refine v_aload_n dX4_tellsCount_79 rfl rfl ?_
  refine v_getfield fX4_7 dX4_tellsCount_80 (by assumption) (by rfl) ?_
  refine v_iload_n dX4_tellsCount_83 rfl rfl ?_
  refine v_iconst (nI 1) dX4_tellsCount_84 (by decide) ?_
  refine v_isub dX4_tellsCount_85 ?_
  rw [show nI 5 - nI 1 = nI 4 from by decide]
  refine v_iaload dX4_tellsCount_86 (by assumption) (vp_in_nI (by omega) (by omega)) ?_
  rw [nI_clamp (n := 4) (by omega)]
  exact v_ireturn dX4_tellsCount_87 rfl ⟨rfl, rfl, rfl⟩
set_option maxRecDepth 10000 in
set_option maxHeartbeats 1000000 in
theorem c_tellsCount_6 {G : zW} {f : zHM} {m : Nat × Nat} {o mr : Nat} {B : Nat → Nat} {w : Nat → Int32} {hh : Int64} {σ : Nat → Int32} (h : MX f o B w hh σ mr) {N s n : Nat} (hw : RW (rOf σ) N s n) (hn : σ 15 = nI n) (hn2 : n ≤ 200) {k : Nat} (k0 : w 1 = nI k) : zM G yX4_tellsCount cX4_tellsCount 2 (some .int) 6 [.ref o, .int (nI 6)] (f, m) (zS (.int (mCount (rOf σ) s n k 6)) f m) := by
  refine zM.of (by decide) (Nat.le_of_ble_eq_true rfl) ?_
  have ho := h.1
  have hs := h.2.1
  refine v_iload_n dX4_tellsCount_0 rfl rfl ?_
  refine v_tableIn 79 dX4_tellsCount_1 (by decide) (by decide) (off := 78) (by rfl) (by decide) ?_
  refine v_aload_n dX4_tellsCount_79 rfl rfl ?_
  refine v_getfield fX4_7 dX4_tellsCount_80 (by assumption) (by rfl) ?_
  refine v_iload_n dX4_tellsCount_83 rfl rfl ?_
  refine v_iconst (nI 1) dX4_tellsCount_84 (by decide) ?_
  refine v_isub dX4_tellsCount_85 ?_
  rw [show nI 6 - nI 1 = nI 5 from by decide]
  refine v_iaload dX4_tellsCount_86 (by assumption) (vp_in_nI (by omega) (by omega)) ?_
  rw [nI_clamp (n := 5) (by omega)]
  exact v_ireturn dX4_tellsCount_87 rfl ⟨rfl, rfl, rfl⟩
set_option maxRecDepth 10000 in
set_option maxHeartbeats 1000000 in
theorem c_tellsCount_7 {G : zW} {f : zHM} {m : Nat × Nat} {o mr : Nat} {B : Nat → Nat} {w : Nat → Int32} {hh : Int64} {σ : Nat → Int32} (h : MX f o B w hh σ mr) {N s n : Nat} (hw : RW (rOf σ) N s n) (hn : σ 15 = nI n) (hn2 : n ≤ 200) {k : Nat} (k0 : w 1 = nI k) : zM G yX4_tellsCount cX4_tellsCount 2 (some .int) 6 [.ref o, .int (nI 7)] (f, m) (zS (.int (mCount (rOf σ) s n k 7)) f m) := by
  refine zM.of (by decide) (Nat.le_of_ble_eq_true rfl) ?_
  have ho := h.1
  have hs := h.2.1
  refine v_iload_n dX4_tellsCount_0 rfl rfl ?_
  refine v_tableIn 88 dX4_tellsCount_1 (by decide) (by decide) (off := 87) (by rfl) (by decide) ?_
  refine v_aload_n dX4_tellsCount_88 rfl rfl ?_
  refine v_callVp kX4_156 gi_X4_misfit ge_X4_misfit rfl dX4_tellsCount_89 (by assumption) (c_mmisfit ho hs) rfl rfl (by decide) (Nat.le_of_ble_eq_true rfl) ?_
  exact v_ireturn dX4_tellsCount_92 rfl ⟨rfl, rfl, rfl⟩
set_option maxRecDepth 10000 in
set_option maxHeartbeats 1000000 in
theorem c_tellsCount_8 {G : zW} {f : zHM} {m : Nat × Nat} {o mr : Nat} {B : Nat → Nat} {w : Nat → Int32} {hh : Int64} {σ : Nat → Int32} (h : MX f o B w hh σ mr) {N s n : Nat} (hw : RW (rOf σ) N s n) (hn : σ 15 = nI n) (hn2 : n ≤ 200) {k : Nat} (k0 : w 1 = nI k) : zM G yX4_tellsCount cX4_tellsCount 2 (some .int) 6 [.ref o, .int (nI 8)] (f, m) (zS (.int (mCount (rOf σ) s n k 8)) f m) := by
  refine zM.of (by decide) (Nat.le_of_ble_eq_true rfl) ?_
  have ho := h.1
  have hs := h.2.1
  refine v_iload_n dX4_tellsCount_0 rfl rfl ?_
  refine v_tableIn 88 dX4_tellsCount_1 (by decide) (by decide) (off := 87) (by rfl) (by decide) ?_
  refine v_aload_n dX4_tellsCount_88 rfl rfl ?_
  refine v_callVp kX4_156 gi_X4_misfit ge_X4_misfit rfl dX4_tellsCount_89 (by assumption) (c_mmisfit ho hs) rfl rfl (by decide) (Nat.le_of_ble_eq_true rfl) ?_
  exact v_ireturn dX4_tellsCount_92 rfl ⟨rfl, rfl, rfl⟩
set_option maxRecDepth 10000 in
set_option maxHeartbeats 1000000 in
theorem c_tellsCount_9 {G : zW} {f : zHM} {m : Nat × Nat} {o mr : Nat} {B : Nat → Nat} {w : Nat → Int32} {hh : Int64} {σ : Nat → Int32} (h : MX f o B w hh σ mr) {N s n : Nat} (hw : RW (rOf σ) N s n) (hn : σ 15 = nI n) (hn2 : n ≤ 200) {k : Nat} (k0 : w 1 = nI k) : zM G yX4_tellsCount cX4_tellsCount 2 (some .int) 6 [.ref o, .int (nI 9)] (f, m) (zS (.int (mCount (rOf σ) s n k 9)) f m) := by
  refine zM.of (by decide) (Nat.le_of_ble_eq_true rfl) ?_
  have ho := h.1
  have hs := h.2.1
  refine v_iload_n dX4_tellsCount_0 rfl rfl ?_
  refine v_tableIn 93 dX4_tellsCount_1 (by decide) (by decide) (off := 92) (by rfl) (by decide) ?_
  refine v_aload_n dX4_tellsCount_93 rfl rfl ?_
  refine v_iconst (1) dX4_tellsCount_94 (by decide) ?_
  refine v_callVp kX4_211 gi_X4_squaresThat ge_X4_squaresThat rfl dX4_tellsCount_95 (by assumption) (c_msquaresThat h) rfl rfl (by decide) (Nat.le_of_ble_eq_true rfl) ?_
  exact v_ireturn dX4_tellsCount_98 rfl ⟨rfl, rfl, rfl⟩
set_option maxRecDepth 10000 in
set_option maxHeartbeats 1000000 in
theorem c_tellsCount_10 {G : zW} {f : zHM} {m : Nat × Nat} {o mr : Nat} {B : Nat → Nat} {w : Nat → Int32} {hh : Int64} {σ : Nat → Int32} (h : MX f o B w hh σ mr) {N s n : Nat} (hw : RW (rOf σ) N s n) (hn : σ 15 = nI n) (hn2 : n ≤ 200) {k : Nat} (k0 : w 1 = nI k) : zM G yX4_tellsCount cX4_tellsCount 2 (some .int) 6 [.ref o, .int (nI 10)] (f, m) (zS (.int (mCount (rOf σ) s n k 10)) f m) := by
  refine zM.of (by decide) (Nat.le_of_ble_eq_true rfl) ?_
  have ho := h.1
  have hs := h.2.1
  refine v_iload_n dX4_tellsCount_0 rfl rfl ?_
  refine v_tableIn 99 dX4_tellsCount_1 (by decide) (by decide) (off := 98) (by rfl) (by decide) ?_
  refine v_aload_n dX4_tellsCount_99 rfl rfl ?_
  refine v_iconst (-1) dX4_tellsCount_100 (by decide) ?_
  refine v_callVp kX4_211 gi_X4_squaresThat ge_X4_squaresThat rfl dX4_tellsCount_101 (by assumption) (c_msquaresThat h) rfl rfl (by decide) (Nat.le_of_ble_eq_true rfl) ?_
  exact v_ireturn dX4_tellsCount_104 rfl ⟨rfl, rfl, rfl⟩
set_option maxRecDepth 10000 in
set_option maxHeartbeats 1000000 in
theorem c_tellsCount_11 {G : zW} {f : zHM} {m : Nat × Nat} {o mr : Nat} {B : Nat → Nat} {w : Nat → Int32} {hh : Int64} {σ : Nat → Int32} (h : MX f o B w hh σ mr) {N s n : Nat} (hw : RW (rOf σ) N s n) (hn : σ 15 = nI n) (hn2 : n ≤ 200) {k : Nat} (k0 : w 1 = nI k) : zM G yX4_tellsCount cX4_tellsCount 2 (some .int) 6 [.ref o, .int (nI 11)] (f, m) (zS (.int (mCount (rOf σ) s n k 11)) f m) := by
  refine zM.of (by decide) (Nat.le_of_ble_eq_true rfl) ?_
  have ho := h.1
  have hs := h.2.1
  refine v_iload_n dX4_tellsCount_0 rfl rfl ?_
  refine v_tableIn 105 dX4_tellsCount_1 (by decide) (by decide) (off := 104) (by rfl) (by decide) ?_
  refine v_aload_n dX4_tellsCount_105 rfl rfl ?_
  refine v_iconst (0) dX4_tellsCount_106 (by decide) ?_
  refine v_callVp kX4_193 gi_X4_threadOf ge_X4_threadOf rfl dX4_tellsCount_107 (by assumption) (c_mthreadOf h hw hn hn2) rfl rfl (by decide) (Nat.le_of_ble_eq_true rfl) ?_
  refine v_aload_n dX4_tellsCount_110 rfl rfl ?_
  refine v_iconst (1) dX4_tellsCount_111 (by decide) ?_
  refine v_callVp kX4_193 gi_X4_threadOf ge_X4_threadOf rfl dX4_tellsCount_112 (by assumption) (c_mthreadOf h hw hn hn2) rfl rfl (by decide) (Nat.le_of_ble_eq_true rfl) ?_
  refine v_iadd dX4_tellsCount_115 ?_
  refine v_aload_n dX4_tellsCount_116 rfl rfl ?_
  refine v_iconst (2) dX4_tellsCount_117 (by decide) ?_
  refine v_callVp kX4_193 gi_X4_threadOf ge_X4_threadOf rfl dX4_tellsCount_118 (by assumption) (c_mthreadOf h hw hn hn2) rfl rfl (by decide) (Nat.le_of_ble_eq_true rfl) ?_
  refine v_iadd dX4_tellsCount_121 ?_
  exact v_ireturn dX4_tellsCount_122 rfl ⟨rfl, rfl, rfl⟩
set_option maxRecDepth 10000 in
set_option maxHeartbeats 1000000 in
theorem c_tellsCount_12 {G : zW} {f : zHM} {m : Nat × Nat} {o mr : Nat} {B : Nat → Nat} {w : Nat → Int32} {hh : Int64} {σ : Nat → Int32} (h : MX f o B w hh σ mr) {N s n : Nat} (hw : RW (rOf σ) N s n) (hn : σ 15 = nI n) (hn2 : n ≤ 200) {k : Nat} (k0 : w 1 = nI k) : zM G yX4_tellsCount cX4_tellsCount 2 (some .int) 6 [.ref o, .int (nI 12)] (f, m) (zS (.int (mCount (rOf σ) s n k 12)) f m) := by
  refine zM.of (by decide) (Nat.le_of_ble_eq_true rfl) ?_
  have ho := h.1
  have hs := h.2.1
  refine v_iload_n dX4_tellsCount_0 rfl rfl ?_
  refine v_tableOut 123 dX4_tellsCount_1 (Or.inr (by decide)) (by decide) ?_
  refine v_aload_n dX4_tellsCount_123 rfl rfl ?_
  refine v_getfield fX4_39 dX4_tellsCount_124 (by assumption) (by rfl) ?_
  rw [k0]
  exact v_ireturn dX4_tellsCount_127 rfl ⟨rfl, rfl, rfl⟩
theorem c_tellsCount {G : zW} {f : zHM} {m : Nat × Nat} {o mr : Nat} {B : Nat → Nat} {w : Nat → Int32} {hh : Int64} {σ : Nat → Int32} (h : MX f o B w hh σ mr) {N s n : Nat} (hw : RW (rOf σ) N s n) (hn : σ 15 = nI n) (hn2 : n ≤ 200) {k : Nat} (k0 : w 1 = nI k) {e : Nat} (he : e < 13) : zM G yX4_tellsCount cX4_tellsCount 2 (some .int) 6 [.ref o, .int (nI e)] (f, m) (zS (.int (mCount (rOf σ) s n k e)) f m) := by
  match e, he with
  | 0, _ => exact c_tellsCount_0  h hw hn hn2 k0
  | 1, _ => exact c_tellsCount_1  h hw hn hn2 k0
  | 2, _ => exact c_tellsCount_2  h hw hn hn2 k0
  | 3, _ => exact c_tellsCount_3  h hw hn hn2 k0
  | 4, _ => exact c_tellsCount_4  h hw hn hn2 k0
  | 5, _ => exact c_tellsCount_5  h hw hn hn2 k0
  | 6, _ => exact c_tellsCount_6  h hw hn hn2 k0
  | 7, _ => exact c_tellsCount_7  h hw hn hn2 k0
  | 8, _ => exact c_tellsCount_8  h hw hn hn2 k0
  | 9, _ => exact c_tellsCount_9  h hw hn hn2 k0
  | 10, _ => exact c_tellsCount_10  h hw hn hn2 k0
  | 11, _ => exact c_tellsCount_11  h hw hn hn2 k0
  | 12, _ => exact c_tellsCount_12  h hw hn hn2 k0
set_option maxRecDepth 10000 in
set_option maxHeartbeats 1000000 in
theorem c_tellsGain {G : zW} {f : zHM} {m : Nat × Nat} {o mr : Nat} {B : Nat → Nat} {w : Nat → Int32} {hh : Int64} {σ : Nat → Int32} (h : MX f o B w hh σ mr) (hmr9 : mr + 300 < 2 ^ 30) {N s n : Nat} (hw : RW (rOf σ) N s n) (hn : σ 15 = nI n) (hn2 : n ≤ 200) {a : Nat} (ha : a < N) (hat : σ 1 = nI a) {u : Nat} (hu : u < 3) (hnow : σ 2 = nI u) {b : Nat} (hb : b < N) : zM G yX4_tellsGain cX4_tellsGain 2 (some .int) 6 [.ref o, .int (nI b)] (f, m) (zD (some (.int (sGain9 (rOf σ) s u a b))) (fun f' m' => zNQ f w o B hh σ mr 1 f' ∧ m' = m)) := by
  refine zM.of (by decide) (Nat.le_of_ble_eq_true rfl) ?_
  have ho := h.1
  have hs := h.2.1
  have hv := hw.1
  have hp := hv.pos
  refine v_iload_n dX4_tellsGain_0 rfl rfl ?_
  refine v_aload_n dX4_tellsGain_1 rfl rfl ?_
  refine v_getfield fX4_7 dX4_tellsGain_2 (by assumption) (by rfl) ?_
  refine v_iconst (nI 1) dX4_tellsGain_5 (by decide) ?_
  refine v_iaload dX4_tellsGain_6 (by assumption) (vp_in_nI (by omega) (by omega)) ?_
  rw [nI_clamp (n := 1) (by omega)]
  rw [hat]
  refine v_icmp_ne 14 dX4_tellsGain_7 (by decide) (fun b7 => ?_) (fun b7 => ?_)
  · rw [nI_eq (by omega) (by omega)] at b7
    refine v_aload_n dX4_tellsGain_14 rfl rfl ?_
    refine v_aload_n dX4_tellsGain_15 rfl rfl ?_
    refine v_getfield fX4_7 dX4_tellsGain_16 (by assumption) (by rfl) ?_
    refine v_iconst (nI 1) dX4_tellsGain_19 (by decide) ?_
    refine v_iaload dX4_tellsGain_20 (by assumption) (vp_in_nI (by omega) (by omega)) ?_
    rw [nI_clamp (n := 1) (by omega)]
    rw [hat]
    refine v_iload_n dX4_tellsGain_21 rfl rfl ?_
    refine v_aload_n dX4_tellsGain_22 rfl rfl ?_
    refine v_aload_n dX4_tellsGain_23 rfl rfl ?_
    refine v_getfield fX4_7 dX4_tellsGain_24 (by assumption) (by rfl) ?_
    refine v_iconst (nI 2) dX4_tellsGain_27 (by decide) ?_
    refine v_iaload dX4_tellsGain_28 (by assumption) (vp_in_nI (by omega) (by omega)) ?_
    rw [nI_clamp (n := 2) (by omega)]
    rw [hnow]
    refine v_callVp kX4_88 gi_X4_shade ge_X4_shade rfl dX4_tellsGain_29 (by assumption) (c_mshade ho hs hu) rfl rfl (by decide) (Nat.le_of_ble_eq_true rfl) ?_
    refine v_callV1 kX4_111 gi_X4_gained ge_X4_gained rfl dX4_tellsGain_32 (by assumption) (c_gained h (by omega) hv ha hb (fun e => b7 e.symm) (sh := σ (9 + 2 * u))) rfl rfl (by decide) (Nat.le_of_ble_eq_true rfl) (fun f1 m hc1 => ?_)
    obtain ⟨⟨mr1, hm1, w1, h1, hk1, hf1⟩, rfl⟩ := hc1
    replace hk1 := (wK.refl w).trans hk1
    replace hf1 := zFr.trans zFr.refl hf1
    have ho1 := h1.1
    have hs1 := h1.2.1
    refine v_sipush (10000) dX4_tellsGain_35 (by decide) ?_
    refine v_iadd dX4_tellsGain_38 ?_
    exact v_ireturn dX4_tellsGain_39 rfl ⟨by rw [show sGain9 (rOf σ) s u a b = _ from if_neg b7]; rfl, ⟨mr1, by omega, w1, h1, hk1, hf1⟩, rfl⟩
  · rw [nI_eq (by omega) (by omega)] at b7
    refine v_iconst (-1) dX4_tellsGain_10 (by decide) ?_
    refine v_goto 39 dX4_tellsGain_11 (by decide) ?_
    exact v_ireturn dX4_tellsGain_39 rfl ⟨by rw [show sGain9 (rOf σ) s u a b = _ from if_pos b7], ⟨mr, by omega, w, h, (wK.refl w), zFr.refl⟩, rfl⟩
set_option maxRecDepth 10000 in
set_option maxHeartbeats 1000000 in
theorem c_palestOne {G : zW} {f : zHM} {m : Nat × Nat} {o mr : Nat} {B : Nat → Nat} {w : Nat → Int32} {hh : Int64} {σ : Nat → Int32} (h : MX f o B w hh σ mr) : zM G yX4_palestOne cX4_palestOne 5 (some .int) 2 [.ref o] (f, m) (zS (.int ((sPal (rOf σ) 144).1)) f m) := by
  refine zM.of (by decide) (Nat.le_of_ble_eq_true rfl) ?_
  have ho := h.1
  have hs := h.2.1
  have loop : ∀ (kk i : Nat), i + kk = 144 → zV G yX4_palestOne cX4_palestOne 5 (some .int) 2 6 [(0, .ref o), (1, .int (sPal (rOf σ) i).1), (2, .int (sPal (rOf σ) i).2), (3, .int (nI i))] [] (f, m) (zS (.int ((sPal (rOf σ) 144).1)) f m) := by
    intro kk
    induction kk with
    | zero =>
      intro i hi
      refine v_iload_n dX4_palestOne_6 rfl rfl ?_
      refine v_sipush (nI 144) dX4_palestOne_7 (by decide) ?_
      refine v_icmp_ge 62 dX4_palestOne_10 (by decide) (fun b10 => ?_) (fun b10 => ?_)
      · rw [nI_leI (by omega) (by omega)] at b10
        refine v_iload_n dX4_palestOne_62 rfl rfl ?_
        exact v_ireturn dX4_palestOne_63 rfl ⟨by rw [show i = 144 from by omega], rfl, rfl⟩
      · rw [nI_leI (by omega) (by omega)] at b10
        omega
    | succ kk ih =>
      intro i hi
      have h9 : i < 144 := by omega
      refine v_iload_n dX4_palestOne_6 rfl rfl ?_
      refine v_sipush (nI 144) dX4_palestOne_7 (by decide) ?_
      refine v_icmp_ge 62 dX4_palestOne_10 (by decide) (fun b10 => ?_) (fun b10 => ?_)
      · rw [nI_leI (by omega) (by omega)] at b10
        omega
      · rw [nI_leI (by omega) (by omega)] at b10
        refine v_aload_n dX4_palestOne_13 rfl rfl ?_
        refine v_iload_n dX4_palestOne_14 rfl rfl ?_
        refine v_callVp kX4_104 gi_X4_lack ge_X4_lack rfl dX4_palestOne_15 (by assumption) (c_mlack ho hs h9) rfl rfl (by decide) (Nat.le_of_ble_eq_true rfl) ?_
        refine v_istore dX4_palestOne_18 (by decide) ?_
        refine v_iload dX4_palestOne_20 rfl ?_
        refine v_iload_n dX4_palestOne_22 rfl rfl ?_
        refine v_icmp_le 41 dX4_palestOne_23 (by decide) (fun b23 => ?_) (fun b23 => ?_)
        · refine v_iload_n dX4_palestOne_41 rfl rfl ?_
          refine v_istore_n dX4_palestOne_42 rfl (by decide) ?_
          refine v_iload dX4_palestOne_43 rfl ?_
          refine v_iload_n dX4_palestOne_45 rfl rfl ?_
          refine v_icmp_le 54 dX4_palestOne_46 (by decide) (fun b46 => ?_) (fun b46 => ?_)
          · refine v_iload_n dX4_palestOne_54 rfl rfl ?_
            refine v_istore_n dX4_palestOne_55 rfl (by decide) ?_
            refine v_iincN dX4_palestOne_56 rfl (by decide) ?_
            refine v_goto 6 dX4_palestOne_59 (by decide) ?_
            have hst : sPal (rOf σ) (i + 1) = sPal (rOf σ) i := if_pos b23
            exact v_loc (lv' := [(0, .ref o), (1, .int (sPal (rOf σ) (i + 1)).1), (2, .int (sPal (rOf σ) (i + 1)).2), (3, .int (nI (i + 1)))]) ⟨rfl, zlkE rfl (by rw [hst]), zlkE rfl (by rw [hst]), rfl, trivial⟩ (ih (i + 1) (by omega))
          · exact absurd b23 b46
        · refine v_bipush (nI 100) dX4_palestOne_26 (by decide) ?_
          refine v_iload_n dX4_palestOne_28 rfl rfl ?_
          refine v_bipush (nI 12) dX4_palestOne_29 (by decide) ?_
          refine v_idiv dX4_palestOne_31 (by decide) ?_
          rw [pk_div (by omega) (by omega) (by omega)]
          refine v_imul dX4_palestOne_32 ?_
          rw [pk_mul 100 (i / 12)]
          refine v_iload_n dX4_palestOne_33 rfl rfl ?_
          refine v_bipush (nI 12) dX4_palestOne_34 (by decide) ?_
          refine v_irem dX4_palestOne_36 (by decide) ?_
          rw [pk_rem (by omega) (by omega) (by omega)]
          refine v_iadd dX4_palestOne_37 ?_
          rw [nI_add (100 * (i / 12)) (i % 12)]
          refine v_goto 42 dX4_palestOne_38 (by decide) ?_
          refine v_istore_n dX4_palestOne_42 rfl (by decide) ?_
          refine v_iload dX4_palestOne_43 rfl ?_
          refine v_iload_n dX4_palestOne_45 rfl rfl ?_
          refine v_icmp_le 54 dX4_palestOne_46 (by decide) (fun b46 => ?_) (fun b46 => ?_)
          · exact absurd b46 b23
          · refine v_iload dX4_palestOne_49 rfl ?_
            refine v_goto 55 dX4_palestOne_51 (by decide) ?_
            refine v_istore_n dX4_palestOne_55 rfl (by decide) ?_
            refine v_iincN dX4_palestOne_56 rfl (by decide) ?_
            refine v_goto 6 dX4_palestOne_59 (by decide) ?_
            have hst : sPal (rOf σ) (i + 1) = (nI (100 * (i / 12) + i % 12), sLack (rOf σ) i) := if_neg b23
            exact v_loc (lv' := [(0, .ref o), (1, .int (sPal (rOf σ) (i + 1)).1), (2, .int (sPal (rOf σ) (i + 1)).2), (3, .int (nI (i + 1)))]) ⟨rfl, zlkE rfl (by rw [hst]), zlkE rfl (by rw [hst]), rfl, trivial⟩ (ih (i + 1) (by omega))
  refine v_iconst (-1) dX4_palestOne_0 (by decide) ?_
  refine v_istore_n dX4_palestOne_1 rfl (by decide) ?_
  refine v_iconst (0) dX4_palestOne_2 (by decide) ?_
  refine v_istore_n dX4_palestOne_3 rfl (by decide) ?_
  refine v_iconst (nI 0) dX4_palestOne_4 (by decide) ?_
  refine v_istore_n dX4_palestOne_5 rfl (by decide) ?_
  exact v_loc (lv' := [(0, .ref o), (1, .int (sPal (rOf σ) 0).1), (2, .int (sPal (rOf σ) 0).2), (3, .int (nI 0))]) ⟨rfl, rfl, rfl, rfl, trivial⟩ (loop 144 0 (by omega))
set_option maxRecDepth 10000 in
set_option maxHeartbeats 1000000 in
theorem c_share {G : zW} {f : zHM} {m : Nat × Nat} {o mr : Nat} {B : Nat → Nat} {w : Nat → Int32} {hh : Int64} {σ : Nat → Int32} (h : MX f o B w hh σ mr) : zM G yX4_share cX4_share 1 (some .double) 4 [.ref o] (f, m) (zS (.double (sShare (rOf σ))) f m) := by
  refine zM.of (by decide) (Nat.le_of_ble_eq_true rfl) ?_
  have ho := h.1
  have hs := h.2.1
  refine v_aload_n dX4_share_0 rfl rfl ?_
  refine v_iconst (0) dX4_share_1 (by decide) ?_
  refine v_callVp kX4_211 gi_X4_squaresThat ge_X4_squaresThat rfl dX4_share_2 (by assumption) (c_msquaresThat h) rfl rfl (by decide) (Nat.le_of_ble_eq_true rfl) ?_
  refine v_i2d dX4_share_5 ?_
  refine v_ldc2d 4639270566145032192 dX4_share_6 gM144 ?_
  refine v_ddiv dX4_share_9 (by obtain ⟨k9, h1, h2⟩ := sThat_nI (rOf σ) 0; rw [h2]; exact sShare_ok k9 (by omega)) ?_
  exact v_dreturn dX4_share_10 rfl ⟨rfl, rfl, rfl⟩
