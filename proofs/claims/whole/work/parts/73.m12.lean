/-- how many chords cross a square -/
def sXs (ρ : zRS) (s n : Nat) (q : Nat) : Int32 := sSum (fun c => if q ∈ sPa s (zn (ρ 4 c)) (zn (ρ 5 c)) then 1 else 0) n
set_option maxRecDepth 10000 in
set_option maxHeartbeats 1000000 in
theorem c_mchordsOf {G : zW} {f : zHM} {m : Nat × Nat} {o mr : Nat} {B : Nat → Nat} {w : Nat → Int32} {hh : Int64} {σ : Nat → Int32} (h : MX f o B w hh σ mr) {n : Nat} (hn : σ 15 = nI n) (hn2 : n ≤ 200) {x : Int32} : zM G yX4_chordsOf cX4_chordsOf 4 (some .int) 2 [.ref o, .int x] (f, m) (zS (.int (sCh (rOf σ) n x)) f m) := by
  refine zM.of (by decide) (Nat.le_of_ble_eq_true rfl) ?_
  have ho := h.1
  have hs := h.2.1
  have loop : ∀ (kk i : Nat), i + kk = n → zV G yX4_chordsOf cX4_chordsOf 4 (some .int) 2 4 [(0, .ref o), (1, .int x), (2, .int (sSum (fun c => if rOf σ 6 c = x then 1 else 0) i)), (3, .int (nI i))] [] (f, m) (zS (.int (sCh (rOf σ) n x)) f m) := by
    intro kk
    induction kk with
    | zero =>
      intro i hi
      refine v_iload_n dX4_chordsOf_4 rfl rfl ?_
      refine v_aload_n dX4_chordsOf_5 rfl rfl ?_
      refine v_getfield fX4_7 dX4_chordsOf_6 (by assumption) (by rfl) ?_
      refine v_bipush (nI 15) dX4_chordsOf_9 (by decide) ?_
      refine v_iaload dX4_chordsOf_11 (by assumption) (vp_in_nI (by omega) (by omega)) ?_
      rw [nI_clamp (n := 15) (by omega)]
      rw [hn]
      refine v_icmp_ge 39 dX4_chordsOf_12 (by decide) (fun b12 => ?_) (fun b12 => ?_)
      · rw [nI_leI (by omega) (by omega)] at b12
        refine v_iload_n dX4_chordsOf_39 rfl rfl ?_
        exact v_ireturn dX4_chordsOf_40 rfl ⟨by rw [show i = n from by omega]; rfl, rfl, rfl⟩
      · rw [nI_leI (by omega) (by omega)] at b12
        omega
    | succ kk ih =>
      intro i hi
      have h9 : i < n := by omega
      refine v_iload_n dX4_chordsOf_4 rfl rfl ?_
      refine v_aload_n dX4_chordsOf_5 rfl rfl ?_
      refine v_getfield fX4_7 dX4_chordsOf_6 (by assumption) (by rfl) ?_
      refine v_bipush (nI 15) dX4_chordsOf_9 (by decide) ?_
      refine v_iaload dX4_chordsOf_11 (by assumption) (vp_in_nI (by omega) (by omega)) ?_
      rw [nI_clamp (n := 15) (by omega)]
      rw [hn]
      refine v_icmp_ge 39 dX4_chordsOf_12 (by decide) (fun b12 => ?_) (fun b12 => ?_)
      · rw [nI_leI (by omega) (by omega)] at b12
        omega
      · rw [nI_leI (by omega) (by omega)] at b12
        refine v_iload_n dX4_chordsOf_15 rfl rfl ?_
        refine v_aload_n dX4_chordsOf_16 rfl rfl ?_
        refine v_iload_n dX4_chordsOf_17 rfl rfl ?_
        refine v_iconst (nI 2) dX4_chordsOf_18 (by decide) ?_
        refine v_callVp kX4_78 gi_X4_ofChord ge_X4_ofChord rfl dX4_chordsOf_19 (by assumption) (c_ofChord ho hs (k := 2) (show i < 200 by omega) (by omega)) rfl rfl (by decide) (Nat.le_of_ble_eq_true rfl) ?_
        refine v_iload_n dX4_chordsOf_22 rfl rfl ?_
        refine v_icmp_ne 30 dX4_chordsOf_23 (by decide) (fun b23 => ?_) (fun b23 => ?_)
        · refine v_iconst (0) dX4_chordsOf_30 (by decide) ?_
          refine v_iadd dX4_chordsOf_31 ?_
          refine v_istore_n dX4_chordsOf_32 rfl (by decide) ?_
          refine v_iincN dX4_chordsOf_33 rfl (by decide) ?_
          refine v_goto 4 dX4_chordsOf_36 (by decide) ?_
          exact v_loc (lv' := [(0, .ref o), (1, .int x), (2, .int (sSum (fun c => if rOf σ 6 c = x then 1 else 0) (i + 1))), (3, .int (nI (i + 1)))]) ⟨rfl, rfl, zlkE rfl (by show _ = sSum _ i + (if σ (16 + 3 * i + 2) = x then 1 else 0); first | rw [if_pos b23] | rw [if_neg b23]), rfl, trivial⟩ (ih (i + 1) (by omega))
        · refine v_iconst (1) dX4_chordsOf_26 (by decide) ?_
          refine v_goto 31 dX4_chordsOf_27 (by decide) ?_
          refine v_iadd dX4_chordsOf_31 ?_
          refine v_istore_n dX4_chordsOf_32 rfl (by decide) ?_
          refine v_iincN dX4_chordsOf_33 rfl (by decide) ?_
          refine v_goto 4 dX4_chordsOf_36 (by decide) ?_
          exact v_loc (lv' := [(0, .ref o), (1, .int x), (2, .int (sSum (fun c => if rOf σ 6 c = x then 1 else 0) (i + 1))), (3, .int (nI (i + 1)))]) ⟨rfl, rfl, zlkE rfl (by show _ = sSum _ i + (if σ (16 + 3 * i + 2) = x then 1 else 0); first | rw [if_pos b23] | rw [if_neg b23]), rfl, trivial⟩ (ih (i + 1) (by omega))
  refine v_iconst (0) dX4_chordsOf_0 (by decide) ?_
  refine v_istore_n dX4_chordsOf_1 rfl (by decide) ?_
  refine v_iconst (nI 0) dX4_chordsOf_2 (by decide) ?_
  refine v_istore_n dX4_chordsOf_3 rfl (by decide) ?_
  exact v_loc (lv' := [(0, .ref o), (1, .int x), (2, .int (sSum (fun c => if rOf σ 6 c = x then 1 else 0) 0)), (3, .int (nI 0))]) ⟨rfl, rfl, rfl, rfl, trivial⟩ (loop n 0 (by omega))
set_option maxRecDepth 10000 in
set_option maxHeartbeats 1000000 in
theorem c_mthreadOf {G : zW} {f : zHM} {m : Nat × Nat} {o mr : Nat} {B : Nat → Nat} {w : Nat → Int32} {hh : Int64} {σ : Nat → Int32} (h : MX f o B w hh σ mr) {N s n : Nat} (hw : RW (rOf σ) N s n) (hn : σ 15 = nI n) (hn2 : n ≤ 200) {x : Int32} : zM G yX4_threadOf cX4_threadOf 4 (some .int) 5 [.ref o, .int x] (f, m) (zS (.int (sThr (rOf σ) s n x)) f m) := by
  refine zM.of (by decide) (Nat.le_of_ble_eq_true rfl) ?_
  have ho := h.1
  have hs := h.2.1
  have hv := hw.1
  have hN : σ 0 = nI N := hv.1
  have hp := hv.pos
  have loop : ∀ (kk i : Nat), i + kk = n → zV G yX4_threadOf cX4_threadOf 4 (some .int) 5 4 [(0, .ref o), (1, .int x), (2, .int (sSum (fun c => if rOf σ 6 c = x then sLn s (zn (rOf σ 4 c)) (zn (rOf σ 5 c)) else 0) i)), (3, .int (nI i))] [] (f, m) (zS (.int (sThr (rOf σ) s n x)) f m) := by
    intro kk
    induction kk with
    | zero =>
      intro i hi
      refine v_iload_n dX4_threadOf_4 rfl rfl ?_
      refine v_aload_n dX4_threadOf_5 rfl rfl ?_
      refine v_getfield fX4_7 dX4_threadOf_6 (by assumption) (by rfl) ?_
      refine v_bipush (nI 15) dX4_threadOf_9 (by decide) ?_
      refine v_iaload dX4_threadOf_11 (by assumption) (vp_in_nI (by omega) (by omega)) ?_
      rw [nI_clamp (n := 15) (by omega)]
      rw [hn]
      refine v_icmp_ge 54 dX4_threadOf_12 (by decide) (fun b12 => ?_) (fun b12 => ?_)
      · rw [nI_leI (by omega) (by omega)] at b12
        refine v_iload_n dX4_threadOf_54 rfl rfl ?_
        exact v_ireturn dX4_threadOf_55 rfl ⟨by rw [show i = n from by omega]; rfl, rfl, rfl⟩
      · rw [nI_leI (by omega) (by omega)] at b12
        omega
    | succ kk ih =>
      intro i hi
      have h9 : i < n := by omega
      obtain ⟨a, b, u, ha, hb, hab, hu, q4, q5, q6⟩ := hw.2.2 i h9
      have q4 : σ (16 + 3 * i + 0) = nI a := q4
      have q5 : σ (16 + 3 * i + 1) = nI b := q5
      refine v_iload_n dX4_threadOf_4 rfl rfl ?_
      refine v_aload_n dX4_threadOf_5 rfl rfl ?_
      refine v_getfield fX4_7 dX4_threadOf_6 (by assumption) (by rfl) ?_
      refine v_bipush (nI 15) dX4_threadOf_9 (by decide) ?_
      refine v_iaload dX4_threadOf_11 (by assumption) (vp_in_nI (by omega) (by omega)) ?_
      rw [nI_clamp (n := 15) (by omega)]
      rw [hn]
      refine v_icmp_ge 54 dX4_threadOf_12 (by decide) (fun b12 => ?_) (fun b12 => ?_)
      · rw [nI_leI (by omega) (by omega)] at b12
        omega
      · rw [nI_leI (by omega) (by omega)] at b12
        refine v_iload_n dX4_threadOf_15 rfl rfl ?_
        refine v_aload_n dX4_threadOf_16 rfl rfl ?_
        refine v_iload_n dX4_threadOf_17 rfl rfl ?_
        refine v_iconst (nI 2) dX4_threadOf_18 (by decide) ?_
        refine v_callVp kX4_78 gi_X4_ofChord ge_X4_ofChord rfl dX4_threadOf_19 (by assumption) (c_ofChord ho hs (k := 2) (show i < 200 by omega) (by omega)) rfl rfl (by decide) (Nat.le_of_ble_eq_true rfl) ?_
        refine v_iload_n dX4_threadOf_22 rfl rfl ?_
        refine v_icmp_ne 45 dX4_threadOf_23 (by decide) (fun b23 => ?_) (fun b23 => ?_)
        · refine v_iconst (0) dX4_threadOf_45 (by decide) ?_
          refine v_iadd dX4_threadOf_46 ?_
          refine v_istore_n dX4_threadOf_47 rfl (by decide) ?_
          refine v_iincN dX4_threadOf_48 rfl (by decide) ?_
          refine v_goto 4 dX4_threadOf_51 (by decide) ?_
          exact v_loc (lv' := [(0, .ref o), (1, .int x), (2, .int (sSum (fun c => if rOf σ 6 c = x then sLn s (zn (rOf σ 4 c)) (zn (rOf σ 5 c)) else 0) (i + 1))), (3, .int (nI (i + 1)))]) ⟨rfl, rfl, zlkE rfl (by show _ = sSum _ i + (if σ (16 + 3 * i + 2) = x then sLn s (zn (σ (16 + 3 * i + 0))) (zn (σ (16 + 3 * i + 1))) else 0); rw [q4, q5, zn_nI (by omega), zn_nI (by omega)]; first | rw [if_pos b23] | rw [if_neg b23]), rfl, trivial⟩ (ih (i + 1) (by omega))
        · refine v_aload_n dX4_threadOf_26 rfl rfl ?_
          refine v_aload_n dX4_threadOf_27 rfl rfl ?_
          refine v_iload_n dX4_threadOf_28 rfl rfl ?_
          refine v_iconst (nI 0) dX4_threadOf_29 (by decide) ?_
          refine v_callVp kX4_78 gi_X4_ofChord ge_X4_ofChord rfl dX4_threadOf_30 (by assumption) (c_ofChord ho hs (k := 0) (show i < 200 by omega) (by omega)) rfl rfl (by decide) (Nat.le_of_ble_eq_true rfl) ?_
          rw [q4]
          refine v_aload_n dX4_threadOf_33 rfl rfl ?_
          refine v_iload_n dX4_threadOf_34 rfl rfl ?_
          refine v_iconst (nI 1) dX4_threadOf_35 (by decide) ?_
          refine v_callVp kX4_78 gi_X4_ofChord ge_X4_ofChord rfl dX4_threadOf_36 (by assumption) (c_ofChord ho hs (k := 1) (show i < 200 by omega) (by omega)) rfl rfl (by decide) (Nat.le_of_ble_eq_true rfl) ?_
          rw [q5]
          refine v_callVp kX4_95 gi_X4_lengthOf ge_X4_lengthOf rfl dX4_threadOf_39 (by assumption) (c_mlengthOf ho hs hN hv.2.2.1 hv.2.2.2 ha hb) rfl rfl (by decide) (Nat.le_of_ble_eq_true rfl) ?_
          refine v_goto 46 dX4_threadOf_42 (by decide) ?_
          refine v_iadd dX4_threadOf_46 ?_
          refine v_istore_n dX4_threadOf_47 rfl (by decide) ?_
          refine v_iincN dX4_threadOf_48 rfl (by decide) ?_
          refine v_goto 4 dX4_threadOf_51 (by decide) ?_
          exact v_loc (lv' := [(0, .ref o), (1, .int x), (2, .int (sSum (fun c => if rOf σ 6 c = x then sLn s (zn (rOf σ 4 c)) (zn (rOf σ 5 c)) else 0) (i + 1))), (3, .int (nI (i + 1)))]) ⟨rfl, rfl, zlkE rfl (by show _ = sSum _ i + (if σ (16 + 3 * i + 2) = x then sLn s (zn (σ (16 + 3 * i + 0))) (zn (σ (16 + 3 * i + 1))) else 0); rw [q4, q5, zn_nI (by omega), zn_nI (by omega)]; first | rw [if_pos b23] | rw [if_neg b23]), rfl, trivial⟩ (ih (i + 1) (by omega))
  refine v_iconst (0) dX4_threadOf_0 (by decide) ?_
  refine v_istore_n dX4_threadOf_1 rfl (by decide) ?_
  refine v_iconst (nI 0) dX4_threadOf_2 (by decide) ?_
  refine v_istore_n dX4_threadOf_3 rfl (by decide) ?_
  exact v_loc (lv' := [(0, .ref o), (1, .int x), (2, .int (sSum (fun c => if rOf σ 6 c = x then sLn s (zn (rOf σ 4 c)) (zn (rOf σ 5 c)) else 0) 0)), (3, .int (nI 0))]) ⟨rfl, rfl, rfl, rfl, trivial⟩ (loop n 0 (by omega))
set_option maxRecDepth 10000 in
set_option maxHeartbeats 1000000 in
theorem c_mends {G : zW} {f : zHM} {m : Nat × Nat} {o mr : Nat} {B : Nat → Nat} {w : Nat → Int32} {hh : Int64} {σ : Nat → Int32} (h : MX f o B w hh σ mr) {N s n : Nat} (hw : RW (rOf σ) N s n) (hn : σ 15 = nI n) (hn2 : n ≤ 200) {e : Nat} : zM G yX4_ends cX4_ends 4 (some .int) 2 [.ref o, .int (nI e)] (f, m) (zS (.int (sEnds (rOf σ) n (nI e))) f m) := by
  refine zM.of (by decide) (Nat.le_of_ble_eq_true rfl) ?_
  have ho := h.1
  have hs := h.2.1
  have hp := hw.1.pos
  have loop : ∀ (kk i : Nat), i + kk = n → zV G yX4_ends cX4_ends 4 (some .int) 2 4 [(0, .ref o), (1, .int (nI e)), (2, .int (sSum (fun c => if rOf σ 4 c = nI e ∨ rOf σ 5 c = nI e then 1 else 0) i)), (3, .int (nI i))] [] (f, m) (zS (.int (sEnds (rOf σ) n (nI e))) f m) := by
    intro kk
    induction kk with
    | zero =>
      intro i hi
      refine v_iload_n dX4_ends_4 rfl rfl ?_
      refine v_aload_n dX4_ends_5 rfl rfl ?_
      refine v_getfield fX4_7 dX4_ends_6 (by assumption) (by rfl) ?_
      refine v_bipush (nI 15) dX4_ends_9 (by decide) ?_
      refine v_iaload dX4_ends_11 (by assumption) (vp_in_nI (by omega) (by omega)) ?_
      rw [nI_clamp (n := 15) (by omega)]
      rw [hn]
      refine v_icmp_ge 57 dX4_ends_12 (by decide) (fun b12 => ?_) (fun b12 => ?_)
      · rw [nI_leI (by omega) (by omega)] at b12
        refine v_iload_n dX4_ends_57 rfl rfl ?_
        exact v_ireturn dX4_ends_58 rfl ⟨by rw [show i = n from by omega]; rfl, rfl, rfl⟩
      · rw [nI_leI (by omega) (by omega)] at b12
        omega
    | succ kk ih =>
      intro i hi
      have h9 : i < n := by omega
      obtain ⟨a, b, u, ha, hb, hab, hu, q4, q5, q6⟩ := hw.2.2 i h9
      have q4 : σ (16 + 3 * i + 0) = nI a := q4
      have q5 : σ (16 + 3 * i + 1) = nI b := q5
      have hne : ¬ σ (16 + 3 * i + 0) = σ (16 + 3 * i + 1) := fun z => by
        rw [q4, q5, nI_eq (by omega) (by omega)] at z
        exact hab z
      refine v_iload_n dX4_ends_4 rfl rfl ?_
      refine v_aload_n dX4_ends_5 rfl rfl ?_
      refine v_getfield fX4_7 dX4_ends_6 (by assumption) (by rfl) ?_
      refine v_bipush (nI 15) dX4_ends_9 (by decide) ?_
      refine v_iaload dX4_ends_11 (by assumption) (vp_in_nI (by omega) (by omega)) ?_
      rw [nI_clamp (n := 15) (by omega)]
      rw [hn]
      refine v_icmp_ge 57 dX4_ends_12 (by decide) (fun b12 => ?_) (fun b12 => ?_)
      · rw [nI_leI (by omega) (by omega)] at b12
        omega
      · rw [nI_leI (by omega) (by omega)] at b12
        refine v_iload_n dX4_ends_15 rfl rfl ?_
        refine v_aload_n dX4_ends_16 rfl rfl ?_
        refine v_iload_n dX4_ends_17 rfl rfl ?_
        refine v_iconst (nI 0) dX4_ends_18 (by decide) ?_
        refine v_callVp kX4_78 gi_X4_ofChord ge_X4_ofChord rfl dX4_ends_19 (by assumption) (c_ofChord ho hs (k := 0) (show i < 200 by omega) (by omega)) rfl rfl (by decide) (Nat.le_of_ble_eq_true rfl) ?_
        refine v_iload_n dX4_ends_22 rfl rfl ?_
        refine v_icmp_ne 30 dX4_ends_23 (by decide) (fun b23 => ?_) (fun b23 => ?_)
        · refine v_iconst (0) dX4_ends_30 (by decide) ?_
          refine v_iadd dX4_ends_31 ?_
          refine v_istore_n dX4_ends_32 rfl (by decide) ?_
          refine v_iload_n dX4_ends_33 rfl rfl ?_
          refine v_aload_n dX4_ends_34 rfl rfl ?_
          refine v_iload_n dX4_ends_35 rfl rfl ?_
          refine v_iconst (nI 1) dX4_ends_36 (by decide) ?_
          refine v_callVp kX4_78 gi_X4_ofChord ge_X4_ofChord rfl dX4_ends_37 (by assumption) (c_ofChord ho hs (k := 1) (show i < 200 by omega) (by omega)) rfl rfl (by decide) (Nat.le_of_ble_eq_true rfl) ?_
          refine v_iload_n dX4_ends_40 rfl rfl ?_
          refine v_icmp_ne 48 dX4_ends_41 (by decide) (fun b41 => ?_) (fun b41 => ?_)
          · refine v_iconst (0) dX4_ends_48 (by decide) ?_
            refine v_iadd dX4_ends_49 ?_
            refine v_istore_n dX4_ends_50 rfl (by decide) ?_
            refine v_iincN dX4_ends_51 rfl (by decide) ?_
            refine v_goto 4 dX4_ends_54 (by decide) ?_
            exact v_loc (lv' := [(0, .ref o), (1, .int (nI e)), (2, .int (sSum (fun c => if rOf σ 4 c = nI e ∨ rOf σ 5 c = nI e then 1 else 0) (i + 1))), (3, .int (nI (i + 1)))]) ⟨rfl, rfl, zlkE rfl (by show _ = sSum _ i + (if σ (16 + 3 * i + 0) = nI e ∨ σ (16 + 3 * i + 1) = nI e then 1 else 0); first | (exact absurd (b23.trans b41.symm) hne) | rw [if_pos (Or.inl b23), Int32.add_zero] | rw [if_pos (Or.inr b41), Int32.add_zero] | rw [if_neg (fun z => z.elim b23 b41), Int32.add_zero]), rfl, trivial⟩ (ih (i + 1) (by omega))
          · refine v_iconst (1) dX4_ends_44 (by decide) ?_
            refine v_goto 49 dX4_ends_45 (by decide) ?_
            refine v_iadd dX4_ends_49 ?_
            refine v_istore_n dX4_ends_50 rfl (by decide) ?_
            refine v_iincN dX4_ends_51 rfl (by decide) ?_
            refine v_goto 4 dX4_ends_54 (by decide) ?_
            exact v_loc (lv' := [(0, .ref o), (1, .int (nI e)), (2, .int (sSum (fun c => if rOf σ 4 c = nI e ∨ rOf σ 5 c = nI e then 1 else 0) (i + 1))), (3, .int (nI (i + 1)))]) ⟨rfl, rfl, zlkE rfl (by show _ = sSum _ i + (if σ (16 + 3 * i + 0) = nI e ∨ σ (16 + 3 * i + 1) = nI e then 1 else 0); first | (exact absurd (b23.trans b41.symm) hne) | rw [if_pos (Or.inl b23), Int32.add_zero] | rw [if_pos (Or.inr b41), Int32.add_zero] | rw [if_neg (fun z => z.elim b23 b41), Int32.add_zero]), rfl, trivial⟩ (ih (i + 1) (by omega))
        · refine v_iconst (1) dX4_ends_26 (by decide) ?_
          refine v_goto 31 dX4_ends_27 (by decide) ?_
          refine v_iadd dX4_ends_31 ?_
          refine v_istore_n dX4_ends_32 rfl (by decide) ?_
          refine v_iload_n dX4_ends_33 rfl rfl ?_
          refine v_aload_n dX4_ends_34 rfl rfl ?_
          refine v_iload_n dX4_ends_35 rfl rfl ?_
          refine v_iconst (nI 1) dX4_ends_36 (by decide) ?_
          refine v_callVp kX4_78 gi_X4_ofChord ge_X4_ofChord rfl dX4_ends_37 (by assumption) (c_ofChord ho hs (k := 1) (show i < 200 by omega) (by omega)) rfl rfl (by decide) (Nat.le_of_ble_eq_true rfl) ?_
          refine v_iload_n dX4_ends_40 rfl rfl ?_
          refine v_icmp_ne 48 dX4_ends_41 (by decide) (fun b41 => ?_) (fun b41 => ?_)
          · refine v_iconst (0) dX4_ends_48 (by decide) ?_
            refine v_iadd dX4_ends_49 ?_
            refine v_istore_n dX4_ends_50 rfl (by decide) ?_
            refine v_iincN dX4_ends_51 rfl (by decide) ?_
            refine v_goto 4 dX4_ends_54 (by decide) ?_
            exact v_loc (lv' := [(0, .ref o), (1, .int (nI e)), (2, .int (sSum (fun c => if rOf σ 4 c = nI e ∨ rOf σ 5 c = nI e then 1 else 0) (i + 1))), (3, .int (nI (i + 1)))]) ⟨rfl, rfl, zlkE rfl (by show _ = sSum _ i + (if σ (16 + 3 * i + 0) = nI e ∨ σ (16 + 3 * i + 1) = nI e then 1 else 0); first | (exact absurd (b23.trans b41.symm) hne) | rw [if_pos (Or.inl b23), Int32.add_zero] | rw [if_pos (Or.inr b41), Int32.add_zero] | rw [if_neg (fun z => z.elim b23 b41), Int32.add_zero]), rfl, trivial⟩ (ih (i + 1) (by omega))
          · refine v_iconst (1) dX4_ends_44 (by decide) ?_
            refine v_goto 49 dX4_ends_45 (by decide) ?_
            refine v_iadd dX4_ends_49 ?_
            refine v_istore_n dX4_ends_50 rfl (by decide) ?_
            refine v_iincN dX4_ends_51 rfl (by decide) ?_
            refine v_goto 4 dX4_ends_54 (by decide) ?_
            exact v_loc (lv' := [(0, .ref o), (1, .int (nI e)), (2, .int (sSum (fun c => if rOf σ 4 c = nI e ∨ rOf σ 5 c = nI e then 1 else 0) (i + 1))), (3, .int (nI (i + 1)))]) ⟨rfl, rfl, zlkE rfl (by show _ = sSum _ i + (if σ (16 + 3 * i + 0) = nI e ∨ σ (16 + 3 * i + 1) = nI e then 1 else 0); first | (exact absurd (b23.trans b41.symm) hne) | rw [if_pos (Or.inl b23), Int32.add_zero] | rw [if_pos (Or.inr b41), Int32.add_zero] | rw [if_neg (fun z => z.elim b23 b41), Int32.add_zero]), rfl, trivial⟩ (ih (i + 1) (by omega))
  refine v_iconst (0) dX4_ends_0 (by decide) ?_
  refine v_istore_n dX4_ends_1 rfl (by decide) ?_
  refine v_iconst (nI 0) dX4_ends_2 (by decide) ?_
  refine v_istore_n dX4_ends_3 rfl (by decide) ?_
  exact v_loc (lv' := [(0, .ref o), (1, .int (nI e)), (2, .int (sSum (fun c => if rOf σ 4 c = nI e ∨ rOf σ 5 c = nI e then 1 else 0) 0)), (3, .int (nI 0))]) ⟨rfl, rfl, rfl, rfl, trivial⟩ (loop n 0 (by omega))
set_option maxRecDepth 10000 in
set_option maxHeartbeats 1000000 in
theorem c_msquaresThat {G : zW} {f : zHM} {m : Nat × Nat} {o mr : Nat} {B : Nat → Nat} {w : Nat → Int32} {hh : Int64} {σ : Nat → Int32} (h : MX f o B w hh σ mr) {x : Int32} : zM G yX4_squaresThat cX4_squaresThat 5 (some .int) 3 [.ref o, .int x] (f, m) (zS (.int (sThat (rOf σ) x)) f m) := by
  refine zM.of (by decide) (Nat.le_of_ble_eq_true rfl) ?_
  have ho := h.1
  have hs := h.2.1
  have loop : ∀ (kk i : Nat), i + kk = 144 → zV G yX4_squaresThat cX4_squaresThat 5 (some .int) 3 4 [(0, .ref o), (1, .int x), (2, .int (sSum (fun q => if sSgn (sLack (rOf σ) q) = x then 1 else 0) i)), (3, .int (nI i))] [] (f, m) (zS (.int (sThat (rOf σ) x)) f m) := by
    intro kk
    induction kk with
    | zero =>
      intro i hi
      refine v_iload_n dX4_squaresThat_4 rfl rfl ?_
      refine v_sipush (nI 144) dX4_squaresThat_5 (by decide) ?_
      refine v_icmp_ge 58 dX4_squaresThat_8 (by decide) (fun b8 => ?_) (fun b8 => ?_)
      · rw [nI_leI (by omega) (by omega)] at b8
        refine v_iload_n dX4_squaresThat_58 rfl rfl ?_
        exact v_ireturn dX4_squaresThat_59 rfl ⟨by rw [show i = 144 from by omega]; rfl, rfl, rfl⟩
      · rw [nI_leI (by omega) (by omega)] at b8
        omega
    | succ kk ih =>
      intro i hi
      have h9 : i < 144 := by omega
      refine v_iload_n dX4_squaresThat_4 rfl rfl ?_
      refine v_sipush (nI 144) dX4_squaresThat_5 (by decide) ?_
      refine v_icmp_ge 58 dX4_squaresThat_8 (by decide) (fun b8 => ?_) (fun b8 => ?_)
      · rw [nI_leI (by omega) (by omega)] at b8
        omega
      · rw [nI_leI (by omega) (by omega)] at b8
        refine v_aload_n dX4_squaresThat_11 rfl rfl ?_
        refine v_iload_n dX4_squaresThat_12 rfl rfl ?_
        refine v_callVp kX4_104 gi_X4_lack ge_X4_lack rfl dX4_squaresThat_13 (by assumption) (c_mlack ho hs h9) rfl rfl (by decide) (Nat.le_of_ble_eq_true rfl) ?_
        refine v_if_le 23 dX4_squaresThat_16 (by decide) (fun b16 => ?_) (fun b16 => ?_)
        · refine v_aload_n dX4_squaresThat_23 rfl rfl ?_
          refine v_iload_n dX4_squaresThat_24 rfl rfl ?_
          refine v_callVp kX4_104 gi_X4_lack ge_X4_lack rfl dX4_squaresThat_25 (by assumption) (c_mlack ho hs h9) rfl rfl (by decide) (Nat.le_of_ble_eq_true rfl) ?_
          refine v_if_ge 35 dX4_squaresThat_28 (by decide) (fun b28 => ?_) (fun b28 => ?_)
          · have hsg : sSgn (sLack (rOf σ) i) = 0 := (if_neg (Int32.not_lt.mpr b16)).trans (if_neg (Int32.not_lt.mpr b28))
            refine v_iconst (0) dX4_squaresThat_35 (by decide) ?_
            refine v_istore dX4_squaresThat_36 (by decide) ?_
            refine v_iload_n dX4_squaresThat_38 rfl rfl ?_
            refine v_iload dX4_squaresThat_39 rfl ?_
            refine v_iload_n dX4_squaresThat_41 rfl rfl ?_
            refine v_icmp_ne 49 dX4_squaresThat_42 (by decide) (fun b42 => ?_) (fun b42 => ?_)
            · refine v_iconst (0) dX4_squaresThat_49 (by decide) ?_
              refine v_iadd dX4_squaresThat_50 ?_
              refine v_istore_n dX4_squaresThat_51 rfl (by decide) ?_
              refine v_iincN dX4_squaresThat_52 rfl (by decide) ?_
              refine v_goto 4 dX4_squaresThat_55 (by decide) ?_
              exact v_loc (lv' := [(0, .ref o), (1, .int x), (2, .int (sSum (fun q => if sSgn (sLack (rOf σ) q) = x then 1 else 0) (i + 1))), (3, .int (nI (i + 1)))]) ⟨rfl, rfl, zlkE rfl (by show _ = sSum _ i + (if sSgn (sLack (rOf σ) i) = x then 1 else 0); first | rw [if_pos (hsg.trans b42)] | rw [if_neg (fun z => b42 (hsg.symm.trans z))]), rfl, trivial⟩ (ih (i + 1) (by omega))
            · refine v_iconst (1) dX4_squaresThat_45 (by decide) ?_
              refine v_goto 50 dX4_squaresThat_46 (by decide) ?_
              refine v_iadd dX4_squaresThat_50 ?_
              refine v_istore_n dX4_squaresThat_51 rfl (by decide) ?_
              refine v_iincN dX4_squaresThat_52 rfl (by decide) ?_
              refine v_goto 4 dX4_squaresThat_55 (by decide) ?_
              exact v_loc (lv' := [(0, .ref o), (1, .int x), (2, .int (sSum (fun q => if sSgn (sLack (rOf σ) q) = x then 1 else 0) (i + 1))), (3, .int (nI (i + 1)))]) ⟨rfl, rfl, zlkE rfl (by show _ = sSum _ i + (if sSgn (sLack (rOf σ) i) = x then 1 else 0); first | rw [if_pos (hsg.trans b42)] | rw [if_neg (fun z => b42 (hsg.symm.trans z))]), rfl, trivial⟩ (ih (i + 1) (by omega))
          · have hsg : sSgn (sLack (rOf σ) i) = -1 := (if_neg (Int32.not_lt.mpr b16)).trans (if_pos (Int32.not_le.mp b28))
            refine v_iconst (-1) dX4_squaresThat_31 (by decide) ?_
            refine v_goto 36 dX4_squaresThat_32 (by decide) ?_
            refine v_istore dX4_squaresThat_36 (by decide) ?_
            refine v_iload_n dX4_squaresThat_38 rfl rfl ?_
            refine v_iload dX4_squaresThat_39 rfl ?_
            refine v_iload_n dX4_squaresThat_41 rfl rfl ?_
            refine v_icmp_ne 49 dX4_squaresThat_42 (by decide) (fun b42 => ?_) (fun b42 => ?_)
            · refine v_iconst (0) dX4_squaresThat_49 (by decide) ?_
              refine v_iadd dX4_squaresThat_50 ?_
              refine v_istore_n dX4_squaresThat_51 rfl (by decide) ?_
              refine v_iincN dX4_squaresThat_52 rfl (by decide) ?_
              refine v_goto 4 dX4_squaresThat_55 (by decide) ?_
              exact v_loc (lv' := [(0, .ref o), (1, .int x), (2, .int (sSum (fun q => if sSgn (sLack (rOf σ) q) = x then 1 else 0) (i + 1))), (3, .int (nI (i + 1)))]) ⟨rfl, rfl, zlkE rfl (by show _ = sSum _ i + (if sSgn (sLack (rOf σ) i) = x then 1 else 0); first | rw [if_pos (hsg.trans b42)] | rw [if_neg (fun z => b42 (hsg.symm.trans z))]), rfl, trivial⟩ (ih (i + 1) (by omega))
            · refine v_iconst (1) dX4_squaresThat_45 (by decide) ?_
              refine v_goto 50 dX4_squaresThat_46 (by decide) ?_
              refine v_iadd dX4_squaresThat_50 ?_
              refine v_istore_n dX4_squaresThat_51 rfl (by decide) ?_
              refine v_iincN dX4_squaresThat_52 rfl (by decide) ?_
              refine v_goto 4 dX4_squaresThat_55 (by decide) ?_
              exact v_loc (lv' := [(0, .ref o), (1, .int x), (2, .int (sSum (fun q => if sSgn (sLack (rOf σ) q) = x then 1 else 0) (i + 1))), (3, .int (nI (i + 1)))]) ⟨rfl, rfl, zlkE rfl (by show _ = sSum _ i + (if sSgn (sLack (rOf σ) i) = x then 1 else 0); first | rw [if_pos (hsg.trans b42)] | rw [if_neg (fun z => b42 (hsg.symm.trans z))]), rfl, trivial⟩ (ih (i + 1) (by omega))
        · have hsg : sSgn (sLack (rOf σ) i) = 1 := if_pos (Int32.not_le.mp b16)
          refine v_iconst (1) dX4_squaresThat_19 (by decide) ?_
          refine v_goto 36 dX4_squaresThat_20 (by decide) ?_
          refine v_istore dX4_squaresThat_36 (by decide) ?_
          refine v_iload_n dX4_squaresThat_38 rfl rfl ?_
          refine v_iload dX4_squaresThat_39 rfl ?_
          refine v_iload_n dX4_squaresThat_41 rfl rfl ?_
          refine v_icmp_ne 49 dX4_squaresThat_42 (by decide) (fun b42 => ?_) (fun b42 => ?_)
          · refine v_iconst (0) dX4_squaresThat_49 (by decide) ?_
            refine v_iadd dX4_squaresThat_50 ?_
            refine v_istore_n dX4_squaresThat_51 rfl (by decide) ?_
            refine v_iincN dX4_squaresThat_52 rfl (by decide) ?_
            refine v_goto 4 dX4_squaresThat_55 (by decide) ?_
            exact v_loc (lv' := [(0, .ref o), (1, .int x), (2, .int (sSum (fun q => if sSgn (sLack (rOf σ) q) = x then 1 else 0) (i + 1))), (3, .int (nI (i + 1)))]) ⟨rfl, rfl, zlkE rfl (by show _ = sSum _ i + (if sSgn (sLack (rOf σ) i) = x then 1 else 0); first | rw [if_pos (hsg.trans b42)] | rw [if_neg (fun z => b42 (hsg.symm.trans z))]), rfl, trivial⟩ (ih (i + 1) (by omega))
          · refine v_iconst (1) dX4_squaresThat_45 (by decide) ?_
            refine v_goto 50 dX4_squaresThat_46 (by decide) ?_
            refine v_iadd dX4_squaresThat_50 ?_
            refine v_istore_n dX4_squaresThat_51 rfl (by decide) ?_
            refine v_iincN dX4_squaresThat_52 rfl (by decide) ?_
            refine v_goto 4 dX4_squaresThat_55 (by decide) ?_
            exact v_loc (lv' := [(0, .ref o), (1, .int x), (2, .int (sSum (fun q => if sSgn (sLack (rOf σ) q) = x then 1 else 0) (i + 1))), (3, .int (nI (i + 1)))]) ⟨rfl, rfl, zlkE rfl (by show _ = sSum _ i + (if sSgn (sLack (rOf σ) i) = x then 1 else 0); first | rw [if_pos (hsg.trans b42)] | rw [if_neg (fun z => b42 (hsg.symm.trans z))]), rfl, trivial⟩ (ih (i + 1) (by omega))
  refine v_iconst (0) dX4_squaresThat_0 (by decide) ?_
  refine v_istore_n dX4_squaresThat_1 rfl (by decide) ?_
  refine v_iconst (nI 0) dX4_squaresThat_2 (by decide) ?_
  refine v_istore_n dX4_squaresThat_3 rfl (by decide) ?_
  exact v_loc (lv' := [(0, .ref o), (1, .int x), (2, .int (sSum (fun q => if sSgn (sLack (rOf σ) q) = x then 1 else 0) 0)), (3, .int (nI 0))]) ⟨rfl, rfl, rfl, rfl, trivial⟩ (loop 144 0 (by omega))
