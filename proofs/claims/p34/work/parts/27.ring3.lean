def sEnds (ρ : zRS) (n : Nat) (x : Int32) : Int32 := sSum (fun c => if ρ 4 c = x ∨ ρ 5 c = x then 1 else 0) n
def sCh (ρ : zRS) (n : Nat) (x : Int32) : Int32 := sSum (fun c => if ρ 6 c = x then 1 else 0) n
def zn (x : Int32) : Nat := x.toNatClampNeg
def sThr (ρ : zRS) (s n : Nat) (x : Int32) : Int32 := sSum (fun c => if ρ 6 c = x then sLn s (zn (ρ 4 c)) (zn (ρ 5 c)) else 0) n
def sBst (rf gn ot ln : Nat → Int32) : Nat → Int32 × Int32 × Int32 × Int32
  | 0 => (-1, 0, 0, 0)
  | i + 1 => if rf i = 0 ∧ ((sBst rf gn ot ln i).1 = -1 ∨ (sBst rf gn ot ln i).2.1 < gn i ∨ (gn i = (sBst rf gn ot ln i).2.1 ∧ (ot i < (sBst rf gn ot ln i).2.2.1 ∨ (ot i = (sBst rf gn ot ln i).2.2.1 ∧ ¬ (sBst rf gn ot ln i).2.2.2 ≤ ln i)))) then (nI i, gn i, ot i, ln i) else sBst rf gn ot ln i
def sBest (ρ : zRS) (N s : Nat) (tm : Nat → Int32) (a u : Nat) : Int32 := (sBst (fun b => sRef N s (ρ 3 0) (ρ 3 1) (ρ 2 u) tm a b) (fun b => sGain ρ s (ρ 1 u) a b) (fun b => tm (sPr (a * s) (b * s))) (fun b => sLn s a b) N).1
theorem sRef_self (N s : Nat) (ap ti lf : Int32) (tm : Nat → Int32) (a : Nat) : ¬ sRef N s ap ti lf tm a a = 0 := by
  unfold sRef
  rw [if_pos rfl]
  decide
set_option maxRecDepth 10000 in
set_option maxHeartbeats 1000000 in
theorem c_squaresOfSign {G : zW} {f : zHM} {m : Nat × Nat} {t r la n : Nat} {A : Nat → Nat} {ρ : zRS} {xs tm : Nat → Int32} (hr : RPic f t r la A ρ n xs tm) (x : Int32) : zM G yX1_squaresOfSign cX1_squaresOfSign 5 (some .int) 2 [.ref r, .int x] (f, m) (zS (.int (sThat ρ x)) f m) := by
  refine zM.of (by decide) (Nat.le_of_ble_eq_true rfl) ?_
  have r0 := hr.1
  have loop : ∀ (k i : Nat), i + k = 144 → zV G yX1_squaresOfSign cX1_squaresOfSign 5 (some .int) 2 4 [(0, .ref r), (1, .int x), (2, .int (sSum (fun q => if sSgn (sLack ρ q) = x then 1 else 0) i)), (3, .int (nI i))] [] (f, m) (zS (.int (sThat ρ x)) f m) := by
    intro k
    induction k with
    | zero =>
      intro i hi 
      have hi : i = 144 := by omega
      subst hi
      refine v_iload_n dX1_squaresOfSign_4 rfl rfl ?_
      refine v_sipush (nI 144) dX1_squaresOfSign_5 (by decide) ?_
      refine v_icmp_ge 50 dX1_squaresOfSign_8 (by decide) (fun b8 => ?_) (fun b8 => ?_)
      · refine v_iload_n dX1_squaresOfSign_50 rfl rfl ?_
        exact v_ireturn dX1_squaresOfSign_51 rfl ⟨rfl, rfl, rfl⟩
      · exact absurd (nI_le (by omega) (by omega)) b8
    | succ k ih =>
      intro i hi 
      have h9 : i < 144 := by omega
      refine v_iload_n dX1_squaresOfSign_4 rfl rfl ?_
      refine v_sipush (nI 144) dX1_squaresOfSign_5 (by decide) ?_
      refine v_icmp_ge 50 dX1_squaresOfSign_8 (by decide) (fun b8 => ?_) (fun b8 => ?_)
      · exact absurd b8 (nI_ge h9 (by omega))
      · refine v_aload_n dX1_squaresOfSign_11 rfl rfl ?_
        refine v_iload_n dX1_squaresOfSign_12 rfl rfl ?_
        refine v_callVp kX1_111 gi_X1_lackOf ge_X1_lackOf rfl dX1_squaresOfSign_13 (by assumption) (c_lackOf hr h9) rfl rfl (by decide) (Nat.le_of_ble_eq_true rfl) ?_
        refine v_istore dX1_squaresOfSign_16 (by decide) ?_
        refine v_iload dX1_squaresOfSign_18 rfl ?_
        refine v_if_le 27 dX1_squaresOfSign_20 (by decide) (fun b20 => ?_) (fun b20 => ?_)
        · refine v_iload dX1_squaresOfSign_27 rfl ?_
          refine v_if_ge 36 dX1_squaresOfSign_29 (by decide) (fun b29 => ?_) (fun b29 => ?_)
          · have hs : sSgn (sLack ρ i) = 0 := (if_neg (Int32.not_lt.mpr b20)).trans (if_neg (Int32.not_lt.mpr b29))
            refine v_iconst (0) dX1_squaresOfSign_36 (by decide) ?_
            refine v_iload_n dX1_squaresOfSign_37 rfl rfl ?_
            refine v_icmp_ne 44 dX1_squaresOfSign_38 (by decide) (fun b38 => ?_) (fun b38 => ?_)
            · refine v_iincN dX1_squaresOfSign_44 rfl (by decide) ?_
              refine v_goto 4 dX1_squaresOfSign_47 (by decide) ?_
              exact v_loc (lv' := [(0, .ref r), (1, .int x), (2, .int (sSum (fun q => if sSgn (sLack ρ q) = x then 1 else 0) (i + 1))), (3, .int (nI (i + 1)))]) ⟨rfl, rfl, zlkE rfl (by show _ = sSum _ i + (if sSgn (sLack ρ i) = x then 1 else 0); rw [hs]; first | rw [if_pos b38] | rw [if_neg b38, Int32.add_zero]), rfl, trivial⟩ (ih (i + 1) (by omega))
            · refine v_iincC (1) dX1_squaresOfSign_41 rfl (by decide) (by decide) ?_
              refine v_iincN dX1_squaresOfSign_44 rfl (by decide) ?_
              refine v_goto 4 dX1_squaresOfSign_47 (by decide) ?_
              exact v_loc (lv' := [(0, .ref r), (1, .int x), (2, .int (sSum (fun q => if sSgn (sLack ρ q) = x then 1 else 0) (i + 1))), (3, .int (nI (i + 1)))]) ⟨rfl, rfl, zlkE rfl (by show _ = sSum _ i + (if sSgn (sLack ρ i) = x then 1 else 0); rw [hs]; first | rw [if_pos b38] | rw [if_neg b38, Int32.add_zero]), rfl, trivial⟩ (ih (i + 1) (by omega))
          · have hs : sSgn (sLack ρ i) = -1 := (if_neg (Int32.not_lt.mpr b20)).trans (if_pos (Int32.not_le.mp b29))
            refine v_iconst (-1) dX1_squaresOfSign_32 (by decide) ?_
            refine v_goto 37 dX1_squaresOfSign_33 (by decide) ?_
            refine v_iload_n dX1_squaresOfSign_37 rfl rfl ?_
            refine v_icmp_ne 44 dX1_squaresOfSign_38 (by decide) (fun b38 => ?_) (fun b38 => ?_)
            · refine v_iincN dX1_squaresOfSign_44 rfl (by decide) ?_
              refine v_goto 4 dX1_squaresOfSign_47 (by decide) ?_
              exact v_loc (lv' := [(0, .ref r), (1, .int x), (2, .int (sSum (fun q => if sSgn (sLack ρ q) = x then 1 else 0) (i + 1))), (3, .int (nI (i + 1)))]) ⟨rfl, rfl, zlkE rfl (by show _ = sSum _ i + (if sSgn (sLack ρ i) = x then 1 else 0); rw [hs]; first | rw [if_pos b38] | rw [if_neg b38, Int32.add_zero]), rfl, trivial⟩ (ih (i + 1) (by omega))
            · refine v_iincC (1) dX1_squaresOfSign_41 rfl (by decide) (by decide) ?_
              refine v_iincN dX1_squaresOfSign_44 rfl (by decide) ?_
              refine v_goto 4 dX1_squaresOfSign_47 (by decide) ?_
              exact v_loc (lv' := [(0, .ref r), (1, .int x), (2, .int (sSum (fun q => if sSgn (sLack ρ q) = x then 1 else 0) (i + 1))), (3, .int (nI (i + 1)))]) ⟨rfl, rfl, zlkE rfl (by show _ = sSum _ i + (if sSgn (sLack ρ i) = x then 1 else 0); rw [hs]; first | rw [if_pos b38] | rw [if_neg b38, Int32.add_zero]), rfl, trivial⟩ (ih (i + 1) (by omega))
        · have hs : sSgn (sLack ρ i) = 1 := if_pos (Int32.not_le.mp b20)
          refine v_iconst (1) dX1_squaresOfSign_23 (by decide) ?_
          refine v_goto 37 dX1_squaresOfSign_24 (by decide) ?_
          refine v_iload_n dX1_squaresOfSign_37 rfl rfl ?_
          refine v_icmp_ne 44 dX1_squaresOfSign_38 (by decide) (fun b38 => ?_) (fun b38 => ?_)
          · refine v_iincN dX1_squaresOfSign_44 rfl (by decide) ?_
            refine v_goto 4 dX1_squaresOfSign_47 (by decide) ?_
            exact v_loc (lv' := [(0, .ref r), (1, .int x), (2, .int (sSum (fun q => if sSgn (sLack ρ q) = x then 1 else 0) (i + 1))), (3, .int (nI (i + 1)))]) ⟨rfl, rfl, zlkE rfl (by show _ = sSum _ i + (if sSgn (sLack ρ i) = x then 1 else 0); rw [hs]; first | rw [if_pos b38] | rw [if_neg b38, Int32.add_zero]), rfl, trivial⟩ (ih (i + 1) (by omega))
          · refine v_iincC (1) dX1_squaresOfSign_41 rfl (by decide) (by decide) ?_
            refine v_iincN dX1_squaresOfSign_44 rfl (by decide) ?_
            refine v_goto 4 dX1_squaresOfSign_47 (by decide) ?_
            exact v_loc (lv' := [(0, .ref r), (1, .int x), (2, .int (sSum (fun q => if sSgn (sLack ρ q) = x then 1 else 0) (i + 1))), (3, .int (nI (i + 1)))]) ⟨rfl, rfl, zlkE rfl (by show _ = sSum _ i + (if sSgn (sLack ρ i) = x then 1 else 0); rw [hs]; first | rw [if_pos b38] | rw [if_neg b38, Int32.add_zero]), rfl, trivial⟩ (ih (i + 1) (by omega))
  refine v_iconst (0) dX1_squaresOfSign_0 (by decide) ?_
  refine v_istore_n dX1_squaresOfSign_1 rfl (by decide) ?_
  refine v_iconst (0) dX1_squaresOfSign_2 (by decide) ?_
  refine v_istore_n dX1_squaresOfSign_3 rfl (by decide) ?_
  exact v_loc (lv' := [(0, .ref r), (1, .int x), (2, .int (sSum (fun q => if sSgn (sLack ρ q) = x then 1 else 0) 0)), (3, .int (nI 0))]) ⟨rfl, rfl, rfl, rfl, trivial⟩ (loop 144 0 rfl)
set_option maxRecDepth 10000 in
set_option maxHeartbeats 1000000 in
theorem c_endsAt {G : zW} {f : zHM} {m : Nat × Nat} {t r la n : Nat} {A : Nat → Nat} {ρ : zRS} {xs tm : Nat → Int32} (hr : RPic f t r la A ρ n xs tm) (hn : n ≤ 201) (x : Int32) : zM G yX1_endsAt cX1_endsAt 4 (some .int) 1 [.ref r, .int x] (f, m) (zS (.int (sEnds ρ n x)) f m) := by
  refine zM.of (by decide) (Nat.le_of_ble_eq_true rfl) ?_
  obtain ⟨r0, ⟨g1, a1, e1⟩, ⟨g2, a2, e2⟩, ⟨g3, a3, e3⟩, ⟨g4, a4, e4⟩, ⟨g5, a5, e5⟩, ⟨g6, a6, e6⟩, ⟨g7, a7, e7⟩, ⟨g8, a8, e8⟩, ⟨g9, a9, e9⟩, ⟨g10, a10, e10⟩⟩ := id hr
  have loop : ∀ (k i : Nat), i + k = n → zV G yX1_endsAt cX1_endsAt 4 (some .int) 1 4 [(0, .ref r), (1, .int x), (2, .int (sSum (fun c => if ρ 4 c = x ∨ ρ 5 c = x then 1 else 0) i)), (3, .int (nI i))] [] (f, m) (zS (.int (sEnds ρ n x)) f m) := by
    intro k
    induction k with
    | zero =>
      intro i hi 
      have hi : i = n := by omega
      subst hi
      refine v_iload_n dX1_endsAt_4 rfl rfl ?_
      refine v_aload_n dX1_endsAt_5 rfl rfl ?_
      refine v_getfield fX1_68 dX1_endsAt_6 (by assumption) (by rfl) ?_
      refine v_icmp_ge 41 dX1_endsAt_9 (by decide) (fun b9 => ?_) (fun b9 => ?_)
      · refine v_iload_n dX1_endsAt_41 rfl rfl ?_
        exact v_ireturn dX1_endsAt_42 rfl ⟨rfl, rfl, rfl⟩
      · exact absurd (nI_le (by omega) (by omega)) b9
    | succ k ih =>
      intro i hi 
      have h9 : i < n := by omega
      refine v_iload_n dX1_endsAt_4 rfl rfl ?_
      refine v_aload_n dX1_endsAt_5 rfl rfl ?_
      refine v_getfield fX1_68 dX1_endsAt_6 (by assumption) (by rfl) ?_
      refine v_icmp_ge 41 dX1_endsAt_9 (by decide) (fun b9 => ?_) (fun b9 => ?_)
      · exact absurd b9 (nI_ge h9 (by omega))
      · refine v_aload_n dX1_endsAt_12 rfl rfl ?_
        refine v_getfield fX1_28 dX1_endsAt_13 (by assumption) (by rfl) ?_
        refine v_iload_n dX1_endsAt_16 rfl rfl ?_
        refine v_iaload dX1_endsAt_17 (by assumption) (vp_in_nI (by omega) (by omega)) ?_
        rw [nI_clamp (by omega), e4 i h9]
        refine v_iload_n dX1_endsAt_18 rfl rfl ?_
        refine v_icmp_eq 32 dX1_endsAt_19 (by decide) (fun b19 => ?_) (fun b19 => ?_)
        · refine v_iincC (1) dX1_endsAt_32 rfl (by decide) (by decide) ?_
          refine v_iincN dX1_endsAt_35 rfl (by decide) ?_
          refine v_goto 4 dX1_endsAt_38 (by decide) ?_
          exact v_loc (lv' := [(0, .ref r), (1, .int x), (2, .int (sSum (fun c => if ρ 4 c = x ∨ ρ 5 c = x then 1 else 0) (i + 1))), (3, .int (nI (i + 1)))]) ⟨rfl, rfl, zlkE rfl (by show _ = sSum _ i + (if ρ 4 i = x ∨ ρ 5 i = x then 1 else 0); simp [b9, b19]), rfl, trivial⟩ (ih (i + 1) (by omega))
        · refine v_aload_n dX1_endsAt_22 rfl rfl ?_
          refine v_getfield fX1_31 dX1_endsAt_23 (by assumption) (by rfl) ?_
          refine v_iload_n dX1_endsAt_26 rfl rfl ?_
          refine v_iaload dX1_endsAt_27 (by assumption) (vp_in_nI (by omega) (by omega)) ?_
          rw [nI_clamp (by omega), e5 i h9]
          refine v_iload_n dX1_endsAt_28 rfl rfl ?_
          refine v_icmp_ne 35 dX1_endsAt_29 (by decide) (fun b29 => ?_) (fun b29 => ?_)
          · refine v_iincN dX1_endsAt_35 rfl (by decide) ?_
            refine v_goto 4 dX1_endsAt_38 (by decide) ?_
            exact v_loc (lv' := [(0, .ref r), (1, .int x), (2, .int (sSum (fun c => if ρ 4 c = x ∨ ρ 5 c = x then 1 else 0) (i + 1))), (3, .int (nI (i + 1)))]) ⟨rfl, rfl, zlkE rfl (by show _ = sSum _ i + (if ρ 4 i = x ∨ ρ 5 i = x then 1 else 0); simp [b9, b19, b29]), rfl, trivial⟩ (ih (i + 1) (by omega))
          · refine v_iincC (1) dX1_endsAt_32 rfl (by decide) (by decide) ?_
            refine v_iincN dX1_endsAt_35 rfl (by decide) ?_
            refine v_goto 4 dX1_endsAt_38 (by decide) ?_
            exact v_loc (lv' := [(0, .ref r), (1, .int x), (2, .int (sSum (fun c => if ρ 4 c = x ∨ ρ 5 c = x then 1 else 0) (i + 1))), (3, .int (nI (i + 1)))]) ⟨rfl, rfl, zlkE rfl (by show _ = sSum _ i + (if ρ 4 i = x ∨ ρ 5 i = x then 1 else 0); simp [b9, b19, b29]), rfl, trivial⟩ (ih (i + 1) (by omega))
  refine v_iconst (0) dX1_endsAt_0 (by decide) ?_
  refine v_istore_n dX1_endsAt_1 rfl (by decide) ?_
  refine v_iconst (0) dX1_endsAt_2 (by decide) ?_
  refine v_istore_n dX1_endsAt_3 rfl (by decide) ?_
  exact v_loc (lv' := [(0, .ref r), (1, .int x), (2, .int (sSum (fun c => if ρ 4 c = x ∨ ρ 5 c = x then 1 else 0) 0)), (3, .int (nI 0))]) ⟨rfl, rfl, rfl, rfl, trivial⟩ (loop n 0 (by omega))
set_option maxRecDepth 10000 in
set_option maxHeartbeats 1000000 in
theorem c_chordsOf {G : zW} {f : zHM} {m : Nat × Nat} {t r la n : Nat} {A : Nat → Nat} {ρ : zRS} {xs tm : Nat → Int32} (hr : RPic f t r la A ρ n xs tm) (hn : n ≤ 201) (x : Int32) : zM G yX1_chordsOf cX1_chordsOf 4 (some .int) 1 [.ref r, .int x] (f, m) (zS (.int (sCh ρ n x)) f m) := by
  refine zM.of (by decide) (Nat.le_of_ble_eq_true rfl) ?_
  obtain ⟨r0, ⟨g1, a1, e1⟩, ⟨g2, a2, e2⟩, ⟨g3, a3, e3⟩, ⟨g4, a4, e4⟩, ⟨g5, a5, e5⟩, ⟨g6, a6, e6⟩, ⟨g7, a7, e7⟩, ⟨g8, a8, e8⟩, ⟨g9, a9, e9⟩, ⟨g10, a10, e10⟩⟩ := id hr
  have loop : ∀ (k i : Nat), i + k = n → zV G yX1_chordsOf cX1_chordsOf 4 (some .int) 1 4 [(0, .ref r), (1, .int x), (2, .int (sSum (fun c => if ρ 6 c = x then 1 else 0) i)), (3, .int (nI i))] [] (f, m) (zS (.int (sCh ρ n x)) f m) := by
    intro k
    induction k with
    | zero =>
      intro i hi 
      have hi : i = n := by omega
      subst hi
      refine v_iload_n dX1_chordsOf_4 rfl rfl ?_
      refine v_aload_n dX1_chordsOf_5 rfl rfl ?_
      refine v_getfield fX1_68 dX1_chordsOf_6 (by assumption) (by rfl) ?_
      refine v_icmp_ge 31 dX1_chordsOf_9 (by decide) (fun b9 => ?_) (fun b9 => ?_)
      · refine v_iload_n dX1_chordsOf_31 rfl rfl ?_
        exact v_ireturn dX1_chordsOf_32 rfl ⟨rfl, rfl, rfl⟩
      · exact absurd (nI_le (by omega) (by omega)) b9
    | succ k ih =>
      intro i hi 
      have h9 : i < n := by omega
      refine v_iload_n dX1_chordsOf_4 rfl rfl ?_
      refine v_aload_n dX1_chordsOf_5 rfl rfl ?_
      refine v_getfield fX1_68 dX1_chordsOf_6 (by assumption) (by rfl) ?_
      refine v_icmp_ge 31 dX1_chordsOf_9 (by decide) (fun b9 => ?_) (fun b9 => ?_)
      · exact absurd b9 (nI_ge h9 (by omega))
      · refine v_aload_n dX1_chordsOf_12 rfl rfl ?_
        refine v_getfield fX1_34 dX1_chordsOf_13 (by assumption) (by rfl) ?_
        refine v_iload_n dX1_chordsOf_16 rfl rfl ?_
        refine v_iaload dX1_chordsOf_17 (by assumption) (vp_in_nI (by omega) (by omega)) ?_
        rw [nI_clamp (by omega), e6 i h9]
        refine v_iload_n dX1_chordsOf_18 rfl rfl ?_
        refine v_icmp_ne 25 dX1_chordsOf_19 (by decide) (fun b19 => ?_) (fun b19 => ?_)
        · refine v_iincN dX1_chordsOf_25 rfl (by decide) ?_
          refine v_goto 4 dX1_chordsOf_28 (by decide) ?_
          exact v_loc (lv' := [(0, .ref r), (1, .int x), (2, .int (sSum (fun c => if ρ 6 c = x then 1 else 0) (i + 1))), (3, .int (nI (i + 1)))]) ⟨rfl, rfl, zlkE rfl (by show _ = sSum _ i + (if ρ 6 i = x then 1 else 0); first | rw [if_pos b19] | rw [if_neg b19, Int32.add_zero]), rfl, trivial⟩ (ih (i + 1) (by omega))
        · refine v_iincC (1) dX1_chordsOf_22 rfl (by decide) (by decide) ?_
          refine v_iincN dX1_chordsOf_25 rfl (by decide) ?_
          refine v_goto 4 dX1_chordsOf_28 (by decide) ?_
          exact v_loc (lv' := [(0, .ref r), (1, .int x), (2, .int (sSum (fun c => if ρ 6 c = x then 1 else 0) (i + 1))), (3, .int (nI (i + 1)))]) ⟨rfl, rfl, zlkE rfl (by show _ = sSum _ i + (if ρ 6 i = x then 1 else 0); first | rw [if_pos b19] | rw [if_neg b19, Int32.add_zero]), rfl, trivial⟩ (ih (i + 1) (by omega))
  refine v_iconst (0) dX1_chordsOf_0 (by decide) ?_
  refine v_istore_n dX1_chordsOf_1 rfl (by decide) ?_
  refine v_iconst (0) dX1_chordsOf_2 (by decide) ?_
  refine v_istore_n dX1_chordsOf_3 rfl (by decide) ?_
  exact v_loc (lv' := [(0, .ref r), (1, .int x), (2, .int (sSum (fun c => if ρ 6 c = x then 1 else 0) 0)), (3, .int (nI 0))]) ⟨rfl, rfl, rfl, rfl, trivial⟩ (loop n 0 (by omega))
set_option maxRecDepth 10000 in
set_option maxHeartbeats 1000000 in
theorem c_threadLying {G : zW} {f0 : zHM} {m0 : Nat × Nat} {t r la n : Nat} {A : Nat → Nat} {ρ : zRS} {xs tm : Nat → Int32} (hr : RPic f0 t r la A ρ n xs tm) (ht : t ≤ 900) {N s : Nat} (hw : RW ρ N s n) {M : Nat × Nat} (hL : LNok f0 m0 la M) (x : Int32) : zM G yX1_threadLying cX1_threadLying 4 (some .int) 4 [.ref r, .int x] (f0, m0) (zD (some (.int (sThr ρ s n x))) (fun f' m' => LNok f' m' la M ∧ zFr zT9 f0 f')) := by
  refine zM.of (by decide) (Nat.le_of_ble_eq_true rfl) ?_
  have hn201 := hw.2.1
  have loop : ∀ (k i : Nat), i + k = n → ∀ (f : zHM) (m : Nat × Nat), RPic f t r la A ρ n xs tm → LNok f m la M → zFr zT9 f0 f → zV G yX1_threadLying cX1_threadLying 4 (some .int) 4 4 [(0, .ref r), (1, .int x), (2, .int (sSum (fun c => if ρ 6 c = x then sLn s (zn (ρ 4 c)) (zn (ρ 5 c)) else 0) i)), (3, .int (nI i))] [] (f, m) (zD (some (.int (sThr ρ s n x))) (fun f' m' => LNok f' m' la M ∧ zFr zT9 f0 f')) := by
    intro k
    induction k with
    | zero =>
      intro i hi f m hr hL hf0
      have hi : i = n := by omega
      subst hi
      obtain ⟨r0, ⟨g1, a1, e1⟩, ⟨g2, a2, e2⟩, ⟨g3, a3, e3⟩, ⟨g4, a4, e4⟩, ⟨g5, a5, e5⟩, ⟨g6, a6, e6⟩, ⟨g7, a7, e7⟩, ⟨g8, a8, e8⟩, ⟨g9, a9, e9⟩, ⟨g10, a10, e10⟩⟩ := id hr
      refine v_iload_n dX1_threadLying_4 rfl rfl ?_
      refine v_aload_n dX1_threadLying_5 rfl rfl ?_
      refine v_getfield fX1_68 dX1_threadLying_6 (by assumption) (by rfl) ?_
      refine v_icmp_ge 50 dX1_threadLying_9 (by decide) (fun b9 => ?_) (fun b9 => ?_)
      · refine v_iload_n dX1_threadLying_50 rfl rfl ?_
        exact v_ireturn dX1_threadLying_51 rfl ⟨rfl, hL, hf0⟩
      · exact absurd (nI_le (by omega) (by omega)) b9
    | succ k ih =>
      intro i hi f m hr hL hf0
      have h9 : i < n := by omega
      obtain ⟨a, b, u, ha, hb, hn, hu, q4, q5, q6⟩ := hw.2.2 i h9
      have hv9 := hw.1.pos
      obtain ⟨r0, ⟨g1, a1, e1⟩, ⟨g2, a2, e2⟩, ⟨g3, a3, e3⟩, ⟨g4, a4, e4⟩, ⟨g5, a5, e5⟩, ⟨g6, a6, e6⟩, ⟨g7, a7, e7⟩, ⟨g8, a8, e8⟩, ⟨g9, a9, e9⟩, ⟨g10, a10, e10⟩⟩ := id hr
      refine v_iload_n dX1_threadLying_4 rfl rfl ?_
      refine v_aload_n dX1_threadLying_5 rfl rfl ?_
      refine v_getfield fX1_68 dX1_threadLying_6 (by assumption) (by rfl) ?_
      refine v_icmp_ge 50 dX1_threadLying_9 (by decide) (fun b9 => ?_) (fun b9 => ?_)
      · exact absurd b9 (nI_ge h9 (by omega))
      · refine v_aload_n dX1_threadLying_12 rfl rfl ?_
        refine v_getfield fX1_34 dX1_threadLying_13 (by assumption) (by rfl) ?_
        refine v_iload_n dX1_threadLying_16 rfl rfl ?_
        refine v_iaload dX1_threadLying_17 (by assumption) (vp_in_nI (by omega) (by omega)) ?_
        rw [nI_clamp (by omega), e6 i h9]
        refine v_iload_n dX1_threadLying_18 rfl rfl ?_
        refine v_icmp_ne 44 dX1_threadLying_19 (by decide) (fun b19 => ?_) (fun b19 => ?_)
        · refine v_iincN dX1_threadLying_44 rfl (by decide) ?_
          refine v_goto 4 dX1_threadLying_47 (by decide) ?_
          exact v_loc (lv' := [(0, .ref r), (1, .int x), (2, .int (sSum (fun c => if ρ 6 c = x then sLn s (zn (ρ 4 c)) (zn (ρ 5 c)) else 0) (i + 1))), (3, .int (nI (i + 1)))]) ⟨rfl, rfl, zlkE rfl (by show _ = sSum _ i + (if ρ 6 i = x then sLn s (zn (ρ 4 i)) (zn (ρ 5 i)) else 0); first | (rw [if_neg b19, Int32.add_zero]; done) | (rw [if_pos b19, q4, q5]; unfold zn; rw [nI_clamp (by omega), nI_clamp (by omega)]; rfl)), rfl, trivial⟩ (ih (i + 1) (by omega) f m hr hL (by first | exact hf0.trans hf9 | exact hf0))
        · refine v_iload_n dX1_threadLying_22 rfl rfl ?_
          refine v_aload_n dX1_threadLying_23 rfl rfl ?_
          refine v_aload_n dX1_threadLying_24 rfl rfl ?_
          refine v_getfield fX1_28 dX1_threadLying_25 (by assumption) (by rfl) ?_
          refine v_iload_n dX1_threadLying_28 rfl rfl ?_
          refine v_iaload dX1_threadLying_29 (by assumption) (vp_in_nI (by omega) (by omega)) ?_
          rw [nI_clamp (by omega), e4 i h9, q4]
          refine v_aload_n dX1_threadLying_30 rfl rfl ?_
          refine v_getfield fX1_31 dX1_threadLying_31 (by assumption) (by rfl) ?_
          refine v_iload_n dX1_threadLying_34 rfl rfl ?_
          refine v_iaload dX1_threadLying_35 (by assumption) (vp_in_nI (by omega) (by omega)) ?_
          rw [nI_clamp (by omega), e5 i h9, q5]
          refine v_callVr kX1_105 gi_X1_lineBetween ge_X1_lineBetween rfl dX1_threadLying_36 (by assumption) (c_lineBetween hr hw.1 ha hb hn hL) rfl rfl (by decide) (Nat.le_of_ble_eq_true rfl) (fun q f m hc => ?_)
          obtain ⟨hl9, hL, hf9⟩ := hc
          have hr := hr.fr hf9 (fun k hk => by show ¬ (t + k = 950); omega)
          obtain ⟨sq9, gq9, hq1, hq2, hq3⟩ := hl9
          obtain ⟨r0, ⟨g1, a1, e1⟩, ⟨g2, a2, e2⟩, ⟨g3, a3, e3⟩, ⟨g4, a4, e4⟩, ⟨g5, a5, e5⟩, ⟨g6, a6, e6⟩, ⟨g7, a7, e7⟩, ⟨g8, a8, e8⟩, ⟨g9, a9, e9⟩, ⟨g10, a10, e10⟩⟩ := id hr
          refine v_getfield fX1_108 dX1_threadLying_39 (by assumption) (by rfl) ?_
          refine v_iadd dX1_threadLying_42 ?_
          refine v_istore_n dX1_threadLying_43 rfl (by decide) ?_
          refine v_iincN dX1_threadLying_44 rfl (by decide) ?_
          refine v_goto 4 dX1_threadLying_47 (by decide) ?_
          exact v_loc (lv' := [(0, .ref r), (1, .int x), (2, .int (sSum (fun c => if ρ 6 c = x then sLn s (zn (ρ 4 c)) (zn (ρ 5 c)) else 0) (i + 1))), (3, .int (nI (i + 1)))]) ⟨rfl, rfl, zlkE rfl (by show _ = sSum _ i + (if ρ 6 i = x then sLn s (zn (ρ 4 i)) (zn (ρ 5 i)) else 0); first | (rw [if_neg b19, Int32.add_zero]; done) | (rw [if_pos b19, q4, q5]; unfold zn; rw [nI_clamp (by omega), nI_clamp (by omega)]; rfl)), rfl, trivial⟩ (ih (i + 1) (by omega) f m hr hL (by first | exact hf0.trans hf9 | exact hf0))
  refine v_iconst (0) dX1_threadLying_0 (by decide) ?_
  refine v_istore_n dX1_threadLying_1 rfl (by decide) ?_
  refine v_iconst (0) dX1_threadLying_2 (by decide) ?_
  refine v_istore_n dX1_threadLying_3 rfl (by decide) ?_
  exact v_loc (lv' := [(0, .ref r), (1, .int x), (2, .int (sSum (fun c => if ρ 6 c = x then sLn s (zn (ρ 4 c)) (zn (ρ 5 c)) else 0) 0)), (3, .int (nI 0))]) ⟨rfl, rfl, rfl, rfl, trivial⟩ (loop n 0 (by omega) f0 m0 hr hL zFr.refl)
set_option maxRecDepth 10000 in
set_option maxHeartbeats 1000000 in
theorem c_bestNail {G : zW} {f0 : zHM} {m0 : Nat × Nat} {t r la n : Nat} {A : Nat → Nat} {ρ : zRS} {xs tm : Nat → Int32} (hr : RPic f0 t r la A ρ n xs tm) (ht : t ≤ 900) {N s : Nat} (hv : RV ρ N s) {M : Nat × Nat} (hL : LNok f0 m0 la M) {a u : Nat} (ha : a < N) (hu : u < 3) (hat : ρ 0 1 = nI a) (hnow : ρ 0 2 = nI u) : zM G yX1_bestNail cX1_bestNail 10 (some .int) 5 [.ref r] (f0, m0) (zD (some (.int (sBest ρ N s tm a u))) (fun f' m' => LNok f' m' la M ∧ zFr zT9 f0 f')) := by
  refine zM.of (by decide) (Nat.le_of_ble_eq_true rfl) ?_
  have hv9 := hv.pos
  obtain ⟨rf, hrf⟩ : ∃ z : Nat → Int32, (∀ b, z b = sRef N s (ρ 3 0) (ρ 3 1) (ρ 2 u) tm a b) ∧ True := ⟨_, fun _ => rfl, trivial⟩
  obtain ⟨gn, hgn⟩ : ∃ z : Nat → Int32, (∀ b, z b = sGain ρ s (ρ 1 u) a b) ∧ True := ⟨_, fun _ => rfl, trivial⟩
  obtain ⟨ln, hln⟩ : ∃ z : Nat → Int32, (∀ b, z b = sLn s a b) ∧ True := ⟨_, fun _ => rfl, trivial⟩
  obtain ⟨ot, hot⟩ : ∃ z : Nat → Int32, (∀ b, z b = tm (sPr (a * s) (b * s))) ∧ True := ⟨_, fun _ => rfl, trivial⟩
  have hself : ∀ b, rf b = 0 → a ≠ b := fun b hb e => sRef_self N s (ρ 3 0) (ρ 3 1) (ρ 2 u) tm a (by rw [← hb, hrf.1 b, e])
  have loop : ∀ (k i : Nat), i + k = N → ∀ (f : zHM) (m : Nat × Nat), RPic f t r la A ρ n xs tm → LNok f m la M → zFr zT9 f0 f → zV G yX1_bestNail cX1_bestNail 10 (some .int) 5 12 [(0, .ref r), (1, .int (sBst rf gn ot ln i).1), (2, .int (sBst rf gn ot ln i).2.1), (3, .int (sBst rf gn ot ln i).2.2.1), (4, .int (sBst rf gn ot ln i).2.2.2), (5, .int (nI i))] [] (f, m) (zD (some (.int (sBest ρ N s tm a u))) (fun f' m' => LNok f' m' la M ∧ zFr zT9 f0 f')) := by
    intro k
    induction k with
    | zero =>
      intro i hi f m hr hL hf0
      have hi : i = N := by omega
      subst hi
      obtain ⟨r0, ⟨g1, a1, e1⟩, ⟨g2, a2, e2⟩, ⟨g3, a3, e3⟩, ⟨g4, a4, e4⟩, ⟨g5, a5, e5⟩, ⟨g6, a6, e6⟩, ⟨g7, a7, e7⟩, ⟨g8, a8, e8⟩, ⟨g9, a9, e9⟩, ⟨g10, a10, e10⟩⟩ := id hr
      refine v_iload dX1_bestNail_12 rfl ?_
      refine v_aload_n dX1_bestNail_14 rfl rfl ?_
      refine v_getfield fX1_9 dX1_bestNail_15 (by assumption) (by rfl) ?_
      rw [hv.1]
      refine v_icmp_ge 132 dX1_bestNail_18 (by decide) (fun b18 => ?_) (fun b18 => ?_)
      · refine v_iload_n dX1_bestNail_132 rfl rfl ?_
        exact v_ireturn dX1_bestNail_133 rfl ⟨by rw [show rf = _ from funext hrf.1, show gn = _ from funext hgn.1, show ot = _ from funext hot.1, show ln = _ from funext hln.1]; rfl, hL, hf0⟩
      · exact absurd (nI_le (by omega) (by omega)) b18
    | succ k ih =>
      intro i hi f m hr hL hf0
      have h9 : i < N := by omega
      obtain ⟨r0, ⟨g1, a1, e1⟩, ⟨g2, a2, e2⟩, ⟨g3, a3, e3⟩, ⟨g4, a4, e4⟩, ⟨g5, a5, e5⟩, ⟨g6, a6, e6⟩, ⟨g7, a7, e7⟩, ⟨g8, a8, e8⟩, ⟨g9, a9, e9⟩, ⟨g10, a10, e10⟩⟩ := id hr
      refine v_iload dX1_bestNail_12 rfl ?_
      refine v_aload_n dX1_bestNail_14 rfl rfl ?_
      refine v_getfield fX1_9 dX1_bestNail_15 (by assumption) (by rfl) ?_
      rw [hv.1]
      refine v_icmp_ge 132 dX1_bestNail_18 (by decide) (fun b18 => ?_) (fun b18 => ?_)
      · exact absurd b18 (nI_ge h9 (by omega))
      · refine v_aload_n dX1_bestNail_21 rfl rfl ?_
        refine v_iload dX1_bestNail_22 rfl ?_
        refine v_callV1 kX1_120 gi_X1_refusal ge_X1_refusal rfl dX1_bestNail_24 (by assumption) (c_refusal hr ht hv hL ha h9 hu hat hnow) rfl rfl (by decide) (Nat.le_of_ble_eq_true rfl) (fun f m hc => ?_)
        obtain ⟨hL, hf9⟩ := hc
        have hr := hr.fr hf9 (fun k hk => by show ¬ (t + k = 950); omega)
        replace hf0 := hf0.trans hf9
        obtain ⟨r0, ⟨g1, a1, e1⟩, ⟨g2, a2, e2⟩, ⟨g3, a3, e3⟩, ⟨g4, a4, e4⟩, ⟨g5, a5, e5⟩, ⟨g6, a6, e6⟩, ⟨g7, a7, e7⟩, ⟨g8, a8, e8⟩, ⟨g9, a9, e9⟩, ⟨g10, a10, e10⟩⟩ := id hr
        rw [← hrf.1 i]
        refine v_if_ne 126 dX1_bestNail_27 (by decide) (fun b27 => ?_) (fun b27 => ?_)
        · have hst : sBst rf gn ot ln (i + 1) = sBst rf gn ot ln i := if_neg (fun h => b27 h.1)
          refine v_iincN dX1_bestNail_126 rfl (by decide) ?_
          refine v_goto 12 dX1_bestNail_129 (by decide) ?_
          exact v_loc (lv' := [(0, .ref r), (1, .int (sBst rf gn ot ln (i + 1)).1), (2, .int (sBst rf gn ot ln (i + 1)).2.1), (3, .int (sBst rf gn ot ln (i + 1)).2.2.1), (4, .int (sBst rf gn ot ln (i + 1)).2.2.2), (5, .int (nI (i + 1)))]) ⟨rfl, zlkE rfl (by rw [hst]), zlkE rfl (by rw [hst]), zlkE rfl (by rw [hst]), zlkE rfl (by rw [hst]), rfl, trivial⟩ (ih (i + 1) (by omega) f m hr hL hf0)
        · have hne : a ≠ i := hself i b27
          refine v_aload_n dX1_bestNail_30 rfl rfl ?_
          refine v_iload dX1_bestNail_31 rfl ?_
          refine v_callV1 kX1_123 gi_X1_gainTo ge_X1_gainTo rfl dX1_bestNail_33 (by assumption) (c_gainTo hr ht hv hL ha h9 hne hu hat hnow) rfl rfl (by decide) (Nat.le_of_ble_eq_true rfl) (fun f m hc => ?_)
          obtain ⟨hL, hf9⟩ := hc
          have hr := hr.fr hf9 (fun k hk => by show ¬ (t + k = 950); omega)
          replace hf0 := hf0.trans hf9
          obtain ⟨r0, ⟨g1, a1, e1⟩, ⟨g2, a2, e2⟩, ⟨g3, a3, e3⟩, ⟨g4, a4, e4⟩, ⟨g5, a5, e5⟩, ⟨g6, a6, e6⟩, ⟨g7, a7, e7⟩, ⟨g8, a8, e8⟩, ⟨g9, a9, e9⟩, ⟨g10, a10, e10⟩⟩ := id hr
          rw [← hgn.1 i]
          refine v_istore dX1_bestNail_36 (by decide) ?_
          refine v_aload_n dX1_bestNail_38 rfl rfl ?_
          refine v_aload_n dX1_bestNail_39 rfl rfl ?_
          refine v_getfield fX1_53 dX1_bestNail_40 (by assumption) (by rfl) ?_
          rw [hat]
          refine v_iload dX1_bestNail_43 rfl ?_
          refine v_callVp kX1_102 gi_X1_timesLying ge_X1_timesLying rfl dX1_bestNail_45 (by assumption) (c_timesLying hr hv ha h9 hne) rfl rfl (by decide) (Nat.le_of_ble_eq_true rfl) ?_
          rw [← hot.1 i]
          refine v_istore dX1_bestNail_48 (by decide) ?_
          refine v_aload_n dX1_bestNail_50 rfl rfl ?_
          refine v_aload_n dX1_bestNail_51 rfl rfl ?_
          refine v_getfield fX1_53 dX1_bestNail_52 (by assumption) (by rfl) ?_
          rw [hat]
          refine v_iload dX1_bestNail_55 rfl ?_
          refine v_callVr kX1_105 gi_X1_lineBetween ge_X1_lineBetween rfl dX1_bestNail_57 (by assumption) (c_lineBetween hr hv ha h9 hne hL) rfl rfl (by decide) (Nat.le_of_ble_eq_true rfl) (fun q f m hc => ?_)
          obtain ⟨hl9, hL, hf9⟩ := hc
          have hr := hr.fr hf9 (fun k hk => by show ¬ (t + k = 950); omega)
          obtain ⟨sq9, gq9, hq1, hq2, hq3⟩ := hl9
          obtain ⟨r0, ⟨g1, a1, e1⟩, ⟨g2, a2, e2⟩, ⟨g3, a3, e3⟩, ⟨g4, a4, e4⟩, ⟨g5, a5, e5⟩, ⟨g6, a6, e6⟩, ⟨g7, a7, e7⟩, ⟨g8, a8, e8⟩, ⟨g9, a9, e9⟩, ⟨g10, a10, e10⟩⟩ := id hr
          replace hf0 := hf0.trans hf9
          refine v_getfield fX1_108 dX1_bestNail_60 (by assumption) (by rfl) ?_
          rw [show nI (sLen (min (a * s) (i * s)) (max (a * s) (i * s))) = ln i from (hln.1 i).symm]
          refine v_istore dX1_bestNail_63 (by decide) ?_
          refine v_iload dX1_bestNail_65 rfl ?_
          refine v_iload_n dX1_bestNail_67 rfl rfl ?_
          refine v_icmp_lt 84 dX1_bestNail_68 (by decide) (fun b68 => ?_) (fun b68 => ?_)
          · refine v_iconst (1) dX1_bestNail_84 (by decide) ?_
            refine v_goto 89 dX1_bestNail_85 (by decide) ?_
            refine v_istore dX1_bestNail_89 (by decide) ?_
            refine v_iload_n dX1_bestNail_91 rfl rfl ?_
            refine v_iconst (-1) dX1_bestNail_92 (by decide) ?_
            refine v_icmp_eq 113 dX1_bestNail_93 (by decide) (fun b93 => ?_) (fun b93 => ?_)
            · have hst : sBst rf gn ot ln (i + 1) = (nI i, gn i, ot i, ln i) := if_pos (by simp [b27, b68, b93])
              refine v_iload dX1_bestNail_113 rfl ?_
              refine v_istore_n dX1_bestNail_115 rfl (by decide) ?_
              refine v_iload dX1_bestNail_116 rfl ?_
              refine v_istore_n dX1_bestNail_118 rfl (by decide) ?_
              refine v_iload dX1_bestNail_119 rfl ?_
              refine v_istore_n dX1_bestNail_121 rfl (by decide) ?_
              refine v_iload dX1_bestNail_122 rfl ?_
              refine v_istore dX1_bestNail_124 (by decide) ?_
              refine v_iincN dX1_bestNail_126 rfl (by decide) ?_
              refine v_goto 12 dX1_bestNail_129 (by decide) ?_
              exact v_loc (lv' := [(0, .ref r), (1, .int (sBst rf gn ot ln (i + 1)).1), (2, .int (sBst rf gn ot ln (i + 1)).2.1), (3, .int (sBst rf gn ot ln (i + 1)).2.2.1), (4, .int (sBst rf gn ot ln (i + 1)).2.2.2), (5, .int (nI (i + 1)))]) ⟨rfl, zlkE rfl (by rw [hst]), zlkE rfl (by rw [hst]), zlkE rfl (by rw [hst]), zlkE rfl (by rw [hst]), rfl, trivial⟩ (ih (i + 1) (by omega) f m hr hL hf0)
            · refine v_iload dX1_bestNail_96 rfl ?_
              refine v_iload_n dX1_bestNail_98 rfl rfl ?_
              refine v_icmp_gt 113 dX1_bestNail_99 (by decide) (fun b99 => ?_) (fun b99 => ?_)
              · have hst : sBst rf gn ot ln (i + 1) = (nI i, gn i, ot i, ln i) := if_pos (by simp [b27, b68, b93, b99])
                refine v_iload dX1_bestNail_113 rfl ?_
                refine v_istore_n dX1_bestNail_115 rfl (by decide) ?_
                refine v_iload dX1_bestNail_116 rfl ?_
                refine v_istore_n dX1_bestNail_118 rfl (by decide) ?_
                refine v_iload dX1_bestNail_119 rfl ?_
                refine v_istore_n dX1_bestNail_121 rfl (by decide) ?_
                refine v_iload dX1_bestNail_122 rfl ?_
                refine v_istore dX1_bestNail_124 (by decide) ?_
                refine v_iincN dX1_bestNail_126 rfl (by decide) ?_
                refine v_goto 12 dX1_bestNail_129 (by decide) ?_
                exact v_loc (lv' := [(0, .ref r), (1, .int (sBst rf gn ot ln (i + 1)).1), (2, .int (sBst rf gn ot ln (i + 1)).2.1), (3, .int (sBst rf gn ot ln (i + 1)).2.2.1), (4, .int (sBst rf gn ot ln (i + 1)).2.2.2), (5, .int (nI (i + 1)))]) ⟨rfl, zlkE rfl (by rw [hst]), zlkE rfl (by rw [hst]), zlkE rfl (by rw [hst]), zlkE rfl (by rw [hst]), rfl, trivial⟩ (ih (i + 1) (by omega) f m hr hL hf0)
              · refine v_iload dX1_bestNail_102 rfl ?_
                refine v_iload_n dX1_bestNail_104 rfl rfl ?_
                refine v_icmp_ne 126 dX1_bestNail_105 (by decide) (fun b105 => ?_) (fun b105 => ?_)
                · have hst : sBst rf gn ot ln (i + 1) = sBst rf gn ot ln i := if_neg (by simp [b27, b68, b93, b99, b105])
                  refine v_iincN dX1_bestNail_126 rfl (by decide) ?_
                  refine v_goto 12 dX1_bestNail_129 (by decide) ?_
                  exact v_loc (lv' := [(0, .ref r), (1, .int (sBst rf gn ot ln (i + 1)).1), (2, .int (sBst rf gn ot ln (i + 1)).2.1), (3, .int (sBst rf gn ot ln (i + 1)).2.2.1), (4, .int (sBst rf gn ot ln (i + 1)).2.2.2), (5, .int (nI (i + 1)))]) ⟨rfl, zlkE rfl (by rw [hst]), zlkE rfl (by rw [hst]), zlkE rfl (by rw [hst]), zlkE rfl (by rw [hst]), rfl, trivial⟩ (ih (i + 1) (by omega) f m hr hL hf0)
                · refine v_iload dX1_bestNail_108 rfl ?_
                  refine v_if_eq 126 dX1_bestNail_110 (by decide) (fun b110 => ?_) (fun b110 => ?_)
                  · have hst : sBst rf gn ot ln (i + 1) = sBst rf gn ot ln i := by first | exact absurd b110 (by decide) | exact if_neg (by simp [b27, b68, b93, b99, b105])
                    refine v_iincN dX1_bestNail_126 rfl (by decide) ?_
                    refine v_goto 12 dX1_bestNail_129 (by decide) ?_
                    exact v_loc (lv' := [(0, .ref r), (1, .int (sBst rf gn ot ln (i + 1)).1), (2, .int (sBst rf gn ot ln (i + 1)).2.1), (3, .int (sBst rf gn ot ln (i + 1)).2.2.1), (4, .int (sBst rf gn ot ln (i + 1)).2.2.2), (5, .int (nI (i + 1)))]) ⟨rfl, zlkE rfl (by rw [hst]), zlkE rfl (by rw [hst]), zlkE rfl (by rw [hst]), zlkE rfl (by rw [hst]), rfl, trivial⟩ (ih (i + 1) (by omega) f m hr hL hf0)
                  · have hst : sBst rf gn ot ln (i + 1) = (nI i, gn i, ot i, ln i) := by first | exact absurd rfl b110 | exact if_pos (by simp [b27, b68, b93, b99, b105])
                    refine v_iload dX1_bestNail_113 rfl ?_
                    refine v_istore_n dX1_bestNail_115 rfl (by decide) ?_
                    refine v_iload dX1_bestNail_116 rfl ?_
                    refine v_istore_n dX1_bestNail_118 rfl (by decide) ?_
                    refine v_iload dX1_bestNail_119 rfl ?_
                    refine v_istore_n dX1_bestNail_121 rfl (by decide) ?_
                    refine v_iload dX1_bestNail_122 rfl ?_
                    refine v_istore dX1_bestNail_124 (by decide) ?_
                    refine v_iincN dX1_bestNail_126 rfl (by decide) ?_
                    refine v_goto 12 dX1_bestNail_129 (by decide) ?_
                    exact v_loc (lv' := [(0, .ref r), (1, .int (sBst rf gn ot ln (i + 1)).1), (2, .int (sBst rf gn ot ln (i + 1)).2.1), (3, .int (sBst rf gn ot ln (i + 1)).2.2.1), (4, .int (sBst rf gn ot ln (i + 1)).2.2.2), (5, .int (nI (i + 1)))]) ⟨rfl, zlkE rfl (by rw [hst]), zlkE rfl (by rw [hst]), zlkE rfl (by rw [hst]), zlkE rfl (by rw [hst]), rfl, trivial⟩ (ih (i + 1) (by omega) f m hr hL hf0)
          · refine v_iload dX1_bestNail_71 rfl ?_
            refine v_iload_n dX1_bestNail_73 rfl rfl ?_
            refine v_icmp_ne 88 dX1_bestNail_74 (by decide) (fun b74 => ?_) (fun b74 => ?_)
            · refine v_iconst (0) dX1_bestNail_88 (by decide) ?_
              refine v_istore dX1_bestNail_89 (by decide) ?_
              refine v_iload_n dX1_bestNail_91 rfl rfl ?_
              refine v_iconst (-1) dX1_bestNail_92 (by decide) ?_
              refine v_icmp_eq 113 dX1_bestNail_93 (by decide) (fun b93 => ?_) (fun b93 => ?_)
              · have hst : sBst rf gn ot ln (i + 1) = (nI i, gn i, ot i, ln i) := if_pos (by simp [b27, b68, b74, b93])
                refine v_iload dX1_bestNail_113 rfl ?_
                refine v_istore_n dX1_bestNail_115 rfl (by decide) ?_
                refine v_iload dX1_bestNail_116 rfl ?_
                refine v_istore_n dX1_bestNail_118 rfl (by decide) ?_
                refine v_iload dX1_bestNail_119 rfl ?_
                refine v_istore_n dX1_bestNail_121 rfl (by decide) ?_
                refine v_iload dX1_bestNail_122 rfl ?_
                refine v_istore dX1_bestNail_124 (by decide) ?_
                refine v_iincN dX1_bestNail_126 rfl (by decide) ?_
                refine v_goto 12 dX1_bestNail_129 (by decide) ?_
                exact v_loc (lv' := [(0, .ref r), (1, .int (sBst rf gn ot ln (i + 1)).1), (2, .int (sBst rf gn ot ln (i + 1)).2.1), (3, .int (sBst rf gn ot ln (i + 1)).2.2.1), (4, .int (sBst rf gn ot ln (i + 1)).2.2.2), (5, .int (nI (i + 1)))]) ⟨rfl, zlkE rfl (by rw [hst]), zlkE rfl (by rw [hst]), zlkE rfl (by rw [hst]), zlkE rfl (by rw [hst]), rfl, trivial⟩ (ih (i + 1) (by omega) f m hr hL hf0)
              · refine v_iload dX1_bestNail_96 rfl ?_
                refine v_iload_n dX1_bestNail_98 rfl rfl ?_
                refine v_icmp_gt 113 dX1_bestNail_99 (by decide) (fun b99 => ?_) (fun b99 => ?_)
                · have hst : sBst rf gn ot ln (i + 1) = (nI i, gn i, ot i, ln i) := if_pos (by simp [b27, b68, b74, b93, b99])
                  refine v_iload dX1_bestNail_113 rfl ?_
                  refine v_istore_n dX1_bestNail_115 rfl (by decide) ?_
                  refine v_iload dX1_bestNail_116 rfl ?_
                  refine v_istore_n dX1_bestNail_118 rfl (by decide) ?_
                  refine v_iload dX1_bestNail_119 rfl ?_
                  refine v_istore_n dX1_bestNail_121 rfl (by decide) ?_
                  refine v_iload dX1_bestNail_122 rfl ?_
                  refine v_istore dX1_bestNail_124 (by decide) ?_
                  refine v_iincN dX1_bestNail_126 rfl (by decide) ?_
                  refine v_goto 12 dX1_bestNail_129 (by decide) ?_
                  exact v_loc (lv' := [(0, .ref r), (1, .int (sBst rf gn ot ln (i + 1)).1), (2, .int (sBst rf gn ot ln (i + 1)).2.1), (3, .int (sBst rf gn ot ln (i + 1)).2.2.1), (4, .int (sBst rf gn ot ln (i + 1)).2.2.2), (5, .int (nI (i + 1)))]) ⟨rfl, zlkE rfl (by rw [hst]), zlkE rfl (by rw [hst]), zlkE rfl (by rw [hst]), zlkE rfl (by rw [hst]), rfl, trivial⟩ (ih (i + 1) (by omega) f m hr hL hf0)
                · refine v_iload dX1_bestNail_102 rfl ?_
                  refine v_iload_n dX1_bestNail_104 rfl rfl ?_
                  refine v_icmp_ne 126 dX1_bestNail_105 (by decide) (fun b105 => ?_) (fun b105 => ?_)
                  · have hst : sBst rf gn ot ln (i + 1) = sBst rf gn ot ln i := if_neg (by simp [b27, b68, b74, b93, b99, b105])
                    refine v_iincN dX1_bestNail_126 rfl (by decide) ?_
                    refine v_goto 12 dX1_bestNail_129 (by decide) ?_
                    exact v_loc (lv' := [(0, .ref r), (1, .int (sBst rf gn ot ln (i + 1)).1), (2, .int (sBst rf gn ot ln (i + 1)).2.1), (3, .int (sBst rf gn ot ln (i + 1)).2.2.1), (4, .int (sBst rf gn ot ln (i + 1)).2.2.2), (5, .int (nI (i + 1)))]) ⟨rfl, zlkE rfl (by rw [hst]), zlkE rfl (by rw [hst]), zlkE rfl (by rw [hst]), zlkE rfl (by rw [hst]), rfl, trivial⟩ (ih (i + 1) (by omega) f m hr hL hf0)
                  · refine v_iload dX1_bestNail_108 rfl ?_
                    refine v_if_eq 126 dX1_bestNail_110 (by decide) (fun b110 => ?_) (fun b110 => ?_)
                    · have hst : sBst rf gn ot ln (i + 1) = sBst rf gn ot ln i := by first | exact absurd b110 (by decide) | exact if_neg (by simp [b27, b68, b74, b93, b99, b105])
                      refine v_iincN dX1_bestNail_126 rfl (by decide) ?_
                      refine v_goto 12 dX1_bestNail_129 (by decide) ?_
                      exact v_loc (lv' := [(0, .ref r), (1, .int (sBst rf gn ot ln (i + 1)).1), (2, .int (sBst rf gn ot ln (i + 1)).2.1), (3, .int (sBst rf gn ot ln (i + 1)).2.2.1), (4, .int (sBst rf gn ot ln (i + 1)).2.2.2), (5, .int (nI (i + 1)))]) ⟨rfl, zlkE rfl (by rw [hst]), zlkE rfl (by rw [hst]), zlkE rfl (by rw [hst]), zlkE rfl (by rw [hst]), rfl, trivial⟩ (ih (i + 1) (by omega) f m hr hL hf0)
                    · have hst : sBst rf gn ot ln (i + 1) = (nI i, gn i, ot i, ln i) := by first | exact absurd rfl b110 | exact if_pos (by simp [b27, b68, b74, b93, b99, b105])
                      refine v_iload dX1_bestNail_113 rfl ?_
                      refine v_istore_n dX1_bestNail_115 rfl (by decide) ?_
                      refine v_iload dX1_bestNail_116 rfl ?_
                      refine v_istore_n dX1_bestNail_118 rfl (by decide) ?_
                      refine v_iload dX1_bestNail_119 rfl ?_
                      refine v_istore_n dX1_bestNail_121 rfl (by decide) ?_
                      refine v_iload dX1_bestNail_122 rfl ?_
                      refine v_istore dX1_bestNail_124 (by decide) ?_
                      refine v_iincN dX1_bestNail_126 rfl (by decide) ?_
                      refine v_goto 12 dX1_bestNail_129 (by decide) ?_
                      exact v_loc (lv' := [(0, .ref r), (1, .int (sBst rf gn ot ln (i + 1)).1), (2, .int (sBst rf gn ot ln (i + 1)).2.1), (3, .int (sBst rf gn ot ln (i + 1)).2.2.1), (4, .int (sBst rf gn ot ln (i + 1)).2.2.2), (5, .int (nI (i + 1)))]) ⟨rfl, zlkE rfl (by rw [hst]), zlkE rfl (by rw [hst]), zlkE rfl (by rw [hst]), zlkE rfl (by rw [hst]), rfl, trivial⟩ (ih (i + 1) (by omega) f m hr hL hf0)
            · refine v_iload dX1_bestNail_77 rfl ?_
              refine v_iload dX1_bestNail_79 rfl ?_
              refine v_icmp_ge 88 dX1_bestNail_81 (by decide) (fun b81 => ?_) (fun b81 => ?_)
              · refine v_iconst (0) dX1_bestNail_88 (by decide) ?_
                refine v_istore dX1_bestNail_89 (by decide) ?_
                refine v_iload_n dX1_bestNail_91 rfl rfl ?_
                refine v_iconst (-1) dX1_bestNail_92 (by decide) ?_
                refine v_icmp_eq 113 dX1_bestNail_93 (by decide) (fun b93 => ?_) (fun b93 => ?_)
                · have hst : sBst rf gn ot ln (i + 1) = (nI i, gn i, ot i, ln i) := if_pos (by simp [b27, b68, b74, b81, b93])
                  refine v_iload dX1_bestNail_113 rfl ?_
                  refine v_istore_n dX1_bestNail_115 rfl (by decide) ?_
                  refine v_iload dX1_bestNail_116 rfl ?_
                  refine v_istore_n dX1_bestNail_118 rfl (by decide) ?_
                  refine v_iload dX1_bestNail_119 rfl ?_
                  refine v_istore_n dX1_bestNail_121 rfl (by decide) ?_
                  refine v_iload dX1_bestNail_122 rfl ?_
                  refine v_istore dX1_bestNail_124 (by decide) ?_
                  refine v_iincN dX1_bestNail_126 rfl (by decide) ?_
                  refine v_goto 12 dX1_bestNail_129 (by decide) ?_
                  exact v_loc (lv' := [(0, .ref r), (1, .int (sBst rf gn ot ln (i + 1)).1), (2, .int (sBst rf gn ot ln (i + 1)).2.1), (3, .int (sBst rf gn ot ln (i + 1)).2.2.1), (4, .int (sBst rf gn ot ln (i + 1)).2.2.2), (5, .int (nI (i + 1)))]) ⟨rfl, zlkE rfl (by rw [hst]), zlkE rfl (by rw [hst]), zlkE rfl (by rw [hst]), zlkE rfl (by rw [hst]), rfl, trivial⟩ (ih (i + 1) (by omega) f m hr hL hf0)
                · refine v_iload dX1_bestNail_96 rfl ?_
                  refine v_iload_n dX1_bestNail_98 rfl rfl ?_
                  refine v_icmp_gt 113 dX1_bestNail_99 (by decide) (fun b99 => ?_) (fun b99 => ?_)
                  · have hst : sBst rf gn ot ln (i + 1) = (nI i, gn i, ot i, ln i) := if_pos (by simp [b27, b68, b74, b81, b93, b99])
                    refine v_iload dX1_bestNail_113 rfl ?_
                    refine v_istore_n dX1_bestNail_115 rfl (by decide) ?_
                    refine v_iload dX1_bestNail_116 rfl ?_
                    refine v_istore_n dX1_bestNail_118 rfl (by decide) ?_
                    refine v_iload dX1_bestNail_119 rfl ?_
                    refine v_istore_n dX1_bestNail_121 rfl (by decide) ?_
                    refine v_iload dX1_bestNail_122 rfl ?_
                    refine v_istore dX1_bestNail_124 (by decide) ?_
                    refine v_iincN dX1_bestNail_126 rfl (by decide) ?_
                    refine v_goto 12 dX1_bestNail_129 (by decide) ?_
                    exact v_loc (lv' := [(0, .ref r), (1, .int (sBst rf gn ot ln (i + 1)).1), (2, .int (sBst rf gn ot ln (i + 1)).2.1), (3, .int (sBst rf gn ot ln (i + 1)).2.2.1), (4, .int (sBst rf gn ot ln (i + 1)).2.2.2), (5, .int (nI (i + 1)))]) ⟨rfl, zlkE rfl (by rw [hst]), zlkE rfl (by rw [hst]), zlkE rfl (by rw [hst]), zlkE rfl (by rw [hst]), rfl, trivial⟩ (ih (i + 1) (by omega) f m hr hL hf0)
                  · refine v_iload dX1_bestNail_102 rfl ?_
                    refine v_iload_n dX1_bestNail_104 rfl rfl ?_
                    refine v_icmp_ne 126 dX1_bestNail_105 (by decide) (fun b105 => ?_) (fun b105 => ?_)
                    · have hst : sBst rf gn ot ln (i + 1) = sBst rf gn ot ln i := if_neg (by simp [b27, b68, b74, b81, b93, b99, b105])
                      refine v_iincN dX1_bestNail_126 rfl (by decide) ?_
                      refine v_goto 12 dX1_bestNail_129 (by decide) ?_
                      exact v_loc (lv' := [(0, .ref r), (1, .int (sBst rf gn ot ln (i + 1)).1), (2, .int (sBst rf gn ot ln (i + 1)).2.1), (3, .int (sBst rf gn ot ln (i + 1)).2.2.1), (4, .int (sBst rf gn ot ln (i + 1)).2.2.2), (5, .int (nI (i + 1)))]) ⟨rfl, zlkE rfl (by rw [hst]), zlkE rfl (by rw [hst]), zlkE rfl (by rw [hst]), zlkE rfl (by rw [hst]), rfl, trivial⟩ (ih (i + 1) (by omega) f m hr hL hf0)
                    · refine v_iload dX1_bestNail_108 rfl ?_
                      refine v_if_eq 126 dX1_bestNail_110 (by decide) (fun b110 => ?_) (fun b110 => ?_)
                      · have hst : sBst rf gn ot ln (i + 1) = sBst rf gn ot ln i := by first | exact absurd b110 (by decide) | exact if_neg (by simp [b27, b68, b74, b81, b93, b99, b105])
                        refine v_iincN dX1_bestNail_126 rfl (by decide) ?_
                        refine v_goto 12 dX1_bestNail_129 (by decide) ?_
                        exact v_loc (lv' := [(0, .ref r), (1, .int (sBst rf gn ot ln (i + 1)).1), (2, .int (sBst rf gn ot ln (i + 1)).2.1), (3, .int (sBst rf gn ot ln (i + 1)).2.2.1), (4, .int (sBst rf gn ot ln (i + 1)).2.2.2), (5, .int (nI (i + 1)))]) ⟨rfl, zlkE rfl (by rw [hst]), zlkE rfl (by rw [hst]), zlkE rfl (by rw [hst]), zlkE rfl (by rw [hst]), rfl, trivial⟩ (ih (i + 1) (by omega) f m hr hL hf0)
                      · have hst : sBst rf gn ot ln (i + 1) = (nI i, gn i, ot i, ln i) := by first | exact absurd rfl b110 | exact if_pos (by simp [b27, b68, b74, b81, b93, b99, b105])
                        refine v_iload dX1_bestNail_113 rfl ?_
                        refine v_istore_n dX1_bestNail_115 rfl (by decide) ?_
                        refine v_iload dX1_bestNail_116 rfl ?_
                        refine v_istore_n dX1_bestNail_118 rfl (by decide) ?_
                        refine v_iload dX1_bestNail_119 rfl ?_
                        refine v_istore_n dX1_bestNail_121 rfl (by decide) ?_
                        refine v_iload dX1_bestNail_122 rfl ?_
                        refine v_istore dX1_bestNail_124 (by decide) ?_
                        refine v_iincN dX1_bestNail_126 rfl (by decide) ?_
                        refine v_goto 12 dX1_bestNail_129 (by decide) ?_
                        exact v_loc (lv' := [(0, .ref r), (1, .int (sBst rf gn ot ln (i + 1)).1), (2, .int (sBst rf gn ot ln (i + 1)).2.1), (3, .int (sBst rf gn ot ln (i + 1)).2.2.1), (4, .int (sBst rf gn ot ln (i + 1)).2.2.2), (5, .int (nI (i + 1)))]) ⟨rfl, zlkE rfl (by rw [hst]), zlkE rfl (by rw [hst]), zlkE rfl (by rw [hst]), zlkE rfl (by rw [hst]), rfl, trivial⟩ (ih (i + 1) (by omega) f m hr hL hf0)
              · refine v_iconst (1) dX1_bestNail_84 (by decide) ?_
                refine v_goto 89 dX1_bestNail_85 (by decide) ?_
                refine v_istore dX1_bestNail_89 (by decide) ?_
                refine v_iload_n dX1_bestNail_91 rfl rfl ?_
                refine v_iconst (-1) dX1_bestNail_92 (by decide) ?_
                refine v_icmp_eq 113 dX1_bestNail_93 (by decide) (fun b93 => ?_) (fun b93 => ?_)
                · have hst : sBst rf gn ot ln (i + 1) = (nI i, gn i, ot i, ln i) := if_pos (by simp [b27, b68, b74, b81, b93])
                  refine v_iload dX1_bestNail_113 rfl ?_
                  refine v_istore_n dX1_bestNail_115 rfl (by decide) ?_
                  refine v_iload dX1_bestNail_116 rfl ?_
                  refine v_istore_n dX1_bestNail_118 rfl (by decide) ?_
                  refine v_iload dX1_bestNail_119 rfl ?_
                  refine v_istore_n dX1_bestNail_121 rfl (by decide) ?_
                  refine v_iload dX1_bestNail_122 rfl ?_
                  refine v_istore dX1_bestNail_124 (by decide) ?_
                  refine v_iincN dX1_bestNail_126 rfl (by decide) ?_
                  refine v_goto 12 dX1_bestNail_129 (by decide) ?_
                  exact v_loc (lv' := [(0, .ref r), (1, .int (sBst rf gn ot ln (i + 1)).1), (2, .int (sBst rf gn ot ln (i + 1)).2.1), (3, .int (sBst rf gn ot ln (i + 1)).2.2.1), (4, .int (sBst rf gn ot ln (i + 1)).2.2.2), (5, .int (nI (i + 1)))]) ⟨rfl, zlkE rfl (by rw [hst]), zlkE rfl (by rw [hst]), zlkE rfl (by rw [hst]), zlkE rfl (by rw [hst]), rfl, trivial⟩ (ih (i + 1) (by omega) f m hr hL hf0)
                · refine v_iload dX1_bestNail_96 rfl ?_
                  refine v_iload_n dX1_bestNail_98 rfl rfl ?_
                  refine v_icmp_gt 113 dX1_bestNail_99 (by decide) (fun b99 => ?_) (fun b99 => ?_)
                  · have hst : sBst rf gn ot ln (i + 1) = (nI i, gn i, ot i, ln i) := if_pos (by simp [b27, b68, b74, b81, b93, b99])
                    refine v_iload dX1_bestNail_113 rfl ?_
                    refine v_istore_n dX1_bestNail_115 rfl (by decide) ?_
                    refine v_iload dX1_bestNail_116 rfl ?_
                    refine v_istore_n dX1_bestNail_118 rfl (by decide) ?_
                    refine v_iload dX1_bestNail_119 rfl ?_
                    refine v_istore_n dX1_bestNail_121 rfl (by decide) ?_
                    refine v_iload dX1_bestNail_122 rfl ?_
                    refine v_istore dX1_bestNail_124 (by decide) ?_
                    refine v_iincN dX1_bestNail_126 rfl (by decide) ?_
                    refine v_goto 12 dX1_bestNail_129 (by decide) ?_
                    exact v_loc (lv' := [(0, .ref r), (1, .int (sBst rf gn ot ln (i + 1)).1), (2, .int (sBst rf gn ot ln (i + 1)).2.1), (3, .int (sBst rf gn ot ln (i + 1)).2.2.1), (4, .int (sBst rf gn ot ln (i + 1)).2.2.2), (5, .int (nI (i + 1)))]) ⟨rfl, zlkE rfl (by rw [hst]), zlkE rfl (by rw [hst]), zlkE rfl (by rw [hst]), zlkE rfl (by rw [hst]), rfl, trivial⟩ (ih (i + 1) (by omega) f m hr hL hf0)
                  · refine v_iload dX1_bestNail_102 rfl ?_
                    refine v_iload_n dX1_bestNail_104 rfl rfl ?_
                    refine v_icmp_ne 126 dX1_bestNail_105 (by decide) (fun b105 => ?_) (fun b105 => ?_)
                    · have hst : sBst rf gn ot ln (i + 1) = sBst rf gn ot ln i := if_neg (by simp [b27, b68, b74, b81, b93, b99, b105])
                      refine v_iincN dX1_bestNail_126 rfl (by decide) ?_
                      refine v_goto 12 dX1_bestNail_129 (by decide) ?_
                      exact v_loc (lv' := [(0, .ref r), (1, .int (sBst rf gn ot ln (i + 1)).1), (2, .int (sBst rf gn ot ln (i + 1)).2.1), (3, .int (sBst rf gn ot ln (i + 1)).2.2.1), (4, .int (sBst rf gn ot ln (i + 1)).2.2.2), (5, .int (nI (i + 1)))]) ⟨rfl, zlkE rfl (by rw [hst]), zlkE rfl (by rw [hst]), zlkE rfl (by rw [hst]), zlkE rfl (by rw [hst]), rfl, trivial⟩ (ih (i + 1) (by omega) f m hr hL hf0)
                    · refine v_iload dX1_bestNail_108 rfl ?_
                      refine v_if_eq 126 dX1_bestNail_110 (by decide) (fun b110 => ?_) (fun b110 => ?_)
                      · have hst : sBst rf gn ot ln (i + 1) = sBst rf gn ot ln i := by first | exact absurd b110 (by decide) | exact if_neg (by simp [b27, b68, b74, b81, b93, b99, b105])
                        refine v_iincN dX1_bestNail_126 rfl (by decide) ?_
                        refine v_goto 12 dX1_bestNail_129 (by decide) ?_
                        exact v_loc (lv' := [(0, .ref r), (1, .int (sBst rf gn ot ln (i + 1)).1), (2, .int (sBst rf gn ot ln (i + 1)).2.1), (3, .int (sBst rf gn ot ln (i + 1)).2.2.1), (4, .int (sBst rf gn ot ln (i + 1)).2.2.2), (5, .int (nI (i + 1)))]) ⟨rfl, zlkE rfl (by rw [hst]), zlkE rfl (by rw [hst]), zlkE rfl (by rw [hst]), zlkE rfl (by rw [hst]), rfl, trivial⟩ (ih (i + 1) (by omega) f m hr hL hf0)
                      · have hst : sBst rf gn ot ln (i + 1) = (nI i, gn i, ot i, ln i) := by first | exact absurd rfl b110 | exact if_pos (by simp [b27, b68, b74, b81, b93, b99, b105])
                        refine v_iload dX1_bestNail_113 rfl ?_
                        refine v_istore_n dX1_bestNail_115 rfl (by decide) ?_
                        refine v_iload dX1_bestNail_116 rfl ?_
                        refine v_istore_n dX1_bestNail_118 rfl (by decide) ?_
                        refine v_iload dX1_bestNail_119 rfl ?_
                        refine v_istore_n dX1_bestNail_121 rfl (by decide) ?_
                        refine v_iload dX1_bestNail_122 rfl ?_
                        refine v_istore dX1_bestNail_124 (by decide) ?_
                        refine v_iincN dX1_bestNail_126 rfl (by decide) ?_
                        refine v_goto 12 dX1_bestNail_129 (by decide) ?_
                        exact v_loc (lv' := [(0, .ref r), (1, .int (sBst rf gn ot ln (i + 1)).1), (2, .int (sBst rf gn ot ln (i + 1)).2.1), (3, .int (sBst rf gn ot ln (i + 1)).2.2.1), (4, .int (sBst rf gn ot ln (i + 1)).2.2.2), (5, .int (nI (i + 1)))]) ⟨rfl, zlkE rfl (by rw [hst]), zlkE rfl (by rw [hst]), zlkE rfl (by rw [hst]), zlkE rfl (by rw [hst]), rfl, trivial⟩ (ih (i + 1) (by omega) f m hr hL hf0)
  refine v_iconst (-1) dX1_bestNail_0 (by decide) ?_
  refine v_istore_n dX1_bestNail_1 rfl (by decide) ?_
  refine v_iconst (0) dX1_bestNail_2 (by decide) ?_
  refine v_istore_n dX1_bestNail_3 rfl (by decide) ?_
  refine v_iconst (0) dX1_bestNail_4 (by decide) ?_
  refine v_istore_n dX1_bestNail_5 rfl (by decide) ?_
  refine v_iconst (0) dX1_bestNail_6 (by decide) ?_
  refine v_istore dX1_bestNail_7 (by decide) ?_
  refine v_iconst (0) dX1_bestNail_9 (by decide) ?_
  refine v_istore dX1_bestNail_10 (by decide) ?_
  exact v_loc (lv' := [(0, .ref r), (1, .int (sBst rf gn ot ln 0).1), (2, .int (sBst rf gn ot ln 0).2.1), (3, .int (sBst rf gn ot ln 0).2.2.1), (4, .int (sBst rf gn ot ln 0).2.2.2), (5, .int (nI 0))]) ⟨rfl, rfl, rfl, rfl, rfl, rfl, trivial⟩ (loop N 0 (by omega) f0 m0 hr hL zFr.refl)
