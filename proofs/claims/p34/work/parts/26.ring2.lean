def sFar (a b : Nat) : Nat := if a < b then b - a else a - b
theorem sFar_ok : ∀ a, a < 24 → ∀ b, b < 24 → sAbs (nI b - nI a) = nI (sFar a b) := by decide +kernel
def sLn (s a b : Nat) : Int32 := nI (sLen (min (a * s) (b * s)) (max (a * s) (b * s)))
def sPa (s a b : Nat) : List Nat := sPT (min (a * s) (b * s)) (max (a * s) (b * s))
def sRef (N s : Nat) (ap ti lf : Int32) (tm : Nat → Int32) (a b : Nat) : Int32 :=
  if b = a then 1 else if nI (min (sFar a b) (N - sFar a b)) < ap then 2 else if ti ≤ tm (sPr (a * s) (b * s)) then 3 else if lf < sLn s a b then 4 else 0
/-- what a chord would gain, summed along its squares -/
def sGn (ρ : zRS) (sh : Int32) : List Nat → Int32 → Int32
  | [], z => z
  | q :: l, z => sGn ρ sh l (z + sRel (sLack ρ q) sh)
theorem sGn_snoc (ρ : zRS) (sh : Int32) (q : Nat) : ∀ (l : List Nat) (z : Int32), sGn ρ sh (l ++ [q]) z = sGn ρ sh l z + sRel (sLack ρ q) sh
  | [], z => rfl
  | x :: l, z => sGn_snoc ρ sh q l _
def sGain (ρ : zRS) (s : Nat) (sh : Int32) (a b : Nat) : Int32 := sGn ρ sh (sPa s a b) 0
theorem sPa_ok {ρ : zRS} {N s a b : Nat} (hv : RV ρ N s) (ha : a < N) (hb : b < N) (hn : a ≠ b) : (sPa s a b).length ≤ 19 ∧ (sPa s a b).Nodup ∧ ∀ q ∈ sPa s a b, q < 144 := by
  have h1 := hv.pl ha
  have h2 := hv.pl hb
  have h3 := hv.ne hn
  exact sPT_ok (max (a * s) (b * s)) (by omega) (min (a * s) (b * s)) (by omega)
theorem take_succ_getD (l : List Nat) (i : Nat) (h : i < l.length) : l.take (i + 1) = l.take i ++ [l.getD i 0] := by
  rw [List.take_succ]
  simp [List.getD, List.getElem?_eq_getElem h]
/-- a ring's numbers are in their ranges -/
def RW (ρ : zRS) (N s n : Nat) : Prop := RV ρ N s ∧ n ≤ 201 ∧ ∀ c, c < n → ∃ a b u, a < N ∧ b < N ∧ a ≠ b ∧ u < 3 ∧ ρ 4 c = nI a ∧ ρ 5 c = nI b ∧ ρ 6 c = nI u
set_option maxRecDepth 10000 in
set_option maxHeartbeats 1000000 in
theorem c_refusal {G : zW} {f : zHM} {m : Nat × Nat} {t r la n : Nat} {A : Nat → Nat} {ρ : zRS} {xs tm : Nat → Int32} (hr : RPic f t r la A ρ n xs tm) (ht : t ≤ 900) {N s : Nat} (hv : RV ρ N s) {M : Nat × Nat} (hL : LNok f m la M) {a b u : Nat} (ha : a < N) (hb : b < N) (hu : u < 3) (hat : ρ 0 1 = nI a) (hnow : ρ 0 2 = nI u) : zM G yX1_refusal cX1_refusal 3 (some .int) 4 [.ref r, .int (nI b)] (f, m) (zD (some (.int (sRef N s (ρ 3 0) (ρ 3 1) (ρ 2 u) tm a b))) (fun f' m' => LNok f' m' la M ∧ zFr zT9 f f')) := by
  refine zM.of (by decide) (Nat.le_of_ble_eq_true rfl) ?_
  have hv9 := hv.pos
  obtain ⟨r0, ⟨g1, a1, e1⟩, ⟨g2, a2, e2⟩, ⟨g3, a3, e3⟩, ⟨g4, a4, e4⟩, ⟨g5, a5, e5⟩, ⟨g6, a6, e6⟩, ⟨g7, a7, e7⟩, ⟨g8, a8, e8⟩, ⟨g9, a9, e9⟩, ⟨g10, a10, e10⟩⟩ := id hr
  refine v_iload_n dX1_refusal_0 rfl rfl ?_
  refine v_aload_n dX1_refusal_1 rfl rfl ?_
  refine v_getfield fX1_53 dX1_refusal_2 (by assumption) (by rfl) ?_
  refine v_icmp_ne 10 dX1_refusal_5 (by decide) (fun b5 => ?_) (fun b5 => ?_)
  · have hne : ¬ b = a := fun e => b5 (by rw [hat, e])
    refine v_iload_n dX1_refusal_10 rfl rfl ?_
    refine v_aload_n dX1_refusal_11 rfl rfl ?_
    refine v_getfield fX1_53 dX1_refusal_12 (by assumption) (by rfl) ?_
    refine v_isub dX1_refusal_15 ?_
    rw [hat]
    refine v_mabs kX1_98.1 gs_J9_abs_0f7a4 kX1_98.2.1 kX1_98.2.2.1 dX1_refusal_16 (by decide) (Nat.le_of_ble_eq_true rfl) ?_
    rw [show (if 0 ≤ nI b - nI a then nI b - nI a else 0 - (nI b - nI a)) = nI (sFar a b) from sFar_ok a (by omega) b (by omega)]
    refine v_istore_n dX1_refusal_19 rfl (by decide) ?_
    refine v_iload_n dX1_refusal_20 rfl rfl ?_
    refine v_aload_n dX1_refusal_21 rfl rfl ?_
    refine v_getfield fX1_9 dX1_refusal_22 (by assumption) (by rfl) ?_
    refine v_iload_n dX1_refusal_25 rfl rfl ?_
    refine v_isub dX1_refusal_26 ?_
    rw [hv.1, pk_sub (by unfold sFar; split <;> omega)]
    refine v_mmin kX1_86.1 gs_J9_min_7cf53 kX1_86.2.1 kX1_86.2.2.1 dX1_refusal_27 (by decide) (Nat.le_of_ble_eq_true rfl) ?_
    rw [nI_min _ _ (by unfold sFar; split <;> omega) (by omega)]
    refine v_aload_n dX1_refusal_30 rfl rfl ?_
    refine v_getfield fX1_25 dX1_refusal_31 (by assumption) (by rfl) ?_
    refine v_iconst (nI 0) dX1_refusal_34 (by decide) ?_
    refine v_iaload dX1_refusal_35 (by assumption) (vp_in_nI (by omega) (by omega)) ?_
    rw [nI_clamp (by omega), e3 0 (by omega)]
    refine v_icmp_ge 41 dX1_refusal_36 (by decide) (fun b36 => ?_) (fun b36 => ?_)
    · have hnear : ¬ nI (min (sFar a b) (N - sFar a b)) < ρ 3 0 := Int32.not_lt.mpr b36
      refine v_aload_n dX1_refusal_41 rfl rfl ?_
      refine v_aload_n dX1_refusal_42 rfl rfl ?_
      refine v_getfield fX1_53 dX1_refusal_43 (by assumption) (by rfl) ?_
      rw [hat]
      refine v_iload_n dX1_refusal_46 rfl rfl ?_
      refine v_callVp kX1_102 gi_X1_timesLying ge_X1_timesLying rfl dX1_refusal_47 (by assumption) (c_timesLying hr hv ha hb (fun e => b5 (by rw [hat, e]))) rfl rfl (by decide) (Nat.le_of_ble_eq_true rfl) ?_
      refine v_aload_n dX1_refusal_50 rfl rfl ?_
      refine v_getfield fX1_25 dX1_refusal_51 (by assumption) (by rfl) ?_
      refine v_iconst (nI 1) dX1_refusal_54 (by decide) ?_
      refine v_iaload dX1_refusal_55 (by assumption) (vp_in_nI (by omega) (by omega)) ?_
      rw [nI_clamp (by omega), e3 1 (by omega)]
      refine v_icmp_lt 61 dX1_refusal_56 (by decide) (fun b56 => ?_) (fun b56 => ?_)
      · have htm : ¬ ρ 3 1 ≤ tm (sPr (a * s) (b * s)) := Int32.not_le.mpr b56
        refine v_aload_n dX1_refusal_61 rfl rfl ?_
        refine v_getfield fX1_22 dX1_refusal_62 (by assumption) (by rfl) ?_
        refine v_aload_n dX1_refusal_65 rfl rfl ?_
        refine v_getfield fX1_56 dX1_refusal_66 (by assumption) (by rfl) ?_
        rw [hnow]
        refine v_iaload dX1_refusal_69 (by assumption) (vp_in_nI hu (by omega)) ?_
        rw [nI_clamp (by omega), e2 u hu]
        refine v_aload_n dX1_refusal_70 rfl rfl ?_
        refine v_aload_n dX1_refusal_71 rfl rfl ?_
        refine v_getfield fX1_53 dX1_refusal_72 (by assumption) (by rfl) ?_
        rw [hat]
        refine v_iload_n dX1_refusal_75 rfl rfl ?_
        refine v_callVr kX1_105 gi_X1_lineBetween ge_X1_lineBetween rfl dX1_refusal_76 (by assumption) (c_lineBetween hr hv ha hb (fun e => b5 (by rw [hat, e])) hL) rfl rfl (by decide) (Nat.le_of_ble_eq_true rfl) (fun q f m hc => ?_)
        obtain ⟨hl9, hL, hf9⟩ := hc
        have hr := hr.fr hf9 (fun k hk => by show ¬ (t + k = 950); omega)
        obtain ⟨sq, gq, hq1, hq2, hq3⟩ := hl9
        obtain ⟨r0, ⟨g1, a1, e1⟩, ⟨g2, a2, e2⟩, ⟨g3, a3, e3⟩, ⟨g4, a4, e4⟩, ⟨g5, a5, e5⟩, ⟨g6, a6, e6⟩, ⟨g7, a7, e7⟩, ⟨g8, a8, e8⟩, ⟨g9, a9, e9⟩, ⟨g10, a10, e10⟩⟩ := id hr
        refine v_getfield fX1_108 dX1_refusal_79 (by assumption) (by rfl) ?_
        refine v_icmp_ge 89 dX1_refusal_82 (by decide) (fun b82 => ?_) (fun b82 => ?_)
        · refine v_iconst (0) dX1_refusal_89 (by decide) ?_
          exact v_ireturn dX1_refusal_90 rfl ⟨by rw [show sRef N s (ρ 3 0) (ρ 3 1) (ρ 2 u) tm a b = 0 from (if_neg hne).trans ((if_neg hnear).trans ((if_neg htm).trans (if_neg (Int32.not_lt.mpr b82))))], hL, hf9⟩
        · refine v_iconst (4) dX1_refusal_85 (by decide) ?_
          refine v_goto 90 dX1_refusal_86 (by decide) ?_
          exact v_ireturn dX1_refusal_90 rfl ⟨by rw [show sRef N s (ρ 3 0) (ρ 3 1) (ρ 2 u) tm a b = 4 from (if_neg hne).trans ((if_neg hnear).trans ((if_neg htm).trans (if_pos (Int32.not_le.mp b82))))], hL, hf9⟩
      · have htm : ρ 3 1 ≤ tm (sPr (a * s) (b * s)) := Int32.not_lt.mp b56
        refine v_iconst (3) dX1_refusal_59 (by decide) ?_
        exact v_ireturn dX1_refusal_60 rfl ⟨by rw [show sRef N s (ρ 3 0) (ρ 3 1) (ρ 2 u) tm a b = 3 from (if_neg hne).trans ((if_neg hnear).trans (if_pos htm))], hL, zFr.refl⟩
    · have hnear : nI (min (sFar a b) (N - sFar a b)) < ρ 3 0 := Int32.not_le.mp b36
      refine v_iconst (2) dX1_refusal_39 (by decide) ?_
      exact v_ireturn dX1_refusal_40 rfl ⟨by rw [show sRef N s (ρ 3 0) (ρ 3 1) (ρ 2 u) tm a b = 2 from (if_neg hne).trans (if_pos hnear)], hL, zFr.refl⟩
  · refine v_iconst (1) dX1_refusal_8 (by decide) ?_
    exact v_ireturn dX1_refusal_9 rfl ⟨by rw [show sRef N s (ρ 3 0) (ρ 3 1) (ρ 2 u) tm a b = 1 from if_pos ((nI_eq (by omega) (by omega)).mp (b5.trans hat))], hL, zFr.refl⟩
set_option maxRecDepth 10000 in
set_option maxHeartbeats 1000000 in
theorem c_gainTo {G : zW} {f0 : zHM} {m : Nat × Nat} {t r la n : Nat} {A : Nat → Nat} {ρ : zRS} {xs tm : Nat → Int32} (hr : RPic f0 t r la A ρ n xs tm) (ht : t ≤ 900) {N s : Nat} (hv : RV ρ N s) {M : Nat × Nat} (hL : LNok f0 m la M) {a b u : Nat} (ha : a < N) (hb : b < N) (hn : a ≠ b) (hu : u < 3) (hat : ρ 0 1 = nI a) (hnow : ρ 0 2 = nI u) : zM G yX1_gainTo cX1_gainTo 7 (some .int) 4 [.ref r, .int (nI b)] (f0, m) (zD (some (.int (sGain ρ s (ρ 1 u) a b))) (fun f' m' => LNok f' m' la M ∧ zFr zT9 f0 f')) := by
  refine zM.of (by decide) (Nat.le_of_ble_eq_true rfl) ?_
  have hv9 := hv.pos
  have hpa := sPa_ok hv ha hb hn
  obtain ⟨r0, ⟨g1, a1, e1⟩, ⟨g2, a2, e2⟩, ⟨g3, a3, e3⟩, ⟨g4, a4, e4⟩, ⟨g5, a5, e5⟩, ⟨g6, a6, e6⟩, ⟨g7, a7, e7⟩, ⟨g8, a8, e8⟩, ⟨g9, a9, e9⟩, ⟨g10, a10, e10⟩⟩ := id hr
  refine v_iconst (0) dX1_gainTo_0 (by decide) ?_
  refine v_istore_n dX1_gainTo_1 rfl (by decide) ?_
  refine v_aload_n dX1_gainTo_2 rfl rfl ?_
  refine v_aload_n dX1_gainTo_3 rfl rfl ?_
  refine v_getfield fX1_53 dX1_gainTo_4 (by assumption) (by rfl) ?_
  rw [hat]
  refine v_iload_n dX1_gainTo_7 rfl rfl ?_
  refine v_callVr kX1_105 gi_X1_lineBetween ge_X1_lineBetween rfl dX1_gainTo_8 (by assumption) (c_lineBetween hr hv ha hb hn hL) rfl rfl (by decide) (Nat.le_of_ble_eq_true rfl) (fun q f m hc => ?_)
  obtain ⟨hl9, hL, hf9⟩ := hc
  have hr := hr.fr hf9 (fun k hk => by show ¬ (t + k = 950); omega)
  obtain ⟨sq, gq, hq1, hq2, hq3⟩ := hl9
  obtain ⟨r0, ⟨g1, a1, e1⟩, ⟨g2, a2, e2⟩, ⟨g3, a3, e3⟩, ⟨g4, a4, e4⟩, ⟨g5, a5, e5⟩, ⟨g6, a6, e6⟩, ⟨g7, a7, e7⟩, ⟨g8, a8, e8⟩, ⟨g9, a9, e9⟩, ⟨g10, a10, e10⟩⟩ := id hr
  replace hq2 : f sq = some (1000 + 2 * sPr (a * s) (b * s) + 1, .inl (0, (sPa s a b).length, .inl gq)) := hq2
  replace hq3 : ∀ i, i < (sPa s a b).length → gq i = nI ((sPa s a b).getD i 0) := hq3
  generalize hPL0 : sPa s a b = PL at hq2 hq3 hpa
  replace hPL0 : sPa s a b = PL ∧ True := ⟨hPL0, trivial⟩
  have loop : ∀ (k i : Nat), i + k = PL.length → zV G yX1_gainTo cX1_gainTo 7 (some .int) 4 22 [(0, .ref r), (2, .int (sGn ρ (ρ 1 u) (PL.take i) 0)), (3, .ref sq), (4, .int (nI PL.length)), (5, .int (nI i))] [] (f, m) (zD (some (.int (sGain ρ s (ρ 1 u) a b))) (fun f' m' => LNok f' m' la M ∧ zFr zT9 f0 f')) := by
    intro k
    induction k with
    | zero =>
      intro i hi 
      have hi : i = PL.length := by omega
      subst hi
      refine v_iload dX1_gainTo_22 rfl ?_
      refine v_iload dX1_gainTo_24 rfl ?_
      refine v_icmp_ge 62 dX1_gainTo_26 (by decide) (fun b26 => ?_) (fun b26 => ?_)
      · refine v_iload_n dX1_gainTo_62 rfl rfl ?_
        exact v_ireturn dX1_gainTo_63 rfl ⟨by rw [List.take_length, ← hPL0.1]; rfl, hL, hf9⟩
      · exact absurd (nI_le (by omega) (by omega)) b26
    | succ k ih =>
      intro i hi 
      have h9 : i < PL.length := by omega
      have hq9 : PL.getD i 0 < 144 := hpa.2.2 _ (by rw [List.getD, List.getElem?_eq_getElem h9]; exact List.getElem_mem h9)
      refine v_iload dX1_gainTo_22 rfl ?_
      refine v_iload dX1_gainTo_24 rfl ?_
      refine v_icmp_ge 62 dX1_gainTo_26 (by decide) (fun b26 => ?_) (fun b26 => ?_)
      · exact absurd b26 (nI_ge h9 (by omega))
      · refine v_aload_n dX1_gainTo_29 rfl rfl ?_
        refine v_iload dX1_gainTo_30 rfl ?_
        refine v_iaload dX1_gainTo_32 (by assumption) (vp_in_nI h9 (by omega)) ?_
        rw [nI_clamp (by omega), hq3 i h9]
        refine v_istore dX1_gainTo_33 (by decide) ?_
        refine v_iload_n dX1_gainTo_35 rfl rfl ?_
        refine v_aload_n dX1_gainTo_36 rfl rfl ?_
        refine v_iload dX1_gainTo_37 rfl ?_
        refine v_callVp kX1_111 gi_X1_lackOf ge_X1_lackOf rfl dX1_gainTo_39 (by assumption) (c_lackOf hr hq9) rfl rfl (by decide) (Nat.le_of_ble_eq_true rfl) ?_
        refine v_aload_n dX1_gainTo_42 rfl rfl ?_
        refine v_getfield fX1_18 dX1_gainTo_43 (by assumption) (by rfl) ?_
        refine v_aload_n dX1_gainTo_46 rfl rfl ?_
        refine v_getfield fX1_56 dX1_gainTo_47 (by assumption) (by rfl) ?_
        rw [hnow]
        refine v_iaload dX1_gainTo_50 (by assumption) (vp_in_nI hu (by omega)) ?_
        rw [nI_clamp (by omega), e1 u hu]
        refine v_callSp kX1_117 gs_X1_relief dX1_gainTo_51 c_relief rfl rfl (by decide) (Nat.le_of_ble_eq_true rfl) ?_
        refine v_iadd dX1_gainTo_54 ?_
        refine v_istore_n dX1_gainTo_55 rfl (by decide) ?_
        refine v_iincN dX1_gainTo_56 rfl (by decide) ?_
        refine v_goto 22 dX1_gainTo_59 (by decide) ?_
        exact v_loc (lv' := [(0, .ref r), (2, .int (sGn ρ (ρ 1 u) (PL.take (i + 1)) 0)), (3, .ref sq), (4, .int (nI PL.length)), (5, .int (nI (i + 1)))]) ⟨rfl, zlkE rfl (by rw [take_succ_getD _ _ h9, sGn_snoc]), rfl, rfl, rfl, trivial⟩ (ih (i + 1) (by omega))
  refine v_getfield fX1_114 dX1_gainTo_11 (by assumption) (by rfl) ?_
  refine v_astore_n dX1_gainTo_14 rfl (by decide) ?_
  refine v_aload_n dX1_gainTo_15 rfl rfl ?_
  refine v_alen dX1_gainTo_16 (by assumption) (by decide) ?_
  refine v_istore dX1_gainTo_17 (by decide) ?_
  refine v_iconst (0) dX1_gainTo_19 (by decide) ?_
  refine v_istore dX1_gainTo_20 (by decide) ?_
  exact v_loc (lv' := [(0, .ref r), (2, .int (sGn ρ (ρ 1 u) (PL.take 0) 0)), (3, .ref sq), (4, .int (nI PL.length)), (5, .int (nI 0))]) ⟨rfl, rfl, rfl, rfl, rfl, trivial⟩ (loop PL.length 0 (by omega))
