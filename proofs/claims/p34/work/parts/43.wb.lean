def sWBs (N s : Nat) (ρ : zRS) (n : Nat) (xs tm : Nat → Int32) : Option zST :=
  if sBest ρ N s tm (zn (ρ 0 1)) (zn (ρ 0 2)) = -1 ∨ 200 ≤ n ∨ sGain ρ s (ρ 1 (zn (ρ 0 2))) (zn (ρ 0 1)) (zn (sBest ρ N s tm (zn (ρ 0 1)) (zn (ρ 0 2)))) ≤ 0 then none
  else some (sWBn ρ s n xs tm (zn (ρ 0 1)) (zn (sBest ρ N s tm (zn (ρ 0 1)) (zn (ρ 0 2)))) (zn (ρ 0 2)))
/-- winding the best chord again and again -/
def sWB (N s : Nat) : Nat → zST → zST × Nat
  | 0, S => (S, 0)
  | j + 1, S => match sWBs N s S.1 S.2.1 S.2.2.1 S.2.2.2 with
    | none => (S, 0)
    | some S' => ((sWB N s j S').1, (sWB N s j S').2 + 1)
theorem sWB_no {N s j n : Nat} {ρ : zRS} {xs tm : Nat → Int32} (h : sWBs N s ρ n xs tm = none) : sWB N s (j + 1) (ρ, n, xs, tm) = ((ρ, n, xs, tm), 0) := by
  show (match sWBs N s ρ n xs tm with
    | none => ((ρ, n, xs, tm), 0)
    | some S' => ((sWB N s j S').1, (sWB N s j S').2 + 1)) = _
  rw [h]
theorem sWB_so {N s j n : Nat} {ρ : zRS} {xs tm : Nat → Int32} {S' : zST} (h : sWBs N s ρ n xs tm = some S') : sWB N s (j + 1) (ρ, n, xs, tm) = ((sWB N s j S').1, (sWB N s j S').2 + 1) := by
  show (match sWBs N s ρ n xs tm with
    | none => ((ρ, n, xs, tm), 0)
    | some S' => ((sWB N s j S').1, (sWB N s j S').2 + 1)) = _
  rw [h]
theorem sWBs_1 {N s n a u : Nat} {ρ : zRS} {xs tm : Nat → Int32} (ha : zn (ρ 0 1) = a) (hu : zn (ρ 0 2) = u) (h : sBest ρ N s tm a u = -1) : sWBs N s ρ n xs tm = none := by
  unfold sWBs
  rw [ha, hu]
  exact if_pos (Or.inl h)
theorem sWBs_2 {N s n : Nat} {ρ : zRS} {xs tm : Nat → Int32} (h : 200 ≤ n) : sWBs N s ρ n xs tm = none := if_pos (Or.inr (Or.inl h))
theorem sWBs_3 {N s n a u b : Nat} {ρ : zRS} {xs tm : Nat → Int32} (ha : zn (ρ 0 1) = a) (hu : zn (ρ 0 2) = u) (h : sBest ρ N s tm a u = nI b) (hb : b < 24) (hg : sGain ρ s (ρ 1 u) a b ≤ 0) : sWBs N s ρ n xs tm = none := by
  unfold sWBs
  rw [ha, hu, h, zn_nI (by omega)]
  exact if_pos (Or.inr (Or.inr hg))
theorem sWBs_4 {N s n a u b : Nat} {ρ : zRS} {xs tm : Nat → Int32} (ha : zn (ρ 0 1) = a) (hu : zn (ρ 0 2) = u) (h : sBest ρ N s tm a u = nI b) (hb : b < 24) (hn : n < 200) (hg : ¬ sGain ρ s (ρ 1 u) a b ≤ 0) : sWBs N s ρ n xs tm = some (sWBn ρ s n xs tm a b u) := by
  unfold sWBs
  rw [ha, hu, h, zn_nI (by omega)]
  exact if_neg (fun z => z.elim (nI_m1 (by omega)) (fun z => z.elim (fun z => by omega) hg))
set_option maxRecDepth 10000 in
set_option maxHeartbeats 1000000 in
theorem c_windBest {G : zW} {f : zHM} {m : Nat × Nat} {o r tr sc tx sl sv k la n : Nat} {A : Nat → Nat} {ρ : zRS} {xs tm : Nat → Int32} (ho : f o = some (600, .inr (3, zOb r tr sc tx sl sv k))) (hr : RPic f 0 r la A ρ n xs tm) (hn201 : n ≤ 201) {M : Nat × Nat} (hL : LNok f m la M) {gv : Nat → Option Nat} {π : Nat → Nat} {st : Nat → zST} (hs : SVP f sv la gv π k st) (hB : M.1 + 11 * zcn gv 6 ≤ 50000 ∧ M.2 + 1339 * zcn gv 6 ≤ 399990) {N s : Nat} (hw : RW ρ N s n) {a u : Nat} (ha : a < N) (hu : u < 3) (hat : ρ 0 1 = nI a) (hnow : ρ 0 2 = nI u) {w : Nat} (hw1 : 1 ≤ w) (hw50 : w ≤ 50) : zM G yX3_windBest cX3_windBest 4 (some .int) 7 [.ref o, .int (nI w)] (f, m) (zD (some (.int (nI (sWB N s w (ρ, n, xs, tm)).2))) (ZP f o r tr sc tx sl sv k la A gv st M (ρ, n, xs, tm) (sWB N s w (ρ, n, xs, tm)).1)) := by
  refine zM.of (by decide) (Nat.le_of_ble_eq_true rfl) ?_
  have r0 := hr.1
  refine v_iload_n dX3_windBest_0 rfl rfl ?_
  refine v_iconst (1) dX3_windBest_1 (by decide) ?_
  refine v_bipush (50) dX3_windBest_2 (by decide) ?_
  refine v_callS0p kX3_72 gs_X3_needRange dX3_windBest_4 (c_needRange (by rw [show (1 : Int32) = nI 1 from rfl, nI_ltI (by omega) (by omega)]; omega) (by rw [show (50 : Int32) = nI 50 from rfl, nI_leI (by omega) (by omega)]; exact hw50)) rfl rfl (by decide) (Nat.le_of_ble_eq_true rfl) ?_
  refine v_aload_n dX3_windBest_7 rfl rfl ?_
  refine v_callV0 kX3_52 gi_X3_save ge_X3_save rfl dX3_windBest_8 (by assumption) (c_save ho hr hn201 hL hs hB) rfl rfl (by decide) (Nat.le_of_ble_eq_true rfl) (fun f1 m1 hc => ?_)
  obtain ⟨gv1, π1, M1, hs1, hL1, hB1, hB2, ho1, hf1⟩ := hc
  have hr1 := hr.fr hf1 (fun k hk h => by rcases h with h | h | h <;> omega)
  obtain ⟨r0, ⟨g1, a1, e1⟩, ⟨g2, a2, e2⟩, ⟨g3, a3, e3⟩, ⟨g4, a4, e4⟩, ⟨g5, a5, e5⟩, ⟨g6, a6, e6⟩, ⟨g7, a7, e7⟩, ⟨g8, a8, e8⟩, ⟨g9, a9, e9⟩, ⟨g10, a10, e10⟩⟩ := id hr1
  obtain ⟨S0, hS0⟩ : ∃ S0 : zST, (ρ, n, xs, tm) = S0 := ⟨_, rfl⟩
  have hs1 : SVP f1 sv la gv1 π1 (sPK k) (sPS k st S0) := by rw [← hS0]; exact hs1
  have loop : ∀ (j i : Nat), i + j = w → ∀ (ρ : zRS) (n : Nat) (xs tm : Nat → Int32) (f2 : zHM) (m2 : Nat × Nat) (a u : Nat), RPic f2 0 r la A ρ n xs tm → RW ρ N s n → a < N → u < 3 → ρ 0 1 = nI a → ρ 0 2 = nI u → LNok f2 m2 la M1 → f2 o = some (600, .inr (3, zOb r tr sc tx sl sv (sPK k))) → zFr (zTR 0) f1 f2 → zV G yX3_windBest cX3_windBest 4 (some .int) 7 13 [(0, .ref o), (1, .int (nI w)), (2, .int (nI i))] [] (f2, m2) (zD (some (.int (nI (i + (sWB N s j (ρ, n, xs, tm)).2)))) (ZP f o r tr sc tx sl sv k la A gv st M S0 (sWB N s j (ρ, n, xs, tm)).1)) := by
    intro j
    induction j with
    | zero =>
      intro i hi ρ n xs tm f2 m2 a u hr hw ha hu hat hnow hL2 ho2 hff
      have hi : i = w := by omega
      subst hi
      refine v_iload_n dX3_windBest_13 rfl rfl ?_
      refine v_iload_n dX3_windBest_14 rfl rfl ?_
      refine v_icmp_ge 84 dX3_windBest_15 (by decide) (fun _ => ?_) (fun b15 => absurd (by rw [nI_leI (by omega) (by omega)]; omega) b15)
      refine v_iload_n dX3_windBest_84 rfl rfl ?_
      exact v_ireturn dX3_windBest_85 rfl ⟨rfl, ZP.of hs1 hL2 hB1 hB2 ho1 hf1 hff hr⟩
    | succ j ih =>
      intro i hi ρ n xs tm f2 m2 a u hr hw ha hu hat hnow hL2 ho2 hff
      have hv := hw.1
      have hv9 := hv.pos
      have r0 := hr.1
      have hza : zn (ρ 0 1) = a := by rw [hat, zn_nI (by omega)]
      have hzu : zn (ρ 0 2) = u := by rw [hnow, zn_nI (by omega)]
      have hn201 := hw.2.1
      refine v_iload_n dX3_windBest_13 rfl rfl ?_
      refine v_iload_n dX3_windBest_14 rfl rfl ?_
      refine v_icmp_ge 84 dX3_windBest_15 (by decide) (fun b15 => absurd b15 (by rw [nI_leI (by omega) (by omega)]; omega)) (fun _ => ?_)
      refine v_aload_n dX3_windBest_18 rfl rfl ?_
      refine v_getfield fX3_34 dX3_windBest_19 ho2 (by rfl) ?_
      refine v_callV1 kX3_132 gi_X1_bestNail ge_X1_bestNail rfl dX3_windBest_22 r0 (c_bestNail hr (by omega) hv hL2 ha hu hat hnow) rfl rfl (by decide) (Nat.le_of_ble_eq_true rfl) (fun f3 m3 hc => ?_)
      obtain ⟨hL3, hf3⟩ := hc
      have ho3 := hf3 _ _ _ ho2 (by omega)
      have hr3 := hr.fr hf3 (fun k hk h => by omega)
      have hff3 : zFr (zTR 0) f1 f3 := hff.trans (hf3.weaken (fun τ h => Or.inl h))
      rcases sBest_in ρ N s tm a u with hx | ⟨b, hb, hx, hab⟩
      · have hno := sWB_no (j := j) (sWBs_1 (n := n) (xs := xs) hza hzu hx)
        rw [hno, hx]
        clear hx hno
        refine v_istore_n dX3_windBest_25 rfl (by decide) ?_
        refine v_iload_n dX3_windBest_26 rfl rfl ?_
        refine v_iconst (-1) dX3_windBest_27 (by decide) ?_
        refine v_icmp_eq 55 dX3_windBest_28 (by decide) (fun _ => ?_) (fun z => absurd rfl z)
        refine v_iload_n dX3_windBest_55 rfl rfl ?_
        exact v_ireturn dX3_windBest_56 rfl ⟨rfl, ZP.of hs1 hL3 hB1 hB2 ho1 hf1 hff3 hr3⟩
      rw [hx]
      refine v_istore_n dX3_windBest_25 rfl (by decide) ?_
      refine v_iload_n dX3_windBest_26 rfl rfl ?_
      refine v_iconst (-1) dX3_windBest_27 (by decide) ?_
      refine v_icmp_eq 55 dX3_windBest_28 (by decide) (fun z => absurd z (nI_m1 (by omega))) (fun _ => ?_)
      refine v_aload_n dX3_windBest_31 rfl rfl ?_
      refine v_getfield fX3_34 dX3_windBest_32 ho3 (by rfl) ?_
      refine v_getfield fX3_110 dX3_windBest_35 hr3.1 (by rfl) ?_
      refine v_sipush (nI 200) dX3_windBest_38 (by decide) ?_
      refine v_icmp_ge 55 dX3_windBest_41 (by decide) (fun hge => ?_) (fun hlt => ?_)
      · rw [nI_leI (by omega) (by omega)] at hge
        rw [sWB_no (j := j) (sWBs_2 (N := N) (s := s) (ρ := ρ) (xs := xs) (tm := tm) hge)]
        refine v_iload_n dX3_windBest_55 rfl rfl ?_
        exact v_ireturn dX3_windBest_56 rfl ⟨rfl, ZP.of hs1 hL3 hB1 hB2 ho1 hf1 hff3 hr3⟩
      rw [nI_leI (by omega) (by omega)] at hlt
      refine v_aload_n dX3_windBest_44 rfl rfl ?_
      refine v_getfield fX3_34 dX3_windBest_45 ho3 (by rfl) ?_
      refine v_iload_n dX3_windBest_48 rfl rfl ?_
      refine v_callV1 kX3_136 gi_X1_gainTo ge_X1_gainTo rfl dX3_windBest_49 hr3.1 (c_gainTo hr3 (by omega) hv hL3 ha hb hab hu hat hnow) rfl rfl (by decide) (Nat.le_of_ble_eq_true rfl) (fun f4 m4 hc => ?_)
      obtain ⟨hL4, hf4⟩ := hc
      have ho4 := hf4 _ _ _ ho3 (by omega)
      have hr4 := hr3.fr hf4 (fun k hk h => by omega)
      have hff4 : zFr (zTR 0) f1 f4 := hff3.trans (hf4.weaken (fun τ h => Or.inl h))
      have hq1 := fun g => sWB_no (j := j) (sWBs_3 (n := n) (xs := xs) hza hzu hx (by omega) g)
      have hq2 := fun g => sWB_so (j := j) (sWBs_4 (n := n) (xs := xs) hza hzu hx (by omega) (by omega) g)
      clear hx
      generalize sGain ρ s (ρ 1 u) a b = y at hq1 hq2 ⊢
      refine v_if_gt 57 dX3_windBest_52 (by decide) (fun hgt => ?_) (fun hle => ?_)
      rotate_left
      · rw [hq1 (Int32.not_lt.mp hle)]
        refine v_iload_n dX3_windBest_55 rfl rfl ?_
        exact v_ireturn dX3_windBest_56 rfl ⟨rfl, ZP.of hs1 hL4 hB1 hB2 ho1 hf1 hff4 hr4⟩
      rw [hq2 (Int32.not_le.mpr hgt)]
      clear hq1 hq2
      refine v_aload_n dX3_windBest_57 rfl rfl ?_
      refine v_getfield fX3_34 dX3_windBest_58 ho4 (by rfl) ?_
      refine v_iload_n dX3_windBest_61 rfl rfl ?_
      refine v_callV0 kX3_118 gi_X1_lay ge_X1_lay rfl dX3_windBest_62 hr4.1 (c_lay hr4 (by omega) (by omega) hv hL4 ha hb hab hu hat hnow) rfl rfl (by decide) (Nat.le_of_ble_eq_true rfl) (fun f5 m5 hc => ?_)
      obtain ⟨hr5, hL5, hf5⟩ := hc
      have hw5 : RW (sLay ρ s n a b u) N s (n + 1) := hw.lay (by omega) ha hb hab hu
      have hat5 : sLay ρ s n a b u 0 1 = nI b := rfl
      have hnow5 : sLay ρ s n a b u 0 2 = nI u := hnow
      unfold sWBn
      generalize sLay ρ s n a b u = ρ2 at hr5 hw5 hat5 hnow5 ⊢
      generalize sInL (sPa s a b) 1 xs = xs2 at hr5 ⊢
      generalize sPutT tm (sPr (a * s) (b * s)) 1 = tm2 at hr5 ⊢
      have ho5 := hf5 _ _ _ ho4 (fun h => by rcases h with h | h <;> omega)
      refine v_aload_n dX3_windBest_65 rfl rfl ?_
      refine v_getfield fX3_34 dX3_windBest_66 ho5 (by rfl) ?_
      refine v_dup dX3_windBest_69 rfl ?_
      refine v_getfield fX3_121 dX3_windBest_70 hr5.1 (by rfl) ?_
      refine v_iconst (1) dX3_windBest_73 (by decide) ?_
      refine v_iadd dX3_windBest_74 ?_
      refine v_putfieldX fX3_121 dX3_windBest_75 hr5.1 rfl rfl (Nat.le_of_ble_eq_true rfl) (fun f6 hp => ?_)
      have hf6 : zFr (fun τ => τ = 0) f5 f6 := zFr.put (T := fun τ => τ = 0) zFr.refl hp rfl
      have hr6 : RPic f6 0 r la A (sInc ρ2 3) (n + 1) xs2 tm2 := hr5.sc (fun i => if i = 3 then ρ2 0 3 + 1 else ρ2 0 i) hp.1 hf6
      have hff6 : zFr (zTR 0) f1 f6 := (hff4.trans hf5).trans (hf6.weaken (fun τ h => Or.inr (by omega)))
      have ho6 := hf6 _ _ _ ho5 (by omega)
      refine v_iincN dX3_windBest_78 rfl (by decide) ?_
      refine v_goto 13 dX3_windBest_81 (by decide) ?_
      have hih := ih (i + 1) (by omega) (sInc ρ2 3) (n + 1) xs2 tm2 f6 m5 b u hr6 (hw5.sc _ rfl) hb hu hat5 hnow5 (hL5.fr hf6 (fun t ht => by omega)) ho6 hff6
      rw [show i + 1 + (sWB N s j (sInc ρ2 3, n + 1, xs2, tm2)).2 = i + ((sWB N s j (sInc ρ2 3, n + 1, xs2, tm2)).2 + 1) from by omega] at hih
      exact v_loc (lv' := [(0, .ref o), (1, .int (nI w)), (2, .int (nI (i + 1)))]) ⟨rfl, rfl, rfl, trivial⟩ hih
  refine v_iconst (nI 0) dX3_windBest_11 (by decide) ?_
  refine v_istore_n dX3_windBest_12 rfl (by decide) ?_
  have h9 := loop w 0 (by omega) ρ n xs tm f1 m1 a u hr1 hw ha hu hat hnow hL1 ho1 zFr.refl
  rw [Nat.zero_add, ← hS0] at h9
  exact v_loc (lv' := [(0, .ref o), (1, .int (nI w)), (2, .int (nI 0))]) ⟨rfl, rfl, rfl, trivial⟩ h9
