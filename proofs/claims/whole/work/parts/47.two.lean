/-- the best two: (100 * the first nail + the second or -1, what both would gain) -/
def sTwo (ρ : zRS) (n N s : Nat) (tm : Nat → Int32) (a u : Nat) : Nat → Int32 × Int32
  | 0 => (-1, 0)
  | i + 1 => if sRef N s (ρ 3 0) (ρ 3 1) (ρ 2 u) tm a i = 0 then
      if sMost (sLay ρ s n a i u) N s (sPutT tm (sPr (a * s) (i * s)) 1) i u = -1 then sTwo ρ n N s tm a u i
      else if (sTwo ρ n N s tm a u i).1 = -1 ∨ ¬ sGain ρ s (ρ 1 u) a i + sGain (sLay ρ s n a i u) s (ρ 1 u) i (zn (sMost (sLay ρ s n a i u) N s (sPutT tm (sPr (a * s) (i * s)) 1) i u)) ≤ (sTwo ρ n N s tm a u i).2 then (100 * nI i + sMost (sLay ρ s n a i u) N s (sPutT tm (sPr (a * s) (i * s)) 1) i u, sGain ρ s (ρ 1 u) a i + sGain (sLay ρ s n a i u) s (ρ 1 u) i (zn (sMost (sLay ρ s n a i u) N s (sPutT tm (sPr (a * s) (i * s)) 1) i u)))
      else sTwo ρ n N s tm a u i
    else sTwo ρ n N s tm a u i
theorem sTwo_s (ρ : zRS) (n N s : Nat) (tm : Nat → Int32) (a u i : Nat) : sTwo ρ n N s tm a u (i + 1) = if sRef N s (ρ 3 0) (ρ 3 1) (ρ 2 u) tm a i = 0 then
      if sMost (sLay ρ s n a i u) N s (sPutT tm (sPr (a * s) (i * s)) 1) i u = -1 then sTwo ρ n N s tm a u i
      else if (sTwo ρ n N s tm a u i).1 = -1 ∨ ¬ sGain ρ s (ρ 1 u) a i + sGain (sLay ρ s n a i u) s (ρ 1 u) i (zn (sMost (sLay ρ s n a i u) N s (sPutT tm (sPr (a * s) (i * s)) 1) i u)) ≤ (sTwo ρ n N s tm a u i).2 then (100 * nI i + sMost (sLay ρ s n a i u) N s (sPutT tm (sPr (a * s) (i * s)) 1) i u, sGain ρ s (ρ 1 u) a i + sGain (sLay ρ s n a i u) s (ρ 1 u) i (zn (sMost (sLay ρ s n a i u) N s (sPutT tm (sPr (a * s) (i * s)) 1) i u)))
      else sTwo ρ n N s tm a u i
    else sTwo ρ n N s tm a u i := rfl
set_option maxRecDepth 10000 in
set_option maxHeartbeats 1000000 in
theorem c_bestTwo {G : zW} {f : zHM} {m : Nat × Nat} {o r tr sc tx sl sv k la n : Nat} {A : Nat → Nat} {ρ : zRS} {xs tm : Nat → Int32} (ho : f o = some (600, .inr (3, zOb r tr sc tx sl sv k))) (hr : RPic f 0 r la A ρ n xs tm) (hn200 : n ≤ 200) {M : Nat × Nat} (hL : LNok f m la M) (hT : RAny f 20 tr la) {N s : Nat} (hw : RW ρ N s n) {a u : Nat} (ha : a < N) (hu : u < 3) (hat : ρ 0 1 = nI a) (hnow : ρ 0 2 = nI u) : zM G yX3_bestTwo cX3_bestTwo 6 (some .int) 7 [.ref o] (f, m) (zD (some (.int (sTwo ρ n N s tm a u N).1)) (fun f' m' => LNok f' m' la M ∧ RAny f' 20 tr la ∧ zFr zTB f f')) := by
  refine zM.of (by decide) (Nat.le_of_ble_eq_true rfl) ?_
  have r0 := hr.1
  have hv := hw.1
  have hv9 := hv.pos
  obtain ⟨At, ρt, nt, xst, tmt, ht⟩ := hT
  refine v_aload_n dX3_bestTwo_0 rfl rfl ?_
  refine v_getfield fX3_38 dX3_bestTwo_1 ho (by rfl) ?_
  refine v_aload_n dX3_bestTwo_4 rfl rfl ?_
  refine v_getfield fX3_34 dX3_bestTwo_5 ho (by rfl) ?_
  refine v_callV0 kX3_183 gi_X1_copyFrom ge_X1_copyFrom rfl dX3_bestTwo_8 ht.1 (c_copyFrom ht hr (Or.inl (by omega)) (by omega)) rfl rfl (by decide) (Nat.le_of_ble_eq_true rfl) (fun f1 m1 hc => ?_)
  obtain ⟨ht1, hf1f, rfl⟩ := hc
  have hf1 : zFr zTB f f1 := hf1f.weaken (fun τ h => Or.inr h)
  have loop : ∀ (kk i : Nat), i + kk = N → ∀ (f2 : zHM) (m2 : Nat × Nat), RPic f2 20 tr la At ρ n xs tm → LNok f2 m2 la M → zFr zTB f f2 → zV G yX3_bestTwo cX3_bestTwo 6 (some .int) 7 17 [(0, .ref o), (1, .int (sTwo ρ n N s tm a u i).1), (2, .int (sTwo ρ n N s tm a u i).2), (3, .int (nI i))] [] (f2, m2) (zD (some (.int (sTwo ρ n N s tm a u N).1)) (fun f' m' => LNok f' m' la M ∧ RAny f' 20 tr la ∧ zFr zTB f f')) := by
    intro kk
    induction kk with
    | zero =>
      intro i hi f2 m2 h2 hL2 hf2
      have hi : i = N := by omega
      subst hi
      have ho2 := hf2 _ _ _ ho (fun h => by rcases h with h | h <;> omega)
      have r02 := hf2 _ _ _ r0 (fun h => by rcases h with h | h <;> omega)
      refine v_iload_n dX3_bestTwo_17 rfl rfl ?_
      refine v_aload_n dX3_bestTwo_18 rfl rfl ?_
      refine v_getfield fX3_34 dX3_bestTwo_19 ho2 (by rfl) ?_
      refine v_getfield fX3_55 dX3_bestTwo_22 r02 (by rfl) ?_
      rw [hv.1]
      refine v_icmp_ge 117 dX3_bestTwo_25 (by decide) (fun _ => ?_) (fun b => absurd (by rw [nI_leI (by omega) (by omega)]; omega) b)
      refine v_iload_n dX3_bestTwo_117 rfl rfl ?_
      exact v_ireturn dX3_bestTwo_118 rfl ⟨rfl, hL2, ⟨_, _, _, _, _, h2⟩, hf2⟩
    | succ kk ih =>
      intro i hi f2 m2 h2 hL2 hf2
      have h9 : i < N := by omega
      have ho2 := hf2 _ _ _ ho (fun h => by rcases h with h | h <;> omega)
      have hr2 := hr.fr hf2 (fun k hk h => by rcases h with h | h <;> omega)
      refine v_iload_n dX3_bestTwo_17 rfl rfl ?_
      refine v_aload_n dX3_bestTwo_18 rfl rfl ?_
      refine v_getfield fX3_34 dX3_bestTwo_19 ho2 (by rfl) ?_
      refine v_getfield fX3_55 dX3_bestTwo_22 hr2.1 (by rfl) ?_
      rw [hv.1]
      refine v_icmp_ge 117 dX3_bestTwo_25 (by decide) (fun b => absurd b (by rw [nI_leI (by omega) (by omega)]; omega)) (fun _ => ?_)
      refine v_aload_n dX3_bestTwo_28 rfl rfl ?_
      refine v_getfield fX3_34 dX3_bestTwo_29 ho2 (by rfl) ?_
      refine v_iload_n dX3_bestTwo_32 rfl rfl ?_
      refine v_callV1 kX3_115 gi_X1_refusal ge_X1_refusal rfl dX3_bestTwo_33 hr2.1 (c_refusal hr2 (by omega) hv hL2 ha h9 hu hat hnow) rfl rfl (by decide) (Nat.le_of_ble_eq_true rfl) (fun f3 m3 hc => ?_)
      obtain ⟨hL3, hz3⟩ := hc
      have hf3 : zFr zTB f f3 := hf2.trans (hz3.weaken (fun τ h => Or.inl h))
      have ho3 := hf3 _ _ _ ho (fun h => by rcases h with h | h <;> omega)
      have h3 := h2.fr hz3 (fun k hk h => by omega)
      have hstep := sTwo_s ρ n N s tm a u i
      have hih := ih (i + 1) (by omega)
      by_cases hrf : sRef N s (ρ 3 0) (ρ 3 1) (ρ 2 u) tm a i = 0
      rotate_left
      · rw [if_neg hrf] at hstep
        rw [hstep] at hih
        clear hstep
        generalize sRef N s (ρ 3 0) (ρ 3 1) (ρ 2 u) tm a i = x at hrf ⊢
        refine v_if_ne 111 dX3_bestTwo_36 (by decide) (fun _ => ?_) (fun z => absurd z hrf)
        refine v_iincN dX3_bestTwo_111 rfl (by decide) ?_
        refine v_goto 17 dX3_bestTwo_114 (by decide) ?_
        exact v_loc (lv' := [(0, .ref o), (1, .int (sTwo ρ n N s tm a u i).1), (2, .int (sTwo ρ n N s tm a u i).2), (3, .int (nI (i + 1)))]) ⟨rfl, rfl, rfl, rfl, trivial⟩ (hih f3 m3 h3 hL3 hf3)
      rw [if_pos hrf] at hstep
      have hai : a ≠ i := fun e => sRef_self _ _ _ _ _ _ _ (e ▸ hrf)
      rw [hrf]
      clear hrf
      refine v_if_ne 111 dX3_bestTwo_36 (by decide) (fun z => absurd rfl z) (fun _ => ?_)
      refine v_aload_n dX3_bestTwo_39 rfl rfl ?_
      refine v_getfield fX3_38 dX3_bestTwo_40 ho3 (by rfl) ?_
      refine v_iload_n dX3_bestTwo_43 rfl rfl ?_
      refine v_callV0 kX3_118 gi_X1_lay ge_X1_lay rfl dX3_bestTwo_44 h3.1 (c_lay h3 (by omega) hn200 hv hL3 ha h9 hai hu hat hnow) rfl rfl (by decide) (Nat.le_of_ble_eq_true rfl) (fun f4 m4 hc => ?_)
      obtain ⟨h4, hL4, hz4⟩ := hc
      have hf4 : zFr zTB f f4 := hf3.trans hz4
      have ho4 := hf4 _ _ _ ho (fun h => by rcases h with h | h <;> omega)
      have hw4 : RW (sLay ρ s n a i u) N s (n + 1) := hw.lay hn200 ha h9 hai hu
      have hat4 : sLay ρ s n a i u 0 1 = nI i := rfl
      have hnow4 : sLay ρ s n a i u 0 2 = nI u := hnow
      have hsh4 : sLay ρ s n a i u 1 u = ρ 1 u := rfl
      have tail : ∀ (pq : Int32 × Int32) (f5 : zHM) (m5 : Nat × Nat), RPic f5 20 tr la At (sLay ρ s n a i u) (n + 1) (sInL (sPa s a i) 1 xs) (sPutT tm (sPr (a * s) (i * s)) 1) → LNok f5 m5 la M → zFr zTB f f5 → sTwo ρ n N s tm a u (i + 1) = pq → zV G yX3_bestTwo cX3_bestTwo 6 (some .int) 7 104 [(0, .ref o), (1, .int pq.1), (2, .int pq.2), (3, .int (nI i))] [] (f5, m5) (zD (some (.int (sTwo ρ n N s tm a u N).1)) (fun f' m' => LNok f' m' la M ∧ RAny f' 20 tr la ∧ zFr zTB f f')) := by
        intro pq f5 m5 h5 hL5 hf5 he
        rw [he] at hih
        have ho5 := hf5 _ _ _ ho (fun h => by rcases h with h | h <;> omega)
        refine v_aload_n dX3_bestTwo_104 rfl rfl ?_
        refine v_getfield fX3_38 dX3_bestTwo_105 ho5 (by rfl) ?_
        refine v_callV0 kX3_129 gi_X1_takeOff ge_X1_takeOff rfl dX3_bestTwo_108 h5.1 (c_takeOff h5 (by omega) (by omega) hw4.1 hL5 ha h9 hai hu (if_pos rfl) (if_pos rfl) (if_pos rfl)) rfl rfl (by decide) (Nat.le_of_ble_eq_true rfl) (fun f6 m6 hc => ?_)
        obtain ⟨h6, hL6, hz6⟩ := hc
        have h6 := RPic.back hat hnow h6
        refine v_iincN dX3_bestTwo_111 rfl (by decide) ?_
        refine v_goto 17 dX3_bestTwo_114 (by decide) ?_
        exact v_loc (lv' := [(0, .ref o), (1, .int pq.1), (2, .int pq.2), (3, .int (nI (i + 1)))]) ⟨rfl, rfl, rfl, rfl, trivial⟩ (hih f6 m6 h6 hL6 (hf5.trans hz6))
      clear hih
      generalize sLay ρ s n a i u = ρ2 at h4 hw4 hat4 hnow4 hsh4 tail hstep
      generalize sInL (sPa s a i) 1 xs = xs2 at h4 tail
      generalize sPutT tm (sPr (a * s) (i * s)) 1 = tm2 at h4 tail hstep
      refine v_aload_n dX3_bestTwo_47 rfl rfl ?_
      refine v_getfield fX3_38 dX3_bestTwo_48 ho4 (by rfl) ?_
      refine v_callV1 kX3_243 gi_X1_nailOfMostGain ge_X1_nailOfMostGain rfl dX3_bestTwo_51 h4.1 (c_nailOfMostGain h4 (by omega) hw4.1 hL4 h9 hu hat4 hnow4) rfl rfl (by decide) (Nat.le_of_ble_eq_true rfl) (fun f5 m5 hc => ?_)
      obtain ⟨hL5, hz5⟩ := hc
      have hf5 : zFr zTB f f5 := hf4.trans (hz5.weaken (fun τ h => Or.inl h))
      have ho5 := hf5 _ _ _ ho (fun h => by rcases h with h | h <;> omega)
      have h5 := h4.fr hz5 (fun k hk h => by omega)
      rcases sMost_in ρ2 N s tm2 i u with hx | ⟨b, hb, hx, hab, -⟩
      · rw [if_pos hx] at hstep
        rw [hx]
        clear hx
        have htl := tail _ f5 m5 h5 hL5 hf5 hstep
        clear hstep tail
        refine v_istore dX3_bestTwo_54 (by decide) ?_
        refine v_iload dX3_bestTwo_56 rfl ?_
        refine v_iconst (-1) dX3_bestTwo_58 (by decide) ?_
        refine v_icmp_eq 104 dX3_bestTwo_59 (by decide) (fun _ => ?_) (fun z => absurd rfl z)
        exact v_loc (lv' := [(0, .ref o), (1, .int (sTwo ρ n N s tm a u i).1), (2, .int (sTwo ρ n N s tm a u i).2), (3, .int (nI i))]) ⟨rfl, rfl, rfl, rfl, trivial⟩ htl
      rw [hx]
      rw [hx, if_neg (nI_m1 (by omega)), zn_nI (by omega)] at hstep
      clear hx
      refine v_istore dX3_bestTwo_54 (by decide) ?_
      refine v_iload dX3_bestTwo_56 rfl ?_
      refine v_iconst (-1) dX3_bestTwo_58 (by decide) ?_
      refine v_icmp_eq 104 dX3_bestTwo_59 (by decide) (fun z => absurd z (nI_m1 (by omega))) (fun _ => ?_)
      have hr5 := hr.fr hf5 (fun k hk h => by rcases h with h | h <;> omega)
      refine v_aload_n dX3_bestTwo_62 rfl rfl ?_
      refine v_getfield fX3_34 dX3_bestTwo_63 ho5 (by rfl) ?_
      refine v_iload_n dX3_bestTwo_66 rfl rfl ?_
      refine v_callV1 kX3_136 gi_X1_gainTo ge_X1_gainTo rfl dX3_bestTwo_67 hr5.1 (c_gainTo hr5 (by omega) hv hL5 ha h9 hai hu hat hnow) rfl rfl (by decide) (Nat.le_of_ble_eq_true rfl) (fun f6 m6 hc => ?_)
      obtain ⟨hL6, hz6⟩ := hc
      have hf6 : zFr zTB f f6 := hf5.trans (hz6.weaken (fun τ h => Or.inl h))
      have ho6 := hf6 _ _ _ ho (fun h => by rcases h with h | h <;> omega)
      have h6 := h5.fr hz6 (fun k hk h => by omega)
      refine v_aload_n dX3_bestTwo_70 rfl rfl ?_
      refine v_getfield fX3_38 dX3_bestTwo_71 ho6 (by rfl) ?_
      refine v_iload dX3_bestTwo_74 rfl ?_
      refine v_callV1 kX3_136 gi_X1_gainTo ge_X1_gainTo rfl dX3_bestTwo_76 h6.1 (c_gainTo h6 (by omega) hw4.1 hL6 h9 hb hab hu hat4 hnow4) rfl rfl (by decide) (Nat.le_of_ble_eq_true rfl) (fun f7 m7 hc => ?_)
      obtain ⟨hL7, hz7⟩ := hc
      have hf7 : zFr zTB f f7 := hf6.trans (hz7.weaken (fun τ h => Or.inl h))
      have h7 := h6.fr hz7 (fun k hk h => by omega)
      rw [hsh4]
      refine v_iadd dX3_bestTwo_79 ?_
      generalize sGain ρ s (ρ 1 u) a i + sGain ρ2 s (ρ 1 u) i b = y at hstep ⊢
      have htl := fun pq he => tail pq f7 m7 h7 hL7 hf7 he
      clear tail
      rw [hstep] at htl
      clear hstep
      generalize sTwo ρ n N s tm a u i = pq at htl ⊢
      refine v_istore dX3_bestTwo_80 (by decide) ?_
      refine v_iload_n dX3_bestTwo_82 rfl rfl ?_
      refine v_iconst (-1) dX3_bestTwo_83 (by decide) ?_
      have hyes : (pq.1 = -1 ∨ ¬ y ≤ pq.2) → zV G yX3_bestTwo cX3_bestTwo 6 (some .int) 7 93 [(0, .ref o), (1, .int pq.1), (2, .int pq.2), (3, .int (nI i)), (4, .int (nI b)), (5, .int y)] [] (f7, m7) (zD (some (.int (sTwo ρ n N s tm a u N).1)) (fun f' m' => LNok f' m' la M ∧ RAny f' 20 tr la ∧ zFr zTB f f')) := fun hc => by
        have h8 := htl _ (if_pos hc)
        refine v_bipush (100) dX3_bestTwo_93 (by decide) ?_
        refine v_iload_n dX3_bestTwo_95 rfl rfl ?_
        refine v_imul dX3_bestTwo_96 ?_
        refine v_iload dX3_bestTwo_97 rfl ?_
        refine v_iadd dX3_bestTwo_99 ?_
        refine v_istore_n dX3_bestTwo_100 rfl (by decide) ?_
        refine v_iload dX3_bestTwo_101 rfl ?_
        refine v_istore_n dX3_bestTwo_103 rfl (by decide) ?_
        exact v_loc (lv' := [(0, .ref o), (1, .int (100 * nI i + nI b)), (2, .int y), (3, .int (nI i))]) ⟨rfl, rfl, rfl, rfl, trivial⟩ h8
      refine v_icmp_eq 93 dX3_bestTwo_84 (by decide) (fun h => v_loc (lv' := [(0, .ref o), (1, .int pq.1), (2, .int pq.2), (3, .int (nI i)), (4, .int (nI b)), (5, .int y)]) ⟨rfl, rfl, rfl, rfl, rfl, rfl, trivial⟩ (hyes (Or.inl h))) (fun h => ?_)
      refine v_iload dX3_bestTwo_87 rfl ?_
      refine v_iload_n dX3_bestTwo_89 rfl rfl ?_
      refine v_icmp_le 104 dX3_bestTwo_90 (by decide) (fun h2 => ?_) (fun h2 => v_loc (lv' := [(0, .ref o), (1, .int pq.1), (2, .int pq.2), (3, .int (nI i)), (4, .int (nI b)), (5, .int y)]) ⟨rfl, rfl, rfl, rfl, rfl, rfl, trivial⟩ (hyes (Or.inr h2)))
      have h8 := htl _ (if_neg (fun z => z.elim h (fun z => z h2)))
      exact v_loc (lv' := [(0, .ref o), (1, .int pq.1), (2, .int pq.2), (3, .int (nI i))]) ⟨rfl, rfl, rfl, rfl, trivial⟩ h8
  refine v_iconst (-1) dX3_bestTwo_11 (by decide) ?_
  refine v_istore_n dX3_bestTwo_12 rfl (by decide) ?_
  refine v_iconst (0) dX3_bestTwo_13 (by decide) ?_
  refine v_istore_n dX3_bestTwo_14 rfl (by decide) ?_
  refine v_iconst (nI 0) dX3_bestTwo_15 (by decide) ?_
  refine v_istore_n dX3_bestTwo_16 rfl (by decide) ?_
  exact v_loc (lv' := [(0, .ref o), (1, .int (sTwo ρ n N s tm a u 0).1), (2, .int (sTwo ρ n N s tm a u 0).2), (3, .int (nI 0))]) ⟨rfl, rfl, rfl, rfl, trivial⟩ (loop N 0 (by omega) f1 m1 ht1 (hL.fr hf1f (fun t ht h => by have := h.2; omega)) hf1)
