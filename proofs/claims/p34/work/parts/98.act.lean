/-! THE LAW'S ACT. -/
/-- how an act ends: -9 and nothing done, or an answer and a state saved -/
def AQ (x ks : Nat) (st : Nat → zST) (ss : Nat → Option zST) (S : zST) (L : Nat) (ch : Nat → Nat) (J : Nat × Nat) : Option (Int32 × zST) → zOut → zH → Prop
  | none => zD (some (.int (-9))) (CP x ks st ss S L ch J)
  | some q => zD (some (.int q.1)) (CP x (sPK ks) (sPS ks st S) ss q.2 L ch J)
theorem AQ_none {x ks : Nat} {st : Nat → zST} {ss : Nat → Option zST} {S : zST} {L : Nat} {ch : Nat → Nat} {J : Nat × Nat} {R : Option (Int32 × zST)} {f : zHM} {m : Nat × Nat} (e : R = none) (h : CI f m x ks st ss S L ch J) : AQ x ks st ss S L ch J R (.inl (some (.int (-9)))) (f, m) := by
  rw [e]
  exact ⟨rfl, h⟩
theorem AQ_some {x ks : Nat} {st : Nat → zST} {ss : Nat → Option zST} {S S2 : zST} {L : Nat} {ch : Nat → Nat} {J : Nat × Nat} {R : Option (Int32 × zST)} {r : Int32} {f : zHM} {m : Nat × Nat} (e : R = some (r, S2)) (h : CI f m x (sPK ks) (sPS ks st S) ss S2 L ch J) : AQ x ks st ss S L ch J R (.inl (some (.int r))) (f, m) := by
  rw [e]
  exact ⟨rfl, h⟩
theorem ci_nails2 {G : zW} {f : zHM} {m : Nat × Nat} {x ks L : Nat} {st : Nat → zST} {ss : Nat → Option zST} {S : zST} {ch : Nat → Nat} {J : Nat × Nat} (h : CI f m x ks st ss S L ch J) (iv : IVS S) (j1 : J.1 ≤ 50000) (j2 : J.2 ≤ 399990) {t : Nat} (ht : t < 5) {v : Int32} (hv : v = sNx t) : zM G yX3_nails cX3_nails 4 (some .int) 7 [.ref x, .int v] (f, m) (zD (some (.int (S.1 0 0))) (CP x (sPK ks) (sPS ks st S) ss (sNails S (sNx t)) L ch J)) := by
  subst hv
  exact ci_nails h iv j1 j2 (sNx_ok t ht)
theorem sh_ok {t d : Nat} (h : t < d) (hd : d < 1000000) : ¬ 1 + nI t < 1 ∧ 1 + nI t ≤ nI d := by
  rw [one_nI]
  refine ⟨fun z => ?_, nI_le (by omega) (by omega)⟩
  have z : nI (1 + t) < nI 1 := z
  rw [nI_ltI (by omega) (by omega)] at z
  omega
theorem ms_ok : ∀ e, e < 3 → ∀ t, t < 4 → 1 + nI t ≤ zMS.getD e 0 := by decide
theorem k2_ok {ρ : zRS} {u : Nat} (hnow : ρ 0 2 = nI u) (hu : u < 3) (t : Nat) : ρ 0 2 + 1 + nI t = nI (zn (ρ 0 2) + 1 + t) := by
  rw [hnow, zn_nI (by omega), nI_1, nI_add]
theorem k2_ne {ρ : zRS} {u : Nat} (hnow : ρ 0 2 = nI u) (hu : u < 3) {t : Nat} (ht : t < 2) : ¬ nI ((zn (ρ 0 2) + 1 + t) % 3) = ρ 0 2 := fun z => by
  rw [hnow, zn_nI (by omega), nI_eq (by omega) (by omega)] at z
  omega
theorem ci_turn {G : zW} {f : zHM} {m : Nat × Nat} {x ks L : Nat} {st : Nat → zST} {ss : Nat → Option zST} {S : zST} {ch : Nat → Nat} {J : Nat × Nat} (h : CI f m x ks st ss S L ch J) (iv : IVS S) (j1 : J.1 ≤ 50000) (j2 : J.2 ≤ 399990) {t : Nat} (ht : t < 3) : zM G yX3_turnFace cX3_turnFace 5 (some .int) 7 [.ref x, .int (nI t)] (f, m) (zD (some (.int (sMisfit (zset S.1 7 (sTurn t (S.1 7)))))) (CP x (sPK ks) (sPS ks st S) ss ((zset S.1 7 (sTurn t (S.1 7)), S.2.1, S.2.2.1, S.2.2.2)) L ch J)) := by
  rcases (by omega : t = 0 ∨ t = 1 ∨ t = 2) with e | e | e
  · subst e; exact ci_turnFace_0 h iv j1 j2
  · subst e; exact ci_turnFace_1 h iv j1 j2
  · subst e; exact ci_turnFace_2 h iv j1 j2
theorem ci_unw {G : zW} {f : zHM} {m : Nat × Nat} {x ks L : Nat} {st : Nat → zST} {ss : Nat → Option zST} {S : zST} {ch : Nat → Nat} {J : Nat × Nat} (h : CI f m x ks st ss S L ch J) (iv : IVS S) (j1 : J.1 ≤ 50000) (j2 : J.2 ≤ 399990) (hn : ¬ S.2.1 = 0) : zM G yX3_unwind cX3_unwind 1 (some .int) 7 [.ref x] (f, m) (zD (some (.int (S.1 4 (S.2.1 - 1)))) (CP x (sPK ks) (sPS ks st S) ss ((sOff S.1 (zs S) (zn (S.1 4 (S.2.1 - 1))) (zn (S.1 5 (S.2.1 - 1))) (zn (S.1 6 (S.2.1 - 1))), S.2.1 - 1, sInL (sPa (zs S) (zn (S.1 4 (S.2.1 - 1))) (zn (S.1 5 (S.2.1 - 1)))) (-1) S.2.2.1, sPutT S.2.2.2 (sPr (zn (S.1 4 (S.2.1 - 1)) * zs S) (zn (S.1 5 (S.2.1 - 1)) * zs S)) (-1))) L ch J)) := by
  obtain ⟨ρ, n, xs, tm⟩ := S
  obtain ⟨n, rfl⟩ : ∃ j, n = j + 1 := ⟨n - 1, by have hn : ¬ n = 0 := hn; omega⟩
  obtain ⟨a, b, u, ha, hb, hab, hu, q4, q5, q6⟩ := iv.1.2.2 n (show n < n + 1 by omega)
  have hN := iv.1.1.N24
  have q4 : ρ 4 n = nI a := q4
  have q5 : ρ 5 n = nI b := q5
  have q6 : ρ 6 n = nI u := q6
  have z := ci_unwind (G := G) h j1 j2 iv.2.1 iv.1 ha hb hab hu q4 q5 q6
  have e : zM G yX3_unwind cX3_unwind 1 (some .int) 7 [.ref x] (f, m) (zD (some (.int (ρ 4 n))) (CP x (sPK ks) (sPS ks st (ρ, n + 1, xs, tm)) ss (sOff ρ (zs (ρ, n + 1, xs, tm)) (zn (ρ 4 n)) (zn (ρ 5 n)) (zn (ρ 6 n)), n, sInL (sPa (zs (ρ, n + 1, xs, tm)) (zn (ρ 4 n)) (zn (ρ 5 n))) (-1) xs, sPutT tm (sPr (zn (ρ 4 n) * zs (ρ, n + 1, xs, tm)) (zn (ρ 5 n) * zs (ρ, n + 1, xs, tm))) (-1)) L ch J)) := by
    rw [q4, q5, q6, zn_nI (by omega), zn_nI (by omega), zn_nI (by omega)]
    exact z
  exact e
theorem ci_wb2 {G : zW} {f : zHM} {m : Nat × Nat} {x ks L : Nat} {st : Nat → zST} {ss : Nat → Option zST} {S : zST} {ch : Nat → Nat} {J : Nat × Nat} (h : CI f m x ks st ss S L ch J) (iv : IVS S) (j1 : J.1 ≤ 50000) (j2 : J.2 ≤ 399990) {w : Nat} {v : Int32} (hv : v = nI w) (hw1 : 1 ≤ w) (hw50 : w ≤ 50) : zM G yX3_windBest cX3_windBest 4 (some .int) 7 [.ref x, .int v] (f, m) (zD (some (.int (nI (sWB (zN S) (zs S) w S).2))) (CP x (sPK ks) (sPS ks st S) ss ((sWB (zN S) (zs S) w S).1) L ch J)) := by
  subst hv
  obtain ⟨hw, hn2, ⟨a, ha, hat⟩, ⟨u, hu, hnow⟩, -⟩ := id iv
  exact ci_windBest h iv j1 j2 ha hu hat hnow hw1 hw50
theorem ci_cN {G : zW} {f : zHM} {m : Nat × Nat} {x ks L : Nat} {st : Nat → zST} {ss : Nat → Option zST} {S : zST} {ch : Nat → Nat} {J : Nat × Nat} (h : CI f m x ks st ss S L ch J) (iv : IVS S) : zM G yX3_count cX3_count 2 (some .int) 7 [.ref x, .int (nI 0)] (f, m) (zD (some (.int (nI (zN S)))) (CP x ks st ss S L ch J)) := by
  have z := ci_cnt (G := G) h iv (w := 0) (by decide)
  have e : sCount S.1 (zs S) S.2.1 0 0 = nI (zN S) := iv.1.1.1
  rw [e] at z
  exact z
theorem ci_wnd {G : zW} {f : zHM} {m : Nat × Nat} {x ks L : Nat} {st : Nat → zST} {ss : Nat → Option zST} {S : zST} {ch : Nat → Nat} {J : Nat × Nat} (h : CI f m x ks st ss S L ch J) (iv : IVS S) (j1 : J.1 ≤ 50000) (j2 : J.2 ≤ 399990) (hn : ¬ S.2.1 = 200) (w : Int32) {r : Int32} {S2 : zST} (e : sA10 S w = some (r, S2)) : zM G yX3_wind cX3_wind 3 (some .int) 7 [.ref x, .int (nI (lw w (zN S)))] (f, m) (zD (some (.int (r))) (CP x (sPK ks) (sPS ks st S) ss (S2) L ch J)) := by
  obtain ⟨hw, hn2, ⟨a, ha, hat⟩, ⟨u, hu, hnow⟩, -⟩ := id iv
  have hN := hw.1.N24
  have hN4 := hw.1.2.2.2
  have ea : zn (S.1 0 1) = a := by rw [hat, zn_nI (by omega)]
  have eu : zn (S.1 0 2) = u := by rw [hnow, zn_nI (by omega)]
  have hb : lw w (zN S) < zN S := lw_lt (by omega)
  unfold sA10 at e
  rw [if_neg hn] at e
  unfold sRf at e
  rw [ea, eu] at e
  split at e
  · rename_i hr
    cases e
    exact ci_wind_ok h iv j1 j2 ha hu hat hnow hb (by omega) ⟨hr, trivial⟩
  · rename_i hr
    cases e
    exact ci_wind_no h iv j1 j2 ha hu hat hnow hb (by omega) ⟨hr, trivial⟩
set_option maxRecDepth 10000 in
set_option maxHeartbeats 1000000 in
theorem a_0 {G : zW} {f : zHM} {m : Nat × Nat} {x ks L : Nat} {st : Nat → zST} {ss : Nat → Option zST} {S : zST} {ch : Nat → Nat} {J : Nat × Nat} (h : CI f m x ks st ss S L ch J) (iv : IVS S) (j1 : J.1 ≤ 50000) (j2 : J.2 ≤ 399990) (v w : Int32) : zV G yL_act cL_act 5 (some .int) 8 60 [(0, .ref x), (1, .int v), (2, .int w)] [] (f, m) (AQ x ks st ss S L ch J (sA0 S w)) := by
  obtain ⟨vx, hx⟩ := h.x
  have l5 : lw w 5 < 5 := lw_lt (by decide)
  refine v_iload_n dL_act_60 rfl rfl ?_
  refine v_iconst (nI 5) dL_act_61 (by decide) ?_
  refine v_callSp kL_29 gs_L_low dL_act_62 (c_low w (by decide) (by decide)) rfl rfl (by decide) (Nat.le_of_ble_eq_true rfl) ?_
  refine v_istore_n dL_act_65 rfl (by decide) ?_
  refine v_iload_n dL_act_66 rfl rfl ?_
  refine v_bipush (20) dL_act_67 (by decide) ?_
  refine v_ishr dL_act_69 ?_
  refine v_iconst (3) dL_act_70 (by decide) ?_
  refine v_iand dL_act_71 ?_
  refine v_if_ne 107 dL_act_72 (by decide) (fun b72 => ?_) (fun b72 => ?_)
  · refine v_bipush (-9) dL_act_107 (by decide) ?_
    exact v_ireturn dL_act_109 rfl (by first | exact AQ_some (if_pos b72) hc | exact AQ_none (if_neg b72) h)
  · refine v_aload_n dL_act_75 rfl rfl ?_
    refine v_iload_n dL_act_76 rfl rfl ?_
    refine v_iconst (nI 3) dL_act_77 (by decide) ?_
    refine v_icmp_ge 89 dL_act_78 (by decide) (fun b78 => ?_) (fun b78 => ?_)
    · rw [nI_leI (by omega) (by omega)] at b78
      refine v_iload_n dL_act_89 rfl rfl ?_
      refine v_iconst (nI 3) dL_act_90 (by decide) ?_
      refine v_icmp_ne 99 dL_act_91 (by decide) (fun b91 => ?_) (fun b91 => ?_)
      · rw [nI_eq (by omega) (by omega)] at b91
        have e9 : 24 = sNx (lw w 5) := by
          unfold sNx
          rw [if_neg (by omega), if_neg (by omega)]
        refine v_bipush (24) dL_act_99 (by decide) ?_
        refine v_callV1 kL_34 gi_X3_nails ge_X3_nails rfl dL_act_101 (by assumption) (ci_nails2 h iv j1 j2 (t := lw w 5) l5 e9) rfl rfl (by decide) (Nat.le_of_ble_eq_true rfl) (fun f m hc => ?_)
        refine v_goto 109 dL_act_104 (by decide) ?_
        exact v_ireturn dL_act_109 rfl (by first | exact AQ_some (if_pos b72) hc | exact AQ_none (if_neg b72) h)
      · rw [nI_eq (by omega) (by omega)] at b91
        have e9 : 12 = sNx (lw w 5) := by
          unfold sNx
          rw [if_neg (by omega), if_pos (by omega)]
        refine v_bipush (12) dL_act_94 (by decide) ?_
        refine v_goto 101 dL_act_96 (by decide) ?_
        refine v_callV1 kL_34 gi_X3_nails ge_X3_nails rfl dL_act_101 (by assumption) (ci_nails2 h iv j1 j2 (t := lw w 5) l5 e9) rfl rfl (by decide) (Nat.le_of_ble_eq_true rfl) (fun f m hc => ?_)
        refine v_goto 109 dL_act_104 (by decide) ?_
        exact v_ireturn dL_act_109 rfl (by first | exact AQ_some (if_pos b72) hc | exact AQ_none (if_neg b72) h)
    · rw [nI_leI (by omega) (by omega)] at b78
      have e9 : 4 + 2 * nI (lw w 5) = sNx (lw w 5) := (if_pos (by omega)).symm
      refine v_iconst (4) dL_act_81 (by decide) ?_
      refine v_iconst (2) dL_act_82 (by decide) ?_
      refine v_iload_n dL_act_83 rfl rfl ?_
      refine v_imul dL_act_84 ?_
      refine v_iadd dL_act_85 ?_
      refine v_goto 101 dL_act_86 (by decide) ?_
      refine v_callV1 kL_34 gi_X3_nails ge_X3_nails rfl dL_act_101 (by assumption) (ci_nails2 h iv j1 j2 (t := lw w 5) l5 e9) rfl rfl (by decide) (Nat.le_of_ble_eq_true rfl) (fun f m hc => ?_)
      refine v_goto 109 dL_act_104 (by decide) ?_
      exact v_ireturn dL_act_109 rfl (by first | exact AQ_some (if_pos b72) hc | exact AQ_none (if_neg b72) h)
set_option maxRecDepth 10000 in
set_option maxHeartbeats 1000000 in
theorem a_1 {G : zW} {f : zHM} {m : Nat × Nat} {x ks L : Nat} {st : Nat → zST} {ss : Nat → Option zST} {S : zST} {ch : Nat → Nat} {J : Nat × Nat} (h : CI f m x ks st ss S L ch J) (iv : IVS S) (j1 : J.1 ≤ 50000) (j2 : J.2 ≤ 399990) (v w : Int32) : zV G yL_act cL_act 5 (some .int) 8 110 [(0, .ref x), (1, .int v), (2, .int w)] [] (f, m) (AQ x ks st ss S L ch J (sA1 S w)) := by
  obtain ⟨vx, hx⟩ := h.x
  have l3 : lw w 3 < 3 := lw_lt (by decide)
  have l0 : lw (shr w 6) 10000 < 10000 := lw_lt (by decide)
  refine v_iload_n dL_act_110 rfl rfl ?_
  refine v_iconst (nI 3) dL_act_111 (by decide) ?_
  refine v_callSp kL_29 gs_L_low dL_act_112 (c_low w (by decide) (by decide)) rfl rfl (by decide) (Nat.le_of_ble_eq_true rfl) ?_
  refine v_istore dL_act_115 (by decide) ?_
  refine v_aload_n dL_act_117 rfl rfl ?_
  refine v_iload dL_act_118 rfl ?_
  refine v_iconst (nI 4) dL_act_120 (by decide) ?_
  refine v_callV1 kL_18 gi_X3_spoolOf ge_X3_spoolOf rfl dL_act_121 (by assumption) (ci_spoolOf h iv (u := lw w 3) (w := 4) l3 (by decide)) rfl rfl (by decide) (Nat.le_of_ble_eq_true rfl) (fun f m hc => ?_)
  have h := hc
  obtain ⟨vx, hx⟩ := h.x
  refine v_iconst (1) dL_act_124 (by decide) ?_
  refine v_icmp_eq 138 dL_act_125 (by decide) (fun b125 => ?_) (fun b125 => ?_)
  · have c4 : nI (lw w 3) = S.1 0 2 := by
      have z : (if nI (lw w 3) = S.1 0 2 then (1 : Int32) else 0) = 1 := b125
      by_cases e : nI (lw w 3) = S.1 0 2
      · exact e
      · rw [if_neg e] at z
        exact absurd z (by decide)
    refine v_bipush (-9) dL_act_138 (by decide) ?_
    refine v_goto 169 dL_act_140 (by decide) ?_
    exact v_ireturn dL_act_169 rfl (by first | exact AQ_some (if_neg (fun z => z.elim c4 (fun z => z c5))) hc | exact AQ_none (if_pos (Or.inr c5)) h | exact AQ_none (if_pos (Or.inl c4)) h)
  · have c4 : ¬ nI (lw w 3) = S.1 0 2 := fun e => b125 (if_pos e)
    refine v_aload_n dL_act_128 rfl rfl ?_
    refine v_iload dL_act_129 rfl ?_
    refine v_iconst (nI 3) dL_act_131 (by decide) ?_
    refine v_callV1 kL_18 gi_X3_spoolOf ge_X3_spoolOf rfl dL_act_132 (by assumption) (ci_spoolOf h iv (u := lw w 3) (w := 3) l3 (by decide)) rfl rfl (by decide) (Nat.le_of_ble_eq_true rfl) (fun f m hc => ?_)
    have h := hc
    obtain ⟨vx, hx⟩ := h.x
    refine v_if_le 143 dL_act_135 (by decide) (fun b135 => ?_) (fun b135 => ?_)
    · have c5 : sCh S.1 S.2.1 (nI (lw w 3)) ≤ 0 := b135
      refine v_aload_n dL_act_143 rfl rfl ?_
      refine v_iload dL_act_144 rfl ?_
      refine v_iconst (1) dL_act_146 (by decide) ?_
      refine v_iload_n dL_act_147 rfl rfl ?_
      refine v_iconst (2) dL_act_148 (by decide) ?_
      refine v_ishr dL_act_149 ?_
      refine v_bipush (nI 9) dL_act_150 (by decide) ?_
      refine v_callSp kL_29 gs_L_low dL_act_152 (c_low (shr w 2) (by decide) (by decide)) rfl rfl (by decide) (Nat.le_of_ble_eq_true rfl) ?_
      refine v_iadd dL_act_155 ?_
      refine v_iload_n dL_act_156 rfl rfl ?_
      refine v_bipush (6) dL_act_157 (by decide) ?_
      refine v_ishr dL_act_159 ?_
      refine v_sipush (nI 10000) dL_act_160 (by decide) ?_
      refine v_callSp kL_29 gs_L_low dL_act_163 (c_low (shr w 6) (by decide) (by decide)) rfl rfl (by decide) (Nat.le_of_ble_eq_true rfl) ?_
      refine v_callV1 kL_37 gi_X3_spool ge_X3_spool rfl dL_act_166 (by assumption) (ci_spool h iv j1 j2 (u := lw w 3) (sh := 1 + nI (lw (shr w 2) 9)) (lf := nI (lw (shr w 6) 10000)) l3 (sh_ok (lw_lt (by decide)) (by decide)).1 (sh_ok (d := 9) (lw_lt (by decide)) (by decide)).2 (nI_pos (by omega)) (nI_le (a := lw (shr w 6) 10000) (b := 9999) (by omega) (by decide)) c4 c5) rfl rfl (by decide) (Nat.le_of_ble_eq_true rfl) (fun f m hc => ?_)
      exact v_ireturn dL_act_169 rfl (by first | exact AQ_some (if_neg (fun z => z.elim c4 (fun z => z c5))) hc | exact AQ_none (if_pos (Or.inr c5)) h | exact AQ_none (if_pos (Or.inl c4)) h)
    · have c5 : ¬ sCh S.1 S.2.1 (nI (lw w 3)) ≤ 0 := b135
      refine v_bipush (-9) dL_act_138 (by decide) ?_
      refine v_goto 169 dL_act_140 (by decide) ?_
      exact v_ireturn dL_act_169 rfl (by first | exact AQ_some (if_neg (fun z => z.elim c4 (fun z => z c5))) hc | exact AQ_none (if_pos (Or.inr c5)) h | exact AQ_none (if_pos (Or.inl c4)) h)
set_option maxRecDepth 10000 in
set_option maxHeartbeats 1000000 in
theorem a_2 {G : zW} {f : zHM} {m : Nat × Nat} {x ks L : Nat} {st : Nat → zST} {ss : Nat → Option zST} {S : zST} {ch : Nat → Nat} {J : Nat × Nat} (h : CI f m x ks st ss S L ch J) (iv : IVS S) (j1 : J.1 ≤ 50000) (j2 : J.2 ≤ 399990) (v w : Int32) : zV G yL_act cL_act 5 (some .int) 8 170 [(0, .ref x), (1, .int v), (2, .int w)] [] (f, m) (AQ x ks st ss S L ch J (sA2 S w)) := by
  obtain ⟨vx, hx⟩ := h.x
  have l2 : lw w 2 < 2 := lw_lt (by decide)
  obtain ⟨u, hu, hnow⟩ := iv.2.2.2.1
  have eu : zn (S.1 0 2) = u := by rw [hnow, zn_nI (by omega)]
  refine v_aload_n dL_act_170 rfl rfl ?_
  refine v_aload_n dL_act_171 rfl rfl ?_
  refine v_iconst (nI 2) dL_act_172 (by decide) ?_
  refine v_callV1 kL_12 gi_X3_count ge_X3_count rfl dL_act_173 (by assumption) (ci_cnt h iv (w := 2) (by decide)) rfl rfl (by decide) (Nat.le_of_ble_eq_true rfl) (fun f m hc => ?_)
  have h := hc
  obtain ⟨vx, hx⟩ := h.x
  refine v_iconst (1) dL_act_176 (by decide) ?_
  refine v_iadd dL_act_177 ?_
  refine v_iload_n dL_act_178 rfl rfl ?_
  refine v_iconst (nI 2) dL_act_179 (by decide) ?_
  refine v_callSp kL_29 gs_L_low dL_act_180 (c_low w (by decide) (by decide)) rfl rfl (by decide) (Nat.le_of_ble_eq_true rfl) ?_
  refine v_iadd dL_act_183 ?_
  refine v_iconst (nI 3) dL_act_184 (by decide) ?_
  refine v_irem dL_act_185 (by decide) ?_
  rw [show sCount S.1 (zs S) S.2.1 0 2 + 1 + nI (lw w 2) = nI (zn (S.1 0 2) + 1 + lw w 2) from k2_ok hnow hu _, pk_rem (by omega) (by decide) (by decide)]
  refine v_callV1 kL_40 gi_X3_knot ge_X3_knot rfl dL_act_186 (by assumption) (ci_knot h iv j1 j2 (u := (zn (S.1 0 2) + 1 + lw w 2) % 3) (Nat.mod_lt _ (by decide)) (k2_ne hnow hu l2)) rfl rfl (by decide) (Nat.le_of_ble_eq_true rfl) (fun f m hc => ?_)
  exact v_ireturn dL_act_189 rfl (AQ_some rfl hc)
set_option maxRecDepth 10000 in
set_option maxHeartbeats 1000000 in
theorem a_3 {G : zW} {f : zHM} {m : Nat × Nat} {x ks L : Nat} {st : Nat → zST} {ss : Nat → Option zST} {S : zST} {ch : Nat → Nat} {J : Nat × Nat} (h : CI f m x ks st ss S L ch J) (iv : IVS S) (j1 : J.1 ≤ 50000) (j2 : J.2 ≤ 399990) (v w : Int32) : zV G yL_act cL_act 5 (some .int) 8 190 [(0, .ref x), (1, .int v), (2, .int w)] [] (f, m) (AQ x ks st ss S L ch J (sA3 S w)) := by
  obtain ⟨vx, hx⟩ := h.x
  have l3 : lw w 3 < 3 := lw_lt (by decide)
  have l4 : lw (shr w 2) 4 < 4 := lw_lt (by decide)
  refine v_aload_n dL_act_190 rfl rfl ?_
  refine v_iload_n dL_act_191 rfl rfl ?_
  refine v_iconst (nI 3) dL_act_192 (by decide) ?_
  refine v_callSp kL_29 gs_L_low dL_act_193 (c_low w (by decide) (by decide)) rfl rfl (by decide) (Nat.le_of_ble_eq_true rfl) ?_
  refine v_iconst (1) dL_act_196 (by decide) ?_
  refine v_iload_n dL_act_197 rfl rfl ?_
  refine v_iconst (2) dL_act_198 (by decide) ?_
  refine v_ishr dL_act_199 ?_
  refine v_iconst (nI 4) dL_act_200 (by decide) ?_
  refine v_callSp kL_29 gs_L_low dL_act_201 (c_low (shr w 2) (by decide) (by decide)) rfl rfl (by decide) (Nat.le_of_ble_eq_true rfl) ?_
  refine v_iadd dL_act_204 ?_
  refine v_callV1 kL_43 gi_X3_set ge_X3_set rfl dL_act_205 (by assumption) (ci_set h iv j1 j2 (e := lw w 3) (v := 1 + nI (lw (shr w 2) 4)) l3 (sh_ok l4 (by decide)).1 (ms_ok _ l3 _ l4)) rfl rfl (by decide) (Nat.le_of_ble_eq_true rfl) (fun f m hc => ?_)
  exact v_ireturn dL_act_208 rfl (AQ_some rfl hc)
set_option maxRecDepth 10000 in
set_option maxHeartbeats 1000000 in
theorem a_4 {G : zW} {f : zHM} {m : Nat × Nat} {x ks L : Nat} {st : Nat → zST} {ss : Nat → Option zST} {S : zST} {ch : Nat → Nat} {J : Nat × Nat} (h : CI f m x ks st ss S L ch J) (iv : IVS S) (j1 : J.1 ≤ 50000) (j2 : J.2 ≤ 399990) (v w : Int32) : zV G yL_act cL_act 5 (some .int) 8 209 [(0, .ref x), (1, .int v), (2, .int w)] [] (f, m) (AQ x ks st ss S L ch J (sA4 S w)) := by
  obtain ⟨vx, hx⟩ := h.x
  have l1 : lw w 12 < 12 := lw_lt (by decide)
  have l2 : lw (shr w 4) 12 < 12 := lw_lt (by decide)
  have l3 : lw (shr w 8) 10 < 10 := lw_lt (by decide)
  refine v_aload_n dL_act_209 rfl rfl ?_
  refine v_iload_n dL_act_210 rfl rfl ?_
  refine v_bipush (nI 12) dL_act_211 (by decide) ?_
  refine v_callSp kL_29 gs_L_low dL_act_213 (c_low w (by decide) (by decide)) rfl rfl (by decide) (Nat.le_of_ble_eq_true rfl) ?_
  refine v_iload_n dL_act_216 rfl rfl ?_
  refine v_iconst (4) dL_act_217 (by decide) ?_
  refine v_ishr dL_act_218 ?_
  refine v_bipush (nI 12) dL_act_219 (by decide) ?_
  refine v_callSp kL_29 gs_L_low dL_act_221 (c_low (shr w 4) (by decide) (by decide)) rfl rfl (by decide) (Nat.le_of_ble_eq_true rfl) ?_
  refine v_iload_n dL_act_224 rfl rfl ?_
  refine v_bipush (8) dL_act_225 (by decide) ?_
  refine v_ishr dL_act_227 ?_
  refine v_bipush (nI 10) dL_act_228 (by decide) ?_
  refine v_callSp kL_29 gs_L_low dL_act_230 (c_low (shr w 8) (by decide) (by decide)) rfl rfl (by decide) (Nat.le_of_ble_eq_true rfl) ?_
  refine v_callV1 kL_46 gi_X3_want ge_X3_want rfl dL_act_233 (by assumption) (ci_want h iv j1 j2 (a := lw w 12) (b := lw (shr w 4) 12) (v := nI (lw (shr w 8) 10)) l1 l2 (nI_pos (by omega)) (nI_le (a := lw (shr w 8) 10) (b := 9) (by omega) (by decide))) rfl rfl (by decide) (Nat.le_of_ble_eq_true rfl) (fun f m hc => ?_)
  exact v_ireturn dL_act_236 rfl (AQ_some rfl hc)
set_option maxRecDepth 10000 in
set_option maxHeartbeats 1000000 in
theorem a_6 {G : zW} {f : zHM} {m : Nat × Nat} {x ks L : Nat} {st : Nat → zST} {ss : Nat → Option zST} {S : zST} {ch : Nat → Nat} {J : Nat × Nat} (h : CI f m x ks st ss S L ch J) (iv : IVS S) (j1 : J.1 ≤ 50000) (j2 : J.2 ≤ 399990) (v w : Int32) : zV G yL_act cL_act 5 (some .int) 8 237 [(0, .ref x), (1, .int v), (2, .int w)] [] (f, m) (AQ x ks st ss S L ch J (sA6 S w)) := by
  obtain ⟨vx, hx⟩ := h.x
  refine v_aload_n dL_act_237 rfl rfl ?_
  refine v_iload_n dL_act_238 rfl rfl ?_
  refine v_iconst (nI 3) dL_act_239 (by decide) ?_
  refine v_callSp kL_29 gs_L_low dL_act_240 (c_low w (by decide) (by decide)) rfl rfl (by decide) (Nat.le_of_ble_eq_true rfl) ?_
  refine v_callV1 kL_49 gi_X3_turnFace ge_X3_turnFace rfl dL_act_243 (by assumption) (ci_turn h iv j1 j2 (t := lw w 3) (lw_lt (by decide))) rfl rfl (by decide) (Nat.le_of_ble_eq_true rfl) (fun f m hc => ?_)
  exact v_ireturn dL_act_246 rfl (AQ_some rfl hc)
set_option maxRecDepth 10000 in
set_option maxHeartbeats 1000000 in
theorem a_7 {G : zW} {f : zHM} {m : Nat × Nat} {x ks L : Nat} {st : Nat → zST} {ss : Nat → Option zST} {S : zST} {ch : Nat → Nat} {J : Nat × Nat} (h : CI f m x ks st ss S L ch J) (iv : IVS S) (j1 : J.1 ≤ 50000) (j2 : J.2 ≤ 399990) (v w : Int32) : zV G yL_act cL_act 5 (some .int) 8 247 [(0, .ref x), (1, .int v), (2, .int w)] [] (f, m) (AQ x ks st ss S L ch J (sA7 S)) := by
  obtain ⟨vx, hx⟩ := h.x
  have hn2 := iv.2.1
  refine v_aload_n dL_act_247 rfl rfl ?_
  refine v_iconst (nI 3) dL_act_248 (by decide) ?_
  refine v_callV1 kL_12 gi_X3_count ge_X3_count rfl dL_act_249 (by assumption) (ci_cnt h iv (w := 3) (by decide)) rfl rfl (by decide) (Nat.le_of_ble_eq_true rfl) (fun f m hc => ?_)
  have h := hc
  obtain ⟨vx, hx⟩ := h.x
  refine v_if_ne 260 dL_act_252 (by decide) (fun b252 => ?_) (fun b252 => ?_)
  · have c0 : ¬ S.2.1 = 0 := fun e => b252 (show nI S.2.1 = 0 by rw [e]; rfl)
    refine v_aload_n dL_act_260 rfl rfl ?_
    refine v_callV1 kL_52 gi_X3_unwind ge_X3_unwind rfl dL_act_261 (by assumption) (ci_unw h iv j1 j2 c0) rfl rfl (by decide) (Nat.le_of_ble_eq_true rfl) (fun f m hc => ?_)
    exact v_ireturn dL_act_264 rfl (by first | exact AQ_some (if_neg c0) hc | exact AQ_none (if_pos c0) h)
  · have c0 : S.2.1 = 0 := by
      have z : nI S.2.1 = nI 0 := b252
      exact (nI_eq (by omega) (by decide)).mp z
    refine v_bipush (-9) dL_act_255 (by decide) ?_
    refine v_goto 264 dL_act_257 (by decide) ?_
    exact v_ireturn dL_act_264 rfl (by first | exact AQ_some (if_neg c0) hc | exact AQ_none (if_pos c0) h)
set_option maxRecDepth 10000 in
set_option maxHeartbeats 1000000 in
theorem a_8 {G : zW} {f : zHM} {m : Nat × Nat} {x ks L : Nat} {st : Nat → zST} {ss : Nat → Option zST} {S : zST} {ch : Nat → Nat} {J : Nat × Nat} (h : CI f m x ks st ss S L ch J) (iv : IVS S) (j1 : J.1 ≤ 50000) (j2 : J.2 ≤ 399990) (v w : Int32) : zV G yL_act cL_act 5 (some .int) 8 265 [(0, .ref x), (1, .int v), (2, .int w)] [] (f, m) (AQ x ks st ss S L ch J (sA8 S w)) := by
  obtain ⟨vx, hx⟩ := h.x
  have l4 : lw w 4 < 4 := lw_lt (by decide)
  refine v_aload_n dL_act_265 rfl rfl ?_
  refine v_iconst (1) dL_act_266 (by decide) ?_
  refine v_iload_n dL_act_267 rfl rfl ?_
  refine v_iconst (nI 4) dL_act_268 (by decide) ?_
  refine v_callSp kL_29 gs_L_low dL_act_269 (c_low w (by decide) (by decide)) rfl rfl (by decide) (Nat.le_of_ble_eq_true rfl) ?_
  refine v_iadd dL_act_272 ?_
  refine v_callV1 kL_56 gi_X3_windBest ge_X3_windBest rfl dL_act_273 (by assumption) (ci_wb2 h iv j1 j2 (w := 1 + lw w 4) (one_nI _) (by omega) (by omega)) rfl rfl (by decide) (Nat.le_of_ble_eq_true rfl) (fun f m hc => ?_)
  exact v_ireturn dL_act_276 rfl (AQ_some rfl hc)
set_option maxRecDepth 10000 in
set_option maxHeartbeats 1000000 in
theorem a_10 {G : zW} {f : zHM} {m : Nat × Nat} {x ks L : Nat} {st : Nat → zST} {ss : Nat → Option zST} {S : zST} {ch : Nat → Nat} {J : Nat × Nat} (h : CI f m x ks st ss S L ch J) (iv : IVS S) (j1 : J.1 ≤ 50000) (j2 : J.2 ≤ 399990) (v w : Int32) : zV G yL_act cL_act 5 (some .int) 8 277 [(0, .ref x), (1, .int v), (2, .int w)] [] (f, m) (AQ x ks st ss S L ch J (sA10 S w)) := by
  obtain ⟨vx, hx⟩ := h.x
  have hn2 := iv.2.1
  have hN := iv.1.1.N24
  have hN4 := iv.1.1.2.2.2
  refine v_aload_n dL_act_277 rfl rfl ?_
  refine v_iconst (nI 3) dL_act_278 (by decide) ?_
  refine v_callV1 kL_12 gi_X3_count ge_X3_count rfl dL_act_279 (by assumption) (ci_cnt h iv (w := 3) (by decide)) rfl rfl (by decide) (Nat.le_of_ble_eq_true rfl) (fun f m hc => ?_)
  have h := hc
  obtain ⟨vx, hx⟩ := h.x
  refine v_sipush (nI 200) dL_act_282 (by decide) ?_
  refine v_icmp_ne 293 dL_act_285 (by decide) (fun b285 => ?_) (fun b285 => ?_)
  · have c0 : ¬ S.2.1 = 200 := fun e => b285 (show nI S.2.1 = nI 200 by rw [e])
    obtain ⟨⟨r, S2⟩, e⟩ : ∃ q, sA10 S w = some q := by
      unfold sA10
      rw [if_neg c0]
      split
      · exact ⟨_, rfl⟩
      · exact ⟨_, rfl⟩
    refine v_aload_n dL_act_293 rfl rfl ?_
    refine v_iload_n dL_act_294 rfl rfl ?_
    refine v_aload_n dL_act_295 rfl rfl ?_
    refine v_iconst (nI 0) dL_act_296 (by decide) ?_
    refine v_callV1 kL_12 gi_X3_count ge_X3_count rfl dL_act_297 (by assumption) (ci_cN h iv) rfl rfl (by decide) (Nat.le_of_ble_eq_true rfl) (fun f m hc => ?_)
    have h := hc
    obtain ⟨vx, hx⟩ := h.x
    refine v_callSp kL_29 gs_L_low dL_act_300 (c_low w (by omega) (by omega)) rfl rfl (by decide) (Nat.le_of_ble_eq_true rfl) ?_
    refine v_callV1 kL_59 gi_X3_wind ge_X3_wind rfl dL_act_303 (by assumption) (ci_wnd h iv j1 j2 c0 w e) rfl rfl (by decide) (Nat.le_of_ble_eq_true rfl) (fun f m hc => ?_)
    exact v_ireturn dL_act_306 rfl (by first | exact AQ_some e hc | exact AQ_none (if_pos c0) h)
  · have c0 : S.2.1 = 200 := (nI_eq (a := S.2.1) (b := 200) (by omega) (by decide)).mp b285
    refine v_bipush (-9) dL_act_288 (by decide) ?_
    refine v_goto 306 dL_act_290 (by decide) ?_
    exact v_ireturn dL_act_306 rfl (by first | exact AQ_some e hc | exact AQ_none (if_pos c0) h)
set_option maxRecDepth 10000 in
set_option maxHeartbeats 1000000 in
theorem c_act {G : zW} {f : zHM} {m : Nat × Nat} {x ks L : Nat} {st : Nat → zST} {ss : Nat → Option zST} {S : zST} {ch : Nat → Nat} {J : Nat × Nat} (h : CI f m x ks st ss S L ch J) (iv : IVS S) (j1 : J.1 ≤ 50000) (j2 : J.2 ≤ 399990) (v w : Int32) : zM G yL_act cL_act 5 (some .int) 8 [.ref x, .int v, .int w] (f, m) (AQ x ks st ss S L ch J (sAct S v w)) := by
  refine zM.of (by decide) (Nat.le_of_ble_eq_true rfl) ?_
  refine v_iload_n dL_act_0 rfl rfl ?_
  refine v_bipush (15) dL_act_1 (by decide) ?_
  refine v_iand dL_act_3 ?_
  rw [and15 v]
  obtain ⟨t, ht, e⟩ : ∃ t, t < 16 ∧ v.toBitVec.toNat % 16 = t := ⟨_, Nat.mod_lt _ (by decide), rfl⟩
  rw [e]
  rcases (by omega : t = 0 ∨ t = 1 ∨ t = 2 ∨ t = 3 ∨ t = 4 ∨ t = 5 ∨ t = 6 ∨ t = 7 ∨ t = 8 ∨ t = 9 ∨ t = 10 ∨ t = 11 ∨ t = 12 ∨ t = 13 ∨ t = 14 ∨ t = 15) with e0 | e0 | e0 | e0 | e0 | e0 | e0 | e0 | e0 | e0 | e0 | e0 | e0 | e0 | e0 | e0
  · subst e0
    rw [show sAct S v w = sA0 S w by
      unfold sAct
      rw [e]
      rfl]
    refine v_tableIn 60 dL_act_4 (by decide) (by decide) (off := 56) (by rfl) (by decide) ?_
    exact a_0 h iv j1 j2 v w
  · subst e0
    rw [show sAct S v w = sA1 S w by
      unfold sAct
      rw [e]
      rfl]
    refine v_tableIn 110 dL_act_4 (by decide) (by decide) (off := 106) (by rfl) (by decide) ?_
    exact a_1 h iv j1 j2 v w
  · subst e0
    rw [show sAct S v w = sA2 S w by
      unfold sAct
      rw [e]
      rfl]
    refine v_tableIn 170 dL_act_4 (by decide) (by decide) (off := 166) (by rfl) (by decide) ?_
    exact a_2 h iv j1 j2 v w
  · subst e0
    rw [show sAct S v w = sA3 S w by
      unfold sAct
      rw [e]
      rfl]
    refine v_tableIn 190 dL_act_4 (by decide) (by decide) (off := 186) (by rfl) (by decide) ?_
    exact a_3 h iv j1 j2 v w
  · subst e0
    rw [show sAct S v w = sA4 S w by
      unfold sAct
      rw [e]
      rfl]
    refine v_tableIn 209 dL_act_4 (by decide) (by decide) (off := 205) (by rfl) (by decide) ?_
    exact a_4 h iv j1 j2 v w
  · subst e0
    rw [show sAct S v w = sA4 S w by
      unfold sAct
      rw [e]
      rfl]
    refine v_tableIn 209 dL_act_4 (by decide) (by decide) (off := 205) (by rfl) (by decide) ?_
    exact a_4 h iv j1 j2 v w
  · subst e0
    rw [show sAct S v w = sA6 S w by
      unfold sAct
      rw [e]
      rfl]
    refine v_tableIn 237 dL_act_4 (by decide) (by decide) (off := 233) (by rfl) (by decide) ?_
    exact a_6 h iv j1 j2 v w
  · subst e0
    rw [show sAct S v w = sA7 S  by
      unfold sAct
      rw [e]
      rfl]
    refine v_tableIn 247 dL_act_4 (by decide) (by decide) (off := 243) (by rfl) (by decide) ?_
    exact a_7 h iv j1 j2 v w
  · subst e0
    rw [show sAct S v w = sA8 S w by
      unfold sAct
      rw [e]
      rfl]
    refine v_tableIn 265 dL_act_4 (by decide) (by decide) (off := 261) (by rfl) (by decide) ?_
    exact a_8 h iv j1 j2 v w
  · subst e0
    rw [show sAct S v w = sA8 S w by
      unfold sAct
      rw [e]
      rfl]
    refine v_tableIn 265 dL_act_4 (by decide) (by decide) (off := 261) (by rfl) (by decide) ?_
    exact a_8 h iv j1 j2 v w
  · subst e0
    rw [show sAct S v w = sA10 S w by
      unfold sAct
      rw [e]
      rfl]
    refine v_tableOut 277 dL_act_4 (by decide) (by decide) ?_
    exact a_10 h iv j1 j2 v w
  · subst e0
    rw [show sAct S v w = sA10 S w by
      unfold sAct
      rw [e]
      rfl]
    refine v_tableOut 277 dL_act_4 (by decide) (by decide) ?_
    exact a_10 h iv j1 j2 v w
  · subst e0
    rw [show sAct S v w = sA10 S w by
      unfold sAct
      rw [e]
      rfl]
    refine v_tableOut 277 dL_act_4 (by decide) (by decide) ?_
    exact a_10 h iv j1 j2 v w
  · subst e0
    rw [show sAct S v w = sA10 S w by
      unfold sAct
      rw [e]
      rfl]
    refine v_tableOut 277 dL_act_4 (by decide) (by decide) ?_
    exact a_10 h iv j1 j2 v w
  · subst e0
    rw [show sAct S v w = sA10 S w by
      unfold sAct
      rw [e]
      rfl]
    refine v_tableOut 277 dL_act_4 (by decide) (by decide) ?_
    exact a_10 h iv j1 j2 v w
  · subst e0
    rw [show sAct S v w = sA10 S w by
      unfold sAct
      rw [e]
      rfl]
    refine v_tableOut 277 dL_act_4 (by decide) (by decide) ?_
    exact a_10 h iv j1 j2 v w
