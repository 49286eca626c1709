def LineAt (f : zHM) (tl q lo hi : Nat) : Prop := ∃ (s : Nat) (g : Nat → Int32), f q = some (tl, .inr (0, [.int (nI (sLen lo hi)), .ref s])) ∧ f s = some (tl + 1, .inl (0, (sPT lo hi).length, .inl g)) ∧ ∀ i, i < (sPT lo hi).length → g i = nI ((sPT lo hi).getD i 0)
theorem gJ150 : Cond.methodLink RJ7 150 arraycopyName ∈ GT := GT_in (by decide +kernel) (by decide +kernel)
theorem gJ304 : Cond.methodLink RJ7 304 Lib.Math.min.name ∈ GT := GT_in (by decide +kernel) (by decide +kernel)
set_option maxRecDepth 10000 in
set_option maxHeartbeats 1000000 in
theorem c_copyOf {G : zW} {f : zHM} {m : Nat × Nat} {a t n0 k : Nat} {g : Nat → Int32} (tq : Nat) (ha : f a = some (t, .inl (0, n0, .inl g))) (hk : k < n0) (hn0 : n0 ≤ 50000) (hm1 : m.1 + 1 ≤ 50000) (hm2 : m.2 + k ≤ 400000) : zM G yJ7_copyOf_59c91 cJ7_copyOf_59c91 3 (some (.array .int)) 1 [.ref a, .int (nI k)] (f, m) (zDr (fun q f' m' => (∃ g', f' q = some (tq, .inl (0, k, .inl g')) ∧ ∀ i, i < k → g' i = g i) ∧ (∀ b x, f b = some x → f' b = some x) ∧ f q = none ∧ m' = (m.1 + 1, m.2 + k))) := by
  refine zM.of (by decide) (Nat.le_of_ble_eq_true rfl) ?_
  refine v_iload_n dJ7_copyOf_59c91_0 rfl rfl ?_
  refine v_aload_n dJ7_copyOf_59c91_1 rfl rfl ?_
  refine v_alen dJ7_copyOf_59c91_2 (by assumption) (by decide) ?_
  refine v_icmp_ne 14 dJ7_copyOf_59c91_3 (by decide) (fun b => ?_) (fun b => ?_)
  · refine v_iload_n dJ7_copyOf_59c91_14 rfl rfl ?_
    refine v_newIX tq k dJ7_copyOf_59c91_15 (nI_pos (by omega)) (nI_clamp (by omega)) (by omega) hm1 hm2 (fun q f9 hp => ?_)
    have ha9 := hp.2.2 _ _ ha
    have hq9 := hp.1
    refine v_astore_n dJ7_copyOf_59c91_17 rfl (by decide) ?_
    refine v_aload_n dJ7_copyOf_59c91_18 rfl rfl ?_
    refine v_iconst (nI 0) dJ7_copyOf_59c91_19 (by decide) ?_
    refine v_aload_n dJ7_copyOf_59c91_20 rfl rfl ?_
    refine v_iconst (nI 0) dJ7_copyOf_59c91_21 (by decide) ?_
    refine v_aload_n dJ7_copyOf_59c91_22 rfl rfl ?_
    refine v_alen dJ7_copyOf_59c91_23 (by assumption) (by decide) ?_
    refine v_iload_n dJ7_copyOf_59c91_24 rfl rfl ?_
    refine v_mmin gJ304 gs_J9_min_7cf53 kX1_86.2.1 kX1_86.2.2.1 dJ7_copyOf_59c91_25 (by decide) (Nat.le_of_ble_eq_true rfl) ?_
    rw [show (Int32.ofNat (n0, (Sum.inl g : (Nat → Int32) ⊕ (Nat → Int64) ⊕ (Nat → UInt32) ⊕ (Nat → UInt64) ⊕ (Nat → Option Nat))).1) = nI n0 from rfl, nI_min n0 k (by omega) (by omega), Nat.min_eq_right (Nat.le_of_lt hk)]
    refine v_copyIX gJ150 gcpN gcpS gcpI dJ7_copyOf_59c91_28 (by assumption) (by assumption) (nI_pos (by omega)) (nI_pos (by omega)) (nI_pos (by omega)) (by rw [nI_clamp (by omega), nI_clamp (by omega)]; omega) (by rw [nI_clamp (by omega), nI_clamp (by omega)]; omega) (by decide) (Nat.le_of_ble_eq_true rfl) (fun f8 hp8 => ?_)
    refine v_aload_n dJ7_copyOf_59c91_31 rfl rfl ?_
    refine v_areturn dJ7_copyOf_59c91_32 rfl (Or.inr ⟨_, rfl⟩) ⟨q, rfl, ⟨_, hp8.1, fun i hi => ?_⟩, fun b x hb => ?_, hp.2.1, rfl⟩
    · rw [nI_clamp (by omega), nI_clamp (by omega), pk_cpy_in (Nat.zero_le i) (by omega)]
      congr 1
      omega
    · exact (hp8.2.2 b (fun e => by rw [e, hp.2.1] at hb; cases hb)).trans (hp.2.2 b x hb)
  · exact absurd ((nI_eq (by omega) (by omega)).mp b) (by omega)
theorem sTr_lt {lo hi : Nat} (hlt : lo < hi) (hhi : hi < 24) : ∀ k, k ≤ sN lo hi + 1 → ∀ j, j < (sTr lo hi k).length → (sTr lo hi k).getD j 0 < 2 ^ 31
  | 0, _, j, hj => absurd hj (Nat.not_lt_zero j)
  | k + 1, hk, j, hj => by
    have ih := sTr_lt hlt hhi k (by omega)
    unfold sTr at hj ⊢
    split at hj
    · rename_i h; rw [if_pos h]; exact ih j hj
    · rename_i h
      rw [if_neg h]
      rw [List.length_append, List.length_singleton] at hj
      simp only [List.getD]
      by_cases hjl : j = (sTr lo hi k).length
      · have := (sEk_ok hi hhi lo hlt k (by omega)).2
        subst hjl
        simp
        omega
      · rw [List.getElem?_append_left (by omega)]
        exact ih j (by omega)
set_option maxRecDepth 10000 in
set_option maxHeartbeats 1000000 in
theorem c_trace {G : zW} {f : zHM} {m : Nat × Nat} (tl : Nat) {lo hi : Nat} (hlt : lo < hi) (hhi : hi < 24) (hm1 : m.1 + 3 ≤ 50000) (hm2 : m.2 + 48 ≤ 400000) : zM G yX0_trace cX0_trace 13 (some (.object "RingThreads$Line")) 2 [.int (nI lo), .int (nI hi)] (f, m) (zDr (fun q f' m' => LineAt f' tl q lo hi ∧ (∀ b x, f b = some x → f' b = some x) ∧ f q = none ∧ m'.1 = m.1 + 3 ∧ m'.2 ≤ m.2 + 44)) := by
  refine zM.of (by decide) (Nat.le_of_ble_eq_true rfl) ?_
  obtain ⟨hs1, hs2, hs3, hQ1, hQ2⟩ := sN_ok hi hhi lo hlt
  refine v_iload_n dX0_trace_0 rfl rfl ?_
  refine v_callSp kX0_31 gs_X0_xOf dX0_trace_1 (c_xOf (by omega)) rfl rfl (by decide) (Nat.le_of_ble_eq_true rfl) ?_
  refine v_istore_n dX0_trace_4 rfl (by decide) ?_
  refine v_iload_n dX0_trace_5 rfl rfl ?_
  refine v_callSp kX0_35 gs_X0_yOf dX0_trace_6 (c_yOf (by omega)) rfl rfl (by decide) (Nat.le_of_ble_eq_true rfl) ?_
  refine v_istore_n dX0_trace_9 rfl (by decide) ?_
  refine v_iload_n dX0_trace_10 rfl rfl ?_
  refine v_callSp kX0_31 gs_X0_xOf dX0_trace_11 (c_xOf (by omega)) rfl rfl (by decide) (Nat.le_of_ble_eq_true rfl) ?_
  refine v_iload_n dX0_trace_14 rfl rfl ?_
  refine v_isub dX0_trace_15 ?_
  refine v_istore dX0_trace_16 (by decide) ?_
  refine v_iload_n dX0_trace_18 rfl rfl ?_
  refine v_callSp kX0_35 gs_X0_yOf dX0_trace_19 (c_yOf (by omega)) rfl rfl (by decide) (Nat.le_of_ble_eq_true rfl) ?_
  refine v_iload_n dX0_trace_22 rfl rfl ?_
  refine v_isub dX0_trace_23 ?_
  refine v_istore dX0_trace_24 (by decide) ?_
  refine v_iload dX0_trace_26 rfl ?_
  refine v_mabs kX0_38.1 gs_J9_abs_0f7a4 kX0_38.2.1 kX0_38.2.2.1 dX0_trace_28 (by decide) (Nat.le_of_ble_eq_true rfl) ?_
  refine v_iload dX0_trace_31 rfl ?_
  refine v_mabs kX0_38.1 gs_J9_abs_0f7a4 kX0_38.2.1 kX0_38.2.2.1 dX0_trace_33 (by decide) (Nat.le_of_ble_eq_true rfl) ?_
  refine v_mmax kX0_28.1 gs_J9_max_7cf53 kX0_28.2.1 kX0_28.2.2.1 dX0_trace_36 (by decide) (Nat.le_of_ble_eq_true rfl) ?_
  refine v_istore dX0_trace_39 (by decide) ?_
  refine v_bipush (23) dX0_trace_41 (by decide) ?_
  refine v_newIX 900 23 dX0_trace_43 (by decide) (by decide) (by omega) (by omega) (by omega) (fun q f1 hpq => ?_)
  have hfq := hpq.2.1
  obtain ⟨m', hm'⟩ : ∃ z : Nat × Nat, z = (m.1 + 1, m.2 + 23) := ⟨_, rfl⟩
  rw [← hm']
  have loop : ∀ (k : Nat), ∀ (i : Nat), i + k = sN lo hi + 1 → ∀ (f1 : zHM) (g : Nat → Int32), f1 q = some (900, .inl (0, 23, .inl g)) → (∀ j, j < (sTr lo hi i).length → g j = nI ((sTr lo hi i).getD j 0)) → (∀ b x, f b = some x → f1 b = some x) → zV G yX0_trace cX0_trace 13 (some (.object "RingThreads$Line")) 2 53 [(0, .int (nI lo)), (1, .int (nI hi)), (2, .int (sX lo)), (3, .int (sY lo)), (4, .int (sDX lo hi)), (5, .int (sDY lo hi)), (6, .int (nI (sN lo hi))), (7, .ref q), (8, .int (nI (sTr lo hi i).length)), (9, .int (nI i))] [] (f1, m') (zDr (fun q f' m' => LineAt f' tl q lo hi ∧ (∀ b x, f b = some x → f' b = some x) ∧ f q = none ∧ m'.1 = m.1 + 3 ∧ m'.2 ≤ m.2 + 44)) := by
    intro k
    induction k with
    | zero =>
      intro i hi9 f1 g hg hgs hkeep
      have hi9 : i = sN lo hi + 1 := by omega
      subst hi9
      refine v_iload dX0_trace_53 rfl ?_
      refine v_iload dX0_trace_55 rfl ?_
      refine v_icmp_gt 155 dX0_trace_57 (by decide) (fun b57 => ?_) (fun b57 => ?_)
      · have hl9 := (sPT_ok hi hhi lo hlt).1
        have hrv : sTr lo hi (sN lo hi + 1) = sPT lo hi := rfl
        rw [hrv] at hgs ⊢
        refine v_newX tl nX0_10 dX0_trace_155 (by rw [hm']; show m.1 + 1 + 1 ≤ 50000; omega) (by rw [hm']; show m.2 + 23 + 2 ≤ 400000; omega) (fun q9 f9 hp9 => ?_)
        have hg9 := hp9.2.2 _ _ hg
        have hn9 := hp9.1
        refine v_dup dX0_trace_158 rfl ?_
        refine v_iload dX0_trace_159 rfl ?_
        refine v_iload dX0_trace_161 rfl ?_
        refine v_imul dX0_trace_163 ?_
        refine v_iload dX0_trace_164 rfl ?_
        refine v_iload dX0_trace_166 rfl ?_
        refine v_imul dX0_trace_168 ?_
        refine v_iadd dX0_trace_169 ?_
        rw [hQ1]
        refine v_callSp kX0_41 gs_X0_rootOf dX0_trace_170 (c_rootOf (by omega)) rfl rfl (by decide) (Nat.le_of_ble_eq_true rfl) ?_
        refine v_aload dX0_trace_173 rfl ?_
        refine v_iload dX0_trace_175 rfl ?_
        refine v_callSr kX0_44 gs_J7_copyOf_59c91 dX0_trace_177 (c_copyOf (tl + 1) hg9 (by omega) (by omega) (by rw [hm']; show m.1 + 1 + 1 + 1 ≤ 50000; omega) (by rw [hm']; show m.2 + 23 + 2 + _ ≤ 400000; omega)) rfl rfl (by decide) (Nat.le_of_ble_eq_true rfl) (fun s8 f8 m8 h8 => ?_)
        obtain ⟨⟨g8, hs8, hgs8⟩, hk8, hf8, rfl⟩ := h8
        have hn8 := hk8 _ _ hn9
        refine v_callI0 kX0_50 gi_X0_init rfl dX0_trace_180 (c_Line_init hn8) rfl rfl (by decide) (Nat.le_of_ble_eq_true rfl) (fun f7 m7 h7 => ?_)
        obtain ⟨hp7, rfl⟩ := h7
        have hne : s8 ≠ q9 := fun e => by rw [e, hn9] at hf8; cases hf8
        refine v_areturn dX0_trace_183 rfl (Or.inl ⟨_, rfl⟩) ⟨q9, rfl, ⟨s8, g8, hp7.1, (hp7.2.2 s8 hne).trans hs8, fun i hi => (hgs8 i hi).trans (hgs i hi)⟩, fun b x hb => ?_, ?_, ?_, ?_⟩
        · have hb2 := hkeep b x hb
          have hb3 := hp9.2.2 b x hb2
          have hb4 := hk8 b x hb3
          exact (hp7.2.2 b (fun e => by rw [e, hp9.2.1] at hb2; cases hb2)).trans hb4
        · cases hz : f q9 with
          | none => rfl
          | some x => have := hkeep q9 x hz; rw [hp9.2.1] at this; cases this
        · rw [hm']
        · rw [hm']; show m.2 + 23 + 2 + _ ≤ m.2 + 44; omega
      · exact absurd (nI_lt (by omega) (by omega)) b57
    | succ k ih =>
      intro i hi9 f1 g hg hgs hkeep
      have hE := sEk_ok hi hhi lo hlt i (by omega)
      have hall : ∀ j, j < (sTr lo hi i).length → (sTr lo hi i).getD j 0 < 2 ^ 31 := fun j hj => sTr_lt hlt hhi i (by omega) j hj
      have app : ¬ (((sTr lo hi i).length ≠ 0 ∧ (sTr lo hi i).getD ((sTr lo hi i).length - 1) 0 = sSq lo hi i) ∨ 23 ≤ (sTr lo hi i).length) → (∀ (i : Nat), i + k = sN lo hi + 1 → ∀ (f1 : zHM) (g : Nat → Int32), f1 q = some (900, .inl (0, 23, .inl g)) → (∀ j, j < (sTr lo hi i).length → g j = nI ((sTr lo hi i).getD j 0)) → (∀ b x, f b = some x → f1 b = some x) → zV G yX0_trace cX0_trace 13 (some (.object "RingThreads$Line")) 2 53 [(0, .int (nI lo)), (1, .int (nI hi)), (2, .int (sX lo)), (3, .int (sY lo)), (4, .int (sDX lo hi)), (5, .int (sDY lo hi)), (6, .int (nI (sN lo hi))), (7, .ref q), (8, .int (nI (sTr lo hi i).length)), (9, .int (nI i))] [] (f1, m') (zDr (fun q f' m' => LineAt f' tl q lo hi ∧ (∀ b x, f b = some x → f' b = some x) ∧ f q = none ∧ m'.1 = m.1 + 3 ∧ m'.2 ≤ m.2 + 44))) → zV G yX0_trace cX0_trace 13 (some (.object "RingThreads$Line")) 2 132 [(0, .int (nI lo)), (1, .int (nI hi)), (2, .int (sX lo)), (3, .int (sY lo)), (4, .int (sDX lo hi)), (5, .int (sDY lo hi)), (6, .int (nI (sN lo hi))), (7, .ref q), (8, .int (nI (sTr lo hi i).length)), (9, .int (nI i)), (12, .int (nI (sSq lo hi i)))] [] (f1, m') (zDr (fun q f' m' => LineAt f' tl q lo hi ∧ (∀ b x, f b = some x → f' b = some x) ∧ f q = none ∧ m'.1 = m.1 + 3 ∧ m'.2 ≤ m.2 + 44)) := by
        intro hno ih
        have h23 : ¬ 23 ≤ (sTr lo hi i).length := fun h => hno (Or.inr h)
        have he : sTr lo hi (i + 1) = sTr lo hi i ++ [sSq lo hi i] := if_neg hno
        refine v_iload dX0_trace_132 rfl ?_
        refine v_bipush (nI 23) dX0_trace_134 (by decide) ?_
        refine v_icmp_ge 149 dX0_trace_136 (by decide) (fun b136 => absurd b136 (nI_ge (by omega) (by omega))) (fun b136 => ?_)
        refine v_aload dX0_trace_139 rfl ?_
        refine v_iload dX0_trace_141 rfl ?_
        refine v_iload dX0_trace_143 rfl ?_
        refine v_iastoreX dX0_trace_145 (by assumption) (vp_in_nI (by omega) (by omega)) (fun f hp => ?_)
        have hg := hp.1
        refine v_iincN dX0_trace_146 rfl (by decide) ?_
        refine v_iincN dX0_trace_149 rfl (by decide) ?_
        refine v_goto 53 dX0_trace_152 (by decide) ?_
        refine v_loc (lv' := [(0, .int (nI lo)), (1, .int (nI hi)), (2, .int (sX lo)), (3, .int (sY lo)), (4, .int (sDX lo hi)), (5, .int (sDY lo hi)), (6, .int (nI (sN lo hi))), (7, .ref q), (8, .int (nI (sTr lo hi (i + 1)).length)), (9, .int (nI (i + 1)))]) ⟨rfl, rfl, rfl, rfl, rfl, rfl, rfl, rfl, zlkE rfl (by rw [he, List.length_append]; rfl), rfl, trivial⟩ (ih (i + 1) (by omega) f _ hg (fun j hj => ?_) (fun b x hb => ?_))
        · rw [nI_clamp (by omega)]
          rw [he] at hj ⊢
          rw [List.length_append, List.length_singleton] at hj
          by_cases hjl : j = (sTr lo hi i).length
          · subst hjl; rw [pk_us]; simp [List.getD]
          · rw [pk_un hjl, hgs j (by omega)]; simp only [List.getD]; rw [List.getElem?_append_left (by omega)]
        · have h1 := hkeep b x hb
          exact (hp.2.2 b (fun e => by rw [e, hfq] at hb; cases hb)).trans h1
      refine v_iload dX0_trace_53 rfl ?_
      refine v_iload dX0_trace_55 rfl ?_
      refine v_icmp_gt 155 dX0_trace_57 (by decide) (fun b57 => ?_) (fun b57 => ?_)
      · exact absurd b57 (nI_nlt (by omega) (by omega))
      · refine v_iload dX0_trace_60 rfl ?_
        refine v_if_le 155 dX0_trace_62 (by decide) (fun b62 => ?_) (fun b62 => ?_)
        · exact absurd b62 (nI_nle (by omega) (by omega))
        · refine v_iload_n dX0_trace_65 rfl rfl ?_
          refine v_iload dX0_trace_66 rfl ?_
          refine v_iload dX0_trace_68 rfl ?_
          refine v_imul dX0_trace_70 ?_
          refine v_iload dX0_trace_71 rfl ?_
          refine v_idiv dX0_trace_73 (nI_ne0 (by omega) (by omega)) ?_
          refine v_iadd dX0_trace_74 ?_
          refine v_bipush (10) dX0_trace_75 (by decide) ?_
          refine v_idiv dX0_trace_77 (by decide) ?_
          refine v_bipush (11) dX0_trace_78 (by decide) ?_
          refine v_mmin kX0_22.1 gs_J9_min_7cf53 kX0_22.2.1 kX0_22.2.2.1 dX0_trace_80 (by decide) (Nat.le_of_ble_eq_true rfl) ?_
          refine v_istore dX0_trace_83 (by decide) ?_
          refine v_iload_n dX0_trace_85 rfl rfl ?_
          refine v_iload dX0_trace_86 rfl ?_
          refine v_iload dX0_trace_88 rfl ?_
          refine v_imul dX0_trace_90 ?_
          refine v_iload dX0_trace_91 rfl ?_
          refine v_idiv dX0_trace_93 (nI_ne0 (by omega) (by omega)) ?_
          refine v_iadd dX0_trace_94 ?_
          refine v_bipush (10) dX0_trace_95 (by decide) ?_
          refine v_idiv dX0_trace_97 (by decide) ?_
          refine v_bipush (11) dX0_trace_98 (by decide) ?_
          refine v_mmin kX0_22.1 gs_J9_min_7cf53 kX0_22.2.1 kX0_22.2.2.1 dX0_trace_100 (by decide) (Nat.le_of_ble_eq_true rfl) ?_
          refine v_istore dX0_trace_103 (by decide) ?_
          refine v_iload dX0_trace_105 rfl ?_
          refine v_bipush (12) dX0_trace_107 (by decide) ?_
          refine v_imul dX0_trace_109 ?_
          refine v_iload dX0_trace_110 rfl ?_
          refine v_iadd dX0_trace_112 ?_
          refine v_istore dX0_trace_113 (by decide) ?_
          refine v_loc (lv' := [(0, .int (nI lo)), (1, .int (nI hi)), (2, .int (sX lo)), (3, .int (sY lo)), (4, .int (sDX lo hi)), (5, .int (sDY lo hi)), (6, .int (nI (sN lo hi))), (7, .ref q), (8, .int (nI (sTr lo hi i).length)), (9, .int (nI i)), (12, .int (nI (sSq lo hi i)))]) ⟨rfl, rfl, rfl, rfl, rfl, rfl, rfl, rfl, rfl, rfl, zlkE (x := sEk lo hi i) rfl hE.1, trivial⟩ ?_
          have hl8 := sTr_le lo hi i
          have hk0 : (9 : Nat) = 9 := rfl
          refine v_iload dX0_trace_115 rfl ?_
          refine v_if_eq 132 dX0_trace_117 (by decide) (fun b117 => ?_) (fun b117 => ?_)
          · have hz : (sTr lo hi i).length = 0 := (nI_eq (by omega) (by omega)).mp b117
            exact app ((not_or.mpr ⟨fun h => h.1 hz, by omega⟩)) ih
          · have hz : (sTr lo hi i).length ≠ 0 := fun hz => b117 (by rw [hz]; rfl)
            refine v_aload dX0_trace_120 rfl ?_
            refine v_iload dX0_trace_122 rfl ?_
            refine v_iconst (nI 1) dX0_trace_124 (by decide) ?_
            refine v_isub dX0_trace_125 ?_
            rw [pk_sub (by omega)]
            refine v_iaload dX0_trace_126 (by assumption) (vp_in_nI (by omega) (by omega)) ?_
            rw [nI_clamp (by omega), hgs _ (by omega)]
            refine v_iload dX0_trace_127 rfl ?_
            refine v_icmp_eq 149 dX0_trace_129 (by decide) (fun b129 => ?_) (fun b129 => ?_)
            · have he : sTr lo hi (i + 1) = sTr lo hi i := if_pos (Or.inl ⟨hz, (nI_eq (hall _ (by omega)) (by omega)).mp b129⟩)
              refine v_iincN dX0_trace_149 rfl (by decide) ?_
              refine v_goto 53 dX0_trace_152 (by decide) ?_
              exact v_loc (lv' := [(0, .int (nI lo)), (1, .int (nI hi)), (2, .int (sX lo)), (3, .int (sY lo)), (4, .int (sDX lo hi)), (5, .int (sDY lo hi)), (6, .int (nI (sN lo hi))), (7, .ref q), (8, .int (nI (sTr lo hi (i + 1)).length)), (9, .int (nI (i + 1)))]) ⟨rfl, rfl, rfl, rfl, rfl, rfl, rfl, rfl, zlkE rfl (by rw [he]), rfl, trivial⟩ (ih (i + 1) (by omega) f1 g hg (by rw [he]; exact hgs) hkeep)
            · by_cases h23 : 23 ≤ (sTr lo hi i).length
              · have he : sTr lo hi (i + 1) = sTr lo hi i := if_pos (Or.inr h23)
                refine v_iload dX0_trace_132 rfl ?_
                refine v_bipush (nI 23) dX0_trace_134 (by decide) ?_
                refine v_icmp_ge 149 dX0_trace_136 (by decide) (fun b136 => ?_) (fun b136 => ?_)
                · refine v_iincN dX0_trace_149 rfl (by decide) ?_
                  refine v_goto 53 dX0_trace_152 (by decide) ?_
                  exact v_loc (lv' := [(0, .int (nI lo)), (1, .int (nI hi)), (2, .int (sX lo)), (3, .int (sY lo)), (4, .int (sDX lo hi)), (5, .int (sDY lo hi)), (6, .int (nI (sN lo hi))), (7, .ref q), (8, .int (nI (sTr lo hi (i + 1)).length)), (9, .int (nI (i + 1)))]) ⟨rfl, rfl, rfl, rfl, rfl, rfl, rfl, rfl, zlkE rfl (by rw [he]), rfl, trivial⟩ (ih (i + 1) (by omega) f1 g hg (by rw [he]; exact hgs) hkeep)
                · exact absurd (nI_le h23 (by omega)) b136
              · exact app (not_or.mpr ⟨fun h => b129 (by rw [h.2]), h23⟩) ih
  refine v_astore dX0_trace_45 (by decide) ?_
  refine v_iconst (0) dX0_trace_47 (by decide) ?_
  refine v_istore dX0_trace_48 (by decide) ?_
  refine v_iconst (0) dX0_trace_50 (by decide) ?_
  refine v_istore dX0_trace_51 (by decide) ?_
  exact v_loc (lv' := [(0, .int (nI lo)), (1, .int (nI hi)), (2, .int (sX lo)), (3, .int (sY lo)), (4, .int (sDX lo hi)), (5, .int (sDY lo hi)), (6, .int (nI (sN lo hi))), (7, .ref q), (8, .int (nI (sTr lo hi 0).length)), (9, .int (nI 0))]) ⟨rfl, rfl, rfl, rfl, rfl, rfl, zlkE (x := sSt lo hi) rfl hs1, rfl, rfl, rfl, trivial⟩ (loop (sN lo hi + 1) 0 (by omega) f1 _ hpq.1 (fun j hj => absurd hj (Nat.not_lt_zero j)) hpq.2.2)
