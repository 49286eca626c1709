/-! THE LAW'S SMALL METHODS: cell, low, told. -/
section ZISHR
variable {G : zW} {y : MethodName} {cc : ByteArray} {nL : Nat} {ret : Option FieldType} {d : Nat} {pc : Nat} {lv : List (Nat × Value)} {st : List Value} {h : zH} {Q : zOut → zH → Prop}
theorem v_ishr {x z : Int32} (hd : decode cc pc = .ok (.ishr, 1)) (k : zV G y cc nL ret d (pc + 1) lv (.int (x >>> (z &&& 31)) :: st) h Q) : zV G y cc nL ret d pc lv (.int z :: .int x :: st) h Q := fun p e R s m args below meth c H locs cells slots n0 z0 ls C h1 h2 h3 h4 h5 h6 => lv_ishr C.1 C.2.1 hd (k p e R s m args below meth c H locs cells slots n0 z0 ls C h1 h2 h3 h4 h5 h6)
end ZISHR
theorem and31b (v : Int32) : v &&& 2147483647 = nI (v.toBitVec.toNat % 2147483648) := pk_and v 31 (by decide)
theorem and15 (v : Int32) : v &&& 15 = nI (v.toBitVec.toNat % 16) := pk_and v 4 (by decide)
theorem low_ok (v : Int32) {d : Nat} (h0 : 0 < d) (h1 : d < 2 ^ 31) : (v &&& 2147483647) - (v &&& 2147483647) / nI d * nI d = nI (lw v d) := by
  rw [and31b, pk_rem (by omega) h0 h1]
  rfl
theorem nI_ne {d : Nat} (h0 : 0 < d) (h1 : d < 2 ^ 31) : ¬ nI d = 0 := nI_ne0 h0 h1
/-- the script's cell, or the law's own number -/
def sCell (G : zW) (i : Nat) : Int32 := if i < (zSc G).2.1 then (zSc G).2.2 i else 7919 * (nI i + 3) * (nI i + 11)
set_option maxRecDepth 10000 in
set_option maxHeartbeats 1000000 in
theorem c_low {G : zW} {f : zHM} {m : Nat × Nat} (v : Int32) {d : Nat} (h0 : 0 < d) (h1 : d < 2 ^ 31) : zM G yL_low cL_low 2 (some .int) 6 [.int v, .int (nI d)] (f, m) (zS (.int (nI (lw v d))) f m) := by
  refine zM.of (by decide) (Nat.le_of_ble_eq_true rfl) ?_
  refine v_iload_n dL_low_0 rfl rfl ?_
  refine v_ldc (2147483647) dL_low_1 gLmax ?_
  refine v_iand dL_low_3 ?_
  refine v_iload_n dL_low_4 rfl rfl ?_
  refine v_irem dL_low_5 (nI_ne h0 h1) ?_
  rw [low_ok v h0 h1]
  exact v_ireturn dL_low_6 rfl ⟨rfl, rfl, rfl⟩
set_option maxRecDepth 10000 in
set_option maxHeartbeats 1000000 in
theorem c_cell {G : zW} {f : zHM} {m : Nat × Nat} (hL : (zSc G).2.1 ≤ 260) {i : Nat} (hi : i < 100) : zM G yL_cell cL_cell 2 (some .int) 2 [.ref (zSc G).1, .int (nI i)] (f, m) (zS (.int (sCell G i)) f m) := by
  refine zM.of (by decide) (Nat.le_of_ble_eq_true rfl) ?_
  refine v_iload_n dL_cell_0 rfl rfl ?_
  refine v_aload_n dL_cell_1 rfl rfl ?_
  refine v_slen dL_cell_2 ?_
  refine v_icmp_ge 12 dL_cell_3 (by decide) (fun b3 => ?_) (fun b3 => ?_)
  · have c3 : ¬ i < (zSc G).2.1 := by
      have z : nI (zSc G).2.1 ≤ nI i := b3
      rw [nI_leI (by omega) (by omega)] at z
      omega
    refine v_sipush (7919) dL_cell_12 (by decide) ?_
    refine v_iload_n dL_cell_15 rfl rfl ?_
    refine v_iconst (3) dL_cell_16 (by decide) ?_
    refine v_iadd dL_cell_17 ?_
    refine v_imul dL_cell_18 ?_
    refine v_iload_n dL_cell_19 rfl rfl ?_
    refine v_bipush (11) dL_cell_20 (by decide) ?_
    refine v_iadd dL_cell_22 ?_
    refine v_imul dL_cell_23 ?_
    exact v_ireturn dL_cell_24 rfl ⟨by unfold sCell; first | rw [if_pos c3] | rw [if_neg c3], rfl, rfl⟩
  · have c3 : i < (zSc G).2.1 := by
      have z : ¬ nI (zSc G).2.1 ≤ nI i := b3
      rw [nI_leI (by omega) (by omega)] at z
      omega
    refine v_aload_n dL_cell_6 rfl rfl ?_
    refine v_iload_n dL_cell_7 rfl rfl ?_
    refine v_sload dL_cell_8 (vp_in_nI c3 (by omega)) ?_
    rw [nI_clamp (by omega)]
    refine v_goto 24 dL_cell_9 (by decide) ?_
    exact v_ireturn dL_cell_24 rfl ⟨by unfold sCell; first | rw [if_pos c3] | rw [if_neg c3], rfl, rfl⟩
theorem sCount_k (ρ : zRS) (s n k : Nat) : ∀ w, w < 12 → sCount ρ s n k w = sCount ρ s n 0 w := fun w hw => by
  rcases (by omega : w = 0 ∨ w = 1 ∨ w = 2 ∨ w = 3 ∨ w = 4 ∨ w = 5 ∨ w = 6 ∨ w = 7 ∨ w = 8 ∨ w = 9 ∨ w = 10 ∨ w = 11) with e | e | e | e | e | e | e | e | e | e | e | e <;> subst e <;> rfl
theorem ci_cnt {G : zW} {f : zHM} {m : Nat × Nat} {x k L : Nat} {st : Nat → zST} {ss : Nat → Option zST} {S : zST} {ch : Nat → Nat} {J : Nat × Nat} (h : CI f m x k st ss S L ch J) (i : IVS S) {w : Nat} (hw : w < 12) : zM G yX3_count cX3_count 2 (some .int) 7 [.ref x, .int (nI w)] (f, m) (zD (some (.int (sCount S.1 (zs S) S.2.1 0 w))) (CP x k st ss S L ch J)) := by
  rw [← sCount_k S.1 (zs S) S.2.1 k w hw]
  exact ci_count h i (by omega)
def tF (F : Nat → Int32) (h0 : Int64) : Nat → Int64
  | 0 => h0
  | n + 1 => 31 * tF F h0 n + (F n).toInt64
def tF2 (A B : Nat → Int32) (h0 : Int64) : Nat → Int64
  | 0 => h0
  | n + 1 => 31 * (31 * tF2 A B h0 n + (A n).toInt64) + (B n).toInt64
def sT1 (S : zST) : Nat → Int64 := tF (fun w => sCount S.1 (zs S) S.2.1 0 w) 3
def sT2 (S : zST) : Nat → Int64 := tF (fun k => sSpoolOf S.1 (zs S) S.2.1 (k / 5) (k % 5)) (sT1 S 12)
def sT3 (S : zST) : Nat → Int64 := tF (fun k => sWound S.1 S.2.1 (k / 3) (k % 3)) (sT2 S 15)
def sT4 (S : zST) : Nat → Int64 := tF2 (fun q => sSquare S.1 S.2.2.1 (q / 12 * 12 + q % 12) 0) (fun q => sSquare S.1 S.2.2.1 (q / 12 * 12 + q % 12) 1) (sT3 S 12)
/-- all that a state tells, in one long -/
def sTold (S : zST) : Int64 := sT4 S 144
set_option maxRecDepth 10000 in
set_option maxHeartbeats 1000000 in
theorem c_told {G : zW} {f : zHM} {m : Nat × Nat} {x ks L : Nat} {st : Nat → zST} {ss : Nat → Option zST} {S : zST} {ch : Nat → Nat} {J : Nat × Nat} (h : CI f m x ks st ss S L ch J) (iv : IVS S) : zM G yL_told cL_told 4 (some .long) 8 [.ref x] (f, m) (zD (some (.long (sTold S))) (CP x ks st ss S L ch J)) := by
  refine zM.of (by decide) (Nat.le_of_ble_eq_true rfl) ?_
  have loop4 : ∀ (k i : Nat), i + k = 144 → ∀ (f : zHM) (m : Nat × Nat), CI f m x ks st ss S L ch J → zV G yL_told cL_told 4 (some .long) 8 97 [(0, .ref x), (1, .long (sT4 S (i))), (3, .int (nI (i)))] [] (f, m) (zD (some (.long (sTold S))) (CP x ks st ss S L ch J)) := by
    intro k
    induction k with
    | zero =>
      intro i hi f m h
      have hi : i = 144 := by omega
      subst hi
      obtain ⟨vx, hx⟩ := h.x
      refine v_iload_n dL_told_97 rfl rfl ?_
      refine v_sipush (nI 144) dL_told_98 (by decide) ?_
      refine v_icmp_ge 150 dL_told_101 (by decide) (fun b101 => ?_) (fun b101 => ?_)
      · refine v_lload_n dL_told_150 rfl rfl ?_
        exact v_lreturn dL_told_151 rfl ⟨rfl, h⟩
      · exact absurd (nI_le (by omega) (by omega)) b101
    | succ k ih =>
      intro i hi f m h
      have h9 : i < 144 := by omega
      obtain ⟨vx, hx⟩ := h.x
      refine v_iload_n dL_told_97 rfl rfl ?_
      refine v_sipush (nI 144) dL_told_98 (by decide) ?_
      refine v_icmp_ge 150 dL_told_101 (by decide) (fun b101 => ?_) (fun b101 => ?_)
      · exact absurd b101 (nI_ge h9 (by omega))
      · refine v_ldc2 (31) dL_told_104 gL31 ?_
        refine v_ldc2 (31) dL_told_107 gL31 ?_
        refine v_lload_n dL_told_110 rfl rfl ?_
        refine v_lmul dL_told_111 ?_
        refine v_aload_n dL_told_112 rfl rfl ?_
        refine v_iload_n dL_told_113 rfl rfl ?_
        refine v_bipush (nI 12) dL_told_114 (by decide) ?_
        refine v_irem dL_told_116 (by decide) ?_
        refine v_iload_n dL_told_117 rfl rfl ?_
        refine v_bipush (nI 12) dL_told_118 (by decide) ?_
        refine v_idiv dL_told_120 (by decide) ?_
        rw [pk_rem (a := i) (d := 12) (by omega) (by decide) (by decide), pk_div (a := i) (d := 12) (by omega) (by decide) (by decide)]
        refine v_iconst (nI 0) dL_told_121 (by decide) ?_
        refine v_callVp kL_25 gi_X3_square ge_X3_square rfl dL_told_122 (by assumption) (ci_square h (a := i % 12) (b := i / 12) (w := 0) (by omega) (by omega) (by omega)) rfl rfl (by decide) (Nat.le_of_ble_eq_true rfl) ?_
        refine v_i2l dL_told_125 ?_
        refine v_ladd dL_told_126 ?_
        refine v_lmul dL_told_127 ?_
        refine v_aload_n dL_told_128 rfl rfl ?_
        refine v_iload_n dL_told_129 rfl rfl ?_
        refine v_bipush (nI 12) dL_told_130 (by decide) ?_
        refine v_irem dL_told_132 (by decide) ?_
        refine v_iload_n dL_told_133 rfl rfl ?_
        refine v_bipush (nI 12) dL_told_134 (by decide) ?_
        refine v_idiv dL_told_136 (by decide) ?_
        rw [pk_rem (a := i) (d := 12) (by omega) (by decide) (by decide), pk_div (a := i) (d := 12) (by omega) (by decide) (by decide)]
        refine v_iconst (nI 1) dL_told_137 (by decide) ?_
        refine v_callVp kL_25 gi_X3_square ge_X3_square rfl dL_told_138 (by assumption) (ci_square h (a := i % 12) (b := i / 12) (w := 1) (by omega) (by omega) (by omega)) rfl rfl (by decide) (Nat.le_of_ble_eq_true rfl) ?_
        refine v_i2l dL_told_141 ?_
        refine v_ladd dL_told_142 ?_
        refine v_lstore_n dL_told_143 rfl (by decide) ?_
        refine v_iincN dL_told_144 rfl (by decide) ?_
        refine v_goto 97 dL_told_147 (by decide) ?_
        exact v_loc (lv' := [(0, .ref x), (1, .long (sT4 S (i + 1))), (3, .int (nI (i + 1)))]) ⟨rfl, rfl, rfl, trivial⟩ (ih (i + 1) (by omega) f m h)
  have loop3 : ∀ (k i : Nat), i + k = 12 → ∀ (f : zHM) (m : Nat × Nat), CI f m x ks st ss S L ch J → zV G yL_told cL_told 4 (some .long) 8 65 [(0, .ref x), (1, .long (sT3 S (i))), (3, .int (nI (i)))] [] (f, m) (zD (some (.long (sTold S))) (CP x ks st ss S L ch J)) := by
    intro k
    induction k with
    | zero =>
      intro i hi f m h
      have hi : i = 12 := by omega
      subst hi
      obtain ⟨vx, hx⟩ := h.x
      refine v_iload_n dL_told_65 rfl rfl ?_
      refine v_bipush (nI 12) dL_told_66 (by decide) ?_
      refine v_icmp_ge 95 dL_told_68 (by decide) (fun b68 => ?_) (fun b68 => ?_)
      · refine v_iconst (0) dL_told_95 (by decide) ?_
        refine v_istore_n dL_told_96 rfl (by decide) ?_
        exact v_loc (lv' := [(0, .ref x), (1, .long (sT4 S (0))), (3, .int (nI (0)))]) ⟨rfl, rfl, rfl, trivial⟩ (loop4 144 0 rfl f m h)
      · exact absurd (nI_le (by omega) (by omega)) b68
    | succ k ih =>
      intro i hi f m h
      have h9 : i < 12 := by omega
      obtain ⟨vx, hx⟩ := h.x
      refine v_iload_n dL_told_65 rfl rfl ?_
      refine v_bipush (nI 12) dL_told_66 (by decide) ?_
      refine v_icmp_ge 95 dL_told_68 (by decide) (fun b68 => ?_) (fun b68 => ?_)
      · exact absurd b68 (nI_ge h9 (by omega))
      · refine v_ldc2 (31) dL_told_71 gL31 ?_
        refine v_lload_n dL_told_74 rfl rfl ?_
        refine v_lmul dL_told_75 ?_
        refine v_aload_n dL_told_76 rfl rfl ?_
        refine v_iload_n dL_told_77 rfl rfl ?_
        refine v_iconst (nI 3) dL_told_78 (by decide) ?_
        refine v_idiv dL_told_79 (by decide) ?_
        refine v_iload_n dL_told_80 rfl rfl ?_
        refine v_iconst (nI 3) dL_told_81 (by decide) ?_
        refine v_irem dL_told_82 (by decide) ?_
        rw [pk_rem (a := i) (d := 3) (by omega) (by decide) (by decide), pk_div (a := i) (d := 3) (by omega) (by decide) (by decide)]
        refine v_callVp kL_22 gi_X3_wound ge_X3_wound rfl dL_told_83 (by assumption) (ci_wound h iv (g := i / 3) (w := i % 3) (by omega) (by omega)) rfl rfl (by decide) (Nat.le_of_ble_eq_true rfl) ?_
        refine v_i2l dL_told_86 ?_
        refine v_ladd dL_told_87 ?_
        refine v_lstore_n dL_told_88 rfl (by decide) ?_
        refine v_iincN dL_told_89 rfl (by decide) ?_
        refine v_goto 65 dL_told_92 (by decide) ?_
        exact v_loc (lv' := [(0, .ref x), (1, .long (sT3 S (i + 1))), (3, .int (nI (i + 1)))]) ⟨rfl, rfl, rfl, trivial⟩ (ih (i + 1) (by omega) f m h)
  have loop2 : ∀ (k i : Nat), i + k = 15 → ∀ (f : zHM) (m : Nat × Nat), CI f m x ks st ss S L ch J → zV G yL_told cL_told 4 (some .long) 8 33 [(0, .ref x), (1, .long (sT2 S (i))), (3, .int (nI (i)))] [] (f, m) (zD (some (.long (sTold S))) (CP x ks st ss S L ch J)) := by
    intro k
    induction k with
    | zero =>
      intro i hi f m h
      have hi : i = 15 := by omega
      subst hi
      obtain ⟨vx, hx⟩ := h.x
      refine v_iload_n dL_told_33 rfl rfl ?_
      refine v_bipush (nI 15) dL_told_34 (by decide) ?_
      refine v_icmp_ge 63 dL_told_36 (by decide) (fun b36 => ?_) (fun b36 => ?_)
      · refine v_iconst (0) dL_told_63 (by decide) ?_
        refine v_istore_n dL_told_64 rfl (by decide) ?_
        exact v_loc (lv' := [(0, .ref x), (1, .long (sT3 S (0))), (3, .int (nI (0)))]) ⟨rfl, rfl, rfl, trivial⟩ (loop3 12 0 rfl f m h)
      · exact absurd (nI_le (by omega) (by omega)) b36
    | succ k ih =>
      intro i hi f m h
      have h9 : i < 15 := by omega
      obtain ⟨vx, hx⟩ := h.x
      refine v_iload_n dL_told_33 rfl rfl ?_
      refine v_bipush (nI 15) dL_told_34 (by decide) ?_
      refine v_icmp_ge 63 dL_told_36 (by decide) (fun b36 => ?_) (fun b36 => ?_)
      · exact absurd b36 (nI_ge h9 (by omega))
      · refine v_ldc2 (31) dL_told_39 gL31 ?_
        refine v_lload_n dL_told_42 rfl rfl ?_
        refine v_lmul dL_told_43 ?_
        refine v_aload_n dL_told_44 rfl rfl ?_
        refine v_iload_n dL_told_45 rfl rfl ?_
        refine v_iconst (nI 5) dL_told_46 (by decide) ?_
        refine v_idiv dL_told_47 (by decide) ?_
        refine v_iload_n dL_told_48 rfl rfl ?_
        refine v_iconst (nI 5) dL_told_49 (by decide) ?_
        refine v_irem dL_told_50 (by decide) ?_
        rw [pk_rem (a := i) (d := 5) (by omega) (by decide) (by decide), pk_div (a := i) (d := 5) (by omega) (by decide) (by decide)]
        refine v_callV1 kL_18 gi_X3_spoolOf ge_X3_spoolOf rfl dL_told_51 (by assumption) (ci_spoolOf h iv (u := i / 5) (w := i % 5) (by omega) (by omega)) rfl rfl (by decide) (Nat.le_of_ble_eq_true rfl) (fun f m hc => ?_)
        have h := hc
        obtain ⟨vx, hx⟩ := h.x
        refine v_i2l dL_told_54 ?_
        refine v_ladd dL_told_55 ?_
        refine v_lstore_n dL_told_56 rfl (by decide) ?_
        refine v_iincN dL_told_57 rfl (by decide) ?_
        refine v_goto 33 dL_told_60 (by decide) ?_
        exact v_loc (lv' := [(0, .ref x), (1, .long (sT2 S (i + 1))), (3, .int (nI (i + 1)))]) ⟨rfl, rfl, rfl, trivial⟩ (ih (i + 1) (by omega) f m h)
  have loop1 : ∀ (k i : Nat), i + k = 12 → ∀ (f : zHM) (m : Nat × Nat), CI f m x ks st ss S L ch J → zV G yL_told cL_told 4 (some .long) 8 6 [(0, .ref x), (1, .long (sT1 S (i))), (3, .int (nI (i)))] [] (f, m) (zD (some (.long (sTold S))) (CP x ks st ss S L ch J)) := by
    intro k
    induction k with
    | zero =>
      intro i hi f m h
      have hi : i = 12 := by omega
      subst hi
      obtain ⟨vx, hx⟩ := h.x
      refine v_iload_n dL_told_6 rfl rfl ?_
      refine v_bipush (nI 12) dL_told_7 (by decide) ?_
      refine v_icmp_ge 31 dL_told_9 (by decide) (fun b9 => ?_) (fun b9 => ?_)
      · refine v_iconst (0) dL_told_31 (by decide) ?_
        refine v_istore_n dL_told_32 rfl (by decide) ?_
        exact v_loc (lv' := [(0, .ref x), (1, .long (sT2 S (0))), (3, .int (nI (0)))]) ⟨rfl, rfl, rfl, trivial⟩ (loop2 15 0 rfl f m h)
      · exact absurd (nI_le (by omega) (by omega)) b9
    | succ k ih =>
      intro i hi f m h
      have h9 : i < 12 := by omega
      obtain ⟨vx, hx⟩ := h.x
      refine v_iload_n dL_told_6 rfl rfl ?_
      refine v_bipush (nI 12) dL_told_7 (by decide) ?_
      refine v_icmp_ge 31 dL_told_9 (by decide) (fun b9 => ?_) (fun b9 => ?_)
      · exact absurd b9 (nI_ge h9 (by omega))
      · refine v_ldc2 (31) dL_told_12 gL31 ?_
        refine v_lload_n dL_told_15 rfl rfl ?_
        refine v_lmul dL_told_16 ?_
        refine v_aload_n dL_told_17 rfl rfl ?_
        refine v_iload_n dL_told_18 rfl rfl ?_
        refine v_callV1 kL_12 gi_X3_count ge_X3_count rfl dL_told_19 (by assumption) (ci_cnt h iv h9) rfl rfl (by decide) (Nat.le_of_ble_eq_true rfl) (fun f m hc => ?_)
        have h := hc
        obtain ⟨vx, hx⟩ := h.x
        refine v_i2l dL_told_22 ?_
        refine v_ladd dL_told_23 ?_
        refine v_lstore_n dL_told_24 rfl (by decide) ?_
        refine v_iincN dL_told_25 rfl (by decide) ?_
        refine v_goto 6 dL_told_28 (by decide) ?_
        exact v_loc (lv' := [(0, .ref x), (1, .long (sT1 S (i + 1))), (3, .int (nI (i + 1)))]) ⟨rfl, rfl, rfl, trivial⟩ (ih (i + 1) (by omega) f m h)
  refine v_ldc2 (3) dL_told_0 gL3 ?_
  refine v_lstore_n dL_told_3 rfl (by decide) ?_
  refine v_iconst (0) dL_told_4 (by decide) ?_
  refine v_istore_n dL_told_5 rfl (by decide) ?_
  exact v_loc (lv' := [(0, .ref x), (1, .long (sT1 S (0))), (3, .int (nI (0)))]) ⟨rfl, rfl, rfl, trivial⟩ (loop1 12 0 rfl f m h)
