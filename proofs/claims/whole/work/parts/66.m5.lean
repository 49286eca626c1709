theorem sSt_le {lo hi : Nat} (h : sAbs (sX hi - sX lo) ≤ sAbs (sY hi - sY lo)) : sSt lo hi = sAbs (sY hi - sY lo) := by
  show (if sAbs (sX hi - sX lo) < sAbs (sY hi - sY lo) then sAbs (sY hi - sY lo) else sAbs (sX hi - sX lo)) = _
  split
  · rfl
  · rename_i h2
    exact Int32.le_antisymm h (Int32.not_lt.mp h2)
theorem sSt_gt {lo hi : Nat} (h : ¬ sAbs (sX hi - sX lo) ≤ sAbs (sY hi - sY lo)) : sSt lo hi = sAbs (sX hi - sX lo) := if_neg (fun z => h (Int32.le_of_lt z))
set_option maxRecDepth 10000 in
set_option maxHeartbeats 1000000 in
theorem c_laysC_tail {G : zW} {f : zHM} {m : Nat × Nat} {o : Nat} {B : Nat → Nat} {w : Nat → Int32} {hh : Int64} {σ : Nat → Int32} (ho : f o = some (700, .inr (4, zMo B w hh))) (hs : f (B 0) = some (701, .inl (0, 904, .inl σ))) {N s : Nat} (hN : σ 0 = nI N) (hNs : N * s = 24) (hN4 : 4 ≤ N) {l h : Nat} (hlh : l < h) (hh4 : h < N) {mr : Nat} (hmr : w 4 = nI mr) (hmr9 : mr < 2 ^ 30) {gc gm : Nat → Int32} (hcr : f (B 5) = some (706, .inl (0, 144, .inl gc))) (hmk : f (B 6) = some (707, .inl (0, 144, .inl gm))) (hgm : ∀ q, q < 144 → ∃ j, j ≤ mr ∧ gm q = nI j) : zV G yX4_laysCrossed cX4_laysCrossed 9 none 4 23 [(0, .ref o), (3, .int (nI l)), (4, .int (nI h))] [] (f, m) (zD none (fun f' m' => MCr f' o B w hh mr (sPT (l * s) (h * s)) ∧ zFr zTX f f' ∧ m' = m)) := by
  have hl4 : l < N := by omega
  have hN24 : N ≤ 24 := by
    rcases Nat.eq_zero_or_pos s with e | e
    · rw [e] at hNs; omega
    · have := Nat.le_mul_of_pos_right N e; omega
  have hs0 : 0 < s := by
    rcases Nat.eq_zero_or_pos s with e | e
    · rw [e] at hNs; omega
    · exact e
  have hlo : l * s < h * s := Nat.mul_lt_mul_of_pos_right hlh hs0
  have hhi : h * s < 24 := by
    have h1 := Nat.mul_lt_mul_of_pos_right hh4 hs0
    omega
  obtain ⟨hn1, hn2, hn3, -⟩ := sN_ok (h * s) hhi (l * s) hlo
  have hw1 : nI mr + 1 = nI (mr + 1) := nI_1 mr
  have loop : ∀ (kk k : Nat), k + kk = sN (l * s) (h * s) + 1 → ∀ f2 : zHM, MCr f2 o B w hh mr (sDL (l * s) (h * s) k) → zFr zTX f f2 → zV G yX4_laysCrossed cX4_laysCrossed 9 none 4 97 [(0, .ref o), (3, .int (nI l)), (5, .int (sDX (l * s) (h * s))), (6, .int (sDY (l * s) (h * s))), (7, .int (nI (sN (l * s) (h * s)))), (8, .int (nI k))] [] (f2, m) (zD none (fun f' m' => MCr f' o B w hh mr (sPT (l * s) (h * s)) ∧ zFr zTX f f' ∧ m' = m)) := by
    intro kk
    induction kk with
    | zero =>
      intro k hk f2 hC hff
      have hk : k = sN (l * s) (h * s) + 1 := by omega
      subst hk
      refine v_iload dX4_laysCrossed_97 rfl ?_
      refine v_iload dX4_laysCrossed_99 rfl ?_
      refine v_icmp_gt 142 dX4_laysCrossed_101 (by decide) (fun b101 => ?_) (fun b101 => ?_)
      · rw [nI_ltI (by omega) (by omega)] at b101
        exact v_return dX4_laysCrossed_142 rfl ⟨rfl, by rw [sDL_ok hhi hlo] at hC; exact hC, hff, rfl⟩
      · rw [nI_ltI (by omega) (by omega)] at b101
        omega
    | succ kk ih =>
      intro k hk f2 hC hff
      have ho2 := hC.1
      have hs2 := hff _ _ _ hs (by omega)
      have hsq := sqM_ok hhi hlo (show k < sN (l * s) (h * s) + 1 by omega)
      refine v_iload dX4_laysCrossed_97 rfl ?_
      refine v_iload dX4_laysCrossed_99 rfl ?_
      refine v_icmp_gt 142 dX4_laysCrossed_101 (by decide) (fun b101 => ?_) (fun b101 => ?_)
      · rw [nI_ltI (by omega) (by omega)] at b101
        omega
      · rw [nI_ltI (by omega) (by omega)] at b101
        refine v_aload_n dX4_laysCrossed_104 rfl rfl ?_
        refine v_aload_n dX4_laysCrossed_105 rfl rfl ?_
        refine v_iload_n dX4_laysCrossed_106 rfl rfl ?_
        refine v_callVp kX4_53 gi_X4_x ge_X4_x rfl dX4_laysCrossed_107 (by assumption) (c_mx ho2 hs2 hN hNs hN4 hl4) rfl rfl (by decide) (Nat.le_of_ble_eq_true rfl) ?_
        refine v_iload dX4_laysCrossed_110 rfl ?_
        refine v_iload dX4_laysCrossed_112 rfl ?_
        refine v_imul dX4_laysCrossed_114 ?_
        refine v_iload dX4_laysCrossed_115 rfl ?_
        refine v_idiv dX4_laysCrossed_117 (by rw [show (0 : Int32) = nI 0 from rfl, nI_eq (by omega) (by omega)]; omega) ?_
        refine v_iadd dX4_laysCrossed_118 ?_
        refine v_aload_n dX4_laysCrossed_119 rfl rfl ?_
        refine v_iload_n dX4_laysCrossed_120 rfl rfl ?_
        refine v_callVp kX4_56 gi_X4_y ge_X4_y rfl dX4_laysCrossed_121 (by assumption) (c_my ho2 hs2 hN hNs hN4 hl4) rfl rfl (by decide) (Nat.le_of_ble_eq_true rfl) ?_
        refine v_iload dX4_laysCrossed_124 rfl ?_
        refine v_iload dX4_laysCrossed_126 rfl ?_
        refine v_imul dX4_laysCrossed_128 ?_
        refine v_iload dX4_laysCrossed_129 rfl ?_
        refine v_idiv dX4_laysCrossed_131 (by rw [show (0 : Int32) = nI 0 from rfl, nI_eq (by omega) (by omega)]; omega) ?_
        refine v_iadd dX4_laysCrossed_132 ?_
        refine v_callV0 kX4_74 gi_X4_crosses ge_X4_crosses rfl dX4_laysCrossed_133 ho2 (c_crosses hC (Nat.lt_of_le_of_lt (sDL_le hhi hlo (by omega)) (by omega)) hsq.2 (x := sXk (l * s) (h * s) k) (y := sYk (l * s) (h * s) k) hsq.1) rfl rfl (by decide) (Nat.le_of_ble_eq_true rfl) (fun f3 m3 hc => ?_)
        obtain ⟨hC3, hf3, rfl⟩ := hc
        refine v_iincN dX4_laysCrossed_136 rfl (by decide) ?_
        refine v_goto 97 dX4_laysCrossed_139 (by decide) ?_
        exact v_loc (lv' := [(0, .ref o), (3, .int (nI l)), (5, .int (sDX (l * s) (h * s))), (6, .int (sDY (l * s) (h * s))), (7, .int (nI (sN (l * s) (h * s)))), (8, .int (nI (k + 1)))]) ⟨rfl, rfl, rfl, rfl, rfl, rfl, trivial⟩ (ih (k + 1) (by omega) f3 hC3 (hff.trans hf3))
  have c79 : zV G yX4_laysCrossed cX4_laysCrossed 9 none 4 79 [(0, .ref o), (3, .int (nI l)), (5, .int (sDX (l * s) (h * s))), (6, .int (sDY (l * s) (h * s))), (7, .int (nI (sN (l * s) (h * s))))] [] (f, m) (zD none (fun f' m' => MCr f' o B w hh mr (sPT (l * s) (h * s)) ∧ zFr zTX f f' ∧ m' = m)) := by
    refine v_aload_n dX4_laysCrossed_79 rfl rfl ?_
    refine v_dup dX4_laysCrossed_80 rfl ?_
    refine v_getfield fX4_65 dX4_laysCrossed_81 ho (by rfl) ?_
    refine v_iconst (1) dX4_laysCrossed_84 (by decide) ?_
    refine v_iadd dX4_laysCrossed_85 ?_
    rw [hmr, hw1]
    refine v_putfieldX fX4_65 dX4_laysCrossed_86 ho rfl rfl (Nat.le_of_ble_eq_true rfl) (fun f1 hp1 => ?_)
    refine v_aload_n dX4_laysCrossed_89 rfl rfl ?_
    refine v_iconst (nI 0) dX4_laysCrossed_90 (by decide) ?_
    refine v_putfieldX fX4_68 dX4_laysCrossed_91 hp1.1 rfl rfl (Nat.le_of_ble_eq_true rfl) (fun f2 hp2 => ?_)
    refine v_iconst (nI 0) dX4_laysCrossed_94 (by decide) ?_
    refine v_istore dX4_laysCrossed_95 (by decide) ?_
    have hC : MCr f2 o B w hh mr (sDL (l * s) (h * s) 0) := by
      refine ⟨hp2.1, ⟨gc, hp2.ne (hp1.ne hcr (by omega)) (by omega), fun i hi => absurd hi (Nat.not_lt_zero i)⟩, gm, hp2.ne (hp1.ne hmk (by omega)) (by omega), fun q hq => ?_⟩
      obtain ⟨j, h1, h2⟩ := hgm q hq
      refine ⟨⟨fun z => absurd z (by simp [sDL]), fun z => ?_⟩, j, by omega, h2⟩
      rw [h2, nI_eq (by omega) (by omega)] at z
      omega
    exact v_loc (lv' := [(0, .ref o), (3, .int (nI l)), (5, .int (sDX (l * s) (h * s))), (6, .int (sDY (l * s) (h * s))), (7, .int (nI (sN (l * s) (h * s)))), (8, .int (nI 0))]) ⟨rfl, rfl, rfl, rfl, rfl, rfl, trivial⟩ (loop (sN (l * s) (h * s) + 1) 0 (by omega) f2 hC ((zFr.put (T := zTX) zFr.refl hp1 (Or.inl rfl)).put hp2 (Or.inl rfl)))
  refine v_aload_n dX4_laysCrossed_23 rfl rfl ?_
  refine v_iload dX4_laysCrossed_24 rfl ?_
  refine v_callVp kX4_53 gi_X4_x ge_X4_x rfl dX4_laysCrossed_26 (by assumption) (c_mx ho hs hN hNs hN4 hh4) rfl rfl (by decide) (Nat.le_of_ble_eq_true rfl) ?_
  refine v_aload_n dX4_laysCrossed_29 rfl rfl ?_
  refine v_iload_n dX4_laysCrossed_30 rfl rfl ?_
  refine v_callVp kX4_53 gi_X4_x ge_X4_x rfl dX4_laysCrossed_31 (by assumption) (c_mx ho hs hN hNs hN4 hl4) rfl rfl (by decide) (Nat.le_of_ble_eq_true rfl) ?_
  refine v_isub dX4_laysCrossed_34 ?_
  refine v_istore dX4_laysCrossed_35 (by decide) ?_
  refine v_aload_n dX4_laysCrossed_37 rfl rfl ?_
  refine v_iload dX4_laysCrossed_38 rfl ?_
  refine v_callVp kX4_56 gi_X4_y ge_X4_y rfl dX4_laysCrossed_40 (by assumption) (c_my ho hs hN hNs hN4 hh4) rfl rfl (by decide) (Nat.le_of_ble_eq_true rfl) ?_
  refine v_aload_n dX4_laysCrossed_43 rfl rfl ?_
  refine v_iload_n dX4_laysCrossed_44 rfl rfl ?_
  refine v_callVp kX4_56 gi_X4_y ge_X4_y rfl dX4_laysCrossed_45 (by assumption) (c_my ho hs hN hNs hN4 hl4) rfl rfl (by decide) (Nat.le_of_ble_eq_true rfl) ?_
  refine v_isub dX4_laysCrossed_48 ?_
  refine v_istore dX4_laysCrossed_49 (by decide) ?_
  refine v_iload dX4_laysCrossed_51 rfl ?_
  refine v_callSp kX4_71 gs_X4_abs dX4_laysCrossed_53 c_mabs rfl rfl (by decide) (Nat.le_of_ble_eq_true rfl) ?_
  refine v_iload dX4_laysCrossed_56 rfl ?_
  refine v_callSp kX4_71 gs_X4_abs dX4_laysCrossed_58 c_mabs rfl rfl (by decide) (Nat.le_of_ble_eq_true rfl) ?_
  refine v_icmp_le 72 dX4_laysCrossed_61 (by decide) (fun b61 => ?_) (fun b61 => ?_)
  · refine v_iload dX4_laysCrossed_72 rfl ?_
    refine v_callSp kX4_71 gs_X4_abs dX4_laysCrossed_74 c_mabs rfl rfl (by decide) (Nat.le_of_ble_eq_true rfl) ?_
    rw [show sAbs (sY (h * s) - sY (l * s)) = nI (sN (l * s) (h * s)) from by rw [← hn1]; exact (sSt_le b61).symm]
    refine v_istore dX4_laysCrossed_77 (by decide) ?_
    exact v_loc (lv' := [(0, .ref o), (3, .int (nI l)), (5, .int (sDX (l * s) (h * s))), (6, .int (sDY (l * s) (h * s))), (7, .int (nI (sN (l * s) (h * s))))]) ⟨rfl, rfl, rfl, rfl, rfl, trivial⟩ c79
  · refine v_iload dX4_laysCrossed_64 rfl ?_
    refine v_callSp kX4_71 gs_X4_abs dX4_laysCrossed_66 c_mabs rfl rfl (by decide) (Nat.le_of_ble_eq_true rfl) ?_
    refine v_goto 77 dX4_laysCrossed_69 (by decide) ?_
    rw [show sAbs (sX (h * s) - sX (l * s)) = nI (sN (l * s) (h * s)) from by rw [← hn1]; exact (sSt_gt b61).symm]
    refine v_istore dX4_laysCrossed_77 (by decide) ?_
    exact v_loc (lv' := [(0, .ref o), (3, .int (nI l)), (5, .int (sDX (l * s) (h * s))), (6, .int (sDY (l * s) (h * s))), (7, .int (nI (sN (l * s) (h * s))))]) ⟨rfl, rfl, rfl, rfl, rfl, trivial⟩ c79
