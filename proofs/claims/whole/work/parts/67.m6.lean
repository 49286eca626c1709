set_option maxRecDepth 10000 in
set_option maxHeartbeats 1000000 in
theorem c_laysCrossed {G : zW} {f : zHM} {m : Nat × Nat} {o : Nat} {B : Nat → Nat} {w : Nat → Int32} {hh : Int64} {σ : Nat → Int32} (ho : f o = some (700, .inr (4, zMo B w hh))) (hs : f (B 0) = some (701, .inl (0, 904, .inl σ))) {N s : Nat} (hN : σ 0 = nI N) (hNs : N * s = 24) (hN4 : 4 ≤ N) {a b : Nat} (ha : a < N) (hb : b < N) (hab : a ≠ b) {mr : Nat} (hmr : w 4 = nI mr) (hmr9 : mr < 2 ^ 30) {gc gm : Nat → Int32} (hcr : f (B 5) = some (706, .inl (0, 144, .inl gc))) (hmk : f (B 6) = some (707, .inl (0, 144, .inl gm))) (hgm : ∀ q, q < 144 → ∃ j, j ≤ mr ∧ gm q = nI j) : zM G yX4_laysCrossed cX4_laysCrossed 9 none 4 [.ref o, .int (nI a), .int (nI b)] (f, m) (zD none (fun f' m' => MCr f' o B w hh mr (sPa s a b) ∧ zFr zTX f f' ∧ m' = m)) := by
  refine zM.of (by decide) (Nat.le_of_ble_eq_true rfl) ?_
  have hN24 : N ≤ 24 := by
    rcases Nat.eq_zero_or_pos s with e | e
    · rw [e] at hNs; omega
    · have := Nat.le_mul_of_pos_right N e; omega
  rcases Nat.lt_or_gt_of_ne hab with hlt | hlt
  · refine v_iload_n dX4_laysCrossed_0 rfl rfl ?_
    refine v_iload_n dX4_laysCrossed_1 rfl rfl ?_
    refine v_icmp_ge 9 dX4_laysCrossed_2 (by decide) (fun z => absurd z (by rw [nI_leI (by omega) (by omega)]; omega)) (fun _ => ?_)
    refine v_iload_n dX4_laysCrossed_5 rfl rfl ?_
    refine v_goto 10 dX4_laysCrossed_6 (by decide) ?_
    refine v_istore_n dX4_laysCrossed_10 rfl (by decide) ?_
    refine v_iload_n dX4_laysCrossed_11 rfl rfl ?_
    refine v_iload_n dX4_laysCrossed_12 rfl rfl ?_
    refine v_icmp_ge 20 dX4_laysCrossed_13 (by decide) (fun z => absurd z (by rw [nI_leI (by omega) (by omega)]; omega)) (fun _ => ?_)
    refine v_iload_n dX4_laysCrossed_16 rfl rfl ?_
    refine v_goto 21 dX4_laysCrossed_17 (by decide) ?_
    refine v_istore dX4_laysCrossed_21 (by decide) ?_
    have hm9 : a * s ≤ b * s := Nat.mul_le_mul_right s (by omega)
    have e : sPa s a b = sPT (a * s) (b * s) := by
      unfold sPa
      rw [Nat.min_eq_left hm9, Nat.max_eq_right hm9]
    rw [e]
    exact v_loc (lv' := [(0, .ref o), (3, .int (nI a)), (4, .int (nI b))]) ⟨rfl, rfl, rfl, trivial⟩ (c_laysC_tail ho hs hN hNs hN4 (by omega) (by omega) hmr hmr9 hcr hmk hgm)
  · refine v_iload_n dX4_laysCrossed_0 rfl rfl ?_
    refine v_iload_n dX4_laysCrossed_1 rfl rfl ?_
    refine v_icmp_ge 9 dX4_laysCrossed_2 (by decide) (fun _ => ?_) (fun z => absurd (by rw [nI_leI (by omega) (by omega)]; omega) z)
    refine v_iload_n dX4_laysCrossed_9 rfl rfl ?_
    refine v_istore_n dX4_laysCrossed_10 rfl (by decide) ?_
    refine v_iload_n dX4_laysCrossed_11 rfl rfl ?_
    refine v_iload_n dX4_laysCrossed_12 rfl rfl ?_
    refine v_icmp_ge 20 dX4_laysCrossed_13 (by decide) (fun _ => ?_) (fun z => absurd (by rw [nI_leI (by omega) (by omega)]; omega) z)
    refine v_iload_n dX4_laysCrossed_20 rfl rfl ?_
    refine v_istore dX4_laysCrossed_21 (by decide) ?_
    have hm9 : b * s ≤ a * s := Nat.mul_le_mul_right s (by omega)
    have e : sPa s a b = sPT (b * s) (a * s) := by
      unfold sPa
      rw [Nat.min_eq_right hm9, Nat.max_eq_left hm9]
    rw [e]
    exact v_loc (lv' := [(0, .ref o), (3, .int (nI b)), (4, .int (nI a))]) ⟨rfl, rfl, rfl, trivial⟩ (c_laysC_tail ho hs hN hNs hN4 (by omega) (by omega) hmr hmr9 hcr hmk hgm)

