/-! THE REFERENCE'S OBJECT: B its arrays (0 s, 1 saved, 2 slots, 3 hasSlot, 4 buffer, 5 crossed, 6 marks, 7 greys), w its numbers (0 thrown, 1 savedMany, 2 length, 3 crossedMany, 4 mark, 5 at, 6 isWell); tags 700 (the object), 701-708 (the arrays); its state is s, 904 ints. -/
abbrev zMo (B : Nat → Nat) (w : Nat → Int32) (hh : Int64) : List Value := [.int (w 0), .ref (B 0), .ref (B 1), .int (w 1), .ref (B 2), .ref (B 3), .ref (B 4), .int (w 2), .ref (B 5), .int (w 3), .ref (B 6), .int (w 4), .ref (B 7), .int (w 5), .int (w 6), .long hh]
def sQu (p : Nat) : Int32 := ([60, 58, 52, 42, 30, 16, 0] : List Int32).getD p 0
theorem rg_ok : ∀ q, q < 24 → (if q ≤ 12 then (if q ≤ 6 then sQu q else -sQu (12 - q)) else (if 24 - q ≤ 6 then sQu (24 - q) else -sQu (12 - (24 - q)))) = zAR.getD q 0 := by decide +kernel
theorem rg_rem : ∀ p, p < 48 → nI p - nI p / nI 24 * nI 24 = nI (p % 24) := by decide +kernel
theorem rg_div : ∀ N, N < 25 → ∀ b, b < 24 → nI (b * 24) / nI N = nI (b * 24 / N) := by decide +kernel
set_option maxRecDepth 10000 in
set_option maxHeartbeats 1000000 in
theorem c_in {G : zW} {f : zHM} {m : Nat × Nat} {v a b : Int32} : zM G yX4_in cX4_in 3 (some .boolean) 1 [.int v, .int a, .int b] (f, m) (zS (.int (if a ≤ v ∧ v ≤ b then 1 else 0)) f m) := by
  refine zM.of (by decide) (Nat.le_of_ble_eq_true rfl) ?_
  refine v_iload_n dX4_in_0 rfl rfl ?_
  refine v_iload_n dX4_in_1 rfl rfl ?_
  refine v_icmp_lt 14 dX4_in_2 (by decide) (fun b2 => ?_) (fun b2 => ?_)
  · refine v_iconst (0) dX4_in_14 (by decide) ?_
    exact v_zreturn dX4_in_15 rfl (by decide) ⟨by rw [if_neg (fun h => absurd b2 (Int32.not_lt.mpr h.1))], rfl, rfl⟩
  · refine v_iload_n dX4_in_5 rfl rfl ?_
    refine v_iload_n dX4_in_6 rfl rfl ?_
    refine v_icmp_gt 14 dX4_in_7 (by decide) (fun b7 => ?_) (fun b7 => ?_)
    · refine v_iconst (0) dX4_in_14 (by decide) ?_
      exact v_zreturn dX4_in_15 rfl (by decide) ⟨by rw [if_neg (fun h => absurd b7 (Int32.not_lt.mpr h.2))], rfl, rfl⟩
    · refine v_iconst (1) dX4_in_10 (by decide) ?_
      refine v_goto 15 dX4_in_11 (by decide) ?_
      exact v_zreturn dX4_in_15 rfl (by decide) ⟨by rw [if_pos ⟨Int32.not_lt.mp b2, Int32.not_lt.mp b7⟩], rfl, rfl⟩
set_option maxRecDepth 10000 in
set_option maxHeartbeats 1000000 in
theorem c_mabs {G : zW} {f : zHM} {m : Nat × Nat} {v : Int32} : zM G yX4_abs cX4_abs 1 (some .int) 1 [.int v] (f, m) (zS (.int (sAbs v)) f m) := by
  refine zM.of (by decide) (Nat.le_of_ble_eq_true rfl) ?_
  refine v_iload_n dX4_abs_0 rfl rfl ?_
  refine v_if_ge 9 dX4_abs_1 (by decide) (fun b1 => ?_) (fun b1 => ?_)
  · refine v_iload_n dX4_abs_9 rfl rfl ?_
    exact v_ireturn dX4_abs_10 rfl ⟨by unfold sAbs; rw [if_pos b1], rfl, rfl⟩
  · refine v_iload_n dX4_abs_4 rfl rfl ?_
    refine v_ineg dX4_abs_5 ?_
    refine v_goto 10 dX4_abs_6 (by decide) ?_
    exact v_ireturn dX4_abs_10 rfl ⟨by unfold sAbs; rw [if_neg b1, Int32.zero_sub], rfl, rfl⟩
set_option maxRecDepth 10000 in
set_option maxHeartbeats 1000000 in
theorem c_quarter_0 {G : zW} {f : zHM} {m : Nat × Nat} : zM G yX4_quarter cX4_quarter 1 (some .int) 1 [.int (nI 0)] (f, m) (zS (.int (sQu 0)) f m) := by
  refine zM.of (by decide) (Nat.le_of_ble_eq_true rfl) ?_
  refine v_iload_n dX4_quarter_0 rfl rfl ?_
  refine v_tableIn 40 dX4_quarter_1 (by decide) (by decide) (off := 39) (by rfl) (by decide) ?_
  refine v_bipush (60) dX4_quarter_40 (by decide) ?_
  exact v_ireturn dX4_quarter_42 rfl ⟨rfl, rfl, rfl⟩
set_option maxRecDepth 10000 in
set_option maxHeartbeats 1000000 in
theorem c_quarter_1 {G : zW} {f : zHM} {m : Nat × Nat} : zM G yX4_quarter cX4_quarter 1 (some .int) 1 [.int (nI 1)] (f, m) (zS (.int (sQu 1)) f m) := by
  refine zM.of (by decide) (Nat.le_of_ble_eq_true rfl) ?_
  refine v_iload_n dX4_quarter_0 rfl rfl ?_
  refine v_tableIn 43 dX4_quarter_1 (by decide) (by decide) (off := 42) (by rfl) (by decide) ?_
  refine v_bipush (58) dX4_quarter_43 (by decide) ?_
  exact v_ireturn dX4_quarter_45 rfl ⟨rfl, rfl, rfl⟩
set_option maxRecDepth 10000 in
set_option maxHeartbeats 1000000 in
theorem c_quarter_2 {G : zW} {f : zHM} {m : Nat × Nat} : zM G yX4_quarter cX4_quarter 1 (some .int) 1 [.int (nI 2)] (f, m) (zS (.int (sQu 2)) f m) := by
  refine zM.of (by decide) (Nat.le_of_ble_eq_true rfl) ?_
  refine v_iload_n dX4_quarter_0 rfl rfl ?_
  refine v_tableIn 46 dX4_quarter_1 (by decide) (by decide) (off := 45) (by rfl) (by decide) ?_
  refine v_bipush (52) dX4_quarter_46 (by decide) ?_
  exact v_ireturn dX4_quarter_48 rfl ⟨rfl, rfl, rfl⟩
set_option maxRecDepth 10000 in
set_option maxHeartbeats 1000000 in
theorem c_quarter_3 {G : zW} {f : zHM} {m : Nat × Nat} : zM G yX4_quarter cX4_quarter 1 (some .int) 1 [.int (nI 3)] (f, m) (zS (.int (sQu 3)) f m) := by
  refine zM.of (by decide) (Nat.le_of_ble_eq_true rfl) ?_
  refine v_iload_n dX4_quarter_0 rfl rfl ?_
  refine v_tableIn 49 dX4_quarter_1 (by decide) (by decide) (off := 48) (by rfl) (by decide) ?_
  refine v_bipush (42) dX4_quarter_49 (by decide) ?_
  exact v_ireturn dX4_quarter_51 rfl ⟨rfl, rfl, rfl⟩
set_option maxRecDepth 10000 in
set_option maxHeartbeats 1000000 in
theorem c_quarter_4 {G : zW} {f : zHM} {m : Nat × Nat} : zM G yX4_quarter cX4_quarter 1 (some .int) 1 [.int (nI 4)] (f, m) (zS (.int (sQu 4)) f m) := by
  refine zM.of (by decide) (Nat.le_of_ble_eq_true rfl) ?_
  refine v_iload_n dX4_quarter_0 rfl rfl ?_
  refine v_tableIn 52 dX4_quarter_1 (by decide) (by decide) (off := 51) (by rfl) (by decide) ?_
  refine v_bipush (30) dX4_quarter_52 (by decide) ?_
  exact v_ireturn dX4_quarter_54 rfl ⟨rfl, rfl, rfl⟩
set_option maxRecDepth 10000 in
set_option maxHeartbeats 1000000 in
theorem c_quarter_5 {G : zW} {f : zHM} {m : Nat × Nat} : zM G yX4_quarter cX4_quarter 1 (some .int) 1 [.int (nI 5)] (f, m) (zS (.int (sQu 5)) f m) := by
  refine zM.of (by decide) (Nat.le_of_ble_eq_true rfl) ?_
  refine v_iload_n dX4_quarter_0 rfl rfl ?_
  refine v_tableIn 55 dX4_quarter_1 (by decide) (by decide) (off := 54) (by rfl) (by decide) ?_
  refine v_bipush (16) dX4_quarter_55 (by decide) ?_
  exact v_ireturn dX4_quarter_57 rfl ⟨rfl, rfl, rfl⟩
set_option maxRecDepth 10000 in
set_option maxHeartbeats 1000000 in
theorem c_quarter_6 {G : zW} {f : zHM} {m : Nat × Nat} : zM G yX4_quarter cX4_quarter 1 (some .int) 1 [.int (nI 6)] (f, m) (zS (.int (sQu 6)) f m) := by
  refine zM.of (by decide) (Nat.le_of_ble_eq_true rfl) ?_
  refine v_iload_n dX4_quarter_0 rfl rfl ?_
  refine v_tableOut 58 dX4_quarter_1 (Or.inr (by decide)) (by decide) ?_
  refine v_iconst (0) dX4_quarter_58 (by decide) ?_
  exact v_ireturn dX4_quarter_59 rfl ⟨rfl, rfl, rfl⟩
theorem c_quarter {G : zW} {f : zHM} {m : Nat × Nat} {p : Nat} (hp : p ≤ 6) : zM G yX4_quarter cX4_quarter 1 (some .int) 1 [.int (nI p)] (f, m) (zS (.int (sQu p)) f m) := by
  match p, hp with
  | 0, _ => exact c_quarter_0
  | 1, _ => exact c_quarter_1
  | 2, _ => exact c_quarter_2
  | 3, _ => exact c_quarter_3
  | 4, _ => exact c_quarter_4
  | 5, _ => exact c_quarter_5
  | 6, _ => exact c_quarter_6
set_option maxRecDepth 10000 in
set_option maxHeartbeats 1000000 in
theorem c_ring {G : zW} {f : zHM} {m : Nat × Nat} {p : Nat} (hp : p < 48) : zM G yX4_ring cX4_ring 3 (some .int) 2 [.int (nI p)] (f, m) (zS (.int (zAR.getD (p % 24) 0)) f m) := by
  refine zM.of (by decide) (Nat.le_of_ble_eq_true rfl) ?_
  have hq : p % 24 < 24 := Nat.mod_lt _ (by omega)
  refine v_iload_n dX4_ring_0 rfl rfl ?_
  refine v_bipush (nI 24) dX4_ring_1 (by decide) ?_
  refine v_irem dX4_ring_3 (by decide) ?_
  rw [rg_rem p hp]
  generalize p % 24 = q at hq ⊢
  refine v_istore_n dX4_ring_4 rfl (by decide) ?_
  refine v_iload_n dX4_ring_5 rfl rfl ?_
  refine v_bipush (nI 12) dX4_ring_6 (by decide) ?_
  refine v_icmp_le 18 dX4_ring_8 (by decide) (fun b8 => ?_) (fun b8 => ?_)
  · rw [nI_leI (by omega) (by omega)] at b8
    refine v_iload_n dX4_ring_18 rfl rfl ?_
    refine v_istore_n dX4_ring_19 rfl (by decide) ?_
    refine v_iload_n dX4_ring_20 rfl rfl ?_
    refine v_bipush (nI 6) dX4_ring_21 (by decide) ?_
    refine v_icmp_gt 33 dX4_ring_23 (by decide) (fun b23 => ?_) (fun b23 => ?_)
    · rw [nI_ltI (by omega) (by omega)] at b23
      refine v_bipush (nI 12) dX4_ring_33 (by decide) ?_
      refine v_iload_n dX4_ring_35 rfl rfl ?_
      refine v_isub dX4_ring_36 ?_
      rw [pk_sub (by omega)]
      refine v_callSp kX4_46 gs_X4_quarter dX4_ring_37 (c_quarter (by omega)) rfl rfl (by decide) (Nat.le_of_ble_eq_true rfl) ?_
      refine v_ineg dX4_ring_40 ?_
      exact v_ireturn dX4_ring_41 rfl ⟨by rw [← rg_ok q hq]; repeat (first | rw [if_pos (by omega)] | rw [if_neg (by omega)]), rfl, rfl⟩
    · rw [nI_ltI (by omega) (by omega)] at b23
      refine v_iload_n dX4_ring_26 rfl rfl ?_
      refine v_callSp kX4_46 gs_X4_quarter dX4_ring_27 (c_quarter (by omega)) rfl rfl (by decide) (Nat.le_of_ble_eq_true rfl) ?_
      refine v_goto 41 dX4_ring_30 (by decide) ?_
      exact v_ireturn dX4_ring_41 rfl ⟨by rw [← rg_ok q hq]; repeat (first | rw [if_pos (by omega)] | rw [if_neg (by omega)]), rfl, rfl⟩
  · rw [nI_leI (by omega) (by omega)] at b8
    refine v_bipush (nI 24) dX4_ring_11 (by decide) ?_
    refine v_iload_n dX4_ring_13 rfl rfl ?_
    refine v_isub dX4_ring_14 ?_
    rw [pk_sub (by omega)]
    refine v_goto 19 dX4_ring_15 (by decide) ?_
    refine v_istore_n dX4_ring_19 rfl (by decide) ?_
    refine v_iload_n dX4_ring_20 rfl rfl ?_
    refine v_bipush (nI 6) dX4_ring_21 (by decide) ?_
    refine v_icmp_gt 33 dX4_ring_23 (by decide) (fun b23 => ?_) (fun b23 => ?_)
    · rw [nI_ltI (by omega) (by omega)] at b23
      refine v_bipush (nI 12) dX4_ring_33 (by decide) ?_
      refine v_iload_n dX4_ring_35 rfl rfl ?_
      refine v_isub dX4_ring_36 ?_
      rw [pk_sub (by omega)]
      refine v_callSp kX4_46 gs_X4_quarter dX4_ring_37 (c_quarter (by omega)) rfl rfl (by decide) (Nat.le_of_ble_eq_true rfl) ?_
      refine v_ineg dX4_ring_40 ?_
      exact v_ireturn dX4_ring_41 rfl ⟨by rw [← rg_ok q hq]; repeat (first | rw [if_pos (by omega)] | rw [if_neg (by omega)]), rfl, rfl⟩
    · rw [nI_ltI (by omega) (by omega)] at b23
      refine v_iload_n dX4_ring_26 rfl rfl ?_
      refine v_callSp kX4_46 gs_X4_quarter dX4_ring_27 (c_quarter (by omega)) rfl rfl (by decide) (Nat.le_of_ble_eq_true rfl) ?_
      refine v_goto 41 dX4_ring_30 (by decide) ?_
      exact v_ireturn dX4_ring_41 rfl ⟨by rw [← rg_ok q hq]; repeat (first | rw [if_pos (by omega)] | rw [if_neg (by omega)]), rfl, rfl⟩
set_option maxRecDepth 10000 in
set_option maxHeartbeats 1000000 in
theorem c_mx {G : zW} {f : zHM} {m : Nat × Nat} {o : Nat} {B : Nat → Nat} {w : Nat → Int32} {hh : Int64} {σ : Nat → Int32} (ho : f o = some (700, .inr (4, zMo B w hh))) (hs : f (B 0) = some (701, .inl (0, 904, .inl σ))) {N s : Nat} (hN : σ 0 = nI N) (hNs : N * s = 24) (hN4 : 4 ≤ N) {b : Nat} (hb : b < N) : zM G yX4_x cX4_x 2 (some .int) 3 [.ref o, .int (nI b)] (f, m) (zS (.int (sX (b * s))) f m) := by
  refine zM.of (by decide) (Nat.le_of_ble_eq_true rfl) ?_
  have hN24 : N ≤ 24 := by
    rcases Nat.eq_zero_or_pos s with e | e
    · rw [e] at hNs; omega
    · have := Nat.le_mul_of_pos_right N e; omega
  have hbs : b * 24 / N = b * s := by
    rw [← hNs, show b * (N * s) = (b * s) * N from by rw [Nat.mul_comm N s, Nat.mul_assoc]]
    exact Nat.mul_div_cancel _ (by omega)
  have hbs24 : b * s < 24 := by
    have h1 : (b + 1) * s ≤ N * s := Nat.mul_le_mul_right s hb
    have h2 : 0 < s := by
      rcases Nat.eq_zero_or_pos s with e | e
      · rw [e] at hNs; omega
      · exact e
    rw [Nat.add_mul] at h1
    omega
  refine v_bipush (60) dX4_x_0 (by decide) ?_
  refine v_iload_n dX4_x_2 rfl rfl ?_
  refine v_bipush (nI 24) dX4_x_3 (by decide) ?_
  refine v_imul dX4_x_5 ?_
  rw [pk_mul]
  refine v_aload_n dX4_x_6 rfl rfl ?_
  refine v_getfield fX4_7 dX4_x_7 (by assumption) (by rfl) ?_
  refine v_iconst (nI 0) dX4_x_10 (by decide) ?_
  refine v_iaload dX4_x_11 hs (vp_in_nI (by omega) (by omega)) ?_
  rw [nI_clamp (by omega), hN]
  refine v_idiv dX4_x_12 (by rw [show (0 : Int32) = nI 0 from rfl, nI_eq (by omega) (by omega)]; omega) ?_
  rw [rg_div N (by omega) b (by omega), hbs]
  refine v_callSp kX4_50 gs_X4_ring dX4_x_13 (c_ring (by omega)) rfl rfl (by decide) (Nat.le_of_ble_eq_true rfl) ?_
  refine v_iadd dX4_x_16 ?_
  exact v_ireturn dX4_x_17 rfl ⟨by rw [Nat.mod_eq_of_lt hbs24]; rfl, rfl, rfl⟩
set_option maxRecDepth 10000 in
set_option maxHeartbeats 1000000 in
theorem c_my {G : zW} {f : zHM} {m : Nat × Nat} {o : Nat} {B : Nat → Nat} {w : Nat → Int32} {hh : Int64} {σ : Nat → Int32} (ho : f o = some (700, .inr (4, zMo B w hh))) (hs : f (B 0) = some (701, .inl (0, 904, .inl σ))) {N s : Nat} (hN : σ 0 = nI N) (hNs : N * s = 24) (hN4 : 4 ≤ N) {b : Nat} (hb : b < N) : zM G yX4_y cX4_y 2 (some .int) 3 [.ref o, .int (nI b)] (f, m) (zS (.int (sY (b * s))) f m) := by
  refine zM.of (by decide) (Nat.le_of_ble_eq_true rfl) ?_
  have hN24 : N ≤ 24 := by
    rcases Nat.eq_zero_or_pos s with e | e
    · rw [e] at hNs; omega
    · have := Nat.le_mul_of_pos_right N e; omega
  have hbs : b * 24 / N = b * s := by
    rw [← hNs, show b * (N * s) = (b * s) * N from by rw [Nat.mul_comm N s, Nat.mul_assoc]]
    exact Nat.mul_div_cancel _ (by omega)
  have hbs24 : b * s < 24 := by
    have h1 : (b + 1) * s ≤ N * s := Nat.mul_le_mul_right s hb
    have h2 : 0 < s := by
      rcases Nat.eq_zero_or_pos s with e | e
      · rw [e] at hNs; omega
      · exact e
    rw [Nat.add_mul] at h1
    omega
  refine v_bipush (60) dX4_y_0 (by decide) ?_
  refine v_iload_n dX4_y_2 rfl rfl ?_
  refine v_bipush (nI 24) dX4_y_3 (by decide) ?_
  refine v_imul dX4_y_5 ?_
  rw [pk_mul]
  refine v_aload_n dX4_y_6 rfl rfl ?_
  refine v_getfield fX4_7 dX4_y_7 (by assumption) (by rfl) ?_
  refine v_iconst (nI 0) dX4_y_10 (by decide) ?_
  refine v_iaload dX4_y_11 hs (vp_in_nI (by omega) (by omega)) ?_
  rw [nI_clamp (by omega), hN]
  refine v_idiv dX4_y_12 (by rw [show (0 : Int32) = nI 0 from rfl, nI_eq (by omega) (by omega)]; omega) ?_
  rw [rg_div N (by omega) b (by omega), hbs]
  refine v_bipush (nI 18) dX4_y_13 (by decide) ?_
  refine v_iadd dX4_y_15 ?_
  rw [nI_add]
  refine v_callSp kX4_50 gs_X4_ring dX4_y_16 (c_ring (by omega)) rfl rfl (by decide) (Nat.le_of_ble_eq_true rfl) ?_
  refine v_iadd dX4_y_19 ?_
  exact v_ireturn dX4_y_20 rfl ⟨by rfl, rfl, rfl⟩
set_option maxRecDepth 10000 in
set_option maxHeartbeats 1000000 in
theorem c_cell {G : zW} {f : zHM} {m : Nat × Nat} {v : Int32} : zM G yX4_cell cX4_cell 1 (some .int) 1 [.int v] (f, m) (zS (.int (if v = 120 then 11 else v / 10)) f m) := by
  refine zM.of (by decide) (Nat.le_of_ble_eq_true rfl) ?_
  refine v_iload_n dX4_cell_0 rfl rfl ?_
  refine v_bipush (120) dX4_cell_1 (by decide) ?_
  refine v_icmp_ne 11 dX4_cell_3 (by decide) (fun b3 => ?_) (fun b3 => ?_)
  · refine v_iload_n dX4_cell_11 rfl rfl ?_
    refine v_bipush (10) dX4_cell_12 (by decide) ?_
    refine v_idiv dX4_cell_14 (by decide) ?_
    exact v_ireturn dX4_cell_15 rfl ⟨by rw [if_neg b3], rfl, rfl⟩
  · refine v_bipush (11) dX4_cell_6 (by decide) ?_
    refine v_goto 15 dX4_cell_8 (by decide) ?_
    exact v_ireturn dX4_cell_15 rfl ⟨by rw [if_pos b3], rfl, rfl⟩
set_option maxRecDepth 10000 in
set_option maxHeartbeats 1000000 in
theorem c_mshade {G : zW} {f : zHM} {m : Nat × Nat} {o : Nat} {B : Nat → Nat} {w : Nat → Int32} {hh : Int64} {σ : Nat → Int32} (ho : f o = some (700, .inr (4, zMo B w hh))) (hs : f (B 0) = some (701, .inl (0, 904, .inl σ))) {u : Nat} (hu : u < 3) : zM G yX4_shade cX4_shade 2 (some .int) 1 [.ref o, .int (nI u)] (f, m) (zS (.int (σ (9 + 2 * u))) f m) := by
  refine zM.of (by decide) (Nat.le_of_ble_eq_true rfl) ?_
  refine v_aload_n dX4_shade_0 rfl rfl ?_
  refine v_getfield fX4_7 dX4_shade_1 (by assumption) (by rfl) ?_
  refine v_bipush (nI 9) dX4_shade_4 (by decide) ?_
  refine v_iconst (nI 2) dX4_shade_6 (by decide) ?_
  refine v_iload_n dX4_shade_7 rfl rfl ?_
  refine v_imul dX4_shade_8 ?_
  rw [pk_mul]
  refine v_iadd dX4_shade_9 ?_
  rw [nI_add]
  refine v_iaload dX4_shade_10 hs (vp_in_nI (by omega) (by omega)) ?_
  rw [nI_clamp (by omega)]
  exact v_ireturn dX4_shade_11 rfl ⟨rfl, rfl, rfl⟩
set_option maxRecDepth 10000 in
set_option maxHeartbeats 1000000 in
theorem c_mleft {G : zW} {f : zHM} {m : Nat × Nat} {o : Nat} {B : Nat → Nat} {w : Nat → Int32} {hh : Int64} {σ : Nat → Int32} (ho : f o = some (700, .inr (4, zMo B w hh))) (hs : f (B 0) = some (701, .inl (0, 904, .inl σ))) {u : Nat} (hu : u < 3) : zM G yX4_left cX4_left 2 (some .int) 1 [.ref o, .int (nI u)] (f, m) (zS (.int (σ (9 + 2 * u + 1))) f m) := by
  refine zM.of (by decide) (Nat.le_of_ble_eq_true rfl) ?_
  refine v_aload_n dX4_left_0 rfl rfl ?_
  refine v_getfield fX4_7 dX4_left_1 (by assumption) (by rfl) ?_
  refine v_bipush (nI 9) dX4_left_4 (by decide) ?_
  refine v_iconst (nI 2) dX4_left_6 (by decide) ?_
  refine v_iload_n dX4_left_7 rfl rfl ?_
  refine v_imul dX4_left_8 ?_
  rw [pk_mul]
  refine v_iadd dX4_left_9 ?_
  rw [nI_add]
  refine v_iconst (nI 1) dX4_left_10 (by decide) ?_
  refine v_iadd dX4_left_11 ?_
  rw [nI_add]
  refine v_iaload dX4_left_12 hs (vp_in_nI (by omega) (by omega)) ?_
  rw [nI_clamp (by omega)]
  exact v_ireturn dX4_left_13 rfl ⟨rfl, rfl, rfl⟩
