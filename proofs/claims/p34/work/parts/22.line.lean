def sX (p : Nat) : Int32 := 60 + zAR.getD p 0
def sY (p : Nat) : Int32 := 60 + zAR.getD ((p + 18) % 24) 0
def sRtF : Nat → Nat → Nat → Nat
  | 0, r, _ => r
  | k + 1, r, v => if (r + 1) * (r + 1) ≤ v then sRtF k (r + 1) v else r
def sRt (v : Nat) : Nat := sRtF 240 0 v
theorem nI_min (a b : Nat) (ha : a < 2 ^ 31) (hb : b < 2 ^ 31) : (if nI b < nI a then nI b else nI a) = nI (min a b) := by
  by_cases h : b < a
  · rw [if_pos (nI_lt h ha), Nat.min_eq_right (by omega)]
  · rw [if_neg (nI_nlt (by omega) hb), Nat.min_eq_left (by omega)]
theorem nI_max (a b : Nat) (ha : a < 2 ^ 31) (hb : b < 2 ^ 31) : (if nI a < nI b then nI b else nI a) = nI (max a b) := by
  by_cases h : a < b
  · rw [if_pos (nI_lt h hb), Nat.max_eq_right (by omega)]
  · rw [if_neg (nI_nlt (by omega) ha), Nat.max_eq_left (by omega)]
theorem sPr_lt {a b : Nat} (ha : a < 24) (hb : b < 24) (hn : a ≠ b) : sPr a b < 276 := by
  have h : ∀ a, a < 24 → ∀ b, b < 24 → a ≠ b → sPr a b < 276 := by decide +kernel
  exact h a ha b hb hn
set_option maxRecDepth 10000 in
set_option maxHeartbeats 1000000 in
theorem c_xOf {G : zW} {f : zHM} {m : Nat × Nat} {p : Nat} (hp : p < 24) : zM G yX0_xOf cX0_xOf 1 (some .int) 1 [.int (nI p)] (f, m) (zS (.int (sX p)) f m) := by
  refine zM.of (by decide) (Nat.le_of_ble_eq_true rfl) ?_
  refine v_iload_n dX0_xOf_0 rfl rfl ?_
  refine v_if_lt 10 dX0_xOf_1 (by decide) (fun b1 => ?_) (fun b1 => ?_)
  · exact absurd b1 (nI_pos (by omega))
  · refine v_iload_n dX0_xOf_4 rfl rfl ?_
    refine v_bipush (nI 24) dX0_xOf_5 (by decide) ?_
    refine v_icmp_lt 15 dX0_xOf_7 (by decide) (fun b7 => ?_) (fun b7 => ?_)
    · refine v_bipush (60) dX0_xOf_15 (by decide) ?_
      refine v_getsA rfl dX0_xOf_17 ?_
      refine v_iload_n dX0_xOf_20 rfl rfl ?_
      refine v_ialoadA dX0_xOf_21 (vp_in_nI hp (by omega)) ?_
      rw [nI_clamp (by omega)]
      refine v_iadd dX0_xOf_22 ?_
      exact v_ireturn dX0_xOf_23 rfl ⟨rfl, rfl, rfl⟩
    · exact absurd (nI_lt hp (by omega)) b7
set_option maxRecDepth 10000 in
set_option maxHeartbeats 1000000 in
theorem c_yOf {G : zW} {f : zHM} {m : Nat × Nat} {p : Nat} (hp : p < 24) : zM G yX0_yOf cX0_yOf 1 (some .int) 1 [.int (nI p)] (f, m) (zS (.int (sY p)) f m) := by
  refine zM.of (by decide) (Nat.le_of_ble_eq_true rfl) ?_
  refine v_iload_n dX0_yOf_0 rfl rfl ?_
  refine v_if_lt 10 dX0_yOf_1 (by decide) (fun b1 => ?_) (fun b1 => ?_)
  · exact absurd b1 (nI_pos (by omega))
  · refine v_iload_n dX0_yOf_4 rfl rfl ?_
    refine v_bipush (nI 24) dX0_yOf_5 (by decide) ?_
    refine v_icmp_lt 15 dX0_yOf_7 (by decide) (fun b7 => ?_) (fun b7 => ?_)
    · refine v_bipush (60) dX0_yOf_15 (by decide) ?_
      refine v_getsA rfl dX0_yOf_17 ?_
      refine v_iload_n dX0_yOf_20 rfl rfl ?_
      refine v_bipush (nI 18) dX0_yOf_21 (by decide) ?_
      refine v_iadd dX0_yOf_23 ?_
      refine v_bipush (nI 24) dX0_yOf_24 (by decide) ?_
      refine v_irem dX0_yOf_26 (by decide) ?_
      rw [nI_add, pk_rem (by omega) (by omega) (by omega)]
      refine v_ialoadA dX0_yOf_27 (vp_in_nI (Nat.mod_lt _ (by omega)) (by omega)) ?_
      rw [nI_clamp (by omega)]
      refine v_iadd dX0_yOf_28 ?_
      exact v_ireturn dX0_yOf_29 rfl ⟨rfl, rfl, rfl⟩
    · exact absurd (nI_lt hp (by omega)) b7
set_option maxRecDepth 10000 in
set_option maxHeartbeats 1000000 in
theorem c_pairOf {G : zW} {f : zHM} {m : Nat × Nat} {a b : Nat} (ha : a < 24) (hb : b < 24) (hn : a ≠ b) : zM G yX0_pairOf cX0_pairOf 4 (some .int) 1 [.int (nI a), .int (nI b)] (f, m) (zS (.int (nI (sPr a b))) f m) := by
  refine zM.of (by decide) (Nat.le_of_ble_eq_true rfl) ?_
  refine v_iload_n dX0_pairOf_0 rfl rfl ?_
  refine v_iload_n dX0_pairOf_1 rfl rfl ?_
  refine v_mmin kX0_22.1 gs_J9_min_7cf53 kX0_22.2.1 kX0_22.2.2.1 dX0_pairOf_2 (by decide) (Nat.le_of_ble_eq_true rfl) ?_
  rw [nI_min a b (by omega) (by omega)]
  refine v_istore_n dX0_pairOf_5 rfl (by decide) ?_
  refine v_iload_n dX0_pairOf_6 rfl rfl ?_
  refine v_iload_n dX0_pairOf_7 rfl rfl ?_
  refine v_mmax kX0_28.1 gs_J9_max_7cf53 kX0_28.2.1 kX0_28.2.2.1 dX0_pairOf_8 (by decide) (Nat.le_of_ble_eq_true rfl) ?_
  rw [nI_max a b (by omega) (by omega)]
  refine v_istore_n dX0_pairOf_11 rfl (by decide) ?_
  refine v_iload_n dX0_pairOf_12 rfl rfl ?_
  refine v_if_lt 27 dX0_pairOf_13 (by decide) (fun b13 => ?_) (fun b13 => ?_)
  · exact absurd b13 (nI_pos (by omega))
  · refine v_iload_n dX0_pairOf_16 rfl rfl ?_
    refine v_iload_n dX0_pairOf_17 rfl rfl ?_
    refine v_icmp_eq 27 dX0_pairOf_18 (by decide) (fun b18 => ?_) (fun b18 => ?_)
    · exact absurd ((nI_eq (by omega) (by omega)).mp b18) (by omega)
    · refine v_iload_n dX0_pairOf_21 rfl rfl ?_
      refine v_bipush (nI 24) dX0_pairOf_22 (by decide) ?_
      refine v_icmp_lt 29 dX0_pairOf_24 (by decide) (fun b24 => ?_) (fun b24 => ?_)
      · refine v_iload_n dX0_pairOf_29 rfl rfl ?_
        refine v_iload_n dX0_pairOf_30 rfl rfl ?_
        refine v_iconst (nI 1) dX0_pairOf_31 (by decide) ?_
        refine v_isub dX0_pairOf_32 ?_
        refine v_imul dX0_pairOf_33 ?_
        refine v_iconst (nI 2) dX0_pairOf_34 (by decide) ?_
        refine v_idiv dX0_pairOf_35 (by decide) ?_
        refine v_iload_n dX0_pairOf_36 rfl rfl ?_
        refine v_iadd dX0_pairOf_37 ?_
        exact v_ireturn dX0_pairOf_38 rfl ⟨by rw [pk_sub (by omega), pk_mul, pk_div (by rw [show max a b * (max a b - 1) = max a b * (max a b - 1) from rfl]; exact Nat.lt_of_le_of_lt (Nat.mul_le_mul (Nat.max_le.mpr ⟨Nat.le_of_lt ha, Nat.le_of_lt hb⟩) (Nat.le_trans (Nat.sub_le _ 1) (Nat.max_le.mpr ⟨Nat.le_of_lt ha, Nat.le_of_lt hb⟩))) (by decide)) (by omega) (by omega), nI_add]; rfl, rfl, rfl⟩
      · exact absurd (nI_lt (by omega) (by omega)) b24
set_option maxRecDepth 10000 in
set_option maxHeartbeats 1000000 in
theorem c_rootOf {G : zW} {f : zHM} {m : Nat × Nat} {v : Nat} (hv : v < 2 ^ 31) : zM G yX0_rootOf cX0_rootOf 2 (some .int) 1 [.int (nI v)] (f, m) (zS (.int (nI (sRt v))) f m) := by
  refine zM.of (by decide) (Nat.le_of_ble_eq_true rfl) ?_
  have loop : ∀ (k r : Nat), r + k = 240 → sRtF k r v = sRt v → zV G yX0_rootOf cX0_rootOf 2 (some .int) 1 2 [(0, .int (nI v)), (1, .int (nI r))] [] (f, m) (zS (.int (nI (sRt v))) f m) := by
    intro k
    induction k with
    | zero =>
      intro r hr he
      have hr : r = 240 := by omega
      subst hr
      refine v_iload_n dX0_rootOf_2 rfl rfl ?_
      refine v_sipush (nI 240) dX0_rootOf_3 (by decide) ?_
      refine v_icmp_ge 26 dX0_rootOf_6 (by decide) (fun b6 => ?_) (fun b6 => ?_)
      · refine v_iload_n dX0_rootOf_26 rfl rfl ?_
        exact v_ireturn dX0_rootOf_27 rfl ⟨by rw [← he]; rfl, rfl, rfl⟩
      · exact absurd (nI_le (by omega) (by omega)) b6
    | succ k ih =>
      intro r hr he
      refine v_iload_n dX0_rootOf_2 rfl rfl ?_
      refine v_sipush (nI 240) dX0_rootOf_3 (by decide) ?_
      refine v_icmp_ge 26 dX0_rootOf_6 (by decide) (fun b6 => ?_) (fun b6 => ?_)
      · exact absurd b6 (nI_ge (by omega) (by omega))
      · refine v_iload_n dX0_rootOf_9 rfl rfl ?_
        refine v_iconst (nI 1) dX0_rootOf_10 (by decide) ?_
        refine v_iadd dX0_rootOf_11 ?_
        refine v_iload_n dX0_rootOf_12 rfl rfl ?_
        refine v_iconst (nI 1) dX0_rootOf_13 (by decide) ?_
        refine v_iadd dX0_rootOf_14 ?_
        refine v_imul dX0_rootOf_15 ?_
        refine v_iload_n dX0_rootOf_16 rfl rfl ?_
        rw [nI_add, pk_mul]
        have hsq : (r + 1) * (r + 1) < 2 ^ 31 := Nat.lt_of_le_of_lt (Nat.mul_le_mul (show r + 1 ≤ 241 by omega) (show r + 1 ≤ 241 by omega)) (by decide)
        refine v_icmp_gt 26 dX0_rootOf_17 (by decide) (fun b17 => ?_) (fun b17 => ?_)
        · have hc : ¬ (r + 1) * (r + 1) ≤ v := fun hc => absurd b17 (by rw [nI_ltI hv hsq]; omega)
          refine v_iload_n dX0_rootOf_26 rfl rfl ?_
          exact v_ireturn dX0_rootOf_27 rfl ⟨by rw [← he]; unfold sRtF; rw [if_neg hc], rfl, rfl⟩
        · have hc : (r + 1) * (r + 1) ≤ v := by
            refine Nat.not_lt.mp fun hc => b17 ?_
            rw [nI_ltI hv hsq]; exact hc
          refine v_iincN dX0_rootOf_20 rfl (by decide) ?_
          refine v_goto 2 dX0_rootOf_23 (by decide) ?_
          exact v_loc (lv' := [(0, .int (nI v)), (1, .int (nI (r + 1)))]) ⟨rfl, rfl, trivial⟩ (ih (r + 1) (by omega) (by rw [← he, sRtF, if_pos hc]))
  refine v_iconst (0) dX0_rootOf_0 (by decide) ?_
  refine v_istore_n dX0_rootOf_1 rfl (by decide) ?_
  exact v_loc (lv' := [(0, .int (nI v)), (1, .int (nI 0))]) ⟨rfl, rfl, trivial⟩ (loop 240 0 rfl rfl)
set_option maxRecDepth 10000 in
set_option maxHeartbeats 1000000 in
theorem c_Line_init {G : zW} {f : zHM} {m : Nat × Nat} {t q a : Nat} {x y : Value} {len : Int32} (r0 : f q = some (t, .inr (0, [x, y]))) : zM G yX0_init cX0_init 3 none 1 [.ref q, .int len, .ref a] (f, m) (zD none (fun f' m' => zPut f q (t, .inr (0, [.int len, .ref a])) f' ∧ m' = m)) := by
  refine zM.of (by decide) (Nat.le_of_ble_eq_true rfl) ?_
  refine v_aload_n dX0_init_0 rfl rfl ?_
  refine v_objInit goLX0 goI goC dX0_init_1 (by decide) (Nat.le_of_ble_eq_true rfl) ?_
  refine v_aload_n dX0_init_4 rfl rfl ?_
  refine v_iload_n dX0_init_5 rfl rfl ?_
  refine v_putfieldFX fX0_9 rfl rfl dX0_init_6 (by assumption) rfl rfl (Nat.le_of_ble_eq_true rfl) (fun f hp => ?_)
  have r0 := hp.1
  have hp1 := hp
  refine v_aload_n dX0_init_9 rfl rfl ?_
  refine v_aload_n dX0_init_10 rfl rfl ?_
  refine v_putfieldFX fX0_15 rfl rfl dX0_init_11 (by assumption) rfl rfl (Nat.le_of_ble_eq_true rfl) (fun f hp => ?_)
  have r0 := hp.1
  exact v_return dX0_init_14 rfl ⟨rfl, ⟨r0, fun b t2 c hb ht => by
    have h1 := hp1.ne hb ht
    exact hp.ne h1 ht, fun b hb => (hp.2.2 b hb).trans (hp1.2.2 b hb)⟩, rfl⟩
