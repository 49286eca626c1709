/-- the reference's state, read as a ring's -/
def rOf (σ : Nat → Int32) : zRS := fun k i => match k with
  | 0 => σ i
  | 1 => σ (9 + 2 * i)
  | 2 => σ (9 + 2 * i + 1)
  | 3 => σ (6 + i)
  | 4 => σ (16 + 3 * i)
  | 5 => σ (16 + 3 * i + 1)
  | 6 => σ (16 + 3 * i + 2)
  | 7 => σ (616 + i)
  | _ => σ (760 + i)
theorem qd_ok : ∀ p, p < 24 → ∀ q, q < 24 → (sX p - sX q) * (sX p - sX q) + (sY p - sY q) * (sY p - sY q) = nI (sQd (min p q) (max p q)) ∧ sQd (min p q) (max p q) < 57600 := by decide +kernel
/-- a chord between two nails, either way -/
abbrev sBt (ρ : zRS) (x y : Int32) (c : Nat) : Prop := (ρ 4 c = x ∧ ρ 5 c = y) ∨ (ρ 4 c = y ∧ ρ 5 c = x)
def sLB (ρ : zRS) (n : Nat) (x y : Int32) : Int32 := sSum (fun c => if sBt ρ x y c then 1 else 0) n
set_option maxRecDepth 10000 in
set_option maxHeartbeats 1000000 in
theorem c_mroot {G : zW} {f : zHM} {m : Nat × Nat} {v : Nat} (hv : v < 57600) : zM G yX4_root cX4_root 2 (some .int) 1 [.int (nI v)] (f, m) (zS (.int (nI (sRt v))) f m) := by
  refine zM.of (by decide) (Nat.le_of_ble_eq_true rfl) ?_
  have loop : ∀ (k r : Nat), r + k = 240 → sRtF k r v = sRt v → zV G yX4_root cX4_root 2 (some .int) 1 2 [(0, .int (nI v)), (1, .int (nI r))] [] (f, m) (zS (.int (nI (sRt v))) f m) := by
    intro k
    induction k with
    | zero =>
      intro r hr he
      have hr : r = 240 := by omega
      refine v_iload_n dX4_root_2 rfl rfl ?_
      refine v_iconst (nI 1) dX4_root_3 (by decide) ?_
      refine v_iadd dX4_root_4 ?_
      refine v_iload_n dX4_root_5 rfl rfl ?_
      refine v_iconst (nI 1) dX4_root_6 (by decide) ?_
      refine v_iadd dX4_root_7 ?_
      refine v_imul dX4_root_8 ?_
      refine v_iload_n dX4_root_9 rfl rfl ?_
      rw [nI_add, pk_mul]
      have hsq : (r + 1) * (r + 1) < 2 ^ 31 := Nat.lt_of_le_of_lt (Nat.mul_le_mul (show r + 1 ≤ 241 by omega) (show r + 1 ≤ 241 by omega)) (by decide)
      refine v_icmp_gt 19 dX4_root_10 (by decide) (fun _ => ?_) (fun b => absurd (by rw [nI_ltI (by omega) hsq, hr]; omega) b)
      refine v_iload_n dX4_root_19 rfl rfl ?_
      exact v_ireturn dX4_root_20 rfl ⟨by rw [← he]; rfl, rfl, rfl⟩
    | succ k ih =>
      intro r hr he
      refine v_iload_n dX4_root_2 rfl rfl ?_
      refine v_iconst (nI 1) dX4_root_3 (by decide) ?_
      refine v_iadd dX4_root_4 ?_
      refine v_iload_n dX4_root_5 rfl rfl ?_
      refine v_iconst (nI 1) dX4_root_6 (by decide) ?_
      refine v_iadd dX4_root_7 ?_
      refine v_imul dX4_root_8 ?_
      refine v_iload_n dX4_root_9 rfl rfl ?_
      rw [nI_add, pk_mul]
      have hsq : (r + 1) * (r + 1) < 2 ^ 31 := Nat.lt_of_le_of_lt (Nat.mul_le_mul (show r + 1 ≤ 241 by omega) (show r + 1 ≤ 241 by omega)) (by decide)
      refine v_icmp_gt 19 dX4_root_10 (by decide) (fun b17 => ?_) (fun b17 => ?_)
      · have hc : ¬ (r + 1) * (r + 1) ≤ v := fun hc => absurd b17 (by rw [nI_ltI (by omega) hsq]; omega)
        refine v_iload_n dX4_root_19 rfl rfl ?_
        exact v_ireturn dX4_root_20 rfl ⟨by rw [← he]; unfold sRtF; rw [if_neg hc], rfl, rfl⟩
      · have hc : (r + 1) * (r + 1) ≤ v := by
          refine Nat.not_lt.mp fun hc => b17 ?_
          rw [nI_ltI (by omega) hsq]; exact hc
        refine v_iincN dX4_root_13 rfl (by decide) ?_
        refine v_goto 2 dX4_root_16 (by decide) ?_
        exact v_loc (lv' := [(0, .int (nI v)), (1, .int (nI (r + 1)))]) ⟨rfl, rfl, trivial⟩ (ih (r + 1) (by omega) (by rw [← he, sRtF, if_pos hc]))
  refine v_iconst (nI 0) dX4_root_0 (by decide) ?_
  refine v_istore_n dX4_root_1 rfl (by decide) ?_
  exact v_loc (lv' := [(0, .int (nI v)), (1, .int (nI 0))]) ⟨rfl, rfl, trivial⟩ (loop 240 0 rfl rfl)
set_option maxRecDepth 10000 in
set_option maxHeartbeats 1000000 in
theorem c_mlengthOf {G : zW} {f : zHM} {m : Nat × Nat} {o : Nat} {B : Nat → Nat} {w : Nat → Int32} {hh : Int64} {σ : Nat → Int32} (ho : f o = some (700, .inr (4, zMo B w hh))) (hs : f (B 0) = some (701, .inl (0, 904, .inl σ))) {N s : Nat} (hN : σ 0 = nI N) (hNs : N * s = 24) (hN4 : 4 ≤ N) {b : Nat} (hb : b < N) {c : Nat} (hc : c < N) : zM G yX4_lengthOf cX4_lengthOf 5 (some .int) 4 [.ref o, .int (nI b), .int (nI c)] (f, m) (zS (.int (sLn s b c)) f m) := by
  refine zM.of (by decide) (Nat.le_of_ble_eq_true rfl) ?_
  have hN24 : N ≤ 24 := by
    rcases Nat.eq_zero_or_pos s with e | e
    · rw [e] at hNs; omega
    · have := Nat.le_mul_of_pos_right N e; omega
  have hbs : b * 24 / N = b * s := by
    rw [← hNs, show b * (N * s) = (b * s) * N from by rw [Nat.mul_comm N s, Nat.mul_assoc]]
    exact Nat.mul_div_cancel _ (by omega)
  have hbs24 : b * s < 24 := by
    have h1 : (b + 1) * s ≤ N * s := Nat.mul_le_mul_right s hb
    have h2 : 0 < s := by
      rcases Nat.eq_zero_or_pos s with e | e
      · rw [e] at hNs; omega
      · exact e
    rw [Nat.add_mul] at h1
    omega
  have hcs24 : c * s < 24 := by
    have h1 : (c + 1) * s ≤ N * s := Nat.mul_le_mul_right s hc
    have h2 : 0 < s := by
      rcases Nat.eq_zero_or_pos s with e | e
      · rw [e] at hNs; omega
      · exact e
    rw [Nat.add_mul] at h1
    omega
  have hqd := qd_ok (b * s) hbs24 (c * s) hcs24
  refine v_aload_n dX4_lengthOf_0 rfl rfl ?_
  refine v_iload_n dX4_lengthOf_1 rfl rfl ?_
  refine v_callVp kX4_53 gi_X4_x ge_X4_x rfl dX4_lengthOf_2 (by assumption) (c_mx ho hs hN hNs hN4 hb) rfl rfl (by decide) (Nat.le_of_ble_eq_true rfl) ?_
  refine v_aload_n dX4_lengthOf_5 rfl rfl ?_
  refine v_iload_n dX4_lengthOf_6 rfl rfl ?_
  refine v_callVp kX4_53 gi_X4_x ge_X4_x rfl dX4_lengthOf_7 (by assumption) (c_mx ho hs hN hNs hN4 hc) rfl rfl (by decide) (Nat.le_of_ble_eq_true rfl) ?_
  refine v_isub dX4_lengthOf_10 ?_
  refine v_istore_n dX4_lengthOf_11 rfl (by decide) ?_
  refine v_aload_n dX4_lengthOf_12 rfl rfl ?_
  refine v_iload_n dX4_lengthOf_13 rfl rfl ?_
  refine v_callVp kX4_56 gi_X4_y ge_X4_y rfl dX4_lengthOf_14 (by assumption) (c_my ho hs hN hNs hN4 hb) rfl rfl (by decide) (Nat.le_of_ble_eq_true rfl) ?_
  refine v_aload_n dX4_lengthOf_17 rfl rfl ?_
  refine v_iload_n dX4_lengthOf_18 rfl rfl ?_
  refine v_callVp kX4_56 gi_X4_y ge_X4_y rfl dX4_lengthOf_19 (by assumption) (c_my ho hs hN hNs hN4 hc) rfl rfl (by decide) (Nat.le_of_ble_eq_true rfl) ?_
  refine v_isub dX4_lengthOf_22 ?_
  refine v_istore dX4_lengthOf_23 (by decide) ?_
  refine v_iload_n dX4_lengthOf_25 rfl rfl ?_
  refine v_iload_n dX4_lengthOf_26 rfl rfl ?_
  refine v_imul dX4_lengthOf_27 ?_
  refine v_iload dX4_lengthOf_28 rfl ?_
  refine v_iload dX4_lengthOf_30 rfl ?_
  refine v_imul dX4_lengthOf_32 ?_
  refine v_iadd dX4_lengthOf_33 ?_
  rw [hqd.1]
  refine v_callSp kX4_59 gs_X4_root dX4_lengthOf_34 (c_mroot hqd.2) rfl rfl (by decide) (Nat.le_of_ble_eq_true rfl) ?_
  exact v_ireturn dX4_lengthOf_37 rfl ⟨rfl, rfl, rfl⟩
set_option maxRecDepth 10000 in
set_option maxHeartbeats 1000000 in
theorem c_ofChord {G : zW} {f : zHM} {m : Nat × Nat} {o : Nat} {B : Nat → Nat} {w : Nat → Int32} {hh : Int64} {σ : Nat → Int32} (ho : f o = some (700, .inr (4, zMo B w hh))) (hs : f (B 0) = some (701, .inl (0, 904, .inl σ))) {c k : Nat} (hc : c < 200) (hk : k < 3) : zM G yX4_ofChord cX4_ofChord 3 (some .int) 1 [.ref o, .int (nI c), .int (nI k)] (f, m) (zS (.int (σ (16 + 3 * c + k))) f m) := by
  refine zM.of (by decide) (Nat.le_of_ble_eq_true rfl) ?_
  refine v_aload_n dX4_ofChord_0 rfl rfl ?_
  refine v_getfield fX4_7 dX4_ofChord_1 (by assumption) (by rfl) ?_
  refine v_bipush (nI 16) dX4_ofChord_4 (by decide) ?_
  refine v_iconst (nI 3) dX4_ofChord_6 (by decide) ?_
  refine v_iload_n dX4_ofChord_7 rfl rfl ?_
  refine v_imul dX4_ofChord_8 ?_
  rw [pk_mul]
  refine v_iadd dX4_ofChord_9 ?_
  rw [nI_add]
  refine v_iload_n dX4_ofChord_10 rfl rfl ?_
  refine v_iadd dX4_ofChord_11 ?_
  rw [nI_add]
  refine v_iaload dX4_ofChord_12 hs (vp_in_nI (by omega) (by omega)) ?_
  rw [nI_clamp (by omega)]
  exact v_ireturn dX4_ofChord_13 rfl ⟨rfl, rfl, rfl⟩
set_option maxRecDepth 10000 in
set_option maxHeartbeats 1000000 in
theorem c_isBetween {G : zW} {f : zHM} {m : Nat × Nat} {o : Nat} {B : Nat → Nat} {w : Nat → Int32} {hh : Int64} {σ : Nat → Int32} (ho : f o = some (700, .inr (4, zMo B w hh))) (hs : f (B 0) = some (701, .inl (0, 904, .inl σ))) {c : Nat} (hc : c < 200) {x y : Int32} : zM G yX4_isBetween cX4_isBetween 6 (some .boolean) 2 [.ref o, .int (nI c), .int x, .int y] (f, m) (zS (.int (if sBt (rOf σ) x y c then 1 else 0)) f m) := by
  refine zM.of (by decide) (Nat.le_of_ble_eq_true rfl) ?_
  refine v_aload_n dX4_isBetween_0 rfl rfl ?_
  refine v_iload_n dX4_isBetween_1 rfl rfl ?_
  refine v_iconst (nI 0) dX4_isBetween_2 (by decide) ?_
  refine v_callVp kX4_78 gi_X4_ofChord ge_X4_ofChord rfl dX4_isBetween_3 (by assumption) (c_ofChord ho hs hc (by omega)) rfl rfl (by decide) (Nat.le_of_ble_eq_true rfl) ?_
  refine v_istore dX4_isBetween_6 (by decide) ?_
  refine v_aload_n dX4_isBetween_8 rfl rfl ?_
  refine v_iload_n dX4_isBetween_9 rfl rfl ?_
  refine v_iconst (nI 1) dX4_isBetween_10 (by decide) ?_
  refine v_callVp kX4_78 gi_X4_ofChord ge_X4_ofChord rfl dX4_isBetween_11 (by assumption) (c_ofChord ho hs hc (by omega)) rfl rfl (by decide) (Nat.le_of_ble_eq_true rfl) ?_
  refine v_istore dX4_isBetween_14 (by decide) ?_
  refine v_iload dX4_isBetween_16 rfl ?_
  refine v_iload_n dX4_isBetween_18 rfl rfl ?_
  refine v_icmp_ne 28 dX4_isBetween_19 (by decide) (fun b19 => ?_) (fun b19 => ?_)
  · refine v_iload dX4_isBetween_28 rfl ?_
    refine v_iload_n dX4_isBetween_30 rfl rfl ?_
    refine v_icmp_ne 44 dX4_isBetween_31 (by decide) (fun b31 => ?_) (fun b31 => ?_)
    · refine v_iconst (0) dX4_isBetween_44 (by decide) ?_
      exact v_zreturn dX4_isBetween_45 rfl (by decide) ⟨by rw [if_neg (show ¬ sBt (rOf σ) x y c from fun h => by rcases h with ⟨h1, h2⟩ | ⟨h1, h2⟩ <;> (first | exact absurd h1 (by assumption) | exact absurd h2 (by assumption)))], rfl, rfl⟩
    · refine v_iload dX4_isBetween_34 rfl ?_
      refine v_iload_n dX4_isBetween_36 rfl rfl ?_
      refine v_icmp_ne 44 dX4_isBetween_37 (by decide) (fun b37 => ?_) (fun b37 => ?_)
      · refine v_iconst (0) dX4_isBetween_44 (by decide) ?_
        exact v_zreturn dX4_isBetween_45 rfl (by decide) ⟨by rw [if_neg (show ¬ sBt (rOf σ) x y c from fun h => by rcases h with ⟨h1, h2⟩ | ⟨h1, h2⟩ <;> (first | exact absurd h1 (by assumption) | exact absurd h2 (by assumption)))], rfl, rfl⟩
      · refine v_iconst (1) dX4_isBetween_40 (by decide) ?_
        refine v_goto 45 dX4_isBetween_41 (by decide) ?_
        exact v_zreturn dX4_isBetween_45 rfl (by decide) ⟨by rw [if_pos (show sBt (rOf σ) x y c from by first | exact Or.inl ⟨by assumption, by assumption⟩ | exact Or.inr ⟨by assumption, by assumption⟩)], rfl, rfl⟩
  · refine v_iload dX4_isBetween_22 rfl ?_
    refine v_iload_n dX4_isBetween_24 rfl rfl ?_
    refine v_icmp_eq 40 dX4_isBetween_25 (by decide) (fun b25 => ?_) (fun b25 => ?_)
    · refine v_iconst (1) dX4_isBetween_40 (by decide) ?_
      refine v_goto 45 dX4_isBetween_41 (by decide) ?_
      exact v_zreturn dX4_isBetween_45 rfl (by decide) ⟨by rw [if_pos (show sBt (rOf σ) x y c from by first | exact Or.inl ⟨by assumption, by assumption⟩ | exact Or.inr ⟨by assumption, by assumption⟩)], rfl, rfl⟩
    · refine v_iload dX4_isBetween_28 rfl ?_
      refine v_iload_n dX4_isBetween_30 rfl rfl ?_
      refine v_icmp_ne 44 dX4_isBetween_31 (by decide) (fun b31 => ?_) (fun b31 => ?_)
      · refine v_iconst (0) dX4_isBetween_44 (by decide) ?_
        exact v_zreturn dX4_isBetween_45 rfl (by decide) ⟨by rw [if_neg (show ¬ sBt (rOf σ) x y c from fun h => by rcases h with ⟨h1, h2⟩ | ⟨h1, h2⟩ <;> (first | exact absurd h1 (by assumption) | exact absurd h2 (by assumption)))], rfl, rfl⟩
      · refine v_iload dX4_isBetween_34 rfl ?_
        refine v_iload_n dX4_isBetween_36 rfl rfl ?_
        refine v_icmp_ne 44 dX4_isBetween_37 (by decide) (fun b37 => ?_) (fun b37 => ?_)
        · refine v_iconst (0) dX4_isBetween_44 (by decide) ?_
          exact v_zreturn dX4_isBetween_45 rfl (by decide) ⟨by rw [if_neg (show ¬ sBt (rOf σ) x y c from fun h => by rcases h with ⟨h1, h2⟩ | ⟨h1, h2⟩ <;> (first | exact absurd h1 (by assumption) | exact absurd h2 (by assumption)))], rfl, rfl⟩
        · refine v_iconst (1) dX4_isBetween_40 (by decide) ?_
          refine v_goto 45 dX4_isBetween_41 (by decide) ?_
          exact v_zreturn dX4_isBetween_45 rfl (by decide) ⟨by rw [if_pos (show sBt (rOf σ) x y c from by first | exact Or.inl ⟨by assumption, by assumption⟩ | exact Or.inr ⟨by assumption, by assumption⟩)], rfl, rfl⟩
set_option maxRecDepth 10000 in
set_option maxHeartbeats 1000000 in
theorem c_liesBetween {G : zW} {f : zHM} {m : Nat × Nat} {o : Nat} {B : Nat → Nat} {w : Nat → Int32} {hh : Int64} {σ : Nat → Int32} (ho : f o = some (700, .inr (4, zMo B w hh))) (hs : f (B 0) = some (701, .inl (0, 904, .inl σ))) {n : Nat} (hn : σ 15 = nI n) (hn200 : n ≤ 200) {x y : Int32} : zM G yX4_liesBetween cX4_liesBetween 5 (some .int) 3 [.ref o, .int x, .int y] (f, m) (zS (.int (sLB (rOf σ) n x y)) f m) := by
  refine zM.of (by decide) (Nat.le_of_ble_eq_true rfl) ?_
  have loop : ∀ (kk i : Nat), i + kk = n → zV G yX4_liesBetween cX4_liesBetween 5 (some .int) 3 5 [(0, .ref o), (1, .int x), (2, .int y), (3, .int (sLB (rOf σ) i x y)), (4, .int (nI i))] [] (f, m) (zS (.int (sLB (rOf σ) n x y)) f m) := by
    intro kk
    induction kk with
    | zero =>
      intro i hi
      have hi : i = n := by omega
      subst hi
      refine v_iload dX4_liesBetween_5 rfl ?_
      refine v_aload_n dX4_liesBetween_7 rfl rfl ?_
      refine v_getfield fX4_7 dX4_liesBetween_8 (by assumption) (by rfl) ?_
      refine v_bipush (nI 15) dX4_liesBetween_11 (by decide) ?_
      refine v_iaload dX4_liesBetween_13 hs (vp_in_nI (by omega) (by omega)) ?_
      rw [nI_clamp (by omega), hn]
      refine v_icmp_ge 42 dX4_liesBetween_14 (by decide) (fun b14 => ?_) (fun b14 => ?_)
      · rw [nI_leI (by omega) (by omega)] at b14
        refine v_iload_n dX4_liesBetween_42 rfl rfl ?_
        exact v_ireturn dX4_liesBetween_43 rfl ⟨rfl, rfl, rfl⟩
      · rw [nI_leI (by omega) (by omega)] at b14
        omega
    | succ kk ih =>
      intro i hi
      have hi9 : i < n := by omega
      refine v_iload dX4_liesBetween_5 rfl ?_
      refine v_aload_n dX4_liesBetween_7 rfl rfl ?_
      refine v_getfield fX4_7 dX4_liesBetween_8 (by assumption) (by rfl) ?_
      refine v_bipush (nI 15) dX4_liesBetween_11 (by decide) ?_
      refine v_iaload dX4_liesBetween_13 hs (vp_in_nI (by omega) (by omega)) ?_
      rw [nI_clamp (by omega), hn]
      refine v_icmp_ge 42 dX4_liesBetween_14 (by decide) (fun b14 => ?_) (fun b14 => ?_)
      · rw [nI_leI (by omega) (by omega)] at b14
        omega
      · rw [nI_leI (by omega) (by omega)] at b14
        refine v_iload_n dX4_liesBetween_17 rfl rfl ?_
        refine v_aload_n dX4_liesBetween_18 rfl rfl ?_
        refine v_iload dX4_liesBetween_19 rfl ?_
        refine v_iload_n dX4_liesBetween_21 rfl rfl ?_
        refine v_iload_n dX4_liesBetween_22 rfl rfl ?_
        refine v_callVp kX4_82 gi_X4_isBetween ge_X4_isBetween rfl dX4_liesBetween_23 (by assumption) (c_isBetween ho hs (by omega)) rfl rfl (by decide) (Nat.le_of_ble_eq_true rfl) ?_
        by_cases hP : sBt (rOf σ) x y i
        · rw [if_pos hP]
          refine v_if_eq 33 dX4_liesBetween_26 (by decide) (fun z => absurd z (by decide)) (fun _ => ?_)
          refine v_iconst 1 dX4_liesBetween_29 (by decide) ?_
          refine v_goto 34 dX4_liesBetween_30 (by decide) ?_
          refine v_iadd dX4_liesBetween_34 ?_
          rw [show sLB (rOf σ) i x y + 1 = sLB (rOf σ) (i + 1) x y from by show _ = sLB (rOf σ) i x y + (if sBt (rOf σ) x y i then 1 else 0); rw [if_pos hP]]
          refine v_istore_n dX4_liesBetween_35 rfl (by decide) ?_
          refine v_iincN dX4_liesBetween_36 rfl (by decide) ?_
          refine v_goto 5 dX4_liesBetween_39 (by decide) ?_
          exact v_loc (lv' := [(0, .ref o), (1, .int x), (2, .int y), (3, .int (sLB (rOf σ) (i + 1) x y)), (4, .int (nI (i + 1)))]) ⟨rfl, rfl, rfl, rfl, rfl, trivial⟩ (ih (i + 1) (by omega))
        · rw [if_neg hP]
          refine v_if_eq 33 dX4_liesBetween_26 (by decide) (fun _ => ?_) (fun z => absurd rfl z)
          refine v_iconst 0 dX4_liesBetween_33 (by decide) ?_
          refine v_iadd dX4_liesBetween_34 ?_
          rw [show sLB (rOf σ) i x y + 0 = sLB (rOf σ) (i + 1) x y from by show _ = sLB (rOf σ) i x y + (if sBt (rOf σ) x y i then 1 else 0); rw [if_neg hP]]
          refine v_istore_n dX4_liesBetween_35 rfl (by decide) ?_
          refine v_iincN dX4_liesBetween_36 rfl (by decide) ?_
          refine v_goto 5 dX4_liesBetween_39 (by decide) ?_
          exact v_loc (lv' := [(0, .ref o), (1, .int x), (2, .int y), (3, .int (sLB (rOf σ) (i + 1) x y)), (4, .int (nI (i + 1)))]) ⟨rfl, rfl, rfl, rfl, rfl, trivial⟩ (ih (i + 1) (by omega))
  refine v_iconst (0) dX4_liesBetween_0 (by decide) ?_
  refine v_istore_n dX4_liesBetween_1 rfl (by decide) ?_
  refine v_iconst (nI 0) dX4_liesBetween_2 (by decide) ?_
  refine v_istore dX4_liesBetween_3 (by decide) ?_
  exact v_loc (lv' := [(0, .ref o), (1, .int x), (2, .int y), (3, .int (sLB (rOf σ) 0 x y)), (4, .int (nI 0))]) ⟨rfl, rfl, rfl, rfl, rfl, trivial⟩ (loop n 0 (by omega))
set_option maxRecDepth 10000 in
set_option maxHeartbeats 1000000 in
theorem c_mlack {G : zW} {f : zHM} {m : Nat × Nat} {o : Nat} {B : Nat → Nat} {w : Nat → Int32} {hh : Int64} {σ : Nat → Int32} (ho : f o = some (700, .inr (4, zMo B w hh))) (hs : f (B 0) = some (701, .inl (0, 904, .inl σ))) {q : Nat} (hq : q < 144) : zM G yX4_lack cX4_lack 2 (some .int) 1 [.ref o, .int (nI q)] (f, m) (zS (.int (sLack (rOf σ) q)) f m) := by
  refine zM.of (by decide) (Nat.le_of_ble_eq_true rfl) ?_
  refine v_aload_n dX4_lack_0 rfl rfl ?_
  refine v_getfield fX4_7 dX4_lack_1 (by assumption) (by rfl) ?_
  refine v_sipush (nI 616) dX4_lack_4 (by decide) ?_
  refine v_iload_n dX4_lack_7 rfl rfl ?_
  refine v_iadd dX4_lack_8 ?_
  rw [nI_add]
  refine v_iaload dX4_lack_9 hs (vp_in_nI (by omega) (by omega)) ?_
  rw [nI_clamp (by omega)]
  refine v_aload_n dX4_lack_10 rfl rfl ?_
  refine v_getfield fX4_7 dX4_lack_11 (by assumption) (by rfl) ?_
  refine v_bipush (nI 8) dX4_lack_14 (by decide) ?_
  refine v_iaload dX4_lack_16 hs (vp_in_nI (by omega) (by omega)) ?_
  rw [nI_clamp (by omega)]
  refine v_imul dX4_lack_17 ?_
  refine v_aload_n dX4_lack_18 rfl rfl ?_
  refine v_getfield fX4_7 dX4_lack_19 (by assumption) (by rfl) ?_
  refine v_sipush (nI 760) dX4_lack_22 (by decide) ?_
  refine v_iload_n dX4_lack_25 rfl rfl ?_
  refine v_iadd dX4_lack_26 ?_
  rw [nI_add]
  refine v_iaload dX4_lack_27 hs (vp_in_nI (by omega) (by omega)) ?_
  rw [nI_clamp (by omega)]
  refine v_isub dX4_lack_28 ?_
  exact v_ireturn dX4_lack_29 rfl ⟨rfl, rfl, rfl⟩
set_option maxRecDepth 10000 in
set_option maxHeartbeats 1000000 in
theorem c_mmisfit {G : zW} {f : zHM} {m : Nat × Nat} {o : Nat} {B : Nat → Nat} {w : Nat → Int32} {hh : Int64} {σ : Nat → Int32} (ho : f o = some (700, .inr (4, zMo B w hh))) (hs : f (B 0) = some (701, .inl (0, 904, .inl σ))) : zM G yX4_misfit cX4_misfit 3 (some .int) 2 [.ref o] (f, m) (zS (.int (sMisfit (rOf σ))) f m) := by
  refine zM.of (by decide) (Nat.le_of_ble_eq_true rfl) ?_
  have loop : ∀ (kk i : Nat), i + kk = 144 → zV G yX4_misfit cX4_misfit 3 (some .int) 2 4 [(0, .ref o), (1, .int (sSum (fun q => sAbs (sLack (rOf σ) q)) i)), (2, .int (nI i))] [] (f, m) (zS (.int (sMisfit (rOf σ))) f m) := by
    intro kk
    induction kk with
    | zero =>
      intro i hi
      have hi : i = 144 := by omega
      subst hi
      refine v_iload_n dX4_misfit_4 rfl rfl ?_
      refine v_sipush (nI 144) dX4_misfit_5 (by decide) ?_
      refine v_icmp_ge 28 dX4_misfit_8 (by decide) (fun b8 => ?_) (fun b8 => ?_)
      · rw [nI_leI (by omega) (by omega)] at b8
        refine v_iload_n dX4_misfit_28 rfl rfl ?_
        exact v_ireturn dX4_misfit_29 rfl ⟨rfl, rfl, rfl⟩
      · rw [nI_leI (by omega) (by omega)] at b8
        omega
    | succ kk ih =>
      intro i hi
      have hi9 : i < 144 := by omega
      refine v_iload_n dX4_misfit_4 rfl rfl ?_
      refine v_sipush (nI 144) dX4_misfit_5 (by decide) ?_
      refine v_icmp_ge 28 dX4_misfit_8 (by decide) (fun b8 => ?_) (fun b8 => ?_)
      · rw [nI_leI (by omega) (by omega)] at b8
        omega
      · rw [nI_leI (by omega) (by omega)] at b8
        refine v_iload_n dX4_misfit_11 rfl rfl ?_
        refine v_aload_n dX4_misfit_12 rfl rfl ?_
        refine v_iload_n dX4_misfit_13 rfl rfl ?_
        refine v_callVp kX4_104 gi_X4_lack ge_X4_lack rfl dX4_misfit_14 (by assumption) (c_mlack ho hs (by omega)) rfl rfl (by decide) (Nat.le_of_ble_eq_true rfl) ?_
        refine v_callSp kX4_71 gs_X4_abs dX4_misfit_17 c_mabs rfl rfl (by decide) (Nat.le_of_ble_eq_true rfl) ?_
        refine v_iadd dX4_misfit_20 ?_
        rw [show sSum (fun q => sAbs (sLack (rOf σ) q)) i + sAbs (sLack (rOf σ) i) = sSum (fun q => sAbs (sLack (rOf σ) q)) (i + 1) from rfl]
        refine v_istore_n dX4_misfit_21 rfl (by decide) ?_
        refine v_iincN dX4_misfit_22 rfl (by decide) ?_
        refine v_goto 4 dX4_misfit_25 (by decide) ?_
        exact v_loc (lv' := [(0, .ref o), (1, .int (sSum (fun q => sAbs (sLack (rOf σ) q)) (i + 1))), (2, .int (nI (i + 1)))]) ⟨rfl, rfl, rfl, trivial⟩ (ih (i + 1) (by omega))
  refine v_iconst (0) dX4_misfit_0 (by decide) ?_
  refine v_istore_n dX4_misfit_1 rfl (by decide) ?_
  refine v_iconst (nI 0) dX4_misfit_2 (by decide) ?_
  refine v_istore_n dX4_misfit_3 rfl (by decide) ?_
  exact v_loc (lv' := [(0, .ref o), (1, .int (sSum (fun q => sAbs (sLack (rOf σ) q)) 0)), (2, .int (nI 0))]) ⟨rfl, rfl, rfl, trivial⟩ (loop 144 0 (by omega))
