abbrev d1 : UInt64 := 4607182418800017408
abbrev d2p : UInt64 := 4611686018427387904
abbrev d52 : UInt64 := 4841369599423283200
/-- the share of k squares of 144 -/
def sSh (k : Nat) : UInt64 := FP.ddiv (FP.i2d (nI k)) 4639270566145032192
def sDb (x : UInt64) : Nat → UInt64
  | 0 => x
  | j + 1 => FP.dmul (sDb x j) d2p
def sJ (k : Nat) : Nat := if 144 ≤ k then 0 else if 72 ≤ k then 1 else if 36 ≤ k then 2 else if 18 ≤ k then 3 else if 9 ≤ k then 4 else if 5 ≤ k then 5 else if 3 ≤ k then 6 else if 2 ≤ k then 7 else 8
theorem sJ_le (k : Nat) : sJ k ≤ 8 := by
  unfold sJ
  repeat (split; omega)
  omega
abbrev zN64 (x : UInt64) : Prop := x &&& 0x7fffffffffffffff ≤ 0x7ff0000000000000
theorem bt_0 : ∀ k, k < 145 → 1 ≤ k → 0 < Op.cmpValue (FP.dcmp (sSh k) 0) .g := by decide +kernel
theorem bt_1 : ∀ k, k < 145 → ∀ j, j < sJ k → ¬ 0 ≤ Op.cmpValue (FP.dcmp (sDb (sSh k) j) d1) .g ∧ zN64 (FP.dmul (sDb (sSh k) j) d2p) := by decide +kernel
theorem bt_2 : ∀ k, k < 145 → 1 ≤ k → 0 ≤ Op.cmpValue (FP.dcmp (sDb (sSh k) (sJ k)) d1) .g ∧ zN64 (FP.dsub (sDb (sSh k) (sJ k)) d1) ∧ zN64 (FP.dmul (FP.dsub (sDb (sSh k) (sJ k)) d1) d52) := by decide +kernel
theorem bt_3 : ∀ k, k < 145 → 1 ≤ k → (nI (1023 - sJ k)).toInt64 <<< ((52 : Int32).toInt64 &&& 63) + FP.d2l (FP.dmul (FP.dsub (sDb (sSh k) (sJ k)) d1) d52) = (sSh k).toInt64 := by decide +kernel
theorem bt_4 : ¬ 0 < Op.cmpValue (FP.dcmp (sSh 0) 0) .g := by decide +kernel
theorem bt_5 : (sSh 0).toInt64 = 0 := by decide +kernel
theorem bt_6 : ∀ j, j < 9 → nI (1023 - j) + (-1) = nI (1023 - (j + 1)) := by decide +kernel
set_option maxRecDepth 10000 in
set_option maxHeartbeats 1000000 in
theorem c_bitsOf {G : zW} {f : zHM} {m : Nat × Nat} {k : Nat} (hk : k < 145) : zM G yX3_bitsOf cX3_bitsOf 5 (some .long) 1 [.double (sSh k)] (f, m) (zS (.long (sSh k).toInt64) f m) := by
  refine zM.of (by decide) (Nat.le_of_ble_eq_true rfl) ?_
  by_cases h1 : 1 ≤ k
  rotate_left
  · have h0 : k = 0 := by omega
    subst h0
    refine v_dload_n dX3_bitsOf_0 rfl rfl ?_
    refine v_dconst0 dX3_bitsOf_1 ?_
    refine v_dcmp dX3_bitsOf_2 ?_
    refine v_if_gt 8 dX3_bitsOf_3 (by decide) (fun z => absurd z bt_4) (fun _ => ?_)
    refine v_lconst 0 dX3_bitsOf_6 (by decide) ?_
    exact v_lreturn dX3_bitsOf_7 rfl ⟨by rw [bt_5], rfl, rfl⟩
  have hJ8 := sJ_le k
  have loop : ∀ (kk j : Nat), j + kk = sJ k → zV G yX3_bitsOf cX3_bitsOf 5 (some .long) 1 15 [(0, .double (sSh k)), (2, .double (sDb (sSh k) j)), (4, .int (nI (1023 - j)))] [] (f, m) (zS (.long (sSh k).toInt64) f m) := by
    intro kk
    induction kk with
    | zero =>
      intro j hj
      have hj : j = sJ k := by omega
      subst hj
      obtain ⟨c1, c2, c3⟩ := bt_2 k hk h1
      refine v_dload_n dX3_bitsOf_15 rfl rfl ?_
      refine v_dconst1 dX3_bitsOf_16 ?_
      refine v_dcmp dX3_bitsOf_17 ?_
      refine v_if_ge 39 dX3_bitsOf_18 (by decide) (fun _ => ?_) (fun z => absurd c1 z)
      refine v_iload dX3_bitsOf_39 rfl ?_
      refine v_i2l dX3_bitsOf_41 ?_
      refine v_bipush 52 dX3_bitsOf_42 (by decide) ?_
      refine v_lshl dX3_bitsOf_44 ?_
      refine v_dload_n dX3_bitsOf_45 rfl rfl ?_
      refine v_dconst1 dX3_bitsOf_46 ?_
      refine v_dsub dX3_bitsOf_47 c2 ?_
      refine v_ldc2d d52 dX3_bitsOf_48 gd52 ?_
      refine v_dmul dX3_bitsOf_51 c3 ?_
      refine v_d2l dX3_bitsOf_52 ?_
      refine v_ladd dX3_bitsOf_53 ?_
      exact v_lreturn dX3_bitsOf_54 rfl ⟨by rw [bt_3 k hk h1], rfl, rfl⟩
    | succ kk ih =>
      intro j hj
      have hjk : j < sJ k := by omega
      obtain ⟨c1, c2⟩ := bt_1 k hk j hjk
      refine v_dload_n dX3_bitsOf_15 rfl rfl ?_
      refine v_dconst1 dX3_bitsOf_16 ?_
      refine v_dcmp dX3_bitsOf_17 ?_
      refine v_if_ge 39 dX3_bitsOf_18 (by decide) (fun z => absurd z c1) (fun _ => ?_)
      refine v_iload dX3_bitsOf_21 rfl ?_
      refine v_iconst (nI 1) dX3_bitsOf_23 (by decide) ?_
      refine v_icmp_le 39 dX3_bitsOf_24 (by decide) (fun z => absurd z (by rw [nI_leI (by omega) (by omega)]; omega)) (fun _ => ?_)
      refine v_dload_n dX3_bitsOf_27 rfl rfl ?_
      refine v_ldc2d d2p dX3_bitsOf_28 gd2 ?_
      refine v_dmul dX3_bitsOf_31 c2 ?_
      refine v_dstore_n dX3_bitsOf_32 rfl (by decide) ?_
      refine v_iincC (-1) dX3_bitsOf_33 rfl (by decide) (by decide) ?_
      rw [bt_6 j (by omega)]
      refine v_goto 15 dX3_bitsOf_36 (by decide) ?_
      exact v_loc (lv' := [(0, .double (sSh k)), (2, .double (sDb (sSh k) (j + 1))), (4, .int (nI (1023 - (j + 1))))]) ⟨rfl, rfl, rfl, trivial⟩ (ih (j + 1) (by omega))
  refine v_dload_n dX3_bitsOf_0 rfl rfl ?_
  refine v_dconst0 dX3_bitsOf_1 ?_
  refine v_dcmp dX3_bitsOf_2 ?_
  refine v_if_gt 8 dX3_bitsOf_3 (by decide) (fun _ => ?_) (fun z => absurd (bt_0 k hk h1) z)
  refine v_dload_n dX3_bitsOf_8 rfl rfl ?_
  refine v_dstore_n dX3_bitsOf_9 rfl (by decide) ?_
  refine v_sipush (nI (1023 - 0)) dX3_bitsOf_10 (by decide) ?_
  refine v_istore dX3_bitsOf_13 (by decide) ?_
  exact v_loc (lv' := [(0, .double (sSh k)), (2, .double (sDb (sSh k) 0)), (4, .int (nI (1023 - 0)))]) ⟨rfl, rfl, rfl, trivial⟩ (loop (sJ k) 0 (by omega))
