abbrev zTX : Nat → Prop := fun τ => τ = 700 ∨ τ = 706 ∨ τ = 707
def zUp (w : Nat → Int32) (k : Nat) (v : Int32) : Nat → Int32 := fun i => if i = k then v else w i
set_option maxRecDepth 10000 in
set_option maxHeartbeats 1000000 in
theorem c_crosses_old {G : zW} {f : zHM} {m : Nat × Nat} {o : Nat} {B : Nat → Nat} {w : Nat → Int32} {hh : Int64} {gc gm : Nat → Int32} (ho : f o = some (700, .inr (4, zMo B w hh))) (hcr : f (B 5) = some (706, .inl (0, 144, .inl gc))) (hmk : f (B 6) = some (707, .inl (0, 144, .inl gm))) {x y : Int32} {q : Nat} (hq : q < 144) (hxy : 12 * sMk y + sMk x = nI q) (hm : gm q = w 4) : zM G yX4_crosses cX4_crosses 4 none 2 [.ref o, .int x, .int y] (f, m) (zD none (fun f' m' => f' = f ∧ m' = m)) := by
  refine zM.of (by decide) (Nat.le_of_ble_eq_true rfl) ?_
  refine v_bipush (12) dX4_crosses_0 (by decide) ?_
  refine v_iload_n dX4_crosses_2 rfl rfl ?_
  refine v_callSp kX4_62 gs_X4_cell dX4_crosses_3 (c_cell (v := y)) rfl rfl (by decide) (Nat.le_of_ble_eq_true rfl) ?_
  refine v_imul dX4_crosses_6 ?_
  refine v_iload_n dX4_crosses_7 rfl rfl ?_
  refine v_callSp kX4_62 gs_X4_cell dX4_crosses_8 (c_cell (v := x)) rfl rfl (by decide) (Nat.le_of_ble_eq_true rfl) ?_
  refine v_iadd dX4_crosses_11 ?_
  rw [show 12 * (if y = 120 then 11 else y / 10) + (if x = 120 then 11 else x / 10) = nI q from hxy]
  refine v_istore_n dX4_crosses_12 rfl (by decide) ?_
  refine v_aload_n dX4_crosses_13 rfl rfl ?_
  refine v_getfield fX4_29 dX4_crosses_14 (by assumption) (by rfl) ?_
  refine v_iload_n dX4_crosses_17 rfl rfl ?_
  refine v_iaload dX4_crosses_18 hmk (vp_in_nI (by omega) (by omega)) ?_
  rw [nI_clamp (by omega)]
  refine v_aload_n dX4_crosses_19 rfl rfl ?_
  refine v_getfield fX4_65 dX4_crosses_20 (by assumption) (by rfl) ?_
  refine v_icmp_eq 56 dX4_crosses_23 (by decide) (fun b23 => ?_) (fun b23 => ?_)
  · exact v_return dX4_crosses_56 rfl ⟨rfl, rfl, rfl⟩
  · exact absurd hm b23
set_option maxRecDepth 10000 in
set_option maxHeartbeats 1000000 in
theorem c_crosses_new {G : zW} {f : zHM} {m : Nat × Nat} {o : Nat} {B : Nat → Nat} {w : Nat → Int32} {hh : Int64} {gc gm : Nat → Int32} (ho : f o = some (700, .inr (4, zMo B w hh))) (hcr : f (B 5) = some (706, .inl (0, 144, .inl gc))) (hmk : f (B 6) = some (707, .inl (0, 144, .inl gm))) {x y : Int32} {q : Nat} (hq : q < 144) (hxy : 12 * sMk y + sMk x = nI q) (hm : ¬ gm q = w 4) {c : Nat} (hc : w 3 = nI c) (hc144 : c < 144) : zM G yX4_crosses cX4_crosses 4 none 2 [.ref o, .int x, .int y] (f, m) (zD none (fun f' m' => f' o = some (700, .inr (4, zMo B (zUp w 3 (nI (c + 1))) hh)) ∧ f' (B 5) = some (706, .inl (0, 144, .inl (upd gc c (nI q)))) ∧ f' (B 6) = some (707, .inl (0, 144, .inl (upd gm q (w 4)))) ∧ zFr zTX f f' ∧ m' = m)) := by
  refine zM.of (by decide) (Nat.le_of_ble_eq_true rfl) ?_
  refine v_bipush (12) dX4_crosses_0 (by decide) ?_
  refine v_iload_n dX4_crosses_2 rfl rfl ?_
  refine v_callSp kX4_62 gs_X4_cell dX4_crosses_3 (c_cell (v := y)) rfl rfl (by decide) (Nat.le_of_ble_eq_true rfl) ?_
  refine v_imul dX4_crosses_6 ?_
  refine v_iload_n dX4_crosses_7 rfl rfl ?_
  refine v_callSp kX4_62 gs_X4_cell dX4_crosses_8 (c_cell (v := x)) rfl rfl (by decide) (Nat.le_of_ble_eq_true rfl) ?_
  refine v_iadd dX4_crosses_11 ?_
  rw [show 12 * (if y = 120 then 11 else y / 10) + (if x = 120 then 11 else x / 10) = nI q from hxy]
  refine v_istore_n dX4_crosses_12 rfl (by decide) ?_
  refine v_aload_n dX4_crosses_13 rfl rfl ?_
  refine v_getfield fX4_29 dX4_crosses_14 (by assumption) (by rfl) ?_
  refine v_iload_n dX4_crosses_17 rfl rfl ?_
  refine v_iaload dX4_crosses_18 hmk (vp_in_nI (by omega) (by omega)) ?_
  rw [nI_clamp (by omega)]
  refine v_aload_n dX4_crosses_19 rfl rfl ?_
  refine v_getfield fX4_65 dX4_crosses_20 (by assumption) (by rfl) ?_
  refine v_icmp_eq 56 dX4_crosses_23 (by decide) (fun b23 => ?_) (fun b23 => ?_)
  · exact absurd b23 hm
  · refine v_aload_n dX4_crosses_26 rfl rfl ?_
    refine v_getfield fX4_29 dX4_crosses_27 (by assumption) (by rfl) ?_
    refine v_iload_n dX4_crosses_30 rfl rfl ?_
    refine v_aload_n dX4_crosses_31 rfl rfl ?_
    refine v_getfield fX4_65 dX4_crosses_32 (by assumption) (by rfl) ?_
    refine v_iastoreX dX4_crosses_35 hmk (vp_in_nI (by omega) (by omega)) (fun f1 hp1 => ?_)
    rw [nI_clamp (by omega)] at hp1
    have ho1 := hp1.ne ho (by omega)
    have hcr1 := hp1.ne hcr (by omega)
    refine v_aload_n dX4_crosses_36 rfl rfl ?_
    refine v_getfield fX4_26 dX4_crosses_37 ho1 (by rfl) ?_
    refine v_aload_n dX4_crosses_40 rfl rfl ?_
    refine v_getfield fX4_68 dX4_crosses_41 ho1 (by rfl) ?_
    rw [hc]
    refine v_iload_n dX4_crosses_44 rfl rfl ?_
    refine v_iastoreX dX4_crosses_45 hcr1 (vp_in_nI (by omega) (by omega)) (fun f2 hp2 => ?_)
    rw [nI_clamp (by omega)] at hp2
    have ho2 := hp2.ne ho1 (by omega)
    refine v_aload_n dX4_crosses_46 rfl rfl ?_
    refine v_dup dX4_crosses_47 rfl ?_
    refine v_getfield fX4_68 dX4_crosses_48 ho2 (by rfl) ?_
    rw [hc]
    refine v_iconst (nI 1) dX4_crosses_51 (by decide) ?_
    refine v_iadd dX4_crosses_52 ?_
    rw [nI_add]
    refine v_putfieldX fX4_68 dX4_crosses_53 ho2 rfl rfl (Nat.le_of_ble_eq_true rfl) (fun f3 hp3 => ?_)
    exact v_return dX4_crosses_56 rfl ⟨rfl, hp3.1, hp3.ne hp2.1 (by omega), hp3.ne (hp2.ne hp1.1 (by omega)) (by omega), ((zFr.put (T := zTX) zFr.refl hp1 (Or.inr (Or.inr rfl))).put hp2 (Or.inr (Or.inl rfl))).put hp3 (Or.inl rfl), rfl⟩
