/-- a new ring -/
def sNew : zRS := fun k i => if k = 0 then (if i = 0 then 12 else 0) else if k = 1 then (if i = 0 then 1 else if i = 1 then 2 else 3) else if k = 2 then 2000 else if k = 3 then (if i = 2 then 2 else 1) else 0
theorem h3 (g φ : Nat → Int32) (e0 : g 0 = φ 0) (e1 : g 1 = φ 1) (e2 : g 2 = φ 2) : ∀ i, i < 3 → g i = φ i := fun i hi => by
  match i, hi with
  | 0, _ => exact e0
  | 1, _ => exact e1
  | 2, _ => exact e2
set_option maxRecDepth 10000 in
set_option maxHeartbeats 1000000 in
theorem c_Ring_init {G : zW} {f0 : zHM} {m : Nat × Nat} {t r la : Nat} (r0 : f0 r = some (t, .inr (1, [.null, .int 0, .int 0, .int 0, .int 0, .int 0, .int 0, .int 0, .int 0, .null, .null, .null, .null, .null, .null, .null, .null, .null, .null]))) (hm1 : m.1 + 10 ≤ 50000) (hm2 : m.2 + 1320 ≤ 400000) : zM G yX1_init cX1_init 2 none 2 [.ref r, .ref la] (f0, m) (zD none (fun f' m' => (∃ A, RPic f' t r la A sNew 0 (fun _ => 0) (fun _ => 0)) ∧ zFr (zTRi t) f0 f' ∧ m' = (m.1 + 10, m.2 + 1320))) := by
  refine zM.of (by decide) (Nat.le_of_ble_eq_true rfl) ?_
  have hf0 : zFr (zTRi t) f0 f0 := zFr.refl
  refine v_aload_n dX1_init_0 rfl rfl ?_
  refine v_objInit goLX1 goI goC dX1_init_1 (by decide) (Nat.le_of_ble_eq_true rfl) ?_
  refine v_aload_n dX1_init_4 rfl rfl ?_
  refine v_bipush (12) dX1_init_5 (by decide) ?_
  refine v_putfieldX fX1_9 dX1_init_7 (by assumption) rfl rfl (Nat.le_of_ble_eq_true rfl) (fun f hp => ?_)
  
  have r0 := hp.1
  have hf0 := zput_fri (k := 0) hf0 hp (by omega)
  refine v_aload_n dX1_init_10 rfl rfl ?_
  refine v_iconst (2) dX1_init_11 (by decide) ?_
  refine v_putfieldX fX1_15 dX1_init_12 (by assumption) rfl rfl (Nat.le_of_ble_eq_true rfl) (fun f hp => ?_)
  
  have r0 := hp.1
  have hf0 := zput_fri (k := 0) hf0 hp (by omega)
  refine v_aload_n dX1_init_15 rfl rfl ?_
  refine v_iconst (nI 3) dX1_init_16 (by decide) ?_
  refine v_newIX (t + 1) 3 dX1_init_17 (by decide) (by decide) (by omega) (by omega) (by omega) (fun q1 f hp => ?_)
  have r0 := hp.2.2 _ _ r0
  have a1 := hp.1
  have hf0 := zFr.new hf0 hp
  refine v_dup dX1_init_19 rfl ?_
  refine v_iconst (0) dX1_init_20 (by decide) ?_
  refine v_iconst (1) dX1_init_21 (by decide) ?_
  refine v_iastoreX dX1_init_22 (by assumption) (by unfold vp_in; decide) (fun f hp => ?_)
  have r0 := hp.ne r0 (by omega)
  have a1 := hp.1
  have hf0 := zput_fri (k := 1) hf0 hp (by omega)
  refine v_dup dX1_init_23 rfl ?_
  refine v_iconst (1) dX1_init_24 (by decide) ?_
  refine v_iconst (2) dX1_init_25 (by decide) ?_
  refine v_iastoreX dX1_init_26 (by assumption) (by unfold vp_in; decide) (fun f hp => ?_)
  have r0 := hp.ne r0 (by omega)
  have a1 := hp.1
  have hf0 := zput_fri (k := 1) hf0 hp (by omega)
  refine v_dup dX1_init_27 rfl ?_
  refine v_iconst (2) dX1_init_28 (by decide) ?_
  refine v_iconst (3) dX1_init_29 (by decide) ?_
  refine v_iastoreX dX1_init_30 (by assumption) (by unfold vp_in; decide) (fun f hp => ?_)
  have r0 := hp.ne r0 (by omega)
  have a1 := hp.1
  have hf0 := zput_fri (k := 1) hf0 hp (by omega)
  refine v_putfieldFX fX1_18 rfl rfl dX1_init_31 (by assumption) rfl rfl (Nat.le_of_ble_eq_true rfl) (fun f hp => ?_)
  have a1 := hp.ne a1 (by omega)
  have r0 := hp.1
  have hf0 := zput_fri (k := 0) hf0 hp (by omega)
  refine v_aload_n dX1_init_34 rfl rfl ?_
  refine v_iconst (nI 3) dX1_init_35 (by decide) ?_
  refine v_newIX (t + 2) 3 dX1_init_36 (by decide) (by decide) (by omega) (by omega) (by omega) (fun q2 f hp => ?_)
  have r0 := hp.2.2 _ _ r0
  have a1 := hp.2.2 _ _ a1
  have a2 := hp.1
  have hf0 := zFr.new hf0 hp
  refine v_dup dX1_init_38 rfl ?_
  refine v_iconst (0) dX1_init_39 (by decide) ?_
  refine v_sipush (2000) dX1_init_40 (by decide) ?_
  refine v_iastoreX dX1_init_43 (by assumption) (by unfold vp_in; decide) (fun f hp => ?_)
  have r0 := hp.ne r0 (by omega)
  have a1 := hp.ne a1 (by omega)
  have a2 := hp.1
  have hf0 := zput_fri (k := 2) hf0 hp (by omega)
  refine v_dup dX1_init_44 rfl ?_
  refine v_iconst (1) dX1_init_45 (by decide) ?_
  refine v_sipush (2000) dX1_init_46 (by decide) ?_
  refine v_iastoreX dX1_init_49 (by assumption) (by unfold vp_in; decide) (fun f hp => ?_)
  have r0 := hp.ne r0 (by omega)
  have a1 := hp.ne a1 (by omega)
  have a2 := hp.1
  have hf0 := zput_fri (k := 2) hf0 hp (by omega)
  refine v_dup dX1_init_50 rfl ?_
  refine v_iconst (2) dX1_init_51 (by decide) ?_
  refine v_sipush (2000) dX1_init_52 (by decide) ?_
  refine v_iastoreX dX1_init_55 (by assumption) (by unfold vp_in; decide) (fun f hp => ?_)
  have r0 := hp.ne r0 (by omega)
  have a1 := hp.ne a1 (by omega)
  have a2 := hp.1
  have hf0 := zput_fri (k := 2) hf0 hp (by omega)
  refine v_putfieldFX fX1_22 rfl rfl dX1_init_56 (by assumption) rfl rfl (Nat.le_of_ble_eq_true rfl) (fun f hp => ?_)
  have a1 := hp.ne a1 (by omega)
  have a2 := hp.ne a2 (by omega)
  have r0 := hp.1
  have hf0 := zput_fri (k := 0) hf0 hp (by omega)
  refine v_aload_n dX1_init_59 rfl rfl ?_
  refine v_iconst (nI 3) dX1_init_60 (by decide) ?_
  refine v_newIX (t + 3) 3 dX1_init_61 (by decide) (by decide) (by omega) (by omega) (by omega) (fun q3 f hp => ?_)
  have r0 := hp.2.2 _ _ r0
  have a1 := hp.2.2 _ _ a1
  have a2 := hp.2.2 _ _ a2
  have a3 := hp.1
  have hf0 := zFr.new hf0 hp
  refine v_dup dX1_init_63 rfl ?_
  refine v_iconst (0) dX1_init_64 (by decide) ?_
  refine v_iconst (1) dX1_init_65 (by decide) ?_
  refine v_iastoreX dX1_init_66 (by assumption) (by unfold vp_in; decide) (fun f hp => ?_)
  have r0 := hp.ne r0 (by omega)
  have a1 := hp.ne a1 (by omega)
  have a2 := hp.ne a2 (by omega)
  have a3 := hp.1
  have hf0 := zput_fri (k := 3) hf0 hp (by omega)
  refine v_dup dX1_init_67 rfl ?_
  refine v_iconst (1) dX1_init_68 (by decide) ?_
  refine v_iconst (1) dX1_init_69 (by decide) ?_
  refine v_iastoreX dX1_init_70 (by assumption) (by unfold vp_in; decide) (fun f hp => ?_)
  have r0 := hp.ne r0 (by omega)
  have a1 := hp.ne a1 (by omega)
  have a2 := hp.ne a2 (by omega)
  have a3 := hp.1
  have hf0 := zput_fri (k := 3) hf0 hp (by omega)
  refine v_dup dX1_init_71 rfl ?_
  refine v_iconst (2) dX1_init_72 (by decide) ?_
  refine v_iconst (2) dX1_init_73 (by decide) ?_
  refine v_iastoreX dX1_init_74 (by assumption) (by unfold vp_in; decide) (fun f hp => ?_)
  have r0 := hp.ne r0 (by omega)
  have a1 := hp.ne a1 (by omega)
  have a2 := hp.ne a2 (by omega)
  have a3 := hp.1
  have hf0 := zput_fri (k := 3) hf0 hp (by omega)
  refine v_putfieldFX fX1_25 rfl rfl dX1_init_75 (by assumption) rfl rfl (Nat.le_of_ble_eq_true rfl) (fun f hp => ?_)
  have a1 := hp.ne a1 (by omega)
  have a2 := hp.ne a2 (by omega)
  have a3 := hp.ne a3 (by omega)
  have r0 := hp.1
  have hf0 := zput_fri (k := 0) hf0 hp (by omega)
  refine v_aload_n dX1_init_78 rfl rfl ?_
  refine v_sipush (nI 201) dX1_init_79 (by decide) ?_
  refine v_newIX (t + 4) 201 dX1_init_82 (by decide) (by decide) (by omega) (by omega) (by omega) (fun q4 f hp => ?_)
  have r0 := hp.2.2 _ _ r0
  have a1 := hp.2.2 _ _ a1
  have a2 := hp.2.2 _ _ a2
  have a3 := hp.2.2 _ _ a3
  have a4 := hp.1
  have hf0 := zFr.new hf0 hp
  refine v_putfieldFX fX1_28 rfl rfl dX1_init_84 (by assumption) rfl rfl (Nat.le_of_ble_eq_true rfl) (fun f hp => ?_)
  have a1 := hp.ne a1 (by omega)
  have a2 := hp.ne a2 (by omega)
  have a3 := hp.ne a3 (by omega)
  have a4 := hp.ne a4 (by omega)
  have r0 := hp.1
  have hf0 := zput_fri (k := 0) hf0 hp (by omega)
  refine v_aload_n dX1_init_87 rfl rfl ?_
  refine v_sipush (nI 201) dX1_init_88 (by decide) ?_
  refine v_newIX (t + 5) 201 dX1_init_91 (by decide) (by decide) (by omega) (by omega) (by omega) (fun q5 f hp => ?_)
  have r0 := hp.2.2 _ _ r0
  have a1 := hp.2.2 _ _ a1
  have a2 := hp.2.2 _ _ a2
  have a3 := hp.2.2 _ _ a3
  have a4 := hp.2.2 _ _ a4
  have a5 := hp.1
  have hf0 := zFr.new hf0 hp
  refine v_putfieldFX fX1_31 rfl rfl dX1_init_93 (by assumption) rfl rfl (Nat.le_of_ble_eq_true rfl) (fun f hp => ?_)
  have a1 := hp.ne a1 (by omega)
  have a2 := hp.ne a2 (by omega)
  have a3 := hp.ne a3 (by omega)
  have a4 := hp.ne a4 (by omega)
  have a5 := hp.ne a5 (by omega)
  have r0 := hp.1
  have hf0 := zput_fri (k := 0) hf0 hp (by omega)
  refine v_aload_n dX1_init_96 rfl rfl ?_
  refine v_sipush (nI 201) dX1_init_97 (by decide) ?_
  refine v_newIX (t + 6) 201 dX1_init_100 (by decide) (by decide) (by omega) (by omega) (by omega) (fun q6 f hp => ?_)
  have r0 := hp.2.2 _ _ r0
  have a1 := hp.2.2 _ _ a1
  have a2 := hp.2.2 _ _ a2
  have a3 := hp.2.2 _ _ a3
  have a4 := hp.2.2 _ _ a4
  have a5 := hp.2.2 _ _ a5
  have a6 := hp.1
  have hf0 := zFr.new hf0 hp
  refine v_putfieldFX fX1_34 rfl rfl dX1_init_102 (by assumption) rfl rfl (Nat.le_of_ble_eq_true rfl) (fun f hp => ?_)
  have a1 := hp.ne a1 (by omega)
  have a2 := hp.ne a2 (by omega)
  have a3 := hp.ne a3 (by omega)
  have a4 := hp.ne a4 (by omega)
  have a5 := hp.ne a5 (by omega)
  have a6 := hp.ne a6 (by omega)
  have r0 := hp.1
  have hf0 := zput_fri (k := 0) hf0 hp (by omega)
  refine v_aload_n dX1_init_105 rfl rfl ?_
  refine v_sipush (nI 144) dX1_init_106 (by decide) ?_
  refine v_newIX (t + 7) 144 dX1_init_109 (by decide) (by decide) (by omega) (by omega) (by omega) (fun q7 f hp => ?_)
  have r0 := hp.2.2 _ _ r0
  have a1 := hp.2.2 _ _ a1
  have a2 := hp.2.2 _ _ a2
  have a3 := hp.2.2 _ _ a3
  have a4 := hp.2.2 _ _ a4
  have a5 := hp.2.2 _ _ a5
  have a6 := hp.2.2 _ _ a6
  have a7 := hp.1
  have hf0 := zFr.new hf0 hp
  refine v_putfieldFX fX1_37 rfl rfl dX1_init_111 (by assumption) rfl rfl (Nat.le_of_ble_eq_true rfl) (fun f hp => ?_)
  have a1 := hp.ne a1 (by omega)
  have a2 := hp.ne a2 (by omega)
  have a3 := hp.ne a3 (by omega)
  have a4 := hp.ne a4 (by omega)
  have a5 := hp.ne a5 (by omega)
  have a6 := hp.ne a6 (by omega)
  have a7 := hp.ne a7 (by omega)
  have r0 := hp.1
  have hf0 := zput_fri (k := 0) hf0 hp (by omega)
  refine v_aload_n dX1_init_114 rfl rfl ?_
  refine v_sipush (nI 144) dX1_init_115 (by decide) ?_
  refine v_newIX (t + 8) 144 dX1_init_118 (by decide) (by decide) (by omega) (by omega) (by omega) (fun q8 f hp => ?_)
  have r0 := hp.2.2 _ _ r0
  have a1 := hp.2.2 _ _ a1
  have a2 := hp.2.2 _ _ a2
  have a3 := hp.2.2 _ _ a3
  have a4 := hp.2.2 _ _ a4
  have a5 := hp.2.2 _ _ a5
  have a6 := hp.2.2 _ _ a6
  have a7 := hp.2.2 _ _ a7
  have a8 := hp.1
  have hf0 := zFr.new hf0 hp
  refine v_putfieldFX fX1_40 rfl rfl dX1_init_120 (by assumption) rfl rfl (Nat.le_of_ble_eq_true rfl) (fun f hp => ?_)
  have a1 := hp.ne a1 (by omega)
  have a2 := hp.ne a2 (by omega)
  have a3 := hp.ne a3 (by omega)
  have a4 := hp.ne a4 (by omega)
  have a5 := hp.ne a5 (by omega)
  have a6 := hp.ne a6 (by omega)
  have a7 := hp.ne a7 (by omega)
  have a8 := hp.ne a8 (by omega)
  have r0 := hp.1
  have hf0 := zput_fri (k := 0) hf0 hp (by omega)
  refine v_aload_n dX1_init_123 rfl rfl ?_
  refine v_sipush (nI 144) dX1_init_124 (by decide) ?_
  refine v_newIX (t + 9) 144 dX1_init_127 (by decide) (by decide) (by omega) (by omega) (by omega) (fun q9 f hp => ?_)
  have r0 := hp.2.2 _ _ r0
  have a1 := hp.2.2 _ _ a1
  have a2 := hp.2.2 _ _ a2
  have a3 := hp.2.2 _ _ a3
  have a4 := hp.2.2 _ _ a4
  have a5 := hp.2.2 _ _ a5
  have a6 := hp.2.2 _ _ a6
  have a7 := hp.2.2 _ _ a7
  have a8 := hp.2.2 _ _ a8
  have a9 := hp.1
  have hf0 := zFr.new hf0 hp
  refine v_putfieldFX fX1_43 rfl rfl dX1_init_129 (by assumption) rfl rfl (Nat.le_of_ble_eq_true rfl) (fun f hp => ?_)
  have a1 := hp.ne a1 (by omega)
  have a2 := hp.ne a2 (by omega)
  have a3 := hp.ne a3 (by omega)
  have a4 := hp.ne a4 (by omega)
  have a5 := hp.ne a5 (by omega)
  have a6 := hp.ne a6 (by omega)
  have a7 := hp.ne a7 (by omega)
  have a8 := hp.ne a8 (by omega)
  have a9 := hp.ne a9 (by omega)
  have r0 := hp.1
  have hf0 := zput_fri (k := 0) hf0 hp (by omega)
  refine v_aload_n dX1_init_132 rfl rfl ?_
  refine v_sipush (nI 276) dX1_init_133 (by decide) ?_
  refine v_newIX (t + 10) 276 dX1_init_136 (by decide) (by decide) (by omega) (by omega) (by omega) (fun q10 f hp => ?_)
  have r0 := hp.2.2 _ _ r0
  have a1 := hp.2.2 _ _ a1
  have a2 := hp.2.2 _ _ a2
  have a3 := hp.2.2 _ _ a3
  have a4 := hp.2.2 _ _ a4
  have a5 := hp.2.2 _ _ a5
  have a6 := hp.2.2 _ _ a6
  have a7 := hp.2.2 _ _ a7
  have a8 := hp.2.2 _ _ a8
  have a9 := hp.2.2 _ _ a9
  have a10 := hp.1
  have hf0 := zFr.new hf0 hp
  refine v_putfieldFX fX1_46 rfl rfl dX1_init_138 (by assumption) rfl rfl (Nat.le_of_ble_eq_true rfl) (fun f hp => ?_)
  have a1 := hp.ne a1 (by omega)
  have a2 := hp.ne a2 (by omega)
  have a3 := hp.ne a3 (by omega)
  have a4 := hp.ne a4 (by omega)
  have a5 := hp.ne a5 (by omega)
  have a6 := hp.ne a6 (by omega)
  have a7 := hp.ne a7 (by omega)
  have a8 := hp.ne a8 (by omega)
  have a9 := hp.ne a9 (by omega)
  have a10 := hp.ne a10 (by omega)
  have r0 := hp.1
  have hf0 := zput_fri (k := 0) hf0 hp (by omega)
  refine v_aload_n dX1_init_141 rfl rfl ?_
  refine v_aload_n dX1_init_142 rfl rfl ?_
  refine v_putfieldFX fX1_49 rfl rfl dX1_init_143 (by assumption) rfl rfl (Nat.le_of_ble_eq_true rfl) (fun f hp => ?_)
  have a1 := hp.ne a1 (by omega)
  have a2 := hp.ne a2 (by omega)
  have a3 := hp.ne a3 (by omega)
  have a4 := hp.ne a4 (by omega)
  have a5 := hp.ne a5 (by omega)
  have a6 := hp.ne a6 (by omega)
  have a7 := hp.ne a7 (by omega)
  have a8 := hp.ne a8 (by omega)
  have a9 := hp.ne a9 (by omega)
  have a10 := hp.ne a10 (by omega)
  have r0 := hp.1
  have hf0 := zput_fri (k := 0) hf0 hp (by omega)
  exact v_return dX1_init_146 rfl ⟨rfl, ⟨fun k => match k with | 0 => q1 | 1 => q2 | 2 => q3 | 3 => q4 | 4 => q5 | 5 => q6 | 6 => q7 | 7 => q8 | 8 => q9 | _ => q10, r0, ⟨_, a1, h3 _ _ rfl rfl rfl⟩, ⟨_, a2, h3 _ _ rfl rfl rfl⟩, ⟨_, a3, h3 _ _ rfl rfl rfl⟩, ⟨_, a4, fun i hi => absurd hi (Nat.not_lt_zero i)⟩, ⟨_, a5, fun i hi => absurd hi (Nat.not_lt_zero i)⟩, ⟨_, a6, fun i hi => absurd hi (Nat.not_lt_zero i)⟩, ⟨_, a7, fun _ _ => rfl⟩, ⟨_, a8, fun _ _ => rfl⟩, ⟨_, a9, fun _ _ => rfl⟩, ⟨_, a10, fun _ _ => rfl⟩⟩, hf0, rfl⟩
