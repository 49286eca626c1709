set_option maxRecDepth 10000 in
set_option maxHeartbeats 1000000 in
theorem c_mnew {G : zW} {f : zHM} {m : Nat × Nat} {o : Nat} (ho : f o = some (700, .inr (4, [.int 0, .null, .null, .int 0, .null, .null, .null, .int 0, .null, .int 0, .null, .int 0, .null, .int 0, .int 0, .long 0]))) (hm1 : m.1 + 8 ≤ 50000) (hm2 : m.2 + 8630 ≤ 400000) : zM G yX4_init cX4_init 2 none 1 [.ref o] (f, m) (zD none (fun f' m' => (∃ B σ, zNZ f' o B 0 σ 0 0 0 (fun _ _ => 0) (fun _ => 0) (fun _ _ => 0) 0 (fun _ => 0) ∧ σ 15 = nI 0 ∧ zEQ 0 sNew (rOf σ) ∧ zFr zTZ f f') ∧ m' = (m.1 + 8, m.2 + 8630))) := by
  refine zM.of (by decide) (Nat.le_of_ble_eq_true rfl) ?_
  have hf0 : zFr zTZ f f := zFr.refl
  refine v_aload_n dX4_init_0 rfl rfl ?_
  refine v_objInit goLX4 goI goC dX4_init_1 (by decide) (Nat.le_of_ble_eq_true rfl) ?_
  refine v_aload_n dX4_init_4 rfl rfl ?_
  refine v_sipush (nI 904) dX4_init_5 (by decide) ?_
  refine v_newIX 701 904 dX4_init_8 (by decide) (by decide) (by omega) (by show m.1 + 1 ≤ 50000; omega) (by show m.2 + 904 ≤ 400000; omega) (fun a0 f1 hp => ?_)
  have hf0 := hf0.trans (zFr.new (T := zTZ) zFr.refl hp)
  have ho := hp.2.2 _ _ ho
  have ha0 := hp.1
  refine v_putfieldFX fX4_7 rfl rfl dX4_init_10 ho rfl rfl (Nat.le_of_ble_eq_true rfl) (fun f1 hp => ?_)
  have hz : zFr (fun τ => τ = 700) _ f1 := zFr.put (T := fun τ => τ = 700) zFr.refl hp rfl
  have hf0 := hf0.trans (hz.weaken (T' := zTZ) (fun τ h => ⟨by omega, by omega⟩))
  have ho := hp.1
  have ha0 := hz _ _ _ ha0 (by omega)
  refine v_aload_n dX4_init_13 rfl rfl ?_
  refine v_sipush (nI 5424) dX4_init_14 (by decide) ?_
  refine v_newIX 702 5424 dX4_init_17 (by decide) (by decide) (by omega) (by show m.1 + 1 + 1 ≤ 50000; omega) (by show m.2 + 904 + 5424 ≤ 400000; omega) (fun a1 f1 hp => ?_)
  have hf0 := hf0.trans (zFr.new (T := zTZ) zFr.refl hp)
  have ho := hp.2.2 _ _ ho
  have ha0 := hp.2.2 _ _ ha0
  have ha1 := hp.1
  refine v_putfieldFX fX4_13 rfl rfl dX4_init_19 ho rfl rfl (Nat.le_of_ble_eq_true rfl) (fun f1 hp => ?_)
  have hz : zFr (fun τ => τ = 700) _ f1 := zFr.put (T := fun τ => τ = 700) zFr.refl hp rfl
  have hf0 := hf0.trans (hz.weaken (T' := zTZ) (fun τ h => ⟨by omega, by omega⟩))
  have ho := hp.1
  have ha0 := hz _ _ _ ha0 (by omega)
  have ha1 := hz _ _ _ ha1 (by omega)
  refine v_aload_n dX4_init_22 rfl rfl ?_
  refine v_sipush (nI 1808) dX4_init_23 (by decide) ?_
  refine v_newIX 703 1808 dX4_init_26 (by decide) (by decide) (by omega) (by show m.1 + 1 + 1 + 1 ≤ 50000; omega) (by show m.2 + 904 + 5424 + 1808 ≤ 400000; omega) (fun a2 f1 hp => ?_)
  have hf0 := hf0.trans (zFr.new (T := zTZ) zFr.refl hp)
  have ho := hp.2.2 _ _ ho
  have ha0 := hp.2.2 _ _ ha0
  have ha1 := hp.2.2 _ _ ha1
  have ha2 := hp.1
  refine v_putfieldFX fX4_16 rfl rfl dX4_init_28 ho rfl rfl (Nat.le_of_ble_eq_true rfl) (fun f1 hp => ?_)
  have hz : zFr (fun τ => τ = 700) _ f1 := zFr.put (T := fun τ => τ = 700) zFr.refl hp rfl
  have hf0 := hf0.trans (hz.weaken (T' := zTZ) (fun τ h => ⟨by omega, by omega⟩))
  have ho := hp.1
  have ha0 := hz _ _ _ ha0 (by omega)
  have ha1 := hz _ _ _ ha1 (by omega)
  have ha2 := hz _ _ _ ha2 (by omega)
  refine v_aload_n dX4_init_31 rfl rfl ?_
  refine v_iconst (nI 2) dX4_init_32 (by decide) ?_
  refine v_newZX 704 2 dX4_init_33 (by decide) (by decide) (by omega) (by show m.1 + 1 + 1 + 1 + 1 ≤ 50000; omega) (by show m.2 + 904 + 5424 + 1808 + 2 ≤ 400000; omega) (fun a3 f1 hp => ?_)
  have hf0 := hf0.trans (zFr.new (T := zTZ) zFr.refl hp)
  have ho := hp.2.2 _ _ ho
  have ha0 := hp.2.2 _ _ ha0
  have ha1 := hp.2.2 _ _ ha1
  have ha2 := hp.2.2 _ _ ha2
  have ha3 := hp.1
  refine v_putfieldFX fX4_19 rfl rfl dX4_init_35 ho rfl rfl (Nat.le_of_ble_eq_true rfl) (fun f1 hp => ?_)
  have hz : zFr (fun τ => τ = 700) _ f1 := zFr.put (T := fun τ => τ = 700) zFr.refl hp rfl
  have hf0 := hf0.trans (hz.weaken (T' := zTZ) (fun τ h => ⟨by omega, by omega⟩))
  have ho := hp.1
  have ha0 := hz _ _ _ ha0 (by omega)
  have ha1 := hz _ _ _ ha1 (by omega)
  have ha2 := hz _ _ _ ha2 (by omega)
  have ha3 := hz _ _ _ ha3 (by omega)
  refine v_aload_n dX4_init_38 rfl rfl ?_
  refine v_bipush (nI 60) dX4_init_39 (by decide) ?_
  refine v_newIX 705 60 dX4_init_41 (by decide) (by decide) (by omega) (by show m.1 + 1 + 1 + 1 + 1 + 1 ≤ 50000; omega) (by show m.2 + 904 + 5424 + 1808 + 2 + 60 ≤ 400000; omega) (fun a4 f1 hp => ?_)
  have hf0 := hf0.trans (zFr.new (T := zTZ) zFr.refl hp)
  have ho := hp.2.2 _ _ ho
  have ha0 := hp.2.2 _ _ ha0
  have ha1 := hp.2.2 _ _ ha1
  have ha2 := hp.2.2 _ _ ha2
  have ha3 := hp.2.2 _ _ ha3
  have ha4 := hp.1
  refine v_putfieldFX fX4_23 rfl rfl dX4_init_43 ho rfl rfl (Nat.le_of_ble_eq_true rfl) (fun f1 hp => ?_)
  have hz : zFr (fun τ => τ = 700) _ f1 := zFr.put (T := fun τ => τ = 700) zFr.refl hp rfl
  have hf0 := hf0.trans (hz.weaken (T' := zTZ) (fun τ h => ⟨by omega, by omega⟩))
  have ho := hp.1
  have ha0 := hz _ _ _ ha0 (by omega)
  have ha1 := hz _ _ _ ha1 (by omega)
  have ha2 := hz _ _ _ ha2 (by omega)
  have ha3 := hz _ _ _ ha3 (by omega)
  have ha4 := hz _ _ _ ha4 (by omega)
  refine v_aload_n dX4_init_46 rfl rfl ?_
  refine v_sipush (nI 144) dX4_init_47 (by decide) ?_
  refine v_newIX 706 144 dX4_init_50 (by decide) (by decide) (by omega) (by show m.1 + 1 + 1 + 1 + 1 + 1 + 1 ≤ 50000; omega) (by show m.2 + 904 + 5424 + 1808 + 2 + 60 + 144 ≤ 400000; omega) (fun a5 f1 hp => ?_)
  have hf0 := hf0.trans (zFr.new (T := zTZ) zFr.refl hp)
  have ho := hp.2.2 _ _ ho
  have ha0 := hp.2.2 _ _ ha0
  have ha1 := hp.2.2 _ _ ha1
  have ha2 := hp.2.2 _ _ ha2
  have ha3 := hp.2.2 _ _ ha3
  have ha4 := hp.2.2 _ _ ha4
  have ha5 := hp.1
  refine v_putfieldFX fX4_26 rfl rfl dX4_init_52 ho rfl rfl (Nat.le_of_ble_eq_true rfl) (fun f1 hp => ?_)
  have hz : zFr (fun τ => τ = 700) _ f1 := zFr.put (T := fun τ => τ = 700) zFr.refl hp rfl
  have hf0 := hf0.trans (hz.weaken (T' := zTZ) (fun τ h => ⟨by omega, by omega⟩))
  have ho := hp.1
  have ha0 := hz _ _ _ ha0 (by omega)
  have ha1 := hz _ _ _ ha1 (by omega)
  have ha2 := hz _ _ _ ha2 (by omega)
  have ha3 := hz _ _ _ ha3 (by omega)
  have ha4 := hz _ _ _ ha4 (by omega)
  have ha5 := hz _ _ _ ha5 (by omega)
  refine v_aload_n dX4_init_55 rfl rfl ?_
  refine v_sipush (nI 144) dX4_init_56 (by decide) ?_
  refine v_newIX 707 144 dX4_init_59 (by decide) (by decide) (by omega) (by show m.1 + 1 + 1 + 1 + 1 + 1 + 1 + 1 ≤ 50000; omega) (by show m.2 + 904 + 5424 + 1808 + 2 + 60 + 144 + 144 ≤ 400000; omega) (fun a6 f1 hp => ?_)
  have hf0 := hf0.trans (zFr.new (T := zTZ) zFr.refl hp)
  have ho := hp.2.2 _ _ ho
  have ha0 := hp.2.2 _ _ ha0
  have ha1 := hp.2.2 _ _ ha1
  have ha2 := hp.2.2 _ _ ha2
  have ha3 := hp.2.2 _ _ ha3
  have ha4 := hp.2.2 _ _ ha4
  have ha5 := hp.2.2 _ _ ha5
  have ha6 := hp.1
  refine v_putfieldFX fX4_29 rfl rfl dX4_init_61 ho rfl rfl (Nat.le_of_ble_eq_true rfl) (fun f1 hp => ?_)
  have hz : zFr (fun τ => τ = 700) _ f1 := zFr.put (T := fun τ => τ = 700) zFr.refl hp rfl
  have hf0 := hf0.trans (hz.weaken (T' := zTZ) (fun τ h => ⟨by omega, by omega⟩))
  have ho := hp.1
  have ha0 := hz _ _ _ ha0 (by omega)
  have ha1 := hz _ _ _ ha1 (by omega)
  have ha2 := hz _ _ _ ha2 (by omega)
  have ha3 := hz _ _ _ ha3 (by omega)
  have ha4 := hz _ _ _ ha4 (by omega)
  have ha5 := hz _ _ _ ha5 (by omega)
  have ha6 := hz _ _ _ ha6 (by omega)
  refine v_aload_n dX4_init_64 rfl rfl ?_
  refine v_sipush (nI 144) dX4_init_65 (by decide) ?_
  refine v_newIX 708 144 dX4_init_68 (by decide) (by decide) (by omega) (by show m.1 + 1 + 1 + 1 + 1 + 1 + 1 + 1 + 1 ≤ 50000; omega) (by show m.2 + 904 + 5424 + 1808 + 2 + 60 + 144 + 144 + 144 ≤ 400000; omega) (fun a7 f1 hp => ?_)
  have hf0 := hf0.trans (zFr.new (T := zTZ) zFr.refl hp)
  have ho := hp.2.2 _ _ ho
  have ha0 := hp.2.2 _ _ ha0
  have ha1 := hp.2.2 _ _ ha1
  have ha2 := hp.2.2 _ _ ha2
  have ha3 := hp.2.2 _ _ ha3
  have ha4 := hp.2.2 _ _ ha4
  have ha5 := hp.2.2 _ _ ha5
  have ha6 := hp.2.2 _ _ ha6
  have ha7 := hp.1
  refine v_putfieldFX fX4_32 rfl rfl dX4_init_70 ho rfl rfl (Nat.le_of_ble_eq_true rfl) (fun f1 hp => ?_)
  have hz : zFr (fun τ => τ = 700) _ f1 := zFr.put (T := fun τ => τ = 700) zFr.refl hp rfl
  have hf0 := hf0.trans (hz.weaken (T' := zTZ) (fun τ h => ⟨by omega, by omega⟩))
  have ho := hp.1
  have ha0 := hz _ _ _ ha0 (by omega)
  have ha1 := hz _ _ _ ha1 (by omega)
  have ha2 := hz _ _ _ ha2 (by omega)
  have ha3 := hz _ _ _ ha3 (by omega)
  have ha4 := hz _ _ _ ha4 (by omega)
  have ha5 := hz _ _ _ ha5 (by omega)
  have ha6 := hz _ _ _ ha6 (by omega)
  have ha7 := hz _ _ _ ha7 (by omega)
  refine v_aload_n dX4_init_73 rfl rfl ?_
  refine v_iconst (0) dX4_init_74 (by decide) ?_
  refine v_putfieldX fX4_35 dX4_init_75 ho rfl rfl (Nat.le_of_ble_eq_true rfl) (fun f0 hp => ?_)
  have hz : zFr (fun τ => τ = 700) _ f0 := zFr.put (T := fun τ => τ = 700) zFr.refl hp rfl
  have hf0 := hf0.trans (hz.weaken (T' := zTZ) (fun τ h => ⟨by omega, by omega⟩))
  have ho := hp.1
  have ha0 := hz _ _ _ ha0 (by omega)
  have ha1 := hz _ _ _ ha1 (by omega)
  have ha2 := hz _ _ _ ha2 (by omega)
  have ha3 := hz _ _ _ ha3 (by omega)
  have ha4 := hz _ _ _ ha4 (by omega)
  have ha5 := hz _ _ _ ha5 (by omega)
  have ha6 := hz _ _ _ ha6 (by omega)
  have ha7 := hz _ _ _ ha7 (by omega)
  obtain ⟨B, rfl, rfl, rfl, rfl, rfl, rfl, rfl, rfl⟩ : ∃ B : Nat → Nat, B 0 = a0 ∧ B 1 = a1 ∧ B 2 = a2 ∧ B 3 = a3 ∧ B 4 = a4 ∧ B 5 = a5 ∧ B 6 = a6 ∧ B 7 = a7 := ⟨fun i => match i with | 0 => a0 | 1 => a1 | 2 => a2 | 3 => a3 | 4 => a4 | 5 => a5 | 6 => a6 | _ => a7, rfl, rfl, rfl, rfl, rfl, rfl, rfl, rfl⟩
  have h : MX f0 o B (fun _ => 0) 0 (fun _ => 0) 0 := ⟨ho, ha0, ⟨_, ha5⟩, ⟨_, ha6, fun q hq => ⟨0, Nat.le_refl _, rfl⟩⟩, rfl⟩
  have hs := h.2.1
  have hw0 : ∃ w : Nat → Int32, w = fun _ => 0 := ⟨_, rfl⟩
  refine v_aload_n dX4_init_78 rfl rfl ?_
  refine v_getfield fX4_7 dX4_init_79 (by assumption) (by rfl) ?_
  refine v_iconst (nI 0) dX4_init_82 (by decide) ?_
  refine v_bipush (nI 12) dX4_init_83 (by decide) ?_
  refine v_iastoreX dX4_init_85 (by assumption) (vp_in_nI (by omega) (by omega)) (fun f1 hp1 => ?_)
  rw [nI_clamp (n := 0) (by omega)] at hp1
  obtain ⟨h1, hf1⟩ := MX.st h hp1 (zFr.refl (T := zTY) (f := f0))
  clear hp1
  obtain ⟨σ1, e1, hg1⟩ := upd_nm (fun _ => 0) 0 (nI 12)
  rw [← e1] at h1
  clear e1
  have ho1 := h1.1
  have hs1 := h1.2.1
  refine v_aload_n dX4_init_86 rfl rfl ?_
  refine v_getfield fX4_7 dX4_init_87 (by assumption) (by rfl) ?_
  refine v_bipush (nI 6) dX4_init_90 (by decide) ?_
  refine v_iconst (nI 1) dX4_init_92 (by decide) ?_
  refine v_iastoreX dX4_init_93 (by assumption) (vp_in_nI (by omega) (by omega)) (fun f2 hp2 => ?_)
  rw [nI_clamp (n := 6) (by omega)] at hp2
  obtain ⟨h2, hf2⟩ := MX.st h1 hp2 hf1
  clear hp2
  obtain ⟨σ2, e2, hg2⟩ := upd_nm σ1 6 (nI 1)
  rw [← e2] at h2
  clear e2
  have ho2 := h2.1
  have hs2 := h2.2.1
  refine v_aload_n dX4_init_94 rfl rfl ?_
  refine v_getfield fX4_7 dX4_init_95 (by assumption) (by rfl) ?_
  refine v_bipush (nI 7) dX4_init_98 (by decide) ?_
  refine v_iconst (nI 1) dX4_init_100 (by decide) ?_
  refine v_iastoreX dX4_init_101 (by assumption) (vp_in_nI (by omega) (by omega)) (fun f3 hp3 => ?_)
  rw [nI_clamp (n := 7) (by omega)] at hp3
  obtain ⟨h3, hf3⟩ := MX.st h2 hp3 hf2
  clear hp3
  obtain ⟨σ3, e3, hg3⟩ := upd_nm σ2 7 (nI 1)
  rw [← e3] at h3
  clear e3
  have ho3 := h3.1
  have hs3 := h3.2.1
  refine v_aload_n dX4_init_102 rfl rfl ?_
  refine v_getfield fX4_7 dX4_init_103 (by assumption) (by rfl) ?_
  refine v_bipush (nI 8) dX4_init_106 (by decide) ?_
  refine v_iconst (nI 2) dX4_init_108 (by decide) ?_
  refine v_iastoreX dX4_init_109 (by assumption) (vp_in_nI (by omega) (by omega)) (fun f4 hp4 => ?_)
  rw [nI_clamp (n := 8) (by omega)] at hp4
  obtain ⟨h4, hf4⟩ := MX.st h3 hp4 hf3
  clear hp4
  obtain ⟨σ4, e4, hg4⟩ := upd_nm σ3 8 (nI 2)
  rw [← e4] at h4
  clear e4
  have ho4 := h4.1
  have hs4 := h4.2.1
  refine v_iconst (nI 0) dX4_init_110 (by decide) ?_
  refine v_istore_n dX4_init_111 rfl (by decide) ?_
  refine v_iload_n dX4_init_112 rfl rfl ?_
  refine v_iconst (nI 3) dX4_init_113 (by decide) ?_
  refine v_icmp_ge 153 dX4_init_114 (by decide) (fun b114 => ?_) (fun b114 => ?_)
  · rw [nI_leI (by omega) (by omega)] at b114
    omega
  · rw [nI_leI (by omega) (by omega)] at b114
    refine v_aload_n dX4_init_117 rfl rfl ?_
    refine v_getfield fX4_7 dX4_init_118 (by assumption) (by rfl) ?_
    refine v_bipush (nI 9) dX4_init_121 (by decide) ?_
    refine v_iconst (nI 2) dX4_init_123 (by decide) ?_
    refine v_iload_n dX4_init_124 rfl rfl ?_
    refine v_imul dX4_init_125 ?_
    rw [show nI 2 * nI 0 = nI 0 from by decide]
    refine v_iadd dX4_init_126 ?_
    rw [show nI 9 + nI 0 = nI 9 from by decide]
    refine v_iload_n dX4_init_127 rfl rfl ?_
    refine v_iconst (nI 1) dX4_init_128 (by decide) ?_
    refine v_iadd dX4_init_129 ?_
    rw [show nI 0 + nI 1 = nI 1 from by decide]
    refine v_iastoreX dX4_init_130 (by assumption) (vp_in_nI (by omega) (by omega)) (fun f5 hp5 => ?_)
    rw [nI_clamp (n := 9) (by omega)] at hp5
    obtain ⟨h5, hf5⟩ := MX.st h4 hp5 hf4
    clear hp5
    obtain ⟨σ5, e5, hg5⟩ := upd_nm σ4 9 (nI 1)
    rw [← e5] at h5
    clear e5
    have ho5 := h5.1
    have hs5 := h5.2.1
    refine v_aload_n dX4_init_131 rfl rfl ?_
    refine v_getfield fX4_7 dX4_init_132 (by assumption) (by rfl) ?_
    refine v_bipush (nI 9) dX4_init_135 (by decide) ?_
    refine v_iconst (nI 2) dX4_init_137 (by decide) ?_
    refine v_iload_n dX4_init_138 rfl rfl ?_
    refine v_imul dX4_init_139 ?_
    rw [show nI 2 * nI 0 = nI 0 from by decide]
    refine v_iadd dX4_init_140 ?_
    rw [show nI 9 + nI 0 = nI 9 from by decide]
    refine v_iconst (nI 1) dX4_init_141 (by decide) ?_
    refine v_iadd dX4_init_142 ?_
    rw [show nI 9 + nI 1 = nI 10 from by decide]
    refine v_sipush (nI 2000) dX4_init_143 (by decide) ?_
    refine v_iastoreX dX4_init_146 (by assumption) (vp_in_nI (by omega) (by omega)) (fun f6 hp6 => ?_)
    rw [nI_clamp (n := 10) (by omega)] at hp6
    obtain ⟨h6, hf6⟩ := MX.st h5 hp6 hf5
    clear hp6
    obtain ⟨σ6, e6, hg6⟩ := upd_nm σ5 10 (nI 2000)
    rw [← e6] at h6
    clear e6
    have ho6 := h6.1
    have hs6 := h6.2.1
    refine v_iincN dX4_init_147 rfl (by decide) ?_
    rw [show nI (0 + 1) = nI 1 from rfl]
    refine v_goto 112 dX4_init_150 (by decide) ?_
    refine v_iload_n dX4_init_112 rfl rfl ?_
    refine v_iconst (nI 3) dX4_init_113 (by decide) ?_
    refine v_icmp_ge 153 dX4_init_114 (by decide) (fun b114 => ?_) (fun b114 => ?_)
    · rw [nI_leI (by omega) (by omega)] at b114
      omega
    · rw [nI_leI (by omega) (by omega)] at b114
      refine v_aload_n dX4_init_117 rfl rfl ?_
      refine v_getfield fX4_7 dX4_init_118 (by assumption) (by rfl) ?_
      refine v_bipush (nI 9) dX4_init_121 (by decide) ?_
      refine v_iconst (nI 2) dX4_init_123 (by decide) ?_
      refine v_iload_n dX4_init_124 rfl rfl ?_
      refine v_imul dX4_init_125 ?_
      rw [show nI 2 * nI 1 = nI 2 from by decide]
      refine v_iadd dX4_init_126 ?_
      rw [show nI 9 + nI 2 = nI 11 from by decide]
      refine v_iload_n dX4_init_127 rfl rfl ?_
      refine v_iconst (nI 1) dX4_init_128 (by decide) ?_
      refine v_iadd dX4_init_129 ?_
      rw [show nI 1 + nI 1 = nI 2 from by decide]
      refine v_iastoreX dX4_init_130 (by assumption) (vp_in_nI (by omega) (by omega)) (fun f7 hp7 => ?_)
      rw [nI_clamp (n := 11) (by omega)] at hp7
      obtain ⟨h7, hf7⟩ := MX.st h6 hp7 hf6
      clear hp7
      obtain ⟨σ7, e7, hg7⟩ := upd_nm σ6 11 (nI 2)
      rw [← e7] at h7
      clear e7
      have ho7 := h7.1
      have hs7 := h7.2.1
      refine v_aload_n dX4_init_131 rfl rfl ?_
      refine v_getfield fX4_7 dX4_init_132 (by assumption) (by rfl) ?_
      refine v_bipush (nI 9) dX4_init_135 (by decide) ?_
      refine v_iconst (nI 2) dX4_init_137 (by decide) ?_
      refine v_iload_n dX4_init_138 rfl rfl ?_
      refine v_imul dX4_init_139 ?_
      rw [show nI 2 * nI 1 = nI 2 from by decide]
      refine v_iadd dX4_init_140 ?_
      rw [show nI 9 + nI 2 = nI 11 from by decide]
      refine v_iconst (nI 1) dX4_init_141 (by decide) ?_
      refine v_iadd dX4_init_142 ?_
      rw [show nI 11 + nI 1 = nI 12 from by decide]
      refine v_sipush (nI 2000) dX4_init_143 (by decide) ?_
      refine v_iastoreX dX4_init_146 (by assumption) (vp_in_nI (by omega) (by omega)) (fun f8 hp8 => ?_)
      rw [nI_clamp (n := 12) (by omega)] at hp8
      obtain ⟨h8, hf8⟩ := MX.st h7 hp8 hf7
      clear hp8
      obtain ⟨σ8, e8, hg8⟩ := upd_nm σ7 12 (nI 2000)
      rw [← e8] at h8
      clear e8
      have ho8 := h8.1
      have hs8 := h8.2.1
      refine v_iincN dX4_init_147 rfl (by decide) ?_
      rw [show nI (1 + 1) = nI 2 from rfl]
      refine v_goto 112 dX4_init_150 (by decide) ?_
      refine v_iload_n dX4_init_112 rfl rfl ?_
      refine v_iconst (nI 3) dX4_init_113 (by decide) ?_
      refine v_icmp_ge 153 dX4_init_114 (by decide) (fun b114 => ?_) (fun b114 => ?_)
      · rw [nI_leI (by omega) (by omega)] at b114
        omega
      · rw [nI_leI (by omega) (by omega)] at b114
        refine v_aload_n dX4_init_117 rfl rfl ?_
        refine v_getfield fX4_7 dX4_init_118 (by assumption) (by rfl) ?_
        refine v_bipush (nI 9) dX4_init_121 (by decide) ?_
        refine v_iconst (nI 2) dX4_init_123 (by decide) ?_
        refine v_iload_n dX4_init_124 rfl rfl ?_
        refine v_imul dX4_init_125 ?_
        rw [show nI 2 * nI 2 = nI 4 from by decide]
        refine v_iadd dX4_init_126 ?_
        rw [show nI 9 + nI 4 = nI 13 from by decide]
        refine v_iload_n dX4_init_127 rfl rfl ?_
        refine v_iconst (nI 1) dX4_init_128 (by decide) ?_
        refine v_iadd dX4_init_129 ?_
        rw [show nI 2 + nI 1 = nI 3 from by decide]
        refine v_iastoreX dX4_init_130 (by assumption) (vp_in_nI (by omega) (by omega)) (fun f9 hp9 => ?_)
        rw [nI_clamp (n := 13) (by omega)] at hp9
        obtain ⟨h9, hf9⟩ := MX.st h8 hp9 hf8
        clear hp9
        obtain ⟨σ9, e9, hg9⟩ := upd_nm σ8 13 (nI 3)
        rw [← e9] at h9
        clear e9
        have ho9 := h9.1
        have hs9 := h9.2.1
        refine v_aload_n dX4_init_131 rfl rfl ?_
        refine v_getfield fX4_7 dX4_init_132 (by assumption) (by rfl) ?_
        refine v_bipush (nI 9) dX4_init_135 (by decide) ?_
        refine v_iconst (nI 2) dX4_init_137 (by decide) ?_
        refine v_iload_n dX4_init_138 rfl rfl ?_
        refine v_imul dX4_init_139 ?_
        rw [show nI 2 * nI 2 = nI 4 from by decide]
        refine v_iadd dX4_init_140 ?_
        rw [show nI 9 + nI 4 = nI 13 from by decide]
        refine v_iconst (nI 1) dX4_init_141 (by decide) ?_
        refine v_iadd dX4_init_142 ?_
        rw [show nI 13 + nI 1 = nI 14 from by decide]
        refine v_sipush (nI 2000) dX4_init_143 (by decide) ?_
        refine v_iastoreX dX4_init_146 (by assumption) (vp_in_nI (by omega) (by omega)) (fun f10 hp10 => ?_)
        rw [nI_clamp (n := 14) (by omega)] at hp10
        obtain ⟨h10, hf10⟩ := MX.st h9 hp10 hf9
        clear hp10
        obtain ⟨σ10, e10, hg10⟩ := upd_nm σ9 14 (nI 2000)
        rw [← e10] at h10
        clear e10
        have ho10 := h10.1
        have hs10 := h10.2.1
        refine v_iincN dX4_init_147 rfl (by decide) ?_
        rw [show nI (2 + 1) = nI 3 from rfl]
        refine v_goto 112 dX4_init_150 (by decide) ?_
        refine v_iload_n dX4_init_112 rfl rfl ?_
        refine v_iconst (nI 3) dX4_init_113 (by decide) ?_
        refine v_icmp_ge 153 dX4_init_114 (by decide) (fun b114 => ?_) (fun b114 => ?_)
        · rw [nI_leI (by omega) (by omega)] at b114
          exact v_return dX4_init_153 rfl ⟨rfl, ⟨B, σ10, ⟨(fun _ => 0), h10, rfl, rfl, rfl, ⟨⟨Nat.zero_le _, _, (hf10 _ _ _ ha1 (by intro z; rcases z with z | z | z | z <;> omega)), fun j hj => absurd hj (Nat.not_lt_zero j)⟩, ⟨_, (hf10 _ _ _ ha2 (by intro z; rcases z with z | z | z | z <;> omega)), fun j hj i hi => rfl⟩, ⟨_, (hf10 _ _ _ ha3 (by intro z; rcases z with z | z | z | z <;> omega)), fun j hj => rfl⟩, ⟨Nat.zero_le _, _, (hf10 _ _ _ ha4 (by intro z; rcases z with z | z | z | z <;> omega)), fun i hi => absurd hi (Nat.not_lt_zero i)⟩, _, (hf10 _ _ _ ha7 (by intro z; rcases z with z | z | z | z <;> omega))⟩⟩, by rw [hg10, if_neg (by decide), hg9, if_neg (by decide), hg8, if_neg (by decide), hg7, if_neg (by decide), hg6, if_neg (by decide), hg5, if_neg (by decide), hg4, if_neg (by decide), hg3, if_neg (by decide), hg2, if_neg (by decide), hg1, if_neg (by decide)]; rfl, ⟨fun i hi => (by match i, hi with
              | 0, _ => exact by show _ = σ10 0; rw [hg10, if_neg (by decide), hg9, if_neg (by decide), hg8, if_neg (by decide), hg7, if_neg (by decide), hg6, if_neg (by decide), hg5, if_neg (by decide), hg4, if_neg (by decide), hg3, if_neg (by decide), hg2, if_neg (by decide), hg1, if_pos rfl]; rfl
              | 1, _ => exact by show _ = σ10 1; rw [hg10, if_neg (by decide), hg9, if_neg (by decide), hg8, if_neg (by decide), hg7, if_neg (by decide), hg6, if_neg (by decide), hg5, if_neg (by decide), hg4, if_neg (by decide), hg3, if_neg (by decide), hg2, if_neg (by decide), hg1, if_neg (by decide)]; rfl
              | 2, _ => exact by show _ = σ10 2; rw [hg10, if_neg (by decide), hg9, if_neg (by decide), hg8, if_neg (by decide), hg7, if_neg (by decide), hg6, if_neg (by decide), hg5, if_neg (by decide), hg4, if_neg (by decide), hg3, if_neg (by decide), hg2, if_neg (by decide), hg1, if_neg (by decide)]; rfl
              | 3, _ => exact by show _ = σ10 3; rw [hg10, if_neg (by decide), hg9, if_neg (by decide), hg8, if_neg (by decide), hg7, if_neg (by decide), hg6, if_neg (by decide), hg5, if_neg (by decide), hg4, if_neg (by decide), hg3, if_neg (by decide), hg2, if_neg (by decide), hg1, if_neg (by decide)]; rfl
              | 4, _ => exact by show _ = σ10 4; rw [hg10, if_neg (by decide), hg9, if_neg (by decide), hg8, if_neg (by decide), hg7, if_neg (by decide), hg6, if_neg (by decide), hg5, if_neg (by decide), hg4, if_neg (by decide), hg3, if_neg (by decide), hg2, if_neg (by decide), hg1, if_neg (by decide)]; rfl
              | 5, _ => exact by show _ = σ10 5; rw [hg10, if_neg (by decide), hg9, if_neg (by decide), hg8, if_neg (by decide), hg7, if_neg (by decide), hg6, if_neg (by decide), hg5, if_neg (by decide), hg4, if_neg (by decide), hg3, if_neg (by decide), hg2, if_neg (by decide), hg1, if_neg (by decide)]; rfl
              ), fun i hi => (by match i, hi with
              | 0, _ => exact ⟨by show _ = σ10 9; rw [hg10, if_neg (by decide), hg9, if_neg (by decide), hg8, if_neg (by decide), hg7, if_neg (by decide), hg6, if_neg (by decide), hg5, if_pos rfl]; rfl, by show _ = σ10 10; rw [hg10, if_neg (by decide), hg9, if_neg (by decide), hg8, if_neg (by decide), hg7, if_neg (by decide), hg6, if_pos rfl]; rfl, by show _ = σ10 6; rw [hg10, if_neg (by decide), hg9, if_neg (by decide), hg8, if_neg (by decide), hg7, if_neg (by decide), hg6, if_neg (by decide), hg5, if_neg (by decide), hg4, if_neg (by decide), hg3, if_neg (by decide), hg2, if_pos rfl]; rfl⟩
              | 1, _ => exact ⟨by show _ = σ10 11; rw [hg10, if_neg (by decide), hg9, if_neg (by decide), hg8, if_neg (by decide), hg7, if_pos rfl]; rfl, by show _ = σ10 12; rw [hg10, if_neg (by decide), hg9, if_neg (by decide), hg8, if_pos rfl]; rfl, by show _ = σ10 7; rw [hg10, if_neg (by decide), hg9, if_neg (by decide), hg8, if_neg (by decide), hg7, if_neg (by decide), hg6, if_neg (by decide), hg5, if_neg (by decide), hg4, if_neg (by decide), hg3, if_pos rfl]; rfl⟩
              | 2, _ => exact ⟨by show _ = σ10 13; rw [hg10, if_neg (by decide), hg9, if_pos rfl]; rfl, by show _ = σ10 14; rw [hg10, if_pos rfl]; rfl, by show _ = σ10 8; rw [hg10, if_neg (by decide), hg9, if_neg (by decide), hg8, if_neg (by decide), hg7, if_neg (by decide), hg6, if_neg (by decide), hg5, if_neg (by decide), hg4, if_pos rfl]; rfl⟩
              ), fun c hc => absurd hc (Nat.not_lt_zero c), fun q hq => ⟨by show _ = σ10 (616 + q); rw [hg10, if_neg (by omega), hg9, if_neg (by omega), hg8, if_neg (by omega), hg7, if_neg (by omega), hg6, if_neg (by omega), hg5, if_neg (by omega), hg4, if_neg (by omega), hg3, if_neg (by omega), hg2, if_neg (by omega), hg1, if_neg (by omega)]; rfl, by show _ = σ10 (760 + q); rw [hg10, if_neg (by omega), hg9, if_neg (by omega), hg8, if_neg (by omega), hg7, if_neg (by omega), hg6, if_neg (by omega), hg5, if_neg (by omega), hg4, if_neg (by omega), hg3, if_neg (by omega), hg2, if_neg (by omega), hg1, if_neg (by omega)]; rfl⟩⟩, hf0.trans (zFr.weaken hf10 zTYZ)⟩, rfl⟩
        · rw [nI_leI (by omega) (by omega)] at b114
          omega
