theorem zput_fri {f0 f f' : zHM} {t k a : Nat} {c : (Nat × vp_A) ⊕ (Nat × List Value)} (h : zFr (zTRi t) f0 f) (hp : zPut f a (t + k, c) f') (hk : k ≤ 10) : zFr (zTRi t) f0 f' := h.put hp ⟨by show t ≤ t + k; omega, by show t + k ≤ t + 10; omega⟩
set_option maxRecDepth 10000 in
set_option maxHeartbeats 1000000 in
theorem c_copyFrom {G : zW} {f0 : zHM} {m : Nat × Nat} {t r la n t' r' n' : Nat} {A A' : Nat → Nat} {ρ ρ' : zRS} {xs tm xs' tm' : Nat → Int32} (hr : RPic f0 t r la A ρ n xs tm) (hr' : RPic f0 t' r' la A' ρ' n' xs' tm') (hd : t' + 10 < t ∨ t + 10 < t') (hn' : n' ≤ 201) : zM G yX1_copyFrom cX1_copyFrom 2 none 2 [.ref r, .ref r'] (f0, m) (zD none (fun f' m' => RPic f' t r la A ρ' n' xs' tm' ∧ zFr (zTRi t) f0 f' ∧ m' = m)) := by
  refine zM.of (by decide) (Nat.le_of_ble_eq_true rfl) ?_
  obtain ⟨r0, ⟨g1, a1, -⟩, ⟨g2, a2, -⟩, ⟨g3, a3, -⟩, ⟨g4, a4, -⟩, ⟨g5, a5, -⟩, ⟨g6, a6, -⟩, ⟨g7, a7, -⟩, ⟨g8, a8, -⟩, ⟨g9, a9, -⟩, ⟨g10, a10, -⟩⟩ := hr
  obtain ⟨b0, ⟨k1, b1, e1⟩, ⟨k2, b2, e2⟩, ⟨k3, b3, e3⟩, ⟨k4, b4, e4⟩, ⟨k5, b5, e5⟩, ⟨k6, b6, e6⟩, ⟨k7, b7, e7⟩, ⟨k8, b8, e8⟩, ⟨k9, b9, e9⟩, ⟨k10, b10, e10⟩⟩ := hr'
  have hf0 : zFr (zTRi t) f0 f0 := zFr.refl
  have hcp : ∀ (g' g φ : Nat → Int32) (N : Nat), N < 2 ^ 31 → (∀ i, i < N → g' i = φ i) → ∀ i, i < N → va_cpy g' g (nI 0).toNatClampNeg (nI 0).toNatClampNeg (nI N).toNatClampNeg i = φ i := fun g' g φ N hN he i hi => by
    rw [show (nI 0).toNatClampNeg = 0 from rfl, nI_clamp hN, pk_cpy_in (Nat.zero_le i) (by omega), ← he i hi]
    congr 1
    omega
  refine v_aload_n dX1_copyFrom_0 rfl rfl ?_
  refine v_aload_n dX1_copyFrom_1 rfl rfl ?_
  refine v_getfield fX1_9 dX1_copyFrom_2 (by assumption) (by rfl) ?_
  refine v_putfieldX fX1_9 dX1_copyFrom_5 (by assumption) rfl rfl (Nat.le_of_ble_eq_true rfl) (fun f hp => ?_)
  have a1 := hp.ne a1 (by omega)
  have a2 := hp.ne a2 (by omega)
  have a3 := hp.ne a3 (by omega)
  have a4 := hp.ne a4 (by omega)
  have a5 := hp.ne a5 (by omega)
  have a6 := hp.ne a6 (by omega)
  have a7 := hp.ne a7 (by omega)
  have a8 := hp.ne a8 (by omega)
  have a9 := hp.ne a9 (by omega)
  have a10 := hp.ne a10 (by omega)
  have b0 := hp.ne b0 (by omega)
  have b1 := hp.ne b1 (by omega)
  have b2 := hp.ne b2 (by omega)
  have b3 := hp.ne b3 (by omega)
  have b4 := hp.ne b4 (by omega)
  have b5 := hp.ne b5 (by omega)
  have b6 := hp.ne b6 (by omega)
  have b7 := hp.ne b7 (by omega)
  have b8 := hp.ne b8 (by omega)
  have b9 := hp.ne b9 (by omega)
  have b10 := hp.ne b10 (by omega)
  have r0 := hp.1
  have hf0 := zput_fri (k := 0) hf0 hp (by omega)
  refine v_aload_n dX1_copyFrom_8 rfl rfl ?_
  refine v_aload_n dX1_copyFrom_9 rfl rfl ?_
  refine v_getfield fX1_15 dX1_copyFrom_10 (by assumption) (by rfl) ?_
  refine v_putfieldX fX1_15 dX1_copyFrom_13 (by assumption) rfl rfl (Nat.le_of_ble_eq_true rfl) (fun f hp => ?_)
  have a1 := hp.ne a1 (by omega)
  have a2 := hp.ne a2 (by omega)
  have a3 := hp.ne a3 (by omega)
  have a4 := hp.ne a4 (by omega)
  have a5 := hp.ne a5 (by omega)
  have a6 := hp.ne a6 (by omega)
  have a7 := hp.ne a7 (by omega)
  have a8 := hp.ne a8 (by omega)
  have a9 := hp.ne a9 (by omega)
  have a10 := hp.ne a10 (by omega)
  have b0 := hp.ne b0 (by omega)
  have b1 := hp.ne b1 (by omega)
  have b2 := hp.ne b2 (by omega)
  have b3 := hp.ne b3 (by omega)
  have b4 := hp.ne b4 (by omega)
  have b5 := hp.ne b5 (by omega)
  have b6 := hp.ne b6 (by omega)
  have b7 := hp.ne b7 (by omega)
  have b8 := hp.ne b8 (by omega)
  have b9 := hp.ne b9 (by omega)
  have b10 := hp.ne b10 (by omega)
  have r0 := hp.1
  have hf0 := zput_fri (k := 0) hf0 hp (by omega)
  refine v_aload_n dX1_copyFrom_16 rfl rfl ?_
  refine v_aload_n dX1_copyFrom_17 rfl rfl ?_
  refine v_getfield fX1_53 dX1_copyFrom_18 (by assumption) (by rfl) ?_
  refine v_putfieldX fX1_53 dX1_copyFrom_21 (by assumption) rfl rfl (Nat.le_of_ble_eq_true rfl) (fun f hp => ?_)
  have a1 := hp.ne a1 (by omega)
  have a2 := hp.ne a2 (by omega)
  have a3 := hp.ne a3 (by omega)
  have a4 := hp.ne a4 (by omega)
  have a5 := hp.ne a5 (by omega)
  have a6 := hp.ne a6 (by omega)
  have a7 := hp.ne a7 (by omega)
  have a8 := hp.ne a8 (by omega)
  have a9 := hp.ne a9 (by omega)
  have a10 := hp.ne a10 (by omega)
  have b0 := hp.ne b0 (by omega)
  have b1 := hp.ne b1 (by omega)
  have b2 := hp.ne b2 (by omega)
  have b3 := hp.ne b3 (by omega)
  have b4 := hp.ne b4 (by omega)
  have b5 := hp.ne b5 (by omega)
  have b6 := hp.ne b6 (by omega)
  have b7 := hp.ne b7 (by omega)
  have b8 := hp.ne b8 (by omega)
  have b9 := hp.ne b9 (by omega)
  have b10 := hp.ne b10 (by omega)
  have r0 := hp.1
  have hf0 := zput_fri (k := 0) hf0 hp (by omega)
  refine v_aload_n dX1_copyFrom_24 rfl rfl ?_
  refine v_aload_n dX1_copyFrom_25 rfl rfl ?_
  refine v_getfield fX1_56 dX1_copyFrom_26 (by assumption) (by rfl) ?_
  refine v_putfieldX fX1_56 dX1_copyFrom_29 (by assumption) rfl rfl (Nat.le_of_ble_eq_true rfl) (fun f hp => ?_)
  have a1 := hp.ne a1 (by omega)
  have a2 := hp.ne a2 (by omega)
  have a3 := hp.ne a3 (by omega)
  have a4 := hp.ne a4 (by omega)
  have a5 := hp.ne a5 (by omega)
  have a6 := hp.ne a6 (by omega)
  have a7 := hp.ne a7 (by omega)
  have a8 := hp.ne a8 (by omega)
  have a9 := hp.ne a9 (by omega)
  have a10 := hp.ne a10 (by omega)
  have b0 := hp.ne b0 (by omega)
  have b1 := hp.ne b1 (by omega)
  have b2 := hp.ne b2 (by omega)
  have b3 := hp.ne b3 (by omega)
  have b4 := hp.ne b4 (by omega)
  have b5 := hp.ne b5 (by omega)
  have b6 := hp.ne b6 (by omega)
  have b7 := hp.ne b7 (by omega)
  have b8 := hp.ne b8 (by omega)
  have b9 := hp.ne b9 (by omega)
  have b10 := hp.ne b10 (by omega)
  have r0 := hp.1
  have hf0 := zput_fri (k := 0) hf0 hp (by omega)
  refine v_aload_n dX1_copyFrom_32 rfl rfl ?_
  refine v_aload_n dX1_copyFrom_33 rfl rfl ?_
  refine v_getfield fX1_59 dX1_copyFrom_34 (by assumption) (by rfl) ?_
  refine v_putfieldX fX1_59 dX1_copyFrom_37 (by assumption) rfl rfl (Nat.le_of_ble_eq_true rfl) (fun f hp => ?_)
  have a1 := hp.ne a1 (by omega)
  have a2 := hp.ne a2 (by omega)
  have a3 := hp.ne a3 (by omega)
  have a4 := hp.ne a4 (by omega)
  have a5 := hp.ne a5 (by omega)
  have a6 := hp.ne a6 (by omega)
  have a7 := hp.ne a7 (by omega)
  have a8 := hp.ne a8 (by omega)
  have a9 := hp.ne a9 (by omega)
  have a10 := hp.ne a10 (by omega)
  have b0 := hp.ne b0 (by omega)
  have b1 := hp.ne b1 (by omega)
  have b2 := hp.ne b2 (by omega)
  have b3 := hp.ne b3 (by omega)
  have b4 := hp.ne b4 (by omega)
  have b5 := hp.ne b5 (by omega)
  have b6 := hp.ne b6 (by omega)
  have b7 := hp.ne b7 (by omega)
  have b8 := hp.ne b8 (by omega)
  have b9 := hp.ne b9 (by omega)
  have b10 := hp.ne b10 (by omega)
  have r0 := hp.1
  have hf0 := zput_fri (k := 0) hf0 hp (by omega)
  refine v_aload_n dX1_copyFrom_40 rfl rfl ?_
  refine v_aload_n dX1_copyFrom_41 rfl rfl ?_
  refine v_getfield fX1_62 dX1_copyFrom_42 (by assumption) (by rfl) ?_
  refine v_putfieldX fX1_62 dX1_copyFrom_45 (by assumption) rfl rfl (Nat.le_of_ble_eq_true rfl) (fun f hp => ?_)
  have a1 := hp.ne a1 (by omega)
  have a2 := hp.ne a2 (by omega)
  have a3 := hp.ne a3 (by omega)
  have a4 := hp.ne a4 (by omega)
  have a5 := hp.ne a5 (by omega)
  have a6 := hp.ne a6 (by omega)
  have a7 := hp.ne a7 (by omega)
  have a8 := hp.ne a8 (by omega)
  have a9 := hp.ne a9 (by omega)
  have a10 := hp.ne a10 (by omega)
  have b0 := hp.ne b0 (by omega)
  have b1 := hp.ne b1 (by omega)
  have b2 := hp.ne b2 (by omega)
  have b3 := hp.ne b3 (by omega)
  have b4 := hp.ne b4 (by omega)
  have b5 := hp.ne b5 (by omega)
  have b6 := hp.ne b6 (by omega)
  have b7 := hp.ne b7 (by omega)
  have b8 := hp.ne b8 (by omega)
  have b9 := hp.ne b9 (by omega)
  have b10 := hp.ne b10 (by omega)
  have r0 := hp.1
  have hf0 := zput_fri (k := 0) hf0 hp (by omega)
  refine v_aload_n dX1_copyFrom_48 rfl rfl ?_
  refine v_aload_n dX1_copyFrom_49 rfl rfl ?_
  refine v_getfield fX1_65 dX1_copyFrom_50 (by assumption) (by rfl) ?_
  refine v_putfieldX fX1_65 dX1_copyFrom_53 (by assumption) rfl rfl (Nat.le_of_ble_eq_true rfl) (fun f hp => ?_)
  have a1 := hp.ne a1 (by omega)
  have a2 := hp.ne a2 (by omega)
  have a3 := hp.ne a3 (by omega)
  have a4 := hp.ne a4 (by omega)
  have a5 := hp.ne a5 (by omega)
  have a6 := hp.ne a6 (by omega)
  have a7 := hp.ne a7 (by omega)
  have a8 := hp.ne a8 (by omega)
  have a9 := hp.ne a9 (by omega)
  have a10 := hp.ne a10 (by omega)
  have b0 := hp.ne b0 (by omega)
  have b1 := hp.ne b1 (by omega)
  have b2 := hp.ne b2 (by omega)
  have b3 := hp.ne b3 (by omega)
  have b4 := hp.ne b4 (by omega)
  have b5 := hp.ne b5 (by omega)
  have b6 := hp.ne b6 (by omega)
  have b7 := hp.ne b7 (by omega)
  have b8 := hp.ne b8 (by omega)
  have b9 := hp.ne b9 (by omega)
  have b10 := hp.ne b10 (by omega)
  have r0 := hp.1
  have hf0 := zput_fri (k := 0) hf0 hp (by omega)
  refine v_aload_n dX1_copyFrom_56 rfl rfl ?_
  refine v_aload_n dX1_copyFrom_57 rfl rfl ?_
  refine v_getfield fX1_68 dX1_copyFrom_58 (by assumption) (by rfl) ?_
  refine v_putfieldX fX1_68 dX1_copyFrom_61 (by assumption) rfl rfl (Nat.le_of_ble_eq_true rfl) (fun f hp => ?_)
  have a1 := hp.ne a1 (by omega)
  have a2 := hp.ne a2 (by omega)
  have a3 := hp.ne a3 (by omega)
  have a4 := hp.ne a4 (by omega)
  have a5 := hp.ne a5 (by omega)
  have a6 := hp.ne a6 (by omega)
  have a7 := hp.ne a7 (by omega)
  have a8 := hp.ne a8 (by omega)
  have a9 := hp.ne a9 (by omega)
  have a10 := hp.ne a10 (by omega)
  have b0 := hp.ne b0 (by omega)
  have b1 := hp.ne b1 (by omega)
  have b2 := hp.ne b2 (by omega)
  have b3 := hp.ne b3 (by omega)
  have b4 := hp.ne b4 (by omega)
  have b5 := hp.ne b5 (by omega)
  have b6 := hp.ne b6 (by omega)
  have b7 := hp.ne b7 (by omega)
  have b8 := hp.ne b8 (by omega)
  have b9 := hp.ne b9 (by omega)
  have b10 := hp.ne b10 (by omega)
  have r0 := hp.1
  have hf0 := zput_fri (k := 0) hf0 hp (by omega)
  refine v_aload_n dX1_copyFrom_64 rfl rfl ?_
  refine v_getfield fX1_18 dX1_copyFrom_65 (by assumption) (by rfl) ?_
  refine v_iconst (nI 0) dX1_copyFrom_68 (by decide) ?_
  refine v_aload_n dX1_copyFrom_69 rfl rfl ?_
  refine v_getfield fX1_18 dX1_copyFrom_70 (by assumption) (by rfl) ?_
  refine v_iconst (nI 0) dX1_copyFrom_73 (by decide) ?_
  refine v_iconst (nI 3) dX1_copyFrom_74 (by decide) ?_
  refine v_copyIX gcpX1 gcpN gcpS gcpI dX1_copyFrom_75 (by assumption) (by assumption) (by decide) (by decide) (nI_pos (by omega)) (by rw [show (nI 0).toNatClampNeg = 0 from rfl, nI_clamp (by omega)]; omega) (by rw [show (nI 0).toNatClampNeg = 0 from rfl, nI_clamp (by omega)]; omega) (by decide) (Nat.le_of_ble_eq_true rfl) (fun f hp => ?_)
  have r0 := hp.ne r0 (by omega)
  have a2 := hp.ne a2 (by omega)
  have a3 := hp.ne a3 (by omega)
  have a4 := hp.ne a4 (by omega)
  have a5 := hp.ne a5 (by omega)
  have a6 := hp.ne a6 (by omega)
  have a7 := hp.ne a7 (by omega)
  have a8 := hp.ne a8 (by omega)
  have a9 := hp.ne a9 (by omega)
  have a10 := hp.ne a10 (by omega)
  have b0 := hp.ne b0 (by omega)
  have b1 := hp.ne b1 (by omega)
  have b2 := hp.ne b2 (by omega)
  have b3 := hp.ne b3 (by omega)
  have b4 := hp.ne b4 (by omega)
  have b5 := hp.ne b5 (by omega)
  have b6 := hp.ne b6 (by omega)
  have b7 := hp.ne b7 (by omega)
  have b8 := hp.ne b8 (by omega)
  have b9 := hp.ne b9 (by omega)
  have b10 := hp.ne b10 (by omega)
  have a1 := hp.1
  have hf0 := zput_fri (k := 1) hf0 hp (by omega)
  refine v_aload_n dX1_copyFrom_78 rfl rfl ?_
  refine v_getfield fX1_22 dX1_copyFrom_79 (by assumption) (by rfl) ?_
  refine v_iconst (nI 0) dX1_copyFrom_82 (by decide) ?_
  refine v_aload_n dX1_copyFrom_83 rfl rfl ?_
  refine v_getfield fX1_22 dX1_copyFrom_84 (by assumption) (by rfl) ?_
  refine v_iconst (nI 0) dX1_copyFrom_87 (by decide) ?_
  refine v_iconst (nI 3) dX1_copyFrom_88 (by decide) ?_
  refine v_copyIX gcpX1 gcpN gcpS gcpI dX1_copyFrom_89 (by assumption) (by assumption) (by decide) (by decide) (nI_pos (by omega)) (by rw [show (nI 0).toNatClampNeg = 0 from rfl, nI_clamp (by omega)]; omega) (by rw [show (nI 0).toNatClampNeg = 0 from rfl, nI_clamp (by omega)]; omega) (by decide) (Nat.le_of_ble_eq_true rfl) (fun f hp => ?_)
  have r0 := hp.ne r0 (by omega)
  have a1 := hp.ne a1 (by omega)
  have a3 := hp.ne a3 (by omega)
  have a4 := hp.ne a4 (by omega)
  have a5 := hp.ne a5 (by omega)
  have a6 := hp.ne a6 (by omega)
  have a7 := hp.ne a7 (by omega)
  have a8 := hp.ne a8 (by omega)
  have a9 := hp.ne a9 (by omega)
  have a10 := hp.ne a10 (by omega)
  have b0 := hp.ne b0 (by omega)
  have b1 := hp.ne b1 (by omega)
  have b2 := hp.ne b2 (by omega)
  have b3 := hp.ne b3 (by omega)
  have b4 := hp.ne b4 (by omega)
  have b5 := hp.ne b5 (by omega)
  have b6 := hp.ne b6 (by omega)
  have b7 := hp.ne b7 (by omega)
  have b8 := hp.ne b8 (by omega)
  have b9 := hp.ne b9 (by omega)
  have b10 := hp.ne b10 (by omega)
  have a2 := hp.1
  have hf0 := zput_fri (k := 2) hf0 hp (by omega)
  refine v_aload_n dX1_copyFrom_92 rfl rfl ?_
  refine v_getfield fX1_25 dX1_copyFrom_93 (by assumption) (by rfl) ?_
  refine v_iconst (nI 0) dX1_copyFrom_96 (by decide) ?_
  refine v_aload_n dX1_copyFrom_97 rfl rfl ?_
  refine v_getfield fX1_25 dX1_copyFrom_98 (by assumption) (by rfl) ?_
  refine v_iconst (nI 0) dX1_copyFrom_101 (by decide) ?_
  refine v_iconst (nI 3) dX1_copyFrom_102 (by decide) ?_
  refine v_copyIX gcpX1 gcpN gcpS gcpI dX1_copyFrom_103 (by assumption) (by assumption) (by decide) (by decide) (nI_pos (by omega)) (by rw [show (nI 0).toNatClampNeg = 0 from rfl, nI_clamp (by omega)]; omega) (by rw [show (nI 0).toNatClampNeg = 0 from rfl, nI_clamp (by omega)]; omega) (by decide) (Nat.le_of_ble_eq_true rfl) (fun f hp => ?_)
  have r0 := hp.ne r0 (by omega)
  have a1 := hp.ne a1 (by omega)
  have a2 := hp.ne a2 (by omega)
  have a4 := hp.ne a4 (by omega)
  have a5 := hp.ne a5 (by omega)
  have a6 := hp.ne a6 (by omega)
  have a7 := hp.ne a7 (by omega)
  have a8 := hp.ne a8 (by omega)
  have a9 := hp.ne a9 (by omega)
  have a10 := hp.ne a10 (by omega)
  have b0 := hp.ne b0 (by omega)
  have b1 := hp.ne b1 (by omega)
  have b2 := hp.ne b2 (by omega)
  have b3 := hp.ne b3 (by omega)
  have b4 := hp.ne b4 (by omega)
  have b5 := hp.ne b5 (by omega)
  have b6 := hp.ne b6 (by omega)
  have b7 := hp.ne b7 (by omega)
  have b8 := hp.ne b8 (by omega)
  have b9 := hp.ne b9 (by omega)
  have b10 := hp.ne b10 (by omega)
  have a3 := hp.1
  have hf0 := zput_fri (k := 3) hf0 hp (by omega)
  refine v_aload_n dX1_copyFrom_106 rfl rfl ?_
  refine v_getfield fX1_28 dX1_copyFrom_107 (by assumption) (by rfl) ?_
  refine v_iconst (nI 0) dX1_copyFrom_110 (by decide) ?_
  refine v_aload_n dX1_copyFrom_111 rfl rfl ?_
  refine v_getfield fX1_28 dX1_copyFrom_112 (by assumption) (by rfl) ?_
  refine v_iconst (nI 0) dX1_copyFrom_115 (by decide) ?_
  refine v_aload_n dX1_copyFrom_116 rfl rfl ?_
  refine v_getfield fX1_68 dX1_copyFrom_117 (by assumption) (by rfl) ?_
  refine v_copyIX gcpX1 gcpN gcpS gcpI dX1_copyFrom_120 (by assumption) (by assumption) (by decide) (by decide) (nI_pos (by omega)) (by rw [show (nI 0).toNatClampNeg = 0 from rfl, nI_clamp (by omega)]; omega) (by rw [show (nI 0).toNatClampNeg = 0 from rfl, nI_clamp (by omega)]; omega) (by decide) (Nat.le_of_ble_eq_true rfl) (fun f hp => ?_)
  have r0 := hp.ne r0 (by omega)
  have a1 := hp.ne a1 (by omega)
  have a2 := hp.ne a2 (by omega)
  have a3 := hp.ne a3 (by omega)
  have a5 := hp.ne a5 (by omega)
  have a6 := hp.ne a6 (by omega)
  have a7 := hp.ne a7 (by omega)
  have a8 := hp.ne a8 (by omega)
  have a9 := hp.ne a9 (by omega)
  have a10 := hp.ne a10 (by omega)
  have b0 := hp.ne b0 (by omega)
  have b1 := hp.ne b1 (by omega)
  have b2 := hp.ne b2 (by omega)
  have b3 := hp.ne b3 (by omega)
  have b4 := hp.ne b4 (by omega)
  have b5 := hp.ne b5 (by omega)
  have b6 := hp.ne b6 (by omega)
  have b7 := hp.ne b7 (by omega)
  have b8 := hp.ne b8 (by omega)
  have b9 := hp.ne b9 (by omega)
  have b10 := hp.ne b10 (by omega)
  have a4 := hp.1
  have hf0 := zput_fri (k := 4) hf0 hp (by omega)
  refine v_aload_n dX1_copyFrom_123 rfl rfl ?_
  refine v_getfield fX1_31 dX1_copyFrom_124 (by assumption) (by rfl) ?_
  refine v_iconst (nI 0) dX1_copyFrom_127 (by decide) ?_
  refine v_aload_n dX1_copyFrom_128 rfl rfl ?_
  refine v_getfield fX1_31 dX1_copyFrom_129 (by assumption) (by rfl) ?_
  refine v_iconst (nI 0) dX1_copyFrom_132 (by decide) ?_
  refine v_aload_n dX1_copyFrom_133 rfl rfl ?_
  refine v_getfield fX1_68 dX1_copyFrom_134 (by assumption) (by rfl) ?_
  refine v_copyIX gcpX1 gcpN gcpS gcpI dX1_copyFrom_137 (by assumption) (by assumption) (by decide) (by decide) (nI_pos (by omega)) (by rw [show (nI 0).toNatClampNeg = 0 from rfl, nI_clamp (by omega)]; omega) (by rw [show (nI 0).toNatClampNeg = 0 from rfl, nI_clamp (by omega)]; omega) (by decide) (Nat.le_of_ble_eq_true rfl) (fun f hp => ?_)
  have r0 := hp.ne r0 (by omega)
  have a1 := hp.ne a1 (by omega)
  have a2 := hp.ne a2 (by omega)
  have a3 := hp.ne a3 (by omega)
  have a4 := hp.ne a4 (by omega)
  have a6 := hp.ne a6 (by omega)
  have a7 := hp.ne a7 (by omega)
  have a8 := hp.ne a8 (by omega)
  have a9 := hp.ne a9 (by omega)
  have a10 := hp.ne a10 (by omega)
  have b0 := hp.ne b0 (by omega)
  have b1 := hp.ne b1 (by omega)
  have b2 := hp.ne b2 (by omega)
  have b3 := hp.ne b3 (by omega)
  have b4 := hp.ne b4 (by omega)
  have b5 := hp.ne b5 (by omega)
  have b6 := hp.ne b6 (by omega)
  have b7 := hp.ne b7 (by omega)
  have b8 := hp.ne b8 (by omega)
  have b9 := hp.ne b9 (by omega)
  have b10 := hp.ne b10 (by omega)
  have a5 := hp.1
  have hf0 := zput_fri (k := 5) hf0 hp (by omega)
  refine v_aload_n dX1_copyFrom_140 rfl rfl ?_
  refine v_getfield fX1_34 dX1_copyFrom_141 (by assumption) (by rfl) ?_
  refine v_iconst (nI 0) dX1_copyFrom_144 (by decide) ?_
  refine v_aload_n dX1_copyFrom_145 rfl rfl ?_
  refine v_getfield fX1_34 dX1_copyFrom_146 (by assumption) (by rfl) ?_
  refine v_iconst (nI 0) dX1_copyFrom_149 (by decide) ?_
  refine v_aload_n dX1_copyFrom_150 rfl rfl ?_
  refine v_getfield fX1_68 dX1_copyFrom_151 (by assumption) (by rfl) ?_
  refine v_copyIX gcpX1 gcpN gcpS gcpI dX1_copyFrom_154 (by assumption) (by assumption) (by decide) (by decide) (nI_pos (by omega)) (by rw [show (nI 0).toNatClampNeg = 0 from rfl, nI_clamp (by omega)]; omega) (by rw [show (nI 0).toNatClampNeg = 0 from rfl, nI_clamp (by omega)]; omega) (by decide) (Nat.le_of_ble_eq_true rfl) (fun f hp => ?_)
  have r0 := hp.ne r0 (by omega)
  have a1 := hp.ne a1 (by omega)
  have a2 := hp.ne a2 (by omega)
  have a3 := hp.ne a3 (by omega)
  have a4 := hp.ne a4 (by omega)
  have a5 := hp.ne a5 (by omega)
  have a7 := hp.ne a7 (by omega)
  have a8 := hp.ne a8 (by omega)
  have a9 := hp.ne a9 (by omega)
  have a10 := hp.ne a10 (by omega)
  have b0 := hp.ne b0 (by omega)
  have b1 := hp.ne b1 (by omega)
  have b2 := hp.ne b2 (by omega)
  have b3 := hp.ne b3 (by omega)
  have b4 := hp.ne b4 (by omega)
  have b5 := hp.ne b5 (by omega)
  have b6 := hp.ne b6 (by omega)
  have b7 := hp.ne b7 (by omega)
  have b8 := hp.ne b8 (by omega)
  have b9 := hp.ne b9 (by omega)
  have b10 := hp.ne b10 (by omega)
  have a6 := hp.1
  have hf0 := zput_fri (k := 6) hf0 hp (by omega)
  refine v_aload_n dX1_copyFrom_157 rfl rfl ?_
  refine v_getfield fX1_37 dX1_copyFrom_158 (by assumption) (by rfl) ?_
  refine v_iconst (nI 0) dX1_copyFrom_161 (by decide) ?_
  refine v_aload_n dX1_copyFrom_162 rfl rfl ?_
  refine v_getfield fX1_37 dX1_copyFrom_163 (by assumption) (by rfl) ?_
  refine v_iconst (nI 0) dX1_copyFrom_166 (by decide) ?_
  refine v_sipush (nI 144) dX1_copyFrom_167 (by decide) ?_
  refine v_copyIX gcpX1 gcpN gcpS gcpI dX1_copyFrom_170 (by assumption) (by assumption) (by decide) (by decide) (nI_pos (by omega)) (by rw [show (nI 0).toNatClampNeg = 0 from rfl, nI_clamp (by omega)]; omega) (by rw [show (nI 0).toNatClampNeg = 0 from rfl, nI_clamp (by omega)]; omega) (by decide) (Nat.le_of_ble_eq_true rfl) (fun f hp => ?_)
  have r0 := hp.ne r0 (by omega)
  have a1 := hp.ne a1 (by omega)
  have a2 := hp.ne a2 (by omega)
  have a3 := hp.ne a3 (by omega)
  have a4 := hp.ne a4 (by omega)
  have a5 := hp.ne a5 (by omega)
  have a6 := hp.ne a6 (by omega)
  have a8 := hp.ne a8 (by omega)
  have a9 := hp.ne a9 (by omega)
  have a10 := hp.ne a10 (by omega)
  have b0 := hp.ne b0 (by omega)
  have b1 := hp.ne b1 (by omega)
  have b2 := hp.ne b2 (by omega)
  have b3 := hp.ne b3 (by omega)
  have b4 := hp.ne b4 (by omega)
  have b5 := hp.ne b5 (by omega)
  have b6 := hp.ne b6 (by omega)
  have b7 := hp.ne b7 (by omega)
  have b8 := hp.ne b8 (by omega)
  have b9 := hp.ne b9 (by omega)
  have b10 := hp.ne b10 (by omega)
  have a7 := hp.1
  have hf0 := zput_fri (k := 7) hf0 hp (by omega)
  refine v_aload_n dX1_copyFrom_173 rfl rfl ?_
  refine v_getfield fX1_40 dX1_copyFrom_174 (by assumption) (by rfl) ?_
  refine v_iconst (nI 0) dX1_copyFrom_177 (by decide) ?_
  refine v_aload_n dX1_copyFrom_178 rfl rfl ?_
  refine v_getfield fX1_40 dX1_copyFrom_179 (by assumption) (by rfl) ?_
  refine v_iconst (nI 0) dX1_copyFrom_182 (by decide) ?_
  refine v_sipush (nI 144) dX1_copyFrom_183 (by decide) ?_
  refine v_copyIX gcpX1 gcpN gcpS gcpI dX1_copyFrom_186 (by assumption) (by assumption) (by decide) (by decide) (nI_pos (by omega)) (by rw [show (nI 0).toNatClampNeg = 0 from rfl, nI_clamp (by omega)]; omega) (by rw [show (nI 0).toNatClampNeg = 0 from rfl, nI_clamp (by omega)]; omega) (by decide) (Nat.le_of_ble_eq_true rfl) (fun f hp => ?_)
  have r0 := hp.ne r0 (by omega)
  have a1 := hp.ne a1 (by omega)
  have a2 := hp.ne a2 (by omega)
  have a3 := hp.ne a3 (by omega)
  have a4 := hp.ne a4 (by omega)
  have a5 := hp.ne a5 (by omega)
  have a6 := hp.ne a6 (by omega)
  have a7 := hp.ne a7 (by omega)
  have a9 := hp.ne a9 (by omega)
  have a10 := hp.ne a10 (by omega)
  have b0 := hp.ne b0 (by omega)
  have b1 := hp.ne b1 (by omega)
  have b2 := hp.ne b2 (by omega)
  have b3 := hp.ne b3 (by omega)
  have b4 := hp.ne b4 (by omega)
  have b5 := hp.ne b5 (by omega)
  have b6 := hp.ne b6 (by omega)
  have b7 := hp.ne b7 (by omega)
  have b8 := hp.ne b8 (by omega)
  have b9 := hp.ne b9 (by omega)
  have b10 := hp.ne b10 (by omega)
  have a8 := hp.1
  have hf0 := zput_fri (k := 8) hf0 hp (by omega)
  refine v_aload_n dX1_copyFrom_189 rfl rfl ?_
  refine v_getfield fX1_43 dX1_copyFrom_190 (by assumption) (by rfl) ?_
  refine v_iconst (nI 0) dX1_copyFrom_193 (by decide) ?_
  refine v_aload_n dX1_copyFrom_194 rfl rfl ?_
  refine v_getfield fX1_43 dX1_copyFrom_195 (by assumption) (by rfl) ?_
  refine v_iconst (nI 0) dX1_copyFrom_198 (by decide) ?_
  refine v_sipush (nI 144) dX1_copyFrom_199 (by decide) ?_
  refine v_copyIX gcpX1 gcpN gcpS gcpI dX1_copyFrom_202 (by assumption) (by assumption) (by decide) (by decide) (nI_pos (by omega)) (by rw [show (nI 0).toNatClampNeg = 0 from rfl, nI_clamp (by omega)]; omega) (by rw [show (nI 0).toNatClampNeg = 0 from rfl, nI_clamp (by omega)]; omega) (by decide) (Nat.le_of_ble_eq_true rfl) (fun f hp => ?_)
  have r0 := hp.ne r0 (by omega)
  have a1 := hp.ne a1 (by omega)
  have a2 := hp.ne a2 (by omega)
  have a3 := hp.ne a3 (by omega)
  have a4 := hp.ne a4 (by omega)
  have a5 := hp.ne a5 (by omega)
  have a6 := hp.ne a6 (by omega)
  have a7 := hp.ne a7 (by omega)
  have a8 := hp.ne a8 (by omega)
  have a10 := hp.ne a10 (by omega)
  have b0 := hp.ne b0 (by omega)
  have b1 := hp.ne b1 (by omega)
  have b2 := hp.ne b2 (by omega)
  have b3 := hp.ne b3 (by omega)
  have b4 := hp.ne b4 (by omega)
  have b5 := hp.ne b5 (by omega)
  have b6 := hp.ne b6 (by omega)
  have b7 := hp.ne b7 (by omega)
  have b8 := hp.ne b8 (by omega)
  have b9 := hp.ne b9 (by omega)
  have b10 := hp.ne b10 (by omega)
  have a9 := hp.1
  have hf0 := zput_fri (k := 9) hf0 hp (by omega)
  refine v_aload_n dX1_copyFrom_205 rfl rfl ?_
  refine v_getfield fX1_46 dX1_copyFrom_206 (by assumption) (by rfl) ?_
  refine v_iconst (nI 0) dX1_copyFrom_209 (by decide) ?_
  refine v_aload_n dX1_copyFrom_210 rfl rfl ?_
  refine v_getfield fX1_46 dX1_copyFrom_211 (by assumption) (by rfl) ?_
  refine v_iconst (nI 0) dX1_copyFrom_214 (by decide) ?_
  refine v_sipush (nI 276) dX1_copyFrom_215 (by decide) ?_
  refine v_copyIX gcpX1 gcpN gcpS gcpI dX1_copyFrom_218 (by assumption) (by assumption) (by decide) (by decide) (nI_pos (by omega)) (by rw [show (nI 0).toNatClampNeg = 0 from rfl, nI_clamp (by omega)]; omega) (by rw [show (nI 0).toNatClampNeg = 0 from rfl, nI_clamp (by omega)]; omega) (by decide) (Nat.le_of_ble_eq_true rfl) (fun f hp => ?_)
  have r0 := hp.ne r0 (by omega)
  have a1 := hp.ne a1 (by omega)
  have a2 := hp.ne a2 (by omega)
  have a3 := hp.ne a3 (by omega)
  have a4 := hp.ne a4 (by omega)
  have a5 := hp.ne a5 (by omega)
  have a6 := hp.ne a6 (by omega)
  have a7 := hp.ne a7 (by omega)
  have a8 := hp.ne a8 (by omega)
  have a9 := hp.ne a9 (by omega)
  have b0 := hp.ne b0 (by omega)
  have b1 := hp.ne b1 (by omega)
  have b2 := hp.ne b2 (by omega)
  have b3 := hp.ne b3 (by omega)
  have b4 := hp.ne b4 (by omega)
  have b5 := hp.ne b5 (by omega)
  have b6 := hp.ne b6 (by omega)
  have b7 := hp.ne b7 (by omega)
  have b8 := hp.ne b8 (by omega)
  have b9 := hp.ne b9 (by omega)
  have b10 := hp.ne b10 (by omega)
  have a10 := hp.1
  have hf0 := zput_fri (k := 10) hf0 hp (by omega)
  exact v_return dX1_copyFrom_221 rfl ⟨rfl, ⟨r0, ⟨_, a1, hcp _ _ _ _ (by omega) e1⟩, ⟨_, a2, hcp _ _ _ _ (by omega) e2⟩, ⟨_, a3, hcp _ _ _ _ (by omega) e3⟩, ⟨_, a4, hcp _ _ _ _ (by omega) e4⟩, ⟨_, a5, hcp _ _ _ _ (by omega) e5⟩, ⟨_, a6, hcp _ _ _ _ (by omega) e6⟩, ⟨_, a7, hcp _ _ _ _ (by omega) e7⟩, ⟨_, a8, hcp _ _ _ _ (by omega) e8⟩, ⟨_, a9, hcp _ _ _ _ (by omega) e9⟩, ⟨_, a10, hcp _ _ _ _ (by omega) e10⟩⟩, hf0, rfl⟩
