def sAdd (ρ : zRS) (n a b u : Nat) : zRS := zset (zset (zset ρ 4 (fun c => if c = n then nI a else ρ 4 c)) 5 (fun c => if c = n then nI b else ρ 5 c)) 6 (fun c => if c = n then nI u else ρ 6 c)
def sLay (ρ : zRS) (s n a b u : Nat) : zRS := zset (sPutR (sAdd ρ n a b u) s a b u 1) 0 (fun i => if i = 1 then nI b else ρ 0 i)
def sOff (ρ : zRS) (s a b u : Nat) : zRS := zset (sPutR ρ s a b u (-1)) 0 (fun i => if i = 1 then nI a else if i = 2 then nI u else ρ 0 i)
theorem zput_fr {f0 f f' : zHM} {t k a : Nat} {c : (Nat × vp_A) ⊕ (Nat × List Value)} (h : zFr (zTR t) f0 f) (hp : zPut f a (t + k, c) f') (hk : k ≤ 10) : zFr (zTR t) f0 f' := h.put hp (Or.inr ⟨by show t ≤ t + k; omega, by show t + k ≤ t + 10; omega⟩)
theorem zput_ln {f f' : zHM} {m : Nat × Nat} {la : Nat} {M : Nat × Nat} {t k a : Nat} {c : (Nat × vp_A) ⊕ (Nat × List Value)} (hL : LNok f m la M) (hp : zPut f a (t + k, c) f') (hk : k ≤ 10) (ht : t ≤ 900) : LNok f' m la M :=
  hL.fr (zFr.refl.put (T := zTRi t) hp ⟨by show t ≤ t + k; omega, by show t + k ≤ t + 10; omega⟩) (fun τ h1 h2 => by have := h2.2; omega)
set_option maxRecDepth 10000 in
set_option maxHeartbeats 1000000 in
theorem c_lay {G : zW} {f0 : zHM} {m : Nat × Nat} {t r la n : Nat} {A : Nat → Nat} {ρ : zRS} {xs tm : Nat → Int32} (hr : RPic f0 t r la A ρ n xs tm) (ht : t ≤ 900) (hn200 : n ≤ 200) {N s : Nat} (hv : RV ρ N s) {M : Nat × Nat} (hL : LNok f0 m la M) {a b u : Nat} (ha : a < N) (hb : b < N) (hn : a ≠ b) (hu : u < 3) (hat : ρ 0 1 = nI a) (hnow : ρ 0 2 = nI u) : zM G yX1_lay cX1_lay 2 none 5 [.ref r, .int (nI b)] (f0, m) (zD none (fun f' m' => RPic f' t r la A (sLay ρ s n a b u) (n + 1) (sInL (sPa s a b) 1 xs) (sPutT tm (sPr (a * s) (b * s)) 1) ∧ LNok f' m' la M ∧ zFr (zTR t) f0 f')) := by
  refine zM.of (by decide) (Nat.le_of_ble_eq_true rfl) ?_
  have hv9 := hv.pos
  obtain ⟨r0, ⟨g1, a1, e1⟩, ⟨g2, a2, e2⟩, ⟨g3, a3, e3⟩, ⟨g4, a4, e4⟩, ⟨g5, a5, e5⟩, ⟨g6, a6, e6⟩, ⟨g7, a7, e7⟩, ⟨g8, a8, e8⟩, ⟨g9, a9, e9⟩, ⟨g10, a10, e10⟩⟩ := id hr
  have hf0 : zFr (zTR t) f0 f0 := zFr.refl
  refine v_aload_n dX1_lay_0 rfl rfl ?_
  refine v_getfield fX1_68 dX1_lay_1 (by assumption) (by rfl) ?_
  refine v_sipush (nI 200) dX1_lay_4 (by decide) ?_
  refine v_icmp_le 11 dX1_lay_7 (by decide) (fun b7 => ?_) (fun b7 => ?_)
  · refine v_aload_n dX1_lay_11 rfl rfl ?_
    refine v_getfield fX1_28 dX1_lay_12 (by assumption) (by rfl) ?_
    refine v_aload_n dX1_lay_15 rfl rfl ?_
    refine v_getfield fX1_68 dX1_lay_16 (by assumption) (by rfl) ?_
    refine v_aload_n dX1_lay_19 rfl rfl ?_
    refine v_getfield fX1_53 dX1_lay_20 (by assumption) (by rfl) ?_
    rw [hat]
    refine v_iastoreX dX1_lay_23 (by assumption) (vp_in_nI (by omega) (by omega)) (fun f hp => ?_)
    have r0 := hp.ne r0 (by omega)
    have a1 := hp.ne a1 (by omega)
    have a2 := hp.ne a2 (by omega)
    have a3 := hp.ne a3 (by omega)
    have a5 := hp.ne a5 (by omega)
    have a6 := hp.ne a6 (by omega)
    have a7 := hp.ne a7 (by omega)
    have a8 := hp.ne a8 (by omega)
    have a9 := hp.ne a9 (by omega)
    have a10 := hp.ne a10 (by omega)
    have a4 := hp.1
    have hf0 := zput_fr (k := 4) hf0 hp (by omega)
    have hL := zput_ln (k := 4) hL hp (by omega) ht
    refine v_aload_n dX1_lay_24 rfl rfl ?_
    refine v_getfield fX1_31 dX1_lay_25 (by assumption) (by rfl) ?_
    refine v_aload_n dX1_lay_28 rfl rfl ?_
    refine v_getfield fX1_68 dX1_lay_29 (by assumption) (by rfl) ?_
    refine v_iload_n dX1_lay_32 rfl rfl ?_
    refine v_iastoreX dX1_lay_33 (by assumption) (vp_in_nI (by omega) (by omega)) (fun f hp => ?_)
    have r0 := hp.ne r0 (by omega)
    have a1 := hp.ne a1 (by omega)
    have a2 := hp.ne a2 (by omega)
    have a3 := hp.ne a3 (by omega)
    have a4 := hp.ne a4 (by omega)
    have a6 := hp.ne a6 (by omega)
    have a7 := hp.ne a7 (by omega)
    have a8 := hp.ne a8 (by omega)
    have a9 := hp.ne a9 (by omega)
    have a10 := hp.ne a10 (by omega)
    have a5 := hp.1
    have hf0 := zput_fr (k := 5) hf0 hp (by omega)
    have hL := zput_ln (k := 5) hL hp (by omega) ht
    refine v_aload_n dX1_lay_34 rfl rfl ?_
    refine v_getfield fX1_34 dX1_lay_35 (by assumption) (by rfl) ?_
    refine v_aload_n dX1_lay_38 rfl rfl ?_
    refine v_getfield fX1_68 dX1_lay_39 (by assumption) (by rfl) ?_
    refine v_aload_n dX1_lay_42 rfl rfl ?_
    refine v_getfield fX1_56 dX1_lay_43 (by assumption) (by rfl) ?_
    rw [hnow]
    refine v_iastoreX dX1_lay_46 (by assumption) (vp_in_nI (by omega) (by omega)) (fun f hp => ?_)
    have r0 := hp.ne r0 (by omega)
    have a1 := hp.ne a1 (by omega)
    have a2 := hp.ne a2 (by omega)
    have a3 := hp.ne a3 (by omega)
    have a4 := hp.ne a4 (by omega)
    have a5 := hp.ne a5 (by omega)
    have a7 := hp.ne a7 (by omega)
    have a8 := hp.ne a8 (by omega)
    have a9 := hp.ne a9 (by omega)
    have a10 := hp.ne a10 (by omega)
    have a6 := hp.1
    have hf0 := zput_fr (k := 6) hf0 hp (by omega)
    have hL := zput_ln (k := 6) hL hp (by omega) ht
    have hr : RPV f t r la A (sAdd ρ n a b u) n (n + 1) xs tm := by
      have hu9 : ∀ (g φ : Nat → Int32) (x : Int32), (∀ i, i < n → g i = φ i) → ∀ i, i < n + 1 → upd g (nI n).toNatClampNeg x i = if i = n then x else φ i := fun g φ x he i hi => by
        rw [nI_clamp (by omega)]; unfold upd
        by_cases h : i = n
        · rw [if_pos h, if_pos h]
        · rw [if_neg h, if_neg h, he i (by omega)]
      exact ⟨r0, ⟨g1, a1, e1⟩, ⟨g2, a2, e2⟩, ⟨g3, a3, e3⟩, ⟨_, a4, hu9 g4 (ρ 4) _ e4⟩, ⟨_, a5, hu9 g5 (ρ 5) _ e5⟩, ⟨_, a6, hu9 g6 (ρ 6) _ e6⟩, ⟨g7, a7, e7⟩, ⟨g8, a8, e8⟩, ⟨g9, a9, e9⟩, ⟨g10, a10, e10⟩⟩
    refine v_aload_n dX1_lay_47 rfl rfl ?_
    refine v_aload_n dX1_lay_48 rfl rfl ?_
    refine v_getfield fX1_68 dX1_lay_49 (by assumption) (by rfl) ?_
    refine v_iconst (1) dX1_lay_52 (by decide) ?_
    refine v_callV0 kX1_126 gi_X1_putThread ge_X1_putThread rfl dX1_lay_53 (by assumption) (c_putThread hr ht (by omega) (hv : RV (sAdd ρ n a b u) N s) hL (c := n) (by omega) (by omega) ha hb hn hu ((zset_ne (by omega) n).trans ((zset_ne (by omega) n).trans ((zset_eq n).trans (if_pos rfl)))) ((zset_ne (by omega) n).trans ((zset_eq n).trans (if_pos rfl))) ((zset_eq n).trans (if_pos rfl)) 1) rfl rfl (by decide) (Nat.le_of_ble_eq_true rfl) (fun f m hc => ?_)
    obtain ⟨hr, hL, hf9⟩ := hc
    have hf0 := hf0.trans hf9
    have r0 := hr.1
    refine v_aload_n dX1_lay_56 rfl rfl ?_
    refine v_dup dX1_lay_57 rfl ?_
    refine v_getfield fX1_68 dX1_lay_58 (by assumption) (by rfl) ?_
    refine v_iconst (nI 1) dX1_lay_61 (by decide) ?_
    refine v_iadd dX1_lay_62 ?_
    rw [nI_add]
    refine v_putfieldX fX1_68 dX1_lay_63 (by assumption) rfl rfl (Nat.le_of_ble_eq_true rfl) (fun f hp => ?_)
    have hr := hr.obj (ρ' := sPutR (sAdd ρ n a b u) s a b u 1) (n' := n + 1) (fun _ _ _ => rfl) hp
    have hf0 := zput_fr (k := 0) hf0 hp (by omega)
    have hL := zput_ln (k := 0) hL hp (by omega) ht
    have r0 := hr.1
    refine v_aload_n dX1_lay_66 rfl rfl ?_
    refine v_iload_n dX1_lay_67 rfl rfl ?_
    refine v_putfieldX fX1_53 dX1_lay_68 (by assumption) rfl rfl (Nat.le_of_ble_eq_true rfl) (fun f hp => ?_)
    have hr := hr.obj (ρ' := sLay ρ s n a b u) (n' := n + 1) (fun k hk i => zset_ne hk i) hp
    have hf0 := zput_fr (k := 0) hf0 hp (by omega)
    have hL := zput_ln (k := 0) hL hp (by omega) ht
    exact v_return dX1_lay_71 rfl ⟨rfl, hr.pic, hL, hf0⟩
  · exact absurd (nI_le (by omega) (by omega)) b7
set_option maxRecDepth 10000 in
set_option maxHeartbeats 1000000 in
theorem c_takeOff {G : zW} {f0 : zHM} {m : Nat × Nat} {t r la k : Nat} {A : Nat → Nat} {ρ : zRS} {xs tm : Nat → Int32} (hr : RPic f0 t r la A ρ (k + 1) xs tm) (ht : t ≤ 900) (hk201 : k < 201) {N s : Nat} (hv : RV ρ N s) {M : Nat × Nat} (hL : LNok f0 m la M) {a b u : Nat} (ha : a < N) (hb : b < N) (hn : a ≠ b) (hu : u < 3) (q4 : ρ 4 k = nI a) (q5 : ρ 5 k = nI b) (q6 : ρ 6 k = nI u) : zM G yX1_takeOff cX1_takeOff 1 none 5 [.ref r] (f0, m) (zD none (fun f' m' => RPic f' t r la A (sOff ρ s a b u) k (sInL (sPa s a b) (-1) xs) (sPutT tm (sPr (a * s) (b * s)) (-1)) ∧ LNok f' m' la M ∧ zFr (zTR t) f0 f')) := by
  refine zM.of (by decide) (Nat.le_of_ble_eq_true rfl) ?_
  have hv9 := hv.pos
  obtain ⟨r0, ⟨g1, a1, e1⟩, ⟨g2, a2, e2⟩, ⟨g3, a3, e3⟩, ⟨g4, a4, e4⟩, ⟨g5, a5, e5⟩, ⟨g6, a6, e6⟩, ⟨g7, a7, e7⟩, ⟨g8, a8, e8⟩, ⟨g9, a9, e9⟩, ⟨g10, a10, e10⟩⟩ := id hr
  have hf0 : zFr (zTR t) f0 f0 := zFr.refl
  refine v_aload_n dX1_takeOff_0 rfl rfl ?_
  refine v_getfield fX1_68 dX1_takeOff_1 (by assumption) (by rfl) ?_
  refine v_if_gt 8 dX1_takeOff_4 (by decide) (fun b4 => ?_) (fun b4 => ?_)
  · refine v_aload_n dX1_takeOff_8 rfl rfl ?_
    refine v_dup dX1_takeOff_9 rfl ?_
    refine v_getfield fX1_68 dX1_takeOff_10 (by assumption) (by rfl) ?_
    refine v_iconst (nI 1) dX1_takeOff_13 (by decide) ?_
    refine v_isub dX1_takeOff_14 ?_
    rw [pk_sub (by omega), Nat.add_sub_cancel]
    refine v_putfieldX fX1_68 dX1_takeOff_15 (by assumption) rfl rfl (Nat.le_of_ble_eq_true rfl) (fun f hp => ?_)
    have hr := hr.pv.obj (ρ' := ρ) (n' := k) (fun _ _ _ => rfl) hp
    have hf0 := zput_fr (k := 0) hf0 hp (by omega)
    have hL := zput_ln (k := 0) hL hp (by omega) ht
    have r0 := hr.1
    refine v_aload_n dX1_takeOff_18 rfl rfl ?_
    refine v_aload_n dX1_takeOff_19 rfl rfl ?_
    refine v_getfield fX1_68 dX1_takeOff_20 (by assumption) (by rfl) ?_
    refine v_iconst (-1) dX1_takeOff_23 (by decide) ?_
    refine v_callV0 kX1_126 gi_X1_putThread ge_X1_putThread rfl dX1_takeOff_24 (by assumption) (c_putThread hr ht (by omega) hv hL (c := k) (by omega) (by omega) ha hb hn hu q4 q5 q6 (-1)) rfl rfl (by decide) (Nat.le_of_ble_eq_true rfl) (fun f m hc => ?_)
    obtain ⟨hr, hL, hf9⟩ := hc
    have hf0 := hf0.trans hf9
    obtain ⟨r0, ⟨g1, a1, e1⟩, ⟨g2, a2, e2⟩, ⟨g3, a3, e3⟩, ⟨g4, a4, e4⟩, ⟨g5, a5, e5⟩, ⟨g6, a6, e6⟩, ⟨g7, a7, e7⟩, ⟨g8, a8, e8⟩, ⟨g9, a9, e9⟩, ⟨g10, a10, e10⟩⟩ := id hr
    refine v_aload_n dX1_takeOff_27 rfl rfl ?_
    refine v_aload_n dX1_takeOff_28 rfl rfl ?_
    refine v_getfield fX1_28 dX1_takeOff_29 (by assumption) (by rfl) ?_
    refine v_aload_n dX1_takeOff_32 rfl rfl ?_
    refine v_getfield fX1_68 dX1_takeOff_33 (by assumption) (by rfl) ?_
    refine v_iaload dX1_takeOff_36 (by assumption) (vp_in_nI (by omega) (by omega)) ?_
    rw [nI_clamp (by omega), e4 k (by omega), show sPutR ρ s a b u (-1) 4 k = nI a from q4]
    refine v_putfieldX fX1_53 dX1_takeOff_37 (by assumption) rfl rfl (Nat.le_of_ble_eq_true rfl) (fun f hp => ?_)
    have hr := hr.obj (ρ' := zset (sPutR ρ s a b u (-1)) 0 (fun i => if i = 1 then nI a else ρ 0 i)) (n' := k) (fun k hk i => zset_ne hk i) hp
    have hf0 := zput_fr (k := 0) hf0 hp (by omega)
    have hL := zput_ln (k := 0) hL hp (by omega) ht
    obtain ⟨r0, ⟨g1, a1, e1⟩, ⟨g2, a2, e2⟩, ⟨g3, a3, e3⟩, ⟨g4, a4, e4⟩, ⟨g5, a5, e5⟩, ⟨g6, a6, e6⟩, ⟨g7, a7, e7⟩, ⟨g8, a8, e8⟩, ⟨g9, a9, e9⟩, ⟨g10, a10, e10⟩⟩ := id hr
    refine v_aload_n dX1_takeOff_40 rfl rfl ?_
    refine v_aload_n dX1_takeOff_41 rfl rfl ?_
    refine v_getfield fX1_34 dX1_takeOff_42 (by assumption) (by rfl) ?_
    refine v_aload_n dX1_takeOff_45 rfl rfl ?_
    refine v_getfield fX1_68 dX1_takeOff_46 (by assumption) (by rfl) ?_
    refine v_iaload dX1_takeOff_49 (by assumption) (vp_in_nI (by omega) (by omega)) ?_
    rw [nI_clamp (by omega), e6 k (by omega), show zset (sPutR ρ s a b u (-1)) 0 (fun i => if i = 1 then nI a else ρ 0 i) 6 k = nI u from q6]
    refine v_putfieldX fX1_56 dX1_takeOff_50 (by assumption) rfl rfl (Nat.le_of_ble_eq_true rfl) (fun f hp => ?_)
    have hr := hr.obj (ρ' := sOff ρ s a b u) (n' := k) (fun k hk i => (zset_ne hk i).trans (zset_ne hk i).symm) hp
    have hf0 := zput_fr (k := 0) hf0 hp (by omega)
    have hL := zput_ln (k := 0) hL hp (by omega) ht
    exact v_return dX1_takeOff_53 rfl ⟨rfl, (hr.less (Nat.le_succ k)).pic, hL, hf0⟩
  · exact absurd (by rw [show (0 : Int32) = nI 0 from rfl, nI_ltI (by omega) (by omega)]; omega) b4
