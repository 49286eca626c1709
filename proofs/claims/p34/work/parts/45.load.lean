theorem gtI : Cond.initialized yX2_init.cls ∈ GT := GT_in (by decide +kernel) (by decide +kernel)
theorem gtC : Cond.code yX2_init cX2_init 1 none ∈ GT := GT_in (by decide +kernel) (by decide +kernel)
theorem gtM : Cond.instanceMethod yX2_init ∈ GT := GT_in (by decide +kernel) (by decide +kernel)
abbrev zTN : Nat → Prop := fun τ => τ ≤ 30 ∨ (600 ≤ τ ∧ τ ≤ 605)
set_option maxRecDepth 10000 in
set_option maxHeartbeats 1000000 in
theorem c_new {G : zW} {f : zHM} {m : Nat × Nat} {o : Nat} (ho : f o = some (600, .inr (3, [.null, .null, .null, .null, .null, .null, .int 0]))) (hm1 : m.1 + 28 ≤ 50000) (hm2 : m.2 + 3168 ≤ 400000) : zM G yX3_init cX3_init 2 none 3 [.ref o] (f, m) (zD none (fun f' m' => ∃ r tr sc tx sl sv la A A2 co, f' o = some (600, .inr (3, zOb r tr sc tx sl sv 0)) ∧ RPic f' 0 r la A sNew 0 (fun _ => 0) (fun _ => 0) ∧ RPic f' 20 tr la A2 sNew 0 (fun _ => 0) (fun _ => 0) ∧ f' sc = some (601, .inl (0, 144, .inl (fun _ => 0))) ∧ TPic f' 602 tx co 0 (fun _ => 0) ∧ f' sl = some (604, zrow (fun _ => none) 2) ∧ f' sv = some (605, zrow (fun _ => none) 6) ∧ f' la = some (950, .inl (4, 276, .inr (.inr (.inr (.inr (fun _ => none)))))) ∧ zFr zTN f f' ∧ m' = (m.1 + 28, m.2 + 3168))) := by
  refine zM.of (by decide) (Nat.le_of_ble_eq_true rfl) ?_
  have hf0 : zFr zTN f f := zFr.refl
  refine v_aload_n dX3_init_0 rfl rfl ?_
  refine v_objInit goLX3 goI goC dX3_init_1 (by decide) (Nat.le_of_ble_eq_true rfl) ?_
  refine v_aload_n dX3_init_4 rfl rfl ?_
  refine v_sipush (nI 144) dX3_init_5 (by decide) ?_
  refine v_newIX 601 144 dX3_init_8 (by decide) (by decide) (by omega) (by omega) (by omega) (fun sc f1 hp => ?_)
  have hf0 := hf0.trans (zFr.new (T := zTN) zFr.refl hp)
  have ho := hp.2.2 _ _ ho
  have hsc := hp.1
  refine v_putfieldFX fX3_9 rfl rfl dX3_init_10 ho rfl rfl (Nat.le_of_ble_eq_true rfl) (fun f1 hp => ?_)
  have hz : zFr (fun τ => τ = 600) _ f1 := zFr.put (T := fun τ => τ = 600) zFr.refl hp rfl
  have hf0 := hf0.trans (hz.weaken (T' := zTN) (fun τ h => Or.inr (by omega)))
  have ho := hp.1
  have hsc := hz _ _ _ hsc (by omega)
  refine v_aload_n dX3_init_13 rfl rfl ?_
  refine v_newX 602 nX3_13 dX3_init_14 (by show m.1 + 1 + 1 ≤ 50000; omega) (by show m.2 + 144 + 2 ≤ 400000; omega) (fun tx f1 hp => ?_)
  have hf0 := hf0.trans (zFr.new (T := zTN) zFr.refl hp)
  have ho := hp.2.2 _ _ ho
  have hsc := hp.2.2 _ _ hsc
  have htx := hp.1
  refine v_dup dX3_init_17 rfl ?_
  refine v_callIN0 rfl gtI gtC (by decide) gtM dX3_init_18 (c_Text_init htx (by show m.1 + 1 + 1 + 1 ≤ 50000; omega) (by show m.2 + 144 + 2 + 60 ≤ 400000; omega)) rfl (by decide) (Nat.le_of_ble_eq_true rfl) (fun f1 m1 hc => ?_)
  obtain ⟨⟨co, htp⟩, hz, rfl⟩ := hc
  have hf0 := hf0.trans (hz.weaken (T' := zTN) (fun τ h => Or.inr (by omega)))
  have hsc := hz _ _ _ hsc (by omega)
  have ho := hz _ _ _ ho (by omega)
  refine v_putfieldFX fX3_16 rfl rfl dX3_init_21 ho rfl rfl (Nat.le_of_ble_eq_true rfl) (fun f1 hp => ?_)
  have hz : zFr (fun τ => τ = 600) _ f1 := zFr.put (T := fun τ => τ = 600) zFr.refl hp rfl
  have hf0 := hf0.trans (hz.weaken (T' := zTN) (fun τ h => Or.inr (by omega)))
  have ho := hp.1
  have hsc := hz _ _ _ hsc (by omega)
  have htp := htp.fr hz (by omega) (by omega)
  refine v_aload_n dX3_init_24 rfl rfl ?_
  refine v_iconst (nI 2) dX3_init_25 (by decide) ?_
  refine v_newRX 604 2 dX3_init_26 gClR (by decide) (by decide) (by omega) (by show m.1 + 1 + 1 + 1 + 1 ≤ 50000; omega) (by show m.2 + 144 + 2 + 60 + 2 ≤ 400000; omega) (fun sl f1 hp => ?_)
  have hf0 := hf0.trans (zFr.new (T := zTN) zFr.refl hp)
  have ho := hp.2.2 _ _ ho
  have hsc := hp.2.2 _ _ hsc
  have htp := htp.fr (zFr.new (T := fun _ => False) zFr.refl hp) id id
  have hsl := hp.1
  refine v_putfieldFX fX3_22 rfl rfl dX3_init_29 ho rfl rfl (Nat.le_of_ble_eq_true rfl) (fun f1 hp => ?_)
  have hz : zFr (fun τ => τ = 600) _ f1 := zFr.put (T := fun τ => τ = 600) zFr.refl hp rfl
  have hf0 := hf0.trans (hz.weaken (T' := zTN) (fun τ h => Or.inr (by omega)))
  have ho := hp.1
  have hsc := hz _ _ _ hsc (by omega)
  have htp := htp.fr hz (by omega) (by omega)
  have hsl := hz _ _ _ hsl (by omega)
  refine v_aload_n dX3_init_32 rfl rfl ?_
  refine v_bipush (nI 6) dX3_init_33 (by decide) ?_
  refine v_newRX 605 6 dX3_init_35 gClR (by decide) (by decide) (by omega) (by show m.1 + 1 + 1 + 1 + 1 + 1 ≤ 50000; omega) (by show m.2 + 144 + 2 + 60 + 2 + 6 ≤ 400000; omega) (fun sv f1 hp => ?_)
  have hf0 := hf0.trans (zFr.new (T := zTN) zFr.refl hp)
  have ho := hp.2.2 _ _ ho
  have hsc := hp.2.2 _ _ hsc
  have htp := htp.fr (zFr.new (T := fun _ => False) zFr.refl hp) id id
  have hsl := hp.2.2 _ _ hsl
  have hsv := hp.1
  refine v_putfieldFX fX3_26 rfl rfl dX3_init_38 ho rfl rfl (Nat.le_of_ble_eq_true rfl) (fun f1 hp => ?_)
  have hz : zFr (fun τ => τ = 600) _ f1 := zFr.put (T := fun τ => τ = 600) zFr.refl hp rfl
  have hf0 := hf0.trans (hz.weaken (T' := zTN) (fun τ h => Or.inr (by omega)))
  have ho := hp.1
  have hsc := hz _ _ _ hsc (by omega)
  have htp := htp.fr hz (by omega) (by omega)
  have hsl := hz _ _ _ hsl (by omega)
  have hsv := hz _ _ _ hsv (by omega)
  refine v_sipush (nI 276) dX3_init_41 (by decide) ?_
  refine v_newLX 950 276 dX3_init_44 gClL (by decide) (by decide) (by omega) (by show m.1 + 1 + 1 + 1 + 1 + 1 + 1 ≤ 50000; omega) (by show m.2 + 144 + 2 + 60 + 2 + 6 + 276 ≤ 400000; omega) (fun la f1 hp => ?_)
  have hf0 := hf0.trans (zFr.new (T := zTN) zFr.refl hp)
  have ho := hp.2.2 _ _ ho
  have hsc := hp.2.2 _ _ hsc
  have htp := htp.fr (zFr.new (T := fun _ => False) zFr.refl hp) id id
  have hsl := hp.2.2 _ _ hsl
  have hsv := hp.2.2 _ _ hsv
  have hla := hp.1
  refine v_astore_n dX3_init_47 rfl (by decide) ?_
  refine v_aload_n dX3_init_48 rfl rfl ?_
  refine v_newX 0 nX3_20 dX3_init_49 (by show m.1 + 1 + 1 + 1 + 1 + 1 + 1 + 1 ≤ 50000; omega) (by show m.2 + 144 + 2 + 60 + 2 + 6 + 276 + 19 ≤ 400000; omega) (fun r f1 hp => ?_)
  have hf0 := hf0.trans (zFr.new (T := zTN) zFr.refl hp)
  have ho := hp.2.2 _ _ ho
  have hsc := hp.2.2 _ _ hsc
  have htp := htp.fr (zFr.new (T := fun _ => False) zFr.refl hp) id id
  have hsl := hp.2.2 _ _ hsl
  have hsv := hp.2.2 _ _ hsv
  have hla := hp.2.2 _ _ hla
  have hr0 := hp.1
  refine v_dup dX3_init_52 rfl ?_
  refine v_aload_n dX3_init_53 rfl rfl ?_
  refine v_callI0 kX3_31 gi_X1_init rfl dX3_init_54 (c_Ring_init hr0 (by show m.1 + 1 + 1 + 1 + 1 + 1 + 1 + 1 + 10 ≤ 50000; omega) (by show m.2 + 144 + 2 + 60 + 2 + 6 + 276 + 19 + 1320 ≤ 400000; omega)) rfl rfl (by decide) (Nat.le_of_ble_eq_true rfl) (fun f1 m1 hc => ?_)
  obtain ⟨⟨A0, hr⟩, hz, rfl⟩ := hc
  have hf0 := hf0.trans (hz.weaken (T' := zTN) (fun τ h => Or.inl (by have := h.2; omega)))
  have hsc := hz _ _ _ hsc (fun h => by have := h.1; have := h.2; omega)
  have htp := htp.fr hz (fun h => by have := h.1; have := h.2; omega) (fun h => by have := h.1; have := h.2; omega)
  have hsl := hz _ _ _ hsl (fun h => by have := h.1; have := h.2; omega)
  have hsv := hz _ _ _ hsv (fun h => by have := h.1; have := h.2; omega)
  have hla := hz _ _ _ hla (fun h => by have := h.1; have := h.2; omega)
  have ho := hz _ _ _ ho (fun h => by have := h.1; have := h.2; omega)
  refine v_putfieldFX fX3_34 rfl rfl dX3_init_57 ho rfl rfl (Nat.le_of_ble_eq_true rfl) (fun f1 hp => ?_)
  have hz : zFr (fun τ => τ = 600) _ f1 := zFr.put (T := fun τ => τ = 600) zFr.refl hp rfl
  have hf0 := hf0.trans (hz.weaken (T' := zTN) (fun τ h => Or.inr (by omega)))
  have ho := hp.1
  have hsc := hz _ _ _ hsc (by omega)
  have htp := htp.fr hz (by omega) (by omega)
  have hsl := hz _ _ _ hsl (by omega)
  have hsv := hz _ _ _ hsv (by omega)
  have hla := hz _ _ _ hla (by omega)
  have hr := hr.fr hz (fun k hk h => by omega)
  refine v_aload_n dX3_init_60 rfl rfl ?_
  refine v_newX 20 nX3_20 dX3_init_61 (by show m.1 + 1 + 1 + 1 + 1 + 1 + 1 + 1 + 10 + 1 ≤ 50000; omega) (by show m.2 + 144 + 2 + 60 + 2 + 6 + 276 + 19 + 1320 + 19 ≤ 400000; omega) (fun tr f1 hp => ?_)
  have hf0 := hf0.trans (zFr.new (T := zTN) zFr.refl hp)
  have ho := hp.2.2 _ _ ho
  have hsc := hp.2.2 _ _ hsc
  have htp := htp.fr (zFr.new (T := fun _ => False) zFr.refl hp) id id
  have hsl := hp.2.2 _ _ hsl
  have hsv := hp.2.2 _ _ hsv
  have hla := hp.2.2 _ _ hla
  have hr := hr.fr (zFr.new (T := fun _ => False) zFr.refl hp) (fun k hk h => h)
  have hr20 := hp.1
  refine v_dup dX3_init_64 rfl ?_
  refine v_aload_n dX3_init_65 rfl rfl ?_
  refine v_callI0 kX3_31 gi_X1_init rfl dX3_init_66 (c_Ring_init hr20 (by show m.1 + 1 + 1 + 1 + 1 + 1 + 1 + 1 + 10 + 1 + 10 ≤ 50000; omega) (by show m.2 + 144 + 2 + 60 + 2 + 6 + 276 + 19 + 1320 + 19 + 1320 ≤ 400000; omega)) rfl rfl (by decide) (Nat.le_of_ble_eq_true rfl) (fun f1 m1 hc => ?_)
  obtain ⟨⟨A20, hr2⟩, hz, rfl⟩ := hc
  have hf0 := hf0.trans (hz.weaken (T' := zTN) (fun τ h => Or.inl (by have := h.2; omega)))
  have hsc := hz _ _ _ hsc (fun h => by have := h.1; have := h.2; omega)
  have htp := htp.fr hz (fun h => by have := h.1; have := h.2; omega) (fun h => by have := h.1; have := h.2; omega)
  have hsl := hz _ _ _ hsl (fun h => by have := h.1; have := h.2; omega)
  have hsv := hz _ _ _ hsv (fun h => by have := h.1; have := h.2; omega)
  have hla := hz _ _ _ hla (fun h => by have := h.1; have := h.2; omega)
  have hr := hr.fr hz (fun k hk h => by have := h.1; have := h.2; omega)
  have ho := hz _ _ _ ho (fun h => by have := h.1; have := h.2; omega)
  refine v_putfieldFX fX3_38 rfl rfl dX3_init_69 ho rfl rfl (Nat.le_of_ble_eq_true rfl) (fun f1 hp => ?_)
  have hz : zFr (fun τ => τ = 600) _ f1 := zFr.put (T := fun τ => τ = 600) zFr.refl hp rfl
  have hf0 := hf0.trans (hz.weaken (T' := zTN) (fun τ h => Or.inr (by omega)))
  have ho := hp.1
  have hsc := hz _ _ _ hsc (by omega)
  have htp := htp.fr hz (by omega) (by omega)
  have hsl := hz _ _ _ hsl (by omega)
  have hsv := hz _ _ _ hsv (by omega)
  have hla := hz _ _ _ hla (by omega)
  have hr := hr.fr hz (fun k hk h => by omega)
  have hr2 := hr2.fr hz (fun k hk h => by omega)
  exact v_return dX3_init_72 rfl ⟨rfl, r, tr, sc, tx, sl, sv, la, A0, A20, co, ho, hr, hr2, hsc, htp, hsl, hsv, hla, hf0, rfl⟩
