abbrev zST : Type := zRS × Nat × (Nat → Int32) × (Nat → Int32)
/-- a ring of any state -/
def RAny (f : zHM) (t q la : Nat) : Prop := ∃ A ρ n xs tm, RPic f t q la A ρ n xs tm
def RSt (f : zHM) (t q la : Nat) (S : zST) : Prop := ∃ A, RPic f t q la A S.1 S.2.1 S.2.2.1 S.2.2.2
theorem RAny.fr {T : Nat → Prop} {f f' : zHM} {t q la : Nat} (h : zFr T f f') (hr : RAny f t q la) (ht : ∀ k, k ≤ 10 → ¬ T (t + k)) : RAny f' t q la := by
  obtain ⟨A, ρ, n, xs, tm, h1⟩ := hr
  exact ⟨A, ρ, n, xs, tm, h1.fr h ht⟩
theorem RSt.fr {T : Nat → Prop} {f f' : zHM} {t q la : Nat} {S : zST} (h : zFr T f f') (hr : RSt f t q la S) (ht : ∀ k, k ≤ 10 → ¬ T (t + k)) : RSt f' t q la S := by
  obtain ⟨A, h1⟩ := hr
  exact ⟨A, h1.fr h ht⟩
theorem RSt.any {f : zHM} {t q la : Nat} {S : zST} (hr : RSt f t q la S) : RAny f t q la := by
  obtain ⟨A, h1⟩ := hr
  exact ⟨A, _, _, _, _, h1⟩
def zrow (gs : Nat → Option Nat) (len : Nat) : (Nat × vp_A) ⊕ (Nat × List Value) := .inl (5, len, .inr (.inr (.inr (.inr gs))))
abbrev zTC (tgr tq : Nat) : Nat → Prop := fun τ => τ = tgr ∨ (tq ≤ τ ∧ τ ≤ tq + 10)
def zmk (m : Nat × Nat) (x : Option Nat) : Nat × Nat := match x with
  | some _ => m
  | none => (m.1 + 11, m.2 + 1339)
set_option maxRecDepth 10000 in
set_option maxHeartbeats 1000000 in
theorem c_copyTo {G : zW} {f : zHM} {m : Nat × Nat} {o r tr sc tx sl sv k la n : Nat} {A : Nat → Nat} {ρ : zRS} {xs tm : Nat → Int32} (ho : f o = some (600, .inr (3, zOb r tr sc tx sl sv k))) (hr : RPic f 0 r la A ρ n xs tm) (hn201 : n ≤ 201) {ra tgr len i tq : Nat} {gs : Nat → Option Nat} (hra : f ra = some (tgr, zrow gs len)) (hi : i < len) (hlen : len ≤ 6) (htg : 602 ≤ tgr ∧ tgr ≤ 940) (htq : 11 ≤ tq ∧ tq ≤ 580) (hany : ∀ q, gs i = some q → RAny f tq q la) (hnew : gs i = none → m.1 + 11 ≤ 50000 ∧ m.2 + 1339 ≤ 400000) : zM G yX3_copyTo cX3_copyTo 4 none 3 [.ref o, .ref ra, .int (nI i)] (f, m) (zD none (fun f' m' => ∃ q, f' ra = some (tgr, zrow (va_up gs i (some q)) len) ∧ RSt f' tq q la (ρ, n, xs, tm) ∧ zFr (zTC tgr tq) f f' ∧ m' = zmk m (gs i))) := by
  refine zM.of (by decide) (Nat.le_of_ble_eq_true rfl) ?_
  have r0 := hr.1
  refine v_aload_n dX3_copyTo_0 rfl rfl ?_
  refine v_iload_n dX3_copyTo_1 rfl rfl ?_
  refine v_aaloadR dX3_copyTo_2 hra (vp_in_nI hi (by omega)) ?_
  rw [nI_clamp (by omega)]
  cases hgi : gs i with
  | some q =>
    obtain ⟨A', ρ', n', xs', tm', hq⟩ := hany q hgi
    have q0 := hq.1
    refine v_astore_n dX3_copyTo_3 rfl (by decide) ?_
    refine v_aload_n dX3_copyTo_4 rfl rfl ?_
    refine v_ifnonnull 27 dX3_copyTo_5 (by decide) ?_
    refine v_aload_n dX3_copyTo_27 rfl rfl ?_
    refine v_aload_n dX3_copyTo_28 rfl rfl ?_
    refine v_getfield fX3_34 dX3_copyTo_29 (by assumption) (by rfl) ?_
    refine v_callV0 kX3_183 gi_X1_copyFrom ge_X1_copyFrom rfl dX3_copyTo_32 q0 (c_copyFrom hq hr (Or.inl (by omega)) hn201) rfl rfl (by decide) (Nat.le_of_ble_eq_true rfl) (fun f9 m9 hc => ?_)
    obtain ⟨hq9, hf9, rfl⟩ := hc
    refine v_return dX3_copyTo_35 rfl ⟨rfl, q, ?_, ⟨_, hq9⟩, hf9.weaken (fun _ h => Or.inr h), rfl⟩
    have e : va_up gs i (some q) = gs := by
      funext j
      by_cases h : j = i
      · subst h; rw [hgi]; exact if_pos rfl
      · exact if_neg h
    rw [e]
    exact hf9 _ _ _ hra (fun h => by have := h.1; have := h.2; omega)
  | none =>
    obtain ⟨hm1, hm2⟩ := hnew hgi
    refine v_astore_nN dX3_copyTo_3 rfl (by decide) ?_
    refine v_aload_nN dX3_copyTo_4 rfl rfl ?_
    refine v_ifnonnullN dX3_copyTo_5 ?_
    refine v_newX tq nX3_20 dX3_copyTo_8 (by omega) (by omega) (fun q f1 hp => ?_)
    have ho := hp.2.2 _ _ ho
    have hra := hp.2.2 _ _ hra
    have hf1 : zFr (zTC tgr tq) f f1 := zFr.new zFr.refl hp
    have hr := hr.fr hf1 (fun k hk h => by rcases h with h | h <;> omega)
    have r0 := hr.1
    have q0 := hp.1
    refine v_dup dX3_copyTo_11 rfl ?_
    refine v_aload_n dX3_copyTo_12 rfl rfl ?_
    refine v_getfield fX3_34 dX3_copyTo_13 (by assumption) (by rfl) ?_
    refine v_getfield fX3_333 dX3_copyTo_16 (by assumption) (by rfl) ?_
    refine v_callI0 kX3_31 gi_X1_init rfl dX3_copyTo_19 (c_Ring_init q0 (by show m.1 + 1 + 10 ≤ 50000; omega) (by show m.2 + 19 + 1320 ≤ 400000; omega)) rfl rfl (by decide) (Nat.le_of_ble_eq_true rfl) (fun f2 m2 hc => ?_)
    obtain ⟨⟨A2, hq⟩, hf2, rfl⟩ := hc
    have hf2b : ∀ a t c, f1 a = some (t, c) → t = tgr → f2 a = some (t, c) := fun a t c h e => hf2 a t c h (fun h => by have := h.1; have := h.2; omega)
    have hf2 : zFr (zTC tgr tq) f1 f2 := hf2.weaken (fun _ h => Or.inr h)
    have ho := hf2 _ _ _ ho (fun h => by rcases h with h | h <;> omega)
    have hr := hr.fr hf2 (fun k hk h => by rcases h with h | h <;> omega)
    refine v_astore_n dX3_copyTo_22 rfl (by decide) ?_
    refine v_aload_n dX3_copyTo_23 rfl rfl ?_
    refine v_iload_n dX3_copyTo_24 rfl rfl ?_
    refine v_aload_n dX3_copyTo_25 rfl rfl ?_
    have hra2 : f2 ra = some (tgr, zrow gs len) := hf2b _ _ _ hra rfl
    have q0 := hq.1
    refine v_aastoreRX dX3_copyTo_26 hra2 q0 (vp_in_nI hi (by omega)) (fun f3 hp3 => ?_)
    rw [nI_clamp (by omega)] at hp3
    have hf3 : zFr (zTC tgr tq) f2 f3 := zFr.refl.put hp3 (Or.inl rfl)
    have hf3b : zFr (fun τ => τ = tgr) f2 f3 := zFr.refl.put hp3 rfl
    have ho := hf3 _ _ _ ho (fun h => by rcases h with h | h <;> omega)
    have hr := hr.fr hf3 (fun k hk h => by rcases h with h | h <;> omega)
    have hq := hq.fr hf3b (fun k hk h => by omega)
    have r0 := hr.1
    have q0 := hq.1
    refine v_aload_n dX3_copyTo_27 rfl rfl ?_
    refine v_aload_n dX3_copyTo_28 rfl rfl ?_
    refine v_getfield fX3_34 dX3_copyTo_29 (by assumption) (by rfl) ?_
    refine v_callV0 kX3_183 gi_X1_copyFrom ge_X1_copyFrom rfl dX3_copyTo_32 q0 (c_copyFrom hq hr (Or.inl (by omega)) hn201) rfl rfl (by decide) (Nat.le_of_ble_eq_true rfl) (fun f9 m9 hc => ?_)
    obtain ⟨hq9, hf9, rfl⟩ := hc
    refine v_return dX3_copyTo_35 rfl ⟨rfl, q, hf9 _ _ _ hp3.1 (fun h => by have := h.1; have := h.2; omega), ⟨_, hq9⟩, ((hf1.trans hf2).trans hf3).trans (hf9.weaken (fun _ h => Or.inr h)), ?_⟩
    show (m.1 + 1 + 10, m.2 + 19 + 1320) = (m.1 + 11, m.2 + 1339)
    rfl
