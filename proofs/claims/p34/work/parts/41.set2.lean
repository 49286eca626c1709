/-- the slots -/
def SLP (f : zHM) (sl la : Nat) (gs : Nat → Option Nat) (ss : Nat → Option zST) : Prop :=
  f sl = some (604, zrow gs 2) ∧ ∀ j, j < 2 → (gs j = none ∧ ss j = none) ∨ ∃ q S, gs j = some q ∧ ss j = some S ∧ RSt f (40 + 20 * j) q la S
theorem SLP.fr {T : Nat → Prop} {f f' : zHM} {sl la : Nat} {gs : Nat → Option Nat} {ss : Nat → Option zST} (h : zFr T f f') (hs : SLP f sl la gs ss) (ht : ∀ τ, τ = 604 ∨ (40 ≤ τ ∧ τ ≤ 70) → ¬ T τ) : SLP f' sl la gs ss := by
  refine ⟨h _ _ _ hs.1 (ht _ (Or.inl rfl)), fun j hj => ?_⟩
  rcases hs.2 j hj with e | ⟨q, S, e1, e2, e3⟩
  · exact Or.inl e
  · exact Or.inr ⟨q, S, e1, e2, e3.fr h (fun i hi => ht _ (Or.inr ⟨by omega, by omega⟩))⟩
abbrev zTK : Nat → Prop := fun τ => τ = 604 ∨ (40 ≤ τ ∧ τ ≤ 70)
def sNailsS (ρ : zRS) (x : Int32) : zRS := zset ρ 0 (fun i => if i = 0 then x else if i = 1 then 0 else ρ 0 i)
theorem sStepOf_div {x : Int32} (h : ¬ sStepOf x = -1) : sStepOf x = 24 / x := by
  unfold sStepOf at h ⊢
  by_cases h4 : x = 4
  · subst h4; rfl
  by_cases h6 : x = 6
  · subst h6; rfl
  by_cases h8 : x = 8
  · subst h8; rfl
  by_cases h12 : x = 12
  · subst h12; rfl
  by_cases h24 : x = 24
  · subst h24; rfl
  rw [if_neg h4, if_neg h6, if_neg h8, if_neg h12, if_neg h24] at h
  exact absurd rfl h
set_option maxRecDepth 10000 in
set_option maxHeartbeats 1000000 in
theorem c_keep {G : zW} {f : zHM} {m : Nat × Nat} {o r tr sc tx sl sv k la n : Nat} {A : Nat → Nat} {ρ : zRS} {xs tm : Nat → Int32} (ho : f o = some (600, .inr (3, zOb r tr sc tx sl sv k))) (hr : RPic f 0 r la A ρ n xs tm) (hn201 : n ≤ 201) {M : Nat × Nat} (hL : LNok f m la M) {gs : Nat → Option Nat} {ss : Nat → Option zST} (hk : SLP f sl la gs ss) (hB : M.1 + 11 * zcn gs 2 ≤ 50000 ∧ M.2 + 1339 * zcn gs 2 ≤ 399990) {i : Nat} (hi : i < 2) : zM G yX3_keep cX3_keep 2 (some .int) 7 [.ref o, .int (nI i)] (f, m) (zD (some (.int (nI n))) (fun f' m' => ∃ gs' M', SLP f' sl la gs' (fun j => if j = i then some (ρ, n, xs, tm) else ss j) ∧ LNok f' m' la M' ∧ M'.1 + 11 * zcn gs' 2 = M.1 + 11 * zcn gs 2 ∧ M'.2 + 1339 * zcn gs' 2 = M.2 + 1339 * zcn gs 2 ∧ zFr zTK f f')) := by
  refine zM.of (by decide) (Nat.le_of_ble_eq_true rfl) ?_
  have r0 := hr.1
  have hany : ∀ q, gs i = some q → RAny f (40 + 20 * i) q la := fun q hq => by
    rcases hk.2 i hi with e | ⟨q', S, e1, e2, e3⟩
    · rw [e.1] at hq; cases hq
    · rw [e1] at hq; cases hq; exact e3.any
  have hnw : gs i = none → m.1 + 11 ≤ 50000 ∧ m.2 + 1339 ≤ 400000 := fun h => by
    have h1 := zcn_pos h 2 hi
    obtain ⟨_, _, _, _, _, h3, h4⟩ := hL
    omega
  refine v_iload_n dX3_keep_0 rfl rfl ?_
  refine v_iconst (0) dX3_keep_1 (by decide) ?_
  refine v_iconst (1) dX3_keep_2 (by decide) ?_
  refine v_callS0p kX3_72 gs_X3_needRange dX3_keep_3 (c_needRange (nI_pos (by omega)) (show nI i ≤ nI 1 from by rw [nI_leI (by omega) (by omega)]; omega)) rfl rfl (by decide) (Nat.le_of_ble_eq_true rfl) ?_
  refine v_aload_n dX3_keep_6 rfl rfl ?_
  refine v_aload_n dX3_keep_7 rfl rfl ?_
  refine v_getfield fX3_22 dX3_keep_8 (by assumption) (by rfl) ?_
  refine v_iload_n dX3_keep_11 rfl rfl ?_
  refine v_callV0 kX3_177 gi_X3_copyTo ge_X3_copyTo rfl dX3_keep_12 (by assumption) (c_copyTo ho hr hn201 hk.1 hi (by omega) ⟨by omega, by omega⟩ (tq := 40 + 20 * i) ⟨by omega, by omega⟩ hany hnw) rfl rfl (by decide) (Nat.le_of_ble_eq_true rfl) (fun f2 m2 hc => ?_)
  obtain ⟨q, c1, c2, c3, hm2⟩ := hc
  have hf2 : zFr zTK f f2 := c3.weaken (fun τ h => h.elim Or.inl (fun h => Or.inr ⟨by omega, by omega⟩))
  have ho2 := c3 _ _ _ ho (fun h => by rcases h with h | h <;> omega)
  have hr2 := hr.fr hf2 (fun k hk h => by rcases h with h | h <;> omega)
  have r02 := hr2.1
  refine v_aload_n dX3_keep_15 rfl rfl ?_
  refine v_getfield fX3_34 dX3_keep_16 ho2 (by rfl) ?_
  refine v_getfield fX3_110 dX3_keep_19 r02 (by rfl) ?_
  refine v_ireturn dX3_keep_22 rfl ⟨rfl, va_up gs i (some q), ?_⟩
  have hs' : SLP f2 sl la (va_up gs i (some q)) (fun j => if j = i then some (ρ, n, xs, tm) else ss j) := by
    refine ⟨c1, fun j hj => ?_⟩
    by_cases e : j = i
    · exact Or.inr ⟨q, _, if_pos e, if_pos e, by rw [e]; exact c2⟩
    · have e1 : va_up gs i (some q) j = gs j := if_neg e
      rw [e1]
      show (gs j = none ∧ (if j = i then some (ρ, n, xs, tm) else ss j) = none) ∨ ∃ q S, gs j = some q ∧ (if j = i then some (ρ, n, xs, tm) else ss j) = some S ∧ RSt f2 (40 + 20 * j) q la S
      rw [if_neg e]
      rcases hk.2 j hj with e2 | ⟨q', S, e2, e3, e4⟩
      · exact Or.inl e2
      · exact Or.inr ⟨q', S, e2, e3, e4.fr c3 (fun x hx h => by rcases h with h | h <;> omega)⟩
  have hLf : LNok f2 m la M := hL.fr hf2 (fun t ht h => by rcases h with h | h <;> omega)
  cases hg : gs i with
  | some q0 =>
    have e : zcn (va_up gs i (some q)) 2 = zcn gs 2 := zcn_same hg 2
    rw [hg] at hm2
    have hm2 : m2 = m := hm2
    subst hm2
    exact ⟨M, hs', hLf, by rw [e], by rw [e], hf2⟩
  | none =>
    have e := zcn_up (q := q) hg 2 hi
    rw [hg] at hm2
    have hm2 : m2 = (m.1 + 11, m.2 + 1339) := hm2
    subst hm2
    refine ⟨(M.1 + 11, M.2 + 1339), hs', hLf.more 11 1339 (by omega) (by omega), ?_, ?_, hf2⟩
    · show M.1 + 11 + 11 * zcn (va_up gs i (some q)) 2 = M.1 + 11 * zcn gs 2
      omega
    · show M.2 + 1339 + 1339 * zcn (va_up gs i (some q)) 2 = M.2 + 1339 * zcn gs 2
      omega
set_option maxRecDepth 10000 in
set_option maxHeartbeats 1000000 in
theorem c_goBack {G : zW} {f : zHM} {m : Nat × Nat} {o r tr sc tx sl sv k la n : Nat} {A : Nat → Nat} {ρ : zRS} {xs tm : Nat → Int32} (ho : f o = some (600, .inr (3, zOb r tr sc tx sl sv k))) (hr : RPic f 0 r la A ρ n xs tm) (hn201 : n ≤ 201) {M : Nat × Nat} (hL : LNok f m la M) {gv : Nat → Option Nat} {π : Nat → Nat} {st : Nat → zST} (hs : SVP f sv la gv π k st) (hB : M.1 + 11 * zcn gv 6 ≤ 50000 ∧ M.2 + 1339 * zcn gv 6 ≤ 399990) {gs : Nat → Option Nat} {ss : Nat → Option zST} (hk0 : SLP f sl la gs ss) {i q : Nat} {S : zST} (hi : i < 2) (hgs : gs i = some q) (hS : RSt f (40 + 20 * i) q la S) (hS201 : S.2.1 ≤ 201) : zM G yX3_goBack cX3_goBack 3 (some .int) 7 [.ref o, .int (nI i)] (f, m) (zD (some (.int (nI S.2.1))) (ZP f o r tr sc tx sl sv k la A gv st M (ρ, n, xs, tm) (S))) := by
  refine zM.of (by decide) (Nat.le_of_ble_eq_true rfl) ?_
  have r0 := hr.1
  refine v_iload_n dX3_goBack_0 rfl rfl ?_
  refine v_iconst (0) dX3_goBack_1 (by decide) ?_
  refine v_iconst (1) dX3_goBack_2 (by decide) ?_
  refine v_callS0p kX3_72 gs_X3_needRange dX3_goBack_3 (c_needRange (nI_pos (by omega)) (show nI i ≤ nI 1 from by rw [nI_leI (by omega) (by omega)]; omega)) rfl rfl (by decide) (Nat.le_of_ble_eq_true rfl) ?_
  refine v_aload_n dX3_goBack_6 rfl rfl ?_
  refine v_getfield fX3_22 dX3_goBack_7 (by assumption) (by rfl) ?_
  refine v_iload_n dX3_goBack_10 rfl rfl ?_
  refine v_aaloadR dX3_goBack_11 hk0.1 (vp_in_nI hi (by omega)) ?_
  rw [nI_clamp (by omega), hgs]
  refine v_astore_n dX3_goBack_12 rfl (by decide) ?_
  refine v_aload_n dX3_goBack_13 rfl rfl ?_
  refine v_ifnonnull 27 dX3_goBack_14 (by decide) ?_
  refine v_aload_n dX3_goBack_27 rfl rfl ?_
  refine v_callV0 kX3_52 gi_X3_save ge_X3_save rfl dX3_goBack_28 (by assumption) (c_save ho hr hn201 hL hs hB) rfl rfl (by decide) (Nat.le_of_ble_eq_true rfl) (fun f1 m1 hc => ?_)
  obtain ⟨gv1, π1, M1, hs1, hL1, hB1, hB2, ho1, hf1⟩ := hc
  have hr1 := hr.fr hf1 (fun k hk h => by rcases h with h | h | h <;> omega)
  obtain ⟨r0, ⟨g1, a1, e1⟩, ⟨g2, a2, e2⟩, ⟨g3, a3, e3⟩, ⟨g4, a4, e4⟩, ⟨g5, a5, e5⟩, ⟨g6, a6, e6⟩, ⟨g7, a7, e7⟩, ⟨g8, a8, e8⟩, ⟨g9, a9, e9⟩, ⟨g10, a10, e10⟩⟩ := id hr1
  obtain ⟨A2, hq⟩ := hS.fr hf1 (fun k hk h => by rcases h with h | h | h <;> omega)
  have q0 := hq.1
  refine v_aload_n dX3_goBack_31 rfl rfl ?_
  refine v_getfield fX3_34 dX3_goBack_32 (by assumption) (by rfl) ?_
  refine v_aload_n dX3_goBack_35 rfl rfl ?_
  refine v_callV0 kX3_183 gi_X1_copyFrom ge_X1_copyFrom rfl dX3_goBack_36 r0 (c_copyFrom hr1 hq (Or.inr (by omega)) hS201) rfl rfl (by decide) (Nat.le_of_ble_eq_true rfl) (fun f9 m9 hc => ?_)
  obtain ⟨hr9, hf9, rfl⟩ := hc
  have ho9 := hf9 _ _ _ ho1 (fun h => by have := h.1; have := h.2; omega)
  have r09 := hr9.1
  refine v_aload_n dX3_goBack_39 rfl rfl ?_
  refine v_getfield fX3_34 dX3_goBack_40 ho9 (by rfl) ?_
  refine v_getfield fX3_110 dX3_goBack_43 r09 (by rfl) ?_
  exact v_ireturn dX3_goBack_46 rfl ⟨rfl, ZP.of hs1 (hL1.fr hf9 (fun t ht h => by have := h.2; omega)) hB1 hB2 ho1 hf1 (hf9.weaken (fun τ h => Or.inr h)) hr9⟩
set_option maxRecDepth 10000 in
set_option maxHeartbeats 1000000 in
theorem c_undo {G : zW} {f : zHM} {m : Nat × Nat} {o r tr sc tx sl sv k la n : Nat} {A : Nat → Nat} {ρ : zRS} {xs tm : Nat → Int32} (ho : f o = some (600, .inr (3, zOb r tr sc tx sl sv k))) (hr : RPic f 0 r la A ρ n xs tm) {M : Nat × Nat} (hL : LNok f m la M) {gv : Nat → Option Nat} {π : Nat → Nat} {st : Nat → zST} (hs : SVP f sv la gv π k st) (hk1 : 1 ≤ k) (hS201 : (st (k - 1)).2.1 ≤ 201) : zM G yX3_undo cX3_undo 2 (some .int) 7 [.ref o] (f, m) (zD (some (.int (nI (k - 1)))) (fun f' m' => SVP f' sv la gv π (k - 1) st ∧ LNok f' m' la M ∧ f' o = some (600, .inr (3, zOb r tr sc tx sl sv (k - 1))) ∧ RPic f' 0 r la A (st (k - 1)).1 (st (k - 1)).2.1 (st (k - 1)).2.2.1 (st (k - 1)).2.2.2 ∧ zFr (fun τ => τ ≤ 10 ∨ τ = 600) f f')) := by
  refine zM.of (by decide) (Nat.le_of_ble_eq_true rfl) ?_
  have r0 := hr.1
  obtain ⟨hs0, hs1, hs2, hs3, hs4, hs5⟩ := id hs
  obtain ⟨q, hq1, A2, hq⟩ := hs4 (k - 1) (by omega)
  have hp6 := hs2 (k - 1) (by omega)
  refine v_aload_n dX3_undo_0 rfl rfl ?_
  refine v_getfield fX3_187 dX3_undo_1 (by assumption) (by rfl) ?_
  refine v_if_le 21 dX3_undo_4 (by decide) (fun b4 => ?_) (fun b4 => ?_)
  · exact absurd b4 (fun h => by rw [show (0 : Int32) = nI 0 from rfl, nI_leI (by omega) (by omega)] at h; omega)
  · refine v_aload_n dX3_undo_7 rfl rfl ?_
    refine v_getfield fX3_26 dX3_undo_8 (by assumption) (by rfl) ?_
    refine v_aload_n dX3_undo_11 rfl rfl ?_
    refine v_getfield fX3_187 dX3_undo_12 (by assumption) (by rfl) ?_
    refine v_iconst (nI 1) dX3_undo_15 (by decide) ?_
    refine v_isub dX3_undo_16 ?_
    rw [pk_sub (by omega)]
    refine v_aaloadR dX3_undo_17 hs1 (vp_in_nI (by omega) (by omega)) ?_
    rw [nI_clamp (by omega), hq1]
    refine v_goto 22 dX3_undo_18 (by decide) ?_
    refine v_astore_n dX3_undo_22 rfl (by decide) ?_
    refine v_aload_n dX3_undo_23 rfl rfl ?_
    refine v_ifnonnull 37 dX3_undo_24 (by decide) ?_
    refine v_aload_n dX3_undo_37 rfl rfl ?_
    refine v_getfield fX3_34 dX3_undo_38 (by assumption) (by rfl) ?_
    refine v_aload_n dX3_undo_41 rfl rfl ?_
    refine v_callV0 kX3_183 gi_X1_copyFrom ge_X1_copyFrom rfl dX3_undo_42 r0 (c_copyFrom hr hq (Or.inr (by omega)) hS201) rfl rfl (by decide) (Nat.le_of_ble_eq_true rfl) (fun f2 m2 hc => ?_)
    obtain ⟨hr2, hf2, rfl⟩ := hc
    have ho2 := hf2 _ _ _ ho (fun h => by have := h.1; have := h.2; omega)
    refine v_aload_n dX3_undo_45 rfl rfl ?_
    refine v_dup dX3_undo_46 rfl ?_
    refine v_getfield fX3_187 dX3_undo_47 ho2 (by rfl) ?_
    refine v_iconst (nI 1) dX3_undo_50 (by decide) ?_
    refine v_isub dX3_undo_51 ?_
    rw [pk_sub (by omega)]
    refine v_putfieldX fX3_187 dX3_undo_52 ho2 rfl rfl (Nat.le_of_ble_eq_true rfl) (fun f3 hp => ?_)
    have ho3 := hp.1
    refine v_aload_n dX3_undo_55 rfl rfl ?_
    refine v_getfield fX3_187 dX3_undo_56 ho3 (by rfl) ?_
    have hf3 : zFr (fun τ => τ = 600) f2 f3 := zFr.refl.put hp rfl
    have hf23 : zFr (fun τ => τ ≤ 10 ∨ τ = 600) f f3 := (hf2.weaken (fun τ h => Or.inl (by have := h.2; omega))).trans (hf3.weaken (fun τ h => Or.inr h))
    have hs' := SVP.fr hf23 hs (fun τ h h9 => by omega)
    obtain ⟨w0, w1, w2, w3, w4, w5⟩ := hs'
    exact v_ireturn dX3_undo_59 rfl ⟨rfl, ⟨by omega, w1, w2, w3, fun j hj => w4 j (by omega), w5⟩, (hL.fr hf23 (fun t ht h => by omega)), ho3, hr2.fr hf3 (fun k hk h => by omega), hf23⟩
set_option maxRecDepth 10000 in
set_option maxHeartbeats 1000000 in
theorem c_unwind {G : zW} {f : zHM} {m : Nat × Nat} {o r tr sc tx sl sv k la n : Nat} {A : Nat → Nat} {ρ : zRS} {xs tm : Nat → Int32} (ho : f o = some (600, .inr (3, zOb r tr sc tx sl sv k))) (hr : RPic f 0 r la A ρ (n + 1) xs tm) (hn201 : n + 1 ≤ 201) {M : Nat × Nat} (hL : LNok f m la M) {gv : Nat → Option Nat} {π : Nat → Nat} {st : Nat → zST} (hs : SVP f sv la gv π k st) (hB : M.1 + 11 * zcn gv 6 ≤ 50000 ∧ M.2 + 1339 * zcn gv 6 ≤ 399990) {N s : Nat} (hw : RW ρ N s (n + 1)) {a b u : Nat} (ha : a < N) (hb : b < N) (hab : a ≠ b) (hu : u < 3) (q4 : ρ 4 n = nI a) (q5 : ρ 5 n = nI b) (q6 : ρ 6 n = nI u) : zM G yX3_unwind cX3_unwind 1 (some .int) 7 [.ref o] (f, m) (zD (some (.int (nI a))) (ZP f o r tr sc tx sl sv k la A gv st M (ρ, n + 1, xs, tm) (sOff ρ s a b u, n, sInL (sPa s a b) (-1) xs, sPutT tm (sPr (a * s) (b * s)) (-1)))) := by
  refine zM.of (by decide) (Nat.le_of_ble_eq_true rfl) ?_
  have r0 := hr.1
  refine v_aload_n dX3_unwind_0 rfl rfl ?_
  refine v_getfield fX3_34 dX3_unwind_1 (by assumption) (by rfl) ?_
  refine v_getfield fX3_110 dX3_unwind_4 (by assumption) (by rfl) ?_
  refine v_if_ne 20 dX3_unwind_7 (by decide) (fun b7 => ?_) (fun b7 => ?_)
  · refine v_aload_n dX3_unwind_20 rfl rfl ?_
    refine v_callV0 kX3_52 gi_X3_save ge_X3_save rfl dX3_unwind_21 (by assumption) (c_save ho hr hn201 hL hs hB) rfl rfl (by decide) (Nat.le_of_ble_eq_true rfl) (fun f1 m1 hc => ?_)
    obtain ⟨gv1, π1, M1, hs1, hL1, hB1, hB2, ho1, hf1⟩ := hc
    have hr1 := hr.fr hf1 (fun k hk h => by rcases h with h | h | h <;> omega)
    obtain ⟨r0, ⟨g1, a1, e1⟩, ⟨g2, a2, e2⟩, ⟨g3, a3, e3⟩, ⟨g4, a4, e4⟩, ⟨g5, a5, e5⟩, ⟨g6, a6, e6⟩, ⟨g7, a7, e7⟩, ⟨g8, a8, e8⟩, ⟨g9, a9, e9⟩, ⟨g10, a10, e10⟩⟩ := id hr1
    refine v_aload_n dX3_unwind_24 rfl rfl ?_
    refine v_getfield fX3_34 dX3_unwind_25 (by assumption) (by rfl) ?_
    refine v_callV0 kX3_129 gi_X1_takeOff ge_X1_takeOff rfl dX3_unwind_28 r0 (c_takeOff hr1 (by omega) (by omega) hw.1 hL1 ha hb hab hu q4 q5 q6) rfl rfl (by decide) (Nat.le_of_ble_eq_true rfl) (fun f2 m2 hc => ?_)
    obtain ⟨hr2, hL2, hf2⟩ := hc
    have hv1 : sOff ρ s a b u 0 1 = nI a := rfl
    generalize sOff ρ s a b u = ρ2 at hr2 hv1 ⊢
    generalize sInL (sPa s a b) (-1) xs = xs2 at hr2 ⊢
    generalize sPutT tm (sPr (a * s) (b * s)) (-1) = tm2 at hr2 ⊢
    have ho2 := hf2 _ _ _ ho1 (fun h => by rcases h with h | h <;> omega)
    have r02 := hr2.1
    refine v_aload_n dX3_unwind_31 rfl rfl ?_
    refine v_getfield fX3_34 dX3_unwind_32 ho2 (by rfl) ?_
    refine v_getfield fX3_65 dX3_unwind_35 r02 (by rfl) ?_
    rw [hv1]
    exact v_ireturn dX3_unwind_38 rfl ⟨rfl, ZP.of hs1 hL2 hB1 hB2 ho1 hf1 hf2 hr2⟩
  · exact absurd b7 (fun h => by rw [show (0 : Int32) = nI 0 from rfl, nI_eq (by omega) (by omega)] at h; omega)
