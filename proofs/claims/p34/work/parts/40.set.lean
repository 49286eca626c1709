theorem RPic.sc {f f1 : zHM} {t r la n : Nat} {A : Nat → Nat} {ρ : zRS} {xs tm : Nat → Int32} (hr : RPic f t r la A ρ n xs tm) (ψ : Nat → Int32) (h : f1 r = some (t, .inr (1, [.ref la, .int (ψ 0), .int (24 / ψ 0), .int (ψ 1), .int (ψ 2), .int (ψ 3), .int (ψ 4), .int (ψ 5), .int (nI n), .ref (A 0), .ref (A 1), .ref (A 2), .ref (A 3), .ref (A 4), .ref (A 5), .ref (A 6), .ref (A 7), .ref (A 8), .ref (A 9)]))) (hf : zFr (fun τ => τ = t) f f1) : RPic f1 t r la A (zset ρ 0 ψ) n xs tm := by
  obtain ⟨r0, r1, r2, r3, r4, r5, r6, r7, r8, r9, r10⟩ := hr
  exact ⟨h, r1.fr hf (by omega), r2.fr hf (by omega), r3.fr hf (by omega), r4.fr hf (by omega), r5.fr hf (by omega), r6.fr hf (by omega), r7.fr hf (by omega), r8.fr hf (by omega), r9.fr hf (by omega), r10.fr hf (by omega)⟩
theorem RPic.ar1 {f f1 : zHM} {t r la n : Nat} {A : Nat → Nat} {ρ : zRS} {xs tm : Nat → Int32} (hr : RPic f t r la A ρ n xs tm) (ψ : Nat → Int32) (h : ZA f1 (A 0) (t + 1) 3 3 ψ) (hf : zFr (fun τ => τ = t + 1) f f1) : RPic f1 t r la A (zset ρ 1 ψ) n xs tm := by
  obtain ⟨r0, r1, r2, r3, r4, r5, r6, r7, r8, r9, r10⟩ := hr
  exact ⟨hf _ _ _ r0 (by omega), h, r2.fr hf (by omega), r3.fr hf (by omega), r4.fr hf (by omega), r5.fr hf (by omega), r6.fr hf (by omega), r7.fr hf (by omega), r8.fr hf (by omega), r9.fr hf (by omega), r10.fr hf (by omega)⟩
theorem RPic.ar2 {f f1 : zHM} {t r la n : Nat} {A : Nat → Nat} {ρ : zRS} {xs tm : Nat → Int32} (hr : RPic f t r la A ρ n xs tm) (ψ : Nat → Int32) (h : ZA f1 (A 1) (t + 2) 3 3 ψ) (hf : zFr (fun τ => τ = t + 2) f f1) : RPic f1 t r la A (zset ρ 2 ψ) n xs tm := by
  obtain ⟨r0, r1, r2, r3, r4, r5, r6, r7, r8, r9, r10⟩ := hr
  exact ⟨hf _ _ _ r0 (by omega), r1.fr hf (by omega), h, r3.fr hf (by omega), r4.fr hf (by omega), r5.fr hf (by omega), r6.fr hf (by omega), r7.fr hf (by omega), r8.fr hf (by omega), r9.fr hf (by omega), r10.fr hf (by omega)⟩
theorem RPic.ar3 {f f1 : zHM} {t r la n : Nat} {A : Nat → Nat} {ρ : zRS} {xs tm : Nat → Int32} (hr : RPic f t r la A ρ n xs tm) (ψ : Nat → Int32) (h : ZA f1 (A 2) (t + 3) 3 3 ψ) (hf : zFr (fun τ => τ = t + 3) f f1) : RPic f1 t r la A (zset ρ 3 ψ) n xs tm := by
  obtain ⟨r0, r1, r2, r3, r4, r5, r6, r7, r8, r9, r10⟩ := hr
  exact ⟨hf _ _ _ r0 (by omega), r1.fr hf (by omega), r2.fr hf (by omega), h, r4.fr hf (by omega), r5.fr hf (by omega), r6.fr hf (by omega), r7.fr hf (by omega), r8.fr hf (by omega), r9.fr hf (by omega), r10.fr hf (by omega)⟩
theorem RPic.ar7 {f f1 : zHM} {t r la n : Nat} {A : Nat → Nat} {ρ : zRS} {xs tm : Nat → Int32} (hr : RPic f t r la A ρ n xs tm) (ψ : Nat → Int32) (h : ZA f1 (A 6) (t + 7) 144 144 ψ) (hf : zFr (fun τ => τ = t + 7) f f1) : RPic f1 t r la A (zset ρ 7 ψ) n xs tm := by
  obtain ⟨r0, r1, r2, r3, r4, r5, r6, r7, r8, r9, r10⟩ := hr
  exact ⟨hf _ _ _ r0 (by omega), r1.fr hf (by omega), r2.fr hf (by omega), r3.fr hf (by omega), r4.fr hf (by omega), r5.fr hf (by omega), r6.fr hf (by omega), h, r8.fr hf (by omega), r9.fr hf (by omega), r10.fr hf (by omega)⟩
theorem ZA.up1 {f1 : zHM} {a t len : Nat} {g φ : Nat → Int32} {i : Nat} {v : Int32} (e : ∀ j, j < len → g j = φ j) (h : f1 a = some (t, .inl (0, len, .inl (upd g i v)))) : ZA f1 a t len len (upd φ i v) := by
  refine ⟨_, h, fun j hj => ?_⟩
  unfold upd
  split
  · rfl
  · exact e j hj
abbrev zTU : Nat → Prop := fun τ => τ ≤ 10 ∨ τ = 600 ∨ τ = 605 ∨ (100 ≤ τ ∧ τ ≤ 210) ∨ τ = 950
/-- after a call that saved the state S and left the state S2 -/
def ZP (f : zHM) (o r tr sc tx sl sv k la : Nat) (A : Nat → Nat) (gv : Nat → Option Nat) (st : Nat → zST) (M : Nat × Nat) (S S2 : zST) : zHM → Nat × Nat → Prop := fun f' m' => ∃ gv' π' M', SVP f' sv la gv' π' (sPK k) (sPS k st S) ∧ LNok f' m' la M' ∧ M'.1 + 11 * zcn gv' 6 = M.1 + 11 * zcn gv 6 ∧ M'.2 + 1339 * zcn gv' 6 = M.2 + 1339 * zcn gv 6 ∧ f' o = some (600, .inr (3, zOb r tr sc tx sl sv (sPK k))) ∧ RPic f' 0 r la A S2.1 S2.2.1 S2.2.2.1 S2.2.2.2 ∧ zFr zTU f f'
theorem ZP.of {f f1 f2 : zHM} {m2 : Nat × Nat} {o r tr sc tx sl sv k la : Nat} {A : Nat → Nat} {gv gv1 : Nat → Option Nat} {π1 : Nat → Nat} {st : Nat → zST} {M M1 : Nat × Nat} {S S2 : zST} (h1 : SVP f1 sv la gv1 π1 (sPK k) (sPS k st S)) (h2 : LNok f2 m2 la M1) (h3 : M1.1 + 11 * zcn gv1 6 = M.1 + 11 * zcn gv 6) (h4 : M1.2 + 1339 * zcn gv1 6 = M.2 + 1339 * zcn gv 6) (h5 : f1 o = some (600, .inr (3, zOb r tr sc tx sl sv (sPK k)))) (h6 : zFr zTS f f1) (h7 : zFr (zTR 0) f1 f2) (h8 : RPic f2 0 r la A S2.1 S2.2.1 S2.2.2.1 S2.2.2.2) : ZP f o r tr sc tx sl sv k la A gv st M S S2 f2 m2 :=
  ⟨gv1, π1, M1, h1.fr h7 (fun τ h h9 => by rcases h9 with h9 | h9 <;> omega), h2, h3, h4, h7 _ _ _ h5 (fun h9 => by rcases h9 with h9 | h9 <;> omega), h8, (h6.weaken (fun τ h => by rcases h with h | h | h; exact Or.inr (Or.inl h); exact Or.inr (Or.inr (Or.inl h)); exact Or.inr (Or.inr (Or.inr (Or.inl h))))).trans (h7.weaken (fun τ h => by rcases h with h | h; exact Or.inr (Or.inr (Or.inr (Or.inr h))); exact Or.inl (by omega)))⟩
def sSpoolS (ρ : zRS) (u : Nat) (sh lf : Int32) : zRS := zset (zset ρ 2 (upd (ρ 2) u lf)) 1 (upd (ρ 1) u sh)
def sKnotS (ρ : zRS) (u : Nat) : zRS := zset ρ 0 (fun i => if i = 5 then ρ 0 5 + 1 else if i = 2 then nI u else ρ 0 i)
def sSetS (ρ : zRS) (i : Nat) (v : Int32) : zRS := zset ρ 3 (upd (ρ 3) i v)
def sWantS (ρ : zRS) (q : Nat) (v : Int32) : zRS := zset ρ 7 (upd (ρ 7) q v)
def sInc (ρ : zRS) (j : Nat) : zRS := zset ρ 0 (fun i => if i = j then ρ 0 j + 1 else ρ 0 i)
set_option maxRecDepth 10000 in
set_option maxHeartbeats 1000000 in
theorem c_want {G : zW} {f : zHM} {m : Nat × Nat} {o r tr sc tx sl sv k la n : Nat} {A : Nat → Nat} {ρ : zRS} {xs tm : Nat → Int32} (ho : f o = some (600, .inr (3, zOb r tr sc tx sl sv k))) (hr : RPic f 0 r la A ρ n xs tm) (hn201 : n ≤ 201) {M : Nat × Nat} (hL : LNok f m la M) {gv : Nat → Option Nat} {π : Nat → Nat} {st : Nat → zST} (hs : SVP f sv la gv π k st) (hB : M.1 + 11 * zcn gv 6 ≤ 50000 ∧ M.2 + 1339 * zcn gv 6 ≤ 399990) {x y : Nat} (hx : x < 12) (hy : y < 12) {v : Int32} (h0 : ¬ v < 0) (h9 : v ≤ 9) : zM G yX3_want cX3_want 6 (some .int) 7 [.ref o, .int (nI x), .int (nI y), .int v] (f, m) (zD (some (.int (ρ 7 (y * 12 + x)))) (ZP f o r tr sc tx sl sv k la A gv st M (ρ, n, xs, tm) (sWantS ρ (y * 12 + x) v, n, xs, tm))) := by
  refine zM.of (by decide) (Nat.le_of_ble_eq_true rfl) ?_
  have r0 := hr.1
  refine v_iload_n dX3_want_0 rfl rfl ?_
  refine v_iload_n dX3_want_1 rfl rfl ?_
  refine v_callS0p kX3_139 gs_X3_needSquare dX3_want_2 (c_needSquare (nI_pos (by omega)) (by rw [show (12 : Int32) = nI 12 from rfl, nI_leI (by omega) (by omega)]; omega) (nI_pos (by omega)) (by rw [show (12 : Int32) = nI 12 from rfl, nI_ltI (by omega) (by omega)]; exact hy)) rfl rfl (by decide) (Nat.le_of_ble_eq_true rfl) ?_
  refine v_iload_n dX3_want_5 rfl rfl ?_
  refine v_iconst (0) dX3_want_6 (by decide) ?_
  refine v_bipush (9) dX3_want_7 (by decide) ?_
  refine v_callS0p kX3_72 gs_X3_needRange dX3_want_9 (c_needRange h0 h9) rfl rfl (by decide) (Nat.le_of_ble_eq_true rfl) ?_
  refine v_aload_n dX3_want_12 rfl rfl ?_
  refine v_callV0 kX3_52 gi_X3_save ge_X3_save rfl dX3_want_13 (by assumption) (c_save ho hr hn201 hL hs hB) rfl rfl (by decide) (Nat.le_of_ble_eq_true rfl) (fun f1 m1 hc => ?_)
  obtain ⟨gv1, π1, M1, hs1, hL1, hB1, hB2, ho1, hf1⟩ := hc
  have hr1 := hr.fr hf1 (fun k hk h => by rcases h with h | h | h <;> omega)
  obtain ⟨r0, ⟨g1, a1, e1⟩, ⟨g2, a2, e2⟩, ⟨g3, a3, e3⟩, ⟨g4, a4, e4⟩, ⟨g5, a5, e5⟩, ⟨g6, a6, e6⟩, ⟨g7, a7, e7⟩, ⟨g8, a8, e8⟩, ⟨g9, a9, e9⟩, ⟨g10, a10, e10⟩⟩ := id hr1
  refine v_iload_n dX3_want_16 rfl rfl ?_
  refine v_bipush (nI 12) dX3_want_17 (by decide) ?_
  refine v_imul dX3_want_19 ?_
  rw [pk_mul]
  refine v_iload_n dX3_want_20 rfl rfl ?_
  refine v_iadd dX3_want_21 ?_
  rw [nI_add]
  refine v_istore dX3_want_22 (by decide) ?_
  refine v_aload_n dX3_want_24 rfl rfl ?_
  refine v_getfield fX3_34 dX3_want_25 (by assumption) (by rfl) ?_
  refine v_getfield fX3_143 dX3_want_28 (by assumption) (by rfl) ?_
  refine v_iload dX3_want_31 rfl ?_
  refine v_iaload dX3_want_33 (by assumption) (vp_in_nI (by omega) (by omega)) ?_
  refine v_istore dX3_want_34 (by decide) ?_
  refine v_aload_n dX3_want_36 rfl rfl ?_
  refine v_getfield fX3_34 dX3_want_37 (by assumption) (by rfl) ?_
  refine v_getfield fX3_143 dX3_want_40 (by assumption) (by rfl) ?_
  refine v_iload dX3_want_43 rfl ?_
  refine v_iload_n dX3_want_45 rfl rfl ?_
  refine v_iastoreX dX3_want_46 a7 (vp_in_nI (by omega) (by omega)) (fun f2 hp => ?_)
  rw [nI_clamp (by omega)] at hp
  have hf2 : zFr (fun τ => τ = 0 + 7) f1 f2 := zFr.refl.put hp rfl
  refine v_iload dX3_want_47 rfl ?_
  rw [nI_clamp (by omega), e7 _ (by omega)]
  exact v_ireturn dX3_want_49 rfl ⟨rfl, ZP.of hs1 (hL1.fr hf2 (fun t ht => by omega)) hB1 hB2 ho1 hf1 (hf2.weaken (fun τ h => Or.inr (by omega))) (hr1.ar7 _ (ZA.up1 e7 hp.1) hf2)⟩
set_option maxRecDepth 10000 in
set_option maxHeartbeats 1000000 in
theorem c_knot {G : zW} {f : zHM} {m : Nat × Nat} {o r tr sc tx sl sv k la n : Nat} {A : Nat → Nat} {ρ : zRS} {xs tm : Nat → Int32} (ho : f o = some (600, .inr (3, zOb r tr sc tx sl sv k))) (hr : RPic f 0 r la A ρ n xs tm) (hn201 : n ≤ 201) {M : Nat × Nat} (hL : LNok f m la M) {gv : Nat → Option Nat} {π : Nat → Nat} {st : Nat → zST} (hs : SVP f sv la gv π k st) (hB : M.1 + 11 * zcn gv 6 ≤ 50000 ∧ M.2 + 1339 * zcn gv 6 ≤ 399990) {u : Nat} (hu : u < 3) (hne : ¬ nI u = ρ 0 2) : zM G yX3_knot cX3_knot 2 (some .int) 7 [.ref o, .int (nI u)] (f, m) (zD (some (.int (ρ 0 5 + 1))) (ZP f o r tr sc tx sl sv k la A gv st M (ρ, n, xs, tm) (sKnotS ρ u, n, xs, tm))) := by
  refine zM.of (by decide) (Nat.le_of_ble_eq_true rfl) ?_
  have r0 := hr.1
  refine v_iload_n dX3_knot_0 rfl rfl ?_
  refine v_callS0p kX3_68 gs_X3_needSpool dX3_knot_1 (c_needSpool (nI_pos (by omega)) (show nI u < nI 3 from nI_lt hu (by omega))) rfl rfl (by decide) (Nat.le_of_ble_eq_true rfl) ?_
  refine v_iload_n dX3_knot_4 rfl rfl ?_
  refine v_aload_n dX3_knot_5 rfl rfl ?_
  refine v_getfield fX3_34 dX3_knot_6 (by assumption) (by rfl) ?_
  refine v_getfield fX3_76 dX3_knot_9 (by assumption) (by rfl) ?_
  refine v_icmp_ne 25 dX3_knot_12 (by decide) (fun b12 => ?_) (fun b12 => ?_)
  · refine v_aload_n dX3_knot_25 rfl rfl ?_
    refine v_callV0 kX3_52 gi_X3_save ge_X3_save rfl dX3_knot_26 (by assumption) (c_save ho hr hn201 hL hs hB) rfl rfl (by decide) (Nat.le_of_ble_eq_true rfl) (fun f1 m1 hc => ?_)
    obtain ⟨gv1, π1, M1, hs1, hL1, hB1, hB2, ho1, hf1⟩ := hc
    have hr1 := hr.fr hf1 (fun k hk h => by rcases h with h | h | h <;> omega)
    obtain ⟨r0, ⟨g1, a1, e1⟩, ⟨g2, a2, e2⟩, ⟨g3, a3, e3⟩, ⟨g4, a4, e4⟩, ⟨g5, a5, e5⟩, ⟨g6, a6, e6⟩, ⟨g7, a7, e7⟩, ⟨g8, a8, e8⟩, ⟨g9, a9, e9⟩, ⟨g10, a10, e10⟩⟩ := id hr1
    refine v_aload_n dX3_knot_29 rfl rfl ?_
    refine v_getfield fX3_34 dX3_knot_30 (by assumption) (by rfl) ?_
    refine v_iload_n dX3_knot_33 rfl rfl ?_
    refine v_putfieldX fX3_76 dX3_knot_34 r0 rfl rfl (Nat.le_of_ble_eq_true rfl) (fun f2 hp2 => ?_)
    have r0 := hp2.1
    have ho2 := hp2.ne ho1 (by omega)
    refine v_aload_n dX3_knot_37 rfl rfl ?_
    refine v_getfield fX3_34 dX3_knot_38 (by assumption) (by rfl) ?_
    refine v_dup dX3_knot_41 rfl ?_
    refine v_getfield fX3_95 dX3_knot_42 (by assumption) (by rfl) ?_
    refine v_iconst (1) dX3_knot_45 (by decide) ?_
    refine v_iadd dX3_knot_46 ?_
    refine v_putfieldX fX3_95 dX3_knot_47 r0 rfl rfl (Nat.le_of_ble_eq_true rfl) (fun f3 hp3 => ?_)
    have r0 := hp3.1
    have ho3 := hp3.ne ho2 (by omega)
    have hf3 : zFr (fun τ => τ = 0) f1 f3 := zFr.put (T := fun τ => τ = 0) (zFr.put (T := fun τ => τ = 0) zFr.refl hp2 rfl) hp3 rfl
    refine v_aload_n dX3_knot_50 rfl rfl ?_
    refine v_getfield fX3_34 dX3_knot_51 (by assumption) (by rfl) ?_
    refine v_getfield fX3_95 dX3_knot_54 (by assumption) (by rfl) ?_
    exact v_ireturn dX3_knot_57 rfl ⟨rfl, ZP.of hs1 (hL1.fr hf3 (fun t ht => by omega)) hB1 hB2 ho1 hf1 (hf3.weaken (fun τ h => Or.inr (by omega))) (hr1.sc (fun i => if i = 5 then ρ 0 5 + 1 else if i = 2 then nI u else ρ 0 i) hp3.1 hf3)⟩
  · exact absurd b12 hne
set_option maxRecDepth 10000 in
set_option maxHeartbeats 1000000 in
theorem c_set {G : zW} {f : zHM} {m : Nat × Nat} {o r tr sc tx sl sv k la n : Nat} {A : Nat → Nat} {ρ : zRS} {xs tm : Nat → Int32} (ho : f o = some (600, .inr (3, zOb r tr sc tx sl sv k))) (hr : RPic f 0 r la A ρ n xs tm) (hn201 : n ≤ 201) {M : Nat × Nat} (hL : LNok f m la M) {gv : Nat → Option Nat} {π : Nat → Nat} {st : Nat → zST} (hs : SVP f sv la gv π k st) (hB : M.1 + 11 * zcn gv 6 ≤ 50000 ∧ M.2 + 1339 * zcn gv 6 ≤ 399990) {i : Nat} (hi : i < 3) {v : Int32} (h1 : ¬ v < 1) (h2 : v ≤ zMS.getD i 0) : zM G yX3_set cX3_set 4 (some .int) 7 [.ref o, .int (nI i), .int v] (f, m) (zD (some (.int (ρ 3 i))) (ZP f o r tr sc tx sl sv k la A gv st M (ρ, n, xs, tm) (sSetS ρ i v, n, xs, tm))) := by
  refine zM.of (by decide) (Nat.le_of_ble_eq_true rfl) ?_
  have r0 := hr.1
  refine v_iload_n dX3_set_0 rfl rfl ?_
  refine v_callS0p kX3_98 gs_X3_needSetting dX3_set_1 (c_needSetting (nI_pos (by omega)) (show nI i < nI 3 from nI_lt hi (by omega))) rfl rfl (by decide) (Nat.le_of_ble_eq_true rfl) ?_
  refine v_iload_n dX3_set_4 rfl rfl ?_
  refine v_iconst (1) dX3_set_5 (by decide) ?_
  refine v_getsM dX3_set_6 gMS ?_
  refine v_iload_n dX3_set_9 rfl rfl ?_
  refine v_ialoadM dX3_set_10 (vp_in_nI hi (by omega)) ?_
  rw [nI_clamp (by omega)]
  refine v_callS0p kX3_72 gs_X3_needRange dX3_set_11 (c_needRange h1 h2) rfl rfl (by decide) (Nat.le_of_ble_eq_true rfl) ?_
  refine v_aload_n dX3_set_14 rfl rfl ?_
  refine v_callV0 kX3_52 gi_X3_save ge_X3_save rfl dX3_set_15 (by assumption) (c_save ho hr hn201 hL hs hB) rfl rfl (by decide) (Nat.le_of_ble_eq_true rfl) (fun f1 m1 hc => ?_)
  obtain ⟨gv1, π1, M1, hs1, hL1, hB1, hB2, ho1, hf1⟩ := hc
  have hr1 := hr.fr hf1 (fun k hk h => by rcases h with h | h | h <;> omega)
  obtain ⟨r0, ⟨g1, a1, e1⟩, ⟨g2, a2, e2⟩, ⟨g3, a3, e3⟩, ⟨g4, a4, e4⟩, ⟨g5, a5, e5⟩, ⟨g6, a6, e6⟩, ⟨g7, a7, e7⟩, ⟨g8, a8, e8⟩, ⟨g9, a9, e9⟩, ⟨g10, a10, e10⟩⟩ := id hr1
  refine v_aload_n dX3_set_18 rfl rfl ?_
  refine v_getfield fX3_34 dX3_set_19 (by assumption) (by rfl) ?_
  refine v_getfield fX3_104 dX3_set_22 (by assumption) (by rfl) ?_
  refine v_iload_n dX3_set_25 rfl rfl ?_
  refine v_iaload dX3_set_26 (by assumption) (vp_in_nI (by omega) (by omega)) ?_
  refine v_istore_n dX3_set_27 rfl (by decide) ?_
  refine v_aload_n dX3_set_28 rfl rfl ?_
  refine v_getfield fX3_34 dX3_set_29 (by assumption) (by rfl) ?_
  refine v_getfield fX3_104 dX3_set_32 (by assumption) (by rfl) ?_
  refine v_iload_n dX3_set_35 rfl rfl ?_
  refine v_iload_n dX3_set_36 rfl rfl ?_
  refine v_iastoreX dX3_set_37 a3 (vp_in_nI (by omega) (by omega)) (fun f2 hp => ?_)
  rw [nI_clamp (by omega)] at hp
  have hf2 : zFr (fun τ => τ = 0 + 3) f1 f2 := zFr.refl.put hp rfl
  refine v_iload_n dX3_set_38 rfl rfl ?_
  rw [nI_clamp (by omega), e3 _ (by omega)]
  exact v_ireturn dX3_set_39 rfl ⟨rfl, ZP.of hs1 (hL1.fr hf2 (fun t ht => by omega)) hB1 hB2 ho1 hf1 (hf2.weaken (fun τ h => Or.inr (by omega))) (hr1.ar3 _ (ZA.up1 e3 hp.1) hf2)⟩
theorem zSpE (ρ : zRS) (φ ψ : Nat → Int32) : zset (zset ρ 1 φ) 2 ψ = zset (zset ρ 2 ψ) 1 φ := by
  funext k i
  unfold zset
  by_cases h : k = 2
  · subst h; rfl
  · rw [if_neg h, if_neg h]
set_option maxRecDepth 10000 in
set_option maxHeartbeats 1000000 in
theorem c_spool {G : zW} {f : zHM} {m : Nat × Nat} {o r tr sc tx sl sv k la n : Nat} {A : Nat → Nat} {ρ : zRS} {xs tm : Nat → Int32} (ho : f o = some (600, .inr (3, zOb r tr sc tx sl sv k))) (hr : RPic f 0 r la A ρ n xs tm) (hn201 : n ≤ 201) {M : Nat × Nat} (hL : LNok f m la M) {gv : Nat → Option Nat} {π : Nat → Nat} {st : Nat → zST} (hs : SVP f sv la gv π k st) (hB : M.1 + 11 * zcn gv 6 ≤ 50000 ∧ M.2 + 1339 * zcn gv 6 ≤ 399990) {u : Nat} (hu : u < 3) {sh lf : Int32} (h1 : ¬ sh < 1) (h2 : sh ≤ 9) (h3 : ¬ lf < 0) (h4 : lf ≤ 9999) (hne : ¬ nI u = ρ 0 2) (hch : sCh ρ n (nI u) ≤ 0) : zM G yX3_spool cX3_spool 5 (some .int) 7 [.ref o, .int (nI u), .int sh, .int lf] (f, m) (zD (some (.int (ρ 2 u))) (ZP f o r tr sc tx sl sv k la A gv st M (ρ, n, xs, tm) (sSpoolS ρ u sh lf, n, xs, tm))) := by
  refine zM.of (by decide) (Nat.le_of_ble_eq_true rfl) ?_
  have r0 := hr.1
  unfold sSpoolS
  rw [← zSpE]
  refine v_iload_n dX3_spool_0 rfl rfl ?_
  refine v_callS0p kX3_68 gs_X3_needSpool dX3_spool_1 (c_needSpool (nI_pos (by omega)) (show nI u < nI 3 from nI_lt hu (by omega))) rfl rfl (by decide) (Nat.le_of_ble_eq_true rfl) ?_
  refine v_iload_n dX3_spool_4 rfl rfl ?_
  refine v_iconst (1) dX3_spool_5 (by decide) ?_
  refine v_bipush (9) dX3_spool_6 (by decide) ?_
  refine v_callS0p kX3_72 gs_X3_needRange dX3_spool_8 (c_needRange h1 h2) rfl rfl (by decide) (Nat.le_of_ble_eq_true rfl) ?_
  refine v_iload_n dX3_spool_11 rfl rfl ?_
  refine v_iconst (0) dX3_spool_12 (by decide) ?_
  refine v_sipush (9999) dX3_spool_13 (by decide) ?_
  refine v_callS0p kX3_72 gs_X3_needRange dX3_spool_16 (c_needRange h3 h4) rfl rfl (by decide) (Nat.le_of_ble_eq_true rfl) ?_
  refine v_iload_n dX3_spool_19 rfl rfl ?_
  refine v_aload_n dX3_spool_20 rfl rfl ?_
  refine v_getfield fX3_34 dX3_spool_21 (by assumption) (by rfl) ?_
  refine v_getfield fX3_76 dX3_spool_24 (by assumption) (by rfl) ?_
  refine v_icmp_eq 41 dX3_spool_27 (by decide) (fun b27 => ?_) (fun b27 => ?_)
  · exact absurd b27 hne
  · refine v_aload_n dX3_spool_30 rfl rfl ?_
    refine v_getfield fX3_34 dX3_spool_31 (by assumption) (by rfl) ?_
    refine v_iload_n dX3_spool_34 rfl rfl ?_
    refine v_callVp kX3_79 gi_X1_chordsOf ge_X1_chordsOf rfl dX3_spool_35 (by assumption) (c_chordsOf hr hn201 (nI u)) rfl rfl (by decide) (Nat.le_of_ble_eq_true rfl) ?_
    refine v_if_le 51 dX3_spool_38 (by decide) (fun b38 => ?_) (fun b38 => ?_)
    · refine v_aload_n dX3_spool_51 rfl rfl ?_
      refine v_callV0 kX3_52 gi_X3_save ge_X3_save rfl dX3_spool_52 (by assumption) (c_save ho hr hn201 hL hs hB) rfl rfl (by decide) (Nat.le_of_ble_eq_true rfl) (fun f1 m1 hc => ?_)
      obtain ⟨gv1, π1, M1, hs1, hL1, hB1, hB2, ho1, hf1⟩ := hc
      have hr1 := hr.fr hf1 (fun k hk h => by rcases h with h | h | h <;> omega)
      obtain ⟨r0, ⟨g1, a1, e1⟩, ⟨g2, a2, e2⟩, ⟨g3, a3, e3⟩, ⟨g4, a4, e4⟩, ⟨g5, a5, e5⟩, ⟨g6, a6, e6⟩, ⟨g7, a7, e7⟩, ⟨g8, a8, e8⟩, ⟨g9, a9, e9⟩, ⟨g10, a10, e10⟩⟩ := id hr1
      refine v_aload_n dX3_spool_55 rfl rfl ?_
      refine v_getfield fX3_34 dX3_spool_56 (by assumption) (by rfl) ?_
      refine v_getfield fX3_87 dX3_spool_59 (by assumption) (by rfl) ?_
      refine v_iload_n dX3_spool_62 rfl rfl ?_
      refine v_iaload dX3_spool_63 (by assumption) (vp_in_nI (by omega) (by omega)) ?_
      refine v_istore dX3_spool_64 (by decide) ?_
      refine v_aload_n dX3_spool_66 rfl rfl ?_
      refine v_getfield fX3_34 dX3_spool_67 (by assumption) (by rfl) ?_
      refine v_getfield fX3_90 dX3_spool_70 (by assumption) (by rfl) ?_
      refine v_iload_n dX3_spool_73 rfl rfl ?_
      refine v_iload_n dX3_spool_74 rfl rfl ?_
      refine v_iastoreX dX3_spool_75 a1 (vp_in_nI (by omega) (by omega)) (fun f2 hp2 => ?_)
      rw [nI_clamp (by omega)] at hp2
      have hf2 : zFr (fun τ => τ = 0 + 1) f1 f2 := zFr.refl.put hp2 rfl
      have ho2 := hf2 _ _ _ ho1 (by omega)
      have r02 := hf2 _ _ _ r0 (by omega)
      have a22 := hf2 _ _ _ a2 (by omega)
      refine v_aload_n dX3_spool_76 rfl rfl ?_
      refine v_getfield fX3_34 dX3_spool_77 (by assumption) (by rfl) ?_
      refine v_getfield fX3_87 dX3_spool_80 (by assumption) (by rfl) ?_
      refine v_iload_n dX3_spool_83 rfl rfl ?_
      refine v_iload_n dX3_spool_84 rfl rfl ?_
      refine v_iastoreX dX3_spool_85 a22 (vp_in_nI (by omega) (by omega)) (fun f3 hp3 => ?_)
      rw [nI_clamp (by omega)] at hp3
      have hf3 : zFr (fun τ => τ = 0 + 2) f2 f3 := zFr.refl.put hp3 rfl
      have hf23 : zFr (zTR 0) f1 f3 := (hf2.weaken (fun τ h => Or.inr (by omega))).trans (hf3.weaken (fun τ h => Or.inr (by omega)))
      have hr2 := hr1.ar1 (upd (ρ 1) u sh) (ZA.up1 e1 hp2.1) hf2
      have hr3 := hr2.ar2 (upd (ρ 2) u lf) (ZA.up1 e2 hp3.1) hf3
      refine v_iload dX3_spool_86 rfl ?_
      rw [nI_clamp (by omega), e2 _ (by omega)]
      exact v_ireturn dX3_spool_88 rfl ⟨rfl, ZP.of hs1 ((hL1.fr hf2 (fun t ht => by omega)).fr hf3 (fun t ht => by omega)) hB1 hB2 ho1 hf1 hf23 hr3⟩
    · exact absurd hch b38
