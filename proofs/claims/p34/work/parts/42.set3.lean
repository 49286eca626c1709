theorem RW.sc {ρ : zRS} {N s n : Nat} (h : RW ρ N s n) (ψ : Nat → Int32) (e : ψ 0 = ρ 0 0) : RW (zset ρ 0 ψ) N s n := by
  obtain ⟨⟨h1, h2, h3, h4⟩, h5, h6⟩ := h
  refine ⟨⟨?_, ?_, h3, h4⟩, h5, fun c hc => ?_⟩
  · show ψ 0 = nI N
    rw [e]; exact h1
  · show 24 / ψ 0 = nI s
    rw [e]; exact h2
  · obtain ⟨a, b, u, e1, e2, e3, e4, e5, e6, e7⟩ := h6 c hc
    exact ⟨a, b, u, e1, e2, e3, e4, e5, e6, e7⟩
theorem RW.lay {ρ : zRS} {N s n : Nat} (h : RW ρ N s n) (hn : n ≤ 200) {a b u : Nat} (ha : a < N) (hb : b < N) (hab : a ≠ b) (hu : u < 3) : RW (sLay ρ s n a b u) N s (n + 1) := by
  obtain ⟨⟨h1, h2, h3, h4⟩, h5, h6⟩ := h
  refine ⟨⟨h1, h2, h3, h4⟩, by omega, fun c hc => ?_⟩
  by_cases e : c = n
  · refine ⟨a, b, u, ha, hb, hab, hu, ?_, ?_, ?_⟩
    · show (if c = n then nI a else ρ 4 c) = nI a
      exact if_pos e
    · show (if c = n then nI b else ρ 5 c) = nI b
      exact if_pos e
    · show (if c = n then nI u else ρ 6 c) = nI u
      exact if_pos e
  · obtain ⟨a, b, u, e1, e2, e3, e4, e5, e6, e7⟩ := h6 c (by omega)
    refine ⟨a, b, u, e1, e2, e3, e4, ?_, ?_, ?_⟩
    · show (if c = n then nI _ else ρ 4 c) = nI a
      rw [if_neg e]; exact e5
    · show (if c = n then nI _ else ρ 5 c) = nI b
      rw [if_neg e]; exact e6
    · show (if c = n then nI _ else ρ 6 c) = nI u
      rw [if_neg e]; exact e7
theorem sBst_in (rf gn ot ln : Nat → Int32) : ∀ n, (sBst rf gn ot ln n).1 = -1 ∨ ∃ b, b < n ∧ (sBst rf gn ot ln n).1 = nI b ∧ rf b = 0
  | 0 => Or.inl rfl
  | n + 1 => by
    unfold sBst
    split
    · rename_i h
      exact Or.inr ⟨n, by omega, rfl, h.1⟩
    · rcases sBst_in rf gn ot ln n with h | ⟨b, h1, h2, h3⟩
      · exact Or.inl h
      · exact Or.inr ⟨b, by omega, h2, h3⟩
theorem sBest_in (ρ : zRS) (N s : Nat) (tm : Nat → Int32) (a u : Nat) : sBest ρ N s tm a u = -1 ∨ ∃ b, b < N ∧ sBest ρ N s tm a u = nI b ∧ a ≠ b := by
  rcases sBst_in (fun b => sRef N s (ρ 3 0) (ρ 3 1) (ρ 2 u) tm a b) (fun b => sGain ρ s (ρ 1 u) a b) (fun b => tm (sPr (a * s) (b * s))) (fun b => sLn s a b) N with h | ⟨b, h1, h2, h3⟩
  · exact Or.inl h
  · exact Or.inr ⟨b, h1, h2, fun e => sRef_self _ _ _ _ _ _ _ (e ▸ h3)⟩
def sWBn (ρ : zRS) (s n : Nat) (xs tm : Nat → Int32) (a b u : Nat) : zST := (sInc (sLay ρ s n a b u) 3, n + 1, sInL (sPa s a b) 1 xs, sPutT tm (sPr (a * s) (b * s)) 1)
set_option maxRecDepth 10000 in
set_option maxHeartbeats 1000000 in
theorem c_wind_ok {G : zW} {f : zHM} {m : Nat × Nat} {o r tr sc tx sl sv k la n : Nat} {A : Nat → Nat} {ρ : zRS} {xs tm : Nat → Int32} (ho : f o = some (600, .inr (3, zOb r tr sc tx sl sv k))) (hr : RPic f 0 r la A ρ n xs tm) (hn201 : n ≤ 201) {M : Nat × Nat} (hL : LNok f m la M) {gv : Nat → Option Nat} {π : Nat → Nat} {st : Nat → zST} (hs : SVP f sv la gv π k st) (hB : M.1 + 11 * zcn gv 6 ≤ 50000 ∧ M.2 + 1339 * zcn gv 6 ≤ 399990) {N s : Nat} (hw : RW ρ N s n) {a u : Nat} (ha : a < N) (hu : u < 3) (hat : ρ 0 1 = nI a) (hnow : ρ 0 2 = nI u) {b : Nat} (hb : b < N) (hn200 : n < 200) (href : sRef N s (ρ 3 0) (ρ 3 1) (ρ 2 u) tm a b = 0 ∧ True) : zM G yX3_wind cX3_wind 3 (some .int) 7 [.ref o, .int (nI b)] (f, m) (zD (some (.int 0)) (ZP f o r tr sc tx sl sv k la A gv st M (ρ, n, xs, tm) (sWBn ρ s n xs tm a b u))) := by
  refine zM.of (by decide) (Nat.le_of_ble_eq_true rfl) ?_
  have r0 := hr.1
  have hv := hw.1
  have hv9 := hv.pos
  have hab : a ≠ b := fun e => sRef_self _ _ _ _ _ _ _ (e ▸ href.1)
  refine v_aload_n dX3_wind_0 rfl rfl ?_
  refine v_iload_n dX3_wind_1 rfl rfl ?_
  refine v_callV0p kX3_107 gi_X3_needNail ge_X3_needNail rfl dX3_wind_2 (by assumption) (c_needNail ho hr.1 (nI_pos (by omega)) (by rw [hv.1]; exact nI_lt hb (by omega))) rfl rfl (by decide) (Nat.le_of_ble_eq_true rfl) ?_
  refine v_aload_n dX3_wind_5 rfl rfl ?_
  refine v_getfield fX3_34 dX3_wind_6 (by assumption) (by rfl) ?_
  refine v_getfield fX3_110 dX3_wind_9 (by assumption) (by rfl) ?_
  refine v_sipush (200) dX3_wind_12 (by decide) ?_
  refine v_icmp_lt 28 dX3_wind_15 (by decide) (fun b15 => ?_) (fun b15 => ?_)
  · refine v_aload_n dX3_wind_28 rfl rfl ?_
    refine v_callV0 kX3_52 gi_X3_save ge_X3_save rfl dX3_wind_29 (by assumption) (c_save ho hr hn201 hL hs hB) rfl rfl (by decide) (Nat.le_of_ble_eq_true rfl) (fun f1 m1 hc => ?_)
    obtain ⟨gv1, π1, M1, hs1, hL1, hB1, hB2, ho1, hf1⟩ := hc
    have hr1 := hr.fr hf1 (fun k hk h => by rcases h with h | h | h <;> omega)
    obtain ⟨r0, ⟨g1, a1, e1⟩, ⟨g2, a2, e2⟩, ⟨g3, a3, e3⟩, ⟨g4, a4, e4⟩, ⟨g5, a5, e5⟩, ⟨g6, a6, e6⟩, ⟨g7, a7, e7⟩, ⟨g8, a8, e8⟩, ⟨g9, a9, e9⟩, ⟨g10, a10, e10⟩⟩ := id hr1
    refine v_aload_n dX3_wind_32 rfl rfl ?_
    refine v_getfield fX3_34 dX3_wind_33 (by assumption) (by rfl) ?_
    refine v_iload_n dX3_wind_36 rfl rfl ?_
    refine v_callV1 kX3_115 gi_X1_refusal ge_X1_refusal rfl dX3_wind_37 r0 (c_refusal hr1 (by omega) hv hL1 ha hb hu hat hnow) rfl rfl (by decide) (Nat.le_of_ble_eq_true rfl) (fun f2 m2 hc => ?_)
    obtain ⟨hL2, hf2⟩ := hc
    rw [href.1]
    have ho2 := hf2 _ _ _ ho1 (by omega)
    have hr2 := hr1.fr hf2 (fun k hk h => by omega)
    have r02 := hr2.1
    refine v_istore_n dX3_wind_40 rfl (by decide) ?_
    refine v_iload_n dX3_wind_41 rfl rfl ?_
    refine v_if_ne 69 dX3_wind_42 (by decide) (fun b42 => absurd rfl b42) (fun _ => ?_)
    refine v_aload_n dX3_wind_45 rfl rfl ?_
    refine v_getfield fX3_34 dX3_wind_46 ho2 (by rfl) ?_
    refine v_iload_n dX3_wind_49 rfl rfl ?_
    refine v_callV0 kX3_118 gi_X1_lay ge_X1_lay rfl dX3_wind_50 r02 (c_lay hr2 (by omega) (by omega) hv hL2 ha hb hab hu hat hnow) rfl rfl (by decide) (Nat.le_of_ble_eq_true rfl) (fun f3 m3 hc => ?_)
    obtain ⟨hr3, hL3, hf3⟩ := hc
    unfold sWBn
    generalize sLay ρ s n a b u = ρ2 at hr3 ⊢
    generalize sInL (sPa s a b) 1 xs = xs2 at hr3 ⊢
    generalize sPutT tm (sPr (a * s) (b * s)) 1 = tm2 at hr3 ⊢
    have ho3 := hf3 _ _ _ ho2 (fun h => by rcases h with h | h <;> omega)
    have r03 := hr3.1
    refine v_aload_n dX3_wind_53 rfl rfl ?_
    refine v_getfield fX3_34 dX3_wind_54 ho3 (by rfl) ?_
    refine v_dup dX3_wind_57 rfl ?_
    refine v_getfield fX3_121 dX3_wind_58 r03 (by rfl) ?_
    refine v_iconst (1) dX3_wind_61 (by decide) ?_
    refine v_iadd dX3_wind_62 ?_
    refine v_putfieldX fX3_121 dX3_wind_63 r03 rfl rfl (Nat.le_of_ble_eq_true rfl) (fun f4 hp => ?_)
    have hf4 : zFr (fun τ => τ = 0) f3 f4 := zFr.put (T := fun τ => τ = 0) zFr.refl hp rfl
    refine v_goto 82 dX3_wind_66 (by decide) ?_
    refine v_iload_n dX3_wind_82 rfl rfl ?_
    exact v_ireturn dX3_wind_83 rfl ⟨rfl, ZP.of hs1 (hL3.fr hf4 (fun t ht => by omega)) hB1 hB2 ho1 hf1 (((hf2.weaken (fun τ h => Or.inl h)).trans hf3).trans (hf4.weaken (fun τ h => Or.inr (by omega)))) (hr3.sc (fun i => if i = 3 then ρ2 0 3 + 1 else ρ2 0 i) hp.1 hf4)⟩
  · exact absurd b15 (by rw [show (200 : Int32) = nI 200 from rfl, nI_ltI (by omega) (by omega)]; omega)
set_option maxRecDepth 10000 in
set_option maxHeartbeats 1000000 in
theorem c_wind_no {G : zW} {f : zHM} {m : Nat × Nat} {o r tr sc tx sl sv k la n : Nat} {A : Nat → Nat} {ρ : zRS} {xs tm : Nat → Int32} (ho : f o = some (600, .inr (3, zOb r tr sc tx sl sv k))) (hr : RPic f 0 r la A ρ n xs tm) (hn201 : n ≤ 201) {M : Nat × Nat} (hL : LNok f m la M) {gv : Nat → Option Nat} {π : Nat → Nat} {st : Nat → zST} (hs : SVP f sv la gv π k st) (hB : M.1 + 11 * zcn gv 6 ≤ 50000 ∧ M.2 + 1339 * zcn gv 6 ≤ 399990) {N s : Nat} (hw : RW ρ N s n) {a u : Nat} (ha : a < N) (hu : u < 3) (hat : ρ 0 1 = nI a) (hnow : ρ 0 2 = nI u) {b : Nat} (hb : b < N) (hn200 : n < 200) (href : ¬ sRef N s (ρ 3 0) (ρ 3 1) (ρ 2 u) tm a b = 0 ∧ True) : zM G yX3_wind cX3_wind 3 (some .int) 7 [.ref o, .int (nI b)] (f, m) (zD (some (.int (sRef N s (ρ 3 0) (ρ 3 1) (ρ 2 u) tm a b))) (ZP f o r tr sc tx sl sv k la A gv st M (ρ, n, xs, tm) (sInc ρ 4, n, xs, tm))) := by
  refine zM.of (by decide) (Nat.le_of_ble_eq_true rfl) ?_
  have r0 := hr.1
  have hv := hw.1
  have hv9 := hv.pos
  refine v_aload_n dX3_wind_0 rfl rfl ?_
  refine v_iload_n dX3_wind_1 rfl rfl ?_
  refine v_callV0p kX3_107 gi_X3_needNail ge_X3_needNail rfl dX3_wind_2 (by assumption) (c_needNail ho hr.1 (nI_pos (by omega)) (by rw [hv.1]; exact nI_lt hb (by omega))) rfl rfl (by decide) (Nat.le_of_ble_eq_true rfl) ?_
  refine v_aload_n dX3_wind_5 rfl rfl ?_
  refine v_getfield fX3_34 dX3_wind_6 (by assumption) (by rfl) ?_
  refine v_getfield fX3_110 dX3_wind_9 (by assumption) (by rfl) ?_
  refine v_sipush (200) dX3_wind_12 (by decide) ?_
  refine v_icmp_lt 28 dX3_wind_15 (by decide) (fun b15 => ?_) (fun b15 => ?_)
  · refine v_aload_n dX3_wind_28 rfl rfl ?_
    refine v_callV0 kX3_52 gi_X3_save ge_X3_save rfl dX3_wind_29 (by assumption) (c_save ho hr hn201 hL hs hB) rfl rfl (by decide) (Nat.le_of_ble_eq_true rfl) (fun f1 m1 hc => ?_)
    obtain ⟨gv1, π1, M1, hs1, hL1, hB1, hB2, ho1, hf1⟩ := hc
    have hr1 := hr.fr hf1 (fun k hk h => by rcases h with h | h | h <;> omega)
    obtain ⟨r0, ⟨g1, a1, e1⟩, ⟨g2, a2, e2⟩, ⟨g3, a3, e3⟩, ⟨g4, a4, e4⟩, ⟨g5, a5, e5⟩, ⟨g6, a6, e6⟩, ⟨g7, a7, e7⟩, ⟨g8, a8, e8⟩, ⟨g9, a9, e9⟩, ⟨g10, a10, e10⟩⟩ := id hr1
    refine v_aload_n dX3_wind_32 rfl rfl ?_
    refine v_getfield fX3_34 dX3_wind_33 (by assumption) (by rfl) ?_
    refine v_iload_n dX3_wind_36 rfl rfl ?_
    refine v_callV1 kX3_115 gi_X1_refusal ge_X1_refusal rfl dX3_wind_37 r0 (c_refusal hr1 (by omega) hv hL1 ha hb hu hat hnow) rfl rfl (by decide) (Nat.le_of_ble_eq_true rfl) (fun f2 m2 hc => ?_)
    obtain ⟨hL2, hf2⟩ := hc
    obtain ⟨x, hx⟩ : ∃ x, sRef N s (ρ 3 0) (ρ 3 1) (ρ 2 u) tm a b = x := ⟨_, rfl⟩
    rw [hx] at href ⊢
    clear hx
    have ho2 := hf2 _ _ _ ho1 (by omega)
    have hr2 := hr1.fr hf2 (fun k hk h => by omega)
    have r02 := hr2.1
    refine v_istore_n dX3_wind_40 rfl (by decide) ?_
    refine v_iload_n dX3_wind_41 rfl rfl ?_
    refine v_if_ne 69 dX3_wind_42 (by decide) (fun _ => ?_) (fun b42 => absurd b42 href.1)
    refine v_aload_n dX3_wind_69 rfl rfl ?_
    refine v_getfield fX3_34 dX3_wind_70 ho2 (by rfl) ?_
    refine v_dup dX3_wind_73 rfl ?_
    refine v_getfield fX3_124 dX3_wind_74 r02 (by rfl) ?_
    refine v_iconst (1) dX3_wind_77 (by decide) ?_
    refine v_iadd dX3_wind_78 ?_
    refine v_putfieldX fX3_124 dX3_wind_79 r02 rfl rfl (Nat.le_of_ble_eq_true rfl) (fun f4 hp => ?_)
    have hf4 : zFr (fun τ => τ = 0) f2 f4 := zFr.put (T := fun τ => τ = 0) zFr.refl hp rfl
    refine v_iload_n dX3_wind_82 rfl rfl ?_
    exact v_ireturn dX3_wind_83 rfl ⟨rfl, ZP.of hs1 (hL2.fr hf4 (fun t ht => by omega)) hB1 hB2 ho1 hf1 ((hf2.weaken (fun τ h => Or.inl h)).trans (hf4.weaken (fun τ h => Or.inr (by omega)))) (hr2.sc (fun i => if i = 4 then ρ 0 4 + 1 else ρ 0 i) hp.1 hf4)⟩
  · exact absurd b15 (by rw [show (200 : Int32) = nI 200 from rfl, nI_ltI (by omega) (by omega)]; omega)
set_option maxRecDepth 10000 in
set_option maxHeartbeats 1000000 in
theorem c_nails {G : zW} {f : zHM} {m : Nat × Nat} {o r tr sc tx sl sv k la n : Nat} {A : Nat → Nat} {ρ : zRS} {xs tm : Nat → Int32} (ho : f o = some (600, .inr (3, zOb r tr sc tx sl sv k))) (hr : RPic f 0 r la A ρ n xs tm) (hn201 : n ≤ 201) {M : Nat × Nat} (hL : LNok f m la M) {gv : Nat → Option Nat} {π : Nat → Nat} {st : Nat → zST} (hs : SVP f sv la gv π k st) (hB : M.1 + 11 * zcn gv 6 ≤ 50000 ∧ M.2 + 1339 * zcn gv 6 ≤ 399990) {N s : Nat} (hw : RW ρ N s n) {x : Int32} (hst : ¬ sStepOf x = -1) : zM G yX3_nails cX3_nails 4 (some .int) 7 [.ref o, .int x] (f, m) (zD (some (.int (ρ 0 0))) (ZP f o r tr sc tx sl sv k la A gv st M (ρ, n, xs, tm) (sNailsS (sAllOff ρ xs tm s n) x, 0, (sDn ρ xs tm s n n).2.1, (sDn ρ xs tm s n n).2.2))) := by
  refine zM.of (by decide) (Nat.le_of_ble_eq_true rfl) ?_
  have r0 := hr.1
  refine v_iload_n dX3_nails_0 rfl rfl ?_
  refine v_callSp kX3_41 gs_X3_stepOf dX3_nails_1 c_stepOf rfl rfl (by decide) (Nat.le_of_ble_eq_true rfl) ?_
  rw [sStepOf_div hst]
  rw [sStepOf_div hst] at hst
  refine v_istore_n dX3_nails_4 rfl (by decide) ?_
  refine v_iload_n dX3_nails_5 rfl rfl ?_
  refine v_iconst (-1) dX3_nails_6 (by decide) ?_
  refine v_icmp_ne 20 dX3_nails_7 (by decide) (fun b7 => ?_) (fun b7 => ?_)
  · refine v_aload_n dX3_nails_20 rfl rfl ?_
    refine v_callV0 kX3_52 gi_X3_save ge_X3_save rfl dX3_nails_21 (by assumption) (c_save ho hr hn201 hL hs hB) rfl rfl (by decide) (Nat.le_of_ble_eq_true rfl) (fun f1 m1 hc => ?_)
    obtain ⟨gv1, π1, M1, hs1, hL1, hB1, hB2, ho1, hf1⟩ := hc
    have hr1 := hr.fr hf1 (fun k hk h => by rcases h with h | h | h <;> omega)
    obtain ⟨r0, ⟨g1, a1, e1⟩, ⟨g2, a2, e2⟩, ⟨g3, a3, e3⟩, ⟨g4, a4, e4⟩, ⟨g5, a5, e5⟩, ⟨g6, a6, e6⟩, ⟨g7, a7, e7⟩, ⟨g8, a8, e8⟩, ⟨g9, a9, e9⟩, ⟨g10, a10, e10⟩⟩ := id hr1
    refine v_aload_n dX3_nails_24 rfl rfl ?_
    refine v_getfield fX3_34 dX3_nails_25 (by assumption) (by rfl) ?_
    refine v_getfield fX3_55 dX3_nails_28 (by assumption) (by rfl) ?_
    refine v_istore_n dX3_nails_31 rfl (by decide) ?_
    refine v_aload_n dX3_nails_32 rfl rfl ?_
    refine v_getfield fX3_34 dX3_nails_33 (by assumption) (by rfl) ?_
    refine v_callV0 kX3_59 gi_X1_takeAllOff ge_X1_takeAllOff rfl dX3_nails_36 r0 (c_takeAllOff hr1 (by omega) hw hL1) rfl rfl (by decide) (Nat.le_of_ble_eq_true rfl) (fun f2 m2 hc => ?_)
    obtain ⟨hr2, hL2, hf2⟩ := hc
    generalize sAllOff ρ xs tm s n = ρ2 at hr2 ⊢
    generalize (sDn ρ xs tm s n n).2.1 = xs2 at hr2 ⊢
    generalize (sDn ρ xs tm s n n).2.2 = tm2 at hr2 ⊢
    have ho2 := hf2 _ _ _ ho1 (fun h => by rcases h with h | h <;> omega)
    have r02 := hr2.1
    refine v_aload_n dX3_nails_39 rfl rfl ?_
    refine v_getfield fX3_34 dX3_nails_40 ho2 (by rfl) ?_
    refine v_iload_n dX3_nails_43 rfl rfl ?_
    refine v_putfieldX fX3_55 dX3_nails_44 r02 rfl rfl (Nat.le_of_ble_eq_true rfl) (fun f3 hp3 => ?_)
    have hf3 : zFr (fun τ => τ = 0) f2 f3 := zFr.put (T := fun τ => τ = 0) zFr.refl hp3 rfl
    have ho3 := hf3 _ _ _ ho2 (by omega)
    refine v_aload_n dX3_nails_47 rfl rfl ?_
    refine v_getfield fX3_34 dX3_nails_48 ho3 (by rfl) ?_
    refine v_iload_n dX3_nails_51 rfl rfl ?_
    refine v_putfieldX fX3_62 dX3_nails_52 hp3.1 rfl rfl (Nat.le_of_ble_eq_true rfl) (fun f4 hp4 => ?_)
    have hf4 : zFr (fun τ => τ = 0) f2 f4 := zFr.put (T := fun τ => τ = 0) hf3 hp4 rfl
    have ho4 := hf4 _ _ _ ho2 (by omega)
    refine v_aload_n dX3_nails_55 rfl rfl ?_
    refine v_getfield fX3_34 dX3_nails_56 ho4 (by rfl) ?_
    refine v_iconst (0) dX3_nails_59 (by decide) ?_
    refine v_putfieldX fX3_65 dX3_nails_60 hp4.1 rfl rfl (Nat.le_of_ble_eq_true rfl) (fun f5 hp5 => ?_)
    have hf5 : zFr (fun τ => τ = 0) f2 f5 := zFr.put (T := fun τ => τ = 0) hf4 hp5 rfl
    refine v_iload_n dX3_nails_63 rfl rfl ?_
    exact v_ireturn dX3_nails_64 rfl ⟨rfl, ZP.of hs1 (hL2.fr hf5 (fun t ht => by omega)) hB1 hB2 ho1 hf1 (hf2.trans (hf5.weaken (fun τ h => Or.inr (by omega)))) (hr2.sc (fun i => if i = 0 then x else if i = 1 then 0 else ρ2 0 i) hp5.1 hf5)⟩
  · exact absurd b7 hst
