def sDn (ρ : zRS) (xs tm : Nat → Int32) (s n : Nat) : Nat → zRS × (Nat → Int32) × (Nat → Int32)
  | 0 => (ρ, xs, tm)
  | j + 1 => (sOff (sDn ρ xs tm s n j).1 s (zn (ρ 4 (n - 1 - j))) (zn (ρ 5 (n - 1 - j))) (zn (ρ 6 (n - 1 - j))), sInL (sPa s (zn (ρ 4 (n - 1 - j))) (zn (ρ 5 (n - 1 - j)))) (-1) (sDn ρ xs tm s n j).2.1, sPutT (sDn ρ xs tm s n j).2.2 (sPr (zn (ρ 4 (n - 1 - j)) * s) (zn (ρ 5 (n - 1 - j)) * s)) (-1))
theorem sDn_ch (ρ : zRS) (xs tm : Nat → Int32) (s n : Nat) : ∀ j, (∀ c, (sDn ρ xs tm s n j).1 4 c = ρ 4 c) ∧ (∀ c, (sDn ρ xs tm s n j).1 5 c = ρ 5 c) ∧ (∀ c, (sDn ρ xs tm s n j).1 6 c = ρ 6 c) ∧ (sDn ρ xs tm s n j).1 0 0 = ρ 0 0
  | 0 => ⟨fun _ => rfl, fun _ => rfl, fun _ => rfl, rfl⟩
  | j + 1 => by
    obtain ⟨h4, h5, h6, h0⟩ := sDn_ch ρ xs tm s n j
    exact ⟨fun c => h4 c, fun c => h5 c, fun c => h6 c, h0⟩
def sAllOff (ρ : zRS) (xs tm : Nat → Int32) (s n : Nat) : zRS := zset (sDn ρ xs tm s n n).1 0 (fun i => if i = 2 then ρ 0 2 else (sDn ρ xs tm s n n).1 0 i)
def sMGp (sh : Int32) : List Nat → Int32 × (Nat → Int32) → Int32 × (Nat → Int32)
  | [], S => S
  | q :: l, S => sMGp sh l (S.1 - sRel (S.2 q) sh, fun j => if j = q then S.2 q - sh else S.2 j)
theorem sMGp_snoc (sh : Int32) (q : Nat) : ∀ (l : List Nat) (S : Int32 × (Nat → Int32)), sMGp sh (l ++ [q]) S = ((sMGp sh l S).1 - sRel ((sMGp sh l S).2 q) sh, fun j => if j = q then (sMGp sh l S).2 q - sh else (sMGp sh l S).2 j)
  | [], S => rfl
  | x :: l, S => sMGp_snoc sh q l _
def sMG (ρ : zRS) (s : Nat) : Nat → Int32 × (Nat → Int32)
  | 0 => (sSum (fun q => ρ 7 q * ρ 3 2) 144, fun q => ρ 7 q * ρ 3 2)
  | c + 1 => sMGp (ρ 1 (zn (ρ 6 c))) (sPa s (zn (ρ 4 c)) (zn (ρ 5 c))) (sMG ρ s c)
theorem zn_nI {n : Nat} (h : n < 2 ^ 31) : zn (nI n) = n := nI_clamp h
set_option maxRecDepth 10000 in
set_option maxHeartbeats 1000000 in
theorem c_takeAllOff {G : zW} {f0 : zHM} {m0 : Nat × Nat} {t r la n : Nat} {A : Nat → Nat} {ρ : zRS} {xs tm : Nat → Int32} (hr : RPic f0 t r la A ρ n xs tm) (ht : t ≤ 900) {N s : Nat} (hw : RW ρ N s n) {M : Nat × Nat} (hL : LNok f0 m0 la M) : zM G yX1_takeAllOff cX1_takeAllOff 3 none 6 [.ref r] (f0, m0) (zD none (fun f' m' => RPic f' t r la A (sAllOff ρ xs tm s n) 0 (sDn ρ xs tm s n n).2.1 (sDn ρ xs tm s n n).2.2 ∧ LNok f' m' la M ∧ zFr (zTR t) f0 f')) := by
  refine zM.of (by decide) (Nat.le_of_ble_eq_true rfl) ?_
  have r0 := hr.1
  have hn201 := hw.2.1
  have loop : ∀ (k j : Nat), j + k = n → ∀ (f : zHM) (m : Nat × Nat), RPic f t r la A (sDn ρ xs tm s n j).1 k (sDn ρ xs tm s n j).2.1 (sDn ρ xs tm s n j).2.2 → LNok f m la M → zFr (zTR t) f0 f → zV G yX1_takeAllOff cX1_takeAllOff 3 none 6 10 [(0, .ref r), (1, .int (ρ 0 2)), (2, .int (nI k))] [] (f, m) (zD none (fun f' m' => RPic f' t r la A (sAllOff ρ xs tm s n) 0 (sDn ρ xs tm s n n).2.1 (sDn ρ xs tm s n n).2.2 ∧ LNok f' m' la M ∧ zFr (zTR t) f0 f')) := by
    intro k
    induction k with
    | zero =>
      intro j hj f m hr hL hf0
      have hj : j = n := by omega
      subst hj
      have r0 := hr.1
      refine v_iload_n dX1_takeAllOff_10 rfl rfl ?_
      refine v_if_le 24 dX1_takeAllOff_11 (by decide) (fun b11 => ?_) (fun b11 => ?_)
      · refine v_aload_n dX1_takeAllOff_24 rfl rfl ?_
        refine v_iload_n dX1_takeAllOff_25 rfl rfl ?_
        refine v_putfieldX fX1_56 dX1_takeAllOff_26 (by assumption) rfl rfl (Nat.le_of_ble_eq_true rfl) (fun f hp => ?_)
        have hr := hr.pv.obj (ρ' := sAllOff ρ xs tm s j) (n' := 0) (fun k hk i => zset_ne hk i) hp
        have hf0 := zput_fr (k := 0) hf0 hp (by omega)
        have hL := zput_ln (k := 0) hL hp (by omega) ht
        exact v_return dX1_takeAllOff_29 rfl ⟨rfl, hr.pic, hL, hf0⟩
      · exact absurd (by rw [show (0 : Int32) = nI 0 from rfl, nI_leI (by omega) (by omega)]; omega) b11
    | succ k ih =>
      intro j hj f m hr hL hf0
      have r0 := hr.1
      have hch := sDn_ch ρ xs tm s n j
      obtain ⟨a, b, u, ha, hb, hn, hu, q4, q5, q6⟩ := hw.2.2 k (by omega)
      have hv9 : RV (sDn ρ xs tm s n j).1 N s := ⟨hch.2.2.2.trans hw.1.1, by unfold sStep; rw [hch.2.2.2]; exact hw.1.2.1, hw.1.2.2⟩
      have hr9 : RPic f t r la A (sDn ρ xs tm s n j).1 (k + 1) (sDn ρ xs tm s n j).2.1 (sDn ρ xs tm s n j).2.2 := hr
      have hN24 := hw.1.pos.2.1
      refine v_iload_n dX1_takeAllOff_10 rfl rfl ?_
      refine v_if_le 24 dX1_takeAllOff_11 (by decide) (fun b11 => ?_) (fun b11 => ?_)
      · exact absurd b11 (nI_nle (by omega) (by omega))
      · refine v_aload_n dX1_takeAllOff_14 rfl rfl ?_
        refine v_callV0 kX1_130 gi_X1_takeOff ge_X1_takeOff rfl dX1_takeAllOff_15 (by assumption) (c_takeOff hr9 ht (by omega) hv9 hL ha hb hn hu ((hch.1 k).trans q4) ((hch.2.1 k).trans q5) ((hch.2.2.1 k).trans q6)) rfl rfl (by decide) (Nat.le_of_ble_eq_true rfl) (fun f m hc => ?_)
        obtain ⟨hr, hL, hf9⟩ := hc
        have hf0 := hf0.trans hf9
        refine v_iincC (-1) dX1_takeAllOff_18 rfl (by decide) (by decide) ?_
        rw [pk_m1]
        refine v_goto 10 dX1_takeAllOff_21 (by decide) ?_
        refine v_loc (lv' := [(0, .ref r), (1, .int (ρ 0 2)), (2, .int (nI k))]) ⟨rfl, rfl, rfl, trivial⟩ (ih (j + 1) (by omega) f m ?_ hL hf0)
        have e9 : n - 1 - j = k := by omega
        have hst : sDn ρ xs tm s n (j + 1) = (sOff (sDn ρ xs tm s n j).1 s a b u, sInL (sPa s a b) (-1) (sDn ρ xs tm s n j).2.1, sPutT (sDn ρ xs tm s n j).2.2 (sPr (a * s) (b * s)) (-1)) := by
          show (sOff (sDn ρ xs tm s n j).1 s (zn (ρ 4 (n - 1 - j))) (zn (ρ 5 (n - 1 - j))) (zn (ρ 6 (n - 1 - j))), sInL (sPa s (zn (ρ 4 (n - 1 - j))) (zn (ρ 5 (n - 1 - j)))) (-1) (sDn ρ xs tm s n j).2.1, sPutT (sDn ρ xs tm s n j).2.2 (sPr (zn (ρ 4 (n - 1 - j)) * s) (zn (ρ 5 (n - 1 - j)) * s)) (-1)) = _
          rw [e9, q4, q5, q6, zn_nI (by omega), zn_nI (by omega), zn_nI (by omega)]
        obtain ⟨S9, hS9⟩ : ∃ z, z = sDn ρ xs tm s n (j + 1) := ⟨_, rfl⟩
        rw [← hS9] at hst ⊢
        exact hr.pv.eq (by rw [hst]) (by rw [hst]) (by rw [hst])
  refine v_aload_n dX1_takeAllOff_0 rfl rfl ?_
  refine v_getfield fX1_56 dX1_takeAllOff_1 (by assumption) (by rfl) ?_
  refine v_istore_n dX1_takeAllOff_4 rfl (by decide) ?_
  refine v_aload_n dX1_takeAllOff_5 rfl rfl ?_
  refine v_getfield fX1_68 dX1_takeAllOff_6 (by assumption) (by rfl) ?_
  refine v_istore_n dX1_takeAllOff_9 rfl (by decide) ?_
  exact v_loc (lv' := [(0, .ref r), (1, .int (ρ 0 2)), (2, .int (nI n))]) ⟨rfl, rfl, rfl, trivial⟩ (loop n 0 (by omega) f0 m0 hr hL zFr.refl)
set_option maxRecDepth 10000 in
set_option maxHeartbeats 1000000 in
theorem c_misfitByGains {G : zW} {f0 : zHM} {m0 : Nat × Nat} {t r la n : Nat} {A : Nat → Nat} {ρ : zRS} {xs tm : Nat → Int32} (hr : RPic f0 t r la A ρ n xs tm) (ht : t ≤ 900) {N s : Nat} (hw : RW ρ N s n) {M : Nat × Nat} (hL : LNok f0 m0 la M) {sc ts : Nat} {g0 : Nat → Int32} (hsc : f0 sc = some (ts, .inl (0, 144, .inl g0))) (hts : ts ≤ 940 ∧ (ts < t ∨ t + 10 < ts)) : zM G yX1_misfitByGains cX1_misfitByGains 9 (some .int) 4 [.ref r, .ref sc] (f0, m0) (zD (some (.int (sMG ρ s n).1)) (fun f' m' => (∃ g, f' sc = some (ts, .inl (0, 144, .inl g))) ∧ LNok f' m' la M ∧ zFr (fun τ => τ = 950 ∨ τ = ts) f0 f')) := by
  refine zM.of (by decide) (Nat.le_of_ble_eq_true rfl) ?_
  have r0 := hr.1
  have hn201 := hw.2.1
  have loop2 : ∀ (k c : Nat), c + k = n → ∀ (f : zHM) (m : Nat × Nat) (g : Nat → Int32) (S : Int32 × (Nat → Int32)), (S = sMG ρ s c ∧ True) → f sc = some (ts, .inl (0, 144, .inl g)) → (∀ j, j < 144 → g j = S.2 j) → RPic f t r la A ρ n xs tm → LNok f m la M → zFr (fun τ => τ = 950 ∨ τ = ts) f0 f → zV G yX1_misfitByGains cX1_misfitByGains 9 (some .int) 4 41 [(0, .ref r), (1, .ref sc), (2, .int S.1), (3, .int (nI c))] [] (f, m) (zD (some (.int (sMG ρ s n).1)) (fun f' m' => (∃ g, f' sc = some (ts, .inl (0, 144, .inl g))) ∧ LNok f' m' la M ∧ zFr (fun τ => τ = 950 ∨ τ = ts) f0 f')) := by
    intro k
    induction k with
    | zero =>
      intro c hc9 f m g S hS hsc hgs hr hL hf0
      have hc9 : c = n := by omega
      subst hc9
      obtain ⟨r0, ⟨g1, a1, e1⟩, ⟨g2, a2, e2⟩, ⟨g3, a3, e3⟩, ⟨g4, a4, e4⟩, ⟨g5, a5, e5⟩, ⟨g6, a6, e6⟩, ⟨g7, a7, e7⟩, ⟨g8, a8, e8⟩, ⟨g9, a9, e9⟩, ⟨g10, a10, e10⟩⟩ := id hr
      refine v_iload_n dX1_misfitByGains_41 rfl rfl ?_
      refine v_aload_n dX1_misfitByGains_42 rfl rfl ?_
      refine v_getfield fX1_68 dX1_misfitByGains_43 (by assumption) (by rfl) ?_
      refine v_icmp_ge 138 dX1_misfitByGains_46 (by decide) (fun b46 => ?_) (fun b46 => ?_)
      · refine v_iload_n dX1_misfitByGains_138 rfl rfl ?_
        exact v_ireturn dX1_misfitByGains_139 rfl ⟨by rw [hS.1], ⟨g, hsc⟩, hL, hf0⟩
      · exact absurd (nI_le (by omega) (by omega)) b46
    | succ k ih2 =>
      intro c hck f m g S hS hsc hgs hr hL hf0
      have hc9 : c < n := by omega
      obtain ⟨a, b, u, ha, hb, hn, hu, q4, q5, q6⟩ := hw.2.2 c hc9
      have hv9 := hw.1.pos
      have hpa0 := sPa_ok hw.1 ha hb hn
      obtain ⟨sh, hsh⟩ : ∃ z, z = ρ 1 u ∧ True := ⟨_, rfl, trivial⟩
      obtain ⟨S9, hS9⟩ : ∃ z, z = sMG ρ s (c + 1) ∧ True := ⟨_, rfl, trivial⟩
      have hst : sMGp sh (sPa s a b) S = S9 ∧ True := ⟨by
        rw [hS9.1, hS.1, hsh.1]
        show _ = sMGp (ρ 1 (zn (ρ 6 c))) (sPa s (zn (ρ 4 c)) (zn (ρ 5 c))) (sMG ρ s c)
        rw [q4, q5, q6, zn_nI (by omega), zn_nI (by omega), zn_nI (by omega)], trivial⟩
      obtain ⟨r0, ⟨g1, a1, e1⟩, ⟨g2, a2, e2⟩, ⟨g3, a3, e3⟩, ⟨g4, a4, e4⟩, ⟨g5, a5, e5⟩, ⟨g6, a6, e6⟩, ⟨g7, a7, e7⟩, ⟨g8, a8, e8⟩, ⟨g9, a9, e9⟩, ⟨g10, a10, e10⟩⟩ := id hr
      refine v_iload_n dX1_misfitByGains_41 rfl rfl ?_
      refine v_aload_n dX1_misfitByGains_42 rfl rfl ?_
      refine v_getfield fX1_68 dX1_misfitByGains_43 (by assumption) (by rfl) ?_
      refine v_icmp_ge 138 dX1_misfitByGains_46 (by decide) (fun b46 => ?_) (fun b46 => ?_)
      · exact absurd b46 (nI_ge hc9 (by omega))
      · refine v_aload_n dX1_misfitByGains_49 rfl rfl ?_
        refine v_getfield fX1_18 dX1_misfitByGains_50 (by assumption) (by rfl) ?_
        refine v_aload_n dX1_misfitByGains_53 rfl rfl ?_
        refine v_getfield fX1_34 dX1_misfitByGains_54 (by assumption) (by rfl) ?_
        refine v_iload_n dX1_misfitByGains_57 rfl rfl ?_
        refine v_iaload dX1_misfitByGains_58 (by assumption) (vp_in_nI (by omega) (by omega)) ?_
        rw [nI_clamp (by omega), e6 c hc9, q6]
        refine v_iaload dX1_misfitByGains_59 (by assumption) (vp_in_nI hu (by omega)) ?_
        rw [nI_clamp (by omega), e1 u hu, ← hsh.1]
        refine v_istore dX1_misfitByGains_60 (by decide) ?_
        refine v_aload_n dX1_misfitByGains_62 rfl rfl ?_
        refine v_aload_n dX1_misfitByGains_63 rfl rfl ?_
        refine v_getfield fX1_28 dX1_misfitByGains_64 (by assumption) (by rfl) ?_
        refine v_iload_n dX1_misfitByGains_67 rfl rfl ?_
        refine v_iaload dX1_misfitByGains_68 (by assumption) (vp_in_nI (by omega) (by omega)) ?_
        rw [nI_clamp (by omega), e4 c hc9, q4]
        refine v_aload_n dX1_misfitByGains_69 rfl rfl ?_
        refine v_getfield fX1_31 dX1_misfitByGains_70 (by assumption) (by rfl) ?_
        refine v_iload_n dX1_misfitByGains_73 rfl rfl ?_
        refine v_iaload dX1_misfitByGains_74 (by assumption) (vp_in_nI (by omega) (by omega)) ?_
        rw [nI_clamp (by omega), e5 c hc9, q5]
        refine v_callVr kX1_105 gi_X1_lineBetween ge_X1_lineBetween rfl dX1_misfitByGains_75 (by assumption) (c_lineBetween hr hw.1 ha hb hn hL) rfl rfl (by decide) (Nat.le_of_ble_eq_true rfl) (fun q f m hc => ?_)
        obtain ⟨hl9, hL, hf9⟩ := hc
        have hr := hr.fr hf9 (fun k hk => by show ¬ (t + k = 950); omega)
        obtain ⟨sq, gq, hq1, hq2, hq3⟩ := hl9
        obtain ⟨r0, ⟨g1, a1, e1⟩, ⟨g2, a2, e2⟩, ⟨g3, a3, e3⟩, ⟨g4, a4, e4⟩, ⟨g5, a5, e5⟩, ⟨g6, a6, e6⟩, ⟨g7, a7, e7⟩, ⟨g8, a8, e8⟩, ⟨g9, a9, e9⟩, ⟨g10, a10, e10⟩⟩ := id hr
        have hsc := hf9 _ _ _ hsc (by show ¬ ts = 950; omega)
        have hf0 := hf0.trans (hf9.weaken (T' := fun τ => τ = 950 ∨ τ = ts) (fun _ h => Or.inl h))
        replace hq2 : f sq = some (1000 + 2 * sPr (a * s) (b * s) + 1, .inl (0, (sPa s a b).length, .inl gq)) := hq2
        replace hq3 : ∀ i, i < (sPa s a b).length → gq i = nI ((sPa s a b).getD i 0) := hq3
        generalize hPL0 : sPa s a b = PL at hq2 hq3 hpa0 hst
        replace hPL0 : sPa s a b = PL ∧ True := ⟨hPL0, trivial⟩
        have loop3 : ∀ (k i : Nat), i + k = PL.length → ∀ (f : zHM) (g : Nat → Int32), f sc = some (ts, .inl (0, 144, .inl g)) → (∀ j, j < 144 → g j = (sMGp sh (PL.take i) S).2 j) → RPic f t r la A ρ n xs tm → LNok f m la M → zFr (fun τ => τ = 950 ∨ τ = ts) f0 f → f q = some (1000 + 2 * sPr (a * s) (b * s), .inr (0, [.int (nI (sLen (min (a * s) (b * s)) (max (a * s) (b * s)))), .ref sq])) → f sq = some (1000 + 2 * sPr (a * s) (b * s) + 1, .inl (0, PL.length, .inl gq)) → zV G yX1_misfitByGains cX1_misfitByGains 9 (some .int) 4 91 [(0, .ref r), (1, .ref sc), (2, .int (sMGp sh (PL.take i) S).1), (3, .int (nI c)), (4, .int sh), (5, .ref sq), (6, .int (nI PL.length)), (7, .int (nI i))] [] (f, m) (zD (some (.int (sMG ρ s n).1)) (fun f' m' => (∃ g, f' sc = some (ts, .inl (0, 144, .inl g))) ∧ LNok f' m' la M ∧ zFr (fun τ => τ = 950 ∨ τ = ts) f0 f')) := by
          intro k
          induction k with
          | zero =>
            intro i hi f g hsc hgs hr hL hf0 hq1 hq2
            have hi : i = PL.length := by omega
            subst hi
            refine v_iload dX1_misfitByGains_91 rfl ?_
            refine v_iload dX1_misfitByGains_93 rfl ?_
            refine v_icmp_ge 132 dX1_misfitByGains_95 (by decide) (fun b95 => ?_) (fun b95 => ?_)
            · refine v_iincN dX1_misfitByGains_132 rfl (by decide) ?_
              refine v_goto 41 dX1_misfitByGains_135 (by decide) ?_
              exact v_loc (lv' := [(0, .ref r), (1, .ref sc), (2, .int S9.1), (3, .int (nI (c + 1)))]) ⟨rfl, rfl, zlkE rfl (by rw [List.take_length, hst.1]), rfl, trivial⟩ (ih2 (c + 1) (by omega) f m g S9 hS9 hsc (fun j hj => (hgs j hj).trans (by rw [List.take_length, hst.1])) hr hL hf0)
            · exact absurd (nI_le (by omega) (by omega)) b95
          | succ k ih =>
            intro i hi f g hsc hgs hr hL hf0 hq1 hq2
            have h9 : i < PL.length := by omega
            have hq9 : PL.getD i 0 < 144 := hpa0.2.2 _ (by rw [List.getD, List.getElem?_eq_getElem h9]; exact List.getElem_mem h9)
            obtain ⟨r0, ⟨g1, a1, e1⟩, ⟨g2, a2, e2⟩, ⟨g3, a3, e3⟩, ⟨g4, a4, e4⟩, ⟨g5, a5, e5⟩, ⟨g6, a6, e6⟩, ⟨g7, a7, e7⟩, ⟨g8, a8, e8⟩, ⟨g9, a9, e9⟩, ⟨g10, a10, e10⟩⟩ := id hr
            refine v_iload dX1_misfitByGains_91 rfl ?_
            refine v_iload dX1_misfitByGains_93 rfl ?_
            refine v_icmp_ge 132 dX1_misfitByGains_95 (by decide) (fun b95 => ?_) (fun b95 => ?_)
            · exact absurd b95 (nI_ge h9 (by omega))
            · refine v_aload dX1_misfitByGains_98 rfl ?_
              refine v_iload dX1_misfitByGains_100 rfl ?_
              refine v_iaload dX1_misfitByGains_102 (by assumption) (vp_in_nI h9 (by omega)) ?_
              rw [nI_clamp (by omega), hq3 i h9]
              refine v_istore dX1_misfitByGains_103 (by decide) ?_
              refine v_iload_n dX1_misfitByGains_105 rfl rfl ?_
              refine v_aload_n dX1_misfitByGains_106 rfl rfl ?_
              refine v_iload dX1_misfitByGains_107 rfl ?_
              refine v_iaload dX1_misfitByGains_109 (by assumption) (vp_in_nI hq9 (by omega)) ?_
              rw [nI_clamp (by omega), hgs _ hq9]
              refine v_iload dX1_misfitByGains_110 rfl ?_
              refine v_callSp kX1_117 gs_X1_relief dX1_misfitByGains_112 c_relief rfl rfl (by decide) (Nat.le_of_ble_eq_true rfl) ?_
              refine v_isub dX1_misfitByGains_115 ?_
              refine v_istore_n dX1_misfitByGains_116 rfl (by decide) ?_
              refine v_aload_n dX1_misfitByGains_117 rfl rfl ?_
              refine v_iload dX1_misfitByGains_118 rfl ?_
              refine v_dup2 dX1_misfitByGains_120 rfl rfl ?_
              refine v_iaload dX1_misfitByGains_121 (by assumption) (vp_in_nI hq9 (by omega)) ?_
              rw [nI_clamp (by omega), hgs _ hq9]
              refine v_iload dX1_misfitByGains_122 rfl ?_
              refine v_isub dX1_misfitByGains_124 ?_
              refine v_iastoreX dX1_misfitByGains_125 (by assumption) (vp_in_nI hq9 (by omega)) (fun f hp => ?_)
              have hsc := hp.1
              have hf0 : zFr (fun τ => τ = 950 ∨ τ = ts) f0 f := hf0.put hp (Or.inr rfl)
              have hfp := zFr.put (T := fun τ => τ = ts) zFr.refl hp rfl
              have hr := hr.fr hfp (fun k hk => by show ¬ (t + k = ts); omega)
              have hL := hL.fr hfp (fun τ h1 h2 => by have h2 : τ = ts := h2; omega)
              have hq1 := hp.ne hq1 (by omega)
              have hq2 := hp.ne hq2 (by omega)
              have hgs9 : ∀ j, j < 144 → upd g (nI (PL.getD i 0)).toNatClampNeg ((sMGp sh (PL.take i) S).2 (PL.getD i 0) - sh) j = (sMGp sh (PL.take (i + 1)) S).2 j := fun j hj => by
                rw [take_succ_getD _ _ h9, sMGp_snoc, nI_clamp (by omega)]; unfold upd
                by_cases h : j = PL.getD i 0
                · rw [if_pos h]; exact (if_pos h).symm
                · rw [if_neg h, hgs j hj]; exact (if_neg h).symm
              refine v_iincN dX1_misfitByGains_126 rfl (by decide) ?_
              refine v_goto 91 dX1_misfitByGains_129 (by decide) ?_
              exact v_loc (lv' := [(0, .ref r), (1, .ref sc), (2, .int (sMGp sh (PL.take (i + 1)) S).1), (3, .int (nI c)), (4, .int sh), (5, .ref sq), (6, .int (nI PL.length)), (7, .int (nI (i + 1)))]) ⟨rfl, rfl, zlkE rfl (by rw [take_succ_getD _ _ h9, sMGp_snoc]), rfl, rfl, rfl, rfl, rfl, trivial⟩ (ih (i + 1) (by omega) f _ hsc hgs9 hr hL hf0 hq1 hq2)
        refine v_getfield fX1_114 dX1_misfitByGains_78 (by assumption) (by rfl) ?_
        refine v_astore dX1_misfitByGains_81 (by decide) ?_
        refine v_aload dX1_misfitByGains_83 rfl ?_
        refine v_alen dX1_misfitByGains_85 (by assumption) (by decide) ?_
        refine v_istore dX1_misfitByGains_86 (by decide) ?_
        refine v_iconst (nI 0) dX1_misfitByGains_88 (by decide) ?_
        refine v_istore dX1_misfitByGains_89 (by decide) ?_
        exact v_loc (lv' := [(0, .ref r), (1, .ref sc), (2, .int (sMGp sh (PL.take 0) S).1), (3, .int (nI c)), (4, .int sh), (5, .ref sq), (6, .int (nI PL.length)), (7, .int (nI 0))]) ⟨rfl, rfl, rfl, rfl, rfl, rfl, rfl, rfl, trivial⟩ (loop3 PL.length 0 (by omega) f g hsc hgs hr hL hf0 hq1 hq2)
  have loop1 : ∀ (k i : Nat), i + k = 144 → ∀ (f : zHM) (g : Nat → Int32), f sc = some (ts, .inl (0, 144, .inl g)) → (∀ j, j < i → g j = (fun q => ρ 7 q * ρ 3 2) j) → RPic f t r la A ρ n xs tm → LNok f m0 la M → zFr (fun τ => τ = 950 ∨ τ = ts) f0 f → zV G yX1_misfitByGains cX1_misfitByGains 9 (some .int) 4 4 [(0, .ref r), (1, .ref sc), (2, .int (sSum (fun q => ρ 7 q * ρ 3 2) i)), (3, .int (nI i))] [] (f, m0) (zD (some (.int (sMG ρ s n).1)) (fun f' m' => (∃ g, f' sc = some (ts, .inl (0, 144, .inl g))) ∧ LNok f' m' la M ∧ zFr (fun τ => τ = 950 ∨ τ = ts) f0 f')) := by
    intro k
    induction k with
    | zero =>
      intro i hi f g hsc hgs hr hL hf0
      have hi : i = 144 := by omega
      subst hi
      obtain ⟨r0, ⟨g1, a1, e1⟩, ⟨g2, a2, e2⟩, ⟨g3, a3, e3⟩, ⟨g4, a4, e4⟩, ⟨g5, a5, e5⟩, ⟨g6, a6, e6⟩, ⟨g7, a7, e7⟩, ⟨g8, a8, e8⟩, ⟨g9, a9, e9⟩, ⟨g10, a10, e10⟩⟩ := id hr
      refine v_iload_n dX1_misfitByGains_4 rfl rfl ?_
      refine v_sipush (nI 144) dX1_misfitByGains_5 (by decide) ?_
      refine v_icmp_ge 39 dX1_misfitByGains_8 (by decide) (fun b8 => ?_) (fun b8 => ?_)
      · refine v_iconst (nI 0) dX1_misfitByGains_39 (by decide) ?_
        refine v_istore_n dX1_misfitByGains_40 rfl (by decide) ?_
        exact v_loc (lv' := [(0, .ref r), (1, .ref sc), (2, .int (sMG ρ s 0).1), (3, .int (nI 0))]) ⟨rfl, rfl, rfl, rfl, trivial⟩ (loop2 n 0 (by omega) f m0 g (sMG ρ s 0) ⟨rfl, trivial⟩ hsc hgs hr hL hf0)
      · exact absurd (nI_le (by omega) (by omega)) b8
    | succ k ih =>
      intro i hi f g hsc hgs hr hL hf0
      have h9 : i < 144 := by omega
      obtain ⟨r0, ⟨g1, a1, e1⟩, ⟨g2, a2, e2⟩, ⟨g3, a3, e3⟩, ⟨g4, a4, e4⟩, ⟨g5, a5, e5⟩, ⟨g6, a6, e6⟩, ⟨g7, a7, e7⟩, ⟨g8, a8, e8⟩, ⟨g9, a9, e9⟩, ⟨g10, a10, e10⟩⟩ := id hr
      refine v_iload_n dX1_misfitByGains_4 rfl rfl ?_
      refine v_sipush (nI 144) dX1_misfitByGains_5 (by decide) ?_
      refine v_icmp_ge 39 dX1_misfitByGains_8 (by decide) (fun b8 => ?_) (fun b8 => ?_)
      · exact absurd b8 (nI_ge h9 (by omega))
      · refine v_aload_n dX1_misfitByGains_11 rfl rfl ?_
        refine v_iload_n dX1_misfitByGains_12 rfl rfl ?_
        refine v_aload_n dX1_misfitByGains_13 rfl rfl ?_
        refine v_getfield fX1_37 dX1_misfitByGains_14 (by assumption) (by rfl) ?_
        refine v_iload_n dX1_misfitByGains_17 rfl rfl ?_
        refine v_iaload dX1_misfitByGains_18 (by assumption) (vp_in_nI (by omega) (by omega)) ?_
        rw [nI_clamp (by omega), e7 i h9]
        refine v_aload_n dX1_misfitByGains_19 rfl rfl ?_
        refine v_getfield fX1_25 dX1_misfitByGains_20 (by assumption) (by rfl) ?_
        refine v_iconst (nI 2) dX1_misfitByGains_23 (by decide) ?_
        refine v_iaload dX1_misfitByGains_24 (by assumption) (by unfold vp_in; decide) ?_
        rw [show g3 (nI 2).toNatClampNeg = ρ 3 2 from e3 2 (by omega)]
        refine v_imul dX1_misfitByGains_25 ?_
        refine v_iastoreX dX1_misfitByGains_26 (by assumption) (vp_in_nI (by omega) (by omega)) (fun f hp => ?_)
        have hsc := hp.1
        have hf0 : zFr (fun τ => τ = 950 ∨ τ = ts) f0 f := hf0.put hp (Or.inr rfl)
        have hfp := zFr.put (T := fun τ => τ = ts) zFr.refl hp rfl
        have hr := hr.fr hfp (fun k hk => by show ¬ (t + k = ts); omega)
        have hL := hL.fr hfp (fun τ h1 h2 => by have h2 : τ = ts := h2; omega)
        obtain ⟨r0, ⟨g1, a1, e1⟩, ⟨g2, a2, e2⟩, ⟨g3, a3, e3⟩, ⟨g4, a4, e4⟩, ⟨g5, a5, e5⟩, ⟨g6, a6, e6⟩, ⟨g7, a7, e7⟩, ⟨g8, a8, e8⟩, ⟨g9, a9, e9⟩, ⟨g10, a10, e10⟩⟩ := id hr
        refine v_iload_n dX1_misfitByGains_27 rfl rfl ?_
        refine v_aload_n dX1_misfitByGains_28 rfl rfl ?_
        refine v_iload_n dX1_misfitByGains_29 rfl rfl ?_
        refine v_iaload dX1_misfitByGains_30 (by assumption) (vp_in_nI (by omega) (by omega)) ?_
        rw [nI_clamp (by omega), pk_us]
        refine v_iadd dX1_misfitByGains_31 ?_
        refine v_istore_n dX1_misfitByGains_32 rfl (by decide) ?_
        refine v_iincN dX1_misfitByGains_33 rfl (by decide) ?_
        refine v_goto 4 dX1_misfitByGains_36 (by decide) ?_
        exact v_loc (lv' := [(0, .ref r), (1, .ref sc), (2, .int (sSum (fun q => ρ 7 q * ρ 3 2) (i + 1))), (3, .int (nI (i + 1)))]) ⟨rfl, rfl, rfl, rfl, trivial⟩ (ih (i + 1) (by omega) f _ hsc (fun j hj => by
          rw [nI_clamp (by omega)]
          by_cases h : j = i
          · subst h; rw [pk_us]
          · rw [pk_un h, hgs j (by omega)]) hr hL hf0)
  refine v_iconst (0) dX1_misfitByGains_0 (by decide) ?_
  refine v_istore_n dX1_misfitByGains_1 rfl (by decide) ?_
  refine v_iconst (0) dX1_misfitByGains_2 (by decide) ?_
  refine v_istore_n dX1_misfitByGains_3 rfl (by decide) ?_
  exact v_loc (lv' := [(0, .ref r), (1, .ref sc), (2, .int (sSum (fun q => ρ 7 q * ρ 3 2) 0)), (3, .int (nI 0))]) ⟨rfl, rfl, rfl, rfl, trivial⟩ (loop1 144 0 rfl f0 g0 hsc (fun j hj => absurd hj (Nat.not_lt_zero j)) hr hL zFr.refl)
