set_option maxRecDepth 10000 in
set_option maxHeartbeats 1000000 in
theorem c_withSquares {G : zW} {f : zHM} {m : Nat × Nat} {o r tr sc tx sl sv k la n : Nat} {A : Nat → Nat} {ρ : zRS} {xs tm : Nat → Int32} (ho : f o = some (600, .inr (3, zOb r tr sc tx sl sv k))) (hr : RPic f 0 r la A ρ n xs tm) (hn201 : n ≤ 201) {M : Nat × Nat} (hL : LNok f m la M) {N s : Nat} (hw : RW ρ N s n) {a u : Nat} (ha : a < N) (hu : u < 3) (hat : ρ 0 1 = nI a) (hnow : ρ 0 2 = nI u) (hh : Int64) : zM G yX3_withSquares cX3_withSquares 8 (some .long) 8 [.ref o, .long hh] (f, m) (zD (some (.long (sHg (fun i h => sHg (fun j h => sHf (sSquare ρ xs (i * 12 + j)) 4 h) 12 h) 12 hh))) (fun f' m' => LNok f' m' la M ∧ zFr zT9 f f')) := by
  refine zM.of (by decide) (Nat.le_of_ble_eq_true rfl) ?_
  have hv := hw.1
  have hv9 := hv.pos
  have hN24 := hv9.2.1
  have inner : ∀ (i : Nat) (hi : i < 12) (j : Nat) (hj : j < 12) (h0 : Int64) (hex : ∀ (f2 : zHM) (m2 : Nat × Nat), f2 o = some (600, .inr (3, zOb r tr sc tx sl sv k)) → RPic f2 0 r la A ρ n xs tm → LNok f2 m2 la M → zFr zT9 f f2 → zV G yX3_withSquares cX3_withSquares 8 (some .long) 8 55 [(0, .ref o), (5, .int (nI i)), (6, .int (nI j)), (3, .long (sHf (sSquare ρ xs (i * 12 + j)) 4 h0))] [] (f2, m2) (zD (some (.long (sHg (fun i h => sHg (fun j h => sHf (sSquare ρ xs (i * 12 + j)) 4 h) 12 h) 12 hh))) (fun f' m' => LNok f' m' la M ∧ zFr zT9 f f'))) (kk w : Nat), w + kk = 4 → ∀ (f2 : zHM) (m2 : Nat × Nat), f2 o = some (600, .inr (3, zOb r tr sc tx sl sv k)) → RPic f2 0 r la A ρ n xs tm → LNok f2 m2 la M → zFr zT9 f f2 → zV G yX3_withSquares cX3_withSquares 8 (some .long) 8 25 [(0, .ref o), (5, .int (nI i)), (6, .int (nI j)), (3, .long (sHf (sSquare ρ xs (i * 12 + j)) w h0)), (7, .int (nI w))] [] (f2, m2) (zD (some (.long (sHg (fun i h => sHg (fun j h => sHf (sSquare ρ xs (i * 12 + j)) 4 h) 12 h) 12 hh))) (fun f' m' => LNok f' m' la M ∧ zFr zT9 f f')) := by
    intro i hi j hj h0 hex kk
    induction kk with
    | zero =>
      intro w hw9 f2 m2 ho2 hr2 hL2 hff
      have hw9 : w = 4 := by omega
      subst hw9
      refine v_iload dX3_withSquares_25 rfl ?_
      refine v_iconst (nI 3) dX3_withSquares_27 (by decide) ?_
      refine v_icmp_gt 55 dX3_withSquares_28 (by decide) (fun b28 => ?_) (fun b28 => ?_)
      · rw [nI_ltI (by omega) (by omega)] at b28
        exact v_loc (lv' := [(0, .ref o), (5, .int (nI i)), (6, .int (nI j)), (3, .long (sHf (sSquare ρ xs (i * 12 + j)) 4 h0))]) ⟨rfl, rfl, rfl, rfl, trivial⟩ (hex _ _ ho2 hr2 hL2 hff)
      · rw [nI_ltI (by omega) (by omega)] at b28
        omega
    | succ kk ih =>
      intro w hw9 f2 m2 ho2 hr2 hL2 hff
      have hwK : w < 4 := by omega
      have r02 := hr2.1
      refine v_iload dX3_withSquares_25 rfl ?_
      refine v_iconst (nI 3) dX3_withSquares_27 (by decide) ?_
      refine v_icmp_gt 55 dX3_withSquares_28 (by decide) (fun b28 => ?_) (fun b28 => ?_)
      · rw [nI_ltI (by omega) (by omega)] at b28
        omega
      · rw [nI_ltI (by omega) (by omega)] at b28
        refine v_ldc2 (31) dX3_withSquares_31 gD31 ?_
        refine v_lload_n dX3_withSquares_34 rfl rfl ?_
        refine v_lmul dX3_withSquares_35 ?_
        refine v_aload_n dX3_withSquares_36 rfl rfl ?_
        refine v_iload dX3_withSquares_37 rfl ?_
        refine v_iload dX3_withSquares_39 rfl ?_
        refine v_iload dX3_withSquares_41 rfl ?_
        refine v_callVp kX3_311 gi_X3_square ge_X3_square rfl dX3_withSquares_43 (by assumption) (c_square ho2 hr2 hj hi (by omega)) rfl rfl (by decide) (Nat.le_of_ble_eq_true rfl) ?_
        refine v_i2l dX3_withSquares_46 ?_
        refine v_ladd dX3_withSquares_47 ?_
        rw [sHf_s (sSquare ρ xs (i * 12 + j)) w h0]
        refine v_lstore_n dX3_withSquares_48 rfl (by decide) ?_
        refine v_iincN dX3_withSquares_49 rfl (by decide) ?_
        refine v_goto 25 dX3_withSquares_52 (by decide) ?_
        exact v_loc (lv' := [(0, .ref o), (5, .int (nI i)), (6, .int (nI j)), (3, .long (sHf (sSquare ρ xs (i * 12 + j)) (w + 1) h0)), (7, .int (nI (w + 1)))]) ⟨rfl, rfl, rfl, rfl, rfl, trivial⟩ (ih (w + 1) (by omega) _ _ ho2 hr2 hL2 hff)
  have mid : ∀ (i : Nat) (hi : i < 12) (h0 : Int64) (hex : ∀ (f2 : zHM) (m2 : Nat × Nat), f2 o = some (600, .inr (3, zOb r tr sc tx sl sv k)) → RPic f2 0 r la A ρ n xs tm → LNok f2 m2 la M → zFr zT9 f f2 → zV G yX3_withSquares cX3_withSquares 8 (some .long) 8 61 [(0, .ref o), (5, .int (nI i)), (3, .long (sHg (fun j h => sHf (sSquare ρ xs (i * 12 + j)) 4 h) 12 h0))] [] (f2, m2) (zD (some (.long (sHg (fun i h => sHg (fun j h => sHf (sSquare ρ xs (i * 12 + j)) 4 h) 12 h) 12 hh))) (fun f' m' => LNok f' m' la M ∧ zFr zT9 f f'))) (kk j : Nat), j + kk = 12 → ∀ (f2 : zHM) (m2 : Nat × Nat), f2 o = some (600, .inr (3, zOb r tr sc tx sl sv k)) → RPic f2 0 r la A ρ n xs tm → LNok f2 m2 la M → zFr zT9 f f2 → zV G yX3_withSquares cX3_withSquares 8 (some .long) 8 15 [(0, .ref o), (5, .int (nI i)), (3, .long (sHg (fun j h => sHf (sSquare ρ xs (i * 12 + j)) 4 h) j h0)), (6, .int (nI j))] [] (f2, m2) (zD (some (.long (sHg (fun i h => sHg (fun j h => sHf (sSquare ρ xs (i * 12 + j)) 4 h) 12 h) 12 hh))) (fun f' m' => LNok f' m' la M ∧ zFr zT9 f f')) := by
    intro i hi h0 hex kk
    induction kk with
    | zero =>
      intro j hj9 f2 m2 ho2 hr2 hL2 hff
      have hj9 : j = 12 := by omega
      subst hj9
      refine v_iload dX3_withSquares_15 rfl ?_
      refine v_bipush (nI 12) dX3_withSquares_17 (by decide) ?_
      refine v_icmp_ge 61 dX3_withSquares_19 (by decide) (fun b19 => ?_) (fun b19 => ?_)
      · rw [nI_leI (by omega) (by omega)] at b19
        exact v_loc (lv' := [(0, .ref o), (5, .int (nI i)), (3, .long (sHg (fun j h => sHf (sSquare ρ xs (i * 12 + j)) 4 h) 12 h0))]) ⟨rfl, rfl, rfl, trivial⟩ (hex _ _ ho2 hr2 hL2 hff)
      · rw [nI_leI (by omega) (by omega)] at b19
        omega
    | succ kk ih =>
      intro j hj9 f2 m2 ho2 hr2 hL2 hff
      have hj : j < 12 := by omega
      refine v_iload dX3_withSquares_15 rfl ?_
      refine v_bipush (nI 12) dX3_withSquares_17 (by decide) ?_
      refine v_icmp_ge 61 dX3_withSquares_19 (by decide) (fun b19 => ?_) (fun b19 => ?_)
      · rw [nI_leI (by omega) (by omega)] at b19
        omega
      · rw [nI_leI (by omega) (by omega)] at b19
        refine v_iconst (nI 0) dX3_withSquares_22 (by decide) ?_
        refine v_istore dX3_withSquares_23 (by decide) ?_
        refine v_loc (lv' := [(0, .ref o), (5, .int (nI i)), (6, .int (nI j)), (3, .long (sHf (sSquare ρ xs (i * 12 + j)) 0 (sHg (fun j h => sHf (sSquare ρ xs (i * 12 + j)) 4 h) j h0))), (7, .int (nI 0))]) ⟨rfl, rfl, rfl, rfl, rfl, trivial⟩ (inner i hi j hj (sHg (fun j h => sHf (sSquare ρ xs (i * 12 + j)) 4 h) j h0) (fun f2 m2 ho2 hr2 hL2 hff => ?_) 4 0 (by omega) _ _ ho2 hr2 hL2 hff)
        rw [show sHf (sSquare ρ xs (i * 12 + j)) 4 (sHg (fun j h => sHf (sSquare ρ xs (i * 12 + j)) 4 h) j h0) = sHg (fun j h => sHf (sSquare ρ xs (i * 12 + j)) 4 h) (j + 1) h0 from rfl]
        refine v_iincN dX3_withSquares_55 rfl (by decide) ?_
        refine v_goto 15 dX3_withSquares_58 (by decide) ?_
        exact v_loc (lv' := [(0, .ref o), (5, .int (nI i)), (3, .long (sHg (fun j h => sHf (sSquare ρ xs (i * 12 + j)) 4 h) (j + 1) h0)), (6, .int (nI (j + 1)))]) ⟨rfl, rfl, rfl, rfl, trivial⟩ (ih (j + 1) (by omega) _ _ ho2 hr2 hL2 hff)
  have outer : ∀ (kk i : Nat), i + kk = 12 → ∀ (f2 : zHM) (m2 : Nat × Nat), f2 o = some (600, .inr (3, zOb r tr sc tx sl sv k)) → RPic f2 0 r la A ρ n xs tm → LNok f2 m2 la M → zFr zT9 f f2 → zV G yX3_withSquares cX3_withSquares 8 (some .long) 8 5 [(0, .ref o), (3, .long (sHg (fun i h => sHg (fun j h => sHf (sSquare ρ xs (i * 12 + j)) 4 h) 12 h) i hh)), (5, .int (nI i))] [] (f2, m2) (zD (some (.long (sHg (fun i h => sHg (fun j h => sHf (sSquare ρ xs (i * 12 + j)) 4 h) 12 h) 12 hh))) (fun f' m' => LNok f' m' la M ∧ zFr zT9 f f')) := by
    intro kk
    induction kk with
    | zero =>
      intro i hi9 f2 m2 ho2 hr2 hL2 hff
      have hi9 : i = 12 := by omega
      subst hi9
      refine v_iload dX3_withSquares_5 rfl ?_
      refine v_bipush (nI 12) dX3_withSquares_7 (by decide) ?_
      refine v_icmp_ge 67 dX3_withSquares_9 (by decide) (fun b9 => ?_) (fun b9 => ?_)
      · rw [nI_leI (by omega) (by omega)] at b9
        refine v_lload_n dX3_withSquares_67 rfl rfl ?_
        exact v_lreturn dX3_withSquares_68 rfl ⟨rfl, hL2, hff⟩
      · rw [nI_leI (by omega) (by omega)] at b9
        omega
    | succ kk ih =>
      intro i hi9 f2 m2 ho2 hr2 hL2 hff
      have hi : i < 12 := by omega
      refine v_iload dX3_withSquares_5 rfl ?_
      refine v_bipush (nI 12) dX3_withSquares_7 (by decide) ?_
      refine v_icmp_ge 67 dX3_withSquares_9 (by decide) (fun b9 => ?_) (fun b9 => ?_)
      · rw [nI_leI (by omega) (by omega)] at b9
        omega
      · rw [nI_leI (by omega) (by omega)] at b9
        refine v_iconst (nI 0) dX3_withSquares_12 (by decide) ?_
        refine v_istore dX3_withSquares_13 (by decide) ?_
        generalize hX : sHg (fun i h => sHg (fun j h => sHf (sSquare ρ xs (i * 12 + j)) 4 h) 12 h) i hh = X0
        refine v_loc (lv' := [(0, .ref o), (5, .int (nI i)), (3, .long (sHg (fun j h => sHf (sSquare ρ xs (i * 12 + j)) 4 h) 0 X0)), (6, .int (nI 0))]) ⟨rfl, rfl, rfl, rfl, trivial⟩ (mid i hi X0 (fun f2 m2 ho2 hr2 hL2 hff => ?_) 12 0 (by omega) _ _ ho2 hr2 hL2 hff)
        rw [show sHg (fun j h => sHf (sSquare ρ xs (i * 12 + j)) 4 h) 12 X0 = sHg (fun i h => sHg (fun j h => sHf (sSquare ρ xs (i * 12 + j)) 4 h) 12 h) (i + 1) hh from by rw [← hX]; exact sHg_s (fun i h => sHg (fun j h => sHf (sSquare ρ xs (i * 12 + j)) 4 h) 12 h) i hh]
        refine v_iincN dX3_withSquares_61 rfl (by decide) ?_
        refine v_goto 5 dX3_withSquares_64 (by decide) ?_
        exact v_loc (lv' := [(0, .ref o), (3, .long (sHg (fun i h => sHg (fun j h => sHf (sSquare ρ xs (i * 12 + j)) 4 h) 12 h) (i + 1) hh)), (5, .int (nI (i + 1)))]) ⟨rfl, rfl, rfl, trivial⟩ (ih (i + 1) (by omega) _ _ ho2 hr2 hL2 hff)
  refine v_lload_n dX3_withSquares_0 rfl rfl ?_
  refine v_lstore_n dX3_withSquares_1 rfl (by decide) ?_
  refine v_iconst (nI 0) dX3_withSquares_2 (by decide) ?_
  refine v_istore dX3_withSquares_3 (by decide) ?_
  exact v_loc (lv' := [(0, .ref o), (3, .long (sHg (fun i h => sHg (fun j h => sHf (sSquare ρ xs (i * 12 + j)) 4 h) 12 h) 0 hh)), (5, .int (nI 0))]) ⟨rfl, rfl, rfl, trivial⟩ (outer 12 0 (by omega) f m ho hr hL zFr.refl)
def sHn (ρ : zRS) (N s n : Nat) (tm : Nat → Int32) (a u i : Nat) (h : Int64) : Int64 := 31 * (31 * sHf (sNailOf ρ s n i) 4 h + (sRef N s (ρ 3 0) (ρ 3 1) (ρ 2 u) tm a i).toInt64) + (sGain9 ρ s u a i).toInt64
set_option maxRecDepth 10000 in
set_option maxHeartbeats 1000000 in
theorem c_withNails {G : zW} {f : zHM} {m : Nat × Nat} {o r tr sc tx sl sv k la n : Nat} {A : Nat → Nat} {ρ : zRS} {xs tm : Nat → Int32} (ho : f o = some (600, .inr (3, zOb r tr sc tx sl sv k))) (hr : RPic f 0 r la A ρ n xs tm) (hn201 : n ≤ 201) {M : Nat × Nat} (hL : LNok f m la M) {N s : Nat} (hw : RW ρ N s n) {a u : Nat} (ha : a < N) (hu : u < 3) (hat : ρ 0 1 = nI a) (hnow : ρ 0 2 = nI u) (hh : Int64) : zM G yX3_withNails cX3_withNails 7 (some .long) 8 [.ref o, .long hh] (f, m) (zD (some (.long (sHg (sHn ρ N s n tm a u) N hh))) (fun f' m' => LNok f' m' la M ∧ zFr zT9 f f')) := by
  refine zM.of (by decide) (Nat.le_of_ble_eq_true rfl) ?_
  have hv := hw.1
  have hv9 := hv.pos
  have hN24 := hv9.2.1
  have inner : ∀ (i : Nat) (hi : i < N) (h0 : Int64) (hex : ∀ (f2 : zHM) (m2 : Nat × Nat), f2 o = some (600, .inr (3, zOb r tr sc tx sl sv k)) → RPic f2 0 r la A ρ n xs tm → LNok f2 m2 la M → zFr zT9 f f2 → zV G yX3_withNails cX3_withNails 7 (some .long) 8 48 [(0, .ref o), (5, .int (nI i)), (3, .long (sHf (sNailOf ρ s n i) 4 h0))] [] (f2, m2) (zD (some (.long (sHg (sHn ρ N s n tm a u) N hh))) (fun f' m' => LNok f' m' la M ∧ zFr zT9 f f'))) (kk w : Nat), w + kk = 4 → ∀ (f2 : zHM) (m2 : Nat × Nat), f2 o = some (600, .inr (3, zOb r tr sc tx sl sv k)) → RPic f2 0 r la A ρ n xs tm → LNok f2 m2 la M → zFr zT9 f f2 → zV G yX3_withNails cX3_withNails 7 (some .long) 8 20 [(0, .ref o), (5, .int (nI i)), (3, .long (sHf (sNailOf ρ s n i) w h0)), (6, .int (nI w))] [] (f2, m2) (zD (some (.long (sHg (sHn ρ N s n tm a u) N hh))) (fun f' m' => LNok f' m' la M ∧ zFr zT9 f f')) := by
    intro i hi h0 hex kk
    induction kk with
    | zero =>
      intro w hw9 f2 m2 ho2 hr2 hL2 hff
      have hw9 : w = 4 := by omega
      subst hw9
      refine v_iload dX3_withNails_20 rfl ?_
      refine v_iconst (nI 3) dX3_withNails_22 (by decide) ?_
      refine v_icmp_gt 48 dX3_withNails_23 (by decide) (fun b23 => ?_) (fun b23 => ?_)
      · rw [nI_ltI (by omega) (by omega)] at b23
        exact v_loc (lv' := [(0, .ref o), (5, .int (nI i)), (3, .long (sHf (sNailOf ρ s n i) 4 h0))]) ⟨rfl, rfl, rfl, trivial⟩ (hex _ _ ho2 hr2 hL2 hff)
      · rw [nI_ltI (by omega) (by omega)] at b23
        omega
    | succ kk ih =>
      intro w hw9 f2 m2 ho2 hr2 hL2 hff
      have hwK : w < 4 := by omega
      have r02 := hr2.1
      refine v_iload dX3_withNails_20 rfl ?_
      refine v_iconst (nI 3) dX3_withNails_22 (by decide) ?_
      refine v_icmp_gt 48 dX3_withNails_23 (by decide) (fun b23 => ?_) (fun b23 => ?_)
      · rw [nI_ltI (by omega) (by omega)] at b23
        omega
      · rw [nI_ltI (by omega) (by omega)] at b23
        refine v_ldc2 (31) dX3_withNails_26 gD31 ?_
        refine v_lload_n dX3_withNails_29 rfl rfl ?_
        refine v_lmul dX3_withNails_30 ?_
        refine v_aload_n dX3_withNails_31 rfl rfl ?_
        refine v_iload dX3_withNails_32 rfl ?_
        refine v_iload dX3_withNails_34 rfl ?_
        refine v_callVp kX3_296 gi_X3_nailOf ge_X3_nailOf rfl dX3_withNails_36 (by assumption) (c_nailOf ho2 hr2 hv hn201 hi (by omega)) rfl rfl (by decide) (Nat.le_of_ble_eq_true rfl) ?_
        refine v_i2l dX3_withNails_39 ?_
        refine v_ladd dX3_withNails_40 ?_
        rw [sHf_s (sNailOf ρ s n i) w h0]
        refine v_lstore_n dX3_withNails_41 rfl (by decide) ?_
        refine v_iincN dX3_withNails_42 rfl (by decide) ?_
        refine v_goto 20 dX3_withNails_45 (by decide) ?_
        exact v_loc (lv' := [(0, .ref o), (5, .int (nI i)), (3, .long (sHf (sNailOf ρ s n i) (w + 1) h0)), (6, .int (nI (w + 1)))]) ⟨rfl, rfl, rfl, rfl, trivial⟩ (ih (w + 1) (by omega) _ _ ho2 hr2 hL2 hff)
  have outer : ∀ (kk i : Nat), i + kk = N → ∀ (f2 : zHM) (m2 : Nat × Nat), f2 o = some (600, .inr (3, zOb r tr sc tx sl sv k)) → RPic f2 0 r la A ρ n xs tm → LNok f2 m2 la M → zFr zT9 f f2 → zV G yX3_withNails cX3_withNails 7 (some .long) 8 5 [(0, .ref o), (3, .long (sHg (sHn ρ N s n tm a u) i hh)), (5, .int (nI i))] [] (f2, m2) (zD (some (.long (sHg (sHn ρ N s n tm a u) N hh))) (fun f' m' => LNok f' m' la M ∧ zFr zT9 f f')) := by
    intro kk
    induction kk with
    | zero =>
      intro i hi9 f2 m2 ho2 hr2 hL2 hff
      have hi9 : i = N := by omega
      subst hi9
      have r02 := hr2.1
      refine v_iload dX3_withNails_5 rfl ?_
      refine v_aload_n dX3_withNails_7 rfl rfl ?_
      refine v_getfield fX3_34 dX3_withNails_8 (by assumption) (by rfl) ?_
      refine v_getfield fX3_55 dX3_withNails_11 (by assumption) (by rfl) ?_
      rw [hv.1]
      refine v_icmp_ge 82 dX3_withNails_14 (by decide) (fun b14 => ?_) (fun b14 => ?_)
      · rw [nI_leI (by omega) (by omega)] at b14
        refine v_lload_n dX3_withNails_82 rfl rfl ?_
        exact v_lreturn dX3_withNails_83 rfl ⟨rfl, hL2, hff⟩
      · rw [nI_leI (by omega) (by omega)] at b14
        omega
    | succ kk ih =>
      intro i hi9 f2 m2 ho2 hr2 hL2 hff
      have hi : i < N := by omega
      have r02 := hr2.1
      refine v_iload dX3_withNails_5 rfl ?_
      refine v_aload_n dX3_withNails_7 rfl rfl ?_
      refine v_getfield fX3_34 dX3_withNails_8 (by assumption) (by rfl) ?_
      refine v_getfield fX3_55 dX3_withNails_11 (by assumption) (by rfl) ?_
      rw [hv.1]
      refine v_icmp_ge 82 dX3_withNails_14 (by decide) (fun b14 => ?_) (fun b14 => ?_)
      · rw [nI_leI (by omega) (by omega)] at b14
        omega
      · rw [nI_leI (by omega) (by omega)] at b14
        refine v_iconst (nI 0) dX3_withNails_17 (by decide) ?_
        refine v_istore dX3_withNails_18 (by decide) ?_
        refine v_loc (lv' := [(0, .ref o), (5, .int (nI i)), (3, .long (sHf (sNailOf ρ s n i) 0 (sHg (sHn ρ N s n tm a u) i hh))), (6, .int (nI 0))]) ⟨rfl, rfl, rfl, rfl, trivial⟩ (inner i hi (sHg (sHn ρ N s n tm a u) i hh) (fun f2 m2 ho2 hr2 hL2 hff => ?_) 4 0 (by omega) _ _ ho2 hr2 hL2 hff)
        refine v_ldc2 (31) dX3_withNails_48 gD31 ?_
        refine v_lload_n dX3_withNails_51 rfl rfl ?_
        refine v_lmul dX3_withNails_52 ?_
        refine v_aload_n dX3_withNails_53 rfl rfl ?_
        refine v_iload dX3_withNails_54 rfl ?_
        refine v_callV1 kX3_299 gi_X3_whyNot ge_X3_whyNot rfl dX3_withNails_56 (by assumption) (c_whyNot ho2 hr2 hv hL2 ha hu hat hnow hi) rfl rfl (by decide) (Nat.le_of_ble_eq_true rfl) (fun f m hc => ?_)
        have ho2 := hc.2 _ _ _ ho2 (by omega)
        have hr2 := hr2.fr hc.2 (fun k hk h => by omega)
        have hff := hff.trans hc.2
        have hL2 := hc.1
        refine v_i2l dX3_withNails_59 ?_
        refine v_ladd dX3_withNails_60 ?_
        refine v_lstore_n dX3_withNails_61 rfl (by decide) ?_
        refine v_ldc2 (31) dX3_withNails_62 gD31 ?_
        refine v_lload_n dX3_withNails_65 rfl rfl ?_
        refine v_lmul dX3_withNails_66 ?_
        refine v_aload_n dX3_withNails_67 rfl rfl ?_
        refine v_iload dX3_withNails_68 rfl ?_
        refine v_callV1 kX3_302 gi_X3_gain ge_X3_gain rfl dX3_withNails_70 (by assumption) (c_gain ho2 hr2 hv hL2 ha hu hat hnow hi) rfl rfl (by decide) (Nat.le_of_ble_eq_true rfl) (fun f m hc => ?_)
        have ho2 := hc.2 _ _ _ ho2 (by omega)
        have hr2 := hr2.fr hc.2 (fun k hk h => by omega)
        have hff := hff.trans hc.2
        have hL2 := hc.1
        refine v_i2l dX3_withNails_73 ?_
        refine v_ladd dX3_withNails_74 ?_
        refine v_lstore_n dX3_withNails_75 rfl (by decide) ?_
        refine v_iincN dX3_withNails_76 rfl (by decide) ?_
        refine v_goto 5 dX3_withNails_79 (by decide) ?_
        exact v_loc (lv' := [(0, .ref o), (3, .long (sHg (sHn ρ N s n tm a u) (i + 1) hh)), (5, .int (nI (i + 1)))]) ⟨rfl, rfl, rfl, trivial⟩ (ih (i + 1) (by omega) _ _ ho2 hr2 hL2 hff)
  refine v_lload_n dX3_withNails_0 rfl rfl ?_
  refine v_lstore_n dX3_withNails_1 rfl (by decide) ?_
  refine v_iconst (nI 0) dX3_withNails_2 (by decide) ?_
  refine v_istore dX3_withNails_3 (by decide) ?_
  exact v_loc (lv' := [(0, .ref o), (3, .long (sHg (sHn ρ N s n tm a u) 0 hh)), (5, .int (nI 0))]) ⟨rfl, rfl, rfl, trivial⟩ (outer N 0 (by omega) f m ho hr hL zFr.refl)
