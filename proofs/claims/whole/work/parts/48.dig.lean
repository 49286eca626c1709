theorem gD31 : Cond.constantLong RX3 250 31 ∈ GT := GT_in (by decide +kernel) (by decide +kernel)
theorem gD33 : Cond.constantLong RX3 248 3301 ∈ GT := GT_in (by decide +kernel) (by decide +kernel)
def sHf (g : Nat → Int32) : Nat → Int64 → Int64
  | 0, h => h
  | n + 1, h => 31 * sHf g n h + (g n).toInt64
theorem sHf_s (g : Nat → Int32) (n : Nat) (h : Int64) : 31 * sHf g n h + (g n).toInt64 = sHf g (n + 1) h := rfl
/-- .. over rows -/
def sHg (F : Nat → Int64 → Int64) : Nat → Int64 → Int64
  | 0, h => h
  | n + 1, h => F n (sHg F n h)
theorem sHg_s (F : Nat → Int64 → Int64) (n : Nat) (h : Int64) : F n (sHg F n h) = sHg F (n + 1) h := rfl
set_option maxRecDepth 10000 in
set_option maxHeartbeats 1000000 in
theorem c_withChord {G : zW} {f : zHM} {m : Nat × Nat} {o r tr sc tx sl sv k la n : Nat} {A : Nat → Nat} {ρ : zRS} {xs tm : Nat → Int32} (ho : f o = some (600, .inr (3, zOb r tr sc tx sl sv k))) (hr : RPic f 0 r la A ρ n xs tm) (hn201 : n ≤ 201) {M : Nat × Nat} (hL : LNok f m la M) {N s : Nat} (hw : RW ρ N s n) {a u : Nat} (ha : a < N) (hu : u < 3) (hat : ρ 0 1 = nI a) (hnow : ρ 0 2 = nI u) (hh : Int64) {p q : Nat} (hp : p < N) (hq : q < N) : zM G yX3_withChord cX3_withChord 8 (some .long) 8 [.ref o, .long hh, .int (nI p), .int (nI q)] (f, m) (zD (some (.long (sHf (sChord s tm p q) 3 hh))) (fun f' m' => LNok f' m' la M ∧ zFr zT9 f f')) := by
  refine zM.of (by decide) (Nat.le_of_ble_eq_true rfl) ?_
  have hv := hw.1
  have hv9 := hv.pos
  have hN24 := hv9.2.1
  have inner : ∀ (hex : ∀ (f2 : zHM) (m2 : Nat × Nat), f2 o = some (600, .inr (3, zOb r tr sc tx sl sv k)) → RPic f2 0 r la A ρ n xs tm → LNok f2 m2 la M → zFr zT9 f f2 → zV G yX3_withChord cX3_withChord 8 (some .long) 8 37 [(0, .ref o), (3, .int (nI p)), (4, .int (nI q)), (5, .long (sHf (sChord s tm p q) 3 hh))] [] (f2, m2) (zD (some (.long (sHf (sChord s tm p q) 3 hh))) (fun f' m' => LNok f' m' la M ∧ zFr zT9 f f'))) (kk w : Nat), w + kk = 3 → ∀ (f2 : zHM) (m2 : Nat × Nat), f2 o = some (600, .inr (3, zOb r tr sc tx sl sv k)) → RPic f2 0 r la A ρ n xs tm → LNok f2 m2 la M → zFr zT9 f f2 → zV G yX3_withChord cX3_withChord 8 (some .long) 8 6 [(0, .ref o), (3, .int (nI p)), (4, .int (nI q)), (5, .long (sHf (sChord s tm p q) w hh)), (7, .int (nI w))] [] (f2, m2) (zD (some (.long (sHf (sChord s tm p q) 3 hh))) (fun f' m' => LNok f' m' la M ∧ zFr zT9 f f')) := by
    intro hex kk
    induction kk with
    | zero =>
      intro w hw9 f2 m2 ho2 hr2 hL2 hff
      have hw9 : w = 3 := by omega
      subst hw9
      refine v_iload dX3_withChord_6 rfl ?_
      refine v_iconst (nI 2) dX3_withChord_8 (by decide) ?_
      refine v_icmp_gt 37 dX3_withChord_9 (by decide) (fun b9 => ?_) (fun b9 => ?_)
      · rw [nI_ltI (by omega) (by omega)] at b9
        exact v_loc (lv' := [(0, .ref o), (3, .int (nI p)), (4, .int (nI q)), (5, .long (sHf (sChord s tm p q) 3 hh))]) ⟨rfl, rfl, rfl, rfl, trivial⟩ (hex _ _ ho2 hr2 hL2 hff)
      · rw [nI_ltI (by omega) (by omega)] at b9
        omega
    | succ kk ih =>
      intro w hw9 f2 m2 ho2 hr2 hL2 hff
      have hwK : w < 3 := by omega
      have r02 := hr2.1
      refine v_iload dX3_withChord_6 rfl ?_
      refine v_iconst (nI 2) dX3_withChord_8 (by decide) ?_
      refine v_icmp_gt 37 dX3_withChord_9 (by decide) (fun b9 => ?_) (fun b9 => ?_)
      · rw [nI_ltI (by omega) (by omega)] at b9
        omega
      · rw [nI_ltI (by omega) (by omega)] at b9
        refine v_ldc2 (31) dX3_withChord_12 gD31 ?_
        refine v_lload dX3_withChord_15 rfl ?_
        refine v_lmul dX3_withChord_17 ?_
        refine v_aload_n dX3_withChord_18 rfl rfl ?_
        refine v_iload_n dX3_withChord_19 rfl rfl ?_
        refine v_iload dX3_withChord_20 rfl ?_
        refine v_iload dX3_withChord_22 rfl ?_
        refine v_callV1 kX3_315 gi_X3_chord ge_X3_chord rfl dX3_withChord_24 (by assumption) (c_chord ho2 hr2 hv hL2 hp hq (by omega)) rfl rfl (by decide) (Nat.le_of_ble_eq_true rfl) (fun f m hc => ?_)
        have ho2 := hc.2 _ _ _ ho2 (by omega)
        have hr2 := hr2.fr hc.2 (fun k hk h => by omega)
        have hff := hff.trans hc.2
        have hL2 := hc.1
        refine v_i2l dX3_withChord_27 ?_
        refine v_ladd dX3_withChord_28 ?_
        rw [sHf_s (sChord s tm p q) w hh]
        refine v_lstore dX3_withChord_29 (by decide) ?_
        refine v_iincN dX3_withChord_31 rfl (by decide) ?_
        refine v_goto 6 dX3_withChord_34 (by decide) ?_
        exact v_loc (lv' := [(0, .ref o), (3, .int (nI p)), (4, .int (nI q)), (5, .long (sHf (sChord s tm p q) (w + 1) hh)), (7, .int (nI (w + 1)))]) ⟨rfl, rfl, rfl, rfl, rfl, trivial⟩ (ih (w + 1) (by omega) _ _ ho2 hr2 hL2 hff)
  refine v_lload_n dX3_withChord_0 rfl rfl ?_
  refine v_lstore dX3_withChord_1 (by decide) ?_
  refine v_iconst (nI 0) dX3_withChord_3 (by decide) ?_
  refine v_istore dX3_withChord_4 (by decide) ?_
  refine v_loc (lv' := [(0, .ref o), (3, .int (nI p)), (4, .int (nI q)), (5, .long (sHf (sChord s tm p q) 0 hh)), (7, .int (nI 0))]) ⟨rfl, rfl, rfl, rfl, rfl, trivial⟩ (inner (fun f2 m2 ho2 hr2 hL2 hff => ?_) 3 0 (by omega) f m ho hr hL zFr.refl)
  refine v_lload dX3_withChord_37 rfl ?_
  exact v_lreturn dX3_withChord_39 rfl ⟨rfl, hL2, hff⟩
set_option maxRecDepth 10000 in
set_option maxHeartbeats 1000000 in
theorem c_withSpools {G : zW} {f : zHM} {m : Nat × Nat} {o r tr sc tx sl sv k la n : Nat} {A : Nat → Nat} {ρ : zRS} {xs tm : Nat → Int32} (ho : f o = some (600, .inr (3, zOb r tr sc tx sl sv k))) (hr : RPic f 0 r la A ρ n xs tm) (hn201 : n ≤ 201) {M : Nat × Nat} (hL : LNok f m la M) {N s : Nat} (hw : RW ρ N s n) {a u : Nat} (ha : a < N) (hu : u < 3) (hat : ρ 0 1 = nI a) (hnow : ρ 0 2 = nI u) (hh : Int64) : zM G yX3_withSpools cX3_withSpools 7 (some .long) 8 [.ref o, .long hh] (f, m) (zD (some (.long (sHg (fun i h => sHf (sSpoolOf ρ s n i) 5 h) 3 hh))) (fun f' m' => LNok f' m' la M ∧ zFr zT9 f f')) := by
  refine zM.of (by decide) (Nat.le_of_ble_eq_true rfl) ?_
  have hv := hw.1
  have hv9 := hv.pos
  have hN24 := hv9.2.1
  have inner : ∀ (i : Nat) (hi : i < 3) (h0 : Int64) (hex : ∀ (f2 : zHM) (m2 : Nat × Nat), f2 o = some (600, .inr (3, zOb r tr sc tx sl sv k)) → RPic f2 0 r la A ρ n xs tm → LNok f2 m2 la M → zFr zT9 f f2 → zV G yX3_withSpools cX3_withSpools 7 (some .long) 8 42 [(0, .ref o), (5, .int (nI i)), (3, .long (sHf (sSpoolOf ρ s n i) 5 h0))] [] (f2, m2) (zD (some (.long (sHg (fun i h => sHf (sSpoolOf ρ s n i) 5 h) 3 hh))) (fun f' m' => LNok f' m' la M ∧ zFr zT9 f f'))) (kk w : Nat), w + kk = 5 → ∀ (f2 : zHM) (m2 : Nat × Nat), f2 o = some (600, .inr (3, zOb r tr sc tx sl sv k)) → RPic f2 0 r la A ρ n xs tm → LNok f2 m2 la M → zFr zT9 f f2 → zV G yX3_withSpools cX3_withSpools 7 (some .long) 8 14 [(0, .ref o), (5, .int (nI i)), (3, .long (sHf (sSpoolOf ρ s n i) w h0)), (6, .int (nI w))] [] (f2, m2) (zD (some (.long (sHg (fun i h => sHf (sSpoolOf ρ s n i) 5 h) 3 hh))) (fun f' m' => LNok f' m' la M ∧ zFr zT9 f f')) := by
    intro i hi h0 hex kk
    induction kk with
    | zero =>
      intro w hw9 f2 m2 ho2 hr2 hL2 hff
      have hw9 : w = 5 := by omega
      subst hw9
      refine v_iload dX3_withSpools_14 rfl ?_
      refine v_iconst (nI 4) dX3_withSpools_16 (by decide) ?_
      refine v_icmp_gt 42 dX3_withSpools_17 (by decide) (fun b17 => ?_) (fun b17 => ?_)
      · rw [nI_ltI (by omega) (by omega)] at b17
        exact v_loc (lv' := [(0, .ref o), (5, .int (nI i)), (3, .long (sHf (sSpoolOf ρ s n i) 5 h0))]) ⟨rfl, rfl, rfl, trivial⟩ (hex _ _ ho2 hr2 hL2 hff)
      · rw [nI_ltI (by omega) (by omega)] at b17
        omega
    | succ kk ih =>
      intro w hw9 f2 m2 ho2 hr2 hL2 hff
      have hwK : w < 5 := by omega
      have r02 := hr2.1
      refine v_iload dX3_withSpools_14 rfl ?_
      refine v_iconst (nI 4) dX3_withSpools_16 (by decide) ?_
      refine v_icmp_gt 42 dX3_withSpools_17 (by decide) (fun b17 => ?_) (fun b17 => ?_)
      · rw [nI_ltI (by omega) (by omega)] at b17
        omega
      · rw [nI_ltI (by omega) (by omega)] at b17
        refine v_ldc2 (31) dX3_withSpools_20 gD31 ?_
        refine v_lload_n dX3_withSpools_23 rfl rfl ?_
        refine v_lmul dX3_withSpools_24 ?_
        refine v_aload_n dX3_withSpools_25 rfl rfl ?_
        refine v_iload dX3_withSpools_26 rfl ?_
        refine v_iload dX3_withSpools_28 rfl ?_
        refine v_callV1 kX3_305 gi_X3_spoolOf ge_X3_spoolOf rfl dX3_withSpools_30 (by assumption) (c_spoolOf ho2 hr2 hw hL2 hi (by omega)) rfl rfl (by decide) (Nat.le_of_ble_eq_true rfl) (fun f m hc => ?_)
        have ho2 := hc.2 _ _ _ ho2 (by omega)
        have hr2 := hr2.fr hc.2 (fun k hk h => by omega)
        have hff := hff.trans hc.2
        have hL2 := hc.1
        refine v_i2l dX3_withSpools_33 ?_
        refine v_ladd dX3_withSpools_34 ?_
        rw [sHf_s (sSpoolOf ρ s n i) w h0]
        refine v_lstore_n dX3_withSpools_35 rfl (by decide) ?_
        refine v_iincN dX3_withSpools_36 rfl (by decide) ?_
        refine v_goto 14 dX3_withSpools_39 (by decide) ?_
        exact v_loc (lv' := [(0, .ref o), (5, .int (nI i)), (3, .long (sHf (sSpoolOf ρ s n i) (w + 1) h0)), (6, .int (nI (w + 1)))]) ⟨rfl, rfl, rfl, rfl, trivial⟩ (ih (w + 1) (by omega) _ _ ho2 hr2 hL2 hff)
  have outer : ∀ (kk i : Nat), i + kk = 3 → ∀ (f2 : zHM) (m2 : Nat × Nat), f2 o = some (600, .inr (3, zOb r tr sc tx sl sv k)) → RPic f2 0 r la A ρ n xs tm → LNok f2 m2 la M → zFr zT9 f f2 → zV G yX3_withSpools cX3_withSpools 7 (some .long) 8 5 [(0, .ref o), (3, .long (sHg (fun i h => sHf (sSpoolOf ρ s n i) 5 h) i hh)), (5, .int (nI i))] [] (f2, m2) (zD (some (.long (sHg (fun i h => sHf (sSpoolOf ρ s n i) 5 h) 3 hh))) (fun f' m' => LNok f' m' la M ∧ zFr zT9 f f')) := by
    intro kk
    induction kk with
    | zero =>
      intro i hi9 f2 m2 ho2 hr2 hL2 hff
      have hi9 : i = 3 := by omega
      subst hi9
      refine v_iload dX3_withSpools_5 rfl ?_
      refine v_iconst (nI 3) dX3_withSpools_7 (by decide) ?_
      refine v_icmp_ge 48 dX3_withSpools_8 (by decide) (fun b8 => ?_) (fun b8 => ?_)
      · rw [nI_leI (by omega) (by omega)] at b8
        refine v_lload_n dX3_withSpools_48 rfl rfl ?_
        exact v_lreturn dX3_withSpools_49 rfl ⟨rfl, hL2, hff⟩
      · rw [nI_leI (by omega) (by omega)] at b8
        omega
    | succ kk ih =>
      intro i hi9 f2 m2 ho2 hr2 hL2 hff
      have hiK : i < 3 := by omega
      refine v_iload dX3_withSpools_5 rfl ?_
      refine v_iconst (nI 3) dX3_withSpools_7 (by decide) ?_
      refine v_icmp_ge 48 dX3_withSpools_8 (by decide) (fun b8 => ?_) (fun b8 => ?_)
      · rw [nI_leI (by omega) (by omega)] at b8
        omega
      · rw [nI_leI (by omega) (by omega)] at b8
        refine v_iconst (nI 0) dX3_withSpools_11 (by decide) ?_
        refine v_istore dX3_withSpools_12 (by decide) ?_
        refine v_loc (lv' := [(0, .ref o), (5, .int (nI i)), (3, .long (sHf (sSpoolOf ρ s n i) 0 (sHg (fun i h => sHf (sSpoolOf ρ s n i) 5 h) i hh))), (6, .int (nI 0))]) ⟨rfl, rfl, rfl, rfl, trivial⟩ (inner i hiK (sHg (fun i h => sHf (sSpoolOf ρ s n i) 5 h) i hh) (fun f2 m2 ho2 hr2 hL2 hff => ?_) 5 0 (by omega) _ _ ho2 hr2 hL2 hff)
        rw [show sHf (sSpoolOf ρ s n i) 5 (sHg (fun i h => sHf (sSpoolOf ρ s n i) 5 h) i hh) = sHg (fun i h => sHf (sSpoolOf ρ s n i) 5 h) (i + 1) hh from rfl]
        refine v_iincN dX3_withSpools_42 rfl (by decide) ?_
        refine v_goto 5 dX3_withSpools_45 (by decide) ?_
        exact v_loc (lv' := [(0, .ref o), (3, .long (sHg (fun i h => sHf (sSpoolOf ρ s n i) 5 h) (i + 1) hh)), (5, .int (nI (i + 1)))]) ⟨rfl, rfl, rfl, trivial⟩ (ih (i + 1) (by omega) _ _ ho2 hr2 hL2 hff)
  refine v_lload_n dX3_withSpools_0 rfl rfl ?_
  refine v_lstore_n dX3_withSpools_1 rfl (by decide) ?_
  refine v_iconst (nI 0) dX3_withSpools_2 (by decide) ?_
  refine v_istore dX3_withSpools_3 (by decide) ?_
  exact v_loc (lv' := [(0, .ref o), (3, .long (sHg (fun i h => sHf (sSpoolOf ρ s n i) 5 h) 0 hh)), (5, .int (nI 0))]) ⟨rfl, rfl, rfl, trivial⟩ (outer 3 0 (by omega) f m ho hr hL zFr.refl)
set_option maxRecDepth 10000 in
set_option maxHeartbeats 1000000 in
theorem c_withChordsLying {G : zW} {f : zHM} {m : Nat × Nat} {o r tr sc tx sl sv k la n : Nat} {A : Nat → Nat} {ρ : zRS} {xs tm : Nat → Int32} (ho : f o = some (600, .inr (3, zOb r tr sc tx sl sv k))) (hr : RPic f 0 r la A ρ n xs tm) (hn201 : n ≤ 201) {M : Nat × Nat} (hL : LNok f m la M) {N s : Nat} (hw : RW ρ N s n) {a u : Nat} (ha : a < N) (hu : u < 3) (hat : ρ 0 1 = nI a) (hnow : ρ 0 2 = nI u) (hh : Int64) : zM G yX3_withChordsLying cX3_withChordsLying 7 (some .long) 8 [.ref o, .long hh] (f, m) (zD (some (.long (sHg (fun i h => sHf (sWound ρ n i) 3 h) 10 hh))) (fun f' m' => LNok f' m' la M ∧ zFr zT9 f f')) := by
  refine zM.of (by decide) (Nat.le_of_ble_eq_true rfl) ?_
  have hv := hw.1
  have hv9 := hv.pos
  have hN24 := hv9.2.1
  have inner : ∀ (i : Nat) (hi : i < 10) (h0 : Int64) (hex : ∀ (f2 : zHM) (m2 : Nat × Nat), f2 o = some (600, .inr (3, zOb r tr sc tx sl sv k)) → RPic f2 0 r la A ρ n xs tm → LNok f2 m2 la M → zFr zT9 f f2 → zV G yX3_withChordsLying cX3_withChordsLying 7 (some .long) 8 43 [(0, .ref o), (5, .int (nI i)), (3, .long (sHf (sWound ρ n i) 3 h0))] [] (f2, m2) (zD (some (.long (sHg (fun i h => sHf (sWound ρ n i) 3 h) 10 hh))) (fun f' m' => LNok f' m' la M ∧ zFr zT9 f f'))) (kk w : Nat), w + kk = 3 → ∀ (f2 : zHM) (m2 : Nat × Nat), f2 o = some (600, .inr (3, zOb r tr sc tx sl sv k)) → RPic f2 0 r la A ρ n xs tm → LNok f2 m2 la M → zFr zT9 f f2 → zV G yX3_withChordsLying cX3_withChordsLying 7 (some .long) 8 15 [(0, .ref o), (5, .int (nI i)), (3, .long (sHf (sWound ρ n i) w h0)), (6, .int (nI w))] [] (f2, m2) (zD (some (.long (sHg (fun i h => sHf (sWound ρ n i) 3 h) 10 hh))) (fun f' m' => LNok f' m' la M ∧ zFr zT9 f f')) := by
    intro i hi h0 hex kk
    induction kk with
    | zero =>
      intro w hw9 f2 m2 ho2 hr2 hL2 hff
      have hw9 : w = 3 := by omega
      subst hw9
      refine v_iload dX3_withChordsLying_15 rfl ?_
      refine v_iconst (nI 2) dX3_withChordsLying_17 (by decide) ?_
      refine v_icmp_gt 43 dX3_withChordsLying_18 (by decide) (fun b18 => ?_) (fun b18 => ?_)
      · rw [nI_ltI (by omega) (by omega)] at b18
        exact v_loc (lv' := [(0, .ref o), (5, .int (nI i)), (3, .long (sHf (sWound ρ n i) 3 h0))]) ⟨rfl, rfl, rfl, trivial⟩ (hex _ _ ho2 hr2 hL2 hff)
      · rw [nI_ltI (by omega) (by omega)] at b18
        omega
    | succ kk ih =>
      intro w hw9 f2 m2 ho2 hr2 hL2 hff
      have hwK : w < 3 := by omega
      have r02 := hr2.1
      refine v_iload dX3_withChordsLying_15 rfl ?_
      refine v_iconst (nI 2) dX3_withChordsLying_17 (by decide) ?_
      refine v_icmp_gt 43 dX3_withChordsLying_18 (by decide) (fun b18 => ?_) (fun b18 => ?_)
      · rw [nI_ltI (by omega) (by omega)] at b18
        omega
      · rw [nI_ltI (by omega) (by omega)] at b18
        refine v_ldc2 (31) dX3_withChordsLying_21 gD31 ?_
        refine v_lload_n dX3_withChordsLying_24 rfl rfl ?_
        refine v_lmul dX3_withChordsLying_25 ?_
        refine v_aload_n dX3_withChordsLying_26 rfl rfl ?_
        refine v_iload dX3_withChordsLying_27 rfl ?_
        refine v_iload dX3_withChordsLying_29 rfl ?_
        refine v_callVp kX3_308 gi_X3_wound ge_X3_wound rfl dX3_withChordsLying_31 (by assumption) (c_wound ho2 hr2 hn201 (by omega) (by omega)) rfl rfl (by decide) (Nat.le_of_ble_eq_true rfl) ?_
        refine v_i2l dX3_withChordsLying_34 ?_
        refine v_ladd dX3_withChordsLying_35 ?_
        rw [sHf_s (sWound ρ n i) w h0]
        refine v_lstore_n dX3_withChordsLying_36 rfl (by decide) ?_
        refine v_iincN dX3_withChordsLying_37 rfl (by decide) ?_
        refine v_goto 15 dX3_withChordsLying_40 (by decide) ?_
        exact v_loc (lv' := [(0, .ref o), (5, .int (nI i)), (3, .long (sHf (sWound ρ n i) (w + 1) h0)), (6, .int (nI (w + 1)))]) ⟨rfl, rfl, rfl, rfl, trivial⟩ (ih (w + 1) (by omega) _ _ ho2 hr2 hL2 hff)
  have outer : ∀ (kk i : Nat), i + kk = 10 → ∀ (f2 : zHM) (m2 : Nat × Nat), f2 o = some (600, .inr (3, zOb r tr sc tx sl sv k)) → RPic f2 0 r la A ρ n xs tm → LNok f2 m2 la M → zFr zT9 f f2 → zV G yX3_withChordsLying cX3_withChordsLying 7 (some .long) 8 5 [(0, .ref o), (3, .long (sHg (fun i h => sHf (sWound ρ n i) 3 h) i hh)), (5, .int (nI i))] [] (f2, m2) (zD (some (.long (sHg (fun i h => sHf (sWound ρ n i) 3 h) 10 hh))) (fun f' m' => LNok f' m' la M ∧ zFr zT9 f f')) := by
    intro kk
    induction kk with
    | zero =>
      intro i hi9 f2 m2 ho2 hr2 hL2 hff
      have hi9 : i = 10 := by omega
      subst hi9
      refine v_iload dX3_withChordsLying_5 rfl ?_
      refine v_bipush (nI 10) dX3_withChordsLying_7 (by decide) ?_
      refine v_icmp_ge 49 dX3_withChordsLying_9 (by decide) (fun b9 => ?_) (fun b9 => ?_)
      · rw [nI_leI (by omega) (by omega)] at b9
        refine v_lload_n dX3_withChordsLying_49 rfl rfl ?_
        exact v_lreturn dX3_withChordsLying_50 rfl ⟨rfl, hL2, hff⟩
      · rw [nI_leI (by omega) (by omega)] at b9
        omega
    | succ kk ih =>
      intro i hi9 f2 m2 ho2 hr2 hL2 hff
      have hiK : i < 10 := by omega
      refine v_iload dX3_withChordsLying_5 rfl ?_
      refine v_bipush (nI 10) dX3_withChordsLying_7 (by decide) ?_
      refine v_icmp_ge 49 dX3_withChordsLying_9 (by decide) (fun b9 => ?_) (fun b9 => ?_)
      · rw [nI_leI (by omega) (by omega)] at b9
        omega
      · rw [nI_leI (by omega) (by omega)] at b9
        refine v_iconst (nI 0) dX3_withChordsLying_12 (by decide) ?_
        refine v_istore dX3_withChordsLying_13 (by decide) ?_
        refine v_loc (lv' := [(0, .ref o), (5, .int (nI i)), (3, .long (sHf (sWound ρ n i) 0 (sHg (fun i h => sHf (sWound ρ n i) 3 h) i hh))), (6, .int (nI 0))]) ⟨rfl, rfl, rfl, rfl, trivial⟩ (inner i hiK (sHg (fun i h => sHf (sWound ρ n i) 3 h) i hh) (fun f2 m2 ho2 hr2 hL2 hff => ?_) 3 0 (by omega) _ _ ho2 hr2 hL2 hff)
        rw [show sHf (sWound ρ n i) 3 (sHg (fun i h => sHf (sWound ρ n i) 3 h) i hh) = sHg (fun i h => sHf (sWound ρ n i) 3 h) (i + 1) hh from rfl]
        refine v_iincN dX3_withChordsLying_43 rfl (by decide) ?_
        refine v_goto 5 dX3_withChordsLying_46 (by decide) ?_
        exact v_loc (lv' := [(0, .ref o), (3, .long (sHg (fun i h => sHf (sWound ρ n i) 3 h) (i + 1) hh)), (5, .int (nI (i + 1)))]) ⟨rfl, rfl, rfl, trivial⟩ (ih (i + 1) (by omega) _ _ ho2 hr2 hL2 hff)
  refine v_lload_n dX3_withChordsLying_0 rfl rfl ?_
  refine v_lstore_n dX3_withChordsLying_1 rfl (by decide) ?_
  refine v_iconst (nI 0) dX3_withChordsLying_2 (by decide) ?_
  refine v_istore dX3_withChordsLying_3 (by decide) ?_
  exact v_loc (lv' := [(0, .ref o), (3, .long (sHg (fun i h => sHf (sWound ρ n i) 3 h) 0 hh)), (5, .int (nI 0))]) ⟨rfl, rfl, rfl, trivial⟩ (outer 10 0 (by omega) f m ho hr hL zFr.refl)
