theorem in_y {v a b : Int32} (h1 : ¬ v < a) (h2 : v ≤ b) : (if a ≤ v ∧ v ≤ b then 1 else 0 : Int32) = nI 1 := if_pos ⟨Int32.not_lt.mp h1, h2⟩
theorem in_n {v a b : Int32} (h : v < a ∨ ¬ v ≤ b) : (if a ≤ v ∧ v ≤ b then 1 else 0 : Int32) = nI 0 := if_neg (fun z => h.elim (fun q => absurd q (Int32.not_lt.mpr z.1)) (fun q => q z.2))
theorem inN_y {a e b : Nat} (h1 : a ≤ e) (h2 : e ≤ b) (hb : b < 2 ^ 31) : (if nI a ≤ nI e ∧ nI e ≤ nI b then 1 else 0 : Int32) = nI 1 := if_pos ⟨nI_le h1 (by omega), nI_le h2 hb⟩
theorem i32_pred {v : Int32} {N : Nat} (h0 : 0 < N) (hN : N < 2 ^ 31) : v ≤ nI (N - 1) ↔ v < nI N := by
  rw [Int32.le_iff_toInt_le, Int32.lt_iff_toInt_lt, nI_toInt (by omega), nI_toInt hN]
  omega
theorem nl_y {N b : Nat} (hb : b < N) (hN : N < 2 ^ 31) : (if nI 0 ≤ nI b ∧ nI b ≤ nI (N - 1) then 1 else 0 : Int32) = nI 1 := inN_y (Nat.zero_le b) (by omega) (by omega)
theorem nl_n {N : Nat} {v : Int32} (h0 : 0 < N) (hN : N < 2 ^ 31) (hx : v < 0 ∨ ¬ v < nI N) : (if nI 0 ≤ v ∧ v ≤ nI (N - 1) then 1 else 0 : Int32) = nI 0 := in_n (hx.elim Or.inl (fun z => Or.inr (fun q => z ((i32_pred h0 hN).mp q))))
theorem in_p {v : Int32} {N : Nat} (h0 : 0 < N) (hN : N < 2 ^ 31) (hx : v < 0 ∨ ¬ v < nI N) : v < nI 0 ∨ ¬ v ≤ nI (N - 1) := hx.elim Or.inl (fun z => Or.inr (fun q => z ((i32_pred h0 hN).mp q)))
set_option maxRecDepth 10000 in
set_option maxHeartbeats 1000000 in
theorem c_thrown {G : zW} {f : zHM} {m : Nat × Nat} {o mr : Nat} {B : Nat → Nat} {w : Nat → Int32} {hh : Int64} {σ : Nat → Int32} (h : MX f o B w hh σ mr) : zM G yX4_thrown cX4_thrown 1 (some .int) 1 [.ref o] (f, m) (zS (.int (w 0)) f m) := by
  refine zM.of (by decide) (Nat.le_of_ble_eq_true rfl) ?_
  have ho := h.1
  have hs := h.2.1
  refine v_aload_n dX4_thrown_0 rfl rfl ?_
  refine v_getfield fX4_35 dX4_thrown_1 (by assumption) (by rfl) ?_
  exact v_ireturn dX4_thrown_4 rfl ⟨rfl, rfl, rfl⟩
set_option maxRecDepth 10000 in
set_option maxHeartbeats 1000000 in
theorem c_m9nailOf {G : zW} {f : zHM} {m : Nat × Nat} {o mr : Nat} {B : Nat → Nat} {w : Nat → Int32} {hh : Int64} {σ : Nat → Int32} (h : MX f o B w hh σ mr) {th : Int32} {k L : Nat} {sv : Nat → Nat → Int32} {hsl : Nat → Int32} {sl : Nat → Nat → Int32} {ch : Nat → Nat} (t : w 0 = th) (k0 : w 1 = nI k) (l0 : w 2 = nI L) (O : zNO f B k sv hsl sl L ch) {N s n : Nat} (hw : RW (rOf σ) N s n) (hn : σ 15 = nI n) (hn2 : n ≤ 200) {b e : Nat} (hb : b < N) (he : e < 4) : zM G yX4_nailOf cX4_nailOf 3 (some .int) 9 [.ref o, .int (nI b), .int (nI e)] (f, m) (zD (some (.int (sNailOf (rOf σ) s n b e))) (fun f' m' => zNP f o B hh mr 0 0 k sv hsl sl L ch (fun σ' => σ' = σ) f' ∧ m' = m)) := by
  refine zM.of (by decide) (Nat.le_of_ble_eq_true rfl) ?_
  have ho := h.1
  have hs := h.2.1
  have hv := hw.1
  have hN : σ 0 = nI N := hv.1
  have hp := hv.pos
  have hN4 := hv.2.2.2
  refine v_aload_n dX4_nailOf_0 rfl rfl ?_
  refine v_iconst (nI 0) dX4_nailOf_1 (by decide) ?_
  refine v_putfieldX fX4_35 dX4_nailOf_2 (by assumption) rfl rfl (Nat.le_of_ble_eq_true rfl) (fun f1 hp1 => ?_)
  obtain ⟨h1, hf1⟩ := MX.put (w' := zUp w 0 (nI 0)) (f0 := f) h hp1 rfl zFr.refl
  obtain ⟨w1, ew1⟩ : ∃ w9, w9 = zUp w 0 (nI 0) := ⟨_, rfl⟩
  rw [← ew1] at h1
  clear hp1
  have ho1 := h1.1
  have hs1 := h1.2.1
  have t1 : w1 0 = nI 0 := by rw [ew1]; rfl
  have k1 := (show w1 1 = w 1 from by rw [ew1]; rfl).trans k0
  have l1 := (show w1 2 = w 2 from by rw [ew1]; rfl).trans l0
  have O1 := zNO.fr O hf1 (by intro τ h; rcases h with h | h | h | h <;> omega)
  have F1 := zFr.trans zFr.refl (zFr.weaken hf1 zTYZ)
  refine v_aload_n dX4_nailOf_5 rfl rfl ?_
  refine v_iload_n dX4_nailOf_6 rfl rfl ?_
  refine v_callVp kX4_134 gi_X4_isNail ge_X4_isNail rfl dX4_nailOf_7 (by assumption) (c_isNail h1 hN hN4) rfl rfl (by decide) (Nat.le_of_ble_eq_true rfl) ?_
  rw [nl_y (b := b) hb (by omega)]
  refine v_if_ne 19 dX4_nailOf_10 (by decide) (fun b10 => ?_) (fun b10 => ?_)
  · rw [show (0 : Int32) = nI 0 from rfl] at b10
    rw [nI_eq (by omega) (by omega)] at b10
    refine v_iload_n dX4_nailOf_19 rfl rfl ?_
    refine v_iconst (nI 0) dX4_nailOf_20 (by decide) ?_
    refine v_iconst (nI 3) dX4_nailOf_21 (by decide) ?_
    refine v_callSp kX4_42 gs_X4_in dX4_nailOf_22 c_in rfl rfl (by decide) (Nat.le_of_ble_eq_true rfl) ?_
    rw [inN_y (Nat.zero_le e) (show e ≤ 3 by omega) (by omega)]
    refine v_if_eq 37 dX4_nailOf_25 (by decide) (fun b25 => ?_) (fun b25 => ?_)
    · rw [show (0 : Int32) = nI 0 from rfl] at b25
      rw [nI_eq (by omega) (by omega)] at b25
      omega
    · rw [show (0 : Int32) = nI 0 from rfl] at b25
      rw [nI_eq (by omega) (by omega)] at b25
      refine v_aload_n dX4_nailOf_28 rfl rfl ?_
      refine v_iload_n dX4_nailOf_29 rfl rfl ?_
      refine v_iload_n dX4_nailOf_30 rfl rfl ?_
      refine v_callVp kX4_190 gi_X4_tellsNail ge_X4_tellsNail rfl dX4_nailOf_31 (by assumption) (c_tellsNail h1 hw hn hn2 hb he) rfl rfl (by decide) (Nat.le_of_ble_eq_true rfl) ?_
      refine v_goto 42 dX4_nailOf_34 (by decide) ?_
      exact v_ireturn dX4_nailOf_42 rfl ⟨rfl, ⟨σ, mr, by omega, ⟨w1, h1, t1, k1, l1, O1⟩, rfl, F1⟩, rfl⟩
  · rw [show (0 : Int32) = nI 0 from rfl] at b10
    rw [nI_eq (by omega) (by omega)] at b10
    omega
set_option maxRecDepth 10000 in
set_option maxHeartbeats 1000000 in
theorem y_nailOf_1 {G : zW} {f : zHM} {m : Nat × Nat} {o mr : Nat} {B : Nat → Nat} {w : Nat → Int32} {hh : Int64} {σ : Nat → Int32} (h : MX f o B w hh σ mr) {th : Int32} {k L : Nat} {sv : Nat → Nat → Int32} {hsl : Nat → Int32} {sl : Nat → Nat → Int32} {ch : Nat → Nat} (t : w 0 = th) (k0 : w 1 = nI k) (l0 : w 2 = nI L) (O : zNO f B k sv hsl sl L ch) {N s : Nat} (hv : RV (rOf σ) N s) {v : Int32} (hx : v < 0 ∨ ¬ v < nI N) {x : Int32} : zM G yX4_nailOf cX4_nailOf 3 (some .int) 9 [.ref o, .int v, .int x] (f, m) (zD (some (.int 0)) (fun f' m' => zNP f o B hh mr 0 (nI 1) k sv hsl sl L ch (fun σ' => σ' = σ) f' ∧ m' = m)) := by
  refine zM.of (by decide) (Nat.le_of_ble_eq_true rfl) ?_
  have ho := h.1
  have hs := h.2.1
  have hN : σ 0 = nI N := hv.1
  have hp := hv.pos
  have hN4 := hv.2.2.2
  refine v_aload_n dX4_nailOf_0 rfl rfl ?_
  refine v_iconst (nI 0) dX4_nailOf_1 (by decide) ?_
  refine v_putfieldX fX4_35 dX4_nailOf_2 (by assumption) rfl rfl (Nat.le_of_ble_eq_true rfl) (fun f1 hp1 => ?_)
  obtain ⟨h1, hf1⟩ := MX.put (w' := zUp w 0 (nI 0)) (f0 := f) h hp1 rfl zFr.refl
  obtain ⟨w1, ew1⟩ : ∃ w9, w9 = zUp w 0 (nI 0) := ⟨_, rfl⟩
  rw [← ew1] at h1
  clear hp1
  have ho1 := h1.1
  have hs1 := h1.2.1
  have t1 : w1 0 = nI 0 := by rw [ew1]; rfl
  have k1 := (show w1 1 = w 1 from by rw [ew1]; rfl).trans k0
  have l1 := (show w1 2 = w 2 from by rw [ew1]; rfl).trans l0
  have O1 := zNO.fr O hf1 (by intro τ h; rcases h with h | h | h | h <;> omega)
  have F1 := zFr.trans zFr.refl (zFr.weaken hf1 zTYZ)
  refine v_aload_n dX4_nailOf_5 rfl rfl ?_
  refine v_iload_n dX4_nailOf_6 rfl rfl ?_
  refine v_callVp kX4_134 gi_X4_isNail ge_X4_isNail rfl dX4_nailOf_7 (by assumption) (c_isNail h1 hN hN4) rfl rfl (by decide) (Nat.le_of_ble_eq_true rfl) ?_
  rw [nl_n (by omega) (by omega) hx]
  refine v_if_ne 19 dX4_nailOf_10 (by decide) (fun b10 => ?_) (fun b10 => ?_)
  · rw [show (0 : Int32) = nI 0 from rfl] at b10
    rw [nI_eq (by omega) (by omega)] at b10
    omega
  · rw [show (0 : Int32) = nI 0 from rfl] at b10
    rw [nI_eq (by omega) (by omega)] at b10
    refine v_aload_n dX4_nailOf_13 rfl rfl ?_
    refine v_iconst (nI 1) dX4_nailOf_14 (by decide) ?_
    refine v_callV1 kX4_118 gi_X4_fails ge_X4_fails rfl dX4_nailOf_15 (by assumption) (c_fails h1) rfl rfl (by decide) (Nat.le_of_ble_eq_true rfl) (fun f2 m hc2 => ?_)
    obtain ⟨⟨w2, h2, t2, hq2, hf2⟩, rfl⟩ := hc2
    have k2 := (hq2 1 (by decide)).trans k1
    have l2 := (hq2 2 (by decide)).trans l1
    have ho2 := h2.1
    have hs2 := h2.2.1
    have O2 := zNO.fr O1 hf2 (by intro τ h; rcases h with h | h | h | h <;> omega)
    have F2 := zFr.trans F1 (zFr.weaken hf2 zTYZ)
    exact v_ireturn dX4_nailOf_18 rfl ⟨rfl, ⟨σ, mr, by omega, ⟨w2, h2, t2, k2, l2, O2⟩, rfl, F2⟩, rfl⟩
set_option maxRecDepth 10000 in
set_option maxHeartbeats 1000000 in
theorem y_nailOf_2 {G : zW} {f : zHM} {m : Nat × Nat} {o mr : Nat} {B : Nat → Nat} {w : Nat → Int32} {hh : Int64} {σ : Nat → Int32} (h : MX f o B w hh σ mr) {th : Int32} {k L : Nat} {sv : Nat → Nat → Int32} {hsl : Nat → Int32} {sl : Nat → Nat → Int32} {ch : Nat → Nat} (t : w 0 = th) (k0 : w 1 = nI k) (l0 : w 2 = nI L) (O : zNO f B k sv hsl sl L ch) {N s : Nat} (hv : RV (rOf σ) N s) {b : Nat} (hb : b < N) {x : Int32} (hx : x < 0 ∨ ¬ x ≤ 3) : zM G yX4_nailOf cX4_nailOf 3 (some .int) 9 [.ref o, .int (nI b), .int x] (f, m) (zD (some (.int 0)) (fun f' m' => zNP f o B hh mr 0 (nI 2) k sv hsl sl L ch (fun σ' => σ' = σ) f' ∧ m' = m)) := by
  refine zM.of (by decide) (Nat.le_of_ble_eq_true rfl) ?_
  have ho := h.1
  have hs := h.2.1
  have hN : σ 0 = nI N := hv.1
  have hp := hv.pos
  have hN4 := hv.2.2.2
  refine v_aload_n dX4_nailOf_0 rfl rfl ?_
  refine v_iconst (nI 0) dX4_nailOf_1 (by decide) ?_
  refine v_putfieldX fX4_35 dX4_nailOf_2 (by assumption) rfl rfl (Nat.le_of_ble_eq_true rfl) (fun f1 hp1 => ?_)
  obtain ⟨h1, hf1⟩ := MX.put (w' := zUp w 0 (nI 0)) (f0 := f) h hp1 rfl zFr.refl
  obtain ⟨w1, ew1⟩ : ∃ w9, w9 = zUp w 0 (nI 0) := ⟨_, rfl⟩
  rw [← ew1] at h1
  clear hp1
  have ho1 := h1.1
  have hs1 := h1.2.1
  have t1 : w1 0 = nI 0 := by rw [ew1]; rfl
  have k1 := (show w1 1 = w 1 from by rw [ew1]; rfl).trans k0
  have l1 := (show w1 2 = w 2 from by rw [ew1]; rfl).trans l0
  have O1 := zNO.fr O hf1 (by intro τ h; rcases h with h | h | h | h <;> omega)
  have F1 := zFr.trans zFr.refl (zFr.weaken hf1 zTYZ)
  refine v_aload_n dX4_nailOf_5 rfl rfl ?_
  refine v_iload_n dX4_nailOf_6 rfl rfl ?_
  refine v_callVp kX4_134 gi_X4_isNail ge_X4_isNail rfl dX4_nailOf_7 (by assumption) (c_isNail h1 hN hN4) rfl rfl (by decide) (Nat.le_of_ble_eq_true rfl) ?_
  rw [nl_y (b := b) hb (by omega)]
  refine v_if_ne 19 dX4_nailOf_10 (by decide) (fun b10 => ?_) (fun b10 => ?_)
  · rw [show (0 : Int32) = nI 0 from rfl] at b10
    rw [nI_eq (by omega) (by omega)] at b10
    refine v_iload_n dX4_nailOf_19 rfl rfl ?_
    refine v_iconst (nI 0) dX4_nailOf_20 (by decide) ?_
    refine v_iconst (nI 3) dX4_nailOf_21 (by decide) ?_
    refine v_callSp kX4_42 gs_X4_in dX4_nailOf_22 c_in rfl rfl (by decide) (Nat.le_of_ble_eq_true rfl) ?_
    rw [in_n (a := nI 0) (b := nI 3) hx]
    refine v_if_eq 37 dX4_nailOf_25 (by decide) (fun b25 => ?_) (fun b25 => ?_)
    · rw [show (0 : Int32) = nI 0 from rfl] at b25
      rw [nI_eq (by omega) (by omega)] at b25
      refine v_aload_n dX4_nailOf_37 rfl rfl ?_
      refine v_iconst (nI 2) dX4_nailOf_38 (by decide) ?_
      refine v_callV1 kX4_118 gi_X4_fails ge_X4_fails rfl dX4_nailOf_39 (by assumption) (c_fails h1) rfl rfl (by decide) (Nat.le_of_ble_eq_true rfl) (fun f2 m hc2 => ?_)
      obtain ⟨⟨w2, h2, t2, hq2, hf2⟩, rfl⟩ := hc2
      have k2 := (hq2 1 (by decide)).trans k1
      have l2 := (hq2 2 (by decide)).trans l1
      have ho2 := h2.1
      have hs2 := h2.2.1
      have O2 := zNO.fr O1 hf2 (by intro τ h; rcases h with h | h | h | h <;> omega)
      have F2 := zFr.trans F1 (zFr.weaken hf2 zTYZ)
      exact v_ireturn dX4_nailOf_42 rfl ⟨rfl, ⟨σ, mr, by omega, ⟨w2, h2, t2, k2, l2, O2⟩, rfl, F2⟩, rfl⟩
    · rw [show (0 : Int32) = nI 0 from rfl] at b25
      rw [nI_eq (by omega) (by omega)] at b25
      omega
  · rw [show (0 : Int32) = nI 0 from rfl] at b10
    rw [nI_eq (by omega) (by omega)] at b10
    omega
set_option maxRecDepth 10000 in
set_option maxHeartbeats 1000000 in
theorem c_m9spoolOf {G : zW} {f : zHM} {m : Nat × Nat} {o mr : Nat} {B : Nat → Nat} {w : Nat → Int32} {hh : Int64} {σ : Nat → Int32} (h : MX f o B w hh σ mr) {th : Int32} {k L : Nat} {sv : Nat → Nat → Int32} {hsl : Nat → Int32} {sl : Nat → Nat → Int32} {ch : Nat → Nat} (t : w 0 = th) (k0 : w 1 = nI k) (l0 : w 2 = nI L) (O : zNO f B k sv hsl sl L ch) {N s n : Nat} (hw : RW (rOf σ) N s n) (hn : σ 15 = nI n) (hn2 : n ≤ 200) {u e : Nat} (hu : u < 3) (he : e < 5) : zM G yX4_spoolOf cX4_spoolOf 3 (some .int) 9 [.ref o, .int (nI u), .int (nI e)] (f, m) (zD (some (.int (sSpoolOf (rOf σ) s n u e))) (fun f' m' => zNP f o B hh mr 0 0 k sv hsl sl L ch (fun σ' => σ' = σ) f' ∧ m' = m)) := by
  refine zM.of (by decide) (Nat.le_of_ble_eq_true rfl) ?_
  have ho := h.1
  have hs := h.2.1
  refine v_aload_n dX4_spoolOf_0 rfl rfl ?_
  refine v_iconst (nI 0) dX4_spoolOf_1 (by decide) ?_
  refine v_putfieldX fX4_35 dX4_spoolOf_2 (by assumption) rfl rfl (Nat.le_of_ble_eq_true rfl) (fun f1 hp1 => ?_)
  obtain ⟨h1, hf1⟩ := MX.put (w' := zUp w 0 (nI 0)) (f0 := f) h hp1 rfl zFr.refl
  obtain ⟨w1, ew1⟩ : ∃ w9, w9 = zUp w 0 (nI 0) := ⟨_, rfl⟩
  rw [← ew1] at h1
  clear hp1
  have ho1 := h1.1
  have hs1 := h1.2.1
  have t1 : w1 0 = nI 0 := by rw [ew1]; rfl
  have k1 := (show w1 1 = w 1 from by rw [ew1]; rfl).trans k0
  have l1 := (show w1 2 = w 2 from by rw [ew1]; rfl).trans l0
  have O1 := zNO.fr O hf1 (by intro τ h; rcases h with h | h | h | h <;> omega)
  have F1 := zFr.trans zFr.refl (zFr.weaken hf1 zTYZ)
  refine v_iload_n dX4_spoolOf_5 rfl rfl ?_
  refine v_callSp kX4_127 gs_X4_isSpool dX4_spoolOf_6 c_isSpool rfl rfl (by decide) (Nat.le_of_ble_eq_true rfl) ?_
  rw [inN_y (Nat.zero_le u) (show u ≤ 2 by omega) (by omega)]
  refine v_if_ne 18 dX4_spoolOf_9 (by decide) (fun b9 => ?_) (fun b9 => ?_)
  · rw [show (0 : Int32) = nI 0 from rfl] at b9
    rw [nI_eq (by omega) (by omega)] at b9
    refine v_iload_n dX4_spoolOf_18 rfl rfl ?_
    refine v_iconst (nI 0) dX4_spoolOf_19 (by decide) ?_
    refine v_iconst (nI 4) dX4_spoolOf_20 (by decide) ?_
    refine v_callSp kX4_42 gs_X4_in dX4_spoolOf_21 c_in rfl rfl (by decide) (Nat.le_of_ble_eq_true rfl) ?_
    rw [inN_y (Nat.zero_le e) (show e ≤ 4 by omega) (by omega)]
    refine v_if_eq 36 dX4_spoolOf_24 (by decide) (fun b24 => ?_) (fun b24 => ?_)
    · rw [show (0 : Int32) = nI 0 from rfl] at b24
      rw [nI_eq (by omega) (by omega)] at b24
      omega
    · rw [show (0 : Int32) = nI 0 from rfl] at b24
      rw [nI_eq (by omega) (by omega)] at b24
      refine v_aload_n dX4_spoolOf_27 rfl rfl ?_
      refine v_iload_n dX4_spoolOf_28 rfl rfl ?_
      refine v_iload_n dX4_spoolOf_29 rfl rfl ?_
      refine v_callVp kX4_196 gi_X4_tellsSpool ge_X4_tellsSpool rfl dX4_spoolOf_30 (by assumption) (c_tellsSpool h1 hw hn hn2 hu he) rfl rfl (by decide) (Nat.le_of_ble_eq_true rfl) ?_
      refine v_goto 41 dX4_spoolOf_33 (by decide) ?_
      exact v_ireturn dX4_spoolOf_41 rfl ⟨rfl, ⟨σ, mr, by omega, ⟨w1, h1, t1, k1, l1, O1⟩, rfl, F1⟩, rfl⟩
  · rw [show (0 : Int32) = nI 0 from rfl] at b9
    rw [nI_eq (by omega) (by omega)] at b9
    omega
set_option maxRecDepth 10000 in
set_option maxHeartbeats 1000000 in
theorem y_spoolOf_1 {G : zW} {f : zHM} {m : Nat × Nat} {o mr : Nat} {B : Nat → Nat} {w : Nat → Int32} {hh : Int64} {σ : Nat → Int32} (h : MX f o B w hh σ mr) {th : Int32} {k L : Nat} {sv : Nat → Nat → Int32} {hsl : Nat → Int32} {sl : Nat → Nat → Int32} {ch : Nat → Nat} (t : w 0 = th) (k0 : w 1 = nI k) (l0 : w 2 = nI L) (O : zNO f B k sv hsl sl L ch) {v : Int32} (hx : v < 0 ∨ ¬ v < 3) {x : Int32} : zM G yX4_spoolOf cX4_spoolOf 3 (some .int) 9 [.ref o, .int v, .int x] (f, m) (zD (some (.int 0)) (fun f' m' => zNP f o B hh mr 0 (nI 1) k sv hsl sl L ch (fun σ' => σ' = σ) f' ∧ m' = m)) := by
  refine zM.of (by decide) (Nat.le_of_ble_eq_true rfl) ?_
  have ho := h.1
  have hs := h.2.1
  refine v_aload_n dX4_spoolOf_0 rfl rfl ?_
  refine v_iconst (nI 0) dX4_spoolOf_1 (by decide) ?_
  refine v_putfieldX fX4_35 dX4_spoolOf_2 (by assumption) rfl rfl (Nat.le_of_ble_eq_true rfl) (fun f1 hp1 => ?_)
  obtain ⟨h1, hf1⟩ := MX.put (w' := zUp w 0 (nI 0)) (f0 := f) h hp1 rfl zFr.refl
  obtain ⟨w1, ew1⟩ : ∃ w9, w9 = zUp w 0 (nI 0) := ⟨_, rfl⟩
  rw [← ew1] at h1
  clear hp1
  have ho1 := h1.1
  have hs1 := h1.2.1
  have t1 : w1 0 = nI 0 := by rw [ew1]; rfl
  have k1 := (show w1 1 = w 1 from by rw [ew1]; rfl).trans k0
  have l1 := (show w1 2 = w 2 from by rw [ew1]; rfl).trans l0
  have O1 := zNO.fr O hf1 (by intro τ h; rcases h with h | h | h | h <;> omega)
  have F1 := zFr.trans zFr.refl (zFr.weaken hf1 zTYZ)
  refine v_iload_n dX4_spoolOf_5 rfl rfl ?_
  refine v_callSp kX4_127 gs_X4_isSpool dX4_spoolOf_6 c_isSpool rfl rfl (by decide) (Nat.le_of_ble_eq_true rfl) ?_
  rw [in_n (b := nI 2) (in_p (N := 3) (by omega) (by omega) hx)]
  refine v_if_ne 18 dX4_spoolOf_9 (by decide) (fun b9 => ?_) (fun b9 => ?_)
  · rw [show (0 : Int32) = nI 0 from rfl] at b9
    rw [nI_eq (by omega) (by omega)] at b9
    omega
  · rw [show (0 : Int32) = nI 0 from rfl] at b9
    rw [nI_eq (by omega) (by omega)] at b9
    refine v_aload_n dX4_spoolOf_12 rfl rfl ?_
    refine v_iconst (nI 1) dX4_spoolOf_13 (by decide) ?_
    refine v_callV1 kX4_118 gi_X4_fails ge_X4_fails rfl dX4_spoolOf_14 (by assumption) (c_fails h1) rfl rfl (by decide) (Nat.le_of_ble_eq_true rfl) (fun f2 m hc2 => ?_)
    obtain ⟨⟨w2, h2, t2, hq2, hf2⟩, rfl⟩ := hc2
    have k2 := (hq2 1 (by decide)).trans k1
    have l2 := (hq2 2 (by decide)).trans l1
    have ho2 := h2.1
    have hs2 := h2.2.1
    have O2 := zNO.fr O1 hf2 (by intro τ h; rcases h with h | h | h | h <;> omega)
    have F2 := zFr.trans F1 (zFr.weaken hf2 zTYZ)
    exact v_ireturn dX4_spoolOf_17 rfl ⟨rfl, ⟨σ, mr, by omega, ⟨w2, h2, t2, k2, l2, O2⟩, rfl, F2⟩, rfl⟩
set_option maxRecDepth 10000 in
set_option maxHeartbeats 1000000 in
theorem y_spoolOf_2 {G : zW} {f : zHM} {m : Nat × Nat} {o mr : Nat} {B : Nat → Nat} {w : Nat → Int32} {hh : Int64} {σ : Nat → Int32} (h : MX f o B w hh σ mr) {th : Int32} {k L : Nat} {sv : Nat → Nat → Int32} {hsl : Nat → Int32} {sl : Nat → Nat → Int32} {ch : Nat → Nat} (t : w 0 = th) (k0 : w 1 = nI k) (l0 : w 2 = nI L) (O : zNO f B k sv hsl sl L ch) {u : Nat} (hu : u < 3) {x : Int32} (hx : x < 0 ∨ ¬ x ≤ 4) : zM G yX4_spoolOf cX4_spoolOf 3 (some .int) 9 [.ref o, .int (nI u), .int x] (f, m) (zD (some (.int 0)) (fun f' m' => zNP f o B hh mr 0 (nI 2) k sv hsl sl L ch (fun σ' => σ' = σ) f' ∧ m' = m)) := by
  refine zM.of (by decide) (Nat.le_of_ble_eq_true rfl) ?_
  have ho := h.1
  have hs := h.2.1
  refine v_aload_n dX4_spoolOf_0 rfl rfl ?_
  refine v_iconst (nI 0) dX4_spoolOf_1 (by decide) ?_
  refine v_putfieldX fX4_35 dX4_spoolOf_2 (by assumption) rfl rfl (Nat.le_of_ble_eq_true rfl) (fun f1 hp1 => ?_)
  obtain ⟨h1, hf1⟩ := MX.put (w' := zUp w 0 (nI 0)) (f0 := f) h hp1 rfl zFr.refl
  obtain ⟨w1, ew1⟩ : ∃ w9, w9 = zUp w 0 (nI 0) := ⟨_, rfl⟩
  rw [← ew1] at h1
  clear hp1
  have ho1 := h1.1
  have hs1 := h1.2.1
  have t1 : w1 0 = nI 0 := by rw [ew1]; rfl
  have k1 := (show w1 1 = w 1 from by rw [ew1]; rfl).trans k0
  have l1 := (show w1 2 = w 2 from by rw [ew1]; rfl).trans l0
  have O1 := zNO.fr O hf1 (by intro τ h; rcases h with h | h | h | h <;> omega)
  have F1 := zFr.trans zFr.refl (zFr.weaken hf1 zTYZ)
  refine v_iload_n dX4_spoolOf_5 rfl rfl ?_
  refine v_callSp kX4_127 gs_X4_isSpool dX4_spoolOf_6 c_isSpool rfl rfl (by decide) (Nat.le_of_ble_eq_true rfl) ?_
  rw [inN_y (Nat.zero_le u) (show u ≤ 2 by omega) (by omega)]
  refine v_if_ne 18 dX4_spoolOf_9 (by decide) (fun b9 => ?_) (fun b9 => ?_)
  · rw [show (0 : Int32) = nI 0 from rfl] at b9
    rw [nI_eq (by omega) (by omega)] at b9
    refine v_iload_n dX4_spoolOf_18 rfl rfl ?_
    refine v_iconst (nI 0) dX4_spoolOf_19 (by decide) ?_
    refine v_iconst (nI 4) dX4_spoolOf_20 (by decide) ?_
    refine v_callSp kX4_42 gs_X4_in dX4_spoolOf_21 c_in rfl rfl (by decide) (Nat.le_of_ble_eq_true rfl) ?_
    rw [in_n (a := nI 0) (b := nI 4) hx]
    refine v_if_eq 36 dX4_spoolOf_24 (by decide) (fun b24 => ?_) (fun b24 => ?_)
    · rw [show (0 : Int32) = nI 0 from rfl] at b24
      rw [nI_eq (by omega) (by omega)] at b24
      refine v_aload_n dX4_spoolOf_36 rfl rfl ?_
      refine v_iconst (nI 2) dX4_spoolOf_37 (by decide) ?_
      refine v_callV1 kX4_118 gi_X4_fails ge_X4_fails rfl dX4_spoolOf_38 (by assumption) (c_fails h1) rfl rfl (by decide) (Nat.le_of_ble_eq_true rfl) (fun f2 m hc2 => ?_)
      obtain ⟨⟨w2, h2, t2, hq2, hf2⟩, rfl⟩ := hc2
      have k2 := (hq2 1 (by decide)).trans k1
      have l2 := (hq2 2 (by decide)).trans l1
      have ho2 := h2.1
      have hs2 := h2.2.1
      have O2 := zNO.fr O1 hf2 (by intro τ h; rcases h with h | h | h | h <;> omega)
      have F2 := zFr.trans F1 (zFr.weaken hf2 zTYZ)
      exact v_ireturn dX4_spoolOf_41 rfl ⟨rfl, ⟨σ, mr, by omega, ⟨w2, h2, t2, k2, l2, O2⟩, rfl, F2⟩, rfl⟩
    · rw [show (0 : Int32) = nI 0 from rfl] at b24
      rw [nI_eq (by omega) (by omega)] at b24
      omega
  · rw [show (0 : Int32) = nI 0 from rfl] at b9
    rw [nI_eq (by omega) (by omega)] at b9
    omega
set_option maxRecDepth 10000 in
set_option maxHeartbeats 1000000 in
theorem c_m9chord {G : zW} {f : zHM} {m : Nat × Nat} {o mr : Nat} {B : Nat → Nat} {w : Nat → Int32} {hh : Int64} {σ : Nat → Int32} (h : MX f o B w hh σ mr) {th : Int32} {k L : Nat} {sv : Nat → Nat → Int32} {hsl : Nat → Int32} {sl : Nat → Nat → Int32} {ch : Nat → Nat} (t : w 0 = th) (k0 : w 1 = nI k) (l0 : w 2 = nI L) (O : zNO f B k sv hsl sl L ch) (hmr9 : mr + 1000 < 2 ^ 30) {N s n : Nat} (hw : RW (rOf σ) N s n) (hn : σ 15 = nI n) (hn2 : n ≤ 200) {a b e : Nat} (ha : a < N) (hb : b < N) (he : e < 3) : zM G yX4_chord cX4_chord 4 (some .int) 9 [.ref o, .int (nI a), .int (nI b), .int (nI e)] (f, m) (zD (some (.int (sChord s (sTm (rOf σ) n) a b e))) (fun f' m' => zNP f o B hh mr 1 0 k sv hsl sl L ch (fun σ' => σ' = σ) f' ∧ m' = m)) := by
  refine zM.of (by decide) (Nat.le_of_ble_eq_true rfl) ?_
  have ho := h.1
  have hs := h.2.1
  have hv := hw.1
  have hN : σ 0 = nI N := hv.1
  have hp := hv.pos
  have hN4 := hv.2.2.2
  refine v_aload_n dX4_chord_0 rfl rfl ?_
  refine v_iconst (nI 0) dX4_chord_1 (by decide) ?_
  refine v_putfieldX fX4_35 dX4_chord_2 (by assumption) rfl rfl (Nat.le_of_ble_eq_true rfl) (fun f1 hp1 => ?_)
  obtain ⟨h1, hf1⟩ := MX.put (w' := zUp w 0 (nI 0)) (f0 := f) h hp1 rfl zFr.refl
  obtain ⟨w1, ew1⟩ : ∃ w9, w9 = zUp w 0 (nI 0) := ⟨_, rfl⟩
  rw [← ew1] at h1
  clear hp1
  have ho1 := h1.1
  have hs1 := h1.2.1
  have t1 : w1 0 = nI 0 := by rw [ew1]; rfl
  have k1 := (show w1 1 = w 1 from by rw [ew1]; rfl).trans k0
  have l1 := (show w1 2 = w 2 from by rw [ew1]; rfl).trans l0
  have O1 := zNO.fr O hf1 (by intro τ h; rcases h with h | h | h | h <;> omega)
  have F1 := zFr.trans zFr.refl (zFr.weaken hf1 zTYZ)
  refine v_aload_n dX4_chord_5 rfl rfl ?_
  refine v_iload_n dX4_chord_6 rfl rfl ?_
  refine v_callVp kX4_134 gi_X4_isNail ge_X4_isNail rfl dX4_chord_7 (by assumption) (c_isNail h1 hN hN4) rfl rfl (by decide) (Nat.le_of_ble_eq_true rfl) ?_
  rw [nl_y (b := a) ha (by omega)]
  refine v_if_eq 21 dX4_chord_10 (by decide) (fun b10 => ?_) (fun b10 => ?_)
  · rw [show (0 : Int32) = nI 0 from rfl] at b10
    rw [nI_eq (by omega) (by omega)] at b10
    omega
  · rw [show (0 : Int32) = nI 0 from rfl] at b10
    rw [nI_eq (by omega) (by omega)] at b10
    refine v_aload_n dX4_chord_13 rfl rfl ?_
    refine v_iload_n dX4_chord_14 rfl rfl ?_
    refine v_callVp kX4_134 gi_X4_isNail ge_X4_isNail rfl dX4_chord_15 (by assumption) (c_isNail h1 hN hN4) rfl rfl (by decide) (Nat.le_of_ble_eq_true rfl) ?_
    rw [nl_y (b := b) hb (by omega)]
    refine v_if_ne 27 dX4_chord_18 (by decide) (fun b18 => ?_) (fun b18 => ?_)
    · rw [show (0 : Int32) = nI 0 from rfl] at b18
      rw [nI_eq (by omega) (by omega)] at b18
      refine v_iload_n dX4_chord_27 rfl rfl ?_
      refine v_iconst (nI 0) dX4_chord_28 (by decide) ?_
      refine v_iconst (nI 2) dX4_chord_29 (by decide) ?_
      refine v_callSp kX4_42 gs_X4_in dX4_chord_30 c_in rfl rfl (by decide) (Nat.le_of_ble_eq_true rfl) ?_
      rw [inN_y (Nat.zero_le e) (show e ≤ 2 by omega) (by omega)]
      refine v_if_eq 46 dX4_chord_33 (by decide) (fun b33 => ?_) (fun b33 => ?_)
      · rw [show (0 : Int32) = nI 0 from rfl] at b33
        rw [nI_eq (by omega) (by omega)] at b33
        omega
      · rw [show (0 : Int32) = nI 0 from rfl] at b33
        rw [nI_eq (by omega) (by omega)] at b33
        refine v_aload_n dX4_chord_36 rfl rfl ?_
        refine v_iload_n dX4_chord_37 rfl rfl ?_
        refine v_iload_n dX4_chord_38 rfl rfl ?_
        refine v_iload_n dX4_chord_39 rfl rfl ?_
        refine v_callV1 kX4_199 gi_X4_tellsChord ge_X4_tellsChord rfl dX4_chord_40 (by assumption) (c_tellsChord h1 (by omega) hw hn hn2 ha hb he) rfl rfl (by decide) (Nat.le_of_ble_eq_true rfl) (fun f2 m hc2 => ?_)
        obtain ⟨⟨mr2, hm2, w2, h2, hk2, hf2⟩, rfl⟩ := hc2
        have ho2 := h2.1
        have hs2 := h2.2.1
        have t2 := (hk2 0 (by decide) (by decide)).trans t1
        have k2 := (hk2 1 (by decide) (by decide)).trans k1
        have l2 := (hk2 2 (by decide) (by decide)).trans l1
        have O2 := zNO.fr O1 hf2 (by intro τ h; rcases h with h | h | h | h <;> omega)
        have F2 := zFr.trans F1 (zFr.weaken hf2 zTYZ)
        refine v_goto 51 dX4_chord_43 (by decide) ?_
        exact v_ireturn dX4_chord_51 rfl ⟨rfl, ⟨σ, mr2, by omega, ⟨w2, h2, t2, k2, l2, O2⟩, rfl, F2⟩, rfl⟩
    · rw [show (0 : Int32) = nI 0 from rfl] at b18
      rw [nI_eq (by omega) (by omega)] at b18
      omega
set_option maxRecDepth 10000 in
set_option maxHeartbeats 1000000 in
theorem y_chord_1 {G : zW} {f : zHM} {m : Nat × Nat} {o mr : Nat} {B : Nat → Nat} {w : Nat → Int32} {hh : Int64} {σ : Nat → Int32} (h : MX f o B w hh σ mr) {th : Int32} {k L : Nat} {sv : Nat → Nat → Int32} {hsl : Nat → Int32} {sl : Nat → Nat → Int32} {ch : Nat → Nat} (t : w 0 = th) (k0 : w 1 = nI k) (l0 : w 2 = nI L) (O : zNO f B k sv hsl sl L ch) {N s : Nat} (hv : RV (rOf σ) N s) {v : Int32} (hx : v < 0 ∨ ¬ v < nI N) {x y : Int32} : zM G yX4_chord cX4_chord 4 (some .int) 9 [.ref o, .int v, .int x, .int y] (f, m) (zD (some (.int 0)) (fun f' m' => zNP f o B hh mr 0 (nI 1) k sv hsl sl L ch (fun σ' => σ' = σ) f' ∧ m' = m)) := by
  refine zM.of (by decide) (Nat.le_of_ble_eq_true rfl) ?_
  have ho := h.1
  have hs := h.2.1
  have hN : σ 0 = nI N := hv.1
  have hp := hv.pos
  have hN4 := hv.2.2.2
  refine v_aload_n dX4_chord_0 rfl rfl ?_
  refine v_iconst (nI 0) dX4_chord_1 (by decide) ?_
  refine v_putfieldX fX4_35 dX4_chord_2 (by assumption) rfl rfl (Nat.le_of_ble_eq_true rfl) (fun f1 hp1 => ?_)
  obtain ⟨h1, hf1⟩ := MX.put (w' := zUp w 0 (nI 0)) (f0 := f) h hp1 rfl zFr.refl
  obtain ⟨w1, ew1⟩ : ∃ w9, w9 = zUp w 0 (nI 0) := ⟨_, rfl⟩
  rw [← ew1] at h1
  clear hp1
  have ho1 := h1.1
  have hs1 := h1.2.1
  have t1 : w1 0 = nI 0 := by rw [ew1]; rfl
  have k1 := (show w1 1 = w 1 from by rw [ew1]; rfl).trans k0
  have l1 := (show w1 2 = w 2 from by rw [ew1]; rfl).trans l0
  have O1 := zNO.fr O hf1 (by intro τ h; rcases h with h | h | h | h <;> omega)
  have F1 := zFr.trans zFr.refl (zFr.weaken hf1 zTYZ)
  refine v_aload_n dX4_chord_5 rfl rfl ?_
  refine v_iload_n dX4_chord_6 rfl rfl ?_
  refine v_callVp kX4_134 gi_X4_isNail ge_X4_isNail rfl dX4_chord_7 (by assumption) (c_isNail h1 hN hN4) rfl rfl (by decide) (Nat.le_of_ble_eq_true rfl) ?_
  rw [nl_n (by omega) (by omega) hx]
  refine v_if_eq 21 dX4_chord_10 (by decide) (fun b10 => ?_) (fun b10 => ?_)
  · rw [show (0 : Int32) = nI 0 from rfl] at b10
    rw [nI_eq (by omega) (by omega)] at b10
    refine v_aload_n dX4_chord_21 rfl rfl ?_
    refine v_iconst (nI 1) dX4_chord_22 (by decide) ?_
    refine v_callV1 kX4_118 gi_X4_fails ge_X4_fails rfl dX4_chord_23 (by assumption) (c_fails h1) rfl rfl (by decide) (Nat.le_of_ble_eq_true rfl) (fun f2 m hc2 => ?_)
    obtain ⟨⟨w2, h2, t2, hq2, hf2⟩, rfl⟩ := hc2
    have k2 := (hq2 1 (by decide)).trans k1
    have l2 := (hq2 2 (by decide)).trans l1
    have ho2 := h2.1
    have hs2 := h2.2.1
    have O2 := zNO.fr O1 hf2 (by intro τ h; rcases h with h | h | h | h <;> omega)
    have F2 := zFr.trans F1 (zFr.weaken hf2 zTYZ)
    exact v_ireturn dX4_chord_26 rfl ⟨rfl, ⟨σ, mr, by omega, ⟨w2, h2, t2, k2, l2, O2⟩, rfl, F2⟩, rfl⟩
  · rw [show (0 : Int32) = nI 0 from rfl] at b10
    rw [nI_eq (by omega) (by omega)] at b10
    omega
set_option maxRecDepth 10000 in
set_option maxHeartbeats 1000000 in
theorem y_chord_2 {G : zW} {f : zHM} {m : Nat × Nat} {o mr : Nat} {B : Nat → Nat} {w : Nat → Int32} {hh : Int64} {σ : Nat → Int32} (h : MX f o B w hh σ mr) {th : Int32} {k L : Nat} {sv : Nat → Nat → Int32} {hsl : Nat → Int32} {sl : Nat → Nat → Int32} {ch : Nat → Nat} (t : w 0 = th) (k0 : w 1 = nI k) (l0 : w 2 = nI L) (O : zNO f B k sv hsl sl L ch) {N s : Nat} (hv : RV (rOf σ) N s) {v : Int32} (hx : v < 0 ∨ ¬ v < nI N) {a : Nat} (ha : a < N) {y : Int32} : zM G yX4_chord cX4_chord 4 (some .int) 9 [.ref o, .int (nI a), .int v, .int y] (f, m) (zD (some (.int 0)) (fun f' m' => zNP f o B hh mr 0 (nI 1) k sv hsl sl L ch (fun σ' => σ' = σ) f' ∧ m' = m)) := by
  refine zM.of (by decide) (Nat.le_of_ble_eq_true rfl) ?_
  have ho := h.1
  have hs := h.2.1
  have hN : σ 0 = nI N := hv.1
  have hp := hv.pos
  have hN4 := hv.2.2.2
  refine v_aload_n dX4_chord_0 rfl rfl ?_
  refine v_iconst (nI 0) dX4_chord_1 (by decide) ?_
  refine v_putfieldX fX4_35 dX4_chord_2 (by assumption) rfl rfl (Nat.le_of_ble_eq_true rfl) (fun f1 hp1 => ?_)
  obtain ⟨h1, hf1⟩ := MX.put (w' := zUp w 0 (nI 0)) (f0 := f) h hp1 rfl zFr.refl
  obtain ⟨w1, ew1⟩ : ∃ w9, w9 = zUp w 0 (nI 0) := ⟨_, rfl⟩
  rw [← ew1] at h1
  clear hp1
  have ho1 := h1.1
  have hs1 := h1.2.1
  have t1 : w1 0 = nI 0 := by rw [ew1]; rfl
  have k1 := (show w1 1 = w 1 from by rw [ew1]; rfl).trans k0
  have l1 := (show w1 2 = w 2 from by rw [ew1]; rfl).trans l0
  have O1 := zNO.fr O hf1 (by intro τ h; rcases h with h | h | h | h <;> omega)
  have F1 := zFr.trans zFr.refl (zFr.weaken hf1 zTYZ)
  refine v_aload_n dX4_chord_5 rfl rfl ?_
  refine v_iload_n dX4_chord_6 rfl rfl ?_
  refine v_callVp kX4_134 gi_X4_isNail ge_X4_isNail rfl dX4_chord_7 (by assumption) (c_isNail h1 hN hN4) rfl rfl (by decide) (Nat.le_of_ble_eq_true rfl) ?_
  rw [nl_y (b := a) ha (by omega)]
  refine v_if_eq 21 dX4_chord_10 (by decide) (fun b10 => ?_) (fun b10 => ?_)
  · rw [show (0 : Int32) = nI 0 from rfl] at b10
    rw [nI_eq (by omega) (by omega)] at b10
    omega
  · rw [show (0 : Int32) = nI 0 from rfl] at b10
    rw [nI_eq (by omega) (by omega)] at b10
    refine v_aload_n dX4_chord_13 rfl rfl ?_
    refine v_iload_n dX4_chord_14 rfl rfl ?_
    refine v_callVp kX4_134 gi_X4_isNail ge_X4_isNail rfl dX4_chord_15 (by assumption) (c_isNail h1 hN hN4) rfl rfl (by decide) (Nat.le_of_ble_eq_true rfl) ?_
    rw [nl_n (by omega) (by omega) hx]
    refine v_if_ne 27 dX4_chord_18 (by decide) (fun b18 => ?_) (fun b18 => ?_)
    · rw [show (0 : Int32) = nI 0 from rfl] at b18
      rw [nI_eq (by omega) (by omega)] at b18
      omega
    · rw [show (0 : Int32) = nI 0 from rfl] at b18
      rw [nI_eq (by omega) (by omega)] at b18
      refine v_aload_n dX4_chord_21 rfl rfl ?_
      refine v_iconst (nI 1) dX4_chord_22 (by decide) ?_
      refine v_callV1 kX4_118 gi_X4_fails ge_X4_fails rfl dX4_chord_23 (by assumption) (c_fails h1) rfl rfl (by decide) (Nat.le_of_ble_eq_true rfl) (fun f2 m hc2 => ?_)
      obtain ⟨⟨w2, h2, t2, hq2, hf2⟩, rfl⟩ := hc2
      have k2 := (hq2 1 (by decide)).trans k1
      have l2 := (hq2 2 (by decide)).trans l1
      have ho2 := h2.1
      have hs2 := h2.2.1
      have O2 := zNO.fr O1 hf2 (by intro τ h; rcases h with h | h | h | h <;> omega)
      have F2 := zFr.trans F1 (zFr.weaken hf2 zTYZ)
      exact v_ireturn dX4_chord_26 rfl ⟨rfl, ⟨σ, mr, by omega, ⟨w2, h2, t2, k2, l2, O2⟩, rfl, F2⟩, rfl⟩
set_option maxRecDepth 10000 in
set_option maxHeartbeats 1000000 in
theorem y_chord_3 {G : zW} {f : zHM} {m : Nat × Nat} {o mr : Nat} {B : Nat → Nat} {w : Nat → Int32} {hh : Int64} {σ : Nat → Int32} (h : MX f o B w hh σ mr) {th : Int32} {k L : Nat} {sv : Nat → Nat → Int32} {hsl : Nat → Int32} {sl : Nat → Nat → Int32} {ch : Nat → Nat} (t : w 0 = th) (k0 : w 1 = nI k) (l0 : w 2 = nI L) (O : zNO f B k sv hsl sl L ch) {N s : Nat} (hv : RV (rOf σ) N s) {a b : Nat} (ha : a < N) (hb : b < N) {x : Int32} (hx : x < 0 ∨ ¬ x ≤ 2) : zM G yX4_chord cX4_chord 4 (some .int) 9 [.ref o, .int (nI a), .int (nI b), .int x] (f, m) (zD (some (.int 0)) (fun f' m' => zNP f o B hh mr 0 (nI 2) k sv hsl sl L ch (fun σ' => σ' = σ) f' ∧ m' = m)) := by
  refine zM.of (by decide) (Nat.le_of_ble_eq_true rfl) ?_
  have ho := h.1
  have hs := h.2.1
  have hN : σ 0 = nI N := hv.1
  have hp := hv.pos
  have hN4 := hv.2.2.2
  refine v_aload_n dX4_chord_0 rfl rfl ?_
  refine v_iconst (nI 0) dX4_chord_1 (by decide) ?_
  refine v_putfieldX fX4_35 dX4_chord_2 (by assumption) rfl rfl (Nat.le_of_ble_eq_true rfl) (fun f1 hp1 => ?_)
  obtain ⟨h1, hf1⟩ := MX.put (w' := zUp w 0 (nI 0)) (f0 := f) h hp1 rfl zFr.refl
  obtain ⟨w1, ew1⟩ : ∃ w9, w9 = zUp w 0 (nI 0) := ⟨_, rfl⟩
  rw [← ew1] at h1
  clear hp1
  have ho1 := h1.1
  have hs1 := h1.2.1
  have t1 : w1 0 = nI 0 := by rw [ew1]; rfl
  have k1 := (show w1 1 = w 1 from by rw [ew1]; rfl).trans k0
  have l1 := (show w1 2 = w 2 from by rw [ew1]; rfl).trans l0
  have O1 := zNO.fr O hf1 (by intro τ h; rcases h with h | h | h | h <;> omega)
  have F1 := zFr.trans zFr.refl (zFr.weaken hf1 zTYZ)
  refine v_aload_n dX4_chord_5 rfl rfl ?_
  refine v_iload_n dX4_chord_6 rfl rfl ?_
  refine v_callVp kX4_134 gi_X4_isNail ge_X4_isNail rfl dX4_chord_7 (by assumption) (c_isNail h1 hN hN4) rfl rfl (by decide) (Nat.le_of_ble_eq_true rfl) ?_
  rw [nl_y (b := a) ha (by omega)]
  refine v_if_eq 21 dX4_chord_10 (by decide) (fun b10 => ?_) (fun b10 => ?_)
  · rw [show (0 : Int32) = nI 0 from rfl] at b10
    rw [nI_eq (by omega) (by omega)] at b10
    omega
  · rw [show (0 : Int32) = nI 0 from rfl] at b10
    rw [nI_eq (by omega) (by omega)] at b10
    refine v_aload_n dX4_chord_13 rfl rfl ?_
    refine v_iload_n dX4_chord_14 rfl rfl ?_
    refine v_callVp kX4_134 gi_X4_isNail ge_X4_isNail rfl dX4_chord_15 (by assumption) (c_isNail h1 hN hN4) rfl rfl (by decide) (Nat.le_of_ble_eq_true rfl) ?_
    rw [nl_y (b := b) hb (by omega)]
    refine v_if_ne 27 dX4_chord_18 (by decide) (fun b18 => ?_) (fun b18 => ?_)
    · rw [show (0 : Int32) = nI 0 from rfl] at b18
      rw [nI_eq (by omega) (by omega)] at b18
      refine v_iload_n dX4_chord_27 rfl rfl ?_
      refine v_iconst (nI 0) dX4_chord_28 (by decide) ?_
      refine v_iconst (nI 2) dX4_chord_29 (by decide) ?_
      refine v_callSp kX4_42 gs_X4_in dX4_chord_30 c_in rfl rfl (by decide) (Nat.le_of_ble_eq_true rfl) ?_
      rw [in_n (a := nI 0) (b := nI 2) hx]
      refine v_if_eq 46 dX4_chord_33 (by decide) (fun b33 => ?_) (fun b33 => ?_)
      · rw [show (0 : Int32) = nI 0 from rfl] at b33
        rw [nI_eq (by omega) (by omega)] at b33
        refine v_aload_n dX4_chord_46 rfl rfl ?_
        refine v_iconst (nI 2) dX4_chord_47 (by decide) ?_
        refine v_callV1 kX4_118 gi_X4_fails ge_X4_fails rfl dX4_chord_48 (by assumption) (c_fails h1) rfl rfl (by decide) (Nat.le_of_ble_eq_true rfl) (fun f2 m hc2 => ?_)
        obtain ⟨⟨w2, h2, t2, hq2, hf2⟩, rfl⟩ := hc2
        have k2 := (hq2 1 (by decide)).trans k1
        have l2 := (hq2 2 (by decide)).trans l1
        have ho2 := h2.1
        have hs2 := h2.2.1
        have O2 := zNO.fr O1 hf2 (by intro τ h; rcases h with h | h | h | h <;> omega)
        have F2 := zFr.trans F1 (zFr.weaken hf2 zTYZ)
        exact v_ireturn dX4_chord_51 rfl ⟨rfl, ⟨σ, mr, by omega, ⟨w2, h2, t2, k2, l2, O2⟩, rfl, F2⟩, rfl⟩
      · rw [show (0 : Int32) = nI 0 from rfl] at b33
        rw [nI_eq (by omega) (by omega)] at b33
        omega
    · rw [show (0 : Int32) = nI 0 from rfl] at b18
      rw [nI_eq (by omega) (by omega)] at b18
      omega
set_option maxRecDepth 10000 in
set_option maxHeartbeats 1000000 in
theorem c_m9wound {G : zW} {f : zHM} {m : Nat × Nat} {o mr : Nat} {B : Nat → Nat} {w : Nat → Int32} {hh : Int64} {σ : Nat → Int32} (h : MX f o B w hh σ mr) {th : Int32} {k L : Nat} {sv : Nat → Nat → Int32} {hsl : Nat → Int32} {sl : Nat → Nat → Int32} {ch : Nat → Nat} (t : w 0 = th) (k0 : w 1 = nI k) (l0 : w 2 = nI L) (O : zNO f B k sv hsl sl L ch) {n : Nat} (hn : σ 15 = nI n) (hn2 : n ≤ 200) {g e : Nat} (hg : g < 2 ^ 31) (he : e < 3) : zM G yX4_wound cX4_wound 3 (some .int) 9 [.ref o, .int (nI g), .int (nI e)] (f, m) (zD (some (.int (sWound (rOf σ) n g e))) (fun f' m' => zNP f o B hh mr 0 0 k sv hsl sl L ch (fun σ' => σ' = σ) f' ∧ m' = m)) := by
  refine zM.of (by decide) (Nat.le_of_ble_eq_true rfl) ?_
  have ho := h.1
  have hs := h.2.1
  refine v_aload_n dX4_wound_0 rfl rfl ?_
  refine v_iconst (nI 0) dX4_wound_1 (by decide) ?_
  refine v_putfieldX fX4_35 dX4_wound_2 (by assumption) rfl rfl (Nat.le_of_ble_eq_true rfl) (fun f1 hp1 => ?_)
  obtain ⟨h1, hf1⟩ := MX.put (w' := zUp w 0 (nI 0)) (f0 := f) h hp1 rfl zFr.refl
  obtain ⟨w1, ew1⟩ : ∃ w9, w9 = zUp w 0 (nI 0) := ⟨_, rfl⟩
  rw [← ew1] at h1
  clear hp1
  have ho1 := h1.1
  have hs1 := h1.2.1
  have t1 : w1 0 = nI 0 := by rw [ew1]; rfl
  have k1 := (show w1 1 = w 1 from by rw [ew1]; rfl).trans k0
  have l1 := (show w1 2 = w 2 from by rw [ew1]; rfl).trans l0
  have O1 := zNO.fr O hf1 (by intro τ h; rcases h with h | h | h | h <;> omega)
  have F1 := zFr.trans zFr.refl (zFr.weaken hf1 zTYZ)
  refine v_iload_n dX4_wound_5 rfl rfl ?_
  refine v_if_lt 27 dX4_wound_6 (by decide) (fun b6 => ?_) (fun b6 => ?_)
  · rw [show (0 : Int32) = nI 0 from rfl] at b6
    rw [nI_ltI (by omega) (by omega)] at b6
    omega
  · rw [show (0 : Int32) = nI 0 from rfl] at b6
    rw [nI_ltI (by omega) (by omega)] at b6
    refine v_iload_n dX4_wound_9 rfl rfl ?_
    refine v_iconst (nI 0) dX4_wound_10 (by decide) ?_
    refine v_iconst (nI 2) dX4_wound_11 (by decide) ?_
    refine v_callSp kX4_42 gs_X4_in dX4_wound_12 c_in rfl rfl (by decide) (Nat.le_of_ble_eq_true rfl) ?_
    rw [inN_y (Nat.zero_le e) (show e ≤ 2 by omega) (by omega)]
    refine v_if_eq 27 dX4_wound_15 (by decide) (fun b15 => ?_) (fun b15 => ?_)
    · rw [show (0 : Int32) = nI 0 from rfl] at b15
      rw [nI_eq (by omega) (by omega)] at b15
      omega
    · rw [show (0 : Int32) = nI 0 from rfl] at b15
      rw [nI_eq (by omega) (by omega)] at b15
      refine v_aload_n dX4_wound_18 rfl rfl ?_
      refine v_iload_n dX4_wound_19 rfl rfl ?_
      refine v_iload_n dX4_wound_20 rfl rfl ?_
      refine v_callVp kX4_202 gi_X4_tellsWound ge_X4_tellsWound rfl dX4_wound_21 (by assumption) (c_tellsWound h1 hn hn2 hg he) rfl rfl (by decide) (Nat.le_of_ble_eq_true rfl) ?_
      refine v_goto 32 dX4_wound_24 (by decide) ?_
      exact v_ireturn dX4_wound_32 rfl ⟨rfl, ⟨σ, mr, by omega, ⟨w1, h1, t1, k1, l1, O1⟩, rfl, F1⟩, rfl⟩
set_option maxRecDepth 10000 in
set_option maxHeartbeats 1000000 in
theorem y_wound_1 {G : zW} {f : zHM} {m : Nat × Nat} {o mr : Nat} {B : Nat → Nat} {w : Nat → Int32} {hh : Int64} {σ : Nat → Int32} (h : MX f o B w hh σ mr) {th : Int32} {k L : Nat} {sv : Nat → Nat → Int32} {hsl : Nat → Int32} {sl : Nat → Nat → Int32} {ch : Nat → Nat} (t : w 0 = th) (k0 : w 1 = nI k) (l0 : w 2 = nI L) (O : zNO f B k sv hsl sl L ch) {v x : Int32} (hx : v < 0) : zM G yX4_wound cX4_wound 3 (some .int) 9 [.ref o, .int v, .int x] (f, m) (zD (some (.int 0)) (fun f' m' => zNP f o B hh mr 0 (nI 1) k sv hsl sl L ch (fun σ' => σ' = σ) f' ∧ m' = m)) := by
  refine zM.of (by decide) (Nat.le_of_ble_eq_true rfl) ?_
  have ho := h.1
  have hs := h.2.1
  refine v_aload_n dX4_wound_0 rfl rfl ?_
  refine v_iconst (nI 0) dX4_wound_1 (by decide) ?_
  refine v_putfieldX fX4_35 dX4_wound_2 (by assumption) rfl rfl (Nat.le_of_ble_eq_true rfl) (fun f1 hp1 => ?_)
  obtain ⟨h1, hf1⟩ := MX.put (w' := zUp w 0 (nI 0)) (f0 := f) h hp1 rfl zFr.refl
  obtain ⟨w1, ew1⟩ : ∃ w9, w9 = zUp w 0 (nI 0) := ⟨_, rfl⟩
  rw [← ew1] at h1
  clear hp1
  have ho1 := h1.1
  have hs1 := h1.2.1
  have t1 : w1 0 = nI 0 := by rw [ew1]; rfl
  have k1 := (show w1 1 = w 1 from by rw [ew1]; rfl).trans k0
  have l1 := (show w1 2 = w 2 from by rw [ew1]; rfl).trans l0
  have O1 := zNO.fr O hf1 (by intro τ h; rcases h with h | h | h | h <;> omega)
  have F1 := zFr.trans zFr.refl (zFr.weaken hf1 zTYZ)
  refine v_iload_n dX4_wound_5 rfl rfl ?_
  refine v_if_lt 27 dX4_wound_6 (by decide) (fun b6 => ?_) (fun b6 => ?_)
  · refine v_aload_n dX4_wound_27 rfl rfl ?_
    refine v_iconst (nI 1) dX4_wound_28 (by decide) ?_
    refine v_callV1 kX4_118 gi_X4_fails ge_X4_fails rfl dX4_wound_29 (by assumption) (c_fails h1) rfl rfl (by decide) (Nat.le_of_ble_eq_true rfl) (fun f2 m hc2 => ?_)
    obtain ⟨⟨w2, h2, t2, hq2, hf2⟩, rfl⟩ := hc2
    have k2 := (hq2 1 (by decide)).trans k1
    have l2 := (hq2 2 (by decide)).trans l1
    have ho2 := h2.1
    have hs2 := h2.2.1
    have O2 := zNO.fr O1 hf2 (by intro τ h; rcases h with h | h | h | h <;> omega)
    have F2 := zFr.trans F1 (zFr.weaken hf2 zTYZ)
    exact v_ireturn dX4_wound_32 rfl ⟨rfl, ⟨σ, mr, by omega, ⟨w2, h2, t2, k2, l2, O2⟩, rfl, F2⟩, rfl⟩
  · exact absurd hx b6
set_option maxRecDepth 10000 in
set_option maxHeartbeats 1000000 in
theorem y_wound_2 {G : zW} {f : zHM} {m : Nat × Nat} {o mr : Nat} {B : Nat → Nat} {w : Nat → Int32} {hh : Int64} {σ : Nat → Int32} (h : MX f o B w hh σ mr) {th : Int32} {k L : Nat} {sv : Nat → Nat → Int32} {hsl : Nat → Int32} {sl : Nat → Nat → Int32} {ch : Nat → Nat} (t : w 0 = th) (k0 : w 1 = nI k) (l0 : w 2 = nI L) (O : zNO f B k sv hsl sl L ch) {g : Nat} (hg : g < 2 ^ 31) {x : Int32} (hx : x < 0 ∨ ¬ x ≤ 2) : zM G yX4_wound cX4_wound 3 (some .int) 9 [.ref o, .int (nI g), .int x] (f, m) (zD (some (.int 0)) (fun f' m' => zNP f o B hh mr 0 (nI 1) k sv hsl sl L ch (fun σ' => σ' = σ) f' ∧ m' = m)) := by
  refine zM.of (by decide) (Nat.le_of_ble_eq_true rfl) ?_
  have ho := h.1
  have hs := h.2.1
  refine v_aload_n dX4_wound_0 rfl rfl ?_
  refine v_iconst (nI 0) dX4_wound_1 (by decide) ?_
  refine v_putfieldX fX4_35 dX4_wound_2 (by assumption) rfl rfl (Nat.le_of_ble_eq_true rfl) (fun f1 hp1 => ?_)
  obtain ⟨h1, hf1⟩ := MX.put (w' := zUp w 0 (nI 0)) (f0 := f) h hp1 rfl zFr.refl
  obtain ⟨w1, ew1⟩ : ∃ w9, w9 = zUp w 0 (nI 0) := ⟨_, rfl⟩
  rw [← ew1] at h1
  clear hp1
  have ho1 := h1.1
  have hs1 := h1.2.1
  have t1 : w1 0 = nI 0 := by rw [ew1]; rfl
  have k1 := (show w1 1 = w 1 from by rw [ew1]; rfl).trans k0
  have l1 := (show w1 2 = w 2 from by rw [ew1]; rfl).trans l0
  have O1 := zNO.fr O hf1 (by intro τ h; rcases h with h | h | h | h <;> omega)
  have F1 := zFr.trans zFr.refl (zFr.weaken hf1 zTYZ)
  refine v_iload_n dX4_wound_5 rfl rfl ?_
  refine v_if_lt 27 dX4_wound_6 (by decide) (fun b6 => ?_) (fun b6 => ?_)
  · rw [show (0 : Int32) = nI 0 from rfl] at b6
    rw [nI_ltI (by omega) (by omega)] at b6
    omega
  · rw [show (0 : Int32) = nI 0 from rfl] at b6
    rw [nI_ltI (by omega) (by omega)] at b6
    refine v_iload_n dX4_wound_9 rfl rfl ?_
    refine v_iconst (nI 0) dX4_wound_10 (by decide) ?_
    refine v_iconst (nI 2) dX4_wound_11 (by decide) ?_
    refine v_callSp kX4_42 gs_X4_in dX4_wound_12 c_in rfl rfl (by decide) (Nat.le_of_ble_eq_true rfl) ?_
    rw [in_n (a := nI 0) (b := nI 2) hx]
    refine v_if_eq 27 dX4_wound_15 (by decide) (fun b15 => ?_) (fun b15 => ?_)
    · rw [show (0 : Int32) = nI 0 from rfl] at b15
      rw [nI_eq (by omega) (by omega)] at b15
      refine v_aload_n dX4_wound_27 rfl rfl ?_
      refine v_iconst (nI 1) dX4_wound_28 (by decide) ?_
      refine v_callV1 kX4_118 gi_X4_fails ge_X4_fails rfl dX4_wound_29 (by assumption) (c_fails h1) rfl rfl (by decide) (Nat.le_of_ble_eq_true rfl) (fun f2 m hc2 => ?_)
      obtain ⟨⟨w2, h2, t2, hq2, hf2⟩, rfl⟩ := hc2
      have k2 := (hq2 1 (by decide)).trans k1
      have l2 := (hq2 2 (by decide)).trans l1
      have ho2 := h2.1
      have hs2 := h2.2.1
      have O2 := zNO.fr O1 hf2 (by intro τ h; rcases h with h | h | h | h <;> omega)
      have F2 := zFr.trans F1 (zFr.weaken hf2 zTYZ)
      exact v_ireturn dX4_wound_32 rfl ⟨rfl, ⟨σ, mr, by omega, ⟨w2, h2, t2, k2, l2, O2⟩, rfl, F2⟩, rfl⟩
    · rw [show (0 : Int32) = nI 0 from rfl] at b15
      rw [nI_eq (by omega) (by omega)] at b15
      omega
theorem sq_n {x z : Int32} (hx : x < 0 ∨ 12 ≤ x ∨ z < 0 ∨ ¬ z < 12) : ¬ ((nI 0 ≤ x ∧ x ≤ nI 11) ∧ nI 0 ≤ z ∧ z ≤ nI 11) := fun ⟨⟨h1, h2⟩, h3, h4⟩ => by
  have e1 := (i32_pred (N := 12) (by omega) (by omega)).mp h2
  have e2 := (i32_pred (N := 12) (by omega) (by omega)).mp h4
  rcases hx with h | h | h | h
  · exact absurd h (Int32.not_lt.mpr h1)
  · exact absurd e1 (Int32.not_lt.mpr h)
  · exact absurd h (Int32.not_lt.mpr h3)
  · exact h e2
set_option maxRecDepth 10000 in
set_option maxHeartbeats 1000000 in
theorem c_m9square {G : zW} {f : zHM} {m : Nat × Nat} {o mr : Nat} {B : Nat → Nat} {w : Nat → Int32} {hh : Int64} {σ : Nat → Int32} (h : MX f o B w hh σ mr) {th : Int32} {k L : Nat} {sv : Nat → Nat → Int32} {hsl : Nat → Int32} {sl : Nat → Nat → Int32} {ch : Nat → Nat} (t : w 0 = th) (k0 : w 1 = nI k) (l0 : w 2 = nI L) (O : zNO f B k sv hsl sl L ch) (hmr9 : mr + 1000 < 2 ^ 30) {N s n : Nat} (hw : RW (rOf σ) N s n) (hn : σ 15 = nI n) (hn2 : n ≤ 200) {x y e : Nat} (hx : x < 12) (hy : y < 12) (he : e < 4) : zM G yX4_square cX4_square 4 (some .int) 9 [.ref o, .int (nI x), .int (nI y), .int (nI e)] (f, m) (zD (some (.int (sSquare (rOf σ) (sXs (rOf σ) s n) (y * 12 + x) e))) (fun f' m' => zNP f o B hh mr 200 0 k sv hsl sl L ch (fun σ' => σ' = σ) f' ∧ m' = m)) := by
  refine zM.of (by decide) (Nat.le_of_ble_eq_true rfl) ?_
  have ho := h.1
  have hs := h.2.1
  refine v_aload_n dX4_square_0 rfl rfl ?_
  refine v_iconst (nI 0) dX4_square_1 (by decide) ?_
  refine v_putfieldX fX4_35 dX4_square_2 (by assumption) rfl rfl (Nat.le_of_ble_eq_true rfl) (fun f1 hp1 => ?_)
  obtain ⟨h1, hf1⟩ := MX.put (w' := zUp w 0 (nI 0)) (f0 := f) h hp1 rfl zFr.refl
  obtain ⟨w1, ew1⟩ : ∃ w9, w9 = zUp w 0 (nI 0) := ⟨_, rfl⟩
  rw [← ew1] at h1
  clear hp1
  have ho1 := h1.1
  have hs1 := h1.2.1
  have t1 : w1 0 = nI 0 := by rw [ew1]; rfl
  have k1 := (show w1 1 = w 1 from by rw [ew1]; rfl).trans k0
  have l1 := (show w1 2 = w 2 from by rw [ew1]; rfl).trans l0
  have O1 := zNO.fr O hf1 (by intro τ h; rcases h with h | h | h | h <;> omega)
  have F1 := zFr.trans zFr.refl (zFr.weaken hf1 zTYZ)
  refine v_iload_n dX4_square_5 rfl rfl ?_
  refine v_iload_n dX4_square_6 rfl rfl ?_
  refine v_callSp kX4_147 gs_X4_isSquare dX4_square_7 c_isSquare rfl rfl (by decide) (Nat.le_of_ble_eq_true rfl) ?_
  rw [if_pos ⟨⟨nI_le (Nat.zero_le x) (by omega), nI_le (show x ≤ 11 by omega) (by omega)⟩, nI_le (Nat.zero_le y) (by omega), nI_le (show y ≤ 11 by omega) (by omega)⟩]
  rw [show (1 : Int32) = nI 1 from rfl]
  refine v_if_ne 19 dX4_square_10 (by decide) (fun b10 => ?_) (fun b10 => ?_)
  · rw [show (0 : Int32) = nI 0 from rfl] at b10
    rw [nI_eq (by omega) (by omega)] at b10
    refine v_iload_n dX4_square_19 rfl rfl ?_
    refine v_iconst (nI 0) dX4_square_20 (by decide) ?_
    refine v_iconst (nI 3) dX4_square_21 (by decide) ?_
    refine v_callSp kX4_42 gs_X4_in dX4_square_22 c_in rfl rfl (by decide) (Nat.le_of_ble_eq_true rfl) ?_
    rw [inN_y (Nat.zero_le e) (show e ≤ 3 by omega) (by omega)]
    refine v_if_eq 42 dX4_square_25 (by decide) (fun b25 => ?_) (fun b25 => ?_)
    · rw [show (0 : Int32) = nI 0 from rfl] at b25
      rw [nI_eq (by omega) (by omega)] at b25
      omega
    · rw [show (0 : Int32) = nI 0 from rfl] at b25
      rw [nI_eq (by omega) (by omega)] at b25
      refine v_aload_n dX4_square_28 rfl rfl ?_
      refine v_bipush (nI 12) dX4_square_29 (by decide) ?_
      refine v_iload_n dX4_square_31 rfl rfl ?_
      refine v_imul dX4_square_32 ?_
      rw [pk_mul 12 y]
      refine v_iload_n dX4_square_33 rfl rfl ?_
      refine v_iadd dX4_square_34 ?_
      rw [nI_add (12 * y) x]
      rw [show 12 * y + x = y * 12 + x from by omega]
      refine v_iload_n dX4_square_35 rfl rfl ?_
      refine v_callV1 kX4_208 gi_X4_tellsSquare ge_X4_tellsSquare rfl dX4_square_36 (by assumption) (c_tellsSquare h1 (by omega) hw hn hn2 (show y * 12 + x < 144 by omega) he) rfl rfl (by decide) (Nat.le_of_ble_eq_true rfl) (fun f2 m hc2 => ?_)
      obtain ⟨⟨mr2, hm2, w2, h2, hk2, hf2⟩, rfl⟩ := hc2
      have ho2 := h2.1
      have hs2 := h2.2.1
      have t2 := (hk2 0 (by decide) (by decide)).trans t1
      have k2 := (hk2 1 (by decide) (by decide)).trans k1
      have l2 := (hk2 2 (by decide) (by decide)).trans l1
      have O2 := zNO.fr O1 hf2 (by intro τ h; rcases h with h | h | h | h <;> omega)
      have F2 := zFr.trans F1 (zFr.weaken hf2 zTYZ)
      refine v_goto 47 dX4_square_39 (by decide) ?_
      exact v_ireturn dX4_square_47 rfl ⟨rfl, ⟨σ, mr2, by omega, ⟨w2, h2, t2, k2, l2, O2⟩, rfl, F2⟩, rfl⟩
  · rw [show (0 : Int32) = nI 0 from rfl] at b10
    rw [nI_eq (by omega) (by omega)] at b10
    omega
set_option maxRecDepth 10000 in
set_option maxHeartbeats 1000000 in
theorem y_square_1 {G : zW} {f : zHM} {m : Nat × Nat} {o mr : Nat} {B : Nat → Nat} {w : Nat → Int32} {hh : Int64} {σ : Nat → Int32} (h : MX f o B w hh σ mr) {th : Int32} {k L : Nat} {sv : Nat → Nat → Int32} {hsl : Nat → Int32} {sl : Nat → Nat → Int32} {ch : Nat → Nat} (t : w 0 = th) (k0 : w 1 = nI k) (l0 : w 2 = nI L) (O : zNO f B k sv hsl sl L ch) {x z y : Int32} (hx : x < 0 ∨ 12 ≤ x ∨ z < 0 ∨ ¬ z < 12) : zM G yX4_square cX4_square 4 (some .int) 9 [.ref o, .int x, .int z, .int y] (f, m) (zD (some (.int 0)) (fun f' m' => zNP f o B hh mr 0 (nI 1) k sv hsl sl L ch (fun σ' => σ' = σ) f' ∧ m' = m)) := by
  refine zM.of (by decide) (Nat.le_of_ble_eq_true rfl) ?_
  have ho := h.1
  have hs := h.2.1
  refine v_aload_n dX4_square_0 rfl rfl ?_
  refine v_iconst (nI 0) dX4_square_1 (by decide) ?_
  refine v_putfieldX fX4_35 dX4_square_2 (by assumption) rfl rfl (Nat.le_of_ble_eq_true rfl) (fun f1 hp1 => ?_)
  obtain ⟨h1, hf1⟩ := MX.put (w' := zUp w 0 (nI 0)) (f0 := f) h hp1 rfl zFr.refl
  obtain ⟨w1, ew1⟩ : ∃ w9, w9 = zUp w 0 (nI 0) := ⟨_, rfl⟩
  rw [← ew1] at h1
  clear hp1
  have ho1 := h1.1
  have hs1 := h1.2.1
  have t1 : w1 0 = nI 0 := by rw [ew1]; rfl
  have k1 := (show w1 1 = w 1 from by rw [ew1]; rfl).trans k0
  have l1 := (show w1 2 = w 2 from by rw [ew1]; rfl).trans l0
  have O1 := zNO.fr O hf1 (by intro τ h; rcases h with h | h | h | h <;> omega)
  have F1 := zFr.trans zFr.refl (zFr.weaken hf1 zTYZ)
  refine v_iload_n dX4_square_5 rfl rfl ?_
  refine v_iload_n dX4_square_6 rfl rfl ?_
  refine v_callSp kX4_147 gs_X4_isSquare dX4_square_7 c_isSquare rfl rfl (by decide) (Nat.le_of_ble_eq_true rfl) ?_
  rw [if_neg (sq_n hx)]
  rw [show (0 : Int32) = nI 0 from rfl]
  refine v_if_ne 19 dX4_square_10 (by decide) (fun b10 => ?_) (fun b10 => ?_)
  · rw [show (0 : Int32) = nI 0 from rfl] at b10
    rw [nI_eq (by omega) (by omega)] at b10
    omega
  · rw [show (0 : Int32) = nI 0 from rfl] at b10
    rw [nI_eq (by omega) (by omega)] at b10
    refine v_aload_n dX4_square_13 rfl rfl ?_
    refine v_iconst (nI 1) dX4_square_14 (by decide) ?_
    refine v_callV1 kX4_118 gi_X4_fails ge_X4_fails rfl dX4_square_15 (by assumption) (c_fails h1) rfl rfl (by decide) (Nat.le_of_ble_eq_true rfl) (fun f2 m hc2 => ?_)
    obtain ⟨⟨w2, h2, t2, hq2, hf2⟩, rfl⟩ := hc2
    have k2 := (hq2 1 (by decide)).trans k1
    have l2 := (hq2 2 (by decide)).trans l1
    have ho2 := h2.1
    have hs2 := h2.2.1
    have O2 := zNO.fr O1 hf2 (by intro τ h; rcases h with h | h | h | h <;> omega)
    have F2 := zFr.trans F1 (zFr.weaken hf2 zTYZ)
    exact v_ireturn dX4_square_18 rfl ⟨rfl, ⟨σ, mr, by omega, ⟨w2, h2, t2, k2, l2, O2⟩, rfl, F2⟩, rfl⟩
set_option maxRecDepth 10000 in
set_option maxHeartbeats 1000000 in
theorem y_square_2 {G : zW} {f : zHM} {m : Nat × Nat} {o mr : Nat} {B : Nat → Nat} {w : Nat → Int32} {hh : Int64} {σ : Nat → Int32} (h : MX f o B w hh σ mr) {th : Int32} {k L : Nat} {sv : Nat → Nat → Int32} {hsl : Nat → Int32} {sl : Nat → Nat → Int32} {ch : Nat → Nat} (t : w 0 = th) (k0 : w 1 = nI k) (l0 : w 2 = nI L) (O : zNO f B k sv hsl sl L ch) {x y : Nat} (hx : x < 12) (hy : y < 12) {v : Int32} (hv : v < 0 ∨ ¬ v ≤ 3) : zM G yX4_square cX4_square 4 (some .int) 9 [.ref o, .int (nI x), .int (nI y), .int v] (f, m) (zD (some (.int 0)) (fun f' m' => zNP f o B hh mr 0 (nI 2) k sv hsl sl L ch (fun σ' => σ' = σ) f' ∧ m' = m)) := by
  refine zM.of (by decide) (Nat.le_of_ble_eq_true rfl) ?_
  have ho := h.1
  have hs := h.2.1
  refine v_aload_n dX4_square_0 rfl rfl ?_
  refine v_iconst (nI 0) dX4_square_1 (by decide) ?_
  refine v_putfieldX fX4_35 dX4_square_2 (by assumption) rfl rfl (Nat.le_of_ble_eq_true rfl) (fun f1 hp1 => ?_)
  obtain ⟨h1, hf1⟩ := MX.put (w' := zUp w 0 (nI 0)) (f0 := f) h hp1 rfl zFr.refl
  obtain ⟨w1, ew1⟩ : ∃ w9, w9 = zUp w 0 (nI 0) := ⟨_, rfl⟩
  rw [← ew1] at h1
  clear hp1
  have ho1 := h1.1
  have hs1 := h1.2.1
  have t1 : w1 0 = nI 0 := by rw [ew1]; rfl
  have k1 := (show w1 1 = w 1 from by rw [ew1]; rfl).trans k0
  have l1 := (show w1 2 = w 2 from by rw [ew1]; rfl).trans l0
  have O1 := zNO.fr O hf1 (by intro τ h; rcases h with h | h | h | h <;> omega)
  have F1 := zFr.trans zFr.refl (zFr.weaken hf1 zTYZ)
  refine v_iload_n dX4_square_5 rfl rfl ?_
  refine v_iload_n dX4_square_6 rfl rfl ?_
  refine v_callSp kX4_147 gs_X4_isSquare dX4_square_7 c_isSquare rfl rfl (by decide) (Nat.le_of_ble_eq_true rfl) ?_
  rw [if_pos ⟨⟨nI_le (Nat.zero_le x) (by omega), nI_le (show x ≤ 11 by omega) (by omega)⟩, nI_le (Nat.zero_le y) (by omega), nI_le (show y ≤ 11 by omega) (by omega)⟩]
  rw [show (1 : Int32) = nI 1 from rfl]
  refine v_if_ne 19 dX4_square_10 (by decide) (fun b10 => ?_) (fun b10 => ?_)
  · rw [show (0 : Int32) = nI 0 from rfl] at b10
    rw [nI_eq (by omega) (by omega)] at b10
    refine v_iload_n dX4_square_19 rfl rfl ?_
    refine v_iconst (nI 0) dX4_square_20 (by decide) ?_
    refine v_iconst (nI 3) dX4_square_21 (by decide) ?_
    refine v_callSp kX4_42 gs_X4_in dX4_square_22 c_in rfl rfl (by decide) (Nat.le_of_ble_eq_true rfl) ?_
    rw [in_n (a := nI 0) (b := nI 3) hv]
    refine v_if_eq 42 dX4_square_25 (by decide) (fun b25 => ?_) (fun b25 => ?_)
    · rw [show (0 : Int32) = nI 0 from rfl] at b25
      rw [nI_eq (by omega) (by omega)] at b25
      refine v_aload_n dX4_square_42 rfl rfl ?_
      refine v_iconst (nI 2) dX4_square_43 (by decide) ?_
      refine v_callV1 kX4_118 gi_X4_fails ge_X4_fails rfl dX4_square_44 (by assumption) (c_fails h1) rfl rfl (by decide) (Nat.le_of_ble_eq_true rfl) (fun f2 m hc2 => ?_)
      obtain ⟨⟨w2, h2, t2, hq2, hf2⟩, rfl⟩ := hc2
      have k2 := (hq2 1 (by decide)).trans k1
      have l2 := (hq2 2 (by decide)).trans l1
      have ho2 := h2.1
      have hs2 := h2.2.1
      have O2 := zNO.fr O1 hf2 (by intro τ h; rcases h with h | h | h | h <;> omega)
      have F2 := zFr.trans F1 (zFr.weaken hf2 zTYZ)
      exact v_ireturn dX4_square_47 rfl ⟨rfl, ⟨σ, mr, by omega, ⟨w2, h2, t2, k2, l2, O2⟩, rfl, F2⟩, rfl⟩
    · rw [show (0 : Int32) = nI 0 from rfl] at b25
      rw [nI_eq (by omega) (by omega)] at b25
      omega
  · rw [show (0 : Int32) = nI 0 from rfl] at b10
    rw [nI_eq (by omega) (by omega)] at b10
    omega
set_option maxRecDepth 10000 in
set_option maxHeartbeats 1000000 in
theorem c_m9count {G : zW} {f : zHM} {m : Nat × Nat} {o mr : Nat} {B : Nat → Nat} {w : Nat → Int32} {hh : Int64} {σ : Nat → Int32} (h : MX f o B w hh σ mr) {th : Int32} {k L : Nat} {sv : Nat → Nat → Int32} {hsl : Nat → Int32} {sl : Nat → Nat → Int32} {ch : Nat → Nat} (t : w 0 = th) (k0 : w 1 = nI k) (l0 : w 2 = nI L) (O : zNO f B k sv hsl sl L ch) {N s n : Nat} (hw : RW (rOf σ) N s n) (hn : σ 15 = nI n) (hn2 : n ≤ 200) {e : Nat} (he : e < 13) : zM G yX4_count cX4_count 2 (some .int) 9 [.ref o, .int (nI e)] (f, m) (zD (some (.int (mCount (rOf σ) s n k e))) (fun f' m' => zNP f o B hh mr 0 0 k sv hsl sl L ch (fun σ' => σ' = σ) f' ∧ m' = m)) := by
  refine zM.of (by decide) (Nat.le_of_ble_eq_true rfl) ?_
  have ho := h.1
  have hs := h.2.1
  refine v_aload_n dX4_count_0 rfl rfl ?_
  refine v_iconst (nI 0) dX4_count_1 (by decide) ?_
  refine v_putfieldX fX4_35 dX4_count_2 (by assumption) rfl rfl (Nat.le_of_ble_eq_true rfl) (fun f1 hp1 => ?_)
  obtain ⟨h1, hf1⟩ := MX.put (w' := zUp w 0 (nI 0)) (f0 := f) h hp1 rfl zFr.refl
  obtain ⟨w1, ew1⟩ : ∃ w9, w9 = zUp w 0 (nI 0) := ⟨_, rfl⟩
  rw [← ew1] at h1
  clear hp1
  have ho1 := h1.1
  have hs1 := h1.2.1
  have t1 : w1 0 = nI 0 := by rw [ew1]; rfl
  have k1 := (show w1 1 = w 1 from by rw [ew1]; rfl).trans k0
  have l1 := (show w1 2 = w 2 from by rw [ew1]; rfl).trans l0
  have O1 := zNO.fr O hf1 (by intro τ h; rcases h with h | h | h | h <;> omega)
  have F1 := zFr.trans zFr.refl (zFr.weaken hf1 zTYZ)
  refine v_iload_n dX4_count_5 rfl rfl ?_
  refine v_iconst (nI 0) dX4_count_6 (by decide) ?_
  refine v_bipush (nI 12) dX4_count_7 (by decide) ?_
  refine v_callSp kX4_42 gs_X4_in dX4_count_9 c_in rfl rfl (by decide) (Nat.le_of_ble_eq_true rfl) ?_
  rw [inN_y (Nat.zero_le e) (show e ≤ 12 by omega) (by omega)]
  refine v_if_eq 23 dX4_count_12 (by decide) (fun b12 => ?_) (fun b12 => ?_)
  · rw [show (0 : Int32) = nI 0 from rfl] at b12
    rw [nI_eq (by omega) (by omega)] at b12
    omega
  · rw [show (0 : Int32) = nI 0 from rfl] at b12
    rw [nI_eq (by omega) (by omega)] at b12
    refine v_aload_n dX4_count_15 rfl rfl ?_
    refine v_iload_n dX4_count_16 rfl rfl ?_
    refine v_callVp kX4_214 gi_X4_tellsCount ge_X4_tellsCount rfl dX4_count_17 (by assumption) (c_tellsCount h1 hw hn hn2 k1 he) rfl rfl (by decide) (Nat.le_of_ble_eq_true rfl) ?_
    refine v_goto 28 dX4_count_20 (by decide) ?_
    exact v_ireturn dX4_count_28 rfl ⟨rfl, ⟨σ, mr, by omega, ⟨w1, h1, t1, k1, l1, O1⟩, rfl, F1⟩, rfl⟩
set_option maxRecDepth 10000 in
set_option maxHeartbeats 1000000 in
theorem y_count_1 {G : zW} {f : zHM} {m : Nat × Nat} {o mr : Nat} {B : Nat → Nat} {w : Nat → Int32} {hh : Int64} {σ : Nat → Int32} (h : MX f o B w hh σ mr) {th : Int32} {k L : Nat} {sv : Nat → Nat → Int32} {hsl : Nat → Int32} {sl : Nat → Nat → Int32} {ch : Nat → Nat} (t : w 0 = th) (k0 : w 1 = nI k) (l0 : w 2 = nI L) (O : zNO f B k sv hsl sl L ch) {v : Int32} (hx : v < 0 ∨ ¬ v ≤ 12) : zM G yX4_count cX4_count 2 (some .int) 9 [.ref o, .int v] (f, m) (zD (some (.int 0)) (fun f' m' => zNP f o B hh mr 0 (nI 1) k sv hsl sl L ch (fun σ' => σ' = σ) f' ∧ m' = m)) := by
  refine zM.of (by decide) (Nat.le_of_ble_eq_true rfl) ?_
  have ho := h.1
  have hs := h.2.1
  refine v_aload_n dX4_count_0 rfl rfl ?_
  refine v_iconst (nI 0) dX4_count_1 (by decide) ?_
  refine v_putfieldX fX4_35 dX4_count_2 (by assumption) rfl rfl (Nat.le_of_ble_eq_true rfl) (fun f1 hp1 => ?_)
  obtain ⟨h1, hf1⟩ := MX.put (w' := zUp w 0 (nI 0)) (f0 := f) h hp1 rfl zFr.refl
  obtain ⟨w1, ew1⟩ : ∃ w9, w9 = zUp w 0 (nI 0) := ⟨_, rfl⟩
  rw [← ew1] at h1
  clear hp1
  have ho1 := h1.1
  have hs1 := h1.2.1
  have t1 : w1 0 = nI 0 := by rw [ew1]; rfl
  have k1 := (show w1 1 = w 1 from by rw [ew1]; rfl).trans k0
  have l1 := (show w1 2 = w 2 from by rw [ew1]; rfl).trans l0
  have O1 := zNO.fr O hf1 (by intro τ h; rcases h with h | h | h | h <;> omega)
  have F1 := zFr.trans zFr.refl (zFr.weaken hf1 zTYZ)
  refine v_iload_n dX4_count_5 rfl rfl ?_
  refine v_iconst (nI 0) dX4_count_6 (by decide) ?_
  refine v_bipush (nI 12) dX4_count_7 (by decide) ?_
  refine v_callSp kX4_42 gs_X4_in dX4_count_9 c_in rfl rfl (by decide) (Nat.le_of_ble_eq_true rfl) ?_
  rw [in_n (a := nI 0) (b := nI 12) hx]
  refine v_if_eq 23 dX4_count_12 (by decide) (fun b12 => ?_) (fun b12 => ?_)
  · rw [show (0 : Int32) = nI 0 from rfl] at b12
    rw [nI_eq (by omega) (by omega)] at b12
    refine v_aload_n dX4_count_23 rfl rfl ?_
    refine v_iconst (nI 1) dX4_count_24 (by decide) ?_
    refine v_callV1 kX4_118 gi_X4_fails ge_X4_fails rfl dX4_count_25 (by assumption) (c_fails h1) rfl rfl (by decide) (Nat.le_of_ble_eq_true rfl) (fun f2 m hc2 => ?_)
    obtain ⟨⟨w2, h2, t2, hq2, hf2⟩, rfl⟩ := hc2
    have k2 := (hq2 1 (by decide)).trans k1
    have l2 := (hq2 2 (by decide)).trans l1
    have ho2 := h2.1
    have hs2 := h2.2.1
    have O2 := zNO.fr O1 hf2 (by intro τ h; rcases h with h | h | h | h <;> omega)
    have F2 := zFr.trans F1 (zFr.weaken hf2 zTYZ)
    exact v_ireturn dX4_count_28 rfl ⟨rfl, ⟨σ, mr, by omega, ⟨w2, h2, t2, k2, l2, O2⟩, rfl, F2⟩, rfl⟩
  · rw [show (0 : Int32) = nI 0 from rfl] at b12
    rw [nI_eq (by omega) (by omega)] at b12
    omega
set_option maxRecDepth 10000 in
set_option maxHeartbeats 1000000 in
theorem c_m9setting {G : zW} {f : zHM} {m : Nat × Nat} {o mr : Nat} {B : Nat → Nat} {w : Nat → Int32} {hh : Int64} {σ : Nat → Int32} (h : MX f o B w hh σ mr) {th : Int32} {k L : Nat} {sv : Nat → Nat → Int32} {hsl : Nat → Int32} {sl : Nat → Nat → Int32} {ch : Nat → Nat} (t : w 0 = th) (k0 : w 1 = nI k) (l0 : w 2 = nI L) (O : zNO f B k sv hsl sl L ch) {e : Nat} (he : e < 3) : zM G yX4_setting cX4_setting 2 (some .int) 9 [.ref o, .int (nI e)] (f, m) (zD (some (.int (rOf σ 3 e))) (fun f' m' => zNP f o B hh mr 0 0 k sv hsl sl L ch (fun σ' => σ' = σ) f' ∧ m' = m)) := by
  refine zM.of (by decide) (Nat.le_of_ble_eq_true rfl) ?_
  have ho := h.1
  have hs := h.2.1
  refine v_aload_n dX4_setting_0 rfl rfl ?_
  refine v_iconst (nI 0) dX4_setting_1 (by decide) ?_
  refine v_putfieldX fX4_35 dX4_setting_2 (by assumption) rfl rfl (Nat.le_of_ble_eq_true rfl) (fun f1 hp1 => ?_)
  obtain ⟨h1, hf1⟩ := MX.put (w' := zUp w 0 (nI 0)) (f0 := f) h hp1 rfl zFr.refl
  obtain ⟨w1, ew1⟩ : ∃ w9, w9 = zUp w 0 (nI 0) := ⟨_, rfl⟩
  rw [← ew1] at h1
  clear hp1
  have ho1 := h1.1
  have hs1 := h1.2.1
  have t1 : w1 0 = nI 0 := by rw [ew1]; rfl
  have k1 := (show w1 1 = w 1 from by rw [ew1]; rfl).trans k0
  have l1 := (show w1 2 = w 2 from by rw [ew1]; rfl).trans l0
  have O1 := zNO.fr O hf1 (by intro τ h; rcases h with h | h | h | h <;> omega)
  have F1 := zFr.trans zFr.refl (zFr.weaken hf1 zTYZ)
  refine v_iload_n dX4_setting_5 rfl rfl ?_
  refine v_iconst (nI 0) dX4_setting_6 (by decide) ?_
  refine v_iconst (nI 2) dX4_setting_7 (by decide) ?_
  refine v_callSp kX4_42 gs_X4_in dX4_setting_8 c_in rfl rfl (by decide) (Nat.le_of_ble_eq_true rfl) ?_
  rw [inN_y (Nat.zero_le e) (show e ≤ 2 by omega) (by omega)]
  refine v_if_eq 26 dX4_setting_11 (by decide) (fun b11 => ?_) (fun b11 => ?_)
  · rw [show (0 : Int32) = nI 0 from rfl] at b11
    rw [nI_eq (by omega) (by omega)] at b11
    omega
  · rw [show (0 : Int32) = nI 0 from rfl] at b11
    rw [nI_eq (by omega) (by omega)] at b11
    refine v_aload_n dX4_setting_14 rfl rfl ?_
    refine v_getfield fX4_7 dX4_setting_15 (by assumption) (by rfl) ?_
    refine v_bipush (nI 6) dX4_setting_18 (by decide) ?_
    refine v_iload_n dX4_setting_20 rfl rfl ?_
    refine v_iadd dX4_setting_21 ?_
    rw [nI_add 6 e]
    refine v_iaload dX4_setting_22 (by assumption) (vp_in_nI (by omega) (by omega)) ?_
    rw [nI_clamp (n := (6 + e)) (by omega)]
    refine v_goto 31 dX4_setting_23 (by decide) ?_
    exact v_ireturn dX4_setting_31 rfl ⟨rfl, ⟨σ, mr, by omega, ⟨w1, h1, t1, k1, l1, O1⟩, rfl, F1⟩, rfl⟩
set_option maxRecDepth 10000 in
set_option maxHeartbeats 1000000 in
theorem y_setting_1 {G : zW} {f : zHM} {m : Nat × Nat} {o mr : Nat} {B : Nat → Nat} {w : Nat → Int32} {hh : Int64} {σ : Nat → Int32} (h : MX f o B w hh σ mr) {th : Int32} {k L : Nat} {sv : Nat → Nat → Int32} {hsl : Nat → Int32} {sl : Nat → Nat → Int32} {ch : Nat → Nat} (t : w 0 = th) (k0 : w 1 = nI k) (l0 : w 2 = nI L) (O : zNO f B k sv hsl sl L ch) {v : Int32} (hx : v < 0 ∨ ¬ v < 3) : zM G yX4_setting cX4_setting 2 (some .int) 9 [.ref o, .int v] (f, m) (zD (some (.int 0)) (fun f' m' => zNP f o B hh mr 0 (nI 1) k sv hsl sl L ch (fun σ' => σ' = σ) f' ∧ m' = m)) := by
  refine zM.of (by decide) (Nat.le_of_ble_eq_true rfl) ?_
  have ho := h.1
  have hs := h.2.1
  refine v_aload_n dX4_setting_0 rfl rfl ?_
  refine v_iconst (nI 0) dX4_setting_1 (by decide) ?_
  refine v_putfieldX fX4_35 dX4_setting_2 (by assumption) rfl rfl (Nat.le_of_ble_eq_true rfl) (fun f1 hp1 => ?_)
  obtain ⟨h1, hf1⟩ := MX.put (w' := zUp w 0 (nI 0)) (f0 := f) h hp1 rfl zFr.refl
  obtain ⟨w1, ew1⟩ : ∃ w9, w9 = zUp w 0 (nI 0) := ⟨_, rfl⟩
  rw [← ew1] at h1
  clear hp1
  have ho1 := h1.1
  have hs1 := h1.2.1
  have t1 : w1 0 = nI 0 := by rw [ew1]; rfl
  have k1 := (show w1 1 = w 1 from by rw [ew1]; rfl).trans k0
  have l1 := (show w1 2 = w 2 from by rw [ew1]; rfl).trans l0
  have O1 := zNO.fr O hf1 (by intro τ h; rcases h with h | h | h | h <;> omega)
  have F1 := zFr.trans zFr.refl (zFr.weaken hf1 zTYZ)
  refine v_iload_n dX4_setting_5 rfl rfl ?_
  refine v_iconst (nI 0) dX4_setting_6 (by decide) ?_
  refine v_iconst (nI 2) dX4_setting_7 (by decide) ?_
  refine v_callSp kX4_42 gs_X4_in dX4_setting_8 c_in rfl rfl (by decide) (Nat.le_of_ble_eq_true rfl) ?_
  rw [in_n (b := nI 2) (in_p (N := 3) (by omega) (by omega) hx)]
  refine v_if_eq 26 dX4_setting_11 (by decide) (fun b11 => ?_) (fun b11 => ?_)
  · rw [show (0 : Int32) = nI 0 from rfl] at b11
    rw [nI_eq (by omega) (by omega)] at b11
    refine v_aload_n dX4_setting_26 rfl rfl ?_
    refine v_iconst (nI 1) dX4_setting_27 (by decide) ?_
    refine v_callV1 kX4_118 gi_X4_fails ge_X4_fails rfl dX4_setting_28 (by assumption) (c_fails h1) rfl rfl (by decide) (Nat.le_of_ble_eq_true rfl) (fun f2 m hc2 => ?_)
    obtain ⟨⟨w2, h2, t2, hq2, hf2⟩, rfl⟩ := hc2
    have k2 := (hq2 1 (by decide)).trans k1
    have l2 := (hq2 2 (by decide)).trans l1
    have ho2 := h2.1
    have hs2 := h2.2.1
    have O2 := zNO.fr O1 hf2 (by intro τ h; rcases h with h | h | h | h <;> omega)
    have F2 := zFr.trans F1 (zFr.weaken hf2 zTYZ)
    exact v_ireturn dX4_setting_31 rfl ⟨rfl, ⟨σ, mr, by omega, ⟨w2, h2, t2, k2, l2, O2⟩, rfl, F2⟩, rfl⟩
  · rw [show (0 : Int32) = nI 0 from rfl] at b11
    rw [nI_eq (by omega) (by omega)] at b11
    omega
set_option maxRecDepth 10000 in
set_option maxHeartbeats 1000000 in
theorem c_m9whyNot {G : zW} {f : zHM} {m : Nat × Nat} {o mr : Nat} {B : Nat → Nat} {w : Nat → Int32} {hh : Int64} {σ : Nat → Int32} (h : MX f o B w hh σ mr) {th : Int32} {k L : Nat} {sv : Nat → Nat → Int32} {hsl : Nat → Int32} {sl : Nat → Nat → Int32} {ch : Nat → Nat} (t : w 0 = th) (k0 : w 1 = nI k) (l0 : w 2 = nI L) (O : zNO f B k sv hsl sl L ch) {N s n : Nat} (hw : RW (rOf σ) N s n) (hn : σ 15 = nI n) (hn2 : n ≤ 200) {a : Nat} (ha : a < N) (hat : σ 1 = nI a) {u : Nat} (hu : u < 3) (hnow : σ 2 = nI u) {b : Nat} (hb : b < N) : zM G yX4_whyNot cX4_whyNot 2 (some .int) 9 [.ref o, .int (nI b)] (f, m) (zD (some (.int (sRef N s (rOf σ 3 0) (rOf σ 3 1) (rOf σ 2 u) (sTm (rOf σ) n) a b))) (fun f' m' => zNP f o B hh mr 0 0 k sv hsl sl L ch (fun σ' => σ' = σ) f' ∧ m' = m)) := by
  refine zM.of (by decide) (Nat.le_of_ble_eq_true rfl) ?_
  have ho := h.1
  have hs := h.2.1
  have hv := hw.1
  have hN : σ 0 = nI N := hv.1
  have hp := hv.pos
  have hN4 := hv.2.2.2
  refine v_aload_n dX4_whyNot_0 rfl rfl ?_
  refine v_iconst (nI 0) dX4_whyNot_1 (by decide) ?_
  refine v_putfieldX fX4_35 dX4_whyNot_2 (by assumption) rfl rfl (Nat.le_of_ble_eq_true rfl) (fun f1 hp1 => ?_)
  obtain ⟨h1, hf1⟩ := MX.put (w' := zUp w 0 (nI 0)) (f0 := f) h hp1 rfl zFr.refl
  obtain ⟨w1, ew1⟩ : ∃ w9, w9 = zUp w 0 (nI 0) := ⟨_, rfl⟩
  rw [← ew1] at h1
  clear hp1
  have ho1 := h1.1
  have hs1 := h1.2.1
  have t1 : w1 0 = nI 0 := by rw [ew1]; rfl
  have k1 := (show w1 1 = w 1 from by rw [ew1]; rfl).trans k0
  have l1 := (show w1 2 = w 2 from by rw [ew1]; rfl).trans l0
  have O1 := zNO.fr O hf1 (by intro τ h; rcases h with h | h | h | h <;> omega)
  have F1 := zFr.trans zFr.refl (zFr.weaken hf1 zTYZ)
  refine v_aload_n dX4_whyNot_5 rfl rfl ?_
  refine v_iload_n dX4_whyNot_6 rfl rfl ?_
  refine v_callVp kX4_134 gi_X4_isNail ge_X4_isNail rfl dX4_whyNot_7 (by assumption) (c_isNail h1 hN hN4) rfl rfl (by decide) (Nat.le_of_ble_eq_true rfl) ?_
  rw [nl_y (b := b) hb (by omega)]
  refine v_if_eq 33 dX4_whyNot_10 (by decide) (fun b10 => ?_) (fun b10 => ?_)
  · rw [show (0 : Int32) = nI 0 from rfl] at b10
    rw [nI_eq (by omega) (by omega)] at b10
    omega
  · rw [show (0 : Int32) = nI 0 from rfl] at b10
    rw [nI_eq (by omega) (by omega)] at b10
    refine v_aload_n dX4_whyNot_13 rfl rfl ?_
    refine v_aload_n dX4_whyNot_14 rfl rfl ?_
    refine v_getfield fX4_7 dX4_whyNot_15 (by assumption) (by rfl) ?_
    refine v_iconst (nI 1) dX4_whyNot_18 (by decide) ?_
    refine v_iaload dX4_whyNot_19 (by assumption) (vp_in_nI (by omega) (by omega)) ?_
    rw [nI_clamp (n := 1) (by omega)]
    rw [hat]
    refine v_iload_n dX4_whyNot_20 rfl rfl ?_
    refine v_aload_n dX4_whyNot_21 rfl rfl ?_
    refine v_getfield fX4_7 dX4_whyNot_22 (by assumption) (by rfl) ?_
    refine v_iconst (nI 2) dX4_whyNot_25 (by decide) ?_
    refine v_iaload dX4_whyNot_26 (by assumption) (vp_in_nI (by omega) (by omega)) ?_
    rw [nI_clamp (n := 2) (by omega)]
    rw [hnow]
    refine v_callVp kX4_107 gi_X4_refused ge_X4_refused rfl dX4_whyNot_27 (by assumption) (c_mrefused h1 hw hn hn2 ha hb hu) rfl rfl (by decide) (Nat.le_of_ble_eq_true rfl) ?_
    refine v_goto 38 dX4_whyNot_30 (by decide) ?_
    exact v_ireturn dX4_whyNot_38 rfl ⟨rfl, ⟨σ, mr, by omega, ⟨w1, h1, t1, k1, l1, O1⟩, rfl, F1⟩, rfl⟩
set_option maxRecDepth 10000 in
set_option maxHeartbeats 1000000 in
theorem y_whyNot_1 {G : zW} {f : zHM} {m : Nat × Nat} {o mr : Nat} {B : Nat → Nat} {w : Nat → Int32} {hh : Int64} {σ : Nat → Int32} (h : MX f o B w hh σ mr) {th : Int32} {k L : Nat} {sv : Nat → Nat → Int32} {hsl : Nat → Int32} {sl : Nat → Nat → Int32} {ch : Nat → Nat} (t : w 0 = th) (k0 : w 1 = nI k) (l0 : w 2 = nI L) (O : zNO f B k sv hsl sl L ch) {N s : Nat} (hv : RV (rOf σ) N s) {v : Int32} (hx : v < 0 ∨ ¬ v < nI N) : zM G yX4_whyNot cX4_whyNot 2 (some .int) 9 [.ref o, .int v] (f, m) (zD (some (.int 0)) (fun f' m' => zNP f o B hh mr 0 (nI 1) k sv hsl sl L ch (fun σ' => σ' = σ) f' ∧ m' = m)) := by
  refine zM.of (by decide) (Nat.le_of_ble_eq_true rfl) ?_
  have ho := h.1
  have hs := h.2.1
  have hN : σ 0 = nI N := hv.1
  have hp := hv.pos
  have hN4 := hv.2.2.2
  refine v_aload_n dX4_whyNot_0 rfl rfl ?_
  refine v_iconst (nI 0) dX4_whyNot_1 (by decide) ?_
  refine v_putfieldX fX4_35 dX4_whyNot_2 (by assumption) rfl rfl (Nat.le_of_ble_eq_true rfl) (fun f1 hp1 => ?_)
  obtain ⟨h1, hf1⟩ := MX.put (w' := zUp w 0 (nI 0)) (f0 := f) h hp1 rfl zFr.refl
  obtain ⟨w1, ew1⟩ : ∃ w9, w9 = zUp w 0 (nI 0) := ⟨_, rfl⟩
  rw [← ew1] at h1
  clear hp1
  have ho1 := h1.1
  have hs1 := h1.2.1
  have t1 : w1 0 = nI 0 := by rw [ew1]; rfl
  have k1 := (show w1 1 = w 1 from by rw [ew1]; rfl).trans k0
  have l1 := (show w1 2 = w 2 from by rw [ew1]; rfl).trans l0
  have O1 := zNO.fr O hf1 (by intro τ h; rcases h with h | h | h | h <;> omega)
  have F1 := zFr.trans zFr.refl (zFr.weaken hf1 zTYZ)
  refine v_aload_n dX4_whyNot_5 rfl rfl ?_
  refine v_iload_n dX4_whyNot_6 rfl rfl ?_
  refine v_callVp kX4_134 gi_X4_isNail ge_X4_isNail rfl dX4_whyNot_7 (by assumption) (c_isNail h1 hN hN4) rfl rfl (by decide) (Nat.le_of_ble_eq_true rfl) ?_
  rw [nl_n (by omega) (by omega) hx]
  refine v_if_eq 33 dX4_whyNot_10 (by decide) (fun b10 => ?_) (fun b10 => ?_)
  · rw [show (0 : Int32) = nI 0 from rfl] at b10
    rw [nI_eq (by omega) (by omega)] at b10
    refine v_aload_n dX4_whyNot_33 rfl rfl ?_
    refine v_iconst (nI 1) dX4_whyNot_34 (by decide) ?_
    refine v_callV1 kX4_118 gi_X4_fails ge_X4_fails rfl dX4_whyNot_35 (by assumption) (c_fails h1) rfl rfl (by decide) (Nat.le_of_ble_eq_true rfl) (fun f2 m hc2 => ?_)
    obtain ⟨⟨w2, h2, t2, hq2, hf2⟩, rfl⟩ := hc2
    have k2 := (hq2 1 (by decide)).trans k1
    have l2 := (hq2 2 (by decide)).trans l1
    have ho2 := h2.1
    have hs2 := h2.2.1
    have O2 := zNO.fr O1 hf2 (by intro τ h; rcases h with h | h | h | h <;> omega)
    have F2 := zFr.trans F1 (zFr.weaken hf2 zTYZ)
    exact v_ireturn dX4_whyNot_38 rfl ⟨rfl, ⟨σ, mr, by omega, ⟨w2, h2, t2, k2, l2, O2⟩, rfl, F2⟩, rfl⟩
  · rw [show (0 : Int32) = nI 0 from rfl] at b10
    rw [nI_eq (by omega) (by omega)] at b10
    omega
set_option maxRecDepth 10000 in
set_option maxHeartbeats 1000000 in
theorem c_m9gain {G : zW} {f : zHM} {m : Nat × Nat} {o mr : Nat} {B : Nat → Nat} {w : Nat → Int32} {hh : Int64} {σ : Nat → Int32} (h : MX f o B w hh σ mr) {th : Int32} {k L : Nat} {sv : Nat → Nat → Int32} {hsl : Nat → Int32} {sl : Nat → Nat → Int32} {ch : Nat → Nat} (t : w 0 = th) (k0 : w 1 = nI k) (l0 : w 2 = nI L) (O : zNO f B k sv hsl sl L ch) (hmr9 : mr + 1000 < 2 ^ 30) {N s n : Nat} (hw : RW (rOf σ) N s n) (hn : σ 15 = nI n) (hn2 : n ≤ 200) {a : Nat} (ha : a < N) (hat : σ 1 = nI a) {u : Nat} (hu : u < 3) (hnow : σ 2 = nI u) {b : Nat} (hb : b < N) : zM G yX4_gain cX4_gain 2 (some .int) 9 [.ref o, .int (nI b)] (f, m) (zD (some (.int (sGain9 (rOf σ) s u a b))) (fun f' m' => zNP f o B hh mr 1 0 k sv hsl sl L ch (fun σ' => σ' = σ) f' ∧ m' = m)) := by
  refine zM.of (by decide) (Nat.le_of_ble_eq_true rfl) ?_
  have ho := h.1
  have hs := h.2.1
  have hv := hw.1
  have hN : σ 0 = nI N := hv.1
  have hp := hv.pos
  have hN4 := hv.2.2.2
  refine v_aload_n dX4_gain_0 rfl rfl ?_
  refine v_iconst (nI 0) dX4_gain_1 (by decide) ?_
  refine v_putfieldX fX4_35 dX4_gain_2 (by assumption) rfl rfl (Nat.le_of_ble_eq_true rfl) (fun f1 hp1 => ?_)
  obtain ⟨h1, hf1⟩ := MX.put (w' := zUp w 0 (nI 0)) (f0 := f) h hp1 rfl zFr.refl
  obtain ⟨w1, ew1⟩ : ∃ w9, w9 = zUp w 0 (nI 0) := ⟨_, rfl⟩
  rw [← ew1] at h1
  clear hp1
  have ho1 := h1.1
  have hs1 := h1.2.1
  have t1 : w1 0 = nI 0 := by rw [ew1]; rfl
  have k1 := (show w1 1 = w 1 from by rw [ew1]; rfl).trans k0
  have l1 := (show w1 2 = w 2 from by rw [ew1]; rfl).trans l0
  have O1 := zNO.fr O hf1 (by intro τ h; rcases h with h | h | h | h <;> omega)
  have F1 := zFr.trans zFr.refl (zFr.weaken hf1 zTYZ)
  refine v_aload_n dX4_gain_5 rfl rfl ?_
  refine v_iload_n dX4_gain_6 rfl rfl ?_
  refine v_callVp kX4_134 gi_X4_isNail ge_X4_isNail rfl dX4_gain_7 (by assumption) (c_isNail h1 hN hN4) rfl rfl (by decide) (Nat.le_of_ble_eq_true rfl) ?_
  rw [nl_y (b := b) hb (by omega)]
  refine v_if_eq 21 dX4_gain_10 (by decide) (fun b10 => ?_) (fun b10 => ?_)
  · rw [show (0 : Int32) = nI 0 from rfl] at b10
    rw [nI_eq (by omega) (by omega)] at b10
    omega
  · rw [show (0 : Int32) = nI 0 from rfl] at b10
    rw [nI_eq (by omega) (by omega)] at b10
    refine v_aload_n dX4_gain_13 rfl rfl ?_
    refine v_iload_n dX4_gain_14 rfl rfl ?_
    refine v_callV1 kX4_217 gi_X4_tellsGain ge_X4_tellsGain rfl dX4_gain_15 (by assumption) (c_tellsGain h1 (by omega) hw hn hn2 ha hat hu hnow hb) rfl rfl (by decide) (Nat.le_of_ble_eq_true rfl) (fun f2 m hc2 => ?_)
    obtain ⟨⟨mr2, hm2, w2, h2, hk2, hf2⟩, rfl⟩ := hc2
    have ho2 := h2.1
    have hs2 := h2.2.1
    have t2 := (hk2 0 (by decide) (by decide)).trans t1
    have k2 := (hk2 1 (by decide) (by decide)).trans k1
    have l2 := (hk2 2 (by decide) (by decide)).trans l1
    have O2 := zNO.fr O1 hf2 (by intro τ h; rcases h with h | h | h | h <;> omega)
    have F2 := zFr.trans F1 (zFr.weaken hf2 zTYZ)
    refine v_goto 26 dX4_gain_18 (by decide) ?_
    exact v_ireturn dX4_gain_26 rfl ⟨rfl, ⟨σ, mr2, by omega, ⟨w2, h2, t2, k2, l2, O2⟩, rfl, F2⟩, rfl⟩
set_option maxRecDepth 10000 in
set_option maxHeartbeats 1000000 in
theorem y_gain_1 {G : zW} {f : zHM} {m : Nat × Nat} {o mr : Nat} {B : Nat → Nat} {w : Nat → Int32} {hh : Int64} {σ : Nat → Int32} (h : MX f o B w hh σ mr) {th : Int32} {k L : Nat} {sv : Nat → Nat → Int32} {hsl : Nat → Int32} {sl : Nat → Nat → Int32} {ch : Nat → Nat} (t : w 0 = th) (k0 : w 1 = nI k) (l0 : w 2 = nI L) (O : zNO f B k sv hsl sl L ch) {N s : Nat} (hv : RV (rOf σ) N s) {v : Int32} (hx : v < 0 ∨ ¬ v < nI N) : zM G yX4_gain cX4_gain 2 (some .int) 9 [.ref o, .int v] (f, m) (zD (some (.int 0)) (fun f' m' => zNP f o B hh mr 0 (nI 1) k sv hsl sl L ch (fun σ' => σ' = σ) f' ∧ m' = m)) := by
  refine zM.of (by decide) (Nat.le_of_ble_eq_true rfl) ?_
  have ho := h.1
  have hs := h.2.1
  have hN : σ 0 = nI N := hv.1
  have hp := hv.pos
  have hN4 := hv.2.2.2
  refine v_aload_n dX4_gain_0 rfl rfl ?_
  refine v_iconst (nI 0) dX4_gain_1 (by decide) ?_
  refine v_putfieldX fX4_35 dX4_gain_2 (by assumption) rfl rfl (Nat.le_of_ble_eq_true rfl) (fun f1 hp1 => ?_)
  obtain ⟨h1, hf1⟩ := MX.put (w' := zUp w 0 (nI 0)) (f0 := f) h hp1 rfl zFr.refl
  obtain ⟨w1, ew1⟩ : ∃ w9, w9 = zUp w 0 (nI 0) := ⟨_, rfl⟩
  rw [← ew1] at h1
  clear hp1
  have ho1 := h1.1
  have hs1 := h1.2.1
  have t1 : w1 0 = nI 0 := by rw [ew1]; rfl
  have k1 := (show w1 1 = w 1 from by rw [ew1]; rfl).trans k0
  have l1 := (show w1 2 = w 2 from by rw [ew1]; rfl).trans l0
  have O1 := zNO.fr O hf1 (by intro τ h; rcases h with h | h | h | h <;> omega)
  have F1 := zFr.trans zFr.refl (zFr.weaken hf1 zTYZ)
  refine v_aload_n dX4_gain_5 rfl rfl ?_
  refine v_iload_n dX4_gain_6 rfl rfl ?_
  refine v_callVp kX4_134 gi_X4_isNail ge_X4_isNail rfl dX4_gain_7 (by assumption) (c_isNail h1 hN hN4) rfl rfl (by decide) (Nat.le_of_ble_eq_true rfl) ?_
  rw [nl_n (by omega) (by omega) hx]
  refine v_if_eq 21 dX4_gain_10 (by decide) (fun b10 => ?_) (fun b10 => ?_)
  · rw [show (0 : Int32) = nI 0 from rfl] at b10
    rw [nI_eq (by omega) (by omega)] at b10
    refine v_aload_n dX4_gain_21 rfl rfl ?_
    refine v_iconst (nI 1) dX4_gain_22 (by decide) ?_
    refine v_callV1 kX4_118 gi_X4_fails ge_X4_fails rfl dX4_gain_23 (by assumption) (c_fails h1) rfl rfl (by decide) (Nat.le_of_ble_eq_true rfl) (fun f2 m hc2 => ?_)
    obtain ⟨⟨w2, h2, t2, hq2, hf2⟩, rfl⟩ := hc2
    have k2 := (hq2 1 (by decide)).trans k1
    have l2 := (hq2 2 (by decide)).trans l1
    have ho2 := h2.1
    have hs2 := h2.2.1
    have O2 := zNO.fr O1 hf2 (by intro τ h; rcases h with h | h | h | h <;> omega)
    have F2 := zFr.trans F1 (zFr.weaken hf2 zTYZ)
    exact v_ireturn dX4_gain_26 rfl ⟨rfl, ⟨σ, mr, by omega, ⟨w2, h2, t2, k2, l2, O2⟩, rfl, F2⟩, rfl⟩
  · rw [show (0 : Int32) = nI 0 from rfl] at b10
    rw [nI_eq (by omega) (by omega)] at b10
    omega
set_option maxRecDepth 10000 in
set_option maxHeartbeats 1000000 in
theorem c_m9best {G : zW} {f : zHM} {m : Nat × Nat} {o mr : Nat} {B : Nat → Nat} {w : Nat → Int32} {hh : Int64} {σ : Nat → Int32} (h : MX f o B w hh σ mr) {th : Int32} {k L : Nat} {sv : Nat → Nat → Int32} {hsl : Nat → Int32} {sl : Nat → Nat → Int32} {ch : Nat → Nat} (t : w 0 = th) (k0 : w 1 = nI k) (l0 : w 2 = nI L) (O : zNO f B k sv hsl sl L ch) (hmr9 : mr + 1000 < 2 ^ 30) {N s n : Nat} (hw : RW (rOf σ) N s n) (hn : σ 15 = nI n) (hn2 : n ≤ 200) {a : Nat} (ha : a < N) (hat : σ 1 = nI a) {u : Nat} (hu : u < 3) (hnow : σ 2 = nI u) : zM G yX4_best cX4_best 1 (some .int) 9 [.ref o] (f, m) (zD (some (.int (sBest (rOf σ) N s (sTm (rOf σ) n) a u))) (fun f' m' => zNP f o B hh mr 30 0 k sv hsl sl L ch (fun σ' => σ' = σ) f' ∧ m' = m)) := by
  refine zM.of (by decide) (Nat.le_of_ble_eq_true rfl) ?_
  have ho := h.1
  have hs := h.2.1
  have hv := hw.1
  have hN : σ 0 = nI N := hv.1
  have hp := hv.pos
  have hN4 := hv.2.2.2
  refine v_aload_n dX4_best_0 rfl rfl ?_
  refine v_iconst (nI 0) dX4_best_1 (by decide) ?_
  refine v_putfieldX fX4_35 dX4_best_2 (by assumption) rfl rfl (Nat.le_of_ble_eq_true rfl) (fun f1 hp1 => ?_)
  obtain ⟨h1, hf1⟩ := MX.put (w' := zUp w 0 (nI 0)) (f0 := f) h hp1 rfl zFr.refl
  obtain ⟨w1, ew1⟩ : ∃ w9, w9 = zUp w 0 (nI 0) := ⟨_, rfl⟩
  rw [← ew1] at h1
  clear hp1
  have ho1 := h1.1
  have hs1 := h1.2.1
  have t1 : w1 0 = nI 0 := by rw [ew1]; rfl
  have k1 := (show w1 1 = w 1 from by rw [ew1]; rfl).trans k0
  have l1 := (show w1 2 = w 2 from by rw [ew1]; rfl).trans l0
  have O1 := zNO.fr O hf1 (by intro τ h; rcases h with h | h | h | h <;> omega)
  have F1 := zFr.trans zFr.refl (zFr.weaken hf1 zTYZ)
  refine v_aload_n dX4_best_5 rfl rfl ?_
  refine v_aload_n dX4_best_6 rfl rfl ?_
  refine v_getfield fX4_7 dX4_best_7 (by assumption) (by rfl) ?_
  refine v_iconst (nI 2) dX4_best_10 (by decide) ?_
  refine v_iaload dX4_best_11 (by assumption) (vp_in_nI (by omega) (by omega)) ?_
  rw [nI_clamp (n := 2) (by omega)]
  rw [hnow]
  refine v_callV1 kX4_141 gi_X4_bestWith ge_X4_bestWith rfl dX4_best_12 (by assumption) (c_bestWith h1 (by omega) hw hn hn2 ha hat hu) rfl rfl (by decide) (Nat.le_of_ble_eq_true rfl) (fun f2 m hc2 => ?_)
  obtain ⟨⟨mr2, hm2, w2, h2, hk2, hf2⟩, rfl⟩ := hc2
  have ho2 := h2.1
  have hs2 := h2.2.1
  have t2 := (hk2 0 (by decide) (by decide)).trans t1
  have k2 := (hk2 1 (by decide) (by decide)).trans k1
  have l2 := (hk2 2 (by decide) (by decide)).trans l1
  have O2 := zNO.fr O1 hf2 (by intro τ h; rcases h with h | h | h | h <;> omega)
  have F2 := zFr.trans F1 (zFr.weaken hf2 zTYZ)
  exact v_ireturn dX4_best_15 rfl ⟨rfl, ⟨σ, mr2, by omega, ⟨w2, h2, t2, k2, l2, O2⟩, rfl, F2⟩, rfl⟩
set_option maxRecDepth 10000 in
set_option maxHeartbeats 1000000 in
theorem c_m9bestTwo {G : zW} {f : zHM} {m : Nat × Nat} {o mr : Nat} {B : Nat → Nat} {w : Nat → Int32} {hh : Int64} {σ : Nat → Int32} (h : MX f o B w hh σ mr) {th : Int32} {k L : Nat} {sv : Nat → Nat → Int32} {hsl : Nat → Int32} {sl : Nat → Nat → Int32} {ch : Nat → Nat} (t : w 0 = th) (k0 : w 1 = nI k) (l0 : w 2 = nI L) (O : zNO f B k sv hsl sl L ch) (hmr9 : mr + 1000 < 2 ^ 30) {N s n : Nat} (hw : RW (rOf σ) N s n) (hn : σ 15 = nI n) (hn2 : n ≤ 200) {a : Nat} (ha : a < N) (hat : σ 1 = nI a) {u : Nat} (hu : u < 3) (hnow : σ 2 = nI u) (hs0 : ∀ u, u < 3 → 0 ≤ (σ (9 + 2 * u)).toInt ∧ (σ (9 + 2 * u)).toInt ≤ 9) (hl : ∀ q, q < 144 → zB 3000 (sLack (rOf σ) q)) : zM G yX4_bestTwo cX4_bestTwo 1 (some .int) 9 [.ref o] (f, m) (zD (some (.int ((sTwo (rOf σ) n N s (sTm (rOf σ) n) a u N).1))) (fun f' m' => zNP f o B hh mr 1000 0 k sv hsl sl L ch (fun σ' => σ' = σ) f' ∧ m' = m)) := by
  refine zM.of (by decide) (Nat.le_of_ble_eq_true rfl) ?_
  have ho := h.1
  have hs := h.2.1
  refine v_aload_n dX4_bestTwo_0 rfl rfl ?_
  refine v_iconst (nI 0) dX4_bestTwo_1 (by decide) ?_
  refine v_putfieldX fX4_35 dX4_bestTwo_2 (by assumption) rfl rfl (Nat.le_of_ble_eq_true rfl) (fun f1 hp1 => ?_)
  obtain ⟨h1, hf1⟩ := MX.put (w' := zUp w 0 (nI 0)) (f0 := f) h hp1 rfl zFr.refl
  obtain ⟨w1, ew1⟩ : ∃ w9, w9 = zUp w 0 (nI 0) := ⟨_, rfl⟩
  rw [← ew1] at h1
  clear hp1
  have ho1 := h1.1
  have hs1 := h1.2.1
  have t1 : w1 0 = nI 0 := by rw [ew1]; rfl
  have k1 := (show w1 1 = w 1 from by rw [ew1]; rfl).trans k0
  have l1 := (show w1 2 = w 2 from by rw [ew1]; rfl).trans l0
  have O1 := zNO.fr O hf1 (by intro τ h; rcases h with h | h | h | h <;> omega)
  have F1 := zFr.trans zFr.refl (zFr.weaken hf1 zTYZ)
  refine v_aload_n dX4_bestTwo_5 rfl rfl ?_
  refine v_callV1 kX4_224 gi_X4_twoBest ge_X4_twoBest rfl dX4_bestTwo_6 (by assumption) (c_twoBest h1 (by omega) hw hn hn2 ha hat hu hnow (hs0 u hu).1 (hs0 u hu).2 hl) rfl rfl (by decide) (Nat.le_of_ble_eq_true rfl) (fun f2 m hc2 => ?_)
  obtain ⟨⟨mr2, hm2, w2, h2, hk2, hf2⟩, rfl⟩ := hc2
  have ho2 := h2.1
  have hs2 := h2.2.1
  have t2 := (hk2 0 (by decide) (by decide)).trans t1
  have k2 := (hk2 1 (by decide) (by decide)).trans k1
  have l2 := (hk2 2 (by decide) (by decide)).trans l1
  have O2 := zNO.fr O1 hf2 (by intro τ h; rcases h with h | h | h | h <;> omega)
  have F2 := zFr.trans F1 (zFr.weaken hf2 zTYZ)
  exact v_ireturn dX4_bestTwo_9 rfl ⟨rfl, ⟨σ, mr2, by omega, ⟨w2, h2, t2, k2, l2, O2⟩, rfl, F2⟩, rfl⟩
set_option maxRecDepth 10000 in
set_option maxHeartbeats 1000000 in
theorem c_m9palest {G : zW} {f : zHM} {m : Nat × Nat} {o mr : Nat} {B : Nat → Nat} {w : Nat → Int32} {hh : Int64} {σ : Nat → Int32} (h : MX f o B w hh σ mr) {th : Int32} {k L : Nat} {sv : Nat → Nat → Int32} {hsl : Nat → Int32} {sl : Nat → Nat → Int32} {ch : Nat → Nat} (t : w 0 = th) (k0 : w 1 = nI k) (l0 : w 2 = nI L) (O : zNO f B k sv hsl sl L ch) : zM G yX4_palest cX4_palest 1 (some .int) 9 [.ref o] (f, m) (zD (some (.int ((sPal (rOf σ) 144).1))) (fun f' m' => zNP f o B hh mr 0 0 k sv hsl sl L ch (fun σ' => σ' = σ) f' ∧ m' = m)) := by
  refine zM.of (by decide) (Nat.le_of_ble_eq_true rfl) ?_
  have ho := h.1
  have hs := h.2.1
  refine v_aload_n dX4_palest_0 rfl rfl ?_
  refine v_iconst (nI 0) dX4_palest_1 (by decide) ?_
  refine v_putfieldX fX4_35 dX4_palest_2 (by assumption) rfl rfl (Nat.le_of_ble_eq_true rfl) (fun f1 hp1 => ?_)
  obtain ⟨h1, hf1⟩ := MX.put (w' := zUp w 0 (nI 0)) (f0 := f) h hp1 rfl zFr.refl
  obtain ⟨w1, ew1⟩ : ∃ w9, w9 = zUp w 0 (nI 0) := ⟨_, rfl⟩
  rw [← ew1] at h1
  clear hp1
  have ho1 := h1.1
  have hs1 := h1.2.1
  have t1 : w1 0 = nI 0 := by rw [ew1]; rfl
  have k1 := (show w1 1 = w 1 from by rw [ew1]; rfl).trans k0
  have l1 := (show w1 2 = w 2 from by rw [ew1]; rfl).trans l0
  have O1 := zNO.fr O hf1 (by intro τ h; rcases h with h | h | h | h <;> omega)
  have F1 := zFr.trans zFr.refl (zFr.weaken hf1 zTYZ)
  refine v_aload_n dX4_palest_5 rfl rfl ?_
  refine v_callVp kX4_227 gi_X4_palestOne ge_X4_palestOne rfl dX4_palest_6 (by assumption) (c_palestOne h1) rfl rfl (by decide) (Nat.le_of_ble_eq_true rfl) ?_
  exact v_ireturn dX4_palest_9 rfl ⟨rfl, ⟨σ, mr, by omega, ⟨w1, h1, t1, k1, l1, O1⟩, rfl, F1⟩, rfl⟩
set_option maxRecDepth 10000 in
set_option maxHeartbeats 1000000 in
theorem c_m9bestSpool {G : zW} {f : zHM} {m : Nat × Nat} {o mr : Nat} {B : Nat → Nat} {w : Nat → Int32} {hh : Int64} {σ : Nat → Int32} (h : MX f o B w hh σ mr) {th : Int32} {k L : Nat} {sv : Nat → Nat → Int32} {hsl : Nat → Int32} {sl : Nat → Nat → Int32} {ch : Nat → Nat} (t : w 0 = th) (k0 : w 1 = nI k) (l0 : w 2 = nI L) (O : zNO f B k sv hsl sl L ch) (hmr9 : mr + 1000 < 2 ^ 30) {N s n : Nat} (hw : RW (rOf σ) N s n) (hn : σ 15 = nI n) (hn2 : n ≤ 200) {a : Nat} (ha : a < N) (hat : σ 1 = nI a) (hs0 : ∀ u, u < 3 → 0 ≤ (σ (9 + 2 * u)).toInt ∧ (σ (9 + 2 * u)).toInt ≤ 9) (hl : ∀ q, q < 144 → zB 3000 (sLack (rOf σ) q)) : zM G yX4_bestSpool cX4_bestSpool 1 (some .int) 9 [.ref o] (f, m) (zD (some (.int ((sBsp (rOf σ) N s (sTm (rOf σ) n) a 3).1))) (fun f' m' => zNP f o B hh mr 200 0 k sv hsl sl L ch (fun σ' => σ' = σ) f' ∧ m' = m)) := by
  refine zM.of (by decide) (Nat.le_of_ble_eq_true rfl) ?_
  have ho := h.1
  have hs := h.2.1
  refine v_aload_n dX4_bestSpool_0 rfl rfl ?_
  refine v_iconst (nI 0) dX4_bestSpool_1 (by decide) ?_
  refine v_putfieldX fX4_35 dX4_bestSpool_2 (by assumption) rfl rfl (Nat.le_of_ble_eq_true rfl) (fun f1 hp1 => ?_)
  obtain ⟨h1, hf1⟩ := MX.put (w' := zUp w 0 (nI 0)) (f0 := f) h hp1 rfl zFr.refl
  obtain ⟨w1, ew1⟩ : ∃ w9, w9 = zUp w 0 (nI 0) := ⟨_, rfl⟩
  rw [← ew1] at h1
  clear hp1
  have ho1 := h1.1
  have hs1 := h1.2.1
  have t1 : w1 0 = nI 0 := by rw [ew1]; rfl
  have k1 := (show w1 1 = w 1 from by rw [ew1]; rfl).trans k0
  have l1 := (show w1 2 = w 2 from by rw [ew1]; rfl).trans l0
  have O1 := zNO.fr O hf1 (by intro τ h; rcases h with h | h | h | h <;> omega)
  have F1 := zFr.trans zFr.refl (zFr.weaken hf1 zTYZ)
  refine v_aload_n dX4_bestSpool_5 rfl rfl ?_
  refine v_callV1 kX4_230 gi_X4_spoolBest ge_X4_spoolBest rfl dX4_bestSpool_6 (by assumption) (c_spoolBest h1 (by omega) hw hn hn2 ha hat hs0 hl) rfl rfl (by decide) (Nat.le_of_ble_eq_true rfl) (fun f2 m hc2 => ?_)
  obtain ⟨⟨mr2, hm2, w2, h2, hk2, hf2⟩, rfl⟩ := hc2
  have ho2 := h2.1
  have hs2 := h2.2.1
  have t2 := (hk2 0 (by decide) (by decide)).trans t1
  have k2 := (hk2 1 (by decide) (by decide)).trans k1
  have l2 := (hk2 2 (by decide) (by decide)).trans l1
  have O2 := zNO.fr O1 hf2 (by intro τ h; rcases h with h | h | h | h <;> omega)
  have F2 := zFr.trans F1 (zFr.weaken hf2 zTYZ)
  exact v_ireturn dX4_bestSpool_9 rfl ⟨rfl, ⟨σ, mr2, by omega, ⟨w2, h2, t2, k2, l2, O2⟩, rfl, F2⟩, rfl⟩
set_option maxRecDepth 10000 in
set_option maxHeartbeats 1000000 in
theorem c_m9shownShare {G : zW} {f : zHM} {m : Nat × Nat} {o mr : Nat} {B : Nat → Nat} {w : Nat → Int32} {hh : Int64} {σ : Nat → Int32} (h : MX f o B w hh σ mr) {th : Int32} {k L : Nat} {sv : Nat → Nat → Int32} {hsl : Nat → Int32} {sl : Nat → Nat → Int32} {ch : Nat → Nat} (t : w 0 = th) (k0 : w 1 = nI k) (l0 : w 2 = nI L) (O : zNO f B k sv hsl sl L ch) : zM G yX4_shownShare cX4_shownShare 1 (some .double) 9 [.ref o] (f, m) (zD (some (.double (sShare (rOf σ)))) (fun f' m' => zNP f o B hh mr 0 0 k sv hsl sl L ch (fun σ' => σ' = σ) f' ∧ m' = m)) := by
  refine zM.of (by decide) (Nat.le_of_ble_eq_true rfl) ?_
  have ho := h.1
  have hs := h.2.1
  refine v_aload_n dX4_shownShare_0 rfl rfl ?_
  refine v_iconst (nI 0) dX4_shownShare_1 (by decide) ?_
  refine v_putfieldX fX4_35 dX4_shownShare_2 (by assumption) rfl rfl (Nat.le_of_ble_eq_true rfl) (fun f1 hp1 => ?_)
  obtain ⟨h1, hf1⟩ := MX.put (w' := zUp w 0 (nI 0)) (f0 := f) h hp1 rfl zFr.refl
  obtain ⟨w1, ew1⟩ : ∃ w9, w9 = zUp w 0 (nI 0) := ⟨_, rfl⟩
  rw [← ew1] at h1
  clear hp1
  have ho1 := h1.1
  have hs1 := h1.2.1
  have t1 : w1 0 = nI 0 := by rw [ew1]; rfl
  have k1 := (show w1 1 = w 1 from by rw [ew1]; rfl).trans k0
  have l1 := (show w1 2 = w 2 from by rw [ew1]; rfl).trans l0
  have O1 := zNO.fr O hf1 (by intro τ h; rcases h with h | h | h | h <;> omega)
  have F1 := zFr.trans zFr.refl (zFr.weaken hf1 zTYZ)
  refine v_aload_n dX4_shownShare_5 rfl rfl ?_
  refine v_callVp kX4_235 gi_X4_share ge_X4_share rfl dX4_shownShare_6 (by assumption) (c_share h1) rfl rfl (by decide) (Nat.le_of_ble_eq_true rfl) ?_
  exact v_dreturn dX4_shownShare_9 rfl ⟨rfl, ⟨σ, mr, by omega, ⟨w1, h1, t1, k1, l1, O1⟩, rfl, F1⟩, rfl⟩
theorem zNO.nobuf {f : zHM} {B : Nat → Nat} {k L : Nat} {sv : Nat → Nat → Int32} {hsl : Nat → Int32} {sl : Nat → Nat → Int32} {ch : Nat → Nat} (h : zNO f B k sv hsl sl L ch) : zNO f B k sv hsl sl 0 ch := by
  obtain ⟨h1, h2, h3, ⟨h4, g, h5, h6⟩, h7⟩ := h
  exact ⟨h1, h2, h3, ⟨Nat.zero_le _, g, h5, fun i hi => absurd hi (Nat.not_lt_zero i)⟩, h7⟩
theorem zNO.push {f f' : zHM} {B : Nat → Nat} {k L c : Nat} {sv : Nat → Nat → Int32} {hsl : Nat → Int32} {sl : Nat → Nat → Int32} {ch : Nat → Nat} {g : Nat → Int32} (h : zNO f B k sv hsl sl L ch) (hg : f (B 4) = some (705, .inl (0, 60, .inl g))) (hL : L < 60) (hp : zPut f (B 4) (705, .inl (0, 60, .inl (upd g L (nI c)))) f') : zNO f' B k sv hsl sl (L + 1) (fun i => if i = L then c else ch i) := by
  obtain ⟨⟨h1, g1, h2, h3⟩, ⟨g2, h4, h5⟩, ⟨g3, h6, h7⟩, ⟨h8, g4, h9, h10⟩, g5, h11⟩ := h
  refine ⟨⟨h1, g1, hp.ne h2 (by omega), h3⟩, ⟨g2, hp.ne h4 (by omega), h5⟩, ⟨g3, hp.ne h6 (by omega), h7⟩, ⟨by omega, _, hp.1, fun i hi => ?_⟩, g5, hp.ne h11 (by omega)⟩
  rw [hg] at h9
  cases h9
  show (if i = L then nI c else g i) = nI (if i = L then c else ch i)
  by_cases e : i = L
  · rw [if_pos e, if_pos e]
  · rw [if_neg e, if_neg e, h10 i (by omega)]
set_option maxRecDepth 10000 in
set_option maxHeartbeats 1000000 in
theorem c_m9clearBuffer {G : zW} {f : zHM} {m : Nat × Nat} {o mr : Nat} {B : Nat → Nat} {w : Nat → Int32} {hh : Int64} {σ : Nat → Int32} (h : MX f o B w hh σ mr) {th : Int32} {k L : Nat} {sv : Nat → Nat → Int32} {hsl : Nat → Int32} {sl : Nat → Nat → Int32} {ch : Nat → Nat} (t : w 0 = th) (k0 : w 1 = nI k) (l0 : w 2 = nI L) (O : zNO f B k sv hsl sl L ch) : zM G yX4_clearBuffer cX4_clearBuffer 2 (some .int) 9 [.ref o] (f, m) (zD (some (.int (nI L))) (fun f' m' => zNP f o B hh mr 0 0 k sv hsl sl 0 ch (fun σ' => σ' = σ) f' ∧ m' = m)) := by
  refine zM.of (by decide) (Nat.le_of_ble_eq_true rfl) ?_
  have ho := h.1
  have hs := h.2.1
  refine v_aload_n dX4_clearBuffer_0 rfl rfl ?_
  refine v_iconst (nI 0) dX4_clearBuffer_1 (by decide) ?_
  refine v_putfieldX fX4_35 dX4_clearBuffer_2 (by assumption) rfl rfl (Nat.le_of_ble_eq_true rfl) (fun f1 hp1 => ?_)
  obtain ⟨h1, hf1⟩ := MX.put (w' := zUp w 0 (nI 0)) (f0 := f) h hp1 rfl zFr.refl
  obtain ⟨w1, ew1⟩ : ∃ w9, w9 = zUp w 0 (nI 0) := ⟨_, rfl⟩
  rw [← ew1] at h1
  clear hp1
  have ho1 := h1.1
  have hs1 := h1.2.1
  have t1 : w1 0 = nI 0 := by rw [ew1]; rfl
  have k1 := (show w1 1 = w 1 from by rw [ew1]; rfl).trans k0
  have l1 := (show w1 2 = w 2 from by rw [ew1]; rfl).trans l0
  have O1 := zNO.fr O hf1 (by intro τ h; rcases h with h | h | h | h <;> omega)
  have F1 := zFr.trans zFr.refl (zFr.weaken hf1 zTYZ)
  refine v_aload_n dX4_clearBuffer_5 rfl rfl ?_
  refine v_getfield fX4_160 dX4_clearBuffer_6 (by assumption) (by rfl) ?_
  rw [l1]
  refine v_istore_n dX4_clearBuffer_9 rfl (by decide) ?_
  refine v_aload_n dX4_clearBuffer_10 rfl rfl ?_
  refine v_iconst (nI 0) dX4_clearBuffer_11 (by decide) ?_
  refine v_putfieldX fX4_160 dX4_clearBuffer_12 (by assumption) rfl rfl (Nat.le_of_ble_eq_true rfl) (fun f2 hp2 => ?_)
  obtain ⟨h2, hf2⟩ := MX.put (w' := zUp w1 2 (nI 0)) (f0 := f1) h1 hp2 rfl zFr.refl
  obtain ⟨w2, ew2⟩ : ∃ w9, w9 = zUp w1 2 (nI 0) := ⟨_, rfl⟩
  rw [← ew2] at h2
  clear hp2
  have ho2 := h2.1
  have hs2 := h2.2.1
  have t2 := (show w2 0 = w1 0 from by rw [ew2]; rfl).trans t1
  have k2 := (show w2 1 = w1 1 from by rw [ew2]; rfl).trans k1
  have l2 : w2 2 = nI 0 := by rw [ew2]; rfl
  have O2 := zNO.fr O1 hf2 (by intro τ h; rcases h with h | h | h | h <;> omega)
  have F2 := zFr.trans F1 (zFr.weaken hf2 zTYZ)
  replace O2 := O2.nobuf
  refine v_iload_n dX4_clearBuffer_15 rfl rfl ?_
  exact v_ireturn dX4_clearBuffer_16 rfl ⟨rfl, ⟨σ, mr, by omega, ⟨w2, h2, t2, k2, l2, O2⟩, rfl, F2⟩, rfl⟩
set_option maxRecDepth 10000 in
set_option maxHeartbeats 1000000 in
theorem c_m9append {G : zW} {f : zHM} {m : Nat × Nat} {o mr : Nat} {B : Nat → Nat} {w : Nat → Int32} {hh : Int64} {σ : Nat → Int32} (h : MX f o B w hh σ mr) {th : Int32} {k L : Nat} {sv : Nat → Nat → Int32} {hsl : Nat → Int32} {sl : Nat → Nat → Int32} {ch : Nat → Nat} (t : w 0 = th) (k0 : w 1 = nI k) (l0 : w 2 = nI L) (O : zNO f B k sv hsl sl L ch) (h60 : L < 60) {c : Nat} (h33 : 33 ≤ c) (h126 : c ≤ 126) : zM G yX4_append cX4_append 2 (some .int) 9 [.ref o, .int (nI c)] (f, m) (zD (some (.int (nI (L + 1)))) (fun f' m' => zNP f o B hh mr 0 0 k sv hsl sl (L + 1) (fun i => if i = L then c else ch i) (fun σ' => σ' = σ) f' ∧ m' = m)) := by
  refine zM.of (by decide) (Nat.le_of_ble_eq_true rfl) ?_
  have ho := h.1
  have hs := h.2.1
  refine v_aload_n dX4_append_0 rfl rfl ?_
  refine v_iconst (nI 0) dX4_append_1 (by decide) ?_
  refine v_putfieldX fX4_35 dX4_append_2 (by assumption) rfl rfl (Nat.le_of_ble_eq_true rfl) (fun f1 hp1 => ?_)
  obtain ⟨h1, hf1⟩ := MX.put (w' := zUp w 0 (nI 0)) (f0 := f) h hp1 rfl zFr.refl
  obtain ⟨w1, ew1⟩ : ∃ w9, w9 = zUp w 0 (nI 0) := ⟨_, rfl⟩
  rw [← ew1] at h1
  clear hp1
  have ho1 := h1.1
  have hs1 := h1.2.1
  have t1 : w1 0 = nI 0 := by rw [ew1]; rfl
  have k1 := (show w1 1 = w 1 from by rw [ew1]; rfl).trans k0
  have l1 := (show w1 2 = w 2 from by rw [ew1]; rfl).trans l0
  have O1 := zNO.fr O hf1 (by intro τ h; rcases h with h | h | h | h <;> omega)
  have F1 := zFr.trans zFr.refl (zFr.weaken hf1 zTYZ)
  refine v_iload_n dX4_append_5 rfl rfl ?_
  refine v_bipush (nI 33) dX4_append_6 (by decide) ?_
  refine v_bipush (nI 126) dX4_append_8 (by decide) ?_
  refine v_callSp kX4_42 gs_X4_in dX4_append_10 c_in rfl rfl (by decide) (Nat.le_of_ble_eq_true rfl) ?_
  rw [inN_y h33 h126 (by omega)]
  refine v_if_ne 22 dX4_append_13 (by decide) (fun b13 => ?_) (fun b13 => ?_)
  · rw [show (0 : Int32) = nI 0 from rfl] at b13
    rw [nI_eq (by omega) (by omega)] at b13
    refine v_aload_n dX4_append_22 rfl rfl ?_
    refine v_getfield fX4_160 dX4_append_23 (by assumption) (by rfl) ?_
    rw [l1]
    refine v_bipush (nI 60) dX4_append_26 (by decide) ?_
    refine v_icmp_ne 37 dX4_append_28 (by decide) (fun b28 => ?_) (fun b28 => ?_)
    · rw [nI_eq (by omega) (by omega)] at b28
      refine v_aload_n dX4_append_37 rfl rfl ?_
      refine v_getfield fX4_23 dX4_append_38 (by assumption) (by rfl) ?_
      refine v_aload_n dX4_append_41 rfl rfl ?_
      refine v_getfield fX4_160 dX4_append_42 (by assumption) (by rfl) ?_
      rw [l1]
      refine v_iload_n dX4_append_45 rfl rfl ?_
      obtain ⟨-, -, -, ⟨-, gb, hgb, -⟩, -⟩ := id O1
      refine v_iastoreX dX4_append_46 hgb (vp_in_nI (by omega) (by omega)) (fun f2 hp2 => ?_)
      rw [nI_clamp (n := L) (by omega)] at hp2
      have O2 := zNO.push (c := c) O1 hgb h60 hp2
      have hz2 : zFr (fun τ => τ = 705) f1 f2 := zFr.put (T := fun τ => τ = 705) zFr.refl hp2 rfl
      have h2 := MX.fr7 h1 hz2 (by omega)
      have F2 := zFr.trans F1 (hz2.weaken (fun τ e => (⟨by omega, by omega⟩ : zTZ τ)))
      have ho2 := h2.1
      have hs2 := h2.2.1
      refine v_aload_n dX4_append_47 rfl rfl ?_
      refine v_dup dX4_append_48 rfl ?_
      refine v_getfield fX4_160 dX4_append_49 (by assumption) (by rfl) ?_
      rw [l1]
      refine v_iconst (nI 1) dX4_append_52 (by decide) ?_
      refine v_iadd dX4_append_53 ?_
      rw [nI_add L 1]
      refine v_putfieldX fX4_160 dX4_append_54 (by assumption) rfl rfl (Nat.le_of_ble_eq_true rfl) (fun f3 hp3 => ?_)
      obtain ⟨h3, hf3⟩ := MX.put (w' := zUp w1 2 (nI (L + 1))) (f0 := f2) h2 hp3 rfl zFr.refl
      obtain ⟨w3, ew3⟩ : ∃ w9, w9 = zUp w1 2 (nI (L + 1)) := ⟨_, rfl⟩
      rw [← ew3] at h3
      clear hp3
      have ho3 := h3.1
      have hs3 := h3.2.1
      have t3 := (show w3 0 = w1 0 from by rw [ew3]; rfl).trans t1
      have k3 := (show w3 1 = w1 1 from by rw [ew3]; rfl).trans k1
      have l3 : w3 2 = nI (L + 1) := by rw [ew3]; rfl
      have O3 := zNO.fr O2 hf3 (by intro τ h; rcases h with h | h | h | h <;> omega)
      have F3 := zFr.trans F2 (zFr.weaken hf3 zTYZ)
      refine v_aload_n dX4_append_57 rfl rfl ?_
      refine v_getfield fX4_160 dX4_append_58 (by assumption) (by rfl) ?_
      rw [l3]
      exact v_ireturn dX4_append_61 rfl ⟨rfl, ⟨σ, mr, by omega, ⟨w3, h3, t3, k3, l3, O3⟩, rfl, F3⟩, rfl⟩
    · rw [nI_eq (by omega) (by omega)] at b28
      omega
  · rw [show (0 : Int32) = nI 0 from rfl] at b13
    rw [nI_eq (by omega) (by omega)] at b13
    omega
set_option maxRecDepth 10000 in
set_option maxHeartbeats 1000000 in
theorem y_append_1 {G : zW} {f : zHM} {m : Nat × Nat} {o mr : Nat} {B : Nat → Nat} {w : Nat → Int32} {hh : Int64} {σ : Nat → Int32} (h : MX f o B w hh σ mr) {th : Int32} {k L : Nat} {sv : Nat → Nat → Int32} {hsl : Nat → Int32} {sl : Nat → Nat → Int32} {ch : Nat → Nat} (t : w 0 = th) (k0 : w 1 = nI k) (l0 : w 2 = nI L) (O : zNO f B k sv hsl sl L ch) {v : Int32} (hx : v < 33 ∨ ¬ v ≤ 126) : zM G yX4_append cX4_append 2 (some .int) 9 [.ref o, .int v] (f, m) (zD (some (.int 0)) (fun f' m' => zNP f o B hh mr 0 (nI 1) k sv hsl sl L ch (fun σ' => σ' = σ) f' ∧ m' = m)) := by
  refine zM.of (by decide) (Nat.le_of_ble_eq_true rfl) ?_
  have ho := h.1
  have hs := h.2.1
  refine v_aload_n dX4_append_0 rfl rfl ?_
  refine v_iconst (nI 0) dX4_append_1 (by decide) ?_
  refine v_putfieldX fX4_35 dX4_append_2 (by assumption) rfl rfl (Nat.le_of_ble_eq_true rfl) (fun f1 hp1 => ?_)
  obtain ⟨h1, hf1⟩ := MX.put (w' := zUp w 0 (nI 0)) (f0 := f) h hp1 rfl zFr.refl
  obtain ⟨w1, ew1⟩ : ∃ w9, w9 = zUp w 0 (nI 0) := ⟨_, rfl⟩
  rw [← ew1] at h1
  clear hp1
  have ho1 := h1.1
  have hs1 := h1.2.1
  have t1 : w1 0 = nI 0 := by rw [ew1]; rfl
  have k1 := (show w1 1 = w 1 from by rw [ew1]; rfl).trans k0
  have l1 := (show w1 2 = w 2 from by rw [ew1]; rfl).trans l0
  have O1 := zNO.fr O hf1 (by intro τ h; rcases h with h | h | h | h <;> omega)
  have F1 := zFr.trans zFr.refl (zFr.weaken hf1 zTYZ)
  refine v_iload_n dX4_append_5 rfl rfl ?_
  refine v_bipush (nI 33) dX4_append_6 (by decide) ?_
  refine v_bipush (nI 126) dX4_append_8 (by decide) ?_
  refine v_callSp kX4_42 gs_X4_in dX4_append_10 c_in rfl rfl (by decide) (Nat.le_of_ble_eq_true rfl) ?_
  rw [in_n (a := nI 33) (b := nI 126) hx]
  refine v_if_ne 22 dX4_append_13 (by decide) (fun b13 => ?_) (fun b13 => ?_)
  · rw [show (0 : Int32) = nI 0 from rfl] at b13
    rw [nI_eq (by omega) (by omega)] at b13
    omega
  · rw [show (0 : Int32) = nI 0 from rfl] at b13
    rw [nI_eq (by omega) (by omega)] at b13
    refine v_aload_n dX4_append_16 rfl rfl ?_
    refine v_iconst (nI 1) dX4_append_17 (by decide) ?_
    refine v_callV1 kX4_118 gi_X4_fails ge_X4_fails rfl dX4_append_18 (by assumption) (c_fails h1) rfl rfl (by decide) (Nat.le_of_ble_eq_true rfl) (fun f2 m hc2 => ?_)
    obtain ⟨⟨w2, h2, t2, hq2, hf2⟩, rfl⟩ := hc2
    have k2 := (hq2 1 (by decide)).trans k1
    have l2 := (hq2 2 (by decide)).trans l1
    have ho2 := h2.1
    have hs2 := h2.2.1
    have O2 := zNO.fr O1 hf2 (by intro τ h; rcases h with h | h | h | h <;> omega)
    have F2 := zFr.trans F1 (zFr.weaken hf2 zTYZ)
    exact v_ireturn dX4_append_21 rfl ⟨rfl, ⟨σ, mr, by omega, ⟨w2, h2, t2, k2, l2, O2⟩, rfl, F2⟩, rfl⟩
set_option maxRecDepth 10000 in
set_option maxHeartbeats 1000000 in
theorem y_append_2 {G : zW} {f : zHM} {m : Nat × Nat} {o mr : Nat} {B : Nat → Nat} {w : Nat → Int32} {hh : Int64} {σ : Nat → Int32} (h : MX f o B w hh σ mr) {th : Int32} {k L : Nat} {sv : Nat → Nat → Int32} {hsl : Nat → Int32} {sl : Nat → Nat → Int32} {ch : Nat → Nat} (t : w 0 = th) (k0 : w 1 = nI k) (l0 : w 2 = nI L) (O : zNO f B k sv hsl sl L ch) (h60 : L = 60) {c : Nat} (h33 : 33 ≤ c) (h126 : c ≤ 126) : zM G yX4_append cX4_append 2 (some .int) 9 [.ref o, .int (nI c)] (f, m) (zD (some (.int 0)) (fun f' m' => zNP f o B hh mr 0 (nI 2) k sv hsl sl L ch (fun σ' => σ' = σ) f' ∧ m' = m)) := by
  refine zM.of (by decide) (Nat.le_of_ble_eq_true rfl) ?_
  have ho := h.1
  have hs := h.2.1
  refine v_aload_n dX4_append_0 rfl rfl ?_
  refine v_iconst (nI 0) dX4_append_1 (by decide) ?_
  refine v_putfieldX fX4_35 dX4_append_2 (by assumption) rfl rfl (Nat.le_of_ble_eq_true rfl) (fun f1 hp1 => ?_)
  obtain ⟨h1, hf1⟩ := MX.put (w' := zUp w 0 (nI 0)) (f0 := f) h hp1 rfl zFr.refl
  obtain ⟨w1, ew1⟩ : ∃ w9, w9 = zUp w 0 (nI 0) := ⟨_, rfl⟩
  rw [← ew1] at h1
  clear hp1
  have ho1 := h1.1
  have hs1 := h1.2.1
  have t1 : w1 0 = nI 0 := by rw [ew1]; rfl
  have k1 := (show w1 1 = w 1 from by rw [ew1]; rfl).trans k0
  have l1 := (show w1 2 = w 2 from by rw [ew1]; rfl).trans l0
  have O1 := zNO.fr O hf1 (by intro τ h; rcases h with h | h | h | h <;> omega)
  have F1 := zFr.trans zFr.refl (zFr.weaken hf1 zTYZ)
  refine v_iload_n dX4_append_5 rfl rfl ?_
  refine v_bipush (nI 33) dX4_append_6 (by decide) ?_
  refine v_bipush (nI 126) dX4_append_8 (by decide) ?_
  refine v_callSp kX4_42 gs_X4_in dX4_append_10 c_in rfl rfl (by decide) (Nat.le_of_ble_eq_true rfl) ?_
  rw [inN_y h33 h126 (by omega)]
  refine v_if_ne 22 dX4_append_13 (by decide) (fun b13 => ?_) (fun b13 => ?_)
  · rw [show (0 : Int32) = nI 0 from rfl] at b13
    rw [nI_eq (by omega) (by omega)] at b13
    refine v_aload_n dX4_append_22 rfl rfl ?_
    refine v_getfield fX4_160 dX4_append_23 (by assumption) (by rfl) ?_
    rw [l1]
    refine v_bipush (nI 60) dX4_append_26 (by decide) ?_
    refine v_icmp_ne 37 dX4_append_28 (by decide) (fun b28 => ?_) (fun b28 => ?_)
    · rw [nI_eq (by omega) (by omega)] at b28
      omega
    · rw [nI_eq (by omega) (by omega)] at b28
      refine v_aload_n dX4_append_31 rfl rfl ?_
      refine v_iconst (nI 2) dX4_append_32 (by decide) ?_
      refine v_callV1 kX4_118 gi_X4_fails ge_X4_fails rfl dX4_append_33 (by assumption) (c_fails h1) rfl rfl (by decide) (Nat.le_of_ble_eq_true rfl) (fun f2 m hc2 => ?_)
      obtain ⟨⟨w2, h2, t2, hq2, hf2⟩, rfl⟩ := hc2
      have k2 := (hq2 1 (by decide)).trans k1
      have l2 := (hq2 2 (by decide)).trans l1
      have ho2 := h2.1
      have hs2 := h2.2.1
      have O2 := zNO.fr O1 hf2 (by intro τ h; rcases h with h | h | h | h <;> omega)
      have F2 := zFr.trans F1 (zFr.weaken hf2 zTYZ)
      exact v_ireturn dX4_append_36 rfl ⟨rfl, ⟨σ, mr, by omega, ⟨w2, h2, t2, k2, l2, O2⟩, rfl, F2⟩, rfl⟩
  · rw [show (0 : Int32) = nI 0 from rfl] at b13
    rw [nI_eq (by omega) (by omega)] at b13
    omega
