set_option maxRecDepth 10000 in
set_option maxHeartbeats 1000000 in
theorem c_m9knot {G : zW} {f : zHM} {m : Nat × Nat} {o mr : Nat} {B : Nat → Nat} {w : Nat → Int32} {hh : Int64} {σ : Nat → Int32} (h : MX f o B w hh σ mr) {th : Int32} {k L : Nat} {sv : Nat → Nat → Int32} {hsl : Nat → Int32} {sl : Nat → Nat → Int32} {ch : Nat → Nat} (t : w 0 = th) (k0 : w 1 = nI k) (l0 : w 2 = nI L) (O : zNO f B k sv hsl sl L ch) {u : Nat} (hu : u < 3) (hne : ¬ nI u = σ 2) : zM G yX4_knot cX4_knot 2 (some .int) 9 [.ref o, .int (nI u)] (f, m) (zD (some (.int (σ 5 + 1))) (fun f' m' => zNP f o B hh mr 0 0 (sPK k) (sPM k sv σ) hsl sl L ch (fun σ' => (∀ n, n ≤ 200 → zEQ n (sKnotS (rOf σ) u) (rOf σ')) ∧ σ' 15 = σ 15) f' ∧ m' = m)) := by
  refine zM.of (by decide) (Nat.le_of_ble_eq_true rfl) ?_
  have ho := h.1
  have hs := h.2.1
  refine v_aload_n dX4_knot_0 rfl rfl ?_
  refine v_iconst (nI 0) dX4_knot_1 (by decide) ?_
  refine v_putfieldX fX4_35 dX4_knot_2 (by assumption) rfl rfl (Nat.le_of_ble_eq_true rfl) (fun f1 hp1 => ?_)
  obtain ⟨h1, hf1⟩ := MX.put (w' := zUp w 0 (nI 0)) (f0 := f) h hp1 rfl zFr.refl
  obtain ⟨w1, ew1⟩ : ∃ w9, w9 = zUp w 0 (nI 0) := ⟨_, rfl⟩
  rw [← ew1] at h1
  clear hp1
  have ho1 := h1.1
  have hs1 := h1.2.1
  have t1 : w1 0 = nI 0 := by rw [ew1]; rfl
  have k1 := (show w1 1 = w 1 from by rw [ew1]; rfl).trans k0
  have l1 := (show w1 2 = w 2 from by rw [ew1]; rfl).trans l0
  have O1 := zNO.fr O hf1 (by intro τ h; rcases h with h | h | h | h <;> omega)
  have F1 := zFr.trans zFr.refl (zFr.weaken hf1 zTYZ)
  refine v_iload_n dX4_knot_5 rfl rfl ?_
  refine v_callSp kX4_127 gs_X4_isSpool dX4_knot_6 c_isSpool rfl rfl (by decide) (Nat.le_of_ble_eq_true rfl) ?_
  rw [inN_y (Nat.zero_le u) (show u ≤ 2 by omega) (by omega)]
  refine v_if_ne 18 dX4_knot_9 (by decide) (fun b9 => ?_) (fun b9 => ?_)
  · rw [show (0 : Int32) = nI 0 from rfl] at b9
    rw [nI_eq (by omega) (by omega)] at b9
    refine v_iload_n dX4_knot_18 rfl rfl ?_
    refine v_aload_n dX4_knot_19 rfl rfl ?_
    refine v_getfield fX4_7 dX4_knot_20 (by assumption) (by rfl) ?_
    refine v_iconst (nI 2) dX4_knot_23 (by decide) ?_
    refine v_iaload dX4_knot_24 (by assumption) (vp_in_nI (by omega) (by omega)) ?_
    rw [nI_clamp (n := 2) (by omega)]
    refine v_icmp_ne 34 dX4_knot_25 (by decide) (fun b25 => ?_) (fun b25 => ?_)
    · refine v_aload_n dX4_knot_34 rfl rfl ?_
      refine v_callV0 kX4_121 gi_X4_saves ge_X4_saves rfl dX4_knot_35 (by assumption) (c_saves h1 k1 O1) rfl rfl (by decide) (Nat.le_of_ble_eq_true rfl) (fun f2 m hc2 => ?_)
      obtain ⟨⟨w2, h2, hk0, k2, O2, hf2⟩, rfl⟩ := hc2
      have t2 := (hk0 0 (by decide)).trans t1
      have l2 := (hk0 2 (by decide)).trans l1
      have F2 := zFr.trans F1 hf2
      have ho2 := h2.1
      have hs2 := h2.2.1
      refine v_aload_n dX4_knot_38 rfl rfl ?_
      refine v_getfield fX4_7 dX4_knot_39 (by assumption) (by rfl) ?_
      refine v_iconst (nI 2) dX4_knot_42 (by decide) ?_
      refine v_iload_n dX4_knot_43 rfl rfl ?_
      refine v_iastoreX dX4_knot_44 (by assumption) (vp_in_nI (by omega) (by omega)) (fun f3 hp3 => ?_)
      rw [nI_clamp (n := 2) (by omega)] at hp3
      obtain ⟨h3, hf3⟩ := MX.st (f0 := f2) h2 hp3 zFr.refl
      clear hp3
      obtain ⟨σ3, e3, hg3⟩ := upd_nm σ 2 (nI u)
      rw [← e3] at h3
      clear e3
      have ho3 := h3.1
      have hs3 := h3.2.1
      have hk3 := wK.refl w2
      have t3 := (hk3 0 (by decide) (by decide)).trans t2
      have k3 := (hk3 1 (by decide) (by decide)).trans k2
      have l3 := (hk3 2 (by decide) (by decide)).trans l2
      have O3 := zNO.fr O2 hf3 (by intro τ h; rcases h with h | h | h | h <;> omega)
      have F3 := zFr.trans F2 (zFr.weaken hf3 zTYZ)
      refine v_aload_n dX4_knot_45 rfl rfl ?_
      refine v_getfield fX4_7 dX4_knot_46 (by assumption) (by rfl) ?_
      refine v_iconst (nI 5) dX4_knot_49 (by decide) ?_
      refine v_dup2 dX4_knot_50 rfl rfl ?_
      refine v_iaload dX4_knot_51 (by assumption) (vp_in_nI (by omega) (by omega)) ?_
      rw [nI_clamp (n := 5) (by omega), show σ3 5 = σ 5 from by rw [hg3, if_neg (by omega)]]
      refine v_iconst (1) dX4_knot_52 (by decide) ?_
      refine v_iadd dX4_knot_53 ?_
      refine v_iastoreX dX4_knot_54 (by assumption) (vp_in_nI (by omega) (by omega)) (fun f4 hp4 => ?_)
      rw [nI_clamp (n := 5) (by omega)] at hp4
      obtain ⟨h4, hf4⟩ := MX.st (f0 := f3) h3 hp4 zFr.refl
      clear hp4
      obtain ⟨σ4, e4, hg4⟩ := upd_nm σ3 5 ((σ 5) + 1)
      rw [← e4] at h4
      clear e4
      have ho4 := h4.1
      have hs4 := h4.2.1
      have hk4 := wK.refl w2
      have t4 := (hk4 0 (by decide) (by decide)).trans t3
      have k4 := (hk4 1 (by decide) (by decide)).trans k3
      have l4 := (hk4 2 (by decide) (by decide)).trans l3
      have O4 := zNO.fr O3 hf4 (by intro τ h; rcases h with h | h | h | h <;> omega)
      have F4 := zFr.trans F3 (zFr.weaken hf4 zTYZ)
      refine v_aload_n dX4_knot_55 rfl rfl ?_
      refine v_getfield fX4_7 dX4_knot_56 (by assumption) (by rfl) ?_
      refine v_iconst (nI 5) dX4_knot_59 (by decide) ?_
      refine v_iaload dX4_knot_60 (by assumption) (vp_in_nI (by omega) (by omega)) ?_
      rw [nI_clamp (n := 5) (by omega), show σ4 5 = σ 5 + 1 from by rw [hg4, if_pos rfl]]
      exact v_ireturn dX4_knot_61 rfl ⟨rfl, ⟨σ4, mr, by omega, ⟨w2, h4, t4, k4, l4, O4⟩, ⟨fun n hn => ⟨fun i hi => by show (if i = 5 then σ 5 + 1 else if i = 2 then nI u else σ i) = σ4 i; rw [hg4, hg3], fun i hi => ⟨by show σ (9 + 2 * i) = σ4 (9 + 2 * i); rw [hg4, if_neg (by omega), hg3, if_neg (by omega)], by show σ (9 + 2 * i + 1) = σ4 (9 + 2 * i + 1); rw [hg4, if_neg (by omega), hg3, if_neg (by omega)], by show σ (6 + i) = σ4 (6 + i); rw [hg4, if_neg (by omega), hg3, if_neg (by omega)]⟩, fun c hc => ⟨by show σ (16 + 3 * c) = σ4 (16 + 3 * c); rw [hg4, if_neg (by omega), hg3, if_neg (by omega)], by show σ (16 + 3 * c + 1) = σ4 (16 + 3 * c + 1); rw [hg4, if_neg (by omega), hg3, if_neg (by omega)], by show σ (16 + 3 * c + 2) = σ4 (16 + 3 * c + 2); rw [hg4, if_neg (by omega), hg3, if_neg (by omega)]⟩, fun q hq => ⟨by show σ (616 + q) = σ4 (616 + q); rw [hg4, if_neg (by omega), hg3, if_neg (by omega)], by show σ (760 + q) = σ4 (760 + q); rw [hg4, if_neg (by omega), hg3, if_neg (by omega)]⟩⟩, by rw [hg4, if_neg (by omega), hg3, if_neg (by omega)]⟩, F4⟩, rfl⟩
    · exact absurd b25 hne
  · rw [show (0 : Int32) = nI 0 from rfl] at b9
    rw [nI_eq (by omega) (by omega)] at b9
    omega
set_option maxRecDepth 10000 in
set_option maxHeartbeats 1000000 in
theorem y_knot_1 {G : zW} {f : zHM} {m : Nat × Nat} {o mr : Nat} {B : Nat → Nat} {w : Nat → Int32} {hh : Int64} {σ : Nat → Int32} (h : MX f o B w hh σ mr) {th : Int32} {k L : Nat} {sv : Nat → Nat → Int32} {hsl : Nat → Int32} {sl : Nat → Nat → Int32} {ch : Nat → Nat} (t : w 0 = th) (k0 : w 1 = nI k) (l0 : w 2 = nI L) (O : zNO f B k sv hsl sl L ch) {v : Int32} (hx : v < 0 ∨ ¬ v < 3) : zM G yX4_knot cX4_knot 2 (some .int) 9 [.ref o, .int v] (f, m) (zD (some (.int 0)) (fun f' m' => zNP f o B hh mr 0 (nI 1) k sv hsl sl L ch (fun σ' => σ' = σ) f' ∧ m' = m)) := by
  refine zM.of (by decide) (Nat.le_of_ble_eq_true rfl) ?_
  have ho := h.1
  have hs := h.2.1
  refine v_aload_n dX4_knot_0 rfl rfl ?_
  refine v_iconst (nI 0) dX4_knot_1 (by decide) ?_
  refine v_putfieldX fX4_35 dX4_knot_2 (by assumption) rfl rfl (Nat.le_of_ble_eq_true rfl) (fun f1 hp1 => ?_)
  obtain ⟨h1, hf1⟩ := MX.put (w' := zUp w 0 (nI 0)) (f0 := f) h hp1 rfl zFr.refl
  obtain ⟨w1, ew1⟩ : ∃ w9, w9 = zUp w 0 (nI 0) := ⟨_, rfl⟩
  rw [← ew1] at h1
  clear hp1
  have ho1 := h1.1
  have hs1 := h1.2.1
  have t1 : w1 0 = nI 0 := by rw [ew1]; rfl
  have k1 := (show w1 1 = w 1 from by rw [ew1]; rfl).trans k0
  have l1 := (show w1 2 = w 2 from by rw [ew1]; rfl).trans l0
  have O1 := zNO.fr O hf1 (by intro τ h; rcases h with h | h | h | h <;> omega)
  have F1 := zFr.trans zFr.refl (zFr.weaken hf1 zTYZ)
  refine v_iload_n dX4_knot_5 rfl rfl ?_
  refine v_callSp kX4_127 gs_X4_isSpool dX4_knot_6 c_isSpool rfl rfl (by decide) (Nat.le_of_ble_eq_true rfl) ?_
  rw [in_n (b := nI 2) (in_p (N := 3) (by omega) (by omega) hx)]
  refine v_if_ne 18 dX4_knot_9 (by decide) (fun b9 => ?_) (fun b9 => ?_)
  · rw [show (0 : Int32) = nI 0 from rfl] at b9
    rw [nI_eq (by omega) (by omega)] at b9
    omega
  · rw [show (0 : Int32) = nI 0 from rfl] at b9
    rw [nI_eq (by omega) (by omega)] at b9
    refine v_aload_n dX4_knot_12 rfl rfl ?_
    refine v_iconst (nI 1) dX4_knot_13 (by decide) ?_
    refine v_callV1 kX4_118 gi_X4_fails ge_X4_fails rfl dX4_knot_14 (by assumption) (c_fails h1) rfl rfl (by decide) (Nat.le_of_ble_eq_true rfl) (fun f2 m hc2 => ?_)
    obtain ⟨⟨w2, h2, t2, hq2, hf2⟩, rfl⟩ := hc2
    have k2 := (hq2 1 (by decide)).trans k1
    have l2 := (hq2 2 (by decide)).trans l1
    have ho2 := h2.1
    have hs2 := h2.2.1
    have O2 := zNO.fr O1 hf2 (by intro τ h; rcases h with h | h | h | h <;> omega)
    have F2 := zFr.trans F1 (zFr.weaken hf2 zTYZ)
    exact v_ireturn dX4_knot_17 rfl ⟨rfl, ⟨σ, mr, by omega, ⟨w2, h2, t2, k2, l2, O2⟩, rfl, F2⟩, rfl⟩
set_option maxRecDepth 10000 in
set_option maxHeartbeats 1000000 in
theorem y_knot_2 {G : zW} {f : zHM} {m : Nat × Nat} {o mr : Nat} {B : Nat → Nat} {w : Nat → Int32} {hh : Int64} {σ : Nat → Int32} (h : MX f o B w hh σ mr) {th : Int32} {k L : Nat} {sv : Nat → Nat → Int32} {hsl : Nat → Int32} {sl : Nat → Nat → Int32} {ch : Nat → Nat} (t : w 0 = th) (k0 : w 1 = nI k) (l0 : w 2 = nI L) (O : zNO f B k sv hsl sl L ch) {u : Nat} (hu : u < 3) (heq : nI u = σ 2) : zM G yX4_knot cX4_knot 2 (some .int) 9 [.ref o, .int (nI u)] (f, m) (zD (some (.int 0)) (fun f' m' => zNP f o B hh mr 0 (nI 2) k sv hsl sl L ch (fun σ' => σ' = σ) f' ∧ m' = m)) := by
  refine zM.of (by decide) (Nat.le_of_ble_eq_true rfl) ?_
  have ho := h.1
  have hs := h.2.1
  refine v_aload_n dX4_knot_0 rfl rfl ?_
  refine v_iconst (nI 0) dX4_knot_1 (by decide) ?_
  refine v_putfieldX fX4_35 dX4_knot_2 (by assumption) rfl rfl (Nat.le_of_ble_eq_true rfl) (fun f1 hp1 => ?_)
  obtain ⟨h1, hf1⟩ := MX.put (w' := zUp w 0 (nI 0)) (f0 := f) h hp1 rfl zFr.refl
  obtain ⟨w1, ew1⟩ : ∃ w9, w9 = zUp w 0 (nI 0) := ⟨_, rfl⟩
  rw [← ew1] at h1
  clear hp1
  have ho1 := h1.1
  have hs1 := h1.2.1
  have t1 : w1 0 = nI 0 := by rw [ew1]; rfl
  have k1 := (show w1 1 = w 1 from by rw [ew1]; rfl).trans k0
  have l1 := (show w1 2 = w 2 from by rw [ew1]; rfl).trans l0
  have O1 := zNO.fr O hf1 (by intro τ h; rcases h with h | h | h | h <;> omega)
  have F1 := zFr.trans zFr.refl (zFr.weaken hf1 zTYZ)
  refine v_iload_n dX4_knot_5 rfl rfl ?_
  refine v_callSp kX4_127 gs_X4_isSpool dX4_knot_6 c_isSpool rfl rfl (by decide) (Nat.le_of_ble_eq_true rfl) ?_
  rw [inN_y (Nat.zero_le u) (show u ≤ 2 by omega) (by omega)]
  refine v_if_ne 18 dX4_knot_9 (by decide) (fun b9 => ?_) (fun b9 => ?_)
  · rw [show (0 : Int32) = nI 0 from rfl] at b9
    rw [nI_eq (by omega) (by omega)] at b9
    refine v_iload_n dX4_knot_18 rfl rfl ?_
    refine v_aload_n dX4_knot_19 rfl rfl ?_
    refine v_getfield fX4_7 dX4_knot_20 (by assumption) (by rfl) ?_
    refine v_iconst (nI 2) dX4_knot_23 (by decide) ?_
    refine v_iaload dX4_knot_24 (by assumption) (vp_in_nI (by omega) (by omega)) ?_
    rw [nI_clamp (n := 2) (by omega)]
    refine v_icmp_ne 34 dX4_knot_25 (by decide) (fun b25 => ?_) (fun b25 => ?_)
    · exact absurd heq b25
    · refine v_aload_n dX4_knot_28 rfl rfl ?_
      refine v_iconst (nI 2) dX4_knot_29 (by decide) ?_
      refine v_callV1 kX4_118 gi_X4_fails ge_X4_fails rfl dX4_knot_30 (by assumption) (c_fails h1) rfl rfl (by decide) (Nat.le_of_ble_eq_true rfl) (fun f2 m hc2 => ?_)
      obtain ⟨⟨w2, h2, t2, hq2, hf2⟩, rfl⟩ := hc2
      have k2 := (hq2 1 (by decide)).trans k1
      have l2 := (hq2 2 (by decide)).trans l1
      have ho2 := h2.1
      have hs2 := h2.2.1
      have O2 := zNO.fr O1 hf2 (by intro τ h; rcases h with h | h | h | h <;> omega)
      have F2 := zFr.trans F1 (zFr.weaken hf2 zTYZ)
      exact v_ireturn dX4_knot_33 rfl ⟨rfl, ⟨σ, mr, by omega, ⟨w2, h2, t2, k2, l2, O2⟩, rfl, F2⟩, rfl⟩
  · rw [show (0 : Int32) = nI 0 from rfl] at b9
    rw [nI_eq (by omega) (by omega)] at b9
    omega
theorem zMS_0 : zMS.getD 0 0 = nI 6 := rfl
theorem zMS_1 {e : Nat} (h : e < 3) (h0 : e ≠ 0) : zMS.getD e 0 = nI 9 := by
  match e, h, h0 with
  | 1, _, _ => rfl
  | 2, _, _ => rfl
theorem zMS_6 {e : Nat} {v : Int32} (h0 : e = 0) (h : v ≤ zMS.getD e 0) : v ≤ nI 6 := by subst h0; exact h
theorem zMS_9 {e : Nat} {v : Int32} (h : e < 3) (h0 : ¬ e = 0) (h2 : v ≤ zMS.getD e 0) : v ≤ nI 9 := by rw [zMS_1 h h0] at h2; exact h2
theorem zMS_6n {e : Nat} {v : Int32} (h0 : e = 0) (h : v < 1 ∨ ¬ v ≤ zMS.getD e 0) : v < nI 1 ∨ ¬ v ≤ nI 6 := by subst h0; exact h
theorem zMS_9n {e : Nat} {v : Int32} (h : e < 3) (h0 : ¬ e = 0) (h2 : v < 1 ∨ ¬ v ≤ zMS.getD e 0) : v < nI 1 ∨ ¬ v ≤ nI 9 := by rw [zMS_1 h h0] at h2; exact h2
set_option maxRecDepth 10000 in
set_option maxHeartbeats 1000000 in
theorem c_m9set {G : zW} {f : zHM} {m : Nat × Nat} {o mr : Nat} {B : Nat → Nat} {w : Nat → Int32} {hh : Int64} {σ : Nat → Int32} (h : MX f o B w hh σ mr) {th : Int32} {k L : Nat} {sv : Nat → Nat → Int32} {hsl : Nat → Int32} {sl : Nat → Nat → Int32} {ch : Nat → Nat} (t : w 0 = th) (k0 : w 1 = nI k) (l0 : w 2 = nI L) (O : zNO f B k sv hsl sl L ch) {e : Nat} (he : e < 3) {v : Int32} (v1 : ¬ v < 1) (v2 : v ≤ zMS.getD e 0) : zM G yX4_set cX4_set 4 (some .int) 9 [.ref o, .int (nI e), .int v] (f, m) (zD (some (.int (rOf σ 3 e))) (fun f' m' => zNP f o B hh mr 0 0 (sPK k) (sPM k sv σ) hsl sl L ch (fun σ' => (∀ n, n ≤ 200 → zEQ n (sSetS (rOf σ) e v) (rOf σ')) ∧ σ' 15 = σ 15) f' ∧ m' = m)) := by
  refine zM.of (by decide) (Nat.le_of_ble_eq_true rfl) ?_
  have ho := h.1
  have hs := h.2.1
  refine v_aload_n dX4_set_0 rfl rfl ?_
  refine v_iconst (nI 0) dX4_set_1 (by decide) ?_
  refine v_putfieldX fX4_35 dX4_set_2 (by assumption) rfl rfl (Nat.le_of_ble_eq_true rfl) (fun f1 hp1 => ?_)
  obtain ⟨h1, hf1⟩ := MX.put (w' := zUp w 0 (nI 0)) (f0 := f) h hp1 rfl zFr.refl
  obtain ⟨w1, ew1⟩ : ∃ w9, w9 = zUp w 0 (nI 0) := ⟨_, rfl⟩
  rw [← ew1] at h1
  clear hp1
  have ho1 := h1.1
  have hs1 := h1.2.1
  have t1 : w1 0 = nI 0 := by rw [ew1]; rfl
  have k1 := (show w1 1 = w 1 from by rw [ew1]; rfl).trans k0
  have l1 := (show w1 2 = w 2 from by rw [ew1]; rfl).trans l0
  have O1 := zNO.fr O hf1 (by intro τ h; rcases h with h | h | h | h <;> omega)
  have F1 := zFr.trans zFr.refl (zFr.weaken hf1 zTYZ)
  refine v_iload_n dX4_set_5 rfl rfl ?_
  refine v_iconst (nI 0) dX4_set_6 (by decide) ?_
  refine v_iconst (nI 2) dX4_set_7 (by decide) ?_
  refine v_callSp kX4_42 gs_X4_in dX4_set_8 c_in rfl rfl (by decide) (Nat.le_of_ble_eq_true rfl) ?_
  rw [inN_y (Nat.zero_le e) (show e ≤ 2 by omega) (by omega)]
  refine v_if_ne 20 dX4_set_11 (by decide) (fun b11 => ?_) (fun b11 => ?_)
  · rw [show (0 : Int32) = nI 0 from rfl] at b11
    rw [nI_eq (by omega) (by omega)] at b11
    refine v_iload_n dX4_set_20 rfl rfl ?_
    refine v_iconst (nI 1) dX4_set_21 (by decide) ?_
    refine v_iload_n dX4_set_22 rfl rfl ?_
    refine v_if_ne 31 dX4_set_23 (by decide) (fun b23 => ?_) (fun b23 => ?_)
    · rw [show (0 : Int32) = nI 0 from rfl] at b23
      rw [nI_eq (by omega) (by omega)] at b23
      refine v_bipush (nI 9) dX4_set_31 (by decide) ?_
      refine v_callSp kX4_42 gs_X4_in dX4_set_33 c_in rfl rfl (by decide) (Nat.le_of_ble_eq_true rfl) ?_
      rw [in_y (a := nI 1) v1 (zMS_9 he b23 v2)]
      refine v_if_ne 45 dX4_set_36 (by decide) (fun b36 => ?_) (fun b36 => ?_)
      · rw [show (0 : Int32) = nI 0 from rfl] at b36
        rw [nI_eq (by omega) (by omega)] at b36
        refine v_aload_n dX4_set_45 rfl rfl ?_
        refine v_callV0 kX4_121 gi_X4_saves ge_X4_saves rfl dX4_set_46 (by assumption) (c_saves h1 k1 O1) rfl rfl (by decide) (Nat.le_of_ble_eq_true rfl) (fun f2 m hc2 => ?_)
        obtain ⟨⟨w2, h2, hk0, k2, O2, hf2⟩, rfl⟩ := hc2
        have t2 := (hk0 0 (by decide)).trans t1
        have l2 := (hk0 2 (by decide)).trans l1
        have F2 := zFr.trans F1 hf2
        have ho2 := h2.1
        have hs2 := h2.2.1
        refine v_aload_n dX4_set_49 rfl rfl ?_
        refine v_getfield fX4_7 dX4_set_50 (by assumption) (by rfl) ?_
        refine v_bipush (nI 6) dX4_set_53 (by decide) ?_
        refine v_iload_n dX4_set_55 rfl rfl ?_
        refine v_iadd dX4_set_56 ?_
        rw [nI_add 6 e]
        refine v_iaload dX4_set_57 (by assumption) (vp_in_nI (by omega) (by omega)) ?_
        rw [nI_clamp (n := (6 + e)) (by omega)]
        refine v_istore_n dX4_set_58 rfl (by decide) ?_
        refine v_aload_n dX4_set_59 rfl rfl ?_
        refine v_getfield fX4_7 dX4_set_60 (by assumption) (by rfl) ?_
        refine v_bipush (nI 6) dX4_set_63 (by decide) ?_
        refine v_iload_n dX4_set_65 rfl rfl ?_
        refine v_iadd dX4_set_66 ?_
        rw [nI_add 6 e]
        refine v_iload_n dX4_set_67 rfl rfl ?_
        refine v_iastoreX dX4_set_68 (by assumption) (vp_in_nI (by omega) (by omega)) (fun f3 hp3 => ?_)
        rw [nI_clamp (n := (6 + e)) (by omega)] at hp3
        obtain ⟨h3, hf3⟩ := MX.st (f0 := f2) h2 hp3 zFr.refl
        clear hp3
        obtain ⟨σ3, e3, hg3⟩ := upd_nm σ (6 + e) v
        rw [← e3] at h3
        clear e3
        have ho3 := h3.1
        have hs3 := h3.2.1
        have hk3 := wK.refl w2
        have t3 := (hk3 0 (by decide) (by decide)).trans t2
        have k3 := (hk3 1 (by decide) (by decide)).trans k2
        have l3 := (hk3 2 (by decide) (by decide)).trans l2
        have O3 := zNO.fr O2 hf3 (by intro τ h; rcases h with h | h | h | h <;> omega)
        have F3 := zFr.trans F2 (zFr.weaken hf3 zTYZ)
        refine v_iload_n dX4_set_69 rfl rfl ?_
        exact v_ireturn dX4_set_70 rfl ⟨rfl, ⟨σ3, mr, by omega, ⟨w2, h3, t3, k3, l3, O3⟩, ⟨fun n hn => ⟨fun i hi => by show σ (i) = σ3 (i); rw [hg3, if_neg (by omega)], fun i hi => ⟨by show σ (9 + 2 * i) = σ3 (9 + 2 * i); rw [hg3, if_neg (by omega)], by show σ (9 + 2 * i + 1) = σ3 (9 + 2 * i + 1); rw [hg3, if_neg (by omega)], by show (if i = e then v else σ (6 + i)) = σ3 (6 + i); rw [hg3]; by_cases z : i = e; (rw [if_pos z, if_pos (by omega)]); (rw [if_neg z, if_neg (by omega)])⟩, fun c hc => ⟨by show σ (16 + 3 * c) = σ3 (16 + 3 * c); rw [hg3, if_neg (by omega)], by show σ (16 + 3 * c + 1) = σ3 (16 + 3 * c + 1); rw [hg3, if_neg (by omega)], by show σ (16 + 3 * c + 2) = σ3 (16 + 3 * c + 2); rw [hg3, if_neg (by omega)]⟩, fun q hq => ⟨by show σ (616 + q) = σ3 (616 + q); rw [hg3, if_neg (by omega)], by show σ (760 + q) = σ3 (760 + q); rw [hg3, if_neg (by omega)]⟩⟩, by rw [hg3, if_neg (by omega)]⟩, F3⟩, rfl⟩
      · rw [show (0 : Int32) = nI 0 from rfl] at b36
        rw [nI_eq (by omega) (by omega)] at b36
        omega
    · rw [show (0 : Int32) = nI 0 from rfl] at b23
      rw [nI_eq (by omega) (by omega)] at b23
      refine v_bipush (nI 6) dX4_set_26 (by decide) ?_
      refine v_goto 33 dX4_set_28 (by decide) ?_
      refine v_callSp kX4_42 gs_X4_in dX4_set_33 c_in rfl rfl (by decide) (Nat.le_of_ble_eq_true rfl) ?_
      rw [in_y (a := nI 1) v1 (zMS_6 b23 v2)]
      refine v_if_ne 45 dX4_set_36 (by decide) (fun b36 => ?_) (fun b36 => ?_)
      · rw [show (0 : Int32) = nI 0 from rfl] at b36
        rw [nI_eq (by omega) (by omega)] at b36
        refine v_aload_n dX4_set_45 rfl rfl ?_
        refine v_callV0 kX4_121 gi_X4_saves ge_X4_saves rfl dX4_set_46 (by assumption) (c_saves h1 k1 O1) rfl rfl (by decide) (Nat.le_of_ble_eq_true rfl) (fun f2 m hc2 => ?_)
        obtain ⟨⟨w2, h2, hk0, k2, O2, hf2⟩, rfl⟩ := hc2
        have t2 := (hk0 0 (by decide)).trans t1
        have l2 := (hk0 2 (by decide)).trans l1
        have F2 := zFr.trans F1 hf2
        have ho2 := h2.1
        have hs2 := h2.2.1
        refine v_aload_n dX4_set_49 rfl rfl ?_
        refine v_getfield fX4_7 dX4_set_50 (by assumption) (by rfl) ?_
        refine v_bipush (nI 6) dX4_set_53 (by decide) ?_
        refine v_iload_n dX4_set_55 rfl rfl ?_
        refine v_iadd dX4_set_56 ?_
        rw [nI_add 6 e]
        refine v_iaload dX4_set_57 (by assumption) (vp_in_nI (by omega) (by omega)) ?_
        rw [nI_clamp (n := (6 + e)) (by omega)]
        refine v_istore_n dX4_set_58 rfl (by decide) ?_
        refine v_aload_n dX4_set_59 rfl rfl ?_
        refine v_getfield fX4_7 dX4_set_60 (by assumption) (by rfl) ?_
        refine v_bipush (nI 6) dX4_set_63 (by decide) ?_
        refine v_iload_n dX4_set_65 rfl rfl ?_
        refine v_iadd dX4_set_66 ?_
        rw [nI_add 6 e]
        refine v_iload_n dX4_set_67 rfl rfl ?_
        refine v_iastoreX dX4_set_68 (by assumption) (vp_in_nI (by omega) (by omega)) (fun f3 hp3 => ?_)
        rw [nI_clamp (n := (6 + e)) (by omega)] at hp3
        obtain ⟨h3, hf3⟩ := MX.st (f0 := f2) h2 hp3 zFr.refl
        clear hp3
        obtain ⟨σ3, e3, hg3⟩ := upd_nm σ (6 + e) v
        rw [← e3] at h3
        clear e3
        have ho3 := h3.1
        have hs3 := h3.2.1
        have hk3 := wK.refl w2
        have t3 := (hk3 0 (by decide) (by decide)).trans t2
        have k3 := (hk3 1 (by decide) (by decide)).trans k2
        have l3 := (hk3 2 (by decide) (by decide)).trans l2
        have O3 := zNO.fr O2 hf3 (by intro τ h; rcases h with h | h | h | h <;> omega)
        have F3 := zFr.trans F2 (zFr.weaken hf3 zTYZ)
        refine v_iload_n dX4_set_69 rfl rfl ?_
        exact v_ireturn dX4_set_70 rfl ⟨rfl, ⟨σ3, mr, by omega, ⟨w2, h3, t3, k3, l3, O3⟩, ⟨fun n hn => ⟨fun i hi => by show σ (i) = σ3 (i); rw [hg3, if_neg (by omega)], fun i hi => ⟨by show σ (9 + 2 * i) = σ3 (9 + 2 * i); rw [hg3, if_neg (by omega)], by show σ (9 + 2 * i + 1) = σ3 (9 + 2 * i + 1); rw [hg3, if_neg (by omega)], by show (if i = e then v else σ (6 + i)) = σ3 (6 + i); rw [hg3]; by_cases z : i = e; (rw [if_pos z, if_pos (by omega)]); (rw [if_neg z, if_neg (by omega)])⟩, fun c hc => ⟨by show σ (16 + 3 * c) = σ3 (16 + 3 * c); rw [hg3, if_neg (by omega)], by show σ (16 + 3 * c + 1) = σ3 (16 + 3 * c + 1); rw [hg3, if_neg (by omega)], by show σ (16 + 3 * c + 2) = σ3 (16 + 3 * c + 2); rw [hg3, if_neg (by omega)]⟩, fun q hq => ⟨by show σ (616 + q) = σ3 (616 + q); rw [hg3, if_neg (by omega)], by show σ (760 + q) = σ3 (760 + q); rw [hg3, if_neg (by omega)]⟩⟩, by rw [hg3, if_neg (by omega)]⟩, F3⟩, rfl⟩
      · rw [show (0 : Int32) = nI 0 from rfl] at b36
        rw [nI_eq (by omega) (by omega)] at b36
        omega
  · rw [show (0 : Int32) = nI 0 from rfl] at b11
    rw [nI_eq (by omega) (by omega)] at b11
    omega
set_option maxRecDepth 10000 in
set_option maxHeartbeats 1000000 in
theorem y_set_1 {G : zW} {f : zHM} {m : Nat × Nat} {o mr : Nat} {B : Nat → Nat} {w : Nat → Int32} {hh : Int64} {σ : Nat → Int32} (h : MX f o B w hh σ mr) {th : Int32} {k L : Nat} {sv : Nat → Nat → Int32} {hsl : Nat → Int32} {sl : Nat → Nat → Int32} {ch : Nat → Nat} (t : w 0 = th) (k0 : w 1 = nI k) (l0 : w 2 = nI L) (O : zNO f B k sv hsl sl L ch) {v : Int32} (hx : v < 0 ∨ ¬ v < 3) {x : Int32} : zM G yX4_set cX4_set 4 (some .int) 9 [.ref o, .int v, .int x] (f, m) (zD (some (.int 0)) (fun f' m' => zNP f o B hh mr 0 (nI 1) k sv hsl sl L ch (fun σ' => σ' = σ) f' ∧ m' = m)) := by
  refine zM.of (by decide) (Nat.le_of_ble_eq_true rfl) ?_
  have ho := h.1
  have hs := h.2.1
  refine v_aload_n dX4_set_0 rfl rfl ?_
  refine v_iconst (nI 0) dX4_set_1 (by decide) ?_
  refine v_putfieldX fX4_35 dX4_set_2 (by assumption) rfl rfl (Nat.le_of_ble_eq_true rfl) (fun f1 hp1 => ?_)
  obtain ⟨h1, hf1⟩ := MX.put (w' := zUp w 0 (nI 0)) (f0 := f) h hp1 rfl zFr.refl
  obtain ⟨w1, ew1⟩ : ∃ w9, w9 = zUp w 0 (nI 0) := ⟨_, rfl⟩
  rw [← ew1] at h1
  clear hp1
  have ho1 := h1.1
  have hs1 := h1.2.1
  have t1 : w1 0 = nI 0 := by rw [ew1]; rfl
  have k1 := (show w1 1 = w 1 from by rw [ew1]; rfl).trans k0
  have l1 := (show w1 2 = w 2 from by rw [ew1]; rfl).trans l0
  have O1 := zNO.fr O hf1 (by intro τ h; rcases h with h | h | h | h <;> omega)
  have F1 := zFr.trans zFr.refl (zFr.weaken hf1 zTYZ)
  refine v_iload_n dX4_set_5 rfl rfl ?_
  refine v_iconst (nI 0) dX4_set_6 (by decide) ?_
  refine v_iconst (nI 2) dX4_set_7 (by decide) ?_
  refine v_callSp kX4_42 gs_X4_in dX4_set_8 c_in rfl rfl (by decide) (Nat.le_of_ble_eq_true rfl) ?_
  rw [in_n (b := nI 2) (in_p (N := 3) (by omega) (by omega) hx)]
  refine v_if_ne 20 dX4_set_11 (by decide) (fun b11 => ?_) (fun b11 => ?_)
  · rw [show (0 : Int32) = nI 0 from rfl] at b11
    rw [nI_eq (by omega) (by omega)] at b11
    omega
  · rw [show (0 : Int32) = nI 0 from rfl] at b11
    rw [nI_eq (by omega) (by omega)] at b11
    refine v_aload_n dX4_set_14 rfl rfl ?_
    refine v_iconst (nI 1) dX4_set_15 (by decide) ?_
    refine v_callV1 kX4_118 gi_X4_fails ge_X4_fails rfl dX4_set_16 (by assumption) (c_fails h1) rfl rfl (by decide) (Nat.le_of_ble_eq_true rfl) (fun f2 m hc2 => ?_)
    obtain ⟨⟨w2, h2, t2, hq2, hf2⟩, rfl⟩ := hc2
    have k2 := (hq2 1 (by decide)).trans k1
    have l2 := (hq2 2 (by decide)).trans l1
    have ho2 := h2.1
    have hs2 := h2.2.1
    have O2 := zNO.fr O1 hf2 (by intro τ h; rcases h with h | h | h | h <;> omega)
    have F2 := zFr.trans F1 (zFr.weaken hf2 zTYZ)
    exact v_ireturn dX4_set_19 rfl ⟨rfl, ⟨σ, mr, by omega, ⟨w2, h2, t2, k2, l2, O2⟩, rfl, F2⟩, rfl⟩
set_option maxRecDepth 10000 in
set_option maxHeartbeats 1000000 in
theorem y_set_2 {G : zW} {f : zHM} {m : Nat × Nat} {o mr : Nat} {B : Nat → Nat} {w : Nat → Int32} {hh : Int64} {σ : Nat → Int32} (h : MX f o B w hh σ mr) {th : Int32} {k L : Nat} {sv : Nat → Nat → Int32} {hsl : Nat → Int32} {sl : Nat → Nat → Int32} {ch : Nat → Nat} (t : w 0 = th) (k0 : w 1 = nI k) (l0 : w 2 = nI L) (O : zNO f B k sv hsl sl L ch) {e : Nat} (he : e < 3) {v : Int32} (hx : v < 1 ∨ ¬ v ≤ zMS.getD e 0) : zM G yX4_set cX4_set 4 (some .int) 9 [.ref o, .int (nI e), .int v] (f, m) (zD (some (.int 0)) (fun f' m' => zNP f o B hh mr 0 (nI 2) k sv hsl sl L ch (fun σ' => σ' = σ) f' ∧ m' = m)) := by
  refine zM.of (by decide) (Nat.le_of_ble_eq_true rfl) ?_
  have ho := h.1
  have hs := h.2.1
  refine v_aload_n dX4_set_0 rfl rfl ?_
  refine v_iconst (nI 0) dX4_set_1 (by decide) ?_
  refine v_putfieldX fX4_35 dX4_set_2 (by assumption) rfl rfl (Nat.le_of_ble_eq_true rfl) (fun f1 hp1 => ?_)
  obtain ⟨h1, hf1⟩ := MX.put (w' := zUp w 0 (nI 0)) (f0 := f) h hp1 rfl zFr.refl
  obtain ⟨w1, ew1⟩ : ∃ w9, w9 = zUp w 0 (nI 0) := ⟨_, rfl⟩
  rw [← ew1] at h1
  clear hp1
  have ho1 := h1.1
  have hs1 := h1.2.1
  have t1 : w1 0 = nI 0 := by rw [ew1]; rfl
  have k1 := (show w1 1 = w 1 from by rw [ew1]; rfl).trans k0
  have l1 := (show w1 2 = w 2 from by rw [ew1]; rfl).trans l0
  have O1 := zNO.fr O hf1 (by intro τ h; rcases h with h | h | h | h <;> omega)
  have F1 := zFr.trans zFr.refl (zFr.weaken hf1 zTYZ)
  refine v_iload_n dX4_set_5 rfl rfl ?_
  refine v_iconst (nI 0) dX4_set_6 (by decide) ?_
  refine v_iconst (nI 2) dX4_set_7 (by decide) ?_
  refine v_callSp kX4_42 gs_X4_in dX4_set_8 c_in rfl rfl (by decide) (Nat.le_of_ble_eq_true rfl) ?_
  rw [inN_y (Nat.zero_le e) (show e ≤ 2 by omega) (by omega)]
  refine v_if_ne 20 dX4_set_11 (by decide) (fun b11 => ?_) (fun b11 => ?_)
  · rw [show (0 : Int32) = nI 0 from rfl] at b11
    rw [nI_eq (by omega) (by omega)] at b11
    refine v_iload_n dX4_set_20 rfl rfl ?_
    refine v_iconst (nI 1) dX4_set_21 (by decide) ?_
    refine v_iload_n dX4_set_22 rfl rfl ?_
    refine v_if_ne 31 dX4_set_23 (by decide) (fun b23 => ?_) (fun b23 => ?_)
    · rw [show (0 : Int32) = nI 0 from rfl] at b23
      rw [nI_eq (by omega) (by omega)] at b23
      refine v_bipush (nI 9) dX4_set_31 (by decide) ?_
      refine v_callSp kX4_42 gs_X4_in dX4_set_33 c_in rfl rfl (by decide) (Nat.le_of_ble_eq_true rfl) ?_
      rw [in_n (zMS_9n he b23 hx)]
      refine v_if_ne 45 dX4_set_36 (by decide) (fun b36 => ?_) (fun b36 => ?_)
      · rw [show (0 : Int32) = nI 0 from rfl] at b36
        rw [nI_eq (by omega) (by omega)] at b36
        omega
      · rw [show (0 : Int32) = nI 0 from rfl] at b36
        rw [nI_eq (by omega) (by omega)] at b36
        refine v_aload_n dX4_set_39 rfl rfl ?_
        refine v_iconst (nI 2) dX4_set_40 (by decide) ?_
        refine v_callV1 kX4_118 gi_X4_fails ge_X4_fails rfl dX4_set_41 (by assumption) (c_fails h1) rfl rfl (by decide) (Nat.le_of_ble_eq_true rfl) (fun f2 m hc2 => ?_)
        obtain ⟨⟨w2, h2, t2, hq2, hf2⟩, rfl⟩ := hc2
        have k2 := (hq2 1 (by decide)).trans k1
        have l2 := (hq2 2 (by decide)).trans l1
        have ho2 := h2.1
        have hs2 := h2.2.1
        have O2 := zNO.fr O1 hf2 (by intro τ h; rcases h with h | h | h | h <;> omega)
        have F2 := zFr.trans F1 (zFr.weaken hf2 zTYZ)
        exact v_ireturn dX4_set_44 rfl ⟨rfl, ⟨σ, mr, by omega, ⟨w2, h2, t2, k2, l2, O2⟩, rfl, F2⟩, rfl⟩
    · rw [show (0 : Int32) = nI 0 from rfl] at b23
      rw [nI_eq (by omega) (by omega)] at b23
      refine v_bipush (nI 6) dX4_set_26 (by decide) ?_
      refine v_goto 33 dX4_set_28 (by decide) ?_
      refine v_callSp kX4_42 gs_X4_in dX4_set_33 c_in rfl rfl (by decide) (Nat.le_of_ble_eq_true rfl) ?_
      rw [in_n (zMS_6n b23 hx)]
      refine v_if_ne 45 dX4_set_36 (by decide) (fun b36 => ?_) (fun b36 => ?_)
      · rw [show (0 : Int32) = nI 0 from rfl] at b36
        rw [nI_eq (by omega) (by omega)] at b36
        omega
      · rw [show (0 : Int32) = nI 0 from rfl] at b36
        rw [nI_eq (by omega) (by omega)] at b36
        refine v_aload_n dX4_set_39 rfl rfl ?_
        refine v_iconst (nI 2) dX4_set_40 (by decide) ?_
        refine v_callV1 kX4_118 gi_X4_fails ge_X4_fails rfl dX4_set_41 (by assumption) (c_fails h1) rfl rfl (by decide) (Nat.le_of_ble_eq_true rfl) (fun f2 m hc2 => ?_)
        obtain ⟨⟨w2, h2, t2, hq2, hf2⟩, rfl⟩ := hc2
        have k2 := (hq2 1 (by decide)).trans k1
        have l2 := (hq2 2 (by decide)).trans l1
        have ho2 := h2.1
        have hs2 := h2.2.1
        have O2 := zNO.fr O1 hf2 (by intro τ h; rcases h with h | h | h | h <;> omega)
        have F2 := zFr.trans F1 (zFr.weaken hf2 zTYZ)
        exact v_ireturn dX4_set_44 rfl ⟨rfl, ⟨σ, mr, by omega, ⟨w2, h2, t2, k2, l2, O2⟩, rfl, F2⟩, rfl⟩
  · rw [show (0 : Int32) = nI 0 from rfl] at b11
    rw [nI_eq (by omega) (by omega)] at b11
    omega
set_option maxRecDepth 10000 in
set_option maxHeartbeats 1000000 in
theorem c_m9want {G : zW} {f : zHM} {m : Nat × Nat} {o mr : Nat} {B : Nat → Nat} {w : Nat → Int32} {hh : Int64} {σ : Nat → Int32} (h : MX f o B w hh σ mr) {th : Int32} {k L : Nat} {sv : Nat → Nat → Int32} {hsl : Nat → Int32} {sl : Nat → Nat → Int32} {ch : Nat → Nat} (t : w 0 = th) (k0 : w 1 = nI k) (l0 : w 2 = nI L) (O : zNO f B k sv hsl sl L ch) {x y : Nat} (hx : x < 12) (hy : y < 12) {v : Int32} (h0 : ¬ v < 0) (h9 : v ≤ 9) : zM G yX4_want cX4_want 5 (some .int) 9 [.ref o, .int (nI x), .int (nI y), .int v] (f, m) (zD (some (.int (rOf σ 7 (y * 12 + x)))) (fun f' m' => zNP f o B hh mr 0 0 (sPK k) (sPM k sv σ) hsl sl L ch (fun σ' => (∀ n, n ≤ 200 → zEQ n (sWantS (rOf σ) (y * 12 + x) v) (rOf σ')) ∧ σ' 15 = σ 15) f' ∧ m' = m)) := by
  refine zM.of (by decide) (Nat.le_of_ble_eq_true rfl) ?_
  have ho := h.1
  have hs := h.2.1
  refine v_aload_n dX4_want_0 rfl rfl ?_
  refine v_iconst (nI 0) dX4_want_1 (by decide) ?_
  refine v_putfieldX fX4_35 dX4_want_2 (by assumption) rfl rfl (Nat.le_of_ble_eq_true rfl) (fun f1 hp1 => ?_)
  obtain ⟨h1, hf1⟩ := MX.put (w' := zUp w 0 (nI 0)) (f0 := f) h hp1 rfl zFr.refl
  obtain ⟨w1, ew1⟩ : ∃ w9, w9 = zUp w 0 (nI 0) := ⟨_, rfl⟩
  rw [← ew1] at h1
  clear hp1
  have ho1 := h1.1
  have hs1 := h1.2.1
  have t1 : w1 0 = nI 0 := by rw [ew1]; rfl
  have k1 := (show w1 1 = w 1 from by rw [ew1]; rfl).trans k0
  have l1 := (show w1 2 = w 2 from by rw [ew1]; rfl).trans l0
  have O1 := zNO.fr O hf1 (by intro τ h; rcases h with h | h | h | h <;> omega)
  have F1 := zFr.trans zFr.refl (zFr.weaken hf1 zTYZ)
  refine v_iload_n dX4_want_5 rfl rfl ?_
  refine v_iload_n dX4_want_6 rfl rfl ?_
  refine v_callSp kX4_147 gs_X4_isSquare dX4_want_7 c_isSquare rfl rfl (by decide) (Nat.le_of_ble_eq_true rfl) ?_
  rw [if_pos ⟨⟨nI_le (Nat.zero_le x) (by omega), nI_le (show x ≤ 11 by omega) (by omega)⟩, nI_le (Nat.zero_le y) (by omega), nI_le (show y ≤ 11 by omega) (by omega)⟩]
  rw [show (1 : Int32) = nI 1 from rfl]
  refine v_if_ne 19 dX4_want_10 (by decide) (fun b10 => ?_) (fun b10 => ?_)
  · rw [show (0 : Int32) = nI 0 from rfl] at b10
    rw [nI_eq (by omega) (by omega)] at b10
    refine v_iload_n dX4_want_19 rfl rfl ?_
    refine v_iconst (nI 0) dX4_want_20 (by decide) ?_
    refine v_bipush (nI 9) dX4_want_21 (by decide) ?_
    refine v_callSp kX4_42 gs_X4_in dX4_want_23 c_in rfl rfl (by decide) (Nat.le_of_ble_eq_true rfl) ?_
    rw [in_y (a := nI 0) (b := nI 9) h0 h9]
    refine v_if_ne 35 dX4_want_26 (by decide) (fun b26 => ?_) (fun b26 => ?_)
    · rw [show (0 : Int32) = nI 0 from rfl] at b26
      rw [nI_eq (by omega) (by omega)] at b26
      refine v_aload_n dX4_want_35 rfl rfl ?_
      refine v_callV0 kX4_121 gi_X4_saves ge_X4_saves rfl dX4_want_36 (by assumption) (c_saves h1 k1 O1) rfl rfl (by decide) (Nat.le_of_ble_eq_true rfl) (fun f2 m hc2 => ?_)
      obtain ⟨⟨w2, h2, hk0, k2, O2, hf2⟩, rfl⟩ := hc2
      have t2 := (hk0 0 (by decide)).trans t1
      have l2 := (hk0 2 (by decide)).trans l1
      have F2 := zFr.trans F1 hf2
      have ho2 := h2.1
      have hs2 := h2.2.1
      refine v_aload_n dX4_want_39 rfl rfl ?_
      refine v_getfield fX4_7 dX4_want_40 (by assumption) (by rfl) ?_
      refine v_sipush (nI 616) dX4_want_43 (by decide) ?_
      refine v_bipush (nI 12) dX4_want_46 (by decide) ?_
      refine v_iload_n dX4_want_48 rfl rfl ?_
      refine v_imul dX4_want_49 ?_
      rw [pk_mul 12 y]
      refine v_iadd dX4_want_50 ?_
      rw [nI_add 616 (12 * y)]
      refine v_iload_n dX4_want_51 rfl rfl ?_
      refine v_iadd dX4_want_52 ?_
      rw [nI_add (616 + (12 * y)) x]
      rw [show 616 + 12 * y + x = 616 + (y * 12 + x) from by omega]
      refine v_iaload dX4_want_53 (by assumption) (vp_in_nI (by omega) (by omega)) ?_
      rw [nI_clamp (n := (616 + (y * 12 + x))) (by omega)]
      refine v_istore dX4_want_54 (by decide) ?_
      refine v_aload_n dX4_want_56 rfl rfl ?_
      refine v_getfield fX4_7 dX4_want_57 (by assumption) (by rfl) ?_
      refine v_sipush (nI 616) dX4_want_60 (by decide) ?_
      refine v_bipush (nI 12) dX4_want_63 (by decide) ?_
      refine v_iload_n dX4_want_65 rfl rfl ?_
      refine v_imul dX4_want_66 ?_
      rw [pk_mul 12 y]
      refine v_iadd dX4_want_67 ?_
      rw [nI_add 616 (12 * y)]
      refine v_iload_n dX4_want_68 rfl rfl ?_
      refine v_iadd dX4_want_69 ?_
      rw [nI_add (616 + (12 * y)) x]
      rw [show 616 + 12 * y + x = 616 + (y * 12 + x) from by omega]
      refine v_iload_n dX4_want_70 rfl rfl ?_
      refine v_iastoreX dX4_want_71 (by assumption) (vp_in_nI (by omega) (by omega)) (fun f3 hp3 => ?_)
      rw [nI_clamp (n := (616 + (y * 12 + x))) (by omega)] at hp3
      obtain ⟨h3, hf3⟩ := MX.st (f0 := f2) h2 hp3 zFr.refl
      clear hp3
      obtain ⟨σ3, e3, hg3⟩ := upd_nm σ (616 + (y * 12 + x)) v
      rw [← e3] at h3
      clear e3
      have ho3 := h3.1
      have hs3 := h3.2.1
      have hk3 := wK.refl w2
      have t3 := (hk3 0 (by decide) (by decide)).trans t2
      have k3 := (hk3 1 (by decide) (by decide)).trans k2
      have l3 := (hk3 2 (by decide) (by decide)).trans l2
      have O3 := zNO.fr O2 hf3 (by intro τ h; rcases h with h | h | h | h <;> omega)
      have F3 := zFr.trans F2 (zFr.weaken hf3 zTYZ)
      refine v_iload dX4_want_72 rfl ?_
      exact v_ireturn dX4_want_74 rfl ⟨rfl, ⟨σ3, mr, by omega, ⟨w2, h3, t3, k3, l3, O3⟩, ⟨fun n hn => ⟨fun i hi => by show σ (i) = σ3 (i); rw [hg3, if_neg (by omega)], fun i hi => ⟨by show σ (9 + 2 * i) = σ3 (9 + 2 * i); rw [hg3, if_neg (by omega)], by show σ (9 + 2 * i + 1) = σ3 (9 + 2 * i + 1); rw [hg3, if_neg (by omega)], by show σ (6 + i) = σ3 (6 + i); rw [hg3, if_neg (by omega)]⟩, fun c hc => ⟨by show σ (16 + 3 * c) = σ3 (16 + 3 * c); rw [hg3, if_neg (by omega)], by show σ (16 + 3 * c + 1) = σ3 (16 + 3 * c + 1); rw [hg3, if_neg (by omega)], by show σ (16 + 3 * c + 2) = σ3 (16 + 3 * c + 2); rw [hg3, if_neg (by omega)]⟩, fun q hq => ⟨by show (if q = y * 12 + x then v else σ (616 + q)) = σ3 (616 + q); rw [hg3]; by_cases z : q = y * 12 + x; (rw [if_pos z, if_pos (by omega)]); (rw [if_neg z, if_neg (by omega)]), by show σ (760 + q) = σ3 (760 + q); rw [hg3, if_neg (by omega)]⟩⟩, by rw [hg3, if_neg (by omega)]⟩, F3⟩, rfl⟩
    · rw [show (0 : Int32) = nI 0 from rfl] at b26
      rw [nI_eq (by omega) (by omega)] at b26
      omega
  · rw [show (0 : Int32) = nI 0 from rfl] at b10
    rw [nI_eq (by omega) (by omega)] at b10
    omega
set_option maxRecDepth 10000 in
set_option maxHeartbeats 1000000 in
theorem y_want_1 {G : zW} {f : zHM} {m : Nat × Nat} {o mr : Nat} {B : Nat → Nat} {w : Nat → Int32} {hh : Int64} {σ : Nat → Int32} (h : MX f o B w hh σ mr) {th : Int32} {k L : Nat} {sv : Nat → Nat → Int32} {hsl : Nat → Int32} {sl : Nat → Nat → Int32} {ch : Nat → Nat} (t : w 0 = th) (k0 : w 1 = nI k) (l0 : w 2 = nI L) (O : zNO f B k sv hsl sl L ch) {x z y : Int32} (hx : x < 0 ∨ 12 ≤ x ∨ z < 0 ∨ ¬ z < 12) : zM G yX4_want cX4_want 5 (some .int) 9 [.ref o, .int x, .int z, .int y] (f, m) (zD (some (.int 0)) (fun f' m' => zNP f o B hh mr 0 (nI 1) k sv hsl sl L ch (fun σ' => σ' = σ) f' ∧ m' = m)) := by
  refine zM.of (by decide) (Nat.le_of_ble_eq_true rfl) ?_
  have ho := h.1
  have hs := h.2.1
  refine v_aload_n dX4_want_0 rfl rfl ?_
  refine v_iconst (nI 0) dX4_want_1 (by decide) ?_
  refine v_putfieldX fX4_35 dX4_want_2 (by assumption) rfl rfl (Nat.le_of_ble_eq_true rfl) (fun f1 hp1 => ?_)
  obtain ⟨h1, hf1⟩ := MX.put (w' := zUp w 0 (nI 0)) (f0 := f) h hp1 rfl zFr.refl
  obtain ⟨w1, ew1⟩ : ∃ w9, w9 = zUp w 0 (nI 0) := ⟨_, rfl⟩
  rw [← ew1] at h1
  clear hp1
  have ho1 := h1.1
  have hs1 := h1.2.1
  have t1 : w1 0 = nI 0 := by rw [ew1]; rfl
  have k1 := (show w1 1 = w 1 from by rw [ew1]; rfl).trans k0
  have l1 := (show w1 2 = w 2 from by rw [ew1]; rfl).trans l0
  have O1 := zNO.fr O hf1 (by intro τ h; rcases h with h | h | h | h <;> omega)
  have F1 := zFr.trans zFr.refl (zFr.weaken hf1 zTYZ)
  refine v_iload_n dX4_want_5 rfl rfl ?_
  refine v_iload_n dX4_want_6 rfl rfl ?_
  refine v_callSp kX4_147 gs_X4_isSquare dX4_want_7 c_isSquare rfl rfl (by decide) (Nat.le_of_ble_eq_true rfl) ?_
  rw [if_neg (sq_n hx)]
  rw [show (0 : Int32) = nI 0 from rfl]
  refine v_if_ne 19 dX4_want_10 (by decide) (fun b10 => ?_) (fun b10 => ?_)
  · rw [show (0 : Int32) = nI 0 from rfl] at b10
    rw [nI_eq (by omega) (by omega)] at b10
    omega
  · rw [show (0 : Int32) = nI 0 from rfl] at b10
    rw [nI_eq (by omega) (by omega)] at b10
    refine v_aload_n dX4_want_13 rfl rfl ?_
    refine v_iconst (nI 1) dX4_want_14 (by decide) ?_
    refine v_callV1 kX4_118 gi_X4_fails ge_X4_fails rfl dX4_want_15 (by assumption) (c_fails h1) rfl rfl (by decide) (Nat.le_of_ble_eq_true rfl) (fun f2 m hc2 => ?_)
    obtain ⟨⟨w2, h2, t2, hq2, hf2⟩, rfl⟩ := hc2
    have k2 := (hq2 1 (by decide)).trans k1
    have l2 := (hq2 2 (by decide)).trans l1
    have ho2 := h2.1
    have hs2 := h2.2.1
    have O2 := zNO.fr O1 hf2 (by intro τ h; rcases h with h | h | h | h <;> omega)
    have F2 := zFr.trans F1 (zFr.weaken hf2 zTYZ)
    exact v_ireturn dX4_want_18 rfl ⟨rfl, ⟨σ, mr, by omega, ⟨w2, h2, t2, k2, l2, O2⟩, rfl, F2⟩, rfl⟩
set_option maxRecDepth 10000 in
set_option maxHeartbeats 1000000 in
theorem y_want_2 {G : zW} {f : zHM} {m : Nat × Nat} {o mr : Nat} {B : Nat → Nat} {w : Nat → Int32} {hh : Int64} {σ : Nat → Int32} (h : MX f o B w hh σ mr) {th : Int32} {k L : Nat} {sv : Nat → Nat → Int32} {hsl : Nat → Int32} {sl : Nat → Nat → Int32} {ch : Nat → Nat} (t : w 0 = th) (k0 : w 1 = nI k) (l0 : w 2 = nI L) (O : zNO f B k sv hsl sl L ch) {x y : Nat} (hx : x < 12) (hy : y < 12) {v : Int32} (hv : v < 0 ∨ ¬ v ≤ 9) : zM G yX4_want cX4_want 5 (some .int) 9 [.ref o, .int (nI x), .int (nI y), .int v] (f, m) (zD (some (.int 0)) (fun f' m' => zNP f o B hh mr 0 (nI 2) k sv hsl sl L ch (fun σ' => σ' = σ) f' ∧ m' = m)) := by
  refine zM.of (by decide) (Nat.le_of_ble_eq_true rfl) ?_
  have ho := h.1
  have hs := h.2.1
  refine v_aload_n dX4_want_0 rfl rfl ?_
  refine v_iconst (nI 0) dX4_want_1 (by decide) ?_
  refine v_putfieldX fX4_35 dX4_want_2 (by assumption) rfl rfl (Nat.le_of_ble_eq_true rfl) (fun f1 hp1 => ?_)
  obtain ⟨h1, hf1⟩ := MX.put (w' := zUp w 0 (nI 0)) (f0 := f) h hp1 rfl zFr.refl
  obtain ⟨w1, ew1⟩ : ∃ w9, w9 = zUp w 0 (nI 0) := ⟨_, rfl⟩
  rw [← ew1] at h1
  clear hp1
  have ho1 := h1.1
  have hs1 := h1.2.1
  have t1 : w1 0 = nI 0 := by rw [ew1]; rfl
  have k1 := (show w1 1 = w 1 from by rw [ew1]; rfl).trans k0
  have l1 := (show w1 2 = w 2 from by rw [ew1]; rfl).trans l0
  have O1 := zNO.fr O hf1 (by intro τ h; rcases h with h | h | h | h <;> omega)
  have F1 := zFr.trans zFr.refl (zFr.weaken hf1 zTYZ)
  refine v_iload_n dX4_want_5 rfl rfl ?_
  refine v_iload_n dX4_want_6 rfl rfl ?_
  refine v_callSp kX4_147 gs_X4_isSquare dX4_want_7 c_isSquare rfl rfl (by decide) (Nat.le_of_ble_eq_true rfl) ?_
  rw [if_pos ⟨⟨nI_le (Nat.zero_le x) (by omega), nI_le (show x ≤ 11 by omega) (by omega)⟩, nI_le (Nat.zero_le y) (by omega), nI_le (show y ≤ 11 by omega) (by omega)⟩]
  rw [show (1 : Int32) = nI 1 from rfl]
  refine v_if_ne 19 dX4_want_10 (by decide) (fun b10 => ?_) (fun b10 => ?_)
  · rw [show (0 : Int32) = nI 0 from rfl] at b10
    rw [nI_eq (by omega) (by omega)] at b10
    refine v_iload_n dX4_want_19 rfl rfl ?_
    refine v_iconst (nI 0) dX4_want_20 (by decide) ?_
    refine v_bipush (nI 9) dX4_want_21 (by decide) ?_
    refine v_callSp kX4_42 gs_X4_in dX4_want_23 c_in rfl rfl (by decide) (Nat.le_of_ble_eq_true rfl) ?_
    rw [in_n (a := nI 0) (b := nI 9) hv]
    refine v_if_ne 35 dX4_want_26 (by decide) (fun b26 => ?_) (fun b26 => ?_)
    · rw [show (0 : Int32) = nI 0 from rfl] at b26
      rw [nI_eq (by omega) (by omega)] at b26
      omega
    · rw [show (0 : Int32) = nI 0 from rfl] at b26
      rw [nI_eq (by omega) (by omega)] at b26
      refine v_aload_n dX4_want_29 rfl rfl ?_
      refine v_iconst (nI 2) dX4_want_30 (by decide) ?_
      refine v_callV1 kX4_118 gi_X4_fails ge_X4_fails rfl dX4_want_31 (by assumption) (c_fails h1) rfl rfl (by decide) (Nat.le_of_ble_eq_true rfl) (fun f2 m hc2 => ?_)
      obtain ⟨⟨w2, h2, t2, hq2, hf2⟩, rfl⟩ := hc2
      have k2 := (hq2 1 (by decide)).trans k1
      have l2 := (hq2 2 (by decide)).trans l1
      have ho2 := h2.1
      have hs2 := h2.2.1
      have O2 := zNO.fr O1 hf2 (by intro τ h; rcases h with h | h | h | h <;> omega)
      have F2 := zFr.trans F1 (zFr.weaken hf2 zTYZ)
      exact v_ireturn dX4_want_34 rfl ⟨rfl, ⟨σ, mr, by omega, ⟨w2, h2, t2, k2, l2, O2⟩, rfl, F2⟩, rfl⟩
  · rw [show (0 : Int32) = nI 0 from rfl] at b10
    rw [nI_eq (by omega) (by omega)] at b10
    omega
set_option maxRecDepth 10000 in
set_option maxHeartbeats 1000000 in
theorem c_m9spool {G : zW} {f : zHM} {m : Nat × Nat} {o mr : Nat} {B : Nat → Nat} {w : Nat → Int32} {hh : Int64} {σ : Nat → Int32} (h : MX f o B w hh σ mr) {th : Int32} {k L : Nat} {sv : Nat → Nat → Int32} {hsl : Nat → Int32} {sl : Nat → Nat → Int32} {ch : Nat → Nat} (t : w 0 = th) (k0 : w 1 = nI k) (l0 : w 2 = nI L) (O : zNO f B k sv hsl sl L ch) {n : Nat} (hn : σ 15 = nI n) (hn2 : n ≤ 200) {u : Nat} (hu : u < 3) {sh lf : Int32} (v1 : ¬ sh < 1) (v2 : sh ≤ 9) (v3 : ¬ lf < 0) (v4 : lf ≤ 9999) (hne : ¬ nI u = σ 2) (hch : sCh (rOf σ) n (nI u) ≤ 0) : zM G yX4_spool cX4_spool 5 (some .int) 9 [.ref o, .int (nI u), .int sh, .int lf] (f, m) (zD (some (.int (rOf σ 2 u))) (fun f' m' => zNP f o B hh mr 0 0 (sPK k) (sPM k sv σ) hsl sl L ch (fun σ' => (∀ n, n ≤ 200 → zEQ n (sSpoolS (rOf σ) u sh lf) (rOf σ')) ∧ σ' 15 = σ 15) f' ∧ m' = m)) := by
  refine zM.of (by decide) (Nat.le_of_ble_eq_true rfl) ?_
  have ho := h.1
  have hs := h.2.1
  refine v_aload_n dX4_spool_0 rfl rfl ?_
  refine v_iconst (nI 0) dX4_spool_1 (by decide) ?_
  refine v_putfieldX fX4_35 dX4_spool_2 (by assumption) rfl rfl (Nat.le_of_ble_eq_true rfl) (fun f1 hp1 => ?_)
  obtain ⟨h1, hf1⟩ := MX.put (w' := zUp w 0 (nI 0)) (f0 := f) h hp1 rfl zFr.refl
  obtain ⟨w1, ew1⟩ : ∃ w9, w9 = zUp w 0 (nI 0) := ⟨_, rfl⟩
  rw [← ew1] at h1
  clear hp1
  have ho1 := h1.1
  have hs1 := h1.2.1
  have t1 : w1 0 = nI 0 := by rw [ew1]; rfl
  have k1 := (show w1 1 = w 1 from by rw [ew1]; rfl).trans k0
  have l1 := (show w1 2 = w 2 from by rw [ew1]; rfl).trans l0
  have O1 := zNO.fr O hf1 (by intro τ h; rcases h with h | h | h | h <;> omega)
  have F1 := zFr.trans zFr.refl (zFr.weaken hf1 zTYZ)
  refine v_iload_n dX4_spool_5 rfl rfl ?_
  refine v_callSp kX4_127 gs_X4_isSpool dX4_spool_6 c_isSpool rfl rfl (by decide) (Nat.le_of_ble_eq_true rfl) ?_
  rw [inN_y (Nat.zero_le u) (show u ≤ 2 by omega) (by omega)]
  refine v_if_ne 18 dX4_spool_9 (by decide) (fun b9 => ?_) (fun b9 => ?_)
  · rw [show (0 : Int32) = nI 0 from rfl] at b9
    rw [nI_eq (by omega) (by omega)] at b9
    refine v_iload_n dX4_spool_18 rfl rfl ?_
    refine v_iconst (nI 1) dX4_spool_19 (by decide) ?_
    refine v_bipush (nI 9) dX4_spool_20 (by decide) ?_
    refine v_callSp kX4_42 gs_X4_in dX4_spool_22 c_in rfl rfl (by decide) (Nat.le_of_ble_eq_true rfl) ?_
    rw [in_y (a := nI 1) (b := nI 9) v1 v2]
    refine v_if_eq 39 dX4_spool_25 (by decide) (fun b25 => ?_) (fun b25 => ?_)
    · rw [show (0 : Int32) = nI 0 from rfl] at b25
      rw [nI_eq (by omega) (by omega)] at b25
      omega
    · rw [show (0 : Int32) = nI 0 from rfl] at b25
      rw [nI_eq (by omega) (by omega)] at b25
      refine v_iload_n dX4_spool_28 rfl rfl ?_
      refine v_iconst (nI 0) dX4_spool_29 (by decide) ?_
      refine v_sipush (nI 9999) dX4_spool_30 (by decide) ?_
      refine v_callSp kX4_42 gs_X4_in dX4_spool_33 c_in rfl rfl (by decide) (Nat.le_of_ble_eq_true rfl) ?_
      rw [in_y (a := nI 0) (b := nI 9999) v3 v4]
      refine v_if_ne 45 dX4_spool_36 (by decide) (fun b36 => ?_) (fun b36 => ?_)
      · rw [show (0 : Int32) = nI 0 from rfl] at b36
        rw [nI_eq (by omega) (by omega)] at b36
        refine v_iload_n dX4_spool_45 rfl rfl ?_
        refine v_aload_n dX4_spool_46 rfl rfl ?_
        refine v_getfield fX4_7 dX4_spool_47 (by assumption) (by rfl) ?_
        refine v_iconst (nI 2) dX4_spool_50 (by decide) ?_
        refine v_iaload dX4_spool_51 (by assumption) (vp_in_nI (by omega) (by omega)) ?_
        rw [nI_clamp (n := 2) (by omega)]
        refine v_icmp_eq 63 dX4_spool_52 (by decide) (fun b52 => ?_) (fun b52 => ?_)
        · exact absurd b52 hne
        · refine v_aload_n dX4_spool_55 rfl rfl ?_
          refine v_iload_n dX4_spool_56 rfl rfl ?_
          refine v_callVp kX4_131 gi_X4_chordsOf ge_X4_chordsOf rfl dX4_spool_57 (by assumption) (c_mchordsOf h1 hn hn2) rfl rfl (by decide) (Nat.le_of_ble_eq_true rfl) ?_
          refine v_if_le 69 dX4_spool_60 (by decide) (fun b60 => ?_) (fun b60 => ?_)
          · refine v_aload_n dX4_spool_69 rfl rfl ?_
            refine v_callV0 kX4_121 gi_X4_saves ge_X4_saves rfl dX4_spool_70 (by assumption) (c_saves h1 k1 O1) rfl rfl (by decide) (Nat.le_of_ble_eq_true rfl) (fun f2 m hc2 => ?_)
            obtain ⟨⟨w2, h2, hk0, k2, O2, hf2⟩, rfl⟩ := hc2
            have t2 := (hk0 0 (by decide)).trans t1
            have l2 := (hk0 2 (by decide)).trans l1
            have F2 := zFr.trans F1 hf2
            have ho2 := h2.1
            have hs2 := h2.2.1
            refine v_aload_n dX4_spool_73 rfl rfl ?_
            refine v_iload_n dX4_spool_74 rfl rfl ?_
            refine v_callVp kX4_101 gi_X4_left ge_X4_left rfl dX4_spool_75 (by assumption) (c_mleft (σ := σ) (by assumption) (by assumption) hu) rfl rfl (by decide) (Nat.le_of_ble_eq_true rfl) ?_
            refine v_istore dX4_spool_78 (by decide) ?_
            refine v_aload_n dX4_spool_80 rfl rfl ?_
            refine v_getfield fX4_7 dX4_spool_81 (by assumption) (by rfl) ?_
            refine v_bipush (nI 9) dX4_spool_84 (by decide) ?_
            refine v_iconst (nI 2) dX4_spool_86 (by decide) ?_
            refine v_iload_n dX4_spool_87 rfl rfl ?_
            refine v_imul dX4_spool_88 ?_
            rw [pk_mul 2 u]
            refine v_iadd dX4_spool_89 ?_
            rw [nI_add 9 (2 * u)]
            refine v_iload_n dX4_spool_90 rfl rfl ?_
            refine v_iastoreX dX4_spool_91 (by assumption) (vp_in_nI (by omega) (by omega)) (fun f3 hp3 => ?_)
            rw [nI_clamp (n := (9 + (2 * u))) (by omega)] at hp3
            obtain ⟨h3, hf3⟩ := MX.st (f0 := f2) h2 hp3 zFr.refl
            clear hp3
            obtain ⟨σ3, e3, hg3⟩ := upd_nm σ (9 + (2 * u)) sh
            rw [← e3] at h3
            clear e3
            have ho3 := h3.1
            have hs3 := h3.2.1
            have hk3 := wK.refl w2
            have t3 := (hk3 0 (by decide) (by decide)).trans t2
            have k3 := (hk3 1 (by decide) (by decide)).trans k2
            have l3 := (hk3 2 (by decide) (by decide)).trans l2
            have O3 := zNO.fr O2 hf3 (by intro τ h; rcases h with h | h | h | h <;> omega)
            have F3 := zFr.trans F2 (zFr.weaken hf3 zTYZ)
            refine v_aload_n dX4_spool_92 rfl rfl ?_
            refine v_getfield fX4_7 dX4_spool_93 (by assumption) (by rfl) ?_
            refine v_bipush (nI 9) dX4_spool_96 (by decide) ?_
            refine v_iconst (nI 2) dX4_spool_98 (by decide) ?_
            refine v_iload_n dX4_spool_99 rfl rfl ?_
            refine v_imul dX4_spool_100 ?_
            rw [pk_mul 2 u]
            refine v_iadd dX4_spool_101 ?_
            rw [nI_add 9 (2 * u)]
            refine v_iconst (nI 1) dX4_spool_102 (by decide) ?_
            refine v_iadd dX4_spool_103 ?_
            rw [nI_add (9 + (2 * u)) 1]
            refine v_iload_n dX4_spool_104 rfl rfl ?_
            refine v_iastoreX dX4_spool_105 (by assumption) (vp_in_nI (by omega) (by omega)) (fun f4 hp4 => ?_)
            rw [nI_clamp (n := ((9 + (2 * u)) + 1)) (by omega)] at hp4
            obtain ⟨h4, hf4⟩ := MX.st (f0 := f3) h3 hp4 zFr.refl
            clear hp4
            obtain ⟨σ4, e4, hg4⟩ := upd_nm σ3 ((9 + (2 * u)) + 1) lf
            rw [← e4] at h4
            clear e4
            have ho4 := h4.1
            have hs4 := h4.2.1
            have hk4 := wK.refl w2
            have t4 := (hk4 0 (by decide) (by decide)).trans t3
            have k4 := (hk4 1 (by decide) (by decide)).trans k3
            have l4 := (hk4 2 (by decide) (by decide)).trans l3
            have O4 := zNO.fr O3 hf4 (by intro τ h; rcases h with h | h | h | h <;> omega)
            have F4 := zFr.trans F3 (zFr.weaken hf4 zTYZ)
            refine v_iload dX4_spool_106 rfl ?_
            exact v_ireturn dX4_spool_108 rfl ⟨rfl, ⟨σ4, mr, by omega, ⟨w2, h4, t4, k4, l4, O4⟩, ⟨fun n hn => ⟨fun i hi => by show σ (i) = σ4 (i); rw [hg4, if_neg (by omega), hg3, if_neg (by omega)], fun i hi => ⟨by show (if i = u then sh else σ (9 + 2 * i)) = σ4 (9 + 2 * i); rw [hg4, hg3, if_neg (show ¬ 9 + 2 * i = 9 + 2 * u + 1 by omega)]; by_cases z : i = u; (rw [if_pos z, if_pos (by omega)]); (rw [if_neg z, if_neg (by omega)]), by show (if i = u then lf else σ (9 + 2 * i + 1)) = σ4 (9 + 2 * i + 1); rw [hg4]; by_cases z : i = u; (rw [if_pos z, if_pos (by omega)]); (rw [if_neg z, if_neg (by omega), hg3, if_neg (by omega)]), by show σ (6 + i) = σ4 (6 + i); rw [hg4, if_neg (by omega), hg3, if_neg (by omega)]⟩, fun c hc => ⟨by show σ (16 + 3 * c) = σ4 (16 + 3 * c); rw [hg4, if_neg (by omega), hg3, if_neg (by omega)], by show σ (16 + 3 * c + 1) = σ4 (16 + 3 * c + 1); rw [hg4, if_neg (by omega), hg3, if_neg (by omega)], by show σ (16 + 3 * c + 2) = σ4 (16 + 3 * c + 2); rw [hg4, if_neg (by omega), hg3, if_neg (by omega)]⟩, fun q hq => ⟨by show σ (616 + q) = σ4 (616 + q); rw [hg4, if_neg (by omega), hg3, if_neg (by omega)], by show σ (760 + q) = σ4 (760 + q); rw [hg4, if_neg (by omega), hg3, if_neg (by omega)]⟩⟩, by rw [hg4, if_neg (by omega), hg3, if_neg (by omega)]⟩, F4⟩, rfl⟩
          · exact absurd hch b60
      · rw [show (0 : Int32) = nI 0 from rfl] at b36
        rw [nI_eq (by omega) (by omega)] at b36
        omega
  · rw [show (0 : Int32) = nI 0 from rfl] at b9
    rw [nI_eq (by omega) (by omega)] at b9
    omega
set_option maxRecDepth 10000 in
set_option maxHeartbeats 1000000 in
theorem y_spool_1 {G : zW} {f : zHM} {m : Nat × Nat} {o mr : Nat} {B : Nat → Nat} {w : Nat → Int32} {hh : Int64} {σ : Nat → Int32} (h : MX f o B w hh σ mr) {th : Int32} {k L : Nat} {sv : Nat → Nat → Int32} {hsl : Nat → Int32} {sl : Nat → Nat → Int32} {ch : Nat → Nat} (t : w 0 = th) (k0 : w 1 = nI k) (l0 : w 2 = nI L) (O : zNO f B k sv hsl sl L ch) {v : Int32} (hx : v < 0 ∨ ¬ v < 3) {sh lf : Int32} : zM G yX4_spool cX4_spool 5 (some .int) 9 [.ref o, .int v, .int sh, .int lf] (f, m) (zD (some (.int 0)) (fun f' m' => zNP f o B hh mr 0 (nI 1) k sv hsl sl L ch (fun σ' => σ' = σ) f' ∧ m' = m)) := by
  refine zM.of (by decide) (Nat.le_of_ble_eq_true rfl) ?_
  have ho := h.1
  have hs := h.2.1
  refine v_aload_n dX4_spool_0 rfl rfl ?_
  refine v_iconst (nI 0) dX4_spool_1 (by decide) ?_
  refine v_putfieldX fX4_35 dX4_spool_2 (by assumption) rfl rfl (Nat.le_of_ble_eq_true rfl) (fun f1 hp1 => ?_)
  obtain ⟨h1, hf1⟩ := MX.put (w' := zUp w 0 (nI 0)) (f0 := f) h hp1 rfl zFr.refl
  obtain ⟨w1, ew1⟩ : ∃ w9, w9 = zUp w 0 (nI 0) := ⟨_, rfl⟩
  rw [← ew1] at h1
  clear hp1
  have ho1 := h1.1
  have hs1 := h1.2.1
  have t1 : w1 0 = nI 0 := by rw [ew1]; rfl
  have k1 := (show w1 1 = w 1 from by rw [ew1]; rfl).trans k0
  have l1 := (show w1 2 = w 2 from by rw [ew1]; rfl).trans l0
  have O1 := zNO.fr O hf1 (by intro τ h; rcases h with h | h | h | h <;> omega)
  have F1 := zFr.trans zFr.refl (zFr.weaken hf1 zTYZ)
  refine v_iload_n dX4_spool_5 rfl rfl ?_
  refine v_callSp kX4_127 gs_X4_isSpool dX4_spool_6 c_isSpool rfl rfl (by decide) (Nat.le_of_ble_eq_true rfl) ?_
  rw [in_n (b := nI 2) (in_p (N := 3) (by omega) (by omega) hx)]
  refine v_if_ne 18 dX4_spool_9 (by decide) (fun b9 => ?_) (fun b9 => ?_)
  · rw [show (0 : Int32) = nI 0 from rfl] at b9
    rw [nI_eq (by omega) (by omega)] at b9
    omega
  · rw [show (0 : Int32) = nI 0 from rfl] at b9
    rw [nI_eq (by omega) (by omega)] at b9
    refine v_aload_n dX4_spool_12 rfl rfl ?_
    refine v_iconst (nI 1) dX4_spool_13 (by decide) ?_
    refine v_callV1 kX4_118 gi_X4_fails ge_X4_fails rfl dX4_spool_14 (by assumption) (c_fails h1) rfl rfl (by decide) (Nat.le_of_ble_eq_true rfl) (fun f2 m hc2 => ?_)
    obtain ⟨⟨w2, h2, t2, hq2, hf2⟩, rfl⟩ := hc2
    have k2 := (hq2 1 (by decide)).trans k1
    have l2 := (hq2 2 (by decide)).trans l1
    have ho2 := h2.1
    have hs2 := h2.2.1
    have O2 := zNO.fr O1 hf2 (by intro τ h; rcases h with h | h | h | h <;> omega)
    have F2 := zFr.trans F1 (zFr.weaken hf2 zTYZ)
    exact v_ireturn dX4_spool_17 rfl ⟨rfl, ⟨σ, mr, by omega, ⟨w2, h2, t2, k2, l2, O2⟩, rfl, F2⟩, rfl⟩
set_option maxRecDepth 10000 in
set_option maxHeartbeats 1000000 in
theorem y_spool_2 {G : zW} {f : zHM} {m : Nat × Nat} {o mr : Nat} {B : Nat → Nat} {w : Nat → Int32} {hh : Int64} {σ : Nat → Int32} (h : MX f o B w hh σ mr) {th : Int32} {k L : Nat} {sv : Nat → Nat → Int32} {hsl : Nat → Int32} {sl : Nat → Nat → Int32} {ch : Nat → Nat} (t : w 0 = th) (k0 : w 1 = nI k) (l0 : w 2 = nI L) (O : zNO f B k sv hsl sl L ch) {u : Nat} (hu : u < 3) {sh lf : Int32} (hx : sh < 1 ∨ ¬ sh ≤ 9) : zM G yX4_spool cX4_spool 5 (some .int) 9 [.ref o, .int (nI u), .int sh, .int lf] (f, m) (zD (some (.int 0)) (fun f' m' => zNP f o B hh mr 0 (nI 2) k sv hsl sl L ch (fun σ' => σ' = σ) f' ∧ m' = m)) := by
  refine zM.of (by decide) (Nat.le_of_ble_eq_true rfl) ?_
  have ho := h.1
  have hs := h.2.1
  refine v_aload_n dX4_spool_0 rfl rfl ?_
  refine v_iconst (nI 0) dX4_spool_1 (by decide) ?_
  refine v_putfieldX fX4_35 dX4_spool_2 (by assumption) rfl rfl (Nat.le_of_ble_eq_true rfl) (fun f1 hp1 => ?_)
  obtain ⟨h1, hf1⟩ := MX.put (w' := zUp w 0 (nI 0)) (f0 := f) h hp1 rfl zFr.refl
  obtain ⟨w1, ew1⟩ : ∃ w9, w9 = zUp w 0 (nI 0) := ⟨_, rfl⟩
  rw [← ew1] at h1
  clear hp1
  have ho1 := h1.1
  have hs1 := h1.2.1
  have t1 : w1 0 = nI 0 := by rw [ew1]; rfl
  have k1 := (show w1 1 = w 1 from by rw [ew1]; rfl).trans k0
  have l1 := (show w1 2 = w 2 from by rw [ew1]; rfl).trans l0
  have O1 := zNO.fr O hf1 (by intro τ h; rcases h with h | h | h | h <;> omega)
  have F1 := zFr.trans zFr.refl (zFr.weaken hf1 zTYZ)
  refine v_iload_n dX4_spool_5 rfl rfl ?_
  refine v_callSp kX4_127 gs_X4_isSpool dX4_spool_6 c_isSpool rfl rfl (by decide) (Nat.le_of_ble_eq_true rfl) ?_
  rw [inN_y (Nat.zero_le u) (show u ≤ 2 by omega) (by omega)]
  refine v_if_ne 18 dX4_spool_9 (by decide) (fun b9 => ?_) (fun b9 => ?_)
  · rw [show (0 : Int32) = nI 0 from rfl] at b9
    rw [nI_eq (by omega) (by omega)] at b9
    refine v_iload_n dX4_spool_18 rfl rfl ?_
    refine v_iconst (nI 1) dX4_spool_19 (by decide) ?_
    refine v_bipush (nI 9) dX4_spool_20 (by decide) ?_
    refine v_callSp kX4_42 gs_X4_in dX4_spool_22 c_in rfl rfl (by decide) (Nat.le_of_ble_eq_true rfl) ?_
    rw [in_n (a := nI 1) (b := nI 9) hx]
    refine v_if_eq 39 dX4_spool_25 (by decide) (fun b25 => ?_) (fun b25 => ?_)
    · rw [show (0 : Int32) = nI 0 from rfl] at b25
      rw [nI_eq (by omega) (by omega)] at b25
      refine v_aload_n dX4_spool_39 rfl rfl ?_
      refine v_iconst (nI 2) dX4_spool_40 (by decide) ?_
      refine v_callV1 kX4_118 gi_X4_fails ge_X4_fails rfl dX4_spool_41 (by assumption) (c_fails h1) rfl rfl (by decide) (Nat.le_of_ble_eq_true rfl) (fun f2 m hc2 => ?_)
      obtain ⟨⟨w2, h2, t2, hq2, hf2⟩, rfl⟩ := hc2
      have k2 := (hq2 1 (by decide)).trans k1
      have l2 := (hq2 2 (by decide)).trans l1
      have ho2 := h2.1
      have hs2 := h2.2.1
      have O2 := zNO.fr O1 hf2 (by intro τ h; rcases h with h | h | h | h <;> omega)
      have F2 := zFr.trans F1 (zFr.weaken hf2 zTYZ)
      exact v_ireturn dX4_spool_44 rfl ⟨rfl, ⟨σ, mr, by omega, ⟨w2, h2, t2, k2, l2, O2⟩, rfl, F2⟩, rfl⟩
    · rw [show (0 : Int32) = nI 0 from rfl] at b25
      rw [nI_eq (by omega) (by omega)] at b25
      omega
  · rw [show (0 : Int32) = nI 0 from rfl] at b9
    rw [nI_eq (by omega) (by omega)] at b9
    omega
set_option maxRecDepth 10000 in
set_option maxHeartbeats 1000000 in
theorem y_spool_3 {G : zW} {f : zHM} {m : Nat × Nat} {o mr : Nat} {B : Nat → Nat} {w : Nat → Int32} {hh : Int64} {σ : Nat → Int32} (h : MX f o B w hh σ mr) {th : Int32} {k L : Nat} {sv : Nat → Nat → Int32} {hsl : Nat → Int32} {sl : Nat → Nat → Int32} {ch : Nat → Nat} (t : w 0 = th) (k0 : w 1 = nI k) (l0 : w 2 = nI L) (O : zNO f B k sv hsl sl L ch) {u : Nat} (hu : u < 3) {sh lf : Int32} (v1 : ¬ sh < 1) (v2 : sh ≤ 9) (hx : lf < 0 ∨ ¬ lf ≤ 9999) : zM G yX4_spool cX4_spool 5 (some .int) 9 [.ref o, .int (nI u), .int sh, .int lf] (f, m) (zD (some (.int 0)) (fun f' m' => zNP f o B hh mr 0 (nI 2) k sv hsl sl L ch (fun σ' => σ' = σ) f' ∧ m' = m)) := by
  refine zM.of (by decide) (Nat.le_of_ble_eq_true rfl) ?_
  have ho := h.1
  have hs := h.2.1
  refine v_aload_n dX4_spool_0 rfl rfl ?_
  refine v_iconst (nI 0) dX4_spool_1 (by decide) ?_
  refine v_putfieldX fX4_35 dX4_spool_2 (by assumption) rfl rfl (Nat.le_of_ble_eq_true rfl) (fun f1 hp1 => ?_)
  obtain ⟨h1, hf1⟩ := MX.put (w' := zUp w 0 (nI 0)) (f0 := f) h hp1 rfl zFr.refl
  obtain ⟨w1, ew1⟩ : ∃ w9, w9 = zUp w 0 (nI 0) := ⟨_, rfl⟩
  rw [← ew1] at h1
  clear hp1
  have ho1 := h1.1
  have hs1 := h1.2.1
  have t1 : w1 0 = nI 0 := by rw [ew1]; rfl
  have k1 := (show w1 1 = w 1 from by rw [ew1]; rfl).trans k0
  have l1 := (show w1 2 = w 2 from by rw [ew1]; rfl).trans l0
  have O1 := zNO.fr O hf1 (by intro τ h; rcases h with h | h | h | h <;> omega)
  have F1 := zFr.trans zFr.refl (zFr.weaken hf1 zTYZ)
  refine v_iload_n dX4_spool_5 rfl rfl ?_
  refine v_callSp kX4_127 gs_X4_isSpool dX4_spool_6 c_isSpool rfl rfl (by decide) (Nat.le_of_ble_eq_true rfl) ?_
  rw [inN_y (Nat.zero_le u) (show u ≤ 2 by omega) (by omega)]
  refine v_if_ne 18 dX4_spool_9 (by decide) (fun b9 => ?_) (fun b9 => ?_)
  · rw [show (0 : Int32) = nI 0 from rfl] at b9
    rw [nI_eq (by omega) (by omega)] at b9
    refine v_iload_n dX4_spool_18 rfl rfl ?_
    refine v_iconst (nI 1) dX4_spool_19 (by decide) ?_
    refine v_bipush (nI 9) dX4_spool_20 (by decide) ?_
    refine v_callSp kX4_42 gs_X4_in dX4_spool_22 c_in rfl rfl (by decide) (Nat.le_of_ble_eq_true rfl) ?_
    rw [in_y (a := nI 1) (b := nI 9) v1 v2]
    refine v_if_eq 39 dX4_spool_25 (by decide) (fun b25 => ?_) (fun b25 => ?_)
    · rw [show (0 : Int32) = nI 0 from rfl] at b25
      rw [nI_eq (by omega) (by omega)] at b25
      omega
    · rw [show (0 : Int32) = nI 0 from rfl] at b25
      rw [nI_eq (by omega) (by omega)] at b25
      refine v_iload_n dX4_spool_28 rfl rfl ?_
      refine v_iconst (nI 0) dX4_spool_29 (by decide) ?_
      refine v_sipush (nI 9999) dX4_spool_30 (by decide) ?_
      refine v_callSp kX4_42 gs_X4_in dX4_spool_33 c_in rfl rfl (by decide) (Nat.le_of_ble_eq_true rfl) ?_
      rw [in_n (a := nI 0) (b := nI 9999) hx]
      refine v_if_ne 45 dX4_spool_36 (by decide) (fun b36 => ?_) (fun b36 => ?_)
      · rw [show (0 : Int32) = nI 0 from rfl] at b36
        rw [nI_eq (by omega) (by omega)] at b36
        omega
      · rw [show (0 : Int32) = nI 0 from rfl] at b36
        rw [nI_eq (by omega) (by omega)] at b36
        refine v_aload_n dX4_spool_39 rfl rfl ?_
        refine v_iconst (nI 2) dX4_spool_40 (by decide) ?_
        refine v_callV1 kX4_118 gi_X4_fails ge_X4_fails rfl dX4_spool_41 (by assumption) (c_fails h1) rfl rfl (by decide) (Nat.le_of_ble_eq_true rfl) (fun f2 m hc2 => ?_)
        obtain ⟨⟨w2, h2, t2, hq2, hf2⟩, rfl⟩ := hc2
        have k2 := (hq2 1 (by decide)).trans k1
        have l2 := (hq2 2 (by decide)).trans l1
        have ho2 := h2.1
        have hs2 := h2.2.1
        have O2 := zNO.fr O1 hf2 (by intro τ h; rcases h with h | h | h | h <;> omega)
        have F2 := zFr.trans F1 (zFr.weaken hf2 zTYZ)
        exact v_ireturn dX4_spool_44 rfl ⟨rfl, ⟨σ, mr, by omega, ⟨w2, h2, t2, k2, l2, O2⟩, rfl, F2⟩, rfl⟩
  · rw [show (0 : Int32) = nI 0 from rfl] at b9
    rw [nI_eq (by omega) (by omega)] at b9
    omega
set_option maxRecDepth 10000 in
set_option maxHeartbeats 1000000 in
theorem y_spool_4 {G : zW} {f : zHM} {m : Nat × Nat} {o mr : Nat} {B : Nat → Nat} {w : Nat → Int32} {hh : Int64} {σ : Nat → Int32} (h : MX f o B w hh σ mr) {th : Int32} {k L : Nat} {sv : Nat → Nat → Int32} {hsl : Nat → Int32} {sl : Nat → Nat → Int32} {ch : Nat → Nat} (t : w 0 = th) (k0 : w 1 = nI k) (l0 : w 2 = nI L) (O : zNO f B k sv hsl sl L ch) {n : Nat} (hn : σ 15 = nI n) (hn2 : n ≤ 200) {u : Nat} (hu : u < 3) {sh lf : Int32} (v1 : ¬ sh < 1) (v2 : sh ≤ 9) (v3 : ¬ lf < 0) (v4 : lf ≤ 9999) (hx : nI u = σ 2 ∨ ¬ sCh (rOf σ) n (nI u) ≤ 0) : zM G yX4_spool cX4_spool 5 (some .int) 9 [.ref o, .int (nI u), .int sh, .int lf] (f, m) (zD (some (.int 0)) (fun f' m' => zNP f o B hh mr 0 (nI 3) k sv hsl sl L ch (fun σ' => σ' = σ) f' ∧ m' = m)) := by
  refine zM.of (by decide) (Nat.le_of_ble_eq_true rfl) ?_
  have ho := h.1
  have hs := h.2.1
  refine v_aload_n dX4_spool_0 rfl rfl ?_
  refine v_iconst (nI 0) dX4_spool_1 (by decide) ?_
  refine v_putfieldX fX4_35 dX4_spool_2 (by assumption) rfl rfl (Nat.le_of_ble_eq_true rfl) (fun f1 hp1 => ?_)
  obtain ⟨h1, hf1⟩ := MX.put (w' := zUp w 0 (nI 0)) (f0 := f) h hp1 rfl zFr.refl
  obtain ⟨w1, ew1⟩ : ∃ w9, w9 = zUp w 0 (nI 0) := ⟨_, rfl⟩
  rw [← ew1] at h1
  clear hp1
  have ho1 := h1.1
  have hs1 := h1.2.1
  have t1 : w1 0 = nI 0 := by rw [ew1]; rfl
  have k1 := (show w1 1 = w 1 from by rw [ew1]; rfl).trans k0
  have l1 := (show w1 2 = w 2 from by rw [ew1]; rfl).trans l0
  have O1 := zNO.fr O hf1 (by intro τ h; rcases h with h | h | h | h <;> omega)
  have F1 := zFr.trans zFr.refl (zFr.weaken hf1 zTYZ)
  refine v_iload_n dX4_spool_5 rfl rfl ?_
  refine v_callSp kX4_127 gs_X4_isSpool dX4_spool_6 c_isSpool rfl rfl (by decide) (Nat.le_of_ble_eq_true rfl) ?_
  rw [inN_y (Nat.zero_le u) (show u ≤ 2 by omega) (by omega)]
  refine v_if_ne 18 dX4_spool_9 (by decide) (fun b9 => ?_) (fun b9 => ?_)
  · rw [show (0 : Int32) = nI 0 from rfl] at b9
    rw [nI_eq (by omega) (by omega)] at b9
    refine v_iload_n dX4_spool_18 rfl rfl ?_
    refine v_iconst (nI 1) dX4_spool_19 (by decide) ?_
    refine v_bipush (nI 9) dX4_spool_20 (by decide) ?_
    refine v_callSp kX4_42 gs_X4_in dX4_spool_22 c_in rfl rfl (by decide) (Nat.le_of_ble_eq_true rfl) ?_
    rw [in_y (a := nI 1) (b := nI 9) v1 v2]
    refine v_if_eq 39 dX4_spool_25 (by decide) (fun b25 => ?_) (fun b25 => ?_)
    · rw [show (0 : Int32) = nI 0 from rfl] at b25
      rw [nI_eq (by omega) (by omega)] at b25
      omega
    · rw [show (0 : Int32) = nI 0 from rfl] at b25
      rw [nI_eq (by omega) (by omega)] at b25
      refine v_iload_n dX4_spool_28 rfl rfl ?_
      refine v_iconst (nI 0) dX4_spool_29 (by decide) ?_
      refine v_sipush (nI 9999) dX4_spool_30 (by decide) ?_
      refine v_callSp kX4_42 gs_X4_in dX4_spool_33 c_in rfl rfl (by decide) (Nat.le_of_ble_eq_true rfl) ?_
      rw [in_y (a := nI 0) (b := nI 9999) v3 v4]
      refine v_if_ne 45 dX4_spool_36 (by decide) (fun b36 => ?_) (fun b36 => ?_)
      · rw [show (0 : Int32) = nI 0 from rfl] at b36
        rw [nI_eq (by omega) (by omega)] at b36
        refine v_iload_n dX4_spool_45 rfl rfl ?_
        refine v_aload_n dX4_spool_46 rfl rfl ?_
        refine v_getfield fX4_7 dX4_spool_47 (by assumption) (by rfl) ?_
        refine v_iconst (nI 2) dX4_spool_50 (by decide) ?_
        refine v_iaload dX4_spool_51 (by assumption) (vp_in_nI (by omega) (by omega)) ?_
        rw [nI_clamp (n := 2) (by omega)]
        refine v_icmp_eq 63 dX4_spool_52 (by decide) (fun b52 => ?_) (fun b52 => ?_)
        · refine v_aload_n dX4_spool_63 rfl rfl ?_
          refine v_iconst (nI 3) dX4_spool_64 (by decide) ?_
          refine v_callV1 kX4_118 gi_X4_fails ge_X4_fails rfl dX4_spool_65 (by assumption) (c_fails h1) rfl rfl (by decide) (Nat.le_of_ble_eq_true rfl) (fun f2 m hc2 => ?_)
          obtain ⟨⟨w2, h2, t2, hq2, hf2⟩, rfl⟩ := hc2
          have k2 := (hq2 1 (by decide)).trans k1
          have l2 := (hq2 2 (by decide)).trans l1
          have ho2 := h2.1
          have hs2 := h2.2.1
          have O2 := zNO.fr O1 hf2 (by intro τ h; rcases h with h | h | h | h <;> omega)
          have F2 := zFr.trans F1 (zFr.weaken hf2 zTYZ)
          exact v_ireturn dX4_spool_68 rfl ⟨rfl, ⟨σ, mr, by omega, ⟨w2, h2, t2, k2, l2, O2⟩, rfl, F2⟩, rfl⟩
        · refine v_aload_n dX4_spool_55 rfl rfl ?_
          refine v_iload_n dX4_spool_56 rfl rfl ?_
          refine v_callVp kX4_131 gi_X4_chordsOf ge_X4_chordsOf rfl dX4_spool_57 (by assumption) (c_mchordsOf h1 hn hn2) rfl rfl (by decide) (Nat.le_of_ble_eq_true rfl) ?_
          refine v_if_le 69 dX4_spool_60 (by decide) (fun b60 => ?_) (fun b60 => ?_)
          · exact absurd b60 (hx.resolve_left b52)
          · refine v_aload_n dX4_spool_63 rfl rfl ?_
            refine v_iconst (nI 3) dX4_spool_64 (by decide) ?_
            refine v_callV1 kX4_118 gi_X4_fails ge_X4_fails rfl dX4_spool_65 (by assumption) (c_fails h1) rfl rfl (by decide) (Nat.le_of_ble_eq_true rfl) (fun f2 m hc2 => ?_)
            obtain ⟨⟨w2, h2, t2, hq2, hf2⟩, rfl⟩ := hc2
            have k2 := (hq2 1 (by decide)).trans k1
            have l2 := (hq2 2 (by decide)).trans l1
            have ho2 := h2.1
            have hs2 := h2.2.1
            have O2 := zNO.fr O1 hf2 (by intro τ h; rcases h with h | h | h | h <;> omega)
            have F2 := zFr.trans F1 (zFr.weaken hf2 zTYZ)
            exact v_ireturn dX4_spool_68 rfl ⟨rfl, ⟨σ, mr, by omega, ⟨w2, h2, t2, k2, l2, O2⟩, rfl, F2⟩, rfl⟩
      · rw [show (0 : Int32) = nI 0 from rfl] at b36
        rw [nI_eq (by omega) (by omega)] at b36
        omega
  · rw [show (0 : Int32) = nI 0 from rfl] at b9
    rw [nI_eq (by omega) (by omega)] at b9
    omega
set_option maxRecDepth 10000 in
set_option maxHeartbeats 1000000 in
theorem c_m9unwind {G : zW} {f : zHM} {m : Nat × Nat} {o mr : Nat} {B : Nat → Nat} {w : Nat → Int32} {hh : Int64} {σ : Nat → Int32} (h : MX f o B w hh σ mr) {th : Int32} {k L : Nat} {sv : Nat → Nat → Int32} {hsl : Nat → Int32} {sl : Nat → Nat → Int32} {ch : Nat → Nat} (t : w 0 = th) (k0 : w 1 = nI k) (l0 : w 2 = nI L) (O : zNO f B k sv hsl sl L ch) (hmr9 : mr + 1000 < 2 ^ 30) {N s n : Nat} (hw : RW (rOf σ) N s (n + 1)) (hn : σ 15 = nI (n + 1)) (hn2 : n + 1 ≤ 200) {a b u : Nat} (ha : a < N) (hb : b < N) (hab : a ≠ b) (hu : u < 3) (q4 : σ (16 + 3 * n + 0) = nI a) (q5 : σ (16 + 3 * n + 1) = nI b) (q6 : σ (16 + 3 * n + 2) = nI u) : zM G yX4_unwind cX4_unwind 1 (some .int) 9 [.ref o] (f, m) (zD (some (.int (nI a))) (fun f' m' => zNP f o B hh mr 1 0 (sPK k) (sPM k sv σ) hsl sl L ch (fun σ' => σ' 15 = nI n ∧ zEQ n (sOff (rOf σ) s a b u) (rOf σ')) f' ∧ m' = m)) := by
  refine zM.of (by decide) (Nat.le_of_ble_eq_true rfl) ?_
  have ho := h.1
  have hs := h.2.1
  refine v_aload_n dX4_unwind_0 rfl rfl ?_
  refine v_iconst (nI 0) dX4_unwind_1 (by decide) ?_
  refine v_putfieldX fX4_35 dX4_unwind_2 (by assumption) rfl rfl (Nat.le_of_ble_eq_true rfl) (fun f1 hp1 => ?_)
  obtain ⟨h1, hf1⟩ := MX.put (w' := zUp w 0 (nI 0)) (f0 := f) h hp1 rfl zFr.refl
  obtain ⟨w1, ew1⟩ : ∃ w9, w9 = zUp w 0 (nI 0) := ⟨_, rfl⟩
  rw [← ew1] at h1
  clear hp1
  have ho1 := h1.1
  have hs1 := h1.2.1
  have t1 : w1 0 = nI 0 := by rw [ew1]; rfl
  have k1 := (show w1 1 = w 1 from by rw [ew1]; rfl).trans k0
  have l1 := (show w1 2 = w 2 from by rw [ew1]; rfl).trans l0
  have O1 := zNO.fr O hf1 (by intro τ h; rcases h with h | h | h | h <;> omega)
  have F1 := zFr.trans zFr.refl (zFr.weaken hf1 zTYZ)
  refine v_aload_n dX4_unwind_5 rfl rfl ?_
  refine v_getfield fX4_7 dX4_unwind_6 (by assumption) (by rfl) ?_
  refine v_bipush (nI 15) dX4_unwind_9 (by decide) ?_
  refine v_iaload dX4_unwind_11 (by assumption) (vp_in_nI (by omega) (by omega)) ?_
  rw [nI_clamp (n := 15) (by omega)]
  rw [hn]
  refine v_if_ne 21 dX4_unwind_12 (by decide) (fun b12 => ?_) (fun b12 => ?_)
  · rw [show (0 : Int32) = nI 0 from rfl] at b12
    rw [nI_eq (by omega) (by omega)] at b12
    refine v_aload_n dX4_unwind_21 rfl rfl ?_
    refine v_callV0 kX4_121 gi_X4_saves ge_X4_saves rfl dX4_unwind_22 (by assumption) (c_saves h1 k1 O1) rfl rfl (by decide) (Nat.le_of_ble_eq_true rfl) (fun f2 m hc2 => ?_)
    obtain ⟨⟨w2, h2, hk0, k2, O2, hf2⟩, rfl⟩ := hc2
    have t2 := (hk0 0 (by decide)).trans t1
    have l2 := (hk0 2 (by decide)).trans l1
    have F2 := zFr.trans F1 hf2
    have ho2 := h2.1
    have hs2 := h2.2.1
    refine v_aload_n dX4_unwind_25 rfl rfl ?_
    refine v_callV0 kX4_124 gi_X4_unwinds ge_X4_unwinds rfl dX4_unwind_26 (by assumption) (c_unwinds h2 (by omega) hw hn hn2 ha hb hab hu q4 q5 q6) rfl rfl (by decide) (Nat.le_of_ble_eq_true rfl) (fun f3 m hc3 => ?_)
    obtain ⟨⟨σ3, mr3, hm3, ⟨w3, h3, hk3, hf3⟩, hg3⟩, rfl⟩ := hc3
    have ho3 := h3.1
    have hs3 := h3.2.1
    have t3 := (hk3 0 (by decide) (by decide)).trans t2
    have k3 := (hk3 1 (by decide) (by decide)).trans k2
    have l3 := (hk3 2 (by decide) (by decide)).trans l2
    have O3 := zNO.fr O2 hf3 (by intro τ h; rcases h with h | h | h | h <;> omega)
    have F3 := zFr.trans F2 (zFr.weaken hf3 zTYZ)
    refine v_aload_n dX4_unwind_29 rfl rfl ?_
    refine v_getfield fX4_7 dX4_unwind_30 (by assumption) (by rfl) ?_
    refine v_iconst (nI 1) dX4_unwind_33 (by decide) ?_
    refine v_iaload dX4_unwind_34 (by assumption) (vp_in_nI (by omega) (by omega)) ?_
    rw [nI_clamp (n := 1) (by omega)]
    rw [show σ3 1 = nI a from (show sOff (rOf σ) s a b u 0 1 = σ3 1 from hg3.2.1 1 (by omega)).symm]
    exact v_ireturn dX4_unwind_35 rfl ⟨rfl, ⟨σ3, mr3, by omega, ⟨w3, h3, t3, k3, l3, O3⟩, hg3, F3⟩, rfl⟩
  · rw [show (0 : Int32) = nI 0 from rfl] at b12
    rw [nI_eq (by omega) (by omega)] at b12
    omega
set_option maxRecDepth 10000 in
set_option maxHeartbeats 1000000 in
theorem y_unwind_1 {G : zW} {f : zHM} {m : Nat × Nat} {o mr : Nat} {B : Nat → Nat} {w : Nat → Int32} {hh : Int64} {σ : Nat → Int32} (h : MX f o B w hh σ mr) {th : Int32} {k L : Nat} {sv : Nat → Nat → Int32} {hsl : Nat → Int32} {sl : Nat → Nat → Int32} {ch : Nat → Nat} (t : w 0 = th) (k0 : w 1 = nI k) (l0 : w 2 = nI L) (O : zNO f B k sv hsl sl L ch) (hn : σ 15 = nI 0) : zM G yX4_unwind cX4_unwind 1 (some .int) 9 [.ref o] (f, m) (zD (some (.int 0)) (fun f' m' => zNP f o B hh mr 0 (nI 1) k sv hsl sl L ch (fun σ' => σ' = σ) f' ∧ m' = m)) := by
  refine zM.of (by decide) (Nat.le_of_ble_eq_true rfl) ?_
  have ho := h.1
  have hs := h.2.1
  refine v_aload_n dX4_unwind_0 rfl rfl ?_
  refine v_iconst (nI 0) dX4_unwind_1 (by decide) ?_
  refine v_putfieldX fX4_35 dX4_unwind_2 (by assumption) rfl rfl (Nat.le_of_ble_eq_true rfl) (fun f1 hp1 => ?_)
  obtain ⟨h1, hf1⟩ := MX.put (w' := zUp w 0 (nI 0)) (f0 := f) h hp1 rfl zFr.refl
  obtain ⟨w1, ew1⟩ : ∃ w9, w9 = zUp w 0 (nI 0) := ⟨_, rfl⟩
  rw [← ew1] at h1
  clear hp1
  have ho1 := h1.1
  have hs1 := h1.2.1
  have t1 : w1 0 = nI 0 := by rw [ew1]; rfl
  have k1 := (show w1 1 = w 1 from by rw [ew1]; rfl).trans k0
  have l1 := (show w1 2 = w 2 from by rw [ew1]; rfl).trans l0
  have O1 := zNO.fr O hf1 (by intro τ h; rcases h with h | h | h | h <;> omega)
  have F1 := zFr.trans zFr.refl (zFr.weaken hf1 zTYZ)
  refine v_aload_n dX4_unwind_5 rfl rfl ?_
  refine v_getfield fX4_7 dX4_unwind_6 (by assumption) (by rfl) ?_
  refine v_bipush (nI 15) dX4_unwind_9 (by decide) ?_
  refine v_iaload dX4_unwind_11 (by assumption) (vp_in_nI (by omega) (by omega)) ?_
  rw [nI_clamp (n := 15) (by omega)]
  rw [hn]
  refine v_if_ne 21 dX4_unwind_12 (by decide) (fun b12 => ?_) (fun b12 => ?_)
  · rw [show (0 : Int32) = nI 0 from rfl] at b12
    rw [nI_eq (by omega) (by omega)] at b12
    omega
  · rw [show (0 : Int32) = nI 0 from rfl] at b12
    rw [nI_eq (by omega) (by omega)] at b12
    refine v_aload_n dX4_unwind_15 rfl rfl ?_
    refine v_iconst (nI 1) dX4_unwind_16 (by decide) ?_
    refine v_callV1 kX4_118 gi_X4_fails ge_X4_fails rfl dX4_unwind_17 (by assumption) (c_fails h1) rfl rfl (by decide) (Nat.le_of_ble_eq_true rfl) (fun f2 m hc2 => ?_)
    obtain ⟨⟨w2, h2, t2, hq2, hf2⟩, rfl⟩ := hc2
    have k2 := (hq2 1 (by decide)).trans k1
    have l2 := (hq2 2 (by decide)).trans l1
    have ho2 := h2.1
    have hs2 := h2.2.1
    have O2 := zNO.fr O1 hf2 (by intro τ h; rcases h with h | h | h | h <;> omega)
    have F2 := zFr.trans F1 (zFr.weaken hf2 zTYZ)
    exact v_ireturn dX4_unwind_20 rfl ⟨rfl, ⟨σ, mr, by omega, ⟨w2, h2, t2, k2, l2, O2⟩, rfl, F2⟩, rfl⟩
theorem sInc_ok {σ1 σ2 : Nat → Int32} {m j : Nat} {ρ : zRS} (hj : j = 3 ∨ j = 4) (hm : m ≤ 200) (h : zEQ m ρ (rOf σ1)) (hg : ∀ i, σ2 i = if i = j then σ1 j + 1 else σ1 i) : zEQ m (sInc ρ j) (rOf σ2) := by
  obtain ⟨h0, h1, h4, h7⟩ := h
  refine ⟨fun i hi => ?_, fun i hi => ?_, fun c hc => ?_, fun q hq => ?_⟩
  · show (if i = j then ρ 0 j + 1 else ρ 0 i) = σ2 i
    rw [hg]
    by_cases e : i = j
    · rw [if_pos e, if_pos e, h0 j (by omega)]
      rfl
    · rw [if_neg e, if_neg e]
      exact h0 i hi
  · obtain ⟨a, b, c⟩ := h1 i hi
    refine ⟨a.trans ?_, b.trans ?_, c.trans ?_⟩
    · show σ1 (9 + 2 * i) = σ2 (9 + 2 * i); rw [hg, if_neg (by omega)]
    · show σ1 (9 + 2 * i + 1) = σ2 (9 + 2 * i + 1); rw [hg, if_neg (by omega)]
    · show σ1 (6 + i) = σ2 (6 + i); rw [hg, if_neg (by omega)]
  · obtain ⟨a, b, d⟩ := h4 c hc
    refine ⟨a.trans ?_, b.trans ?_, d.trans ?_⟩
    · show σ1 (16 + 3 * c) = σ2 (16 + 3 * c); rw [hg, if_neg (by omega)]
    · show σ1 (16 + 3 * c + 1) = σ2 (16 + 3 * c + 1); rw [hg, if_neg (by omega)]
    · show σ1 (16 + 3 * c + 2) = σ2 (16 + 3 * c + 2); rw [hg, if_neg (by omega)]
  · obtain ⟨a, b⟩ := h7 q hq
    refine ⟨a.trans ?_, b.trans ?_⟩
    · show σ1 (616 + q) = σ2 (616 + q); rw [hg, if_neg (by omega)]
    · show σ1 (760 + q) = σ2 (760 + q); rw [hg, if_neg (by omega)]
theorem zEQ.refl {n : Nat} {ρ : zRS} : zEQ n ρ ρ := ⟨fun _ _ => rfl, fun _ _ => ⟨rfl, rfl, rfl⟩, fun _ _ => ⟨rfl, rfl, rfl⟩, fun _ _ => ⟨rfl, rfl⟩⟩
set_option maxRecDepth 10000 in
set_option maxHeartbeats 1000000 in
theorem c_m9wind {G : zW} {f : zHM} {m : Nat × Nat} {o mr : Nat} {B : Nat → Nat} {w : Nat → Int32} {hh : Int64} {σ : Nat → Int32} (h : MX f o B w hh σ mr) {th : Int32} {k L : Nat} {sv : Nat → Nat → Int32} {hsl : Nat → Int32} {sl : Nat → Nat → Int32} {ch : Nat → Nat} (t : w 0 = th) (k0 : w 1 = nI k) (l0 : w 2 = nI L) (O : zNO f B k sv hsl sl L ch) (hmr9 : mr + 1000 < 2 ^ 30) {N s n : Nat} (hw : RW (rOf σ) N s n) (hn : σ 15 = nI n) (hn2 : n < 200) {a : Nat} (ha : a < N) (hat : σ 1 = nI a) {u : Nat} (hu : u < 3) (hnow : σ 2 = nI u) {b : Nat} (hb : b < N) (href :  sRef N s (rOf σ 3 0) (rOf σ 3 1) (rOf σ 2 u) (sTm (rOf σ) n) a b = 0 ∧ True) : zM G yX4_wind cX4_wind 3 (some .int) 9 [.ref o, .int (nI b)] (f, m) (zD (some (.int (nI 0))) (fun f' m' => zNP f o B hh mr 1 0 (sPK k) (sPM k sv σ) hsl sl L ch (fun σ' => σ' 15 = nI (n + 1) ∧ zEQ (n + 1) (sInc (sLay (rOf σ) s n a b u) 3) (rOf σ')) f' ∧ m' = m)) := by
  refine zM.of (by decide) (Nat.le_of_ble_eq_true rfl) ?_
  have ho := h.1
  have hs := h.2.1
  have hv := hw.1
  have hN : σ 0 = nI N := hv.1
  have hp := hv.pos
  have hN4 := hv.2.2.2
  have hab : a ≠ b := fun e => sRef_self _ _ _ _ _ _ _ (e ▸ href.1)
  refine v_aload_n dX4_wind_0 rfl rfl ?_
  refine v_iconst (nI 0) dX4_wind_1 (by decide) ?_
  refine v_putfieldX fX4_35 dX4_wind_2 (by assumption) rfl rfl (Nat.le_of_ble_eq_true rfl) (fun f1 hp1 => ?_)
  obtain ⟨h1, hf1⟩ := MX.put (w' := zUp w 0 (nI 0)) (f0 := f) h hp1 rfl zFr.refl
  obtain ⟨w1, ew1⟩ : ∃ w9, w9 = zUp w 0 (nI 0) := ⟨_, rfl⟩
  rw [← ew1] at h1
  clear hp1
  have ho1 := h1.1
  have hs1 := h1.2.1
  have t1 : w1 0 = nI 0 := by rw [ew1]; rfl
  have k1 := (show w1 1 = w 1 from by rw [ew1]; rfl).trans k0
  have l1 := (show w1 2 = w 2 from by rw [ew1]; rfl).trans l0
  have O1 := zNO.fr O hf1 (by intro τ h; rcases h with h | h | h | h <;> omega)
  have F1 := zFr.trans zFr.refl (zFr.weaken hf1 zTYZ)
  refine v_aload_n dX4_wind_5 rfl rfl ?_
  refine v_iload_n dX4_wind_6 rfl rfl ?_
  refine v_callVp kX4_134 gi_X4_isNail ge_X4_isNail rfl dX4_wind_7 (by assumption) (c_isNail h1 hN hN4) rfl rfl (by decide) (Nat.le_of_ble_eq_true rfl) ?_
  rw [nl_y (b := b) hb (by omega)]
  refine v_if_ne 19 dX4_wind_10 (by decide) (fun b10 => ?_) (fun b10 => ?_)
  · rw [show (0 : Int32) = nI 0 from rfl] at b10
    rw [nI_eq (by omega) (by omega)] at b10
    refine v_aload_n dX4_wind_19 rfl rfl ?_
    refine v_getfield fX4_7 dX4_wind_20 (by assumption) (by rfl) ?_
    refine v_bipush (nI 15) dX4_wind_23 (by decide) ?_
    refine v_iaload dX4_wind_25 (by assumption) (vp_in_nI (by omega) (by omega)) ?_
    rw [nI_clamp (n := 15) (by omega)]
    rw [hn]
    refine v_sipush (nI 200) dX4_wind_26 (by decide) ?_
    refine v_icmp_ne 38 dX4_wind_29 (by decide) (fun b29 => ?_) (fun b29 => ?_)
    · rw [nI_eq (by omega) (by omega)] at b29
      refine v_aload_n dX4_wind_38 rfl rfl ?_
      refine v_callV0 kX4_121 gi_X4_saves ge_X4_saves rfl dX4_wind_39 (by assumption) (c_saves h1 k1 O1) rfl rfl (by decide) (Nat.le_of_ble_eq_true rfl) (fun f2 m hc2 => ?_)
      obtain ⟨⟨w2, h2, hk0, k2, O2, hf2⟩, rfl⟩ := hc2
      have t2 := (hk0 0 (by decide)).trans t1
      have l2 := (hk0 2 (by decide)).trans l1
      have F2 := zFr.trans F1 hf2
      have ho2 := h2.1
      have hs2 := h2.2.1
      refine v_aload_n dX4_wind_42 rfl rfl ?_
      refine v_aload_n dX4_wind_43 rfl rfl ?_
      refine v_getfield fX4_7 dX4_wind_44 (by assumption) (by rfl) ?_
      refine v_iconst (nI 1) dX4_wind_47 (by decide) ?_
      refine v_iaload dX4_wind_48 (by assumption) (vp_in_nI (by omega) (by omega)) ?_
      rw [nI_clamp (n := 1) (by omega)]
      rw [hat]
      refine v_iload_n dX4_wind_49 rfl rfl ?_
      refine v_aload_n dX4_wind_50 rfl rfl ?_
      refine v_getfield fX4_7 dX4_wind_51 (by assumption) (by rfl) ?_
      refine v_iconst (nI 2) dX4_wind_54 (by decide) ?_
      refine v_iaload dX4_wind_55 (by assumption) (vp_in_nI (by omega) (by omega)) ?_
      rw [nI_clamp (n := 2) (by omega)]
      rw [hnow]
      refine v_callVp kX4_107 gi_X4_refused ge_X4_refused rfl dX4_wind_56 (by assumption) (c_mrefused h2 hw hn (by omega) ha hb hu) rfl rfl (by decide) (Nat.le_of_ble_eq_true rfl) ?_
      rw [show (sRef N s (rOf σ 3 0) (rOf σ 3 1) (rOf σ 2 u) (sTm (rOf σ) n) a b) = nI 0 from href.1]
      refine v_istore_n dX4_wind_59 rfl (by decide) ?_
      refine v_iload_n dX4_wind_60 rfl rfl ?_
      refine v_if_eq 76 dX4_wind_61 (by decide) (fun b61 => ?_) (fun b61 => ?_)
      · rw [show (0 : Int32) = nI 0 from rfl] at b61
        rw [nI_eq (by omega) (by omega)] at b61
        refine v_aload_n dX4_wind_76 rfl rfl ?_
        refine v_iload_n dX4_wind_77 rfl rfl ?_
        refine v_callV0 kX4_137 gi_X4_winds ge_X4_winds rfl dX4_wind_78 (by assumption) (c_winds h2 (by omega) hw hn hn2 ha hat hb hab hu hnow) rfl rfl (by decide) (Nat.le_of_ble_eq_true rfl) (fun f3 m hc3 => ?_)
        obtain ⟨⟨σ3, mr3, hm3, ⟨w3, h3, hk3, hf3⟩, hg3⟩, rfl⟩ := hc3
        have ho3 := h3.1
        have hs3 := h3.2.1
        have t3 := (hk3 0 (by decide) (by decide)).trans t2
        have k3 := (hk3 1 (by decide) (by decide)).trans k2
        have l3 := (hk3 2 (by decide) (by decide)).trans l2
        have O3 := zNO.fr O2 hf3 (by intro τ h; rcases h with h | h | h | h <;> omega)
        have F3 := zFr.trans F2 (zFr.weaken hf3 zTYZ)
        refine v_aload_n dX4_wind_81 rfl rfl ?_
        refine v_getfield fX4_7 dX4_wind_82 (by assumption) (by rfl) ?_
        refine v_iconst (nI 3) dX4_wind_85 (by decide) ?_
        refine v_dup2 dX4_wind_86 rfl rfl ?_
        refine v_iaload dX4_wind_87 (by assumption) (vp_in_nI (by omega) (by omega)) ?_
        rw [nI_clamp (n := 3) (by omega)]
        refine v_iconst (1) dX4_wind_88 (by decide) ?_
        refine v_iadd dX4_wind_89 ?_
        refine v_iastoreX dX4_wind_90 (by assumption) (vp_in_nI (by omega) (by omega)) (fun f4 hp4 => ?_)
        rw [nI_clamp (n := 3) (by omega)] at hp4
        obtain ⟨h4, hf4⟩ := MX.st (f0 := f3) h3 hp4 zFr.refl
        clear hp4
        obtain ⟨σ4, e4, hg4⟩ := upd_nm σ3 3 ((σ3 3) + 1)
        rw [← e4] at h4
        clear e4
        have ho4 := h4.1
        have hs4 := h4.2.1
        have hk4 := wK.refl w3
        have t4 := (hk4 0 (by decide) (by decide)).trans t3
        have k4 := (hk4 1 (by decide) (by decide)).trans k3
        have l4 := (hk4 2 (by decide) (by decide)).trans l3
        have O4 := zNO.fr O3 hf4 (by intro τ h; rcases h with h | h | h | h <;> omega)
        have F4 := zFr.trans F3 (zFr.weaken hf4 zTYZ)
        refine v_iconst (nI 0) dX4_wind_91 (by decide) ?_
        exact v_ireturn dX4_wind_92 rfl ⟨rfl, ⟨σ4, mr3, by omega, ⟨w3, h4, t4, k4, l4, O4⟩, ⟨by rw [hg4, if_neg (by omega)]; exact hg3.1, sInc_ok (Or.inl rfl) (by omega) hg3.2 hg4⟩, F4⟩, rfl⟩
      · rw [show (0 : Int32) = nI 0 from rfl] at b61
        rw [nI_eq (by omega) (by omega)] at b61
        omega
    · rw [nI_eq (by omega) (by omega)] at b29
      omega
  · rw [show (0 : Int32) = nI 0 from rfl] at b10
    rw [nI_eq (by omega) (by omega)] at b10
    omega
set_option maxRecDepth 10000 in
set_option maxHeartbeats 1000000 in
theorem y_wind_no {G : zW} {f : zHM} {m : Nat × Nat} {o mr : Nat} {B : Nat → Nat} {w : Nat → Int32} {hh : Int64} {σ : Nat → Int32} (h : MX f o B w hh σ mr) {th : Int32} {k L : Nat} {sv : Nat → Nat → Int32} {hsl : Nat → Int32} {sl : Nat → Nat → Int32} {ch : Nat → Nat} (t : w 0 = th) (k0 : w 1 = nI k) (l0 : w 2 = nI L) (O : zNO f B k sv hsl sl L ch) {N s n : Nat} (hw : RW (rOf σ) N s n) (hn : σ 15 = nI n) (hn2 : n < 200) {a : Nat} (ha : a < N) (hat : σ 1 = nI a) {u : Nat} (hu : u < 3) (hnow : σ 2 = nI u) {b : Nat} (hb : b < N) (href : ¬ sRef N s (rOf σ 3 0) (rOf σ 3 1) (rOf σ 2 u) (sTm (rOf σ) n) a b = 0 ∧ True) : zM G yX4_wind cX4_wind 3 (some .int) 9 [.ref o, .int (nI b)] (f, m) (zD (some (.int (sRef N s (rOf σ 3 0) (rOf σ 3 1) (rOf σ 2 u) (sTm (rOf σ) n) a b))) (fun f' m' => zNP f o B hh mr 0 0 (sPK k) (sPM k sv σ) hsl sl L ch (fun σ' => σ' 15 = nI n ∧ zEQ n (sInc (rOf σ) 4) (rOf σ')) f' ∧ m' = m)) := by
  refine zM.of (by decide) (Nat.le_of_ble_eq_true rfl) ?_
  have ho := h.1
  have hs := h.2.1
  have hv := hw.1
  have hN : σ 0 = nI N := hv.1
  have hp := hv.pos
  have hN4 := hv.2.2.2
  refine v_aload_n dX4_wind_0 rfl rfl ?_
  refine v_iconst (nI 0) dX4_wind_1 (by decide) ?_
  refine v_putfieldX fX4_35 dX4_wind_2 (by assumption) rfl rfl (Nat.le_of_ble_eq_true rfl) (fun f1 hp1 => ?_)
  obtain ⟨h1, hf1⟩ := MX.put (w' := zUp w 0 (nI 0)) (f0 := f) h hp1 rfl zFr.refl
  obtain ⟨w1, ew1⟩ : ∃ w9, w9 = zUp w 0 (nI 0) := ⟨_, rfl⟩
  rw [← ew1] at h1
  clear hp1
  have ho1 := h1.1
  have hs1 := h1.2.1
  have t1 : w1 0 = nI 0 := by rw [ew1]; rfl
  have k1 := (show w1 1 = w 1 from by rw [ew1]; rfl).trans k0
  have l1 := (show w1 2 = w 2 from by rw [ew1]; rfl).trans l0
  have O1 := zNO.fr O hf1 (by intro τ h; rcases h with h | h | h | h <;> omega)
  have F1 := zFr.trans zFr.refl (zFr.weaken hf1 zTYZ)
  refine v_aload_n dX4_wind_5 rfl rfl ?_
  refine v_iload_n dX4_wind_6 rfl rfl ?_
  refine v_callVp kX4_134 gi_X4_isNail ge_X4_isNail rfl dX4_wind_7 (by assumption) (c_isNail h1 hN hN4) rfl rfl (by decide) (Nat.le_of_ble_eq_true rfl) ?_
  rw [nl_y (b := b) hb (by omega)]
  refine v_if_ne 19 dX4_wind_10 (by decide) (fun b10 => ?_) (fun b10 => ?_)
  · rw [show (0 : Int32) = nI 0 from rfl] at b10
    rw [nI_eq (by omega) (by omega)] at b10
    refine v_aload_n dX4_wind_19 rfl rfl ?_
    refine v_getfield fX4_7 dX4_wind_20 (by assumption) (by rfl) ?_
    refine v_bipush (nI 15) dX4_wind_23 (by decide) ?_
    refine v_iaload dX4_wind_25 (by assumption) (vp_in_nI (by omega) (by omega)) ?_
    rw [nI_clamp (n := 15) (by omega)]
    rw [hn]
    refine v_sipush (nI 200) dX4_wind_26 (by decide) ?_
    refine v_icmp_ne 38 dX4_wind_29 (by decide) (fun b29 => ?_) (fun b29 => ?_)
    · rw [nI_eq (by omega) (by omega)] at b29
      refine v_aload_n dX4_wind_38 rfl rfl ?_
      refine v_callV0 kX4_121 gi_X4_saves ge_X4_saves rfl dX4_wind_39 (by assumption) (c_saves h1 k1 O1) rfl rfl (by decide) (Nat.le_of_ble_eq_true rfl) (fun f2 m hc2 => ?_)
      obtain ⟨⟨w2, h2, hk0, k2, O2, hf2⟩, rfl⟩ := hc2
      have t2 := (hk0 0 (by decide)).trans t1
      have l2 := (hk0 2 (by decide)).trans l1
      have F2 := zFr.trans F1 hf2
      have ho2 := h2.1
      have hs2 := h2.2.1
      refine v_aload_n dX4_wind_42 rfl rfl ?_
      refine v_aload_n dX4_wind_43 rfl rfl ?_
      refine v_getfield fX4_7 dX4_wind_44 (by assumption) (by rfl) ?_
      refine v_iconst (nI 1) dX4_wind_47 (by decide) ?_
      refine v_iaload dX4_wind_48 (by assumption) (vp_in_nI (by omega) (by omega)) ?_
      rw [nI_clamp (n := 1) (by omega)]
      rw [hat]
      refine v_iload_n dX4_wind_49 rfl rfl ?_
      refine v_aload_n dX4_wind_50 rfl rfl ?_
      refine v_getfield fX4_7 dX4_wind_51 (by assumption) (by rfl) ?_
      refine v_iconst (nI 2) dX4_wind_54 (by decide) ?_
      refine v_iaload dX4_wind_55 (by assumption) (vp_in_nI (by omega) (by omega)) ?_
      rw [nI_clamp (n := 2) (by omega)]
      rw [hnow]
      refine v_callVp kX4_107 gi_X4_refused ge_X4_refused rfl dX4_wind_56 (by assumption) (c_mrefused h2 hw hn (by omega) ha hb hu) rfl rfl (by decide) (Nat.le_of_ble_eq_true rfl) ?_
      refine v_istore_n dX4_wind_59 rfl (by decide) ?_
      refine v_iload_n dX4_wind_60 rfl rfl ?_
      refine v_if_eq 76 dX4_wind_61 (by decide) (fun b61 => ?_) (fun b61 => ?_)
      · exact absurd b61 href.1
      · refine v_aload_n dX4_wind_64 rfl rfl ?_
        refine v_getfield fX4_7 dX4_wind_65 (by assumption) (by rfl) ?_
        refine v_iconst (nI 4) dX4_wind_68 (by decide) ?_
        refine v_dup2 dX4_wind_69 rfl rfl ?_
        refine v_iaload dX4_wind_70 (by assumption) (vp_in_nI (by omega) (by omega)) ?_
        rw [nI_clamp (n := 4) (by omega)]
        refine v_iconst (1) dX4_wind_71 (by decide) ?_
        refine v_iadd dX4_wind_72 ?_
        refine v_iastoreX dX4_wind_73 (by assumption) (vp_in_nI (by omega) (by omega)) (fun f3 hp3 => ?_)
        rw [nI_clamp (n := 4) (by omega)] at hp3
        obtain ⟨h3, hf3⟩ := MX.st (f0 := f2) h2 hp3 zFr.refl
        clear hp3
        obtain ⟨σ3, e3, hg3⟩ := upd_nm σ 4 ((σ 4) + 1)
        rw [← e3] at h3
        clear e3
        have ho3 := h3.1
        have hs3 := h3.2.1
        have hk3 := wK.refl w2
        have t3 := (hk3 0 (by decide) (by decide)).trans t2
        have k3 := (hk3 1 (by decide) (by decide)).trans k2
        have l3 := (hk3 2 (by decide) (by decide)).trans l2
        have O3 := zNO.fr O2 hf3 (by intro τ h; rcases h with h | h | h | h <;> omega)
        have F3 := zFr.trans F2 (zFr.weaken hf3 zTYZ)
        refine v_iload_n dX4_wind_74 rfl rfl ?_
        exact v_ireturn dX4_wind_75 rfl ⟨rfl, ⟨σ3, mr, by omega, ⟨w2, h3, t3, k3, l3, O3⟩, ⟨by rw [hg3, if_neg (by omega)]; exact hn, sInc_ok (Or.inr rfl) (by omega) zEQ.refl hg3⟩, F3⟩, rfl⟩
    · rw [nI_eq (by omega) (by omega)] at b29
      omega
  · rw [show (0 : Int32) = nI 0 from rfl] at b10
    rw [nI_eq (by omega) (by omega)] at b10
    omega
set_option maxRecDepth 10000 in
set_option maxHeartbeats 1000000 in
theorem y_wind_1 {G : zW} {f : zHM} {m : Nat × Nat} {o mr : Nat} {B : Nat → Nat} {w : Nat → Int32} {hh : Int64} {σ : Nat → Int32} (h : MX f o B w hh σ mr) {th : Int32} {k L : Nat} {sv : Nat → Nat → Int32} {hsl : Nat → Int32} {sl : Nat → Nat → Int32} {ch : Nat → Nat} (t : w 0 = th) (k0 : w 1 = nI k) (l0 : w 2 = nI L) (O : zNO f B k sv hsl sl L ch) {N s : Nat} (hv : RV (rOf σ) N s) {v : Int32} (hx : v < 0 ∨ ¬ v < nI N) : zM G yX4_wind cX4_wind 3 (some .int) 9 [.ref o, .int v] (f, m) (zD (some (.int 0)) (fun f' m' => zNP f o B hh mr 0 (nI 1) k sv hsl sl L ch (fun σ' => σ' = σ) f' ∧ m' = m)) := by
  refine zM.of (by decide) (Nat.le_of_ble_eq_true rfl) ?_
  have ho := h.1
  have hs := h.2.1
  have hN : σ 0 = nI N := hv.1
  have hp := hv.pos
  have hN4 := hv.2.2.2
  refine v_aload_n dX4_wind_0 rfl rfl ?_
  refine v_iconst (nI 0) dX4_wind_1 (by decide) ?_
  refine v_putfieldX fX4_35 dX4_wind_2 (by assumption) rfl rfl (Nat.le_of_ble_eq_true rfl) (fun f1 hp1 => ?_)
  obtain ⟨h1, hf1⟩ := MX.put (w' := zUp w 0 (nI 0)) (f0 := f) h hp1 rfl zFr.refl
  obtain ⟨w1, ew1⟩ : ∃ w9, w9 = zUp w 0 (nI 0) := ⟨_, rfl⟩
  rw [← ew1] at h1
  clear hp1
  have ho1 := h1.1
  have hs1 := h1.2.1
  have t1 : w1 0 = nI 0 := by rw [ew1]; rfl
  have k1 := (show w1 1 = w 1 from by rw [ew1]; rfl).trans k0
  have l1 := (show w1 2 = w 2 from by rw [ew1]; rfl).trans l0
  have O1 := zNO.fr O hf1 (by intro τ h; rcases h with h | h | h | h <;> omega)
  have F1 := zFr.trans zFr.refl (zFr.weaken hf1 zTYZ)
  refine v_aload_n dX4_wind_5 rfl rfl ?_
  refine v_iload_n dX4_wind_6 rfl rfl ?_
  refine v_callVp kX4_134 gi_X4_isNail ge_X4_isNail rfl dX4_wind_7 (by assumption) (c_isNail h1 hN hN4) rfl rfl (by decide) (Nat.le_of_ble_eq_true rfl) ?_
  rw [nl_n (by omega) (by omega) hx]
  refine v_if_ne 19 dX4_wind_10 (by decide) (fun b10 => ?_) (fun b10 => ?_)
  · rw [show (0 : Int32) = nI 0 from rfl] at b10
    rw [nI_eq (by omega) (by omega)] at b10
    omega
  · rw [show (0 : Int32) = nI 0 from rfl] at b10
    rw [nI_eq (by omega) (by omega)] at b10
    refine v_aload_n dX4_wind_13 rfl rfl ?_
    refine v_iconst (nI 1) dX4_wind_14 (by decide) ?_
    refine v_callV1 kX4_118 gi_X4_fails ge_X4_fails rfl dX4_wind_15 (by assumption) (c_fails h1) rfl rfl (by decide) (Nat.le_of_ble_eq_true rfl) (fun f2 m hc2 => ?_)
    obtain ⟨⟨w2, h2, t2, hq2, hf2⟩, rfl⟩ := hc2
    have k2 := (hq2 1 (by decide)).trans k1
    have l2 := (hq2 2 (by decide)).trans l1
    have ho2 := h2.1
    have hs2 := h2.2.1
    have O2 := zNO.fr O1 hf2 (by intro τ h; rcases h with h | h | h | h <;> omega)
    have F2 := zFr.trans F1 (zFr.weaken hf2 zTYZ)
    exact v_ireturn dX4_wind_18 rfl ⟨rfl, ⟨σ, mr, by omega, ⟨w2, h2, t2, k2, l2, O2⟩, rfl, F2⟩, rfl⟩
set_option maxRecDepth 10000 in
set_option maxHeartbeats 1000000 in
theorem y_wind_2 {G : zW} {f : zHM} {m : Nat × Nat} {o mr : Nat} {B : Nat → Nat} {w : Nat → Int32} {hh : Int64} {σ : Nat → Int32} (h : MX f o B w hh σ mr) {th : Int32} {k L : Nat} {sv : Nat → Nat → Int32} {hsl : Nat → Int32} {sl : Nat → Nat → Int32} {ch : Nat → Nat} (t : w 0 = th) (k0 : w 1 = nI k) (l0 : w 2 = nI L) (O : zNO f B k sv hsl sl L ch) {N s : Nat} (hv : RV (rOf σ) N s) {b : Nat} (hb : b < N) (hn : σ 15 = nI 200) : zM G yX4_wind cX4_wind 3 (some .int) 9 [.ref o, .int (nI b)] (f, m) (zD (some (.int 0)) (fun f' m' => zNP f o B hh mr 0 (nI 2) k sv hsl sl L ch (fun σ' => σ' = σ) f' ∧ m' = m)) := by
  refine zM.of (by decide) (Nat.le_of_ble_eq_true rfl) ?_
  have ho := h.1
  have hs := h.2.1
  have hN : σ 0 = nI N := hv.1
  have hp := hv.pos
  have hN4 := hv.2.2.2
  refine v_aload_n dX4_wind_0 rfl rfl ?_
  refine v_iconst (nI 0) dX4_wind_1 (by decide) ?_
  refine v_putfieldX fX4_35 dX4_wind_2 (by assumption) rfl rfl (Nat.le_of_ble_eq_true rfl) (fun f1 hp1 => ?_)
  obtain ⟨h1, hf1⟩ := MX.put (w' := zUp w 0 (nI 0)) (f0 := f) h hp1 rfl zFr.refl
  obtain ⟨w1, ew1⟩ : ∃ w9, w9 = zUp w 0 (nI 0) := ⟨_, rfl⟩
  rw [← ew1] at h1
  clear hp1
  have ho1 := h1.1
  have hs1 := h1.2.1
  have t1 : w1 0 = nI 0 := by rw [ew1]; rfl
  have k1 := (show w1 1 = w 1 from by rw [ew1]; rfl).trans k0
  have l1 := (show w1 2 = w 2 from by rw [ew1]; rfl).trans l0
  have O1 := zNO.fr O hf1 (by intro τ h; rcases h with h | h | h | h <;> omega)
  have F1 := zFr.trans zFr.refl (zFr.weaken hf1 zTYZ)
  refine v_aload_n dX4_wind_5 rfl rfl ?_
  refine v_iload_n dX4_wind_6 rfl rfl ?_
  refine v_callVp kX4_134 gi_X4_isNail ge_X4_isNail rfl dX4_wind_7 (by assumption) (c_isNail h1 hN hN4) rfl rfl (by decide) (Nat.le_of_ble_eq_true rfl) ?_
  rw [nl_y (b := b) hb (by omega)]
  refine v_if_ne 19 dX4_wind_10 (by decide) (fun b10 => ?_) (fun b10 => ?_)
  · rw [show (0 : Int32) = nI 0 from rfl] at b10
    rw [nI_eq (by omega) (by omega)] at b10
    refine v_aload_n dX4_wind_19 rfl rfl ?_
    refine v_getfield fX4_7 dX4_wind_20 (by assumption) (by rfl) ?_
    refine v_bipush (nI 15) dX4_wind_23 (by decide) ?_
    refine v_iaload dX4_wind_25 (by assumption) (vp_in_nI (by omega) (by omega)) ?_
    rw [nI_clamp (n := 15) (by omega)]
    rw [hn]
    refine v_sipush (nI 200) dX4_wind_26 (by decide) ?_
    refine v_icmp_ne 38 dX4_wind_29 (by decide) (fun b29 => ?_) (fun b29 => ?_)
    · rw [nI_eq (by omega) (by omega)] at b29
      omega
    · rw [nI_eq (by omega) (by omega)] at b29
      refine v_aload_n dX4_wind_32 rfl rfl ?_
      refine v_iconst (nI 2) dX4_wind_33 (by decide) ?_
      refine v_callV1 kX4_118 gi_X4_fails ge_X4_fails rfl dX4_wind_34 (by assumption) (c_fails h1) rfl rfl (by decide) (Nat.le_of_ble_eq_true rfl) (fun f2 m hc2 => ?_)
      obtain ⟨⟨w2, h2, t2, hq2, hf2⟩, rfl⟩ := hc2
      have k2 := (hq2 1 (by decide)).trans k1
      have l2 := (hq2 2 (by decide)).trans l1
      have ho2 := h2.1
      have hs2 := h2.2.1
      have O2 := zNO.fr O1 hf2 (by intro τ h; rcases h with h | h | h | h <;> omega)
      have F2 := zFr.trans F1 (zFr.weaken hf2 zTYZ)
      exact v_ireturn dX4_wind_37 rfl ⟨rfl, ⟨σ, mr, by omega, ⟨w2, h2, t2, k2, l2, O2⟩, rfl, F2⟩, rfl⟩
  · rw [show (0 : Int32) = nI 0 from rfl] at b10
    rw [nI_eq (by omega) (by omega)] at b10
    omega
