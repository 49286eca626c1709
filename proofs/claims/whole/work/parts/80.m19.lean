set_option maxRecDepth 10000 in
set_option maxHeartbeats 1000000 in
theorem c_keepsGreys {G : zW} {f : zHM} {m : Nat × Nat} {o mr : Nat} {B : Nat → Nat} {w : Nat → Int32} {hh : Int64} {σ : Nat → Int32} (h : MX f o B w hh σ mr) {g0 : Nat → Int32} (hg0 : f (B 7) = some (708, .inl (0, 144, .inl g0))) : zM G yX4_keepsGreys cX4_keepsGreys 2 none 1 [.ref o] (f, m) (zD none (fun f' m' => (∃ g, f' (B 7) = some (708, .inl (0, 144, .inl g)) ∧ (∀ q, q < 144 → g q = σ (616 + q)) ∧ zFr (fun τ => τ = 708) f f') ∧ m' = m)) := by
  refine zM.of (by decide) (Nat.le_of_ble_eq_true rfl) ?_
  have ho := h.1
  have hs := h.2.1
  have loop : ∀ (kk i : Nat), i + kk = 144 → ∀ (f2 : zHM) (g : Nat → Int32), MX f2 o B w hh σ mr → f2 (B 7) = some (708, .inl (0, 144, .inl g)) → (∀ j, j < i → g j = σ (616 + j)) → zFr (fun τ => τ = 708) f f2 → zV G yX4_keepsGreys cX4_keepsGreys 2 none 1 2 [(0, .ref o), (1, .int (nI i))] [] (f2, m) (zD none (fun f' m' => (∃ g, f' (B 7) = some (708, .inl (0, 144, .inl g)) ∧ (∀ q, q < 144 → g q = σ (616 + q)) ∧ zFr (fun τ => τ = 708) f f') ∧ m' = m)) := by
    intro kk
    induction kk with
    | zero =>
      intro i hi f2 g h2 hg2 hgv hff
      have ho2 := h2.1
      have hs2 := h2.2.1
      refine v_iload_n dX4_keepsGreys_2 rfl rfl ?_
      refine v_sipush (nI 144) dX4_keepsGreys_3 (by decide) ?_
      refine v_icmp_ge 31 dX4_keepsGreys_6 (by decide) (fun b6 => ?_) (fun b6 => ?_)
      · rw [nI_leI (by omega) (by omega)] at b6
        exact v_return dX4_keepsGreys_31 rfl ⟨rfl, ⟨g, hg2, fun q hq => hgv q (by omega), hff⟩, rfl⟩
      · rw [nI_leI (by omega) (by omega)] at b6
        omega
    | succ kk ih =>
      intro i hi f2 g h2 hg2 hgv hff
      have ho2 := h2.1
      have hs2 := h2.2.1
      refine v_iload_n dX4_keepsGreys_2 rfl rfl ?_
      refine v_sipush (nI 144) dX4_keepsGreys_3 (by decide) ?_
      refine v_icmp_ge 31 dX4_keepsGreys_6 (by decide) (fun b6 => ?_) (fun b6 => ?_)
      · rw [nI_leI (by omega) (by omega)] at b6
        omega
      · rw [nI_leI (by omega) (by omega)] at b6
        refine v_aload_n dX4_keepsGreys_9 rfl rfl ?_
        refine v_getfield fX4_32 dX4_keepsGreys_10 (by assumption) (by rfl) ?_
        refine v_iload_n dX4_keepsGreys_13 rfl rfl ?_
        refine v_aload_n dX4_keepsGreys_14 rfl rfl ?_
        refine v_getfield fX4_7 dX4_keepsGreys_15 (by assumption) (by rfl) ?_
        refine v_sipush (nI 616) dX4_keepsGreys_18 (by decide) ?_
        refine v_iload_n dX4_keepsGreys_21 rfl rfl ?_
        refine v_iadd dX4_keepsGreys_22 ?_
        rw [nI_add 616 i]
        refine v_iaload dX4_keepsGreys_23 (by assumption) (vp_in_nI (by omega) (by omega)) ?_
        rw [nI_clamp (n := (616 + i)) (by omega)]
        refine v_iastoreX dX4_keepsGreys_24 hg2 (vp_in_nI (by omega) (by omega)) (fun f3 hp => ?_)
        rw [nI_clamp (n := i) (by omega)] at hp
        have hz : zFr (fun t => t = 708) f2 f3 := zFr.put (T := fun t => t = 708) zFr.refl hp rfl
        refine v_iincN dX4_keepsGreys_25 rfl (by decide) ?_
        refine v_goto 2 dX4_keepsGreys_28 (by decide) ?_
        exact v_loc (lv' := [(0, .ref o), (1, .int (nI (i + 1)))]) ⟨rfl, rfl, trivial⟩ (ih (i + 1) (by omega) f3 _ (h2.fr7 hz (by omega)) hp.1 (fun j hj => by
          show (if j = i then σ (616 + i) else g j) = _
          by_cases e : j = i
          · rw [if_pos e, e]
          · rw [if_neg e, hgv j (by omega)]) (hff.trans hz))
  refine v_iconst (nI 0) dX4_keepsGreys_0 (by decide) ?_
  refine v_istore_n dX4_keepsGreys_1 rfl (by decide) ?_
  exact v_loc (lv' := [(0, .ref o), (1, .int (nI 0))]) ⟨rfl, rfl, trivial⟩ (loop 144 0 (by omega) f g0 h hg0 (fun j hj => absurd hj (Nat.not_lt_zero j)) zFr.refl)
def sTo : Nat → Nat → Nat
  | 0, q => 12 * (q % 12) + 11 - q / 12
  | 1, q => 12 * (q / 12) + 11 - q % 12
  | _, q => q
theorem sTo_ok : ∀ w, w < 3 → ∀ q, q < 144 → sTo w q < 144 ∧ sTs w (sTo w q) = q ∧ sTo w (sTs w q) = q := by decide +kernel
set_option maxRecDepth 10000 in
set_option maxHeartbeats 1000000 in
theorem c_turns_0 {G : zW} {f : zHM} {m : Nat × Nat} {o mr : Nat} {B : Nat → Nat} {w : Nat → Int32} {hh : Int64} {σ : Nat → Int32} (h : MX f o B w hh σ mr) {g : Nat → Int32} (hg : f (B 7) = some (708, .inl (0, 144, .inl g))) {q : Nat} (hq : q < 144) : zM G yX4_turns cX4_turns 6 none 1 [.ref o, .int (nI q), .int (nI 0)] (f, m) (zD none (fun f' m' => (∃ σ', MX f' o B w hh σ' mr ∧ (∀ j, σ' j = if j = 616 + sTo 0 q then sTv 0 (g q) else σ j) ∧ zFr (fun τ => τ = 701) f f') ∧ m' = m)) := by
  refine zM.of (by decide) (Nat.le_of_ble_eq_true rfl) ?_
  have ho := h.1
  have hs := h.2.1
  have hto := (sTo_ok 0 (by omega) q hq).1
  refine v_iload_n dX4_turns_0 rfl rfl ?_
  refine v_bipush (nI 12) dX4_turns_1 (by decide) ?_
  refine v_irem dX4_turns_3 (by decide) ?_
  rw [pk_rem (by omega) (by omega) (by omega)]
  refine v_istore_n dX4_turns_4 rfl (by decide) ?_
  refine v_iload_n dX4_turns_5 rfl rfl ?_
  refine v_bipush (nI 12) dX4_turns_6 (by decide) ?_
  refine v_idiv dX4_turns_8 (by decide) ?_
  rw [pk_div (by omega) (by omega) (by omega)]
  refine v_istore dX4_turns_9 (by decide) ?_
  refine v_iload_n dX4_turns_11 rfl rfl ?_
  refine v_if_ne 28 dX4_turns_12 (by decide) (fun b12 => ?_) (fun b12 => ?_)
  · rw [show (0 : Int32) = nI 0 from rfl] at b12
    rw [nI_eq (by omega) (by omega)] at b12
    omega
  · rw [show (0 : Int32) = nI 0 from rfl] at b12
    rw [nI_eq (by omega) (by omega)] at b12
    refine v_bipush (nI 12) dX4_turns_15 (by decide) ?_
    refine v_iload_n dX4_turns_17 rfl rfl ?_
    refine v_imul dX4_turns_18 ?_
    rw [pk_mul 12 (q % 12)]
    refine v_bipush (nI 11) dX4_turns_19 (by decide) ?_
    refine v_iadd dX4_turns_21 ?_
    rw [nI_add (12 * (q % 12)) 11]
    refine v_iload dX4_turns_22 rfl ?_
    refine v_isub dX4_turns_24 ?_
    rw [pk_sub (a := ((12 * (q % 12)) + 11)) (b := (q / 12)) (by omega)]
    refine v_goto 47 dX4_turns_25 (by decide) ?_
    refine v_istore dX4_turns_47 (by decide) ?_
    refine v_loc (lv' := [(0, .ref o), (1, .int (nI q)), (2, .int (nI 0)), (5, .int (nI (sTo 0 q)))]) ⟨rfl, rfl, rfl, rfl, trivial⟩ ?_
    refine v_aload_n dX4_turns_49 rfl rfl ?_
    refine v_getfield fX4_7 dX4_turns_50 (by assumption) (by rfl) ?_
    refine v_sipush (nI 616) dX4_turns_53 (by decide) ?_
    refine v_iload dX4_turns_56 rfl ?_
    refine v_iadd dX4_turns_58 ?_
    rw [nI_add 616 (sTo 0 q)]
    refine v_iload_n dX4_turns_59 rfl rfl ?_
    refine v_iconst (nI 2) dX4_turns_60 (by decide) ?_
    refine v_icmp_ne 76 dX4_turns_61 (by decide) (fun b61 => ?_) (fun b61 => ?_)
    · rw [nI_eq (by omega) (by omega)] at b61
      refine v_aload_n dX4_turns_76 rfl rfl ?_
      refine v_getfield fX4_32 dX4_turns_77 (by assumption) (by rfl) ?_
      refine v_iload_n dX4_turns_80 rfl rfl ?_
      refine v_iaload dX4_turns_81 (by assumption) (vp_in_nI (by omega) (by omega)) ?_
      rw [nI_clamp (n := q) (by omega)]
      refine v_iastoreX dX4_turns_82 hs (vp_in_nI (by omega) (by omega)) (fun f1 hp1 => ?_)
      rw [nI_clamp (n := 616 + sTo 0 q) (by omega)] at hp1
      have hfz : zFr (fun τ => τ = 701) f f1 := zFr.put (T := fun τ => τ = 701) zFr.refl hp1 rfl
      obtain ⟨h1, -⟩ := MX.st (f0 := f) h hp1 zFr.refl
      obtain ⟨σ1, e1, hg1⟩ := upd_nm σ (616 + sTo 0 q) ((g q))
      rw [← e1] at h1
      exact v_return dX4_turns_83 rfl ⟨rfl, ⟨σ1, h1, fun j => by rw [hg1 j]; rfl, hfz⟩, rfl⟩
    · rw [nI_eq (by omega) (by omega)] at b61
      omega
set_option maxRecDepth 10000 in
set_option maxHeartbeats 1000000 in
theorem c_turns_1 {G : zW} {f : zHM} {m : Nat × Nat} {o mr : Nat} {B : Nat → Nat} {w : Nat → Int32} {hh : Int64} {σ : Nat → Int32} (h : MX f o B w hh σ mr) {g : Nat → Int32} (hg : f (B 7) = some (708, .inl (0, 144, .inl g))) {q : Nat} (hq : q < 144) : zM G yX4_turns cX4_turns 6 none 1 [.ref o, .int (nI q), .int (nI 1)] (f, m) (zD none (fun f' m' => (∃ σ', MX f' o B w hh σ' mr ∧ (∀ j, σ' j = if j = 616 + sTo 1 q then sTv 1 (g q) else σ j) ∧ zFr (fun τ => τ = 701) f f') ∧ m' = m)) := by
  refine zM.of (by decide) (Nat.le_of_ble_eq_true rfl) ?_
  have ho := h.1
  have hs := h.2.1
  have hto := (sTo_ok 1 (by omega) q hq).1
  refine v_iload_n dX4_turns_0 rfl rfl ?_
  refine v_bipush (nI 12) dX4_turns_1 (by decide) ?_
  refine v_irem dX4_turns_3 (by decide) ?_
  rw [pk_rem (by omega) (by omega) (by omega)]
  refine v_istore_n dX4_turns_4 rfl (by decide) ?_
  refine v_iload_n dX4_turns_5 rfl rfl ?_
  refine v_bipush (nI 12) dX4_turns_6 (by decide) ?_
  refine v_idiv dX4_turns_8 (by decide) ?_
  rw [pk_div (by omega) (by omega) (by omega)]
  refine v_istore dX4_turns_9 (by decide) ?_
  refine v_iload_n dX4_turns_11 rfl rfl ?_
  refine v_if_ne 28 dX4_turns_12 (by decide) (fun b12 => ?_) (fun b12 => ?_)
  · rw [show (0 : Int32) = nI 0 from rfl] at b12
    rw [nI_eq (by omega) (by omega)] at b12
    refine v_iload_n dX4_turns_28 rfl rfl ?_
    refine v_iconst (nI 1) dX4_turns_29 (by decide) ?_
    refine v_icmp_ne 46 dX4_turns_30 (by decide) (fun b30 => ?_) (fun b30 => ?_)
    · rw [nI_eq (by omega) (by omega)] at b30
      omega
    · rw [nI_eq (by omega) (by omega)] at b30
      refine v_bipush (nI 12) dX4_turns_33 (by decide) ?_
      refine v_iload dX4_turns_35 rfl ?_
      refine v_imul dX4_turns_37 ?_
      rw [pk_mul 12 (q / 12)]
      refine v_bipush (nI 11) dX4_turns_38 (by decide) ?_
      refine v_iadd dX4_turns_40 ?_
      rw [nI_add (12 * (q / 12)) 11]
      refine v_iload_n dX4_turns_41 rfl rfl ?_
      refine v_isub dX4_turns_42 ?_
      rw [pk_sub (a := ((12 * (q / 12)) + 11)) (b := (q % 12)) (by omega)]
      refine v_goto 47 dX4_turns_43 (by decide) ?_
      refine v_istore dX4_turns_47 (by decide) ?_
      refine v_loc (lv' := [(0, .ref o), (1, .int (nI q)), (2, .int (nI 1)), (5, .int (nI (sTo 1 q)))]) ⟨rfl, rfl, rfl, rfl, trivial⟩ ?_
      refine v_aload_n dX4_turns_49 rfl rfl ?_
      refine v_getfield fX4_7 dX4_turns_50 (by assumption) (by rfl) ?_
      refine v_sipush (nI 616) dX4_turns_53 (by decide) ?_
      refine v_iload dX4_turns_56 rfl ?_
      refine v_iadd dX4_turns_58 ?_
      rw [nI_add 616 (sTo 1 q)]
      refine v_iload_n dX4_turns_59 rfl rfl ?_
      refine v_iconst (nI 2) dX4_turns_60 (by decide) ?_
      refine v_icmp_ne 76 dX4_turns_61 (by decide) (fun b61 => ?_) (fun b61 => ?_)
      · rw [nI_eq (by omega) (by omega)] at b61
        refine v_aload_n dX4_turns_76 rfl rfl ?_
        refine v_getfield fX4_32 dX4_turns_77 (by assumption) (by rfl) ?_
        refine v_iload_n dX4_turns_80 rfl rfl ?_
        refine v_iaload dX4_turns_81 (by assumption) (vp_in_nI (by omega) (by omega)) ?_
        rw [nI_clamp (n := q) (by omega)]
        refine v_iastoreX dX4_turns_82 hs (vp_in_nI (by omega) (by omega)) (fun f1 hp1 => ?_)
        rw [nI_clamp (n := 616 + sTo 1 q) (by omega)] at hp1
        have hfz : zFr (fun τ => τ = 701) f f1 := zFr.put (T := fun τ => τ = 701) zFr.refl hp1 rfl
        obtain ⟨h1, -⟩ := MX.st (f0 := f) h hp1 zFr.refl
        obtain ⟨σ1, e1, hg1⟩ := upd_nm σ (616 + sTo 1 q) ((g q))
        rw [← e1] at h1
        exact v_return dX4_turns_83 rfl ⟨rfl, ⟨σ1, h1, fun j => by rw [hg1 j]; rfl, hfz⟩, rfl⟩
      · rw [nI_eq (by omega) (by omega)] at b61
        omega
  · rw [show (0 : Int32) = nI 0 from rfl] at b12
    rw [nI_eq (by omega) (by omega)] at b12
    omega
set_option maxRecDepth 10000 in
set_option maxHeartbeats 1000000 in
theorem c_turns_2 {G : zW} {f : zHM} {m : Nat × Nat} {o mr : Nat} {B : Nat → Nat} {w : Nat → Int32} {hh : Int64} {σ : Nat → Int32} (h : MX f o B w hh σ mr) {g : Nat → Int32} (hg : f (B 7) = some (708, .inl (0, 144, .inl g))) {q : Nat} (hq : q < 144) : zM G yX4_turns cX4_turns 6 none 1 [.ref o, .int (nI q), .int (nI 2)] (f, m) (zD none (fun f' m' => (∃ σ', MX f' o B w hh σ' mr ∧ (∀ j, σ' j = if j = 616 + sTo 2 q then sTv 2 (g q) else σ j) ∧ zFr (fun τ => τ = 701) f f') ∧ m' = m)) := by
  refine zM.of (by decide) (Nat.le_of_ble_eq_true rfl) ?_
  have ho := h.1
  have hs := h.2.1
  have hto := (sTo_ok 2 (by omega) q hq).1
  refine v_iload_n dX4_turns_0 rfl rfl ?_
  refine v_bipush (nI 12) dX4_turns_1 (by decide) ?_
  refine v_irem dX4_turns_3 (by decide) ?_
  rw [pk_rem (by omega) (by omega) (by omega)]
  refine v_istore_n dX4_turns_4 rfl (by decide) ?_
  refine v_iload_n dX4_turns_5 rfl rfl ?_
  refine v_bipush (nI 12) dX4_turns_6 (by decide) ?_
  refine v_idiv dX4_turns_8 (by decide) ?_
  rw [pk_div (by omega) (by omega) (by omega)]
  refine v_istore dX4_turns_9 (by decide) ?_
  refine v_iload_n dX4_turns_11 rfl rfl ?_
  refine v_if_ne 28 dX4_turns_12 (by decide) (fun b12 => ?_) (fun b12 => ?_)
  · rw [show (0 : Int32) = nI 0 from rfl] at b12
    rw [nI_eq (by omega) (by omega)] at b12
    refine v_iload_n dX4_turns_28 rfl rfl ?_
    refine v_iconst (nI 1) dX4_turns_29 (by decide) ?_
    refine v_icmp_ne 46 dX4_turns_30 (by decide) (fun b30 => ?_) (fun b30 => ?_)
    · rw [nI_eq (by omega) (by omega)] at b30
      refine v_iload_n dX4_turns_46 rfl rfl ?_
      refine v_istore dX4_turns_47 (by decide) ?_
      refine v_loc (lv' := [(0, .ref o), (1, .int (nI q)), (2, .int (nI 2)), (5, .int (nI (sTo 2 q)))]) ⟨rfl, rfl, rfl, rfl, trivial⟩ ?_
      refine v_aload_n dX4_turns_49 rfl rfl ?_
      refine v_getfield fX4_7 dX4_turns_50 (by assumption) (by rfl) ?_
      refine v_sipush (nI 616) dX4_turns_53 (by decide) ?_
      refine v_iload dX4_turns_56 rfl ?_
      refine v_iadd dX4_turns_58 ?_
      rw [nI_add 616 (sTo 2 q)]
      refine v_iload_n dX4_turns_59 rfl rfl ?_
      refine v_iconst (nI 2) dX4_turns_60 (by decide) ?_
      refine v_icmp_ne 76 dX4_turns_61 (by decide) (fun b61 => ?_) (fun b61 => ?_)
      · rw [nI_eq (by omega) (by omega)] at b61
        omega
      · rw [nI_eq (by omega) (by omega)] at b61
        refine v_bipush (9) dX4_turns_64 (by decide) ?_
        refine v_aload_n dX4_turns_66 rfl rfl ?_
        refine v_getfield fX4_32 dX4_turns_67 (by assumption) (by rfl) ?_
        refine v_iload_n dX4_turns_70 rfl rfl ?_
        refine v_iaload dX4_turns_71 (by assumption) (vp_in_nI (by omega) (by omega)) ?_
        rw [nI_clamp (n := q) (by omega)]
        refine v_isub dX4_turns_72 ?_
        refine v_goto 82 dX4_turns_73 (by decide) ?_
        refine v_iastoreX dX4_turns_82 hs (vp_in_nI (by omega) (by omega)) (fun f1 hp1 => ?_)
        rw [nI_clamp (n := 616 + sTo 2 q) (by omega)] at hp1
        have hfz : zFr (fun τ => τ = 701) f f1 := zFr.put (T := fun τ => τ = 701) zFr.refl hp1 rfl
        obtain ⟨h1, -⟩ := MX.st (f0 := f) h hp1 zFr.refl
        obtain ⟨σ1, e1, hg1⟩ := upd_nm σ (616 + sTo 2 q) ((9 - (g q)))
        rw [← e1] at h1
        exact v_return dX4_turns_83 rfl ⟨rfl, ⟨σ1, h1, fun j => by rw [hg1 j]; rfl, hfz⟩, rfl⟩
    · rw [nI_eq (by omega) (by omega)] at b30
      omega
  · rw [show (0 : Int32) = nI 0 from rfl] at b12
    rw [nI_eq (by omega) (by omega)] at b12
    omega
theorem sLack_eq {n : Nat} {ρ ρ' : zRS} (h : zEQ n ρ ρ') {q : Nat} (hq : q < 144) : sLack ρ q = sLack ρ' q := by
  unfold sLack
  rw [(h.2.2.2 q hq).1, (h.2.2.2 q hq).2, (h.2.1 2 (by omega)).2.2]
theorem sMisfit_eq {n : Nat} {ρ ρ' : zRS} (h : zEQ n ρ ρ') : sMisfit ρ = sMisfit ρ' := sSum_congr 144 fun q hq => by rw [sLack_eq h hq]
set_option maxRecDepth 10000 in
set_option maxHeartbeats 1000000 in
theorem c_m9turnFace_0 {G : zW} {f : zHM} {m : Nat × Nat} {o mr : Nat} {B : Nat → Nat} {w : Nat → Int32} {hh : Int64} {σ : Nat → Int32} (h : MX f o B w hh σ mr) {th : Int32} {k L : Nat} {sv : Nat → Nat → Int32} {hsl : Nat → Int32} {sl : Nat → Nat → Int32} {ch : Nat → Nat} (t : w 0 = th) (k0 : w 1 = nI k) (l0 : w 2 = nI L) (O : zNO f B k sv hsl sl L ch) : zM G yX4_turnFace cX4_turnFace 3 (some .int) 9 [.ref o, .int (nI 0)] (f, m) (zD (some (.int (sMisfit (zset (rOf σ) 7 (sTurn 0 (rOf σ 7)))))) (fun f' m' => zNP f o B hh mr 0 0 (sPK k) (sPM k sv σ) hsl sl L ch (fun σ' => (∀ n, n ≤ 200 → zEQ n (zset (rOf σ) 7 (sTurn 0 (rOf σ 7))) (rOf σ')) ∧ σ' 15 = σ 15) f' ∧ m' = m)) := by
  refine zM.of (by decide) (Nat.le_of_ble_eq_true rfl) ?_
  have ho := h.1
  have hs := h.2.1
  refine v_aload_n dX4_turnFace_0 rfl rfl ?_
  refine v_iconst (nI 0) dX4_turnFace_1 (by decide) ?_
  refine v_putfieldX fX4_35 dX4_turnFace_2 (by assumption) rfl rfl (Nat.le_of_ble_eq_true rfl) (fun f1 hp1 => ?_)
  obtain ⟨h1, hf1⟩ := MX.put (w' := zUp w 0 (nI 0)) (f0 := f) h hp1 rfl zFr.refl
  obtain ⟨w1, ew1⟩ : ∃ w9, w9 = zUp w 0 (nI 0) := ⟨_, rfl⟩
  rw [← ew1] at h1
  clear hp1
  have ho1 := h1.1
  have hs1 := h1.2.1
  have t1 : w1 0 = nI 0 := by rw [ew1]; rfl
  have k1 := (show w1 1 = w 1 from by rw [ew1]; rfl).trans k0
  have l1 := (show w1 2 = w 2 from by rw [ew1]; rfl).trans l0
  have O1 := zNO.fr O hf1 (by intro τ h; rcases h with h | h | h | h <;> omega)
  have F1 := zFr.trans zFr.refl (zFr.weaken hf1 zTYZ)
  refine v_iload_n dX4_turnFace_5 rfl rfl ?_
  refine v_iconst (nI 0) dX4_turnFace_6 (by decide) ?_
  refine v_iconst (nI 2) dX4_turnFace_7 (by decide) ?_
  refine v_callSp kX4_42 gs_X4_in dX4_turnFace_8 c_in rfl rfl (by decide) (Nat.le_of_ble_eq_true rfl) ?_
  rw [inN_y (Nat.zero_le 0) (show 0 ≤ 2 by omega) (by omega)]
  refine v_if_ne 20 dX4_turnFace_11 (by decide) (fun b11 => ?_) (fun b11 => ?_)
  · rw [show (0 : Int32) = nI 0 from rfl] at b11
    rw [nI_eq (by omega) (by omega)] at b11
    refine v_aload_n dX4_turnFace_20 rfl rfl ?_
    refine v_callV0 kX4_121 gi_X4_saves ge_X4_saves rfl dX4_turnFace_21 (by assumption) (c_saves h1 k1 O1) rfl rfl (by decide) (Nat.le_of_ble_eq_true rfl) (fun f2 m hc2 => ?_)
    obtain ⟨⟨w2, h2, hk0, k2, O2, hf2⟩, rfl⟩ := hc2
    have t2 := (hk0 0 (by decide)).trans t1
    have l2 := (hk0 2 (by decide)).trans l1
    have F2 := zFr.trans F1 hf2
    have ho2 := h2.1
    have hs2 := h2.2.1
    refine v_aload_n dX4_turnFace_24 rfl rfl ?_
    obtain ⟨-, -, -, -, g0, hg0⟩ := id O2
    refine v_callV0 kX4_150 gi_X4_keepsGreys ge_X4_keepsGreys rfl dX4_turnFace_25 (by assumption) (c_keepsGreys h2 hg0) rfl rfl (by decide) (Nat.le_of_ble_eq_true rfl) (fun f3 m hc3 => ?_)
    obtain ⟨⟨gg, hgg, hgv, hf3⟩, rfl⟩ := hc3
    have h3 := MX.fr7 h2 hf3 (by omega)
    have O3 : zNO f3 B (sPK k) (sPM k sv σ) hsl sl L ch := by
      obtain ⟨⟨a1, g1, a2, a3⟩, ⟨g2, a4, a5⟩, ⟨g3, a6, a7⟩, ⟨a8, g4, a9, a10⟩, -⟩ := id O2
      exact ⟨⟨a1, g1, hf3 _ _ _ a2 (by omega), a3⟩, ⟨g2, hf3 _ _ _ a4 (by omega), a5⟩, ⟨g3, hf3 _ _ _ a6 (by omega), a7⟩, ⟨a8, g4, hf3 _ _ _ a9 (by omega), a10⟩, gg, hgg⟩
    have F3 := zFr.trans F2 (hf3.weaken (fun τ e => (⟨by omega, by omega⟩ : zTZ τ)))
    have ho3 := h3.1
    have hs3 := h3.2.1
    refine v_iconst (nI 0) dX4_turnFace_28 (by decide) ?_
    refine v_istore_n dX4_turnFace_29 rfl (by decide) ?_
    have loop : ∀ (kk i : Nat), i + kk = 144 → ∀ (fx : zHM) (σx : Nat → Int32), MX fx o B w2 hh σx mr → (∀ p, p < 144 → σx (616 + p) = if sTs 0 p < i then sTv 0 (σ (616 + sTs 0 p)) else σ (616 + p)) → (∀ j, j < 616 ∨ 760 ≤ j → σx j = σ j) → zFr (fun τ => τ = 701) f3 fx → zV G yX4_turnFace cX4_turnFace 3 (some .int) 9 30 [(0, .ref o), (1, .int (nI 0)), (2, .int (nI i))] [] (fx, m) (zD (some (.int (sMisfit (zset (rOf σ) 7 (sTurn 0 (rOf σ 7)))))) (fun f' m' => zNP f o B hh mr 0 0 (sPK k) (sPM k sv σ) hsl sl L ch (fun σ' => (∀ n, n ≤ 200 → zEQ n (zset (rOf σ) 7 (sTurn 0 (rOf σ 7))) (rOf σ')) ∧ σ' 15 = σ 15) f' ∧ m' = m)) := by
      intro kk
      induction kk with
      | zero =>
        intro i hi fx σx hx hst hlo hffx
        have hox := hx.1
        have hsx := hx.2.1
        have Ox := zNO.fr O3 hffx (by omega)
        have Fx := zFr.trans F3 (hffx.weaken (fun τ e => (⟨by omega, by omega⟩ : zTZ τ)))
        refine v_iload_n dX4_turnFace_30 rfl rfl ?_
        refine v_sipush (nI 144) dX4_turnFace_31 (by decide) ?_
        refine v_icmp_ge 49 dX4_turnFace_34 (by decide) (fun b34 => ?_) (fun b34 => ?_)
        · rw [nI_leI (by omega) (by omega)] at b34
          have hE : ∀ n, n ≤ 200 → zEQ n (zset (rOf σ) 7 (sTurn 0 (rOf σ 7))) (rOf σx) := fun n hn => by
            refine ⟨fun i hi => (hlo i (by omega)).symm, fun i hi => ⟨(hlo (9 + 2 * i) (by omega)).symm, (hlo (9 + 2 * i + 1) (by omega)).symm, (hlo (6 + i) (by omega)).symm⟩, fun c hc => ⟨(hlo (16 + 3 * c) (by omega)).symm, (hlo (16 + 3 * c + 1) (by omega)).symm, (hlo (16 + 3 * c + 2) (by omega)).symm⟩, fun q hq => ⟨?_, (hlo (760 + q) (by omega)).symm⟩⟩
            show sTv 0 (σ (616 + sTs 0 q)) = σx (616 + q)
            rw [hst q hq, if_pos (by have := sTs_lt (w := 0) hq; omega)]
          refine v_aload_n dX4_turnFace_49 rfl rfl ?_
          refine v_callVp kX4_156 gi_X4_misfit ge_X4_misfit rfl dX4_turnFace_50 (by assumption) (c_mmisfit hox hsx) rfl rfl (by decide) (Nat.le_of_ble_eq_true rfl) ?_
          exact v_ireturn dX4_turnFace_53 rfl ⟨by rw [sMisfit_eq (hE 0 (by omega))], ⟨σx, mr, by omega, ⟨w2, hx, t2, k2, l2, Ox⟩, ⟨hE, hlo 15 (by omega)⟩, Fx⟩, rfl⟩
        · rw [nI_leI (by omega) (by omega)] at b34
          omega
      | succ kk ih =>
        intro i hi fx σx hx hst hlo hffx
        have hox := hx.1
        have hsx := hx.2.1
        have hi9 : i < 144 := by omega
        have hggx := hffx _ _ _ hgg (by omega)
        refine v_iload_n dX4_turnFace_30 rfl rfl ?_
        refine v_sipush (nI 144) dX4_turnFace_31 (by decide) ?_
        refine v_icmp_ge 49 dX4_turnFace_34 (by decide) (fun b34 => ?_) (fun b34 => ?_)
        · rw [nI_leI (by omega) (by omega)] at b34
          omega
        · rw [nI_leI (by omega) (by omega)] at b34
          refine v_aload_n dX4_turnFace_37 rfl rfl ?_
          refine v_iload_n dX4_turnFace_38 rfl rfl ?_
          refine v_iload_n dX4_turnFace_39 rfl rfl ?_
          refine v_callV0 kX4_153 gi_X4_turns ge_X4_turns rfl dX4_turnFace_40 (by assumption) (c_turns_0 hx hggx hi9) rfl rfl (by decide) (Nat.le_of_ble_eq_true rfl) (fun fy m hcy => ?_)
          obtain ⟨⟨σy, hy, hyv, hfy⟩, rfl⟩ := hcy
          have htk := sTo_ok 0 (by omega)
          refine v_iincN dX4_turnFace_43 rfl (by decide) ?_
          refine v_goto 30 dX4_turnFace_46 (by decide) ?_
          exact v_loc (lv' := [(0, .ref o), (1, .int (nI 0)), (2, .int (nI (i + 1)))]) ⟨rfl, rfl, rfl, trivial⟩ (ih (i + 1) (by omega) fy σy hy (fun p hp => by
            have hk := htk p hp
            have hk2 := htk i hi9
            rw [hyv]
            by_cases e : p = sTo 0 i
            · have e2 : sTs 0 p = i := by rw [e]; exact hk2.2.1
              rw [if_pos (by omega), if_pos (by omega), e2, hgv i hi9]
            · have e2 : sTs 0 p ≠ i := fun z => e (by rw [← z]; exact hk.2.2.symm)
              rw [if_neg (by omega), hst p hp]
              by_cases e3 : sTs 0 p < i
              · rw [if_pos e3, if_pos (by omega)]
              · rw [if_neg e3, if_neg (by omega)]) (fun j hj => by
            have hk2 := htk i hi9
            rw [hyv, if_neg (by omega), hlo j hj]) (hffx.trans hfy))
    exact v_loc (lv' := [(0, .ref o), (1, .int (nI 0)), (2, .int (nI 0))]) ⟨rfl, rfl, rfl, trivial⟩ (loop 144 0 (by omega) f3 σ h3 (fun p hp => by rw [if_neg (by omega)]) (fun j hj => rfl) zFr.refl)
  · rw [show (0 : Int32) = nI 0 from rfl] at b11
    rw [nI_eq (by omega) (by omega)] at b11
    omega
set_option maxRecDepth 10000 in
set_option maxHeartbeats 1000000 in
theorem c_m9turnFace_1 {G : zW} {f : zHM} {m : Nat × Nat} {o mr : Nat} {B : Nat → Nat} {w : Nat → Int32} {hh : Int64} {σ : Nat → Int32} (h : MX f o B w hh σ mr) {th : Int32} {k L : Nat} {sv : Nat → Nat → Int32} {hsl : Nat → Int32} {sl : Nat → Nat → Int32} {ch : Nat → Nat} (t : w 0 = th) (k0 : w 1 = nI k) (l0 : w 2 = nI L) (O : zNO f B k sv hsl sl L ch) : zM G yX4_turnFace cX4_turnFace 3 (some .int) 9 [.ref o, .int (nI 1)] (f, m) (zD (some (.int (sMisfit (zset (rOf σ) 7 (sTurn 1 (rOf σ 7)))))) (fun f' m' => zNP f o B hh mr 0 0 (sPK k) (sPM k sv σ) hsl sl L ch (fun σ' => (∀ n, n ≤ 200 → zEQ n (zset (rOf σ) 7 (sTurn 1 (rOf σ 7))) (rOf σ')) ∧ σ' 15 = σ 15) f' ∧ m' = m)) := by
  refine zM.of (by decide) (Nat.le_of_ble_eq_true rfl) ?_
  have ho := h.1
  have hs := h.2.1
  refine v_aload_n dX4_turnFace_0 rfl rfl ?_
  refine v_iconst (nI 0) dX4_turnFace_1 (by decide) ?_
  refine v_putfieldX fX4_35 dX4_turnFace_2 (by assumption) rfl rfl (Nat.le_of_ble_eq_true rfl) (fun f1 hp1 => ?_)
  obtain ⟨h1, hf1⟩ := MX.put (w' := zUp w 0 (nI 0)) (f0 := f) h hp1 rfl zFr.refl
  obtain ⟨w1, ew1⟩ : ∃ w9, w9 = zUp w 0 (nI 0) := ⟨_, rfl⟩
  rw [← ew1] at h1
  clear hp1
  have ho1 := h1.1
  have hs1 := h1.2.1
  have t1 : w1 0 = nI 0 := by rw [ew1]; rfl
  have k1 := (show w1 1 = w 1 from by rw [ew1]; rfl).trans k0
  have l1 := (show w1 2 = w 2 from by rw [ew1]; rfl).trans l0
  have O1 := zNO.fr O hf1 (by intro τ h; rcases h with h | h | h | h <;> omega)
  have F1 := zFr.trans zFr.refl (zFr.weaken hf1 zTYZ)
  refine v_iload_n dX4_turnFace_5 rfl rfl ?_
  refine v_iconst (nI 0) dX4_turnFace_6 (by decide) ?_
  refine v_iconst (nI 2) dX4_turnFace_7 (by decide) ?_
  refine v_callSp kX4_42 gs_X4_in dX4_turnFace_8 c_in rfl rfl (by decide) (Nat.le_of_ble_eq_true rfl) ?_
  rw [inN_y (Nat.zero_le 1) (show 1 ≤ 2 by omega) (by omega)]
  refine v_if_ne 20 dX4_turnFace_11 (by decide) (fun b11 => ?_) (fun b11 => ?_)
  · rw [show (0 : Int32) = nI 0 from rfl] at b11
    rw [nI_eq (by omega) (by omega)] at b11
    refine v_aload_n dX4_turnFace_20 rfl rfl ?_
    refine v_callV0 kX4_121 gi_X4_saves ge_X4_saves rfl dX4_turnFace_21 (by assumption) (c_saves h1 k1 O1) rfl rfl (by decide) (Nat.le_of_ble_eq_true rfl) (fun f2 m hc2 => ?_)
    obtain ⟨⟨w2, h2, hk0, k2, O2, hf2⟩, rfl⟩ := hc2
    have t2 := (hk0 0 (by decide)).trans t1
    have l2 := (hk0 2 (by decide)).trans l1
    have F2 := zFr.trans F1 hf2
    have ho2 := h2.1
    have hs2 := h2.2.1
    refine v_aload_n dX4_turnFace_24 rfl rfl ?_
    obtain ⟨-, -, -, -, g0, hg0⟩ := id O2
    refine v_callV0 kX4_150 gi_X4_keepsGreys ge_X4_keepsGreys rfl dX4_turnFace_25 (by assumption) (c_keepsGreys h2 hg0) rfl rfl (by decide) (Nat.le_of_ble_eq_true rfl) (fun f3 m hc3 => ?_)
    obtain ⟨⟨gg, hgg, hgv, hf3⟩, rfl⟩ := hc3
    have h3 := MX.fr7 h2 hf3 (by omega)
    have O3 : zNO f3 B (sPK k) (sPM k sv σ) hsl sl L ch := by
      obtain ⟨⟨a1, g1, a2, a3⟩, ⟨g2, a4, a5⟩, ⟨g3, a6, a7⟩, ⟨a8, g4, a9, a10⟩, -⟩ := id O2
      exact ⟨⟨a1, g1, hf3 _ _ _ a2 (by omega), a3⟩, ⟨g2, hf3 _ _ _ a4 (by omega), a5⟩, ⟨g3, hf3 _ _ _ a6 (by omega), a7⟩, ⟨a8, g4, hf3 _ _ _ a9 (by omega), a10⟩, gg, hgg⟩
    have F3 := zFr.trans F2 (hf3.weaken (fun τ e => (⟨by omega, by omega⟩ : zTZ τ)))
    have ho3 := h3.1
    have hs3 := h3.2.1
    refine v_iconst (nI 0) dX4_turnFace_28 (by decide) ?_
    refine v_istore_n dX4_turnFace_29 rfl (by decide) ?_
    have loop : ∀ (kk i : Nat), i + kk = 144 → ∀ (fx : zHM) (σx : Nat → Int32), MX fx o B w2 hh σx mr → (∀ p, p < 144 → σx (616 + p) = if sTs 1 p < i then sTv 1 (σ (616 + sTs 1 p)) else σ (616 + p)) → (∀ j, j < 616 ∨ 760 ≤ j → σx j = σ j) → zFr (fun τ => τ = 701) f3 fx → zV G yX4_turnFace cX4_turnFace 3 (some .int) 9 30 [(0, .ref o), (1, .int (nI 1)), (2, .int (nI i))] [] (fx, m) (zD (some (.int (sMisfit (zset (rOf σ) 7 (sTurn 1 (rOf σ 7)))))) (fun f' m' => zNP f o B hh mr 0 0 (sPK k) (sPM k sv σ) hsl sl L ch (fun σ' => (∀ n, n ≤ 200 → zEQ n (zset (rOf σ) 7 (sTurn 1 (rOf σ 7))) (rOf σ')) ∧ σ' 15 = σ 15) f' ∧ m' = m)) := by
      intro kk
      induction kk with
      | zero =>
        intro i hi fx σx hx hst hlo hffx
        have hox := hx.1
        have hsx := hx.2.1
        have Ox := zNO.fr O3 hffx (by omega)
        have Fx := zFr.trans F3 (hffx.weaken (fun τ e => (⟨by omega, by omega⟩ : zTZ τ)))
        refine v_iload_n dX4_turnFace_30 rfl rfl ?_
        refine v_sipush (nI 144) dX4_turnFace_31 (by decide) ?_
        refine v_icmp_ge 49 dX4_turnFace_34 (by decide) (fun b34 => ?_) (fun b34 => ?_)
        · rw [nI_leI (by omega) (by omega)] at b34
          have hE : ∀ n, n ≤ 200 → zEQ n (zset (rOf σ) 7 (sTurn 1 (rOf σ 7))) (rOf σx) := fun n hn => by
            refine ⟨fun i hi => (hlo i (by omega)).symm, fun i hi => ⟨(hlo (9 + 2 * i) (by omega)).symm, (hlo (9 + 2 * i + 1) (by omega)).symm, (hlo (6 + i) (by omega)).symm⟩, fun c hc => ⟨(hlo (16 + 3 * c) (by omega)).symm, (hlo (16 + 3 * c + 1) (by omega)).symm, (hlo (16 + 3 * c + 2) (by omega)).symm⟩, fun q hq => ⟨?_, (hlo (760 + q) (by omega)).symm⟩⟩
            show sTv 1 (σ (616 + sTs 1 q)) = σx (616 + q)
            rw [hst q hq, if_pos (by have := sTs_lt (w := 1) hq; omega)]
          refine v_aload_n dX4_turnFace_49 rfl rfl ?_
          refine v_callVp kX4_156 gi_X4_misfit ge_X4_misfit rfl dX4_turnFace_50 (by assumption) (c_mmisfit hox hsx) rfl rfl (by decide) (Nat.le_of_ble_eq_true rfl) ?_
          exact v_ireturn dX4_turnFace_53 rfl ⟨by rw [sMisfit_eq (hE 0 (by omega))], ⟨σx, mr, by omega, ⟨w2, hx, t2, k2, l2, Ox⟩, ⟨hE, hlo 15 (by omega)⟩, Fx⟩, rfl⟩
        · rw [nI_leI (by omega) (by omega)] at b34
          omega
      | succ kk ih =>
        intro i hi fx σx hx hst hlo hffx
        have hox := hx.1
        have hsx := hx.2.1
        have hi9 : i < 144 := by omega
        have hggx := hffx _ _ _ hgg (by omega)
        refine v_iload_n dX4_turnFace_30 rfl rfl ?_
        refine v_sipush (nI 144) dX4_turnFace_31 (by decide) ?_
        refine v_icmp_ge 49 dX4_turnFace_34 (by decide) (fun b34 => ?_) (fun b34 => ?_)
        · rw [nI_leI (by omega) (by omega)] at b34
          omega
        · rw [nI_leI (by omega) (by omega)] at b34
          refine v_aload_n dX4_turnFace_37 rfl rfl ?_
          refine v_iload_n dX4_turnFace_38 rfl rfl ?_
          refine v_iload_n dX4_turnFace_39 rfl rfl ?_
          refine v_callV0 kX4_153 gi_X4_turns ge_X4_turns rfl dX4_turnFace_40 (by assumption) (c_turns_1 hx hggx hi9) rfl rfl (by decide) (Nat.le_of_ble_eq_true rfl) (fun fy m hcy => ?_)
          obtain ⟨⟨σy, hy, hyv, hfy⟩, rfl⟩ := hcy
          have htk := sTo_ok 1 (by omega)
          refine v_iincN dX4_turnFace_43 rfl (by decide) ?_
          refine v_goto 30 dX4_turnFace_46 (by decide) ?_
          exact v_loc (lv' := [(0, .ref o), (1, .int (nI 1)), (2, .int (nI (i + 1)))]) ⟨rfl, rfl, rfl, trivial⟩ (ih (i + 1) (by omega) fy σy hy (fun p hp => by
            have hk := htk p hp
            have hk2 := htk i hi9
            rw [hyv]
            by_cases e : p = sTo 1 i
            · have e2 : sTs 1 p = i := by rw [e]; exact hk2.2.1
              rw [if_pos (by omega), if_pos (by omega), e2, hgv i hi9]
            · have e2 : sTs 1 p ≠ i := fun z => e (by rw [← z]; exact hk.2.2.symm)
              rw [if_neg (by omega), hst p hp]
              by_cases e3 : sTs 1 p < i
              · rw [if_pos e3, if_pos (by omega)]
              · rw [if_neg e3, if_neg (by omega)]) (fun j hj => by
            have hk2 := htk i hi9
            rw [hyv, if_neg (by omega), hlo j hj]) (hffx.trans hfy))
    exact v_loc (lv' := [(0, .ref o), (1, .int (nI 1)), (2, .int (nI 0))]) ⟨rfl, rfl, rfl, trivial⟩ (loop 144 0 (by omega) f3 σ h3 (fun p hp => by rw [if_neg (by omega)]) (fun j hj => rfl) zFr.refl)
  · rw [show (0 : Int32) = nI 0 from rfl] at b11
    rw [nI_eq (by omega) (by omega)] at b11
    omega
set_option maxRecDepth 10000 in
set_option maxHeartbeats 1000000 in
theorem c_m9turnFace_2 {G : zW} {f : zHM} {m : Nat × Nat} {o mr : Nat} {B : Nat → Nat} {w : Nat → Int32} {hh : Int64} {σ : Nat → Int32} (h : MX f o B w hh σ mr) {th : Int32} {k L : Nat} {sv : Nat → Nat → Int32} {hsl : Nat → Int32} {sl : Nat → Nat → Int32} {ch : Nat → Nat} (t : w 0 = th) (k0 : w 1 = nI k) (l0 : w 2 = nI L) (O : zNO f B k sv hsl sl L ch) : zM G yX4_turnFace cX4_turnFace 3 (some .int) 9 [.ref o, .int (nI 2)] (f, m) (zD (some (.int (sMisfit (zset (rOf σ) 7 (sTurn 2 (rOf σ 7)))))) (fun f' m' => zNP f o B hh mr 0 0 (sPK k) (sPM k sv σ) hsl sl L ch (fun σ' => (∀ n, n ≤ 200 → zEQ n (zset (rOf σ) 7 (sTurn 2 (rOf σ 7))) (rOf σ')) ∧ σ' 15 = σ 15) f' ∧ m' = m)) := by
  refine zM.of (by decide) (Nat.le_of_ble_eq_true rfl) ?_
  have ho := h.1
  have hs := h.2.1
  refine v_aload_n dX4_turnFace_0 rfl rfl ?_
  refine v_iconst (nI 0) dX4_turnFace_1 (by decide) ?_
  refine v_putfieldX fX4_35 dX4_turnFace_2 (by assumption) rfl rfl (Nat.le_of_ble_eq_true rfl) (fun f1 hp1 => ?_)
  obtain ⟨h1, hf1⟩ := MX.put (w' := zUp w 0 (nI 0)) (f0 := f) h hp1 rfl zFr.refl
  obtain ⟨w1, ew1⟩ : ∃ w9, w9 = zUp w 0 (nI 0) := ⟨_, rfl⟩
  rw [← ew1] at h1
  clear hp1
  have ho1 := h1.1
  have hs1 := h1.2.1
  have t1 : w1 0 = nI 0 := by rw [ew1]; rfl
  have k1 := (show w1 1 = w 1 from by rw [ew1]; rfl).trans k0
  have l1 := (show w1 2 = w 2 from by rw [ew1]; rfl).trans l0
  have O1 := zNO.fr O hf1 (by intro τ h; rcases h with h | h | h | h <;> omega)
  have F1 := zFr.trans zFr.refl (zFr.weaken hf1 zTYZ)
  refine v_iload_n dX4_turnFace_5 rfl rfl ?_
  refine v_iconst (nI 0) dX4_turnFace_6 (by decide) ?_
  refine v_iconst (nI 2) dX4_turnFace_7 (by decide) ?_
  refine v_callSp kX4_42 gs_X4_in dX4_turnFace_8 c_in rfl rfl (by decide) (Nat.le_of_ble_eq_true rfl) ?_
  rw [inN_y (Nat.zero_le 2) (show 2 ≤ 2 by omega) (by omega)]
  refine v_if_ne 20 dX4_turnFace_11 (by decide) (fun b11 => ?_) (fun b11 => ?_)
  · rw [show (0 : Int32) = nI 0 from rfl] at b11
    rw [nI_eq (by omega) (by omega)] at b11
    refine v_aload_n dX4_turnFace_20 rfl rfl ?_
    refine v_callV0 kX4_121 gi_X4_saves ge_X4_saves rfl dX4_turnFace_21 (by assumption) (c_saves h1 k1 O1) rfl rfl (by decide) (Nat.le_of_ble_eq_true rfl) (fun f2 m hc2 => ?_)
    obtain ⟨⟨w2, h2, hk0, k2, O2, hf2⟩, rfl⟩ := hc2
    have t2 := (hk0 0 (by decide)).trans t1
    have l2 := (hk0 2 (by decide)).trans l1
    have F2 := zFr.trans F1 hf2
    have ho2 := h2.1
    have hs2 := h2.2.1
    refine v_aload_n dX4_turnFace_24 rfl rfl ?_
    obtain ⟨-, -, -, -, g0, hg0⟩ := id O2
    refine v_callV0 kX4_150 gi_X4_keepsGreys ge_X4_keepsGreys rfl dX4_turnFace_25 (by assumption) (c_keepsGreys h2 hg0) rfl rfl (by decide) (Nat.le_of_ble_eq_true rfl) (fun f3 m hc3 => ?_)
    obtain ⟨⟨gg, hgg, hgv, hf3⟩, rfl⟩ := hc3
    have h3 := MX.fr7 h2 hf3 (by omega)
    have O3 : zNO f3 B (sPK k) (sPM k sv σ) hsl sl L ch := by
      obtain ⟨⟨a1, g1, a2, a3⟩, ⟨g2, a4, a5⟩, ⟨g3, a6, a7⟩, ⟨a8, g4, a9, a10⟩, -⟩ := id O2
      exact ⟨⟨a1, g1, hf3 _ _ _ a2 (by omega), a3⟩, ⟨g2, hf3 _ _ _ a4 (by omega), a5⟩, ⟨g3, hf3 _ _ _ a6 (by omega), a7⟩, ⟨a8, g4, hf3 _ _ _ a9 (by omega), a10⟩, gg, hgg⟩
    have F3 := zFr.trans F2 (hf3.weaken (fun τ e => (⟨by omega, by omega⟩ : zTZ τ)))
    have ho3 := h3.1
    have hs3 := h3.2.1
    refine v_iconst (nI 0) dX4_turnFace_28 (by decide) ?_
    refine v_istore_n dX4_turnFace_29 rfl (by decide) ?_
    have loop : ∀ (kk i : Nat), i + kk = 144 → ∀ (fx : zHM) (σx : Nat → Int32), MX fx o B w2 hh σx mr → (∀ p, p < 144 → σx (616 + p) = if sTs 2 p < i then sTv 2 (σ (616 + sTs 2 p)) else σ (616 + p)) → (∀ j, j < 616 ∨ 760 ≤ j → σx j = σ j) → zFr (fun τ => τ = 701) f3 fx → zV G yX4_turnFace cX4_turnFace 3 (some .int) 9 30 [(0, .ref o), (1, .int (nI 2)), (2, .int (nI i))] [] (fx, m) (zD (some (.int (sMisfit (zset (rOf σ) 7 (sTurn 2 (rOf σ 7)))))) (fun f' m' => zNP f o B hh mr 0 0 (sPK k) (sPM k sv σ) hsl sl L ch (fun σ' => (∀ n, n ≤ 200 → zEQ n (zset (rOf σ) 7 (sTurn 2 (rOf σ 7))) (rOf σ')) ∧ σ' 15 = σ 15) f' ∧ m' = m)) := by
      intro kk
      induction kk with
      | zero =>
        intro i hi fx σx hx hst hlo hffx
        have hox := hx.1
        have hsx := hx.2.1
        have Ox := zNO.fr O3 hffx (by omega)
        have Fx := zFr.trans F3 (hffx.weaken (fun τ e => (⟨by omega, by omega⟩ : zTZ τ)))
        refine v_iload_n dX4_turnFace_30 rfl rfl ?_
        refine v_sipush (nI 144) dX4_turnFace_31 (by decide) ?_
        refine v_icmp_ge 49 dX4_turnFace_34 (by decide) (fun b34 => ?_) (fun b34 => ?_)
        · rw [nI_leI (by omega) (by omega)] at b34
          have hE : ∀ n, n ≤ 200 → zEQ n (zset (rOf σ) 7 (sTurn 2 (rOf σ 7))) (rOf σx) := fun n hn => by
            refine ⟨fun i hi => (hlo i (by omega)).symm, fun i hi => ⟨(hlo (9 + 2 * i) (by omega)).symm, (hlo (9 + 2 * i + 1) (by omega)).symm, (hlo (6 + i) (by omega)).symm⟩, fun c hc => ⟨(hlo (16 + 3 * c) (by omega)).symm, (hlo (16 + 3 * c + 1) (by omega)).symm, (hlo (16 + 3 * c + 2) (by omega)).symm⟩, fun q hq => ⟨?_, (hlo (760 + q) (by omega)).symm⟩⟩
            show sTv 2 (σ (616 + sTs 2 q)) = σx (616 + q)
            rw [hst q hq, if_pos (by have := sTs_lt (w := 2) hq; omega)]
          refine v_aload_n dX4_turnFace_49 rfl rfl ?_
          refine v_callVp kX4_156 gi_X4_misfit ge_X4_misfit rfl dX4_turnFace_50 (by assumption) (c_mmisfit hox hsx) rfl rfl (by decide) (Nat.le_of_ble_eq_true rfl) ?_
          exact v_ireturn dX4_turnFace_53 rfl ⟨by rw [sMisfit_eq (hE 0 (by omega))], ⟨σx, mr, by omega, ⟨w2, hx, t2, k2, l2, Ox⟩, ⟨hE, hlo 15 (by omega)⟩, Fx⟩, rfl⟩
        · rw [nI_leI (by omega) (by omega)] at b34
          omega
      | succ kk ih =>
        intro i hi fx σx hx hst hlo hffx
        have hox := hx.1
        have hsx := hx.2.1
        have hi9 : i < 144 := by omega
        have hggx := hffx _ _ _ hgg (by omega)
        refine v_iload_n dX4_turnFace_30 rfl rfl ?_
        refine v_sipush (nI 144) dX4_turnFace_31 (by decide) ?_
        refine v_icmp_ge 49 dX4_turnFace_34 (by decide) (fun b34 => ?_) (fun b34 => ?_)
        · rw [nI_leI (by omega) (by omega)] at b34
          omega
        · rw [nI_leI (by omega) (by omega)] at b34
          refine v_aload_n dX4_turnFace_37 rfl rfl ?_
          refine v_iload_n dX4_turnFace_38 rfl rfl ?_
          refine v_iload_n dX4_turnFace_39 rfl rfl ?_
          refine v_callV0 kX4_153 gi_X4_turns ge_X4_turns rfl dX4_turnFace_40 (by assumption) (c_turns_2 hx hggx hi9) rfl rfl (by decide) (Nat.le_of_ble_eq_true rfl) (fun fy m hcy => ?_)
          obtain ⟨⟨σy, hy, hyv, hfy⟩, rfl⟩ := hcy
          have htk := sTo_ok 2 (by omega)
          refine v_iincN dX4_turnFace_43 rfl (by decide) ?_
          refine v_goto 30 dX4_turnFace_46 (by decide) ?_
          exact v_loc (lv' := [(0, .ref o), (1, .int (nI 2)), (2, .int (nI (i + 1)))]) ⟨rfl, rfl, rfl, trivial⟩ (ih (i + 1) (by omega) fy σy hy (fun p hp => by
            have hk := htk p hp
            have hk2 := htk i hi9
            rw [hyv]
            by_cases e : p = sTo 2 i
            · have e2 : sTs 2 p = i := by rw [e]; exact hk2.2.1
              rw [if_pos (by omega), if_pos (by omega), e2, hgv i hi9]
            · have e2 : sTs 2 p ≠ i := fun z => e (by rw [← z]; exact hk.2.2.symm)
              rw [if_neg (by omega), hst p hp]
              by_cases e3 : sTs 2 p < i
              · rw [if_pos e3, if_pos (by omega)]
              · rw [if_neg e3, if_neg (by omega)]) (fun j hj => by
            have hk2 := htk i hi9
            rw [hyv, if_neg (by omega), hlo j hj]) (hffx.trans hfy))
    exact v_loc (lv' := [(0, .ref o), (1, .int (nI 2)), (2, .int (nI 0))]) ⟨rfl, rfl, rfl, trivial⟩ (loop 144 0 (by omega) f3 σ h3 (fun p hp => by rw [if_neg (by omega)]) (fun j hj => rfl) zFr.refl)
  · rw [show (0 : Int32) = nI 0 from rfl] at b11
    rw [nI_eq (by omega) (by omega)] at b11
    omega
set_option maxRecDepth 10000 in
set_option maxHeartbeats 1000000 in
theorem y_turnFace_1 {G : zW} {f : zHM} {m : Nat × Nat} {o mr : Nat} {B : Nat → Nat} {w : Nat → Int32} {hh : Int64} {σ : Nat → Int32} (h : MX f o B w hh σ mr) {th : Int32} {k L : Nat} {sv : Nat → Nat → Int32} {hsl : Nat → Int32} {sl : Nat → Nat → Int32} {ch : Nat → Nat} (t : w 0 = th) (k0 : w 1 = nI k) (l0 : w 2 = nI L) (O : zNO f B k sv hsl sl L ch) {v : Int32} (hx : v < 0 ∨ ¬ v ≤ 2) : zM G yX4_turnFace cX4_turnFace 3 (some .int) 9 [.ref o, .int v] (f, m) (zD (some (.int 0)) (fun f' m' => zNP f o B hh mr 0 (nI 1) k sv hsl sl L ch (fun σ' => σ' = σ) f' ∧ m' = m)) := by
  refine zM.of (by decide) (Nat.le_of_ble_eq_true rfl) ?_
  have ho := h.1
  have hs := h.2.1
  refine v_aload_n dX4_turnFace_0 rfl rfl ?_
  refine v_iconst (nI 0) dX4_turnFace_1 (by decide) ?_
  refine v_putfieldX fX4_35 dX4_turnFace_2 (by assumption) rfl rfl (Nat.le_of_ble_eq_true rfl) (fun f1 hp1 => ?_)
  obtain ⟨h1, hf1⟩ := MX.put (w' := zUp w 0 (nI 0)) (f0 := f) h hp1 rfl zFr.refl
  obtain ⟨w1, ew1⟩ : ∃ w9, w9 = zUp w 0 (nI 0) := ⟨_, rfl⟩
  rw [← ew1] at h1
  clear hp1
  have ho1 := h1.1
  have hs1 := h1.2.1
  have t1 : w1 0 = nI 0 := by rw [ew1]; rfl
  have k1 := (show w1 1 = w 1 from by rw [ew1]; rfl).trans k0
  have l1 := (show w1 2 = w 2 from by rw [ew1]; rfl).trans l0
  have O1 := zNO.fr O hf1 (by intro τ h; rcases h with h | h | h | h <;> omega)
  have F1 := zFr.trans zFr.refl (zFr.weaken hf1 zTYZ)
  refine v_iload_n dX4_turnFace_5 rfl rfl ?_
  refine v_iconst (nI 0) dX4_turnFace_6 (by decide) ?_
  refine v_iconst (nI 2) dX4_turnFace_7 (by decide) ?_
  refine v_callSp kX4_42 gs_X4_in dX4_turnFace_8 c_in rfl rfl (by decide) (Nat.le_of_ble_eq_true rfl) ?_
  rw [in_n (a := nI 0) (b := nI 2) hx]
  refine v_if_ne 20 dX4_turnFace_11 (by decide) (fun b11 => ?_) (fun b11 => ?_)
  · rw [show (0 : Int32) = nI 0 from rfl] at b11
    rw [nI_eq (by omega) (by omega)] at b11
    omega
  · rw [show (0 : Int32) = nI 0 from rfl] at b11
    rw [nI_eq (by omega) (by omega)] at b11
    refine v_aload_n dX4_turnFace_14 rfl rfl ?_
    refine v_iconst (nI 1) dX4_turnFace_15 (by decide) ?_
    refine v_callV1 kX4_118 gi_X4_fails ge_X4_fails rfl dX4_turnFace_16 (by assumption) (c_fails h1) rfl rfl (by decide) (Nat.le_of_ble_eq_true rfl) (fun f2 m hc2 => ?_)
    obtain ⟨⟨w2, h2, t2, hq2, hf2⟩, rfl⟩ := hc2
    have k2 := (hq2 1 (by decide)).trans k1
    have l2 := (hq2 2 (by decide)).trans l1
    have ho2 := h2.1
    have hs2 := h2.2.1
    have O2 := zNO.fr O1 hf2 (by intro τ h; rcases h with h | h | h | h <;> omega)
    have F2 := zFr.trans F1 (zFr.weaken hf2 zTYZ)
    exact v_ireturn dX4_turnFace_19 rfl ⟨rfl, ⟨σ, mr, by omega, ⟨w2, h2, t2, k2, l2, O2⟩, rfl, F2⟩, rfl⟩
