theorem sTl_L {ch : Nat → Nat} {g0 g : Nat → Int32} {i s k : Nat} {b : Bool} (h : sTl ch g0 i = (s, k, b, g)) (hl : sIsL (ch i) = true) : sTl ch g0 (i + 1) = ((ch i - 97) * 12, 0, false, g) := by
  rw [sTl, h]; exact if_pos hl
theorem sTl_S {ch : Nat → Nat} {g0 g : Nat → Int32} {i s k : Nat} {b : Bool} (h : sTl ch g0 i = (s, k, b, g)) (hl : sIsL (ch i) = false) (h42 : ch i = 42) : sTl ch g0 (i + 1) = (s, k, true, g) := by
  rw [sTl, h]; exact (if_neg (by rw [hl]; decide)).trans (if_pos h42)
theorem sTl_A {ch : Nat → Nat} {g0 g : Nat → Int32} {i s k : Nat} {b : Bool} (h : sTl ch g0 i = (s, k, b, g)) (hl : sIsL (ch i) = false) (h42 : ¬ ch i = 42) (hd : sIsD (ch i) = true ∧ b = true) : sTl ch g0 (i + 1) = (s, k, b, fun j => if s ≤ j ∧ j < s + 12 then nI (ch i - 48) else g j) := by
  rw [sTl, h]; exact (if_neg (by rw [hl]; decide)).trans ((if_neg h42).trans (if_pos hd))
theorem sTl_D {ch : Nat → Nat} {g0 g : Nat → Int32} {i s k : Nat} {b : Bool} (h : sTl ch g0 i = (s, k, b, g)) (hl : sIsL (ch i) = false) (h42 : ¬ ch i = 42) (hd : ¬ (sIsD (ch i) = true ∧ b = true)) (hk : sIsD (ch i) = true ∧ ¬ 12 ≤ k) : sTl ch g0 (i + 1) = (s, k + 1, b, fun j => if j = s + k then nI (ch i - 48) else g j) := by
  rw [sTl, h]; exact (if_neg (by rw [hl]; decide)).trans ((if_neg h42).trans ((if_neg hd).trans (if_pos hk)))
theorem sTl_N {ch : Nat → Nat} {g0 g : Nat → Int32} {i s k : Nat} {b : Bool} (h : sTl ch g0 i = (s, k, b, g)) (hl : sIsL (ch i) = false) (h42 : ¬ ch i = 42) (hd : ¬ (sIsD (ch i) = true ∧ b = true)) (hk : ¬ (sIsD (ch i) = true ∧ ¬ 12 ≤ k)) : sTl ch g0 (i + 1) = (s, k, b, g) := by
  rw [sTl, h]; exact (if_neg (by rw [hl]; decide)).trans ((if_neg h42).trans ((if_neg hd).trans (if_neg hk)))
theorem sIsL_r {c : Nat} (h : sIsL c = true) : 97 ≤ c ∧ c ≤ 108 := of_decide_eq_true h
theorem sIsD_r {c : Nat} (h : sIsD c = true) : 48 ≤ c ∧ c ≤ 57 := of_decide_eq_true h
set_option maxRecDepth 10000 in
set_option maxHeartbeats 1000000 in
theorem c_tellTo {G : zW} {f0 : zHM} {m : Nat × Nat} {t tx co L ga tg : Nat} {ch : Nat → Nat} (hp : TPic f0 t tx co L ch) (hL : L ≤ 60) {g0 gg : Nat → Int32} (hga : f0 ga = some (tg, .inl (0, 144, .inl gg))) (hgs : ∀ j, j < 144 → gg j = g0 j) (htg : tg ≠ t ∧ tg ≠ t + 1) : zM G yX2_tellTo cX2_tellTo 8 none 2 [.ref tx, .ref ga] (f0, m) (zD none (fun f' m' => (∃ g', f' ga = some (tg, .inl (0, 144, .inl g')) ∧ ∀ j, j < 144 → g' j = (sTl ch g0 L).2.2.2 j) ∧ zFr (fun τ => τ = tg) f0 f' ∧ m' = m)) := by
  refine zM.of (by decide) (Nat.le_of_ble_eq_true rfl) ?_
  have loop : ∀ (k i : Nat), i + k = L → ∀ (f : zHM) (s k9 : Nat) (b : Bool) (g gg : Nat → Int32), (sTl ch g0 i = (s, k9, b, g) ∧ True) → s ≤ 132 → k9 ≤ 12 → TPic f t tx co L ch → f ga = some (tg, .inl (0, 144, .inl gg)) → (∀ j, j < 144 → gg j = g j) → zFr (fun τ => τ = tg) f0 f → zV G yX2_tellTo cX2_tellTo 8 none 2 10 [(0, .ref tx), (1, .ref ga), (2, .int (nI s)), (3, .int (nI k9)), (4, .int (b2i b)), (5, .int (nI i))] [] (f, m) (zD none (fun f' m' => (∃ g', f' ga = some (tg, .inl (0, 144, .inl g')) ∧ ∀ j, j < 144 → g' j = (sTl ch g0 L).2.2.2 j) ∧ zFr (fun τ => τ = tg) f0 f' ∧ m' = m)) := by
    intro k
    induction k with
    | zero =>
      intro i hi f s k9 b g gg hS hs12 hk12 hp hga hgs hf0
      have hi : i = L := by omega
      subst hi
      have r0 := hp.1
      refine v_iload dX2_tellTo_10 rfl ?_
      refine v_aload_n dX2_tellTo_12 rfl rfl ?_
      refine v_getfield fX2_15 dX2_tellTo_13 (by assumption) (by rfl) ?_
      refine v_icmp_ge 142 dX2_tellTo_16 (by decide) (fun b16 => ?_) (fun b16 => ?_)
      · rw [nI_leI (by omega) (by omega)] at b16
        exact v_return dX2_tellTo_142 rfl ⟨rfl, ⟨gg, hga, fun j hj => (hgs j hj).trans (by rw [hS.1])⟩, hf0, rfl⟩
      · rw [nI_leI (by omega) (by omega)] at b16
        omega
    | succ k ih =>
      intro i hi f s k9 b g gg hS hs12 hk12 hp hga hgs hf0
      have h9 : i < L := by omega
      obtain ⟨r0, gc, a0, e0⟩ := id hp
      have hc9 := (e0 i h9).2
      refine v_iload dX2_tellTo_10 rfl ?_
      refine v_aload_n dX2_tellTo_12 rfl rfl ?_
      refine v_getfield fX2_15 dX2_tellTo_13 (by assumption) (by rfl) ?_
      refine v_icmp_ge 142 dX2_tellTo_16 (by decide) (fun b16 => ?_) (fun b16 => ?_)
      · rw [nI_leI (by omega) (by omega)] at b16
        omega
      · rw [nI_leI (by omega) (by omega)] at b16
        refine v_aload_n dX2_tellTo_19 rfl rfl ?_
        refine v_getfield fX2_9 dX2_tellTo_20 (by assumption) (by rfl) ?_
        refine v_iload dX2_tellTo_23 rfl ?_
        refine v_caload dX2_tellTo_25 (by assumption) (vp_in_nI (by omega) (by omega)) ?_
        rw [nI_clamp (by omega), (e0 i h9).1]
        refine v_istore dX2_tellTo_26 (by decide) ?_
        refine v_iload dX2_tellTo_28 rfl ?_
        refine v_callSp kX2_19 gs_X2_isLetter dX2_tellTo_30 (c_isLetter (by omega)) rfl rfl (by decide) (Nat.le_of_ble_eq_true rfl) ?_
        refine v_if_eq 53 dX2_tellTo_33 (by decide) (fun b33 => ?_) (fun b33 => ?_)
        · have hl := b2i_0 b33
          refine v_iload dX2_tellTo_53 rfl ?_
          refine v_bipush (nI 42) dX2_tellTo_55 (by decide) ?_
          refine v_icmp_ne 66 dX2_tellTo_57 (by decide) (fun b57 => ?_) (fun b57 => ?_)
          · rw [nI_eq (by omega) (by omega)] at b57
            refine v_iload dX2_tellTo_66 rfl ?_
            refine v_callSp kX2_23 gs_X2_isDigit dX2_tellTo_68 (c_isDigit (by omega)) rfl rfl (by decide) (Nat.le_of_ble_eq_true rfl) ?_
            refine v_if_eq 109 dX2_tellTo_71 (by decide) (fun b71 => ?_) (fun b71 => ?_)
            · have hd : ¬ (sIsD (ch i) = true ∧ b = true) := fun z => by rw [b2i_0 b71] at z; exact absurd z.1 (by decide)
              refine v_iload dX2_tellTo_109 rfl ?_
              refine v_callSp kX2_23 gs_X2_isDigit dX2_tellTo_111 (c_isDigit (by omega)) rfl rfl (by decide) (Nat.le_of_ble_eq_true rfl) ?_
              refine v_if_eq 136 dX2_tellTo_114 (by decide) (fun b114 => ?_) (fun b114 => ?_)
              · have hk : ¬ (sIsD (ch i) = true ∧ ¬ 12 ≤ k9) := fun z => by rw [b2i_0 b114] at z; exact absurd z.1 (by decide)
                refine v_iincN dX2_tellTo_136 rfl (by decide) ?_
                refine v_goto 10 dX2_tellTo_139 (by decide) ?_
                exact v_loc (lv' := [(0, .ref tx), (1, .ref ga), (2, .int (nI (s))), (3, .int (nI (k9))), (4, .int (b2i (b))), (5, .int (nI (i + 1)))]) ⟨rfl, rfl, rfl, rfl, rfl, rfl, trivial⟩ (ih (i + 1) (by omega) f (s) (k9) (b) g gg ⟨sTl_N hS.1 hl b57 hd hk, trivial⟩ (by omega) (by omega) hp hga hgs hf0)
              · have hd2 := b2i_1 b114
                have hdr := sIsD_r hd2
                refine v_iload_n dX2_tellTo_117 rfl rfl ?_
                refine v_bipush (nI 12) dX2_tellTo_118 (by decide) ?_
                refine v_icmp_ge 136 dX2_tellTo_120 (by decide) (fun b120 => ?_) (fun b120 => ?_)
                · rw [nI_leI (by omega) (by omega)] at b120
                  have hk : ¬ (sIsD (ch i) = true ∧ ¬ 12 ≤ k9) := fun z => z.2 b120
                  refine v_iincN dX2_tellTo_136 rfl (by decide) ?_
                  refine v_goto 10 dX2_tellTo_139 (by decide) ?_
                  exact v_loc (lv' := [(0, .ref tx), (1, .ref ga), (2, .int (nI (s))), (3, .int (nI (k9))), (4, .int (b2i (b))), (5, .int (nI (i + 1)))]) ⟨rfl, rfl, rfl, rfl, rfl, rfl, trivial⟩ (ih (i + 1) (by omega) f (s) (k9) (b) g gg ⟨sTl_N hS.1 hl b57 hd hk, trivial⟩ (by omega) (by omega) hp hga hgs hf0)
                · rw [nI_leI (by omega) (by omega)] at b120
                  have hk : sIsD (ch i) = true ∧ ¬ 12 ≤ k9 := ⟨hd2, b120⟩
                  refine v_aload_n dX2_tellTo_123 rfl rfl ?_
                  refine v_iload_n dX2_tellTo_124 rfl rfl ?_
                  refine v_iload_n dX2_tellTo_125 rfl rfl ?_
                  refine v_iadd dX2_tellTo_126 ?_
                  rw [nI_add]
                  refine v_iload dX2_tellTo_127 rfl ?_
                  refine v_bipush (nI 48) dX2_tellTo_129 (by decide) ?_
                  refine v_isub dX2_tellTo_131 ?_
                  rw [pk_sub (by omega)]
                  refine v_iastoreX dX2_tellTo_132 (by assumption) (vp_in_nI (by omega) (by omega)) (fun f hp9 => ?_)
                  have hfp := zFr.put (T := fun τ => τ = tg) zFr.refl hp9 rfl
                  have hp := hp.fr hfp (fun z => htg.1 z.symm) (fun z => htg.2 z.symm)
                  have hga := hp9.1
                  have hf0 := hf0.trans hfp
                  have hgs9 : ∀ j, j < 144 → upd gg (nI (s + k9)).toNatClampNeg (nI (ch i - 48)) j = if j = s + k9 then nI (ch i - 48) else g j := fun j hj => by
                    rw [nI_clamp (by omega)]
                    by_cases h : j = s + k9
                    · subst h; rw [pk_us, if_pos rfl]
                    · rw [pk_un h, if_neg h, hgs j hj]
                  refine v_iincN dX2_tellTo_133 rfl (by decide) ?_
                  refine v_iincN dX2_tellTo_136 rfl (by decide) ?_
                  refine v_goto 10 dX2_tellTo_139 (by decide) ?_
                  exact v_loc (lv' := [(0, .ref tx), (1, .ref ga), (2, .int (nI (s))), (3, .int (nI (k9 + 1))), (4, .int (b2i (b))), (5, .int (nI (i + 1)))]) ⟨rfl, rfl, rfl, rfl, rfl, rfl, trivial⟩ (ih (i + 1) (by omega) f (s) (k9 + 1) (b) _ _ ⟨sTl_D hS.1 hl b57 hd hk, trivial⟩ (by omega) (by omega) hp hga hgs9 hf0)
            · have hd1 := b2i_1 b71
              refine v_iload dX2_tellTo_74 rfl ?_
              refine v_if_eq 109 dX2_tellTo_76 (by decide) (fun b76 => ?_) (fun b76 => ?_)
              · have hd : ¬ (sIsD (ch i) = true ∧ b = true) := fun z => by rw [b2i_0 b76] at z; exact absurd z.2 (by decide)
                refine v_iload dX2_tellTo_109 rfl ?_
                refine v_callSp kX2_23 gs_X2_isDigit dX2_tellTo_111 (c_isDigit (by omega)) rfl rfl (by decide) (Nat.le_of_ble_eq_true rfl) ?_
                refine v_if_eq 136 dX2_tellTo_114 (by decide) (fun b114 => ?_) (fun b114 => ?_)
                · have hk : ¬ (sIsD (ch i) = true ∧ ¬ 12 ≤ k9) := fun z => by rw [b2i_0 b114] at z; exact absurd z.1 (by decide)
                  refine v_iincN dX2_tellTo_136 rfl (by decide) ?_
                  refine v_goto 10 dX2_tellTo_139 (by decide) ?_
                  exact v_loc (lv' := [(0, .ref tx), (1, .ref ga), (2, .int (nI (s))), (3, .int (nI (k9))), (4, .int (b2i (b))), (5, .int (nI (i + 1)))]) ⟨rfl, rfl, rfl, rfl, rfl, rfl, trivial⟩ (ih (i + 1) (by omega) f (s) (k9) (b) g gg ⟨sTl_N hS.1 hl b57 hd hk, trivial⟩ (by omega) (by omega) hp hga hgs hf0)
                · have hd2 := b2i_1 b114
                  have hdr := sIsD_r hd2
                  refine v_iload_n dX2_tellTo_117 rfl rfl ?_
                  refine v_bipush (nI 12) dX2_tellTo_118 (by decide) ?_
                  refine v_icmp_ge 136 dX2_tellTo_120 (by decide) (fun b120 => ?_) (fun b120 => ?_)
                  · rw [nI_leI (by omega) (by omega)] at b120
                    have hk : ¬ (sIsD (ch i) = true ∧ ¬ 12 ≤ k9) := fun z => z.2 b120
                    refine v_iincN dX2_tellTo_136 rfl (by decide) ?_
                    refine v_goto 10 dX2_tellTo_139 (by decide) ?_
                    exact v_loc (lv' := [(0, .ref tx), (1, .ref ga), (2, .int (nI (s))), (3, .int (nI (k9))), (4, .int (b2i (b))), (5, .int (nI (i + 1)))]) ⟨rfl, rfl, rfl, rfl, rfl, rfl, trivial⟩ (ih (i + 1) (by omega) f (s) (k9) (b) g gg ⟨sTl_N hS.1 hl b57 hd hk, trivial⟩ (by omega) (by omega) hp hga hgs hf0)
                  · rw [nI_leI (by omega) (by omega)] at b120
                    have hk : sIsD (ch i) = true ∧ ¬ 12 ≤ k9 := ⟨hd2, b120⟩
                    refine v_aload_n dX2_tellTo_123 rfl rfl ?_
                    refine v_iload_n dX2_tellTo_124 rfl rfl ?_
                    refine v_iload_n dX2_tellTo_125 rfl rfl ?_
                    refine v_iadd dX2_tellTo_126 ?_
                    rw [nI_add]
                    refine v_iload dX2_tellTo_127 rfl ?_
                    refine v_bipush (nI 48) dX2_tellTo_129 (by decide) ?_
                    refine v_isub dX2_tellTo_131 ?_
                    rw [pk_sub (by omega)]
                    refine v_iastoreX dX2_tellTo_132 (by assumption) (vp_in_nI (by omega) (by omega)) (fun f hp9 => ?_)
                    have hfp := zFr.put (T := fun τ => τ = tg) zFr.refl hp9 rfl
                    have hp := hp.fr hfp (fun z => htg.1 z.symm) (fun z => htg.2 z.symm)
                    have hga := hp9.1
                    have hf0 := hf0.trans hfp
                    have hgs9 : ∀ j, j < 144 → upd gg (nI (s + k9)).toNatClampNeg (nI (ch i - 48)) j = if j = s + k9 then nI (ch i - 48) else g j := fun j hj => by
                      rw [nI_clamp (by omega)]
                      by_cases h : j = s + k9
                      · subst h; rw [pk_us, if_pos rfl]
                      · rw [pk_un h, if_neg h, hgs j hj]
                    refine v_iincN dX2_tellTo_133 rfl (by decide) ?_
                    refine v_iincN dX2_tellTo_136 rfl (by decide) ?_
                    refine v_goto 10 dX2_tellTo_139 (by decide) ?_
                    exact v_loc (lv' := [(0, .ref tx), (1, .ref ga), (2, .int (nI (s))), (3, .int (nI (k9 + 1))), (4, .int (b2i (b))), (5, .int (nI (i + 1)))]) ⟨rfl, rfl, rfl, rfl, rfl, rfl, trivial⟩ (ih (i + 1) (by omega) f (s) (k9 + 1) (b) _ _ ⟨sTl_D hS.1 hl b57 hd hk, trivial⟩ (by omega) (by omega) hp hga hgs9 hf0)
              · have hd : sIsD (ch i) = true ∧ b = true := ⟨hd1, b2i_1 b76⟩
                have hdr := sIsD_r hd1
                refine v_iconst (nI 0) dX2_tellTo_79 (by decide) ?_
                refine v_istore dX2_tellTo_80 (by decide) ?_
                have loopx : ∀ (k x : Nat), x + k = 12 → ∀ (f : zHM) (gx : Nat → Int32), TPic f t tx co L ch → f ga = some (tg, .inl (0, 144, .inl gx)) → (∀ j, j < 144 → gx j = if s ≤ j ∧ j < s + x then nI (ch i - 48) else g j) → zFr (fun τ => τ = tg) f0 f → zV G yX2_tellTo cX2_tellTo 8 none 2 82 [(0, .ref tx), (1, .ref ga), (2, .int (nI s)), (3, .int (nI k9)), (4, .int (b2i b)), (5, .int (nI i)), (6, .int (nI (ch i))), (7, .int (nI x))] [] (f, m) (zD none (fun f' m' => (∃ g', f' ga = some (tg, .inl (0, 144, .inl g')) ∧ ∀ j, j < 144 → g' j = (sTl ch g0 L).2.2.2 j) ∧ zFr (fun τ => τ = tg) f0 f' ∧ m' = m)) := by
                  intro k9x
                  induction k9x with
                  | zero =>
                    intro x hx f gx hp hga hgs hf0
                    have hx : x = 12 := by omega
                    subst hx
                    refine v_iload dX2_tellTo_82 rfl ?_
                    refine v_bipush (nI 12) dX2_tellTo_84 (by decide) ?_
                    refine v_icmp_ge 106 dX2_tellTo_86 (by decide) (fun b86 => ?_) (fun b86 => ?_)
                    · rw [nI_leI (by omega) (by omega)] at b86
                      refine v_goto 136 dX2_tellTo_106 (by decide) ?_
                      refine v_iincN dX2_tellTo_136 rfl (by decide) ?_
                      refine v_goto 10 dX2_tellTo_139 (by decide) ?_
                      exact v_loc (lv' := [(0, .ref tx), (1, .ref ga), (2, .int (nI (s))), (3, .int (nI (k9))), (4, .int (b2i (b))), (5, .int (nI (i + 1)))]) ⟨rfl, rfl, rfl, rfl, rfl, rfl, trivial⟩ (ih (i + 1) (by omega) f (s) (k9) (b) _ gx ⟨sTl_A hS.1 hl b57 hd, trivial⟩ (by omega) (by omega) hp hga hgs hf0)
                    · rw [nI_leI (by omega) (by omega)] at b86
                      omega
                  | succ k9x ihx =>
                    intro x hx f gx hp hga hgs hf0
                    refine v_iload dX2_tellTo_82 rfl ?_
                    refine v_bipush (nI 12) dX2_tellTo_84 (by decide) ?_
                    refine v_icmp_ge 106 dX2_tellTo_86 (by decide) (fun b86 => ?_) (fun b86 => ?_)
                    · rw [nI_leI (by omega) (by omega)] at b86
                      omega
                    · rw [nI_leI (by omega) (by omega)] at b86
                      refine v_aload_n dX2_tellTo_89 rfl rfl ?_
                      refine v_iload_n dX2_tellTo_90 rfl rfl ?_
                      refine v_iload dX2_tellTo_91 rfl ?_
                      refine v_iadd dX2_tellTo_93 ?_
                      rw [nI_add]
                      refine v_iload dX2_tellTo_94 rfl ?_
                      refine v_bipush (nI 48) dX2_tellTo_96 (by decide) ?_
                      refine v_isub dX2_tellTo_98 ?_
                      rw [pk_sub (by omega)]
                      refine v_iastoreX dX2_tellTo_99 (by assumption) (vp_in_nI (by omega) (by omega)) (fun f hp9 => ?_)
                      have hfp := zFr.put (T := fun τ => τ = tg) zFr.refl hp9 rfl
                      have hp := hp.fr hfp (fun z => htg.1 z.symm) (fun z => htg.2 z.symm)
                      have hga := hp9.1
                      have hf0 := hf0.trans hfp
                      refine v_iincN dX2_tellTo_100 rfl (by decide) ?_
                      refine v_goto 82 dX2_tellTo_103 (by decide) ?_
                      exact v_loc (lv' := [(0, .ref tx), (1, .ref ga), (2, .int (nI s)), (3, .int (nI k9)), (4, .int (b2i b)), (5, .int (nI i)), (6, .int (nI (ch i))), (7, .int (nI (x + 1)))]) ⟨rfl, rfl, rfl, rfl, rfl, rfl, rfl, rfl, trivial⟩ (ihx (x + 1) (by omega) f _ hp hga (fun j hj => by
                        rw [nI_clamp (by omega)]
                        by_cases h : j = s + x
                        · subst h; rw [pk_us, if_pos ⟨by omega, by omega⟩]
                        · rw [pk_un h, hgs j hj]
                          by_cases h2 : s ≤ j ∧ j < s + x
                          · rw [if_pos h2, if_pos ⟨h2.1, by omega⟩]
                          · rw [if_neg h2, if_neg (by omega)]) hf0)
                exact v_loc (lv' := [(0, .ref tx), (1, .ref ga), (2, .int (nI s)), (3, .int (nI k9)), (4, .int (b2i b)), (5, .int (nI i)), (6, .int (nI (ch i))), (7, .int (nI 0))]) ⟨rfl, rfl, rfl, rfl, rfl, rfl, rfl, rfl, trivial⟩ (loopx 12 0 rfl f gg hp hga (fun j hj => by rw [hgs j hj, if_neg (by omega)]) hf0)
          · rw [nI_eq (by omega) (by omega)] at b57
            refine v_iconst (1) dX2_tellTo_60 (by decide) ?_
            refine v_istore dX2_tellTo_61 (by decide) ?_
            refine v_goto 136 dX2_tellTo_63 (by decide) ?_
            refine v_iincN dX2_tellTo_136 rfl (by decide) ?_
            refine v_goto 10 dX2_tellTo_139 (by decide) ?_
            exact v_loc (lv' := [(0, .ref tx), (1, .ref ga), (2, .int (nI (s))), (3, .int (nI (k9))), (4, .int (b2i (true))), (5, .int (nI (i + 1)))]) ⟨rfl, rfl, rfl, rfl, rfl, rfl, trivial⟩ (ih (i + 1) (by omega) f (s) (k9) (true) g gg ⟨sTl_S hS.1 hl b57, trivial⟩ (by omega) (by omega) hp hga hgs hf0)
        · have hl := b2i_1 b33
          have hlr := sIsL_r hl
          refine v_iload dX2_tellTo_36 rfl ?_
          refine v_bipush (nI 97) dX2_tellTo_38 (by decide) ?_
          refine v_isub dX2_tellTo_40 ?_
          rw [pk_sub (by omega)]
          refine v_bipush (nI 12) dX2_tellTo_41 (by decide) ?_
          refine v_imul dX2_tellTo_43 ?_
          rw [pk_mul]
          refine v_istore_n dX2_tellTo_44 rfl (by decide) ?_
          refine v_iconst (nI 0) dX2_tellTo_45 (by decide) ?_
          refine v_istore_n dX2_tellTo_46 rfl (by decide) ?_
          refine v_iconst (0) dX2_tellTo_47 (by decide) ?_
          refine v_istore dX2_tellTo_48 (by decide) ?_
          refine v_goto 136 dX2_tellTo_50 (by decide) ?_
          refine v_iincN dX2_tellTo_136 rfl (by decide) ?_
          refine v_goto 10 dX2_tellTo_139 (by decide) ?_
          exact v_loc (lv' := [(0, .ref tx), (1, .ref ga), (2, .int (nI ((ch i - 97) * 12))), (3, .int (nI (0))), (4, .int (b2i (false))), (5, .int (nI (i + 1)))]) ⟨rfl, rfl, rfl, rfl, rfl, rfl, trivial⟩ (ih (i + 1) (by omega) f ((ch i - 97) * 12) (0) (false) g gg ⟨sTl_L hS.1 hl, trivial⟩ (by omega) (by omega) hp hga hgs hf0)
  refine v_iconst (nI 0) dX2_tellTo_0 (by decide) ?_
  refine v_istore_n dX2_tellTo_1 rfl (by decide) ?_
  refine v_iconst (nI 0) dX2_tellTo_2 (by decide) ?_
  refine v_istore_n dX2_tellTo_3 rfl (by decide) ?_
  refine v_iconst (0) dX2_tellTo_4 (by decide) ?_
  refine v_istore dX2_tellTo_5 (by decide) ?_
  refine v_iconst (0) dX2_tellTo_7 (by decide) ?_
  refine v_istore dX2_tellTo_8 (by decide) ?_
  exact v_loc (lv' := [(0, .ref tx), (1, .ref ga), (2, .int (nI (0))), (3, .int (nI (0))), (4, .int (b2i (false))), (5, .int (nI (0)))]) ⟨rfl, rfl, rfl, rfl, rfl, rfl, trivial⟩ (loop L 0 (by omega) f0 0 0 false g0 gg ⟨rfl, trivial⟩ (by omega) (by omega) hp hga hgs zFr.refl)
