def sCount (ρ : zRS) (s n k : Nat) : Nat → Int32
  | 0 => ρ 0 0
  | 1 => ρ 0 1
  | 2 => ρ 0 2
  | 3 => nI n
  | 4 => ρ 0 3
  | 5 => ρ 0 4
  | 6 => ρ 0 5
  | 7 => sMisfit ρ
  | 8 => (sMG ρ s n).1
  | 9 => sThat ρ 1
  | 10 => sThat ρ (-1)
  | 11 => sThr ρ s n 0 + sThr ρ s n 1 + sThr ρ s n 2
  | _ => nI k
abbrev zT96 : Nat → Prop := fun τ => τ = 950 ∨ τ = 601
def sPal (ρ : zRS) : Nat → Int32 × Int32
  | 0 => (-1, 0)
  | q + 1 => if sLack ρ q ≤ (sPal ρ q).2 then sPal ρ q else (nI (100 * (q / 12) + q % 12), sLack ρ q)
set_option maxRecDepth 10000 in
set_option maxHeartbeats 1000000 in
theorem c_wound_0 {G : zW} {f : zHM} {m : Nat × Nat} {o r tr sc tx sl sv k la n : Nat} {A : Nat → Nat} {ρ : zRS} {xs tm : Nat → Int32} (ho : f o = some (600, .inr (3, zOb r tr sc tx sl sv k))) (hr : RPic f 0 r la A ρ n xs tm) (hn201 : n ≤ 201) {g : Nat} (hg : g < 2 ^ 31) : zM G yX3_wound cX3_wound 4 (some .int) 7 [.ref o, .int (nI g), .int (nI 0)] (f, m) (zS (.int (sWound ρ n g 0)) f m) := by
  refine zM.of (by decide) (Nat.le_of_ble_eq_true rfl) ?_
  obtain ⟨r0, ⟨g1, a1, e1⟩, ⟨g2, a2, e2⟩, ⟨g3, a3, e3⟩, ⟨g4, a4, e4⟩, ⟨g5, a5, e5⟩, ⟨g6, a6, e6⟩, ⟨g7, a7, e7⟩, ⟨g8, a8, e8⟩, ⟨g9, a9, e9⟩, ⟨g10, a10, e10⟩⟩ := id hr
  refine v_iload_n dX3_wound_0 rfl rfl ?_
  refine v_if_ge 14 dX3_wound_1 (by decide) (fun b1 => ?_) (fun b1 => ?_)
  · refine v_iload_n dX3_wound_14 rfl rfl ?_
    refine v_iconst (0) dX3_wound_15 (by decide) ?_
    refine v_iconst (2) dX3_wound_16 (by decide) ?_
    refine v_callS0p kX3_72 gs_X3_needRange dX3_wound_17 (c_needRange (by decide) (by decide)) rfl rfl (by decide) (Nat.le_of_ble_eq_true rfl) ?_
    refine v_iload_n dX3_wound_20 rfl rfl ?_
    refine v_aload_n dX3_wound_21 rfl rfl ?_
    refine v_getfield fX3_34 dX3_wound_22 (by assumption) (by rfl) ?_
    refine v_getfield fX3_110 dX3_wound_25 (by assumption) (by rfl) ?_
    refine v_icmp_lt 33 dX3_wound_28 (by decide) (fun b28 => ?_) (fun b28 => ?_)
    · rw [nI_ltI (by omega) (by omega)] at b28
      refine v_aload_n dX3_wound_33 rfl rfl ?_
      refine v_getfield fX3_34 dX3_wound_34 (by assumption) (by rfl) ?_
      refine v_getfield fX3_110 dX3_wound_37 (by assumption) (by rfl) ?_
      refine v_iconst (nI 1) dX3_wound_40 (by decide) ?_
      refine v_isub dX3_wound_41 ?_
      rw [pk_sub (by omega)]
      refine v_iload_n dX3_wound_42 rfl rfl ?_
      refine v_isub dX3_wound_43 ?_
      rw [pk_sub (by omega)]
      refine v_istore_n dX3_wound_44 rfl (by decide) ?_
      refine v_iload_n dX3_wound_45 rfl rfl ?_
      refine v_lookup 72 dX3_wound_46 (by decide) (off := 26) (by decide) (by decide) ?_
      refine v_aload_n dX3_wound_72 rfl rfl ?_
      refine v_getfield fX3_34 dX3_wound_73 (by assumption) (by rfl) ?_
      refine v_getfield fX3_218 dX3_wound_76 (by assumption) (by rfl) ?_
      refine v_iload_n dX3_wound_79 rfl rfl ?_
      refine v_iaload dX3_wound_80 (by assumption) (vp_in_nI (by omega) (by omega)) ?_
      exact v_ireturn dX3_wound_81 rfl ⟨by rw [nI_clamp (by omega), e4 _ (by omega), show sWound ρ n g 0 = ρ 4 (n - 1 - g) from if_neg (by omega)], rfl, rfl⟩
    · rw [nI_ltI (by omega) (by omega)] at b28
      refine v_iconst (-1) dX3_wound_31 (by decide) ?_
      exact v_ireturn dX3_wound_32 rfl ⟨by rw [show sWound ρ n g 0 = -1 from if_pos (by omega)], rfl, rfl⟩
  · exact absurd (nI_pos' (by omega)) b1
set_option maxRecDepth 10000 in
set_option maxHeartbeats 1000000 in
theorem c_wound_1 {G : zW} {f : zHM} {m : Nat × Nat} {o r tr sc tx sl sv k la n : Nat} {A : Nat → Nat} {ρ : zRS} {xs tm : Nat → Int32} (ho : f o = some (600, .inr (3, zOb r tr sc tx sl sv k))) (hr : RPic f 0 r la A ρ n xs tm) (hn201 : n ≤ 201) {g : Nat} (hg : g < 2 ^ 31) : zM G yX3_wound cX3_wound 4 (some .int) 7 [.ref o, .int (nI g), .int (nI 1)] (f, m) (zS (.int (sWound ρ n g 1)) f m) := by
  refine zM.of (by decide) (Nat.le_of_ble_eq_true rfl) ?_
  obtain ⟨r0, ⟨g1, a1, e1⟩, ⟨g2, a2, e2⟩, ⟨g3, a3, e3⟩, ⟨g4, a4, e4⟩, ⟨g5, a5, e5⟩, ⟨g6, a6, e6⟩, ⟨g7, a7, e7⟩, ⟨g8, a8, e8⟩, ⟨g9, a9, e9⟩, ⟨g10, a10, e10⟩⟩ := id hr
  refine v_iload_n dX3_wound_0 rfl rfl ?_
  refine v_if_ge 14 dX3_wound_1 (by decide) (fun b1 => ?_) (fun b1 => ?_)
  · refine v_iload_n dX3_wound_14 rfl rfl ?_
    refine v_iconst (0) dX3_wound_15 (by decide) ?_
    refine v_iconst (2) dX3_wound_16 (by decide) ?_
    refine v_callS0p kX3_72 gs_X3_needRange dX3_wound_17 (c_needRange (by decide) (by decide)) rfl rfl (by decide) (Nat.le_of_ble_eq_true rfl) ?_
    refine v_iload_n dX3_wound_20 rfl rfl ?_
    refine v_aload_n dX3_wound_21 rfl rfl ?_
    refine v_getfield fX3_34 dX3_wound_22 (by assumption) (by rfl) ?_
    refine v_getfield fX3_110 dX3_wound_25 (by assumption) (by rfl) ?_
    refine v_icmp_lt 33 dX3_wound_28 (by decide) (fun b28 => ?_) (fun b28 => ?_)
    · rw [nI_ltI (by omega) (by omega)] at b28
      refine v_aload_n dX3_wound_33 rfl rfl ?_
      refine v_getfield fX3_34 dX3_wound_34 (by assumption) (by rfl) ?_
      refine v_getfield fX3_110 dX3_wound_37 (by assumption) (by rfl) ?_
      refine v_iconst (nI 1) dX3_wound_40 (by decide) ?_
      refine v_isub dX3_wound_41 ?_
      rw [pk_sub (by omega)]
      refine v_iload_n dX3_wound_42 rfl rfl ?_
      refine v_isub dX3_wound_43 ?_
      rw [pk_sub (by omega)]
      refine v_istore_n dX3_wound_44 rfl (by decide) ?_
      refine v_iload_n dX3_wound_45 rfl rfl ?_
      refine v_lookup 82 dX3_wound_46 (by decide) (off := 36) (by decide) (by decide) ?_
      refine v_aload_n dX3_wound_82 rfl rfl ?_
      refine v_getfield fX3_34 dX3_wound_83 (by assumption) (by rfl) ?_
      refine v_getfield fX3_221 dX3_wound_86 (by assumption) (by rfl) ?_
      refine v_iload_n dX3_wound_89 rfl rfl ?_
      refine v_iaload dX3_wound_90 (by assumption) (vp_in_nI (by omega) (by omega)) ?_
      exact v_ireturn dX3_wound_91 rfl ⟨by rw [nI_clamp (by omega), e5 _ (by omega), show sWound ρ n g 1 = ρ 5 (n - 1 - g) from if_neg (by omega)], rfl, rfl⟩
    · rw [nI_ltI (by omega) (by omega)] at b28
      refine v_iconst (-1) dX3_wound_31 (by decide) ?_
      exact v_ireturn dX3_wound_32 rfl ⟨by rw [show sWound ρ n g 1 = -1 from if_pos (by omega)], rfl, rfl⟩
  · exact absurd (nI_pos' (by omega)) b1
set_option maxRecDepth 10000 in
set_option maxHeartbeats 1000000 in
theorem c_wound_2 {G : zW} {f : zHM} {m : Nat × Nat} {o r tr sc tx sl sv k la n : Nat} {A : Nat → Nat} {ρ : zRS} {xs tm : Nat → Int32} (ho : f o = some (600, .inr (3, zOb r tr sc tx sl sv k))) (hr : RPic f 0 r la A ρ n xs tm) (hn201 : n ≤ 201) {g : Nat} (hg : g < 2 ^ 31) : zM G yX3_wound cX3_wound 4 (some .int) 7 [.ref o, .int (nI g), .int (nI 2)] (f, m) (zS (.int (sWound ρ n g 2)) f m) := by
  refine zM.of (by decide) (Nat.le_of_ble_eq_true rfl) ?_
  obtain ⟨r0, ⟨g1, a1, e1⟩, ⟨g2, a2, e2⟩, ⟨g3, a3, e3⟩, ⟨g4, a4, e4⟩, ⟨g5, a5, e5⟩, ⟨g6, a6, e6⟩, ⟨g7, a7, e7⟩, ⟨g8, a8, e8⟩, ⟨g9, a9, e9⟩, ⟨g10, a10, e10⟩⟩ := id hr
  refine v_iload_n dX3_wound_0 rfl rfl ?_
  refine v_if_ge 14 dX3_wound_1 (by decide) (fun b1 => ?_) (fun b1 => ?_)
  · refine v_iload_n dX3_wound_14 rfl rfl ?_
    refine v_iconst (0) dX3_wound_15 (by decide) ?_
    refine v_iconst (2) dX3_wound_16 (by decide) ?_
    refine v_callS0p kX3_72 gs_X3_needRange dX3_wound_17 (c_needRange (by decide) (by decide)) rfl rfl (by decide) (Nat.le_of_ble_eq_true rfl) ?_
    refine v_iload_n dX3_wound_20 rfl rfl ?_
    refine v_aload_n dX3_wound_21 rfl rfl ?_
    refine v_getfield fX3_34 dX3_wound_22 (by assumption) (by rfl) ?_
    refine v_getfield fX3_110 dX3_wound_25 (by assumption) (by rfl) ?_
    refine v_icmp_lt 33 dX3_wound_28 (by decide) (fun b28 => ?_) (fun b28 => ?_)
    · rw [nI_ltI (by omega) (by omega)] at b28
      refine v_aload_n dX3_wound_33 rfl rfl ?_
      refine v_getfield fX3_34 dX3_wound_34 (by assumption) (by rfl) ?_
      refine v_getfield fX3_110 dX3_wound_37 (by assumption) (by rfl) ?_
      refine v_iconst (nI 1) dX3_wound_40 (by decide) ?_
      refine v_isub dX3_wound_41 ?_
      rw [pk_sub (by omega)]
      refine v_iload_n dX3_wound_42 rfl rfl ?_
      refine v_isub dX3_wound_43 ?_
      rw [pk_sub (by omega)]
      refine v_istore_n dX3_wound_44 rfl (by decide) ?_
      refine v_iload_n dX3_wound_45 rfl rfl ?_
      refine v_lookup 92 dX3_wound_46 (by decide) (off := 46) (by decide) (by decide) ?_
      refine v_aload_n dX3_wound_92 rfl rfl ?_
      refine v_getfield fX3_34 dX3_wound_93 (by assumption) (by rfl) ?_
      refine v_getfield fX3_224 dX3_wound_96 (by assumption) (by rfl) ?_
      refine v_iload_n dX3_wound_99 rfl rfl ?_
      refine v_iaload dX3_wound_100 (by assumption) (vp_in_nI (by omega) (by omega)) ?_
      exact v_ireturn dX3_wound_101 rfl ⟨by rw [nI_clamp (by omega), e6 _ (by omega), show sWound ρ n g 2 = ρ 6 (n - 1 - g) from if_neg (by omega)], rfl, rfl⟩
    · rw [nI_ltI (by omega) (by omega)] at b28
      refine v_iconst (-1) dX3_wound_31 (by decide) ?_
      exact v_ireturn dX3_wound_32 rfl ⟨by rw [show sWound ρ n g 2 = -1 from if_pos (by omega)], rfl, rfl⟩
  · exact absurd (nI_pos' (by omega)) b1
theorem c_wound {G : zW} {f : zHM} {m : Nat × Nat} {o r tr sc tx sl sv k la n : Nat} {A : Nat → Nat} {ρ : zRS} {xs tm : Nat → Int32} (ho : f o = some (600, .inr (3, zOb r tr sc tx sl sv k))) (hr : RPic f 0 r la A ρ n xs tm) (hn201 : n ≤ 201) {g w : Nat} (hg : g < 2 ^ 31) (hw4 : w ≤ 2) : zM G yX3_wound cX3_wound 4 (some .int) 7 [.ref o, .int (nI g), .int (nI w)] (f, m) (zS (.int (sWound ρ n g w)) f m) := by
  match w, hw4 with
  | 0, _ => exact c_wound_0 ho hr hn201 hg
  | 1, _ => exact c_wound_1 ho hr hn201 hg
  | 2, _ => exact c_wound_2 ho hr hn201 hg
set_option maxRecDepth 10000 in
set_option maxHeartbeats 1000000 in
theorem c_square_0 {G : zW} {f : zHM} {m : Nat × Nat} {o r tr sc tx sl sv k la n : Nat} {A : Nat → Nat} {ρ : zRS} {xs tm : Nat → Int32} (ho : f o = some (600, .inr (3, zOb r tr sc tx sl sv k))) (hr : RPic f 0 r la A ρ n xs tm) {x z : Nat} (hx : x < 12) (hz : z < 12) : zM G yX3_square cX3_square 5 (some .int) 7 [.ref o, .int (nI x), .int (nI z), .int (nI 0)] (f, m) (zS (.int (sSquare ρ xs (z * 12 + x) 0)) f m) := by
  refine zM.of (by decide) (Nat.le_of_ble_eq_true rfl) ?_
  have hq : z * 12 + x < 144 := by omega
  obtain ⟨r0, ⟨g1, a1, e1⟩, ⟨g2, a2, e2⟩, ⟨g3, a3, e3⟩, ⟨g4, a4, e4⟩, ⟨g5, a5, e5⟩, ⟨g6, a6, e6⟩, ⟨g7, a7, e7⟩, ⟨g8, a8, e8⟩, ⟨g9, a9, e9⟩, ⟨g10, a10, e10⟩⟩ := id hr
  refine v_iload_n dX3_square_0 rfl rfl ?_
  refine v_iload_n dX3_square_1 rfl rfl ?_
  refine v_callS0p kX3_139 gs_X3_needSquare dX3_square_2 (c_needSquare (nI_pos (by omega)) (show ¬ nI 12 ≤ nI x from nI_ge hx (by omega)) (nI_pos (by omega)) (show nI z < nI 12 from nI_lt hz (by omega))) rfl rfl (by decide) (Nat.le_of_ble_eq_true rfl) ?_
  refine v_iload_n dX3_square_5 rfl rfl ?_
  refine v_iconst (0) dX3_square_6 (by decide) ?_
  refine v_iconst (3) dX3_square_7 (by decide) ?_
  refine v_callS0p kX3_72 gs_X3_needRange dX3_square_8 (c_needRange (by decide) (by decide)) rfl rfl (by decide) (Nat.le_of_ble_eq_true rfl) ?_
  refine v_iload_n dX3_square_11 rfl rfl ?_
  refine v_bipush (nI 12) dX3_square_12 (by decide) ?_
  refine v_imul dX3_square_14 ?_
  rw [pk_mul]
  refine v_iload_n dX3_square_15 rfl rfl ?_
  refine v_iadd dX3_square_16 ?_
  rw [nI_add]
  refine v_istore dX3_square_17 (by decide) ?_
  refine v_iload_n dX3_square_19 rfl rfl ?_
  refine v_tableIn 48 dX3_square_20 (by decide) (by decide) (off := 28) (by rfl) (by decide) ?_
  refine v_aload_n dX3_square_48 rfl rfl ?_
  refine v_getfield fX3_34 dX3_square_49 (by assumption) (by rfl) ?_
  refine v_getfield fX3_143 dX3_square_52 (by assumption) (by rfl) ?_
  refine v_iload dX3_square_55 rfl ?_
  refine v_iaload dX3_square_57 (by assumption) (vp_in_nI hq (by omega)) ?_
  exact v_ireturn dX3_square_58 rfl ⟨by rw [nI_clamp (by omega), e7 _ hq]; rfl, rfl, rfl⟩
set_option maxRecDepth 10000 in
set_option maxHeartbeats 1000000 in
theorem c_square_1 {G : zW} {f : zHM} {m : Nat × Nat} {o r tr sc tx sl sv k la n : Nat} {A : Nat → Nat} {ρ : zRS} {xs tm : Nat → Int32} (ho : f o = some (600, .inr (3, zOb r tr sc tx sl sv k))) (hr : RPic f 0 r la A ρ n xs tm) {x z : Nat} (hx : x < 12) (hz : z < 12) : zM G yX3_square cX3_square 5 (some .int) 7 [.ref o, .int (nI x), .int (nI z), .int (nI 1)] (f, m) (zS (.int (sSquare ρ xs (z * 12 + x) 1)) f m) := by
  refine zM.of (by decide) (Nat.le_of_ble_eq_true rfl) ?_
  have hq : z * 12 + x < 144 := by omega
  obtain ⟨r0, ⟨g1, a1, e1⟩, ⟨g2, a2, e2⟩, ⟨g3, a3, e3⟩, ⟨g4, a4, e4⟩, ⟨g5, a5, e5⟩, ⟨g6, a6, e6⟩, ⟨g7, a7, e7⟩, ⟨g8, a8, e8⟩, ⟨g9, a9, e9⟩, ⟨g10, a10, e10⟩⟩ := id hr
  refine v_iload_n dX3_square_0 rfl rfl ?_
  refine v_iload_n dX3_square_1 rfl rfl ?_
  refine v_callS0p kX3_139 gs_X3_needSquare dX3_square_2 (c_needSquare (nI_pos (by omega)) (show ¬ nI 12 ≤ nI x from nI_ge hx (by omega)) (nI_pos (by omega)) (show nI z < nI 12 from nI_lt hz (by omega))) rfl rfl (by decide) (Nat.le_of_ble_eq_true rfl) ?_
  refine v_iload_n dX3_square_5 rfl rfl ?_
  refine v_iconst (0) dX3_square_6 (by decide) ?_
  refine v_iconst (3) dX3_square_7 (by decide) ?_
  refine v_callS0p kX3_72 gs_X3_needRange dX3_square_8 (c_needRange (by decide) (by decide)) rfl rfl (by decide) (Nat.le_of_ble_eq_true rfl) ?_
  refine v_iload_n dX3_square_11 rfl rfl ?_
  refine v_bipush (nI 12) dX3_square_12 (by decide) ?_
  refine v_imul dX3_square_14 ?_
  rw [pk_mul]
  refine v_iload_n dX3_square_15 rfl rfl ?_
  refine v_iadd dX3_square_16 ?_
  rw [nI_add]
  refine v_istore dX3_square_17 (by decide) ?_
  refine v_iload_n dX3_square_19 rfl rfl ?_
  refine v_tableIn 59 dX3_square_20 (by decide) (by decide) (off := 39) (by rfl) (by decide) ?_
  refine v_aload_n dX3_square_59 rfl rfl ?_
  refine v_getfield fX3_34 dX3_square_60 (by assumption) (by rfl) ?_
  refine v_getfield fX3_227 dX3_square_63 (by assumption) (by rfl) ?_
  refine v_iload dX3_square_66 rfl ?_
  refine v_iaload dX3_square_68 (by assumption) (vp_in_nI hq (by omega)) ?_
  exact v_ireturn dX3_square_69 rfl ⟨by rw [nI_clamp (by omega), e8 _ hq]; rfl, rfl, rfl⟩
set_option maxRecDepth 10000 in
set_option maxHeartbeats 1000000 in
theorem c_square_2 {G : zW} {f : zHM} {m : Nat × Nat} {o r tr sc tx sl sv k la n : Nat} {A : Nat → Nat} {ρ : zRS} {xs tm : Nat → Int32} (ho : f o = some (600, .inr (3, zOb r tr sc tx sl sv k))) (hr : RPic f 0 r la A ρ n xs tm) {x z : Nat} (hx : x < 12) (hz : z < 12) : zM G yX3_square cX3_square 5 (some .int) 7 [.ref o, .int (nI x), .int (nI z), .int (nI 2)] (f, m) (zS (.int (sSquare ρ xs (z * 12 + x) 2)) f m) := by
  refine zM.of (by decide) (Nat.le_of_ble_eq_true rfl) ?_
  have hq : z * 12 + x < 144 := by omega
  obtain ⟨r0, ⟨g1, a1, e1⟩, ⟨g2, a2, e2⟩, ⟨g3, a3, e3⟩, ⟨g4, a4, e4⟩, ⟨g5, a5, e5⟩, ⟨g6, a6, e6⟩, ⟨g7, a7, e7⟩, ⟨g8, a8, e8⟩, ⟨g9, a9, e9⟩, ⟨g10, a10, e10⟩⟩ := id hr
  refine v_iload_n dX3_square_0 rfl rfl ?_
  refine v_iload_n dX3_square_1 rfl rfl ?_
  refine v_callS0p kX3_139 gs_X3_needSquare dX3_square_2 (c_needSquare (nI_pos (by omega)) (show ¬ nI 12 ≤ nI x from nI_ge hx (by omega)) (nI_pos (by omega)) (show nI z < nI 12 from nI_lt hz (by omega))) rfl rfl (by decide) (Nat.le_of_ble_eq_true rfl) ?_
  refine v_iload_n dX3_square_5 rfl rfl ?_
  refine v_iconst (0) dX3_square_6 (by decide) ?_
  refine v_iconst (3) dX3_square_7 (by decide) ?_
  refine v_callS0p kX3_72 gs_X3_needRange dX3_square_8 (c_needRange (by decide) (by decide)) rfl rfl (by decide) (Nat.le_of_ble_eq_true rfl) ?_
  refine v_iload_n dX3_square_11 rfl rfl ?_
  refine v_bipush (nI 12) dX3_square_12 (by decide) ?_
  refine v_imul dX3_square_14 ?_
  rw [pk_mul]
  refine v_iload_n dX3_square_15 rfl rfl ?_
  refine v_iadd dX3_square_16 ?_
  rw [nI_add]
  refine v_istore dX3_square_17 (by decide) ?_
  refine v_iload_n dX3_square_19 rfl rfl ?_
  refine v_tableIn 70 dX3_square_20 (by decide) (by decide) (off := 50) (by rfl) (by decide) ?_
  refine v_aload_n dX3_square_70 rfl rfl ?_
  refine v_getfield fX3_34 dX3_square_71 (by assumption) (by rfl) ?_
  refine v_iload dX3_square_74 rfl ?_
  refine v_callVp kX3_230 gi_X1_lackOf ge_X1_lackOf rfl dX3_square_76 (by assumption) (c_lackOf hr hq) rfl rfl (by decide) (Nat.le_of_ble_eq_true rfl) ?_
  refine v_sipush (10000) dX3_square_79 (by decide) ?_
  refine v_iadd dX3_square_82 ?_
  exact v_ireturn dX3_square_83 rfl ⟨rfl, rfl, rfl⟩
set_option maxRecDepth 10000 in
set_option maxHeartbeats 1000000 in
theorem c_square_3 {G : zW} {f : zHM} {m : Nat × Nat} {o r tr sc tx sl sv k la n : Nat} {A : Nat → Nat} {ρ : zRS} {xs tm : Nat → Int32} (ho : f o = some (600, .inr (3, zOb r tr sc tx sl sv k))) (hr : RPic f 0 r la A ρ n xs tm) {x z : Nat} (hx : x < 12) (hz : z < 12) : zM G yX3_square cX3_square 5 (some .int) 7 [.ref o, .int (nI x), .int (nI z), .int (nI 3)] (f, m) (zS (.int (sSquare ρ xs (z * 12 + x) 3)) f m) := by
  refine zM.of (by decide) (Nat.le_of_ble_eq_true rfl) ?_
  have hq : z * 12 + x < 144 := by omega
  obtain ⟨r0, ⟨g1, a1, e1⟩, ⟨g2, a2, e2⟩, ⟨g3, a3, e3⟩, ⟨g4, a4, e4⟩, ⟨g5, a5, e5⟩, ⟨g6, a6, e6⟩, ⟨g7, a7, e7⟩, ⟨g8, a8, e8⟩, ⟨g9, a9, e9⟩, ⟨g10, a10, e10⟩⟩ := id hr
  refine v_iload_n dX3_square_0 rfl rfl ?_
  refine v_iload_n dX3_square_1 rfl rfl ?_
  refine v_callS0p kX3_139 gs_X3_needSquare dX3_square_2 (c_needSquare (nI_pos (by omega)) (show ¬ nI 12 ≤ nI x from nI_ge hx (by omega)) (nI_pos (by omega)) (show nI z < nI 12 from nI_lt hz (by omega))) rfl rfl (by decide) (Nat.le_of_ble_eq_true rfl) ?_
  refine v_iload_n dX3_square_5 rfl rfl ?_
  refine v_iconst (0) dX3_square_6 (by decide) ?_
  refine v_iconst (3) dX3_square_7 (by decide) ?_
  refine v_callS0p kX3_72 gs_X3_needRange dX3_square_8 (c_needRange (by decide) (by decide)) rfl rfl (by decide) (Nat.le_of_ble_eq_true rfl) ?_
  refine v_iload_n dX3_square_11 rfl rfl ?_
  refine v_bipush (nI 12) dX3_square_12 (by decide) ?_
  refine v_imul dX3_square_14 ?_
  rw [pk_mul]
  refine v_iload_n dX3_square_15 rfl rfl ?_
  refine v_iadd dX3_square_16 ?_
  rw [nI_add]
  refine v_istore dX3_square_17 (by decide) ?_
  refine v_iload_n dX3_square_19 rfl rfl ?_
  refine v_tableOut 84 dX3_square_20 (Or.inr (by decide)) (by decide) ?_
  refine v_aload_n dX3_square_84 rfl rfl ?_
  refine v_getfield fX3_34 dX3_square_85 (by assumption) (by rfl) ?_
  refine v_getfield fX3_233 dX3_square_88 (by assumption) (by rfl) ?_
  refine v_iload dX3_square_91 rfl ?_
  refine v_iaload dX3_square_93 (by assumption) (vp_in_nI hq (by omega)) ?_
  exact v_ireturn dX3_square_94 rfl ⟨by rw [nI_clamp (by omega), e9 _ hq]; rfl, rfl, rfl⟩
theorem c_square {G : zW} {f : zHM} {m : Nat × Nat} {o r tr sc tx sl sv k la n : Nat} {A : Nat → Nat} {ρ : zRS} {xs tm : Nat → Int32} (ho : f o = some (600, .inr (3, zOb r tr sc tx sl sv k))) (hr : RPic f 0 r la A ρ n xs tm) {x z w : Nat} (hx : x < 12) (hz : z < 12) (hw4 : w ≤ 3) : zM G yX3_square cX3_square 5 (some .int) 7 [.ref o, .int (nI x), .int (nI z), .int (nI w)] (f, m) (zS (.int (sSquare ρ xs (z * 12 + x) w)) f m) := by
  match w, hw4 with
  | 0, _ => exact c_square_0 ho hr hx hz
  | 1, _ => exact c_square_1 ho hr hx hz
  | 2, _ => exact c_square_2 ho hr hx hz
  | 3, _ => exact c_square_3 ho hr hx hz
set_option maxRecDepth 10000 in
set_option maxHeartbeats 1000000 in
theorem c_count_0 {G : zW} {f : zHM} {m : Nat × Nat} {o r tr sc tx sl sv k la n : Nat} {A : Nat → Nat} {ρ : zRS} {xs tm : Nat → Int32} (ho : f o = some (600, .inr (3, zOb r tr sc tx sl sv k))) (hr : RPic f 0 r la A ρ n xs tm) {N s : Nat} (hw : RW ρ N s n) {M : Nat × Nat} (hL : LNok f m la M) {gs : Nat → Int32} (hsc : f sc = some (601, .inl (0, 144, .inl gs))) : zM G yX3_count cX3_count 2 (some .int) 7 [.ref o, .int (nI 0)] (f, m) (zD (some (.int (sCount ρ s n k 0))) (fun f' m' => (∃ g, f' sc = some (601, .inl (0, 144, .inl g))) ∧ LNok f' m' la M ∧ zFr zT96 f f')) := by
  refine zM.of (by decide) (Nat.le_of_ble_eq_true rfl) ?_
  have r0 := hr.1
  refine v_iload_n dX3_count_0 rfl rfl ?_
  refine v_iconst (0) dX3_count_1 (by decide) ?_
  refine v_bipush (12) dX3_count_2 (by decide) ?_
  refine v_callS0p kX3_72 gs_X3_needRange dX3_count_4 (c_needRange (by decide) (by decide)) rfl rfl (by decide) (Nat.le_of_ble_eq_true rfl) ?_
  refine v_iload_n dX3_count_7 rfl rfl ?_
  refine v_tableIn 72 dX3_count_8 (by decide) (by decide) (off := 64) (by rfl) (by decide) ?_
  refine v_aload_n dX3_count_72 rfl rfl ?_
  refine v_getfield fX3_34 dX3_count_73 (by assumption) (by rfl) ?_
  refine v_getfield fX3_55 dX3_count_76 (by assumption) (by rfl) ?_
  exact v_ireturn dX3_count_79 rfl ⟨rfl, ⟨gs, hsc⟩, hL, zFr.refl⟩
set_option maxRecDepth 10000 in
set_option maxHeartbeats 1000000 in
theorem c_count_1 {G : zW} {f : zHM} {m : Nat × Nat} {o r tr sc tx sl sv k la n : Nat} {A : Nat → Nat} {ρ : zRS} {xs tm : Nat → Int32} (ho : f o = some (600, .inr (3, zOb r tr sc tx sl sv k))) (hr : RPic f 0 r la A ρ n xs tm) {N s : Nat} (hw : RW ρ N s n) {M : Nat × Nat} (hL : LNok f m la M) {gs : Nat → Int32} (hsc : f sc = some (601, .inl (0, 144, .inl gs))) : zM G yX3_count cX3_count 2 (some .int) 7 [.ref o, .int (nI 1)] (f, m) (zD (some (.int (sCount ρ s n k 1))) (fun f' m' => (∃ g, f' sc = some (601, .inl (0, 144, .inl g))) ∧ LNok f' m' la M ∧ zFr zT96 f f')) := by
  refine zM.of (by decide) (Nat.le_of_ble_eq_true rfl) ?_
  have r0 := hr.1
  refine v_iload_n dX3_count_0 rfl rfl ?_
  refine v_iconst (0) dX3_count_1 (by decide) ?_
  refine v_bipush (12) dX3_count_2 (by decide) ?_
  refine v_callS0p kX3_72 gs_X3_needRange dX3_count_4 (c_needRange (by decide) (by decide)) rfl rfl (by decide) (Nat.le_of_ble_eq_true rfl) ?_
  refine v_iload_n dX3_count_7 rfl rfl ?_
  refine v_tableIn 80 dX3_count_8 (by decide) (by decide) (off := 72) (by rfl) (by decide) ?_
  refine v_aload_n dX3_count_80 rfl rfl ?_
  refine v_getfield fX3_34 dX3_count_81 (by assumption) (by rfl) ?_
  refine v_getfield fX3_65 dX3_count_84 (by assumption) (by rfl) ?_
  exact v_ireturn dX3_count_87 rfl ⟨rfl, ⟨gs, hsc⟩, hL, zFr.refl⟩
set_option maxRecDepth 10000 in
set_option maxHeartbeats 1000000 in
theorem c_count_2 {G : zW} {f : zHM} {m : Nat × Nat} {o r tr sc tx sl sv k la n : Nat} {A : Nat → Nat} {ρ : zRS} {xs tm : Nat → Int32} (ho : f o = some (600, .inr (3, zOb r tr sc tx sl sv k))) (hr : RPic f 0 r la A ρ n xs tm) {N s : Nat} (hw : RW ρ N s n) {M : Nat × Nat} (hL : LNok f m la M) {gs : Nat → Int32} (hsc : f sc = some (601, .inl (0, 144, .inl gs))) : zM G yX3_count cX3_count 2 (some .int) 7 [.ref o, .int (nI 2)] (f, m) (zD (some (.int (sCount ρ s n k 2))) (fun f' m' => (∃ g, f' sc = some (601, .inl (0, 144, .inl g))) ∧ LNok f' m' la M ∧ zFr zT96 f f')) := by
  refine zM.of (by decide) (Nat.le_of_ble_eq_true rfl) ?_
  have r0 := hr.1
  refine v_iload_n dX3_count_0 rfl rfl ?_
  refine v_iconst (0) dX3_count_1 (by decide) ?_
  refine v_bipush (12) dX3_count_2 (by decide) ?_
  refine v_callS0p kX3_72 gs_X3_needRange dX3_count_4 (c_needRange (by decide) (by decide)) rfl rfl (by decide) (Nat.le_of_ble_eq_true rfl) ?_
  refine v_iload_n dX3_count_7 rfl rfl ?_
  refine v_tableIn 88 dX3_count_8 (by decide) (by decide) (off := 80) (by rfl) (by decide) ?_
  refine v_aload_n dX3_count_88 rfl rfl ?_
  refine v_getfield fX3_34 dX3_count_89 (by assumption) (by rfl) ?_
  refine v_getfield fX3_76 dX3_count_92 (by assumption) (by rfl) ?_
  exact v_ireturn dX3_count_95 rfl ⟨rfl, ⟨gs, hsc⟩, hL, zFr.refl⟩
set_option maxRecDepth 10000 in
set_option maxHeartbeats 1000000 in
theorem c_count_3 {G : zW} {f : zHM} {m : Nat × Nat} {o r tr sc tx sl sv k la n : Nat} {A : Nat → Nat} {ρ : zRS} {xs tm : Nat → Int32} (ho : f o = some (600, .inr (3, zOb r tr sc tx sl sv k))) (hr : RPic f 0 r la A ρ n xs tm) {N s : Nat} (hw : RW ρ N s n) {M : Nat × Nat} (hL : LNok f m la M) {gs : Nat → Int32} (hsc : f sc = some (601, .inl (0, 144, .inl gs))) : zM G yX3_count cX3_count 2 (some .int) 7 [.ref o, .int (nI 3)] (f, m) (zD (some (.int (sCount ρ s n k 3))) (fun f' m' => (∃ g, f' sc = some (601, .inl (0, 144, .inl g))) ∧ LNok f' m' la M ∧ zFr zT96 f f')) := by
  refine zM.of (by decide) (Nat.le_of_ble_eq_true rfl) ?_
  have r0 := hr.1
  refine v_iload_n dX3_count_0 rfl rfl ?_
  refine v_iconst (0) dX3_count_1 (by decide) ?_
  refine v_bipush (12) dX3_count_2 (by decide) ?_
  refine v_callS0p kX3_72 gs_X3_needRange dX3_count_4 (c_needRange (by decide) (by decide)) rfl rfl (by decide) (Nat.le_of_ble_eq_true rfl) ?_
  refine v_iload_n dX3_count_7 rfl rfl ?_
  refine v_tableIn 96 dX3_count_8 (by decide) (by decide) (off := 88) (by rfl) (by decide) ?_
  refine v_aload_n dX3_count_96 rfl rfl ?_
  refine v_getfield fX3_34 dX3_count_97 (by assumption) (by rfl) ?_
  refine v_getfield fX3_110 dX3_count_100 (by assumption) (by rfl) ?_
  exact v_ireturn dX3_count_103 rfl ⟨rfl, ⟨gs, hsc⟩, hL, zFr.refl⟩
set_option maxRecDepth 10000 in
set_option maxHeartbeats 1000000 in
theorem c_count_4 {G : zW} {f : zHM} {m : Nat × Nat} {o r tr sc tx sl sv k la n : Nat} {A : Nat → Nat} {ρ : zRS} {xs tm : Nat → Int32} (ho : f o = some (600, .inr (3, zOb r tr sc tx sl sv k))) (hr : RPic f 0 r la A ρ n xs tm) {N s : Nat} (hw : RW ρ N s n) {M : Nat × Nat} (hL : LNok f m la M) {gs : Nat → Int32} (hsc : f sc = some (601, .inl (0, 144, .inl gs))) : zM G yX3_count cX3_count 2 (some .int) 7 [.ref o, .int (nI 4)] (f, m) (zD (some (.int (sCount ρ s n k 4))) (fun f' m' => (∃ g, f' sc = some (601, .inl (0, 144, .inl g))) ∧ LNok f' m' la M ∧ zFr zT96 f f')) := by
  refine zM.of (by decide) (Nat.le_of_ble_eq_true rfl) ?_
  have r0 := hr.1
  refine v_iload_n dX3_count_0 rfl rfl ?_
  refine v_iconst (0) dX3_count_1 (by decide) ?_
  refine v_bipush (12) dX3_count_2 (by decide) ?_
  refine v_callS0p kX3_72 gs_X3_needRange dX3_count_4 (c_needRange (by decide) (by decide)) rfl rfl (by decide) (Nat.le_of_ble_eq_true rfl) ?_
  refine v_iload_n dX3_count_7 rfl rfl ?_
  refine v_tableIn 104 dX3_count_8 (by decide) (by decide) (off := 96) (by rfl) (by decide) ?_
  refine v_aload_n dX3_count_104 rfl rfl ?_
  refine v_getfield fX3_34 dX3_count_105 (by assumption) (by rfl) ?_
  refine v_getfield fX3_121 dX3_count_108 (by assumption) (by rfl) ?_
  exact v_ireturn dX3_count_111 rfl ⟨rfl, ⟨gs, hsc⟩, hL, zFr.refl⟩
set_option maxRecDepth 10000 in
set_option maxHeartbeats 1000000 in
theorem c_count_5 {G : zW} {f : zHM} {m : Nat × Nat} {o r tr sc tx sl sv k la n : Nat} {A : Nat → Nat} {ρ : zRS} {xs tm : Nat → Int32} (ho : f o = some (600, .inr (3, zOb r tr sc tx sl sv k))) (hr : RPic f 0 r la A ρ n xs tm) {N s : Nat} (hw : RW ρ N s n) {M : Nat × Nat} (hL : LNok f m la M) {gs : Nat → Int32} (hsc : f sc = some (601, .inl (0, 144, .inl gs))) : zM G yX3_count cX3_count 2 (some .int) 7 [.ref o, .int (nI 5)] (f, m) (zD (some (.int (sCount ρ s n k 5))) (fun f' m' => (∃ g, f' sc = some (601, .inl (0, 144, .inl g))) ∧ LNok f' m' la M ∧ zFr zT96 f f')) := by
  refine zM.of (by decide) (Nat.le_of_ble_eq_true rfl) ?_
  have r0 := hr.1
  refine v_iload_n dX3_count_0 rfl rfl ?_
  refine v_iconst (0) dX3_count_1 (by decide) ?_
  refine v_bipush (12) dX3_count_2 (by decide) ?_
  refine v_callS0p kX3_72 gs_X3_needRange dX3_count_4 (c_needRange (by decide) (by decide)) rfl rfl (by decide) (Nat.le_of_ble_eq_true rfl) ?_
  refine v_iload_n dX3_count_7 rfl rfl ?_
  refine v_tableIn 112 dX3_count_8 (by decide) (by decide) (off := 104) (by rfl) (by decide) ?_
  refine v_aload_n dX3_count_112 rfl rfl ?_
  refine v_getfield fX3_34 dX3_count_113 (by assumption) (by rfl) ?_
  refine v_getfield fX3_124 dX3_count_116 (by assumption) (by rfl) ?_
  exact v_ireturn dX3_count_119 rfl ⟨rfl, ⟨gs, hsc⟩, hL, zFr.refl⟩
set_option maxRecDepth 10000 in
set_option maxHeartbeats 1000000 in
theorem c_count_6 {G : zW} {f : zHM} {m : Nat × Nat} {o r tr sc tx sl sv k la n : Nat} {A : Nat → Nat} {ρ : zRS} {xs tm : Nat → Int32} (ho : f o = some (600, .inr (3, zOb r tr sc tx sl sv k))) (hr : RPic f 0 r la A ρ n xs tm) {N s : Nat} (hw : RW ρ N s n) {M : Nat × Nat} (hL : LNok f m la M) {gs : Nat → Int32} (hsc : f sc = some (601, .inl (0, 144, .inl gs))) : zM G yX3_count cX3_count 2 (some .int) 7 [.ref o, .int (nI 6)] (f, m) (zD (some (.int (sCount ρ s n k 6))) (fun f' m' => (∃ g, f' sc = some (601, .inl (0, 144, .inl g))) ∧ LNok f' m' la M ∧ zFr zT96 f f')) := by
  refine zM.of (by decide) (Nat.le_of_ble_eq_true rfl) ?_
  have r0 := hr.1
  refine v_iload_n dX3_count_0 rfl rfl ?_
  refine v_iconst (0) dX3_count_1 (by decide) ?_
  refine v_bipush (12) dX3_count_2 (by decide) ?_
  refine v_callS0p kX3_72 gs_X3_needRange dX3_count_4 (c_needRange (by decide) (by decide)) rfl rfl (by decide) (Nat.le_of_ble_eq_true rfl) ?_
  refine v_iload_n dX3_count_7 rfl rfl ?_
  refine v_tableIn 120 dX3_count_8 (by decide) (by decide) (off := 112) (by rfl) (by decide) ?_
  refine v_aload_n dX3_count_120 rfl rfl ?_
  refine v_getfield fX3_34 dX3_count_121 (by assumption) (by rfl) ?_
  refine v_getfield fX3_95 dX3_count_124 (by assumption) (by rfl) ?_
  exact v_ireturn dX3_count_127 rfl ⟨rfl, ⟨gs, hsc⟩, hL, zFr.refl⟩
set_option maxRecDepth 10000 in
set_option maxHeartbeats 1000000 in
theorem c_count_7 {G : zW} {f : zHM} {m : Nat × Nat} {o r tr sc tx sl sv k la n : Nat} {A : Nat → Nat} {ρ : zRS} {xs tm : Nat → Int32} (ho : f o = some (600, .inr (3, zOb r tr sc tx sl sv k))) (hr : RPic f 0 r la A ρ n xs tm) {N s : Nat} (hw : RW ρ N s n) {M : Nat × Nat} (hL : LNok f m la M) {gs : Nat → Int32} (hsc : f sc = some (601, .inl (0, 144, .inl gs))) : zM G yX3_count cX3_count 2 (some .int) 7 [.ref o, .int (nI 7)] (f, m) (zD (some (.int (sCount ρ s n k 7))) (fun f' m' => (∃ g, f' sc = some (601, .inl (0, 144, .inl g))) ∧ LNok f' m' la M ∧ zFr zT96 f f')) := by
  refine zM.of (by decide) (Nat.le_of_ble_eq_true rfl) ?_
  have r0 := hr.1
  refine v_iload_n dX3_count_0 rfl rfl ?_
  refine v_iconst (0) dX3_count_1 (by decide) ?_
  refine v_bipush (12) dX3_count_2 (by decide) ?_
  refine v_callS0p kX3_72 gs_X3_needRange dX3_count_4 (c_needRange (by decide) (by decide)) rfl rfl (by decide) (Nat.le_of_ble_eq_true rfl) ?_
  refine v_iload_n dX3_count_7 rfl rfl ?_
  refine v_tableIn 128 dX3_count_8 (by decide) (by decide) (off := 120) (by rfl) (by decide) ?_
  refine v_aload_n dX3_count_128 rfl rfl ?_
  refine v_getfield fX3_34 dX3_count_129 (by assumption) (by rfl) ?_
  refine v_callVp kX3_152 gi_X1_misfit ge_X1_misfit rfl dX3_count_132 (by assumption) (c_misfit hr) rfl rfl (by decide) (Nat.le_of_ble_eq_true rfl) ?_
  exact v_ireturn dX3_count_135 rfl ⟨rfl, ⟨gs, hsc⟩, hL, zFr.refl⟩
set_option maxRecDepth 10000 in
set_option maxHeartbeats 1000000 in
theorem c_count_8 {G : zW} {f : zHM} {m : Nat × Nat} {o r tr sc tx sl sv k la n : Nat} {A : Nat → Nat} {ρ : zRS} {xs tm : Nat → Int32} (ho : f o = some (600, .inr (3, zOb r tr sc tx sl sv k))) (hr : RPic f 0 r la A ρ n xs tm) {N s : Nat} (hw : RW ρ N s n) {M : Nat × Nat} (hL : LNok f m la M) {gs : Nat → Int32} (hsc : f sc = some (601, .inl (0, 144, .inl gs))) : zM G yX3_count cX3_count 2 (some .int) 7 [.ref o, .int (nI 8)] (f, m) (zD (some (.int (sCount ρ s n k 8))) (fun f' m' => (∃ g, f' sc = some (601, .inl (0, 144, .inl g))) ∧ LNok f' m' la M ∧ zFr zT96 f f')) := by
  refine zM.of (by decide) (Nat.le_of_ble_eq_true rfl) ?_
  have r0 := hr.1
  refine v_iload_n dX3_count_0 rfl rfl ?_
  refine v_iconst (0) dX3_count_1 (by decide) ?_
  refine v_bipush (12) dX3_count_2 (by decide) ?_
  refine v_callS0p kX3_72 gs_X3_needRange dX3_count_4 (c_needRange (by decide) (by decide)) rfl rfl (by decide) (Nat.le_of_ble_eq_true rfl) ?_
  refine v_iload_n dX3_count_7 rfl rfl ?_
  refine v_tableIn 136 dX3_count_8 (by decide) (by decide) (off := 128) (by rfl) (by decide) ?_
  refine v_aload_n dX3_count_136 rfl rfl ?_
  refine v_getfield fX3_34 dX3_count_137 (by assumption) (by rfl) ?_
  refine v_aload_n dX3_count_140 rfl rfl ?_
  refine v_getfield fX3_9 dX3_count_141 (by assumption) (by rfl) ?_
  refine v_callV1 kX3_236 gi_X1_misfitByGains ge_X1_misfitByGains rfl dX3_count_144 (by assumption) (c_misfitByGains hr (by omega) hw hL hsc (by omega)) rfl rfl (by decide) (Nat.le_of_ble_eq_true rfl) (fun f m hc => ?_)
  exact v_ireturn dX3_count_147 rfl ⟨rfl, hc.1, hc.2.1, hc.2.2⟩
set_option maxRecDepth 10000 in
set_option maxHeartbeats 1000000 in
theorem c_count_9 {G : zW} {f : zHM} {m : Nat × Nat} {o r tr sc tx sl sv k la n : Nat} {A : Nat → Nat} {ρ : zRS} {xs tm : Nat → Int32} (ho : f o = some (600, .inr (3, zOb r tr sc tx sl sv k))) (hr : RPic f 0 r la A ρ n xs tm) {N s : Nat} (hw : RW ρ N s n) {M : Nat × Nat} (hL : LNok f m la M) {gs : Nat → Int32} (hsc : f sc = some (601, .inl (0, 144, .inl gs))) : zM G yX3_count cX3_count 2 (some .int) 7 [.ref o, .int (nI 9)] (f, m) (zD (some (.int (sCount ρ s n k 9))) (fun f' m' => (∃ g, f' sc = some (601, .inl (0, 144, .inl g))) ∧ LNok f' m' la M ∧ zFr zT96 f f')) := by
  refine zM.of (by decide) (Nat.le_of_ble_eq_true rfl) ?_
  have r0 := hr.1
  refine v_iload_n dX3_count_0 rfl rfl ?_
  refine v_iconst (0) dX3_count_1 (by decide) ?_
  refine v_bipush (12) dX3_count_2 (by decide) ?_
  refine v_callS0p kX3_72 gs_X3_needRange dX3_count_4 (c_needRange (by decide) (by decide)) rfl rfl (by decide) (Nat.le_of_ble_eq_true rfl) ?_
  refine v_iload_n dX3_count_7 rfl rfl ?_
  refine v_tableIn 148 dX3_count_8 (by decide) (by decide) (off := 140) (by rfl) (by decide) ?_
  refine v_aload_n dX3_count_148 rfl rfl ?_
  refine v_getfield fX3_34 dX3_count_149 (by assumption) (by rfl) ?_
  refine v_iconst (1) dX3_count_152 (by decide) ?_
  refine v_callVp kX3_240 gi_X1_squaresOfSign ge_X1_squaresOfSign rfl dX3_count_153 (by assumption) (c_squaresOfSign hr 1) rfl rfl (by decide) (Nat.le_of_ble_eq_true rfl) ?_
  exact v_ireturn dX3_count_156 rfl ⟨rfl, ⟨gs, hsc⟩, hL, zFr.refl⟩
set_option maxRecDepth 10000 in
set_option maxHeartbeats 1000000 in
theorem c_count_10 {G : zW} {f : zHM} {m : Nat × Nat} {o r tr sc tx sl sv k la n : Nat} {A : Nat → Nat} {ρ : zRS} {xs tm : Nat → Int32} (ho : f o = some (600, .inr (3, zOb r tr sc tx sl sv k))) (hr : RPic f 0 r la A ρ n xs tm) {N s : Nat} (hw : RW ρ N s n) {M : Nat × Nat} (hL : LNok f m la M) {gs : Nat → Int32} (hsc : f sc = some (601, .inl (0, 144, .inl gs))) : zM G yX3_count cX3_count 2 (some .int) 7 [.ref o, .int (nI 10)] (f, m) (zD (some (.int (sCount ρ s n k 10))) (fun f' m' => (∃ g, f' sc = some (601, .inl (0, 144, .inl g))) ∧ LNok f' m' la M ∧ zFr zT96 f f')) := by
  refine zM.of (by decide) (Nat.le_of_ble_eq_true rfl) ?_
  have r0 := hr.1
  refine v_iload_n dX3_count_0 rfl rfl ?_
  refine v_iconst (0) dX3_count_1 (by decide) ?_
  refine v_bipush (12) dX3_count_2 (by decide) ?_
  refine v_callS0p kX3_72 gs_X3_needRange dX3_count_4 (c_needRange (by decide) (by decide)) rfl rfl (by decide) (Nat.le_of_ble_eq_true rfl) ?_
  refine v_iload_n dX3_count_7 rfl rfl ?_
  refine v_tableIn 157 dX3_count_8 (by decide) (by decide) (off := 149) (by rfl) (by decide) ?_
  refine v_aload_n dX3_count_157 rfl rfl ?_
  refine v_getfield fX3_34 dX3_count_158 (by assumption) (by rfl) ?_
  refine v_iconst (-1) dX3_count_161 (by decide) ?_
  refine v_callVp kX3_240 gi_X1_squaresOfSign ge_X1_squaresOfSign rfl dX3_count_162 (by assumption) (c_squaresOfSign hr (-1)) rfl rfl (by decide) (Nat.le_of_ble_eq_true rfl) ?_
  exact v_ireturn dX3_count_165 rfl ⟨rfl, ⟨gs, hsc⟩, hL, zFr.refl⟩
set_option maxRecDepth 10000 in
set_option maxHeartbeats 1000000 in
theorem c_count_11 {G : zW} {f : zHM} {m : Nat × Nat} {o r tr sc tx sl sv k la n : Nat} {A : Nat → Nat} {ρ : zRS} {xs tm : Nat → Int32} (ho : f o = some (600, .inr (3, zOb r tr sc tx sl sv k))) (hr : RPic f 0 r la A ρ n xs tm) {N s : Nat} (hw : RW ρ N s n) {M : Nat × Nat} (hL : LNok f m la M) {gs : Nat → Int32} (hsc : f sc = some (601, .inl (0, 144, .inl gs))) : zM G yX3_count cX3_count 2 (some .int) 7 [.ref o, .int (nI 11)] (f, m) (zD (some (.int (sCount ρ s n k 11))) (fun f' m' => (∃ g, f' sc = some (601, .inl (0, 144, .inl g))) ∧ LNok f' m' la M ∧ zFr zT96 f f')) := by
  refine zM.of (by decide) (Nat.le_of_ble_eq_true rfl) ?_
  have r0 := hr.1
  refine v_iload_n dX3_count_0 rfl rfl ?_
  refine v_iconst (0) dX3_count_1 (by decide) ?_
  refine v_bipush (12) dX3_count_2 (by decide) ?_
  refine v_callS0p kX3_72 gs_X3_needRange dX3_count_4 (c_needRange (by decide) (by decide)) rfl rfl (by decide) (Nat.le_of_ble_eq_true rfl) ?_
  refine v_iload_n dX3_count_7 rfl rfl ?_
  refine v_tableIn 166 dX3_count_8 (by decide) (by decide) (off := 158) (by rfl) (by decide) ?_
  refine v_aload_n dX3_count_166 rfl rfl ?_
  refine v_getfield fX3_34 dX3_count_167 (by assumption) (by rfl) ?_
  refine v_iconst (0) dX3_count_170 (by decide) ?_
  refine v_callV1 kX3_201 gi_X1_threadLying ge_X1_threadLying rfl dX3_count_171 (by assumption) (c_threadLying hr (by omega) hw hL 0) rfl rfl (by decide) (Nat.le_of_ble_eq_true rfl) (fun f m hc => ?_)
  obtain ⟨hL, hf1⟩ := hc
  have hr := hr.fr hf1 (fun k hk => by show ¬ (0 + k = 950); omega)
  have ho := hf1 _ _ _ ho (by decide)
  have r0 := hr.1
  refine v_aload_n dX3_count_174 rfl rfl ?_
  refine v_getfield fX3_34 dX3_count_175 (by assumption) (by rfl) ?_
  refine v_iconst (1) dX3_count_178 (by decide) ?_
  refine v_callV1 kX3_201 gi_X1_threadLying ge_X1_threadLying rfl dX3_count_179 (by assumption) (c_threadLying hr (by omega) hw hL 1) rfl rfl (by decide) (Nat.le_of_ble_eq_true rfl) (fun f m hc => ?_)
  obtain ⟨hL, hf2⟩ := hc
  have hr := hr.fr hf2 (fun k hk => by show ¬ (0 + k = 950); omega)
  have ho := hf2 _ _ _ ho (by decide)
  have r0 := hr.1
  refine v_iadd dX3_count_182 ?_
  refine v_aload_n dX3_count_183 rfl rfl ?_
  refine v_getfield fX3_34 dX3_count_184 (by assumption) (by rfl) ?_
  refine v_iconst (2) dX3_count_187 (by decide) ?_
  refine v_callV1 kX3_201 gi_X1_threadLying ge_X1_threadLying rfl dX3_count_188 (by assumption) (c_threadLying hr (by omega) hw hL 2) rfl rfl (by decide) (Nat.le_of_ble_eq_true rfl) (fun f m hc => ?_)
  obtain ⟨hL, hf3⟩ := hc
  refine v_iadd dX3_count_191 ?_
  exact v_ireturn dX3_count_192 rfl ⟨rfl, ⟨gs, hf3 _ _ _ (hf2 _ _ _ (hf1 _ _ _ hsc (by decide)) (by decide)) (by decide)⟩, hL, ((hf1.trans hf2).trans hf3).weaken (fun _ h => Or.inl h)⟩
set_option maxRecDepth 10000 in
set_option maxHeartbeats 1000000 in
theorem c_count_12 {G : zW} {f : zHM} {m : Nat × Nat} {o r tr sc tx sl sv k la n : Nat} {A : Nat → Nat} {ρ : zRS} {xs tm : Nat → Int32} (ho : f o = some (600, .inr (3, zOb r tr sc tx sl sv k))) (hr : RPic f 0 r la A ρ n xs tm) {N s : Nat} (hw : RW ρ N s n) {M : Nat × Nat} (hL : LNok f m la M) {gs : Nat → Int32} (hsc : f sc = some (601, .inl (0, 144, .inl gs))) : zM G yX3_count cX3_count 2 (some .int) 7 [.ref o, .int (nI 12)] (f, m) (zD (some (.int (sCount ρ s n k 12))) (fun f' m' => (∃ g, f' sc = some (601, .inl (0, 144, .inl g))) ∧ LNok f' m' la M ∧ zFr zT96 f f')) := by
  refine zM.of (by decide) (Nat.le_of_ble_eq_true rfl) ?_
  have r0 := hr.1
  refine v_iload_n dX3_count_0 rfl rfl ?_
  refine v_iconst (0) dX3_count_1 (by decide) ?_
  refine v_bipush (12) dX3_count_2 (by decide) ?_
  refine v_callS0p kX3_72 gs_X3_needRange dX3_count_4 (c_needRange (by decide) (by decide)) rfl rfl (by decide) (Nat.le_of_ble_eq_true rfl) ?_
  refine v_iload_n dX3_count_7 rfl rfl ?_
  refine v_tableOut 193 dX3_count_8 (Or.inr (by decide)) (by decide) ?_
  refine v_aload_n dX3_count_193 rfl rfl ?_
  refine v_getfield fX3_187 dX3_count_194 (by assumption) (by rfl) ?_
  exact v_ireturn dX3_count_197 rfl ⟨rfl, ⟨gs, hsc⟩, hL, zFr.refl⟩
theorem c_count {G : zW} {f : zHM} {m : Nat × Nat} {o r tr sc tx sl sv k la n : Nat} {A : Nat → Nat} {ρ : zRS} {xs tm : Nat → Int32} (ho : f o = some (600, .inr (3, zOb r tr sc tx sl sv k))) (hr : RPic f 0 r la A ρ n xs tm) {N s : Nat} (hw : RW ρ N s n) {M : Nat × Nat} (hL : LNok f m la M) {gs : Nat → Int32} (hsc : f sc = some (601, .inl (0, 144, .inl gs))) {w : Nat} (hw4 : w ≤ 12) : zM G yX3_count cX3_count 2 (some .int) 7 [.ref o, .int (nI w)] (f, m) (zD (some (.int (sCount ρ s n k w))) (fun f' m' => (∃ g, f' sc = some (601, .inl (0, 144, .inl g))) ∧ LNok f' m' la M ∧ zFr zT96 f f')) := by
  match w, hw4 with
  | 0, _ => exact c_count_0 ho hr hw hL hsc
  | 1, _ => exact c_count_1 ho hr hw hL hsc
  | 2, _ => exact c_count_2 ho hr hw hL hsc
  | 3, _ => exact c_count_3 ho hr hw hL hsc
  | 4, _ => exact c_count_4 ho hr hw hL hsc
  | 5, _ => exact c_count_5 ho hr hw hL hsc
  | 6, _ => exact c_count_6 ho hr hw hL hsc
  | 7, _ => exact c_count_7 ho hr hw hL hsc
  | 8, _ => exact c_count_8 ho hr hw hL hsc
  | 9, _ => exact c_count_9 ho hr hw hL hsc
  | 10, _ => exact c_count_10 ho hr hw hL hsc
  | 11, _ => exact c_count_11 ho hr hw hL hsc
  | 12, _ => exact c_count_12 ho hr hw hL hsc
set_option maxRecDepth 10000 in
set_option maxHeartbeats 1000000 in
theorem c_palest {G : zW} {f : zHM} {m : Nat × Nat} {o r tr sc tx sl sv k la n : Nat} {A : Nat → Nat} {ρ : zRS} {xs tm : Nat → Int32} (ho : f o = some (600, .inr (3, zOb r tr sc tx sl sv k))) (hr : RPic f 0 r la A ρ n xs tm) : zM G yX3_palest cX3_palest 5 (some .int) 7 [.ref o] (f, m) (zS (.int (sPal ρ 144).1) f m) := by
  refine zM.of (by decide) (Nat.le_of_ble_eq_true rfl) ?_
  have r0 := hr.1
  have loop : ∀ (k i : Nat), i + k = 144 → zV G yX3_palest cX3_palest 5 (some .int) 7 6 [(0, .ref o), (1, .int (sPal ρ i).1), (2, .int (sPal ρ i).2), (3, .int (nI i))] [] (f, m) (zS (.int (sPal ρ 144).1) f m) := by
    intro k
    induction k with
    | zero =>
      intro i hi 
      have hi : i = 144 := by omega
      subst hi
      refine v_iload_n dX3_palest_6 rfl rfl ?_
      refine v_sipush (nI 144) dX3_palest_7 (by decide) ?_
      refine v_icmp_ge 51 dX3_palest_10 (by decide) (fun b10 => ?_) (fun b10 => ?_)
      · refine v_iload_n dX3_palest_51 rfl rfl ?_
        exact v_ireturn dX3_palest_52 rfl ⟨rfl, rfl, rfl⟩
      · exact absurd (nI_le (by omega) (by omega)) b10
    | succ k ih =>
      intro i hi 
      have h9 : i < 144 := by omega
      refine v_iload_n dX3_palest_6 rfl rfl ?_
      refine v_sipush (nI 144) dX3_palest_7 (by decide) ?_
      refine v_icmp_ge 51 dX3_palest_10 (by decide) (fun b10 => ?_) (fun b10 => ?_)
      · exact absurd b10 (nI_ge h9 (by omega))
      · refine v_aload_n dX3_palest_13 rfl rfl ?_
        refine v_getfield fX3_34 dX3_palest_14 (by assumption) (by rfl) ?_
        refine v_iload_n dX3_palest_17 rfl rfl ?_
        refine v_callVp kX3_230 gi_X1_lackOf ge_X1_lackOf rfl dX3_palest_18 (by assumption) (c_lackOf hr h9) rfl rfl (by decide) (Nat.le_of_ble_eq_true rfl) ?_
        refine v_istore dX3_palest_21 (by decide) ?_
        refine v_iload dX3_palest_23 rfl ?_
        refine v_iload_n dX3_palest_25 rfl rfl ?_
        refine v_icmp_le 45 dX3_palest_26 (by decide) (fun b26 => ?_) (fun b26 => ?_)
        · have hst : sPal ρ (i + 1) = sPal ρ i := if_pos b26
          refine v_iincN dX3_palest_45 rfl (by decide) ?_
          refine v_goto 6 dX3_palest_48 (by decide) ?_
          exact v_loc (lv' := [(0, .ref o), (1, .int (sPal ρ (i + 1)).1), (2, .int (sPal ρ (i + 1)).2), (3, .int (nI (i + 1)))]) ⟨rfl, zlkE rfl (by rw [hst]), zlkE rfl (by rw [hst]), rfl, trivial⟩ (ih (i + 1) (by omega))
        · have hst : sPal ρ (i + 1) = (nI (100 * (i / 12) + i % 12), sLack ρ i) := if_neg b26
          refine v_iload dX3_palest_29 rfl ?_
          refine v_istore_n dX3_palest_31 rfl (by decide) ?_
          refine v_bipush (nI 100) dX3_palest_32 (by decide) ?_
          refine v_iload_n dX3_palest_34 rfl rfl ?_
          refine v_bipush (nI 12) dX3_palest_35 (by decide) ?_
          refine v_idiv dX3_palest_37 (by decide) ?_
          rw [pk_div (by omega) (by omega) (by omega)]
          refine v_imul dX3_palest_38 ?_
          rw [pk_mul]
          refine v_iload_n dX3_palest_39 rfl rfl ?_
          refine v_bipush (nI 12) dX3_palest_40 (by decide) ?_
          refine v_irem dX3_palest_42 (by decide) ?_
          rw [pk_rem (by omega) (by omega) (by omega)]
          refine v_iadd dX3_palest_43 ?_
          rw [nI_add]
          refine v_istore_n dX3_palest_44 rfl (by decide) ?_
          refine v_iincN dX3_palest_45 rfl (by decide) ?_
          refine v_goto 6 dX3_palest_48 (by decide) ?_
          exact v_loc (lv' := [(0, .ref o), (1, .int (sPal ρ (i + 1)).1), (2, .int (sPal ρ (i + 1)).2), (3, .int (nI (i + 1)))]) ⟨rfl, zlkE rfl (by rw [hst]), zlkE rfl (by rw [hst]), rfl, trivial⟩ (ih (i + 1) (by omega))
  refine v_iconst (-1) dX3_palest_0 (by decide) ?_
  refine v_istore_n dX3_palest_1 rfl (by decide) ?_
  refine v_iconst (0) dX3_palest_2 (by decide) ?_
  refine v_istore_n dX3_palest_3 rfl (by decide) ?_
  refine v_iconst (0) dX3_palest_4 (by decide) ?_
  refine v_istore_n dX3_palest_5 rfl (by decide) ?_
  exact v_loc (lv' := [(0, .ref o), (1, .int (sPal ρ 0).1), (2, .int (sPal ρ 0).2), (3, .int (nI 0))]) ⟨rfl, rfl, rfl, rfl, trivial⟩ (loop 144 0 rfl)
