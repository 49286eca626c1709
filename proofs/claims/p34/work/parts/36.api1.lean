abbrev zOb (r tr sc tx sl sv : Nat) (k : Nat) : List Value := [.ref r, .ref tr, .ref sc, .ref tx, .ref sl, .ref sv, .int (nI k)]
def sNailOf (ρ : zRS) (s n b : Nat) : Nat → Int32
  | 0 => sX (b * s)
  | 1 => sY (b * s)
  | 2 => sEnds ρ n (nI b)
  | _ => if nI b = ρ 0 1 then 1 else 0
def sSpoolOf (ρ : zRS) (s n u : Nat) : Nat → Int32
  | 0 => ρ 1 u
  | 1 => ρ 2 u
  | 2 => sThr ρ s n (nI u)
  | 3 => sCh ρ n (nI u)
  | _ => if nI u = ρ 0 2 then 1 else 0
def sWound (ρ : zRS) (n g : Nat) : Nat → Int32
  | 0 => if n ≤ g then -1 else ρ 4 (n - 1 - g)
  | 1 => if n ≤ g then -1 else ρ 5 (n - 1 - g)
  | _ => if n ≤ g then -1 else ρ 6 (n - 1 - g)
def sSquare (ρ : zRS) (xs : Nat → Int32) (q : Nat) : Nat → Int32
  | 0 => ρ 7 q
  | 1 => ρ 8 q
  | 2 => sLack ρ q + 10000
  | _ => xs q
set_option maxRecDepth 10000 in
set_option maxHeartbeats 1000000 in
theorem c_nailOf_0 {G : zW} {f : zHM} {m : Nat × Nat} {o r tr sc tx sl sv k la n : Nat} {A : Nat → Nat} {ρ : zRS} {xs tm : Nat → Int32} (ho : f o = some (600, .inr (3, zOb r tr sc tx sl sv k))) (hr : RPic f 0 r la A ρ n xs tm) {N s : Nat} (hv : RV ρ N s) (hn201 : n ≤ 201) {b : Nat} (hb : b < N) : zM G yX3_nailOf cX3_nailOf 3 (some .int) 7 [.ref o, .int (nI b), .int (nI 0)] (f, m) (zS (.int (sNailOf ρ s n b 0)) f m) := by
  refine zM.of (by decide) (Nat.le_of_ble_eq_true rfl) ?_
  have hv9 := hv.pos
  have hpb := hv.pl hb
  have r0 := hr.1
  refine v_aload_n dX3_nailOf_0 rfl rfl ?_
  refine v_iload_n dX3_nailOf_1 rfl rfl ?_
  refine v_callV0p kX3_107 gi_X3_needNail ge_X3_needNail rfl dX3_nailOf_2 (by assumption) (c_needNail ho hr.1 (nI_pos (by omega)) (by rw [hv.1]; exact nI_lt hb (by omega))) rfl rfl (by decide) (Nat.le_of_ble_eq_true rfl) ?_
  refine v_iload_n dX3_nailOf_5 rfl rfl ?_
  refine v_iconst (0) dX3_nailOf_6 (by decide) ?_
  refine v_iconst (3) dX3_nailOf_7 (by decide) ?_
  refine v_callS0p kX3_72 gs_X3_needRange dX3_nailOf_8 (c_needRange (by decide) (by decide)) rfl rfl (by decide) (Nat.le_of_ble_eq_true rfl) ?_
  refine v_iload_n dX3_nailOf_11 rfl rfl ?_
  refine v_tableIn 40 dX3_nailOf_12 (by decide) (by decide) (off := 28) (by rfl) (by decide) ?_
  refine v_iload_n dX3_nailOf_40 rfl rfl ?_
  refine v_aload_n dX3_nailOf_41 rfl rfl ?_
  refine v_getfield fX3_34 dX3_nailOf_42 (by assumption) (by rfl) ?_
  refine v_getfield fX3_62 dX3_nailOf_45 (by assumption) (by rfl) ?_
  refine v_imul dX3_nailOf_48 ?_
  rw [hv.2.1, pk_mul]
  refine v_callSp kX3_192 gs_X0_xOf dX3_nailOf_49 (c_xOf hpb) rfl rfl (by decide) (Nat.le_of_ble_eq_true rfl) ?_
  exact v_ireturn dX3_nailOf_52 rfl ⟨rfl, rfl, rfl⟩
set_option maxRecDepth 10000 in
set_option maxHeartbeats 1000000 in
theorem c_nailOf_1 {G : zW} {f : zHM} {m : Nat × Nat} {o r tr sc tx sl sv k la n : Nat} {A : Nat → Nat} {ρ : zRS} {xs tm : Nat → Int32} (ho : f o = some (600, .inr (3, zOb r tr sc tx sl sv k))) (hr : RPic f 0 r la A ρ n xs tm) {N s : Nat} (hv : RV ρ N s) (hn201 : n ≤ 201) {b : Nat} (hb : b < N) : zM G yX3_nailOf cX3_nailOf 3 (some .int) 7 [.ref o, .int (nI b), .int (nI 1)] (f, m) (zS (.int (sNailOf ρ s n b 1)) f m) := by
  refine zM.of (by decide) (Nat.le_of_ble_eq_true rfl) ?_
  have hv9 := hv.pos
  have hpb := hv.pl hb
  have r0 := hr.1
  refine v_aload_n dX3_nailOf_0 rfl rfl ?_
  refine v_iload_n dX3_nailOf_1 rfl rfl ?_
  refine v_callV0p kX3_107 gi_X3_needNail ge_X3_needNail rfl dX3_nailOf_2 (by assumption) (c_needNail ho hr.1 (nI_pos (by omega)) (by rw [hv.1]; exact nI_lt hb (by omega))) rfl rfl (by decide) (Nat.le_of_ble_eq_true rfl) ?_
  refine v_iload_n dX3_nailOf_5 rfl rfl ?_
  refine v_iconst (0) dX3_nailOf_6 (by decide) ?_
  refine v_iconst (3) dX3_nailOf_7 (by decide) ?_
  refine v_callS0p kX3_72 gs_X3_needRange dX3_nailOf_8 (c_needRange (by decide) (by decide)) rfl rfl (by decide) (Nat.le_of_ble_eq_true rfl) ?_
  refine v_iload_n dX3_nailOf_11 rfl rfl ?_
  refine v_tableIn 53 dX3_nailOf_12 (by decide) (by decide) (off := 41) (by rfl) (by decide) ?_
  refine v_iload_n dX3_nailOf_53 rfl rfl ?_
  refine v_aload_n dX3_nailOf_54 rfl rfl ?_
  refine v_getfield fX3_34 dX3_nailOf_55 (by assumption) (by rfl) ?_
  refine v_getfield fX3_62 dX3_nailOf_58 (by assumption) (by rfl) ?_
  refine v_imul dX3_nailOf_61 ?_
  rw [hv.2.1, pk_mul]
  refine v_callSp kX3_195 gs_X0_yOf dX3_nailOf_62 (c_yOf hpb) rfl rfl (by decide) (Nat.le_of_ble_eq_true rfl) ?_
  exact v_ireturn dX3_nailOf_65 rfl ⟨rfl, rfl, rfl⟩
set_option maxRecDepth 10000 in
set_option maxHeartbeats 1000000 in
theorem c_nailOf_2 {G : zW} {f : zHM} {m : Nat × Nat} {o r tr sc tx sl sv k la n : Nat} {A : Nat → Nat} {ρ : zRS} {xs tm : Nat → Int32} (ho : f o = some (600, .inr (3, zOb r tr sc tx sl sv k))) (hr : RPic f 0 r la A ρ n xs tm) {N s : Nat} (hv : RV ρ N s) (hn201 : n ≤ 201) {b : Nat} (hb : b < N) : zM G yX3_nailOf cX3_nailOf 3 (some .int) 7 [.ref o, .int (nI b), .int (nI 2)] (f, m) (zS (.int (sNailOf ρ s n b 2)) f m) := by
  refine zM.of (by decide) (Nat.le_of_ble_eq_true rfl) ?_
  have hv9 := hv.pos
  have hpb := hv.pl hb
  have r0 := hr.1
  refine v_aload_n dX3_nailOf_0 rfl rfl ?_
  refine v_iload_n dX3_nailOf_1 rfl rfl ?_
  refine v_callV0p kX3_107 gi_X3_needNail ge_X3_needNail rfl dX3_nailOf_2 (by assumption) (c_needNail ho hr.1 (nI_pos (by omega)) (by rw [hv.1]; exact nI_lt hb (by omega))) rfl rfl (by decide) (Nat.le_of_ble_eq_true rfl) ?_
  refine v_iload_n dX3_nailOf_5 rfl rfl ?_
  refine v_iconst (0) dX3_nailOf_6 (by decide) ?_
  refine v_iconst (3) dX3_nailOf_7 (by decide) ?_
  refine v_callS0p kX3_72 gs_X3_needRange dX3_nailOf_8 (c_needRange (by decide) (by decide)) rfl rfl (by decide) (Nat.le_of_ble_eq_true rfl) ?_
  refine v_iload_n dX3_nailOf_11 rfl rfl ?_
  refine v_tableIn 66 dX3_nailOf_12 (by decide) (by decide) (off := 54) (by rfl) (by decide) ?_
  refine v_aload_n dX3_nailOf_66 rfl rfl ?_
  refine v_getfield fX3_34 dX3_nailOf_67 (by assumption) (by rfl) ?_
  refine v_iload_n dX3_nailOf_70 rfl rfl ?_
  refine v_callVp kX3_198 gi_X1_endsAt ge_X1_endsAt rfl dX3_nailOf_71 (by assumption) (c_endsAt hr hn201 (nI b)) rfl rfl (by decide) (Nat.le_of_ble_eq_true rfl) ?_
  exact v_ireturn dX3_nailOf_74 rfl ⟨rfl, rfl, rfl⟩
set_option maxRecDepth 10000 in
set_option maxHeartbeats 1000000 in
theorem c_nailOf_3 {G : zW} {f : zHM} {m : Nat × Nat} {o r tr sc tx sl sv k la n : Nat} {A : Nat → Nat} {ρ : zRS} {xs tm : Nat → Int32} (ho : f o = some (600, .inr (3, zOb r tr sc tx sl sv k))) (hr : RPic f 0 r la A ρ n xs tm) {N s : Nat} (hv : RV ρ N s) (hn201 : n ≤ 201) {b : Nat} (hb : b < N) : zM G yX3_nailOf cX3_nailOf 3 (some .int) 7 [.ref o, .int (nI b), .int (nI 3)] (f, m) (zS (.int (sNailOf ρ s n b 3)) f m) := by
  refine zM.of (by decide) (Nat.le_of_ble_eq_true rfl) ?_
  have hv9 := hv.pos
  have hpb := hv.pl hb
  have r0 := hr.1
  refine v_aload_n dX3_nailOf_0 rfl rfl ?_
  refine v_iload_n dX3_nailOf_1 rfl rfl ?_
  refine v_callV0p kX3_107 gi_X3_needNail ge_X3_needNail rfl dX3_nailOf_2 (by assumption) (c_needNail ho hr.1 (nI_pos (by omega)) (by rw [hv.1]; exact nI_lt hb (by omega))) rfl rfl (by decide) (Nat.le_of_ble_eq_true rfl) ?_
  refine v_iload_n dX3_nailOf_5 rfl rfl ?_
  refine v_iconst (0) dX3_nailOf_6 (by decide) ?_
  refine v_iconst (3) dX3_nailOf_7 (by decide) ?_
  refine v_callS0p kX3_72 gs_X3_needRange dX3_nailOf_8 (c_needRange (by decide) (by decide)) rfl rfl (by decide) (Nat.le_of_ble_eq_true rfl) ?_
  refine v_iload_n dX3_nailOf_11 rfl rfl ?_
  refine v_tableOut 75 dX3_nailOf_12 (Or.inr (by decide)) (by decide) ?_
  refine v_iload_n dX3_nailOf_75 rfl rfl ?_
  refine v_aload_n dX3_nailOf_76 rfl rfl ?_
  refine v_getfield fX3_34 dX3_nailOf_77 (by assumption) (by rfl) ?_
  refine v_getfield fX3_65 dX3_nailOf_80 (by assumption) (by rfl) ?_
  refine v_icmp_ne 90 dX3_nailOf_83 (by decide) (fun b83 => ?_) (fun b83 => ?_)
  · refine v_iconst (0) dX3_nailOf_90 (by decide) ?_
    exact v_ireturn dX3_nailOf_91 rfl ⟨by rw [show sNailOf ρ s n b 3 = 0 from if_neg b83], rfl, rfl⟩
  · refine v_iconst (1) dX3_nailOf_86 (by decide) ?_
    refine v_goto 91 dX3_nailOf_87 (by decide) ?_
    exact v_ireturn dX3_nailOf_91 rfl ⟨by rw [show sNailOf ρ s n b 3 = 1 from if_pos b83], rfl, rfl⟩
theorem c_nailOf {G : zW} {f : zHM} {m : Nat × Nat} {o r tr sc tx sl sv k la n : Nat} {A : Nat → Nat} {ρ : zRS} {xs tm : Nat → Int32} (ho : f o = some (600, .inr (3, zOb r tr sc tx sl sv k))) (hr : RPic f 0 r la A ρ n xs tm) {N s : Nat} (hv : RV ρ N s) (hn201 : n ≤ 201) {b w : Nat} (hb : b < N) (hw4 : w ≤ 3) : zM G yX3_nailOf cX3_nailOf 3 (some .int) 7 [.ref o, .int (nI b), .int (nI w)] (f, m) (zS (.int (sNailOf ρ s n b w)) f m) := by
  match w, hw4 with
  | 0, _ => exact c_nailOf_0 ho hr hv hn201 hb
  | 1, _ => exact c_nailOf_1 ho hr hv hn201 hb
  | 2, _ => exact c_nailOf_2 ho hr hv hn201 hb
  | 3, _ => exact c_nailOf_3 ho hr hv hn201 hb
set_option maxRecDepth 10000 in
set_option maxHeartbeats 1000000 in
theorem c_spoolOf_0 {G : zW} {f : zHM} {m : Nat × Nat} {o r tr sc tx sl sv k la n : Nat} {A : Nat → Nat} {ρ : zRS} {xs tm : Nat → Int32} (ho : f o = some (600, .inr (3, zOb r tr sc tx sl sv k))) (hr : RPic f 0 r la A ρ n xs tm) {N s : Nat} (hw : RW ρ N s n) {M : Nat × Nat} (hL : LNok f m la M) {u : Nat} (hu : u < 3) : zM G yX3_spoolOf cX3_spoolOf 3 (some .int) 7 [.ref o, .int (nI u), .int (nI 0)] (f, m) (zD (some (.int (sSpoolOf ρ s n u 0))) (fun f' m' => LNok f' m' la M ∧ zFr zT9 f f')) := by
  refine zM.of (by decide) (Nat.le_of_ble_eq_true rfl) ?_
  obtain ⟨r0, ⟨g1, a1, e1⟩, ⟨g2, a2, e2⟩, ⟨g3, a3, e3⟩, ⟨g4, a4, e4⟩, ⟨g5, a5, e5⟩, ⟨g6, a6, e6⟩, ⟨g7, a7, e7⟩, ⟨g8, a8, e8⟩, ⟨g9, a9, e9⟩, ⟨g10, a10, e10⟩⟩ := id hr
  refine v_iload_n dX3_spoolOf_0 rfl rfl ?_
  refine v_callS0p kX3_68 gs_X3_needSpool dX3_spoolOf_1 (c_needSpool (nI_pos (by omega)) (show nI u < nI 3 from nI_lt hu (by omega))) rfl rfl (by decide) (Nat.le_of_ble_eq_true rfl) ?_
  refine v_iload_n dX3_spoolOf_4 rfl rfl ?_
  refine v_iconst (0) dX3_spoolOf_5 (by decide) ?_
  refine v_iconst (4) dX3_spoolOf_6 (by decide) ?_
  refine v_callS0p kX3_72 gs_X3_needRange dX3_spoolOf_7 (c_needRange (by decide) (by decide)) rfl rfl (by decide) (Nat.le_of_ble_eq_true rfl) ?_
  refine v_iload_n dX3_spoolOf_10 rfl rfl ?_
  refine v_tableIn 40 dX3_spoolOf_11 (by decide) (by decide) (off := 29) (by rfl) (by decide) ?_
  refine v_aload_n dX3_spoolOf_40 rfl rfl ?_
  refine v_getfield fX3_34 dX3_spoolOf_41 (by assumption) (by rfl) ?_
  refine v_getfield fX3_90 dX3_spoolOf_44 (by assumption) (by rfl) ?_
  refine v_iload_n dX3_spoolOf_47 rfl rfl ?_
  refine v_iaload dX3_spoolOf_48 (by assumption) (vp_in_nI hu (by omega)) ?_
  exact v_ireturn dX3_spoolOf_49 rfl ⟨by rw [nI_clamp (by omega), e1 u hu]; rfl, hL, zFr.refl⟩
set_option maxRecDepth 10000 in
set_option maxHeartbeats 1000000 in
theorem c_spoolOf_1 {G : zW} {f : zHM} {m : Nat × Nat} {o r tr sc tx sl sv k la n : Nat} {A : Nat → Nat} {ρ : zRS} {xs tm : Nat → Int32} (ho : f o = some (600, .inr (3, zOb r tr sc tx sl sv k))) (hr : RPic f 0 r la A ρ n xs tm) {N s : Nat} (hw : RW ρ N s n) {M : Nat × Nat} (hL : LNok f m la M) {u : Nat} (hu : u < 3) : zM G yX3_spoolOf cX3_spoolOf 3 (some .int) 7 [.ref o, .int (nI u), .int (nI 1)] (f, m) (zD (some (.int (sSpoolOf ρ s n u 1))) (fun f' m' => LNok f' m' la M ∧ zFr zT9 f f')) := by
  refine zM.of (by decide) (Nat.le_of_ble_eq_true rfl) ?_
  obtain ⟨r0, ⟨g1, a1, e1⟩, ⟨g2, a2, e2⟩, ⟨g3, a3, e3⟩, ⟨g4, a4, e4⟩, ⟨g5, a5, e5⟩, ⟨g6, a6, e6⟩, ⟨g7, a7, e7⟩, ⟨g8, a8, e8⟩, ⟨g9, a9, e9⟩, ⟨g10, a10, e10⟩⟩ := id hr
  refine v_iload_n dX3_spoolOf_0 rfl rfl ?_
  refine v_callS0p kX3_68 gs_X3_needSpool dX3_spoolOf_1 (c_needSpool (nI_pos (by omega)) (show nI u < nI 3 from nI_lt hu (by omega))) rfl rfl (by decide) (Nat.le_of_ble_eq_true rfl) ?_
  refine v_iload_n dX3_spoolOf_4 rfl rfl ?_
  refine v_iconst (0) dX3_spoolOf_5 (by decide) ?_
  refine v_iconst (4) dX3_spoolOf_6 (by decide) ?_
  refine v_callS0p kX3_72 gs_X3_needRange dX3_spoolOf_7 (c_needRange (by decide) (by decide)) rfl rfl (by decide) (Nat.le_of_ble_eq_true rfl) ?_
  refine v_iload_n dX3_spoolOf_10 rfl rfl ?_
  refine v_tableIn 50 dX3_spoolOf_11 (by decide) (by decide) (off := 39) (by rfl) (by decide) ?_
  refine v_aload_n dX3_spoolOf_50 rfl rfl ?_
  refine v_getfield fX3_34 dX3_spoolOf_51 (by assumption) (by rfl) ?_
  refine v_getfield fX3_87 dX3_spoolOf_54 (by assumption) (by rfl) ?_
  refine v_iload_n dX3_spoolOf_57 rfl rfl ?_
  refine v_iaload dX3_spoolOf_58 (by assumption) (vp_in_nI hu (by omega)) ?_
  exact v_ireturn dX3_spoolOf_59 rfl ⟨by rw [nI_clamp (by omega), e2 u hu]; rfl, hL, zFr.refl⟩
set_option maxRecDepth 10000 in
set_option maxHeartbeats 1000000 in
theorem c_spoolOf_2 {G : zW} {f : zHM} {m : Nat × Nat} {o r tr sc tx sl sv k la n : Nat} {A : Nat → Nat} {ρ : zRS} {xs tm : Nat → Int32} (ho : f o = some (600, .inr (3, zOb r tr sc tx sl sv k))) (hr : RPic f 0 r la A ρ n xs tm) {N s : Nat} (hw : RW ρ N s n) {M : Nat × Nat} (hL : LNok f m la M) {u : Nat} (hu : u < 3) : zM G yX3_spoolOf cX3_spoolOf 3 (some .int) 7 [.ref o, .int (nI u), .int (nI 2)] (f, m) (zD (some (.int (sSpoolOf ρ s n u 2))) (fun f' m' => LNok f' m' la M ∧ zFr zT9 f f')) := by
  refine zM.of (by decide) (Nat.le_of_ble_eq_true rfl) ?_
  obtain ⟨r0, ⟨g1, a1, e1⟩, ⟨g2, a2, e2⟩, ⟨g3, a3, e3⟩, ⟨g4, a4, e4⟩, ⟨g5, a5, e5⟩, ⟨g6, a6, e6⟩, ⟨g7, a7, e7⟩, ⟨g8, a8, e8⟩, ⟨g9, a9, e9⟩, ⟨g10, a10, e10⟩⟩ := id hr
  refine v_iload_n dX3_spoolOf_0 rfl rfl ?_
  refine v_callS0p kX3_68 gs_X3_needSpool dX3_spoolOf_1 (c_needSpool (nI_pos (by omega)) (show nI u < nI 3 from nI_lt hu (by omega))) rfl rfl (by decide) (Nat.le_of_ble_eq_true rfl) ?_
  refine v_iload_n dX3_spoolOf_4 rfl rfl ?_
  refine v_iconst (0) dX3_spoolOf_5 (by decide) ?_
  refine v_iconst (4) dX3_spoolOf_6 (by decide) ?_
  refine v_callS0p kX3_72 gs_X3_needRange dX3_spoolOf_7 (c_needRange (by decide) (by decide)) rfl rfl (by decide) (Nat.le_of_ble_eq_true rfl) ?_
  refine v_iload_n dX3_spoolOf_10 rfl rfl ?_
  refine v_tableIn 60 dX3_spoolOf_11 (by decide) (by decide) (off := 49) (by rfl) (by decide) ?_
  refine v_aload_n dX3_spoolOf_60 rfl rfl ?_
  refine v_getfield fX3_34 dX3_spoolOf_61 (by assumption) (by rfl) ?_
  refine v_iload_n dX3_spoolOf_64 rfl rfl ?_
  refine v_callV1 kX3_201 gi_X1_threadLying ge_X1_threadLying rfl dX3_spoolOf_65 (by assumption) (c_threadLying hr (by omega) hw hL (nI u)) rfl rfl (by decide) (Nat.le_of_ble_eq_true rfl) (fun f m hc => ?_)
  exact v_ireturn dX3_spoolOf_68 rfl ⟨rfl, hc⟩
set_option maxRecDepth 10000 in
set_option maxHeartbeats 1000000 in
theorem c_spoolOf_3 {G : zW} {f : zHM} {m : Nat × Nat} {o r tr sc tx sl sv k la n : Nat} {A : Nat → Nat} {ρ : zRS} {xs tm : Nat → Int32} (ho : f o = some (600, .inr (3, zOb r tr sc tx sl sv k))) (hr : RPic f 0 r la A ρ n xs tm) {N s : Nat} (hw : RW ρ N s n) {M : Nat × Nat} (hL : LNok f m la M) {u : Nat} (hu : u < 3) : zM G yX3_spoolOf cX3_spoolOf 3 (some .int) 7 [.ref o, .int (nI u), .int (nI 3)] (f, m) (zD (some (.int (sSpoolOf ρ s n u 3))) (fun f' m' => LNok f' m' la M ∧ zFr zT9 f f')) := by
  refine zM.of (by decide) (Nat.le_of_ble_eq_true rfl) ?_
  obtain ⟨r0, ⟨g1, a1, e1⟩, ⟨g2, a2, e2⟩, ⟨g3, a3, e3⟩, ⟨g4, a4, e4⟩, ⟨g5, a5, e5⟩, ⟨g6, a6, e6⟩, ⟨g7, a7, e7⟩, ⟨g8, a8, e8⟩, ⟨g9, a9, e9⟩, ⟨g10, a10, e10⟩⟩ := id hr
  refine v_iload_n dX3_spoolOf_0 rfl rfl ?_
  refine v_callS0p kX3_68 gs_X3_needSpool dX3_spoolOf_1 (c_needSpool (nI_pos (by omega)) (show nI u < nI 3 from nI_lt hu (by omega))) rfl rfl (by decide) (Nat.le_of_ble_eq_true rfl) ?_
  refine v_iload_n dX3_spoolOf_4 rfl rfl ?_
  refine v_iconst (0) dX3_spoolOf_5 (by decide) ?_
  refine v_iconst (4) dX3_spoolOf_6 (by decide) ?_
  refine v_callS0p kX3_72 gs_X3_needRange dX3_spoolOf_7 (c_needRange (by decide) (by decide)) rfl rfl (by decide) (Nat.le_of_ble_eq_true rfl) ?_
  refine v_iload_n dX3_spoolOf_10 rfl rfl ?_
  refine v_tableIn 69 dX3_spoolOf_11 (by decide) (by decide) (off := 58) (by rfl) (by decide) ?_
  refine v_aload_n dX3_spoolOf_69 rfl rfl ?_
  refine v_getfield fX3_34 dX3_spoolOf_70 (by assumption) (by rfl) ?_
  refine v_iload_n dX3_spoolOf_73 rfl rfl ?_
  refine v_callVp kX3_79 gi_X1_chordsOf ge_X1_chordsOf rfl dX3_spoolOf_74 (by assumption) (c_chordsOf hr hw.2.1 (nI u)) rfl rfl (by decide) (Nat.le_of_ble_eq_true rfl) ?_
  exact v_ireturn dX3_spoolOf_77 rfl ⟨rfl, hL, zFr.refl⟩
set_option maxRecDepth 10000 in
set_option maxHeartbeats 1000000 in
theorem c_spoolOf_4 {G : zW} {f : zHM} {m : Nat × Nat} {o r tr sc tx sl sv k la n : Nat} {A : Nat → Nat} {ρ : zRS} {xs tm : Nat → Int32} (ho : f o = some (600, .inr (3, zOb r tr sc tx sl sv k))) (hr : RPic f 0 r la A ρ n xs tm) {N s : Nat} (hw : RW ρ N s n) {M : Nat × Nat} (hL : LNok f m la M) {u : Nat} (hu : u < 3) : zM G yX3_spoolOf cX3_spoolOf 3 (some .int) 7 [.ref o, .int (nI u), .int (nI 4)] (f, m) (zD (some (.int (sSpoolOf ρ s n u 4))) (fun f' m' => LNok f' m' la M ∧ zFr zT9 f f')) := by
  refine zM.of (by decide) (Nat.le_of_ble_eq_true rfl) ?_
  obtain ⟨r0, ⟨g1, a1, e1⟩, ⟨g2, a2, e2⟩, ⟨g3, a3, e3⟩, ⟨g4, a4, e4⟩, ⟨g5, a5, e5⟩, ⟨g6, a6, e6⟩, ⟨g7, a7, e7⟩, ⟨g8, a8, e8⟩, ⟨g9, a9, e9⟩, ⟨g10, a10, e10⟩⟩ := id hr
  refine v_iload_n dX3_spoolOf_0 rfl rfl ?_
  refine v_callS0p kX3_68 gs_X3_needSpool dX3_spoolOf_1 (c_needSpool (nI_pos (by omega)) (show nI u < nI 3 from nI_lt hu (by omega))) rfl rfl (by decide) (Nat.le_of_ble_eq_true rfl) ?_
  refine v_iload_n dX3_spoolOf_4 rfl rfl ?_
  refine v_iconst (0) dX3_spoolOf_5 (by decide) ?_
  refine v_iconst (4) dX3_spoolOf_6 (by decide) ?_
  refine v_callS0p kX3_72 gs_X3_needRange dX3_spoolOf_7 (c_needRange (by decide) (by decide)) rfl rfl (by decide) (Nat.le_of_ble_eq_true rfl) ?_
  refine v_iload_n dX3_spoolOf_10 rfl rfl ?_
  refine v_tableOut 78 dX3_spoolOf_11 (Or.inr (by decide)) (by decide) ?_
  refine v_iload_n dX3_spoolOf_78 rfl rfl ?_
  refine v_aload_n dX3_spoolOf_79 rfl rfl ?_
  refine v_getfield fX3_34 dX3_spoolOf_80 (by assumption) (by rfl) ?_
  refine v_getfield fX3_76 dX3_spoolOf_83 (by assumption) (by rfl) ?_
  refine v_icmp_ne 93 dX3_spoolOf_86 (by decide) (fun b86 => ?_) (fun b86 => ?_)
  · refine v_iconst (0) dX3_spoolOf_93 (by decide) ?_
    exact v_ireturn dX3_spoolOf_94 rfl ⟨by rw [show sSpoolOf ρ s n u 4 = 0 from if_neg b86], hL, zFr.refl⟩
  · refine v_iconst (1) dX3_spoolOf_89 (by decide) ?_
    refine v_goto 94 dX3_spoolOf_90 (by decide) ?_
    exact v_ireturn dX3_spoolOf_94 rfl ⟨by rw [show sSpoolOf ρ s n u 4 = 1 from if_pos b86], hL, zFr.refl⟩
theorem c_spoolOf {G : zW} {f : zHM} {m : Nat × Nat} {o r tr sc tx sl sv k la n : Nat} {A : Nat → Nat} {ρ : zRS} {xs tm : Nat → Int32} (ho : f o = some (600, .inr (3, zOb r tr sc tx sl sv k))) (hr : RPic f 0 r la A ρ n xs tm) {N s : Nat} (hw : RW ρ N s n) {M : Nat × Nat} (hL : LNok f m la M) {u w : Nat} (hu : u < 3) (hw4 : w ≤ 4) : zM G yX3_spoolOf cX3_spoolOf 3 (some .int) 7 [.ref o, .int (nI u), .int (nI w)] (f, m) (zD (some (.int (sSpoolOf ρ s n u w))) (fun f' m' => LNok f' m' la M ∧ zFr zT9 f f')) := by
  match w, hw4 with
  | 0, _ => exact c_spoolOf_0 ho hr hw hL hu
  | 1, _ => exact c_spoolOf_1 ho hr hw hL hu
  | 2, _ => exact c_spoolOf_2 ho hr hw hL hu
  | 3, _ => exact c_spoolOf_3 ho hr hw hL hu
  | 4, _ => exact c_spoolOf_4 ho hr hw hL hu
set_option maxRecDepth 10000 in
set_option maxHeartbeats 1000000 in
theorem c_setting {G : zW} {f : zHM} {m : Nat × Nat} {o r tr sc tx sl sv k la n : Nat} {A : Nat → Nat} {ρ : zRS} {xs tm : Nat → Int32} (ho : f o = some (600, .inr (3, zOb r tr sc tx sl sv k))) (hr : RPic f 0 r la A ρ n xs tm) {u : Nat} (hu : u < 3) : zM G yX3_setting cX3_setting 2 (some .int) 7 [.ref o, .int (nI u)] (f, m) (zS (.int (ρ 3 u)) f m) := by
  refine zM.of (by decide) (Nat.le_of_ble_eq_true rfl) ?_
  obtain ⟨r0, ⟨g1, a1, e1⟩, ⟨g2, a2, e2⟩, ⟨g3, a3, e3⟩, ⟨g4, a4, e4⟩, ⟨g5, a5, e5⟩, ⟨g6, a6, e6⟩, ⟨g7, a7, e7⟩, ⟨g8, a8, e8⟩, ⟨g9, a9, e9⟩, ⟨g10, a10, e10⟩⟩ := id hr
  refine v_iload_n dX3_setting_0 rfl rfl ?_
  refine v_callS0p kX3_98 gs_X3_needSetting dX3_setting_1 (c_needSetting (nI_pos (by omega)) (show nI u < nI 3 from nI_lt hu (by omega))) rfl rfl (by decide) (Nat.le_of_ble_eq_true rfl) ?_
  refine v_aload_n dX3_setting_4 rfl rfl ?_
  refine v_getfield fX3_34 dX3_setting_5 (by assumption) (by rfl) ?_
  refine v_getfield fX3_104 dX3_setting_8 (by assumption) (by rfl) ?_
  refine v_iload_n dX3_setting_11 rfl rfl ?_
  refine v_iaload dX3_setting_12 (by assumption) (vp_in_nI hu (by omega)) ?_
  exact v_ireturn dX3_setting_13 rfl ⟨by rw [nI_clamp (by omega), e3 u hu], rfl, rfl⟩
set_option maxRecDepth 10000 in
set_option maxHeartbeats 1000000 in
theorem c_whyNot {G : zW} {f : zHM} {m : Nat × Nat} {o r tr sc tx sl sv k la n : Nat} {A : Nat → Nat} {ρ : zRS} {xs tm : Nat → Int32} (ho : f o = some (600, .inr (3, zOb r tr sc tx sl sv k))) (hr : RPic f 0 r la A ρ n xs tm) {N s : Nat} (hv : RV ρ N s) {M : Nat × Nat} (hL : LNok f m la M) {a u : Nat} (ha : a < N) (hu : u < 3) (hat : ρ 0 1 = nI a) (hnow : ρ 0 2 = nI u) {b : Nat} (hb : b < N) : zM G yX3_whyNot cX3_whyNot 2 (some .int) 7 [.ref o, .int (nI b)] (f, m) (zD (some (.int (sRef N s (ρ 3 0) (ρ 3 1) (ρ 2 u) tm a b))) (fun f' m' => LNok f' m' la M ∧ zFr zT9 f f')) := by
  refine zM.of (by decide) (Nat.le_of_ble_eq_true rfl) ?_
  have hv9 := hv.pos
  have r0 := hr.1
  refine v_aload_n dX3_whyNot_0 rfl rfl ?_
  refine v_iload_n dX3_whyNot_1 rfl rfl ?_
  refine v_callV0p kX3_107 gi_X3_needNail ge_X3_needNail rfl dX3_whyNot_2 (by assumption) (c_needNail ho hr.1 (nI_pos (by omega)) (by rw [hv.1]; exact nI_lt hb (by omega))) rfl rfl (by decide) (Nat.le_of_ble_eq_true rfl) ?_
  refine v_aload_n dX3_whyNot_5 rfl rfl ?_
  refine v_getfield fX3_34 dX3_whyNot_6 (by assumption) (by rfl) ?_
  refine v_iload_n dX3_whyNot_9 rfl rfl ?_
  refine v_callV1 kX3_115 gi_X1_refusal ge_X1_refusal rfl dX3_whyNot_10 (by assumption) (c_refusal hr (by omega) hv hL ha hb hu hat hnow) rfl rfl (by decide) (Nat.le_of_ble_eq_true rfl) (fun f m hc => ?_)
  exact v_ireturn dX3_whyNot_13 rfl ⟨rfl, hc⟩
def sGain9 (ρ : zRS) (s u a b : Nat) : Int32 := if b = a then -1 else sGain ρ s (ρ 1 u) a b + 10000
set_option maxRecDepth 10000 in
set_option maxHeartbeats 1000000 in
theorem c_gain {G : zW} {f : zHM} {m : Nat × Nat} {o r tr sc tx sl sv k la n : Nat} {A : Nat → Nat} {ρ : zRS} {xs tm : Nat → Int32} (ho : f o = some (600, .inr (3, zOb r tr sc tx sl sv k))) (hr : RPic f 0 r la A ρ n xs tm) {N s : Nat} (hv : RV ρ N s) {M : Nat × Nat} (hL : LNok f m la M) {a u : Nat} (ha : a < N) (hu : u < 3) (hat : ρ 0 1 = nI a) (hnow : ρ 0 2 = nI u) {b : Nat} (hb : b < N) : zM G yX3_gain cX3_gain 2 (some .int) 7 [.ref o, .int (nI b)] (f, m) (zD (some (.int (sGain9 ρ s u a b))) (fun f' m' => LNok f' m' la M ∧ zFr zT9 f f')) := by
  refine zM.of (by decide) (Nat.le_of_ble_eq_true rfl) ?_
  have hv9 := hv.pos
  have r0 := hr.1
  refine v_aload_n dX3_gain_0 rfl rfl ?_
  refine v_iload_n dX3_gain_1 rfl rfl ?_
  refine v_callV0p kX3_107 gi_X3_needNail ge_X3_needNail rfl dX3_gain_2 (by assumption) (c_needNail ho hr.1 (nI_pos (by omega)) (by rw [hv.1]; exact nI_lt hb (by omega))) rfl rfl (by decide) (Nat.le_of_ble_eq_true rfl) ?_
  refine v_iload_n dX3_gain_5 rfl rfl ?_
  refine v_aload_n dX3_gain_6 rfl rfl ?_
  refine v_getfield fX3_34 dX3_gain_7 (by assumption) (by rfl) ?_
  refine v_getfield fX3_65 dX3_gain_10 (by assumption) (by rfl) ?_
  rw [hat]
  refine v_icmp_ne 20 dX3_gain_13 (by decide) (fun b13 => ?_) (fun b13 => ?_)
  · have hne : a ≠ b := fun e => b13 (by rw [e])
    refine v_aload_n dX3_gain_20 rfl rfl ?_
    refine v_getfield fX3_34 dX3_gain_21 (by assumption) (by rfl) ?_
    refine v_iload_n dX3_gain_24 rfl rfl ?_
    refine v_callV1 kX3_136 gi_X1_gainTo ge_X1_gainTo rfl dX3_gain_25 (by assumption) (c_gainTo hr (by omega) hv hL ha hb hne hu hat hnow) rfl rfl (by decide) (Nat.le_of_ble_eq_true rfl) (fun f m hc => ?_)
    refine v_sipush (10000) dX3_gain_28 (by decide) ?_
    refine v_iadd dX3_gain_31 ?_
    exact v_ireturn dX3_gain_32 rfl ⟨by rw [show sGain9 ρ s u a b = sGain ρ s (ρ 1 u) a b + 10000 from if_neg (fun e => hne e.symm)], hc⟩
  · have hne : b = a := (nI_eq (by omega) (by omega)).mp b13
    refine v_iconst (-1) dX3_gain_16 (by decide) ?_
    refine v_goto 32 dX3_gain_17 (by decide) ?_
    exact v_ireturn dX3_gain_32 rfl ⟨by rw [show sGain9 ρ s u a b = -1 from if_pos hne], hL, zFr.refl⟩
set_option maxRecDepth 10000 in
set_option maxHeartbeats 1000000 in
theorem c_best {G : zW} {f : zHM} {m : Nat × Nat} {o r tr sc tx sl sv k la n : Nat} {A : Nat → Nat} {ρ : zRS} {xs tm : Nat → Int32} (ho : f o = some (600, .inr (3, zOb r tr sc tx sl sv k))) (hr : RPic f 0 r la A ρ n xs tm) {N s : Nat} (hv : RV ρ N s) {M : Nat × Nat} (hL : LNok f m la M) {a u : Nat} (ha : a < N) (hu : u < 3) (hat : ρ 0 1 = nI a) (hnow : ρ 0 2 = nI u) : zM G yX3_best cX3_best 1 (some .int) 6 [.ref o] (f, m) (zD (some (.int (sBest ρ N s tm a u))) (fun f' m' => LNok f' m' la M ∧ zFr zT9 f f')) := by
  refine zM.of (by decide) (Nat.le_of_ble_eq_true rfl) ?_
  have r0 := hr.1
  refine v_aload_n dX3_best_0 rfl rfl ?_
  refine v_getfield fX3_34 dX3_best_1 (by assumption) (by rfl) ?_
  refine v_callV1 kX3_132 gi_X1_bestNail ge_X1_bestNail rfl dX3_best_4 (by assumption) (c_bestNail hr (by omega) hv hL ha hu hat hnow) rfl rfl (by decide) (Nat.le_of_ble_eq_true rfl) (fun f m hc => ?_)
  exact v_ireturn dX3_best_7 rfl ⟨rfl, hc⟩
