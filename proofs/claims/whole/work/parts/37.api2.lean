def sCount (ρ : zRS) (s n k : Nat) : Nat → Int32
  | 0 => ρ 0 0
  | 1 => ρ 0 1
  | 2 => ρ 0 2
  | 3 => nI n
  | 4 => ρ 0 3
  | 5 => ρ 0 4
  | 6 => ρ 0 5
  | 7 => sMisfit ρ
  | 8 => (sMG ρ s n).1
  | 9 => sThat ρ 1
  | 10 => sThat ρ (-1)
  | 11 => sThr ρ s n 0 + sThr ρ s n 1 + sThr ρ s n 2
  | _ => nI k
abbrev zT96 : Nat → Prop := fun τ => τ = 950 ∨ τ = 601
def sPal (ρ : zRS) : Nat → Int32 × Int32
  | 0 => (-1, 0)
  | q + 1 => if sLack ρ q ≤ (sPal ρ q).2 then sPal ρ q else (nI (100 * (q / 12) + q % 12), sLack ρ q)
theorem sSum_cnt (p : Nat → Prop) [DecidablePred p] : ∀ n, ∃ k, k ≤ n ∧ sSum (fun q => if p q then 1 else 0) n = nI k
  | 0 => ⟨0, Nat.le_refl 0, rfl⟩
  | n + 1 => by
    obtain ⟨k, h1, h2⟩ := sSum_cnt p n
    by_cases h : p n
    · refine ⟨k + 1, by omega, ?_⟩
      show sSum _ n + (if p n then 1 else 0) = _
      rw [h2, if_pos h, nI_1]
    · refine ⟨k, by omega, ?_⟩
      show sSum _ n + (if p n then 1 else 0) = _
      rw [h2, if_neg h, Int32.add_zero]
theorem sThat_nI (ρ : zRS) (x : Int32) : ∃ k, k ≤ 144 ∧ sThat ρ x = nI k := sSum_cnt _ 144
theorem sShare_ok : ∀ k, k < 145 → vf_n64 (FP.ddiv (FP.i2d (nI k)) 4639270566145032192) := by
  have h : ∀ k, k < 145 → FP.ddiv (FP.i2d (nI k)) 4639270566145032192 &&& 0x7fffffffffffffff ≤ 0x7ff0000000000000 := by decide +kernel
  exact h
def sShare (ρ : zRS) : UInt64 := FP.ddiv (FP.i2d (sThat ρ 0)) 4639270566145032192
theorem i2c_ok : ∀ c, c < 128 → ((nI c).toUInt32 % 65536).toInt32 = nI c := by decide +kernel
set_option maxRecDepth 10000 in
set_option maxHeartbeats 1000000 in
theorem c_chord_0 {G : zW} {f : zHM} {m : Nat × Nat} {o r tr sc tx sl sv k la n : Nat} {A : Nat → Nat} {ρ : zRS} {xs tm : Nat → Int32} (ho : f o = some (600, .inr (3, zOb r tr sc tx sl sv k))) (hr : RPic f 0 r la A ρ n xs tm) {N s : Nat} (hv : RV ρ N s) {M : Nat × Nat} (hL : LNok f m la M) {a b : Nat} (ha : a < N) (hb : b < N) : zM G yX3_chord cX3_chord 4 (some .int) 7 [.ref o, .int (nI a), .int (nI b), .int (nI 0)] (f, m) (zD (some (.int (sChord s tm a b 0))) (fun f' m' => LNok f' m' la M ∧ zFr zT9 f f')) := by
  refine zM.of (by decide) (Nat.le_of_ble_eq_true rfl) ?_
  have hv9 := hv.pos
  have r0 := hr.1
  refine v_aload_n dX3_chord_0 rfl rfl ?_
  refine v_iload_n dX3_chord_1 rfl rfl ?_
  refine v_callV0p kX3_107 gi_X3_needNail ge_X3_needNail rfl dX3_chord_2 (by assumption) (c_needNail ho hr.1 (nI_pos (by omega)) (by rw [hv.1]; exact nI_lt ha (by omega))) rfl rfl (by decide) (Nat.le_of_ble_eq_true rfl) ?_
  refine v_aload_n dX3_chord_5 rfl rfl ?_
  refine v_iload_n dX3_chord_6 rfl rfl ?_
  refine v_callV0p kX3_107 gi_X3_needNail ge_X3_needNail rfl dX3_chord_7 (by assumption) (c_needNail ho hr.1 (nI_pos (by omega)) (by rw [hv.1]; exact nI_lt hb (by omega))) rfl rfl (by decide) (Nat.le_of_ble_eq_true rfl) ?_
  refine v_iload_n dX3_chord_10 rfl rfl ?_
  refine v_iconst (0) dX3_chord_11 (by decide) ?_
  refine v_iconst (2) dX3_chord_12 (by decide) ?_
  refine v_callS0p kX3_72 gs_X3_needRange dX3_chord_13 (c_needRange (by decide) (by decide)) rfl rfl (by decide) (Nat.le_of_ble_eq_true rfl) ?_
  refine v_iload_n dX3_chord_16 rfl rfl ?_
  refine v_iload_n dX3_chord_17 rfl rfl ?_
  refine v_icmp_ne 23 dX3_chord_18 (by decide) (fun b18 => ?_) (fun b18 => ?_)
  · have hne : a ≠ b := fun e => b18 (by rw [e])
    refine v_iload_n dX3_chord_23 rfl rfl ?_
    refine v_lookup 52 dX3_chord_24 (by decide) (off := 28) (by decide) (by decide) ?_
    refine v_aload_n dX3_chord_52 rfl rfl ?_
    refine v_getfield fX3_34 dX3_chord_53 (by assumption) (by rfl) ?_
    refine v_iload_n dX3_chord_56 rfl rfl ?_
    refine v_iload_n dX3_chord_57 rfl rfl ?_
    refine v_callVr kX3_204 gi_X1_lineBetween ge_X1_lineBetween rfl dX3_chord_58 (by assumption) (c_lineBetween hr hv ha hb hne hL) rfl rfl (by decide) (Nat.le_of_ble_eq_true rfl) (fun q f m hc => ?_)
    obtain ⟨⟨sq, gq, hq1, hq2, hq3⟩, hL, hf9⟩ := hc
    refine v_getfield fX3_208 dX3_chord_61 (by assumption) (by rfl) ?_
    exact v_ireturn dX3_chord_64 rfl ⟨by rw [show sChord s tm a b 0 = sLn s a b from if_neg hne]; rfl, hL, hf9⟩
  · have he : a = b := (nI_eq (by omega) (by omega)).mp b18
    refine v_iconst (-1) dX3_chord_21 (by decide) ?_
    exact v_ireturn dX3_chord_22 rfl ⟨by rw [show sChord s tm a b 0 = -1 from if_pos he], hL, zFr.refl⟩
set_option maxRecDepth 10000 in
set_option maxHeartbeats 1000000 in
theorem c_chord_1 {G : zW} {f : zHM} {m : Nat × Nat} {o r tr sc tx sl sv k la n : Nat} {A : Nat → Nat} {ρ : zRS} {xs tm : Nat → Int32} (ho : f o = some (600, .inr (3, zOb r tr sc tx sl sv k))) (hr : RPic f 0 r la A ρ n xs tm) {N s : Nat} (hv : RV ρ N s) {M : Nat × Nat} (hL : LNok f m la M) {a b : Nat} (ha : a < N) (hb : b < N) : zM G yX3_chord cX3_chord 4 (some .int) 7 [.ref o, .int (nI a), .int (nI b), .int (nI 1)] (f, m) (zD (some (.int (sChord s tm a b 1))) (fun f' m' => LNok f' m' la M ∧ zFr zT9 f f')) := by
  refine zM.of (by decide) (Nat.le_of_ble_eq_true rfl) ?_
  have hv9 := hv.pos
  have r0 := hr.1
  refine v_aload_n dX3_chord_0 rfl rfl ?_
  refine v_iload_n dX3_chord_1 rfl rfl ?_
  refine v_callV0p kX3_107 gi_X3_needNail ge_X3_needNail rfl dX3_chord_2 (by assumption) (c_needNail ho hr.1 (nI_pos (by omega)) (by rw [hv.1]; exact nI_lt ha (by omega))) rfl rfl (by decide) (Nat.le_of_ble_eq_true rfl) ?_
  refine v_aload_n dX3_chord_5 rfl rfl ?_
  refine v_iload_n dX3_chord_6 rfl rfl ?_
  refine v_callV0p kX3_107 gi_X3_needNail ge_X3_needNail rfl dX3_chord_7 (by assumption) (c_needNail ho hr.1 (nI_pos (by omega)) (by rw [hv.1]; exact nI_lt hb (by omega))) rfl rfl (by decide) (Nat.le_of_ble_eq_true rfl) ?_
  refine v_iload_n dX3_chord_10 rfl rfl ?_
  refine v_iconst (0) dX3_chord_11 (by decide) ?_
  refine v_iconst (2) dX3_chord_12 (by decide) ?_
  refine v_callS0p kX3_72 gs_X3_needRange dX3_chord_13 (c_needRange (by decide) (by decide)) rfl rfl (by decide) (Nat.le_of_ble_eq_true rfl) ?_
  refine v_iload_n dX3_chord_16 rfl rfl ?_
  refine v_iload_n dX3_chord_17 rfl rfl ?_
  refine v_icmp_ne 23 dX3_chord_18 (by decide) (fun b18 => ?_) (fun b18 => ?_)
  · have hne : a ≠ b := fun e => b18 (by rw [e])
    refine v_iload_n dX3_chord_23 rfl rfl ?_
    refine v_lookup 65 dX3_chord_24 (by decide) (off := 41) (by decide) (by decide) ?_
    refine v_aload_n dX3_chord_65 rfl rfl ?_
    refine v_getfield fX3_34 dX3_chord_66 (by assumption) (by rfl) ?_
    refine v_iload_n dX3_chord_69 rfl rfl ?_
    refine v_iload_n dX3_chord_70 rfl rfl ?_
    refine v_callVr kX3_204 gi_X1_lineBetween ge_X1_lineBetween rfl dX3_chord_71 (by assumption) (c_lineBetween hr hv ha hb hne hL) rfl rfl (by decide) (Nat.le_of_ble_eq_true rfl) (fun q f m hc => ?_)
    obtain ⟨⟨sq, gq, hq1, hq2, hq3⟩, hL, hf9⟩ := hc
    replace hq2 : f sq = some (1000 + 2 * sPr (a * s) (b * s) + 1, .inl (0, (sPa s a b).length, .inl gq)) := hq2
    obtain ⟨PL, hPL⟩ : ∃ z, z = (sPa s a b).length ∧ True := ⟨_, rfl, trivial⟩
    rw [← hPL.1] at hq2
    refine v_getfield fX3_209 dX3_chord_74 (by assumption) (by rfl) ?_
    refine v_alen dX3_chord_77 (by assumption) (by decide) ?_
    exact v_ireturn dX3_chord_78 rfl ⟨by rw [show sChord s tm a b 1 = nI PL from (if_neg hne).trans (by rw [hPL.1])]; rfl, hL, hf9⟩
  · have he : a = b := (nI_eq (by omega) (by omega)).mp b18
    refine v_iconst (-1) dX3_chord_21 (by decide) ?_
    exact v_ireturn dX3_chord_22 rfl ⟨by rw [show sChord s tm a b 1 = -1 from if_pos he], hL, zFr.refl⟩
set_option maxRecDepth 10000 in
set_option maxHeartbeats 1000000 in
theorem c_chord_2 {G : zW} {f : zHM} {m : Nat × Nat} {o r tr sc tx sl sv k la n : Nat} {A : Nat → Nat} {ρ : zRS} {xs tm : Nat → Int32} (ho : f o = some (600, .inr (3, zOb r tr sc tx sl sv k))) (hr : RPic f 0 r la A ρ n xs tm) {N s : Nat} (hv : RV ρ N s) {M : Nat × Nat} (hL : LNok f m la M) {a b : Nat} (ha : a < N) (hb : b < N) : zM G yX3_chord cX3_chord 4 (some .int) 7 [.ref o, .int (nI a), .int (nI b), .int (nI 2)] (f, m) (zD (some (.int (sChord s tm a b 2))) (fun f' m' => LNok f' m' la M ∧ zFr zT9 f f')) := by
  refine zM.of (by decide) (Nat.le_of_ble_eq_true rfl) ?_
  have hv9 := hv.pos
  have r0 := hr.1
  refine v_aload_n dX3_chord_0 rfl rfl ?_
  refine v_iload_n dX3_chord_1 rfl rfl ?_
  refine v_callV0p kX3_107 gi_X3_needNail ge_X3_needNail rfl dX3_chord_2 (by assumption) (c_needNail ho hr.1 (nI_pos (by omega)) (by rw [hv.1]; exact nI_lt ha (by omega))) rfl rfl (by decide) (Nat.le_of_ble_eq_true rfl) ?_
  refine v_aload_n dX3_chord_5 rfl rfl ?_
  refine v_iload_n dX3_chord_6 rfl rfl ?_
  refine v_callV0p kX3_107 gi_X3_needNail ge_X3_needNail rfl dX3_chord_7 (by assumption) (c_needNail ho hr.1 (nI_pos (by omega)) (by rw [hv.1]; exact nI_lt hb (by omega))) rfl rfl (by decide) (Nat.le_of_ble_eq_true rfl) ?_
  refine v_iload_n dX3_chord_10 rfl rfl ?_
  refine v_iconst (0) dX3_chord_11 (by decide) ?_
  refine v_iconst (2) dX3_chord_12 (by decide) ?_
  refine v_callS0p kX3_72 gs_X3_needRange dX3_chord_13 (c_needRange (by decide) (by decide)) rfl rfl (by decide) (Nat.le_of_ble_eq_true rfl) ?_
  refine v_iload_n dX3_chord_16 rfl rfl ?_
  refine v_iload_n dX3_chord_17 rfl rfl ?_
  refine v_icmp_ne 23 dX3_chord_18 (by decide) (fun b18 => ?_) (fun b18 => ?_)
  · have hne : a ≠ b := fun e => b18 (by rw [e])
    refine v_iload_n dX3_chord_23 rfl rfl ?_
    refine v_lookup 79 dX3_chord_24 (by decide) (off := 55) (by decide) (by decide) ?_
    refine v_aload_n dX3_chord_79 rfl rfl ?_
    refine v_getfield fX3_34 dX3_chord_80 (by assumption) (by rfl) ?_
    refine v_iload_n dX3_chord_83 rfl rfl ?_
    refine v_iload_n dX3_chord_84 rfl rfl ?_
    refine v_callVp kX3_212 gi_X1_timesLying ge_X1_timesLying rfl dX3_chord_85 (by assumption) (c_timesLying hr hv ha hb hne) rfl rfl (by decide) (Nat.le_of_ble_eq_true rfl) ?_
    exact v_ireturn dX3_chord_88 rfl ⟨by rw [show sChord s tm a b 2 = tm (sPr (a * s) (b * s)) from if_neg hne], hL, zFr.refl⟩
  · have he : a = b := (nI_eq (by omega) (by omega)).mp b18
    refine v_iconst (-1) dX3_chord_21 (by decide) ?_
    exact v_ireturn dX3_chord_22 rfl ⟨by rw [show sChord s tm a b 2 = -1 from if_pos he], hL, zFr.refl⟩
theorem c_chord {G : zW} {f : zHM} {m : Nat × Nat} {o r tr sc tx sl sv k la n : Nat} {A : Nat → Nat} {ρ : zRS} {xs tm : Nat → Int32} (ho : f o = some (600, .inr (3, zOb r tr sc tx sl sv k))) (hr : RPic f 0 r la A ρ n xs tm) {N s : Nat} (hv : RV ρ N s) {M : Nat × Nat} (hL : LNok f m la M) {a b w : Nat} (ha : a < N) (hb : b < N) (hw4 : w ≤ 2) : zM G yX3_chord cX3_chord 4 (some .int) 7 [.ref o, .int (nI a), .int (nI b), .int (nI w)] (f, m) (zD (some (.int (sChord s tm a b w))) (fun f' m' => LNok f' m' la M ∧ zFr zT9 f f')) := by
  match w, hw4 with
  | 0, _ => exact c_chord_0 ho hr hv hL ha hb
  | 1, _ => exact c_chord_1 ho hr hv hL ha hb
  | 2, _ => exact c_chord_2 ho hr hv hL ha hb
set_option maxRecDepth 10000 in
set_option maxHeartbeats 1000000 in
theorem x_chord_1 {G : zW} {f : zHM} {m : Nat × Nat} {o r tr sc tx sl sv k la n : Nat} {A : Nat → Nat} {ρ : zRS} {xs tm : Nat → Int32} (ho : f o = some (600, .inr (3, zOb r tr sc tx sl sv k))) (hr : RPic f 0 r la A ρ n xs tm) (hm1 : m.1 + 1 ≤ 50000) (hm2 : m.2 + 6 ≤ 400000) {v w z : Int32} (hx : v < 0 ∨ ¬ v < ρ 0 0) : zM G yX3_chord cX3_chord 4 (some .int) 7 [.ref o, .int v, .int w, .int z] (f, m) (zDx xIOB (zTh f m)) := by
  refine zM.of (by decide) (Nat.le_of_ble_eq_true rfl) ?_
  refine v_aload_n dX3_chord_0 rfl rfl ?_
  refine v_iload_n dX3_chord_1 rfl rfl ?_
  exact v_callVx kX3_107 gi_X3_needNail ge_X3_needNail rfl dX3_chord_2 (by assumption) (x_needNail hm1 hm2 ho hr.1 hx) rfl rfl (by decide) (Nat.le_of_ble_eq_true rfl) (fun f9 m9 hq => by obtain ⟨rfl, rfl⟩ := hq; exact ⟨rfl, rfl, rfl⟩)
set_option maxRecDepth 10000 in
set_option maxHeartbeats 1000000 in
theorem x_chord_2 {G : zW} {f : zHM} {m : Nat × Nat} {o r tr sc tx sl sv k la n : Nat} {A : Nat → Nat} {ρ : zRS} {xs tm : Nat → Int32} (ho : f o = some (600, .inr (3, zOb r tr sc tx sl sv k))) (hr : RPic f 0 r la A ρ n xs tm) {N s : Nat} (hv : RV ρ N s) (hm1 : m.1 + 1 ≤ 50000) (hm2 : m.2 + 6 ≤ 400000) {a : Nat} (ha : a < N) {w z : Int32} (hx : w < 0 ∨ ¬ w < ρ 0 0) : zM G yX3_chord cX3_chord 4 (some .int) 7 [.ref o, .int (nI a), .int w, .int z] (f, m) (zDx xIOB (zTh f m)) := by
  refine zM.of (by decide) (Nat.le_of_ble_eq_true rfl) ?_
  have hv9 := hv.pos
  refine v_aload_n dX3_chord_0 rfl rfl ?_
  refine v_iload_n dX3_chord_1 rfl rfl ?_
  refine v_callV0p kX3_107 gi_X3_needNail ge_X3_needNail rfl dX3_chord_2 (by assumption) (c_needNail ho hr.1 (nI_pos (by omega)) (by rw [hv.1]; exact nI_lt ha (by omega))) rfl rfl (by decide) (Nat.le_of_ble_eq_true rfl) ?_
  refine v_aload_n dX3_chord_5 rfl rfl ?_
  refine v_iload_n dX3_chord_6 rfl rfl ?_
  exact v_callVx kX3_107 gi_X3_needNail ge_X3_needNail rfl dX3_chord_7 (by assumption) (x_needNail hm1 hm2 ho hr.1 hx) rfl rfl (by decide) (Nat.le_of_ble_eq_true rfl) (fun f9 m9 hq => by obtain ⟨rfl, rfl⟩ := hq; exact ⟨rfl, rfl, rfl⟩)
set_option maxRecDepth 10000 in
set_option maxHeartbeats 1000000 in
theorem x_chord_3 {G : zW} {f : zHM} {m : Nat × Nat} {o r tr sc tx sl sv k la n : Nat} {A : Nat → Nat} {ρ : zRS} {xs tm : Nat → Int32} (ho : f o = some (600, .inr (3, zOb r tr sc tx sl sv k))) (hr : RPic f 0 r la A ρ n xs tm) {N s : Nat} (hv : RV ρ N s) (hm1 : m.1 + 1 ≤ 50000) (hm2 : m.2 + 6 ≤ 400000) {a b : Nat} (ha : a < N) (hb : b < N) {z : Int32} (hx : z < 0 ∨ ¬ z ≤ 2) : zM G yX3_chord cX3_chord 4 (some .int) 7 [.ref o, .int (nI a), .int (nI b), .int z] (f, m) (zDx xIAE (zTh f m)) := by
  refine zM.of (by decide) (Nat.le_of_ble_eq_true rfl) ?_
  have hv9 := hv.pos
  refine v_aload_n dX3_chord_0 rfl rfl ?_
  refine v_iload_n dX3_chord_1 rfl rfl ?_
  refine v_callV0p kX3_107 gi_X3_needNail ge_X3_needNail rfl dX3_chord_2 (by assumption) (c_needNail ho hr.1 (nI_pos (by omega)) (by rw [hv.1]; exact nI_lt ha (by omega))) rfl rfl (by decide) (Nat.le_of_ble_eq_true rfl) ?_
  refine v_aload_n dX3_chord_5 rfl rfl ?_
  refine v_iload_n dX3_chord_6 rfl rfl ?_
  refine v_callV0p kX3_107 gi_X3_needNail ge_X3_needNail rfl dX3_chord_7 (by assumption) (c_needNail ho hr.1 (nI_pos (by omega)) (by rw [hv.1]; exact nI_lt hb (by omega))) rfl rfl (by decide) (Nat.le_of_ble_eq_true rfl) ?_
  refine v_iload_n dX3_chord_10 rfl rfl ?_
  refine v_iconst (0) dX3_chord_11 (by decide) ?_
  refine v_iconst (2) dX3_chord_12 (by decide) ?_
  exact v_callSx kX3_72 gs_X3_needRange dX3_chord_13 (x_needRange hm1 hm2 hx) rfl rfl (by decide) (Nat.le_of_ble_eq_true rfl) (fun f9 m9 hq => by obtain ⟨rfl, rfl⟩ := hq; exact ⟨rfl, rfl, rfl⟩)
set_option maxRecDepth 10000 in
set_option maxHeartbeats 1000000 in
theorem c_wound_0 {G : zW} {f : zHM} {m : Nat × Nat} {o r tr sc tx sl sv k la n : Nat} {A : Nat → Nat} {ρ : zRS} {xs tm : Nat → Int32} (ho : f o = some (600, .inr (3, zOb r tr sc tx sl sv k))) (hr : RPic f 0 r la A ρ n xs tm) (hn201 : n ≤ 201) {g : Nat} (hg : g < 2 ^ 31) : zM G yX3_wound cX3_wound 4 (some .int) 7 [.ref o, .int (nI g), .int (nI 0)] (f, m) (zS (.int (sWound ρ n g 0)) f m) := by
  refine zM.of (by decide) (Nat.le_of_ble_eq_true rfl) ?_
  obtain ⟨r0, ⟨g1, a1, e1⟩, ⟨g2, a2, e2⟩, ⟨g3, a3, e3⟩, ⟨g4, a4, e4⟩, ⟨g5, a5, e5⟩, ⟨g6, a6, e6⟩, ⟨g7, a7, e7⟩, ⟨g8, a8, e8⟩, ⟨g9, a9, e9⟩, ⟨g10, a10, e10⟩⟩ := id hr
  refine v_iload_n dX3_wound_0 rfl rfl ?_
  refine v_if_ge 14 dX3_wound_1 (by decide) (fun b1 => ?_) (fun b1 => ?_)
  · refine v_iload_n dX3_wound_14 rfl rfl ?_
    refine v_iconst (0) dX3_wound_15 (by decide) ?_
    refine v_iconst (2) dX3_wound_16 (by decide) ?_
    refine v_callS0p kX3_72 gs_X3_needRange dX3_wound_17 (c_needRange (by decide) (by decide)) rfl rfl (by decide) (Nat.le_of_ble_eq_true rfl) ?_
    refine v_iload_n dX3_wound_20 rfl rfl ?_
    refine v_aload_n dX3_wound_21 rfl rfl ?_
    refine v_getfield fX3_34 dX3_wound_22 (by assumption) (by rfl) ?_
    refine v_getfield fX3_110 dX3_wound_25 (by assumption) (by rfl) ?_
    refine v_icmp_lt 33 dX3_wound_28 (by decide) (fun b28 => ?_) (fun b28 => ?_)
    · rw [nI_ltI (by omega) (by omega)] at b28
      refine v_aload_n dX3_wound_33 rfl rfl ?_
      refine v_getfield fX3_34 dX3_wound_34 (by assumption) (by rfl) ?_
      refine v_getfield fX3_110 dX3_wound_37 (by assumption) (by rfl) ?_
      refine v_iconst (nI 1) dX3_wound_40 (by decide) ?_
      refine v_isub dX3_wound_41 ?_
      rw [pk_sub (by omega)]
      refine v_iload_n dX3_wound_42 rfl rfl ?_
      refine v_isub dX3_wound_43 ?_
      rw [pk_sub (by omega)]
      refine v_istore_n dX3_wound_44 rfl (by decide) ?_
      refine v_iload_n dX3_wound_45 rfl rfl ?_
      refine v_lookup 72 dX3_wound_46 (by decide) (off := 26) (by decide) (by decide) ?_
      refine v_aload_n dX3_wound_72 rfl rfl ?_
      refine v_getfield fX3_34 dX3_wound_73 (by assumption) (by rfl) ?_
      refine v_getfield fX3_218 dX3_wound_76 (by assumption) (by rfl) ?_
      refine v_iload_n dX3_wound_79 rfl rfl ?_
      refine v_iaload dX3_wound_80 (by assumption) (vp_in_nI (by omega) (by omega)) ?_
      exact v_ireturn dX3_wound_81 rfl ⟨by rw [nI_clamp (by omega), e4 _ (by omega), show sWound ρ n g 0 = ρ 4 (n - 1 - g) from if_neg (by omega)], rfl, rfl⟩
    · rw [nI_ltI (by omega) (by omega)] at b28
      refine v_iconst (-1) dX3_wound_31 (by decide) ?_
      exact v_ireturn dX3_wound_32 rfl ⟨by rw [show sWound ρ n g 0 = -1 from if_pos (by omega)], rfl, rfl⟩
  · exact absurd (nI_pos' (by omega)) b1
set_option maxRecDepth 10000 in
set_option maxHeartbeats 1000000 in
theorem c_wound_1 {G : zW} {f : zHM} {m : Nat × Nat} {o r tr sc tx sl sv k la n : Nat} {A : Nat → Nat} {ρ : zRS} {xs tm : Nat → Int32} (ho : f o = some (600, .inr (3, zOb r tr sc tx sl sv k))) (hr : RPic f 0 r la A ρ n xs tm) (hn201 : n ≤ 201) {g : Nat} (hg : g < 2 ^ 31) : zM G yX3_wound cX3_wound 4 (some .int) 7 [.ref o, .int (nI g), .int (nI 1)] (f, m) (zS (.int (sWound ρ n g 1)) f m) := by
  refine zM.of (by decide) (Nat.le_of_ble_eq_true rfl) ?_
  obtain ⟨r0, ⟨g1, a1, e1⟩, ⟨g2, a2, e2⟩, ⟨g3, a3, e3⟩, ⟨g4, a4, e4⟩, ⟨g5, a5, e5⟩, ⟨g6, a6, e6⟩, ⟨g7, a7, e7⟩, ⟨g8, a8, e8⟩, ⟨g9, a9, e9⟩, ⟨g10, a10, e10⟩⟩ := id hr
  refine v_iload_n dX3_wound_0 rfl rfl ?_
  refine v_if_ge 14 dX3_wound_1 (by decide) (fun b1 => ?_) (fun b1 => ?_)
  · refine v_iload_n dX3_wound_14 rfl rfl ?_
    refine v_iconst (0) dX3_wound_15 (by decide) ?_
    refine v_iconst (2) dX3_wound_16 (by decide) ?_
    refine v_callS0p kX3_72 gs_X3_needRange dX3_wound_17 (c_needRange (by decide) (by decide)) rfl rfl (by decide) (Nat.le_of_ble_eq_true rfl) ?_
    refine v_iload_n dX3_wound_20 rfl rfl ?_
    refine v_aload_n dX3_wound_21 rfl rfl ?_
    refine v_getfield fX3_34 dX3_wound_22 (by assumption) (by rfl) ?_
    refine v_getfield fX3_110 dX3_wound_25 (by assumption) (by rfl) ?_
    refine v_icmp_lt 33 dX3_wound_28 (by decide) (fun b28 => ?_) (fun b28 => ?_)
    · rw [nI_ltI (by omega) (by omega)] at b28
      refine v_aload_n dX3_wound_33 rfl rfl ?_
      refine v_getfield fX3_34 dX3_wound_34 (by assumption) (by rfl) ?_
      refine v_getfield fX3_110 dX3_wound_37 (by assumption) (by rfl) ?_
      refine v_iconst (nI 1) dX3_wound_40 (by decide) ?_
      refine v_isub dX3_wound_41 ?_
      rw [pk_sub (by omega)]
      refine v_iload_n dX3_wound_42 rfl rfl ?_
      refine v_isub dX3_wound_43 ?_
      rw [pk_sub (by omega)]
      refine v_istore_n dX3_wound_44 rfl (by decide) ?_
      refine v_iload_n dX3_wound_45 rfl rfl ?_
      refine v_lookup 82 dX3_wound_46 (by decide) (off := 36) (by decide) (by decide) ?_
      refine v_aload_n dX3_wound_82 rfl rfl ?_
      refine v_getfield fX3_34 dX3_wound_83 (by assumption) (by rfl) ?_
      refine v_getfield fX3_221 dX3_wound_86 (by assumption) (by rfl) ?_
      refine v_iload_n dX3_wound_89 rfl rfl ?_
      refine v_iaload dX3_wound_90 (by assumption) (vp_in_nI (by omega) (by omega)) ?_
      exact v_ireturn dX3_wound_91 rfl ⟨by rw [nI_clamp (by omega), e5 _ (by omega), show sWound ρ n g 1 = ρ 5 (n - 1 - g) from if_neg (by omega)], rfl, rfl⟩
    · rw [nI_ltI (by omega) (by omega)] at b28
      refine v_iconst (-1) dX3_wound_31 (by decide) ?_
      exact v_ireturn dX3_wound_32 rfl ⟨by rw [show sWound ρ n g 1 = -1 from if_pos (by omega)], rfl, rfl⟩
  · exact absurd (nI_pos' (by omega)) b1
set_option maxRecDepth 10000 in
set_option maxHeartbeats 1000000 in
theorem c_wound_2 {G : zW} {f : zHM} {m : Nat × Nat} {o r tr sc tx sl sv k la n : Nat} {A : Nat → Nat} {ρ : zRS} {xs tm : Nat → Int32} (ho : f o = some (600, .inr (3, zOb r tr sc tx sl sv k))) (hr : RPic f 0 r la A ρ n xs tm) (hn201 : n ≤ 201) {g : Nat} (hg : g < 2 ^ 31) : zM G yX3_wound cX3_wound 4 (some .int) 7 [.ref o, .int (nI g), .int (nI 2)] (f, m) (zS (.int (sWound ρ n g 2)) f m) := by
  refine zM.of (by decide) (Nat.le_of_ble_eq_true rfl) ?_
  obtain ⟨r0, ⟨g1, a1, e1⟩, ⟨g2, a2, e2⟩, ⟨g3, a3, e3⟩, ⟨g4, a4, e4⟩, ⟨g5, a5, e5⟩, ⟨g6, a6, e6⟩, ⟨g7, a7, e7⟩, ⟨g8, a8, e8⟩, ⟨g9, a9, e9⟩, ⟨g10, a10, e10⟩⟩ := id hr
  refine v_iload_n dX3_wound_0 rfl rfl ?_
  refine v_if_ge 14 dX3_wound_1 (by decide) (fun b1 => ?_) (fun b1 => ?_)
  · refine v_iload_n dX3_wound_14 rfl rfl ?_
    refine v_iconst (0) dX3_wound_15 (by decide) ?_
    refine v_iconst (2) dX3_wound_16 (by decide) ?_
    refine v_callS0p kX3_72 gs_X3_needRange dX3_wound_17 (c_needRange (by decide) (by decide)) rfl rfl (by decide) (Nat.le_of_ble_eq_true rfl) ?_
    refine v_iload_n dX3_wound_20 rfl rfl ?_
    refine v_aload_n dX3_wound_21 rfl rfl ?_
    refine v_getfield fX3_34 dX3_wound_22 (by assumption) (by rfl) ?_
    refine v_getfield fX3_110 dX3_wound_25 (by assumption) (by rfl) ?_
    refine v_icmp_lt 33 dX3_wound_28 (by decide) (fun b28 => ?_) (fun b28 => ?_)
    · rw [nI_ltI (by omega) (by omega)] at b28
      refine v_aload_n dX3_wound_33 rfl rfl ?_
      refine v_getfield fX3_34 dX3_wound_34 (by assumption) (by rfl) ?_
      refine v_getfield fX3_110 dX3_wound_37 (by assumption) (by rfl) ?_
      refine v_iconst (nI 1) dX3_wound_40 (by decide) ?_
      refine v_isub dX3_wound_41 ?_
      rw [pk_sub (by omega)]
      refine v_iload_n dX3_wound_42 rfl rfl ?_
      refine v_isub dX3_wound_43 ?_
      rw [pk_sub (by omega)]
      refine v_istore_n dX3_wound_44 rfl (by decide) ?_
      refine v_iload_n dX3_wound_45 rfl rfl ?_
      refine v_lookup 92 dX3_wound_46 (by decide) (off := 46) (by decide) (by decide) ?_
      refine v_aload_n dX3_wound_92 rfl rfl ?_
      refine v_getfield fX3_34 dX3_wound_93 (by assumption) (by rfl) ?_
      refine v_getfield fX3_224 dX3_wound_96 (by assumption) (by rfl) ?_
      refine v_iload_n dX3_wound_99 rfl rfl ?_
      refine v_iaload dX3_wound_100 (by assumption) (vp_in_nI (by omega) (by omega)) ?_
      exact v_ireturn dX3_wound_101 rfl ⟨by rw [nI_clamp (by omega), e6 _ (by omega), show sWound ρ n g 2 = ρ 6 (n - 1 - g) from if_neg (by omega)], rfl, rfl⟩
    · rw [nI_ltI (by omega) (by omega)] at b28
      refine v_iconst (-1) dX3_wound_31 (by decide) ?_
      exact v_ireturn dX3_wound_32 rfl ⟨by rw [show sWound ρ n g 2 = -1 from if_pos (by omega)], rfl, rfl⟩
  · exact absurd (nI_pos' (by omega)) b1
theorem c_wound {G : zW} {f : zHM} {m : Nat × Nat} {o r tr sc tx sl sv k la n : Nat} {A : Nat → Nat} {ρ : zRS} {xs tm : Nat → Int32} (ho : f o = some (600, .inr (3, zOb r tr sc tx sl sv k))) (hr : RPic f 0 r la A ρ n xs tm) (hn201 : n ≤ 201) {g w : Nat} (hg : g < 2 ^ 31) (hw4 : w ≤ 2) : zM G yX3_wound cX3_wound 4 (some .int) 7 [.ref o, .int (nI g), .int (nI w)] (f, m) (zS (.int (sWound ρ n g w)) f m) := by
  match w, hw4 with
  | 0, _ => exact c_wound_0 ho hr hn201 hg
  | 1, _ => exact c_wound_1 ho hr hn201 hg
  | 2, _ => exact c_wound_2 ho hr hn201 hg
set_option maxRecDepth 10000 in
set_option maxHeartbeats 1000000 in
theorem x_wound_1 {G : zW} {f : zHM} {m : Nat × Nat} (hm1 : m.1 + 1 ≤ 50000) (hm2 : m.2 + 6 ≤ 400000) {o : Nat} {v w : Int32} (hx : v < 0) : zM G yX3_wound cX3_wound 4 (some .int) 7 [.ref o, .int v, .int w] (f, m) (zDx xIAE (zTh f m)) := by
  refine zM.of (by decide) (Nat.le_of_ble_eq_true rfl) ?_
  refine v_iload_n dX3_wound_0 rfl rfl ?_
  refine v_if_ge 14 dX3_wound_1 (by decide) (fun b1 => ?_) (fun b1 => ?_)
  · exact absurd (show v < 0 from hx) (Int32.not_lt.mpr b1)
  · exact v_throwS (h := (f, m)) (text := "out of range") rfl zth_45 (by decide) dX3_wound_4 dX3_wound_7 dX3_wound_8 dX3_wound_10 dX3_wound_13 (by decide) (Nat.le_of_ble_eq_true rfl) hm1 hm2 ⟨rfl, rfl, rfl⟩
set_option maxRecDepth 10000 in
set_option maxHeartbeats 1000000 in
theorem x_wound_2 {G : zW} {f : zHM} {m : Nat × Nat} (hm1 : m.1 + 1 ≤ 50000) (hm2 : m.2 + 6 ≤ 400000) {o : Nat} {v w : Int32} (hv : ¬ v < 0) (hx : w < 0 ∨ ¬ w ≤ 2) : zM G yX3_wound cX3_wound 4 (some .int) 7 [.ref o, .int v, .int w] (f, m) (zDx xIAE (zTh f m)) := by
  refine zM.of (by decide) (Nat.le_of_ble_eq_true rfl) ?_
  refine v_iload_n dX3_wound_0 rfl rfl ?_
  refine v_if_ge 14 dX3_wound_1 (by decide) (fun b1 => ?_) (fun b1 => ?_)
  · refine v_iload_n dX3_wound_14 rfl rfl ?_
    refine v_iconst (0) dX3_wound_15 (by decide) ?_
    refine v_iconst (2) dX3_wound_16 (by decide) ?_
    exact v_callSx kX3_72 gs_X3_needRange dX3_wound_17 (x_needRange hm1 hm2 hx) rfl rfl (by decide) (Nat.le_of_ble_eq_true rfl) (fun f9 m9 hq => by obtain ⟨rfl, rfl⟩ := hq; exact ⟨rfl, rfl, rfl⟩)
  · exact absurd (Int32.not_lt.mp hv) b1
set_option maxRecDepth 10000 in
set_option maxHeartbeats 1000000 in
theorem c_square_0 {G : zW} {f : zHM} {m : Nat × Nat} {o r tr sc tx sl sv k la n : Nat} {A : Nat → Nat} {ρ : zRS} {xs tm : Nat → Int32} (ho : f o = some (600, .inr (3, zOb r tr sc tx sl sv k))) (hr : RPic f 0 r la A ρ n xs tm) {x z : Nat} (hx : x < 12) (hz : z < 12) : zM G yX3_square cX3_square 5 (some .int) 7 [.ref o, .int (nI x), .int (nI z), .int (nI 0)] (f, m) (zS (.int (sSquare ρ xs (z * 12 + x) 0)) f m) := by
  refine zM.of (by decide) (Nat.le_of_ble_eq_true rfl) ?_
  have hq : z * 12 + x < 144 := by omega
  obtain ⟨r0, ⟨g1, a1, e1⟩, ⟨g2, a2, e2⟩, ⟨g3, a3, e3⟩, ⟨g4, a4, e4⟩, ⟨g5, a5, e5⟩, ⟨g6, a6, e6⟩, ⟨g7, a7, e7⟩, ⟨g8, a8, e8⟩, ⟨g9, a9, e9⟩, ⟨g10, a10, e10⟩⟩ := id hr
  refine v_iload_n dX3_square_0 rfl rfl ?_
  refine v_iload_n dX3_square_1 rfl rfl ?_
  refine v_callS0p kX3_139 gs_X3_needSquare dX3_square_2 (c_needSquare (nI_pos (by omega)) (show ¬ nI 12 ≤ nI x from nI_ge hx (by omega)) (nI_pos (by omega)) (show nI z < nI 12 from nI_lt hz (by omega))) rfl rfl (by decide) (Nat.le_of_ble_eq_true rfl) ?_
  refine v_iload_n dX3_square_5 rfl rfl ?_
  refine v_iconst (0) dX3_square_6 (by decide) ?_
  refine v_iconst (3) dX3_square_7 (by decide) ?_
  refine v_callS0p kX3_72 gs_X3_needRange dX3_square_8 (c_needRange (by decide) (by decide)) rfl rfl (by decide) (Nat.le_of_ble_eq_true rfl) ?_
  refine v_iload_n dX3_square_11 rfl rfl ?_
  refine v_bipush (nI 12) dX3_square_12 (by decide) ?_
  refine v_imul dX3_square_14 ?_
  rw [pk_mul]
  refine v_iload_n dX3_square_15 rfl rfl ?_
  refine v_iadd dX3_square_16 ?_
  rw [nI_add]
  refine v_istore dX3_square_17 (by decide) ?_
  refine v_iload_n dX3_square_19 rfl rfl ?_
  refine v_tableIn 48 dX3_square_20 (by decide) (by decide) (off := 28) (by rfl) (by decide) ?_
  refine v_aload_n dX3_square_48 rfl rfl ?_
  refine v_getfield fX3_34 dX3_square_49 (by assumption) (by rfl) ?_
  refine v_getfield fX3_143 dX3_square_52 (by assumption) (by rfl) ?_
  refine v_iload dX3_square_55 rfl ?_
  refine v_iaload dX3_square_57 (by assumption) (vp_in_nI hq (by omega)) ?_
  exact v_ireturn dX3_square_58 rfl ⟨by rw [nI_clamp (by omega), e7 _ hq]; rfl, rfl, rfl⟩
set_option maxRecDepth 10000 in
set_option maxHeartbeats 1000000 in
theorem c_square_1 {G : zW} {f : zHM} {m : Nat × Nat} {o r tr sc tx sl sv k la n : Nat} {A : Nat → Nat} {ρ : zRS} {xs tm : Nat → Int32} (ho : f o = some (600, .inr (3, zOb r tr sc tx sl sv k))) (hr : RPic f 0 r la A ρ n xs tm) {x z : Nat} (hx : x < 12) (hz : z < 12) : zM G yX3_square cX3_square 5 (some .int) 7 [.ref o, .int (nI x), .int (nI z), .int (nI 1)] (f, m) (zS (.int (sSquare ρ xs (z * 12 + x) 1)) f m) := by
  refine zM.of (by decide) (Nat.le_of_ble_eq_true rfl) ?_
  have hq : z * 12 + x < 144 := by omega
  obtain ⟨r0, ⟨g1, a1, e1⟩, ⟨g2, a2, e2⟩, ⟨g3, a3, e3⟩, ⟨g4, a4, e4⟩, ⟨g5, a5, e5⟩, ⟨g6, a6, e6⟩, ⟨g7, a7, e7⟩, ⟨g8, a8, e8⟩, ⟨g9, a9, e9⟩, ⟨g10, a10, e10⟩⟩ := id hr
  refine v_iload_n dX3_square_0 rfl rfl ?_
  refine v_iload_n dX3_square_1 rfl rfl ?_
  refine v_callS0p kX3_139 gs_X3_needSquare dX3_square_2 (c_needSquare (nI_pos (by omega)) (show ¬ nI 12 ≤ nI x from nI_ge hx (by omega)) (nI_pos (by omega)) (show nI z < nI 12 from nI_lt hz (by omega))) rfl rfl (by decide) (Nat.le_of_ble_eq_true rfl) ?_
  refine v_iload_n dX3_square_5 rfl rfl ?_
  refine v_iconst (0) dX3_square_6 (by decide) ?_
  refine v_iconst (3) dX3_square_7 (by decide) ?_
  refine v_callS0p kX3_72 gs_X3_needRange dX3_square_8 (c_needRange (by decide) (by decide)) rfl rfl (by decide) (Nat.le_of_ble_eq_true rfl) ?_
  refine v_iload_n dX3_square_11 rfl rfl ?_
  refine v_bipush (nI 12) dX3_square_12 (by decide) ?_
  refine v_imul dX3_square_14 ?_
  rw [pk_mul]
  refine v_iload_n dX3_square_15 rfl rfl ?_
  refine v_iadd dX3_square_16 ?_
  rw [nI_add]
  refine v_istore dX3_square_17 (by decide) ?_
  refine v_iload_n dX3_square_19 rfl rfl ?_
  refine v_tableIn 59 dX3_square_20 (by decide) (by decide) (off := 39) (by rfl) (by decide) ?_
  refine v_aload_n dX3_square_59 rfl rfl ?_
  refine v_getfield fX3_34 dX3_square_60 (by assumption) (by rfl) ?_
  refine v_getfield fX3_227 dX3_square_63 (by assumption) (by rfl) ?_
  refine v_iload dX3_square_66 rfl ?_
  refine v_iaload dX3_square_68 (by assumption) (vp_in_nI hq (by omega)) ?_
  exact v_ireturn dX3_square_69 rfl ⟨by rw [nI_clamp (by omega), e8 _ hq]; rfl, rfl, rfl⟩
set_option maxRecDepth 10000 in
set_option maxHeartbeats 1000000 in
theorem c_square_2 {G : zW} {f : zHM} {m : Nat × Nat} {o r tr sc tx sl sv k la n : Nat} {A : Nat → Nat} {ρ : zRS} {xs tm : Nat → Int32} (ho : f o = some (600, .inr (3, zOb r tr sc tx sl sv k))) (hr : RPic f 0 r la A ρ n xs tm) {x z : Nat} (hx : x < 12) (hz : z < 12) : zM G yX3_square cX3_square 5 (some .int) 7 [.ref o, .int (nI x), .int (nI z), .int (nI 2)] (f, m) (zS (.int (sSquare ρ xs (z * 12 + x) 2)) f m) := by
  refine zM.of (by decide) (Nat.le_of_ble_eq_true rfl) ?_
  have hq : z * 12 + x < 144 := by omega
  obtain ⟨r0, ⟨g1, a1, e1⟩, ⟨g2, a2, e2⟩, ⟨g3, a3, e3⟩, ⟨g4, a4, e4⟩, ⟨g5, a5, e5⟩, ⟨g6, a6, e6⟩, ⟨g7, a7, e7⟩, ⟨g8, a8, e8⟩, ⟨g9, a9, e9⟩, ⟨g10, a10, e10⟩⟩ := id hr
  refine v_iload_n dX3_square_0 rfl rfl ?_
  refine v_iload_n dX3_square_1 rfl rfl ?_
  refine v_callS0p kX3_139 gs_X3_needSquare dX3_square_2 (c_needSquare (nI_pos (by omega)) (show ¬ nI 12 ≤ nI x from nI_ge hx (by omega)) (nI_pos (by omega)) (show nI z < nI 12 from nI_lt hz (by omega))) rfl rfl (by decide) (Nat.le_of_ble_eq_true rfl) ?_
  refine v_iload_n dX3_square_5 rfl rfl ?_
  refine v_iconst (0) dX3_square_6 (by decide) ?_
  refine v_iconst (3) dX3_square_7 (by decide) ?_
  refine v_callS0p kX3_72 gs_X3_needRange dX3_square_8 (c_needRange (by decide) (by decide)) rfl rfl (by decide) (Nat.le_of_ble_eq_true rfl) ?_
  refine v_iload_n dX3_square_11 rfl rfl ?_
  refine v_bipush (nI 12) dX3_square_12 (by decide) ?_
  refine v_imul dX3_square_14 ?_
  rw [pk_mul]
  refine v_iload_n dX3_square_15 rfl rfl ?_
  refine v_iadd dX3_square_16 ?_
  rw [nI_add]
  refine v_istore dX3_square_17 (by decide) ?_
  refine v_iload_n dX3_square_19 rfl rfl ?_
  refine v_tableIn 70 dX3_square_20 (by decide) (by decide) (off := 50) (by rfl) (by decide) ?_
  refine v_aload_n dX3_square_70 rfl rfl ?_
  refine v_getfield fX3_34 dX3_square_71 (by assumption) (by rfl) ?_
  refine v_iload dX3_square_74 rfl ?_
  refine v_callVp kX3_230 gi_X1_lackOf ge_X1_lackOf rfl dX3_square_76 (by assumption) (c_lackOf hr hq) rfl rfl (by decide) (Nat.le_of_ble_eq_true rfl) ?_
  refine v_sipush (10000) dX3_square_79 (by decide) ?_
  refine v_iadd dX3_square_82 ?_
  exact v_ireturn dX3_square_83 rfl ⟨rfl, rfl, rfl⟩
set_option maxRecDepth 10000 in
set_option maxHeartbeats 1000000 in
theorem c_square_3 {G : zW} {f : zHM} {m : Nat × Nat} {o r tr sc tx sl sv k la n : Nat} {A : Nat → Nat} {ρ : zRS} {xs tm : Nat → Int32} (ho : f o = some (600, .inr (3, zOb r tr sc tx sl sv k))) (hr : RPic f 0 r la A ρ n xs tm) {x z : Nat} (hx : x < 12) (hz : z < 12) : zM G yX3_square cX3_square 5 (some .int) 7 [.ref o, .int (nI x), .int (nI z), .int (nI 3)] (f, m) (zS (.int (sSquare ρ xs (z * 12 + x) 3)) f m) := by
  refine zM.of (by decide) (Nat.le_of_ble_eq_true rfl) ?_
  have hq : z * 12 + x < 144 := by omega
  obtain ⟨r0, ⟨g1, a1, e1⟩, ⟨g2, a2, e2⟩, ⟨g3, a3, e3⟩, ⟨g4, a4, e4⟩, ⟨g5, a5, e5⟩, ⟨g6, a6, e6⟩, ⟨g7, a7, e7⟩, ⟨g8, a8, e8⟩, ⟨g9, a9, e9⟩, ⟨g10, a10, e10⟩⟩ := id hr
  refine v_iload_n dX3_square_0 rfl rfl ?_
  refine v_iload_n dX3_square_1 rfl rfl ?_
  refine v_callS0p kX3_139 gs_X3_needSquare dX3_square_2 (c_needSquare (nI_pos (by omega)) (show ¬ nI 12 ≤ nI x from nI_ge hx (by omega)) (nI_pos (by omega)) (show nI z < nI 12 from nI_lt hz (by omega))) rfl rfl (by decide) (Nat.le_of_ble_eq_true rfl) ?_
  refine v_iload_n dX3_square_5 rfl rfl ?_
  refine v_iconst (0) dX3_square_6 (by decide) ?_
  refine v_iconst (3) dX3_square_7 (by decide) ?_
  refine v_callS0p kX3_72 gs_X3_needRange dX3_square_8 (c_needRange (by decide) (by decide)) rfl rfl (by decide) (Nat.le_of_ble_eq_true rfl) ?_
  refine v_iload_n dX3_square_11 rfl rfl ?_
  refine v_bipush (nI 12) dX3_square_12 (by decide) ?_
  refine v_imul dX3_square_14 ?_
  rw [pk_mul]
  refine v_iload_n dX3_square_15 rfl rfl ?_
  refine v_iadd dX3_square_16 ?_
  rw [nI_add]
  refine v_istore dX3_square_17 (by decide) ?_
  refine v_iload_n dX3_square_19 rfl rfl ?_
  refine v_tableOut 84 dX3_square_20 (Or.inr (by decide)) (by decide) ?_
  refine v_aload_n dX3_square_84 rfl rfl ?_
  refine v_getfield fX3_34 dX3_square_85 (by assumption) (by rfl) ?_
  refine v_getfield fX3_233 dX3_square_88 (by assumption) (by rfl) ?_
  refine v_iload dX3_square_91 rfl ?_
  refine v_iaload dX3_square_93 (by assumption) (vp_in_nI hq (by omega)) ?_
  exact v_ireturn dX3_square_94 rfl ⟨by rw [nI_clamp (by omega), e9 _ hq]; rfl, rfl, rfl⟩
theorem c_square {G : zW} {f : zHM} {m : Nat × Nat} {o r tr sc tx sl sv k la n : Nat} {A : Nat → Nat} {ρ : zRS} {xs tm : Nat → Int32} (ho : f o = some (600, .inr (3, zOb r tr sc tx sl sv k))) (hr : RPic f 0 r la A ρ n xs tm) {x z w : Nat} (hx : x < 12) (hz : z < 12) (hw4 : w ≤ 3) : zM G yX3_square cX3_square 5 (some .int) 7 [.ref o, .int (nI x), .int (nI z), .int (nI w)] (f, m) (zS (.int (sSquare ρ xs (z * 12 + x) w)) f m) := by
  match w, hw4 with
  | 0, _ => exact c_square_0 ho hr hx hz
  | 1, _ => exact c_square_1 ho hr hx hz
  | 2, _ => exact c_square_2 ho hr hx hz
  | 3, _ => exact c_square_3 ho hr hx hz
set_option maxRecDepth 10000 in
set_option maxHeartbeats 1000000 in
theorem x_square_1 {G : zW} {f : zHM} {m : Nat × Nat} (hm1 : m.1 + 1 ≤ 50000) (hm2 : m.2 + 6 ≤ 400000) {o : Nat} {x z w : Int32} (hx : x < 0 ∨ 12 ≤ x ∨ z < 0 ∨ ¬ z < 12) : zM G yX3_square cX3_square 5 (some .int) 7 [.ref o, .int x, .int z, .int w] (f, m) (zDx xIOB (zTh f m)) := by
  refine zM.of (by decide) (Nat.le_of_ble_eq_true rfl) ?_
  refine v_iload_n dX3_square_0 rfl rfl ?_
  refine v_iload_n dX3_square_1 rfl rfl ?_
  exact v_callSx kX3_139 gs_X3_needSquare dX3_square_2 (x_needSquare hm1 hm2 hx) rfl rfl (by decide) (Nat.le_of_ble_eq_true rfl) (fun f9 m9 hq => by obtain ⟨rfl, rfl⟩ := hq; exact ⟨rfl, rfl, rfl⟩)
set_option maxRecDepth 10000 in
set_option maxHeartbeats 1000000 in
theorem x_square_2 {G : zW} {f : zHM} {m : Nat × Nat} (hm1 : m.1 + 1 ≤ 50000) (hm2 : m.2 + 6 ≤ 400000) {o x z : Nat} (hx : x < 12) (hz : z < 12) {w : Int32} (hw : w < 0 ∨ ¬ w ≤ 3) : zM G yX3_square cX3_square 5 (some .int) 7 [.ref o, .int (nI x), .int (nI z), .int w] (f, m) (zDx xIAE (zTh f m)) := by
  refine zM.of (by decide) (Nat.le_of_ble_eq_true rfl) ?_
  refine v_iload_n dX3_square_0 rfl rfl ?_
  refine v_iload_n dX3_square_1 rfl rfl ?_
  refine v_callS0p kX3_139 gs_X3_needSquare dX3_square_2 (c_needSquare (nI_pos (by omega)) (show ¬ nI 12 ≤ nI x from nI_ge hx (by omega)) (nI_pos (by omega)) (show nI z < nI 12 from nI_lt hz (by omega))) rfl rfl (by decide) (Nat.le_of_ble_eq_true rfl) ?_
  refine v_iload_n dX3_square_5 rfl rfl ?_
  refine v_iconst (0) dX3_square_6 (by decide) ?_
  refine v_iconst (3) dX3_square_7 (by decide) ?_
  exact v_callSx kX3_72 gs_X3_needRange dX3_square_8 (x_needRange hm1 hm2 hw) rfl rfl (by decide) (Nat.le_of_ble_eq_true rfl) (fun f9 m9 hq => by obtain ⟨rfl, rfl⟩ := hq; exact ⟨rfl, rfl, rfl⟩)
set_option maxRecDepth 10000 in
set_option maxHeartbeats 1000000 in
theorem c_count_0 {G : zW} {f : zHM} {m : Nat × Nat} {o r tr sc tx sl sv k la n : Nat} {A : Nat → Nat} {ρ : zRS} {xs tm : Nat → Int32} (ho : f o = some (600, .inr (3, zOb r tr sc tx sl sv k))) (hr : RPic f 0 r la A ρ n xs tm) {N s : Nat} (hw : RW ρ N s n) {M : Nat × Nat} (hL : LNok f m la M) {gs : Nat → Int32} (hsc : f sc = some (601, .inl (0, 144, .inl gs))) : zM G yX3_count cX3_count 2 (some .int) 7 [.ref o, .int (nI 0)] (f, m) (zD (some (.int (sCount ρ s n k 0))) (fun f' m' => (∃ g, f' sc = some (601, .inl (0, 144, .inl g))) ∧ LNok f' m' la M ∧ zFr zT96 f f')) := by
  refine zM.of (by decide) (Nat.le_of_ble_eq_true rfl) ?_
  have r0 := hr.1
  refine v_iload_n dX3_count_0 rfl rfl ?_
  refine v_iconst (0) dX3_count_1 (by decide) ?_
  refine v_bipush (12) dX3_count_2 (by decide) ?_
  refine v_callS0p kX3_72 gs_X3_needRange dX3_count_4 (c_needRange (by decide) (by decide)) rfl rfl (by decide) (Nat.le_of_ble_eq_true rfl) ?_
  refine v_iload_n dX3_count_7 rfl rfl ?_
  refine v_tableIn 72 dX3_count_8 (by decide) (by decide) (off := 64) (by rfl) (by decide) ?_
  refine v_aload_n dX3_count_72 rfl rfl ?_
  refine v_getfield fX3_34 dX3_count_73 (by assumption) (by rfl) ?_
  refine v_getfield fX3_55 dX3_count_76 (by assumption) (by rfl) ?_
  exact v_ireturn dX3_count_79 rfl ⟨rfl, ⟨gs, hsc⟩, hL, zFr.refl⟩
set_option maxRecDepth 10000 in
set_option maxHeartbeats 1000000 in
theorem c_count_1 {G : zW} {f : zHM} {m : Nat × Nat} {o r tr sc tx sl sv k la n : Nat} {A : Nat → Nat} {ρ : zRS} {xs tm : Nat → Int32} (ho : f o = some (600, .inr (3, zOb r tr sc tx sl sv k))) (hr : RPic f 0 r la A ρ n xs tm) {N s : Nat} (hw : RW ρ N s n) {M : Nat × Nat} (hL : LNok f m la M) {gs : Nat → Int32} (hsc : f sc = some (601, .inl (0, 144, .inl gs))) : zM G yX3_count cX3_count 2 (some .int) 7 [.ref o, .int (nI 1)] (f, m) (zD (some (.int (sCount ρ s n k 1))) (fun f' m' => (∃ g, f' sc = some (601, .inl (0, 144, .inl g))) ∧ LNok f' m' la M ∧ zFr zT96 f f')) := by
  refine zM.of (by decide) (Nat.le_of_ble_eq_true rfl) ?_
  have r0 := hr.1
  refine v_iload_n dX3_count_0 rfl rfl ?_
  refine v_iconst (0) dX3_count_1 (by decide) ?_
  refine v_bipush (12) dX3_count_2 (by decide) ?_
  refine v_callS0p kX3_72 gs_X3_needRange dX3_count_4 (c_needRange (by decide) (by decide)) rfl rfl (by decide) (Nat.le_of_ble_eq_true rfl) ?_
  refine v_iload_n dX3_count_7 rfl rfl ?_
  refine v_tableIn 80 dX3_count_8 (by decide) (by decide) (off := 72) (by rfl) (by decide) ?_
  refine v_aload_n dX3_count_80 rfl rfl ?_
  refine v_getfield fX3_34 dX3_count_81 (by assumption) (by rfl) ?_
  refine v_getfield fX3_65 dX3_count_84 (by assumption) (by rfl) ?_
  exact v_ireturn dX3_count_87 rfl ⟨rfl, ⟨gs, hsc⟩, hL, zFr.refl⟩
set_option maxRecDepth 10000 in
set_option maxHeartbeats 1000000 in
theorem c_count_2 {G : zW} {f : zHM} {m : Nat × Nat} {o r tr sc tx sl sv k la n : Nat} {A : Nat → Nat} {ρ : zRS} {xs tm : Nat → Int32} (ho : f o = some (600, .inr (3, zOb r tr sc tx sl sv k))) (hr : RPic f 0 r la A ρ n xs tm) {N s : Nat} (hw : RW ρ N s n) {M : Nat × Nat} (hL : LNok f m la M) {gs : Nat → Int32} (hsc : f sc = some (601, .inl (0, 144, .inl gs))) : zM G yX3_count cX3_count 2 (some .int) 7 [.ref o, .int (nI 2)] (f, m) (zD (some (.int (sCount ρ s n k 2))) (fun f' m' => (∃ g, f' sc = some (601, .inl (0, 144, .inl g))) ∧ LNok f' m' la M ∧ zFr zT96 f f')) := by
  refine zM.of (by decide) (Nat.le_of_ble_eq_true rfl) ?_
  have r0 := hr.1
  refine v_iload_n dX3_count_0 rfl rfl ?_
  refine v_iconst (0) dX3_count_1 (by decide) ?_
  refine v_bipush (12) dX3_count_2 (by decide) ?_
  refine v_callS0p kX3_72 gs_X3_needRange dX3_count_4 (c_needRange (by decide) (by decide)) rfl rfl (by decide) (Nat.le_of_ble_eq_true rfl) ?_
  refine v_iload_n dX3_count_7 rfl rfl ?_
  refine v_tableIn 88 dX3_count_8 (by decide) (by decide) (off := 80) (by rfl) (by decide) ?_
  refine v_aload_n dX3_count_88 rfl rfl ?_
  refine v_getfield fX3_34 dX3_count_89 (by assumption) (by rfl) ?_
  refine v_getfield fX3_76 dX3_count_92 (by assumption) (by rfl) ?_
  exact v_ireturn dX3_count_95 rfl ⟨rfl, ⟨gs, hsc⟩, hL, zFr.refl⟩
set_option maxRecDepth 10000 in
set_option maxHeartbeats 1000000 in
theorem c_count_3 {G : zW} {f : zHM} {m : Nat × Nat} {o r tr sc tx sl sv k la n : Nat} {A : Nat → Nat} {ρ : zRS} {xs tm : Nat → Int32} (ho : f o = some (600, .inr (3, zOb r tr sc tx sl sv k))) (hr : RPic f 0 r la A ρ n xs tm) {N s : Nat} (hw : RW ρ N s n) {M : Nat × Nat} (hL : LNok f m la M) {gs : Nat → Int32} (hsc : f sc = some (601, .inl (0, 144, .inl gs))) : zM G yX3_count cX3_count 2 (some .int) 7 [.ref o, .int (nI 3)] (f, m) (zD (some (.int (sCount ρ s n k 3))) (fun f' m' => (∃ g, f' sc = some (601, .inl (0, 144, .inl g))) ∧ LNok f' m' la M ∧ zFr zT96 f f')) := by
  refine zM.of (by decide) (Nat.le_of_ble_eq_true rfl) ?_
  have r0 := hr.1
  refine v_iload_n dX3_count_0 rfl rfl ?_
  refine v_iconst (0) dX3_count_1 (by decide) ?_
  refine v_bipush (12) dX3_count_2 (by decide) ?_
  refine v_callS0p kX3_72 gs_X3_needRange dX3_count_4 (c_needRange (by decide) (by decide)) rfl rfl (by decide) (Nat.le_of_ble_eq_true rfl) ?_
  refine v_iload_n dX3_count_7 rfl rfl ?_
  refine v_tableIn 96 dX3_count_8 (by decide) (by decide) (off := 88) (by rfl) (by decide) ?_
  refine v_aload_n dX3_count_96 rfl rfl ?_
  refine v_getfield fX3_34 dX3_count_97 (by assumption) (by rfl) ?_
  refine v_getfield fX3_110 dX3_count_100 (by assumption) (by rfl) ?_
  exact v_ireturn dX3_count_103 rfl ⟨rfl, ⟨gs, hsc⟩, hL, zFr.refl⟩
set_option maxRecDepth 10000 in
set_option maxHeartbeats 1000000 in
theorem c_count_4 {G : zW} {f : zHM} {m : Nat × Nat} {o r tr sc tx sl sv k la n : Nat} {A : Nat → Nat} {ρ : zRS} {xs tm : Nat → Int32} (ho : f o = some (600, .inr (3, zOb r tr sc tx sl sv k))) (hr : RPic f 0 r la A ρ n xs tm) {N s : Nat} (hw : RW ρ N s n) {M : Nat × Nat} (hL : LNok f m la M) {gs : Nat → Int32} (hsc : f sc = some (601, .inl (0, 144, .inl gs))) : zM G yX3_count cX3_count 2 (some .int) 7 [.ref o, .int (nI 4)] (f, m) (zD (some (.int (sCount ρ s n k 4))) (fun f' m' => (∃ g, f' sc = some (601, .inl (0, 144, .inl g))) ∧ LNok f' m' la M ∧ zFr zT96 f f')) := by
  refine zM.of (by decide) (Nat.le_of_ble_eq_true rfl) ?_
  have r0 := hr.1
  refine v_iload_n dX3_count_0 rfl rfl ?_
  refine v_iconst (0) dX3_count_1 (by decide) ?_
  refine v_bipush (12) dX3_count_2 (by decide) ?_
  refine v_callS0p kX3_72 gs_X3_needRange dX3_count_4 (c_needRange (by decide) (by decide)) rfl rfl (by decide) (Nat.le_of_ble_eq_true rfl) ?_
  refine v_iload_n dX3_count_7 rfl rfl ?_
  refine v_tableIn 104 dX3_count_8 (by decide) (by decide) (off := 96) (by rfl) (by decide) ?_
  refine v_aload_n dX3_count_104 rfl rfl ?_
  refine v_getfield fX3_34 dX3_count_105 (by assumption) (by rfl) ?_
  refine v_getfield fX3_121 dX3_count_108 (by assumption) (by rfl) ?_
  exact v_ireturn dX3_count_111 rfl ⟨rfl, ⟨gs, hsc⟩, hL, zFr.refl⟩
set_option maxRecDepth 10000 in
set_option maxHeartbeats 1000000 in
theorem c_count_5 {G : zW} {f : zHM} {m : Nat × Nat} {o r tr sc tx sl sv k la n : Nat} {A : Nat → Nat} {ρ : zRS} {xs tm : Nat → Int32} (ho : f o = some (600, .inr (3, zOb r tr sc tx sl sv k))) (hr : RPic f 0 r la A ρ n xs tm) {N s : Nat} (hw : RW ρ N s n) {M : Nat × Nat} (hL : LNok f m la M) {gs : Nat → Int32} (hsc : f sc = some (601, .inl (0, 144, .inl gs))) : zM G yX3_count cX3_count 2 (some .int) 7 [.ref o, .int (nI 5)] (f, m) (zD (some (.int (sCount ρ s n k 5))) (fun f' m' => (∃ g, f' sc = some (601, .inl (0, 144, .inl g))) ∧ LNok f' m' la M ∧ zFr zT96 f f')) := by
  refine zM.of (by decide) (Nat.le_of_ble_eq_true rfl) ?_
  have r0 := hr.1
  refine v_iload_n dX3_count_0 rfl rfl ?_
  refine v_iconst (0) dX3_count_1 (by decide) ?_
  refine v_bipush (12) dX3_count_2 (by decide) ?_
  refine v_callS0p kX3_72 gs_X3_needRange dX3_count_4 (c_needRange (by decide) (by decide)) rfl rfl (by decide) (Nat.le_of_ble_eq_true rfl) ?_
  refine v_iload_n dX3_count_7 rfl rfl ?_
  refine v_tableIn 112 dX3_count_8 (by decide) (by decide) (off := 104) (by rfl) (by decide) ?_
  refine v_aload_n dX3_count_112 rfl rfl ?_
  refine v_getfield fX3_34 dX3_count_113 (by assumption) (by rfl) ?_
  refine v_getfield fX3_124 dX3_count_116 (by assumption) (by rfl) ?_
  exact v_ireturn dX3_count_119 rfl ⟨rfl, ⟨gs, hsc⟩, hL, zFr.refl⟩
set_option maxRecDepth 10000 in
set_option maxHeartbeats 1000000 in
theorem c_count_6 {G : zW} {f : zHM} {m : Nat × Nat} {o r tr sc tx sl sv k la n : Nat} {A : Nat → Nat} {ρ : zRS} {xs tm : Nat → Int32} (ho : f o = some (600, .inr (3, zOb r tr sc tx sl sv k))) (hr : RPic f 0 r la A ρ n xs tm) {N s : Nat} (hw : RW ρ N s n) {M : Nat × Nat} (hL : LNok f m la M) {gs : Nat → Int32} (hsc : f sc = some (601, .inl (0, 144, .inl gs))) : zM G yX3_count cX3_count 2 (some .int) 7 [.ref o, .int (nI 6)] (f, m) (zD (some (.int (sCount ρ s n k 6))) (fun f' m' => (∃ g, f' sc = some (601, .inl (0, 144, .inl g))) ∧ LNok f' m' la M ∧ zFr zT96 f f')) := by
  refine zM.of (by decide) (Nat.le_of_ble_eq_true rfl) ?_
  have r0 := hr.1
  refine v_iload_n dX3_count_0 rfl rfl ?_
  refine v_iconst (0) dX3_count_1 (by decide) ?_
  refine v_bipush (12) dX3_count_2 (by decide) ?_
  refine v_callS0p kX3_72 gs_X3_needRange dX3_count_4 (c_needRange (by decide) (by decide)) rfl rfl (by decide) (Nat.le_of_ble_eq_true rfl) ?_
  refine v_iload_n dX3_count_7 rfl rfl ?_
  refine v_tableIn 120 dX3_count_8 (by decide) (by decide) (off := 112) (by rfl) (by decide) ?_
  refine v_aload_n dX3_count_120 rfl rfl ?_
  refine v_getfield fX3_34 dX3_count_121 (by assumption) (by rfl) ?_
  refine v_getfield fX3_95 dX3_count_124 (by assumption) (by rfl) ?_
  exact v_ireturn dX3_count_127 rfl ⟨rfl, ⟨gs, hsc⟩, hL, zFr.refl⟩
set_option maxRecDepth 10000 in
set_option maxHeartbeats 1000000 in
theorem c_count_7 {G : zW} {f : zHM} {m : Nat × Nat} {o r tr sc tx sl sv k la n : Nat} {A : Nat → Nat} {ρ : zRS} {xs tm : Nat → Int32} (ho : f o = some (600, .inr (3, zOb r tr sc tx sl sv k))) (hr : RPic f 0 r la A ρ n xs tm) {N s : Nat} (hw : RW ρ N s n) {M : Nat × Nat} (hL : LNok f m la M) {gs : Nat → Int32} (hsc : f sc = some (601, .inl (0, 144, .inl gs))) : zM G yX3_count cX3_count 2 (some .int) 7 [.ref o, .int (nI 7)] (f, m) (zD (some (.int (sCount ρ s n k 7))) (fun f' m' => (∃ g, f' sc = some (601, .inl (0, 144, .inl g))) ∧ LNok f' m' la M ∧ zFr zT96 f f')) := by
  refine zM.of (by decide) (Nat.le_of_ble_eq_true rfl) ?_
  have r0 := hr.1
  refine v_iload_n dX3_count_0 rfl rfl ?_
  refine v_iconst (0) dX3_count_1 (by decide) ?_
  refine v_bipush (12) dX3_count_2 (by decide) ?_
  refine v_callS0p kX3_72 gs_X3_needRange dX3_count_4 (c_needRange (by decide) (by decide)) rfl rfl (by decide) (Nat.le_of_ble_eq_true rfl) ?_
  refine v_iload_n dX3_count_7 rfl rfl ?_
  refine v_tableIn 128 dX3_count_8 (by decide) (by decide) (off := 120) (by rfl) (by decide) ?_
  refine v_aload_n dX3_count_128 rfl rfl ?_
  refine v_getfield fX3_34 dX3_count_129 (by assumption) (by rfl) ?_
  refine v_callVp kX3_152 gi_X1_misfit ge_X1_misfit rfl dX3_count_132 (by assumption) (c_misfit hr) rfl rfl (by decide) (Nat.le_of_ble_eq_true rfl) ?_
  exact v_ireturn dX3_count_135 rfl ⟨rfl, ⟨gs, hsc⟩, hL, zFr.refl⟩
set_option maxRecDepth 10000 in
set_option maxHeartbeats 1000000 in
theorem c_count_8 {G : zW} {f : zHM} {m : Nat × Nat} {o r tr sc tx sl sv k la n : Nat} {A : Nat → Nat} {ρ : zRS} {xs tm : Nat → Int32} (ho : f o = some (600, .inr (3, zOb r tr sc tx sl sv k))) (hr : RPic f 0 r la A ρ n xs tm) {N s : Nat} (hw : RW ρ N s n) {M : Nat × Nat} (hL : LNok f m la M) {gs : Nat → Int32} (hsc : f sc = some (601, .inl (0, 144, .inl gs))) : zM G yX3_count cX3_count 2 (some .int) 7 [.ref o, .int (nI 8)] (f, m) (zD (some (.int (sCount ρ s n k 8))) (fun f' m' => (∃ g, f' sc = some (601, .inl (0, 144, .inl g))) ∧ LNok f' m' la M ∧ zFr zT96 f f')) := by
  refine zM.of (by decide) (Nat.le_of_ble_eq_true rfl) ?_
  have r0 := hr.1
  refine v_iload_n dX3_count_0 rfl rfl ?_
  refine v_iconst (0) dX3_count_1 (by decide) ?_
  refine v_bipush (12) dX3_count_2 (by decide) ?_
  refine v_callS0p kX3_72 gs_X3_needRange dX3_count_4 (c_needRange (by decide) (by decide)) rfl rfl (by decide) (Nat.le_of_ble_eq_true rfl) ?_
  refine v_iload_n dX3_count_7 rfl rfl ?_
  refine v_tableIn 136 dX3_count_8 (by decide) (by decide) (off := 128) (by rfl) (by decide) ?_
  refine v_aload_n dX3_count_136 rfl rfl ?_
  refine v_getfield fX3_34 dX3_count_137 (by assumption) (by rfl) ?_
  refine v_aload_n dX3_count_140 rfl rfl ?_
  refine v_getfield fX3_9 dX3_count_141 (by assumption) (by rfl) ?_
  refine v_callV1 kX3_236 gi_X1_misfitByGains ge_X1_misfitByGains rfl dX3_count_144 (by assumption) (c_misfitByGains hr (by omega) hw hL hsc (by omega)) rfl rfl (by decide) (Nat.le_of_ble_eq_true rfl) (fun f m hc => ?_)
  exact v_ireturn dX3_count_147 rfl ⟨rfl, hc.1, hc.2.1, hc.2.2⟩
set_option maxRecDepth 10000 in
set_option maxHeartbeats 1000000 in
theorem c_count_9 {G : zW} {f : zHM} {m : Nat × Nat} {o r tr sc tx sl sv k la n : Nat} {A : Nat → Nat} {ρ : zRS} {xs tm : Nat → Int32} (ho : f o = some (600, .inr (3, zOb r tr sc tx sl sv k))) (hr : RPic f 0 r la A ρ n xs tm) {N s : Nat} (hw : RW ρ N s n) {M : Nat × Nat} (hL : LNok f m la M) {gs : Nat → Int32} (hsc : f sc = some (601, .inl (0, 144, .inl gs))) : zM G yX3_count cX3_count 2 (some .int) 7 [.ref o, .int (nI 9)] (f, m) (zD (some (.int (sCount ρ s n k 9))) (fun f' m' => (∃ g, f' sc = some (601, .inl (0, 144, .inl g))) ∧ LNok f' m' la M ∧ zFr zT96 f f')) := by
  refine zM.of (by decide) (Nat.le_of_ble_eq_true rfl) ?_
  have r0 := hr.1
  refine v_iload_n dX3_count_0 rfl rfl ?_
  refine v_iconst (0) dX3_count_1 (by decide) ?_
  refine v_bipush (12) dX3_count_2 (by decide) ?_
  refine v_callS0p kX3_72 gs_X3_needRange dX3_count_4 (c_needRange (by decide) (by decide)) rfl rfl (by decide) (Nat.le_of_ble_eq_true rfl) ?_
  refine v_iload_n dX3_count_7 rfl rfl ?_
  refine v_tableIn 148 dX3_count_8 (by decide) (by decide) (off := 140) (by rfl) (by decide) ?_
  refine v_aload_n dX3_count_148 rfl rfl ?_
  refine v_getfield fX3_34 dX3_count_149 (by assumption) (by rfl) ?_
  refine v_iconst (1) dX3_count_152 (by decide) ?_
  refine v_callVp kX3_240 gi_X1_squaresOfSign ge_X1_squaresOfSign rfl dX3_count_153 (by assumption) (c_squaresOfSign hr 1) rfl rfl (by decide) (Nat.le_of_ble_eq_true rfl) ?_
  exact v_ireturn dX3_count_156 rfl ⟨rfl, ⟨gs, hsc⟩, hL, zFr.refl⟩
set_option maxRecDepth 10000 in
set_option maxHeartbeats 1000000 in
theorem c_count_10 {G : zW} {f : zHM} {m : Nat × Nat} {o r tr sc tx sl sv k la n : Nat} {A : Nat → Nat} {ρ : zRS} {xs tm : Nat → Int32} (ho : f o = some (600, .inr (3, zOb r tr sc tx sl sv k))) (hr : RPic f 0 r la A ρ n xs tm) {N s : Nat} (hw : RW ρ N s n) {M : Nat × Nat} (hL : LNok f m la M) {gs : Nat → Int32} (hsc : f sc = some (601, .inl (0, 144, .inl gs))) : zM G yX3_count cX3_count 2 (some .int) 7 [.ref o, .int (nI 10)] (f, m) (zD (some (.int (sCount ρ s n k 10))) (fun f' m' => (∃ g, f' sc = some (601, .inl (0, 144, .inl g))) ∧ LNok f' m' la M ∧ zFr zT96 f f')) := by
  refine zM.of (by decide) (Nat.le_of_ble_eq_true rfl) ?_
  have r0 := hr.1
  refine v_iload_n dX3_count_0 rfl rfl ?_
  refine v_iconst (0) dX3_count_1 (by decide) ?_
  refine v_bipush (12) dX3_count_2 (by decide) ?_
  refine v_callS0p kX3_72 gs_X3_needRange dX3_count_4 (c_needRange (by decide) (by decide)) rfl rfl (by decide) (Nat.le_of_ble_eq_true rfl) ?_
  refine v_iload_n dX3_count_7 rfl rfl ?_
  refine v_tableIn 157 dX3_count_8 (by decide) (by decide) (off := 149) (by rfl) (by decide) ?_
  refine v_aload_n dX3_count_157 rfl rfl ?_
  refine v_getfield fX3_34 dX3_count_158 (by assumption) (by rfl) ?_
  refine v_iconst (-1) dX3_count_161 (by decide) ?_
  refine v_callVp kX3_240 gi_X1_squaresOfSign ge_X1_squaresOfSign rfl dX3_count_162 (by assumption) (c_squaresOfSign hr (-1)) rfl rfl (by decide) (Nat.le_of_ble_eq_true rfl) ?_
  exact v_ireturn dX3_count_165 rfl ⟨rfl, ⟨gs, hsc⟩, hL, zFr.refl⟩
set_option maxRecDepth 10000 in
set_option maxHeartbeats 1000000 in
theorem c_count_11 {G : zW} {f : zHM} {m : Nat × Nat} {o r tr sc tx sl sv k la n : Nat} {A : Nat → Nat} {ρ : zRS} {xs tm : Nat → Int32} (ho : f o = some (600, .inr (3, zOb r tr sc tx sl sv k))) (hr : RPic f 0 r la A ρ n xs tm) {N s : Nat} (hw : RW ρ N s n) {M : Nat × Nat} (hL : LNok f m la M) {gs : Nat → Int32} (hsc : f sc = some (601, .inl (0, 144, .inl gs))) : zM G yX3_count cX3_count 2 (some .int) 7 [.ref o, .int (nI 11)] (f, m) (zD (some (.int (sCount ρ s n k 11))) (fun f' m' => (∃ g, f' sc = some (601, .inl (0, 144, .inl g))) ∧ LNok f' m' la M ∧ zFr zT96 f f')) := by
  refine zM.of (by decide) (Nat.le_of_ble_eq_true rfl) ?_
  have r0 := hr.1
  refine v_iload_n dX3_count_0 rfl rfl ?_
  refine v_iconst (0) dX3_count_1 (by decide) ?_
  refine v_bipush (12) dX3_count_2 (by decide) ?_
  refine v_callS0p kX3_72 gs_X3_needRange dX3_count_4 (c_needRange (by decide) (by decide)) rfl rfl (by decide) (Nat.le_of_ble_eq_true rfl) ?_
  refine v_iload_n dX3_count_7 rfl rfl ?_
  refine v_tableIn 166 dX3_count_8 (by decide) (by decide) (off := 158) (by rfl) (by decide) ?_
  refine v_aload_n dX3_count_166 rfl rfl ?_
  refine v_getfield fX3_34 dX3_count_167 (by assumption) (by rfl) ?_
  refine v_iconst (0) dX3_count_170 (by decide) ?_
  refine v_callV1 kX3_201 gi_X1_threadLying ge_X1_threadLying rfl dX3_count_171 (by assumption) (c_threadLying hr (by omega) hw hL 0) rfl rfl (by decide) (Nat.le_of_ble_eq_true rfl) (fun f m hc => ?_)
  obtain ⟨hL, hf1⟩ := hc
  have hr := hr.fr hf1 (fun k hk => by show ¬ (0 + k = 950); omega)
  have ho := hf1 _ _ _ ho (by decide)
  have r0 := hr.1
  refine v_aload_n dX3_count_174 rfl rfl ?_
  refine v_getfield fX3_34 dX3_count_175 (by assumption) (by rfl) ?_
  refine v_iconst (1) dX3_count_178 (by decide) ?_
  refine v_callV1 kX3_201 gi_X1_threadLying ge_X1_threadLying rfl dX3_count_179 (by assumption) (c_threadLying hr (by omega) hw hL 1) rfl rfl (by decide) (Nat.le_of_ble_eq_true rfl) (fun f m hc => ?_)
  obtain ⟨hL, hf2⟩ := hc
  have hr := hr.fr hf2 (fun k hk => by show ¬ (0 + k = 950); omega)
  have ho := hf2 _ _ _ ho (by decide)
  have r0 := hr.1
  refine v_iadd dX3_count_182 ?_
  refine v_aload_n dX3_count_183 rfl rfl ?_
  refine v_getfield fX3_34 dX3_count_184 (by assumption) (by rfl) ?_
  refine v_iconst (2) dX3_count_187 (by decide) ?_
  refine v_callV1 kX3_201 gi_X1_threadLying ge_X1_threadLying rfl dX3_count_188 (by assumption) (c_threadLying hr (by omega) hw hL 2) rfl rfl (by decide) (Nat.le_of_ble_eq_true rfl) (fun f m hc => ?_)
  obtain ⟨hL, hf3⟩ := hc
  refine v_iadd dX3_count_191 ?_
  exact v_ireturn dX3_count_192 rfl ⟨rfl, ⟨gs, hf3 _ _ _ (hf2 _ _ _ (hf1 _ _ _ hsc (by decide)) (by decide)) (by decide)⟩, hL, ((hf1.trans hf2).trans hf3).weaken (fun _ h => Or.inl h)⟩
set_option maxRecDepth 10000 in
set_option maxHeartbeats 1000000 in
theorem c_count_12 {G : zW} {f : zHM} {m : Nat × Nat} {o r tr sc tx sl sv k la n : Nat} {A : Nat → Nat} {ρ : zRS} {xs tm : Nat → Int32} (ho : f o = some (600, .inr (3, zOb r tr sc tx sl sv k))) (hr : RPic f 0 r la A ρ n xs tm) {N s : Nat} (hw : RW ρ N s n) {M : Nat × Nat} (hL : LNok f m la M) {gs : Nat → Int32} (hsc : f sc = some (601, .inl (0, 144, .inl gs))) : zM G yX3_count cX3_count 2 (some .int) 7 [.ref o, .int (nI 12)] (f, m) (zD (some (.int (sCount ρ s n k 12))) (fun f' m' => (∃ g, f' sc = some (601, .inl (0, 144, .inl g))) ∧ LNok f' m' la M ∧ zFr zT96 f f')) := by
  refine zM.of (by decide) (Nat.le_of_ble_eq_true rfl) ?_
  have r0 := hr.1
  refine v_iload_n dX3_count_0 rfl rfl ?_
  refine v_iconst (0) dX3_count_1 (by decide) ?_
  refine v_bipush (12) dX3_count_2 (by decide) ?_
  refine v_callS0p kX3_72 gs_X3_needRange dX3_count_4 (c_needRange (by decide) (by decide)) rfl rfl (by decide) (Nat.le_of_ble_eq_true rfl) ?_
  refine v_iload_n dX3_count_7 rfl rfl ?_
  refine v_tableOut 193 dX3_count_8 (Or.inr (by decide)) (by decide) ?_
  refine v_aload_n dX3_count_193 rfl rfl ?_
  refine v_getfield fX3_187 dX3_count_194 (by assumption) (by rfl) ?_
  exact v_ireturn dX3_count_197 rfl ⟨rfl, ⟨gs, hsc⟩, hL, zFr.refl⟩
theorem c_count {G : zW} {f : zHM} {m : Nat × Nat} {o r tr sc tx sl sv k la n : Nat} {A : Nat → Nat} {ρ : zRS} {xs tm : Nat → Int32} (ho : f o = some (600, .inr (3, zOb r tr sc tx sl sv k))) (hr : RPic f 0 r la A ρ n xs tm) {N s : Nat} (hw : RW ρ N s n) {M : Nat × Nat} (hL : LNok f m la M) {gs : Nat → Int32} (hsc : f sc = some (601, .inl (0, 144, .inl gs))) {w : Nat} (hw4 : w ≤ 12) : zM G yX3_count cX3_count 2 (some .int) 7 [.ref o, .int (nI w)] (f, m) (zD (some (.int (sCount ρ s n k w))) (fun f' m' => (∃ g, f' sc = some (601, .inl (0, 144, .inl g))) ∧ LNok f' m' la M ∧ zFr zT96 f f')) := by
  match w, hw4 with
  | 0, _ => exact c_count_0 ho hr hw hL hsc
  | 1, _ => exact c_count_1 ho hr hw hL hsc
  | 2, _ => exact c_count_2 ho hr hw hL hsc
  | 3, _ => exact c_count_3 ho hr hw hL hsc
  | 4, _ => exact c_count_4 ho hr hw hL hsc
  | 5, _ => exact c_count_5 ho hr hw hL hsc
  | 6, _ => exact c_count_6 ho hr hw hL hsc
  | 7, _ => exact c_count_7 ho hr hw hL hsc
  | 8, _ => exact c_count_8 ho hr hw hL hsc
  | 9, _ => exact c_count_9 ho hr hw hL hsc
  | 10, _ => exact c_count_10 ho hr hw hL hsc
  | 11, _ => exact c_count_11 ho hr hw hL hsc
  | 12, _ => exact c_count_12 ho hr hw hL hsc
set_option maxRecDepth 10000 in
set_option maxHeartbeats 1000000 in
theorem x_count {G : zW} {f : zHM} {m : Nat × Nat} (hm1 : m.1 + 1 ≤ 50000) (hm2 : m.2 + 6 ≤ 400000) {o : Nat} {v : Int32} (hx : v < 0 ∨ ¬ v ≤ 12) : zM G yX3_count cX3_count 2 (some .int) 7 [.ref o, .int v] (f, m) (zDx xIAE (zTh f m)) := by
  refine zM.of (by decide) (Nat.le_of_ble_eq_true rfl) ?_
  refine v_iload_n dX3_count_0 rfl rfl ?_
  refine v_iconst (0) dX3_count_1 (by decide) ?_
  refine v_bipush (12) dX3_count_2 (by decide) ?_
  exact v_callSx kX3_72 gs_X3_needRange dX3_count_4 (x_needRange hm1 hm2 hx) rfl rfl (by decide) (Nat.le_of_ble_eq_true rfl) (fun f9 m9 hq => by obtain ⟨rfl, rfl⟩ := hq; exact ⟨rfl, rfl, rfl⟩)
set_option maxRecDepth 10000 in
set_option maxHeartbeats 1000000 in
theorem c_palest {G : zW} {f : zHM} {m : Nat × Nat} {o r tr sc tx sl sv k la n : Nat} {A : Nat → Nat} {ρ : zRS} {xs tm : Nat → Int32} (ho : f o = some (600, .inr (3, zOb r tr sc tx sl sv k))) (hr : RPic f 0 r la A ρ n xs tm) : zM G yX3_palest cX3_palest 5 (some .int) 7 [.ref o] (f, m) (zS (.int (sPal ρ 144).1) f m) := by
  refine zM.of (by decide) (Nat.le_of_ble_eq_true rfl) ?_
  have r0 := hr.1
  have loop : ∀ (k i : Nat), i + k = 144 → zV G yX3_palest cX3_palest 5 (some .int) 7 6 [(0, .ref o), (1, .int (sPal ρ i).1), (2, .int (sPal ρ i).2), (3, .int (nI i))] [] (f, m) (zS (.int (sPal ρ 144).1) f m) := by
    intro k
    induction k with
    | zero =>
      intro i hi 
      have hi : i = 144 := by omega
      subst hi
      refine v_iload_n dX3_palest_6 rfl rfl ?_
      refine v_sipush (nI 144) dX3_palest_7 (by decide) ?_
      refine v_icmp_ge 51 dX3_palest_10 (by decide) (fun b10 => ?_) (fun b10 => ?_)
      · refine v_iload_n dX3_palest_51 rfl rfl ?_
        exact v_ireturn dX3_palest_52 rfl ⟨rfl, rfl, rfl⟩
      · exact absurd (nI_le (by omega) (by omega)) b10
    | succ k ih =>
      intro i hi 
      have h9 : i < 144 := by omega
      refine v_iload_n dX3_palest_6 rfl rfl ?_
      refine v_sipush (nI 144) dX3_palest_7 (by decide) ?_
      refine v_icmp_ge 51 dX3_palest_10 (by decide) (fun b10 => ?_) (fun b10 => ?_)
      · exact absurd b10 (nI_ge h9 (by omega))
      · refine v_aload_n dX3_palest_13 rfl rfl ?_
        refine v_getfield fX3_34 dX3_palest_14 (by assumption) (by rfl) ?_
        refine v_iload_n dX3_palest_17 rfl rfl ?_
        refine v_callVp kX3_230 gi_X1_lackOf ge_X1_lackOf rfl dX3_palest_18 (by assumption) (c_lackOf hr h9) rfl rfl (by decide) (Nat.le_of_ble_eq_true rfl) ?_
        refine v_istore dX3_palest_21 (by decide) ?_
        refine v_iload dX3_palest_23 rfl ?_
        refine v_iload_n dX3_palest_25 rfl rfl ?_
        refine v_icmp_le 45 dX3_palest_26 (by decide) (fun b26 => ?_) (fun b26 => ?_)
        · have hst : sPal ρ (i + 1) = sPal ρ i := if_pos b26
          refine v_iincN dX3_palest_45 rfl (by decide) ?_
          refine v_goto 6 dX3_palest_48 (by decide) ?_
          exact v_loc (lv' := [(0, .ref o), (1, .int (sPal ρ (i + 1)).1), (2, .int (sPal ρ (i + 1)).2), (3, .int (nI (i + 1)))]) ⟨rfl, zlkE rfl (by rw [hst]), zlkE rfl (by rw [hst]), rfl, trivial⟩ (ih (i + 1) (by omega))
        · have hst : sPal ρ (i + 1) = (nI (100 * (i / 12) + i % 12), sLack ρ i) := if_neg b26
          refine v_iload dX3_palest_29 rfl ?_
          refine v_istore_n dX3_palest_31 rfl (by decide) ?_
          refine v_bipush (nI 100) dX3_palest_32 (by decide) ?_
          refine v_iload_n dX3_palest_34 rfl rfl ?_
          refine v_bipush (nI 12) dX3_palest_35 (by decide) ?_
          refine v_idiv dX3_palest_37 (by decide) ?_
          rw [pk_div (by omega) (by omega) (by omega)]
          refine v_imul dX3_palest_38 ?_
          rw [pk_mul]
          refine v_iload_n dX3_palest_39 rfl rfl ?_
          refine v_bipush (nI 12) dX3_palest_40 (by decide) ?_
          refine v_irem dX3_palest_42 (by decide) ?_
          rw [pk_rem (by omega) (by omega) (by omega)]
          refine v_iadd dX3_palest_43 ?_
          rw [nI_add]
          refine v_istore_n dX3_palest_44 rfl (by decide) ?_
          refine v_iincN dX3_palest_45 rfl (by decide) ?_
          refine v_goto 6 dX3_palest_48 (by decide) ?_
          exact v_loc (lv' := [(0, .ref o), (1, .int (sPal ρ (i + 1)).1), (2, .int (sPal ρ (i + 1)).2), (3, .int (nI (i + 1)))]) ⟨rfl, zlkE rfl (by rw [hst]), zlkE rfl (by rw [hst]), rfl, trivial⟩ (ih (i + 1) (by omega))
  refine v_iconst (-1) dX3_palest_0 (by decide) ?_
  refine v_istore_n dX3_palest_1 rfl (by decide) ?_
  refine v_iconst (0) dX3_palest_2 (by decide) ?_
  refine v_istore_n dX3_palest_3 rfl (by decide) ?_
  refine v_iconst (0) dX3_palest_4 (by decide) ?_
  refine v_istore_n dX3_palest_5 rfl (by decide) ?_
  exact v_loc (lv' := [(0, .ref o), (1, .int (sPal ρ 0).1), (2, .int (sPal ρ 0).2), (3, .int (nI 0))]) ⟨rfl, rfl, rfl, rfl, trivial⟩ (loop 144 0 rfl)
set_option maxRecDepth 10000 in
set_option maxHeartbeats 1000000 in
theorem c_shownShare {G : zW} {f : zHM} {m : Nat × Nat} {o r tr sc tx sl sv k la n : Nat} {A : Nat → Nat} {ρ : zRS} {xs tm : Nat → Int32} (ho : f o = some (600, .inr (3, zOb r tr sc tx sl sv k))) (hr : RPic f 0 r la A ρ n xs tm) : zM G yX3_shownShare cX3_shownShare 1 (some .double) 7 [.ref o] (f, m) (zS (.double (sShare ρ)) f m) := by
  refine zM.of (by decide) (Nat.le_of_ble_eq_true rfl) ?_
  have r0 := hr.1
  refine v_aload_n dX3_shownShare_0 rfl rfl ?_
  refine v_getfield fX3_34 dX3_shownShare_1 (by assumption) (by rfl) ?_
  refine v_iconst (0) dX3_shownShare_4 (by decide) ?_
  refine v_callVp kX3_240 gi_X1_squaresOfSign ge_X1_squaresOfSign rfl dX3_shownShare_5 (by assumption) (c_squaresOfSign hr 0) rfl rfl (by decide) (Nat.le_of_ble_eq_true rfl) ?_
  refine v_i2d dX3_shownShare_8 ?_
  refine v_ldc2d 4639270566145032192 dX3_shownShare_9 gd144 ?_
  refine v_ddiv dX3_shownShare_12 (by obtain ⟨k9, h1, h2⟩ := sThat_nI ρ 0; rw [h2]; exact sShare_ok k9 (by omega)) ?_
  exact v_dreturn dX3_shownShare_13 rfl ⟨rfl, rfl, rfl⟩
set_option maxRecDepth 10000 in
set_option maxHeartbeats 1000000 in
theorem c_clearBuffer {G : zW} {f : zHM} {m : Nat × Nat} {o r tr sc tx sl sv k co L : Nat} {ch : Nat → Nat} (ho : f o = some (600, .inr (3, zOb r tr sc tx sl sv k))) (hp : TPic f 602 tx co L ch) (hL : L ≤ 60) : zM G yX3_clearBuffer cX3_clearBuffer 2 (some .int) 7 [.ref o] (f, m) (zD (some (.int (nI L))) (fun f' m' => TPic f' 602 tx co 0 ch ∧ zFr (fun τ => τ = 602 ∨ τ = 603) f f' ∧ m' = m)) := by
  refine zM.of (by decide) (Nat.le_of_ble_eq_true rfl) ?_
  obtain ⟨r0, g, a0, e0⟩ := hp
  refine v_aload_n dX3_clearBuffer_0 rfl rfl ?_
  refine v_getfield fX3_16 dX3_clearBuffer_1 (by assumption) (by rfl) ?_
  refine v_getfield fX3_155 dX3_clearBuffer_4 (by assumption) (by rfl) ?_
  refine v_istore_n dX3_clearBuffer_7 rfl (by decide) ?_
  refine v_aload_n dX3_clearBuffer_8 rfl rfl ?_
  refine v_getfield fX3_16 dX3_clearBuffer_9 (by assumption) (by rfl) ?_
  refine v_iconst (0) dX3_clearBuffer_12 (by decide) ?_
  refine v_putfieldX fX3_155 dX3_clearBuffer_13 (by assumption) rfl rfl (Nat.le_of_ble_eq_true rfl) (fun f2 hp2 => ?_)
  refine v_iload_n dX3_clearBuffer_16 rfl rfl ?_
  exact v_ireturn dX3_clearBuffer_17 rfl ⟨rfl, ⟨hp2.1, g, hp2.ne a0 (by omega), fun i hi => absurd hi (Nat.not_lt_zero i)⟩, zFr.refl.put hp2 (Or.inl rfl), rfl⟩
set_option maxRecDepth 10000 in
set_option maxHeartbeats 1000000 in
theorem c_append {G : zW} {f : zHM} {m : Nat × Nat} {o r tr sc tx sl sv k co L : Nat} {ch : Nat → Nat} (ho : f o = some (600, .inr (3, zOb r tr sc tx sl sv k))) (hp : TPic f 602 tx co L ch) (h60 : L < 60) {c : Nat} (h33 : 33 ≤ c) (h126 : c ≤ 126) : zM G yX3_append cX3_append 2 (some .int) 7 [.ref o, .int (nI c)] (f, m) (zD (some (.int (nI (L + 1)))) (fun f' m' => TPic f' 602 tx co (L + 1) (fun i => if i = L then c else ch i) ∧ zFr (fun τ => τ = 602 ∨ τ = 603) f f' ∧ m' = m)) := by
  refine zM.of (by decide) (Nat.le_of_ble_eq_true rfl) ?_
  have r0 := hp.1
  refine v_iload_n dX3_append_0 rfl rfl ?_
  refine v_bipush (33) dX3_append_1 (by decide) ?_
  refine v_bipush (126) dX3_append_3 (by decide) ?_
  refine v_callS0p kX3_72 gs_X3_needRange dX3_append_5 (c_needRange (show ¬ nI c < nI 33 from nI_nlt h33 (by omega)) (show nI c ≤ nI 126 from nI_le h126 (by omega))) rfl rfl (by decide) (Nat.le_of_ble_eq_true rfl) ?_
  refine v_aload_n dX3_append_8 rfl rfl ?_
  refine v_getfield fX3_16 dX3_append_9 (by assumption) (by rfl) ?_
  refine v_getfield fX3_155 dX3_append_12 (by assumption) (by rfl) ?_
  refine v_bipush (nI 60) dX3_append_15 (by decide) ?_
  refine v_icmp_lt 30 dX3_append_17 (by decide) (fun b17 => ?_) (fun b17 => ?_)
  · rw [nI_ltI (by omega) (by omega)] at b17
    refine v_aload_n dX3_append_30 rfl rfl ?_
    refine v_getfield fX3_16 dX3_append_31 (by assumption) (by rfl) ?_
    refine v_iload_n dX3_append_34 rfl rfl ?_
    refine v_i2c dX3_append_35 ?_
    rw [i2c_ok c (by omega)]
    refine v_callV0 kX3_160 gi_X2_add ge_X2_add rfl dX3_append_36 (by assumption) (c_add hp h60 (by omega)) rfl rfl (by decide) (Nat.le_of_ble_eq_true rfl) (fun f m hc => ?_)
    obtain ⟨hp, hf9, rfl⟩ := hc
    have ho := hf9 _ _ _ ho (by decide)
    have r0 := hp.1
    refine v_aload_n dX3_append_39 rfl rfl ?_
    refine v_getfield fX3_16 dX3_append_40 (by assumption) (by rfl) ?_
    refine v_getfield fX3_155 dX3_append_43 (by assumption) (by rfl) ?_
    exact v_ireturn dX3_append_46 rfl ⟨rfl, hp, hf9, rfl⟩
  · rw [nI_ltI (by omega) (by omega)] at b17
    omega
set_option maxRecDepth 10000 in
set_option maxHeartbeats 1000000 in
theorem x_append_1 {G : zW} {f : zHM} {m : Nat × Nat} (hm1 : m.1 + 1 ≤ 50000) (hm2 : m.2 + 6 ≤ 400000) {o : Nat} {v : Int32} (hx : v < 33 ∨ ¬ v ≤ 126) : zM G yX3_append cX3_append 2 (some .int) 7 [.ref o, .int v] (f, m) (zDx xIAE (zTh f m)) := by
  refine zM.of (by decide) (Nat.le_of_ble_eq_true rfl) ?_
  refine v_iload_n dX3_append_0 rfl rfl ?_
  refine v_bipush (33) dX3_append_1 (by decide) ?_
  refine v_bipush (126) dX3_append_3 (by decide) ?_
  exact v_callSx kX3_72 gs_X3_needRange dX3_append_5 (x_needRange hm1 hm2 hx) rfl rfl (by decide) (Nat.le_of_ble_eq_true rfl) (fun f9 m9 hq => by obtain ⟨rfl, rfl⟩ := hq; exact ⟨rfl, rfl, rfl⟩)
set_option maxRecDepth 10000 in
set_option maxHeartbeats 1000000 in
theorem x_append_2 {G : zW} {f : zHM} {m : Nat × Nat} {o r tr sc tx sl sv k co L : Nat} {ch : Nat → Nat} (ho : f o = some (600, .inr (3, zOb r tr sc tx sl sv k))) (hp : TPic f 602 tx co L ch) (h60 : L = 60) (hm1 : m.1 + 1 ≤ 50000) (hm2 : m.2 + 6 ≤ 400000) {c : Nat} (h33 : 33 ≤ c) (h126 : c ≤ 126) : zM G yX3_append cX3_append 2 (some .int) 7 [.ref o, .int (nI c)] (f, m) (zDx xISE (zTh f m)) := by
  refine zM.of (by decide) (Nat.le_of_ble_eq_true rfl) ?_
  have r0 := hp.1
  refine v_iload_n dX3_append_0 rfl rfl ?_
  refine v_bipush (33) dX3_append_1 (by decide) ?_
  refine v_bipush (126) dX3_append_3 (by decide) ?_
  refine v_callS0p kX3_72 gs_X3_needRange dX3_append_5 (c_needRange (show ¬ nI c < nI 33 from nI_nlt h33 (by omega)) (show nI c ≤ nI 126 from nI_le h126 (by omega))) rfl rfl (by decide) (Nat.le_of_ble_eq_true rfl) ?_
  refine v_aload_n dX3_append_8 rfl rfl ?_
  refine v_getfield fX3_16 dX3_append_9 (by assumption) (by rfl) ?_
  refine v_getfield fX3_155 dX3_append_12 (by assumption) (by rfl) ?_
  refine v_bipush (nI 60) dX3_append_15 (by decide) ?_
  refine v_icmp_lt 30 dX3_append_17 (by decide) (fun b17 => ?_) (fun b17 => ?_)
  · exact absurd b17 (nI_nlt (by omega) (by omega))
  · exact v_throwS (h := (f, m)) (text := "the buffer is full") rfl zth_82 (by decide) dX3_append_20 dX3_append_23 dX3_append_24 dX3_append_26 dX3_append_29 (by decide) (Nat.le_of_ble_eq_true rfl) hm1 hm2 ⟨rfl, rfl, rfl⟩
