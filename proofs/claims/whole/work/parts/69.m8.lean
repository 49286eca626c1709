theorem wK.refl (w : Nat → Int32) : wK w w := fun _ _ _ => rfl
/-- the reference's object, from (f, w) on: only the state, the crossed squares and the mark may have changed -/
def zNS (f : zHM) (w : Nat → Int32) (o : Nat) (B : Nat → Nat) (hh : Int64) (f' : zHM) (σ' : Nat → Int32) (mr' : Nat) : Prop := ∃ w', MX f' o B w' hh σ' mr' ∧ wK w w' ∧ zFr zTY f f'
def zNQ (f : zHM) (w : Nat → Int32) (o : Nat) (B : Nat → Nat) (hh : Int64) (σ : Nat → Int32) (mr K : Nat) (f' : zHM) : Prop := ∃ mr', mr' ≤ mr + K ∧ zNS f w o B hh f' σ mr'
def zND (f : zHM) (w : Nat → Int32) (o : Nat) (B : Nat → Nat) (hh : Int64) (mr K : Nat) (R : (Nat → Int32) → Prop) (f' : zHM) : Prop := ∃ σ' mr', mr' ≤ mr + K ∧ zNS f w o B hh f' σ' mr' ∧ R σ'
theorem MX.st {f0 f f' : zHM} {o mr : Nat} {B : Nat → Nat} {w : Nat → Int32} {hh : Int64} {σ σ' : Nat → Int32} (h : MX f o B w hh σ mr) (hp : zPut f (B 0) (701, .inl (0, 904, .inl σ')) f') (hf : zFr zTY f0 f) : MX f' o B w hh σ' mr ∧ zFr zTY f0 f' :=
  ⟨h.s hp.1 (zFr.put zFr.refl hp rfl), hf.put hp (Or.inr (Or.inl rfl))⟩
theorem upd_nm (σ : Nat → Int32) (i : Nat) (v : Int32) : ∃ σ', σ' = upd σ i v ∧ ∀ j, σ' j = if j = i then v else σ j := ⟨_, rfl, fun _ => rfl⟩
theorem sSum_congr {F H : Nat → Int32} : ∀ n, (∀ c, c < n → F c = H c) → sSum F n = sSum H n
  | 0, _ => rfl
  | n + 1, h => by
    show sSum F n + F n = sSum H n + H n
    rw [sSum_congr n (fun c hc => h c (by omega)), h n (by omega)]
theorem sFar_sy (a b : Nat) : sFar a b = sFar b a := by unfold sFar; split <;> split <;> omega
theorem sPr_eq {x y p q : Nat} (hx : x < 24) (hy : y < 24) (hp : p < 24) (hq : q < 24) (h1 : x ≠ y) (h2 : p ≠ q) : sPr x y = sPr p q ↔ (x = p ∧ y = q) ∨ (x = q ∧ y = p) := by
  constructor
  · intro e
    rw [← sPr_mm x y, ← sPr_mm p q] at e
    obtain ⟨e1, e2⟩ := sPr_inj (max x y) (by omega) (min x y) (by omega) (max p q) (by omega) (min p q) (by omega) e
    omega
  · rintro (⟨rfl, rfl⟩ | ⟨rfl, rfl⟩)
    · rfl
    · rw [← sPr_mm x y, ← sPr_mm y x, Nat.min_comm, Nat.max_comm]
/-- how often a chord lies, by its nails or by its pair of places -/
theorem sLB_tm {ρ : zRS} {N s n a b : Nat} (hw : RW ρ N s n) (ha : a < N) (hb : b < N) (hab : a ≠ b) : sLB ρ n (nI a) (nI b) = sTm ρ n (sPr (a * s) (b * s)) := by
  have hv := hw.1
  have hp := hv.pos
  refine sSum_congr n fun c hc => ?_
  obtain ⟨x, y, u, hx, hy, hxy, hu, q4, q5, q6⟩ := hw.2.2 c hc
  have e : sBt ρ (nI a) (nI b) c ↔ sPr ((ρ 4 c).toNatClampNeg * (sStep ρ).toNatClampNeg) ((ρ 5 c).toNatClampNeg * (sStep ρ).toNatClampNeg) = sPr (a * s) (b * s) := by
    rw [q4, q5, hv.2.1, nI_clamp (by omega), nI_clamp (by omega), nI_clamp (by omega), sPr_eq (hv.pl hx) (hv.pl hy) (hv.pl ha) (hv.pl hb) (hv.ne hxy) (hv.ne hab)]
    show (ρ 4 c = nI a ∧ ρ 5 c = nI b ∨ ρ 4 c = nI b ∧ ρ 5 c = nI a) ↔ _
    rw [q4, q5, nI_eq (by omega) (by omega), nI_eq (by omega) (by omega), nI_eq (by omega) (by omega), nI_eq (by omega) (by omega)]
    have k : ∀ p q, p < N → q < N → (p * s = q * s ↔ p = q) := fun p q _ _ => ⟨fun e => Nat.eq_of_mul_eq_mul_right hp.1 e, fun e => by rw [e]⟩
    rw [k x a hx ha, k y b hy hb, k x b hx hb, k y a hy ha]
  by_cases h : sBt ρ (nI a) (nI b) c
  · rw [if_pos h, if_pos (e.mp h)]
  · rw [if_neg h, if_neg (fun z => h (e.mpr z))]
set_option maxRecDepth 10000 in
set_option maxHeartbeats 1000000 in
theorem c_mrefused {G : zW} {f : zHM} {m : Nat × Nat} {o mr : Nat} {B : Nat → Nat} {w : Nat → Int32} {hh : Int64} {σ : Nat → Int32} (h : MX f o B w hh σ mr) {N s n : Nat} (hw : RW (rOf σ) N s n) (hn : σ 15 = nI n) (hn2 : n ≤ 200) {a b : Nat} (ha : a < N) (hb : b < N) {u : Nat} (hu : u < 3) : zM G yX4_refused cX4_refused 6 (some .int) 5 [.ref o, .int (nI a), .int (nI b), .int (nI u)] (f, m) (zS (.int (sRef N s (rOf σ 3 0) (rOf σ 3 1) (rOf σ 2 u) (sTm (rOf σ) n) a b)) f m) := by
  refine zM.of (by decide) (Nat.le_of_ble_eq_true rfl) ?_
  have ho := h.1
  have hs := h.2.1
  have hv := hw.1
  have hN : σ 0 = nI N := hv.1
  have hp := hv.pos
  have hfar : sFar a b < N := by unfold sFar; split <;> omega
  have hfa : sFar a b = 0 ↔ b = a := by unfold sFar; split <;> omega
  have c38 : zV G yX4_refused cX4_refused 6 (some .int) 5 38 [(0, .ref o), (1, .int (nI a)), (2, .int (nI b)), (3, .int (nI u)), (4, .int (nI (sFar a b))), (5, .int (nI (min (sFar a b) (N - sFar a b))))] [] (f, m) (zS (.int (sRef N s (rOf σ 3 0) (rOf σ 3 1) (rOf σ 2 u) (sTm (rOf σ) n) a b)) f m) := by
    refine v_iload dX4_refused_38 rfl ?_
    refine v_if_eq 55 dX4_refused_40 (by decide) (fun b40 => ?_) (fun b40 => ?_)
    · rw [show (0 : Int32) = nI 0 from rfl] at b40
      rw [nI_eq (by omega) (by omega)] at b40
      refine v_iload dX4_refused_55 rfl ?_
      refine v_if_ne 64 dX4_refused_57 (by decide) (fun b57 => ?_) (fun b57 => ?_)
      · rw [show (0 : Int32) = nI 0 from rfl] at b57
        rw [nI_eq (by omega) (by omega)] at b57
        refine v_iconst (2) dX4_refused_64 (by decide) ?_
        exact v_ireturn dX4_refused_65 rfl ⟨by rw [show (sRef N s (rOf σ 3 0) (rOf σ 3 1) (rOf σ 2 u) (sTm (rOf σ) n) a b) = 2 from by first | (exfalso; omega) | exact (if_neg (fun e => by have := hfa.mpr e; omega)).trans (if_pos (Int32.not_le.mp b52))], rfl, rfl⟩
      · rw [show (0 : Int32) = nI 0 from rfl] at b57
        rw [nI_eq (by omega) (by omega)] at b57
        refine v_iconst (1) dX4_refused_60 (by decide) ?_
        refine v_goto 65 dX4_refused_61 (by decide) ?_
        exact v_ireturn dX4_refused_65 rfl ⟨by rw [show (sRef N s (rOf σ 3 0) (rOf σ 3 1) (rOf σ 2 u) (sTm (rOf σ) n) a b) = 1 from by first | (exfalso; omega) | exact if_pos (hfa.mp (by omega))], rfl, rfl⟩
    · rw [show (0 : Int32) = nI 0 from rfl] at b40
      rw [nI_eq (by omega) (by omega)] at b40
      refine v_iload dX4_refused_43 rfl ?_
      refine v_aload_n dX4_refused_45 rfl rfl ?_
      refine v_getfield fX4_7 dX4_refused_46 (by assumption) (by rfl) ?_
      refine v_bipush (nI 6) dX4_refused_49 (by decide) ?_
      refine v_iaload dX4_refused_51 (by assumption) (vp_in_nI (by omega) (by omega)) ?_
      rw [nI_clamp (n := 6) (by omega)]
      refine v_icmp_ge 66 dX4_refused_52 (by decide) (fun b52 => ?_) (fun b52 => ?_)
      · have hab : a ≠ b := fun e => by have := hfa.mpr e.symm; omega
        refine v_aload_n dX4_refused_66 rfl rfl ?_
        refine v_iload_n dX4_refused_67 rfl rfl ?_
        refine v_iload_n dX4_refused_68 rfl rfl ?_
        refine v_callVp kX4_98 gi_X4_liesBetween ge_X4_liesBetween rfl dX4_refused_69 (by assumption) (c_liesBetween ho hs hn hn2) rfl rfl (by decide) (Nat.le_of_ble_eq_true rfl) ?_
        rw [sLB_tm hw ha hb hab]
        refine v_aload_n dX4_refused_72 rfl rfl ?_
        refine v_getfield fX4_7 dX4_refused_73 (by assumption) (by rfl) ?_
        refine v_bipush (nI 7) dX4_refused_76 (by decide) ?_
        refine v_iaload dX4_refused_78 (by assumption) (vp_in_nI (by omega) (by omega)) ?_
        rw [nI_clamp (n := 7) (by omega)]
        refine v_icmp_lt 86 dX4_refused_79 (by decide) (fun b79 => ?_) (fun b79 => ?_)
        · refine v_aload_n dX4_refused_86 rfl rfl ?_
          refine v_iload_n dX4_refused_87 rfl rfl ?_
          refine v_callVp kX4_101 gi_X4_left ge_X4_left rfl dX4_refused_88 (by assumption) (c_mleft ho hs hu) rfl rfl (by decide) (Nat.le_of_ble_eq_true rfl) ?_
          refine v_aload_n dX4_refused_91 rfl rfl ?_
          refine v_iload_n dX4_refused_92 rfl rfl ?_
          refine v_iload_n dX4_refused_93 rfl rfl ?_
          refine v_callVp kX4_95 gi_X4_lengthOf ge_X4_lengthOf rfl dX4_refused_94 (by assumption) (c_mlengthOf ho hs hN hv.2.2.1 hv.2.2.2 ha hb) rfl rfl (by decide) (Nat.le_of_ble_eq_true rfl) ?_
          refine v_icmp_ge 104 dX4_refused_97 (by decide) (fun b97 => ?_) (fun b97 => ?_)
          · refine v_iconst (0) dX4_refused_104 (by decide) ?_
            exact v_ireturn dX4_refused_105 rfl ⟨by rw [show (sRef N s (rOf σ 3 0) (rOf σ 3 1) (rOf σ 2 u) (sTm (rOf σ) n) a b) = 0 from by first | (exfalso; omega) | exact (if_neg (fun e => hab e.symm)).trans ((if_neg (Int32.not_lt.mpr b52)).trans ((if_neg (Int32.not_le.mpr b79)).trans (if_neg (Int32.not_lt.mpr b97))))], rfl, rfl⟩
          · refine v_iconst (4) dX4_refused_100 (by decide) ?_
            refine v_goto 105 dX4_refused_101 (by decide) ?_
            exact v_ireturn dX4_refused_105 rfl ⟨by rw [show (sRef N s (rOf σ 3 0) (rOf σ 3 1) (rOf σ 2 u) (sTm (rOf σ) n) a b) = 4 from by first | (exfalso; omega) | exact (if_neg (fun e => hab e.symm)).trans ((if_neg (Int32.not_lt.mpr b52)).trans ((if_neg (Int32.not_le.mpr b79)).trans (if_pos (Int32.not_le.mp b97))))], rfl, rfl⟩
        · refine v_iconst (3) dX4_refused_82 (by decide) ?_
          refine v_goto 105 dX4_refused_83 (by decide) ?_
          exact v_ireturn dX4_refused_105 rfl ⟨by rw [show (sRef N s (rOf σ 3 0) (rOf σ 3 1) (rOf σ 2 u) (sTm (rOf σ) n) a b) = 3 from by first | (exfalso; omega) | exact (if_neg (fun e => hab e.symm)).trans ((if_neg (Int32.not_lt.mpr b52)).trans (if_pos (Int32.not_lt.mp b79)))], rfl, rfl⟩
      · refine v_iload dX4_refused_55 rfl ?_
        refine v_if_ne 64 dX4_refused_57 (by decide) (fun b57 => ?_) (fun b57 => ?_)
        · rw [show (0 : Int32) = nI 0 from rfl] at b57
          rw [nI_eq (by omega) (by omega)] at b57
          refine v_iconst (2) dX4_refused_64 (by decide) ?_
          exact v_ireturn dX4_refused_65 rfl ⟨by rw [show (sRef N s (rOf σ 3 0) (rOf σ 3 1) (rOf σ 2 u) (sTm (rOf σ) n) a b) = 2 from by first | (exfalso; omega) | exact (if_neg (fun e => by have := hfa.mpr e; omega)).trans (if_pos (Int32.not_le.mp b52))], rfl, rfl⟩
        · rw [show (0 : Int32) = nI 0 from rfl] at b57
          rw [nI_eq (by omega) (by omega)] at b57
          refine v_iconst (1) dX4_refused_60 (by decide) ?_
          refine v_goto 65 dX4_refused_61 (by decide) ?_
          exact v_ireturn dX4_refused_65 rfl ⟨by rw [show (sRef N s (rOf σ 3 0) (rOf σ 3 1) (rOf σ 2 u) (sTm (rOf σ) n) a b) = 1 from by first | (exfalso; omega) | exact if_pos (hfa.mp (by omega))], rfl, rfl⟩
  refine v_iload_n dX4_refused_0 rfl rfl ?_
  refine v_iload_n dX4_refused_1 rfl rfl ?_
  refine v_isub dX4_refused_2 ?_
  refine v_callSp kX4_71 gs_X4_abs dX4_refused_3 c_mabs rfl rfl (by decide) (Nat.le_of_ble_eq_true rfl) ?_
  rw [sFar_ok b (by omega) a (by omega), sFar_sy b a]
  refine v_istore dX4_refused_6 (by decide) ?_
  refine v_iload dX4_refused_8 rfl ?_
  refine v_aload_n dX4_refused_10 rfl rfl ?_
  refine v_getfield fX4_7 dX4_refused_11 (by assumption) (by rfl) ?_
  refine v_iconst (nI 0) dX4_refused_14 (by decide) ?_
  refine v_iaload dX4_refused_15 (by assumption) (vp_in_nI (by omega) (by omega)) ?_
  rw [nI_clamp (n := 0) (by omega)]
  rw [hN]
  refine v_iload dX4_refused_16 rfl ?_
  refine v_isub dX4_refused_18 ?_
  rw [pk_sub (a := N) (b := (sFar a b)) (by omega)]
  refine v_icmp_ge 27 dX4_refused_19 (by decide) (fun b19 => ?_) (fun b19 => ?_)
  · rw [nI_leI (by omega) (by omega)] at b19
    refine v_aload_n dX4_refused_27 rfl rfl ?_
    refine v_getfield fX4_7 dX4_refused_28 (by assumption) (by rfl) ?_
    refine v_iconst (nI 0) dX4_refused_31 (by decide) ?_
    refine v_iaload dX4_refused_32 (by assumption) (vp_in_nI (by omega) (by omega)) ?_
    rw [nI_clamp (n := 0) (by omega)]
    rw [hN]
    refine v_iload dX4_refused_33 rfl ?_
    refine v_isub dX4_refused_35 ?_
    rw [pk_sub (a := N) (b := (sFar a b)) (by omega)]
    refine v_istore dX4_refused_36 (by decide) ?_
    exact v_loc (lv' := [(0, .ref o), (1, .int (nI a)), (2, .int (nI b)), (3, .int (nI u)), (4, .int (nI (sFar a b))), (5, .int (nI (min (sFar a b) (N - sFar a b))))]) ⟨rfl, rfl, rfl, rfl, rfl, zlkE rfl (by rw [Nat.min_def]; congr 1; split <;> omega), trivial⟩ c38
  · rw [nI_leI (by omega) (by omega)] at b19
    refine v_iload dX4_refused_22 rfl ?_
    refine v_goto 36 dX4_refused_24 (by decide) ?_
    refine v_istore dX4_refused_36 (by decide) ?_
    exact v_loc (lv' := [(0, .ref o), (1, .int (nI a)), (2, .int (nI b)), (3, .int (nI u)), (4, .int (nI (sFar a b))), (5, .int (nI (min (sFar a b) (N - sFar a b))))]) ⟨rfl, rfl, rfl, rfl, rfl, zlkE rfl (by rw [Nat.min_def]; congr 1; split <;> omega), trivial⟩ c38
/-- a chord's squares are laid -/
def zNL9 (f : zHM) (w : Nat → Int32) (o : Nat) (B : Nat → Nat) (hh : Int64) (σ : Nat → Int32) (mr : Nat) (L : List Nat) (f' : zHM) : Prop := ∃ w', MX f' o B w' hh σ (mr + 1) ∧ wK w w' ∧ zFr zTY f f' ∧ w' 3 = nI L.length ∧ w' 4 = nI (mr + 1) ∧ (∃ gc, f' (B 5) = some (706, .inl (0, 144, .inl gc)) ∧ ∀ i, i < L.length → gc i = nI (L.getD i 0)) ∧ ∃ gm, f' (B 6) = some (707, .inl (0, 144, .inl gm)) ∧ ∀ q, q < 144 → (q ∈ L ↔ gm q = nI (mr + 1))
theorem c_lays {G : zW} {f : zHM} {m : Nat × Nat} {o mr : Nat} {B : Nat → Nat} {w : Nat → Int32} {hh : Int64} {σ : Nat → Int32} (h : MX f o B w hh σ mr) (hmr9 : mr < 2 ^ 30) {N s : Nat} (hv : RV (rOf σ) N s) {a b : Nat} (ha : a < N) (hb : b < N) (hab : a ≠ b) : zM G yX4_laysCrossed cX4_laysCrossed 9 none 4 [.ref o, .int (nI a), .int (nI b)] (f, m) (zD none (fun f' m' => zNL9 f w o B hh σ mr (sPa s a b) f' ∧ m' = m)) := by
  obtain ⟨ho, hs, ⟨gc0, hcr⟩, ⟨gm0, hmk, hgm⟩, hw4⟩ := id h
  refine zM.mono ?_ (c_laysCrossed ho hs hv.1 hv.2.2.1 hv.2.2.2 ha hb hab hw4 hmr9 hcr hmk hgm)
  rintro q h9 ⟨e, ⟨h1, ⟨gc, h2, h3⟩, gm, h4, h5⟩, h6, h7⟩
  exact ⟨e, ⟨_, ⟨h1, h6 _ _ _ hs (by omega), ⟨gc, h2⟩, ⟨gm, h4, fun q hq => (h5 q hq).2⟩, rfl⟩, zup2_K _ _ _, h6.weaken (fun τ h => by show _ ∨ _; rcases h with h | h | h <;> omega), rfl, rfl, ⟨gc, h2, h3⟩, gm, h4, fun q hq => (h5 q hq).1⟩, h7⟩
set_option maxRecDepth 10000 in
set_option maxHeartbeats 1000000 in
theorem c_gained {G : zW} {f : zHM} {m : Nat × Nat} {o mr : Nat} {B : Nat → Nat} {w : Nat → Int32} {hh : Int64} {σ : Nat → Int32} (h : MX f o B w hh σ mr) (hmr9 : mr < 2 ^ 30) {N s : Nat} (hv : RV (rOf σ) N s) {a b : Nat} (ha : a < N) (hb : b < N) (hab : a ≠ b) {sh : Int32} : zM G yX4_gained cX4_gained 7 (some .int) 5 [.ref o, .int (nI a), .int (nI b), .int sh] (f, m) (zD (some (.int (sGain (rOf σ) s sh a b))) (fun f' m' => zNQ f w o B hh σ mr 1 f' ∧ m' = m)) := by
  refine zM.of (by decide) (Nat.le_of_ble_eq_true rfl) ?_
  have ho := h.1
  have hs := h.2.1
  have hN24 := hv.pos.2.1
  obtain ⟨hln, hnd, hl144⟩ := sPa_ok hv ha hb hab
  refine v_iconst (0) dX4_gained_0 (by decide) ?_
  refine v_istore dX4_gained_1 (by decide) ?_
  refine v_aload_n dX4_gained_3 rfl rfl ?_
  refine v_iload_n dX4_gained_4 rfl rfl ?_
  refine v_iload_n dX4_gained_5 rfl rfl ?_
  refine v_callV0 kX4_85 gi_X4_laysCrossed ge_X4_laysCrossed rfl dX4_gained_6 ho (c_lays h hmr9 hv ha hb hab) rfl rfl (by decide) (Nat.le_of_ble_eq_true rfl) (fun f1 m hc => ?_)
  obtain ⟨⟨w1, h1, hk1, hf1, hw3, hw4, ⟨gc, hcr1, hgc⟩, -⟩, rfl⟩ := hc
  have ho1 := h1.1
  have hs1 := h1.2.1
  unfold sGain
  generalize sPa s a b = PL at hln hnd hl144 hw3 hgc ⊢
  have loop : ∀ (kk k : Nat), k + kk = PL.length → zV G yX4_gained cX4_gained 7 (some .int) 5 12 [(0, .ref o), (3, .int sh), (4, .int (sGn (rOf σ) sh (PL.take k) 0)), (5, .int (nI k))] [] (f1, m) (zD (some (.int (sGn (rOf σ) sh PL 0))) (fun f' m' => zNQ f w o B hh σ mr 1 f' ∧ m' = m)) := by
    intro kk
    induction kk with
    | zero =>
      intro k hk
      refine v_iload dX4_gained_12 rfl ?_
      refine v_aload_n dX4_gained_14 rfl rfl ?_
      refine v_getfield fX4_68 dX4_gained_15 (by assumption) (by rfl) ?_
      rw [hw3]
      refine v_icmp_ge 58 dX4_gained_18 (by decide) (fun b18 => ?_) (fun b18 => ?_)
      · rw [nI_leI (by omega) (by omega)] at b18
        refine v_iload dX4_gained_58 rfl ?_
        exact v_ireturn dX4_gained_60 rfl ⟨by rw [show k = PL.length from by omega, List.take_length], ⟨_, Nat.le_refl _, w1, h1, hk1, hf1⟩, rfl⟩
      · rw [nI_leI (by omega) (by omega)] at b18
        omega
    | succ kk ih =>
      intro k hk
      have hk9 : k < PL.length := by omega
      have hq9 : PL.getD k 0 < 144 := by
        rw [List.getD_eq_getElem?_getD, List.getElem?_eq_getElem hk9]
        exact hl144 _ (List.getElem_mem hk9)
      refine v_iload dX4_gained_12 rfl ?_
      refine v_aload_n dX4_gained_14 rfl rfl ?_
      refine v_getfield fX4_68 dX4_gained_15 (by assumption) (by rfl) ?_
      rw [hw3]
      refine v_icmp_ge 58 dX4_gained_18 (by decide) (fun b18 => ?_) (fun b18 => ?_)
      · rw [nI_leI (by omega) (by omega)] at b18
        omega
      · rw [nI_leI (by omega) (by omega)] at b18
        refine v_aload_n dX4_gained_21 rfl rfl ?_
        refine v_aload_n dX4_gained_22 rfl rfl ?_
        refine v_getfield fX4_26 dX4_gained_23 (by assumption) (by rfl) ?_
        refine v_iload dX4_gained_26 rfl ?_
        refine v_iaload dX4_gained_28 (by assumption) (vp_in_nI (by omega) (by omega)) ?_
        rw [nI_clamp (n := k) (by omega), hgc k hk9]
        refine v_callVp kX4_104 gi_X4_lack ge_X4_lack rfl dX4_gained_29 (by assumption) (c_mlack ho1 hs1 hq9) rfl rfl (by decide) (Nat.le_of_ble_eq_true rfl) ?_
        refine v_istore dX4_gained_32 (by decide) ?_
        refine v_iload dX4_gained_34 rfl ?_
        refine v_iload dX4_gained_36 rfl ?_
        refine v_callSp kX4_71 gs_X4_abs dX4_gained_38 c_mabs rfl rfl (by decide) (Nat.le_of_ble_eq_true rfl) ?_
        refine v_iload dX4_gained_41 rfl ?_
        refine v_iload_n dX4_gained_43 rfl rfl ?_
        refine v_isub dX4_gained_44 ?_
        refine v_callSp kX4_71 gs_X4_abs dX4_gained_45 c_mabs rfl rfl (by decide) (Nat.le_of_ble_eq_true rfl) ?_
        refine v_isub dX4_gained_48 ?_
        refine v_iadd dX4_gained_49 ?_
        refine v_istore dX4_gained_50 (by decide) ?_
        refine v_iincN dX4_gained_52 rfl (by decide) ?_
        refine v_goto 12 dX4_gained_55 (by decide) ?_
        exact v_loc (lv' := [(0, .ref o), (3, .int sh), (4, .int (sGn (rOf σ) sh (PL.take (k + 1)) 0)), (5, .int (nI (k + 1)))]) ⟨rfl, rfl, zlkE rfl (by rw [take_succ_getD _ _ hk9, sGn_snoc]; rfl), rfl, trivial⟩ (ih (k + 1) (by omega))
  refine v_iconst (nI 0) dX4_gained_9 (by decide) ?_
  refine v_istore dX4_gained_10 (by decide) ?_
  exact v_loc (lv' := [(0, .ref o), (3, .int sh), (4, .int (sGn (rOf σ) sh (PL.take 0) 0)), (5, .int (nI 0))]) ⟨rfl, rfl, rfl, rfl, trivial⟩ (loop PL.length 0 (by omega))
theorem sTm_n (ρ : zRS) (n p : Nat) : ∃ k, k ≤ n ∧ sTm ρ n p = nI k := sSum_cnt _ n
theorem sLn_n (s a b : Nat) : ∃ k, k ≤ 240 ∧ sLn s a b = nI k := ⟨_, by have := sRtF_le 240 0 (sQd (min (a * s) (b * s)) (max (a * s) (b * s))); exact Nat.le_trans this (by decide), rfl⟩
theorem nI_sub_toInt {x y : Nat} (hx : x ≤ 300) (hy : y ≤ 300) : (nI x - nI y).toInt = (x : Int) - y := pk_sub_toInt (by omega) (by omega)
theorem i32_lt0 {z : Int32} : z < 0 ↔ z.toInt < 0 := by rw [Int32.lt_iff_toInt_lt]; rfl
theorem i32_le0 {z : Int32} : 0 ≤ z ↔ 0 ≤ z.toInt := by rw [Int32.le_iff_toInt_le]; rfl
theorem i32_eq0 {z : Int32} : z = 0 ↔ z.toInt = 0 := by rw [← Int32.toInt_inj]; rfl
/-- nearer, out of differences -/
theorem sNr_ok {n : Nat} (tb tc xb xc : Nat) (h1 : tb ≤ n) (h2 : tc ≤ n) (h3 : xb ≤ 240) (h4 : xc ≤ 240) {n9 : n ≤ 200} (v : Int32)
    (hb : (v = 1 ∧ ¬ nI tb - nI tc = 0 ∧ ¬ 0 ≤ nI tb - nI tc) ∨ (v = 0 ∧ ¬ nI tb - nI tc = 0 ∧ 0 ≤ nI tb - nI tc) ∨ (v = 0 ∧ nI tb - nI tc = 0 ∧ 0 ≤ nI xb - nI xc) ∨ (v = 1 ∧ nI tb - nI tc = 0 ∧ ¬ 0 ≤ nI xb - nI xc)) : v = if nI tb < nI tc ∨ (nI tb = nI tc ∧ nI xb < nI xc) then 1 else 0 := by
  rw [i32_eq0, i32_le0, i32_le0, nI_sub_toInt (by omega) (by omega), nI_sub_toInt (by omega) (by omega)] at hb
  have e1 : nI tb < nI tc ↔ tb < tc := nI_ltI (by omega) (by omega)
  have e2 : nI xb < nI xc ↔ xb < xc := nI_ltI (by omega) (by omega)
  have e3 : nI tb = nI tc ↔ tb = tc := nI_eq (by omega) (by omega)
  rcases hb with ⟨rfl, hb⟩ | ⟨rfl, hb⟩ | ⟨rfl, hb⟩ | ⟨rfl, hb⟩
  · rw [if_pos (by rw [e1, e2, e3]; omega)]
  · rw [if_neg (by rw [e1, e2, e3]; omega)]
  · rw [if_neg (by rw [e1, e2, e3]; omega)]
  · rw [if_pos (by rw [e1, e2, e3]; omega)]
set_option maxRecDepth 10000 in
set_option maxHeartbeats 1000000 in
theorem c_isNearer {G : zW} {f : zHM} {m : Nat × Nat} {o mr : Nat} {B : Nat → Nat} {w : Nat → Int32} {hh : Int64} {σ : Nat → Int32} (h : MX f o B w hh σ mr) {N s n : Nat} (hw : RW (rOf σ) N s n) (hn : σ 15 = nI n) (hn2 : n ≤ 200) {a : Nat} (ha : a < N) (hat : σ 1 = nI a) {b c : Nat} (hb : b < N) (hc : c < N) (hab : a ≠ b) (hac : a ≠ c) : zM G yX4_isNearer cX4_isNearer 5 (some .boolean) 5 [.ref o, .int (nI b), .int (nI c)] (f, m) (zS (.int (if (sTm (rOf σ) n (sPr (a * s) (b * s))) < (sTm (rOf σ) n (sPr (a * s) (c * s))) ∨ ((sTm (rOf σ) n (sPr (a * s) (b * s))) = (sTm (rOf σ) n (sPr (a * s) (c * s))) ∧ sLn s a b < sLn s a c) then 1 else 0)) f m) := by
  refine zM.of (by decide) (Nat.le_of_ble_eq_true rfl) ?_
  have ho := h.1
  have hs := h.2.1
  have hv := hw.1
  have hN : σ 0 = nI N := hv.1
  have hp := hv.pos
  obtain ⟨tb, htb, eb⟩ := sTm_n (rOf σ) n (sPr (a * s) (b * s))
  obtain ⟨tc, htc, ec⟩ := sTm_n (rOf σ) n (sPr (a * s) (c * s))
  obtain ⟨xb, hxb, lb⟩ := sLn_n s a b
  obtain ⟨xc, hxc, lc⟩ := sLn_n s a c
  refine v_aload_n dX4_isNearer_0 rfl rfl ?_
  refine v_aload_n dX4_isNearer_1 rfl rfl ?_
  refine v_getfield fX4_7 dX4_isNearer_2 (by assumption) (by rfl) ?_
  refine v_iconst (nI 1) dX4_isNearer_5 (by decide) ?_
  refine v_iaload dX4_isNearer_6 (by assumption) (vp_in_nI (by omega) (by omega)) ?_
  rw [nI_clamp (n := 1) (by omega)]
  rw [hat]
  refine v_iload_n dX4_isNearer_7 rfl rfl ?_
  refine v_callVp kX4_98 gi_X4_liesBetween ge_X4_liesBetween rfl dX4_isNearer_8 (by assumption) (c_liesBetween ho hs hn hn2) rfl rfl (by decide) (Nat.le_of_ble_eq_true rfl) ?_
  rw [sLB_tm hw ha hb hab, eb]
  refine v_aload_n dX4_isNearer_11 rfl rfl ?_
  refine v_aload_n dX4_isNearer_12 rfl rfl ?_
  refine v_getfield fX4_7 dX4_isNearer_13 (by assumption) (by rfl) ?_
  refine v_iconst (nI 1) dX4_isNearer_16 (by decide) ?_
  refine v_iaload dX4_isNearer_17 (by assumption) (vp_in_nI (by omega) (by omega)) ?_
  rw [nI_clamp (n := 1) (by omega)]
  rw [hat]
  refine v_iload_n dX4_isNearer_18 rfl rfl ?_
  refine v_callVp kX4_98 gi_X4_liesBetween ge_X4_liesBetween rfl dX4_isNearer_19 (by assumption) (c_liesBetween ho hs hn hn2) rfl rfl (by decide) (Nat.le_of_ble_eq_true rfl) ?_
  rw [sLB_tm hw ha hc hac, ec]
  refine v_isub dX4_isNearer_22 ?_
  refine v_istore_n dX4_isNearer_23 rfl (by decide) ?_
  refine v_aload_n dX4_isNearer_24 rfl rfl ?_
  refine v_aload_n dX4_isNearer_25 rfl rfl ?_
  refine v_getfield fX4_7 dX4_isNearer_26 (by assumption) (by rfl) ?_
  refine v_iconst (nI 1) dX4_isNearer_29 (by decide) ?_
  refine v_iaload dX4_isNearer_30 (by assumption) (vp_in_nI (by omega) (by omega)) ?_
  rw [nI_clamp (n := 1) (by omega)]
  rw [hat]
  refine v_iload_n dX4_isNearer_31 rfl rfl ?_
  refine v_callVp kX4_95 gi_X4_lengthOf ge_X4_lengthOf rfl dX4_isNearer_32 (by assumption) (c_mlengthOf ho hs hN hv.2.2.1 hv.2.2.2 ha hb) rfl rfl (by decide) (Nat.le_of_ble_eq_true rfl) ?_
  rw [lb]
  refine v_aload_n dX4_isNearer_35 rfl rfl ?_
  refine v_aload_n dX4_isNearer_36 rfl rfl ?_
  refine v_getfield fX4_7 dX4_isNearer_37 (by assumption) (by rfl) ?_
  refine v_iconst (nI 1) dX4_isNearer_40 (by decide) ?_
  refine v_iaload dX4_isNearer_41 (by assumption) (vp_in_nI (by omega) (by omega)) ?_
  rw [nI_clamp (n := 1) (by omega)]
  rw [hat]
  refine v_iload_n dX4_isNearer_42 rfl rfl ?_
  refine v_callVp kX4_95 gi_X4_lengthOf ge_X4_lengthOf rfl dX4_isNearer_43 (by assumption) (c_mlengthOf ho hs hN hv.2.2.1 hv.2.2.2 ha hc) rfl rfl (by decide) (Nat.le_of_ble_eq_true rfl) ?_
  rw [lc]
  refine v_isub dX4_isNearer_46 ?_
  refine v_istore dX4_isNearer_47 (by decide) ?_
  refine v_iload_n dX4_isNearer_49 rfl rfl ?_
  refine v_if_eq 65 dX4_isNearer_50 (by decide) (fun b50 => ?_) (fun b50 => ?_)
  · refine v_iload dX4_isNearer_65 rfl ?_
    refine v_if_ge 74 dX4_isNearer_67 (by decide) (fun b67 => ?_) (fun b67 => ?_)
    · refine v_iconst (0) dX4_isNearer_74 (by decide) ?_
      exact v_zreturn dX4_isNearer_75 rfl (by decide) ⟨congrArg (fun z : Int32 => (Sum.inl (some (Value.int z)) : zOut)) (sNr_ok (n9 := hn2) tb tc xb xc htb htc hxb hxc 0 (by simp [*])), rfl, rfl⟩
    · refine v_iconst (1) dX4_isNearer_70 (by decide) ?_
      refine v_goto 75 dX4_isNearer_71 (by decide) ?_
      exact v_zreturn dX4_isNearer_75 rfl (by decide) ⟨congrArg (fun z : Int32 => (Sum.inl (some (Value.int z)) : zOut)) (sNr_ok (n9 := hn2) tb tc xb xc htb htc hxb hxc 1 (by simp [*])), rfl, rfl⟩
  · refine v_iload_n dX4_isNearer_53 rfl rfl ?_
    refine v_if_ge 61 dX4_isNearer_54 (by decide) (fun b54 => ?_) (fun b54 => ?_)
    · refine v_iconst (0) dX4_isNearer_61 (by decide) ?_
      refine v_goto 75 dX4_isNearer_62 (by decide) ?_
      exact v_zreturn dX4_isNearer_75 rfl (by decide) ⟨congrArg (fun z : Int32 => (Sum.inl (some (Value.int z)) : zOut)) (sNr_ok (n9 := hn2) tb tc xb xc htb htc hxb hxc 0 (by simp [*])), rfl, rfl⟩
    · refine v_iconst (1) dX4_isNearer_57 (by decide) ?_
      refine v_goto 75 dX4_isNearer_58 (by decide) ?_
      exact v_zreturn dX4_isNearer_75 rfl (by decide) ⟨congrArg (fun z : Int32 => (Sum.inl (some (Value.int z)) : zOut)) (sNr_ok (n9 := hn2) tb tc xb xc htb htc hxb hxc 1 (by simp [*])), rfl, rfl⟩
