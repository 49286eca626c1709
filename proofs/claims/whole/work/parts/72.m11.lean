/-- the reference's other arrays: saved states, snapshots, the buffer -/
def zNO (f : zHM) (B : Nat → Nat) (k : Nat) (sv : Nat → Nat → Int32) (hsl : Nat → Int32) (sl : Nat → Nat → Int32) (L : Nat) (ch : Nat → Nat) : Prop :=
  (k ≤ 6 ∧ ∃ g, f (B 1) = some (702, .inl (0, 5424, .inl g)) ∧ ∀ j, j < k → ∀ i, i < 904 → g (904 * j + i) = sv j i) ∧
  (∃ g, f (B 2) = some (703, .inl (0, 1808, .inl g)) ∧ ∀ j, j < 2 → ∀ i, i < 904 → g (904 * j + i) = sl j i) ∧
  (∃ g, f (B 3) = some (704, .inl (2, 2, .inl g)) ∧ ∀ j, j < 2 → g j = hsl j) ∧
  (L ≤ 60 ∧ ∃ g, f (B 4) = some (705, .inl (0, 60, .inl g)) ∧ ∀ i, i < L → g i = nI (ch i)) ∧
  ∃ g, f (B 7) = some (708, .inl (0, 144, .inl g))
abbrev zTZ : Nat → Prop := fun τ => 700 ≤ τ ∧ τ ≤ 708
theorem zTYZ : ∀ τ, zTY τ → zTZ τ := fun τ h => by rcases h with h | h | h | h <;> exact ⟨by omega, by omega⟩
theorem zNO.fr {T : Nat → Prop} {f f' : zHM} {B : Nat → Nat} {k L : Nat} {sv : Nat → Nat → Int32} {hsl : Nat → Int32} {sl : Nat → Nat → Int32} {ch : Nat → Nat} (h : zNO f B k sv hsl sl L ch) (hf : zFr T f f') (hT : ∀ τ, T τ → ¬ ((702 ≤ τ ∧ τ ≤ 705) ∨ τ = 708)) : zNO f' B k sv hsl sl L ch := by
  obtain ⟨⟨h1, g1, h2, h3⟩, ⟨g2, h4, h5⟩, ⟨g3, h6, h7⟩, ⟨h8, g4, h9, h10⟩, g5, h11⟩ := h
  exact ⟨⟨h1, g1, hf _ _ _ h2 (fun z => hT _ z (by omega)), h3⟩, ⟨g2, hf _ _ _ h4 (fun z => hT _ z (by omega)), h5⟩, ⟨g3, hf _ _ _ h6 (fun z => hT _ z (by omega)), h7⟩, ⟨h8, g4, hf _ _ _ h9 (fun z => hT _ z (by omega)), h10⟩, g5, hf _ _ _ h11 (fun z => hT _ z (by omega))⟩
/-- the reference's object, whole -/
def zNZ (f : zHM) (o : Nat) (B : Nat → Nat) (hh : Int64) (σ : Nat → Int32) (mr : Nat) (th : Int32) (k : Nat) (sv : Nat → Nat → Int32) (hsl : Nat → Int32) (sl : Nat → Nat → Int32) (L : Nat) (ch : Nat → Nat) : Prop := ∃ w, MX f o B w hh σ mr ∧ w 0 = th ∧ w 1 = nI k ∧ w 2 = nI L ∧ zNO f B k sv hsl sl L ch
def zNP (f : zHM) (o : Nat) (B : Nat → Nat) (hh : Int64) (mr K : Nat) (th : Int32) (k : Nat) (sv : Nat → Nat → Int32) (hsl : Nat → Int32) (sl : Nat → Nat → Int32) (L : Nat) (ch : Nat → Nat) (R : (Nat → Int32) → Prop) (f' : zHM) : Prop := ∃ σ' mr', mr' ≤ mr + K ∧ zNZ f' o B hh σ' mr' th k sv hsl sl L ch ∧ R σ' ∧ zFr zTZ f f'
theorem MX.put {f0 f f' : zHM} {o mr : Nat} {B : Nat → Nat} {w w' : Nat → Int32} {hh hh' : Int64} {σ : Nat → Int32} (h : MX f o B w hh σ mr) (hp : zPut f o (700, .inr (4, zMo B w' hh')) f') (e : w' 4 = w 4) (hf : zFr zTY f0 f) : MX f' o B w' hh' σ mr ∧ zFr zTY f0 f' := by
  obtain ⟨h1, h2, ⟨gc, h3⟩, ⟨gm, h4, h5⟩, h6⟩ := h
  exact ⟨⟨hp.1, hp.ne h2 (by omega), ⟨gc, hp.ne h3 (by omega)⟩, ⟨gm, hp.ne h4 (by omega), h5⟩, e.trans h6⟩, hf.put hp (Or.inl rfl)⟩
set_option maxRecDepth 10000 in
set_option maxHeartbeats 1000000 in
theorem c_fails {G : zW} {f : zHM} {m : Nat × Nat} {o mr : Nat} {B : Nat → Nat} {w : Nat → Int32} {hh : Int64} {σ : Nat → Int32} (h : MX f o B w hh σ mr) {c : Int32} : zM G yX4_fails cX4_fails 2 (some .int) 1 [.ref o, .int c] (f, m) (zD (some (.int 0)) (fun f' m' => (∃ w', MX f' o B w' hh σ mr ∧ w' 0 = c ∧ (∀ i, i ≠ 0 → w' i = w i) ∧ zFr zTY f f') ∧ m' = m)) := by
  refine zM.of (by decide) (Nat.le_of_ble_eq_true rfl) ?_
  have ho := h.1
  have hs := h.2.1
  refine v_aload_n dX4_fails_0 rfl rfl ?_
  refine v_iload_n dX4_fails_1 rfl rfl ?_
  refine v_putfieldX fX4_35 dX4_fails_2 ho rfl rfl (Nat.le_of_ble_eq_true rfl) (fun f1 hp => ?_)
  obtain ⟨h1, hf1⟩ := MX.put (w' := zUp w 0 c) (f0 := f) h hp rfl zFr.refl
  refine v_iconst (0) dX4_fails_5 (by decide) ?_
  exact v_ireturn dX4_fails_6 rfl ⟨rfl, ⟨_, h1, rfl, fun i hi => if_neg hi, hf1⟩, rfl⟩
set_option maxRecDepth 10000 in
set_option maxHeartbeats 1000000 in
theorem c_isNail {G : zW} {f : zHM} {m : Nat × Nat} {o mr : Nat} {B : Nat → Nat} {w : Nat → Int32} {hh : Int64} {σ : Nat → Int32} (h : MX f o B w hh σ mr) {N : Nat} (hN : σ 0 = nI N) (hN4 : 4 ≤ N) {v : Int32} : zM G yX4_isNail cX4_isNail 2 (some .boolean) 2 [.ref o, .int v] (f, m) (zS (.int (if nI 0 ≤ v ∧ v ≤ nI (N - 1) then 1 else 0)) f m) := by
  refine zM.of (by decide) (Nat.le_of_ble_eq_true rfl) ?_
  have ho := h.1
  have hs := h.2.1
  refine v_iload_n dX4_isNail_0 rfl rfl ?_
  refine v_iconst (nI 0) dX4_isNail_1 (by decide) ?_
  refine v_aload_n dX4_isNail_2 rfl rfl ?_
  refine v_getfield fX4_7 dX4_isNail_3 (by assumption) (by rfl) ?_
  refine v_iconst (nI 0) dX4_isNail_6 (by decide) ?_
  refine v_iaload dX4_isNail_7 (by assumption) (vp_in_nI (by omega) (by omega)) ?_
  rw [nI_clamp (n := 0) (by omega)]
  rw [hN]
  refine v_iconst (nI 1) dX4_isNail_8 (by decide) ?_
  refine v_isub dX4_isNail_9 ?_
  rw [pk_sub (a := N) (b := 1) (by omega)]
  refine v_callSp kX4_42 gs_X4_in dX4_isNail_10 c_in rfl rfl (by decide) (Nat.le_of_ble_eq_true rfl) ?_
  exact v_zreturn dX4_isNail_13 rfl (by split <;> decide) ⟨rfl, rfl, rfl⟩
set_option maxRecDepth 10000 in
set_option maxHeartbeats 1000000 in
theorem c_isSpool {G : zW} {f : zHM} {m : Nat × Nat} {v : Int32} : zM G yX4_isSpool cX4_isSpool 1 (some .boolean) 2 [.int v] (f, m) (zS (.int (if nI 0 ≤ v ∧ v ≤ nI 2 then 1 else 0)) f m) := by
  refine zM.of (by decide) (Nat.le_of_ble_eq_true rfl) ?_
  refine v_iload_n dX4_isSpool_0 rfl rfl ?_
  refine v_iconst (nI 0) dX4_isSpool_1 (by decide) ?_
  refine v_iconst (nI 2) dX4_isSpool_2 (by decide) ?_
  refine v_callSp kX4_42 gs_X4_in dX4_isSpool_3 c_in rfl rfl (by decide) (Nat.le_of_ble_eq_true rfl) ?_
  exact v_zreturn dX4_isSpool_6 rfl (by split <;> decide) ⟨rfl, rfl, rfl⟩
set_option maxRecDepth 10000 in
set_option maxHeartbeats 1000000 in
theorem c_isSquare {G : zW} {f : zHM} {m : Nat × Nat} {x y : Int32} : zM G yX4_isSquare cX4_isSquare 2 (some .boolean) 2 [.int x, .int y] (f, m) (zS (.int (if (nI 0 ≤ x ∧ x ≤ nI 11) ∧ (nI 0 ≤ y ∧ y ≤ nI 11) then 1 else 0)) f m) := by
  refine zM.of (by decide) (Nat.le_of_ble_eq_true rfl) ?_
  refine v_iload_n dX4_isSquare_0 rfl rfl ?_
  refine v_iconst (nI 0) dX4_isSquare_1 (by decide) ?_
  refine v_bipush (nI 11) dX4_isSquare_2 (by decide) ?_
  refine v_callSp kX4_42 gs_X4_in dX4_isSquare_4 c_in rfl rfl (by decide) (Nat.le_of_ble_eq_true rfl) ?_
  by_cases hP : (nI 0 ≤ x ∧ x ≤ nI 11)
  · rw [if_pos hP]
    refine v_if_eq 24 dX4_isSquare_7 (by decide) (fun z => absurd z (by decide)) (fun _ => ?_)
    refine v_iload_n dX4_isSquare_10 rfl rfl ?_
    refine v_iconst (nI 0) dX4_isSquare_11 (by decide) ?_
    refine v_bipush (nI 11) dX4_isSquare_12 (by decide) ?_
    refine v_callSp kX4_42 gs_X4_in dX4_isSquare_14 c_in rfl rfl (by decide) (Nat.le_of_ble_eq_true rfl) ?_
    by_cases hP2 : (nI 0 ≤ y ∧ y ≤ nI 11)
    · rw [if_pos hP2]
      refine v_if_eq 24 dX4_isSquare_17 (by decide) (fun z => absurd z (by decide)) (fun _ => ?_)
      refine v_iconst (1) dX4_isSquare_20 (by decide) ?_
      refine v_goto 25 dX4_isSquare_21 (by decide) ?_
      exact v_zreturn dX4_isSquare_25 rfl (by decide) ⟨by rw [if_pos ⟨hP, hP2⟩], rfl, rfl⟩
    · rw [if_neg hP2]
      refine v_if_eq 24 dX4_isSquare_17 (by decide) (fun _ => ?_) (fun z => absurd rfl z)
      refine v_iconst (0) dX4_isSquare_24 (by decide) ?_
      exact v_zreturn dX4_isSquare_25 rfl (by decide) ⟨by rw [if_neg (fun z => hP2 z.2)], rfl, rfl⟩
  · rw [if_neg hP]
    refine v_if_eq 24 dX4_isSquare_7 (by decide) (fun _ => ?_) (fun z => absurd rfl z)
    refine v_iconst (0) dX4_isSquare_24 (by decide) ?_
    exact v_zreturn dX4_isSquare_25 rfl (by decide) ⟨by rw [if_neg (fun z => hP z.1)], rfl, rfl⟩
theorem sPK_le (k : Nat) : sPK k ≤ 6 := by unfold sPK; split <;> omega
def sPM (k : Nat) (sv : Nat → Nat → Int32) (σ : Nat → Int32) : Nat → Nat → Int32 := fun j => if k < 6 then (if j = k then σ else sv j) else (if j = 5 then σ else sv (j + 1))
/-- a copy into a big array, told by its cells -/
def zNC (f0 : zHM) (a τ len : Nat) (P : (Nat → Int32) → Prop) (f : zHM) : Prop := ∃ g, f a = some (τ, .inl (0, len, .inl g)) ∧ P g ∧ zFr (fun t => t = τ) f0 f
theorem MX.fr7 {f f' : zHM} {o mr : Nat} {B : Nat → Nat} {w : Nat → Int32} {hh : Int64} {σ : Nat → Int32} {T : Nat → Prop} (h : MX f o B w hh σ mr) (hf : zFr T f f') (hT : ∀ τ, τ = 700 ∨ τ = 701 ∨ τ = 706 ∨ τ = 707 → ¬ T τ) : MX f' o B w hh σ mr := by
  obtain ⟨h1, h2, ⟨gc, h3⟩, ⟨gm, h4, h5⟩, h6⟩ := h
  exact ⟨hf _ _ _ h1 (hT _ (by omega)), hf _ _ _ h2 (hT _ (by omega)), ⟨gc, hf _ _ _ h3 (hT _ (by omega))⟩, ⟨gm, hf _ _ _ h4 (hT _ (by omega)), h5⟩, h6⟩
set_option maxRecDepth 10000 in
set_option maxHeartbeats 1000000 in
theorem c_saves_tail {G : zW} {f1 : zHM} {m : Nat × Nat} {o mr k1 : Nat} {B : Nat → Nat} {w1 : Nat → Int32} {hh : Int64} {σ g1 : Nat → Int32} (h1 : MX f1 o B w1 hh σ mr) (hw1 : w1 1 = nI k1) (hk1 : k1 < 6) (hg1 : f1 (B 1) = some (702, .inl (0, 5424, .inl g1))) {Q : zOut → zH → Prop}
  (hend : ∀ (f3 : zHM) (w3 g3 : Nat → Int32), MX f3 o B w3 hh σ mr → f3 (B 1) = some (702, .inl (0, 5424, .inl g3)) → (∀ i, i ≠ 1 → w3 i = w1 i) → w3 1 = nI (k1 + 1) → (∀ j, g3 j = if 904 * k1 ≤ j ∧ j < 904 * k1 + 904 then σ (j - 904 * k1) else g1 j) → zFr (fun τ => τ = 700 ∨ τ = 701 ∨ τ = 706 ∨ τ = 702 ∨ τ = 707) f1 f3 → Q (.inl none) (f3, m)) : zV G yX4_saves cX4_saves 2 none 1 50 [(0, .ref o)] [] (f1, m) Q := by
  have loop : ∀ (kk i : Nat), i + kk = 904 → ∀ (f2 : zHM) (g : Nat → Int32), MX f2 o B w1 hh σ mr → f2 (B 1) = some (702, .inl (0, 5424, .inl g)) → (∀ j, g j = if 904 * k1 ≤ j ∧ j < 904 * k1 + i then σ (j - 904 * k1) else g1 j) → zFr (fun t => t = 702) f1 f2 → zV G yX4_saves cX4_saves 2 none 1 52 [(0, .ref o), (1, .int (nI i))] [] (f2, m) Q := by
    intro kk
    induction kk with
    | zero =>
      intro i hi f2 g h2 hg2 hgv hff
      have ho2 := h2.1
      have hs2 := h2.2.1
      refine v_iload_n dX4_saves_52 rfl rfl ?_
      refine v_sipush (nI 904) dX4_saves_53 (by decide) ?_
      refine v_icmp_ge 86 dX4_saves_56 (by decide) (fun b56 => ?_) (fun b56 => ?_)
      · rw [nI_leI (by omega) (by omega)] at b56
        refine v_aload_n dX4_saves_86 rfl rfl ?_
        refine v_dup dX4_saves_87 rfl ?_
        refine v_getfield fX4_39 dX4_saves_88 (by assumption) (by rfl) ?_
        rw [hw1]
        refine v_iconst (nI 1) dX4_saves_91 (by decide) ?_
        refine v_iadd dX4_saves_92 ?_
        rw [nI_add k1 1]
        refine v_putfieldX fX4_39 dX4_saves_93 h2.1 rfl rfl (Nat.le_of_ble_eq_true rfl) (fun f3 hp => ?_)
        obtain ⟨h3, hf3⟩ := MX.put (w' := zUp w1 1 (nI (k1 + 1))) (f0 := f2) h2 hp rfl zFr.refl
        refine v_return dX4_saves_96 rfl (hend f3 _ g h3 (hf3 _ _ _ hg2 (fun z => by rcases z with z | z | z | z <;> omega)) (fun i hi => (if_neg hi)) rfl (fun j => by rw [hgv j, show 904 * k1 + i = 904 * k1 + 904 from by omega]) ((hff.weaken (fun τ e => by omega)).trans (hf3.weaken (fun τ e => by rcases e with e | e | e | e <;> omega))))
      · rw [nI_leI (by omega) (by omega)] at b56
        omega
    | succ kk ih =>
      intro i hi f2 g h2 hg2 hgv hff
      have ho2 := h2.1
      have hs2 := h2.2.1
      refine v_iload_n dX4_saves_52 rfl rfl ?_
      refine v_sipush (nI 904) dX4_saves_53 (by decide) ?_
      refine v_icmp_ge 86 dX4_saves_56 (by decide) (fun b56 => ?_) (fun b56 => ?_)
      · rw [nI_leI (by omega) (by omega)] at b56
        omega
      · rw [nI_leI (by omega) (by omega)] at b56
        refine v_aload_n dX4_saves_59 rfl rfl ?_
        refine v_getfield fX4_13 dX4_saves_60 (by assumption) (by rfl) ?_
        refine v_sipush (nI 904) dX4_saves_63 (by decide) ?_
        refine v_aload_n dX4_saves_66 rfl rfl ?_
        refine v_getfield fX4_39 dX4_saves_67 (by assumption) (by rfl) ?_
        rw [hw1]
        refine v_imul dX4_saves_70 ?_
        rw [pk_mul 904 k1]
        refine v_iload_n dX4_saves_71 rfl rfl ?_
        refine v_iadd dX4_saves_72 ?_
        rw [nI_add (904 * k1) i]
        refine v_aload_n dX4_saves_73 rfl rfl ?_
        refine v_getfield fX4_7 dX4_saves_74 (by assumption) (by rfl) ?_
        refine v_iload_n dX4_saves_77 rfl rfl ?_
        refine v_iaload dX4_saves_78 (by assumption) (vp_in_nI (by omega) (by omega)) ?_
        rw [nI_clamp (n := i) (by omega)]
        refine v_iastoreX dX4_saves_79 hg2 (vp_in_nI (by omega) (by omega)) (fun f3 hp => ?_)
        rw [nI_clamp (n := 904 * k1 + i) (by omega)] at hp
        have hz : zFr (fun t => t = 702) f2 f3 := zFr.put (T := fun t => t = 702) zFr.refl hp rfl
        refine v_iincN dX4_saves_80 rfl (by decide) ?_
        refine v_goto 52 dX4_saves_83 (by decide) ?_
        exact v_loc (lv' := [(0, .ref o), (1, .int (nI (i + 1)))]) ⟨rfl, rfl, trivial⟩ (ih (i + 1) (by omega) f3 _ (h2.fr7 hz (by omega)) hp.1 (fun j => by
          show (if j = 904 * k1 + i then σ i else g j) = _
          rw [hgv j]
          by_cases e : j = 904 * k1 + i
          · rw [if_pos e, if_pos (by omega), e, show 904 * k1 + i - 904 * k1 = i from by omega]
          · rw [if_neg e]
            by_cases e2 : 904 * k1 ≤ j ∧ j < 904 * k1 + i
            · rw [if_pos e2, if_pos (by omega)]
            · rw [if_neg e2, if_neg (by omega)]) (hff.trans hz))
  refine v_iconst (nI 0) dX4_saves_50 (by decide) ?_
  refine v_istore_n dX4_saves_51 rfl (by decide) ?_
  refine v_loc (lv' := [(0, .ref o), (1, .int (nI 0))]) ⟨rfl, rfl, trivial⟩ (loop 904 0 (by omega) f1 g1 h1 hg1 (fun j => by rw [if_neg (by omega)]) zFr.refl)
set_option maxRecDepth 10000 in
set_option maxHeartbeats 1000000 in
theorem c_saves {G : zW} {f : zHM} {m : Nat × Nat} {o mr : Nat} {B : Nat → Nat} {w : Nat → Int32} {hh : Int64} {σ : Nat → Int32} (h : MX f o B w hh σ mr) {k L : Nat} {sv : Nat → Nat → Int32} {hsl : Nat → Int32} {sl : Nat → Nat → Int32} {ch : Nat → Nat} (k0 : w 1 = nI k) (O : zNO f B k sv hsl sl L ch) : zM G yX4_saves cX4_saves 2 none 1 [.ref o] (f, m) (zD none (fun f' m' => (∃ w', MX f' o B w' hh σ mr ∧ (∀ i, i ≠ 1 → w' i = w i) ∧ w' 1 = nI (sPK k) ∧ zNO f' B (sPK k) (sPM k sv σ) hsl sl L ch ∧ zFr zTZ f f') ∧ m' = m)) := by
  refine zM.of (by decide) (Nat.le_of_ble_eq_true rfl) ?_
  have ho := h.1
  have hs := h.2.1
  obtain ⟨⟨hk6, g, hg, hsv⟩, ⟨gs2, s2a, s2v⟩, ⟨gs3, s3a, s3v⟩, ⟨hL60, gs4, s4a, s4v⟩, gs5, s5a⟩ := id O
  refine v_aload_n dX4_saves_0 rfl rfl ?_
  refine v_getfield fX4_39 dX4_saves_1 ho (by rfl) ?_
  rw [k0]
  refine v_bipush (nI 6) dX4_saves_4 (by decide) ?_
  refine v_icmp_ne 50 dX4_saves_6 (by decide) (fun b6 => ?_) (fun b6 => ?_)
  · have hk5 : k < 6 := by
      rw [nI_eq (by omega) (by omega)] at b6
      omega
    refine v_loc (lv' := [(0, .ref o)]) ⟨rfl, trivial⟩ (c_saves_tail (k1 := k) (g1 := g) h k0 hk5 hg (fun f4 w4 g4 h4 hg4 hw4 hk4 hv4 hf4 => ?_))
    have hz : zFr zTZ f f4 := hf4.weaken (fun τ e => by rcases e with e | e | e | e | e <;> exact ⟨by omega, by omega⟩)
    have hy : ∀ (a τ : Nat) c, f a = some (τ, c) → (τ = 703 ∨ τ = 704 ∨ τ = 705 ∨ τ = 708) → f4 a = some (τ, c) := fun a τ c h1 h2 => hf4 _ _ _ h1 (fun z => by rcases z with z | z | z | z | z <;> omega)
    have hpk : sPK k = k + 1 := if_pos hk5
    rw [hpk]
    refine ⟨rfl, ⟨w4, h4, hw4, hk4, ⟨⟨by omega, g4, hg4, fun j hj i9 hi9 => ?_⟩, ⟨gs2, hy _ _ _ s2a (by omega), s2v⟩, ⟨gs3, hy _ _ _ s3a (by omega), s3v⟩, ⟨hL60, gs4, hy _ _ _ s4a (by omega), s4v⟩, gs5, hy _ _ _ s5a (by omega)⟩, hz⟩, rfl⟩
    show g4 (904 * j + i9) = (if k < 6 then (if j = k then σ else sv j) else _) i9
    rw [if_pos hk5, hv4]
    by_cases e : j = k
    · subst e
      rw [if_pos rfl, if_pos (by omega), show 904 * j + i9 - 904 * j = i9 from by omega]
    · rw [if_neg e, if_neg (by omega), hsv j (by omega) i9 hi9]
  · have hk9 : k = 6 := by
      rw [nI_eq (by omega) (by omega)] at b6
      omega
    subst hk9
    have loop : ∀ (kk i : Nat), i + kk = 4520 → ∀ (f2 : zHM) (g2 : Nat → Int32), MX f2 o B w hh σ mr → f2 (B 1) = some (702, .inl (0, 5424, .inl g2)) → (∀ j, g2 j = if j < i then g (j + 904) else g j) → zFr (fun t => t = 702) f f2 → zV G yX4_saves cX4_saves 2 none 1 11 [(0, .ref o), (1, .int (nI i))] [] (f2, m) (zD none (fun f' m' => (∃ w', MX f' o B w' hh σ mr ∧ (∀ i, i ≠ 1 → w' i = w i) ∧ w' 1 = nI (sPK 6) ∧ zNO f' B (sPK 6) (sPM 6 sv σ) hsl sl L ch ∧ zFr zTZ f f') ∧ m' = m)) := by
      intro kk
      induction kk with
      | zero =>
        intro i hi f2 g2 h2 hg2 hgv hff
        have ho2 := h2.1
        have hs2 := h2.2.1
        refine v_iload_n dX4_saves_11 rfl rfl ?_
        refine v_sipush (nI 4520) dX4_saves_12 (by decide) ?_
        refine v_icmp_ge 40 dX4_saves_15 (by decide) (fun b15 => ?_) (fun b15 => ?_)
        · rw [nI_leI (by omega) (by omega)] at b15
          refine v_aload_n dX4_saves_40 rfl rfl ?_
          refine v_dup dX4_saves_41 rfl ?_
          refine v_getfield fX4_39 dX4_saves_42 ho2 (by rfl) ?_
          rw [k0]
          refine v_iconst (nI 1) dX4_saves_45 (by decide) ?_
          refine v_isub dX4_saves_46 ?_
          rw [show nI 6 - nI 1 = nI 5 from by decide]
          refine v_putfieldX fX4_39 dX4_saves_47 ho2 rfl rfl (Nat.le_of_ble_eq_true rfl) (fun f3 hp => ?_)
          obtain ⟨h3, hf3⟩ := MX.put (w' := zUp w 1 (nI 5)) (f0 := f2) h2 hp rfl zFr.refl
          have hg3 : f3 (B 1) = some (702, .inl (0, 5424, .inl g2)) := hf3 _ _ _ hg2 (fun z => by rcases z with z | z | z | z <;> omega)
          refine v_loc (lv' := [(0, .ref o)]) ⟨rfl, trivial⟩ (c_saves_tail (k1 := 5) (g1 := g2) h3 rfl (by omega) hg3 (fun f4 w4 g4 h4 hg4 hw4 hk4 hv4 hf4 => ?_))
          have hz : zFr zTZ f f4 := (hff.weaken (fun τ e => ⟨by omega, by omega⟩)).trans ((hf3.weaken zTYZ).trans (hf4.weaken (fun τ e => by rcases e with e | e | e | e | e <;> exact ⟨by omega, by omega⟩)))
          have hy : ∀ (a τ : Nat) c, f a = some (τ, c) → (τ = 703 ∨ τ = 704 ∨ τ = 705 ∨ τ = 708) → f4 a = some (τ, c) := fun a τ c h1 h2 => hf4 _ _ _ (hf3 _ _ _ (hff _ _ _ h1 (by omega)) (fun z => by rcases z with z | z | z | z <;> omega)) (fun z => by rcases z with z | z | z | z | z <;> omega)
          refine ⟨rfl, ⟨w4, h4, fun i hi => (hw4 i hi).trans (if_neg hi), hk4, ⟨⟨by decide, g4, hg4, fun j hj i9 hi9 => ?_⟩, ⟨gs2, hy _ _ _ s2a (by omega), s2v⟩, ⟨gs3, hy _ _ _ s3a (by omega), s3v⟩, ⟨hL60, gs4, hy _ _ _ s4a (by omega), s4v⟩, gs5, hy _ _ _ s5a (by omega)⟩, hz⟩, rfl⟩
          have hj6 : j < 6 := hj
          show g4 (904 * j + i9) = (if (6 : Nat) < 6 then _ else (if j = 5 then σ else sv (j + 1))) i9
          rw [if_neg (by omega), hv4]
          by_cases e : j = 5
          · subst e
            rw [if_pos rfl, if_pos (by omega), show 904 * 5 + i9 - 904 * 5 = i9 from by omega]
          · rw [if_neg e, if_neg (by omega), hgv, if_pos (by omega), ← hsv (j + 1) (by omega) i9 hi9, show 904 * j + i9 + 904 = 904 * (j + 1) + i9 from by omega]
        · rw [nI_leI (by omega) (by omega)] at b15
          omega
      | succ kk ih =>
        intro i hi f2 g2 h2 hg2 hgv hff
        have ho2 := h2.1
        have hs2 := h2.2.1
        refine v_iload_n dX4_saves_11 rfl rfl ?_
        refine v_sipush (nI 4520) dX4_saves_12 (by decide) ?_
        refine v_icmp_ge 40 dX4_saves_15 (by decide) (fun b15 => ?_) (fun b15 => ?_)
        · rw [nI_leI (by omega) (by omega)] at b15
          omega
        · rw [nI_leI (by omega) (by omega)] at b15
          refine v_aload_n dX4_saves_18 rfl rfl ?_
          refine v_getfield fX4_13 dX4_saves_19 (by assumption) (by rfl) ?_
          refine v_iload_n dX4_saves_22 rfl rfl ?_
          refine v_aload_n dX4_saves_23 rfl rfl ?_
          refine v_getfield fX4_13 dX4_saves_24 (by assumption) (by rfl) ?_
          refine v_iload_n dX4_saves_27 rfl rfl ?_
          refine v_sipush (nI 904) dX4_saves_28 (by decide) ?_
          refine v_iadd dX4_saves_31 ?_
          rw [nI_add i 904]
          refine v_iaload dX4_saves_32 (by assumption) (vp_in_nI (by omega) (by omega)) ?_
          rw [nI_clamp (n := i + 904) (by omega)]
          refine v_iastoreX dX4_saves_33 hg2 (vp_in_nI (by omega) (by omega)) (fun f3 hp => ?_)
          rw [nI_clamp (n := i) (by omega)] at hp
          have hz : zFr (fun t => t = 702) f2 f3 := zFr.put (T := fun t => t = 702) zFr.refl hp rfl
          refine v_iincN dX4_saves_34 rfl (by decide) ?_
          refine v_goto 11 dX4_saves_37 (by decide) ?_
          exact v_loc (lv' := [(0, .ref o), (1, .int (nI (i + 1)))]) ⟨rfl, rfl, trivial⟩ (ih (i + 1) (by omega) f3 _ (h2.fr7 hz (by omega)) hp.1 (fun j => by
            show (if j = i then g2 (i + 904) else g2 j) = _
            rw [hgv j, hgv (i + 904), if_neg (show ¬ i + 904 < i by omega)]
            by_cases e : j = i
            · rw [if_pos e, if_pos (by omega), e]
            · rw [if_neg e]
              by_cases e2 : j < i
              · rw [if_pos e2, if_pos (by omega)]
              · rw [if_neg e2, if_neg (by omega)]) (hff.trans hz))
    refine v_iconst (nI 0) dX4_saves_9 (by decide) ?_
    refine v_istore_n dX4_saves_10 rfl (by decide) ?_
    exact v_loc (lv' := [(0, .ref o), (1, .int (nI 0))]) ⟨rfl, rfl, trivial⟩ (loop 4520 0 (by omega) f g h hg (fun j => by rw [if_neg (by omega)]) zFr.refl)
