def ZPT (T : Nat → Prop) (f : zHM) (o r tr sc tx sl sv k la : Nat) (A : Nat → Nat) (gv : Nat → Option Nat) (st : Nat → zST) (M : Nat × Nat) (S S2 : zST) : zHM → Nat × Nat → Prop := fun f' m' => ∃ gv' π' M', SVP f' sv la gv' π' (sPK k) (sPS k st S) ∧ LNok f' m' la M' ∧ M'.1 + 11 * zcn gv' 6 = M.1 + 11 * zcn gv 6 ∧ M'.2 + 1339 * zcn gv' 6 = M.2 + 1339 * zcn gv 6 ∧ f' o = some (600, .inr (3, zOb r tr sc tx sl sv (sPK k))) ∧ RPic f' 0 r la A S2.1 S2.2.1 S2.2.2.1 S2.2.2.2 ∧ zFr T f f' ∧ ∃ g, f' sc = some (601, .inl (0, 144, .inl g))
theorem ZPT.of {T T7 : Nat → Prop} {f f1 f2 : zHM} {m2 : Nat × Nat} {o r tr sc tx sl sv k la : Nat} {A : Nat → Nat} {gv gv1 : Nat → Option Nat} {π1 : Nat → Nat} {st : Nat → zST} {M M1 : Nat × Nat} {S S2 : zST} (h1 : SVP f1 sv la gv1 π1 (sPK k) (sPS k st S)) (h2 : LNok f2 m2 la M1) (h3 : M1.1 + 11 * zcn gv1 6 = M.1 + 11 * zcn gv 6) (h4 : M1.2 + 1339 * zcn gv1 6 = M.2 + 1339 * zcn gv 6) (h5 : f1 o = some (600, .inr (3, zOb r tr sc tx sl sv (sPK k)))) (h6 : zFr zTS f f1) (h7 : zFr T7 f1 f2) (hT : ∀ τ, zTS τ → T τ) (hT7 : ∀ τ, T7 τ → T τ ∧ ¬ zTS τ) (h8 : RPic f2 0 r la A S2.1 S2.2.1 S2.2.2.1 S2.2.2.2) {g : Nat → Int32} (h9 : f2 sc = some (601, .inl (0, 144, .inl g))) : ZPT T f o r tr sc tx sl sv k la A gv st M S S2 f2 m2 :=
  ⟨gv1, π1, M1, h1.fr h7 (fun τ h h9 => (hT7 τ h9).2 (Or.inr h)), h2, h3, h4, h7 _ _ _ h5 (fun h9 => (hT7 _ h9).2 (Or.inl rfl)), h8, (h6.weaken hT).trans (h7.weaken (fun τ h => (hT7 τ h).1)), g, h9⟩
abbrev zTV : Nat → Prop := fun τ => τ ≤ 10 ∨ τ = 600 ∨ τ = 601 ∨ τ = 605 ∨ (100 ≤ τ ∧ τ ≤ 210) ∨ τ = 950
def sTs : Nat → Nat → Nat
  | 0, p => (11 - p % 12) * 12 + p / 12
  | 1, p => p / 12 * 12 + (11 - p % 12)
  | _, p => p
def sTv (w : Nat) (x : Int32) : Int32 := if w = 2 then 9 - x else x
def sTurn (w : Nat) (g : Nat → Int32) : Nat → Int32 := fun p => sTv w (g (sTs w p))
theorem zcp0 (g' g φ : Nat → Int32) (N : Nat) (hN : N < 2 ^ 31) (he : ∀ i, i < N → g' i = φ i) : ∀ i, i < N → va_cpy g' g (nI 0).toNatClampNeg (nI 0).toNatClampNeg (nI N).toNatClampNeg i = φ i := fun i hi => by
  rw [show (nI 0).toNatClampNeg = 0 from rfl, nI_clamp hN, pk_cpy_in (Nat.zero_le i) (by omega), ← he i hi]
  congr 1
  omega
theorem sTs_lt {w p : Nat} (h : p < 144) : sTs w p < 144 := by
  unfold sTs
  split <;> omega
set_option maxRecDepth 10000 in
set_option maxHeartbeats 1000000 in
theorem c_turnFace_0 {G : zW} {f : zHM} {m : Nat × Nat} {o r tr sc tx sl sv k la n : Nat} {A : Nat → Nat} {ρ : zRS} {xs tm : Nat → Int32} (ho : f o = some (600, .inr (3, zOb r tr sc tx sl sv k))) (hr : RPic f 0 r la A ρ n xs tm) (hn201 : n ≤ 201) {M : Nat × Nat} (hL : LNok f m la M) {gv : Nat → Option Nat} {π : Nat → Nat} {st : Nat → zST} (hs : SVP f sv la gv π k st) (hB : M.1 + 11 * zcn gv 6 ≤ 50000 ∧ M.2 + 1339 * zcn gv 6 ≤ 399990) {gsc : Nat → Int32} (hsc : f sc = some (601, .inl (0, 144, .inl gsc))) : zM G yX3_turnFace cX3_turnFace 5 (some .int) 7 [.ref o, .int (nI 0)] (f, m) (zD (some (.int (sMisfit (zset ρ 7 (sTurn 0 (ρ 7)))))) (ZPT zTV f o r tr sc tx sl sv k la A gv st M (ρ, n, xs, tm) (zset ρ 7 (sTurn 0 (ρ 7)), n, xs, tm))) := by
  refine zM.of (by decide) (Nat.le_of_ble_eq_true rfl) ?_
  have r0 := hr.1
  refine v_iload_n dX3_turnFace_0 rfl rfl ?_
  refine v_iconst (nI 0) dX3_turnFace_1 (by decide) ?_
  refine v_iconst (nI 2) dX3_turnFace_2 (by decide) ?_
  refine v_callS0p kX3_72 gs_X3_needRange dX3_turnFace_3 (c_needRange (nI_pos (by omega)) (show nI 0 ≤ nI 2 from by decide)) rfl rfl (by decide) (Nat.le_of_ble_eq_true rfl) ?_
  refine v_aload_n dX3_turnFace_6 rfl rfl ?_
  refine v_callV0 kX3_52 gi_X3_save ge_X3_save rfl dX3_turnFace_7 (by assumption) (c_save ho hr hn201 hL hs hB) rfl rfl (by decide) (Nat.le_of_ble_eq_true rfl) (fun f1 m1 hc => ?_)
  obtain ⟨gv1, π1, M1, hs1, hL1, hB1, hB2, ho1, hf1⟩ := hc
  have hr1 := hr.fr hf1 (fun k hk h => by rcases h with h | h | h <;> omega)
  obtain ⟨r0, ⟨g1, a1, e1⟩, ⟨g2, a2, e2⟩, ⟨g3, a3, e3⟩, ⟨g4, a4, e4⟩, ⟨g5, a5, e5⟩, ⟨g6, a6, e6⟩, ⟨g7, a7, e7⟩, ⟨g8, a8, e8⟩, ⟨g9, a9, e9⟩, ⟨g10, a10, e10⟩⟩ := id hr1
  have hsc1 := hf1 _ _ _ hsc (fun h => by rcases h with h | h | h <;> omega)
  refine v_aload_n dX3_turnFace_10 rfl rfl ?_
  refine v_getfield fX3_34 dX3_turnFace_11 (by assumption) (by rfl) ?_
  refine v_getfield fX3_143 dX3_turnFace_14 (by assumption) (by rfl) ?_
  refine v_iconst (nI 0) dX3_turnFace_17 (by decide) ?_
  refine v_aload_n dX3_turnFace_18 rfl rfl ?_
  refine v_getfield fX3_9 dX3_turnFace_19 (by assumption) (by rfl) ?_
  refine v_iconst (nI 0) dX3_turnFace_22 (by decide) ?_
  refine v_sipush (nI 144) dX3_turnFace_23 (by decide) ?_
  refine v_copyIX gcpX3 gcpN gcpS gcpI dX3_turnFace_26 a7 hsc1 (by decide) (by decide) (nI_pos (by omega)) (by rw [show (nI 0).toNatClampNeg = 0 from rfl, nI_clamp (by omega)]; omega) (by rw [show (nI 0).toNatClampNeg = 0 from rfl, nI_clamp (by omega)]; omega) (by decide) (Nat.le_of_ble_eq_true rfl) (fun f2 hp => ?_)
  have hsv := zcp0 g7 gsc (ρ 7) 144 (by omega) e7
  have hsc2 := hp.1
  generalize va_cpy g7 gsc (nI 0).toNatClampNeg (nI 0).toNatClampNeg (nI 144).toNatClampNeg = gs2 at hsv hsc2
  have hf2 : zFr (fun τ => τ = 601) f1 f2 := zFr.put (T := fun τ => τ = 601) zFr.refl hp rfl
  have hr2 := hr1.fr hf2 (fun k hk h => by omega)
  have ho2 := hf2 _ _ _ ho1 (by omega)
  have inner : ∀ (i : Nat), i < 12 → (∀ (f3 : zHM) (g : Nat → Int32), f3 (A 6) = some (0 + 7, .inl (0, 144, .inl g)) → (∀ p, p < 144 → sTs 0 p < (i + 1) * 12 → g p = sTurn 0 (ρ 7) p) → zFr (fun τ => τ = 7) f2 f3 → zV G yX3_turnFace cX3_turnFace 5 (some .int) 7 31 [(0, .ref o), (1, .int (nI 0)), (2, .int (nI (i + 1)))] [] (f3, m1) (zD (some (.int (sMisfit (zset ρ 7 (sTurn 0 (ρ 7)))))) (ZPT zTV f o r tr sc tx sl sv k la A gv st M (ρ, n, xs, tm) (zset ρ 7 (sTurn 0 (ρ 7)), n, xs, tm)))) → ∀ (kk j : Nat), j + kk = 12 → ∀ (f3 : zHM) (g : Nat → Int32), f3 (A 6) = some (0 + 7, .inl (0, 144, .inl g)) → (∀ p, p < 144 → sTs 0 p < i * 12 + j → g p = sTurn 0 (ρ 7) p) → zFr (fun τ => τ = 7) f2 f3 → zV G yX3_turnFace cX3_turnFace 5 (some .int) 7 39 [(0, .ref o), (1, .int (nI 0)), (2, .int (nI i)), (3, .int (nI j))] [] (f3, m1) (zD (some (.int (sMisfit (zset ρ 7 (sTurn 0 (ρ 7)))))) (ZPT zTV f o r tr sc tx sl sv k la A gv st M (ρ, n, xs, tm) (zset ρ 7 (sTurn 0 (ρ 7)), n, xs, tm))) := by
    intro i h12 hout kk
    induction kk with
    | zero =>
      intro j hj f3 g hg hgi hff
      have hj : j = 12 := by omega
      subst hj
      have ho3 := hff _ _ _ ho2 (by omega)
      refine v_iload_n dX3_turnFace_39 rfl rfl ?_
      refine v_bipush (nI 12) dX3_turnFace_40 (by decide) ?_
      refine v_icmp_ge 140 dX3_turnFace_42 (by decide) (fun _ => ?_) (fun b => absurd (by rw [nI_leI (by omega) (by omega)]; omega) b)
      refine v_iincN dX3_turnFace_140 rfl (by decide) ?_
      refine v_goto 31 dX3_turnFace_143 (by decide) ?_
      exact v_loc (lv' := [(0, .ref o), (1, .int (nI 0)), (2, .int (nI (i + 1)))]) ⟨rfl, rfl, rfl, trivial⟩ (hout f3 g hg (fun p h1 h2 => hgi p h1 (by omega)) hff)
    | succ kk ihj =>
      intro j hj f3 g hg hgi hff
      have h9 : j < 12 := by omega
      have ho3 := hff _ _ _ ho2 (by omega)
      have r03 := hff _ _ _ hr2.1 (by omega)
      have hsc3 := hff _ _ _ hsc2 (by omega)
      refine v_iload_n dX3_turnFace_39 rfl rfl ?_
      refine v_bipush (nI 12) dX3_turnFace_40 (by decide) ?_
      refine v_icmp_ge 140 dX3_turnFace_42 (by decide) (fun b42 => ?_) (fun b42 => ?_)
      · rw [nI_leI (by omega) (by omega)] at b42
        omega
      · rw [nI_leI (by omega) (by omega)] at b42
        refine v_aload_n dX3_turnFace_45 rfl rfl ?_
        refine v_getfield fX3_9 dX3_turnFace_46 (by assumption) (by rfl) ?_
        refine v_iload_n dX3_turnFace_49 rfl rfl ?_
        refine v_bipush (nI 12) dX3_turnFace_50 (by decide) ?_
        refine v_imul dX3_turnFace_52 ?_
        rw [pk_mul]
        refine v_iload_n dX3_turnFace_53 rfl rfl ?_
        refine v_iadd dX3_turnFace_54 ?_
        rw [nI_add]
        refine v_iaload dX3_turnFace_55 hsc3 (vp_in_nI (by omega) (by omega)) ?_
        rw [nI_clamp (by omega), hsv _ (by omega)]
        refine v_istore dX3_turnFace_56 (by decide) ?_
        refine v_iload_n dX3_turnFace_58 rfl rfl ?_
        refine v_if_ne 86 dX3_turnFace_59 (by decide) (fun b59 => ?_) (fun b59 => ?_)
        · exact absurd rfl b59
        · refine v_aload_n dX3_turnFace_62 rfl rfl ?_
          refine v_getfield fX3_34 dX3_turnFace_63 (by assumption) (by rfl) ?_
          refine v_getfield fX3_143 dX3_turnFace_66 (by assumption) (by rfl) ?_
          refine v_iload_n dX3_turnFace_69 rfl rfl ?_
          refine v_bipush (nI 12) dX3_turnFace_70 (by decide) ?_
          refine v_imul dX3_turnFace_72 ?_
          rw [pk_mul]
          refine v_bipush (nI 12) dX3_turnFace_73 (by decide) ?_
          refine v_iadd dX3_turnFace_75 ?_
          rw [nI_add]
          refine v_iconst (nI 1) dX3_turnFace_76 (by decide) ?_
          refine v_isub dX3_turnFace_77 ?_
          rw [pk_sub (by omega)]
          refine v_iload_n dX3_turnFace_78 rfl rfl ?_
          refine v_isub dX3_turnFace_79 ?_
          rw [pk_sub (by omega)]
          refine v_iload dX3_turnFace_80 rfl ?_
          refine v_iastoreX dX3_turnFace_82 hg (vp_in_nI (by omega) (by omega)) (fun f4 hp4 => ?_)
          rw [nI_clamp (by omega)] at hp4
          have hf4 : zFr (fun τ => τ = 7) f2 f4 := zFr.put (T := fun τ => τ = 7) hff hp4 rfl
          refine v_goto 134 dX3_turnFace_83 (by decide) ?_
          refine v_iincN dX3_turnFace_134 rfl (by decide) ?_
          refine v_goto 39 dX3_turnFace_137 (by decide) ?_
          refine v_loc (lv' := [(0, .ref o), (1, .int (nI 0)), (2, .int (nI i)), (3, .int (nI (j + 1)))]) ⟨rfl, rfl, rfl, rfl, trivial⟩ (ihj (j + 1) (by omega) f4 _ hp4.1 (fun p hp5 hs5 => ?_) hf4)
          unfold upd
          by_cases e : p = j * 12 + 12 - 1 - i
          · rw [if_pos e]
            unfold sTurn
            rw [show sTs 0 p = i * 12 + j from by rw [show sTs 0 p = (11 - p % 12) * 12 + p / 12 from rfl]; omega]
            rfl
          · rw [if_neg e]
            refine hgi p hp5 ?_
            have h6 : sTs 0 p ≠ i * 12 + j := fun h7 => e (by rw [show sTs 0 p = (11 - p % 12) * 12 + p / 12 from rfl] at h7; omega)
            omega
  have outer : ∀ (kk i : Nat), i + kk = 12 → ∀ (f3 : zHM) (g : Nat → Int32), f3 (A 6) = some (0 + 7, .inl (0, 144, .inl g)) → (∀ p, p < 144 → sTs 0 p < i * 12 → g p = sTurn 0 (ρ 7) p) → zFr (fun τ => τ = 7) f2 f3 → zV G yX3_turnFace cX3_turnFace 5 (some .int) 7 31 [(0, .ref o), (1, .int (nI 0)), (2, .int (nI i))] [] (f3, m1) (zD (some (.int (sMisfit (zset ρ 7 (sTurn 0 (ρ 7)))))) (ZPT zTV f o r tr sc tx sl sv k la A gv st M (ρ, n, xs, tm) (zset ρ 7 (sTurn 0 (ρ 7)), n, xs, tm))) := by
    intro kk
    induction kk with
    | zero =>
      intro i hi f3 g hg hgi hff
      have hi : i = 12 := by omega
      subst hi
      have ho3 := hff _ _ _ ho2 (by omega)
      have hr3 : RPic f3 0 r la A (zset ρ 7 (sTurn 0 (ρ 7))) n xs tm := hr2.ar7 _ ⟨g, hg, fun p hp => hgi p hp (sTs_lt hp)⟩ hff
      refine v_iload_n dX3_turnFace_31 rfl rfl ?_
      refine v_bipush (nI 12) dX3_turnFace_32 (by decide) ?_
      refine v_icmp_ge 146 dX3_turnFace_34 (by decide) (fun _ => ?_) (fun b => absurd (by rw [nI_leI (by omega) (by omega)]; omega) b)
      refine v_aload_n dX3_turnFace_146 rfl rfl ?_
      refine v_getfield fX3_34 dX3_turnFace_147 ho3 (by rfl) ?_
      refine v_callVp kX3_152 gi_X1_misfit ge_X1_misfit rfl dX3_turnFace_150 hr3.1 (c_misfit hr3) rfl rfl (by decide) (Nat.le_of_ble_eq_true rfl) ?_
      exact v_ireturn dX3_turnFace_153 rfl ⟨rfl, ZPT.of hs1 ((hL1.fr hf2 (fun t ht => by omega)).fr hff (fun t ht => by omega)) hB1 hB2 ho1 hf1 ((hf2.weaken (T' := fun τ => τ = 601 ∨ τ = 7) (fun τ h => Or.inl h)).trans (hff.weaken (fun τ h => Or.inr h))) (fun τ h => by show _ ∨ _; omega) (fun τ h => ⟨by show _ ∨ _; omega, fun h9 => by rcases h9 with h9 | h9 | h9 <;> omega⟩) hr3 (hff _ _ _ hsc2 (by omega))⟩
    | succ kk ih =>
      intro i hi f3 g hg hgi hff
      have h9 : i < 12 := by omega
      refine v_iload_n dX3_turnFace_31 rfl rfl ?_
      refine v_bipush (nI 12) dX3_turnFace_32 (by decide) ?_
      refine v_icmp_ge 146 dX3_turnFace_34 (by decide) (fun b => absurd b (by rw [nI_leI (by omega) (by omega)]; omega)) (fun _ => ?_)
      refine v_iconst (nI 0) dX3_turnFace_37 (by decide) ?_
      refine v_istore_n dX3_turnFace_38 rfl (by decide) ?_
      exact v_loc (lv' := [(0, .ref o), (1, .int (nI 0)), (2, .int (nI i)), (3, .int (nI 0))]) ⟨rfl, rfl, rfl, rfl, trivial⟩ (inner i h9 (fun f4 g4 h1 h2 h3 => ih (i + 1) (by omega) f4 g4 h1 h2 h3) 12 0 (by omega) f3 g hg (fun p h1 h2 => hgi p h1 (by omega)) hff)
  obtain ⟨-, -, -, -, -, -, -, ⟨g9, b7, e9⟩, -⟩ := id hr2
  refine v_iconst (nI 0) dX3_turnFace_29 (by decide) ?_
  refine v_istore_n dX3_turnFace_30 rfl (by decide) ?_
  exact v_loc (lv' := [(0, .ref o), (1, .int (nI 0)), (2, .int (nI 0))]) ⟨rfl, rfl, rfl, trivial⟩ (outer 12 0 (by omega) f2 g9 b7 (fun p h1 h2 => absurd h2 (by omega)) zFr.refl)
set_option maxRecDepth 10000 in
set_option maxHeartbeats 1000000 in
theorem c_turnFace_1 {G : zW} {f : zHM} {m : Nat × Nat} {o r tr sc tx sl sv k la n : Nat} {A : Nat → Nat} {ρ : zRS} {xs tm : Nat → Int32} (ho : f o = some (600, .inr (3, zOb r tr sc tx sl sv k))) (hr : RPic f 0 r la A ρ n xs tm) (hn201 : n ≤ 201) {M : Nat × Nat} (hL : LNok f m la M) {gv : Nat → Option Nat} {π : Nat → Nat} {st : Nat → zST} (hs : SVP f sv la gv π k st) (hB : M.1 + 11 * zcn gv 6 ≤ 50000 ∧ M.2 + 1339 * zcn gv 6 ≤ 399990) {gsc : Nat → Int32} (hsc : f sc = some (601, .inl (0, 144, .inl gsc))) : zM G yX3_turnFace cX3_turnFace 5 (some .int) 7 [.ref o, .int (nI 1)] (f, m) (zD (some (.int (sMisfit (zset ρ 7 (sTurn 1 (ρ 7)))))) (ZPT zTV f o r tr sc tx sl sv k la A gv st M (ρ, n, xs, tm) (zset ρ 7 (sTurn 1 (ρ 7)), n, xs, tm))) := by
  refine zM.of (by decide) (Nat.le_of_ble_eq_true rfl) ?_
  have r0 := hr.1
  refine v_iload_n dX3_turnFace_0 rfl rfl ?_
  refine v_iconst (nI 0) dX3_turnFace_1 (by decide) ?_
  refine v_iconst (nI 2) dX3_turnFace_2 (by decide) ?_
  refine v_callS0p kX3_72 gs_X3_needRange dX3_turnFace_3 (c_needRange (nI_pos (by omega)) (show nI 1 ≤ nI 2 from by decide)) rfl rfl (by decide) (Nat.le_of_ble_eq_true rfl) ?_
  refine v_aload_n dX3_turnFace_6 rfl rfl ?_
  refine v_callV0 kX3_52 gi_X3_save ge_X3_save rfl dX3_turnFace_7 (by assumption) (c_save ho hr hn201 hL hs hB) rfl rfl (by decide) (Nat.le_of_ble_eq_true rfl) (fun f1 m1 hc => ?_)
  obtain ⟨gv1, π1, M1, hs1, hL1, hB1, hB2, ho1, hf1⟩ := hc
  have hr1 := hr.fr hf1 (fun k hk h => by rcases h with h | h | h <;> omega)
  obtain ⟨r0, ⟨g1, a1, e1⟩, ⟨g2, a2, e2⟩, ⟨g3, a3, e3⟩, ⟨g4, a4, e4⟩, ⟨g5, a5, e5⟩, ⟨g6, a6, e6⟩, ⟨g7, a7, e7⟩, ⟨g8, a8, e8⟩, ⟨g9, a9, e9⟩, ⟨g10, a10, e10⟩⟩ := id hr1
  have hsc1 := hf1 _ _ _ hsc (fun h => by rcases h with h | h | h <;> omega)
  refine v_aload_n dX3_turnFace_10 rfl rfl ?_
  refine v_getfield fX3_34 dX3_turnFace_11 (by assumption) (by rfl) ?_
  refine v_getfield fX3_143 dX3_turnFace_14 (by assumption) (by rfl) ?_
  refine v_iconst (nI 0) dX3_turnFace_17 (by decide) ?_
  refine v_aload_n dX3_turnFace_18 rfl rfl ?_
  refine v_getfield fX3_9 dX3_turnFace_19 (by assumption) (by rfl) ?_
  refine v_iconst (nI 0) dX3_turnFace_22 (by decide) ?_
  refine v_sipush (nI 144) dX3_turnFace_23 (by decide) ?_
  refine v_copyIX gcpX3 gcpN gcpS gcpI dX3_turnFace_26 a7 hsc1 (by decide) (by decide) (nI_pos (by omega)) (by rw [show (nI 0).toNatClampNeg = 0 from rfl, nI_clamp (by omega)]; omega) (by rw [show (nI 0).toNatClampNeg = 0 from rfl, nI_clamp (by omega)]; omega) (by decide) (Nat.le_of_ble_eq_true rfl) (fun f2 hp => ?_)
  have hsv := zcp0 g7 gsc (ρ 7) 144 (by omega) e7
  have hsc2 := hp.1
  generalize va_cpy g7 gsc (nI 0).toNatClampNeg (nI 0).toNatClampNeg (nI 144).toNatClampNeg = gs2 at hsv hsc2
  have hf2 : zFr (fun τ => τ = 601) f1 f2 := zFr.put (T := fun τ => τ = 601) zFr.refl hp rfl
  have hr2 := hr1.fr hf2 (fun k hk h => by omega)
  have ho2 := hf2 _ _ _ ho1 (by omega)
  have inner : ∀ (i : Nat), i < 12 → (∀ (f3 : zHM) (g : Nat → Int32), f3 (A 6) = some (0 + 7, .inl (0, 144, .inl g)) → (∀ p, p < 144 → sTs 1 p < (i + 1) * 12 → g p = sTurn 1 (ρ 7) p) → zFr (fun τ => τ = 7) f2 f3 → zV G yX3_turnFace cX3_turnFace 5 (some .int) 7 31 [(0, .ref o), (1, .int (nI 1)), (2, .int (nI (i + 1)))] [] (f3, m1) (zD (some (.int (sMisfit (zset ρ 7 (sTurn 1 (ρ 7)))))) (ZPT zTV f o r tr sc tx sl sv k la A gv st M (ρ, n, xs, tm) (zset ρ 7 (sTurn 1 (ρ 7)), n, xs, tm)))) → ∀ (kk j : Nat), j + kk = 12 → ∀ (f3 : zHM) (g : Nat → Int32), f3 (A 6) = some (0 + 7, .inl (0, 144, .inl g)) → (∀ p, p < 144 → sTs 1 p < i * 12 + j → g p = sTurn 1 (ρ 7) p) → zFr (fun τ => τ = 7) f2 f3 → zV G yX3_turnFace cX3_turnFace 5 (some .int) 7 39 [(0, .ref o), (1, .int (nI 1)), (2, .int (nI i)), (3, .int (nI j))] [] (f3, m1) (zD (some (.int (sMisfit (zset ρ 7 (sTurn 1 (ρ 7)))))) (ZPT zTV f o r tr sc tx sl sv k la A gv st M (ρ, n, xs, tm) (zset ρ 7 (sTurn 1 (ρ 7)), n, xs, tm))) := by
    intro i h12 hout kk
    induction kk with
    | zero =>
      intro j hj f3 g hg hgi hff
      have hj : j = 12 := by omega
      subst hj
      have ho3 := hff _ _ _ ho2 (by omega)
      refine v_iload_n dX3_turnFace_39 rfl rfl ?_
      refine v_bipush (nI 12) dX3_turnFace_40 (by decide) ?_
      refine v_icmp_ge 140 dX3_turnFace_42 (by decide) (fun _ => ?_) (fun b => absurd (by rw [nI_leI (by omega) (by omega)]; omega) b)
      refine v_iincN dX3_turnFace_140 rfl (by decide) ?_
      refine v_goto 31 dX3_turnFace_143 (by decide) ?_
      exact v_loc (lv' := [(0, .ref o), (1, .int (nI 1)), (2, .int (nI (i + 1)))]) ⟨rfl, rfl, rfl, trivial⟩ (hout f3 g hg (fun p h1 h2 => hgi p h1 (by omega)) hff)
    | succ kk ihj =>
      intro j hj f3 g hg hgi hff
      have h9 : j < 12 := by omega
      have ho3 := hff _ _ _ ho2 (by omega)
      have r03 := hff _ _ _ hr2.1 (by omega)
      have hsc3 := hff _ _ _ hsc2 (by omega)
      refine v_iload_n dX3_turnFace_39 rfl rfl ?_
      refine v_bipush (nI 12) dX3_turnFace_40 (by decide) ?_
      refine v_icmp_ge 140 dX3_turnFace_42 (by decide) (fun b42 => ?_) (fun b42 => ?_)
      · rw [nI_leI (by omega) (by omega)] at b42
        omega
      · rw [nI_leI (by omega) (by omega)] at b42
        refine v_aload_n dX3_turnFace_45 rfl rfl ?_
        refine v_getfield fX3_9 dX3_turnFace_46 (by assumption) (by rfl) ?_
        refine v_iload_n dX3_turnFace_49 rfl rfl ?_
        refine v_bipush (nI 12) dX3_turnFace_50 (by decide) ?_
        refine v_imul dX3_turnFace_52 ?_
        rw [pk_mul]
        refine v_iload_n dX3_turnFace_53 rfl rfl ?_
        refine v_iadd dX3_turnFace_54 ?_
        rw [nI_add]
        refine v_iaload dX3_turnFace_55 hsc3 (vp_in_nI (by omega) (by omega)) ?_
        rw [nI_clamp (by omega), hsv _ (by omega)]
        refine v_istore dX3_turnFace_56 (by decide) ?_
        refine v_iload_n dX3_turnFace_58 rfl rfl ?_
        refine v_if_ne 86 dX3_turnFace_59 (by decide) (fun b59 => ?_) (fun b59 => ?_)
        · refine v_iload_n dX3_turnFace_86 rfl rfl ?_
          refine v_iconst (nI 1) dX3_turnFace_87 (by decide) ?_
          refine v_icmp_ne 115 dX3_turnFace_88 (by decide) (fun b88 => ?_) (fun b88 => ?_)
          · exact absurd rfl b88
          · refine v_aload_n dX3_turnFace_91 rfl rfl ?_
            refine v_getfield fX3_34 dX3_turnFace_92 (by assumption) (by rfl) ?_
            refine v_getfield fX3_143 dX3_turnFace_95 (by assumption) (by rfl) ?_
            refine v_iload_n dX3_turnFace_98 rfl rfl ?_
            refine v_bipush (nI 12) dX3_turnFace_99 (by decide) ?_
            refine v_imul dX3_turnFace_101 ?_
            rw [pk_mul]
            refine v_bipush (nI 12) dX3_turnFace_102 (by decide) ?_
            refine v_iadd dX3_turnFace_104 ?_
            rw [nI_add]
            refine v_iconst (nI 1) dX3_turnFace_105 (by decide) ?_
            refine v_isub dX3_turnFace_106 ?_
            rw [pk_sub (by omega)]
            refine v_iload_n dX3_turnFace_107 rfl rfl ?_
            refine v_isub dX3_turnFace_108 ?_
            rw [pk_sub (by omega)]
            refine v_iload dX3_turnFace_109 rfl ?_
            refine v_iastoreX dX3_turnFace_111 hg (vp_in_nI (by omega) (by omega)) (fun f4 hp4 => ?_)
            rw [nI_clamp (by omega)] at hp4
            have hf4 : zFr (fun τ => τ = 7) f2 f4 := zFr.put (T := fun τ => τ = 7) hff hp4 rfl
            refine v_goto 134 dX3_turnFace_112 (by decide) ?_
            refine v_iincN dX3_turnFace_134 rfl (by decide) ?_
            refine v_goto 39 dX3_turnFace_137 (by decide) ?_
            refine v_loc (lv' := [(0, .ref o), (1, .int (nI 1)), (2, .int (nI i)), (3, .int (nI (j + 1)))]) ⟨rfl, rfl, rfl, rfl, trivial⟩ (ihj (j + 1) (by omega) f4 _ hp4.1 (fun p hp5 hs5 => ?_) hf4)
            unfold upd
            by_cases e : p = i * 12 + 12 - 1 - j
            · rw [if_pos e]
              unfold sTurn
              rw [show sTs 1 p = i * 12 + j from by rw [show sTs 1 p = p / 12 * 12 + (11 - p % 12) from rfl]; omega]
              rfl
            · rw [if_neg e]
              refine hgi p hp5 ?_
              have h6 : sTs 1 p ≠ i * 12 + j := fun h7 => e (by rw [show sTs 1 p = p / 12 * 12 + (11 - p % 12) from rfl] at h7; omega)
              omega
        · exact absurd b59 (by decide)
  have outer : ∀ (kk i : Nat), i + kk = 12 → ∀ (f3 : zHM) (g : Nat → Int32), f3 (A 6) = some (0 + 7, .inl (0, 144, .inl g)) → (∀ p, p < 144 → sTs 1 p < i * 12 → g p = sTurn 1 (ρ 7) p) → zFr (fun τ => τ = 7) f2 f3 → zV G yX3_turnFace cX3_turnFace 5 (some .int) 7 31 [(0, .ref o), (1, .int (nI 1)), (2, .int (nI i))] [] (f3, m1) (zD (some (.int (sMisfit (zset ρ 7 (sTurn 1 (ρ 7)))))) (ZPT zTV f o r tr sc tx sl sv k la A gv st M (ρ, n, xs, tm) (zset ρ 7 (sTurn 1 (ρ 7)), n, xs, tm))) := by
    intro kk
    induction kk with
    | zero =>
      intro i hi f3 g hg hgi hff
      have hi : i = 12 := by omega
      subst hi
      have ho3 := hff _ _ _ ho2 (by omega)
      have hr3 : RPic f3 0 r la A (zset ρ 7 (sTurn 1 (ρ 7))) n xs tm := hr2.ar7 _ ⟨g, hg, fun p hp => hgi p hp (sTs_lt hp)⟩ hff
      refine v_iload_n dX3_turnFace_31 rfl rfl ?_
      refine v_bipush (nI 12) dX3_turnFace_32 (by decide) ?_
      refine v_icmp_ge 146 dX3_turnFace_34 (by decide) (fun _ => ?_) (fun b => absurd (by rw [nI_leI (by omega) (by omega)]; omega) b)
      refine v_aload_n dX3_turnFace_146 rfl rfl ?_
      refine v_getfield fX3_34 dX3_turnFace_147 ho3 (by rfl) ?_
      refine v_callVp kX3_152 gi_X1_misfit ge_X1_misfit rfl dX3_turnFace_150 hr3.1 (c_misfit hr3) rfl rfl (by decide) (Nat.le_of_ble_eq_true rfl) ?_
      exact v_ireturn dX3_turnFace_153 rfl ⟨rfl, ZPT.of hs1 ((hL1.fr hf2 (fun t ht => by omega)).fr hff (fun t ht => by omega)) hB1 hB2 ho1 hf1 ((hf2.weaken (T' := fun τ => τ = 601 ∨ τ = 7) (fun τ h => Or.inl h)).trans (hff.weaken (fun τ h => Or.inr h))) (fun τ h => by show _ ∨ _; omega) (fun τ h => ⟨by show _ ∨ _; omega, fun h9 => by rcases h9 with h9 | h9 | h9 <;> omega⟩) hr3 (hff _ _ _ hsc2 (by omega))⟩
    | succ kk ih =>
      intro i hi f3 g hg hgi hff
      have h9 : i < 12 := by omega
      refine v_iload_n dX3_turnFace_31 rfl rfl ?_
      refine v_bipush (nI 12) dX3_turnFace_32 (by decide) ?_
      refine v_icmp_ge 146 dX3_turnFace_34 (by decide) (fun b => absurd b (by rw [nI_leI (by omega) (by omega)]; omega)) (fun _ => ?_)
      refine v_iconst (nI 0) dX3_turnFace_37 (by decide) ?_
      refine v_istore_n dX3_turnFace_38 rfl (by decide) ?_
      exact v_loc (lv' := [(0, .ref o), (1, .int (nI 1)), (2, .int (nI i)), (3, .int (nI 0))]) ⟨rfl, rfl, rfl, rfl, trivial⟩ (inner i h9 (fun f4 g4 h1 h2 h3 => ih (i + 1) (by omega) f4 g4 h1 h2 h3) 12 0 (by omega) f3 g hg (fun p h1 h2 => hgi p h1 (by omega)) hff)
  obtain ⟨-, -, -, -, -, -, -, ⟨g9, b7, e9⟩, -⟩ := id hr2
  refine v_iconst (nI 0) dX3_turnFace_29 (by decide) ?_
  refine v_istore_n dX3_turnFace_30 rfl (by decide) ?_
  exact v_loc (lv' := [(0, .ref o), (1, .int (nI 1)), (2, .int (nI 0))]) ⟨rfl, rfl, rfl, trivial⟩ (outer 12 0 (by omega) f2 g9 b7 (fun p h1 h2 => absurd h2 (by omega)) zFr.refl)
set_option maxRecDepth 10000 in
set_option maxHeartbeats 1000000 in
theorem c_turnFace_2 {G : zW} {f : zHM} {m : Nat × Nat} {o r tr sc tx sl sv k la n : Nat} {A : Nat → Nat} {ρ : zRS} {xs tm : Nat → Int32} (ho : f o = some (600, .inr (3, zOb r tr sc tx sl sv k))) (hr : RPic f 0 r la A ρ n xs tm) (hn201 : n ≤ 201) {M : Nat × Nat} (hL : LNok f m la M) {gv : Nat → Option Nat} {π : Nat → Nat} {st : Nat → zST} (hs : SVP f sv la gv π k st) (hB : M.1 + 11 * zcn gv 6 ≤ 50000 ∧ M.2 + 1339 * zcn gv 6 ≤ 399990) {gsc : Nat → Int32} (hsc : f sc = some (601, .inl (0, 144, .inl gsc))) : zM G yX3_turnFace cX3_turnFace 5 (some .int) 7 [.ref o, .int (nI 2)] (f, m) (zD (some (.int (sMisfit (zset ρ 7 (sTurn 2 (ρ 7)))))) (ZPT zTV f o r tr sc tx sl sv k la A gv st M (ρ, n, xs, tm) (zset ρ 7 (sTurn 2 (ρ 7)), n, xs, tm))) := by
  refine zM.of (by decide) (Nat.le_of_ble_eq_true rfl) ?_
  have r0 := hr.1
  refine v_iload_n dX3_turnFace_0 rfl rfl ?_
  refine v_iconst (nI 0) dX3_turnFace_1 (by decide) ?_
  refine v_iconst (nI 2) dX3_turnFace_2 (by decide) ?_
  refine v_callS0p kX3_72 gs_X3_needRange dX3_turnFace_3 (c_needRange (nI_pos (by omega)) (show nI 2 ≤ nI 2 from by decide)) rfl rfl (by decide) (Nat.le_of_ble_eq_true rfl) ?_
  refine v_aload_n dX3_turnFace_6 rfl rfl ?_
  refine v_callV0 kX3_52 gi_X3_save ge_X3_save rfl dX3_turnFace_7 (by assumption) (c_save ho hr hn201 hL hs hB) rfl rfl (by decide) (Nat.le_of_ble_eq_true rfl) (fun f1 m1 hc => ?_)
  obtain ⟨gv1, π1, M1, hs1, hL1, hB1, hB2, ho1, hf1⟩ := hc
  have hr1 := hr.fr hf1 (fun k hk h => by rcases h with h | h | h <;> omega)
  obtain ⟨r0, ⟨g1, a1, e1⟩, ⟨g2, a2, e2⟩, ⟨g3, a3, e3⟩, ⟨g4, a4, e4⟩, ⟨g5, a5, e5⟩, ⟨g6, a6, e6⟩, ⟨g7, a7, e7⟩, ⟨g8, a8, e8⟩, ⟨g9, a9, e9⟩, ⟨g10, a10, e10⟩⟩ := id hr1
  have hsc1 := hf1 _ _ _ hsc (fun h => by rcases h with h | h | h <;> omega)
  refine v_aload_n dX3_turnFace_10 rfl rfl ?_
  refine v_getfield fX3_34 dX3_turnFace_11 (by assumption) (by rfl) ?_
  refine v_getfield fX3_143 dX3_turnFace_14 (by assumption) (by rfl) ?_
  refine v_iconst (nI 0) dX3_turnFace_17 (by decide) ?_
  refine v_aload_n dX3_turnFace_18 rfl rfl ?_
  refine v_getfield fX3_9 dX3_turnFace_19 (by assumption) (by rfl) ?_
  refine v_iconst (nI 0) dX3_turnFace_22 (by decide) ?_
  refine v_sipush (nI 144) dX3_turnFace_23 (by decide) ?_
  refine v_copyIX gcpX3 gcpN gcpS gcpI dX3_turnFace_26 a7 hsc1 (by decide) (by decide) (nI_pos (by omega)) (by rw [show (nI 0).toNatClampNeg = 0 from rfl, nI_clamp (by omega)]; omega) (by rw [show (nI 0).toNatClampNeg = 0 from rfl, nI_clamp (by omega)]; omega) (by decide) (Nat.le_of_ble_eq_true rfl) (fun f2 hp => ?_)
  have hsv := zcp0 g7 gsc (ρ 7) 144 (by omega) e7
  have hsc2 := hp.1
  generalize va_cpy g7 gsc (nI 0).toNatClampNeg (nI 0).toNatClampNeg (nI 144).toNatClampNeg = gs2 at hsv hsc2
  have hf2 : zFr (fun τ => τ = 601) f1 f2 := zFr.put (T := fun τ => τ = 601) zFr.refl hp rfl
  have hr2 := hr1.fr hf2 (fun k hk h => by omega)
  have ho2 := hf2 _ _ _ ho1 (by omega)
  have inner : ∀ (i : Nat), i < 12 → (∀ (f3 : zHM) (g : Nat → Int32), f3 (A 6) = some (0 + 7, .inl (0, 144, .inl g)) → (∀ p, p < 144 → sTs 2 p < (i + 1) * 12 → g p = sTurn 2 (ρ 7) p) → zFr (fun τ => τ = 7) f2 f3 → zV G yX3_turnFace cX3_turnFace 5 (some .int) 7 31 [(0, .ref o), (1, .int (nI 2)), (2, .int (nI (i + 1)))] [] (f3, m1) (zD (some (.int (sMisfit (zset ρ 7 (sTurn 2 (ρ 7)))))) (ZPT zTV f o r tr sc tx sl sv k la A gv st M (ρ, n, xs, tm) (zset ρ 7 (sTurn 2 (ρ 7)), n, xs, tm)))) → ∀ (kk j : Nat), j + kk = 12 → ∀ (f3 : zHM) (g : Nat → Int32), f3 (A 6) = some (0 + 7, .inl (0, 144, .inl g)) → (∀ p, p < 144 → sTs 2 p < i * 12 + j → g p = sTurn 2 (ρ 7) p) → zFr (fun τ => τ = 7) f2 f3 → zV G yX3_turnFace cX3_turnFace 5 (some .int) 7 39 [(0, .ref o), (1, .int (nI 2)), (2, .int (nI i)), (3, .int (nI j))] [] (f3, m1) (zD (some (.int (sMisfit (zset ρ 7 (sTurn 2 (ρ 7)))))) (ZPT zTV f o r tr sc tx sl sv k la A gv st M (ρ, n, xs, tm) (zset ρ 7 (sTurn 2 (ρ 7)), n, xs, tm))) := by
    intro i h12 hout kk
    induction kk with
    | zero =>
      intro j hj f3 g hg hgi hff
      have hj : j = 12 := by omega
      subst hj
      have ho3 := hff _ _ _ ho2 (by omega)
      refine v_iload_n dX3_turnFace_39 rfl rfl ?_
      refine v_bipush (nI 12) dX3_turnFace_40 (by decide) ?_
      refine v_icmp_ge 140 dX3_turnFace_42 (by decide) (fun _ => ?_) (fun b => absurd (by rw [nI_leI (by omega) (by omega)]; omega) b)
      refine v_iincN dX3_turnFace_140 rfl (by decide) ?_
      refine v_goto 31 dX3_turnFace_143 (by decide) ?_
      exact v_loc (lv' := [(0, .ref o), (1, .int (nI 2)), (2, .int (nI (i + 1)))]) ⟨rfl, rfl, rfl, trivial⟩ (hout f3 g hg (fun p h1 h2 => hgi p h1 (by omega)) hff)
    | succ kk ihj =>
      intro j hj f3 g hg hgi hff
      have h9 : j < 12 := by omega
      have ho3 := hff _ _ _ ho2 (by omega)
      have r03 := hff _ _ _ hr2.1 (by omega)
      have hsc3 := hff _ _ _ hsc2 (by omega)
      refine v_iload_n dX3_turnFace_39 rfl rfl ?_
      refine v_bipush (nI 12) dX3_turnFace_40 (by decide) ?_
      refine v_icmp_ge 140 dX3_turnFace_42 (by decide) (fun b42 => ?_) (fun b42 => ?_)
      · rw [nI_leI (by omega) (by omega)] at b42
        omega
      · rw [nI_leI (by omega) (by omega)] at b42
        refine v_aload_n dX3_turnFace_45 rfl rfl ?_
        refine v_getfield fX3_9 dX3_turnFace_46 (by assumption) (by rfl) ?_
        refine v_iload_n dX3_turnFace_49 rfl rfl ?_
        refine v_bipush (nI 12) dX3_turnFace_50 (by decide) ?_
        refine v_imul dX3_turnFace_52 ?_
        rw [pk_mul]
        refine v_iload_n dX3_turnFace_53 rfl rfl ?_
        refine v_iadd dX3_turnFace_54 ?_
        rw [nI_add]
        refine v_iaload dX3_turnFace_55 hsc3 (vp_in_nI (by omega) (by omega)) ?_
        rw [nI_clamp (by omega), hsv _ (by omega)]
        refine v_istore dX3_turnFace_56 (by decide) ?_
        refine v_iload_n dX3_turnFace_58 rfl rfl ?_
        refine v_if_ne 86 dX3_turnFace_59 (by decide) (fun b59 => ?_) (fun b59 => ?_)
        · refine v_iload_n dX3_turnFace_86 rfl rfl ?_
          refine v_iconst (nI 1) dX3_turnFace_87 (by decide) ?_
          refine v_icmp_ne 115 dX3_turnFace_88 (by decide) (fun b88 => ?_) (fun b88 => ?_)
          · refine v_aload_n dX3_turnFace_115 rfl rfl ?_
            refine v_getfield fX3_34 dX3_turnFace_116 (by assumption) (by rfl) ?_
            refine v_getfield fX3_143 dX3_turnFace_119 (by assumption) (by rfl) ?_
            refine v_iload_n dX3_turnFace_122 rfl rfl ?_
            refine v_bipush (nI 12) dX3_turnFace_123 (by decide) ?_
            refine v_imul dX3_turnFace_125 ?_
            rw [pk_mul]
            refine v_iload_n dX3_turnFace_126 rfl rfl ?_
            refine v_iadd dX3_turnFace_127 ?_
            rw [nI_add]
            refine v_bipush (nI 9) dX3_turnFace_128 (by decide) ?_
            refine v_iload dX3_turnFace_130 rfl ?_
            refine v_isub dX3_turnFace_132 ?_
            refine v_iastoreX dX3_turnFace_133 hg (vp_in_nI (by omega) (by omega)) (fun f4 hp4 => ?_)
            rw [nI_clamp (by omega)] at hp4
            have hf4 : zFr (fun τ => τ = 7) f2 f4 := zFr.put (T := fun τ => τ = 7) hff hp4 rfl
            refine v_iincN dX3_turnFace_134 rfl (by decide) ?_
            refine v_goto 39 dX3_turnFace_137 (by decide) ?_
            refine v_loc (lv' := [(0, .ref o), (1, .int (nI 2)), (2, .int (nI i)), (3, .int (nI (j + 1)))]) ⟨rfl, rfl, rfl, rfl, trivial⟩ (ihj (j + 1) (by omega) f4 _ hp4.1 (fun p hp5 hs5 => ?_) hf4)
            unfold upd
            by_cases e : p = i * 12 + j
            · rw [if_pos e]
              unfold sTurn
              rw [show sTs 2 p = i * 12 + j from by rw [show sTs 2 p = p from rfl]; omega]
              rfl
            · rw [if_neg e]
              refine hgi p hp5 ?_
              have h6 : sTs 2 p ≠ i * 12 + j := fun h7 => e (by rw [show sTs 2 p = p from rfl] at h7; omega)
              omega
          · exact absurd b88 (by decide)
        · exact absurd b59 (by decide)
  have outer : ∀ (kk i : Nat), i + kk = 12 → ∀ (f3 : zHM) (g : Nat → Int32), f3 (A 6) = some (0 + 7, .inl (0, 144, .inl g)) → (∀ p, p < 144 → sTs 2 p < i * 12 → g p = sTurn 2 (ρ 7) p) → zFr (fun τ => τ = 7) f2 f3 → zV G yX3_turnFace cX3_turnFace 5 (some .int) 7 31 [(0, .ref o), (1, .int (nI 2)), (2, .int (nI i))] [] (f3, m1) (zD (some (.int (sMisfit (zset ρ 7 (sTurn 2 (ρ 7)))))) (ZPT zTV f o r tr sc tx sl sv k la A gv st M (ρ, n, xs, tm) (zset ρ 7 (sTurn 2 (ρ 7)), n, xs, tm))) := by
    intro kk
    induction kk with
    | zero =>
      intro i hi f3 g hg hgi hff
      have hi : i = 12 := by omega
      subst hi
      have ho3 := hff _ _ _ ho2 (by omega)
      have hr3 : RPic f3 0 r la A (zset ρ 7 (sTurn 2 (ρ 7))) n xs tm := hr2.ar7 _ ⟨g, hg, fun p hp => hgi p hp (sTs_lt hp)⟩ hff
      refine v_iload_n dX3_turnFace_31 rfl rfl ?_
      refine v_bipush (nI 12) dX3_turnFace_32 (by decide) ?_
      refine v_icmp_ge 146 dX3_turnFace_34 (by decide) (fun _ => ?_) (fun b => absurd (by rw [nI_leI (by omega) (by omega)]; omega) b)
      refine v_aload_n dX3_turnFace_146 rfl rfl ?_
      refine v_getfield fX3_34 dX3_turnFace_147 ho3 (by rfl) ?_
      refine v_callVp kX3_152 gi_X1_misfit ge_X1_misfit rfl dX3_turnFace_150 hr3.1 (c_misfit hr3) rfl rfl (by decide) (Nat.le_of_ble_eq_true rfl) ?_
      exact v_ireturn dX3_turnFace_153 rfl ⟨rfl, ZPT.of hs1 ((hL1.fr hf2 (fun t ht => by omega)).fr hff (fun t ht => by omega)) hB1 hB2 ho1 hf1 ((hf2.weaken (T' := fun τ => τ = 601 ∨ τ = 7) (fun τ h => Or.inl h)).trans (hff.weaken (fun τ h => Or.inr h))) (fun τ h => by show _ ∨ _; omega) (fun τ h => ⟨by show _ ∨ _; omega, fun h9 => by rcases h9 with h9 | h9 | h9 <;> omega⟩) hr3 (hff _ _ _ hsc2 (by omega))⟩
    | succ kk ih =>
      intro i hi f3 g hg hgi hff
      have h9 : i < 12 := by omega
      refine v_iload_n dX3_turnFace_31 rfl rfl ?_
      refine v_bipush (nI 12) dX3_turnFace_32 (by decide) ?_
      refine v_icmp_ge 146 dX3_turnFace_34 (by decide) (fun b => absurd b (by rw [nI_leI (by omega) (by omega)]; omega)) (fun _ => ?_)
      refine v_iconst (nI 0) dX3_turnFace_37 (by decide) ?_
      refine v_istore_n dX3_turnFace_38 rfl (by decide) ?_
      exact v_loc (lv' := [(0, .ref o), (1, .int (nI 2)), (2, .int (nI i)), (3, .int (nI 0))]) ⟨rfl, rfl, rfl, rfl, trivial⟩ (inner i h9 (fun f4 g4 h1 h2 h3 => ih (i + 1) (by omega) f4 g4 h1 h2 h3) 12 0 (by omega) f3 g hg (fun p h1 h2 => hgi p h1 (by omega)) hff)
  obtain ⟨-, -, -, -, -, -, -, ⟨g9, b7, e9⟩, -⟩ := id hr2
  refine v_iconst (nI 0) dX3_turnFace_29 (by decide) ?_
  refine v_istore_n dX3_turnFace_30 rfl (by decide) ?_
  exact v_loc (lv' := [(0, .ref o), (1, .int (nI 2)), (2, .int (nI 0))]) ⟨rfl, rfl, rfl, trivial⟩ (outer 12 0 (by omega) f2 g9 b7 (fun p h1 h2 => absurd h2 (by omega)) zFr.refl)
