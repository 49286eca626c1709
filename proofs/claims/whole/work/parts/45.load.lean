abbrev zTW : Nat → Prop := fun τ => τ ≤ 10 ∨ τ = 600 ∨ τ = 601 ∨ τ = 602 ∨ τ = 605 ∨ (100 ≤ τ ∧ τ ≤ 210) ∨ τ = 950
def sDf (φ ψ : Nat → Int32) : Nat → Nat
  | 0 => 0
  | n + 1 => sDf φ ψ n + (if φ n = ψ n then 0 else 1)
theorem sDf_le (φ ψ : Nat → Int32) : ∀ n, sDf φ ψ n ≤ n
  | 0 => Nat.le_refl _
  | n + 1 => by
    have := sDf_le φ ψ n
    unfold sDf
    split <;> omega
set_option maxRecDepth 10000 in
set_option maxHeartbeats 1000000 in
theorem c_load {G : zW} {f : zHM} {m : Nat × Nat} {o r tr sc tx sl sv k la n : Nat} {A : Nat → Nat} {ρ : zRS} {xs tm : Nat → Int32} (ho : f o = some (600, .inr (3, zOb r tr sc tx sl sv k))) (hr : RPic f 0 r la A ρ n xs tm) (hn201 : n ≤ 201) {M : Nat × Nat} (hL : LNok f m la M) {gv : Nat → Option Nat} {π : Nat → Nat} {st : Nat → zST} (hs : SVP f sv la gv π k st) (hB : M.1 + 11 * zcn gv 6 ≤ 50000 ∧ M.2 + 1339 * zcn gv 6 ≤ 399990) {gsc : Nat → Int32} (hsc : f sc = some (601, .inl (0, 144, .inl gsc))) {co L : Nat} {ch : Nat → Nat} (hp : TPic f 602 tx co L ch) (hL60 : L ≤ 60) (hF : sEnd (sRun ch L) = true) : zM G yX3_load cX3_load 3 (some .int) 7 [.ref o] (f, m) (zD (some (.int (nI (sDf (sTl ch (ρ 7) L).2.2.2 (ρ 7) 144)))) (fun f' m' => ZPT zTW f o r tr sc tx sl sv k la A gv st M (ρ, n, xs, tm) (zset ρ 7 (sTl ch (ρ 7) L).2.2.2, n, xs, tm) f' m' ∧ TPic f' 602 tx co 0 ch)) := by
  refine zM.of (by decide) (Nat.le_of_ble_eq_true rfl) ?_
  have r0 := hr.1
  have hpt := hp.1
  refine v_aload_n dX3_load_0 rfl rfl ?_
  refine v_getfield fX3_16 dX3_load_1 (by assumption) (by rfl) ?_
  refine v_callVp kX3_167 gi_X2_isFace ge_X2_isFace rfl dX3_load_4 hp.1 (c_isFace hp hL60) rfl rfl (by decide) (Nat.le_of_ble_eq_true rfl) ?_
  rw [hF]
  refine v_if_ne 20 dX3_load_7 (by decide) (fun b7 => ?_) (fun b7 => ?_)
  · refine v_aload_n dX3_load_20 rfl rfl ?_
    refine v_callV0 kX3_52 gi_X3_save ge_X3_save rfl dX3_load_21 (by assumption) (c_save ho hr hn201 hL hs hB) rfl rfl (by decide) (Nat.le_of_ble_eq_true rfl) (fun f1 m1 hc => ?_)
    obtain ⟨gv1, π1, M1, hs1, hL1, hB1, hB2, ho1, hf1⟩ := hc
    have hr1 := hr.fr hf1 (fun k hk h => by rcases h with h | h | h <;> omega)
    obtain ⟨r0, ⟨g1, a1, e1⟩, ⟨g2, a2, e2⟩, ⟨g3, a3, e3⟩, ⟨g4, a4, e4⟩, ⟨g5, a5, e5⟩, ⟨g6, a6, e6⟩, ⟨g7, a7, e7⟩, ⟨g8, a8, e8⟩, ⟨g9, a9, e9⟩, ⟨g10, a10, e10⟩⟩ := id hr1
    have hsc1 := hf1 _ _ _ hsc (fun h => by rcases h with h | h | h <;> omega)
    have hp1 := hp.fr hf1 (fun h => by rcases h with h | h | h <;> omega) (fun h => by rcases h with h | h | h <;> omega)
    refine v_aload_n dX3_load_24 rfl rfl ?_
    refine v_getfield fX3_34 dX3_load_25 (by assumption) (by rfl) ?_
    refine v_getfield fX3_143 dX3_load_28 (by assumption) (by rfl) ?_
    refine v_iconst (nI 0) dX3_load_31 (by decide) ?_
    refine v_aload_n dX3_load_32 rfl rfl ?_
    refine v_getfield fX3_9 dX3_load_33 (by assumption) (by rfl) ?_
    refine v_iconst (nI 0) dX3_load_36 (by decide) ?_
    refine v_sipush (nI 144) dX3_load_37 (by decide) ?_
    refine v_copyIX gcpX3 gcpN gcpS gcpI dX3_load_40 a7 hsc1 (by decide) (by decide) (nI_pos (by omega)) (by rw [show (nI 0).toNatClampNeg = 0 from rfl, nI_clamp (by omega)]; omega) (by rw [show (nI 0).toNatClampNeg = 0 from rfl, nI_clamp (by omega)]; omega) (by decide) (Nat.le_of_ble_eq_true rfl) (fun f2 hp => ?_)
    have hsv := zcp0 g7 gsc (ρ 7) 144 (by omega) e7
    have hsc2 := hp.1
    generalize va_cpy g7 gsc (nI 0).toNatClampNeg (nI 0).toNatClampNeg (nI 144).toNatClampNeg = gs2 at hsv hsc2
    have hf2 : zFr (fun τ => τ = 601) f1 f2 := zFr.put (T := fun τ => τ = 601) zFr.refl hp rfl
    have hr2 := hr1.fr hf2 (fun k hk h => by omega)
    have ho2 := hf2 _ _ _ ho1 (by omega)
    have hp2 := hp1.fr hf2 (by omega) (by omega)
    obtain ⟨-, -, -, -, -, -, -, ⟨g9, b7, e9⟩, -⟩ := id hr2
    refine v_aload_n dX3_load_43 rfl rfl ?_
    refine v_getfield fX3_16 dX3_load_44 ho2 (by rfl) ?_
    refine v_aload_n dX3_load_47 rfl rfl ?_
    refine v_getfield fX3_34 dX3_load_48 ho2 (by rfl) ?_
    refine v_getfield fX3_143 dX3_load_51 hr2.1 (by rfl) ?_
    refine v_callV0 kX3_173 gi_X2_tellTo ge_X2_tellTo rfl dX3_load_54 hp2.1 (c_tellTo hp2 hL60 b7 e9 ⟨by omega, by omega⟩) rfl rfl (by decide) (Nat.le_of_ble_eq_true rfl) (fun f3 m3 hc => ?_)
    obtain ⟨⟨g', c1, c2⟩, c3, rfl⟩ := hc
    generalize (sTl ch (ρ 7) L).2.2.2 = φ at c2 ⊢
    have hr3 := hr2.ar7 φ ⟨g', c1, c2⟩ c3
    have ho3 := c3 _ _ _ ho2 (by omega)
    have hsc3 := c3 _ _ _ hsc2 (by omega)
    have hp3 := hp2.fr c3 (by omega) (by omega)
    refine v_aload_n dX3_load_57 rfl rfl ?_
    refine v_getfield fX3_16 dX3_load_58 ho3 (by rfl) ?_
    refine v_iconst (nI 0) dX3_load_61 (by decide) ?_
    refine v_putfieldX fX3_155 dX3_load_62 hp3.1 rfl rfl (Nat.le_of_ble_eq_true rfl) (fun f4 hp4 => ?_)
    have hf4 : zFr (fun τ => τ = 602) f3 f4 := zFr.put (T := fun τ => τ = 602) zFr.refl hp4 rfl
    have hr4 := hr3.fr hf4 (fun k hk h => by omega)
    have ho4 := hf4 _ _ _ ho3 (by omega)
    have hsc4 := hf4 _ _ _ hsc3 (by omega)
    have c14 := hf4 _ _ _ c1 (by omega)
    have hp4' : TPic f4 602 tx co 0 ch := by
      obtain ⟨_, g, e2, _⟩ := hp3
      exact ⟨hp4.1, g, hf4 _ _ _ e2 (by omega), fun i hi => absurd hi (Nat.not_lt_zero i)⟩
    have hfin : zFr (fun τ => τ = 601 ∨ τ = 7 ∨ τ = 602) f1 f4 := ((hf2.weaken (fun τ h => Or.inl h)).trans (c3.weaken (fun τ h => Or.inr (Or.inl (by omega))))).trans (hf4.weaken (fun τ h => Or.inr (Or.inr h)))
    have hL4 : LNok f4 m3 la M1 := hL1.fr hfin (fun t ht h => by omega)
    have loop : ∀ (kk i : Nat), i + kk = 144 → zV G yX3_load cX3_load 3 (some .int) 7 69 [(0, .ref o), (1, .int (nI (sDf φ (ρ 7) i))), (2, .int (nI i))] [] (f4, m3) (zD (some (.int (nI (sDf φ (ρ 7) 144)))) (fun f' m' => ZPT zTW f o r tr sc tx sl sv k la A gv st M (ρ, n, xs, tm) (zset ρ 7 φ, n, xs, tm) f' m' ∧ TPic f' 602 tx co 0 ch)) := by
      intro kk
      induction kk with
      | zero =>
        intro i hi
        have hi : i = 144 := by omega
        subst hi
        refine v_iload_n dX3_load_69 rfl rfl ?_
        refine v_sipush (nI 144) dX3_load_70 (by decide) ?_
        refine v_icmp_ge 103 dX3_load_73 (by decide) (fun _ => ?_) (fun b => absurd (by rw [nI_leI (by omega) (by omega)]; omega) b)
        refine v_iload_n dX3_load_103 rfl rfl ?_
        exact v_ireturn dX3_load_104 rfl ⟨rfl, ZPT.of hs1 hL4 hB1 hB2 ho1 hf1 hfin (fun τ h => by show _ ∨ _; omega) (fun τ h => ⟨by show _ ∨ _; omega, fun h9 => by rcases h9 with h9 | h9 | h9 <;> omega⟩) hr4 hsc4, hp4'⟩
      | succ kk ih =>
        intro i hi
        have h9 : i < 144 := by omega
        have hle := sDf_le φ (ρ 7) i
        refine v_iload_n dX3_load_69 rfl rfl ?_
        refine v_sipush (nI 144) dX3_load_70 (by decide) ?_
        refine v_icmp_ge 103 dX3_load_73 (by decide) (fun b => absurd b (by rw [nI_leI (by omega) (by omega)]; omega)) (fun _ => ?_)
        refine v_aload_n dX3_load_76 rfl rfl ?_
        refine v_getfield fX3_34 dX3_load_77 ho4 (by rfl) ?_
        refine v_getfield fX3_143 dX3_load_80 hr4.1 (by rfl) ?_
        refine v_iload_n dX3_load_83 rfl rfl ?_
        refine v_iaload dX3_load_84 c14 (vp_in_nI (by omega) (by omega)) ?_
        rw [nI_clamp (by omega), c2 _ h9]
        refine v_aload_n dX3_load_85 rfl rfl ?_
        refine v_getfield fX3_9 dX3_load_86 ho4 (by rfl) ?_
        refine v_iload_n dX3_load_89 rfl rfl ?_
        refine v_iaload dX3_load_90 hsc4 (vp_in_nI (by omega) (by omega)) ?_
        rw [nI_clamp (by omega), hsv _ h9]
        refine v_icmp_eq 97 dX3_load_91 (by decide) (fun he => ?_) (fun he => ?_)
        · have e : sDf φ (ρ 7) (i + 1) = sDf φ (ρ 7) i := by
            show sDf φ (ρ 7) i + (if φ i = ρ 7 i then 0 else 1) = _
            rw [if_pos he]
            rfl
          have h8 := ih (i + 1) (by omega)
          rw [e] at h8
          refine v_iincN dX3_load_97 rfl (by decide) ?_
          refine v_goto 69 dX3_load_100 (by decide) ?_
          exact v_loc (lv' := [(0, .ref o), (1, .int (nI (sDf φ (ρ 7) i))), (2, .int (nI (i + 1)))]) ⟨rfl, rfl, rfl, trivial⟩ h8
        · have e : sDf φ (ρ 7) (i + 1) = sDf φ (ρ 7) i + 1 := by
            show sDf φ (ρ 7) i + (if φ i = ρ 7 i then 0 else 1) = _
            rw [if_neg he]
          have h8 := ih (i + 1) (by omega)
          rw [e] at h8
          refine v_iincN dX3_load_94 rfl (by decide) ?_
          refine v_iincN dX3_load_97 rfl (by decide) ?_
          refine v_goto 69 dX3_load_100 (by decide) ?_
          exact v_loc (lv' := [(0, .ref o), (1, .int (nI (sDf φ (ρ 7) i + 1))), (2, .int (nI (i + 1)))]) ⟨rfl, rfl, rfl, trivial⟩ h8
    refine v_iconst (nI 0) dX3_load_65 (by decide) ?_
    refine v_istore_n dX3_load_66 rfl (by decide) ?_
    refine v_iconst (nI 0) dX3_load_67 (by decide) ?_
    refine v_istore_n dX3_load_68 rfl (by decide) ?_
    exact v_loc (lv' := [(0, .ref o), (1, .int (nI (sDf φ (ρ 7) 0))), (2, .int (nI 0))]) ⟨rfl, rfl, rfl, trivial⟩ (loop 144 0 (by omega))
  · exact absurd b7 (by decide)
set_option maxRecDepth 10000 in
set_option maxHeartbeats 1000000 in
theorem x_load {G : zW} {f : zHM} {m : Nat × Nat} {o r tr sc tx sl sv k la n : Nat} {A : Nat → Nat} {ρ : zRS} {xs tm : Nat → Int32} (ho : f o = some (600, .inr (3, zOb r tr sc tx sl sv k))) (hr : RPic f 0 r la A ρ n xs tm) (hm1 : m.1 + 1 ≤ 50000) (hm2 : m.2 + 6 ≤ 400000) {co L : Nat} {ch : Nat → Nat} (hp : TPic f 602 tx co L ch) (hL60 : L ≤ 60) (hF : sEnd (sRun ch L) = false) : zM G yX3_load cX3_load 3 (some .int) 7 [.ref o] (f, m) (zDx xIAE (zTh f m)) := by
  refine zM.of (by decide) (Nat.le_of_ble_eq_true rfl) ?_
  have r0 := hr.1
  have hpt := hp.1
  refine v_aload_n dX3_load_0 rfl rfl ?_
  refine v_getfield fX3_16 dX3_load_1 (by assumption) (by rfl) ?_
  refine v_callVp kX3_167 gi_X2_isFace ge_X2_isFace rfl dX3_load_4 hp.1 (c_isFace hp hL60) rfl rfl (by decide) (Nat.le_of_ble_eq_true rfl) ?_
  rw [hF]
  refine v_if_ne 20 dX3_load_7 (by decide) (fun b7 => ?_) (fun b7 => ?_)
  · exact absurd rfl b7
  · exact v_throwS (h := (f, m)) (text := "the buffer tells no face") rfl zth_45 (by decide) dX3_load_10 dX3_load_13 dX3_load_14 dX3_load_16 dX3_load_19 (by decide) (Nat.le_of_ble_eq_true rfl) hm1 hm2 ⟨rfl, rfl, rfl⟩
theorem gtI : Cond.initialized yX2_init.cls ∈ GT := GT_in (by decide +kernel) (by decide +kernel)
theorem gtC : Cond.code yX2_init cX2_init 1 none ∈ GT := GT_in (by decide +kernel) (by decide +kernel)
theorem gtM : Cond.instanceMethod yX2_init ∈ GT := GT_in (by decide +kernel) (by decide +kernel)
theorem zcnN : ∀ n, zcn (fun _ => none) n = n
  | 0 => rfl
  | n + 1 => by
    unfold zcn
    rw [zcnN n]
    rfl
def sFresh : zST := (sNew, 0, fun _ => 0, fun _ => 0)
abbrev zTN : Nat → Prop := fun τ => τ ≤ 30 ∨ (600 ≤ τ ∧ τ ≤ 605)
set_option maxRecDepth 10000 in
set_option maxHeartbeats 1000000 in
theorem c_new {G : zW} {f : zHM} {m : Nat × Nat} {o : Nat} (ho : f o = some (600, .inr (3, [.null, .null, .null, .null, .null, .null, .int 0]))) (hm1 : m.1 + 28 ≤ 50000) (hm2 : m.2 + 3168 ≤ 400000) : zM G yX3_init cX3_init 2 none 3 [.ref o] (f, m) (zD none (fun f' m' => ∃ r tr sc tx sl sv la A A2 co, f' o = some (600, .inr (3, zOb r tr sc tx sl sv 0)) ∧ RPic f' 0 r la A sNew 0 (fun _ => 0) (fun _ => 0) ∧ RPic f' 20 tr la A2 sNew 0 (fun _ => 0) (fun _ => 0) ∧ f' sc = some (601, .inl (0, 144, .inl (fun _ => 0))) ∧ TPic f' 602 tx co 0 (fun _ => 0) ∧ f' sl = some (604, zrow (fun _ => none) 2) ∧ f' sv = some (605, zrow (fun _ => none) 6) ∧ f' la = some (950, .inl (4, 276, .inr (.inr (.inr (.inr (fun _ => none)))))) ∧ zFr zTN f f' ∧ m' = (m.1 + 28, m.2 + 3168))) := by
  refine zM.of (by decide) (Nat.le_of_ble_eq_true rfl) ?_
  have hf0 : zFr zTN f f := zFr.refl
  refine v_aload_n dX3_init_0 rfl rfl ?_
  refine v_objInit goLX3 goI goC dX3_init_1 (by decide) (Nat.le_of_ble_eq_true rfl) ?_
  refine v_aload_n dX3_init_4 rfl rfl ?_
  refine v_sipush (nI 144) dX3_init_5 (by decide) ?_
  refine v_newIX 601 144 dX3_init_8 (by decide) (by decide) (by omega) (by omega) (by omega) (fun sc f1 hp => ?_)
  have hf0 := hf0.trans (zFr.new (T := zTN) zFr.refl hp)
  have ho := hp.2.2 _ _ ho
  have hsc := hp.1
  refine v_putfieldFX fX3_9 rfl rfl dX3_init_10 ho rfl rfl (Nat.le_of_ble_eq_true rfl) (fun f1 hp => ?_)
  have hz : zFr (fun τ => τ = 600) _ f1 := zFr.put (T := fun τ => τ = 600) zFr.refl hp rfl
  have hf0 := hf0.trans (hz.weaken (T' := zTN) (fun τ h => Or.inr (by omega)))
  have ho := hp.1
  have hsc := hz _ _ _ hsc (by omega)
  refine v_aload_n dX3_init_13 rfl rfl ?_
  refine v_newX 602 nX3_13 dX3_init_14 (by show m.1 + 1 + 1 ≤ 50000; omega) (by show m.2 + 144 + 2 ≤ 400000; omega) (fun tx f1 hp => ?_)
  have hf0 := hf0.trans (zFr.new (T := zTN) zFr.refl hp)
  have ho := hp.2.2 _ _ ho
  have hsc := hp.2.2 _ _ hsc
  have htx := hp.1
  refine v_dup dX3_init_17 rfl ?_
  refine v_callIN0 rfl gtI gtC (by decide) gtM dX3_init_18 (c_Text_init htx (by show m.1 + 1 + 1 + 1 ≤ 50000; omega) (by show m.2 + 144 + 2 + 60 ≤ 400000; omega)) rfl (by decide) (Nat.le_of_ble_eq_true rfl) (fun f1 m1 hc => ?_)
  obtain ⟨⟨co, htp⟩, hz, rfl⟩ := hc
  have hf0 := hf0.trans (hz.weaken (T' := zTN) (fun τ h => Or.inr (by omega)))
  have hsc := hz _ _ _ hsc (by omega)
  have ho := hz _ _ _ ho (by omega)
  refine v_putfieldFX fX3_16 rfl rfl dX3_init_21 ho rfl rfl (Nat.le_of_ble_eq_true rfl) (fun f1 hp => ?_)
  have hz : zFr (fun τ => τ = 600) _ f1 := zFr.put (T := fun τ => τ = 600) zFr.refl hp rfl
  have hf0 := hf0.trans (hz.weaken (T' := zTN) (fun τ h => Or.inr (by omega)))
  have ho := hp.1
  have hsc := hz _ _ _ hsc (by omega)
  have htp := htp.fr hz (by omega) (by omega)
  refine v_aload_n dX3_init_24 rfl rfl ?_
  refine v_iconst (nI 2) dX3_init_25 (by decide) ?_
  refine v_newRX 604 2 dX3_init_26 gClR (by decide) (by decide) (by omega) (by show m.1 + 1 + 1 + 1 + 1 ≤ 50000; omega) (by show m.2 + 144 + 2 + 60 + 2 ≤ 400000; omega) (fun sl f1 hp => ?_)
  have hf0 := hf0.trans (zFr.new (T := zTN) zFr.refl hp)
  have ho := hp.2.2 _ _ ho
  have hsc := hp.2.2 _ _ hsc
  have htp := htp.fr (zFr.new (T := fun _ => False) zFr.refl hp) id id
  have hsl := hp.1
  refine v_putfieldFX fX3_22 rfl rfl dX3_init_29 ho rfl rfl (Nat.le_of_ble_eq_true rfl) (fun f1 hp => ?_)
  have hz : zFr (fun τ => τ = 600) _ f1 := zFr.put (T := fun τ => τ = 600) zFr.refl hp rfl
  have hf0 := hf0.trans (hz.weaken (T' := zTN) (fun τ h => Or.inr (by omega)))
  have ho := hp.1
  have hsc := hz _ _ _ hsc (by omega)
  have htp := htp.fr hz (by omega) (by omega)
  have hsl := hz _ _ _ hsl (by omega)
  refine v_aload_n dX3_init_32 rfl rfl ?_
  refine v_bipush (nI 6) dX3_init_33 (by decide) ?_
  refine v_newRX 605 6 dX3_init_35 gClR (by decide) (by decide) (by omega) (by show m.1 + 1 + 1 + 1 + 1 + 1 ≤ 50000; omega) (by show m.2 + 144 + 2 + 60 + 2 + 6 ≤ 400000; omega) (fun sv f1 hp => ?_)
  have hf0 := hf0.trans (zFr.new (T := zTN) zFr.refl hp)
  have ho := hp.2.2 _ _ ho
  have hsc := hp.2.2 _ _ hsc
  have htp := htp.fr (zFr.new (T := fun _ => False) zFr.refl hp) id id
  have hsl := hp.2.2 _ _ hsl
  have hsv := hp.1
  refine v_putfieldFX fX3_26 rfl rfl dX3_init_38 ho rfl rfl (Nat.le_of_ble_eq_true rfl) (fun f1 hp => ?_)
  have hz : zFr (fun τ => τ = 600) _ f1 := zFr.put (T := fun τ => τ = 600) zFr.refl hp rfl
  have hf0 := hf0.trans (hz.weaken (T' := zTN) (fun τ h => Or.inr (by omega)))
  have ho := hp.1
  have hsc := hz _ _ _ hsc (by omega)
  have htp := htp.fr hz (by omega) (by omega)
  have hsl := hz _ _ _ hsl (by omega)
  have hsv := hz _ _ _ hsv (by omega)
  refine v_sipush (nI 276) dX3_init_41 (by decide) ?_
  refine v_newLX 950 276 dX3_init_44 gClL (by decide) (by decide) (by omega) (by show m.1 + 1 + 1 + 1 + 1 + 1 + 1 ≤ 50000; omega) (by show m.2 + 144 + 2 + 60 + 2 + 6 + 276 ≤ 400000; omega) (fun la f1 hp => ?_)
  have hf0 := hf0.trans (zFr.new (T := zTN) zFr.refl hp)
  have ho := hp.2.2 _ _ ho
  have hsc := hp.2.2 _ _ hsc
  have htp := htp.fr (zFr.new (T := fun _ => False) zFr.refl hp) id id
  have hsl := hp.2.2 _ _ hsl
  have hsv := hp.2.2 _ _ hsv
  have hla := hp.1
  refine v_astore_n dX3_init_47 rfl (by decide) ?_
  refine v_aload_n dX3_init_48 rfl rfl ?_
  refine v_newX 0 nX3_20 dX3_init_49 (by show m.1 + 1 + 1 + 1 + 1 + 1 + 1 + 1 ≤ 50000; omega) (by show m.2 + 144 + 2 + 60 + 2 + 6 + 276 + 19 ≤ 400000; omega) (fun r f1 hp => ?_)
  have hf0 := hf0.trans (zFr.new (T := zTN) zFr.refl hp)
  have ho := hp.2.2 _ _ ho
  have hsc := hp.2.2 _ _ hsc
  have htp := htp.fr (zFr.new (T := fun _ => False) zFr.refl hp) id id
  have hsl := hp.2.2 _ _ hsl
  have hsv := hp.2.2 _ _ hsv
  have hla := hp.2.2 _ _ hla
  have hr0 := hp.1
  refine v_dup dX3_init_52 rfl ?_
  refine v_aload_n dX3_init_53 rfl rfl ?_
  refine v_callI0 kX3_31 gi_X1_init rfl dX3_init_54 (c_Ring_init hr0 (by show m.1 + 1 + 1 + 1 + 1 + 1 + 1 + 1 + 10 ≤ 50000; omega) (by show m.2 + 144 + 2 + 60 + 2 + 6 + 276 + 19 + 1320 ≤ 400000; omega)) rfl rfl (by decide) (Nat.le_of_ble_eq_true rfl) (fun f1 m1 hc => ?_)
  obtain ⟨⟨A0, hr⟩, hz, rfl⟩ := hc
  have hf0 := hf0.trans (hz.weaken (T' := zTN) (fun τ h => Or.inl (by have := h.2; omega)))
  have hsc := hz _ _ _ hsc (fun h => by have := h.1; have := h.2; omega)
  have htp := htp.fr hz (fun h => by have := h.1; have := h.2; omega) (fun h => by have := h.1; have := h.2; omega)
  have hsl := hz _ _ _ hsl (fun h => by have := h.1; have := h.2; omega)
  have hsv := hz _ _ _ hsv (fun h => by have := h.1; have := h.2; omega)
  have hla := hz _ _ _ hla (fun h => by have := h.1; have := h.2; omega)
  have ho := hz _ _ _ ho (fun h => by have := h.1; have := h.2; omega)
  refine v_putfieldFX fX3_34 rfl rfl dX3_init_57 ho rfl rfl (Nat.le_of_ble_eq_true rfl) (fun f1 hp => ?_)
  have hz : zFr (fun τ => τ = 600) _ f1 := zFr.put (T := fun τ => τ = 600) zFr.refl hp rfl
  have hf0 := hf0.trans (hz.weaken (T' := zTN) (fun τ h => Or.inr (by omega)))
  have ho := hp.1
  have hsc := hz _ _ _ hsc (by omega)
  have htp := htp.fr hz (by omega) (by omega)
  have hsl := hz _ _ _ hsl (by omega)
  have hsv := hz _ _ _ hsv (by omega)
  have hla := hz _ _ _ hla (by omega)
  have hr := hr.fr hz (fun k hk h => by omega)
  refine v_aload_n dX3_init_60 rfl rfl ?_
  refine v_newX 20 nX3_20 dX3_init_61 (by show m.1 + 1 + 1 + 1 + 1 + 1 + 1 + 1 + 10 + 1 ≤ 50000; omega) (by show m.2 + 144 + 2 + 60 + 2 + 6 + 276 + 19 + 1320 + 19 ≤ 400000; omega) (fun tr f1 hp => ?_)
  have hf0 := hf0.trans (zFr.new (T := zTN) zFr.refl hp)
  have ho := hp.2.2 _ _ ho
  have hsc := hp.2.2 _ _ hsc
  have htp := htp.fr (zFr.new (T := fun _ => False) zFr.refl hp) id id
  have hsl := hp.2.2 _ _ hsl
  have hsv := hp.2.2 _ _ hsv
  have hla := hp.2.2 _ _ hla
  have hr := hr.fr (zFr.new (T := fun _ => False) zFr.refl hp) (fun k hk h => h)
  have hr20 := hp.1
  refine v_dup dX3_init_64 rfl ?_
  refine v_aload_n dX3_init_65 rfl rfl ?_
  refine v_callI0 kX3_31 gi_X1_init rfl dX3_init_66 (c_Ring_init hr20 (by show m.1 + 1 + 1 + 1 + 1 + 1 + 1 + 1 + 10 + 1 + 10 ≤ 50000; omega) (by show m.2 + 144 + 2 + 60 + 2 + 6 + 276 + 19 + 1320 + 19 + 1320 ≤ 400000; omega)) rfl rfl (by decide) (Nat.le_of_ble_eq_true rfl) (fun f1 m1 hc => ?_)
  obtain ⟨⟨A20, hr2⟩, hz, rfl⟩ := hc
  have hf0 := hf0.trans (hz.weaken (T' := zTN) (fun τ h => Or.inl (by have := h.2; omega)))
  have hsc := hz _ _ _ hsc (fun h => by have := h.1; have := h.2; omega)
  have htp := htp.fr hz (fun h => by have := h.1; have := h.2; omega) (fun h => by have := h.1; have := h.2; omega)
  have hsl := hz _ _ _ hsl (fun h => by have := h.1; have := h.2; omega)
  have hsv := hz _ _ _ hsv (fun h => by have := h.1; have := h.2; omega)
  have hla := hz _ _ _ hla (fun h => by have := h.1; have := h.2; omega)
  have hr := hr.fr hz (fun k hk h => by have := h.1; have := h.2; omega)
  have ho := hz _ _ _ ho (fun h => by have := h.1; have := h.2; omega)
  refine v_putfieldFX fX3_38 rfl rfl dX3_init_69 ho rfl rfl (Nat.le_of_ble_eq_true rfl) (fun f1 hp => ?_)
  have hz : zFr (fun τ => τ = 600) _ f1 := zFr.put (T := fun τ => τ = 600) zFr.refl hp rfl
  have hf0 := hf0.trans (hz.weaken (T' := zTN) (fun τ h => Or.inr (by omega)))
  have ho := hp.1
  have hsc := hz _ _ _ hsc (by omega)
  have htp := htp.fr hz (by omega) (by omega)
  have hsl := hz _ _ _ hsl (by omega)
  have hsv := hz _ _ _ hsv (by omega)
  have hla := hz _ _ _ hla (by omega)
  have hr := hr.fr hz (fun k hk h => by omega)
  have hr2 := hr2.fr hz (fun k hk h => by omega)
  exact v_return dX3_init_72 rfl ⟨rfl, r, tr, sc, tx, sl, sv, la, A0, A20, co, ho, hr, hr2, hsc, htp, hsl, hsv, hla, hf0, rfl⟩
