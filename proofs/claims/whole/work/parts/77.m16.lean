theorem sGain_now (ρ : zRS) (v : Int32) (s : Nat) (sh : Int32) (a b : Nat) : sGain (sNow ρ v) s sh a b = sGain ρ s sh a b := sGn_congr _ _ (fun _ _ => rfl)
theorem sBest_now (ρ : zRS) (v : Int32) (N s : Nat) (tm : Nat → Int32) (a u : Nat) : sBest (sNow ρ v) N s tm a u = sBest ρ N s tm a u := by
  unfold sBest
  rw [show (fun b => sGain (sNow ρ v) s (sNow ρ v 1 u) a b) = fun b => sGain ρ s (ρ 1 u) a b from funext fun b => sGain_now ρ v s _ a b]
  rfl
theorem sBsp_s (ρ : zRS) (N s : Nat) (tm : Nat → Int32) (a i : Nat) : sBsp ρ N s tm a (i + 1) = if sBest ρ N s tm a i = -1 then sBsp ρ N s tm a i
    else if (sBsp ρ N s tm a i).1 = -1 ∨ ¬ sGain ρ s (ρ 1 i) a (zn (sBest ρ N s tm a i)) ≤ (sBsp ρ N s tm a i).2 then (nI i, sGain ρ s (ρ 1 i) a (zn (sBest ρ N s tm a i)))
    else sBsp ρ N s tm a i := by
  show (if sBest (sNow ρ (nI i)) N s tm a i = -1 then sBsp ρ N s tm a i
    else if (sBsp ρ N s tm a i).1 = -1 ∨ ¬ sGain (sNow ρ (nI i)) s (ρ 1 i) a (zn (sBest (sNow ρ (nI i)) N s tm a i)) ≤ (sBsp ρ N s tm a i).2 then (nI i, sGain (sNow ρ (nI i)) s (ρ 1 i) a (zn (sBest (sNow ρ (nI i)) N s tm a i)))
    else sBsp ρ N s tm a i) = _
  rw [sBest_now, sGain_now]
theorem far_le {S : Int32 × Int32} {b m : Int32} (h : sTR S b m) : -1000000 ≤ m := by
  rcases h.2 with ⟨-, e⟩ | ⟨-, -, e⟩
  · rw [e]; exact Int32.le_refl _
  · exact Int32.le_of_lt (far_lt e)
theorem sBsp_step {ρ : zRS} {N s a i c : Nat} {tm : Nat → Int32} {b m its : Int32} (hi : i < 3) (hc : c < 24) (e : sBest ρ N s tm a i = nI c) (hits : its = sGain ρ s (ρ 1 i) a c) (hB : zB 200 its) (hT : sTR (sBsp ρ N s tm a i) b m) :
    (m < its → sTR (sBsp ρ N s tm a (i + 1)) (nI i) its) ∧ (¬ m < its → sTR (sBsp ρ N s tm a (i + 1)) b m) := by
  have hm1 : ¬ nI c = -1 := nI_m1 (by omega)
  have hB5 : zB 500 its := ⟨Int.le_trans (by omega) hB.1, Int.le_trans hB.2 (by omega)⟩
  rw [sBsp_s, e, if_neg hm1, zn_nI (by omega), ← hits]
  have hiff : ((sBsp ρ N s tm a i).1 = -1 ∨ ¬ its ≤ (sBsp ρ N s tm a i).2) ↔ m < its := by
    rcases hT.2 with ⟨k1, k2⟩ | ⟨k1, k2, -⟩
    · rw [k2]
      exact ⟨fun _ => far_lt hB5, fun _ => Or.inl k1⟩
    · rw [k2]
      exact ⟨fun z => z.elim (fun z => absurd z k1) Int32.not_le.mp, fun z => Or.inr (Int32.not_le.mpr z)⟩
  constructor
  · intro h
    rw [if_pos (hiff.mpr h)]
    exact ⟨rfl, Or.inr ⟨nI_m1 (by omega), rfl, hB5⟩⟩
  · intro h
    rw [if_neg (fun z => h (hiff.mp z))]
    exact hT
set_option maxRecDepth 10000 in
set_option maxHeartbeats 1000000 in
theorem c_spoolBest {G : zW} {f : zHM} {m : Nat × Nat} {o mr : Nat} {B : Nat → Nat} {w : Nat → Int32} {hh : Int64} {σ : Nat → Int32} (h : MX f o B w hh σ mr) (hmr9 : mr + 1000 < 2 ^ 30) {N s n : Nat} (hw : RW (rOf σ) N s n) (hn : σ 15 = nI n) (hn2 : n ≤ 200) {a : Nat} (ha : a < N) (hat : σ 1 = nI a) (hs0 : ∀ u, u < 3 → 0 ≤ (σ (9 + 2 * u)).toInt ∧ (σ (9 + 2 * u)).toInt ≤ 9) (hl : ∀ q, q < 144 → zB 3000 (sLack (rOf σ) q)) : zM G yX4_spoolBest cX4_spoolBest 6 (some .int) 8 [.ref o] (f, m) (zD (some (.int ((sBsp (rOf σ) N s (sTm (rOf σ) n) a 3).1))) (fun f' m' => zNQ f w o B hh σ mr 200 f' ∧ m' = m)) := by
  refine zM.of (by decide) (Nat.le_of_ble_eq_true rfl) ?_
  have ho := h.1
  have hs := h.2.1
  have hv := hw.1
  have hp := hv.pos
  have hlb : ∀ q, q < 144 → zB 3100 (sLack (rOf σ) q) := fun q hq => by
    obtain ⟨g1, g2⟩ := hl q hq
    exact ⟨by omega, by omega⟩
  have loop : ∀ (k i : Nat), i + k = 3 → ∀ (best most : Int32) (f1 : zHM) (w1 : Nat → Int32) (mr1 : Nat), sTR (sBsp (rOf σ) N s (sTm (rOf σ) n) a i) best most → MX f1 o B w1 hh σ mr1 → mr1 ≤ mr + 30 * i → wK w w1 → zFr zTY f f1 → zV G yX4_spoolBest cX4_spoolBest 6 (some .int) 8 7 [(0, .ref o), (1, .int best), (2, .int most), (3, .int (nI i))] [] (f1, m) (zD (some (.int ((sBsp (rOf σ) N s (sTm (rOf σ) n) a 3).1))) (fun f' m' => zNQ f w o B hh σ mr 200 f' ∧ m' = m)) := by
    intro k
    induction k with
    | zero =>
      intro i hi best most f1 w1 mr1 hT h1 hm1 hk1 hf1
      have ho1 := h1.1
      have hs1 := h1.2.1
      refine v_iload_n dX4_spoolBest_7 rfl rfl ?_
      refine v_iconst (nI 3) dX4_spoolBest_8 (by decide) ?_
      refine v_icmp_ge 80 dX4_spoolBest_9 (by decide) (fun b9 => ?_) (fun b9 => ?_)
      · rw [nI_leI (by omega) (by omega)] at b9
        refine v_iload_n dX4_spoolBest_80 rfl rfl ?_
        exact v_ireturn dX4_spoolBest_81 rfl ⟨by rw [hT.1, show i = 3 from by omega], ⟨mr1, by omega, w1, h1, hk1, hf1⟩, rfl⟩
      · rw [nI_leI (by omega) (by omega)] at b9
        omega
    | succ k ih =>
      intro i hi best most f1 w1 mr1 hT h1 hm1 hk1 hf1
      have ho1 := h1.1
      have hs1 := h1.2.1
      have hi3 : i < 3 := by omega
      refine v_iload_n dX4_spoolBest_7 rfl rfl ?_
      refine v_iconst (nI 3) dX4_spoolBest_8 (by decide) ?_
      refine v_icmp_ge 80 dX4_spoolBest_9 (by decide) (fun b9 => ?_) (fun b9 => ?_)
      · rw [nI_leI (by omega) (by omega)] at b9
        omega
      · rw [nI_leI (by omega) (by omega)] at b9
        refine v_aload_n dX4_spoolBest_12 rfl rfl ?_
        refine v_iload_n dX4_spoolBest_13 rfl rfl ?_
        refine v_callV1 kX4_141 gi_X4_bestWith ge_X4_bestWith rfl dX4_spoolBest_14 (by assumption) (c_bestWith h1 (by omega) hw hn hn2 ha hat hi3) rfl rfl (by decide) (Nat.le_of_ble_eq_true rfl) (fun f2 m hc2 => ?_)
        obtain ⟨⟨mr2, hm2, w2, h2, hk2, hf2⟩, rfl⟩ := hc2
        replace hk2 := hk1.trans hk2
        replace hf2 := zFr.trans hf1 hf2
        have ho2 := h2.1
        have hs2 := h2.2.1
        rcases sBest_in (rOf σ) N s (sTm (rOf σ) n) a i with e | ⟨c, hc, e, hac⟩
        · rw [e]
          refine v_istore dX4_spoolBest_17 (by decide) ?_
          refine v_iload dX4_spoolBest_19 rfl ?_
          refine v_iconst (-1) dX4_spoolBest_21 (by decide) ?_
          refine v_icmp_ne 30 dX4_spoolBest_22 (by decide) (fun b22 => ?_) (fun b22 => ?_)
          · exact absurd rfl b22
          · refine v_ldc (-1000000) dX4_spoolBest_25 gMfar ?_
            refine v_goto 47 dX4_spoolBest_27 (by decide) ?_
            refine v_istore dX4_spoolBest_47 (by decide) ?_
            refine v_iload dX4_spoolBest_49 rfl ?_
            refine v_iload_n dX4_spoolBest_51 rfl rfl ?_
            refine v_icmp_le 59 dX4_spoolBest_52 (by decide) (fun b52 => ?_) (fun b52 => ?_)
            · refine v_iload_n dX4_spoolBest_59 rfl rfl ?_
              refine v_istore_n dX4_spoolBest_60 rfl (by decide) ?_
              refine v_iload dX4_spoolBest_61 rfl ?_
              refine v_iload_n dX4_spoolBest_63 rfl rfl ?_
              refine v_icmp_le 72 dX4_spoolBest_64 (by decide) (fun b64 => ?_) (fun b64 => ?_)
              · refine v_iload_n dX4_spoolBest_72 rfl rfl ?_
                refine v_istore_n dX4_spoolBest_73 rfl (by decide) ?_
                refine v_iincN dX4_spoolBest_74 rfl (by decide) ?_
                refine v_goto 7 dX4_spoolBest_77 (by decide) ?_
                exact v_loc (lv' := [(0, .ref o), (1, .int best), (2, .int most), (3, .int (nI (i + 1)))]) ⟨rfl, rfl, rfl, rfl, trivial⟩ (ih (i + 1) (by omega) _ _ f2 w2 mr2 (by rw [sBsp_s, if_pos e]; exact hT) h2 (by omega) hk2 hf2)
              · exact absurd b52 b64
            · exact absurd (far_le hT) b52
        · rw [e]
          obtain ⟨its, hits⟩ : ∃ z, z = sGain (rOf σ) s (rOf σ 1 i) a c ∧ True := ⟨_, rfl, trivial⟩
          have hib : zB 200 its := by rw [hits.1]; exact sGain_b hv ha hc hac (hs0 i hi3).1 (hs0 i hi3).2 hlb
          have hst := sBsp_step hi3 (by omega) e hits.1 hib hT
          refine v_istore dX4_spoolBest_17 (by decide) ?_
          refine v_iload dX4_spoolBest_19 rfl ?_
          refine v_iconst (-1) dX4_spoolBest_21 (by decide) ?_
          refine v_icmp_ne 30 dX4_spoolBest_22 (by decide) (fun b22 => ?_) (fun b22 => ?_)
          · refine v_aload_n dX4_spoolBest_30 rfl rfl ?_
            refine v_aload_n dX4_spoolBest_31 rfl rfl ?_
            refine v_getfield fX4_7 dX4_spoolBest_32 (by assumption) (by rfl) ?_
            refine v_iconst (nI 1) dX4_spoolBest_35 (by decide) ?_
            refine v_iaload dX4_spoolBest_36 (by assumption) (vp_in_nI (by omega) (by omega)) ?_
            rw [nI_clamp (n := 1) (by omega)]
            rw [hat]
            refine v_iload dX4_spoolBest_37 rfl ?_
            refine v_aload_n dX4_spoolBest_39 rfl rfl ?_
            refine v_iload_n dX4_spoolBest_40 rfl rfl ?_
            refine v_callVp kX4_88 gi_X4_shade ge_X4_shade rfl dX4_spoolBest_41 (by assumption) (c_mshade (σ := σ) (by assumption) (by assumption) hi3) rfl rfl (by decide) (Nat.le_of_ble_eq_true rfl) ?_
            refine v_callV1 kX4_111 gi_X4_gained ge_X4_gained rfl dX4_spoolBest_44 (by assumption) (c_gained h2 (by omega) hv ha hc hac (sh := σ (9 + 2 * i))) rfl rfl (by decide) (Nat.le_of_ble_eq_true rfl) (fun f3 m hc3 => ?_)
            obtain ⟨⟨mr3, hm3, w3, h3, hk3, hf3⟩, rfl⟩ := hc3
            replace hk3 := hk2.trans hk3
            replace hf3 := zFr.trans hf2 hf3
            have ho3 := h3.1
            have hs3 := h3.2.1
            rw [show sGain (rOf σ) s (σ (9 + 2 * i)) a c = its from hits.1.symm]
            refine v_istore dX4_spoolBest_47 (by decide) ?_
            refine v_iload dX4_spoolBest_49 rfl ?_
            refine v_iload_n dX4_spoolBest_51 rfl rfl ?_
            refine v_icmp_le 59 dX4_spoolBest_52 (by decide) (fun b52 => ?_) (fun b52 => ?_)
            · refine v_iload_n dX4_spoolBest_59 rfl rfl ?_
              refine v_istore_n dX4_spoolBest_60 rfl (by decide) ?_
              refine v_iload dX4_spoolBest_61 rfl ?_
              refine v_iload_n dX4_spoolBest_63 rfl rfl ?_
              refine v_icmp_le 72 dX4_spoolBest_64 (by decide) (fun b64 => ?_) (fun b64 => ?_)
              · refine v_iload_n dX4_spoolBest_72 rfl rfl ?_
                refine v_istore_n dX4_spoolBest_73 rfl (by decide) ?_
                refine v_iincN dX4_spoolBest_74 rfl (by decide) ?_
                refine v_goto 7 dX4_spoolBest_77 (by decide) ?_
                exact v_loc (lv' := [(0, .ref o), (1, .int best), (2, .int most), (3, .int (nI (i + 1)))]) ⟨rfl, rfl, rfl, rfl, trivial⟩ (ih (i + 1) (by omega) _ _ f3 w3 mr3 (hst.2 (Int32.not_lt.mpr b52)) h3 (by omega) hk3 hf3)
              · exact absurd b52 b64
            · refine v_iload_n dX4_spoolBest_55 rfl rfl ?_
              refine v_goto 60 dX4_spoolBest_56 (by decide) ?_
              refine v_istore_n dX4_spoolBest_60 rfl (by decide) ?_
              refine v_iload dX4_spoolBest_61 rfl ?_
              refine v_iload_n dX4_spoolBest_63 rfl rfl ?_
              refine v_icmp_le 72 dX4_spoolBest_64 (by decide) (fun b64 => ?_) (fun b64 => ?_)
              · exact absurd b64 b52
              · refine v_iload dX4_spoolBest_67 rfl ?_
                refine v_goto 73 dX4_spoolBest_69 (by decide) ?_
                refine v_istore_n dX4_spoolBest_73 rfl (by decide) ?_
                refine v_iincN dX4_spoolBest_74 rfl (by decide) ?_
                refine v_goto 7 dX4_spoolBest_77 (by decide) ?_
                exact v_loc (lv' := [(0, .ref o), (1, .int (nI i)), (2, .int its), (3, .int (nI (i + 1)))]) ⟨rfl, rfl, rfl, rfl, trivial⟩ (ih (i + 1) (by omega) _ _ f3 w3 mr3 (hst.1 (Int32.not_le.mp b52)) h3 (by omega) hk3 hf3)
          · exact absurd b22 (nI_m1 (by omega))
  refine v_iconst (-1) dX4_spoolBest_0 (by decide) ?_
  refine v_istore_n dX4_spoolBest_1 rfl (by decide) ?_
  refine v_ldc (-1000000) dX4_spoolBest_2 gMfar ?_
  refine v_istore_n dX4_spoolBest_4 rfl (by decide) ?_
  refine v_iconst (nI 0) dX4_spoolBest_5 (by decide) ?_
  refine v_istore_n dX4_spoolBest_6 rfl (by decide) ?_
  exact v_loc (lv' := [(0, .ref o), (1, .int (-1)), (2, .int (-1000000)), (3, .int (nI 0))]) ⟨rfl, rfl, rfl, rfl, trivial⟩ (loop 3 0 (by omega) (-1) (-1000000) f w mr ⟨rfl, Or.inl ⟨rfl, rfl⟩⟩ h (by omega) (wK.refl w) zFr.refl)
