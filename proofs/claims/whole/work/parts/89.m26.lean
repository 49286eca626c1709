theorem sHf_cut (g : Nat → Int32) (m : Nat) (h : Int64) : ∀ c, sHf g (m + c) h = sHf (fun i => g (m + i)) c (sHf g m h)
  | 0 => rfl
  | c + 1 => by
    have ih := sHf_cut g m h c
    show 31 * sHf g (m + c) h + (g (m + c)).toInt64 = 31 * sHf (fun i => g (m + i)) c (sHf g m h) + (g (m + c)).toInt64
    rw [ih]
theorem sHf_congr {g g' : Nat → Int32} : ∀ n h, (∀ i, i < n → g i = g' i) → sHf g n h = sHf g' n h
  | 0, _, _ => rfl
  | n + 1, h, e => by
    show 31 * sHf g n h + (g n).toInt64 = 31 * sHf g' n h + (g' n).toInt64
    rw [sHf_congr n h (fun i hi => e i (by omega)), e n (by omega)]
theorem sHf_flat (g : Nat → Nat → Int32) {c : Nat} (hc : 0 < c) : ∀ n h, sHf (fun k => g (k / c) (k % c)) (c * n) h = sHg (fun i h => sHf (g i) c h) n h
  | 0, _ => rfl
  | n + 1, h => by
    have ih := sHf_flat g hc n h
    rw [Nat.mul_succ, sHf_cut, ih]
    show _ = sHf (g n) c (sHg (fun i h => sHf (g i) c h) n h)
    refine sHf_congr c _ fun i hi => ?_
    show g ((c * n + i) / c) ((c * n + i) % c) = g n i
    rw [Nat.mul_add_div hc, Nat.div_eq_of_lt hi, Nat.add_zero, Nat.mul_add_mod, Nat.mod_eq_of_lt hi]
theorem sHg_cut (F : Nat → Int64 → Int64) (m : Nat) (h : Int64) : ∀ c, sHg F (m + c) h = sHg (fun i => F (m + i)) c (sHg F m h)
  | 0 => rfl
  | c + 1 => by
    have ih := sHg_cut F m h c
    show F (m + c) (sHg F (m + c) h) = F (m + c) (sHg (fun i => F (m + i)) c (sHg F m h))
    rw [ih]
theorem sHg_flat (F : Nat → Int64 → Int64) (c : Nat) : ∀ n h, sHg (fun i h => sHg (fun j h => F (i * c + j) h) c h) n h = sHg F (n * c) h
  | 0, h => by rw [Nat.zero_mul]; rfl
  | n + 1, h => by
    have ih := sHg_flat F c n h
    have e : sHg (fun i h => sHg (fun j h => F (i * c + j) h) c h) (n + 1) h = sHg (fun j h => F (n * c + j) h) c (sHg (fun i h => sHg (fun j h => F (i * c + j) h) c h) n h) := rfl
    rw [e, ih, Nat.succ_mul, sHg_cut]
/-- the digest's end, in words of ours -/
theorem mDg_ok {N s n a u k L : Nat} {σ : Nat → Int32} {hsl : Nat → Int32} {gs : Nat → Option Nat} {ch : Nat → Nat} (iv : IVr N s n (rOf σ)) (hgs : ∀ i, i < 2 → hsl i = sSl gs i) {h3 h4 h5 h6 h7 h8 h9 h10 h11 h12 h13 : Int64}
    (e3 : h3 = sHg (sHn (rOf σ) N s n (sTm (rOf σ) n) a u) N (sHf (rOf σ 3) 3 (sHf (mCount (rOf σ) s n k) 13 3301))) (e4 : h4 = (sHf (fun k => sChord s (sTm (rOf σ) n) 0 (1 + k / 3) (k % 3)) 6 (sHf (fun k => sSquare (rOf σ) (sXs (rOf σ) s n) (k / 4) (k % 4)) 576 (sHf (fun k => sWound (rOf σ) n (k / 3) (k % 3)) 30 (sHf (fun k => sSpoolOf (rOf σ) s n (k / 5) (k % 5)) 15 h3)))))
    (e5 : h5 = 31 * h4 + (sBest (rOf σ) N s (sTm (rOf σ) n) a u).toInt64) (e6 : h6 = 31 * h5 + (sTwo (rOf σ) n N s (sTm (rOf σ) n) a u N).1.toInt64) (e7 : h7 = 31 * h6 + (sPal (rOf σ) 144).1.toInt64) (e8 : h8 = 31 * h7 + (sBsp (rOf σ) N s (sTm (rOf σ) n) a 3).1.toInt64) (e9 : h9 = 31 * h8 + (sShare (rOf σ)).toInt64)
    (e10 : h10 = 31 * h9 + (hsl 0).toInt64) (e11 : h11 = 31 * h10 + (hsl 1).toInt64) (e12 : h12 = 31 * h11 + (nI L).toInt64) (e13 : h13 = sHf (fun i => nI (ch i)) L h12) : h13 = sDg (rOf σ) n N s (sXs (rOf σ) s n) (sTm (rOf σ) n) a u k gs ch L := by
  have e1 : sHf (mCount (rOf σ) s n k) 13 3301 = sHf (sCount (rOf σ) s n k) 13 3301 := sHf_congr 13 _ fun i hi => by
    unfold mCount
    by_cases z : i = 8
    · rw [if_pos z, z]; exact (sMG_misfit iv).symm
    · rw [if_neg z]
  rw [e1] at e3
  have f1 := sHf_flat (sSpoolOf (rOf σ) s n) (c := 5) (by omega) 3
  have f2 := sHf_flat (sWound (rOf σ) n) (c := 3) (by omega) 10
  have f3 := sHf_flat (sSquare (rOf σ) (sXs (rOf σ) s n)) (c := 4) (by omega) 144
  have f4 := sHf_flat (fun i => sChord s (sTm (rOf σ) n) 0 (1 + i)) (c := 3) (by omega) 2
  have f5 := sHg_flat (fun q h => sHf (sSquare (rOf σ) (sXs (rOf σ) s n) q) 4 h) 12 12
  rw [show 5 * 3 = 15 from rfl] at f1
  rw [show 3 * 10 = 30 from rfl] at f2
  rw [show 4 * 144 = 576 from rfl] at f3
  rw [show 3 * 2 = 6 from rfl] at f4
  rw [show 12 * 12 = 144 from rfl] at f5
  rw [f1, f2, f3, f4, ← f5] at e4
  have g0 : sHf (sSl gs) 2 h9 = h11 := by
    rw [e11, e10, hgs 0 (by omega), hgs 1 (by omega)]
    rfl
  unfold sDg sDg3 sDg4 sDg2
  rw [← e3]
  generalize sHg (fun i h => sHg (fun j h => sHf (sSquare (rOf σ) (sXs (rOf σ) s n) (i * 12 + j)) 4 h) 12 h) 12 (sHg (fun i h => sHf (sWound (rOf σ) n i) 3 h) 10 (sHg (fun i h => sHf (sSpoolOf (rOf σ) s n i) 5 h) 3 h3)) = X at e4 ⊢
  have e4' : h4 = sHf (sChord s (sTm (rOf σ) n) 0 2) 3 (sHf (sChord s (sTm (rOf σ) n) 0 1) 3 X) := e4
  rw [← e4', ← e5, ← e6, ← e7, ← e8, ← e9, g0, ← e12]
  exact e13
set_option maxRecDepth 10000 in
set_option maxHeartbeats 1000000 in
theorem c_m9digest {G : zW} {f : zHM} {m : Nat × Nat} {o mr : Nat} {B : Nat → Nat} {w : Nat → Int32} {hh : Int64} {σ : Nat → Int32} (h : MX f o B w hh σ mr) {th : Int32} {k L : Nat} {sv : Nat → Nat → Int32} {hsl : Nat → Int32} {sl : Nat → Nat → Int32} {ch : Nat → Nat} (t : w 0 = th) (k0 : w 1 = nI k) (l0 : w 2 = nI L) (O : zNO f B k sv hsl sl L ch) (hmr9 : mr + 400000 < 2 ^ 30) {N s n : Nat} (hw : RW (rOf σ) N s n) (hn : σ 15 = nI n) (hn2 : n ≤ 200) {a : Nat} (ha : a < N) (hat : σ 1 = nI a) {u : Nat} (hu : u < 3) (hnow : σ 2 = nI u) (hs0 : ∀ u, u < 3 → 0 ≤ (σ (9 + 2 * u)).toInt ∧ (σ (9 + 2 * u)).toInt ≤ 9) (hl : ∀ q, q < 144 → zB 3000 (sLack (rOf σ) q)) (iv : IVr N s n (rOf σ)) {gs : Nat → Option Nat} (hgs : ∀ i, i < 2 → hsl i = sSl gs i) : zM G yX4_digest cX4_digest 2 (some .long) 9 [.ref o] (f, m) (zD (some (.long (sDg (rOf σ) n N s (sXs (rOf σ) s n) (sTm (rOf σ) n) a u k gs ch L))) (fun f' m' => (∃ hh', zNP f o B hh' mr 130000 0 k sv hsl sl L ch (fun σ' => σ' = σ) f') ∧ m' = m)) := by
  refine zM.of (by decide) (Nat.le_of_ble_eq_true rfl) ?_
  have ho := h.1
  have hs := h.2.1
  have hv := hw.1
  have hN : σ 0 = nI N := hv.1
  have hp := hv.pos
  have hL60 := O.2.2.2.1.1
  have hgs01 : ∀ i, i < 2 → hsl i = 1 ∨ hsl i = 0 := fun i hi => by
    rw [hgs i hi]
    unfold sSl
    split
    · exact Or.inr rfl
    · exact Or.inl rfl
  refine v_aload_n dX4_digest_0 rfl rfl ?_
  refine v_iconst (nI 0) dX4_digest_1 (by decide) ?_
  refine v_putfieldX fX4_35 dX4_digest_2 (by assumption) rfl rfl (Nat.le_of_ble_eq_true rfl) (fun f1 hp1 => ?_)
  obtain ⟨h1, hf1⟩ := MX.put (w' := zUp w 0 (nI 0)) (f0 := f) h hp1 rfl zFr.refl
  obtain ⟨w1, ew1⟩ : ∃ w9, w9 = zUp w 0 (nI 0) := ⟨_, rfl⟩
  rw [← ew1] at h1
  clear hp1
  have ho1 := h1.1
  have hs1 := h1.2.1
  have t1 : w1 0 = nI 0 := by rw [ew1]; rfl
  have k1 := (show w1 1 = w 1 from by rw [ew1]; rfl).trans k0
  have l1 := (show w1 2 = w 2 from by rw [ew1]; rfl).trans l0
  have O1 := zNO.fr O hf1 (by intro τ h; rcases h with h | h | h | h <;> omega)
  have F1 := zFr.trans zFr.refl (zFr.weaken hf1 zTYZ)
  refine v_aload_n dX4_digest_5 rfl rfl ?_
  refine v_ldc2 (3301) dX4_digest_6 gM33 ?_
  refine v_putfieldX fX4_241 dX4_digest_9 (by assumption) rfl rfl (Nat.le_of_ble_eq_true rfl) (fun f2 hp2 => ?_)
  obtain ⟨h2, hf2⟩ := MX.put (w' := w1) (hh' := 3301) (f0 := f1) h1 hp2 rfl zFr.refl
  have ho2 := h2.1
  have hs2 := h2.2.1
  have O2 := zNO.fr O1 hf2 (by intro τ h; rcases h with h | h | h | h <;> omega)
  have F2 := zFr.trans F1 (zFr.weaken hf2 zTYZ)
  refine v_iconst (nI 0) dX4_digest_12 (by decide) ?_
  refine v_istore_n dX4_digest_13 rfl (by decide) ?_
  have lo1 : ∀ (kk i : Nat), i + kk = 13 → ∀ (fq1 : zHM) (wq1 : Nat → Int32) (mq1 : Nat), MX fq1 o B wq1 (sHf (mCount (rOf σ) s n k) i 3301) σ mq1 → wq1 0 = nI 0 → wq1 1 = nI k → wq1 2 = nI L → zNO fq1 B k sv hsl sl L ch → zFr zTZ f fq1 → mq1 ≤ mr → zV G yX4_digest cX4_digest 2 (some .long) 9 14 [(0, .ref o), (1, .int (nI i))] [] (fq1, m) (zD (some (.long (sDg (rOf σ) n N s (sXs (rOf σ) s n) (sTm (rOf σ) n) a u k gs ch L))) (fun f' m' => (∃ hh', zNP f o B hh' mr 130000 0 k sv hsl sl L ch (fun σ' => σ' = σ) f') ∧ m' = m)) := by
    intro kk
    induction kk with
    | zero =>
      intro i hi fq1 wq1 mq1 hq1 tq1 kq1 lq1 Oq1 Fq1 hmq1
      rw [show i = 13 from by omega] at hq1
      have hofq1 := hq1.1
      have hsfq1 := hq1.2.1
      refine v_iload_n dX4_digest_14 rfl rfl ?_
      refine v_bipush (nI 13) dX4_digest_15 (by decide) ?_
      refine v_icmp_ge 36 dX4_digest_17 (by decide) (fun b17 => ?_) (fun b17 => ?_)
      · rw [nI_leI (by omega) (by omega)] at b17
        refine v_iconst (nI 0) dX4_digest_36 (by decide) ?_
        refine v_istore_n dX4_digest_37 rfl (by decide) ?_
        have lo2 : ∀ (kk i : Nat), i + kk = 3 → ∀ (fq2 : zHM) (wq2 : Nat → Int32) (mq2 : Nat), MX fq2 o B wq2 (sHf (rOf σ 3) i (sHf (mCount (rOf σ) s n k) 13 3301)) σ mq2 → wq2 0 = nI 0 → wq2 1 = nI k → wq2 2 = nI L → zNO fq2 B k sv hsl sl L ch → zFr zTZ f fq2 → mq2 ≤ mr → zV G yX4_digest cX4_digest 2 (some .long) 9 38 [(0, .ref o), (1, .int (nI i))] [] (fq2, m) (zD (some (.long (sDg (rOf σ) n N s (sXs (rOf σ) s n) (sTm (rOf σ) n) a u k gs ch L))) (fun f' m' => (∃ hh', zNP f o B hh' mr 130000 0 k sv hsl sl L ch (fun σ' => σ' = σ) f') ∧ m' = m)) := by
          intro kk
          induction kk with
          | zero =>
            intro i hi fq2 wq2 mq2 hq2 tq2 kq2 lq2 Oq2 Fq2 hmq2
            rw [show i = 3 from by omega] at hq2
            have hofq2 := hq2.1
            have hsfq2 := hq2.2.1
            refine v_iload_n dX4_digest_38 rfl rfl ?_
            refine v_iconst (nI 3) dX4_digest_39 (by decide) ?_
            refine v_icmp_ge 63 dX4_digest_40 (by decide) (fun b40 => ?_) (fun b40 => ?_)
            · rw [nI_leI (by omega) (by omega)] at b40
              refine v_iconst (nI 0) dX4_digest_63 (by decide) ?_
              refine v_istore_n dX4_digest_64 rfl (by decide) ?_
              have lo3 : ∀ (kk i : Nat), i + kk = N → ∀ (fq3 : zHM) (wq3 : Nat → Int32) (mq3 : Nat), MX fq3 o B wq3 (sHg (sHn (rOf σ) N s n (sTm (rOf σ) n) a u) i (sHf (rOf σ 3) 3 (sHf (mCount (rOf σ) s n k) 13 3301))) σ mq3 → wq3 0 = nI 0 → wq3 1 = nI k → wq3 2 = nI L → zNO fq3 B k sv hsl sl L ch → zFr zTZ f fq3 → mq3 ≤ mr + 2 * i → zV G yX4_digest cX4_digest 2 (some .long) 9 65 [(0, .ref o), (1, .int (nI i))] [] (fq3, m) (zD (some (.long (sDg (rOf σ) n N s (sXs (rOf σ) s n) (sTm (rOf σ) n) a u k gs ch L))) (fun f' m' => (∃ hh', zNP f o B hh' mr 130000 0 k sv hsl sl L ch (fun σ' => σ' = σ) f') ∧ m' = m)) := by
                intro kk
                induction kk with
                | zero =>
                  intro i hi fq3 wq3 mq3 hq3 tq3 kq3 lq3 Oq3 Fq3 hmq3
                  rw [show i = N from by omega] at hq3
                  have hofq3 := hq3.1
                  have hsfq3 := hq3.2.1
                  refine v_iload_n dX4_digest_65 rfl rfl ?_
                  refine v_aload_n dX4_digest_66 rfl rfl ?_
                  refine v_getfield fX4_7 dX4_digest_67 (by assumption) (by rfl) ?_
                  refine v_iconst (nI 0) dX4_digest_70 (by decide) ?_
                  refine v_iaload dX4_digest_71 (by assumption) (vp_in_nI (by omega) (by omega)) ?_
                  rw [nI_clamp (n := 0) (by omega)]
                  rw [hN]
                  refine v_icmp_ge 86 dX4_digest_72 (by decide) (fun b72 => ?_) (fun b72 => ?_)
                  · rw [nI_leI (by omega) (by omega)] at b72
                    refine v_aload_n dX4_digest_86 rfl rfl ?_
                    refine v_callV0 kX4_254 gi_X4_hashesLooks ge_X4_hashesLooks rfl dX4_digest_87 (by assumption) (c_hashesLooks hq3 (by omega) hw hn hn2) rfl rfl (by decide) (Nat.le_of_ble_eq_true rfl) (fun f301 m hc301 => ?_)
                    obtain ⟨⟨mr301, hm301, w301, h301, hk301, hf301⟩, rfl⟩ := hc301
                    have t301 := (hk301 0 (by decide) (by decide)).trans tq3
                    have k301 := (hk301 1 (by decide) (by decide)).trans kq3
                    have l301 := (hk301 2 (by decide) (by decide)).trans lq3
                    have O301 := zNO.fr Oq3 hf301 (by intro τ h; rcases h with h | h | h | h <;> omega)
                    have F301 := zFr.trans Fq3 (zFr.weaken hf301 zTYZ)
                    obtain ⟨H301, eH301⟩ : ∃ z : Int64, z = (sHf (fun k => sChord s (sTm (rOf σ) n) 0 (1 + k / 3) (k % 3)) 6 (sHf (fun k => sSquare (rOf σ) (sXs (rOf σ) s n) (k / 4) (k % 4)) 576 (sHf (fun k => sWound (rOf σ) n (k / 3) (k % 3)) 30 (sHf (fun k => sSpoolOf (rOf σ) s n (k / 5) (k % 5)) 15 (sHg (sHn (rOf σ) N s n (sTm (rOf σ) n) a u) N (sHf (rOf σ 3) 3 (sHf (mCount (rOf σ) s n k) 13 3301))))))) := ⟨_, rfl⟩
                    rw [← eH301] at h301
                    have ho301 := h301.1
                    have hs301 := h301.2.1
                    refine v_aload_n dX4_digest_90 rfl rfl ?_
                    refine v_aload_n dX4_digest_91 rfl rfl ?_
                    refine v_aload_n dX4_digest_92 rfl rfl ?_
                    refine v_getfield fX4_7 dX4_digest_93 (by assumption) (by rfl) ?_
                    refine v_iconst (nI 2) dX4_digest_96 (by decide) ?_
                    refine v_iaload dX4_digest_97 (by assumption) (vp_in_nI (by omega) (by omega)) ?_
                    rw [nI_clamp (n := 2) (by omega)]
                    rw [hnow]
                    refine v_callV1 kX4_141 gi_X4_bestWith ge_X4_bestWith rfl dX4_digest_98 (by assumption) (c_bestWith h301 (by omega) hw hn hn2 ha hat hu) rfl rfl (by decide) (Nat.le_of_ble_eq_true rfl) (fun f302 m hc302 => ?_)
                    obtain ⟨⟨mr302, hm302, w302, h302, hk302, hf302⟩, rfl⟩ := hc302
                    have ho302 := h302.1
                    have hs302 := h302.2.1
                    have t302 := (hk302 0 (by decide) (by decide)).trans t301
                    have k302 := (hk302 1 (by decide) (by decide)).trans k301
                    have l302 := (hk302 2 (by decide) (by decide)).trans l301
                    have O302 := zNO.fr O301 hf302 (by intro τ h; rcases h with h | h | h | h <;> omega)
                    have F302 := zFr.trans F301 (zFr.weaken hf302 zTYZ)
                    refine v_i2l dX4_digest_101 ?_
                    refine v_callV0 kX4_245 gi_X4_hashes ge_X4_hashes rfl dX4_digest_102 (by assumption) (c_hashes h302) rfl rfl (by decide) (Nat.le_of_ble_eq_true rfl) (fun f303 m hc303 => ?_)
                    obtain ⟨⟨h303, hf303⟩, rfl⟩ := hc303
                    have O303 := zNO.fr O302 hf303 (by omega)
                    have F303 := zFr.trans F302 (hf303.weaken (fun τ z => (⟨by omega, by omega⟩ : zTZ τ)))
                    obtain ⟨H303, eH303⟩ : ∃ z : Int64, z = 31 * H301 + (sBest (rOf σ) N s (sTm (rOf σ) n) a u).toInt64 := ⟨_, rfl⟩
                    rw [← eH303] at h303
                    have ho303 := h303.1
                    have hs303 := h303.2.1
                    refine v_aload_n dX4_digest_105 rfl rfl ?_
                    refine v_aload_n dX4_digest_106 rfl rfl ?_
                    refine v_callV1 kX4_224 gi_X4_twoBest ge_X4_twoBest rfl dX4_digest_107 (by assumption) (c_twoBest h303 (by omega) hw hn hn2 ha hat hu hnow (hs0 u hu).1 (hs0 u hu).2 hl) rfl rfl (by decide) (Nat.le_of_ble_eq_true rfl) (fun f304 m hc304 => ?_)
                    obtain ⟨⟨mr304, hm304, w304, h304, hk304, hf304⟩, rfl⟩ := hc304
                    have ho304 := h304.1
                    have hs304 := h304.2.1
                    have t304 := (hk304 0 (by decide) (by decide)).trans t302
                    have k304 := (hk304 1 (by decide) (by decide)).trans k302
                    have l304 := (hk304 2 (by decide) (by decide)).trans l302
                    have O304 := zNO.fr O303 hf304 (by intro τ h; rcases h with h | h | h | h <;> omega)
                    have F304 := zFr.trans F303 (zFr.weaken hf304 zTYZ)
                    refine v_i2l dX4_digest_110 ?_
                    refine v_callV0 kX4_245 gi_X4_hashes ge_X4_hashes rfl dX4_digest_111 (by assumption) (c_hashes h304) rfl rfl (by decide) (Nat.le_of_ble_eq_true rfl) (fun f305 m hc305 => ?_)
                    obtain ⟨⟨h305, hf305⟩, rfl⟩ := hc305
                    have O305 := zNO.fr O304 hf305 (by omega)
                    have F305 := zFr.trans F304 (hf305.weaken (fun τ z => (⟨by omega, by omega⟩ : zTZ τ)))
                    obtain ⟨H305, eH305⟩ : ∃ z : Int64, z = 31 * H303 + ((sTwo (rOf σ) n N s (sTm (rOf σ) n) a u N).1).toInt64 := ⟨_, rfl⟩
                    rw [← eH305] at h305
                    have ho305 := h305.1
                    have hs305 := h305.2.1
                    refine v_aload_n dX4_digest_114 rfl rfl ?_
                    refine v_aload_n dX4_digest_115 rfl rfl ?_
                    refine v_callVp kX4_227 gi_X4_palestOne ge_X4_palestOne rfl dX4_digest_116 (by assumption) (c_palestOne h305) rfl rfl (by decide) (Nat.le_of_ble_eq_true rfl) ?_
                    refine v_i2l dX4_digest_119 ?_
                    refine v_callV0 kX4_245 gi_X4_hashes ge_X4_hashes rfl dX4_digest_120 (by assumption) (c_hashes h305) rfl rfl (by decide) (Nat.le_of_ble_eq_true rfl) (fun f306 m hc306 => ?_)
                    obtain ⟨⟨h306, hf306⟩, rfl⟩ := hc306
                    have O306 := zNO.fr O305 hf306 (by omega)
                    have F306 := zFr.trans F305 (hf306.weaken (fun τ z => (⟨by omega, by omega⟩ : zTZ τ)))
                    obtain ⟨H306, eH306⟩ : ∃ z : Int64, z = 31 * H305 + ((sPal (rOf σ) 144).1).toInt64 := ⟨_, rfl⟩
                    rw [← eH306] at h306
                    have ho306 := h306.1
                    have hs306 := h306.2.1
                    refine v_aload_n dX4_digest_123 rfl rfl ?_
                    refine v_aload_n dX4_digest_124 rfl rfl ?_
                    refine v_callV1 kX4_230 gi_X4_spoolBest ge_X4_spoolBest rfl dX4_digest_125 (by assumption) (c_spoolBest h306 (by omega) hw hn hn2 ha hat hs0 hl) rfl rfl (by decide) (Nat.le_of_ble_eq_true rfl) (fun f307 m hc307 => ?_)
                    obtain ⟨⟨mr307, hm307, w307, h307, hk307, hf307⟩, rfl⟩ := hc307
                    have ho307 := h307.1
                    have hs307 := h307.2.1
                    have t307 := (hk307 0 (by decide) (by decide)).trans t304
                    have k307 := (hk307 1 (by decide) (by decide)).trans k304
                    have l307 := (hk307 2 (by decide) (by decide)).trans l304
                    have O307 := zNO.fr O306 hf307 (by intro τ h; rcases h with h | h | h | h <;> omega)
                    have F307 := zFr.trans F306 (zFr.weaken hf307 zTYZ)
                    refine v_i2l dX4_digest_128 ?_
                    refine v_callV0 kX4_245 gi_X4_hashes ge_X4_hashes rfl dX4_digest_129 (by assumption) (c_hashes h307) rfl rfl (by decide) (Nat.le_of_ble_eq_true rfl) (fun f308 m hc308 => ?_)
                    obtain ⟨⟨h308, hf308⟩, rfl⟩ := hc308
                    have O308 := zNO.fr O307 hf308 (by omega)
                    have F308 := zFr.trans F307 (hf308.weaken (fun τ z => (⟨by omega, by omega⟩ : zTZ τ)))
                    obtain ⟨H308, eH308⟩ : ∃ z : Int64, z = 31 * H306 + ((sBsp (rOf σ) N s (sTm (rOf σ) n) a 3).1).toInt64 := ⟨_, rfl⟩
                    rw [← eH308] at h308
                    have ho308 := h308.1
                    have hs308 := h308.2.1
                    refine v_aload_n dX4_digest_132 rfl rfl ?_
                    refine v_aload_n dX4_digest_133 rfl rfl ?_
                    refine v_callVp kX4_235 gi_X4_share ge_X4_share rfl dX4_digest_134 (by assumption) (c_share h308) rfl rfl (by decide) (Nat.le_of_ble_eq_true rfl) ?_
                    obtain ⟨k9, hk9a, hk9b⟩ := sThat_nI (rOf σ) 0
                    have hk9 : k9 < 145 := by omega
                    have hsh : sShare (rOf σ) = sSh k9 := by unfold sShare sSh; rw [hk9b]
                    rw [hsh]
                    refine v_callSp kX4_257 gs_Jxe99ae_doubleToLongBits_ccdee dX4_digest_137 (c_longBits hk9) rfl rfl (by decide) (Nat.le_of_ble_eq_true rfl) ?_
                    rw [← hsh]
                    refine v_callV0 kX4_245 gi_X4_hashes ge_X4_hashes rfl dX4_digest_140 (by assumption) (c_hashes h308) rfl rfl (by decide) (Nat.le_of_ble_eq_true rfl) (fun f309 m hc309 => ?_)
                    obtain ⟨⟨h309, hf309⟩, rfl⟩ := hc309
                    have O309 := zNO.fr O308 hf309 (by omega)
                    have F309 := zFr.trans F308 (hf309.weaken (fun τ z => (⟨by omega, by omega⟩ : zTZ τ)))
                    obtain ⟨H309, eH309⟩ : ∃ z : Int64, z = 31 * H308 + (sShare (rOf σ)).toInt64 := ⟨_, rfl⟩
                    rw [← eH309] at h309
                    have ho309 := h309.1
                    have hs309 := h309.2.1
                    refine v_aload_n dX4_digest_143 rfl rfl ?_
                    refine v_aload_n dX4_digest_144 rfl rfl ?_
                    refine v_getfield fX4_19 dX4_digest_145 (by assumption) (by rfl) ?_
                    refine v_iconst (nI 0) dX4_digest_148 (by decide) ?_
                    obtain ⟨-, -, ⟨g3z, h3a, h3v⟩, -⟩ := id O309
                    refine v_zaload dX4_digest_149 h3a (vp_in_nI (by omega) (by omega)) ?_
                    rw [nI_clamp (n := 0) (by omega), h3v 0 (by omega)]
                    rcases hgs01 0 (by omega) with z | z
                    · rw [z]
                      refine v_if_eq 157 dX4_digest_150 (by decide) (fun y => absurd y (by decide)) (fun _ => ?_)
                      refine v_lconst ((hsl 0).toInt64) dX4_digest_153 (by rw [z]; decide) ?_
                      refine v_goto 158 dX4_digest_154 (by decide) ?_
                      refine v_callV0 kX4_245 gi_X4_hashes ge_X4_hashes rfl dX4_digest_158 (by assumption) (c_hashes h309) rfl rfl (by decide) (Nat.le_of_ble_eq_true rfl) (fun f310 m hc310 => ?_)
                      obtain ⟨⟨h310, hf310⟩, rfl⟩ := hc310
                      have O310 := zNO.fr O309 hf310 (by omega)
                      have F310 := zFr.trans F309 (hf310.weaken (fun τ z => (⟨by omega, by omega⟩ : zTZ τ)))
                      obtain ⟨H310, eH310⟩ : ∃ z : Int64, z = 31 * H309 + (hsl 0).toInt64 := ⟨_, rfl⟩
                      rw [← eH310] at h310
                      have ho310 := h310.1
                      have hs310 := h310.2.1
                      refine v_aload_n dX4_digest_161 rfl rfl ?_
                      refine v_aload_n dX4_digest_162 rfl rfl ?_
                      refine v_getfield fX4_19 dX4_digest_163 (by assumption) (by rfl) ?_
                      refine v_iconst (nI 1) dX4_digest_166 (by decide) ?_
                      obtain ⟨-, -, ⟨g3z, h3a, h3v⟩, -⟩ := id O310
                      refine v_zaload dX4_digest_167 h3a (vp_in_nI (by omega) (by omega)) ?_
                      rw [nI_clamp (n := 1) (by omega), h3v 1 (by omega)]
                      rcases hgs01 1 (by omega) with z | z
                      · rw [z]
                        refine v_if_eq 175 dX4_digest_168 (by decide) (fun y => absurd y (by decide)) (fun _ => ?_)
                        refine v_lconst ((hsl 1).toInt64) dX4_digest_171 (by rw [z]; decide) ?_
                        refine v_goto 176 dX4_digest_172 (by decide) ?_
                        refine v_callV0 kX4_245 gi_X4_hashes ge_X4_hashes rfl dX4_digest_176 (by assumption) (c_hashes h310) rfl rfl (by decide) (Nat.le_of_ble_eq_true rfl) (fun f311 m hc311 => ?_)
                        obtain ⟨⟨h311, hf311⟩, rfl⟩ := hc311
                        have O311 := zNO.fr O310 hf311 (by omega)
                        have F311 := zFr.trans F310 (hf311.weaken (fun τ z => (⟨by omega, by omega⟩ : zTZ τ)))
                        obtain ⟨H311, eH311⟩ : ∃ z : Int64, z = 31 * H310 + (hsl 1).toInt64 := ⟨_, rfl⟩
                        rw [← eH311] at h311
                        have ho311 := h311.1
                        have hs311 := h311.2.1
                        refine v_aload_n dX4_digest_179 rfl rfl ?_
                        refine v_aload_n dX4_digest_180 rfl rfl ?_
                        refine v_getfield fX4_160 dX4_digest_181 (by assumption) (by rfl) ?_
                        rw [l307]
                        refine v_i2l dX4_digest_184 ?_
                        refine v_callV0 kX4_245 gi_X4_hashes ge_X4_hashes rfl dX4_digest_185 (by assumption) (c_hashes h311) rfl rfl (by decide) (Nat.le_of_ble_eq_true rfl) (fun f312 m hc312 => ?_)
                        obtain ⟨⟨h312, hf312⟩, rfl⟩ := hc312
                        have O312 := zNO.fr O311 hf312 (by omega)
                        have F312 := zFr.trans F311 (hf312.weaken (fun τ z => (⟨by omega, by omega⟩ : zTZ τ)))
                        obtain ⟨H312, eH312⟩ : ∃ z : Int64, z = 31 * H311 + (nI L).toInt64 := ⟨_, rfl⟩
                        rw [← eH312] at h312
                        have ho312 := h312.1
                        have hs312 := h312.2.1
                        refine v_iconst (nI 0) dX4_digest_188 (by decide) ?_
                        refine v_istore_n dX4_digest_189 rfl (by decide) ?_
                        obtain ⟨H90, eH90⟩ : ∃ z : Int64, z = H312 := ⟨_, rfl⟩
                        rw [← eH90] at h312
                        have lo4 : ∀ (kk i : Nat), i + kk = L → ∀ (fq4 : zHM) (wq4 : Nat → Int32) (mq4 : Nat), MX fq4 o B wq4 (sHf (fun i => nI (ch i)) i H90) σ mq4 → wq4 0 = nI 0 → wq4 1 = nI k → wq4 2 = nI L → zNO fq4 B k sv hsl sl L ch → zFr zTZ f fq4 → mq4 ≤ mr + 120000 → zV G yX4_digest cX4_digest 2 (some .long) 9 190 [(0, .ref o), (1, .int (nI i))] [] (fq4, m) (zD (some (.long (sDg (rOf σ) n N s (sXs (rOf σ) s n) (sTm (rOf σ) n) a u k gs ch L))) (fun f' m' => (∃ hh', zNP f o B hh' mr 130000 0 k sv hsl sl L ch (fun σ' => σ' = σ) f') ∧ m' = m)) := by
                          intro kk
                          induction kk with
                          | zero =>
                            intro i hi fq4 wq4 mq4 hq4 tq4 kq4 lq4 Oq4 Fq4 hmq4
                            rw [show i = L from by omega] at hq4
                            have hofq4 := hq4.1
                            have hsfq4 := hq4.2.1
                            refine v_iload_n dX4_digest_190 rfl rfl ?_
                            refine v_aload_n dX4_digest_191 rfl rfl ?_
                            refine v_getfield fX4_160 dX4_digest_192 (by assumption) (by rfl) ?_
                            rw [lq4]
                            refine v_icmp_ge 215 dX4_digest_195 (by decide) (fun b195 => ?_) (fun b195 => ?_)
                            · rw [nI_leI (by omega) (by omega)] at b195
                              refine v_aload_n dX4_digest_215 rfl rfl ?_
                              refine v_getfield fX4_241 dX4_digest_216 (by assumption) (by rfl) ?_
                              exact v_lreturn dX4_digest_219 rfl ⟨congrArg (fun z : Int64 => (Sum.inl (some (Value.long z)) : zOut)) (mDg_ok (ch := ch) iv hgs rfl eH301 eH303 eH305 eH306 eH308 eH309 eH310 eH311 (eH90.trans eH312) rfl), ⟨_, σ, mq4, by omega, ⟨wq4, hq4, tq4, kq4, lq4, Oq4⟩, rfl, Fq4⟩, rfl⟩
                            · rw [nI_leI (by omega) (by omega)] at b195
                              omega
                          | succ kk ih4 =>
                            intro i hi fq4 wq4 mq4 hq4 tq4 kq4 lq4 Oq4 Fq4 hmq4
                            have hofq4 := hq4.1
                            have hsfq4 := hq4.2.1
                            have hi9 : i < L := by omega
                            refine v_iload_n dX4_digest_190 rfl rfl ?_
                            refine v_aload_n dX4_digest_191 rfl rfl ?_
                            refine v_getfield fX4_160 dX4_digest_192 (by assumption) (by rfl) ?_
                            rw [lq4]
                            refine v_icmp_ge 215 dX4_digest_195 (by decide) (fun b195 => ?_) (fun b195 => ?_)
                            · rw [nI_leI (by omega) (by omega)] at b195
                              omega
                            · rw [nI_leI (by omega) (by omega)] at b195
                              refine v_aload_n dX4_digest_198 rfl rfl ?_
                              refine v_aload_n dX4_digest_199 rfl rfl ?_
                              refine v_getfield fX4_23 dX4_digest_200 (by assumption) (by rfl) ?_
                              refine v_iload_n dX4_digest_203 rfl rfl ?_
                              obtain ⟨-, -, -, ⟨-, g4z, h4a, h4v⟩, -⟩ := id Oq4
                              refine v_iaload dX4_digest_204 h4a (vp_in_nI (by omega) (by omega)) ?_
                              rw [nI_clamp (n := i) (by omega), h4v i hi9]
                              refine v_i2l dX4_digest_205 ?_
                              refine v_callV0 kX4_245 gi_X4_hashes ge_X4_hashes rfl dX4_digest_206 (by assumption) (c_hashes hq4) rfl rfl (by decide) (Nat.le_of_ble_eq_true rfl) (fun f401 m hc401 => ?_)
                              obtain ⟨⟨h401, hf401⟩, rfl⟩ := hc401
                              have O401 := zNO.fr Oq4 hf401 (by omega)
                              have F401 := zFr.trans Fq4 (hf401.weaken (fun τ z => (⟨by omega, by omega⟩ : zTZ τ)))
                              obtain ⟨H401, eH401⟩ : ∃ z : Int64, z = 31 * (sHf (fun i => nI (ch i)) i H90) + (nI (ch i)).toInt64 := ⟨_, rfl⟩
                              rw [← eH401] at h401
                              have ho401 := h401.1
                              have hs401 := h401.2.1
                              refine v_iincN dX4_digest_209 rfl (by decide) ?_
                              refine v_goto 190 dX4_digest_212 (by decide) ?_
                              exact v_loc (lv' := [(0, .ref o), (1, .int (nI (i + 1)))]) ⟨rfl, rfl, trivial⟩ (ih4 (i + 1) (by omega) f401 wq4 mq4 (by have e : H401 = (sHf (fun i => nI (ch i)) (i + 1) H90) := eH401; rw [← e]; exact h401) tq4 kq4 lq4 O401 F401 (by omega))
                        have hstart : MX f312 o B w307 (sHf (fun i => nI (ch i)) 0 H90) σ mr307 := h312
                        exact v_loc (lv' := [(0, .ref o), (1, .int (nI 0))]) ⟨rfl, rfl, trivial⟩ (lo4 L 0 (by omega) f312 w307 mr307 hstart t307 k307 l307 O312 F312 (by omega))
                      · rw [z]
                        refine v_if_eq 175 dX4_digest_168 (by decide) (fun _ => ?_) (fun y => absurd rfl y)
                        refine v_lconst ((hsl 1).toInt64) dX4_digest_175 (by rw [z]; decide) ?_
                        refine v_callV0 kX4_245 gi_X4_hashes ge_X4_hashes rfl dX4_digest_176 (by assumption) (c_hashes h310) rfl rfl (by decide) (Nat.le_of_ble_eq_true rfl) (fun f311 m hc311 => ?_)
                        obtain ⟨⟨h311, hf311⟩, rfl⟩ := hc311
                        have O311 := zNO.fr O310 hf311 (by omega)
                        have F311 := zFr.trans F310 (hf311.weaken (fun τ z => (⟨by omega, by omega⟩ : zTZ τ)))
                        obtain ⟨H311, eH311⟩ : ∃ z : Int64, z = 31 * H310 + (hsl 1).toInt64 := ⟨_, rfl⟩
                        rw [← eH311] at h311
                        have ho311 := h311.1
                        have hs311 := h311.2.1
                        refine v_aload_n dX4_digest_179 rfl rfl ?_
                        refine v_aload_n dX4_digest_180 rfl rfl ?_
                        refine v_getfield fX4_160 dX4_digest_181 (by assumption) (by rfl) ?_
                        rw [l307]
                        refine v_i2l dX4_digest_184 ?_
                        refine v_callV0 kX4_245 gi_X4_hashes ge_X4_hashes rfl dX4_digest_185 (by assumption) (c_hashes h311) rfl rfl (by decide) (Nat.le_of_ble_eq_true rfl) (fun f312 m hc312 => ?_)
                        obtain ⟨⟨h312, hf312⟩, rfl⟩ := hc312
                        have O312 := zNO.fr O311 hf312 (by omega)
                        have F312 := zFr.trans F311 (hf312.weaken (fun τ z => (⟨by omega, by omega⟩ : zTZ τ)))
                        obtain ⟨H312, eH312⟩ : ∃ z : Int64, z = 31 * H311 + (nI L).toInt64 := ⟨_, rfl⟩
                        rw [← eH312] at h312
                        have ho312 := h312.1
                        have hs312 := h312.2.1
                        refine v_iconst (nI 0) dX4_digest_188 (by decide) ?_
                        refine v_istore_n dX4_digest_189 rfl (by decide) ?_
                        obtain ⟨H90, eH90⟩ : ∃ z : Int64, z = H312 := ⟨_, rfl⟩
                        rw [← eH90] at h312
                        have lo4 : ∀ (kk i : Nat), i + kk = L → ∀ (fq4 : zHM) (wq4 : Nat → Int32) (mq4 : Nat), MX fq4 o B wq4 (sHf (fun i => nI (ch i)) i H90) σ mq4 → wq4 0 = nI 0 → wq4 1 = nI k → wq4 2 = nI L → zNO fq4 B k sv hsl sl L ch → zFr zTZ f fq4 → mq4 ≤ mr + 120000 → zV G yX4_digest cX4_digest 2 (some .long) 9 190 [(0, .ref o), (1, .int (nI i))] [] (fq4, m) (zD (some (.long (sDg (rOf σ) n N s (sXs (rOf σ) s n) (sTm (rOf σ) n) a u k gs ch L))) (fun f' m' => (∃ hh', zNP f o B hh' mr 130000 0 k sv hsl sl L ch (fun σ' => σ' = σ) f') ∧ m' = m)) := by
                          intro kk
                          induction kk with
                          | zero =>
                            intro i hi fq4 wq4 mq4 hq4 tq4 kq4 lq4 Oq4 Fq4 hmq4
                            rw [show i = L from by omega] at hq4
                            have hofq4 := hq4.1
                            have hsfq4 := hq4.2.1
                            refine v_iload_n dX4_digest_190 rfl rfl ?_
                            refine v_aload_n dX4_digest_191 rfl rfl ?_
                            refine v_getfield fX4_160 dX4_digest_192 (by assumption) (by rfl) ?_
                            rw [lq4]
                            refine v_icmp_ge 215 dX4_digest_195 (by decide) (fun b195 => ?_) (fun b195 => ?_)
                            · rw [nI_leI (by omega) (by omega)] at b195
                              refine v_aload_n dX4_digest_215 rfl rfl ?_
                              refine v_getfield fX4_241 dX4_digest_216 (by assumption) (by rfl) ?_
                              exact v_lreturn dX4_digest_219 rfl ⟨congrArg (fun z : Int64 => (Sum.inl (some (Value.long z)) : zOut)) (mDg_ok (ch := ch) iv hgs rfl eH301 eH303 eH305 eH306 eH308 eH309 eH310 eH311 (eH90.trans eH312) rfl), ⟨_, σ, mq4, by omega, ⟨wq4, hq4, tq4, kq4, lq4, Oq4⟩, rfl, Fq4⟩, rfl⟩
                            · rw [nI_leI (by omega) (by omega)] at b195
                              omega
                          | succ kk ih4 =>
                            intro i hi fq4 wq4 mq4 hq4 tq4 kq4 lq4 Oq4 Fq4 hmq4
                            have hofq4 := hq4.1
                            have hsfq4 := hq4.2.1
                            have hi9 : i < L := by omega
                            refine v_iload_n dX4_digest_190 rfl rfl ?_
                            refine v_aload_n dX4_digest_191 rfl rfl ?_
                            refine v_getfield fX4_160 dX4_digest_192 (by assumption) (by rfl) ?_
                            rw [lq4]
                            refine v_icmp_ge 215 dX4_digest_195 (by decide) (fun b195 => ?_) (fun b195 => ?_)
                            · rw [nI_leI (by omega) (by omega)] at b195
                              omega
                            · rw [nI_leI (by omega) (by omega)] at b195
                              refine v_aload_n dX4_digest_198 rfl rfl ?_
                              refine v_aload_n dX4_digest_199 rfl rfl ?_
                              refine v_getfield fX4_23 dX4_digest_200 (by assumption) (by rfl) ?_
                              refine v_iload_n dX4_digest_203 rfl rfl ?_
                              obtain ⟨-, -, -, ⟨-, g4z, h4a, h4v⟩, -⟩ := id Oq4
                              refine v_iaload dX4_digest_204 h4a (vp_in_nI (by omega) (by omega)) ?_
                              rw [nI_clamp (n := i) (by omega), h4v i hi9]
                              refine v_i2l dX4_digest_205 ?_
                              refine v_callV0 kX4_245 gi_X4_hashes ge_X4_hashes rfl dX4_digest_206 (by assumption) (c_hashes hq4) rfl rfl (by decide) (Nat.le_of_ble_eq_true rfl) (fun f401 m hc401 => ?_)
                              obtain ⟨⟨h401, hf401⟩, rfl⟩ := hc401
                              have O401 := zNO.fr Oq4 hf401 (by omega)
                              have F401 := zFr.trans Fq4 (hf401.weaken (fun τ z => (⟨by omega, by omega⟩ : zTZ τ)))
                              obtain ⟨H401, eH401⟩ : ∃ z : Int64, z = 31 * (sHf (fun i => nI (ch i)) i H90) + (nI (ch i)).toInt64 := ⟨_, rfl⟩
                              rw [← eH401] at h401
                              have ho401 := h401.1
                              have hs401 := h401.2.1
                              refine v_iincN dX4_digest_209 rfl (by decide) ?_
                              refine v_goto 190 dX4_digest_212 (by decide) ?_
                              exact v_loc (lv' := [(0, .ref o), (1, .int (nI (i + 1)))]) ⟨rfl, rfl, trivial⟩ (ih4 (i + 1) (by omega) f401 wq4 mq4 (by have e : H401 = (sHf (fun i => nI (ch i)) (i + 1) H90) := eH401; rw [← e]; exact h401) tq4 kq4 lq4 O401 F401 (by omega))
                        have hstart : MX f312 o B w307 (sHf (fun i => nI (ch i)) 0 H90) σ mr307 := h312
                        exact v_loc (lv' := [(0, .ref o), (1, .int (nI 0))]) ⟨rfl, rfl, trivial⟩ (lo4 L 0 (by omega) f312 w307 mr307 hstart t307 k307 l307 O312 F312 (by omega))
                    · rw [z]
                      refine v_if_eq 157 dX4_digest_150 (by decide) (fun _ => ?_) (fun y => absurd rfl y)
                      refine v_lconst ((hsl 0).toInt64) dX4_digest_157 (by rw [z]; decide) ?_
                      refine v_callV0 kX4_245 gi_X4_hashes ge_X4_hashes rfl dX4_digest_158 (by assumption) (c_hashes h309) rfl rfl (by decide) (Nat.le_of_ble_eq_true rfl) (fun f310 m hc310 => ?_)
                      obtain ⟨⟨h310, hf310⟩, rfl⟩ := hc310
                      have O310 := zNO.fr O309 hf310 (by omega)
                      have F310 := zFr.trans F309 (hf310.weaken (fun τ z => (⟨by omega, by omega⟩ : zTZ τ)))
                      obtain ⟨H310, eH310⟩ : ∃ z : Int64, z = 31 * H309 + (hsl 0).toInt64 := ⟨_, rfl⟩
                      rw [← eH310] at h310
                      have ho310 := h310.1
                      have hs310 := h310.2.1
                      refine v_aload_n dX4_digest_161 rfl rfl ?_
                      refine v_aload_n dX4_digest_162 rfl rfl ?_
                      refine v_getfield fX4_19 dX4_digest_163 (by assumption) (by rfl) ?_
                      refine v_iconst (nI 1) dX4_digest_166 (by decide) ?_
                      obtain ⟨-, -, ⟨g3z, h3a, h3v⟩, -⟩ := id O310
                      refine v_zaload dX4_digest_167 h3a (vp_in_nI (by omega) (by omega)) ?_
                      rw [nI_clamp (n := 1) (by omega), h3v 1 (by omega)]
                      rcases hgs01 1 (by omega) with z | z
                      · rw [z]
                        refine v_if_eq 175 dX4_digest_168 (by decide) (fun y => absurd y (by decide)) (fun _ => ?_)
                        refine v_lconst ((hsl 1).toInt64) dX4_digest_171 (by rw [z]; decide) ?_
                        refine v_goto 176 dX4_digest_172 (by decide) ?_
                        refine v_callV0 kX4_245 gi_X4_hashes ge_X4_hashes rfl dX4_digest_176 (by assumption) (c_hashes h310) rfl rfl (by decide) (Nat.le_of_ble_eq_true rfl) (fun f311 m hc311 => ?_)
                        obtain ⟨⟨h311, hf311⟩, rfl⟩ := hc311
                        have O311 := zNO.fr O310 hf311 (by omega)
                        have F311 := zFr.trans F310 (hf311.weaken (fun τ z => (⟨by omega, by omega⟩ : zTZ τ)))
                        obtain ⟨H311, eH311⟩ : ∃ z : Int64, z = 31 * H310 + (hsl 1).toInt64 := ⟨_, rfl⟩
                        rw [← eH311] at h311
                        have ho311 := h311.1
                        have hs311 := h311.2.1
                        refine v_aload_n dX4_digest_179 rfl rfl ?_
                        refine v_aload_n dX4_digest_180 rfl rfl ?_
                        refine v_getfield fX4_160 dX4_digest_181 (by assumption) (by rfl) ?_
                        rw [l307]
                        refine v_i2l dX4_digest_184 ?_
                        refine v_callV0 kX4_245 gi_X4_hashes ge_X4_hashes rfl dX4_digest_185 (by assumption) (c_hashes h311) rfl rfl (by decide) (Nat.le_of_ble_eq_true rfl) (fun f312 m hc312 => ?_)
                        obtain ⟨⟨h312, hf312⟩, rfl⟩ := hc312
                        have O312 := zNO.fr O311 hf312 (by omega)
                        have F312 := zFr.trans F311 (hf312.weaken (fun τ z => (⟨by omega, by omega⟩ : zTZ τ)))
                        obtain ⟨H312, eH312⟩ : ∃ z : Int64, z = 31 * H311 + (nI L).toInt64 := ⟨_, rfl⟩
                        rw [← eH312] at h312
                        have ho312 := h312.1
                        have hs312 := h312.2.1
                        refine v_iconst (nI 0) dX4_digest_188 (by decide) ?_
                        refine v_istore_n dX4_digest_189 rfl (by decide) ?_
                        obtain ⟨H90, eH90⟩ : ∃ z : Int64, z = H312 := ⟨_, rfl⟩
                        rw [← eH90] at h312
                        have lo4 : ∀ (kk i : Nat), i + kk = L → ∀ (fq4 : zHM) (wq4 : Nat → Int32) (mq4 : Nat), MX fq4 o B wq4 (sHf (fun i => nI (ch i)) i H90) σ mq4 → wq4 0 = nI 0 → wq4 1 = nI k → wq4 2 = nI L → zNO fq4 B k sv hsl sl L ch → zFr zTZ f fq4 → mq4 ≤ mr + 120000 → zV G yX4_digest cX4_digest 2 (some .long) 9 190 [(0, .ref o), (1, .int (nI i))] [] (fq4, m) (zD (some (.long (sDg (rOf σ) n N s (sXs (rOf σ) s n) (sTm (rOf σ) n) a u k gs ch L))) (fun f' m' => (∃ hh', zNP f o B hh' mr 130000 0 k sv hsl sl L ch (fun σ' => σ' = σ) f') ∧ m' = m)) := by
                          intro kk
                          induction kk with
                          | zero =>
                            intro i hi fq4 wq4 mq4 hq4 tq4 kq4 lq4 Oq4 Fq4 hmq4
                            rw [show i = L from by omega] at hq4
                            have hofq4 := hq4.1
                            have hsfq4 := hq4.2.1
                            refine v_iload_n dX4_digest_190 rfl rfl ?_
                            refine v_aload_n dX4_digest_191 rfl rfl ?_
                            refine v_getfield fX4_160 dX4_digest_192 (by assumption) (by rfl) ?_
                            rw [lq4]
                            refine v_icmp_ge 215 dX4_digest_195 (by decide) (fun b195 => ?_) (fun b195 => ?_)
                            · rw [nI_leI (by omega) (by omega)] at b195
                              refine v_aload_n dX4_digest_215 rfl rfl ?_
                              refine v_getfield fX4_241 dX4_digest_216 (by assumption) (by rfl) ?_
                              exact v_lreturn dX4_digest_219 rfl ⟨congrArg (fun z : Int64 => (Sum.inl (some (Value.long z)) : zOut)) (mDg_ok (ch := ch) iv hgs rfl eH301 eH303 eH305 eH306 eH308 eH309 eH310 eH311 (eH90.trans eH312) rfl), ⟨_, σ, mq4, by omega, ⟨wq4, hq4, tq4, kq4, lq4, Oq4⟩, rfl, Fq4⟩, rfl⟩
                            · rw [nI_leI (by omega) (by omega)] at b195
                              omega
                          | succ kk ih4 =>
                            intro i hi fq4 wq4 mq4 hq4 tq4 kq4 lq4 Oq4 Fq4 hmq4
                            have hofq4 := hq4.1
                            have hsfq4 := hq4.2.1
                            have hi9 : i < L := by omega
                            refine v_iload_n dX4_digest_190 rfl rfl ?_
                            refine v_aload_n dX4_digest_191 rfl rfl ?_
                            refine v_getfield fX4_160 dX4_digest_192 (by assumption) (by rfl) ?_
                            rw [lq4]
                            refine v_icmp_ge 215 dX4_digest_195 (by decide) (fun b195 => ?_) (fun b195 => ?_)
                            · rw [nI_leI (by omega) (by omega)] at b195
                              omega
                            · rw [nI_leI (by omega) (by omega)] at b195
                              refine v_aload_n dX4_digest_198 rfl rfl ?_
                              refine v_aload_n dX4_digest_199 rfl rfl ?_
                              refine v_getfield fX4_23 dX4_digest_200 (by assumption) (by rfl) ?_
                              refine v_iload_n dX4_digest_203 rfl rfl ?_
                              obtain ⟨-, -, -, ⟨-, g4z, h4a, h4v⟩, -⟩ := id Oq4
                              refine v_iaload dX4_digest_204 h4a (vp_in_nI (by omega) (by omega)) ?_
                              rw [nI_clamp (n := i) (by omega), h4v i hi9]
                              refine v_i2l dX4_digest_205 ?_
                              refine v_callV0 kX4_245 gi_X4_hashes ge_X4_hashes rfl dX4_digest_206 (by assumption) (c_hashes hq4) rfl rfl (by decide) (Nat.le_of_ble_eq_true rfl) (fun f401 m hc401 => ?_)
                              obtain ⟨⟨h401, hf401⟩, rfl⟩ := hc401
                              have O401 := zNO.fr Oq4 hf401 (by omega)
                              have F401 := zFr.trans Fq4 (hf401.weaken (fun τ z => (⟨by omega, by omega⟩ : zTZ τ)))
                              obtain ⟨H401, eH401⟩ : ∃ z : Int64, z = 31 * (sHf (fun i => nI (ch i)) i H90) + (nI (ch i)).toInt64 := ⟨_, rfl⟩
                              rw [← eH401] at h401
                              have ho401 := h401.1
                              have hs401 := h401.2.1
                              refine v_iincN dX4_digest_209 rfl (by decide) ?_
                              refine v_goto 190 dX4_digest_212 (by decide) ?_
                              exact v_loc (lv' := [(0, .ref o), (1, .int (nI (i + 1)))]) ⟨rfl, rfl, trivial⟩ (ih4 (i + 1) (by omega) f401 wq4 mq4 (by have e : H401 = (sHf (fun i => nI (ch i)) (i + 1) H90) := eH401; rw [← e]; exact h401) tq4 kq4 lq4 O401 F401 (by omega))
                        have hstart : MX f312 o B w307 (sHf (fun i => nI (ch i)) 0 H90) σ mr307 := h312
                        exact v_loc (lv' := [(0, .ref o), (1, .int (nI 0))]) ⟨rfl, rfl, trivial⟩ (lo4 L 0 (by omega) f312 w307 mr307 hstart t307 k307 l307 O312 F312 (by omega))
                      · rw [z]
                        refine v_if_eq 175 dX4_digest_168 (by decide) (fun _ => ?_) (fun y => absurd rfl y)
                        refine v_lconst ((hsl 1).toInt64) dX4_digest_175 (by rw [z]; decide) ?_
                        refine v_callV0 kX4_245 gi_X4_hashes ge_X4_hashes rfl dX4_digest_176 (by assumption) (c_hashes h310) rfl rfl (by decide) (Nat.le_of_ble_eq_true rfl) (fun f311 m hc311 => ?_)
                        obtain ⟨⟨h311, hf311⟩, rfl⟩ := hc311
                        have O311 := zNO.fr O310 hf311 (by omega)
                        have F311 := zFr.trans F310 (hf311.weaken (fun τ z => (⟨by omega, by omega⟩ : zTZ τ)))
                        obtain ⟨H311, eH311⟩ : ∃ z : Int64, z = 31 * H310 + (hsl 1).toInt64 := ⟨_, rfl⟩
                        rw [← eH311] at h311
                        have ho311 := h311.1
                        have hs311 := h311.2.1
                        refine v_aload_n dX4_digest_179 rfl rfl ?_
                        refine v_aload_n dX4_digest_180 rfl rfl ?_
                        refine v_getfield fX4_160 dX4_digest_181 (by assumption) (by rfl) ?_
                        rw [l307]
                        refine v_i2l dX4_digest_184 ?_
                        refine v_callV0 kX4_245 gi_X4_hashes ge_X4_hashes rfl dX4_digest_185 (by assumption) (c_hashes h311) rfl rfl (by decide) (Nat.le_of_ble_eq_true rfl) (fun f312 m hc312 => ?_)
                        obtain ⟨⟨h312, hf312⟩, rfl⟩ := hc312
                        have O312 := zNO.fr O311 hf312 (by omega)
                        have F312 := zFr.trans F311 (hf312.weaken (fun τ z => (⟨by omega, by omega⟩ : zTZ τ)))
                        obtain ⟨H312, eH312⟩ : ∃ z : Int64, z = 31 * H311 + (nI L).toInt64 := ⟨_, rfl⟩
                        rw [← eH312] at h312
                        have ho312 := h312.1
                        have hs312 := h312.2.1
                        refine v_iconst (nI 0) dX4_digest_188 (by decide) ?_
                        refine v_istore_n dX4_digest_189 rfl (by decide) ?_
                        obtain ⟨H90, eH90⟩ : ∃ z : Int64, z = H312 := ⟨_, rfl⟩
                        rw [← eH90] at h312
                        have lo4 : ∀ (kk i : Nat), i + kk = L → ∀ (fq4 : zHM) (wq4 : Nat → Int32) (mq4 : Nat), MX fq4 o B wq4 (sHf (fun i => nI (ch i)) i H90) σ mq4 → wq4 0 = nI 0 → wq4 1 = nI k → wq4 2 = nI L → zNO fq4 B k sv hsl sl L ch → zFr zTZ f fq4 → mq4 ≤ mr + 120000 → zV G yX4_digest cX4_digest 2 (some .long) 9 190 [(0, .ref o), (1, .int (nI i))] [] (fq4, m) (zD (some (.long (sDg (rOf σ) n N s (sXs (rOf σ) s n) (sTm (rOf σ) n) a u k gs ch L))) (fun f' m' => (∃ hh', zNP f o B hh' mr 130000 0 k sv hsl sl L ch (fun σ' => σ' = σ) f') ∧ m' = m)) := by
                          intro kk
                          induction kk with
                          | zero =>
                            intro i hi fq4 wq4 mq4 hq4 tq4 kq4 lq4 Oq4 Fq4 hmq4
                            rw [show i = L from by omega] at hq4
                            have hofq4 := hq4.1
                            have hsfq4 := hq4.2.1
                            refine v_iload_n dX4_digest_190 rfl rfl ?_
                            refine v_aload_n dX4_digest_191 rfl rfl ?_
                            refine v_getfield fX4_160 dX4_digest_192 (by assumption) (by rfl) ?_
                            rw [lq4]
                            refine v_icmp_ge 215 dX4_digest_195 (by decide) (fun b195 => ?_) (fun b195 => ?_)
                            · rw [nI_leI (by omega) (by omega)] at b195
                              refine v_aload_n dX4_digest_215 rfl rfl ?_
                              refine v_getfield fX4_241 dX4_digest_216 (by assumption) (by rfl) ?_
                              exact v_lreturn dX4_digest_219 rfl ⟨congrArg (fun z : Int64 => (Sum.inl (some (Value.long z)) : zOut)) (mDg_ok (ch := ch) iv hgs rfl eH301 eH303 eH305 eH306 eH308 eH309 eH310 eH311 (eH90.trans eH312) rfl), ⟨_, σ, mq4, by omega, ⟨wq4, hq4, tq4, kq4, lq4, Oq4⟩, rfl, Fq4⟩, rfl⟩
                            · rw [nI_leI (by omega) (by omega)] at b195
                              omega
                          | succ kk ih4 =>
                            intro i hi fq4 wq4 mq4 hq4 tq4 kq4 lq4 Oq4 Fq4 hmq4
                            have hofq4 := hq4.1
                            have hsfq4 := hq4.2.1
                            have hi9 : i < L := by omega
                            refine v_iload_n dX4_digest_190 rfl rfl ?_
                            refine v_aload_n dX4_digest_191 rfl rfl ?_
                            refine v_getfield fX4_160 dX4_digest_192 (by assumption) (by rfl) ?_
                            rw [lq4]
                            refine v_icmp_ge 215 dX4_digest_195 (by decide) (fun b195 => ?_) (fun b195 => ?_)
                            · rw [nI_leI (by omega) (by omega)] at b195
                              omega
                            · rw [nI_leI (by omega) (by omega)] at b195
                              refine v_aload_n dX4_digest_198 rfl rfl ?_
                              refine v_aload_n dX4_digest_199 rfl rfl ?_
                              refine v_getfield fX4_23 dX4_digest_200 (by assumption) (by rfl) ?_
                              refine v_iload_n dX4_digest_203 rfl rfl ?_
                              obtain ⟨-, -, -, ⟨-, g4z, h4a, h4v⟩, -⟩ := id Oq4
                              refine v_iaload dX4_digest_204 h4a (vp_in_nI (by omega) (by omega)) ?_
                              rw [nI_clamp (n := i) (by omega), h4v i hi9]
                              refine v_i2l dX4_digest_205 ?_
                              refine v_callV0 kX4_245 gi_X4_hashes ge_X4_hashes rfl dX4_digest_206 (by assumption) (c_hashes hq4) rfl rfl (by decide) (Nat.le_of_ble_eq_true rfl) (fun f401 m hc401 => ?_)
                              obtain ⟨⟨h401, hf401⟩, rfl⟩ := hc401
                              have O401 := zNO.fr Oq4 hf401 (by omega)
                              have F401 := zFr.trans Fq4 (hf401.weaken (fun τ z => (⟨by omega, by omega⟩ : zTZ τ)))
                              obtain ⟨H401, eH401⟩ : ∃ z : Int64, z = 31 * (sHf (fun i => nI (ch i)) i H90) + (nI (ch i)).toInt64 := ⟨_, rfl⟩
                              rw [← eH401] at h401
                              have ho401 := h401.1
                              have hs401 := h401.2.1
                              refine v_iincN dX4_digest_209 rfl (by decide) ?_
                              refine v_goto 190 dX4_digest_212 (by decide) ?_
                              exact v_loc (lv' := [(0, .ref o), (1, .int (nI (i + 1)))]) ⟨rfl, rfl, trivial⟩ (ih4 (i + 1) (by omega) f401 wq4 mq4 (by have e : H401 = (sHf (fun i => nI (ch i)) (i + 1) H90) := eH401; rw [← e]; exact h401) tq4 kq4 lq4 O401 F401 (by omega))
                        have hstart : MX f312 o B w307 (sHf (fun i => nI (ch i)) 0 H90) σ mr307 := h312
                        exact v_loc (lv' := [(0, .ref o), (1, .int (nI 0))]) ⟨rfl, rfl, trivial⟩ (lo4 L 0 (by omega) f312 w307 mr307 hstart t307 k307 l307 O312 F312 (by omega))
                  · rw [nI_leI (by omega) (by omega)] at b72
                    omega
                | succ kk ih3 =>
                  intro i hi fq3 wq3 mq3 hq3 tq3 kq3 lq3 Oq3 Fq3 hmq3
                  have hofq3 := hq3.1
                  have hsfq3 := hq3.2.1
                  have hi9 : i < N := by omega
                  refine v_iload_n dX4_digest_65 rfl rfl ?_
                  refine v_aload_n dX4_digest_66 rfl rfl ?_
                  refine v_getfield fX4_7 dX4_digest_67 (by assumption) (by rfl) ?_
                  refine v_iconst (nI 0) dX4_digest_70 (by decide) ?_
                  refine v_iaload dX4_digest_71 (by assumption) (vp_in_nI (by omega) (by omega)) ?_
                  rw [nI_clamp (n := 0) (by omega)]
                  rw [hN]
                  refine v_icmp_ge 86 dX4_digest_72 (by decide) (fun b72 => ?_) (fun b72 => ?_)
                  · rw [nI_leI (by omega) (by omega)] at b72
                    omega
                  · rw [nI_leI (by omega) (by omega)] at b72
                    refine v_aload_n dX4_digest_75 rfl rfl ?_
                    refine v_iload_n dX4_digest_76 rfl rfl ?_
                    refine v_callV0 kX4_251 gi_X4_hashesNail ge_X4_hashesNail rfl dX4_digest_77 (by assumption) (c_hashesNail hq3 (by omega) hw hn hn2 ha hat hu hnow hi9) rfl rfl (by decide) (Nat.le_of_ble_eq_true rfl) (fun f301 m hc301 => ?_)
                    obtain ⟨⟨mr301, hm301, w301, h301, hk301, hf301⟩, rfl⟩ := hc301
                    have t301 := (hk301 0 (by decide) (by decide)).trans tq3
                    have k301 := (hk301 1 (by decide) (by decide)).trans kq3
                    have l301 := (hk301 2 (by decide) (by decide)).trans lq3
                    have O301 := zNO.fr Oq3 hf301 (by intro τ h; rcases h with h | h | h | h <;> omega)
                    have F301 := zFr.trans Fq3 (zFr.weaken hf301 zTYZ)
                    obtain ⟨H301, eH301⟩ : ∃ z : Int64, z = sHn (rOf σ) N s n (sTm (rOf σ) n) a u i (sHg (sHn (rOf σ) N s n (sTm (rOf σ) n) a u) i (sHf (rOf σ 3) 3 (sHf (mCount (rOf σ) s n k) 13 3301))) := ⟨_, rfl⟩
                    rw [← eH301] at h301
                    have ho301 := h301.1
                    have hs301 := h301.2.1
                    refine v_iincN dX4_digest_80 rfl (by decide) ?_
                    refine v_goto 65 dX4_digest_83 (by decide) ?_
                    exact v_loc (lv' := [(0, .ref o), (1, .int (nI (i + 1)))]) ⟨rfl, rfl, trivial⟩ (ih3 (i + 1) (by omega) f301 w301 mr301 (by have e : H301 = (sHg (sHn (rOf σ) N s n (sTm (rOf σ) n) a u) (i + 1) (sHf (rOf σ 3) 3 (sHf (mCount (rOf σ) s n k) 13 3301))) := eH301; rw [← e]; exact h301) t301 k301 l301 O301 F301 (by omega))
              have hstart : MX fq2 o B wq2 (sHg (sHn (rOf σ) N s n (sTm (rOf σ) n) a u) 0 (sHf (rOf σ 3) 3 (sHf (mCount (rOf σ) s n k) 13 3301))) σ mq2 := hq2
              exact v_loc (lv' := [(0, .ref o), (1, .int (nI 0))]) ⟨rfl, rfl, trivial⟩ (lo3 N 0 (by omega) fq2 wq2 mq2 hstart tq2 kq2 lq2 Oq2 Fq2 (by omega))
            · rw [nI_leI (by omega) (by omega)] at b40
              omega
          | succ kk ih2 =>
            intro i hi fq2 wq2 mq2 hq2 tq2 kq2 lq2 Oq2 Fq2 hmq2
            have hofq2 := hq2.1
            have hsfq2 := hq2.2.1
            have hi9 : i < 3 := by omega
            refine v_iload_n dX4_digest_38 rfl rfl ?_
            refine v_iconst (nI 3) dX4_digest_39 (by decide) ?_
            refine v_icmp_ge 63 dX4_digest_40 (by decide) (fun b40 => ?_) (fun b40 => ?_)
            · rw [nI_leI (by omega) (by omega)] at b40
              omega
            · rw [nI_leI (by omega) (by omega)] at b40
              refine v_aload_n dX4_digest_43 rfl rfl ?_
              refine v_aload_n dX4_digest_44 rfl rfl ?_
              refine v_getfield fX4_7 dX4_digest_45 (by assumption) (by rfl) ?_
              refine v_bipush (nI 6) dX4_digest_48 (by decide) ?_
              refine v_iload_n dX4_digest_50 rfl rfl ?_
              refine v_iadd dX4_digest_51 ?_
              rw [nI_add 6 i]
              refine v_iaload dX4_digest_52 (by assumption) (vp_in_nI (by omega) (by omega)) ?_
              rw [nI_clamp (n := (6 + i)) (by omega)]
              refine v_i2l dX4_digest_53 ?_
              refine v_callV0 kX4_245 gi_X4_hashes ge_X4_hashes rfl dX4_digest_54 (by assumption) (c_hashes hq2) rfl rfl (by decide) (Nat.le_of_ble_eq_true rfl) (fun f201 m hc201 => ?_)
              obtain ⟨⟨h201, hf201⟩, rfl⟩ := hc201
              have O201 := zNO.fr Oq2 hf201 (by omega)
              have F201 := zFr.trans Fq2 (hf201.weaken (fun τ z => (⟨by omega, by omega⟩ : zTZ τ)))
              obtain ⟨H201, eH201⟩ : ∃ z : Int64, z = 31 * (sHf (rOf σ 3) i (sHf (mCount (rOf σ) s n k) 13 3301)) + (σ (6 + i)).toInt64 := ⟨_, rfl⟩
              rw [← eH201] at h201
              have ho201 := h201.1
              have hs201 := h201.2.1
              refine v_iincN dX4_digest_57 rfl (by decide) ?_
              refine v_goto 38 dX4_digest_60 (by decide) ?_
              exact v_loc (lv' := [(0, .ref o), (1, .int (nI (i + 1)))]) ⟨rfl, rfl, trivial⟩ (ih2 (i + 1) (by omega) f201 wq2 mq2 (by have e : H201 = (sHf (rOf σ 3) (i + 1) (sHf (mCount (rOf σ) s n k) 13 3301)) := eH201; rw [← e]; exact h201) tq2 kq2 lq2 O201 F201 (by omega))
        have hstart : MX fq1 o B wq1 (sHf (rOf σ 3) 0 (sHf (mCount (rOf σ) s n k) 13 3301)) σ mq1 := hq1
        exact v_loc (lv' := [(0, .ref o), (1, .int (nI 0))]) ⟨rfl, rfl, trivial⟩ (lo2 3 0 (by omega) fq1 wq1 mq1 hstart tq1 kq1 lq1 Oq1 Fq1 (by omega))
      · rw [nI_leI (by omega) (by omega)] at b17
        omega
    | succ kk ih1 =>
      intro i hi fq1 wq1 mq1 hq1 tq1 kq1 lq1 Oq1 Fq1 hmq1
      have hofq1 := hq1.1
      have hsfq1 := hq1.2.1
      have hi9 : i < 13 := by omega
      refine v_iload_n dX4_digest_14 rfl rfl ?_
      refine v_bipush (nI 13) dX4_digest_15 (by decide) ?_
      refine v_icmp_ge 36 dX4_digest_17 (by decide) (fun b17 => ?_) (fun b17 => ?_)
      · rw [nI_leI (by omega) (by omega)] at b17
        omega
      · rw [nI_leI (by omega) (by omega)] at b17
        refine v_aload_n dX4_digest_20 rfl rfl ?_
        refine v_aload_n dX4_digest_21 rfl rfl ?_
        refine v_iload_n dX4_digest_22 rfl rfl ?_
        refine v_callVp kX4_214 gi_X4_tellsCount ge_X4_tellsCount rfl dX4_digest_23 (by assumption) (c_tellsCount hq1 hw hn hn2 kq1 hi9) rfl rfl (by decide) (Nat.le_of_ble_eq_true rfl) ?_
        refine v_i2l dX4_digest_26 ?_
        refine v_callV0 kX4_245 gi_X4_hashes ge_X4_hashes rfl dX4_digest_27 (by assumption) (c_hashes hq1) rfl rfl (by decide) (Nat.le_of_ble_eq_true rfl) (fun f101 m hc101 => ?_)
        obtain ⟨⟨h101, hf101⟩, rfl⟩ := hc101
        have O101 := zNO.fr Oq1 hf101 (by omega)
        have F101 := zFr.trans Fq1 (hf101.weaken (fun τ z => (⟨by omega, by omega⟩ : zTZ τ)))
        obtain ⟨H101, eH101⟩ : ∃ z : Int64, z = 31 * (sHf (mCount (rOf σ) s n k) i 3301) + (mCount (rOf σ) s n k i).toInt64 := ⟨_, rfl⟩
        rw [← eH101] at h101
        have ho101 := h101.1
        have hs101 := h101.2.1
        refine v_iincN dX4_digest_30 rfl (by decide) ?_
        refine v_goto 14 dX4_digest_33 (by decide) ?_
        exact v_loc (lv' := [(0, .ref o), (1, .int (nI (i + 1)))]) ⟨rfl, rfl, trivial⟩ (ih1 (i + 1) (by omega) f101 wq1 mq1 (by have e : H101 = (sHf (mCount (rOf σ) s n k) (i + 1) 3301) := eH101; rw [← e]; exact h101) tq1 kq1 lq1 O101 F101 (by omega))
  have hstart : MX f2 o B w1 (sHf (mCount (rOf σ) s n k) 0 3301) σ mr := h2
  exact v_loc (lv' := [(0, .ref o), (1, .int (nI 0))]) ⟨rfl, rfl, trivial⟩ (lo1 13 0 (by omega) f2 w1 mr hstart t1 k1 l1 O2 F2 (by omega))
