theorem i32_a (x z : Int32) : x + 1 * z + (-1) * z = x := by grind
theorem i32_b (x z : Int32) : x - 1 * z - (-1) * z = x := by grind
theorem i32_c (x : Int32) : x + 1 + (-1) = x := by grind
theorem RPic.congr {f : zHM} {t r la n : Nat} {A : Nat → Nat} {ρ ρ' : zRS} {xs tm xs' tm' : Nat → Int32} (hr : RPic f t r la A ρ n xs tm) (h0 : ∀ i, i ≤ 5 → ρ 0 i = ρ' 0 i) (h1 : ∀ i, i < 3 → ρ 1 i = ρ' 1 i ∧ ρ 2 i = ρ' 2 i ∧ ρ 3 i = ρ' 3 i) (h4 : ∀ c, c < n → ρ 4 c = ρ' 4 c ∧ ρ 5 c = ρ' 5 c ∧ ρ 6 c = ρ' 6 c) (h7 : ∀ q, q < 144 → ρ 7 q = ρ' 7 q ∧ ρ 8 q = ρ' 8 q ∧ xs q = xs' q) (h9 : ∀ p, p < 276 → tm p = tm' p) : RPic f t r la A ρ' n xs' tm' := by
  obtain ⟨r0, r1, r2, r3, r4, r5, r6, r7, r8, r9, r10⟩ := hr
  have e : sStep ρ = sStep ρ' := by unfold sStep; rw [h0 0 (by omega)]
  rw [e, h0 0 (by omega), h0 1 (by omega), h0 2 (by omega), h0 3 (by omega), h0 4 (by omega), h0 5 (by omega)] at r0
  exact ⟨r0, r1.congr (fun i hi => (h1 i hi).1), r2.congr (fun i hi => (h1 i hi).2.1), r3.congr (fun i hi => (h1 i hi).2.2), r4.congr (fun i hi => (h4 i hi).1), r5.congr (fun i hi => (h4 i hi).2.1), r6.congr (fun i hi => (h4 i hi).2.2), r7.congr (fun i hi => (h7 i hi).1), r8.congr (fun i hi => (h7 i hi).2.1), r9.congr (fun i hi => (h7 i hi).2.2), r10.congr h9⟩
theorem sInL_back (L : List Nat) (φ : Nat → Int32) (q : Nat) : sInL L (-1) (sInL L 1 φ) q = φ q := by
  unfold sInL
  by_cases h : q ∈ L
  · rw [if_pos h, if_pos h, i32_c]
  · rw [if_neg h, if_neg h]
theorem sPutT_back (tm : Nat → Int32) (p q : Nat) : sPutT (sPutT tm p 1) p (-1) q = tm q := by
  unfold sPutT
  by_cases h : q = p
  · rw [if_pos h, if_pos h, i32_c]
  · rw [if_neg h, if_neg h]
theorem sOff_lay_8 (ρ : zRS) (s n a b u : Nat) (q : Nat) : sOff (sLay ρ s n a b u) s a b u 8 q = ρ 8 q := by
  unfold sOff sLay sPutR
  generalize sPa s a b = L
  generalize sLn s a b = l
  show sInL L (-1 * ρ 1 u) (sInL L (1 * ρ 1 u) (ρ 8)) q = ρ 8 q
  unfold sInL
  by_cases h : q ∈ L
  · rw [if_pos h, if_pos h, i32_a]
  · rw [if_neg h, if_neg h]
theorem sOff_lay_2 (ρ : zRS) (s n a b u : Nat) (i : Nat) : sOff (sLay ρ s n a b u) s a b u 2 i = ρ 2 i := by
  show (if i = u then (if i = u then ρ 2 i - 1 * sLn s a b else ρ 2 i) - -1 * sLn s a b else (if i = u then ρ 2 i - 1 * sLn s a b else ρ 2 i)) = ρ 2 i
  by_cases h : i = u
  · rw [if_pos h, if_pos h, i32_b]
  · rw [if_neg h, if_neg h]
/-- laid and taken off again: as it was -/
theorem RPic.back {f : zHM} {t r la n s a b u : Nat} {A : Nat → Nat} {ρ : zRS} {xs tm : Nat → Int32} (hat : ρ 0 1 = nI a) (hnow : ρ 0 2 = nI u) (hr : RPic f t r la A (sOff (sLay ρ s n a b u) s a b u) n (sInL (sPa s a b) (-1) (sInL (sPa s a b) 1 xs)) (sPutT (sPutT tm (sPr (a * s) (b * s)) 1) (sPr (a * s) (b * s)) (-1))) : RPic f t r la A ρ n xs tm := by
  refine hr.congr (fun i hi => ?_) (fun i hi => ⟨rfl, sOff_lay_2 ρ s n a b u i, rfl⟩) (fun c hc => ⟨?_, ?_, ?_⟩) (fun q hq => ⟨rfl, sOff_lay_8 ρ s n a b u q, sInL_back _ _ q⟩) (fun p hp => sPutT_back _ _ p)
  · show (if i = 1 then nI a else if i = 2 then nI u else if i = 1 then nI b else ρ 0 i) = ρ 0 i
    by_cases h1 : i = 1
    · rw [if_pos h1, h1, hat]
    · rw [if_neg h1]
      by_cases h2 : i = 2
      · rw [if_pos h2, h2, hnow]
      · rw [if_neg h2, if_neg h1]
  · show (if c = n then nI a else ρ 4 c) = ρ 4 c
    exact if_neg (by omega)
  · show (if c = n then nI b else ρ 5 c) = ρ 5 c
    exact if_neg (by omega)
  · show (if c = n then nI u else ρ 6 c) = ρ 6 c
    exact if_neg (by omega)
abbrev zTB : Nat → Prop := fun τ => τ = 950 ∨ (20 ≤ τ ∧ τ ≤ 30)
def sNow (ρ : zRS) (v : Int32) : zRS := zset ρ 0 (fun j => if j = 2 then v else ρ 0 j)
theorem sNow_self (ρ : zRS) : sNow ρ (ρ 0 2) = ρ := by
  funext k i
  unfold sNow zset
  by_cases h : k = 0
  · subst h
    rw [if_pos rfl]
    show (if i = 2 then ρ 0 2 else ρ 0 i) = ρ 0 i
    by_cases h2 : i = 2
    · rw [if_pos h2, h2]
    · rw [if_neg h2]
  · rw [if_neg h]
theorem sNow_now (ρ : zRS) (v w : Int32) : sNow (sNow ρ v) w = sNow ρ w := by
  show zset (zset ρ 0 _) 0 _ = _
  rw [zset_zset]
  unfold sNow
  congr 1
  funext j
  by_cases h : j = 2
  · rw [if_pos h, if_pos h]
  · rw [if_neg h, if_neg h]
    show (if j = 2 then v else ρ 0 j) = ρ 0 j
    rw [if_neg h]
/-- the best spool: (the spool or -1, what it would gain) -/
def sBsp (ρ : zRS) (N s : Nat) (tm : Nat → Int32) (a : Nat) : Nat → Int32 × Int32
  | 0 => (-1, 0)
  | i + 1 => if sBest (sNow ρ (nI i)) N s tm a i = -1 then sBsp ρ N s tm a i
    else if (sBsp ρ N s tm a i).1 = -1 ∨ ¬ sGain (sNow ρ (nI i)) s (ρ 1 i) a (zn (sBest (sNow ρ (nI i)) N s tm a i)) ≤ (sBsp ρ N s tm a i).2 then (nI i, sGain (sNow ρ (nI i)) s (ρ 1 i) a (zn (sBest (sNow ρ (nI i)) N s tm a i)))
    else sBsp ρ N s tm a i
set_option maxRecDepth 10000 in
set_option maxHeartbeats 1000000 in
theorem c_bestSpool {G : zW} {f : zHM} {m : Nat × Nat} {o r tr sc tx sl sv k la n : Nat} {A : Nat → Nat} {ρ : zRS} {xs tm : Nat → Int32} (ho : f o = some (600, .inr (3, zOb r tr sc tx sl sv k))) (hr : RPic f 0 r la A ρ n xs tm) (hn201 : n ≤ 201) {M : Nat × Nat} (hL : LNok f m la M) (hT : RAny f 20 tr la) {N s : Nat} (hw : RW ρ N s n) {a u : Nat} (ha : a < N) (hu : u < 3) (hat : ρ 0 1 = nI a) (hnow : ρ 0 2 = nI u) : zM G yX3_bestSpool cX3_bestSpool 6 (some .int) 7 [.ref o] (f, m) (zD (some (.int (sBsp ρ N s tm a 3).1)) (fun f' m' => LNok f' m' la M ∧ RAny f' 20 tr la ∧ zFr zTB f f')) := by
  refine zM.of (by decide) (Nat.le_of_ble_eq_true rfl) ?_
  have r0 := hr.1
  have hv9 := hw.1.pos
  obtain ⟨At, ρt, nt, xst, tmt, ht⟩ := hT
  refine v_aload_n dX3_bestSpool_0 rfl rfl ?_
  refine v_getfield fX3_38 dX3_bestSpool_1 ho (by rfl) ?_
  refine v_aload_n dX3_bestSpool_4 rfl rfl ?_
  refine v_getfield fX3_34 dX3_bestSpool_5 ho (by rfl) ?_
  refine v_callV0 kX3_183 gi_X1_copyFrom ge_X1_copyFrom rfl dX3_bestSpool_8 ht.1 (c_copyFrom ht hr (Or.inl (by omega)) hn201) rfl rfl (by decide) (Nat.le_of_ble_eq_true rfl) (fun f1 m1 hc => ?_)
  obtain ⟨ht1, hf1, rfl⟩ := hc
  have hf1f := hf1
  have hf1 : zFr zTB f f1 := hf1.weaken (fun τ h => Or.inr h)
  have loop : ∀ (kk i : Nat), i + kk = 3 → ∀ (v : Int32) (f2 : zHM) (m2 : Nat × Nat), RPic f2 20 tr la At (sNow ρ v) n xs tm → LNok f2 m2 la M → zFr zTB f f2 → zV G yX3_bestSpool cX3_bestSpool 6 (some .int) 7 17 [(0, .ref o), (1, .int (sBsp ρ N s tm a i).1), (2, .int (sBsp ρ N s tm a i).2), (3, .int (nI i))] [] (f2, m2) (zD (some (.int (sBsp ρ N s tm a 3).1)) (fun f' m' => LNok f' m' la M ∧ RAny f' 20 tr la ∧ zFr zTB f f')) := by
    intro kk
    induction kk with
    | zero =>
      intro i hi v f2 m2 h2 hL2 hf2
      have hi : i = 3 := by omega
      subst hi
      refine v_iload_n dX3_bestSpool_17 rfl rfl ?_
      refine v_iconst (nI 3) dX3_bestSpool_18 (by decide) ?_
      refine v_icmp_ge 78 dX3_bestSpool_19 (by decide) (fun _ => ?_) (fun b => absurd (by rw [nI_leI (by omega) (by omega)]; omega) b)
      refine v_iload_n dX3_bestSpool_78 rfl rfl ?_
      exact v_ireturn dX3_bestSpool_79 rfl ⟨rfl, hL2, ⟨_, _, _, _, _, h2⟩, hf2⟩
    | succ kk ih =>
      intro i hi v f2 m2 h2 hL2 hf2
      have h9 : i < 3 := by omega
      have ho2 := hf2 _ _ _ ho (fun h => by rcases h with h | h <;> omega)
      refine v_iload_n dX3_bestSpool_17 rfl rfl ?_
      refine v_iconst (nI 3) dX3_bestSpool_18 (by decide) ?_
      refine v_icmp_ge 78 dX3_bestSpool_19 (by decide) (fun b => absurd b (by rw [nI_leI (by omega) (by omega)]; omega)) (fun _ => ?_)
      refine v_aload_n dX3_bestSpool_22 rfl rfl ?_
      refine v_getfield fX3_38 dX3_bestSpool_23 ho2 (by rfl) ?_
      refine v_iload_n dX3_bestSpool_26 rfl rfl ?_
      refine v_putfieldX fX3_76 dX3_bestSpool_27 h2.1 rfl rfl (Nat.le_of_ble_eq_true rfl) (fun f3 hp => ?_)
      have hz : zFr (fun τ => τ = 20) f2 f3 := zFr.put (T := fun τ => τ = 20) zFr.refl hp rfl
      have h3 := h2.sc (fun j => if j = 2 then nI i else sNow ρ v 0 j) hp.1 hz
      have h3 : RPic f3 20 tr la At (sNow (sNow ρ v) (nI i)) n xs tm := h3
      rw [sNow_now] at h3
      have hw3 : RW (sNow ρ (nI i)) N s n := hw.sc _ rfl
      have hat3 : sNow ρ (nI i) 0 1 = nI a := hat
      have hnow3 : sNow ρ (nI i) 0 2 = nI i := rfl
      have hsh3 : sNow ρ (nI i) 1 i = ρ 1 i := rfl
      have hf3 : zFr zTB f f3 := hf2.trans (hz.weaken (fun τ h => Or.inr (by omega)))
      have ho3 := hf3 _ _ _ ho (fun h => by rcases h with h | h <;> omega)
      have hL3 : LNok f3 m2 la M := hL2.fr hz (fun t ht => by omega)
      refine v_aload_n dX3_bestSpool_30 rfl rfl ?_
      refine v_getfield fX3_38 dX3_bestSpool_31 ho3 (by rfl) ?_
      refine v_callV1 kX3_132 gi_X1_bestNail ge_X1_bestNail rfl dX3_bestSpool_34 h3.1 (c_bestNail h3 (by omega) hw3.1 hL3 ha h9 hat3 hnow3) rfl rfl (by decide) (Nat.le_of_ble_eq_true rfl) (fun f4 m4 hc => ?_)
      obtain ⟨hL4, hz4⟩ := hc
      have hf4 : zFr zTB f f4 := hf3.trans (hz4.weaken (fun τ h => Or.inl h))
      have ho4 := hf4 _ _ _ ho (fun h => by rcases h with h | h <;> omega)
      have h4 := h3.fr hz4 (fun k hk h => by omega)
      have hstep : sBsp ρ N s tm a (i + 1) = if sBest (sNow ρ (nI i)) N s tm a i = -1 then sBsp ρ N s tm a i
    else if (sBsp ρ N s tm a i).1 = -1 ∨ ¬ sGain (sNow ρ (nI i)) s (ρ 1 i) a (zn (sBest (sNow ρ (nI i)) N s tm a i)) ≤ (sBsp ρ N s tm a i).2 then (nI i, sGain (sNow ρ (nI i)) s (ρ 1 i) a (zn (sBest (sNow ρ (nI i)) N s tm a i)))
    else sBsp ρ N s tm a i := rfl
      have hih := ih (i + 1) (by omega) (nI i)
      rw [hstep] at hih
      clear hstep
      obtain ⟨p1, hp1⟩ : ∃ x, x = (sBsp ρ N s tm a i).1 := ⟨_, rfl⟩
      rcases sBest_in (sNow ρ (nI i)) N s tm a i with hx | ⟨b, hb, hx, hab⟩
      · rw [if_pos hx] at hih
        rw [hx]
        clear hx
        refine v_istore dX3_bestSpool_37 (by decide) ?_
        refine v_iload dX3_bestSpool_39 rfl ?_
        refine v_iconst (-1) dX3_bestSpool_41 (by decide) ?_
        refine v_icmp_eq 72 dX3_bestSpool_42 (by decide) (fun _ => ?_) (fun z => absurd rfl z)
        refine v_iincN dX3_bestSpool_72 rfl (by decide) ?_
        refine v_goto 17 dX3_bestSpool_75 (by decide) ?_
        exact v_loc (lv' := [(0, .ref o), (1, .int (sBsp ρ N s tm a i).1), (2, .int (sBsp ρ N s tm a i).2), (3, .int (nI (i + 1)))]) ⟨rfl, rfl, rfl, rfl, trivial⟩ (hih f4 m4 h4 hL4 hf4)
      rw [hx]
      rw [hx, if_neg (nI_m1 (by omega)), zn_nI (by omega)] at hih
      clear hx
      refine v_istore dX3_bestSpool_37 (by decide) ?_
      refine v_iload dX3_bestSpool_39 rfl ?_
      refine v_iconst (-1) dX3_bestSpool_41 (by decide) ?_
      refine v_icmp_eq 72 dX3_bestSpool_42 (by decide) (fun z => absurd z (nI_m1 (by omega))) (fun _ => ?_)
      refine v_aload_n dX3_bestSpool_45 rfl rfl ?_
      refine v_getfield fX3_38 dX3_bestSpool_46 ho4 (by rfl) ?_
      refine v_iload dX3_bestSpool_49 rfl ?_
      refine v_callV1 kX3_136 gi_X1_gainTo ge_X1_gainTo rfl dX3_bestSpool_51 h4.1 (c_gainTo h4 (by omega) hw3.1 hL4 ha hb hab h9 hat3 hnow3) rfl rfl (by decide) (Nat.le_of_ble_eq_true rfl) (fun f5 m5 hc => ?_)
      obtain ⟨hL5, hz5⟩ := hc
      have hf5 : zFr zTB f f5 := hf4.trans (hz5.weaken (fun τ h => Or.inl h))
      have h5 := h4.fr hz5 (fun k hk h => by omega)
      rw [hsh3]
      generalize sGain (sNow ρ (nI i)) s (ρ 1 i) a b = y at hih ⊢
      generalize sBsp ρ N s tm a i = pq at hih ⊢
      refine v_istore dX3_bestSpool_54 (by decide) ?_
      refine v_iload_n dX3_bestSpool_56 rfl rfl ?_
      refine v_iconst (-1) dX3_bestSpool_57 (by decide) ?_
      have hyes : (pq.1 = -1 ∨ ¬ y ≤ pq.2) → zV G yX3_bestSpool cX3_bestSpool 6 (some .int) 7 67 [(0, .ref o), (1, .int pq.1), (2, .int pq.2), (3, .int (nI i)), (4, .int (nI b)), (5, .int y)] [] (f5, m5) (zD (some (.int (sBsp ρ N s tm a 3).1)) (fun f' m' => LNok f' m' la M ∧ RAny f' 20 tr la ∧ zFr zTB f f')) := fun hc => by
        rw [if_pos hc] at hih
        refine v_iload_n dX3_bestSpool_67 rfl rfl ?_
        refine v_istore_n dX3_bestSpool_68 rfl (by decide) ?_
        refine v_iload dX3_bestSpool_69 rfl ?_
        refine v_istore_n dX3_bestSpool_71 rfl (by decide) ?_
        refine v_iincN dX3_bestSpool_72 rfl (by decide) ?_
        refine v_goto 17 dX3_bestSpool_75 (by decide) ?_
        exact v_loc (lv' := [(0, .ref o), (1, .int (nI i)), (2, .int y), (3, .int (nI (i + 1)))]) ⟨rfl, rfl, rfl, rfl, trivial⟩ (hih f5 m5 h5 hL5 hf5)
      refine v_icmp_eq 67 dX3_bestSpool_58 (by decide) (fun h => v_loc (lv' := [(0, .ref o), (1, .int pq.1), (2, .int pq.2), (3, .int (nI i)), (4, .int (nI b)), (5, .int y)]) ⟨rfl, rfl, rfl, rfl, rfl, rfl, trivial⟩ (hyes (Or.inl h))) (fun h => ?_)
      refine v_iload dX3_bestSpool_61 rfl ?_
      refine v_iload_n dX3_bestSpool_63 rfl rfl ?_
      refine v_icmp_le 72 dX3_bestSpool_64 (by decide) (fun h2 => ?_) (fun h2 => v_loc (lv' := [(0, .ref o), (1, .int pq.1), (2, .int pq.2), (3, .int (nI i)), (4, .int (nI b)), (5, .int y)]) ⟨rfl, rfl, rfl, rfl, rfl, rfl, trivial⟩ (hyes (Or.inr h2)))
      rw [if_neg (fun z => z.elim h (fun z => z h2))] at hih
      refine v_iincN dX3_bestSpool_72 rfl (by decide) ?_
      refine v_goto 17 dX3_bestSpool_75 (by decide) ?_
      exact v_loc (lv' := [(0, .ref o), (1, .int pq.1), (2, .int pq.2), (3, .int (nI (i + 1)))]) ⟨rfl, rfl, rfl, rfl, trivial⟩ (hih f5 m5 h5 hL5 hf5)
  refine v_iconst (-1) dX3_bestSpool_11 (by decide) ?_
  refine v_istore_n dX3_bestSpool_12 rfl (by decide) ?_
  refine v_iconst (0) dX3_bestSpool_13 (by decide) ?_
  refine v_istore_n dX3_bestSpool_14 rfl (by decide) ?_
  refine v_iconst (nI 0) dX3_bestSpool_15 (by decide) ?_
  refine v_istore_n dX3_bestSpool_16 rfl (by decide) ?_
  exact v_loc (lv' := [(0, .ref o), (1, .int (sBsp ρ N s tm a 0).1), (2, .int (sBsp ρ N s tm a 0).2), (3, .int (nI 0))]) ⟨rfl, rfl, rfl, rfl, trivial⟩ (loop 3 0 (by omega) (ρ 0 2) f1 m1 (by rw [sNow_self]; exact ht1) (hL.fr hf1f (fun t ht h => by have := h.2; omega)) hf1)
