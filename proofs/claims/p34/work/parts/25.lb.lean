def unPr (p : Nat) : Nat × Nat := ((List.range 24).flatMap (fun hi => (List.range hi).map (fun lo => (lo, hi)))).getD p (0, 0)
theorem unPr_ok : ∀ hi, hi < 24 → ∀ lo, lo < hi → unPr (sPr lo hi) = (lo, hi) := by decide +kernel
theorem sPr_inj : ∀ hi, hi < 24 → ∀ lo, lo < hi → ∀ hi', hi' < 24 → ∀ lo', lo' < hi' → sPr lo hi = sPr lo' hi' → lo = lo' ∧ hi = hi' := by
  intro hi h1 lo h2 hi' h3 lo' h4 e
  have e1 := unPr_ok hi h1 lo h2
  rw [e, unPr_ok hi' h3 lo' h4] at e1
  exact ⟨(Prod.mk.inj e1).1.symm, (Prod.mk.inj e1).2.symm⟩
def RV (ρ : zRS) (N s : Nat) : Prop := ρ 0 0 = nI N ∧ sStep ρ = nI s ∧ N * s = 24 ∧ 4 ≤ N
theorem RV.pos {ρ : zRS} {N s : Nat} (h : RV ρ N s) : 0 < s ∧ N ≤ 24 ∧ s ≤ 24 := by
  obtain ⟨-, -, h3, h4⟩ := h
  have hs : 0 < s := by
    rcases Nat.eq_zero_or_pos s with e | e
    · rw [e] at h3; omega
    · exact e
  refine ⟨hs, ?_, ?_⟩
  · calc N = N * 1 := (Nat.mul_one N).symm
      _ ≤ N * s := Nat.mul_le_mul_left N hs
      _ = 24 := h3
  · calc s = 1 * s := (Nat.one_mul s).symm
      _ ≤ N * s := Nat.mul_le_mul_right s (by omega)
      _ = 24 := h3
theorem RV.pl {ρ : zRS} {N s a : Nat} (h : RV ρ N s) (ha : a < N) : a * s < 24 := by
  have := Nat.mul_lt_mul_of_pos_right ha h.pos.1
  rw [h.2.2.1] at this
  exact this
theorem RV.ne {ρ : zRS} {N s a b : Nat} (h : RV ρ N s) (hn : a ≠ b) : a * s ≠ b * s := fun e => hn (Nat.eq_of_mul_eq_mul_right h.pos.1 e)
def zcn (g : Nat → Option Nat) : Nat → Nat
  | 0 => 0
  | n + 1 => zcn g n + (if g n = none then 1 else 0)
theorem zcn_out {g : Nat → Option Nat} {p q : Nat} : ∀ n, n ≤ p → zcn (va_up g p (some q)) n = zcn g n
  | 0, _ => rfl
  | n + 1, h => by
    unfold zcn
    rw [zcn_out n (by omega)]
    have : va_up g p (some q) n = g n := if_neg (by omega)
    rw [this]
theorem zcn_up {g : Nat → Option Nat} {p q : Nat} (hg : g p = none) : ∀ n, p < n → zcn (va_up g p (some q)) n + 1 = zcn g n
  | 0, h => absurd h (Nat.not_lt_zero _)
  | n + 1, h => by
    unfold zcn
    by_cases e : p = n
    · subst e
      have h1 : va_up g p (some q) p = some q := if_pos rfl
      rw [zcn_out p (Nat.le_refl _), h1, hg]
      simp
    · have h1 : va_up g p (some q) n = g n := if_neg (fun z => e z.symm)
      have := zcn_up hg n (by omega) (q := q)
      rw [h1]
      omega
theorem zcn_pos {g : Nat → Option Nat} {p : Nat} (hg : g p = none) (n : Nat) (h : p < n) : 1 ≤ zcn g n := by
  have := zcn_up (q := 0) hg n h
  omega
/-- the row of lines: those that are made are right; the room that those may take that are not made yet is kept -/
def LNok (f : zHM) (m : Nat × Nat) (la : Nat) (M : Nat × Nat) : Prop :=
  M.1 ≤ 50000 ∧ M.2 ≤ 399990 ∧ ∃ g, f la = some (950, .inl (4, 276, .inr (.inr (.inr (.inr g))))) ∧ (∀ p, p < 276 → ∀ q, g p = some q → ∃ lo hi, lo < hi ∧ hi < 24 ∧ sPr lo hi = p ∧ LineAt f (1000 + 2 * p) q lo hi) ∧ m.1 + 3 * zcn g 276 ≤ M.1 ∧ m.2 + 44 * zcn g 276 ≤ M.2
abbrev zT9 : Nat → Prop := fun t => t = 950
theorem LineAt.put {f f' : zHM} {a t tl q lo hi : Nat} {c : (Nat × vp_A) ⊕ (Nat × List Value)} (h : zPut f a (t, c) f') (hl : LineAt f tl q lo hi) (ht : t < tl) : LineAt f' tl q lo hi := by
  obtain ⟨s, g, h1, h2, h3⟩ := hl
  exact ⟨s, g, h.ne h1 (by omega), h.ne h2 (by omega), h3⟩
theorem LineAt.fr {T : Nat → Prop} {f f' : zHM} {tl q lo hi : Nat} (h : zFr T f f') (hl : LineAt f tl q lo hi) (h1 : ¬ T tl) (h2 : ¬ T (tl + 1)) : LineAt f' tl q lo hi := by
  obtain ⟨s, g, e1, e2, e3⟩ := hl
  exact ⟨s, g, h _ _ _ e1 h1, h _ _ _ e2 h2, e3⟩
theorem LineAt.keep {f f' : zHM} {tl q lo hi : Nat} (h : ∀ b x, f b = some x → f' b = some x) (hl : LineAt f tl q lo hi) : LineAt f' tl q lo hi := by
  obtain ⟨s, g, e1, e2, e3⟩ := hl
  exact ⟨s, g, h _ _ e1, h _ _ e2, e3⟩
theorem LNok.fr {T : Nat → Prop} {f f' : zHM} {m : Nat × Nat} {la : Nat} {M : Nat × Nat} (h : zFr T f f') (hl : LNok f m la M) (ht : ∀ t, 950 ≤ t → ¬ T t) : LNok f' m la M := by
  obtain ⟨h1, h2, g, h3, h4, h5, h6⟩ := hl
  refine ⟨h1, h2, g, h _ _ _ h3 (ht _ (by omega)), fun p hp q hq => ?_, h5, h6⟩
  obtain ⟨lo, hi, b1, b2, b3, b4⟩ := h4 p hp q hq
  exact ⟨lo, hi, b1, b2, b3, b4.fr h (ht _ (by omega)) (ht _ (by omega))⟩
theorem sPr_mm (a b : Nat) : sPr (min a b) (max a b) = sPr a b := by
  unfold sPr
  rcases Nat.le_total a b with h | h
  · simp [Nat.min_eq_left h, Nat.max_eq_right h, h]
  · simp [Nat.min_eq_right h, Nat.max_eq_left h, h]
theorem mm_mul (a b s : Nat) : min a b * s = min (a * s) (b * s) ∧ max a b * s = max (a * s) (b * s) := by
  rcases Nat.le_total a b with h | h
  · have := Nat.mul_le_mul_right s h
    exact ⟨by rw [Nat.min_eq_left h, Nat.min_eq_left this], by rw [Nat.max_eq_right h, Nat.max_eq_right this]⟩
  · have := Nat.mul_le_mul_right s h
    exact ⟨by rw [Nat.min_eq_right h, Nat.min_eq_right this], by rw [Nat.max_eq_left h, Nat.max_eq_left this]⟩
theorem nI_m1 {n : Nat} (h : n < 2 ^ 31) : ¬ nI n = -1 := fun e => by
  have h1 := nI_toInt h
  rw [e] at h1
  have h2 : (-1 : Int32).toInt = -1 := by decide
  rw [h2] at h1
  omega
set_option maxRecDepth 10000 in
set_option maxHeartbeats 1000000 in
theorem c_timesLying {G : zW} {f : zHM} {m : Nat × Nat} {t r la n : Nat} {A : Nat → Nat} {ρ : zRS} {xs tm : Nat → Int32} (hr : RPic f t r la A ρ n xs tm) {N s : Nat} (hv : RV ρ N s) {a b : Nat} (ha : a < N) (hb : b < N) (hn : a ≠ b) : zM G yX1_timesLying cX1_timesLying 4 (some .int) 2 [.ref r, .int (nI a), .int (nI b)] (f, m) (zS (.int (tm (sPr (a * s) (b * s)))) f m) := by
  refine zM.of (by decide) (Nat.le_of_ble_eq_true rfl) ?_
  have hpa := hv.pl ha
  have hpb := hv.pl hb
  have hpn := hv.ne hn
  have hpp := sPr_lt hpa hpb hpn
  obtain ⟨r0, ⟨g1, a1, e1⟩, ⟨g2, a2, e2⟩, ⟨g3, a3, e3⟩, ⟨g4, a4, e4⟩, ⟨g5, a5, e5⟩, ⟨g6, a6, e6⟩, ⟨g7, a7, e7⟩, ⟨g8, a8, e8⟩, ⟨g9, a9, e9⟩, ⟨g10, a10, e10⟩⟩ := hr
  refine v_iload_n dX1_timesLying_0 rfl rfl ?_
  refine v_aload_n dX1_timesLying_1 rfl rfl ?_
  refine v_getfield fX1_15 dX1_timesLying_2 (by assumption) (by rfl) ?_
  refine v_imul dX1_timesLying_5 ?_
  refine v_iload_n dX1_timesLying_6 rfl rfl ?_
  refine v_aload_n dX1_timesLying_7 rfl rfl ?_
  refine v_getfield fX1_15 dX1_timesLying_8 (by assumption) (by rfl) ?_
  refine v_imul dX1_timesLying_11 ?_
  rw [hv.2.1, pk_mul, pk_mul]
  refine v_callSp kX1_77 gs_X0_pairOf dX1_timesLying_12 (c_pairOf hpa hpb hpn) rfl rfl (by decide) (Nat.le_of_ble_eq_true rfl) ?_
  refine v_istore_n dX1_timesLying_15 rfl (by decide) ?_
  refine v_iload_n dX1_timesLying_16 rfl rfl ?_
  refine v_iconst (-1) dX1_timesLying_17 (by decide) ?_
  refine v_icmp_ne 25 dX1_timesLying_18 (by decide) (fun b18 => ?_) (fun b18 => ?_)
  · refine v_aload_n dX1_timesLying_25 rfl rfl ?_
    refine v_getfield fX1_46 dX1_timesLying_26 (by assumption) (by rfl) ?_
    refine v_iload_n dX1_timesLying_29 rfl rfl ?_
    refine v_iaload dX1_timesLying_30 (by assumption) (vp_in_nI hpp (by omega)) ?_
    exact v_ireturn dX1_timesLying_31 rfl ⟨by rw [nI_clamp (by omega), e10 _ hpp], rfl, rfl⟩
  · exact absurd b18 (nI_m1 (by omega))
set_option maxRecDepth 10000 in
set_option maxHeartbeats 1000000 in
theorem c_lineBetween {G : zW} {f : zHM} {m : Nat × Nat} {t r la n : Nat} {A : Nat → Nat} {ρ : zRS} {xs tm : Nat → Int32} (hr : RPic f t r la A ρ n xs tm) {N s : Nat} (hv : RV ρ N s) {a b : Nat} (ha : a < N) (hb : b < N) (hn : a ≠ b) {M : Nat × Nat} (hL : LNok f m la M) : zM G yX1_lineBetween cX1_lineBetween 5 (some (.object "RingThreads$Line")) 3 [.ref r, .int (nI a), .int (nI b)] (f, m) (zDr (fun q f' m' => LineAt f' (1000 + 2 * (sPr (a * s) (b * s))) q (min (a * s) (b * s)) (max (a * s) (b * s)) ∧ LNok f' m' la M ∧ zFr zT9 f f')) := by
  refine zM.of (by decide) (Nat.le_of_ble_eq_true rfl) ?_
  have hpa := hv.pl ha
  have hpb := hv.pl hb
  have hpn := hv.ne hn
  have hpp := sPr_lt hpa hpb hpn
  have r0 := hr.1
  have hv9 := hv.pos
  obtain ⟨hM1, hM2, gl, hla, hll, hc1, hc2⟩ := hL
  refine v_iload_n dX1_lineBetween_0 rfl rfl ?_
  refine v_aload_n dX1_lineBetween_1 rfl rfl ?_
  refine v_getfield fX1_15 dX1_lineBetween_2 (by assumption) (by rfl) ?_
  refine v_imul dX1_lineBetween_5 ?_
  refine v_iload_n dX1_lineBetween_6 rfl rfl ?_
  refine v_aload_n dX1_lineBetween_7 rfl rfl ?_
  refine v_getfield fX1_15 dX1_lineBetween_8 (by assumption) (by rfl) ?_
  refine v_imul dX1_lineBetween_11 ?_
  rw [hv.2.1, pk_mul, pk_mul]
  refine v_callSp kX1_77 gs_X0_pairOf dX1_lineBetween_12 (c_pairOf hpa hpb hpn) rfl rfl (by decide) (Nat.le_of_ble_eq_true rfl) ?_
  refine v_istore_n dX1_lineBetween_15 rfl (by decide) ?_
  refine v_iload_n dX1_lineBetween_16 rfl rfl ?_
  refine v_iconst (-1) dX1_lineBetween_17 (by decide) ?_
  refine v_icmp_ne 33 dX1_lineBetween_18 (by decide) (fun b18 => ?_) (fun b18 => ?_)
  · refine v_aload_n dX1_lineBetween_33 rfl rfl ?_
    refine v_getfield fX1_49 dX1_lineBetween_34 (by assumption) (by rfl) ?_
    refine v_iload_n dX1_lineBetween_37 rfl rfl ?_
    refine v_aaloadL dX1_lineBetween_38 (by assumption) (vp_in_nI hpp (by omega)) ?_
    rw [nI_clamp (by omega)]
    cases hgp : gl (sPr (a * s) (b * s)) with
    | some q =>
      obtain ⟨lo, hi, b1, b2, b3, b4⟩ := hll _ hpp q hgp
      have hmm := sPr_inj hi b2 lo b1 (max (a * s) (b * s)) (by omega) (min (a * s) (b * s)) (by omega) (b3.trans (sPr_mm _ _).symm)
      rw [hmm.1, hmm.2] at b4
      refine v_astore dX1_lineBetween_39 (by decide) ?_
      refine v_aload dX1_lineBetween_41 rfl ?_
      refine v_ifnonnull 79 dX1_lineBetween_43 (by decide) ?_
      refine v_aload dX1_lineBetween_79 rfl ?_
      exact v_areturn dX1_lineBetween_81 rfl (Or.inl ⟨_, rfl⟩) ⟨q, rfl, b4, ⟨hM1, hM2, gl, hla, hll, hc1, hc2⟩, zFr.refl⟩
    | none =>
      have hcp := zcn_pos hgp 276 hpp
      refine v_astoreN dX1_lineBetween_39 (by decide) ?_
      refine v_aloadN dX1_lineBetween_41 rfl ?_
      refine v_ifnonnullN dX1_lineBetween_43 ?_
      refine v_iload_n dX1_lineBetween_46 rfl rfl ?_
      refine v_iload_n dX1_lineBetween_47 rfl rfl ?_
      refine v_mmin kX1_86.1 gs_J9_min_7cf53 kX1_86.2.1 kX1_86.2.2.1 dX1_lineBetween_48 (by decide) (Nat.le_of_ble_eq_true rfl) ?_
      rw [nI_min a b (by omega) (by omega)]
      refine v_aload_n dX1_lineBetween_51 rfl rfl ?_
      refine v_getfield fX1_15 dX1_lineBetween_52 (by assumption) (by rfl) ?_
      refine v_imul dX1_lineBetween_55 ?_
      refine v_iload_n dX1_lineBetween_56 rfl rfl ?_
      refine v_iload_n dX1_lineBetween_57 rfl rfl ?_
      refine v_mmax kX1_91.1 gs_J9_max_7cf53 kX1_91.2.1 kX1_91.2.2.1 dX1_lineBetween_58 (by decide) (Nat.le_of_ble_eq_true rfl) ?_
      rw [nI_max a b (by omega) (by omega)]
      refine v_aload_n dX1_lineBetween_61 rfl rfl ?_
      refine v_getfield fX1_15 dX1_lineBetween_62 (by assumption) (by rfl) ?_
      refine v_imul dX1_lineBetween_65 ?_
      rw [hv.2.1, pk_mul, pk_mul, (mm_mul a b s).1, (mm_mul a b s).2]
      refine v_callSr kX1_94 gs_X0_trace dX1_lineBetween_66 (c_trace (1000 + 2 * (sPr (a * s) (b * s))) (lo := min (a * s) (b * s)) (hi := max (a * s) (b * s)) (by omega) (by omega) (by omega) (by omega)) rfl rfl (by decide) (Nat.le_of_ble_eq_true rfl) (fun q f9 m9 h9 => ?_)
      obtain ⟨hl9, hk9, hf9, hm91, hm92⟩ := h9
      have r0 := hk9 _ _ r0
      have hla9 := hk9 _ _ hla
      obtain ⟨sq, gq, hq1, hq2, hq3⟩ := id hl9
      refine v_astore dX1_lineBetween_69 (by decide) ?_
      refine v_aload_n dX1_lineBetween_71 rfl rfl ?_
      refine v_getfield fX1_49 dX1_lineBetween_72 (by assumption) (by rfl) ?_
      refine v_iload_n dX1_lineBetween_75 rfl rfl ?_
      refine v_aload dX1_lineBetween_76 rfl ?_
      refine v_aastoreLX dX1_lineBetween_78 (by assumption) hq1 (vp_in_nI hpp (by omega)) (fun f8 hp => ?_)
      rw [nI_clamp (by omega)] at hp
      refine v_aload dX1_lineBetween_79 rfl ?_
      have hz := zcn_up (q := q) hgp 276 hpp
      refine v_areturn dX1_lineBetween_81 rfl (Or.inl ⟨_, rfl⟩) ⟨q, rfl, hl9.put hp (by omega), ⟨hM1, hM2, _, hp.1, fun p hp9 q9 hq9 => ?_, ?_, ?_⟩, ?_⟩
      · by_cases e : p = (sPr (a * s) (b * s))
        · subst e
          have hqq : va_up gl (sPr (a * s) (b * s)) (some q) (sPr (a * s) (b * s)) = some q := if_pos rfl
          rw [hqq] at hq9
          cases hq9
          exact ⟨_, _, by omega, by omega, sPr_mm _ _, hl9.put hp (by omega)⟩
        · have hqq : va_up gl (sPr (a * s) (b * s)) (some q) p = gl p := if_neg e
          rw [hqq] at hq9
          obtain ⟨lo, hi, b1, b2, b3, b4⟩ := hll p hp9 q9 hq9
          exact ⟨lo, hi, b1, b2, b3, (b4.keep hk9).put hp (by omega)⟩
      · show m9.1 + 3 * zcn (va_up gl (sPr (a * s) (b * s)) (some q)) 276 ≤ M.1
        omega
      · show m9.2 + 44 * zcn (va_up gl (sPr (a * s) (b * s)) (some q)) 276 ≤ M.2
        omega
      · intro b' t' c hb' ht'
        exact hp.ne (hk9 _ _ hb') ht'
  · exact absurd b18 (nI_m1 (by omega))
