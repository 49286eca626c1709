/-! THE LAW'S HOLDS: what is true of every state that it can reach. -/
def sMf (ρ : zRS) (i : Nat) : Int32 := sSum (fun q => sAbs (sLack ρ q)) i
def sLa (ρ : zRS) (i : Nat) : Int32 := sSum (fun q => if sSgn (sLack ρ q) = 1 then 1 else 0) i
def sMu (ρ : zRS) (i : Nat) : Int32 := sSum (fun q => if sSgn (sLack ρ q) = -1 then 1 else 0) i
def sEn (S : zST) (i : Nat) : Int32 := sSum (fun b => sEnds S.1 S.2.1 (nI b)) i
def sCs (S : zST) (i : Nat) : Int32 := sSum (fun u => sCh S.1 S.2.1 (nI u)) i
def sTs9 (S : zST) (i : Nat) : Int32 := sSum (fun u => sThr S.1 (zs S) S.2.1 (nI u)) i
theorem i32_neg (x : Int32) : -x = 0 - x := by grind
theorem i32_10k (x : Int32) : x + 10000 - 10000 = x := by grind
theorem mf_t {ρ : zRS} {i : Nat} (h : 0 ≤ sLack ρ i) : sMf ρ i + sLack ρ i = sMf ρ (i + 1) := by
  show _ = sMf ρ i + sAbs (sLack ρ i)
  unfold sAbs
  rw [if_pos h]
theorem mf_f {ρ : zRS} {i : Nat} (h : ¬ 0 ≤ sLack ρ i) : sMf ρ i + -sLack ρ i = sMf ρ (i + 1) := by
  show _ = sMf ρ i + sAbs (sLack ρ i)
  unfold sAbs
  rw [if_neg h, i32_neg]
theorem la_t {ρ : zRS} {i : Nat} (h : sLack ρ i ≤ 0) : sLa ρ i + 0 = sLa ρ (i + 1) := by
  show _ = sLa ρ i + (if sSgn (sLack ρ i) = 1 then 1 else 0)
  rw [if_neg (fun z => Int32.not_lt.mpr h ((sSgn_1 _).mp z))]
theorem la_f {ρ : zRS} {i : Nat} (h : ¬ sLack ρ i ≤ 0) : sLa ρ i + 1 = sLa ρ (i + 1) := by
  show _ = sLa ρ i + (if sSgn (sLack ρ i) = 1 then 1 else 0)
  rw [if_pos ((sSgn_1 _).mpr (Int32.not_le.mp h))]
theorem mu_t {ρ : zRS} {i : Nat} (h : 0 ≤ sLack ρ i) : sMu ρ i + 0 = sMu ρ (i + 1) := by
  show _ = sMu ρ i + (if sSgn (sLack ρ i) = -1 then 1 else 0)
  rw [if_neg (fun z => Int32.not_lt.mpr h ((sSgn_m _).mp z))]
theorem mu_f {ρ : zRS} {i : Nat} (h : ¬ 0 ≤ sLack ρ i) : sMu ρ i + 1 = sMu ρ (i + 1) := by
  show _ = sMu ρ i + (if sSgn (sLack ρ i) = -1 then 1 else 0)
  rw [if_pos ((sSgn_m _).mpr (Int32.not_le.mp h))]
theorem thr3 (S : zST) : sTs9 S 3 = sThr S.1 (zs S) S.2.1 0 + sThr S.1 (zs S) S.2.1 1 + sThr S.1 (zs S) S.2.1 2 := by
  show 0 + sThr S.1 (zs S) S.2.1 0 + sThr S.1 (zs S) S.2.1 1 + sThr S.1 (zs S) S.2.1 2 = _
  rw [Int32.zero_add]
theorem wnd_ok {ρ : zRS} {n : Nat} (h : Chn ρ n) (hn : ¬ n = 0) : sWound ρ n 0 1 = ρ 0 1 := by
  show (if n ≤ 0 then -1 else ρ 5 (n - 1 - 0)) = ρ 0 1
  rw [if_neg (by omega)]
  exact h.2 (by omega)
theorem ci_gain2 {G : zW} {f : zHM} {m : Nat × Nat} {x k L : Nat} {st : Nat → zST} {ss : Nat → Option zST} {S : zST} {ch : Nat → Nat} {J : Nat × Nat} (h : CI f m x k st ss S L ch J) (i : IVS S) {a u : Nat} (ha : a < zN S) (hu : u < 3) (hat : S.1 0 1 = nI a) (hnow : S.1 0 2 = nI u) {b : Nat} (hb : b < zN S) {v : Int32} (hv : v = nI b) : zM G yX3_gain cX3_gain 2 (some .int) 7 [.ref x, .int v] (f, m) (zD (some (.int (sGain9 S.1 (zs S) u a b))) (CP x k st ss S L ch J)) := by
  rw [hv]
  exact ci_gain h i ha hu hat hnow hb
/-- why a nail is refused, by nail -/
def sWy (S : zST) (a u : Nat) (b : Nat) : Int32 := sRef (zN S) (zs S) (S.1 3 0) (S.1 3 1) (S.1 2 u) S.2.2.2 a b
def sBe (S : zST) (a u : Nat) : Int32 := sBest S.1 (zN S) (zs S) S.2.2.2 a u
theorem ci_why2 {G : zW} {f : zHM} {m : Nat × Nat} {x k L : Nat} {st : Nat → zST} {ss : Nat → Option zST} {S : zST} {ch : Nat → Nat} {J : Nat × Nat} (h : CI f m x k st ss S L ch J) (i : IVS S) {a u : Nat} (ha : a < zN S) (hu : u < 3) (hat : S.1 0 1 = nI a) (hnow : S.1 0 2 = nI u) {b : Nat} (hb : b < zN S) : zM G yX3_whyNot cX3_whyNot 2 (some .int) 7 [.ref x, .int (nI b)] (f, m) (zD (some (.int (sWy S a u b))) (CP x k st ss S L ch J)) := ci_whyNot h i ha hu hat hnow hb
theorem ci_best2 {G : zW} {f : zHM} {m : Nat × Nat} {x k L : Nat} {st : Nat → zST} {ss : Nat → Option zST} {S : zST} {ch : Nat → Nat} {J : Nat × Nat} (h : CI f m x k st ss S L ch J) (i : IVS S) {a u : Nat} (ha : a < zN S) (hu : u < 3) (hat : S.1 0 1 = nI a) (hnow : S.1 0 2 = nI u) : zM G yX3_best cX3_best 1 (some .int) 6 [.ref x] (f, m) (zD (some (.int (sBe S a u))) (CP x k st ss S L ch J)) := ci_best h i ha hu hat hnow
theorem ci_end2 {G : zW} {f : zHM} {m : Nat × Nat} {x k L : Nat} {st : Nat → zST} {ss : Nat → Option zST} {S : zST} {ch : Nat → Nat} {J : Nat × Nat} (h : CI f m x k st ss S L ch J) (i : IVS S) {b : Nat} (hb : b < zN S) : zM G yX3_nailOf cX3_nailOf 3 (some .int) 7 [.ref x, .int (nI b), .int (nI 2)] (f, m) (zS (.int (sEnds S.1 S.2.1 (nI b))) f m) := ci_nailOf h i hb (w := 2) (by decide)
set_option maxRecDepth 10000 in
set_option maxHeartbeats 1000000 in
theorem c_holds {G : zW} {f : zHM} {m : Nat × Nat} {x ks L : Nat} {st : Nat → zST} {ss : Nat → Option zST} {S : zST} {ch : Nat → Nat} {J : Nat × Nat} {c : Nat} (h : CI f m x ks st ss S L ch J) (g : GS c S) (hc9 : c ≤ 1000) : zM G yL_holds cL_holds 10 (some .boolean) 8 [.ref x] (f, m) (zD (some (.int 1)) (CP x ks st ss S L ch J)) := by
  refine zM.of (by decide) (Nat.le_of_ble_eq_true rfl) ?_
  have iv := g.iv
  have g3 := g.g3
  obtain ⟨hw, hn2, ⟨a, ha, hat⟩, ⟨u, hu, hnow⟩, -⟩ := id iv
  have hN := hw.1.N24
  have tE : ∀ (f : zHM) (m : Nat × Nat), CI f m x ks st ss S L ch J → zV G yL_holds cL_holds 10 (some .boolean) 8 461 [(0, .ref x), (1, .int (sMf S.1 144)), (2, .int (sLa S.1 144)), (3, .int (sMu S.1 144)), (4, .int (sEn S (zN S))), (5, .int (sBe S a u)), (6, .int (sAny (sWy S a u) (zN S))), (7, .int (sCs S (3))), (8, .int (sTs9 S (3)))] [] (f, m) (zD (some (.int 1)) (CP x ks st ss S L ch J)) := by
    intro f m h
    obtain ⟨vx, hx⟩ := h.x
    refine v_aload_n dL_holds_461 rfl rfl ?_
    refine v_iconst (nI 3) dL_holds_462 (by decide) ?_
    refine v_callV1 kL_12 gi_X3_count ge_X3_count rfl dL_holds_463 (by assumption) (ci_cnt h iv (w := 3) (by decide)) rfl rfl (by decide) (Nat.le_of_ble_eq_true rfl) (fun f m hc => ?_)
    have h := hc
    obtain ⟨vx, hx⟩ := h.x
    refine v_if_eq 483 dL_holds_466 (by decide) (fun b466 => ?_) (fun b466 => ?_)
    · refine v_iconst (1) dL_holds_483 (by decide) ?_
      refine v_goto 488 dL_holds_484 (by decide) ?_
      exact v_zreturn dL_holds_488 rfl (by decide) ⟨rfl, h⟩
    · refine v_aload_n dL_holds_469 rfl rfl ?_
      refine v_iconst (nI 0) dL_holds_470 (by decide) ?_
      refine v_iconst (nI 1) dL_holds_471 (by decide) ?_
      refine v_callVp kL_22 gi_X3_wound ge_X3_wound rfl dL_holds_472 (by assumption) (ci_wound h iv (g := 0) (w := 1) (by decide) (by decide)) rfl rfl (by decide) (Nat.le_of_ble_eq_true rfl) ?_
      refine v_aload_n dL_holds_475 rfl rfl ?_
      refine v_iconst (nI 1) dL_holds_476 (by decide) ?_
      refine v_callV1 kL_12 gi_X3_count ge_X3_count rfl dL_holds_477 (by assumption) (ci_cnt h iv (w := 1) (by decide)) rfl rfl (by decide) (Nat.le_of_ble_eq_true rfl) (fun f m hc => ?_)
      have h := hc
      obtain ⟨vx, hx⟩ := h.x
      refine v_icmp_ne 487 dL_holds_480 (by decide) (fun b480 => ?_) (fun b480 => ?_)
      · exact absurd (wnd_ok g3.2.1 (fun e => b466 (show nI S.2.1 = 0 by rw [e]; rfl))) b480
      · refine v_iconst (1) dL_holds_483 (by decide) ?_
        refine v_goto 488 dL_holds_484 (by decide) ?_
        exact v_zreturn dL_holds_488 rfl (by decide) ⟨rfl, h⟩
  have tP : ∀ (f : zHM) (m : Nat × Nat), CI f m x ks st ss S L ch J → zV G yL_holds cL_holds 10 (some .boolean) 8 436 [(0, .ref x), (1, .int (sMf S.1 144)), (2, .int (sLa S.1 144)), (3, .int (sMu S.1 144)), (4, .int (sEn S (zN S))), (5, .int (sBe S a u)), (6, .int (sAny (sWy S a u) (zN S))), (7, .int (sCs S (3))), (8, .int (sTs9 S (3)))] [] (f, m) (zD (some (.int 1)) (CP x ks st ss S L ch J)) := by
    intro f m h
    obtain ⟨vx, hx⟩ := h.x
    rcases pal_ok S.1 with ⟨p1, p2⟩ | ⟨p1, p2⟩
    all_goals replace p1 := And.intro p1 trivial
    · skip
      refine v_aload_n dL_holds_436 rfl rfl ?_
      refine v_callVp kL_77 gi_X3_palest ge_X3_palest rfl dL_holds_437 (by assumption) (ci_palest h) rfl rfl (by decide) (Nat.le_of_ble_eq_true rfl) ?_
      refine v_iconst (-1) dL_holds_440 (by decide) ?_
      refine v_icmp_ne 448 dL_holds_441 (by decide) (fun b441 => ?_) (fun b441 => ?_)
      · exact absurd p1.1 b441
      · refine v_iconst (1) dL_holds_444 (by decide) ?_
        refine v_goto 449 dL_holds_445 (by decide) ?_
        refine v_iload_n dL_holds_449 rfl rfl ?_
        refine v_if_ne 457 dL_holds_450 (by decide) (fun b450 => ?_) (fun b450 => ?_)
        · exact absurd p2 b450
        · refine v_iconst (1) dL_holds_453 (by decide) ?_
          refine v_goto 458 dL_holds_454 (by decide) ?_
          refine v_icmp_ne 487 dL_holds_458 (by decide) (fun b458 => ?_) (fun b458 => ?_)
          · exact absurd rfl b458
          · exact v_loc (lv' := [(0, .ref x), (1, .int (sMf S.1 144)), (2, .int (sLa S.1 144)), (3, .int (sMu S.1 144)), (4, .int (sEn S (zN S))), (5, .int (sBe S a u)), (6, .int (sAny (sWy S a u) (zN S))), (7, .int (sCs S (3))), (8, .int (sTs9 S (3)))]) ⟨rfl, rfl, rfl, rfl, rfl, rfl, rfl, rfl, rfl, trivial⟩ (tE f m h)
    · skip
      refine v_aload_n dL_holds_436 rfl rfl ?_
      refine v_callVp kL_77 gi_X3_palest ge_X3_palest rfl dL_holds_437 (by assumption) (ci_palest h) rfl rfl (by decide) (Nat.le_of_ble_eq_true rfl) ?_
      refine v_iconst (-1) dL_holds_440 (by decide) ?_
      refine v_icmp_ne 448 dL_holds_441 (by decide) (fun b441 => ?_) (fun b441 => ?_)
      · refine v_iconst (0) dL_holds_448 (by decide) ?_
        refine v_iload_n dL_holds_449 rfl rfl ?_
        refine v_if_ne 457 dL_holds_450 (by decide) (fun b450 => ?_) (fun b450 => ?_)
        · refine v_iconst (0) dL_holds_457 (by decide) ?_
          refine v_icmp_ne 487 dL_holds_458 (by decide) (fun b458 => ?_) (fun b458 => ?_)
          · exact absurd rfl b458
          · exact v_loc (lv' := [(0, .ref x), (1, .int (sMf S.1 144)), (2, .int (sLa S.1 144)), (3, .int (sMu S.1 144)), (4, .int (sEn S (zN S))), (5, .int (sBe S a u)), (6, .int (sAny (sWy S a u) (zN S))), (7, .int (sCs S (3))), (8, .int (sTs9 S (3)))]) ⟨rfl, rfl, rfl, rfl, rfl, rfl, rfl, rfl, rfl, trivial⟩ (tE f m h)
        · exact absurd b450 p2
      · exact absurd b441 p1.1
  have tS : ∀ (f : zHM) (m : Nat × Nat), CI f m x ks st ss S L ch J → zV G yL_holds cL_holds 10 (some .boolean) 8 323 [(0, .ref x), (1, .int (sMf S.1 144)), (2, .int (sLa S.1 144)), (3, .int (sMu S.1 144)), (4, .int (sEn S (zN S))), (5, .int (sBe S a u)), (6, .int (sAny (sWy S a u) (zN S))), (7, .int (sCs S (3))), (8, .int (sTs9 S (3))), (9, .int (nI (3)))] [] (f, m) (zD (some (.int 1)) (CP x ks st ss S L ch J)) := by
    intro f m h
    obtain ⟨vx, hx⟩ := h.x
    refine v_aload_n dL_holds_323 rfl rfl ?_
    refine v_bipush (nI 7) dL_holds_324 (by decide) ?_
    refine v_callV1 kL_12 gi_X3_count ge_X3_count rfl dL_holds_326 (by assumption) (ci_cnt h iv (w := 7) (by decide)) rfl rfl (by decide) (Nat.le_of_ble_eq_true rfl) (fun f m hc => ?_)
    have h := hc
    obtain ⟨vx, hx⟩ := h.x
    refine v_iload_n dL_holds_329 rfl rfl ?_
    refine v_icmp_ne 413 dL_holds_330 (by decide) (fun b330 => ?_) (fun b330 => ?_)
    · exact absurd rfl b330
    · refine v_aload_n dL_holds_333 rfl rfl ?_
      refine v_bipush (nI 8) dL_holds_334 (by decide) ?_
      refine v_callV1 kL_12 gi_X3_count ge_X3_count rfl dL_holds_336 (by assumption) (ci_cnt h iv (w := 8) (by decide)) rfl rfl (by decide) (Nat.le_of_ble_eq_true rfl) (fun f m hc => ?_)
      have h := hc
      obtain ⟨vx, hx⟩ := h.x
      refine v_iload_n dL_holds_339 rfl rfl ?_
      refine v_icmp_ne 413 dL_holds_340 (by decide) (fun b340 => ?_) (fun b340 => ?_)
      · exact absurd (sMG_misfit iv) b340
      · refine v_aload_n dL_holds_343 rfl rfl ?_
        refine v_bipush (nI 9) dL_holds_344 (by decide) ?_
        refine v_callV1 kL_12 gi_X3_count ge_X3_count rfl dL_holds_346 (by assumption) (ci_cnt h iv (w := 9) (by decide)) rfl rfl (by decide) (Nat.le_of_ble_eq_true rfl) (fun f m hc => ?_)
        have h := hc
        obtain ⟨vx, hx⟩ := h.x
        refine v_iload_n dL_holds_349 rfl rfl ?_
        refine v_icmp_ne 413 dL_holds_350 (by decide) (fun b350 => ?_) (fun b350 => ?_)
        · exact absurd rfl b350
        · refine v_aload_n dL_holds_353 rfl rfl ?_
          refine v_bipush (nI 10) dL_holds_354 (by decide) ?_
          refine v_callV1 kL_12 gi_X3_count ge_X3_count rfl dL_holds_356 (by assumption) (ci_cnt h iv (w := 10) (by decide)) rfl rfl (by decide) (Nat.le_of_ble_eq_true rfl) (fun f m hc => ?_)
          have h := hc
          obtain ⟨vx, hx⟩ := h.x
          refine v_iload_n dL_holds_359 rfl rfl ?_
          refine v_icmp_ne 413 dL_holds_360 (by decide) (fun b360 => ?_) (fun b360 => ?_)
          · exact absurd rfl b360
          · refine v_iload dL_holds_363 rfl ?_
            refine v_iconst (nI 2) dL_holds_365 (by decide) ?_
            refine v_aload_n dL_holds_366 rfl rfl ?_
            refine v_iconst (nI 3) dL_holds_367 (by decide) ?_
            refine v_callV1 kL_12 gi_X3_count ge_X3_count rfl dL_holds_368 (by assumption) (ci_cnt h iv (w := 3) (by decide)) rfl rfl (by decide) (Nat.le_of_ble_eq_true rfl) (fun f m hc => ?_)
            have h := hc
            obtain ⟨vx, hx⟩ := h.x
            refine v_imul dL_holds_371 ?_
            refine v_icmp_ne 413 dL_holds_372 (by decide) (fun b372 => ?_) (fun b372 => ?_)
            · exact absurd ((sEnds_sum iv.1 S.2.1 (Nat.le_refl _)).trans (pk_mul 2 S.2.1).symm) b372
            · refine v_iload dL_holds_375 rfl ?_
              refine v_aload_n dL_holds_377 rfl rfl ?_
              refine v_iconst (nI 3) dL_holds_378 (by decide) ?_
              refine v_callV1 kL_12 gi_X3_count ge_X3_count rfl dL_holds_379 (by assumption) (ci_cnt h iv (w := 3) (by decide)) rfl rfl (by decide) (Nat.le_of_ble_eq_true rfl) (fun f m hc => ?_)
              have h := hc
              obtain ⟨vx, hx⟩ := h.x
              refine v_icmp_ne 413 dL_holds_382 (by decide) (fun b382 => ?_) (fun b382 => ?_)
              · exact absurd (sCh_sum iv.1 S.2.1 (Nat.le_refl _)) b382
              · refine v_iload dL_holds_385 rfl ?_
                refine v_aload_n dL_holds_387 rfl rfl ?_
                refine v_bipush (nI 11) dL_holds_388 (by decide) ?_
                refine v_callV1 kL_12 gi_X3_count ge_X3_count rfl dL_holds_390 (by assumption) (ci_cnt h iv (w := 11) (by decide)) rfl rfl (by decide) (Nat.le_of_ble_eq_true rfl) (fun f m hc => ?_)
                have h := hc
                obtain ⟨vx, hx⟩ := h.x
                refine v_icmp_ne 413 dL_holds_393 (by decide) (fun b393 => ?_) (fun b393 => ?_)
                · exact absurd (thr3 S) b393
                · refine v_aload_n dL_holds_396 rfl rfl ?_
                  refine v_iconst (nI 4) dL_holds_397 (by decide) ?_
                  refine v_callV1 kL_12 gi_X3_count ge_X3_count rfl dL_holds_398 (by assumption) (ci_cnt h iv (w := 4) (by decide)) rfl rfl (by decide) (Nat.le_of_ble_eq_true rfl) (fun f m hc => ?_)
                  have h := hc
                  obtain ⟨vx, hx⟩ := h.x
                  refine v_aload_n dL_holds_401 rfl rfl ?_
                  refine v_iconst (nI 3) dL_holds_402 (by decide) ?_
                  refine v_callV1 kL_12 gi_X3_count ge_X3_count rfl dL_holds_403 (by assumption) (ci_cnt h iv (w := 3) (by decide)) rfl rfl (by decide) (Nat.le_of_ble_eq_true rfl) (fun f m hc => ?_)
                  have h := hc
                  obtain ⟨vx, hx⟩ := h.x
                  refine v_icmp_lt 413 dL_holds_406 (by decide) (fun b406 => ?_) (fun b406 => ?_)
                  · obtain ⟨w9, w1, w2, w3⟩ := g3.2.2.1
                    have z : S.1 0 3 < nI S.2.1 := b406
                    rw [w3, nI_ltI (by omega) (by omega)] at z
                    omega
                  · refine v_iconst (1) dL_holds_409 (by decide) ?_
                    refine v_goto 414 dL_holds_410 (by decide) ?_
                    refine v_istore dL_holds_414 (by decide) ?_
                    refine v_iload dL_holds_416 rfl ?_
                    refine v_if_eq 487 dL_holds_418 (by decide) (fun b418 => ?_) (fun b418 => ?_)
                    · exact absurd b418 (by decide)
                    · refine v_iload dL_holds_421 rfl ?_
                      refine v_iload dL_holds_423 rfl ?_
                      refine v_if_lt 432 dL_holds_425 (by decide) (fun b425 => ?_) (fun b425 => ?_)
                      · refine v_iconst (0) dL_holds_432 (by decide) ?_
                        refine v_icmp_ne 487 dL_holds_433 (by decide) (fun b433 => ?_) (fun b433 => ?_)
                        · rcases any_ok iv ha hu S.2.2.2 with z | z
                          · first | exact absurd z.1 b433 | exact absurd b425 z.2
                          · first | exact absurd z.1 b433 | exact absurd z.2 b425
                        · exact v_loc (lv' := [(0, .ref x), (1, .int (sMf S.1 144)), (2, .int (sLa S.1 144)), (3, .int (sMu S.1 144)), (4, .int (sEn S (zN S))), (5, .int (sBe S a u)), (6, .int (sAny (sWy S a u) (zN S))), (7, .int (sCs S (3))), (8, .int (sTs9 S (3)))]) ⟨rfl, rfl, rfl, rfl, rfl, rfl, rfl, rfl, rfl, trivial⟩ (tP f m h)
                      · refine v_iconst (1) dL_holds_428 (by decide) ?_
                        refine v_goto 433 dL_holds_429 (by decide) ?_
                        refine v_icmp_ne 487 dL_holds_433 (by decide) (fun b433 => ?_) (fun b433 => ?_)
                        · rcases any_ok iv ha hu S.2.2.2 with z | z
                          · first | exact absurd z.1 b433 | exact absurd b425 z.2
                          · first | exact absurd z.1 b433 | exact absurd z.2 b425
                        · exact v_loc (lv' := [(0, .ref x), (1, .int (sMf S.1 144)), (2, .int (sLa S.1 144)), (3, .int (sMu S.1 144)), (4, .int (sEn S (zN S))), (5, .int (sBe S a u)), (6, .int (sAny (sWy S a u) (zN S))), (7, .int (sCs S (3))), (8, .int (sTs9 S (3)))]) ⟨rfl, rfl, rfl, rfl, rfl, rfl, rfl, rfl, rfl, trivial⟩ (tP f m h)
  have loopC : ∀ (k i : Nat), i + k = 3 → ∀ (f : zHM) (m : Nat × Nat), CI f m x ks st ss S L ch J → zV G yL_holds cL_holds 10 (some .boolean) 8 287 [(0, .ref x), (1, .int (sMf S.1 144)), (2, .int (sLa S.1 144)), (3, .int (sMu S.1 144)), (4, .int (sEn S (zN S))), (5, .int (sBe S a u)), (6, .int (sAny (sWy S a u) (zN S))), (7, .int (sCs S (i))), (8, .int (sTs9 S (i))), (9, .int (nI (i)))] [] (f, m) (zD (some (.int 1)) (CP x ks st ss S L ch J)) := by
    intro k
    induction k with
    | zero =>
      intro i hi f m h
      have hi : i = 3 := by omega
      subst hi
      obtain ⟨vx, hx⟩ := h.x
      refine v_iload dL_holds_287 rfl ?_
      refine v_iconst (nI 3) dL_holds_289 (by decide) ?_
      refine v_icmp_ge 323 dL_holds_290 (by decide) (fun b290 => ?_) (fun b290 => ?_)
      · exact v_loc (lv' := [(0, .ref x), (1, .int (sMf S.1 144)), (2, .int (sLa S.1 144)), (3, .int (sMu S.1 144)), (4, .int (sEn S (zN S))), (5, .int (sBe S a u)), (6, .int (sAny (sWy S a u) (zN S))), (7, .int (sCs S (3))), (8, .int (sTs9 S (3))), (9, .int (nI (3)))]) ⟨rfl, rfl, rfl, rfl, rfl, rfl, rfl, rfl, rfl, rfl, trivial⟩ (tS f m h)
      · exact absurd (nI_le (by omega) (by omega)) b290
    | succ k ih =>
      intro i hi f m h
      have h9 : i < 3 := by omega
      obtain ⟨vx, hx⟩ := h.x
      refine v_iload dL_holds_287 rfl ?_
      refine v_iconst (nI 3) dL_holds_289 (by decide) ?_
      refine v_icmp_ge 323 dL_holds_290 (by decide) (fun b290 => ?_) (fun b290 => ?_)
      · exact absurd b290 (nI_ge h9 (by omega))
      · refine v_iload dL_holds_293 rfl ?_
        refine v_aload_n dL_holds_295 rfl rfl ?_
        refine v_iload dL_holds_296 rfl ?_
        refine v_iconst (nI 3) dL_holds_298 (by decide) ?_
        refine v_callV1 kL_18 gi_X3_spoolOf ge_X3_spoolOf rfl dL_holds_299 (by assumption) (ci_spoolOf h iv (u := i) (w := 3) h9 (by decide)) rfl rfl (by decide) (Nat.le_of_ble_eq_true rfl) (fun f m hc => ?_)
        have h := hc
        obtain ⟨vx, hx⟩ := h.x
        refine v_iadd dL_holds_302 ?_
        refine v_istore dL_holds_303 (by decide) ?_
        refine v_iload dL_holds_305 rfl ?_
        refine v_aload_n dL_holds_307 rfl rfl ?_
        refine v_iload dL_holds_308 rfl ?_
        refine v_iconst (nI 2) dL_holds_310 (by decide) ?_
        refine v_callV1 kL_18 gi_X3_spoolOf ge_X3_spoolOf rfl dL_holds_311 (by assumption) (ci_spoolOf h iv (u := i) (w := 2) h9 (by decide)) rfl rfl (by decide) (Nat.le_of_ble_eq_true rfl) (fun f m hc => ?_)
        have h := hc
        obtain ⟨vx, hx⟩ := h.x
        refine v_iadd dL_holds_314 ?_
        refine v_istore dL_holds_315 (by decide) ?_
        refine v_iincN dL_holds_317 rfl (by decide) ?_
        refine v_goto 287 dL_holds_320 (by decide) ?_
        exact v_loc (lv' := [(0, .ref x), (1, .int (sMf S.1 144)), (2, .int (sLa S.1 144)), (3, .int (sMu S.1 144)), (4, .int (sEn S (zN S))), (5, .int (sBe S a u)), (6, .int (sAny (sWy S a u) (zN S))), (7, .int (sCs S (i + 1))), (8, .int (sTs9 S (i + 1))), (9, .int (nI (i + 1)))]) ⟨rfl, rfl, rfl, rfl, rfl, rfl, rfl, rfl, rfl, rfl, trivial⟩ (ih (i + 1) (by omega) f m h)
  have tB : ∀ (i : Nat), i < zN S → (∀ (f : zHM) (m : Nat × Nat), CI f m x ks st ss S L ch J → zV G yL_holds cL_holds 10 (some .boolean) 8 145 [(0, .ref x), (1, .int (sMf S.1 144)), (2, .int (sLa S.1 144)), (3, .int (sMu S.1 144)), (4, .int (sEn S (i + 1))), (5, .int (sBe S a u)), (6, .int (sAny (sWy S a u) (i + 1))), (7, .int (nI (i + 1)))] [] (f, m) (zD (some (.int 1)) (CP x ks st ss S L ch J))) → ∀ (f : zHM) (m : Nat × Nat), CI f m x ks st ss S L ch J → zV G yL_holds cL_holds 10 (some .boolean) 8 192 [(0, .ref x), (1, .int (sMf S.1 144)), (2, .int (sLa S.1 144)), (3, .int (sMu S.1 144)), (4, .int (sEn S (i + 1))), (5, .int (sBe S a u)), (6, .int (sAny (sWy S a u) (i + 1))), (7, .int (nI (i))), (8, .int (sWy S a u i))] [] (f, m) (zD (some (.int 1)) (CP x ks st ss S L ch J)) := by
    intro i h9 ih f m h
    obtain ⟨vx, hx⟩ := h.x
    by_cases hb : i = a
    · have e1 : sWy S a u i = 1 := by
        subst hb
        exact sRef_a _ _ _ _ _ _ _
      have e2 : sGain9 S.1 (zs S) u a i = -1 := if_pos hb
      have e3 : nI i = S.1 0 1 := by rw [hat, hb]
      refine v_iload dL_holds_192 rfl ?_
      refine v_iconst (1) dL_holds_194 (by decide) ?_
      refine v_icmp_ne 202 dL_holds_195 (by decide) (fun b195 => ?_) (fun b195 => ?_)
      · exact absurd e1 b195
      · refine v_iconst (1) dL_holds_198 (by decide) ?_
        refine v_goto 203 dL_holds_199 (by decide) ?_
        refine v_iload dL_holds_203 rfl ?_
        refine v_aload_n dL_holds_205 rfl rfl ?_
        refine v_iconst (nI 1) dL_holds_206 (by decide) ?_
        refine v_callV1 kL_12 gi_X3_count ge_X3_count rfl dL_holds_207 (by assumption) (ci_cnt h iv (w := 1) (by decide)) rfl rfl (by decide) (Nat.le_of_ble_eq_true rfl) (fun f m hc => ?_)
        have h := hc
        obtain ⟨vx, hx⟩ := h.x
        refine v_icmp_ne 217 dL_holds_210 (by decide) (fun b210 => ?_) (fun b210 => ?_)
        · exact absurd e3 b210
        · refine v_iconst (1) dL_holds_213 (by decide) ?_
          refine v_goto 218 dL_holds_214 (by decide) ?_
          refine v_icmp_ne 270 dL_holds_218 (by decide) (fun b218 => ?_) (fun b218 => ?_)
          · exact absurd rfl b218
          · refine v_aload_n dL_holds_221 rfl rfl ?_
            refine v_iload dL_holds_222 rfl ?_
            refine v_callV1 kL_74 gi_X3_gain ge_X3_gain rfl dL_holds_224 (by assumption) (ci_gain h iv ha hu hat hnow h9) rfl rfl (by decide) (Nat.le_of_ble_eq_true rfl) (fun f m hc => ?_)
            have h := hc
            obtain ⟨vx, hx⟩ := h.x
            refine v_iconst (-1) dL_holds_227 (by decide) ?_
            refine v_icmp_ne 235 dL_holds_228 (by decide) (fun b228 => ?_) (fun b228 => ?_)
            · exact absurd e2 b228
            · refine v_iconst (1) dL_holds_231 (by decide) ?_
              refine v_goto 236 dL_holds_232 (by decide) ?_
              refine v_iload dL_holds_236 rfl ?_
              refine v_iconst (1) dL_holds_238 (by decide) ?_
              refine v_icmp_ne 246 dL_holds_239 (by decide) (fun b239 => ?_) (fun b239 => ?_)
              · exact absurd e1 b239
              · refine v_iconst (1) dL_holds_242 (by decide) ?_
                refine v_goto 247 dL_holds_243 (by decide) ?_
                refine v_icmp_ne 270 dL_holds_247 (by decide) (fun b247 => ?_) (fun b247 => ?_)
                · exact absurd rfl b247
                · refine v_iload dL_holds_250 rfl ?_
                  refine v_if_ne 272 dL_holds_252 (by decide) (fun b252 => ?_) (fun b252 => ?_)
                  · refine v_iincN dL_holds_272 rfl (by decide) ?_
                    refine v_goto 145 dL_holds_275 (by decide) ?_
                    exact v_loc (lv' := [(0, .ref x), (1, .int (sMf S.1 144)), (2, .int (sLa S.1 144)), (3, .int (sMu S.1 144)), (4, .int (sEn S (i + 1))), (5, .int (sBe S a u)), (6, .int (sAny (sWy S a u) (i + 1))), (7, .int (nI (i + 1)))]) ⟨rfl, rfl, rfl, rfl, rfl, rfl, rfl, rfl, trivial⟩ (ih f m h)
                  · exact absurd (e1.symm.trans b252) (by decide)
    · have e1 : ¬ sWy S a u i = 1 := sRef_b hb
      have e2 : ¬ sGain9 S.1 (zs S) u a i = -1 := sG9_m iv ha hu h9 hb
      have e3 : ¬ nI i = S.1 0 1 := fun z => hb ((nI_eq (by omega) (by omega)).mp (z.trans hat))
      refine v_iload dL_holds_192 rfl ?_
      refine v_iconst (1) dL_holds_194 (by decide) ?_
      refine v_icmp_ne 202 dL_holds_195 (by decide) (fun b195 => ?_) (fun b195 => ?_)
      · refine v_iconst (0) dL_holds_202 (by decide) ?_
        refine v_iload dL_holds_203 rfl ?_
        refine v_aload_n dL_holds_205 rfl rfl ?_
        refine v_iconst (nI 1) dL_holds_206 (by decide) ?_
        refine v_callV1 kL_12 gi_X3_count ge_X3_count rfl dL_holds_207 (by assumption) (ci_cnt h iv (w := 1) (by decide)) rfl rfl (by decide) (Nat.le_of_ble_eq_true rfl) (fun f m hc => ?_)
        have h := hc
        obtain ⟨vx, hx⟩ := h.x
        refine v_icmp_ne 217 dL_holds_210 (by decide) (fun b210 => ?_) (fun b210 => ?_)
        · refine v_iconst (0) dL_holds_217 (by decide) ?_
          refine v_icmp_ne 270 dL_holds_218 (by decide) (fun b218 => ?_) (fun b218 => ?_)
          · exact absurd rfl b218
          · refine v_aload_n dL_holds_221 rfl rfl ?_
            refine v_iload dL_holds_222 rfl ?_
            refine v_callV1 kL_74 gi_X3_gain ge_X3_gain rfl dL_holds_224 (by assumption) (ci_gain h iv ha hu hat hnow h9) rfl rfl (by decide) (Nat.le_of_ble_eq_true rfl) (fun f m hc => ?_)
            have h := hc
            obtain ⟨vx, hx⟩ := h.x
            refine v_iconst (-1) dL_holds_227 (by decide) ?_
            refine v_icmp_ne 235 dL_holds_228 (by decide) (fun b228 => ?_) (fun b228 => ?_)
            · refine v_iconst (0) dL_holds_235 (by decide) ?_
              refine v_iload dL_holds_236 rfl ?_
              refine v_iconst (1) dL_holds_238 (by decide) ?_
              refine v_icmp_ne 246 dL_holds_239 (by decide) (fun b239 => ?_) (fun b239 => ?_)
              · refine v_iconst (0) dL_holds_246 (by decide) ?_
                refine v_icmp_ne 270 dL_holds_247 (by decide) (fun b247 => ?_) (fun b247 => ?_)
                · exact absurd rfl b247
                · refine v_iload dL_holds_250 rfl ?_
                  refine v_if_ne 272 dL_holds_252 (by decide) (fun b252 => ?_) (fun b252 => ?_)
                  · refine v_iincN dL_holds_272 rfl (by decide) ?_
                    refine v_goto 145 dL_holds_275 (by decide) ?_
                    exact v_loc (lv' := [(0, .ref x), (1, .int (sMf S.1 144)), (2, .int (sLa S.1 144)), (3, .int (sMu S.1 144)), (4, .int (sEn S (i + 1))), (5, .int (sBe S a u)), (6, .int (sAny (sWy S a u) (i + 1))), (7, .int (nI (i + 1)))]) ⟨rfl, rfl, rfl, rfl, rfl, rfl, rfl, rfl, trivial⟩ (ih f m h)
                  · obtain ⟨b0, hb0, eb, hle⟩ := best_ok iv ha hu h9 b252
                    refine v_aload_n dL_holds_255 rfl rfl ?_
                    refine v_iload dL_holds_256 rfl ?_
                    refine v_callV1 kL_74 gi_X3_gain ge_X3_gain rfl dL_holds_258 (by assumption) (ci_gain h iv ha hu hat hnow h9) rfl rfl (by decide) (Nat.le_of_ble_eq_true rfl) (fun f m hc => ?_)
                    have h := hc
                    obtain ⟨vx, hx⟩ := h.x
                    refine v_aload_n dL_holds_261 rfl rfl ?_
                    refine v_iload dL_holds_262 rfl ?_
                    refine v_callV1 kL_74 gi_X3_gain ge_X3_gain rfl dL_holds_264 (by assumption) (ci_gain2 h iv ha hu hat hnow hb0 eb) rfl rfl (by decide) (Nat.le_of_ble_eq_true rfl) (fun f m hc => ?_)
                    have h := hc
                    obtain ⟨vx, hx⟩ := h.x
                    refine v_icmp_le 272 dL_holds_267 (by decide) (fun b267 => ?_) (fun b267 => ?_)
                    · refine v_iincN dL_holds_272 rfl (by decide) ?_
                      refine v_goto 145 dL_holds_275 (by decide) ?_
                      exact v_loc (lv' := [(0, .ref x), (1, .int (sMf S.1 144)), (2, .int (sLa S.1 144)), (3, .int (sMu S.1 144)), (4, .int (sEn S (i + 1))), (5, .int (sBe S a u)), (6, .int (sAny (sWy S a u) (i + 1))), (7, .int (nI (i + 1)))]) ⟨rfl, rfl, rfl, rfl, rfl, rfl, rfl, rfl, trivial⟩ (ih f m h)
                    · exact absurd hle b267
              · exact absurd b239 e1
            · exact absurd b228 e2
        · exact absurd b210 e3
      · exact absurd b195 e1
  have loopB : ∀ (k i : Nat), i + k = zN S → ∀ (f : zHM) (m : Nat × Nat), CI f m x ks st ss S L ch J → zV G yL_holds cL_holds 10 (some .boolean) 8 145 [(0, .ref x), (1, .int (sMf S.1 144)), (2, .int (sLa S.1 144)), (3, .int (sMu S.1 144)), (4, .int (sEn S (i))), (5, .int (sBe S a u)), (6, .int (sAny (sWy S a u) (i))), (7, .int (nI (i)))] [] (f, m) (zD (some (.int 1)) (CP x ks st ss S L ch J)) := by
    intro k
    induction k with
    | zero =>
      intro i hi f m h
      have hi : i = zN S := by omega
      subst hi
      obtain ⟨vx, hx⟩ := h.x
      refine v_iload dL_holds_145 rfl ?_
      refine v_aload_n dL_holds_147 rfl rfl ?_
      refine v_iconst (nI 0) dL_holds_148 (by decide) ?_
      refine v_callV1 kL_12 gi_X3_count ge_X3_count rfl dL_holds_149 (by assumption) (ci_cN h iv) rfl rfl (by decide) (Nat.le_of_ble_eq_true rfl) (fun f m hc => ?_)
      have h := hc
      obtain ⟨vx, hx⟩ := h.x
      refine v_icmp_ge 278 dL_holds_152 (by decide) (fun b152 => ?_) (fun b152 => ?_)
      · refine v_iconst (0) dL_holds_278 (by decide) ?_
        refine v_istore dL_holds_279 (by decide) ?_
        refine v_iconst (0) dL_holds_281 (by decide) ?_
        refine v_istore dL_holds_282 (by decide) ?_
        refine v_iconst (0) dL_holds_284 (by decide) ?_
        refine v_istore dL_holds_285 (by decide) ?_
        exact v_loc (lv' := [(0, .ref x), (1, .int (sMf S.1 144)), (2, .int (sLa S.1 144)), (3, .int (sMu S.1 144)), (4, .int (sEn S (zN S))), (5, .int (sBe S a u)), (6, .int (sAny (sWy S a u) (zN S))), (7, .int (sCs S (0))), (8, .int (sTs9 S (0))), (9, .int (nI (0)))]) ⟨rfl, rfl, rfl, rfl, rfl, rfl, rfl, rfl, rfl, rfl, trivial⟩ (loopC 3 0 rfl f m h)
      · exact absurd (nI_le (by omega) (by omega)) b152
    | succ k ih =>
      intro i hi f m h
      have h9 : i < zN S := by omega
      obtain ⟨vx, hx⟩ := h.x
      refine v_iload dL_holds_145 rfl ?_
      refine v_aload_n dL_holds_147 rfl rfl ?_
      refine v_iconst (nI 0) dL_holds_148 (by decide) ?_
      refine v_callV1 kL_12 gi_X3_count ge_X3_count rfl dL_holds_149 (by assumption) (ci_cN h iv) rfl rfl (by decide) (Nat.le_of_ble_eq_true rfl) (fun f m hc => ?_)
      have h := hc
      obtain ⟨vx, hx⟩ := h.x
      refine v_icmp_ge 278 dL_holds_152 (by decide) (fun b152 => ?_) (fun b152 => ?_)
      · exact absurd b152 (nI_ge h9 (by omega))
      · refine v_aload_n dL_holds_155 rfl rfl ?_
        refine v_iload dL_holds_156 rfl ?_
        refine v_callV1 kL_68 gi_X3_whyNot ge_X3_whyNot rfl dL_holds_158 (by assumption) (ci_why2 h iv ha hu hat hnow h9) rfl rfl (by decide) (Nat.le_of_ble_eq_true rfl) (fun f m hc => ?_)
        have h := hc
        obtain ⟨vx, hx⟩ := h.x
        refine v_istore dL_holds_161 (by decide) ?_
        refine v_iload dL_holds_163 rfl ?_
        refine v_aload_n dL_holds_165 rfl rfl ?_
        refine v_iload dL_holds_166 rfl ?_
        refine v_iconst (nI 2) dL_holds_168 (by decide) ?_
        refine v_callVp kL_71 gi_X3_nailOf ge_X3_nailOf rfl dL_holds_169 (by assumption) (ci_end2 h iv h9) rfl rfl (by decide) (Nat.le_of_ble_eq_true rfl) ?_
        refine v_iadd dL_holds_172 ?_
        refine v_istore dL_holds_173 (by decide) ?_
        refine v_iload dL_holds_175 rfl ?_
        refine v_if_ne 185 dL_holds_177 (by decide) (fun b177 => ?_) (fun b177 => ?_)
        · refine v_iconst (1) dL_holds_185 (by decide) ?_
          refine v_goto 190 dL_holds_186 (by decide) ?_
          refine v_istore dL_holds_190 (by decide) ?_
          exact v_loc (lv' := [(0, .ref x), (1, .int (sMf S.1 144)), (2, .int (sLa S.1 144)), (3, .int (sMu S.1 144)), (4, .int (sEn S (i + 1))), (5, .int (sBe S a u)), (6, .int (sAny (sWy S a u) (i + 1))), (7, .int (nI (i))), (8, .int (sWy S a u i))]) ⟨rfl, rfl, rfl, rfl, rfl, rfl, zlkE rfl (by first | exact (if_neg (fun z => b177 z.1)).symm | exact (if_neg (fun z => z.2 b182)).symm | exact (if_pos ⟨b177, b182⟩).symm), rfl, rfl, trivial⟩ (tB i h9 (fun f m h => ih (i + 1) (by omega) f m h) f m h)
        · refine v_iload dL_holds_180 rfl ?_
          refine v_if_ne 189 dL_holds_182 (by decide) (fun b182 => ?_) (fun b182 => ?_)
          · refine v_iconst (0) dL_holds_189 (by decide) ?_
            refine v_istore dL_holds_190 (by decide) ?_
            exact v_loc (lv' := [(0, .ref x), (1, .int (sMf S.1 144)), (2, .int (sLa S.1 144)), (3, .int (sMu S.1 144)), (4, .int (sEn S (i + 1))), (5, .int (sBe S a u)), (6, .int (sAny (sWy S a u) (i + 1))), (7, .int (nI (i))), (8, .int (sWy S a u i))]) ⟨rfl, rfl, rfl, rfl, rfl, rfl, zlkE rfl (by first | exact (if_neg (fun z => b177 z.1)).symm | exact (if_neg (fun z => z.2 b182)).symm | exact (if_pos ⟨b177, b182⟩).symm), rfl, rfl, trivial⟩ (tB i h9 (fun f m h => ih (i + 1) (by omega) f m h) f m h)
          · refine v_iconst (1) dL_holds_185 (by decide) ?_
            refine v_goto 190 dL_holds_186 (by decide) ?_
            refine v_istore dL_holds_190 (by decide) ?_
            exact v_loc (lv' := [(0, .ref x), (1, .int (sMf S.1 144)), (2, .int (sLa S.1 144)), (3, .int (sMu S.1 144)), (4, .int (sEn S (i + 1))), (5, .int (sBe S a u)), (6, .int (sAny (sWy S a u) (i + 1))), (7, .int (nI (i))), (8, .int (sWy S a u i))]) ⟨rfl, rfl, rfl, rfl, rfl, rfl, zlkE rfl (by first | exact (if_neg (fun z => b177 z.1)).symm | exact (if_neg (fun z => z.2 b182)).symm | exact (if_pos ⟨b177, b182⟩).symm), rfl, rfl, trivial⟩ (tB i h9 (fun f m h => ih (i + 1) (by omega) f m h) f m h)
  obtain ⟨vx, hx⟩ := h.x
  have t80 : ∀ (i : Nat), i < 144 → zV G yL_holds cL_holds 10 (some .boolean) 8 9 [(0, .ref x), (1, .int (sMf S.1 (i + 1))), (2, .int (sLa S.1 (i + 1))), (3, .int (sMu S.1 (i + 1))), (4, .int (nI (i + 1)))] [] (f, m) (zD (some (.int 1)) (CP x ks st ss S L ch J)) → zV G yL_holds cL_holds 10 (some .boolean) 8 80 [(0, .ref x), (1, .int (sMf S.1 (i + 1))), (2, .int (sLa S.1 (i + 1))), (3, .int (sMu S.1 (i + 1))), (4, .int (nI (i))), (5, .int (sLack S.1 (i)))] [] (f, m) (zD (some (.int 1)) (CP x ks st ss S L ch J)) := by
    intro i h9 ih
    have hi9 : i / 12 * 12 + i % 12 = i := by omega
    refine v_iload dL_holds_80 rfl ?_
    refine v_aload_n dL_holds_82 rfl rfl ?_
    refine v_iload dL_holds_83 rfl ?_
    refine v_bipush (nI 12) dL_holds_85 (by decide) ?_
    refine v_irem dL_holds_87 (by decide) ?_
    refine v_iload dL_holds_88 rfl ?_
    refine v_bipush (nI 12) dL_holds_90 (by decide) ?_
    refine v_idiv dL_holds_92 (by decide) ?_
    rw [pk_rem (a := i) (d := 12) (by omega) (by decide) (by decide), pk_div (a := i) (d := 12) (by omega) (by decide) (by decide)]
    refine v_iconst (nI 0) dL_holds_93 (by decide) ?_
    refine v_callVp kL_25 gi_X3_square ge_X3_square rfl dL_holds_94 (by assumption) (ci_square h (a := i % 12) (b := i / 12) (w := 0) (by omega) (by omega) (by omega)) rfl rfl (by decide) (Nat.le_of_ble_eq_true rfl) ?_
    refine v_aload_n dL_holds_97 rfl rfl ?_
    refine v_iconst (nI 2) dL_holds_98 (by decide) ?_
    refine v_callVp kL_62 gi_X3_setting ge_X3_setting rfl dL_holds_99 (by assumption) (ci_setting h (u := 2) (by decide)) rfl rfl (by decide) (Nat.le_of_ble_eq_true rfl) ?_
    refine v_imul dL_holds_102 ?_
    refine v_aload_n dL_holds_103 rfl rfl ?_
    refine v_iload dL_holds_104 rfl ?_
    refine v_bipush (nI 12) dL_holds_106 (by decide) ?_
    refine v_irem dL_holds_108 (by decide) ?_
    refine v_iload dL_holds_109 rfl ?_
    refine v_bipush (nI 12) dL_holds_111 (by decide) ?_
    refine v_idiv dL_holds_113 (by decide) ?_
    rw [pk_rem (a := i) (d := 12) (by omega) (by decide) (by decide), pk_div (a := i) (d := 12) (by omega) (by decide) (by decide)]
    refine v_iconst (nI 1) dL_holds_114 (by decide) ?_
    refine v_callVp kL_25 gi_X3_square ge_X3_square rfl dL_holds_115 (by assumption) (ci_square h (a := i % 12) (b := i / 12) (w := 1) (by omega) (by omega) (by omega)) rfl rfl (by decide) (Nat.le_of_ble_eq_true rfl) ?_
    refine v_isub dL_holds_118 ?_
    refine v_icmp_eq 124 dL_holds_119 (by decide) (fun b119 => ?_) (fun b119 => ?_)
    · refine v_iincN dL_holds_124 rfl (by decide) ?_
      refine v_goto 9 dL_holds_127 (by decide) ?_
      exact v_loc (lv' := [(0, .ref x), (1, .int (sMf S.1 (i + 1))), (2, .int (sLa S.1 (i + 1))), (3, .int (sMu S.1 (i + 1))), (4, .int (nI (i + 1)))]) ⟨rfl, rfl, rfl, rfl, rfl, trivial⟩ (ih)
    · exact absurd (by rw [hi9]; rfl) b119
  have t67 : ∀ (i : Nat), i < 144 → zV G yL_holds cL_holds 10 (some .boolean) 8 9 [(0, .ref x), (1, .int (sMf S.1 (i + 1))), (2, .int (sLa S.1 (i + 1))), (3, .int (sMu S.1 (i + 1))), (4, .int (nI (i + 1)))] [] (f, m) (zD (some (.int 1)) (CP x ks st ss S L ch J)) → zV G yL_holds cL_holds 10 (some .boolean) 8 67 [(0, .ref x), (1, .int (sMf S.1 (i + 1))), (2, .int (sLa S.1 (i + 1))), (3, .int (sMu S.1 (i))), (4, .int (nI (i))), (5, .int (sLack S.1 (i)))] [] (f, m) (zD (some (.int 1)) (CP x ks st ss S L ch J)) := by
    intro i h9 ih
    refine v_iload_n dL_holds_67 rfl rfl ?_
    refine v_iload dL_holds_68 rfl ?_
    refine v_if_ge 77 dL_holds_70 (by decide) (fun b70 => ?_) (fun b70 => ?_)
    · refine v_iconst (0) dL_holds_77 (by decide) ?_
      refine v_iadd dL_holds_78 ?_
      refine v_istore_n dL_holds_79 rfl (by decide) ?_
      exact v_loc (lv' := [(0, .ref x), (1, .int (sMf S.1 (i + 1))), (2, .int (sLa S.1 (i + 1))), (3, .int (sMu S.1 (i + 1))), (4, .int (nI (i))), (5, .int (sLack S.1 (i)))]) ⟨rfl, rfl, rfl, zlkE rfl (by first | exact mu_t b70 | exact mu_f b70), rfl, rfl, trivial⟩ (t80 i h9 ih)
    · refine v_iconst (1) dL_holds_73 (by decide) ?_
      refine v_goto 78 dL_holds_74 (by decide) ?_
      refine v_iadd dL_holds_78 ?_
      refine v_istore_n dL_holds_79 rfl (by decide) ?_
      exact v_loc (lv' := [(0, .ref x), (1, .int (sMf S.1 (i + 1))), (2, .int (sLa S.1 (i + 1))), (3, .int (sMu S.1 (i + 1))), (4, .int (nI (i))), (5, .int (sLack S.1 (i)))]) ⟨rfl, rfl, rfl, zlkE rfl (by first | exact mu_t b70 | exact mu_f b70), rfl, rfl, trivial⟩ (t80 i h9 ih)
  have t54 : ∀ (i : Nat), i < 144 → zV G yL_holds cL_holds 10 (some .boolean) 8 9 [(0, .ref x), (1, .int (sMf S.1 (i + 1))), (2, .int (sLa S.1 (i + 1))), (3, .int (sMu S.1 (i + 1))), (4, .int (nI (i + 1)))] [] (f, m) (zD (some (.int 1)) (CP x ks st ss S L ch J)) → zV G yL_holds cL_holds 10 (some .boolean) 8 54 [(0, .ref x), (1, .int (sMf S.1 (i + 1))), (2, .int (sLa S.1 (i))), (3, .int (sMu S.1 (i))), (4, .int (nI (i))), (5, .int (sLack S.1 (i)))] [] (f, m) (zD (some (.int 1)) (CP x ks st ss S L ch J)) := by
    intro i h9 ih
    refine v_iload_n dL_holds_54 rfl rfl ?_
    refine v_iload dL_holds_55 rfl ?_
    refine v_if_le 64 dL_holds_57 (by decide) (fun b57 => ?_) (fun b57 => ?_)
    · refine v_iconst (0) dL_holds_64 (by decide) ?_
      refine v_iadd dL_holds_65 ?_
      refine v_istore_n dL_holds_66 rfl (by decide) ?_
      exact v_loc (lv' := [(0, .ref x), (1, .int (sMf S.1 (i + 1))), (2, .int (sLa S.1 (i + 1))), (3, .int (sMu S.1 (i))), (4, .int (nI (i))), (5, .int (sLack S.1 (i)))]) ⟨rfl, rfl, zlkE rfl (by first | exact la_t b57 | exact la_f b57), rfl, rfl, rfl, trivial⟩ (t67 i h9 ih)
    · refine v_iconst (1) dL_holds_60 (by decide) ?_
      refine v_goto 65 dL_holds_61 (by decide) ?_
      refine v_iadd dL_holds_65 ?_
      refine v_istore_n dL_holds_66 rfl (by decide) ?_
      exact v_loc (lv' := [(0, .ref x), (1, .int (sMf S.1 (i + 1))), (2, .int (sLa S.1 (i + 1))), (3, .int (sMu S.1 (i))), (4, .int (nI (i))), (5, .int (sLack S.1 (i)))]) ⟨rfl, rfl, zlkE rfl (by first | exact la_t b57 | exact la_f b57), rfl, rfl, rfl, trivial⟩ (t67 i h9 ih)
  have loopA : ∀ (k i : Nat), i + k = 144 → zV G yL_holds cL_holds 10 (some .boolean) 8 9 [(0, .ref x), (1, .int (sMf S.1 (i))), (2, .int (sLa S.1 (i))), (3, .int (sMu S.1 (i))), (4, .int (nI (i)))] [] (f, m) (zD (some (.int 1)) (CP x ks st ss S L ch J)) := by
    intro k
    induction k with
    | zero =>
      intro i hi 
      have hi : i = 144 := by omega
      subst hi
      refine v_iload dL_holds_9 rfl ?_
      refine v_sipush (nI 144) dL_holds_11 (by decide) ?_
      refine v_icmp_ge 130 dL_holds_14 (by decide) (fun b14 => ?_) (fun b14 => ?_)
      · refine v_iconst (0) dL_holds_130 (by decide) ?_
        refine v_istore dL_holds_131 (by decide) ?_
        refine v_aload_n dL_holds_133 rfl rfl ?_
        refine v_callV1 kL_65 gi_X3_best ge_X3_best rfl dL_holds_134 (by assumption) (ci_best2 h iv ha hu hat hnow) rfl rfl (by decide) (Nat.le_of_ble_eq_true rfl) (fun f m hc => ?_)
        have h := hc
        obtain ⟨vx, hx⟩ := h.x
        refine v_istore dL_holds_137 (by decide) ?_
        refine v_iconst (0) dL_holds_139 (by decide) ?_
        refine v_istore dL_holds_140 (by decide) ?_
        refine v_iconst (0) dL_holds_142 (by decide) ?_
        refine v_istore dL_holds_143 (by decide) ?_
        exact v_loc (lv' := [(0, .ref x), (1, .int (sMf S.1 144)), (2, .int (sLa S.1 144)), (3, .int (sMu S.1 144)), (4, .int (sEn S (0))), (5, .int (sBe S a u)), (6, .int (sAny (sWy S a u) (0))), (7, .int (nI (0)))]) ⟨rfl, rfl, rfl, rfl, rfl, rfl, rfl, rfl, trivial⟩ (loopB (zN S) 0 (by omega) f m h)
      · exact absurd (nI_le (by omega) (by omega)) b14
    | succ k ih =>
      intro i hi 
      have h9 : i < 144 := by omega
      have hi9 : i / 12 * 12 + i % 12 = i := by omega
      refine v_iload dL_holds_9 rfl ?_
      refine v_sipush (nI 144) dL_holds_11 (by decide) ?_
      refine v_icmp_ge 130 dL_holds_14 (by decide) (fun b14 => ?_) (fun b14 => ?_)
      · exact absurd b14 (nI_ge h9 (by omega))
      · refine v_aload_n dL_holds_17 rfl rfl ?_
        refine v_iload dL_holds_18 rfl ?_
        refine v_bipush (nI 12) dL_holds_20 (by decide) ?_
        refine v_irem dL_holds_22 (by decide) ?_
        refine v_iload dL_holds_23 rfl ?_
        refine v_bipush (nI 12) dL_holds_25 (by decide) ?_
        refine v_idiv dL_holds_27 (by decide) ?_
        rw [pk_rem (a := i) (d := 12) (by omega) (by decide) (by decide), pk_div (a := i) (d := 12) (by omega) (by decide) (by decide)]
        refine v_iconst (nI 2) dL_holds_28 (by decide) ?_
        refine v_callVp kL_25 gi_X3_square ge_X3_square rfl dL_holds_29 (by assumption) (ci_square h (a := i % 12) (b := i / 12) (w := 2) (by omega) (by omega) (by omega)) rfl rfl (by decide) (Nat.le_of_ble_eq_true rfl) ?_
        refine v_sipush (10000) dL_holds_32 (by decide) ?_
        refine v_isub dL_holds_35 ?_
        rw [show sSquare S.1 S.2.2.1 (i / 12 * 12 + i % 12) 2 - 10000 = sLack S.1 i by
          rw [hi9]
          exact i32_10k _]
        refine v_istore dL_holds_36 (by decide) ?_
        refine v_iload_n dL_holds_38 rfl rfl ?_
        refine v_iload dL_holds_39 rfl ?_
        refine v_if_ge 50 dL_holds_41 (by decide) (fun b41 => ?_) (fun b41 => ?_)
        · refine v_iload dL_holds_50 rfl ?_
          refine v_iadd dL_holds_52 ?_
          refine v_istore_n dL_holds_53 rfl (by decide) ?_
          exact v_loc (lv' := [(0, .ref x), (1, .int (sMf S.1 (i + 1))), (2, .int (sLa S.1 (i))), (3, .int (sMu S.1 (i))), (4, .int (nI (i))), (5, .int (sLack S.1 (i)))]) ⟨rfl, zlkE rfl (by first | exact mf_t b41 | exact mf_f b41), rfl, rfl, rfl, rfl, trivial⟩ (t54 i h9 (ih (i + 1) (by omega)))
        · refine v_iload dL_holds_44 rfl ?_
          refine v_ineg dL_holds_46 ?_
          refine v_goto 52 dL_holds_47 (by decide) ?_
          refine v_iadd dL_holds_52 ?_
          refine v_istore_n dL_holds_53 rfl (by decide) ?_
          exact v_loc (lv' := [(0, .ref x), (1, .int (sMf S.1 (i + 1))), (2, .int (sLa S.1 (i))), (3, .int (sMu S.1 (i))), (4, .int (nI (i))), (5, .int (sLack S.1 (i)))]) ⟨rfl, zlkE rfl (by first | exact mf_t b41 | exact mf_f b41), rfl, rfl, rfl, rfl, trivial⟩ (t54 i h9 (ih (i + 1) (by omega)))
  refine v_iconst (0) dL_holds_0 (by decide) ?_
  refine v_istore_n dL_holds_1 rfl (by decide) ?_
  refine v_iconst (0) dL_holds_2 (by decide) ?_
  refine v_istore_n dL_holds_3 rfl (by decide) ?_
  refine v_iconst (0) dL_holds_4 (by decide) ?_
  refine v_istore_n dL_holds_5 rfl (by decide) ?_
  refine v_iconst (0) dL_holds_6 (by decide) ?_
  refine v_istore dL_holds_7 (by decide) ?_
  exact v_loc (lv' := [(0, .ref x), (1, .int (sMf S.1 (0))), (2, .int (sLa S.1 (0))), (3, .int (sMu S.1 (0))), (4, .int (nI (0)))]) ⟨rfl, rfl, rfl, rfl, rfl, trivial⟩ (loopA 144 0 rfl)
