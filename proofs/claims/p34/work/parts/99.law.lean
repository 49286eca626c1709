/-! THE LAW'S BODY: a turn, its loop, its start. -/
/-- what stands at each place of the law: the object, its states, the kept one -/
def LSt (f : zHM) (m : Nat × Nat) (x k : Nat) (st : Nat → zST) (ss : Nat → Option zST) (S T : zST) (c : Nat) (J : Nat × Nat) : Prop := CI f m x k st ss S 0 (fun _ => 0) J ∧ GS c S ∧ (∀ j, j < k → GS c (st j)) ∧ ss 0 = some T ∧ GS c T
theorem LSt.mono {f : zHM} {m : Nat × Nat} {x k c d : Nat} {st : Nat → zST} {ss : Nat → Option zST} {S T : zST} {J : Nat × Nat} (h : LSt f m x k st ss S T c J) (hc : c ≤ d) : LSt f m x k st ss S T d J := ⟨h.1, h.2.1.mono hc, fun j hj => (h.2.2.1 j hj).mono hc, h.2.2.2.1, h.2.2.2.2.mono hc⟩
theorem sPK5 {k : Nat} (h : k < 6) : sPK k = k + 1 := if_pos h
theorem sPS5 {k : Nat} (h : k < 6) (st : Nat → zST) (S : zST) (j : Nat) : sPS k st S j = if j = k then S else st j := if_pos h
theorem ci_fold {f : zHM} {m : Nat × Nat} {x k L : Nat} {st : Nat → zST} {ss : Nat → Option zST} {S S2 : zST} {ch : Nat → Nat} {J : Nat × Nat} (hk : k < 6) (h : CI f m x (sPK k) (sPS k st S) ss S2 L ch J) : CI f m x (k + 1) (sPS k st S) ss S2 L ch J := by
  rw [sPK5 hk] at h
  exact h
theorem gs_fold {k c : Nat} {st : Nat → zST} {S : zST} (hk : k < 6) (h : ∀ j, j < k → GS c (st j)) (hS : GS c S) : ∀ j, j < k + 1 → GS c (sPS k st S j) := fun j hj => by
  rw [sPS5 hk]
  split
  · exact hS
  · exact h j (by omega)
theorem c_act_none {G : zW} {f : zHM} {m : Nat × Nat} {x k L : Nat} {st : Nat → zST} {ss : Nat → Option zST} {S : zST} {ch : Nat → Nat} {J : Nat × Nat} (h : CI f m x k st ss S L ch J) (iv : IVS S) (j1 : J.1 ≤ 50000) (j2 : J.2 ≤ 399990) {v w : Int32} (e : sAct S v w = none) : zM G yL_act cL_act 5 (some .int) 8 [.ref x, .int v, .int w] (f, m) (zD (some (.int (-9))) (CP x k st ss S L ch J)) := by
  have z := c_act (G := G) h iv j1 j2 v w
  rw [e] at z
  exact z
theorem c_act_some {G : zW} {f : zHM} {m : Nat × Nat} {x k L : Nat} {st : Nat → zST} {ss : Nat → Option zST} {S S2 : zST} {ch : Nat → Nat} {J : Nat × Nat} {r : Int32} (h : CI f m x k st ss S L ch J) (iv : IVS S) (j1 : J.1 ≤ 50000) (j2 : J.2 ≤ 399990) {v w : Int32} (e : sAct S v w = some (r, S2)) (hk : k < 6) : zM G yL_act cL_act 5 (some .int) 8 [.ref x, .int v, .int w] (f, m) (zD (some (.int r)) (CP x (k + 1) (sPS k st S) ss S2 L ch J)) := by
  have z := c_act (G := G) h iv j1 j2 v w
  rw [e] at z
  have z : zM G yL_act cL_act 5 (some .int) 8 [.ref x, .int v, .int w] (f, m) (zD (some (.int r)) (CP x (sPK k) (sPS k st S) ss S2 L ch J)) := z
  rw [sPK5 hk] at z
  exact z
theorem ci_k {G : zW} {f : zHM} {m : Nat × Nat} {x k L : Nat} {st : Nat → zST} {ss : Nat → Option zST} {S : zST} {ch : Nat → Nat} {J : Nat × Nat} (h : CI f m x k st ss S L ch J) (i : IVS S) : zM G yX3_count cX3_count 2 (some .int) 7 [.ref x, .int (nI 12)] (f, m) (zD (some (.int (nI k))) (CP x k st ss S L ch J)) := ci_count h i (w := 12) (by decide)
theorem ci_n {G : zW} {f : zHM} {m : Nat × Nat} {x k L : Nat} {st : Nat → zST} {ss : Nat → Option zST} {S : zST} {ch : Nat → Nat} {J : Nat × Nat} (h : CI f m x k st ss S L ch J) (i : IVS S) : zM G yX3_count cX3_count 2 (some .int) 7 [.ref x, .int (nI 3)] (f, m) (zD (some (.int (nI S.2.1))) (CP x k st ss S L ch J)) := ci_count h i (w := 3) (by decide)
/-- the way back from a state that was saved just now -/
theorem ci_back {G : zW} {f : zHM} {m : Nat × Nat} {x k L : Nat} {st : Nat → zST} {ss : Nat → Option zST} {S S2 : zST} {ch : Nat → Nat} {J : Nat × Nat} (hk : k < 6) (h : CI f m x (k + 1) (sPS k st S) ss S2 L ch J) (i : IVS S) : zM G yX3_undo cX3_undo 2 (some .int) 7 [.ref x] (f, m) (zD (some (.int (nI k))) (CP x k (sPS k st S) ss S L ch J)) := by
  have e : sPS k st S k = S := (sPS5 hk st S k).trans (if_pos rfl)
  have z := ci_undo (G := G) h (by omega) (by rw [Nat.add_sub_cancel, e]; exact i.2.1)
  rw [Nat.add_sub_cancel, e] at z
  exact z
theorem ci_step {G : zW} {f : zHM} {m : Nat × Nat} {x k L : Nat} {st : Nat → zST} {ss : Nat → Option zST} {S : zST} {ch : Nat → Nat} {J : Nat × Nat} (h : CI f m x (k + 1) st ss S L ch J) (i : IVS (st k)) : zM G yX3_undo cX3_undo 2 (some .int) 7 [.ref x] (f, m) (zD (some (.int (nI k))) (CP x k st ss (st k) L ch J)) := ci_undo h (Nat.le_add_left 1 k) i.2.1
theorem ci_go {G : zW} {f : zHM} {m : Nat × Nat} {x k L : Nat} {st : Nat → zST} {ss : Nat → Option zST} {S T : zST} {ch : Nat → Nat} {J : Nat × Nat} (h : CI f m x k st ss S L ch J) (i : IVS S) (j1 : J.1 ≤ 50000) (j2 : J.2 ≤ 399990) (hk : k < 6) (hT : ss 0 = some T) (iT : IVS T) : zM G yX3_goBack cX3_goBack 3 (some .int) 7 [.ref x, .int (nI 0)] (f, m) (zD (some (.int (nI T.2.1))) (CP x (k + 1) (sPS k st S) ss T L ch J)) := by
  have z := ci_goBack (G := G) h i j1 j2 (e := 0) (by decide) hT iT.2.1
  rw [sPK5 hk] at z
  exact z
theorem ci_kp {G : zW} {f : zHM} {m : Nat × Nat} {x k L : Nat} {st : Nat → zST} {ss : Nat → Option zST} {S : zST} {ch : Nat → Nat} {J : Nat × Nat} (h : CI f m x k st ss S L ch J) (i : IVS S) (j1 : J.1 ≤ 50000) (j2 : J.2 ≤ 399990) : zM G yX3_keep cX3_keep 2 (some .int) 7 [.ref x, .int (nI 0)] (f, m) (zD (some (.int (nI S.2.1))) (CP x k st (fun j => if j = 0 then some S else ss j) S L ch J)) := ci_keep h i j1 j2 (e := 0) (by decide)
theorem neg9_ne {j : Nat} (h : j < 2 ^ 31) : ¬ nI j = -9 := fun z => by
  have z2 : (nI j).toInt = -9 := by rw [z]; rfl
  rw [nI_toInt h] at z2
  omega
theorem neg9_le {j : Nat} (h : j < 2 ^ 31) : ¬ nI j ≤ -9 := fun z => by
  have z2 := Int32.le_iff_toInt_le.mp z
  rw [nI_toInt h, show (-9 : Int32).toInt = -9 from rfl] at z2
  omega
set_option maxRecDepth 10000 in
set_option maxHeartbeats 1000000 in
theorem lw_E {G : zW} {f : zHM} {m : Nat × Nat} {x k c t : Nat} {st : Nat → zST} {ss : Nat → Option zST} {S T : zST} {J : Nat × Nat} {Q : zOut → zH → Prop} (j1 : J.1 ≤ 50000) (j2 : J.2 ≤ 399990) {v : Int32} (hk : k ≤ 6) (hI : LSt f m x k st ss S T c J) (kk : ∀ (f : zHM) (m : Nat × Nat) (k : Nat) (st : Nat → zST) (ss : Nat → Option zST) (S T : zST), k ≤ 6 → LSt f m x k st ss S T c J → zVl G yL_law cL_law 13 (some .boolean) 10 315 [(0, .ref (zSc G).1), (1, .ref x), (2, .long (sTold T)), (4, .int (nI t))] [] (f, m) Q) : zVl G yL_law cL_law 13 (some .boolean) 10 228 [(0, .ref (zSc G).1), (1, .ref x), (2, .long (sTold T)), (4, .int (nI t)), (5, .int v), (11, .long (sTold S))] [] (f, m) Q := by
  obtain ⟨h, gS, gst, hss, gT⟩ := hI
  have iv := gS.iv
  obtain ⟨vx, hx⟩ := h.x
  refine zl_iload dL_law_228 rfl ?_
  refine zl_bipush (9) dL_law_230 (by decide) ?_
  refine zl_ishr dL_law_232 ?_
  refine zl_bipush (7) dL_law_233 (by decide) ?_
  refine zl_iand dL_law_235 ?_
  refine zl_if_ne 251 dL_law_236 (by decide) (fun b236 => ?_) (fun b236 => ?_)
  · refine zl_iload dL_law_251 rfl ?_
    refine zl_bipush (9) dL_law_253 (by decide) ?_
    refine zl_ishr dL_law_255 ?_
    refine zl_bipush (7) dL_law_256 (by decide) ?_
    refine zl_iand dL_law_258 ?_
    refine zl_iconst (1) dL_law_259 (by decide) ?_
    refine zl_icmp_ne 315 dL_law_260 (by decide) (fun b260 => ?_) (fun b260 => ?_)
    · first
      | (have z := kP1; exact zl_loc (lv' := [(0, .ref (zSc G).1), (1, .ref x), (2, .long (sTold S)), (4, .int (nI t))]) ⟨rfl, rfl, rfl, rfl, trivial⟩ (kk f m k st _ S S hk ⟨h, gS, gst, rfl, gS⟩))
      | (have z := kP3; exact zl_loc (lv' := [(0, .ref (zSc G).1), (1, .ref x), (2, .long (sTold T)), (4, .int (nI t))]) ⟨rfl, rfl, rfl, rfl, trivial⟩ (kk f m k (sPS k st S) ss S T hk ⟨h, gS, fun j hj => gs_fold hk5 gst gS j (by omega), hss, gT⟩))
      | exact zl_loc (lv' := [(0, .ref (zSc G).1), (1, .ref x), (2, .long (sTold T)), (4, .int (nI t))]) ⟨rfl, rfl, rfl, rfl, trivial⟩ (kk f m k st ss S T hk ⟨h, gS, gst, hss, gT⟩)
    · refine zl_aload_n dL_law_263 rfl rfl ?_
      refine zl_bipush (nI 12) dL_law_264 (by decide) ?_
      refine zl_callV1 kL_12 gi_X3_count ge_X3_count rfl dL_law_266 (by assumption) (ci_k h iv) rfl rfl (by decide) (Nat.le_of_ble_eq_true rfl) (fun f m hc => ?_)
      have h := hc
      obtain ⟨vx, hx⟩ := h.x
      refine zl_bipush (nI 6) dL_law_269 (by decide) ?_
      refine zl_icmp_ge 315 dL_law_271 (by decide) (fun b271 => ?_) (fun b271 => ?_)
      · rw [nI_leI (by omega) (by omega)] at b271
        first
        | (have z := kP1; exact zl_loc (lv' := [(0, .ref (zSc G).1), (1, .ref x), (2, .long (sTold S)), (4, .int (nI t))]) ⟨rfl, rfl, rfl, rfl, trivial⟩ (kk f m k st _ S S hk ⟨h, gS, gst, rfl, gS⟩))
        | (have z := kP3; exact zl_loc (lv' := [(0, .ref (zSc G).1), (1, .ref x), (2, .long (sTold T)), (4, .int (nI t))]) ⟨rfl, rfl, rfl, rfl, trivial⟩ (kk f m k (sPS k st S) ss S T hk ⟨h, gS, fun j hj => gs_fold hk5 gst gS j (by omega), hss, gT⟩))
        | exact zl_loc (lv' := [(0, .ref (zSc G).1), (1, .ref x), (2, .long (sTold T)), (4, .int (nI t))]) ⟨rfl, rfl, rfl, rfl, trivial⟩ (kk f m k st ss S T hk ⟨h, gS, gst, hss, gT⟩)
      · rw [nI_leI (by omega) (by omega)] at b271
        have hk5 : k < 6 := by omega
        refine zl_aload_n dL_law_274 rfl rfl ?_
        refine zl_iconst (nI 0) dL_law_275 (by decide) ?_
        refine zl_callV1 kL_103 gi_X3_goBack ge_X3_goBack rfl dL_law_276 (by assumption) (ci_go h iv j1 j2 hk5 hss gT.iv) rfl rfl (by decide) (Nat.le_of_ble_eq_true rfl) (fun f m hc => ?_)
        have h := hc
        obtain ⟨vx, hx⟩ := h.x
        have ivT := gT.iv
        refine zl_aload_n dL_law_279 rfl rfl ?_
        refine zl_iconst (nI 3) dL_law_280 (by decide) ?_
        refine zl_callV1 kL_12 gi_X3_count ge_X3_count rfl dL_law_281 (by assumption) (ci_n h ivT) rfl rfl (by decide) (Nat.le_of_ble_eq_true rfl) (fun f m hc => ?_)
        have h := hc
        obtain ⟨vx, hx⟩ := h.x
        refine zl_icmp_ne 313 dL_law_284 (by decide) (fun b284 => ?_) (fun b284 => ?_)
        · exact absurd rfl b284
        · refine zl_aload_n dL_law_287 rfl rfl ?_
          refine zl_callS1 kL_81 gs_L_told dL_law_288 (c_told h ivT) rfl rfl (by decide) (Nat.le_of_ble_eq_true rfl) (fun f m hc => ?_)
          have h := hc
          obtain ⟨vx, hx⟩ := h.x
          refine zl_lload_n dL_law_291 rfl rfl ?_
          refine zl_lcmpE dL_law_292 ?_
          refine zl_if_ne 313 dL_law_293 (by decide) (fun b293 => ?_) (fun b293 => ?_)
          · exact absurd rfl b293
          · refine zl_aload_n dL_law_296 rfl rfl ?_
            refine zl_callV1 kL_92 gi_X3_undo ge_X3_undo rfl dL_law_297 (by assumption) (ci_back hk5 h iv) rfl rfl (by decide) (Nat.le_of_ble_eq_true rfl) (fun f m hc => ?_)
            have h := hc
            obtain ⟨vx, hx⟩ := h.x
            refine zl_if_lt 313 dL_law_300 (by decide) (fun b300 => ?_) (fun b300 => ?_)
            · exact absurd b300 (nI_pos (by omega))
            · refine zl_aload_n dL_law_303 rfl rfl ?_
              refine zl_callS1 kL_81 gs_L_told dL_law_304 (c_told h iv) rfl rfl (by decide) (Nat.le_of_ble_eq_true rfl) (fun f m hc => ?_)
              have h := hc
              obtain ⟨vx, hx⟩ := h.x
              refine zl_lload dL_law_307 rfl ?_
              refine zl_lcmpE dL_law_309 ?_
              refine zl_if_eq 315 dL_law_310 (by decide) (fun b310 => ?_) (fun b310 => ?_)
              · have kP3 := True.intro
                first
                | (have z := kP1; exact zl_loc (lv' := [(0, .ref (zSc G).1), (1, .ref x), (2, .long (sTold S)), (4, .int (nI t))]) ⟨rfl, rfl, rfl, rfl, trivial⟩ (kk f m k st _ S S hk ⟨h, gS, gst, rfl, gS⟩))
                | (have z := kP3; exact zl_loc (lv' := [(0, .ref (zSc G).1), (1, .ref x), (2, .long (sTold T)), (4, .int (nI t))]) ⟨rfl, rfl, rfl, rfl, trivial⟩ (kk f m k (sPS k st S) ss S T hk ⟨h, gS, fun j hj => gs_fold hk5 gst gS j (by omega), hss, gT⟩))
                | exact zl_loc (lv' := [(0, .ref (zSc G).1), (1, .ref x), (2, .long (sTold T)), (4, .int (nI t))]) ⟨rfl, rfl, rfl, rfl, trivial⟩ (kk f m k st ss S T hk ⟨h, gS, gst, hss, gT⟩)
              · exact absurd rfl b310
  · have kP1 := True.intro
    refine zl_aload_n dL_law_239 rfl rfl ?_
    refine zl_iconst (nI 0) dL_law_240 (by decide) ?_
    refine zl_callV1 kL_85 gi_X3_keep ge_X3_keep rfl dL_law_241 (by assumption) (ci_kp h iv j1 j2) rfl rfl (by decide) (Nat.le_of_ble_eq_true rfl) (fun f m hc => ?_)
    have h := hc
    obtain ⟨vx, hx⟩ := h.x
    refine zl_pop dL_law_244 rfl ?_
    refine zl_lload dL_law_245 rfl ?_
    refine zl_lstore_n dL_law_247 rfl (by decide) ?_
    refine zl_goto 315 dL_law_248 (by decide) ?_
    first
    | (have z := kP1; exact zl_loc (lv' := [(0, .ref (zSc G).1), (1, .ref x), (2, .long (sTold S)), (4, .int (nI t))]) ⟨rfl, rfl, rfl, rfl, trivial⟩ (kk f m k st _ S S hk ⟨h, gS, gst, rfl, gS⟩))
    | (have z := kP3; exact zl_loc (lv' := [(0, .ref (zSc G).1), (1, .ref x), (2, .long (sTold T)), (4, .int (nI t))]) ⟨rfl, rfl, rfl, rfl, trivial⟩ (kk f m k (sPS k st S) ss S T hk ⟨h, gS, fun j hj => gs_fold hk5 gst gS j (by omega), hss, gT⟩))
    | exact zl_loc (lv' := [(0, .ref (zSc G).1), (1, .ref x), (2, .long (sTold T)), (4, .int (nI t))]) ⟨rfl, rfl, rfl, rfl, trivial⟩ (kk f m k st ss S T hk ⟨h, gS, gst, hss, gT⟩)
set_option maxRecDepth 10000 in
set_option maxHeartbeats 1000000 in
theorem lw_D {G : zW} {f : zHM} {m : Nat × Nat} {x k c t : Nat} {st : Nat → zST} {ss : Nat → Option zST} {S T : zST} {J : Nat × Nat} {Q : zOut → zH → Prop} (j1 : J.1 ≤ 50000) (j2 : J.2 ≤ 399990) {v : Int32} (hc9 : c ≤ 1000) (hk : k ≤ 6) (hI : LSt f m x k st ss S T c J) (kk : ∀ (f : zHM) (m : Nat × Nat) (k : Nat) (st : Nat → zST) (ss : Nat → Option zST) (S T : zST), k ≤ 6 → LSt f m x k st ss S T c J → zVl G yL_law cL_law 13 (some .boolean) 10 315 [(0, .ref (zSc G).1), (1, .ref x), (2, .long (sTold T)), (4, .int (nI t))] [] (f, m) Q) : zVl G yL_law cL_law 13 (some .boolean) 10 211 [(0, .ref (zSc G).1), (1, .ref x), (2, .long (sTold T)), (4, .int (nI t)), (5, .int v), (11, .long (sTold S))] [] (f, m) Q := by
  obtain ⟨h, gS, gst, hss, gT⟩ := hI
  have iv := gS.iv
  obtain ⟨vx, hx⟩ := h.x
  refine zl_iload dL_law_211 rfl ?_
  refine zl_iconst (2) dL_law_213 (by decide) ?_
  refine zl_irem dL_law_214 (by decide) ?_
  refine zl_iconst (1) dL_law_215 (by decide) ?_
  refine zl_icmp_ne 228 dL_law_216 (by decide) (fun b216 => ?_) (fun b216 => ?_)
  · exact zl_loc (lv' := [(0, .ref (zSc G).1), (1, .ref x), (2, .long (sTold T)), (4, .int (nI t)), (5, .int v), (11, .long (sTold S))]) ⟨rfl, rfl, rfl, rfl, rfl, rfl, trivial⟩ (lw_E j1 j2 hk ⟨h, gS, gst, hss, gT⟩ kk)
  · refine zl_aload_n dL_law_219 rfl rfl ?_
    refine zl_callS1 kL_99 gs_L_holds dL_law_220 (c_holds h gS hc9) rfl rfl (by decide) (Nat.le_of_ble_eq_true rfl) (fun f m hc => ?_)
    have h := hc
    obtain ⟨vx, hx⟩ := h.x
    refine zl_if_ne 228 dL_law_223 (by decide) (fun b223 => ?_) (fun b223 => ?_)
    · exact zl_loc (lv' := [(0, .ref (zSc G).1), (1, .ref x), (2, .long (sTold T)), (4, .int (nI t)), (5, .int v), (11, .long (sTold S))]) ⟨rfl, rfl, rfl, rfl, rfl, rfl, trivial⟩ (lw_E j1 j2 hk ⟨h, gS, gst, hss, gT⟩ kk)
    · exact absurd b223 (by decide)
set_option maxRecDepth 10000 in
set_option maxHeartbeats 1000000 in
theorem lw_B {G : zW} {f : zHM} {m : Nat × Nat} {x k c t : Nat} {st : Nat → zST} {ss : Nat → Option zST} {S T : zST} {J : Nat × Nat} {Q : zOut → zH → Prop} (j1 : J.1 ≤ 50000) (j2 : J.2 ≤ 399990) {v w : Int32} (hc1 : 1 ≤ c) (hc9 : c ≤ 100) (hk5 : k < 6) (hI : LSt f m x k st ss S T c J) (kk : ∀ (f : zHM) (m : Nat × Nat) (k : Nat) (st : Nat → zST) (ss : Nat → Option zST) (S T : zST), k ≤ 6 → LSt f m x k st ss S T (c + 1) J → zVl G yL_law cL_law 13 (some .boolean) 10 315 [(0, .ref (zSc G).1), (1, .ref x), (2, .long (sTold T)), (4, .int (nI t))] [] (f, m) Q) : zVl G yL_law cL_law 13 (some .boolean) 10 76 [(0, .ref (zSc G).1), (1, .ref x), (2, .long (sTold T)), (4, .int (nI t)), (5, .int v), (6, .int w)] [] (f, m) Q := by
  obtain ⟨h, gS, gst, hss, gT⟩ := hI
  have iv := gS.iv
  obtain ⟨vx, hx⟩ := h.x
  cases e : sAct S v w with
  | none =>
    refine zl_aload_n dL_law_76 rfl rfl ?_
    refine zl_bipush (nI 12) dL_law_77 (by decide) ?_
    refine zl_callV1 kL_12 gi_X3_count ge_X3_count rfl dL_law_79 (by assumption) (ci_k h iv) rfl rfl (by decide) (Nat.le_of_ble_eq_true rfl) (fun f m hc => ?_)
    have h := hc
    obtain ⟨vx, hx⟩ := h.x
    refine zl_istore dL_law_82 (by decide) ?_
    refine zl_aload_n dL_law_84 rfl rfl ?_
    refine zl_callS1 kL_81 gs_L_told dL_law_85 (c_told h iv) rfl rfl (by decide) (Nat.le_of_ble_eq_true rfl) (fun f m hc => ?_)
    have h := hc
    obtain ⟨vx, hx⟩ := h.x
    refine zl_lstore dL_law_88 (by decide) ?_
    refine zl_aload_n dL_law_90 rfl rfl ?_
    refine zl_iload dL_law_91 rfl ?_
    refine zl_iload dL_law_93 rfl ?_
    refine zl_callS1 kL_95 gs_L_act dL_law_95 (c_act_none h iv j1 j2 e) rfl rfl (by decide) (Nat.le_of_ble_eq_true rfl) (fun f m hc => ?_)
    have h := hc
    obtain ⟨vx, hx⟩ := h.x
    refine zl_istore dL_law_98 (by decide) ?_
    refine zl_aload_n dL_law_100 rfl rfl ?_
    refine zl_callS1 kL_81 gs_L_told dL_law_101 (c_told h iv) rfl rfl (by decide) (Nat.le_of_ble_eq_true rfl) (fun f m hc => ?_)
    have h := hc
    obtain ⟨vx, hx⟩ := h.x
    refine zl_lstore dL_law_104 (by decide) ?_
    refine zl_iload dL_law_106 rfl ?_
    refine zl_bipush (-9) dL_law_108 (by decide) ?_
    refine zl_icmp_ne 135 dL_law_110 (by decide) (fun b110 => ?_) (fun b110 => ?_)
    · exact absurd rfl b110
    · refine zl_lload dL_law_113 rfl ?_
      refine zl_lload dL_law_115 rfl ?_
      refine zl_lcmpE dL_law_117 ?_
      refine zl_if_ne 148 dL_law_118 (by decide) (fun b118 => ?_) (fun b118 => ?_)
      · exact absurd rfl b118
      · refine zl_aload_n dL_law_121 rfl rfl ?_
        refine zl_bipush (nI 12) dL_law_122 (by decide) ?_
        refine zl_callV1 kL_12 gi_X3_count ge_X3_count rfl dL_law_124 (by assumption) (ci_k h iv) rfl rfl (by decide) (Nat.le_of_ble_eq_true rfl) (fun f m hc => ?_)
        have h := hc
        obtain ⟨vx, hx⟩ := h.x
        refine zl_iload dL_law_127 rfl ?_
        refine zl_icmp_eq 150 dL_law_129 (by decide) (fun b129 => ?_) (fun b129 => ?_)
        · refine zl_iload dL_law_150 rfl ?_
          refine zl_bipush (-9) dL_law_152 (by decide) ?_
          refine zl_icmp_le 211 dL_law_154 (by decide) (fun b154 => ?_) (fun b154 => ?_)
          · exact zl_loc (lv' := [(0, .ref (zSc G).1), (1, .ref x), (2, .long (sTold T)), (4, .int (nI t)), (5, .int v), (11, .long (sTold S))]) ⟨rfl, rfl, rfl, rfl, rfl, rfl, trivial⟩ (lw_D j1 j2 (by omega) (by omega) ((LSt.mono (c := c) ⟨h, gS, gst, hss, gT⟩ (by omega))) kk)
          · exact absurd (by decide) b154
        · exact absurd rfl b129
  | some q =>
    obtain ⟨r, S2⟩ := q
    obtain ⟨gS2, j, hj, er⟩ := sAct_ok gS hc1 (by omega) v w _ e
    have er : r = nI j := er
    have gS2 : GS (c + 1) S2 := gS2
    have iv2 := gS2.iv
    subst er
    refine zl_aload_n dL_law_76 rfl rfl ?_
    refine zl_bipush (nI 12) dL_law_77 (by decide) ?_
    refine zl_callV1 kL_12 gi_X3_count ge_X3_count rfl dL_law_79 (by assumption) (ci_k h iv) rfl rfl (by decide) (Nat.le_of_ble_eq_true rfl) (fun f m hc => ?_)
    have h := hc
    obtain ⟨vx, hx⟩ := h.x
    refine zl_istore dL_law_82 (by decide) ?_
    refine zl_aload_n dL_law_84 rfl rfl ?_
    refine zl_callS1 kL_81 gs_L_told dL_law_85 (c_told h iv) rfl rfl (by decide) (Nat.le_of_ble_eq_true rfl) (fun f m hc => ?_)
    have h := hc
    obtain ⟨vx, hx⟩ := h.x
    refine zl_lstore dL_law_88 (by decide) ?_
    refine zl_aload_n dL_law_90 rfl rfl ?_
    refine zl_iload dL_law_91 rfl ?_
    refine zl_iload dL_law_93 rfl ?_
    refine zl_callS1 kL_95 gs_L_act dL_law_95 (c_act_some h iv j1 j2 e hk5) rfl rfl (by decide) (Nat.le_of_ble_eq_true rfl) (fun f m hc => ?_)
    have h := hc
    obtain ⟨vx, hx⟩ := h.x
    refine zl_istore dL_law_98 (by decide) ?_
    refine zl_aload_n dL_law_100 rfl rfl ?_
    refine zl_callS1 kL_81 gs_L_told dL_law_101 (c_told h iv2) rfl rfl (by decide) (Nat.le_of_ble_eq_true rfl) (fun f m hc => ?_)
    have h := hc
    obtain ⟨vx, hx⟩ := h.x
    refine zl_lstore dL_law_104 (by decide) ?_
    refine zl_iload dL_law_106 rfl ?_
    refine zl_bipush (-9) dL_law_108 (by decide) ?_
    refine zl_icmp_ne 135 dL_law_110 (by decide) (fun b110 => ?_) (fun b110 => ?_)
    · refine zl_aload_n dL_law_135 rfl rfl ?_
      refine zl_bipush (nI 12) dL_law_136 (by decide) ?_
      refine zl_callV1 kL_12 gi_X3_count ge_X3_count rfl dL_law_138 (by assumption) (ci_k h iv2) rfl rfl (by decide) (Nat.le_of_ble_eq_true rfl) (fun f m hc => ?_)
      have h := hc
      obtain ⟨vx, hx⟩ := h.x
      refine zl_iload dL_law_141 rfl ?_
      refine zl_iconst (1) dL_law_143 (by decide) ?_
      refine zl_iadd dL_law_144 ?_
      refine zl_icmp_eq 150 dL_law_145 (by decide) (fun b145 => ?_) (fun b145 => ?_)
      · refine zl_iload dL_law_150 rfl ?_
        refine zl_bipush (-9) dL_law_152 (by decide) ?_
        refine zl_icmp_le 211 dL_law_154 (by decide) (fun b154 => ?_) (fun b154 => ?_)
        · exact absurd b154 (neg9_le hj)
        · refine zl_iload dL_law_157 rfl ?_
          refine zl_bipush (8) dL_law_159 (by decide) ?_
          refine zl_ishr dL_law_161 ?_
          refine zl_iconst (1) dL_law_162 (by decide) ?_
          refine zl_iand dL_law_163 ?_
          refine zl_if_ne 211 dL_law_164 (by decide) (fun b164 => ?_) (fun b164 => ?_)
          · first
            | exact zl_loc (lv' := [(0, .ref (zSc G).1), (1, .ref x), (2, .long (sTold T)), (4, .int (nI t)), (5, .int v), (11, .long (sTold S2))]) ⟨rfl, rfl, rfl, rfl, rfl, rfl, trivial⟩ (lw_D j1 j2 (by omega) (by omega) ⟨h, gS2, gs_fold hk5 (fun j hj => (gst j hj).mono (by omega)) (gS.mono (by omega)), hss, gT.mono (by omega)⟩ kk)
            | exact zl_loc (lv' := [(0, .ref (zSc G).1), (1, .ref x), (2, .long (sTold T)), (4, .int (nI t)), (5, .int v), (11, .long (sTold S2))]) ⟨rfl, rfl, rfl, rfl, rfl, rfl, trivial⟩ (lw_D j1 j2 (by omega) (by omega) ⟨h, gS2, gs_fold hk5 (fun j hj => gs_fold hk5 (fun j hj => (gst j hj).mono (by omega)) (gS.mono (by omega)) j (by omega)) (gS.mono (by omega)), hss, gT.mono (by omega)⟩ kk)
          · refine zl_aload_n dL_law_167 rfl rfl ?_
            refine zl_callV1 kL_92 gi_X3_undo ge_X3_undo rfl dL_law_168 (by assumption) (ci_back hk5 h iv) rfl rfl (by decide) (Nat.le_of_ble_eq_true rfl) (fun f m hc => ?_)
            have h := hc
            obtain ⟨vx, hx⟩ := h.x
            refine zl_iload dL_law_171 rfl ?_
            refine zl_icmp_ne 209 dL_law_173 (by decide) (fun b173 => ?_) (fun b173 => ?_)
            · exact absurd rfl b173
            · refine zl_aload_n dL_law_176 rfl rfl ?_
              refine zl_callS1 kL_81 gs_L_told dL_law_177 (c_told h iv) rfl rfl (by decide) (Nat.le_of_ble_eq_true rfl) (fun f m hc => ?_)
              have h := hc
              obtain ⟨vx, hx⟩ := h.x
              refine zl_lload dL_law_180 rfl ?_
              refine zl_lcmpE dL_law_182 ?_
              refine zl_if_ne 209 dL_law_183 (by decide) (fun b183 => ?_) (fun b183 => ?_)
              · exact absurd rfl b183
              · refine zl_aload_n dL_law_186 rfl rfl ?_
                refine zl_iload dL_law_187 rfl ?_
                refine zl_iload dL_law_189 rfl ?_
                refine zl_callS1 kL_95 gs_L_act dL_law_191 (c_act_some h iv j1 j2 e hk5) rfl rfl (by decide) (Nat.le_of_ble_eq_true rfl) (fun f m hc => ?_)
                have h := hc
                obtain ⟨vx, hx⟩ := h.x
                refine zl_iload dL_law_194 rfl ?_
                refine zl_icmp_ne 209 dL_law_196 (by decide) (fun b196 => ?_) (fun b196 => ?_)
                · exact absurd rfl b196
                · refine zl_aload_n dL_law_199 rfl rfl ?_
                  refine zl_callS1 kL_81 gs_L_told dL_law_200 (c_told h iv2) rfl rfl (by decide) (Nat.le_of_ble_eq_true rfl) (fun f m hc => ?_)
                  have h := hc
                  obtain ⟨vx, hx⟩ := h.x
                  refine zl_lload dL_law_203 rfl ?_
                  refine zl_lcmpE dL_law_205 ?_
                  refine zl_if_eq 211 dL_law_206 (by decide) (fun b206 => ?_) (fun b206 => ?_)
                  · first
                    | exact zl_loc (lv' := [(0, .ref (zSc G).1), (1, .ref x), (2, .long (sTold T)), (4, .int (nI t)), (5, .int v), (11, .long (sTold S2))]) ⟨rfl, rfl, rfl, rfl, rfl, rfl, trivial⟩ (lw_D j1 j2 (by omega) (by omega) ⟨h, gS2, gs_fold hk5 (fun j hj => (gst j hj).mono (by omega)) (gS.mono (by omega)), hss, gT.mono (by omega)⟩ kk)
                    | exact zl_loc (lv' := [(0, .ref (zSc G).1), (1, .ref x), (2, .long (sTold T)), (4, .int (nI t)), (5, .int v), (11, .long (sTold S2))]) ⟨rfl, rfl, rfl, rfl, rfl, rfl, trivial⟩ (lw_D j1 j2 (by omega) (by omega) ⟨h, gS2, gs_fold hk5 (fun j hj => gs_fold hk5 (fun j hj => (gst j hj).mono (by omega)) (gS.mono (by omega)) j (by omega)) (gS.mono (by omega)), hss, gT.mono (by omega)⟩ kk)
                  · exact absurd rfl b206
      · exact absurd (nI_1 k).symm b145
    · exact absurd b110 (neg9_ne hj)
set_option maxRecDepth 10000 in
set_option maxHeartbeats 1000000 in
theorem lw_A {G : zW} {f : zHM} {m : Nat × Nat} {x k c t : Nat} {st : Nat → zST} {ss : Nat → Option zST} {S T : zST} {J : Nat × Nat} {Q : zOut → zH → Prop} (j1 : J.1 ≤ 50000) (j2 : J.2 ≤ 399990) (hL : (zSc G).2.1 ≤ 260) (ht : t < 28) (hc1 : 1 ≤ c) (hc9 : c ≤ 100) (hk : k ≤ 6) (hI : LSt f m x k st ss S T c J) (kk : ∀ (f : zHM) (m : Nat × Nat) (k : Nat) (st : Nat → zST) (ss : Nat → Option zST) (S T : zST), k ≤ 6 → LSt f m x k st ss S T (c + 1) J → zVl G yL_law cL_law 13 (some .boolean) 10 315 [(0, .ref (zSc G).1), (1, .ref x), (2, .long (sTold T)), (4, .int (nI t))] [] (f, m) Q) : zVl G yL_law cL_law 13 (some .boolean) 10 33 [(0, .ref (zSc G).1), (1, .ref x), (2, .long (sTold T)), (4, .int (nI t))] [] (f, m) Q := by
  obtain ⟨h, gS, gst, hss, gT⟩ := hI
  have iv := gS.iv
  obtain ⟨vx, hx⟩ := h.x
  refine zl_aload_n dL_law_33 rfl rfl ?_
  refine zl_iconst (nI 2) dL_law_34 (by decide) ?_
  refine zl_iload dL_law_35 rfl ?_
  refine zl_imul dL_law_37 ?_
  rw [pk_mul 2 t]
  refine zl_callSp kL_88 gs_L_cell dL_law_38 (c_cell hL (i := 2 * t) (by omega)) rfl rfl (by decide) (Nat.le_of_ble_eq_true rfl) ?_
  refine zl_istore dL_law_41 (by decide) ?_
  refine zl_aload_n dL_law_43 rfl rfl ?_
  refine zl_iconst (nI 2) dL_law_44 (by decide) ?_
  refine zl_iload dL_law_45 rfl ?_
  refine zl_imul dL_law_47 ?_
  rw [pk_mul 2 t]
  refine zl_iconst (nI 1) dL_law_48 (by decide) ?_
  refine zl_iadd dL_law_49 ?_
  rw [nI_add (2 * t) 1]
  refine zl_callSp kL_88 gs_L_cell dL_law_50 (c_cell hL (i := 2 * t + 1) (by omega)) rfl rfl (by decide) (Nat.le_of_ble_eq_true rfl) ?_
  refine zl_istore dL_law_53 (by decide) ?_
  refine zl_aload_n dL_law_55 rfl rfl ?_
  refine zl_bipush (nI 12) dL_law_56 (by decide) ?_
  refine zl_callV1 kL_12 gi_X3_count ge_X3_count rfl dL_law_58 (by assumption) (ci_k h iv) rfl rfl (by decide) (Nat.le_of_ble_eq_true rfl) (fun f m hc => ?_)
  have h := hc
  obtain ⟨vx, hx⟩ := h.x
  refine zl_bipush (nI 6) dL_law_61 (by decide) ?_
  refine zl_icmp_ne 76 dL_law_63 (by decide) (fun b63 => ?_) (fun b63 => ?_)
  · have hk6 : ¬ k = 6 := fun e => b63 (by rw [e])
    first
    | exact zl_loc (lv' := [(0, .ref (zSc G).1), (1, .ref x), (2, .long (sTold T)), (4, .int (nI t)), (5, .int (sCell G (2 * t))), (6, .int (sCell G (2 * t + 1)))]) ⟨rfl, rfl, rfl, rfl, rfl, rfl, trivial⟩ (lw_B j1 j2 hc1 hc9 (by omega) ⟨h, gS, gst, hss, gT⟩ kk)
    | exact zl_loc (lv' := [(0, .ref (zSc G).1), (1, .ref x), (2, .long (sTold T)), (4, .int (nI t)), (5, .int (sCell G (2 * t))), (6, .int (sCell G (2 * t + 1)))]) ⟨rfl, rfl, rfl, rfl, rfl, rfl, trivial⟩ (lw_B j1 j2 hc1 hc9 (by omega) ⟨h, gst 4 (by omega), fun j hj => gst j (by omega), hss, gT⟩ kk)
  · have hk6 : k = 6 := (nI_eq (by omega) (by omega)).mp b63
    subst hk6
    refine zl_aload_n dL_law_66 rfl rfl ?_
    refine zl_callV1 kL_92 gi_X3_undo ge_X3_undo rfl dL_law_67 (by assumption) (ci_step h (gst 5 (by omega)).iv) rfl rfl (by decide) (Nat.le_of_ble_eq_true rfl) (fun f m hc => ?_)
    have h := hc
    obtain ⟨vx, hx⟩ := h.x
    refine zl_pop dL_law_70 rfl ?_
    refine zl_aload_n dL_law_71 rfl rfl ?_
    refine zl_callV1 kL_92 gi_X3_undo ge_X3_undo rfl dL_law_72 (by assumption) (ci_step h (gst 4 (by omega)).iv) rfl rfl (by decide) (Nat.le_of_ble_eq_true rfl) (fun f m hc => ?_)
    have h := hc
    obtain ⟨vx, hx⟩ := h.x
    refine zl_pop dL_law_75 rfl ?_
    first
    | exact zl_loc (lv' := [(0, .ref (zSc G).1), (1, .ref x), (2, .long (sTold T)), (4, .int (nI t)), (5, .int (sCell G (2 * t))), (6, .int (sCell G (2 * t + 1)))]) ⟨rfl, rfl, rfl, rfl, rfl, rfl, trivial⟩ (lw_B j1 j2 hc1 hc9 (by omega) ⟨h, gS, gst, hss, gT⟩ kk)
    | exact zl_loc (lv' := [(0, .ref (zSc G).1), (1, .ref x), (2, .long (sTold T)), (4, .int (nI t)), (5, .int (sCell G (2 * t))), (6, .int (sCell G (2 * t + 1)))]) ⟨rfl, rfl, rfl, rfl, rfl, rfl, trivial⟩ (lw_B j1 j2 hc1 hc9 (by omega) ⟨h, gst 4 (by omega), fun j hj => gst j (by omega), hss, gT⟩ kk)
set_option maxRecDepth 10000 in
set_option maxHeartbeats 1000000 in
theorem lw_loop {G : zW} {x : Nat} {J : Nat × Nat} {Q : zOut → zH → Prop} (hQ : ∀ h, Q (.inl (some (.int 1))) h) (j1 : J.1 ≤ 50000) (j2 : J.2 ≤ 399990) (hL : (zSc G).2.1 ≤ 260) : ∀ (r t : Nat), t + r = 28 → ∀ (f : zHM) (m : Nat × Nat) (k : Nat) (st : Nat → zST) (ss : Nat → Option zST) (S T : zST), k ≤ 6 → LSt f m x k st ss S T (1 + t) J → zVl G yL_law cL_law 13 (some .boolean) 10 26 [(0, .ref (zSc G).1), (1, .ref x), (2, .long (sTold T)), (4, .int (nI t))] [] (f, m) Q := by
  intro r
  induction r with
  | zero =>
    intro t ht f m k st ss S T hk hI
    have ht : t = 28 := by omega
    refine zl_iload dL_law_26 rfl ?_
    refine zl_bipush (nI 28) dL_law_28 (by decide) ?_
    refine zl_icmp_ge 321 dL_law_30 (by decide) (fun b30 => ?_) (fun b30 => ?_)
    · refine zl_iconst (1) dL_law_321 (by decide) ?_
      exact zl_zreturn dL_law_322 rfl (by decide) (hQ _)
    · exact absurd (nI_le (a := 28) (b := t) (by omega) (by omega)) b30
  | succ r ih =>
    intro t ht f m k st ss S T hk hI
    refine zl_iload dL_law_26 rfl ?_
    refine zl_bipush (nI 28) dL_law_28 (by decide) ?_
    refine zl_icmp_ge 321 dL_law_30 (by decide) (fun b30 => ?_) (fun b30 => ?_)
    · exact absurd b30 (nI_ge (by omega) (by omega))
    · refine zl_loc (lv' := [(0, .ref (zSc G).1), (1, .ref x), (2, .long (sTold T)), (4, .int (nI t))]) ⟨rfl, rfl, rfl, rfl, trivial⟩ (lw_A j1 j2 hL (by omega) (by omega) (by omega) hk hI (fun f m k st ss S T hk hI => ?_))
      refine zl_iincN dL_law_315 rfl (by decide) ?_
      refine zl_goto 26 dL_law_318 (by decide) ?_
      exact zl_loc (lv' := [(0, .ref (zSc G).1), (1, .ref x), (2, .long (sTold T)), (4, .int (nI (t + 1)))]) ⟨rfl, rfl, rfl, rfl, trivial⟩ (ih (t + 1) (by omega) f m k st ss S T hk hI)
set_option maxRecDepth 10000 in
set_option maxHeartbeats 1000000 in
theorem law_start {G : zW} {Q : zOut → zH → Prop} (hQ : ∀ h, Q (.inl (some (.int 1))) h) (hL : (zSc G).2.1 ≤ 260) : zVl G yL_law cL_law 13 (some .boolean) 10 0 (lv_args 0 [.ref (zSc G).1]) [] (fun _ => none, (0, 0)) Q := by
  refine zl_newX 600 nL_13 dL_law_0 (by decide) (by decide) (fun x f1 hx => ?_)
  refine zl_dup dL_law_3 rfl ?_
  refine zl_callI0 kL_80 gi_X3_init rfl dL_law_4 (c_new hx.1 (by decide) (by decide)) rfl rfl (by decide) (Nat.le_of_ble_eq_true rfl) (fun f m hc => ?_)
  obtain ⟨r, tr, sc, tx, sl, sv, la, A, A2, co, c1, c2, c3, c4, c5, c6, c7, c8, c9, rfl⟩ := hc
  have h := ci_new (m := (0, 0)) c1 c2 c3 c4 c5 c6 c7 c8
  have iv : IVS sFresh := GS_new.iv
  obtain ⟨vx, hx⟩ := h.x
  refine zl_astore_n dL_law_7 rfl (by decide) ?_
  refine zl_aload_n dL_law_8 rfl rfl ?_
  refine zl_callS1 kL_81 gs_L_told dL_law_9 (c_told h iv) rfl rfl (by decide) (Nat.le_of_ble_eq_true rfl) (fun f m hc => ?_)
  have h := hc
  obtain ⟨vx, hx⟩ := h.x
  refine zl_lstore_n dL_law_12 rfl (by decide) ?_
  refine zl_aload_n dL_law_13 rfl rfl ?_
  refine zl_iconst (nI 0) dL_law_14 (by decide) ?_
  refine zl_callV1 kL_85 gi_X3_keep ge_X3_keep rfl dL_law_15 (by assumption) (ci_kp h iv (by decide) (by decide)) rfl rfl (by decide) (Nat.le_of_ble_eq_true rfl) (fun f m hc => ?_)
  have h := hc
  obtain ⟨vx, hx⟩ := h.x
  refine zl_if_eq 23 dL_law_18 (by decide) (fun b18 => ?_) (fun b18 => ?_)
  · refine zl_iconst (0) dL_law_23 (by decide) ?_
    refine zl_istore dL_law_24 (by decide) ?_
    exact zl_loc (lv' := [(0, .ref (zSc G).1), (1, .ref x), (2, .long (sTold sFresh)), (4, .int (nI 0))]) ⟨rfl, rfl, rfl, rfl, trivial⟩ (lw_loop hQ (by decide) (by decide) hL 28 0 rfl f m 0 _ _ _ _ (by decide) ⟨h, GS_new, fun j hj => absurd hj (Nat.not_lt_zero j), rfl, GS_new⟩)
  · exact absurd rfl b18
