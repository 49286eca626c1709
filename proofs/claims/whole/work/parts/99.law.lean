/-! THE LAW, CASE BY CASE: what the wrapper and the reference answer is the same. -/
theorem JI.o {f : zHM} {m : Nat × Nat} {x o cap : Nat} {th : Int32} {J : Nat × Nat} (h : JI f m x o th cap J) : ∃ vs, f o = some (700, .inr (4, vs)) := by
  obtain ⟨k, st, ss, L, ch, B, hh, σ, mr, svm, hsl, slm, N, s, n, -, ⟨w, z, -⟩, -⟩ := h
  exact ⟨_, z.1⟩
theorem JI.x {f : zHM} {m : Nat × Nat} {x o cap : Nat} {th : Int32} {J : Nat × Nat} (h : JI f m x o th cap J) : ∃ vs, f x = some (600, .inr (3, vs)) := by
  obtain ⟨k, st, ss, L, ch, B, hh, σ, mr, svm, hsl, slm, N, s, n, ⟨r, tr, sc, tx, sl, sv, la, A, gv, π, gs, co, M, q1, -⟩, -⟩ := h
  exact ⟨_, q1⟩
theorem JI.th {G : zW} {f : zHM} {m : Nat × Nat} {x o cap : Nat} {th : Int32} {J : Nat × Nat} (h : JI f m x o th cap J) : zM G yX4_thrown cX4_thrown 1 (some .int) 1 [.ref o] (f, m) (zS (.int th) f m) := by
  obtain ⟨k, st, ss, L, ch, B, hh, σ, mr, svm, hsl, slm, N, s, n, -, ⟨w, z, z0, -⟩, -⟩ := h
  have q := c_thrown (G := G) (m := m) z
  rw [z0] at q
  exact q
set_option maxRecDepth 10000 in
set_option maxHeartbeats 1000000 in
theorem l_nails {G : zW} {f : zHM} {m : Nat × Nat} {x o out cap : Nat} {J : Nat × Nat} {Q : zOut → zH → Prop} {i : Int32} (hi1 : vp_in (i + 1) (zSc G).2.1) (hs : zSp G x o out cap J f m yL_nails cL_nails 4 [(0, 9, 12, 13)] yX4_nails cX4_nails 4 [.int ((zSc G).2.2 (i + 1).toNatClampNeg)]) (kk : ∀ f3 m3 (b3 : Int32), JI f3 m3 x o b3 cap J → (∃ g : Nat → Int64, f3 out = some (750, .inl (1, 1, .inr (.inl g)))) → zVl G yL_law cL_law 9 (some .boolean) 12 1705 [(0, .ref (zSc G).1), (1, .ref x), (2, .ref o), (3, .ref out), (4, .int i)] [] (f3, m3) Q) : zVl G yL_law cL_law 9 (some .boolean) 12 176 [(0, .ref (zSc G).1), (1, .ref x), (2, .ref o), (3, .ref out), (4, .int i)] [] (f, m) Q := by
  obtain ⟨b, v, P1, hw, h2⟩ := hs
  refine zl_aload_n dL_law_176 rfl rfl ?_
  refine zl_aload_n dL_law_177 rfl rfl ?_
  refine zl_iload dL_law_178 rfl ?_
  refine zl_iconst (1) dL_law_180 (by decide) ?_
  refine zl_iadd dL_law_181 ?_
  refine zl_sload dL_law_182 hi1 ?_
  refine zl_aload_n dL_law_183 rfl rfl ?_
  refine zl_callSH (rest := []) kw_nails gs_L_nails dL_law_184 hw rfl rfl (by decide) (Nat.le_of_ble_eq_true rfl) (fun v9 h9 hq => ?_) (fun E h9 hq => nomatch hq.1)
  obtain ⟨f2, m2⟩ := h9
  obtain ⟨e9, hP⟩ := hq
  obtain rfl := Sum.inl.inj e9
  obtain ⟨⟨vs, ho⟩, hr⟩ := h2 f2 m2 hP
  show zVl G yL_law cL_law 9 (some .boolean) 12 187 [(0, .ref (zSc G).1), (1, .ref x), (2, .ref o), (3, .ref out), (4, .int i)] [.int b] (f2, m2) Q
  refine zl_istore dL_law_187 (by decide) ?_
  refine zl_aload_n dL_law_189 rfl rfl ?_
  refine zl_aload_n dL_law_190 rfl rfl ?_
  refine zl_iload dL_law_191 rfl ?_
  refine zl_iconst (1) dL_law_193 (by decide) ?_
  refine zl_iadd dL_law_194 ?_
  refine zl_sload dL_law_195 hi1 ?_
  refine zl_callV (rest := []) (vs := vs) kL_97 gi_X4_nails ge_X4_nails rfl dL_law_196 ho hr rfl rfl (by decide) (Nat.le_of_ble_eq_true rfl) (fun v9 h9 hq => ?_) (fun E h9 hq => nomatch hq.1)
  obtain ⟨f3, m3⟩ := h9
  obtain ⟨e9, hJ, g, hg, hg0⟩ := hq
  obtain rfl := Sum.inl.inj e9
  obtain ⟨vs3, ho3⟩ := hJ.o
  show zVl G yL_law cL_law 9 (some .boolean) 12 199 (zst1 [(0, .ref (zSc G).1), (1, .ref x), (2, .ref o), (3, .ref out), (4, .int i)] 5 (.int b)) [.int v] (f3, m3) Q
  refine zl_istore dL_law_199 (by decide) ?_
  refine zl_aload_n dL_law_201 rfl rfl ?_
  refine zl_callV (rest := []) (as := []) (vs := vs3) kL_98 gi_X4_thrown ge_X4_thrown rfl dL_law_202 ho3 hJ.th rfl rfl (by decide) (Nat.le_of_ble_eq_true rfl) (fun v9 h9 hq => ?_) (fun E h9 hq => nomatch hq.1)
  obtain ⟨f4, m4⟩ := h9
  obtain ⟨e9, e4, e5⟩ := hq
  obtain rfl := Sum.inl.inj e9
  have e4 : f4 = f3 := e4
  have e5 : m4 = m3 := e5
  subst f4
  subst m4
  have fin : zVl G yL_law cL_law 9 (some .boolean) 12 229 (zst1 (zst1 [(0, .ref (zSc G).1), (1, .ref x), (2, .ref o), (3, .ref out), (4, .int i)] 5 (.int b)) 6 (.int v)) [] (f3, m3) Q := by
    refine zl_goto 1705 dL_law_229 (by decide) ?_
    exact zl_loc (lv' := [(0, .ref (zSc G).1), (1, .ref x), (2, .ref o), (3, .ref out), (4, .int i)]) ⟨rfl, rfl, rfl, rfl, rfl, trivial⟩ (kk f3 m3 b hJ ⟨g, hg⟩)
  show zVl G yL_law cL_law 9 (some .boolean) 12 205 (zst1 (zst1 [(0, .ref (zSc G).1), (1, .ref x), (2, .ref o), (3, .ref out), (4, .int i)] 5 (.int b)) 6 (.int v)) [.int b] (f3, m3) Q
  refine zl_iload dL_law_205 rfl ?_
  refine zl_icmp_eq 212 dL_law_207 (by decide) (fun _ => ?_) (fun z => absurd rfl z)
  refine zl_iload dL_law_212 rfl ?_
  refine zl_if_ne 229 dL_law_214 (by decide) (fun _ => fin) (fun z => ?_)
  have hgv : g (0 : Int32).toNatClampNeg = v.toInt64 := hg0 z
  refine zl_aload_n dL_law_217 rfl rfl ?_
  refine zl_iconst (0) dL_law_218 (by decide) ?_
  refine zl_laload (h := (f3, m3)) dL_law_219 hg z01 ?_
  rw [hgv]
  refine zl_iload dL_law_220 rfl ?_
  refine zl_i2l dL_law_222 ?_
  refine zl_lcmpE dL_law_223 ?_
  exact zl_if_eq 229 dL_law_224 (by decide) (fun _ => fin) (fun z => absurd rfl z)
set_option maxRecDepth 10000 in
set_option maxHeartbeats 1000000 in
theorem l_spool {G : zW} {f : zHM} {m : Nat × Nat} {x o out cap : Nat} {J : Nat × Nat} {Q : zOut → zH → Prop} {i : Int32} (hi1 : vp_in (i + 1) (zSc G).2.1) (hi2 : vp_in (i + 2) (zSc G).2.1) (hi3 : vp_in (i + 3) (zSc G).2.1) (hs : zSp G x o out cap J f m yL_spool cL_spool 6 [(0, 12, 15, 19), (0, 12, 19, 13), (0, 12, 23, 21)] yX4_spool cX4_spool 5 [.int ((zSc G).2.2 (i + 1).toNatClampNeg), .int ((zSc G).2.2 (i + 2).toNatClampNeg), .int ((zSc G).2.2 (i + 3).toNatClampNeg)]) (kk : ∀ f3 m3 (b3 : Int32), JI f3 m3 x o b3 cap J → (∃ g : Nat → Int64, f3 out = some (750, .inl (1, 1, .inr (.inl g)))) → zVl G yL_law cL_law 9 (some .boolean) 12 1705 [(0, .ref (zSc G).1), (1, .ref x), (2, .ref o), (3, .ref out), (4, .int i)] [] (f3, m3) Q) : zVl G yL_law cL_law 9 (some .boolean) 12 232 [(0, .ref (zSc G).1), (1, .ref x), (2, .ref o), (3, .ref out), (4, .int i)] [] (f, m) Q := by
  obtain ⟨b, v, P1, hw, h2⟩ := hs
  refine zl_aload_n dL_law_232 rfl rfl ?_
  refine zl_aload_n dL_law_233 rfl rfl ?_
  refine zl_iload dL_law_234 rfl ?_
  refine zl_iconst (1) dL_law_236 (by decide) ?_
  refine zl_iadd dL_law_237 ?_
  refine zl_sload dL_law_238 hi1 ?_
  refine zl_aload_n dL_law_239 rfl rfl ?_
  refine zl_iload dL_law_240 rfl ?_
  refine zl_iconst (2) dL_law_242 (by decide) ?_
  refine zl_iadd dL_law_243 ?_
  refine zl_sload dL_law_244 hi2 ?_
  refine zl_aload_n dL_law_245 rfl rfl ?_
  refine zl_iload dL_law_246 rfl ?_
  refine zl_iconst (3) dL_law_248 (by decide) ?_
  refine zl_iadd dL_law_249 ?_
  refine zl_sload dL_law_250 hi3 ?_
  refine zl_aload_n dL_law_251 rfl rfl ?_
  refine zl_callSH (rest := []) kw_spool gs_L_spool dL_law_252 hw rfl rfl (by decide) (Nat.le_of_ble_eq_true rfl) (fun v9 h9 hq => ?_) (fun E h9 hq => nomatch hq.1)
  obtain ⟨f2, m2⟩ := h9
  obtain ⟨e9, hP⟩ := hq
  obtain rfl := Sum.inl.inj e9
  obtain ⟨⟨vs, ho⟩, hr⟩ := h2 f2 m2 hP
  show zVl G yL_law cL_law 9 (some .boolean) 12 255 [(0, .ref (zSc G).1), (1, .ref x), (2, .ref o), (3, .ref out), (4, .int i)] [.int b] (f2, m2) Q
  refine zl_istore dL_law_255 (by decide) ?_
  refine zl_aload_n dL_law_257 rfl rfl ?_
  refine zl_aload_n dL_law_258 rfl rfl ?_
  refine zl_iload dL_law_259 rfl ?_
  refine zl_iconst (1) dL_law_261 (by decide) ?_
  refine zl_iadd dL_law_262 ?_
  refine zl_sload dL_law_263 hi1 ?_
  refine zl_aload_n dL_law_264 rfl rfl ?_
  refine zl_iload dL_law_265 rfl ?_
  refine zl_iconst (2) dL_law_267 (by decide) ?_
  refine zl_iadd dL_law_268 ?_
  refine zl_sload dL_law_269 hi2 ?_
  refine zl_aload_n dL_law_270 rfl rfl ?_
  refine zl_iload dL_law_271 rfl ?_
  refine zl_iconst (3) dL_law_273 (by decide) ?_
  refine zl_iadd dL_law_274 ?_
  refine zl_sload dL_law_275 hi3 ?_
  refine zl_callV (rest := []) (vs := vs) kL_104 gi_X4_spool ge_X4_spool rfl dL_law_276 ho hr rfl rfl (by decide) (Nat.le_of_ble_eq_true rfl) (fun v9 h9 hq => ?_) (fun E h9 hq => nomatch hq.1)
  obtain ⟨f3, m3⟩ := h9
  obtain ⟨e9, hJ, g, hg, hg0⟩ := hq
  obtain rfl := Sum.inl.inj e9
  obtain ⟨vs3, ho3⟩ := hJ.o
  show zVl G yL_law cL_law 9 (some .boolean) 12 279 (zst1 [(0, .ref (zSc G).1), (1, .ref x), (2, .ref o), (3, .ref out), (4, .int i)] 5 (.int b)) [.int v] (f3, m3) Q
  refine zl_istore dL_law_279 (by decide) ?_
  refine zl_aload_n dL_law_281 rfl rfl ?_
  refine zl_callV (rest := []) (as := []) (vs := vs3) kL_98 gi_X4_thrown ge_X4_thrown rfl dL_law_282 ho3 hJ.th rfl rfl (by decide) (Nat.le_of_ble_eq_true rfl) (fun v9 h9 hq => ?_) (fun E h9 hq => nomatch hq.1)
  obtain ⟨f4, m4⟩ := h9
  obtain ⟨e9, e4, e5⟩ := hq
  obtain rfl := Sum.inl.inj e9
  have e4 : f4 = f3 := e4
  have e5 : m4 = m3 := e5
  subst f4
  subst m4
  have fin : zVl G yL_law cL_law 9 (some .boolean) 12 309 (zst1 (zst1 [(0, .ref (zSc G).1), (1, .ref x), (2, .ref o), (3, .ref out), (4, .int i)] 5 (.int b)) 6 (.int v)) [] (f3, m3) Q := by
    refine zl_goto 1705 dL_law_309 (by decide) ?_
    exact zl_loc (lv' := [(0, .ref (zSc G).1), (1, .ref x), (2, .ref o), (3, .ref out), (4, .int i)]) ⟨rfl, rfl, rfl, rfl, rfl, trivial⟩ (kk f3 m3 b hJ ⟨g, hg⟩)
  show zVl G yL_law cL_law 9 (some .boolean) 12 285 (zst1 (zst1 [(0, .ref (zSc G).1), (1, .ref x), (2, .ref o), (3, .ref out), (4, .int i)] 5 (.int b)) 6 (.int v)) [.int b] (f3, m3) Q
  refine zl_iload dL_law_285 rfl ?_
  refine zl_icmp_eq 292 dL_law_287 (by decide) (fun _ => ?_) (fun z => absurd rfl z)
  refine zl_iload dL_law_292 rfl ?_
  refine zl_if_ne 309 dL_law_294 (by decide) (fun _ => fin) (fun z => ?_)
  have hgv : g (0 : Int32).toNatClampNeg = v.toInt64 := hg0 z
  refine zl_aload_n dL_law_297 rfl rfl ?_
  refine zl_iconst (0) dL_law_298 (by decide) ?_
  refine zl_laload (h := (f3, m3)) dL_law_299 hg z01 ?_
  rw [hgv]
  refine zl_iload dL_law_300 rfl ?_
  refine zl_i2l dL_law_302 ?_
  refine zl_lcmpE dL_law_303 ?_
  exact zl_if_eq 309 dL_law_304 (by decide) (fun _ => fin) (fun z => absurd rfl z)
set_option maxRecDepth 10000 in
set_option maxHeartbeats 1000000 in
theorem l_knot {G : zW} {f : zHM} {m : Nat × Nat} {x o out cap : Nat} {J : Nat × Nat} {Q : zOut → zH → Prop} {i : Int32} (hi1 : vp_in (i + 1) (zSc G).2.1) (hs : zSp G x o out cap J f m yL_knot cL_knot 4 [(0, 9, 12, 19), (0, 9, 15, 21)] yX4_knot cX4_knot 2 [.int ((zSc G).2.2 (i + 1).toNatClampNeg)]) (kk : ∀ f3 m3 (b3 : Int32), JI f3 m3 x o b3 cap J → (∃ g : Nat → Int64, f3 out = some (750, .inl (1, 1, .inr (.inl g)))) → zVl G yL_law cL_law 9 (some .boolean) 12 1705 [(0, .ref (zSc G).1), (1, .ref x), (2, .ref o), (3, .ref out), (4, .int i)] [] (f3, m3) Q) : zVl G yL_law cL_law 9 (some .boolean) 12 312 [(0, .ref (zSc G).1), (1, .ref x), (2, .ref o), (3, .ref out), (4, .int i)] [] (f, m) Q := by
  obtain ⟨b, v, P1, hw, h2⟩ := hs
  refine zl_aload_n dL_law_312 rfl rfl ?_
  refine zl_aload_n dL_law_313 rfl rfl ?_
  refine zl_iload dL_law_314 rfl ?_
  refine zl_iconst (1) dL_law_316 (by decide) ?_
  refine zl_iadd dL_law_317 ?_
  refine zl_sload dL_law_318 hi1 ?_
  refine zl_aload_n dL_law_319 rfl rfl ?_
  refine zl_callSH (rest := []) kw_knot gs_L_knot dL_law_320 hw rfl rfl (by decide) (Nat.le_of_ble_eq_true rfl) (fun v9 h9 hq => ?_) (fun E h9 hq => nomatch hq.1)
  obtain ⟨f2, m2⟩ := h9
  obtain ⟨e9, hP⟩ := hq
  obtain rfl := Sum.inl.inj e9
  obtain ⟨⟨vs, ho⟩, hr⟩ := h2 f2 m2 hP
  show zVl G yL_law cL_law 9 (some .boolean) 12 323 [(0, .ref (zSc G).1), (1, .ref x), (2, .ref o), (3, .ref out), (4, .int i)] [.int b] (f2, m2) Q
  refine zl_istore dL_law_323 (by decide) ?_
  refine zl_aload_n dL_law_325 rfl rfl ?_
  refine zl_aload_n dL_law_326 rfl rfl ?_
  refine zl_iload dL_law_327 rfl ?_
  refine zl_iconst (1) dL_law_329 (by decide) ?_
  refine zl_iadd dL_law_330 ?_
  refine zl_sload dL_law_331 hi1 ?_
  refine zl_callV (rest := []) (vs := vs) kL_107 gi_X4_knot ge_X4_knot rfl dL_law_332 ho hr rfl rfl (by decide) (Nat.le_of_ble_eq_true rfl) (fun v9 h9 hq => ?_) (fun E h9 hq => nomatch hq.1)
  obtain ⟨f3, m3⟩ := h9
  obtain ⟨e9, hJ, g, hg, hg0⟩ := hq
  obtain rfl := Sum.inl.inj e9
  obtain ⟨vs3, ho3⟩ := hJ.o
  show zVl G yL_law cL_law 9 (some .boolean) 12 335 (zst1 [(0, .ref (zSc G).1), (1, .ref x), (2, .ref o), (3, .ref out), (4, .int i)] 5 (.int b)) [.int v] (f3, m3) Q
  refine zl_istore dL_law_335 (by decide) ?_
  refine zl_aload_n dL_law_337 rfl rfl ?_
  refine zl_callV (rest := []) (as := []) (vs := vs3) kL_98 gi_X4_thrown ge_X4_thrown rfl dL_law_338 ho3 hJ.th rfl rfl (by decide) (Nat.le_of_ble_eq_true rfl) (fun v9 h9 hq => ?_) (fun E h9 hq => nomatch hq.1)
  obtain ⟨f4, m4⟩ := h9
  obtain ⟨e9, e4, e5⟩ := hq
  obtain rfl := Sum.inl.inj e9
  have e4 : f4 = f3 := e4
  have e5 : m4 = m3 := e5
  subst f4
  subst m4
  have fin : zVl G yL_law cL_law 9 (some .boolean) 12 365 (zst1 (zst1 [(0, .ref (zSc G).1), (1, .ref x), (2, .ref o), (3, .ref out), (4, .int i)] 5 (.int b)) 6 (.int v)) [] (f3, m3) Q := by
    refine zl_goto 1705 dL_law_365 (by decide) ?_
    exact zl_loc (lv' := [(0, .ref (zSc G).1), (1, .ref x), (2, .ref o), (3, .ref out), (4, .int i)]) ⟨rfl, rfl, rfl, rfl, rfl, trivial⟩ (kk f3 m3 b hJ ⟨g, hg⟩)
  show zVl G yL_law cL_law 9 (some .boolean) 12 341 (zst1 (zst1 [(0, .ref (zSc G).1), (1, .ref x), (2, .ref o), (3, .ref out), (4, .int i)] 5 (.int b)) 6 (.int v)) [.int b] (f3, m3) Q
  refine zl_iload dL_law_341 rfl ?_
  refine zl_icmp_eq 348 dL_law_343 (by decide) (fun _ => ?_) (fun z => absurd rfl z)
  refine zl_iload dL_law_348 rfl ?_
  refine zl_if_ne 365 dL_law_350 (by decide) (fun _ => fin) (fun z => ?_)
  have hgv : g (0 : Int32).toNatClampNeg = v.toInt64 := hg0 z
  refine zl_aload_n dL_law_353 rfl rfl ?_
  refine zl_iconst (0) dL_law_354 (by decide) ?_
  refine zl_laload (h := (f3, m3)) dL_law_355 hg z01 ?_
  rw [hgv]
  refine zl_iload dL_law_356 rfl ?_
  refine zl_i2l dL_law_358 ?_
  refine zl_lcmpE dL_law_359 ?_
  exact zl_if_eq 365 dL_law_360 (by decide) (fun _ => fin) (fun z => absurd rfl z)
set_option maxRecDepth 10000 in
set_option maxHeartbeats 1000000 in
theorem l_set {G : zW} {f : zHM} {m : Nat × Nat} {x o out cap : Nat} {J : Nat × Nat} {Q : zOut → zH → Prop} {i : Int32} (hi1 : vp_in (i + 1) (zSc G).2.1) (hi2 : vp_in (i + 2) (zSc G).2.1) (hs : zSp G x o out cap J f m yL_set cL_set 5 [(0, 10, 13, 19), (0, 10, 17, 13)] yX4_set cX4_set 4 [.int ((zSc G).2.2 (i + 1).toNatClampNeg), .int ((zSc G).2.2 (i + 2).toNatClampNeg)]) (kk : ∀ f3 m3 (b3 : Int32), JI f3 m3 x o b3 cap J → (∃ g : Nat → Int64, f3 out = some (750, .inl (1, 1, .inr (.inl g)))) → zVl G yL_law cL_law 9 (some .boolean) 12 1705 [(0, .ref (zSc G).1), (1, .ref x), (2, .ref o), (3, .ref out), (4, .int i)] [] (f3, m3) Q) : zVl G yL_law cL_law 9 (some .boolean) 12 368 [(0, .ref (zSc G).1), (1, .ref x), (2, .ref o), (3, .ref out), (4, .int i)] [] (f, m) Q := by
  obtain ⟨b, v, P1, hw, h2⟩ := hs
  refine zl_aload_n dL_law_368 rfl rfl ?_
  refine zl_aload_n dL_law_369 rfl rfl ?_
  refine zl_iload dL_law_370 rfl ?_
  refine zl_iconst (1) dL_law_372 (by decide) ?_
  refine zl_iadd dL_law_373 ?_
  refine zl_sload dL_law_374 hi1 ?_
  refine zl_aload_n dL_law_375 rfl rfl ?_
  refine zl_iload dL_law_376 rfl ?_
  refine zl_iconst (2) dL_law_378 (by decide) ?_
  refine zl_iadd dL_law_379 ?_
  refine zl_sload dL_law_380 hi2 ?_
  refine zl_aload_n dL_law_381 rfl rfl ?_
  refine zl_callSH (rest := []) kw_set gs_L_set dL_law_382 hw rfl rfl (by decide) (Nat.le_of_ble_eq_true rfl) (fun v9 h9 hq => ?_) (fun E h9 hq => nomatch hq.1)
  obtain ⟨f2, m2⟩ := h9
  obtain ⟨e9, hP⟩ := hq
  obtain rfl := Sum.inl.inj e9
  obtain ⟨⟨vs, ho⟩, hr⟩ := h2 f2 m2 hP
  show zVl G yL_law cL_law 9 (some .boolean) 12 385 [(0, .ref (zSc G).1), (1, .ref x), (2, .ref o), (3, .ref out), (4, .int i)] [.int b] (f2, m2) Q
  refine zl_istore dL_law_385 (by decide) ?_
  refine zl_aload_n dL_law_387 rfl rfl ?_
  refine zl_aload_n dL_law_388 rfl rfl ?_
  refine zl_iload dL_law_389 rfl ?_
  refine zl_iconst (1) dL_law_391 (by decide) ?_
  refine zl_iadd dL_law_392 ?_
  refine zl_sload dL_law_393 hi1 ?_
  refine zl_aload_n dL_law_394 rfl rfl ?_
  refine zl_iload dL_law_395 rfl ?_
  refine zl_iconst (2) dL_law_397 (by decide) ?_
  refine zl_iadd dL_law_398 ?_
  refine zl_sload dL_law_399 hi2 ?_
  refine zl_callV (rest := []) (vs := vs) kL_111 gi_X4_set ge_X4_set rfl dL_law_400 ho hr rfl rfl (by decide) (Nat.le_of_ble_eq_true rfl) (fun v9 h9 hq => ?_) (fun E h9 hq => nomatch hq.1)
  obtain ⟨f3, m3⟩ := h9
  obtain ⟨e9, hJ, g, hg, hg0⟩ := hq
  obtain rfl := Sum.inl.inj e9
  obtain ⟨vs3, ho3⟩ := hJ.o
  show zVl G yL_law cL_law 9 (some .boolean) 12 403 (zst1 [(0, .ref (zSc G).1), (1, .ref x), (2, .ref o), (3, .ref out), (4, .int i)] 5 (.int b)) [.int v] (f3, m3) Q
  refine zl_istore dL_law_403 (by decide) ?_
  refine zl_aload_n dL_law_405 rfl rfl ?_
  refine zl_callV (rest := []) (as := []) (vs := vs3) kL_98 gi_X4_thrown ge_X4_thrown rfl dL_law_406 ho3 hJ.th rfl rfl (by decide) (Nat.le_of_ble_eq_true rfl) (fun v9 h9 hq => ?_) (fun E h9 hq => nomatch hq.1)
  obtain ⟨f4, m4⟩ := h9
  obtain ⟨e9, e4, e5⟩ := hq
  obtain rfl := Sum.inl.inj e9
  have e4 : f4 = f3 := e4
  have e5 : m4 = m3 := e5
  subst f4
  subst m4
  have fin : zVl G yL_law cL_law 9 (some .boolean) 12 433 (zst1 (zst1 [(0, .ref (zSc G).1), (1, .ref x), (2, .ref o), (3, .ref out), (4, .int i)] 5 (.int b)) 6 (.int v)) [] (f3, m3) Q := by
    refine zl_goto 1705 dL_law_433 (by decide) ?_
    exact zl_loc (lv' := [(0, .ref (zSc G).1), (1, .ref x), (2, .ref o), (3, .ref out), (4, .int i)]) ⟨rfl, rfl, rfl, rfl, rfl, trivial⟩ (kk f3 m3 b hJ ⟨g, hg⟩)
  show zVl G yL_law cL_law 9 (some .boolean) 12 409 (zst1 (zst1 [(0, .ref (zSc G).1), (1, .ref x), (2, .ref o), (3, .ref out), (4, .int i)] 5 (.int b)) 6 (.int v)) [.int b] (f3, m3) Q
  refine zl_iload dL_law_409 rfl ?_
  refine zl_icmp_eq 416 dL_law_411 (by decide) (fun _ => ?_) (fun z => absurd rfl z)
  refine zl_iload dL_law_416 rfl ?_
  refine zl_if_ne 433 dL_law_418 (by decide) (fun _ => fin) (fun z => ?_)
  have hgv : g (0 : Int32).toNatClampNeg = v.toInt64 := hg0 z
  refine zl_aload_n dL_law_421 rfl rfl ?_
  refine zl_iconst (0) dL_law_422 (by decide) ?_
  refine zl_laload (h := (f3, m3)) dL_law_423 hg z01 ?_
  rw [hgv]
  refine zl_iload dL_law_424 rfl ?_
  refine zl_i2l dL_law_426 ?_
  refine zl_lcmpE dL_law_427 ?_
  exact zl_if_eq 433 dL_law_428 (by decide) (fun _ => fin) (fun z => absurd rfl z)
set_option maxRecDepth 10000 in
set_option maxHeartbeats 1000000 in
theorem l_wind {G : zW} {f : zHM} {m : Nat × Nat} {x o out cap : Nat} {J : Nat × Nat} {Q : zOut → zH → Prop} {i : Int32} (hi1 : vp_in (i + 1) (zSc G).2.1) (hs : zSp G x o out cap J f m yL_wind cL_wind 4 [(0, 9, 12, 19), (0, 9, 15, 21)] yX4_wind cX4_wind 3 [.int ((zSc G).2.2 (i + 1).toNatClampNeg)]) (kk : ∀ f3 m3 (b3 : Int32), JI f3 m3 x o b3 cap J → (∃ g : Nat → Int64, f3 out = some (750, .inl (1, 1, .inr (.inl g)))) → zVl G yL_law cL_law 9 (some .boolean) 12 1705 [(0, .ref (zSc G).1), (1, .ref x), (2, .ref o), (3, .ref out), (4, .int i)] [] (f3, m3) Q) : zVl G yL_law cL_law 9 (some .boolean) 12 436 [(0, .ref (zSc G).1), (1, .ref x), (2, .ref o), (3, .ref out), (4, .int i)] [] (f, m) Q := by
  obtain ⟨b, v, P1, hw, h2⟩ := hs
  refine zl_aload_n dL_law_436 rfl rfl ?_
  refine zl_aload_n dL_law_437 rfl rfl ?_
  refine zl_iload dL_law_438 rfl ?_
  refine zl_iconst (1) dL_law_440 (by decide) ?_
  refine zl_iadd dL_law_441 ?_
  refine zl_sload dL_law_442 hi1 ?_
  refine zl_aload_n dL_law_443 rfl rfl ?_
  refine zl_callSH (rest := []) kw_wind gs_L_wind dL_law_444 hw rfl rfl (by decide) (Nat.le_of_ble_eq_true rfl) (fun v9 h9 hq => ?_) (fun E h9 hq => nomatch hq.1)
  obtain ⟨f2, m2⟩ := h9
  obtain ⟨e9, hP⟩ := hq
  obtain rfl := Sum.inl.inj e9
  obtain ⟨⟨vs, ho⟩, hr⟩ := h2 f2 m2 hP
  show zVl G yL_law cL_law 9 (some .boolean) 12 447 [(0, .ref (zSc G).1), (1, .ref x), (2, .ref o), (3, .ref out), (4, .int i)] [.int b] (f2, m2) Q
  refine zl_istore dL_law_447 (by decide) ?_
  refine zl_aload_n dL_law_449 rfl rfl ?_
  refine zl_aload_n dL_law_450 rfl rfl ?_
  refine zl_iload dL_law_451 rfl ?_
  refine zl_iconst (1) dL_law_453 (by decide) ?_
  refine zl_iadd dL_law_454 ?_
  refine zl_sload dL_law_455 hi1 ?_
  refine zl_callV (rest := []) (vs := vs) kL_114 gi_X4_wind ge_X4_wind rfl dL_law_456 ho hr rfl rfl (by decide) (Nat.le_of_ble_eq_true rfl) (fun v9 h9 hq => ?_) (fun E h9 hq => nomatch hq.1)
  obtain ⟨f3, m3⟩ := h9
  obtain ⟨e9, hJ, g, hg, hg0⟩ := hq
  obtain rfl := Sum.inl.inj e9
  obtain ⟨vs3, ho3⟩ := hJ.o
  show zVl G yL_law cL_law 9 (some .boolean) 12 459 (zst1 [(0, .ref (zSc G).1), (1, .ref x), (2, .ref o), (3, .ref out), (4, .int i)] 5 (.int b)) [.int v] (f3, m3) Q
  refine zl_istore dL_law_459 (by decide) ?_
  refine zl_aload_n dL_law_461 rfl rfl ?_
  refine zl_callV (rest := []) (as := []) (vs := vs3) kL_98 gi_X4_thrown ge_X4_thrown rfl dL_law_462 ho3 hJ.th rfl rfl (by decide) (Nat.le_of_ble_eq_true rfl) (fun v9 h9 hq => ?_) (fun E h9 hq => nomatch hq.1)
  obtain ⟨f4, m4⟩ := h9
  obtain ⟨e9, e4, e5⟩ := hq
  obtain rfl := Sum.inl.inj e9
  have e4 : f4 = f3 := e4
  have e5 : m4 = m3 := e5
  subst f4
  subst m4
  have fin : zVl G yL_law cL_law 9 (some .boolean) 12 489 (zst1 (zst1 [(0, .ref (zSc G).1), (1, .ref x), (2, .ref o), (3, .ref out), (4, .int i)] 5 (.int b)) 6 (.int v)) [] (f3, m3) Q := by
    refine zl_goto 1705 dL_law_489 (by decide) ?_
    exact zl_loc (lv' := [(0, .ref (zSc G).1), (1, .ref x), (2, .ref o), (3, .ref out), (4, .int i)]) ⟨rfl, rfl, rfl, rfl, rfl, trivial⟩ (kk f3 m3 b hJ ⟨g, hg⟩)
  show zVl G yL_law cL_law 9 (some .boolean) 12 465 (zst1 (zst1 [(0, .ref (zSc G).1), (1, .ref x), (2, .ref o), (3, .ref out), (4, .int i)] 5 (.int b)) 6 (.int v)) [.int b] (f3, m3) Q
  refine zl_iload dL_law_465 rfl ?_
  refine zl_icmp_eq 472 dL_law_467 (by decide) (fun _ => ?_) (fun z => absurd rfl z)
  refine zl_iload dL_law_472 rfl ?_
  refine zl_if_ne 489 dL_law_474 (by decide) (fun _ => fin) (fun z => ?_)
  have hgv : g (0 : Int32).toNatClampNeg = v.toInt64 := hg0 z
  refine zl_aload_n dL_law_477 rfl rfl ?_
  refine zl_iconst (0) dL_law_478 (by decide) ?_
  refine zl_laload (h := (f3, m3)) dL_law_479 hg z01 ?_
  rw [hgv]
  refine zl_iload dL_law_480 rfl ?_
  refine zl_i2l dL_law_482 ?_
  refine zl_lcmpE dL_law_483 ?_
  exact zl_if_eq 489 dL_law_484 (by decide) (fun _ => fin) (fun z => absurd rfl z)
set_option maxRecDepth 10000 in
set_option maxHeartbeats 1000000 in
theorem l_unwind {G : zW} {f : zHM} {m : Nat × Nat} {x o out cap : Nat} {J : Nat × Nat} {Q : zOut → zH → Prop} {i : Int32} (hs : zSp G x o out cap J f m yL_unwind cL_unwind 3 [(0, 8, 11, 21)] yX4_unwind cX4_unwind 1 []) (kk : ∀ f3 m3 (b3 : Int32), JI f3 m3 x o b3 cap J → (∃ g : Nat → Int64, f3 out = some (750, .inl (1, 1, .inr (.inl g)))) → zVl G yL_law cL_law 9 (some .boolean) 12 1705 [(0, .ref (zSc G).1), (1, .ref x), (2, .ref o), (3, .ref out), (4, .int i)] [] (f3, m3) Q) : zVl G yL_law cL_law 9 (some .boolean) 12 492 [(0, .ref (zSc G).1), (1, .ref x), (2, .ref o), (3, .ref out), (4, .int i)] [] (f, m) Q := by
  obtain ⟨b, v, P1, hw, h2⟩ := hs
  refine zl_aload_n dL_law_492 rfl rfl ?_
  refine zl_aload_n dL_law_493 rfl rfl ?_
  refine zl_callSH (rest := []) kw_unwind gs_L_unwind dL_law_494 hw rfl rfl (by decide) (Nat.le_of_ble_eq_true rfl) (fun v9 h9 hq => ?_) (fun E h9 hq => nomatch hq.1)
  obtain ⟨f2, m2⟩ := h9
  obtain ⟨e9, hP⟩ := hq
  obtain rfl := Sum.inl.inj e9
  obtain ⟨⟨vs, ho⟩, hr⟩ := h2 f2 m2 hP
  show zVl G yL_law cL_law 9 (some .boolean) 12 497 [(0, .ref (zSc G).1), (1, .ref x), (2, .ref o), (3, .ref out), (4, .int i)] [.int b] (f2, m2) Q
  refine zl_istore dL_law_497 (by decide) ?_
  refine zl_aload_n dL_law_499 rfl rfl ?_
  refine zl_callV (rest := []) (vs := vs) kL_118 gi_X4_unwind ge_X4_unwind rfl dL_law_500 ho hr rfl rfl (by decide) (Nat.le_of_ble_eq_true rfl) (fun v9 h9 hq => ?_) (fun E h9 hq => nomatch hq.1)
  obtain ⟨f3, m3⟩ := h9
  obtain ⟨e9, hJ, g, hg, hg0⟩ := hq
  obtain rfl := Sum.inl.inj e9
  obtain ⟨vs3, ho3⟩ := hJ.o
  show zVl G yL_law cL_law 9 (some .boolean) 12 503 (zst1 [(0, .ref (zSc G).1), (1, .ref x), (2, .ref o), (3, .ref out), (4, .int i)] 5 (.int b)) [.int v] (f3, m3) Q
  refine zl_istore dL_law_503 (by decide) ?_
  refine zl_aload_n dL_law_505 rfl rfl ?_
  refine zl_callV (rest := []) (as := []) (vs := vs3) kL_98 gi_X4_thrown ge_X4_thrown rfl dL_law_506 ho3 hJ.th rfl rfl (by decide) (Nat.le_of_ble_eq_true rfl) (fun v9 h9 hq => ?_) (fun E h9 hq => nomatch hq.1)
  obtain ⟨f4, m4⟩ := h9
  obtain ⟨e9, e4, e5⟩ := hq
  obtain rfl := Sum.inl.inj e9
  have e4 : f4 = f3 := e4
  have e5 : m4 = m3 := e5
  subst f4
  subst m4
  have fin : zVl G yL_law cL_law 9 (some .boolean) 12 533 (zst1 (zst1 [(0, .ref (zSc G).1), (1, .ref x), (2, .ref o), (3, .ref out), (4, .int i)] 5 (.int b)) 6 (.int v)) [] (f3, m3) Q := by
    refine zl_goto 1705 dL_law_533 (by decide) ?_
    exact zl_loc (lv' := [(0, .ref (zSc G).1), (1, .ref x), (2, .ref o), (3, .ref out), (4, .int i)]) ⟨rfl, rfl, rfl, rfl, rfl, trivial⟩ (kk f3 m3 b hJ ⟨g, hg⟩)
  show zVl G yL_law cL_law 9 (some .boolean) 12 509 (zst1 (zst1 [(0, .ref (zSc G).1), (1, .ref x), (2, .ref o), (3, .ref out), (4, .int i)] 5 (.int b)) 6 (.int v)) [.int b] (f3, m3) Q
  refine zl_iload dL_law_509 rfl ?_
  refine zl_icmp_eq 516 dL_law_511 (by decide) (fun _ => ?_) (fun z => absurd rfl z)
  refine zl_iload dL_law_516 rfl ?_
  refine zl_if_ne 533 dL_law_518 (by decide) (fun _ => fin) (fun z => ?_)
  have hgv : g (0 : Int32).toNatClampNeg = v.toInt64 := hg0 z
  refine zl_aload_n dL_law_521 rfl rfl ?_
  refine zl_iconst (0) dL_law_522 (by decide) ?_
  refine zl_laload (h := (f3, m3)) dL_law_523 hg z01 ?_
  rw [hgv]
  refine zl_iload dL_law_524 rfl ?_
  refine zl_i2l dL_law_526 ?_
  refine zl_lcmpE dL_law_527 ?_
  exact zl_if_eq 533 dL_law_528 (by decide) (fun _ => fin) (fun z => absurd rfl z)
set_option maxRecDepth 10000 in
set_option maxHeartbeats 1000000 in
theorem l_windBest {G : zW} {f : zHM} {m : Nat × Nat} {x o out cap : Nat} {J : Nat × Nat} {Q : zOut → zH → Prop} {i : Int32} (hi1 : vp_in (i + 1) (zSc G).2.1) (hs : zSp G x o out cap J f m yL_windBest cL_windBest 4 [(0, 9, 12, 13)] yX4_windBest cX4_windBest 4 [.int ((zSc G).2.2 (i + 1).toNatClampNeg)]) (kk : ∀ f3 m3 (b3 : Int32), JI f3 m3 x o b3 cap J → (∃ g : Nat → Int64, f3 out = some (750, .inl (1, 1, .inr (.inl g)))) → zVl G yL_law cL_law 9 (some .boolean) 12 1705 [(0, .ref (zSc G).1), (1, .ref x), (2, .ref o), (3, .ref out), (4, .int i)] [] (f3, m3) Q) : zVl G yL_law cL_law 9 (some .boolean) 12 536 [(0, .ref (zSc G).1), (1, .ref x), (2, .ref o), (3, .ref out), (4, .int i)] [] (f, m) Q := by
  obtain ⟨b, v, P1, hw, h2⟩ := hs
  refine zl_aload_n dL_law_536 rfl rfl ?_
  refine zl_aload_n dL_law_537 rfl rfl ?_
  refine zl_iload dL_law_538 rfl ?_
  refine zl_iconst (1) dL_law_540 (by decide) ?_
  refine zl_iadd dL_law_541 ?_
  refine zl_sload dL_law_542 hi1 ?_
  refine zl_aload_n dL_law_543 rfl rfl ?_
  refine zl_callSH (rest := []) kw_windBest gs_L_windBest dL_law_544 hw rfl rfl (by decide) (Nat.le_of_ble_eq_true rfl) (fun v9 h9 hq => ?_) (fun E h9 hq => nomatch hq.1)
  obtain ⟨f2, m2⟩ := h9
  obtain ⟨e9, hP⟩ := hq
  obtain rfl := Sum.inl.inj e9
  obtain ⟨⟨vs, ho⟩, hr⟩ := h2 f2 m2 hP
  show zVl G yL_law cL_law 9 (some .boolean) 12 547 [(0, .ref (zSc G).1), (1, .ref x), (2, .ref o), (3, .ref out), (4, .int i)] [.int b] (f2, m2) Q
  refine zl_istore dL_law_547 (by decide) ?_
  refine zl_aload_n dL_law_549 rfl rfl ?_
  refine zl_aload_n dL_law_550 rfl rfl ?_
  refine zl_iload dL_law_551 rfl ?_
  refine zl_iconst (1) dL_law_553 (by decide) ?_
  refine zl_iadd dL_law_554 ?_
  refine zl_sload dL_law_555 hi1 ?_
  refine zl_callV (rest := []) (vs := vs) kL_121 gi_X4_windBest ge_X4_windBest rfl dL_law_556 ho hr rfl rfl (by decide) (Nat.le_of_ble_eq_true rfl) (fun v9 h9 hq => ?_) (fun E h9 hq => nomatch hq.1)
  obtain ⟨f3, m3⟩ := h9
  obtain ⟨e9, hJ, g, hg, hg0⟩ := hq
  obtain rfl := Sum.inl.inj e9
  obtain ⟨vs3, ho3⟩ := hJ.o
  show zVl G yL_law cL_law 9 (some .boolean) 12 559 (zst1 [(0, .ref (zSc G).1), (1, .ref x), (2, .ref o), (3, .ref out), (4, .int i)] 5 (.int b)) [.int v] (f3, m3) Q
  refine zl_istore dL_law_559 (by decide) ?_
  refine zl_aload_n dL_law_561 rfl rfl ?_
  refine zl_callV (rest := []) (as := []) (vs := vs3) kL_98 gi_X4_thrown ge_X4_thrown rfl dL_law_562 ho3 hJ.th rfl rfl (by decide) (Nat.le_of_ble_eq_true rfl) (fun v9 h9 hq => ?_) (fun E h9 hq => nomatch hq.1)
  obtain ⟨f4, m4⟩ := h9
  obtain ⟨e9, e4, e5⟩ := hq
  obtain rfl := Sum.inl.inj e9
  have e4 : f4 = f3 := e4
  have e5 : m4 = m3 := e5
  subst f4
  subst m4
  have fin : zVl G yL_law cL_law 9 (some .boolean) 12 589 (zst1 (zst1 [(0, .ref (zSc G).1), (1, .ref x), (2, .ref o), (3, .ref out), (4, .int i)] 5 (.int b)) 6 (.int v)) [] (f3, m3) Q := by
    refine zl_goto 1705 dL_law_589 (by decide) ?_
    exact zl_loc (lv' := [(0, .ref (zSc G).1), (1, .ref x), (2, .ref o), (3, .ref out), (4, .int i)]) ⟨rfl, rfl, rfl, rfl, rfl, trivial⟩ (kk f3 m3 b hJ ⟨g, hg⟩)
  show zVl G yL_law cL_law 9 (some .boolean) 12 565 (zst1 (zst1 [(0, .ref (zSc G).1), (1, .ref x), (2, .ref o), (3, .ref out), (4, .int i)] 5 (.int b)) 6 (.int v)) [.int b] (f3, m3) Q
  refine zl_iload dL_law_565 rfl ?_
  refine zl_icmp_eq 572 dL_law_567 (by decide) (fun _ => ?_) (fun z => absurd rfl z)
  refine zl_iload dL_law_572 rfl ?_
  refine zl_if_ne 589 dL_law_574 (by decide) (fun _ => fin) (fun z => ?_)
  have hgv : g (0 : Int32).toNatClampNeg = v.toInt64 := hg0 z
  refine zl_aload_n dL_law_577 rfl rfl ?_
  refine zl_iconst (0) dL_law_578 (by decide) ?_
  refine zl_laload (h := (f3, m3)) dL_law_579 hg z01 ?_
  rw [hgv]
  refine zl_iload dL_law_580 rfl ?_
  refine zl_i2l dL_law_582 ?_
  refine zl_lcmpE dL_law_583 ?_
  exact zl_if_eq 589 dL_law_584 (by decide) (fun _ => fin) (fun z => absurd rfl z)
set_option maxRecDepth 10000 in
set_option maxHeartbeats 1000000 in
theorem l_want {G : zW} {f : zHM} {m : Nat × Nat} {x o out cap : Nat} {J : Nat × Nat} {Q : zOut → zH → Prop} {i : Int32} (hi1 : vp_in (i + 1) (zSc G).2.1) (hi2 : vp_in (i + 2) (zSc G).2.1) (hi3 : vp_in (i + 3) (zSc G).2.1) (hs : zSp G x o out cap J f m yL_want cL_want 6 [(0, 12, 15, 19), (0, 12, 19, 13)] yX4_want cX4_want 5 [.int ((zSc G).2.2 (i + 1).toNatClampNeg), .int ((zSc G).2.2 (i + 2).toNatClampNeg), .int ((zSc G).2.2 (i + 3).toNatClampNeg)]) (kk : ∀ f3 m3 (b3 : Int32), JI f3 m3 x o b3 cap J → (∃ g : Nat → Int64, f3 out = some (750, .inl (1, 1, .inr (.inl g)))) → zVl G yL_law cL_law 9 (some .boolean) 12 1705 [(0, .ref (zSc G).1), (1, .ref x), (2, .ref o), (3, .ref out), (4, .int i)] [] (f3, m3) Q) : zVl G yL_law cL_law 9 (some .boolean) 12 592 [(0, .ref (zSc G).1), (1, .ref x), (2, .ref o), (3, .ref out), (4, .int i)] [] (f, m) Q := by
  obtain ⟨b, v, P1, hw, h2⟩ := hs
  refine zl_aload_n dL_law_592 rfl rfl ?_
  refine zl_aload_n dL_law_593 rfl rfl ?_
  refine zl_iload dL_law_594 rfl ?_
  refine zl_iconst (1) dL_law_596 (by decide) ?_
  refine zl_iadd dL_law_597 ?_
  refine zl_sload dL_law_598 hi1 ?_
  refine zl_aload_n dL_law_599 rfl rfl ?_
  refine zl_iload dL_law_600 rfl ?_
  refine zl_iconst (2) dL_law_602 (by decide) ?_
  refine zl_iadd dL_law_603 ?_
  refine zl_sload dL_law_604 hi2 ?_
  refine zl_aload_n dL_law_605 rfl rfl ?_
  refine zl_iload dL_law_606 rfl ?_
  refine zl_iconst (3) dL_law_608 (by decide) ?_
  refine zl_iadd dL_law_609 ?_
  refine zl_sload dL_law_610 hi3 ?_
  refine zl_aload_n dL_law_611 rfl rfl ?_
  refine zl_callSH (rest := []) kw_want gs_L_want dL_law_612 hw rfl rfl (by decide) (Nat.le_of_ble_eq_true rfl) (fun v9 h9 hq => ?_) (fun E h9 hq => nomatch hq.1)
  obtain ⟨f2, m2⟩ := h9
  obtain ⟨e9, hP⟩ := hq
  obtain rfl := Sum.inl.inj e9
  obtain ⟨⟨vs, ho⟩, hr⟩ := h2 f2 m2 hP
  show zVl G yL_law cL_law 9 (some .boolean) 12 615 [(0, .ref (zSc G).1), (1, .ref x), (2, .ref o), (3, .ref out), (4, .int i)] [.int b] (f2, m2) Q
  refine zl_istore dL_law_615 (by decide) ?_
  refine zl_aload_n dL_law_617 rfl rfl ?_
  refine zl_aload_n dL_law_618 rfl rfl ?_
  refine zl_iload dL_law_619 rfl ?_
  refine zl_iconst (1) dL_law_621 (by decide) ?_
  refine zl_iadd dL_law_622 ?_
  refine zl_sload dL_law_623 hi1 ?_
  refine zl_aload_n dL_law_624 rfl rfl ?_
  refine zl_iload dL_law_625 rfl ?_
  refine zl_iconst (2) dL_law_627 (by decide) ?_
  refine zl_iadd dL_law_628 ?_
  refine zl_sload dL_law_629 hi2 ?_
  refine zl_aload_n dL_law_630 rfl rfl ?_
  refine zl_iload dL_law_631 rfl ?_
  refine zl_iconst (3) dL_law_633 (by decide) ?_
  refine zl_iadd dL_law_634 ?_
  refine zl_sload dL_law_635 hi3 ?_
  refine zl_callV (rest := []) (vs := vs) kL_124 gi_X4_want ge_X4_want rfl dL_law_636 ho hr rfl rfl (by decide) (Nat.le_of_ble_eq_true rfl) (fun v9 h9 hq => ?_) (fun E h9 hq => nomatch hq.1)
  obtain ⟨f3, m3⟩ := h9
  obtain ⟨e9, hJ, g, hg, hg0⟩ := hq
  obtain rfl := Sum.inl.inj e9
  obtain ⟨vs3, ho3⟩ := hJ.o
  show zVl G yL_law cL_law 9 (some .boolean) 12 639 (zst1 [(0, .ref (zSc G).1), (1, .ref x), (2, .ref o), (3, .ref out), (4, .int i)] 5 (.int b)) [.int v] (f3, m3) Q
  refine zl_istore dL_law_639 (by decide) ?_
  refine zl_aload_n dL_law_641 rfl rfl ?_
  refine zl_callV (rest := []) (as := []) (vs := vs3) kL_98 gi_X4_thrown ge_X4_thrown rfl dL_law_642 ho3 hJ.th rfl rfl (by decide) (Nat.le_of_ble_eq_true rfl) (fun v9 h9 hq => ?_) (fun E h9 hq => nomatch hq.1)
  obtain ⟨f4, m4⟩ := h9
  obtain ⟨e9, e4, e5⟩ := hq
  obtain rfl := Sum.inl.inj e9
  have e4 : f4 = f3 := e4
  have e5 : m4 = m3 := e5
  subst f4
  subst m4
  have fin : zVl G yL_law cL_law 9 (some .boolean) 12 669 (zst1 (zst1 [(0, .ref (zSc G).1), (1, .ref x), (2, .ref o), (3, .ref out), (4, .int i)] 5 (.int b)) 6 (.int v)) [] (f3, m3) Q := by
    refine zl_goto 1705 dL_law_669 (by decide) ?_
    exact zl_loc (lv' := [(0, .ref (zSc G).1), (1, .ref x), (2, .ref o), (3, .ref out), (4, .int i)]) ⟨rfl, rfl, rfl, rfl, rfl, trivial⟩ (kk f3 m3 b hJ ⟨g, hg⟩)
  show zVl G yL_law cL_law 9 (some .boolean) 12 645 (zst1 (zst1 [(0, .ref (zSc G).1), (1, .ref x), (2, .ref o), (3, .ref out), (4, .int i)] 5 (.int b)) 6 (.int v)) [.int b] (f3, m3) Q
  refine zl_iload dL_law_645 rfl ?_
  refine zl_icmp_eq 652 dL_law_647 (by decide) (fun _ => ?_) (fun z => absurd rfl z)
  refine zl_iload dL_law_652 rfl ?_
  refine zl_if_ne 669 dL_law_654 (by decide) (fun _ => fin) (fun z => ?_)
  have hgv : g (0 : Int32).toNatClampNeg = v.toInt64 := hg0 z
  refine zl_aload_n dL_law_657 rfl rfl ?_
  refine zl_iconst (0) dL_law_658 (by decide) ?_
  refine zl_laload (h := (f3, m3)) dL_law_659 hg z01 ?_
  rw [hgv]
  refine zl_iload dL_law_660 rfl ?_
  refine zl_i2l dL_law_662 ?_
  refine zl_lcmpE dL_law_663 ?_
  exact zl_if_eq 669 dL_law_664 (by decide) (fun _ => fin) (fun z => absurd rfl z)
set_option maxRecDepth 10000 in
set_option maxHeartbeats 1000000 in
theorem l_turnFace {G : zW} {f : zHM} {m : Nat × Nat} {x o out cap : Nat} {J : Nat × Nat} {Q : zOut → zH → Prop} {i : Int32} (hi1 : vp_in (i + 1) (zSc G).2.1) (hs : zSp G x o out cap J f m yL_turnFace cL_turnFace 4 [(0, 9, 12, 13)] yX4_turnFace cX4_turnFace 3 [.int ((zSc G).2.2 (i + 1).toNatClampNeg)]) (kk : ∀ f3 m3 (b3 : Int32), JI f3 m3 x o b3 cap J → (∃ g : Nat → Int64, f3 out = some (750, .inl (1, 1, .inr (.inl g)))) → zVl G yL_law cL_law 9 (some .boolean) 12 1705 [(0, .ref (zSc G).1), (1, .ref x), (2, .ref o), (3, .ref out), (4, .int i)] [] (f3, m3) Q) : zVl G yL_law cL_law 9 (some .boolean) 12 672 [(0, .ref (zSc G).1), (1, .ref x), (2, .ref o), (3, .ref out), (4, .int i)] [] (f, m) Q := by
  obtain ⟨b, v, P1, hw, h2⟩ := hs
  refine zl_aload_n dL_law_672 rfl rfl ?_
  refine zl_aload_n dL_law_673 rfl rfl ?_
  refine zl_iload dL_law_674 rfl ?_
  refine zl_iconst (1) dL_law_676 (by decide) ?_
  refine zl_iadd dL_law_677 ?_
  refine zl_sload dL_law_678 hi1 ?_
  refine zl_aload_n dL_law_679 rfl rfl ?_
  refine zl_callSH (rest := []) kw_turnFace gs_L_turnFace dL_law_680 hw rfl rfl (by decide) (Nat.le_of_ble_eq_true rfl) (fun v9 h9 hq => ?_) (fun E h9 hq => nomatch hq.1)
  obtain ⟨f2, m2⟩ := h9
  obtain ⟨e9, hP⟩ := hq
  obtain rfl := Sum.inl.inj e9
  obtain ⟨⟨vs, ho⟩, hr⟩ := h2 f2 m2 hP
  show zVl G yL_law cL_law 9 (some .boolean) 12 683 [(0, .ref (zSc G).1), (1, .ref x), (2, .ref o), (3, .ref out), (4, .int i)] [.int b] (f2, m2) Q
  refine zl_istore dL_law_683 (by decide) ?_
  refine zl_aload_n dL_law_685 rfl rfl ?_
  refine zl_aload_n dL_law_686 rfl rfl ?_
  refine zl_iload dL_law_687 rfl ?_
  refine zl_iconst (1) dL_law_689 (by decide) ?_
  refine zl_iadd dL_law_690 ?_
  refine zl_sload dL_law_691 hi1 ?_
  refine zl_callV (rest := []) (vs := vs) kL_127 gi_X4_turnFace ge_X4_turnFace rfl dL_law_692 ho hr rfl rfl (by decide) (Nat.le_of_ble_eq_true rfl) (fun v9 h9 hq => ?_) (fun E h9 hq => nomatch hq.1)
  obtain ⟨f3, m3⟩ := h9
  obtain ⟨e9, hJ, g, hg, hg0⟩ := hq
  obtain rfl := Sum.inl.inj e9
  obtain ⟨vs3, ho3⟩ := hJ.o
  show zVl G yL_law cL_law 9 (some .boolean) 12 695 (zst1 [(0, .ref (zSc G).1), (1, .ref x), (2, .ref o), (3, .ref out), (4, .int i)] 5 (.int b)) [.int v] (f3, m3) Q
  refine zl_istore dL_law_695 (by decide) ?_
  refine zl_aload_n dL_law_697 rfl rfl ?_
  refine zl_callV (rest := []) (as := []) (vs := vs3) kL_98 gi_X4_thrown ge_X4_thrown rfl dL_law_698 ho3 hJ.th rfl rfl (by decide) (Nat.le_of_ble_eq_true rfl) (fun v9 h9 hq => ?_) (fun E h9 hq => nomatch hq.1)
  obtain ⟨f4, m4⟩ := h9
  obtain ⟨e9, e4, e5⟩ := hq
  obtain rfl := Sum.inl.inj e9
  have e4 : f4 = f3 := e4
  have e5 : m4 = m3 := e5
  subst f4
  subst m4
  have fin : zVl G yL_law cL_law 9 (some .boolean) 12 725 (zst1 (zst1 [(0, .ref (zSc G).1), (1, .ref x), (2, .ref o), (3, .ref out), (4, .int i)] 5 (.int b)) 6 (.int v)) [] (f3, m3) Q := by
    refine zl_goto 1705 dL_law_725 (by decide) ?_
    exact zl_loc (lv' := [(0, .ref (zSc G).1), (1, .ref x), (2, .ref o), (3, .ref out), (4, .int i)]) ⟨rfl, rfl, rfl, rfl, rfl, trivial⟩ (kk f3 m3 b hJ ⟨g, hg⟩)
  show zVl G yL_law cL_law 9 (some .boolean) 12 701 (zst1 (zst1 [(0, .ref (zSc G).1), (1, .ref x), (2, .ref o), (3, .ref out), (4, .int i)] 5 (.int b)) 6 (.int v)) [.int b] (f3, m3) Q
  refine zl_iload dL_law_701 rfl ?_
  refine zl_icmp_eq 708 dL_law_703 (by decide) (fun _ => ?_) (fun z => absurd rfl z)
  refine zl_iload dL_law_708 rfl ?_
  refine zl_if_ne 725 dL_law_710 (by decide) (fun _ => fin) (fun z => ?_)
  have hgv : g (0 : Int32).toNatClampNeg = v.toInt64 := hg0 z
  refine zl_aload_n dL_law_713 rfl rfl ?_
  refine zl_iconst (0) dL_law_714 (by decide) ?_
  refine zl_laload (h := (f3, m3)) dL_law_715 hg z01 ?_
  rw [hgv]
  refine zl_iload dL_law_716 rfl ?_
  refine zl_i2l dL_law_718 ?_
  refine zl_lcmpE dL_law_719 ?_
  exact zl_if_eq 725 dL_law_720 (by decide) (fun _ => fin) (fun z => absurd rfl z)
set_option maxRecDepth 10000 in
set_option maxHeartbeats 1000000 in
theorem l_append {G : zW} {f : zHM} {m : Nat × Nat} {x o out cap : Nat} {J : Nat × Nat} {Q : zOut → zH → Prop} {i : Int32} (hi1 : vp_in (i + 1) (zSc G).2.1) (hs : zSp G x o out cap J f m yL_append cL_append 4 [(0, 9, 12, 13), (0, 9, 15, 21)] yX4_append cX4_append 2 [.int ((zSc G).2.2 (i + 1).toNatClampNeg)]) (kk : ∀ f3 m3 (b3 : Int32), JI f3 m3 x o b3 cap J → (∃ g : Nat → Int64, f3 out = some (750, .inl (1, 1, .inr (.inl g)))) → zVl G yL_law cL_law 9 (some .boolean) 12 1705 [(0, .ref (zSc G).1), (1, .ref x), (2, .ref o), (3, .ref out), (4, .int i)] [] (f3, m3) Q) : zVl G yL_law cL_law 9 (some .boolean) 12 728 [(0, .ref (zSc G).1), (1, .ref x), (2, .ref o), (3, .ref out), (4, .int i)] [] (f, m) Q := by
  obtain ⟨b, v, P1, hw, h2⟩ := hs
  refine zl_aload_n dL_law_728 rfl rfl ?_
  refine zl_aload_n dL_law_729 rfl rfl ?_
  refine zl_iload dL_law_730 rfl ?_
  refine zl_iconst (1) dL_law_732 (by decide) ?_
  refine zl_iadd dL_law_733 ?_
  refine zl_sload dL_law_734 hi1 ?_
  refine zl_aload_n dL_law_735 rfl rfl ?_
  refine zl_callSH (rest := []) kw_append gs_L_append dL_law_736 hw rfl rfl (by decide) (Nat.le_of_ble_eq_true rfl) (fun v9 h9 hq => ?_) (fun E h9 hq => nomatch hq.1)
  obtain ⟨f2, m2⟩ := h9
  obtain ⟨e9, hP⟩ := hq
  obtain rfl := Sum.inl.inj e9
  obtain ⟨⟨vs, ho⟩, hr⟩ := h2 f2 m2 hP
  show zVl G yL_law cL_law 9 (some .boolean) 12 739 [(0, .ref (zSc G).1), (1, .ref x), (2, .ref o), (3, .ref out), (4, .int i)] [.int b] (f2, m2) Q
  refine zl_istore dL_law_739 (by decide) ?_
  refine zl_aload_n dL_law_741 rfl rfl ?_
  refine zl_aload_n dL_law_742 rfl rfl ?_
  refine zl_iload dL_law_743 rfl ?_
  refine zl_iconst (1) dL_law_745 (by decide) ?_
  refine zl_iadd dL_law_746 ?_
  refine zl_sload dL_law_747 hi1 ?_
  refine zl_callV (rest := []) (vs := vs) kL_130 gi_X4_append ge_X4_append rfl dL_law_748 ho hr rfl rfl (by decide) (Nat.le_of_ble_eq_true rfl) (fun v9 h9 hq => ?_) (fun E h9 hq => nomatch hq.1)
  obtain ⟨f3, m3⟩ := h9
  obtain ⟨e9, hJ, g, hg, hg0⟩ := hq
  obtain rfl := Sum.inl.inj e9
  obtain ⟨vs3, ho3⟩ := hJ.o
  show zVl G yL_law cL_law 9 (some .boolean) 12 751 (zst1 [(0, .ref (zSc G).1), (1, .ref x), (2, .ref o), (3, .ref out), (4, .int i)] 5 (.int b)) [.int v] (f3, m3) Q
  refine zl_istore dL_law_751 (by decide) ?_
  refine zl_aload_n dL_law_753 rfl rfl ?_
  refine zl_callV (rest := []) (as := []) (vs := vs3) kL_98 gi_X4_thrown ge_X4_thrown rfl dL_law_754 ho3 hJ.th rfl rfl (by decide) (Nat.le_of_ble_eq_true rfl) (fun v9 h9 hq => ?_) (fun E h9 hq => nomatch hq.1)
  obtain ⟨f4, m4⟩ := h9
  obtain ⟨e9, e4, e5⟩ := hq
  obtain rfl := Sum.inl.inj e9
  have e4 : f4 = f3 := e4
  have e5 : m4 = m3 := e5
  subst f4
  subst m4
  have fin : zVl G yL_law cL_law 9 (some .boolean) 12 781 (zst1 (zst1 [(0, .ref (zSc G).1), (1, .ref x), (2, .ref o), (3, .ref out), (4, .int i)] 5 (.int b)) 6 (.int v)) [] (f3, m3) Q := by
    refine zl_goto 1705 dL_law_781 (by decide) ?_
    exact zl_loc (lv' := [(0, .ref (zSc G).1), (1, .ref x), (2, .ref o), (3, .ref out), (4, .int i)]) ⟨rfl, rfl, rfl, rfl, rfl, trivial⟩ (kk f3 m3 b hJ ⟨g, hg⟩)
  show zVl G yL_law cL_law 9 (some .boolean) 12 757 (zst1 (zst1 [(0, .ref (zSc G).1), (1, .ref x), (2, .ref o), (3, .ref out), (4, .int i)] 5 (.int b)) 6 (.int v)) [.int b] (f3, m3) Q
  refine zl_iload dL_law_757 rfl ?_
  refine zl_icmp_eq 764 dL_law_759 (by decide) (fun _ => ?_) (fun z => absurd rfl z)
  refine zl_iload dL_law_764 rfl ?_
  refine zl_if_ne 781 dL_law_766 (by decide) (fun _ => fin) (fun z => ?_)
  have hgv : g (0 : Int32).toNatClampNeg = v.toInt64 := hg0 z
  refine zl_aload_n dL_law_769 rfl rfl ?_
  refine zl_iconst (0) dL_law_770 (by decide) ?_
  refine zl_laload (h := (f3, m3)) dL_law_771 hg z01 ?_
  rw [hgv]
  refine zl_iload dL_law_772 rfl ?_
  refine zl_i2l dL_law_774 ?_
  refine zl_lcmpE dL_law_775 ?_
  exact zl_if_eq 781 dL_law_776 (by decide) (fun _ => fin) (fun z => absurd rfl z)
set_option maxRecDepth 10000 in
set_option maxHeartbeats 1000000 in
theorem l_clearBuffer {G : zW} {f : zHM} {m : Nat × Nat} {x o out cap : Nat} {J : Nat × Nat} {Q : zOut → zH → Prop} {i : Int32} {vx : List Value} (hx : f x = some (600, .inr (3, vx))) (hs : zSq Value.int .int G x o out cap J f m yX3_clearBuffer cX3_clearBuffer 2 7 yX4_clearBuffer cX4_clearBuffer 2) (kk : ∀ f3 m3 (b3 : Int32), JI f3 m3 x o b3 cap J → (∃ g : Nat → Int64, f3 out = some (750, .inl (1, 1, .inr (.inl g)))) → zVl G yL_law cL_law 9 (some .boolean) 12 1705 [(0, .ref (zSc G).1), (1, .ref x), (2, .ref o), (3, .ref out), (4, .int i)] [] (f3, m3) Q) : zVl G yL_law cL_law 9 (some .boolean) 12 784 [(0, .ref (zSc G).1), (1, .ref x), (2, .ref o), (3, .ref out), (4, .int i)] [] (f, m) Q := by
  obtain ⟨v, P1, hw, h2⟩ := hs
  refine zl_aload_n dL_law_784 rfl rfl ?_
  refine zl_callV (rest := []) (as := []) (vs := vx) kL_131 gi_X3_clearBuffer ge_X3_clearBuffer rfl dL_law_785 hx hw rfl rfl (by decide) (Nat.le_of_ble_eq_true rfl) (fun v9 h9 hq => ?_) (fun E h9 hq => nomatch hq.1)
  obtain ⟨f2, m2⟩ := h9
  obtain ⟨e9, hP⟩ := hq
  obtain rfl := Sum.inl.inj e9
  obtain ⟨⟨vs, ho⟩, hr⟩ := h2 f2 m2 hP
  show zVl G yL_law cL_law 9 (some .boolean) 12 788 [(0, .ref (zSc G).1), (1, .ref x), (2, .ref o), (3, .ref out), (4, .int i)] [Value.int v] (f2, m2) Q
  refine zl_aload_n dL_law_788 rfl rfl ?_
  refine zl_callV (rest := [Value.int v]) (as := []) (vs := vs) kL_134 gi_X4_clearBuffer ge_X4_clearBuffer rfl dL_law_789 ho hr rfl rfl (by decide) (Nat.le_of_ble_eq_true rfl) (fun v9 h9 hq => ?_) (fun E h9 hq => nomatch hq.1)
  obtain ⟨f3, m3⟩ := h9
  obtain ⟨e9, hJ, hg⟩ := hq
  obtain rfl := Sum.inl.inj e9
  show zVl G yL_law cL_law 9 (some .boolean) 12 792 [(0, .ref (zSc G).1), (1, .ref x), (2, .ref o), (3, .ref out), (4, .int i)] [Value.int v, Value.int v] (f3, m3) Q
  exact zl_icmp_eq 1705 dL_law_792 (by decide) (fun _ => kk f3 m3 0 hJ hg) (fun z => absurd rfl z)
set_option maxRecDepth 10000 in
set_option maxHeartbeats 1000000 in
theorem l_firstError {G : zW} {f : zHM} {m : Nat × Nat} {x o out cap : Nat} {J : Nat × Nat} {Q : zOut → zH → Prop} {i : Int32} {vx : List Value} (hx : f x = some (600, .inr (3, vx))) (hs : zSq Value.int .int G x o out cap J f m yX3_firstError cX3_firstError 1 4 yX4_firstError cX4_firstError 1) (kk : ∀ f3 m3 (b3 : Int32), JI f3 m3 x o b3 cap J → (∃ g : Nat → Int64, f3 out = some (750, .inl (1, 1, .inr (.inl g)))) → zVl G yL_law cL_law 9 (some .boolean) 12 1705 [(0, .ref (zSc G).1), (1, .ref x), (2, .ref o), (3, .ref out), (4, .int i)] [] (f3, m3) Q) : zVl G yL_law cL_law 9 (some .boolean) 12 797 [(0, .ref (zSc G).1), (1, .ref x), (2, .ref o), (3, .ref out), (4, .int i)] [] (f, m) Q := by
  obtain ⟨v, P1, hw, h2⟩ := hs
  refine zl_aload_n dL_law_797 rfl rfl ?_
  refine zl_callV (rest := []) (as := []) (vs := vx) kL_135 gi_X3_firstError ge_X3_firstError rfl dL_law_798 hx hw rfl rfl (by decide) (Nat.le_of_ble_eq_true rfl) (fun v9 h9 hq => ?_) (fun E h9 hq => nomatch hq.1)
  obtain ⟨f2, m2⟩ := h9
  obtain ⟨e9, hP⟩ := hq
  obtain rfl := Sum.inl.inj e9
  obtain ⟨⟨vs, ho⟩, hr⟩ := h2 f2 m2 hP
  show zVl G yL_law cL_law 9 (some .boolean) 12 801 [(0, .ref (zSc G).1), (1, .ref x), (2, .ref o), (3, .ref out), (4, .int i)] [Value.int v] (f2, m2) Q
  refine zl_aload_n dL_law_801 rfl rfl ?_
  refine zl_callV (rest := [Value.int v]) (as := []) (vs := vs) kL_138 gi_X4_firstError ge_X4_firstError rfl dL_law_802 ho hr rfl rfl (by decide) (Nat.le_of_ble_eq_true rfl) (fun v9 h9 hq => ?_) (fun E h9 hq => nomatch hq.1)
  obtain ⟨f3, m3⟩ := h9
  obtain ⟨e9, hJ, hg⟩ := hq
  obtain rfl := Sum.inl.inj e9
  show zVl G yL_law cL_law 9 (some .boolean) 12 805 [(0, .ref (zSc G).1), (1, .ref x), (2, .ref o), (3, .ref out), (4, .int i)] [Value.int v, Value.int v] (f3, m3) Q
  exact zl_icmp_eq 1705 dL_law_805 (by decide) (fun _ => kk f3 m3 0 hJ hg) (fun z => absurd rfl z)
set_option maxRecDepth 10000 in
set_option maxHeartbeats 1000000 in
theorem l_load {G : zW} {f : zHM} {m : Nat × Nat} {x o out cap : Nat} {J : Nat × Nat} {Q : zOut → zH → Prop} {i : Int32} (hs : zSp G x o out cap J f m yL_load cL_load 3 [(0, 8, 11, 13)] yX4_load cX4_load 3 []) (kk : ∀ f3 m3 (b3 : Int32), JI f3 m3 x o b3 cap J → (∃ g : Nat → Int64, f3 out = some (750, .inl (1, 1, .inr (.inl g)))) → zVl G yL_law cL_law 9 (some .boolean) 12 1705 [(0, .ref (zSc G).1), (1, .ref x), (2, .ref o), (3, .ref out), (4, .int i)] [] (f3, m3) Q) : zVl G yL_law cL_law 9 (some .boolean) 12 810 [(0, .ref (zSc G).1), (1, .ref x), (2, .ref o), (3, .ref out), (4, .int i)] [] (f, m) Q := by
  obtain ⟨b, v, P1, hw, h2⟩ := hs
  refine zl_aload_n dL_law_810 rfl rfl ?_
  refine zl_aload_n dL_law_811 rfl rfl ?_
  refine zl_callSH (rest := []) kw_load gs_L_load dL_law_812 hw rfl rfl (by decide) (Nat.le_of_ble_eq_true rfl) (fun v9 h9 hq => ?_) (fun E h9 hq => nomatch hq.1)
  obtain ⟨f2, m2⟩ := h9
  obtain ⟨e9, hP⟩ := hq
  obtain rfl := Sum.inl.inj e9
  obtain ⟨⟨vs, ho⟩, hr⟩ := h2 f2 m2 hP
  show zVl G yL_law cL_law 9 (some .boolean) 12 815 [(0, .ref (zSc G).1), (1, .ref x), (2, .ref o), (3, .ref out), (4, .int i)] [.int b] (f2, m2) Q
  refine zl_istore dL_law_815 (by decide) ?_
  refine zl_aload_n dL_law_817 rfl rfl ?_
  refine zl_callV (rest := []) (vs := vs) kL_141 gi_X4_load ge_X4_load rfl dL_law_818 ho hr rfl rfl (by decide) (Nat.le_of_ble_eq_true rfl) (fun v9 h9 hq => ?_) (fun E h9 hq => nomatch hq.1)
  obtain ⟨f3, m3⟩ := h9
  obtain ⟨e9, hJ, g, hg, hg0⟩ := hq
  obtain rfl := Sum.inl.inj e9
  obtain ⟨vs3, ho3⟩ := hJ.o
  show zVl G yL_law cL_law 9 (some .boolean) 12 821 (zst1 [(0, .ref (zSc G).1), (1, .ref x), (2, .ref o), (3, .ref out), (4, .int i)] 5 (.int b)) [.int v] (f3, m3) Q
  refine zl_istore dL_law_821 (by decide) ?_
  refine zl_aload_n dL_law_823 rfl rfl ?_
  refine zl_callV (rest := []) (as := []) (vs := vs3) kL_98 gi_X4_thrown ge_X4_thrown rfl dL_law_824 ho3 hJ.th rfl rfl (by decide) (Nat.le_of_ble_eq_true rfl) (fun v9 h9 hq => ?_) (fun E h9 hq => nomatch hq.1)
  obtain ⟨f4, m4⟩ := h9
  obtain ⟨e9, e4, e5⟩ := hq
  obtain rfl := Sum.inl.inj e9
  have e4 : f4 = f3 := e4
  have e5 : m4 = m3 := e5
  subst f4
  subst m4
  have fin : zVl G yL_law cL_law 9 (some .boolean) 12 851 (zst1 (zst1 [(0, .ref (zSc G).1), (1, .ref x), (2, .ref o), (3, .ref out), (4, .int i)] 5 (.int b)) 6 (.int v)) [] (f3, m3) Q := by
    refine zl_goto 1705 dL_law_851 (by decide) ?_
    exact zl_loc (lv' := [(0, .ref (zSc G).1), (1, .ref x), (2, .ref o), (3, .ref out), (4, .int i)]) ⟨rfl, rfl, rfl, rfl, rfl, trivial⟩ (kk f3 m3 b hJ ⟨g, hg⟩)
  show zVl G yL_law cL_law 9 (some .boolean) 12 827 (zst1 (zst1 [(0, .ref (zSc G).1), (1, .ref x), (2, .ref o), (3, .ref out), (4, .int i)] 5 (.int b)) 6 (.int v)) [.int b] (f3, m3) Q
  refine zl_iload dL_law_827 rfl ?_
  refine zl_icmp_eq 834 dL_law_829 (by decide) (fun _ => ?_) (fun z => absurd rfl z)
  refine zl_iload dL_law_834 rfl ?_
  refine zl_if_ne 851 dL_law_836 (by decide) (fun _ => fin) (fun z => ?_)
  have hgv : g (0 : Int32).toNatClampNeg = v.toInt64 := hg0 z
  refine zl_aload_n dL_law_839 rfl rfl ?_
  refine zl_iconst (0) dL_law_840 (by decide) ?_
  refine zl_laload (h := (f3, m3)) dL_law_841 hg z01 ?_
  rw [hgv]
  refine zl_iload dL_law_842 rfl ?_
  refine zl_i2l dL_law_844 ?_
  refine zl_lcmpE dL_law_845 ?_
  exact zl_if_eq 851 dL_law_846 (by decide) (fun _ => fin) (fun z => absurd rfl z)
set_option maxRecDepth 10000 in
set_option maxHeartbeats 1000000 in
theorem l_keep {G : zW} {f : zHM} {m : Nat × Nat} {x o out cap : Nat} {J : Nat × Nat} {Q : zOut → zH → Prop} {i : Int32} (hi1 : vp_in (i + 1) (zSc G).2.1) (hs : zSp G x o out cap J f m yL_keep cL_keep 4 [(0, 9, 12, 13)] yX4_keep cX4_keep 3 [.int ((zSc G).2.2 (i + 1).toNatClampNeg)]) (kk : ∀ f3 m3 (b3 : Int32), JI f3 m3 x o b3 cap J → (∃ g : Nat → Int64, f3 out = some (750, .inl (1, 1, .inr (.inl g)))) → zVl G yL_law cL_law 9 (some .boolean) 12 1705 [(0, .ref (zSc G).1), (1, .ref x), (2, .ref o), (3, .ref out), (4, .int i)] [] (f3, m3) Q) : zVl G yL_law cL_law 9 (some .boolean) 12 854 [(0, .ref (zSc G).1), (1, .ref x), (2, .ref o), (3, .ref out), (4, .int i)] [] (f, m) Q := by
  obtain ⟨b, v, P1, hw, h2⟩ := hs
  refine zl_aload_n dL_law_854 rfl rfl ?_
  refine zl_aload_n dL_law_855 rfl rfl ?_
  refine zl_iload dL_law_856 rfl ?_
  refine zl_iconst (1) dL_law_858 (by decide) ?_
  refine zl_iadd dL_law_859 ?_
  refine zl_sload dL_law_860 hi1 ?_
  refine zl_aload_n dL_law_861 rfl rfl ?_
  refine zl_callSH (rest := []) kw_keep gs_L_keep dL_law_862 hw rfl rfl (by decide) (Nat.le_of_ble_eq_true rfl) (fun v9 h9 hq => ?_) (fun E h9 hq => nomatch hq.1)
  obtain ⟨f2, m2⟩ := h9
  obtain ⟨e9, hP⟩ := hq
  obtain rfl := Sum.inl.inj e9
  obtain ⟨⟨vs, ho⟩, hr⟩ := h2 f2 m2 hP
  show zVl G yL_law cL_law 9 (some .boolean) 12 865 [(0, .ref (zSc G).1), (1, .ref x), (2, .ref o), (3, .ref out), (4, .int i)] [.int b] (f2, m2) Q
  refine zl_istore dL_law_865 (by decide) ?_
  refine zl_aload_n dL_law_867 rfl rfl ?_
  refine zl_aload_n dL_law_868 rfl rfl ?_
  refine zl_iload dL_law_869 rfl ?_
  refine zl_iconst (1) dL_law_871 (by decide) ?_
  refine zl_iadd dL_law_872 ?_
  refine zl_sload dL_law_873 hi1 ?_
  refine zl_callV (rest := []) (vs := vs) kL_144 gi_X4_keep ge_X4_keep rfl dL_law_874 ho hr rfl rfl (by decide) (Nat.le_of_ble_eq_true rfl) (fun v9 h9 hq => ?_) (fun E h9 hq => nomatch hq.1)
  obtain ⟨f3, m3⟩ := h9
  obtain ⟨e9, hJ, g, hg, hg0⟩ := hq
  obtain rfl := Sum.inl.inj e9
  obtain ⟨vs3, ho3⟩ := hJ.o
  show zVl G yL_law cL_law 9 (some .boolean) 12 877 (zst1 [(0, .ref (zSc G).1), (1, .ref x), (2, .ref o), (3, .ref out), (4, .int i)] 5 (.int b)) [.int v] (f3, m3) Q
  refine zl_istore dL_law_877 (by decide) ?_
  refine zl_aload_n dL_law_879 rfl rfl ?_
  refine zl_callV (rest := []) (as := []) (vs := vs3) kL_98 gi_X4_thrown ge_X4_thrown rfl dL_law_880 ho3 hJ.th rfl rfl (by decide) (Nat.le_of_ble_eq_true rfl) (fun v9 h9 hq => ?_) (fun E h9 hq => nomatch hq.1)
  obtain ⟨f4, m4⟩ := h9
  obtain ⟨e9, e4, e5⟩ := hq
  obtain rfl := Sum.inl.inj e9
  have e4 : f4 = f3 := e4
  have e5 : m4 = m3 := e5
  subst f4
  subst m4
  have fin : zVl G yL_law cL_law 9 (some .boolean) 12 907 (zst1 (zst1 [(0, .ref (zSc G).1), (1, .ref x), (2, .ref o), (3, .ref out), (4, .int i)] 5 (.int b)) 6 (.int v)) [] (f3, m3) Q := by
    refine zl_goto 1705 dL_law_907 (by decide) ?_
    exact zl_loc (lv' := [(0, .ref (zSc G).1), (1, .ref x), (2, .ref o), (3, .ref out), (4, .int i)]) ⟨rfl, rfl, rfl, rfl, rfl, trivial⟩ (kk f3 m3 b hJ ⟨g, hg⟩)
  show zVl G yL_law cL_law 9 (some .boolean) 12 883 (zst1 (zst1 [(0, .ref (zSc G).1), (1, .ref x), (2, .ref o), (3, .ref out), (4, .int i)] 5 (.int b)) 6 (.int v)) [.int b] (f3, m3) Q
  refine zl_iload dL_law_883 rfl ?_
  refine zl_icmp_eq 890 dL_law_885 (by decide) (fun _ => ?_) (fun z => absurd rfl z)
  refine zl_iload dL_law_890 rfl ?_
  refine zl_if_ne 907 dL_law_892 (by decide) (fun _ => fin) (fun z => ?_)
  have hgv : g (0 : Int32).toNatClampNeg = v.toInt64 := hg0 z
  refine zl_aload_n dL_law_895 rfl rfl ?_
  refine zl_iconst (0) dL_law_896 (by decide) ?_
  refine zl_laload (h := (f3, m3)) dL_law_897 hg z01 ?_
  rw [hgv]
  refine zl_iload dL_law_898 rfl ?_
  refine zl_i2l dL_law_900 ?_
  refine zl_lcmpE dL_law_901 ?_
  exact zl_if_eq 907 dL_law_902 (by decide) (fun _ => fin) (fun z => absurd rfl z)
set_option maxRecDepth 10000 in
set_option maxHeartbeats 1000000 in
theorem l_goBack {G : zW} {f : zHM} {m : Nat × Nat} {x o out cap : Nat} {J : Nat × Nat} {Q : zOut → zH → Prop} {i : Int32} (hi1 : vp_in (i + 1) (zSc G).2.1) (hs : zSp G x o out cap J f m yL_goBack cL_goBack 4 [(0, 9, 12, 13), (0, 9, 15, 21)] yX4_goBack cX4_goBack 3 [.int ((zSc G).2.2 (i + 1).toNatClampNeg)]) (kk : ∀ f3 m3 (b3 : Int32), JI f3 m3 x o b3 cap J → (∃ g : Nat → Int64, f3 out = some (750, .inl (1, 1, .inr (.inl g)))) → zVl G yL_law cL_law 9 (some .boolean) 12 1705 [(0, .ref (zSc G).1), (1, .ref x), (2, .ref o), (3, .ref out), (4, .int i)] [] (f3, m3) Q) : zVl G yL_law cL_law 9 (some .boolean) 12 910 [(0, .ref (zSc G).1), (1, .ref x), (2, .ref o), (3, .ref out), (4, .int i)] [] (f, m) Q := by
  obtain ⟨b, v, P1, hw, h2⟩ := hs
  refine zl_aload_n dL_law_910 rfl rfl ?_
  refine zl_aload_n dL_law_911 rfl rfl ?_
  refine zl_iload dL_law_912 rfl ?_
  refine zl_iconst (1) dL_law_914 (by decide) ?_
  refine zl_iadd dL_law_915 ?_
  refine zl_sload dL_law_916 hi1 ?_
  refine zl_aload_n dL_law_917 rfl rfl ?_
  refine zl_callSH (rest := []) kw_goBack gs_L_goBack dL_law_918 hw rfl rfl (by decide) (Nat.le_of_ble_eq_true rfl) (fun v9 h9 hq => ?_) (fun E h9 hq => nomatch hq.1)
  obtain ⟨f2, m2⟩ := h9
  obtain ⟨e9, hP⟩ := hq
  obtain rfl := Sum.inl.inj e9
  obtain ⟨⟨vs, ho⟩, hr⟩ := h2 f2 m2 hP
  show zVl G yL_law cL_law 9 (some .boolean) 12 921 [(0, .ref (zSc G).1), (1, .ref x), (2, .ref o), (3, .ref out), (4, .int i)] [.int b] (f2, m2) Q
  refine zl_istore dL_law_921 (by decide) ?_
  refine zl_aload_n dL_law_923 rfl rfl ?_
  refine zl_aload_n dL_law_924 rfl rfl ?_
  refine zl_iload dL_law_925 rfl ?_
  refine zl_iconst (1) dL_law_927 (by decide) ?_
  refine zl_iadd dL_law_928 ?_
  refine zl_sload dL_law_929 hi1 ?_
  refine zl_callV (rest := []) (vs := vs) kL_147 gi_X4_goBack ge_X4_goBack rfl dL_law_930 ho hr rfl rfl (by decide) (Nat.le_of_ble_eq_true rfl) (fun v9 h9 hq => ?_) (fun E h9 hq => nomatch hq.1)
  obtain ⟨f3, m3⟩ := h9
  obtain ⟨e9, hJ, g, hg, hg0⟩ := hq
  obtain rfl := Sum.inl.inj e9
  obtain ⟨vs3, ho3⟩ := hJ.o
  show zVl G yL_law cL_law 9 (some .boolean) 12 933 (zst1 [(0, .ref (zSc G).1), (1, .ref x), (2, .ref o), (3, .ref out), (4, .int i)] 5 (.int b)) [.int v] (f3, m3) Q
  refine zl_istore dL_law_933 (by decide) ?_
  refine zl_aload_n dL_law_935 rfl rfl ?_
  refine zl_callV (rest := []) (as := []) (vs := vs3) kL_98 gi_X4_thrown ge_X4_thrown rfl dL_law_936 ho3 hJ.th rfl rfl (by decide) (Nat.le_of_ble_eq_true rfl) (fun v9 h9 hq => ?_) (fun E h9 hq => nomatch hq.1)
  obtain ⟨f4, m4⟩ := h9
  obtain ⟨e9, e4, e5⟩ := hq
  obtain rfl := Sum.inl.inj e9
  have e4 : f4 = f3 := e4
  have e5 : m4 = m3 := e5
  subst f4
  subst m4
  have fin : zVl G yL_law cL_law 9 (some .boolean) 12 963 (zst1 (zst1 [(0, .ref (zSc G).1), (1, .ref x), (2, .ref o), (3, .ref out), (4, .int i)] 5 (.int b)) 6 (.int v)) [] (f3, m3) Q := by
    refine zl_goto 1705 dL_law_963 (by decide) ?_
    exact zl_loc (lv' := [(0, .ref (zSc G).1), (1, .ref x), (2, .ref o), (3, .ref out), (4, .int i)]) ⟨rfl, rfl, rfl, rfl, rfl, trivial⟩ (kk f3 m3 b hJ ⟨g, hg⟩)
  show zVl G yL_law cL_law 9 (some .boolean) 12 939 (zst1 (zst1 [(0, .ref (zSc G).1), (1, .ref x), (2, .ref o), (3, .ref out), (4, .int i)] 5 (.int b)) 6 (.int v)) [.int b] (f3, m3) Q
  refine zl_iload dL_law_939 rfl ?_
  refine zl_icmp_eq 946 dL_law_941 (by decide) (fun _ => ?_) (fun z => absurd rfl z)
  refine zl_iload dL_law_946 rfl ?_
  refine zl_if_ne 963 dL_law_948 (by decide) (fun _ => fin) (fun z => ?_)
  have hgv : g (0 : Int32).toNatClampNeg = v.toInt64 := hg0 z
  refine zl_aload_n dL_law_951 rfl rfl ?_
  refine zl_iconst (0) dL_law_952 (by decide) ?_
  refine zl_laload (h := (f3, m3)) dL_law_953 hg z01 ?_
  rw [hgv]
  refine zl_iload dL_law_954 rfl ?_
  refine zl_i2l dL_law_956 ?_
  refine zl_lcmpE dL_law_957 ?_
  exact zl_if_eq 963 dL_law_958 (by decide) (fun _ => fin) (fun z => absurd rfl z)
set_option maxRecDepth 10000 in
set_option maxHeartbeats 1000000 in
theorem l_undo {G : zW} {f : zHM} {m : Nat × Nat} {x o out cap : Nat} {J : Nat × Nat} {Q : zOut → zH → Prop} {i : Int32} (hs : zSp G x o out cap J f m yL_undo cL_undo 3 [(0, 8, 11, 21)] yX4_undo cX4_undo 2 []) (kk : ∀ f3 m3 (b3 : Int32), JI f3 m3 x o b3 cap J → (∃ g : Nat → Int64, f3 out = some (750, .inl (1, 1, .inr (.inl g)))) → zVl G yL_law cL_law 9 (some .boolean) 12 1705 [(0, .ref (zSc G).1), (1, .ref x), (2, .ref o), (3, .ref out), (4, .int i)] [] (f3, m3) Q) : zVl G yL_law cL_law 9 (some .boolean) 12 966 [(0, .ref (zSc G).1), (1, .ref x), (2, .ref o), (3, .ref out), (4, .int i)] [] (f, m) Q := by
  obtain ⟨b, v, P1, hw, h2⟩ := hs
  refine zl_aload_n dL_law_966 rfl rfl ?_
  refine zl_aload_n dL_law_967 rfl rfl ?_
  refine zl_callSH (rest := []) kw_undo gs_L_undo dL_law_968 hw rfl rfl (by decide) (Nat.le_of_ble_eq_true rfl) (fun v9 h9 hq => ?_) (fun E h9 hq => nomatch hq.1)
  obtain ⟨f2, m2⟩ := h9
  obtain ⟨e9, hP⟩ := hq
  obtain rfl := Sum.inl.inj e9
  obtain ⟨⟨vs, ho⟩, hr⟩ := h2 f2 m2 hP
  show zVl G yL_law cL_law 9 (some .boolean) 12 971 [(0, .ref (zSc G).1), (1, .ref x), (2, .ref o), (3, .ref out), (4, .int i)] [.int b] (f2, m2) Q
  refine zl_istore dL_law_971 (by decide) ?_
  refine zl_aload_n dL_law_973 rfl rfl ?_
  refine zl_callV (rest := []) (vs := vs) kL_150 gi_X4_undo ge_X4_undo rfl dL_law_974 ho hr rfl rfl (by decide) (Nat.le_of_ble_eq_true rfl) (fun v9 h9 hq => ?_) (fun E h9 hq => nomatch hq.1)
  obtain ⟨f3, m3⟩ := h9
  obtain ⟨e9, hJ, g, hg, hg0⟩ := hq
  obtain rfl := Sum.inl.inj e9
  obtain ⟨vs3, ho3⟩ := hJ.o
  show zVl G yL_law cL_law 9 (some .boolean) 12 977 (zst1 [(0, .ref (zSc G).1), (1, .ref x), (2, .ref o), (3, .ref out), (4, .int i)] 5 (.int b)) [.int v] (f3, m3) Q
  refine zl_istore dL_law_977 (by decide) ?_
  refine zl_aload_n dL_law_979 rfl rfl ?_
  refine zl_callV (rest := []) (as := []) (vs := vs3) kL_98 gi_X4_thrown ge_X4_thrown rfl dL_law_980 ho3 hJ.th rfl rfl (by decide) (Nat.le_of_ble_eq_true rfl) (fun v9 h9 hq => ?_) (fun E h9 hq => nomatch hq.1)
  obtain ⟨f4, m4⟩ := h9
  obtain ⟨e9, e4, e5⟩ := hq
  obtain rfl := Sum.inl.inj e9
  have e4 : f4 = f3 := e4
  have e5 : m4 = m3 := e5
  subst f4
  subst m4
  have fin : zVl G yL_law cL_law 9 (some .boolean) 12 1007 (zst1 (zst1 [(0, .ref (zSc G).1), (1, .ref x), (2, .ref o), (3, .ref out), (4, .int i)] 5 (.int b)) 6 (.int v)) [] (f3, m3) Q := by
    refine zl_goto 1705 dL_law_1007 (by decide) ?_
    exact zl_loc (lv' := [(0, .ref (zSc G).1), (1, .ref x), (2, .ref o), (3, .ref out), (4, .int i)]) ⟨rfl, rfl, rfl, rfl, rfl, trivial⟩ (kk f3 m3 b hJ ⟨g, hg⟩)
  show zVl G yL_law cL_law 9 (some .boolean) 12 983 (zst1 (zst1 [(0, .ref (zSc G).1), (1, .ref x), (2, .ref o), (3, .ref out), (4, .int i)] 5 (.int b)) 6 (.int v)) [.int b] (f3, m3) Q
  refine zl_iload dL_law_983 rfl ?_
  refine zl_icmp_eq 990 dL_law_985 (by decide) (fun _ => ?_) (fun z => absurd rfl z)
  refine zl_iload dL_law_990 rfl ?_
  refine zl_if_ne 1007 dL_law_992 (by decide) (fun _ => fin) (fun z => ?_)
  have hgv : g (0 : Int32).toNatClampNeg = v.toInt64 := hg0 z
  refine zl_aload_n dL_law_995 rfl rfl ?_
  refine zl_iconst (0) dL_law_996 (by decide) ?_
  refine zl_laload (h := (f3, m3)) dL_law_997 hg z01 ?_
  rw [hgv]
  refine zl_iload dL_law_998 rfl ?_
  refine zl_i2l dL_law_1000 ?_
  refine zl_lcmpE dL_law_1001 ?_
  exact zl_if_eq 1007 dL_law_1002 (by decide) (fun _ => fin) (fun z => absurd rfl z)
set_option maxRecDepth 10000 in
set_option maxHeartbeats 1000000 in
theorem l_nailOf {G : zW} {f : zHM} {m : Nat × Nat} {x o out cap : Nat} {J : Nat × Nat} {Q : zOut → zH → Prop} {i : Int32} (hi1 : vp_in (i + 1) (zSc G).2.1) (hi2 : vp_in (i + 2) (zSc G).2.1) (hs : zSp G x o out cap J f m yL_nailOf cL_nailOf 5 [(0, 10, 13, 19), (0, 10, 17, 13)] yX4_nailOf cX4_nailOf 3 [.int ((zSc G).2.2 (i + 1).toNatClampNeg), .int ((zSc G).2.2 (i + 2).toNatClampNeg)]) (kk : ∀ f3 m3 (b3 : Int32), JI f3 m3 x o b3 cap J → (∃ g : Nat → Int64, f3 out = some (750, .inl (1, 1, .inr (.inl g)))) → zVl G yL_law cL_law 9 (some .boolean) 12 1705 [(0, .ref (zSc G).1), (1, .ref x), (2, .ref o), (3, .ref out), (4, .int i)] [] (f3, m3) Q) : zVl G yL_law cL_law 9 (some .boolean) 12 1010 [(0, .ref (zSc G).1), (1, .ref x), (2, .ref o), (3, .ref out), (4, .int i)] [] (f, m) Q := by
  obtain ⟨b, v, P1, hw, h2⟩ := hs
  refine zl_aload_n dL_law_1010 rfl rfl ?_
  refine zl_aload_n dL_law_1011 rfl rfl ?_
  refine zl_iload dL_law_1012 rfl ?_
  refine zl_iconst (1) dL_law_1014 (by decide) ?_
  refine zl_iadd dL_law_1015 ?_
  refine zl_sload dL_law_1016 hi1 ?_
  refine zl_aload_n dL_law_1017 rfl rfl ?_
  refine zl_iload dL_law_1018 rfl ?_
  refine zl_iconst (2) dL_law_1020 (by decide) ?_
  refine zl_iadd dL_law_1021 ?_
  refine zl_sload dL_law_1022 hi2 ?_
  refine zl_aload_n dL_law_1023 rfl rfl ?_
  refine zl_callSH (rest := []) kw_nailOf gs_L_nailOf dL_law_1024 hw rfl rfl (by decide) (Nat.le_of_ble_eq_true rfl) (fun v9 h9 hq => ?_) (fun E h9 hq => nomatch hq.1)
  obtain ⟨f2, m2⟩ := h9
  obtain ⟨e9, hP⟩ := hq
  obtain rfl := Sum.inl.inj e9
  obtain ⟨⟨vs, ho⟩, hr⟩ := h2 f2 m2 hP
  show zVl G yL_law cL_law 9 (some .boolean) 12 1027 [(0, .ref (zSc G).1), (1, .ref x), (2, .ref o), (3, .ref out), (4, .int i)] [.int b] (f2, m2) Q
  refine zl_istore dL_law_1027 (by decide) ?_
  refine zl_aload_n dL_law_1029 rfl rfl ?_
  refine zl_aload_n dL_law_1030 rfl rfl ?_
  refine zl_iload dL_law_1031 rfl ?_
  refine zl_iconst (1) dL_law_1033 (by decide) ?_
  refine zl_iadd dL_law_1034 ?_
  refine zl_sload dL_law_1035 hi1 ?_
  refine zl_aload_n dL_law_1036 rfl rfl ?_
  refine zl_iload dL_law_1037 rfl ?_
  refine zl_iconst (2) dL_law_1039 (by decide) ?_
  refine zl_iadd dL_law_1040 ?_
  refine zl_sload dL_law_1041 hi2 ?_
  refine zl_callV (rest := []) (vs := vs) kL_153 gi_X4_nailOf ge_X4_nailOf rfl dL_law_1042 ho hr rfl rfl (by decide) (Nat.le_of_ble_eq_true rfl) (fun v9 h9 hq => ?_) (fun E h9 hq => nomatch hq.1)
  obtain ⟨f3, m3⟩ := h9
  obtain ⟨e9, hJ, g, hg, hg0⟩ := hq
  obtain rfl := Sum.inl.inj e9
  obtain ⟨vs3, ho3⟩ := hJ.o
  show zVl G yL_law cL_law 9 (some .boolean) 12 1045 (zst1 [(0, .ref (zSc G).1), (1, .ref x), (2, .ref o), (3, .ref out), (4, .int i)] 5 (.int b)) [.int v] (f3, m3) Q
  refine zl_istore dL_law_1045 (by decide) ?_
  refine zl_aload_n dL_law_1047 rfl rfl ?_
  refine zl_callV (rest := []) (as := []) (vs := vs3) kL_98 gi_X4_thrown ge_X4_thrown rfl dL_law_1048 ho3 hJ.th rfl rfl (by decide) (Nat.le_of_ble_eq_true rfl) (fun v9 h9 hq => ?_) (fun E h9 hq => nomatch hq.1)
  obtain ⟨f4, m4⟩ := h9
  obtain ⟨e9, e4, e5⟩ := hq
  obtain rfl := Sum.inl.inj e9
  have e4 : f4 = f3 := e4
  have e5 : m4 = m3 := e5
  subst f4
  subst m4
  have fin : zVl G yL_law cL_law 9 (some .boolean) 12 1075 (zst1 (zst1 [(0, .ref (zSc G).1), (1, .ref x), (2, .ref o), (3, .ref out), (4, .int i)] 5 (.int b)) 6 (.int v)) [] (f3, m3) Q := by
    refine zl_goto 1705 dL_law_1075 (by decide) ?_
    exact zl_loc (lv' := [(0, .ref (zSc G).1), (1, .ref x), (2, .ref o), (3, .ref out), (4, .int i)]) ⟨rfl, rfl, rfl, rfl, rfl, trivial⟩ (kk f3 m3 b hJ ⟨g, hg⟩)
  show zVl G yL_law cL_law 9 (some .boolean) 12 1051 (zst1 (zst1 [(0, .ref (zSc G).1), (1, .ref x), (2, .ref o), (3, .ref out), (4, .int i)] 5 (.int b)) 6 (.int v)) [.int b] (f3, m3) Q
  refine zl_iload dL_law_1051 rfl ?_
  refine zl_icmp_eq 1058 dL_law_1053 (by decide) (fun _ => ?_) (fun z => absurd rfl z)
  refine zl_iload dL_law_1058 rfl ?_
  refine zl_if_ne 1075 dL_law_1060 (by decide) (fun _ => fin) (fun z => ?_)
  have hgv : g (0 : Int32).toNatClampNeg = v.toInt64 := hg0 z
  refine zl_aload_n dL_law_1063 rfl rfl ?_
  refine zl_iconst (0) dL_law_1064 (by decide) ?_
  refine zl_laload (h := (f3, m3)) dL_law_1065 hg z01 ?_
  rw [hgv]
  refine zl_iload dL_law_1066 rfl ?_
  refine zl_i2l dL_law_1068 ?_
  refine zl_lcmpE dL_law_1069 ?_
  exact zl_if_eq 1075 dL_law_1070 (by decide) (fun _ => fin) (fun z => absurd rfl z)
set_option maxRecDepth 10000 in
set_option maxHeartbeats 1000000 in
theorem l_spoolOf {G : zW} {f : zHM} {m : Nat × Nat} {x o out cap : Nat} {J : Nat × Nat} {Q : zOut → zH → Prop} {i : Int32} (hi1 : vp_in (i + 1) (zSc G).2.1) (hi2 : vp_in (i + 2) (zSc G).2.1) (hs : zSp G x o out cap J f m yL_spoolOf cL_spoolOf 5 [(0, 10, 13, 19), (0, 10, 17, 13)] yX4_spoolOf cX4_spoolOf 3 [.int ((zSc G).2.2 (i + 1).toNatClampNeg), .int ((zSc G).2.2 (i + 2).toNatClampNeg)]) (kk : ∀ f3 m3 (b3 : Int32), JI f3 m3 x o b3 cap J → (∃ g : Nat → Int64, f3 out = some (750, .inl (1, 1, .inr (.inl g)))) → zVl G yL_law cL_law 9 (some .boolean) 12 1705 [(0, .ref (zSc G).1), (1, .ref x), (2, .ref o), (3, .ref out), (4, .int i)] [] (f3, m3) Q) : zVl G yL_law cL_law 9 (some .boolean) 12 1078 [(0, .ref (zSc G).1), (1, .ref x), (2, .ref o), (3, .ref out), (4, .int i)] [] (f, m) Q := by
  obtain ⟨b, v, P1, hw, h2⟩ := hs
  refine zl_aload_n dL_law_1078 rfl rfl ?_
  refine zl_aload_n dL_law_1079 rfl rfl ?_
  refine zl_iload dL_law_1080 rfl ?_
  refine zl_iconst (1) dL_law_1082 (by decide) ?_
  refine zl_iadd dL_law_1083 ?_
  refine zl_sload dL_law_1084 hi1 ?_
  refine zl_aload_n dL_law_1085 rfl rfl ?_
  refine zl_iload dL_law_1086 rfl ?_
  refine zl_iconst (2) dL_law_1088 (by decide) ?_
  refine zl_iadd dL_law_1089 ?_
  refine zl_sload dL_law_1090 hi2 ?_
  refine zl_aload_n dL_law_1091 rfl rfl ?_
  refine zl_callSH (rest := []) kw_spoolOf gs_L_spoolOf dL_law_1092 hw rfl rfl (by decide) (Nat.le_of_ble_eq_true rfl) (fun v9 h9 hq => ?_) (fun E h9 hq => nomatch hq.1)
  obtain ⟨f2, m2⟩ := h9
  obtain ⟨e9, hP⟩ := hq
  obtain rfl := Sum.inl.inj e9
  obtain ⟨⟨vs, ho⟩, hr⟩ := h2 f2 m2 hP
  show zVl G yL_law cL_law 9 (some .boolean) 12 1095 [(0, .ref (zSc G).1), (1, .ref x), (2, .ref o), (3, .ref out), (4, .int i)] [.int b] (f2, m2) Q
  refine zl_istore dL_law_1095 (by decide) ?_
  refine zl_aload_n dL_law_1097 rfl rfl ?_
  refine zl_aload_n dL_law_1098 rfl rfl ?_
  refine zl_iload dL_law_1099 rfl ?_
  refine zl_iconst (1) dL_law_1101 (by decide) ?_
  refine zl_iadd dL_law_1102 ?_
  refine zl_sload dL_law_1103 hi1 ?_
  refine zl_aload_n dL_law_1104 rfl rfl ?_
  refine zl_iload dL_law_1105 rfl ?_
  refine zl_iconst (2) dL_law_1107 (by decide) ?_
  refine zl_iadd dL_law_1108 ?_
  refine zl_sload dL_law_1109 hi2 ?_
  refine zl_callV (rest := []) (vs := vs) kL_156 gi_X4_spoolOf ge_X4_spoolOf rfl dL_law_1110 ho hr rfl rfl (by decide) (Nat.le_of_ble_eq_true rfl) (fun v9 h9 hq => ?_) (fun E h9 hq => nomatch hq.1)
  obtain ⟨f3, m3⟩ := h9
  obtain ⟨e9, hJ, g, hg, hg0⟩ := hq
  obtain rfl := Sum.inl.inj e9
  obtain ⟨vs3, ho3⟩ := hJ.o
  show zVl G yL_law cL_law 9 (some .boolean) 12 1113 (zst1 [(0, .ref (zSc G).1), (1, .ref x), (2, .ref o), (3, .ref out), (4, .int i)] 5 (.int b)) [.int v] (f3, m3) Q
  refine zl_istore dL_law_1113 (by decide) ?_
  refine zl_aload_n dL_law_1115 rfl rfl ?_
  refine zl_callV (rest := []) (as := []) (vs := vs3) kL_98 gi_X4_thrown ge_X4_thrown rfl dL_law_1116 ho3 hJ.th rfl rfl (by decide) (Nat.le_of_ble_eq_true rfl) (fun v9 h9 hq => ?_) (fun E h9 hq => nomatch hq.1)
  obtain ⟨f4, m4⟩ := h9
  obtain ⟨e9, e4, e5⟩ := hq
  obtain rfl := Sum.inl.inj e9
  have e4 : f4 = f3 := e4
  have e5 : m4 = m3 := e5
  subst f4
  subst m4
  have fin : zVl G yL_law cL_law 9 (some .boolean) 12 1143 (zst1 (zst1 [(0, .ref (zSc G).1), (1, .ref x), (2, .ref o), (3, .ref out), (4, .int i)] 5 (.int b)) 6 (.int v)) [] (f3, m3) Q := by
    refine zl_goto 1705 dL_law_1143 (by decide) ?_
    exact zl_loc (lv' := [(0, .ref (zSc G).1), (1, .ref x), (2, .ref o), (3, .ref out), (4, .int i)]) ⟨rfl, rfl, rfl, rfl, rfl, trivial⟩ (kk f3 m3 b hJ ⟨g, hg⟩)
  show zVl G yL_law cL_law 9 (some .boolean) 12 1119 (zst1 (zst1 [(0, .ref (zSc G).1), (1, .ref x), (2, .ref o), (3, .ref out), (4, .int i)] 5 (.int b)) 6 (.int v)) [.int b] (f3, m3) Q
  refine zl_iload dL_law_1119 rfl ?_
  refine zl_icmp_eq 1126 dL_law_1121 (by decide) (fun _ => ?_) (fun z => absurd rfl z)
  refine zl_iload dL_law_1126 rfl ?_
  refine zl_if_ne 1143 dL_law_1128 (by decide) (fun _ => fin) (fun z => ?_)
  have hgv : g (0 : Int32).toNatClampNeg = v.toInt64 := hg0 z
  refine zl_aload_n dL_law_1131 rfl rfl ?_
  refine zl_iconst (0) dL_law_1132 (by decide) ?_
  refine zl_laload (h := (f3, m3)) dL_law_1133 hg z01 ?_
  rw [hgv]
  refine zl_iload dL_law_1134 rfl ?_
  refine zl_i2l dL_law_1136 ?_
  refine zl_lcmpE dL_law_1137 ?_
  exact zl_if_eq 1143 dL_law_1138 (by decide) (fun _ => fin) (fun z => absurd rfl z)
set_option maxRecDepth 10000 in
set_option maxHeartbeats 1000000 in
theorem l_chord {G : zW} {f : zHM} {m : Nat × Nat} {x o out cap : Nat} {J : Nat × Nat} {Q : zOut → zH → Prop} {i : Int32} (hi1 : vp_in (i + 1) (zSc G).2.1) (hi2 : vp_in (i + 2) (zSc G).2.1) (hi3 : vp_in (i + 3) (zSc G).2.1) (hs : zSp G x o out cap J f m yL_chord cL_chord 6 [(0, 12, 15, 19), (0, 12, 19, 13)] yX4_chord cX4_chord 4 [.int ((zSc G).2.2 (i + 1).toNatClampNeg), .int ((zSc G).2.2 (i + 2).toNatClampNeg), .int ((zSc G).2.2 (i + 3).toNatClampNeg)]) (kk : ∀ f3 m3 (b3 : Int32), JI f3 m3 x o b3 cap J → (∃ g : Nat → Int64, f3 out = some (750, .inl (1, 1, .inr (.inl g)))) → zVl G yL_law cL_law 9 (some .boolean) 12 1705 [(0, .ref (zSc G).1), (1, .ref x), (2, .ref o), (3, .ref out), (4, .int i)] [] (f3, m3) Q) : zVl G yL_law cL_law 9 (some .boolean) 12 1146 [(0, .ref (zSc G).1), (1, .ref x), (2, .ref o), (3, .ref out), (4, .int i)] [] (f, m) Q := by
  obtain ⟨b, v, P1, hw, h2⟩ := hs
  refine zl_aload_n dL_law_1146 rfl rfl ?_
  refine zl_aload_n dL_law_1147 rfl rfl ?_
  refine zl_iload dL_law_1148 rfl ?_
  refine zl_iconst (1) dL_law_1150 (by decide) ?_
  refine zl_iadd dL_law_1151 ?_
  refine zl_sload dL_law_1152 hi1 ?_
  refine zl_aload_n dL_law_1153 rfl rfl ?_
  refine zl_iload dL_law_1154 rfl ?_
  refine zl_iconst (2) dL_law_1156 (by decide) ?_
  refine zl_iadd dL_law_1157 ?_
  refine zl_sload dL_law_1158 hi2 ?_
  refine zl_aload_n dL_law_1159 rfl rfl ?_
  refine zl_iload dL_law_1160 rfl ?_
  refine zl_iconst (3) dL_law_1162 (by decide) ?_
  refine zl_iadd dL_law_1163 ?_
  refine zl_sload dL_law_1164 hi3 ?_
  refine zl_aload_n dL_law_1165 rfl rfl ?_
  refine zl_callSH (rest := []) kw_chord gs_L_chord dL_law_1166 hw rfl rfl (by decide) (Nat.le_of_ble_eq_true rfl) (fun v9 h9 hq => ?_) (fun E h9 hq => nomatch hq.1)
  obtain ⟨f2, m2⟩ := h9
  obtain ⟨e9, hP⟩ := hq
  obtain rfl := Sum.inl.inj e9
  obtain ⟨⟨vs, ho⟩, hr⟩ := h2 f2 m2 hP
  show zVl G yL_law cL_law 9 (some .boolean) 12 1169 [(0, .ref (zSc G).1), (1, .ref x), (2, .ref o), (3, .ref out), (4, .int i)] [.int b] (f2, m2) Q
  refine zl_istore dL_law_1169 (by decide) ?_
  refine zl_aload_n dL_law_1171 rfl rfl ?_
  refine zl_aload_n dL_law_1172 rfl rfl ?_
  refine zl_iload dL_law_1173 rfl ?_
  refine zl_iconst (1) dL_law_1175 (by decide) ?_
  refine zl_iadd dL_law_1176 ?_
  refine zl_sload dL_law_1177 hi1 ?_
  refine zl_aload_n dL_law_1178 rfl rfl ?_
  refine zl_iload dL_law_1179 rfl ?_
  refine zl_iconst (2) dL_law_1181 (by decide) ?_
  refine zl_iadd dL_law_1182 ?_
  refine zl_sload dL_law_1183 hi2 ?_
  refine zl_aload_n dL_law_1184 rfl rfl ?_
  refine zl_iload dL_law_1185 rfl ?_
  refine zl_iconst (3) dL_law_1187 (by decide) ?_
  refine zl_iadd dL_law_1188 ?_
  refine zl_sload dL_law_1189 hi3 ?_
  refine zl_callV (rest := []) (vs := vs) kL_159 gi_X4_chord ge_X4_chord rfl dL_law_1190 ho hr rfl rfl (by decide) (Nat.le_of_ble_eq_true rfl) (fun v9 h9 hq => ?_) (fun E h9 hq => nomatch hq.1)
  obtain ⟨f3, m3⟩ := h9
  obtain ⟨e9, hJ, g, hg, hg0⟩ := hq
  obtain rfl := Sum.inl.inj e9
  obtain ⟨vs3, ho3⟩ := hJ.o
  show zVl G yL_law cL_law 9 (some .boolean) 12 1193 (zst1 [(0, .ref (zSc G).1), (1, .ref x), (2, .ref o), (3, .ref out), (4, .int i)] 5 (.int b)) [.int v] (f3, m3) Q
  refine zl_istore dL_law_1193 (by decide) ?_
  refine zl_aload_n dL_law_1195 rfl rfl ?_
  refine zl_callV (rest := []) (as := []) (vs := vs3) kL_98 gi_X4_thrown ge_X4_thrown rfl dL_law_1196 ho3 hJ.th rfl rfl (by decide) (Nat.le_of_ble_eq_true rfl) (fun v9 h9 hq => ?_) (fun E h9 hq => nomatch hq.1)
  obtain ⟨f4, m4⟩ := h9
  obtain ⟨e9, e4, e5⟩ := hq
  obtain rfl := Sum.inl.inj e9
  have e4 : f4 = f3 := e4
  have e5 : m4 = m3 := e5
  subst f4
  subst m4
  have fin : zVl G yL_law cL_law 9 (some .boolean) 12 1223 (zst1 (zst1 [(0, .ref (zSc G).1), (1, .ref x), (2, .ref o), (3, .ref out), (4, .int i)] 5 (.int b)) 6 (.int v)) [] (f3, m3) Q := by
    refine zl_goto 1705 dL_law_1223 (by decide) ?_
    exact zl_loc (lv' := [(0, .ref (zSc G).1), (1, .ref x), (2, .ref o), (3, .ref out), (4, .int i)]) ⟨rfl, rfl, rfl, rfl, rfl, trivial⟩ (kk f3 m3 b hJ ⟨g, hg⟩)
  show zVl G yL_law cL_law 9 (some .boolean) 12 1199 (zst1 (zst1 [(0, .ref (zSc G).1), (1, .ref x), (2, .ref o), (3, .ref out), (4, .int i)] 5 (.int b)) 6 (.int v)) [.int b] (f3, m3) Q
  refine zl_iload dL_law_1199 rfl ?_
  refine zl_icmp_eq 1206 dL_law_1201 (by decide) (fun _ => ?_) (fun z => absurd rfl z)
  refine zl_iload dL_law_1206 rfl ?_
  refine zl_if_ne 1223 dL_law_1208 (by decide) (fun _ => fin) (fun z => ?_)
  have hgv : g (0 : Int32).toNatClampNeg = v.toInt64 := hg0 z
  refine zl_aload_n dL_law_1211 rfl rfl ?_
  refine zl_iconst (0) dL_law_1212 (by decide) ?_
  refine zl_laload (h := (f3, m3)) dL_law_1213 hg z01 ?_
  rw [hgv]
  refine zl_iload dL_law_1214 rfl ?_
  refine zl_i2l dL_law_1216 ?_
  refine zl_lcmpE dL_law_1217 ?_
  exact zl_if_eq 1223 dL_law_1218 (by decide) (fun _ => fin) (fun z => absurd rfl z)
set_option maxRecDepth 10000 in
set_option maxHeartbeats 1000000 in
theorem l_wound {G : zW} {f : zHM} {m : Nat × Nat} {x o out cap : Nat} {J : Nat × Nat} {Q : zOut → zH → Prop} {i : Int32} (hi1 : vp_in (i + 1) (zSc G).2.1) (hi2 : vp_in (i + 2) (zSc G).2.1) (hs : zSp G x o out cap J f m yL_wound cL_wound 5 [(0, 10, 13, 13)] yX4_wound cX4_wound 3 [.int ((zSc G).2.2 (i + 1).toNatClampNeg), .int ((zSc G).2.2 (i + 2).toNatClampNeg)]) (kk : ∀ f3 m3 (b3 : Int32), JI f3 m3 x o b3 cap J → (∃ g : Nat → Int64, f3 out = some (750, .inl (1, 1, .inr (.inl g)))) → zVl G yL_law cL_law 9 (some .boolean) 12 1705 [(0, .ref (zSc G).1), (1, .ref x), (2, .ref o), (3, .ref out), (4, .int i)] [] (f3, m3) Q) : zVl G yL_law cL_law 9 (some .boolean) 12 1226 [(0, .ref (zSc G).1), (1, .ref x), (2, .ref o), (3, .ref out), (4, .int i)] [] (f, m) Q := by
  obtain ⟨b, v, P1, hw, h2⟩ := hs
  refine zl_aload_n dL_law_1226 rfl rfl ?_
  refine zl_aload_n dL_law_1227 rfl rfl ?_
  refine zl_iload dL_law_1228 rfl ?_
  refine zl_iconst (1) dL_law_1230 (by decide) ?_
  refine zl_iadd dL_law_1231 ?_
  refine zl_sload dL_law_1232 hi1 ?_
  refine zl_aload_n dL_law_1233 rfl rfl ?_
  refine zl_iload dL_law_1234 rfl ?_
  refine zl_iconst (2) dL_law_1236 (by decide) ?_
  refine zl_iadd dL_law_1237 ?_
  refine zl_sload dL_law_1238 hi2 ?_
  refine zl_aload_n dL_law_1239 rfl rfl ?_
  refine zl_callSH (rest := []) kw_wound gs_L_wound dL_law_1240 hw rfl rfl (by decide) (Nat.le_of_ble_eq_true rfl) (fun v9 h9 hq => ?_) (fun E h9 hq => nomatch hq.1)
  obtain ⟨f2, m2⟩ := h9
  obtain ⟨e9, hP⟩ := hq
  obtain rfl := Sum.inl.inj e9
  obtain ⟨⟨vs, ho⟩, hr⟩ := h2 f2 m2 hP
  show zVl G yL_law cL_law 9 (some .boolean) 12 1243 [(0, .ref (zSc G).1), (1, .ref x), (2, .ref o), (3, .ref out), (4, .int i)] [.int b] (f2, m2) Q
  refine zl_istore dL_law_1243 (by decide) ?_
  refine zl_aload_n dL_law_1245 rfl rfl ?_
  refine zl_aload_n dL_law_1246 rfl rfl ?_
  refine zl_iload dL_law_1247 rfl ?_
  refine zl_iconst (1) dL_law_1249 (by decide) ?_
  refine zl_iadd dL_law_1250 ?_
  refine zl_sload dL_law_1251 hi1 ?_
  refine zl_aload_n dL_law_1252 rfl rfl ?_
  refine zl_iload dL_law_1253 rfl ?_
  refine zl_iconst (2) dL_law_1255 (by decide) ?_
  refine zl_iadd dL_law_1256 ?_
  refine zl_sload dL_law_1257 hi2 ?_
  refine zl_callV (rest := []) (vs := vs) kL_162 gi_X4_wound ge_X4_wound rfl dL_law_1258 ho hr rfl rfl (by decide) (Nat.le_of_ble_eq_true rfl) (fun v9 h9 hq => ?_) (fun E h9 hq => nomatch hq.1)
  obtain ⟨f3, m3⟩ := h9
  obtain ⟨e9, hJ, g, hg, hg0⟩ := hq
  obtain rfl := Sum.inl.inj e9
  obtain ⟨vs3, ho3⟩ := hJ.o
  show zVl G yL_law cL_law 9 (some .boolean) 12 1261 (zst1 [(0, .ref (zSc G).1), (1, .ref x), (2, .ref o), (3, .ref out), (4, .int i)] 5 (.int b)) [.int v] (f3, m3) Q
  refine zl_istore dL_law_1261 (by decide) ?_
  refine zl_aload_n dL_law_1263 rfl rfl ?_
  refine zl_callV (rest := []) (as := []) (vs := vs3) kL_98 gi_X4_thrown ge_X4_thrown rfl dL_law_1264 ho3 hJ.th rfl rfl (by decide) (Nat.le_of_ble_eq_true rfl) (fun v9 h9 hq => ?_) (fun E h9 hq => nomatch hq.1)
  obtain ⟨f4, m4⟩ := h9
  obtain ⟨e9, e4, e5⟩ := hq
  obtain rfl := Sum.inl.inj e9
  have e4 : f4 = f3 := e4
  have e5 : m4 = m3 := e5
  subst f4
  subst m4
  have fin : zVl G yL_law cL_law 9 (some .boolean) 12 1291 (zst1 (zst1 [(0, .ref (zSc G).1), (1, .ref x), (2, .ref o), (3, .ref out), (4, .int i)] 5 (.int b)) 6 (.int v)) [] (f3, m3) Q := by
    refine zl_goto 1705 dL_law_1291 (by decide) ?_
    exact zl_loc (lv' := [(0, .ref (zSc G).1), (1, .ref x), (2, .ref o), (3, .ref out), (4, .int i)]) ⟨rfl, rfl, rfl, rfl, rfl, trivial⟩ (kk f3 m3 b hJ ⟨g, hg⟩)
  show zVl G yL_law cL_law 9 (some .boolean) 12 1267 (zst1 (zst1 [(0, .ref (zSc G).1), (1, .ref x), (2, .ref o), (3, .ref out), (4, .int i)] 5 (.int b)) 6 (.int v)) [.int b] (f3, m3) Q
  refine zl_iload dL_law_1267 rfl ?_
  refine zl_icmp_eq 1274 dL_law_1269 (by decide) (fun _ => ?_) (fun z => absurd rfl z)
  refine zl_iload dL_law_1274 rfl ?_
  refine zl_if_ne 1291 dL_law_1276 (by decide) (fun _ => fin) (fun z => ?_)
  have hgv : g (0 : Int32).toNatClampNeg = v.toInt64 := hg0 z
  refine zl_aload_n dL_law_1279 rfl rfl ?_
  refine zl_iconst (0) dL_law_1280 (by decide) ?_
  refine zl_laload (h := (f3, m3)) dL_law_1281 hg z01 ?_
  rw [hgv]
  refine zl_iload dL_law_1282 rfl ?_
  refine zl_i2l dL_law_1284 ?_
  refine zl_lcmpE dL_law_1285 ?_
  exact zl_if_eq 1291 dL_law_1286 (by decide) (fun _ => fin) (fun z => absurd rfl z)
set_option maxRecDepth 10000 in
set_option maxHeartbeats 1000000 in
theorem l_square {G : zW} {f : zHM} {m : Nat × Nat} {x o out cap : Nat} {J : Nat × Nat} {Q : zOut → zH → Prop} {i : Int32} (hi1 : vp_in (i + 1) (zSc G).2.1) (hi2 : vp_in (i + 2) (zSc G).2.1) (hi3 : vp_in (i + 3) (zSc G).2.1) (hs : zSp G x o out cap J f m yL_square cL_square 6 [(0, 12, 15, 19), (0, 12, 19, 13)] yX4_square cX4_square 4 [.int ((zSc G).2.2 (i + 1).toNatClampNeg), .int ((zSc G).2.2 (i + 2).toNatClampNeg), .int ((zSc G).2.2 (i + 3).toNatClampNeg)]) (kk : ∀ f3 m3 (b3 : Int32), JI f3 m3 x o b3 cap J → (∃ g : Nat → Int64, f3 out = some (750, .inl (1, 1, .inr (.inl g)))) → zVl G yL_law cL_law 9 (some .boolean) 12 1705 [(0, .ref (zSc G).1), (1, .ref x), (2, .ref o), (3, .ref out), (4, .int i)] [] (f3, m3) Q) : zVl G yL_law cL_law 9 (some .boolean) 12 1294 [(0, .ref (zSc G).1), (1, .ref x), (2, .ref o), (3, .ref out), (4, .int i)] [] (f, m) Q := by
  obtain ⟨b, v, P1, hw, h2⟩ := hs
  refine zl_aload_n dL_law_1294 rfl rfl ?_
  refine zl_aload_n dL_law_1295 rfl rfl ?_
  refine zl_iload dL_law_1296 rfl ?_
  refine zl_iconst (1) dL_law_1298 (by decide) ?_
  refine zl_iadd dL_law_1299 ?_
  refine zl_sload dL_law_1300 hi1 ?_
  refine zl_aload_n dL_law_1301 rfl rfl ?_
  refine zl_iload dL_law_1302 rfl ?_
  refine zl_iconst (2) dL_law_1304 (by decide) ?_
  refine zl_iadd dL_law_1305 ?_
  refine zl_sload dL_law_1306 hi2 ?_
  refine zl_aload_n dL_law_1307 rfl rfl ?_
  refine zl_iload dL_law_1308 rfl ?_
  refine zl_iconst (3) dL_law_1310 (by decide) ?_
  refine zl_iadd dL_law_1311 ?_
  refine zl_sload dL_law_1312 hi3 ?_
  refine zl_aload_n dL_law_1313 rfl rfl ?_
  refine zl_callSH (rest := []) kw_square gs_L_square dL_law_1314 hw rfl rfl (by decide) (Nat.le_of_ble_eq_true rfl) (fun v9 h9 hq => ?_) (fun E h9 hq => nomatch hq.1)
  obtain ⟨f2, m2⟩ := h9
  obtain ⟨e9, hP⟩ := hq
  obtain rfl := Sum.inl.inj e9
  obtain ⟨⟨vs, ho⟩, hr⟩ := h2 f2 m2 hP
  show zVl G yL_law cL_law 9 (some .boolean) 12 1317 [(0, .ref (zSc G).1), (1, .ref x), (2, .ref o), (3, .ref out), (4, .int i)] [.int b] (f2, m2) Q
  refine zl_istore dL_law_1317 (by decide) ?_
  refine zl_aload_n dL_law_1319 rfl rfl ?_
  refine zl_aload_n dL_law_1320 rfl rfl ?_
  refine zl_iload dL_law_1321 rfl ?_
  refine zl_iconst (1) dL_law_1323 (by decide) ?_
  refine zl_iadd dL_law_1324 ?_
  refine zl_sload dL_law_1325 hi1 ?_
  refine zl_aload_n dL_law_1326 rfl rfl ?_
  refine zl_iload dL_law_1327 rfl ?_
  refine zl_iconst (2) dL_law_1329 (by decide) ?_
  refine zl_iadd dL_law_1330 ?_
  refine zl_sload dL_law_1331 hi2 ?_
  refine zl_aload_n dL_law_1332 rfl rfl ?_
  refine zl_iload dL_law_1333 rfl ?_
  refine zl_iconst (3) dL_law_1335 (by decide) ?_
  refine zl_iadd dL_law_1336 ?_
  refine zl_sload dL_law_1337 hi3 ?_
  refine zl_callV (rest := []) (vs := vs) kL_165 gi_X4_square ge_X4_square rfl dL_law_1338 ho hr rfl rfl (by decide) (Nat.le_of_ble_eq_true rfl) (fun v9 h9 hq => ?_) (fun E h9 hq => nomatch hq.1)
  obtain ⟨f3, m3⟩ := h9
  obtain ⟨e9, hJ, g, hg, hg0⟩ := hq
  obtain rfl := Sum.inl.inj e9
  obtain ⟨vs3, ho3⟩ := hJ.o
  show zVl G yL_law cL_law 9 (some .boolean) 12 1341 (zst1 [(0, .ref (zSc G).1), (1, .ref x), (2, .ref o), (3, .ref out), (4, .int i)] 5 (.int b)) [.int v] (f3, m3) Q
  refine zl_istore dL_law_1341 (by decide) ?_
  refine zl_aload_n dL_law_1343 rfl rfl ?_
  refine zl_callV (rest := []) (as := []) (vs := vs3) kL_98 gi_X4_thrown ge_X4_thrown rfl dL_law_1344 ho3 hJ.th rfl rfl (by decide) (Nat.le_of_ble_eq_true rfl) (fun v9 h9 hq => ?_) (fun E h9 hq => nomatch hq.1)
  obtain ⟨f4, m4⟩ := h9
  obtain ⟨e9, e4, e5⟩ := hq
  obtain rfl := Sum.inl.inj e9
  have e4 : f4 = f3 := e4
  have e5 : m4 = m3 := e5
  subst f4
  subst m4
  have fin : zVl G yL_law cL_law 9 (some .boolean) 12 1371 (zst1 (zst1 [(0, .ref (zSc G).1), (1, .ref x), (2, .ref o), (3, .ref out), (4, .int i)] 5 (.int b)) 6 (.int v)) [] (f3, m3) Q := by
    refine zl_goto 1705 dL_law_1371 (by decide) ?_
    exact zl_loc (lv' := [(0, .ref (zSc G).1), (1, .ref x), (2, .ref o), (3, .ref out), (4, .int i)]) ⟨rfl, rfl, rfl, rfl, rfl, trivial⟩ (kk f3 m3 b hJ ⟨g, hg⟩)
  show zVl G yL_law cL_law 9 (some .boolean) 12 1347 (zst1 (zst1 [(0, .ref (zSc G).1), (1, .ref x), (2, .ref o), (3, .ref out), (4, .int i)] 5 (.int b)) 6 (.int v)) [.int b] (f3, m3) Q
  refine zl_iload dL_law_1347 rfl ?_
  refine zl_icmp_eq 1354 dL_law_1349 (by decide) (fun _ => ?_) (fun z => absurd rfl z)
  refine zl_iload dL_law_1354 rfl ?_
  refine zl_if_ne 1371 dL_law_1356 (by decide) (fun _ => fin) (fun z => ?_)
  have hgv : g (0 : Int32).toNatClampNeg = v.toInt64 := hg0 z
  refine zl_aload_n dL_law_1359 rfl rfl ?_
  refine zl_iconst (0) dL_law_1360 (by decide) ?_
  refine zl_laload (h := (f3, m3)) dL_law_1361 hg z01 ?_
  rw [hgv]
  refine zl_iload dL_law_1362 rfl ?_
  refine zl_i2l dL_law_1364 ?_
  refine zl_lcmpE dL_law_1365 ?_
  exact zl_if_eq 1371 dL_law_1366 (by decide) (fun _ => fin) (fun z => absurd rfl z)
set_option maxRecDepth 10000 in
set_option maxHeartbeats 1000000 in
theorem l_count {G : zW} {f : zHM} {m : Nat × Nat} {x o out cap : Nat} {J : Nat × Nat} {Q : zOut → zH → Prop} {i : Int32} (hi1 : vp_in (i + 1) (zSc G).2.1) (hs : zSp G x o out cap J f m yL_count cL_count 4 [(0, 9, 12, 13)] yX4_count cX4_count 2 [.int ((zSc G).2.2 (i + 1).toNatClampNeg)]) (kk : ∀ f3 m3 (b3 : Int32), JI f3 m3 x o b3 cap J → (∃ g : Nat → Int64, f3 out = some (750, .inl (1, 1, .inr (.inl g)))) → zVl G yL_law cL_law 9 (some .boolean) 12 1705 [(0, .ref (zSc G).1), (1, .ref x), (2, .ref o), (3, .ref out), (4, .int i)] [] (f3, m3) Q) : zVl G yL_law cL_law 9 (some .boolean) 12 1374 [(0, .ref (zSc G).1), (1, .ref x), (2, .ref o), (3, .ref out), (4, .int i)] [] (f, m) Q := by
  obtain ⟨b, v, P1, hw, h2⟩ := hs
  refine zl_aload_n dL_law_1374 rfl rfl ?_
  refine zl_aload_n dL_law_1375 rfl rfl ?_
  refine zl_iload dL_law_1376 rfl ?_
  refine zl_iconst (1) dL_law_1378 (by decide) ?_
  refine zl_iadd dL_law_1379 ?_
  refine zl_sload dL_law_1380 hi1 ?_
  refine zl_aload_n dL_law_1381 rfl rfl ?_
  refine zl_callSH (rest := []) kw_count gs_L_count dL_law_1382 hw rfl rfl (by decide) (Nat.le_of_ble_eq_true rfl) (fun v9 h9 hq => ?_) (fun E h9 hq => nomatch hq.1)
  obtain ⟨f2, m2⟩ := h9
  obtain ⟨e9, hP⟩ := hq
  obtain rfl := Sum.inl.inj e9
  obtain ⟨⟨vs, ho⟩, hr⟩ := h2 f2 m2 hP
  show zVl G yL_law cL_law 9 (some .boolean) 12 1385 [(0, .ref (zSc G).1), (1, .ref x), (2, .ref o), (3, .ref out), (4, .int i)] [.int b] (f2, m2) Q
  refine zl_istore dL_law_1385 (by decide) ?_
  refine zl_aload_n dL_law_1387 rfl rfl ?_
  refine zl_aload_n dL_law_1388 rfl rfl ?_
  refine zl_iload dL_law_1389 rfl ?_
  refine zl_iconst (1) dL_law_1391 (by decide) ?_
  refine zl_iadd dL_law_1392 ?_
  refine zl_sload dL_law_1393 hi1 ?_
  refine zl_callV (rest := []) (vs := vs) kL_168 gi_X4_count ge_X4_count rfl dL_law_1394 ho hr rfl rfl (by decide) (Nat.le_of_ble_eq_true rfl) (fun v9 h9 hq => ?_) (fun E h9 hq => nomatch hq.1)
  obtain ⟨f3, m3⟩ := h9
  obtain ⟨e9, hJ, g, hg, hg0⟩ := hq
  obtain rfl := Sum.inl.inj e9
  obtain ⟨vs3, ho3⟩ := hJ.o
  show zVl G yL_law cL_law 9 (some .boolean) 12 1397 (zst1 [(0, .ref (zSc G).1), (1, .ref x), (2, .ref o), (3, .ref out), (4, .int i)] 5 (.int b)) [.int v] (f3, m3) Q
  refine zl_istore dL_law_1397 (by decide) ?_
  refine zl_aload_n dL_law_1399 rfl rfl ?_
  refine zl_callV (rest := []) (as := []) (vs := vs3) kL_98 gi_X4_thrown ge_X4_thrown rfl dL_law_1400 ho3 hJ.th rfl rfl (by decide) (Nat.le_of_ble_eq_true rfl) (fun v9 h9 hq => ?_) (fun E h9 hq => nomatch hq.1)
  obtain ⟨f4, m4⟩ := h9
  obtain ⟨e9, e4, e5⟩ := hq
  obtain rfl := Sum.inl.inj e9
  have e4 : f4 = f3 := e4
  have e5 : m4 = m3 := e5
  subst f4
  subst m4
  have fin : zVl G yL_law cL_law 9 (some .boolean) 12 1427 (zst1 (zst1 [(0, .ref (zSc G).1), (1, .ref x), (2, .ref o), (3, .ref out), (4, .int i)] 5 (.int b)) 6 (.int v)) [] (f3, m3) Q := by
    refine zl_goto 1705 dL_law_1427 (by decide) ?_
    exact zl_loc (lv' := [(0, .ref (zSc G).1), (1, .ref x), (2, .ref o), (3, .ref out), (4, .int i)]) ⟨rfl, rfl, rfl, rfl, rfl, trivial⟩ (kk f3 m3 b hJ ⟨g, hg⟩)
  show zVl G yL_law cL_law 9 (some .boolean) 12 1403 (zst1 (zst1 [(0, .ref (zSc G).1), (1, .ref x), (2, .ref o), (3, .ref out), (4, .int i)] 5 (.int b)) 6 (.int v)) [.int b] (f3, m3) Q
  refine zl_iload dL_law_1403 rfl ?_
  refine zl_icmp_eq 1410 dL_law_1405 (by decide) (fun _ => ?_) (fun z => absurd rfl z)
  refine zl_iload dL_law_1410 rfl ?_
  refine zl_if_ne 1427 dL_law_1412 (by decide) (fun _ => fin) (fun z => ?_)
  have hgv : g (0 : Int32).toNatClampNeg = v.toInt64 := hg0 z
  refine zl_aload_n dL_law_1415 rfl rfl ?_
  refine zl_iconst (0) dL_law_1416 (by decide) ?_
  refine zl_laload (h := (f3, m3)) dL_law_1417 hg z01 ?_
  rw [hgv]
  refine zl_iload dL_law_1418 rfl ?_
  refine zl_i2l dL_law_1420 ?_
  refine zl_lcmpE dL_law_1421 ?_
  exact zl_if_eq 1427 dL_law_1422 (by decide) (fun _ => fin) (fun z => absurd rfl z)
set_option maxRecDepth 10000 in
set_option maxHeartbeats 1000000 in
theorem l_setting {G : zW} {f : zHM} {m : Nat × Nat} {x o out cap : Nat} {J : Nat × Nat} {Q : zOut → zH → Prop} {i : Int32} (hi1 : vp_in (i + 1) (zSc G).2.1) (hs : zSp G x o out cap J f m yL_setting cL_setting 4 [(0, 9, 12, 19)] yX4_setting cX4_setting 2 [.int ((zSc G).2.2 (i + 1).toNatClampNeg)]) (kk : ∀ f3 m3 (b3 : Int32), JI f3 m3 x o b3 cap J → (∃ g : Nat → Int64, f3 out = some (750, .inl (1, 1, .inr (.inl g)))) → zVl G yL_law cL_law 9 (some .boolean) 12 1705 [(0, .ref (zSc G).1), (1, .ref x), (2, .ref o), (3, .ref out), (4, .int i)] [] (f3, m3) Q) : zVl G yL_law cL_law 9 (some .boolean) 12 1430 [(0, .ref (zSc G).1), (1, .ref x), (2, .ref o), (3, .ref out), (4, .int i)] [] (f, m) Q := by
  obtain ⟨b, v, P1, hw, h2⟩ := hs
  refine zl_aload_n dL_law_1430 rfl rfl ?_
  refine zl_aload_n dL_law_1431 rfl rfl ?_
  refine zl_iload dL_law_1432 rfl ?_
  refine zl_iconst (1) dL_law_1434 (by decide) ?_
  refine zl_iadd dL_law_1435 ?_
  refine zl_sload dL_law_1436 hi1 ?_
  refine zl_aload_n dL_law_1437 rfl rfl ?_
  refine zl_callSH (rest := []) kw_setting gs_L_setting dL_law_1438 hw rfl rfl (by decide) (Nat.le_of_ble_eq_true rfl) (fun v9 h9 hq => ?_) (fun E h9 hq => nomatch hq.1)
  obtain ⟨f2, m2⟩ := h9
  obtain ⟨e9, hP⟩ := hq
  obtain rfl := Sum.inl.inj e9
  obtain ⟨⟨vs, ho⟩, hr⟩ := h2 f2 m2 hP
  show zVl G yL_law cL_law 9 (some .boolean) 12 1441 [(0, .ref (zSc G).1), (1, .ref x), (2, .ref o), (3, .ref out), (4, .int i)] [.int b] (f2, m2) Q
  refine zl_istore dL_law_1441 (by decide) ?_
  refine zl_aload_n dL_law_1443 rfl rfl ?_
  refine zl_aload_n dL_law_1444 rfl rfl ?_
  refine zl_iload dL_law_1445 rfl ?_
  refine zl_iconst (1) dL_law_1447 (by decide) ?_
  refine zl_iadd dL_law_1448 ?_
  refine zl_sload dL_law_1449 hi1 ?_
  refine zl_callV (rest := []) (vs := vs) kL_171 gi_X4_setting ge_X4_setting rfl dL_law_1450 ho hr rfl rfl (by decide) (Nat.le_of_ble_eq_true rfl) (fun v9 h9 hq => ?_) (fun E h9 hq => nomatch hq.1)
  obtain ⟨f3, m3⟩ := h9
  obtain ⟨e9, hJ, g, hg, hg0⟩ := hq
  obtain rfl := Sum.inl.inj e9
  obtain ⟨vs3, ho3⟩ := hJ.o
  show zVl G yL_law cL_law 9 (some .boolean) 12 1453 (zst1 [(0, .ref (zSc G).1), (1, .ref x), (2, .ref o), (3, .ref out), (4, .int i)] 5 (.int b)) [.int v] (f3, m3) Q
  refine zl_istore dL_law_1453 (by decide) ?_
  refine zl_aload_n dL_law_1455 rfl rfl ?_
  refine zl_callV (rest := []) (as := []) (vs := vs3) kL_98 gi_X4_thrown ge_X4_thrown rfl dL_law_1456 ho3 hJ.th rfl rfl (by decide) (Nat.le_of_ble_eq_true rfl) (fun v9 h9 hq => ?_) (fun E h9 hq => nomatch hq.1)
  obtain ⟨f4, m4⟩ := h9
  obtain ⟨e9, e4, e5⟩ := hq
  obtain rfl := Sum.inl.inj e9
  have e4 : f4 = f3 := e4
  have e5 : m4 = m3 := e5
  subst f4
  subst m4
  have fin : zVl G yL_law cL_law 9 (some .boolean) 12 1483 (zst1 (zst1 [(0, .ref (zSc G).1), (1, .ref x), (2, .ref o), (3, .ref out), (4, .int i)] 5 (.int b)) 6 (.int v)) [] (f3, m3) Q := by
    refine zl_goto 1705 dL_law_1483 (by decide) ?_
    exact zl_loc (lv' := [(0, .ref (zSc G).1), (1, .ref x), (2, .ref o), (3, .ref out), (4, .int i)]) ⟨rfl, rfl, rfl, rfl, rfl, trivial⟩ (kk f3 m3 b hJ ⟨g, hg⟩)
  show zVl G yL_law cL_law 9 (some .boolean) 12 1459 (zst1 (zst1 [(0, .ref (zSc G).1), (1, .ref x), (2, .ref o), (3, .ref out), (4, .int i)] 5 (.int b)) 6 (.int v)) [.int b] (f3, m3) Q
  refine zl_iload dL_law_1459 rfl ?_
  refine zl_icmp_eq 1466 dL_law_1461 (by decide) (fun _ => ?_) (fun z => absurd rfl z)
  refine zl_iload dL_law_1466 rfl ?_
  refine zl_if_ne 1483 dL_law_1468 (by decide) (fun _ => fin) (fun z => ?_)
  have hgv : g (0 : Int32).toNatClampNeg = v.toInt64 := hg0 z
  refine zl_aload_n dL_law_1471 rfl rfl ?_
  refine zl_iconst (0) dL_law_1472 (by decide) ?_
  refine zl_laload (h := (f3, m3)) dL_law_1473 hg z01 ?_
  rw [hgv]
  refine zl_iload dL_law_1474 rfl ?_
  refine zl_i2l dL_law_1476 ?_
  refine zl_lcmpE dL_law_1477 ?_
  exact zl_if_eq 1483 dL_law_1478 (by decide) (fun _ => fin) (fun z => absurd rfl z)
set_option maxRecDepth 10000 in
set_option maxHeartbeats 1000000 in
theorem l_whyNot {G : zW} {f : zHM} {m : Nat × Nat} {x o out cap : Nat} {J : Nat × Nat} {Q : zOut → zH → Prop} {i : Int32} (hi1 : vp_in (i + 1) (zSc G).2.1) (hs : zSp G x o out cap J f m yL_whyNot cL_whyNot 4 [(0, 9, 12, 19)] yX4_whyNot cX4_whyNot 2 [.int ((zSc G).2.2 (i + 1).toNatClampNeg)]) (kk : ∀ f3 m3 (b3 : Int32), JI f3 m3 x o b3 cap J → (∃ g : Nat → Int64, f3 out = some (750, .inl (1, 1, .inr (.inl g)))) → zVl G yL_law cL_law 9 (some .boolean) 12 1705 [(0, .ref (zSc G).1), (1, .ref x), (2, .ref o), (3, .ref out), (4, .int i)] [] (f3, m3) Q) : zVl G yL_law cL_law 9 (some .boolean) 12 1486 [(0, .ref (zSc G).1), (1, .ref x), (2, .ref o), (3, .ref out), (4, .int i)] [] (f, m) Q := by
  obtain ⟨b, v, P1, hw, h2⟩ := hs
  refine zl_aload_n dL_law_1486 rfl rfl ?_
  refine zl_aload_n dL_law_1487 rfl rfl ?_
  refine zl_iload dL_law_1488 rfl ?_
  refine zl_iconst (1) dL_law_1490 (by decide) ?_
  refine zl_iadd dL_law_1491 ?_
  refine zl_sload dL_law_1492 hi1 ?_
  refine zl_aload_n dL_law_1493 rfl rfl ?_
  refine zl_callSH (rest := []) kw_whyNot gs_L_whyNot dL_law_1494 hw rfl rfl (by decide) (Nat.le_of_ble_eq_true rfl) (fun v9 h9 hq => ?_) (fun E h9 hq => nomatch hq.1)
  obtain ⟨f2, m2⟩ := h9
  obtain ⟨e9, hP⟩ := hq
  obtain rfl := Sum.inl.inj e9
  obtain ⟨⟨vs, ho⟩, hr⟩ := h2 f2 m2 hP
  show zVl G yL_law cL_law 9 (some .boolean) 12 1497 [(0, .ref (zSc G).1), (1, .ref x), (2, .ref o), (3, .ref out), (4, .int i)] [.int b] (f2, m2) Q
  refine zl_istore dL_law_1497 (by decide) ?_
  refine zl_aload_n dL_law_1499 rfl rfl ?_
  refine zl_aload_n dL_law_1500 rfl rfl ?_
  refine zl_iload dL_law_1501 rfl ?_
  refine zl_iconst (1) dL_law_1503 (by decide) ?_
  refine zl_iadd dL_law_1504 ?_
  refine zl_sload dL_law_1505 hi1 ?_
  refine zl_callV (rest := []) (vs := vs) kL_174 gi_X4_whyNot ge_X4_whyNot rfl dL_law_1506 ho hr rfl rfl (by decide) (Nat.le_of_ble_eq_true rfl) (fun v9 h9 hq => ?_) (fun E h9 hq => nomatch hq.1)
  obtain ⟨f3, m3⟩ := h9
  obtain ⟨e9, hJ, g, hg, hg0⟩ := hq
  obtain rfl := Sum.inl.inj e9
  obtain ⟨vs3, ho3⟩ := hJ.o
  show zVl G yL_law cL_law 9 (some .boolean) 12 1509 (zst1 [(0, .ref (zSc G).1), (1, .ref x), (2, .ref o), (3, .ref out), (4, .int i)] 5 (.int b)) [.int v] (f3, m3) Q
  refine zl_istore dL_law_1509 (by decide) ?_
  refine zl_aload_n dL_law_1511 rfl rfl ?_
  refine zl_callV (rest := []) (as := []) (vs := vs3) kL_98 gi_X4_thrown ge_X4_thrown rfl dL_law_1512 ho3 hJ.th rfl rfl (by decide) (Nat.le_of_ble_eq_true rfl) (fun v9 h9 hq => ?_) (fun E h9 hq => nomatch hq.1)
  obtain ⟨f4, m4⟩ := h9
  obtain ⟨e9, e4, e5⟩ := hq
  obtain rfl := Sum.inl.inj e9
  have e4 : f4 = f3 := e4
  have e5 : m4 = m3 := e5
  subst f4
  subst m4
  have fin : zVl G yL_law cL_law 9 (some .boolean) 12 1539 (zst1 (zst1 [(0, .ref (zSc G).1), (1, .ref x), (2, .ref o), (3, .ref out), (4, .int i)] 5 (.int b)) 6 (.int v)) [] (f3, m3) Q := by
    refine zl_goto 1705 dL_law_1539 (by decide) ?_
    exact zl_loc (lv' := [(0, .ref (zSc G).1), (1, .ref x), (2, .ref o), (3, .ref out), (4, .int i)]) ⟨rfl, rfl, rfl, rfl, rfl, trivial⟩ (kk f3 m3 b hJ ⟨g, hg⟩)
  show zVl G yL_law cL_law 9 (some .boolean) 12 1515 (zst1 (zst1 [(0, .ref (zSc G).1), (1, .ref x), (2, .ref o), (3, .ref out), (4, .int i)] 5 (.int b)) 6 (.int v)) [.int b] (f3, m3) Q
  refine zl_iload dL_law_1515 rfl ?_
  refine zl_icmp_eq 1522 dL_law_1517 (by decide) (fun _ => ?_) (fun z => absurd rfl z)
  refine zl_iload dL_law_1522 rfl ?_
  refine zl_if_ne 1539 dL_law_1524 (by decide) (fun _ => fin) (fun z => ?_)
  have hgv : g (0 : Int32).toNatClampNeg = v.toInt64 := hg0 z
  refine zl_aload_n dL_law_1527 rfl rfl ?_
  refine zl_iconst (0) dL_law_1528 (by decide) ?_
  refine zl_laload (h := (f3, m3)) dL_law_1529 hg z01 ?_
  rw [hgv]
  refine zl_iload dL_law_1530 rfl ?_
  refine zl_i2l dL_law_1532 ?_
  refine zl_lcmpE dL_law_1533 ?_
  exact zl_if_eq 1539 dL_law_1534 (by decide) (fun _ => fin) (fun z => absurd rfl z)
set_option maxRecDepth 10000 in
set_option maxHeartbeats 1000000 in
theorem l_gain {G : zW} {f : zHM} {m : Nat × Nat} {x o out cap : Nat} {J : Nat × Nat} {Q : zOut → zH → Prop} {i : Int32} (hi1 : vp_in (i + 1) (zSc G).2.1) (hs : zSp G x o out cap J f m yL_gain cL_gain 4 [(0, 9, 12, 19)] yX4_gain cX4_gain 2 [.int ((zSc G).2.2 (i + 1).toNatClampNeg)]) (kk : ∀ f3 m3 (b3 : Int32), JI f3 m3 x o b3 cap J → (∃ g : Nat → Int64, f3 out = some (750, .inl (1, 1, .inr (.inl g)))) → zVl G yL_law cL_law 9 (some .boolean) 12 1705 [(0, .ref (zSc G).1), (1, .ref x), (2, .ref o), (3, .ref out), (4, .int i)] [] (f3, m3) Q) : zVl G yL_law cL_law 9 (some .boolean) 12 1542 [(0, .ref (zSc G).1), (1, .ref x), (2, .ref o), (3, .ref out), (4, .int i)] [] (f, m) Q := by
  obtain ⟨b, v, P1, hw, h2⟩ := hs
  refine zl_aload_n dL_law_1542 rfl rfl ?_
  refine zl_aload_n dL_law_1543 rfl rfl ?_
  refine zl_iload dL_law_1544 rfl ?_
  refine zl_iconst (1) dL_law_1546 (by decide) ?_
  refine zl_iadd dL_law_1547 ?_
  refine zl_sload dL_law_1548 hi1 ?_
  refine zl_aload_n dL_law_1549 rfl rfl ?_
  refine zl_callSH (rest := []) kw_gain gs_L_gain dL_law_1550 hw rfl rfl (by decide) (Nat.le_of_ble_eq_true rfl) (fun v9 h9 hq => ?_) (fun E h9 hq => nomatch hq.1)
  obtain ⟨f2, m2⟩ := h9
  obtain ⟨e9, hP⟩ := hq
  obtain rfl := Sum.inl.inj e9
  obtain ⟨⟨vs, ho⟩, hr⟩ := h2 f2 m2 hP
  show zVl G yL_law cL_law 9 (some .boolean) 12 1553 [(0, .ref (zSc G).1), (1, .ref x), (2, .ref o), (3, .ref out), (4, .int i)] [.int b] (f2, m2) Q
  refine zl_istore dL_law_1553 (by decide) ?_
  refine zl_aload_n dL_law_1555 rfl rfl ?_
  refine zl_aload_n dL_law_1556 rfl rfl ?_
  refine zl_iload dL_law_1557 rfl ?_
  refine zl_iconst (1) dL_law_1559 (by decide) ?_
  refine zl_iadd dL_law_1560 ?_
  refine zl_sload dL_law_1561 hi1 ?_
  refine zl_callV (rest := []) (vs := vs) kL_177 gi_X4_gain ge_X4_gain rfl dL_law_1562 ho hr rfl rfl (by decide) (Nat.le_of_ble_eq_true rfl) (fun v9 h9 hq => ?_) (fun E h9 hq => nomatch hq.1)
  obtain ⟨f3, m3⟩ := h9
  obtain ⟨e9, hJ, g, hg, hg0⟩ := hq
  obtain rfl := Sum.inl.inj e9
  obtain ⟨vs3, ho3⟩ := hJ.o
  show zVl G yL_law cL_law 9 (some .boolean) 12 1565 (zst1 [(0, .ref (zSc G).1), (1, .ref x), (2, .ref o), (3, .ref out), (4, .int i)] 5 (.int b)) [.int v] (f3, m3) Q
  refine zl_istore dL_law_1565 (by decide) ?_
  refine zl_aload_n dL_law_1567 rfl rfl ?_
  refine zl_callV (rest := []) (as := []) (vs := vs3) kL_98 gi_X4_thrown ge_X4_thrown rfl dL_law_1568 ho3 hJ.th rfl rfl (by decide) (Nat.le_of_ble_eq_true rfl) (fun v9 h9 hq => ?_) (fun E h9 hq => nomatch hq.1)
  obtain ⟨f4, m4⟩ := h9
  obtain ⟨e9, e4, e5⟩ := hq
  obtain rfl := Sum.inl.inj e9
  have e4 : f4 = f3 := e4
  have e5 : m4 = m3 := e5
  subst f4
  subst m4
  have fin : zVl G yL_law cL_law 9 (some .boolean) 12 1595 (zst1 (zst1 [(0, .ref (zSc G).1), (1, .ref x), (2, .ref o), (3, .ref out), (4, .int i)] 5 (.int b)) 6 (.int v)) [] (f3, m3) Q := by
    refine zl_goto 1705 dL_law_1595 (by decide) ?_
    exact zl_loc (lv' := [(0, .ref (zSc G).1), (1, .ref x), (2, .ref o), (3, .ref out), (4, .int i)]) ⟨rfl, rfl, rfl, rfl, rfl, trivial⟩ (kk f3 m3 b hJ ⟨g, hg⟩)
  show zVl G yL_law cL_law 9 (some .boolean) 12 1571 (zst1 (zst1 [(0, .ref (zSc G).1), (1, .ref x), (2, .ref o), (3, .ref out), (4, .int i)] 5 (.int b)) 6 (.int v)) [.int b] (f3, m3) Q
  refine zl_iload dL_law_1571 rfl ?_
  refine zl_icmp_eq 1578 dL_law_1573 (by decide) (fun _ => ?_) (fun z => absurd rfl z)
  refine zl_iload dL_law_1578 rfl ?_
  refine zl_if_ne 1595 dL_law_1580 (by decide) (fun _ => fin) (fun z => ?_)
  have hgv : g (0 : Int32).toNatClampNeg = v.toInt64 := hg0 z
  refine zl_aload_n dL_law_1583 rfl rfl ?_
  refine zl_iconst (0) dL_law_1584 (by decide) ?_
  refine zl_laload (h := (f3, m3)) dL_law_1585 hg z01 ?_
  rw [hgv]
  refine zl_iload dL_law_1586 rfl ?_
  refine zl_i2l dL_law_1588 ?_
  refine zl_lcmpE dL_law_1589 ?_
  exact zl_if_eq 1595 dL_law_1590 (by decide) (fun _ => fin) (fun z => absurd rfl z)
set_option maxRecDepth 10000 in
set_option maxHeartbeats 1000000 in
theorem l_best {G : zW} {f : zHM} {m : Nat × Nat} {x o out cap : Nat} {J : Nat × Nat} {Q : zOut → zH → Prop} {i : Int32} {vx : List Value} (hx : f x = some (600, .inr (3, vx))) (hs : zSq Value.int .int G x o out cap J f m yX3_best cX3_best 1 6 yX4_best cX4_best 1) (kk : ∀ f3 m3 (b3 : Int32), JI f3 m3 x o b3 cap J → (∃ g : Nat → Int64, f3 out = some (750, .inl (1, 1, .inr (.inl g)))) → zVl G yL_law cL_law 9 (some .boolean) 12 1705 [(0, .ref (zSc G).1), (1, .ref x), (2, .ref o), (3, .ref out), (4, .int i)] [] (f3, m3) Q) : zVl G yL_law cL_law 9 (some .boolean) 12 1598 [(0, .ref (zSc G).1), (1, .ref x), (2, .ref o), (3, .ref out), (4, .int i)] [] (f, m) Q := by
  obtain ⟨v, P1, hw, h2⟩ := hs
  refine zl_aload_n dL_law_1598 rfl rfl ?_
  refine zl_callV (rest := []) (as := []) (vs := vx) kL_178 gi_X3_best ge_X3_best rfl dL_law_1599 hx hw rfl rfl (by decide) (Nat.le_of_ble_eq_true rfl) (fun v9 h9 hq => ?_) (fun E h9 hq => nomatch hq.1)
  obtain ⟨f2, m2⟩ := h9
  obtain ⟨e9, hP⟩ := hq
  obtain rfl := Sum.inl.inj e9
  obtain ⟨⟨vs, ho⟩, hr⟩ := h2 f2 m2 hP
  show zVl G yL_law cL_law 9 (some .boolean) 12 1602 [(0, .ref (zSc G).1), (1, .ref x), (2, .ref o), (3, .ref out), (4, .int i)] [Value.int v] (f2, m2) Q
  refine zl_aload_n dL_law_1602 rfl rfl ?_
  refine zl_callV (rest := [Value.int v]) (as := []) (vs := vs) kL_181 gi_X4_best ge_X4_best rfl dL_law_1603 ho hr rfl rfl (by decide) (Nat.le_of_ble_eq_true rfl) (fun v9 h9 hq => ?_) (fun E h9 hq => nomatch hq.1)
  obtain ⟨f3, m3⟩ := h9
  obtain ⟨e9, hJ, hg⟩ := hq
  obtain rfl := Sum.inl.inj e9
  show zVl G yL_law cL_law 9 (some .boolean) 12 1606 [(0, .ref (zSc G).1), (1, .ref x), (2, .ref o), (3, .ref out), (4, .int i)] [Value.int v, Value.int v] (f3, m3) Q
  exact zl_icmp_eq 1705 dL_law_1606 (by decide) (fun _ => kk f3 m3 0 hJ hg) (fun z => absurd rfl z)
set_option maxRecDepth 10000 in
set_option maxHeartbeats 1000000 in
theorem l_bestTwo {G : zW} {f : zHM} {m : Nat × Nat} {x o out cap : Nat} {J : Nat × Nat} {Q : zOut → zH → Prop} {i : Int32} {vx : List Value} (hx : f x = some (600, .inr (3, vx))) (hs : zSq Value.int .int G x o out cap J f m yX3_bestTwo cX3_bestTwo 6 7 yX4_bestTwo cX4_bestTwo 1) (kk : ∀ f3 m3 (b3 : Int32), JI f3 m3 x o b3 cap J → (∃ g : Nat → Int64, f3 out = some (750, .inl (1, 1, .inr (.inl g)))) → zVl G yL_law cL_law 9 (some .boolean) 12 1705 [(0, .ref (zSc G).1), (1, .ref x), (2, .ref o), (3, .ref out), (4, .int i)] [] (f3, m3) Q) : zVl G yL_law cL_law 9 (some .boolean) 12 1611 [(0, .ref (zSc G).1), (1, .ref x), (2, .ref o), (3, .ref out), (4, .int i)] [] (f, m) Q := by
  obtain ⟨v, P1, hw, h2⟩ := hs
  refine zl_aload_n dL_law_1611 rfl rfl ?_
  refine zl_callV (rest := []) (as := []) (vs := vx) kL_182 gi_X3_bestTwo ge_X3_bestTwo rfl dL_law_1612 hx hw rfl rfl (by decide) (Nat.le_of_ble_eq_true rfl) (fun v9 h9 hq => ?_) (fun E h9 hq => nomatch hq.1)
  obtain ⟨f2, m2⟩ := h9
  obtain ⟨e9, hP⟩ := hq
  obtain rfl := Sum.inl.inj e9
  obtain ⟨⟨vs, ho⟩, hr⟩ := h2 f2 m2 hP
  show zVl G yL_law cL_law 9 (some .boolean) 12 1615 [(0, .ref (zSc G).1), (1, .ref x), (2, .ref o), (3, .ref out), (4, .int i)] [Value.int v] (f2, m2) Q
  refine zl_aload_n dL_law_1615 rfl rfl ?_
  refine zl_callV (rest := [Value.int v]) (as := []) (vs := vs) kL_185 gi_X4_bestTwo ge_X4_bestTwo rfl dL_law_1616 ho hr rfl rfl (by decide) (Nat.le_of_ble_eq_true rfl) (fun v9 h9 hq => ?_) (fun E h9 hq => nomatch hq.1)
  obtain ⟨f3, m3⟩ := h9
  obtain ⟨e9, hJ, hg⟩ := hq
  obtain rfl := Sum.inl.inj e9
  show zVl G yL_law cL_law 9 (some .boolean) 12 1619 [(0, .ref (zSc G).1), (1, .ref x), (2, .ref o), (3, .ref out), (4, .int i)] [Value.int v, Value.int v] (f3, m3) Q
  exact zl_icmp_eq 1705 dL_law_1619 (by decide) (fun _ => kk f3 m3 0 hJ hg) (fun z => absurd rfl z)
set_option maxRecDepth 10000 in
set_option maxHeartbeats 1000000 in
theorem l_palest {G : zW} {f : zHM} {m : Nat × Nat} {x o out cap : Nat} {J : Nat × Nat} {Q : zOut → zH → Prop} {i : Int32} {vx : List Value} (hx : f x = some (600, .inr (3, vx))) (hs : zSq Value.int .int G x o out cap J f m yX3_palest cX3_palest 5 7 yX4_palest cX4_palest 1) (kk : ∀ f3 m3 (b3 : Int32), JI f3 m3 x o b3 cap J → (∃ g : Nat → Int64, f3 out = some (750, .inl (1, 1, .inr (.inl g)))) → zVl G yL_law cL_law 9 (some .boolean) 12 1705 [(0, .ref (zSc G).1), (1, .ref x), (2, .ref o), (3, .ref out), (4, .int i)] [] (f3, m3) Q) : zVl G yL_law cL_law 9 (some .boolean) 12 1624 [(0, .ref (zSc G).1), (1, .ref x), (2, .ref o), (3, .ref out), (4, .int i)] [] (f, m) Q := by
  obtain ⟨v, P1, hw, h2⟩ := hs
  refine zl_aload_n dL_law_1624 rfl rfl ?_
  refine zl_callV (rest := []) (as := []) (vs := vx) kL_186 gi_X3_palest ge_X3_palest rfl dL_law_1625 hx hw rfl rfl (by decide) (Nat.le_of_ble_eq_true rfl) (fun v9 h9 hq => ?_) (fun E h9 hq => nomatch hq.1)
  obtain ⟨f2, m2⟩ := h9
  obtain ⟨e9, hP⟩ := hq
  obtain rfl := Sum.inl.inj e9
  obtain ⟨⟨vs, ho⟩, hr⟩ := h2 f2 m2 hP
  show zVl G yL_law cL_law 9 (some .boolean) 12 1628 [(0, .ref (zSc G).1), (1, .ref x), (2, .ref o), (3, .ref out), (4, .int i)] [Value.int v] (f2, m2) Q
  refine zl_aload_n dL_law_1628 rfl rfl ?_
  refine zl_callV (rest := [Value.int v]) (as := []) (vs := vs) kL_189 gi_X4_palest ge_X4_palest rfl dL_law_1629 ho hr rfl rfl (by decide) (Nat.le_of_ble_eq_true rfl) (fun v9 h9 hq => ?_) (fun E h9 hq => nomatch hq.1)
  obtain ⟨f3, m3⟩ := h9
  obtain ⟨e9, hJ, hg⟩ := hq
  obtain rfl := Sum.inl.inj e9
  show zVl G yL_law cL_law 9 (some .boolean) 12 1632 [(0, .ref (zSc G).1), (1, .ref x), (2, .ref o), (3, .ref out), (4, .int i)] [Value.int v, Value.int v] (f3, m3) Q
  exact zl_icmp_eq 1705 dL_law_1632 (by decide) (fun _ => kk f3 m3 0 hJ hg) (fun z => absurd rfl z)
set_option maxRecDepth 10000 in
set_option maxHeartbeats 1000000 in
theorem l_bestSpool {G : zW} {f : zHM} {m : Nat × Nat} {x o out cap : Nat} {J : Nat × Nat} {Q : zOut → zH → Prop} {i : Int32} {vx : List Value} (hx : f x = some (600, .inr (3, vx))) (hs : zSq Value.int .int G x o out cap J f m yX3_bestSpool cX3_bestSpool 6 7 yX4_bestSpool cX4_bestSpool 1) (kk : ∀ f3 m3 (b3 : Int32), JI f3 m3 x o b3 cap J → (∃ g : Nat → Int64, f3 out = some (750, .inl (1, 1, .inr (.inl g)))) → zVl G yL_law cL_law 9 (some .boolean) 12 1705 [(0, .ref (zSc G).1), (1, .ref x), (2, .ref o), (3, .ref out), (4, .int i)] [] (f3, m3) Q) : zVl G yL_law cL_law 9 (some .boolean) 12 1637 [(0, .ref (zSc G).1), (1, .ref x), (2, .ref o), (3, .ref out), (4, .int i)] [] (f, m) Q := by
  obtain ⟨v, P1, hw, h2⟩ := hs
  refine zl_aload_n dL_law_1637 rfl rfl ?_
  refine zl_callV (rest := []) (as := []) (vs := vx) kL_190 gi_X3_bestSpool ge_X3_bestSpool rfl dL_law_1638 hx hw rfl rfl (by decide) (Nat.le_of_ble_eq_true rfl) (fun v9 h9 hq => ?_) (fun E h9 hq => nomatch hq.1)
  obtain ⟨f2, m2⟩ := h9
  obtain ⟨e9, hP⟩ := hq
  obtain rfl := Sum.inl.inj e9
  obtain ⟨⟨vs, ho⟩, hr⟩ := h2 f2 m2 hP
  show zVl G yL_law cL_law 9 (some .boolean) 12 1641 [(0, .ref (zSc G).1), (1, .ref x), (2, .ref o), (3, .ref out), (4, .int i)] [Value.int v] (f2, m2) Q
  refine zl_aload_n dL_law_1641 rfl rfl ?_
  refine zl_callV (rest := [Value.int v]) (as := []) (vs := vs) kL_193 gi_X4_bestSpool ge_X4_bestSpool rfl dL_law_1642 ho hr rfl rfl (by decide) (Nat.le_of_ble_eq_true rfl) (fun v9 h9 hq => ?_) (fun E h9 hq => nomatch hq.1)
  obtain ⟨f3, m3⟩ := h9
  obtain ⟨e9, hJ, hg⟩ := hq
  obtain rfl := Sum.inl.inj e9
  show zVl G yL_law cL_law 9 (some .boolean) 12 1645 [(0, .ref (zSc G).1), (1, .ref x), (2, .ref o), (3, .ref out), (4, .int i)] [Value.int v, Value.int v] (f3, m3) Q
  exact zl_icmp_eq 1705 dL_law_1645 (by decide) (fun _ => kk f3 m3 0 hJ hg) (fun z => absurd rfl z)
set_option maxRecDepth 10000 in
set_option maxHeartbeats 1000000 in
theorem l_shownShare {G : zW} {f : zHM} {m : Nat × Nat} {x o out cap : Nat} {J : Nat × Nat} {Q : zOut → zH → Prop} {i : Int32} {vx : List Value} (hx : f x = some (600, .inr (3, vx))) (hs : zSq Value.double .double G x o out cap J f m yX3_shownShare cX3_shownShare 1 7 yX4_shownShare cX4_shownShare 1) (kk : ∀ f3 m3 (b3 : Int32), JI f3 m3 x o b3 cap J → (∃ g : Nat → Int64, f3 out = some (750, .inl (1, 1, .inr (.inl g)))) → zVl G yL_law cL_law 9 (some .boolean) 12 1705 [(0, .ref (zSc G).1), (1, .ref x), (2, .ref o), (3, .ref out), (4, .int i)] [] (f3, m3) Q) : zVl G yL_law cL_law 9 (some .boolean) 12 1650 [(0, .ref (zSc G).1), (1, .ref x), (2, .ref o), (3, .ref out), (4, .int i)] [] (f, m) Q := by
  obtain ⟨v, P1, hw, h2⟩ := hs
  refine zl_aload_n dL_law_1650 rfl rfl ?_
  refine zl_callV (rest := []) (as := []) (vs := vx) kL_194 gi_X3_shownShare ge_X3_shownShare rfl dL_law_1651 hx hw rfl rfl (by decide) (Nat.le_of_ble_eq_true rfl) (fun v9 h9 hq => ?_) (fun E h9 hq => nomatch hq.1)
  obtain ⟨f2, m2⟩ := h9
  obtain ⟨e9, hP⟩ := hq
  obtain rfl := Sum.inl.inj e9
  obtain ⟨⟨vs, ho⟩, hr⟩ := h2 f2 m2 hP
  show zVl G yL_law cL_law 9 (some .boolean) 12 1654 [(0, .ref (zSc G).1), (1, .ref x), (2, .ref o), (3, .ref out), (4, .int i)] [Value.double v] (f2, m2) Q
  refine zl_dstore dL_law_1654 (by decide) ?_
  refine zl_aload_n dL_law_1656 rfl rfl ?_
  refine zl_callV (rest := []) (as := []) (vs := vs) kL_198 gi_X4_shownShare ge_X4_shownShare rfl dL_law_1657 ho hr rfl rfl (by decide) (Nat.le_of_ble_eq_true rfl) (fun v9 h9 hq => ?_) (fun E h9 hq => nomatch hq.1)
  obtain ⟨f3, m3⟩ := h9
  obtain ⟨e9, hJ, hg⟩ := hq
  obtain rfl := Sum.inl.inj e9
  show zVl G yL_law cL_law 9 (some .boolean) 12 1660 (zst2 [(0, .ref (zSc G).1), (1, .ref x), (2, .ref o), (3, .ref out), (4, .int i)] 5 (.double v)) [Value.double v] (f3, m3) Q
  refine zl_dstore dL_law_1660 (by decide) ?_
  have fin : zVl G yL_law cL_law 9 (some .boolean) 12 1688 (zst2 (zst2 [(0, .ref (zSc G).1), (1, .ref x), (2, .ref o), (3, .ref out), (4, .int i)] 5 (.double v)) 7 (.double v)) [] (f3, m3) Q := by
    refine zl_goto 1705 dL_law_1688 (by decide) ?_
    exact zl_loc (lv' := [(0, .ref (zSc G).1), (1, .ref x), (2, .ref o), (3, .ref out), (4, .int i)]) ⟨rfl, rfl, rfl, rfl, rfl, trivial⟩ (kk f3 m3 0 hJ hg)
  refine zl_dload dL_law_1662 rfl ?_
  refine zl_dload dL_law_1664 rfl ?_
  refine zl_dcmp dL_law_1666 ?_
  refine zl_if_eq 1688 dL_law_1667 (by decide) (fun _ => fin) (fun z => ?_)
  refine zl_dload dL_law_1670 rfl ?_
  refine zl_dload dL_law_1672 rfl ?_
  refine zl_dcmp dL_law_1674 ?_
  refine zl_if_eq 1686 dL_law_1675 (by decide) (fun z9 => absurd z9 z) (fun _ => ?_)
  refine zl_dload dL_law_1678 rfl ?_
  refine zl_dload dL_law_1680 rfl ?_
  refine zl_dcmp dL_law_1682 ?_
  exact zl_if_ne 1688 dL_law_1683 (by decide) (fun _ => fin) (fun z9 => absurd z9 z)
set_option maxRecDepth 10000 in
set_option maxHeartbeats 1000000 in
theorem l_digest {G : zW} {f : zHM} {m : Nat × Nat} {x o out cap : Nat} {J : Nat × Nat} {Q : zOut → zH → Prop} {i : Int32} {vx : List Value} (hx : f x = some (600, .inr (3, vx))) (hs : zSq Value.long .long G x o out cap J f m yX3_digest cX3_digest 4 9 yX4_digest cX4_digest 2) (kk : ∀ f3 m3 (b3 : Int32), JI f3 m3 x o b3 cap J → (∃ g : Nat → Int64, f3 out = some (750, .inl (1, 1, .inr (.inl g)))) → zVl G yL_law cL_law 9 (some .boolean) 12 1705 [(0, .ref (zSc G).1), (1, .ref x), (2, .ref o), (3, .ref out), (4, .int i)] [] (f3, m3) Q) : zVl G yL_law cL_law 9 (some .boolean) 12 1691 [(0, .ref (zSc G).1), (1, .ref x), (2, .ref o), (3, .ref out), (4, .int i)] [] (f, m) Q := by
  obtain ⟨v, P1, hw, h2⟩ := hs
  refine zl_aload_n dL_law_1691 rfl rfl ?_
  refine zl_callV (rest := []) (as := []) (vs := vx) kL_199 gi_X3_digest ge_X3_digest rfl dL_law_1692 hx hw rfl rfl (by decide) (Nat.le_of_ble_eq_true rfl) (fun v9 h9 hq => ?_) (fun E h9 hq => nomatch hq.1)
  obtain ⟨f2, m2⟩ := h9
  obtain ⟨e9, hP⟩ := hq
  obtain rfl := Sum.inl.inj e9
  obtain ⟨⟨vs, ho⟩, hr⟩ := h2 f2 m2 hP
  show zVl G yL_law cL_law 9 (some .boolean) 12 1695 [(0, .ref (zSc G).1), (1, .ref x), (2, .ref o), (3, .ref out), (4, .int i)] [Value.long v] (f2, m2) Q
  refine zl_aload_n dL_law_1695 rfl rfl ?_
  refine zl_callV (rest := [Value.long v]) (as := []) (vs := vs) kL_203 gi_X4_digest ge_X4_digest rfl dL_law_1696 ho hr rfl rfl (by decide) (Nat.le_of_ble_eq_true rfl) (fun v9 h9 hq => ?_) (fun E h9 hq => nomatch hq.1)
  obtain ⟨f3, m3⟩ := h9
  obtain ⟨e9, hJ, hg⟩ := hq
  obtain rfl := Sum.inl.inj e9
  show zVl G yL_law cL_law 9 (some .boolean) 12 1699 [(0, .ref (zSc G).1), (1, .ref x), (2, .ref o), (3, .ref out), (4, .int i)] [Value.long v, Value.long v] (f3, m3) Q
  refine zl_lcmpE dL_law_1699 ?_
  exact zl_if_eq 1705 dL_law_1700 (by decide) (fun _ => kk f3 m3 0 hJ hg) (fun z => absurd rfl z)
