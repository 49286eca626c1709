/-! THE WORLD AT THE LAW'S START. -/
theorem arrK {s : State} {args : Array Value} {ty : FieldType} (h : (Cond.arrayClass ty).before args s = true) : ∃ c, ArrOfT s c ty ∧ s.vm.findClass ("[" ++ ty.toString) = some c := by
  obtain ⟨c, k, comp, h1, h2, h3⟩ := Cond.arrayClass_spec h
  exact ⟨c, fun n z => ⟨fun k h => (by cases h), k, h2, comp, h3⟩, h1⟩
theorem arrO {s : State} {args : Array Value} {C : String} (h : (Cond.arrayOver (.object C)).before args s = true) : ∃ c, ArrOfT s c (.object C) ∧ va_RA s c (.object C) := by
  obtain ⟨comp, c, k, h1, h2, h3, h4, h5⟩ := Cond.arrayOver_spec h
  exact ⟨c, fun n z => ⟨fun k h => (by cases h), k, h3, comp, h4⟩, k, comp, h3, h4, h1, h5⟩
theorem no_trace {l : Launch} (h : l.flags = flags0) : l.stackTraces = false := by
  unfold Launch.stackTraces
  rw [h]
  decide +kernel
theorem GTall {s : State} {args : Array Value} (hts : ∀ w ∈ lw_tbl, w.before args s = true) : ∀ w ∈ GT, w.before args s = true := fun w hw => hts w (List.mem_filter.mp hw).1
set_option maxRecDepth 10000 in
set_option maxHeartbeats 4000000 in
theorem lw_world {s : State} {l : Launch} {b L : Nat} {xs : Nat → Int32} (hst : l.stackTraces = false) (hts : ∀ w ∈ lw_tbl, w.before #[Value.ref b] s = true) (hX : va_X b L xs s s.heap) (hbl : b < s.heap.size) (hgv : (Jvm.Cond.and given_1 narrow_1).before #[Value.ref b] s = true) : ∃ (D : va_G) (K : Nat → ClassId) (t1 t2 : Nat), zG (l, D, K, s.heap.size, t1, t2, b, L, xs) s s.heap := by
  have hs := flat_of_before _ hgv
  have hA : ∀ a : Nat, a < s.heap.size → ¬ s.heap.size ≤ a := fun a h => Nat.not_le.mpr h
  obtain ⟨d0, e0, k0⟩ := u_known (C := RX0) (T := TX0) (N := 2) (n := 2) (GTall hts) inX0 (hts _ (List.mem_of_getElem? (i := 296) (by decide +kernel)))
  obtain ⟨d1, e1, k1⟩ := u_known (C := RX1) (T := TX1) (N := 19) (n := 19) (GTall hts) inX1 (hts _ (List.mem_of_getElem? (i := 45) (by decide +kernel)))
  obtain ⟨d2, e2, k2⟩ := u_known (C := RX2) (T := TX2) (N := 2) (n := 2) (GTall hts) inX2 (hts _ (List.mem_of_getElem? (i := 28) (by decide +kernel)))
  obtain ⟨d3, e3, k3⟩ := u_known (C := RX3) (T := TX3) (N := 7) (n := 7) (GTall hts) inX3 (hts _ (List.mem_of_getElem? (i := 20) (by decide +kernel)))
  obtain ⟨a0, p0, r0⟩ := arrK (ty := .int) (hts _ (List.mem_of_getElem? (i := 39) (by decide +kernel)))
  obtain ⟨a3, p3, r3⟩ := arrK (ty := .char) (hts _ (List.mem_of_getElem? (i := 40) (by decide +kernel)))
  obtain ⟨a4, p4, r4⟩ := arrO (C := "RingThreads$Line") (hts _ (List.mem_of_getElem? (i := 44) (by decide +kernel)))
  obtain ⟨a5, p5, r5⟩ := arrO (C := "RingThreads$Ring") (hts _ (List.mem_of_getElem? (i := 42) (by decide +kernel)))
  obtain ⟨t1, t1e, t1T⟩ := va_Tof (args := #[Value.ref b]) (s := s) (tm := .static "RingThreads" "AROUND" "[I") (ty := .int) (N := 24) (f := fun j => .int (zAR.getD j 0)) (A := fun q => s.heap.size ≤ q) (by decide) (hs _ (by decide +kernel)) (va_eqt (hs _ (by decide +kernel))) (fun j hj => va_eqt (hs _ (by revert j; decide +kernel))) hA
  have t1Z := va_Zof (A := fun q => s.heap.size ≤ q) (hts _ (List.mem_of_getElem? (i := 319) (by decide +kernel))) (hts _ (List.mem_of_getElem? (i := 6) (by decide +kernel))) t1e hA
  obtain ⟨t2, t2e, t2T⟩ := va_Tof (args := #[Value.ref b]) (s := s) (tm := .static "RingThreads" "MOST_SETTING" "[I") (ty := .int) (N := 3) (f := fun j => .int (zMS.getD j 0)) (A := fun q => s.heap.size ≤ q) (by decide) (hs _ (by decide +kernel)) (va_eqt (hs _ (by decide +kernel))) (fun j hj => va_eqt (hs _ (by revert j; decide +kernel))) hA
  have t2Z := va_Zof (A := fun q => s.heap.size ≤ q) (hts _ (List.mem_of_getElem? (i := 446) (by decide +kernel))) (hts _ (List.mem_of_getElem? (i := 6) (by decide +kernel))) t2e hA
  refine ⟨(fun c => match c with | 0 => d0 | 1 => d1 | 2 => d2 | _ => d3, fun c => match c with | 0 => e0 | 1 => e1 | 2 => e2 | _ => e3), fun c => match c with | 0 => a0 | 1 => a0 | 2 => a0 | 3 => a3 | 4 => a4 | _ => a5, t1, t2, ⟨hst, hbl, hX⟩, ⟨?_, ?_⟩, ⟨t1Z, t1T⟩, ⟨t2Z, t2T⟩, vx_Zqof (hts _ (List.mem_of_getElem? (i := 182) (by decide +kernel))) (hts _ (List.mem_of_getElem? (i := 9) (by decide +kernel))) (hs _ (by decide +kernel)) hA, vx_Zqof (hts _ (List.mem_of_getElem? (i := 184) (by decide +kernel))) (hts _ (List.mem_of_getElem? (i := 9) (by decide +kernel))) (hs _ (by decide +kernel)) hA, ?_, va_Nw.of rfl (hts _ (List.mem_of_getElem? (i := 318) (by decide +kernel))), va_Nw.of rfl (hts _ (List.mem_of_getElem? (i := 29) (by decide +kernel))), ?_, ?_, ?_, ?_⟩
  · intro c q h
    match c, h with
    | 0, h => cases h; exact k0
    | 1, h => cases h; exact k1
    | 2, h => cases h; exact k2
    | 3, h => cases h; exact k3
    | _ + 4, h => cases h
  · intro c q h
    match c, h with
    | 0, h => cases h; exact ⟨p0, r0⟩
    | 1, h => cases h; exact ⟨p0, r0⟩
    | 2, h => cases h; exact ⟨p0, r0⟩
    | 3, h => cases h; exact ⟨p3, r3⟩
    | 4, h => cases h; exact ⟨p4, r4⟩
    | 5, h => cases h; exact ⟨p5, r5⟩
    | _ + 6, h => cases h
  · intro q hq
    have h1 : (Cond.stringRef "RingThreads" q.1 q.2).before #[Value.ref b] s = true := hts _ (by revert q; decide +kernel)
    have h2 : (Cond.exactly (.string "RingThreads" q.1) "java/lang/String").before #[Value.ref b] s = true := hs _ (by clear h1; revert q; decide +kernel)
    obtain ⟨a, c, cell, k, h3, -⟩ := Cond.exactly_spec h2
    exact ⟨a, vk_R.of h1 h3⟩
  · intro X hX
    exact va_Nw.of rfl (hts _ (by revert X; decide +kernel) : (Cond.castable X X).before #[Value.ref b] s = true)
  · intro X hX Y hY hn
    exact absurd hX List.not_mem_nil
  · intro Y hY
    exact va_Nw.of rfl (hts _ (by revert Y; decide +kernel) : (Cond.declares Y).before #[Value.ref b] s = true)
  · intro C hC
    exact va_AO.of (hts _ (by revert C; decide +kernel) : (Cond.arrayOver (.object C)).before #[Value.ref b] s = true)
