/-! THE WRAPPERS: a judgement of a body that has an exception table, and a contract an operation: it lays the answer in the out array and returns 0, or returns the kind of what was thrown. -/
def zCh (G : zW) (y : MethodName) (cc : ByteArray) (nL : Nat) (ret : Option FieldType) (hh : List (Nat × Nat × Nat × Nat)) (d : Nat) (p : Program) (R : Room) (s : State) (m : MethodId) (args : Array Value) (meth : Method) (c : Code) : Prop :=
  p.tables.exec = Jvm.exec ∧ c.code = cc ∧ c.maxLocals = nL ∧ s.vm.findClass y.cls = some m.cls ∧ meth.sig.returnType = ret ∧ meth.locks = false ∧ meth.name = y.name ∧ c.exceptionTable.toList = tableOf hh ∧ (∀ w ∈ GT, w.before args s = true) ∧ R = zroom d ∧ zG G s s.heap ∧ G.2.2.2.1 ≤ s.heap.size
def zVh (G : zW) (y : MethodName) (cc : ByteArray) (nL : Nat) (ret : Option FieldType) (hh : List (Nat × Nat × Nat × Nat)) (d : Nat) (pc : Nat) (lv : List (Nat × Value)) (st : List Value) (h : zH) (Q : zOut → zH → Prop) : Prop :=
  ∀ (p : Program) (e : Env) (R : Room) (s : State) (m : MethodId) (args : Array Value) (below : List Frame) (meth : Method) (c : Code) (H : Heap) (locs : List Loc) (cells slots n0 z0 : Nat) (ls : Array Slot),
    zCh G y cc nL ret hh d p R s m args meth c → h.2.1 = n0 + cells → h.2.2 = z0 + slots → zcap h → zR G h.1 H → va_S (zA G) s.heap H locs → lv_has ls nL lv →
    W p G.1 e R s m args below meth c H locs cells slots (vx_MQ below (zQ G Q n0 z0) (zX G Q n0 z0) args s (50000 * (d + 1)) (400000 * (d + 1)) (zA G)) (F0 m pc ls st)
def zMh (G : zW) (y : MethodName) (cc : ByteArray) (nL : Nat) (ret : Option FieldType) (hh : List (Nat × Nat × Nat × Nat)) (d : Nat) (as : List Value) (h : zH) (Q : zOut → zH → Prop) : Prop :=
  vx_Met G.1 y (.codeWith y cc nL ret hh :: GT) (zroom d) (zPc G as h) (zQ G Q h.2.1 h.2.2) (zX G Q h.2.1 h.2.2) (50000 * (d + 1)) (400000 * (d + 1)) (zA G)
section ZWRAP
variable {G : zW} {y : MethodName} {cc : ByteArray} {nL : Nat} {ret : Option FieldType} {hh : List (Nat × Nat × Nat × Nat)} {d : Nat} {pc : Nat} {lv : List (Nat × Value)} {st : List Value} {h : zH} {Q : zOut → zH → Prop} {tg tg2 : Nat}
theorem w_iconst {n : Int} (v : Int32) (hd : decode cc pc = .ok (.iconst n, 1)) (hv : Int32.ofInt n = v) (k : zVh G y cc nL ret hh d (pc + 1) lv (.int v :: st) h Q) : zVh G y cc nL ret hh d pc lv st h Q := fun p e R s m args below meth c H locs cells slots n0 z0 ls C h1 h2 h3 h4 h5 h6 => lv_iconst C.1 C.2.1 hd hv (k p e R s m args below meth c H locs cells slots n0 z0 ls C h1 h2 h3 h4 h5 h6)
theorem w_aload_n {i : Nat} {j : Fin 4} {x : Nat} (hd : decode cc pc = .ok (.aload_n j, 1)) (hi : (j : Nat) = i) (hl : zlk lv i = some (.ref x)) (k : zVh G y cc nL ret hh d (pc + 1) lv (.ref x :: st) h Q) : zVh G y cc nL ret hh d pc lv st h Q := fun p e R s m args below meth c H locs cells slots n0 z0 ls C h1 h2 h3 h4 h5 h6 => lv_aload_n C.1 C.2.1 hd hi (zlk_at h6 hl) (k p e R s m args below meth c H locs cells slots n0 z0 ls C h1 h2 h3 h4 h5 h6)
theorem w_aload {i : Nat} {x : Nat} (hd : decode cc pc = .ok (.aload i, 2)) (hl : zlk lv i = some (.ref x)) (k : zVh G y cc nL ret hh d (pc + 2) lv (.ref x :: st) h Q) : zVh G y cc nL ret hh d pc lv st h Q := fun p e R s m args below meth c H locs cells slots n0 z0 ls C h1 h2 h3 h4 h5 h6 => lv_aload C.1 C.2.1 hd (zlk_at h6 hl) (k p e R s m args below meth c H locs cells slots n0 z0 ls C h1 h2 h3 h4 h5 h6)
theorem w_iload_n {i : Nat} {j : Fin 4} {x : Int32} (hd : decode cc pc = .ok (.iload_n j, 1)) (hi : (j : Nat) = i) (hl : zlk lv i = some (.int x)) (k : zVh G y cc nL ret hh d (pc + 1) lv (.int x :: st) h Q) : zVh G y cc nL ret hh d pc lv st h Q := fun p e R s m args below meth c H locs cells slots n0 z0 ls C h1 h2 h3 h4 h5 h6 => lv_iload_n C.1 C.2.1 hd hi (zlk_at h6 hl) (k p e R s m args below meth c H locs cells slots n0 z0 ls C h1 h2 h3 h4 h5 h6)
theorem w_iload {i : Nat} {x : Int32} (hd : decode cc pc = .ok (.iload i, 2)) (hl : zlk lv i = some (.int x)) (k : zVh G y cc nL ret hh d (pc + 2) lv (.int x :: st) h Q) : zVh G y cc nL ret hh d pc lv st h Q := fun p e R s m args below meth c H locs cells slots n0 z0 ls C h1 h2 h3 h4 h5 h6 => lv_iload C.1 C.2.1 hd (zlk_at h6 hl) (k p e R s m args below meth c H locs cells slots n0 z0 ls C h1 h2 h3 h4 h5 h6)
theorem w_astore_n {i : Nat} {j : Fin 4} {x : Nat} (hd : decode cc pc = .ok (.astore_n j, 1)) (hi : (j : Nat) = i) (hn : i < nL) (k : zVh G y cc nL ret hh d (pc + 1) (zst1 lv i (.ref x)) st h Q) : zVh G y cc nL ret hh d pc lv (.ref x :: st) h Q := fun p e R s m args below meth c H locs cells slots n0 z0 ls C h1 h2 h3 h4 h5 h6 => lv_astore_n C.1 C.2.1 hd hi h6 hn rfl (fun ls9 h9 => k p e R s m args below meth c H locs cells slots n0 z0 ls9 C h1 h2 h3 h4 h5 h9)
theorem w_astore {i : Nat} {x : Nat} (hd : decode cc pc = .ok (.astore i, 2)) (hn : i < nL) (k : zVh G y cc nL ret hh d (pc + 2) (zst1 lv i (.ref x)) st h Q) : zVh G y cc nL ret hh d pc lv (.ref x :: st) h Q := fun p e R s m args below meth c H locs cells slots n0 z0 ls C h1 h2 h3 h4 h5 h6 => lv_astore C.1 C.2.1 hd h6 hn rfl (fun ls9 h9 => k p e R s m args below meth c H locs cells slots n0 z0 ls9 C h1 h2 h3 h4 h5 h9)
theorem w_i2l {x : Int32} (hd : decode cc pc = .ok (.i2l, 1)) (k : zVh G y cc nL ret hh d (pc + 1) lv (.long x.toInt64 :: st) h Q) : zVh G y cc nL ret hh d pc lv (.int x :: st) h Q := fun p e R s m args below meth c H locs cells slots n0 z0 ls C h1 h2 h3 h4 h5 h6 => lv_i2l C.1 C.2.1 hd rfl (k p e R s m args below meth c H locs cells slots n0 z0 ls C h1 h2 h3 h4 h5 h6)
theorem w_goto {off : Int} (tgt : Nat) (hd : decode cc pc = .ok (.goto off, 3)) (ht : (pc : Int) + off = (tgt : Int)) (k : zVh G y cc nL ret hh d tgt lv st h Q) : zVh G y cc nL ret hh d pc lv st h Q := fun p e R s m args below meth c H locs cells slots n0 z0 ls C h1 h2 h3 h4 h5 h6 => lv_goto C.1 C.2.1 hd ht (k p e R s m args below meth c H locs cells slots n0 z0 ls C h1 h2 h3 h4 h5 h6)
theorem w_lastore {a n : Nat} {f : Nat → Int64} {i : Int32} {x : Int64} (hd : decode cc pc = .ok (.lastore, 1)) (ha : h.1 a = some (tg, .inl (1, n, .inr (.inl f)))) (hin : vp_in i n) (kk : zVh G y cc nL ret hh d (pc + 1) lv st (zup h.1 a (tg, .inl (1, n, .inr (.inl (vp_updL f i.toNatClampNeg x)))), h.2) Q) : zVh G y cc nL ret hh d pc lv (.long x :: .int i :: .ref a :: st) h Q := fun p e R s m args below meth c H locs cells slots n0 z0 ls C h1 h2 h3 h4 h5 h6 => by
  obtain ⟨hx, hb, hml, hown, hrt, hlk, hnm, htb, hts, hR, hG, hbs⟩ := C
  obtain ⟨ws, w1, w2, w3, q0, hq⟩ := h4.at ha
  exact va_last (D := G.2.1) (cl := zCL) hx hb hG.2.1 w2 w3 h5 q0 1 hq rfl hin hd (fun H9 locs9 hP9 hD9 hS9 => kk p e R s m args below meth c H9 locs9 cells slots n0 z0 ls ⟨hx, hb, hml, hown, hrt, hlk, hnm, htb, hts, hR, hG, hbs⟩ h1 h2 h3 ⟨_, zR.put w1 hq, hP9, hD9⟩ hS9 h6)
theorem w_ireturn {x : Int32} (hd : decode cc pc = .ok (.ireturn, 1)) (hr : ret = some .int) (hQ : Q (.inl (some (.int x))) h) : zVh G y cc nL ret hh d pc lv [.int x] h Q := fun p e R s m args below meth c H locs cells slots n0 z0 ls C h1 h2 h3 h4 h5 h6 => by
  obtain ⟨hx, hb, hml, hown, hrt, hlk, hnm, htb, hts, hR, hG, hbs⟩ := C
  exact W.mono (zend hQ h1 h2 h3 h4 h5) (W.iret hx hb (hrt.trans hr) (fun t ht hW => ⟨rfl, ht⟩) h5.2.2 hd hlk)
/-- a row of the table catches it: the rows ahead name other exceptions -/
def zHX (G : zW) (y : MethodName) (cc : ByteArray) (nL : Nat) (ret : Option FieldType) (hh : List (Nat × Nat × Nat × Nat)) (d pc : Nat) (lv : List (Nat × Value)) (E : String) (h9 : zH) (Q : zOut → zH → Prop) : Prop :=
  ∃ (pre : List ExceptionTableEntry) (x : ExceptionTableEntry) (suf : List ExceptionTableEntry), tableOf hh = pre ++ x :: suf ∧ (∀ z ∈ pre, z.catchType ≠ 0 ∧ ∃ nm : String, Cond.classLink y.cls z.catchType nm ∈ GT ∧ nm ∈ zEXC ∧ E ≠ nm) ∧ covers x pc = true ∧ x.catchType ≠ 0 ∧ Cond.classLink y.cls x.catchType E ∈ GT ∧ E ∈ zEXC ∧ ∀ q : Nat, zVh G y cc nL ret hh d x.handlerPc lv [.ref q] h9 Q
theorem zcallh {p : Program} {e : Env} {R : Room} {s : State} {m : MethodId} {args : Array Value} {below : List Frame} {meth : Method} {c : Code} {H : Heap} {locs : List Loc} {cells slots n0 z0 : Nat} {ls : Array Slot} {stk rest : List Value} {a : Array Value} {Qc : zOut → zH → Prop} {MC MS : Nat}
    (C : zCh G y cc nL ret hh d p R s m args meth c) (h1 : h.2.1 = n0 + cells) (h2 : h.2.2 = z0 + slots) (h5 : va_S (zA G) s.heap H locs) (h6 : lv_has ls nL lv)
    (hr : vx_Run p G.1 e R s m args below meth c H locs cells slots MC MS (F0 m pc ls stk) rest (zQ G Qc h.2.1 h.2.2 a) (zX G Qc h.2.1 h.2.2) (zA G))
    (kr : ∀ (v : Option Value) (h9 : zH), Qc (.inl v) h9 → zVh G y cc nL ret hh d (pc + 3) lv (v.toList ++ rest) h9 Q) (kx : ∀ (E : String) (h9 : zH), Qc (.inr E) h9 → zHX G y cc nL ret hh d pc lv E h9 Q) :
    W p G.1 e R s m args below meth c H locs cells slots (vx_MQ below (zQ G Q n0 z0) (zX G Q n0 z0) args s (50000 * (d + 1)) (400000 * (d + 1)) (zA G)) (F0 m pc ls stk) := by
  intro T hT X
  have hSz : ∀ {st t : State} {L : List Loc} {T' : State}, st.heap = H → T'.heap = t.heap → (∀ q ∈ L, zA G q.base) → va_F (zA G) st t → va_S (zA G) s.heap T'.heap (locs ++ L) := by
    intro st t L T' e0 e1 hL hF
    refine ⟨?_, fun q q1 q2 => ?_, fun z hz => (List.mem_append.mp hz).elim (h5.2.2 z) (hL z)⟩
    · rw [e1]; exact Nat.le_trans h5.1 (by rw [← e0]; exact hF.1)
    · rw [e1, hF.2 q (by rw [e0]; exact Nat.lt_of_lt_of_le q1 h5.1) q2, e0]; exact h5.2.1 q q1 q2
  rcases hr T hT X with ⟨v, st₀, t, T', L, e0, X', hL, e1, e2, hq, hg⟩ | ⟨q, st₀, t, T', L, E, ce, e0, X', hL, e1, e2, hx9, hce, hcv, hcl, hst⟩
  · obtain ⟨v', h9, k, n, L', ho, hQ, hRep, c1, c2, hcap, hsame, hL', hF⟩ := hq
    cases ho
    have X2 := ztight X X' hsame (by rw [e0, hT]) e1
    obtain ⟨t2, a1, b1⟩ := kr v h9 hQ p e R s m args below meth c T'.heap (locs ++ L) (cells + k) (slots + n) n0 z0 ls C (by rw [c1, h1]; omega) (by rw [c2, h2]; omega) hcap (by rw [e1]; exact hRep) (hSz e0 e1 hL hF) h6 T' rfl X2
    exact ⟨t2, hg t2 a1, b1⟩
  · obtain ⟨h9, k, n, L', hQ, hRep, c1, c2, hcap, hsame, hL', hF⟩ := hx9
    have X2 := ztight X X' hsame (by rw [e0, hT]) e1
    obtain ⟨pre, x, suf, x1, x2, x3, x4, x5, x6, x7⟩ := kx E h9 hQ
    have hG0 := C.2.2.2.2.2.2.2.2.2.2.1
    have htb : c.exceptionTable.toList = tableOf hh := C.2.2.2.2.2.2.2.1
    have hts : ∀ w ∈ GT, w.before args s = true := C.2.2.2.2.2.2.2.2.1
    obtain ⟨t2, a1, b1⟩ := vx_catch (own := y.cls) (name := E) (E := E) (rest := rest) (ls := ls) (pc := pc) C.2.2.2.1 pre x suf (htb.trans x1) (fun z hz => Or.inr (by
      obtain ⟨z1, nm, z2, z3, z4⟩ := x2 z hz
      exact ⟨z1, nm, hts _ z2, hG0.2.2.2.2.2.2.2.2.2.2.1 E x6 nm z3 z4⟩)) x3 x4 (hts _ x5) (va_Nw.use (A := args) rfl (hG0.2.2.2.2.2.2.2.2.2.1 E x6)) (by rw [e1]; exact hce) hcv hcl (x7 q p e R s m args below meth c T'.heap (locs ++ L) (cells + k) (slots + n) n0 z0 ls C (by rw [c1, h1]; omega) (by rw [c2, h2]; omega) hcap (by rw [e1]; exact hRep) (hSz e0 e1 hL hF) h6) T' rfl X2
    exact ⟨t2, hst.trans a1, b1⟩
theorem w_callV {idx n d' nL' b ci : Nat} {vs : List Value} {y' : MethodName} {cc' : ByteArray} {ret' : Option FieldType} {as rest : List Value} {Qc : zOut → zH → Prop} (hc : zCS y.cls idx y' cc' nL' ret' n) (hin : Cond.instanceMethod y' ∈ GT) (hse : Cond.selects y'.cls y' y' ∈ GT) (hci : zCL[ci]?.map (fun q => q.1) = some y'.cls) (hd : decode cc pc = .ok (.invokevirtual idx, 3)) (hbv : h.1 b = some (tg, .inr (ci, vs))) (hM : zM G y' cc' nL' ret' d' (.ref b :: as) h Qc) (hs : st = as.reverse ++ .ref b :: rest) (hn : as.length = n) (hdd : d' + 1 ≤ d) (hW : (rest.map fun v => v.category).sum ≤ 8)
    (kr : ∀ (v : Option Value) (h9 : zH), Qc (.inl v) h9 → zVh G y cc nL ret hh d (pc + 3) lv (v.toList ++ rest) h9 Q) (kx : ∀ (E : String) (h9 : zH), Qc (.inr E) h9 → zHX G y cc nL ret hh d pc lv E h9 Q) : zVh G y cc nL ret hh d pc lv st h Q := fun p e R s m args below meth c H locs cells slots n0 z0 ls C h1 h2 h3 h4 h5 h6 => by
  obtain ⟨hx, hb, hml, hown, hrt, hlk, hnm, htb, hts, hR, hG, hbs⟩ := C
  obtain ⟨c1, c2, c3, c4, c5, c6, c7⟩ := hc
  obtain ⟨hq1, hq2⟩ := h3
  have hp := zpre (as := .ref b :: as) hG h4 ⟨hq1, hq2⟩ h5 hbs
  obtain ⟨ws, w1, w2, w3, q0, hq⟩ := h4.at hbv
  have hrec : ∃ cell : Cell, H[b]? = some cell ∧ cell.vm.isStatics = false ∧ s.vm.findClass y'.cls = some cell.cls := by
    cases hz : zCL[ci]? with
    | none => rw [hz] at hci; cases hci
    | some r =>
      rw [hz] at hci
      have e9 : r.1 = y'.cls := Option.some.inj hci
      rw [← e9]
      exact va_recv hG.2.1 w2 hz hq
  refine zcallh ⟨hx, hb, hml, hown, hrt, hlk, hnm, htb, hts, hR, hG, hbs⟩ h1 h2 h5 h6 (vx_runV (As := as) (rest := rest) (C := y'.cls) ⟨hx, hb, hml, hown, hts⟩ hM (cwV n hts (zgood (by simp [c1, hin, hse, c2]) c3) rfl rfl rfl ⟨rfl, c5, c6, c7⟩ ?_) ⟨hp.1, hrec, hp.2⟩ rfl hn h6.1 hs (by show 2 * 0 + _ ≤ 8; omega) hd ?_) kr kx
  · rw [hR]; exact ⟨hdd, by show 8 + (nL' + 11) + 34 * d' ≤ 34 * d; omega⟩
  · rw [hR]; exact ⟨by show cells + 50000 * (d' + 1) ≤ 50000 * (d + 1); omega, by show slots + 400000 * (d' + 1) ≤ 400000 * (d + 1); omega⟩
/-- a contract out of the walk from the wrapper's entry -/
theorem zMh.of {as : List Value} (hy : plainName y.cls = true) (hl : (lg_sl as).length ≤ nL) (k : zVh G y cc nL ret hh d 0 (lv_args 0 as) [] h Q) : zMh G y cc nL ret hh d as h Q := by
  refine vx_ofWH (cc := cc) (maxL := nL) (ret := ret) (hh := hh) hy rfl ?_
  intro p e s m args below meth c s₁ B hml hPc
  obtain ⟨rfl, hG, hR, hcap, hbs⟩ := hPc
  have ht : c.exceptionTable.toList = tableOf hh := vx_table (x := y) B (atoms_spec (ws := .codeWith y cc nL ret hh :: GT) B.pre _ List.mem_cons_self)
  rw [lg_entry_eq]
  exact k p e (zroom d) s m as.toArray below meth c s.heap [] 0 0 h.2.1 h.2.2 _ ⟨B.exec, B.bytes, hml, findClass_of_methodNamed B.named, B.returns, B.notSynchronized, (name_of_methodNamed B.named B.method).1, ht, fun w hw => atoms_spec (ws := .codeWith y cc nL ret hh :: GT) B.pre w (List.mem_cons_of_mem _ hw), rfl, hG, hbs⟩ rfl rfl hcap hR va_S.rf (lv_entry as hl)
/-- a static call of a wrapper -/
def zCSh (own : String) (idx : Nat) (y' : MethodName) (cc' : ByteArray) (nL' : Nat) (ret' : Option FieldType) (hh : List (Nat × Nat × Nat × Nat)) (n : Nat) : Prop :=
  Cond.methodLink own idx y' ∈ GT ∧ Cond.initialized y'.cls ∈ GT ∧ Cond.codeWith y' cc' nL' ret' hh ∈ GT ∧ nL' ≤ 15 ∧ y'.cls ≠ "java/lang/invoke/MethodHandle" ∧ y'.cls ≠ "java/lang/invoke/VarHandle" ∧ (parseMethodDescriptor y'.desc).map (fun d => d.parameters.length) = some n
theorem zgoodh {y' : MethodName} {cc' : ByteArray} {nL' : Nat} {ret' : Option FieldType} {l : List Cond} (h : ∀ w ∈ l, w ∈ GT) (hc : Cond.codeWith y' cc' nL' ret' hh ∈ GT) : GoodIn GT (l ++ (Cond.codeWith y' cc' nL' ret' hh :: GT)) := by
  intro w hw
  have hm : w ∈ GT := by
    rcases List.mem_append.mp hw with h1 | h1
    · exact h w h1
    · rcases List.mem_cons.mp h1 with rfl | h2
      · exact hc
      · exact h2
  exact ⟨hm, good_of_word (GT_good hm)⟩
theorem v_callSH {idx n d' nL' : Nat} {y' : MethodName} {cc' : ByteArray} {ret' : Option FieldType} {as rest : List Value} {Qc : zOut → zH → Prop} (hc : zCSh y.cls idx y' cc' nL' ret' hh n) (hst : Cond.static y' ∈ GT) (hd : decode cc pc = .ok (.invokestatic idx, 3)) (hM : zMh G y' cc' nL' ret' hh d' as h Qc) (hs : st = as.reverse ++ rest) (hn : as.length = n) (hdd : d' + 1 ≤ d) (hW : (rest.map fun v => v.category).sum ≤ 8)
    (kr : ∀ (v : Option Value) (h9 : zH), Qc (.inl v) h9 → zV G y cc nL ret d (pc + 3) lv (v.toList ++ rest) h9 Q) (kx : ∀ (E : String) (h9 : zH), Qc (.inr E) h9 → Q (.inr E) h9) : zV G y cc nL ret d pc lv st h Q := fun p e R s m args below meth c H locs cells slots n0 z0 ls C h1 h2 h3 h4 h5 h6 => by
  obtain ⟨hx, hb, hml, hown, hrt, hlk, hnm, htb, hts, hR, hG, hbs⟩ := C
  obtain ⟨c1, c2, c3, c4, c5, c6, c7⟩ := hc
  obtain ⟨hq1, hq2⟩ := h3
  refine zcall ⟨hx, hb, hml, hown, hrt, hlk, hnm, htb, hts, hR, hG, hbs⟩ h1 h2 h5 h6 (vx_runSX (As := as) (rest := rest) ⟨hx, hb, hml, hown, hts⟩ hM (vx_cwSW n hts (zgoodh (by simp [c1, hst, c2]) c3) rfl rfl rfl ⟨c5, c6, c7⟩ ?_) (zpre hG h4 ⟨hq1, hq2⟩ h5 hbs) rfl hn h6.1 hs (by show 2 * 0 + _ ≤ 8; omega) hd ?_) kr kx
  · rw [hR]; exact ⟨hdd, by show 8 + (nL' + 11) + 34 * d' ≤ 34 * d; omega⟩
  · rw [hR]; exact ⟨by show cells + 50000 * (d' + 1) ≤ 50000 * (d + 1); omega, by show slots + 400000 * (d' + 1) ≤ 400000 * (d + 1); omega⟩
end ZWRAP
