section ZCALL2
variable {G : zW} {y : MethodName} {cc : ByteArray} {nL : Nat} {ret : Option FieldType} {d : Nat} {pc : Nat} {lv : List (Nat × Value)} {st : List Value} {h : zH} {Q : zOut → zH → Prop} {tg tg2 : Nat}
/-- a contract of a method that throws nothing, as the kit has it -/
theorem zM.met {as : List Value} (hq : ∀ E h9, ¬ Q (.inr E) h9) (k : zM G y cc nL ret d as h Q) : Met G.1 y (.code y cc nL ret :: GT) (zroom d) (zPc G as h) (zQ G Q h.2.1 h.2.2) (50000 * (d + 1)) (400000 * (d + 1)) (zA G) := by
  intro p e ha hc hk s m args below hf happ hP hK
  obtain ⟨n, o, a1, a2, a3, a4⟩ := k p e ha hc hk s m args below hf happ hP hK
  refine ⟨n, o, a1, a2, a3, ?_⟩
  rcases a4 with a4 | ⟨q, b1, E, ce, L, ⟨h9, k9, n9, L9, c1, c2⟩, b2⟩
  · exact a4
  · exact absurd c1 (hq _ _)
theorem zcallR {p : Program} {e : Env} {R : Room} {s : State} {m : MethodId} {args : Array Value} {below : List Frame} {meth : Method} {c : Code} {H : Heap} {locs : List Loc} {cells slots n0 z0 : Nat} {ls : Array Slot} {stk rest : List Value} {a : Array Value} {Qc : zOut → zH → Prop} {MC MS : Nat}
    (C : zC G y cc nL ret d p R s m args meth c) (h1 : h.2.1 = n0 + cells) (h2 : h.2.2 = z0 + slots) (h5 : va_S (zA G) s.heap H locs) (h6 : lv_has ls nL lv)
    (hr : va_Run p G.1 e R s m args below meth c H locs cells slots MC MS (F0 m pc ls stk) rest (zQ G Qc h.2.1 h.2.2 a) (zA G))
    (kr : ∀ (v : Option Value) (h9 : zH), Qc (.inl v) h9 → zV G y cc nL ret d (pc + 3) lv (v.toList ++ rest) h9 Q) :
    W p G.1 e R s m args below meth c H locs cells slots (vx_MQ below (zQ G Q n0 z0) (zX G Q n0 z0) args s (50000 * (d + 1)) (400000 * (d + 1)) (zA G)) (F0 m pc ls stk) := by
  refine zcall (MC := MC) (MS := MS) (a := a) (rest := rest) (Qc := fun o h9 => match o with | .inl v => Qc (.inl v) h9 | .inr _ => False) C h1 h2 h5 h6 ?_ kr (fun E h9 z => z.elim)
  intro T hT X
  obtain ⟨v, st₀, t, T', L, e0, X', hL, e1, e2, hq, hg⟩ := hr T hT X
  exact Or.inl ⟨v, st₀, t, T', L, e0, X', hL, e1, e2, hq, hg⟩
theorem v_callI {idx n d' nL' b : Nat} {y' : MethodName} {cc' : ByteArray} {as rest : List Value} {Qc : zOut → zH → Prop} (hc : zCS y.cls idx y' cc' nL' none n) (hin : Cond.instanceMethod y' ∈ GT) (hy1 : y'.name = "<init>") (hd : decode cc pc = .ok (.invokespecial idx, 3)) (hM : zM G y' cc' nL' none d' (.ref b :: as) h Qc) (hq9 : ∀ E h9, ¬ Qc (.inr E) h9) (hs : st = as.reverse ++ .ref b :: rest) (hn : as.length = n) (hdd : d' + 1 ≤ d) (hW : (rest.map fun v => v.category).sum ≤ 8)
    (kr : ∀ (v : Option Value) (h9 : zH), Qc (.inl v) h9 → zV G y cc nL ret d (pc + 3) lv (v.toList ++ rest) h9 Q) : zV G y cc nL ret d pc lv st h Q := fun p e R s m args below meth c H locs cells slots n0 z0 ls C h1 h2 h3 h4 h5 h6 => by
  obtain ⟨hx, hb, hml, hown, hrt, hlk, hnm, htb, hts, hR, hG, hbs⟩ := C
  obtain ⟨c1, c2, c3, c4, c5, c6, c7⟩ := hc
  obtain ⟨hq1, hq2⟩ := h3
  refine zcallR ⟨hx, hb, hml, hown, hrt, hlk, hnm, htb, hts, hR, hG, hbs⟩ h1 h2 h5 h6 (va_runI (As := as) (rest := rest) ⟨hx, hb, hml, hown, hts⟩ (hM.met hq9) (cwI n hts (zgood (l := []) (fun _ h => by cases h) c3) rfl rfl rfl (hts _ c2) (hts _ c1) (hts _ hin) hy1 ⟨c5, c6, c7⟩ ?_) (zpre hG h4 ⟨hq1, hq2⟩ h5 hbs) rfl hn h6.1 hs (by show 2 * 0 + _ ≤ 8; omega) hd ?_) kr
  · rw [hR]; exact ⟨hdd, by show 8 + (nL' + 11) + 34 * d' ≤ 34 * d; omega⟩
  · rw [hR]; exact ⟨by show cells + 50000 * (d' + 1) ≤ 50000 * (d + 1); omega, by show slots + 400000 * (d' + 1) ≤ 400000 * (d + 1); omega⟩
/-- the private constructor of Text, from RingThreads -/
theorem v_callIN {d' nL' b : Nat} {cc' : ByteArray} {rest : List Value} {Qc : zOut → zH → Prop} (hyc : y.cls = "RingThreads") (c2 : Cond.initialized yX2_init.cls ∈ GT) (c3 : Cond.code yX2_init cc' nL' none ∈ GT) (c4 : nL' ≤ 15) (hin : Cond.instanceMethod yX2_init ∈ GT) (hd : decode cc pc = .ok (.invokespecial 15, 3)) (hM : zM G yX2_init cc' nL' none d' [.ref b] h Qc) (hq9 : ∀ E h9, ¬ Qc (.inr E) h9) (hs : st = .ref b :: rest) (hdd : d' + 1 ≤ d) (hW : (rest.map fun v => v.category).sum ≤ 8)
    (kr : ∀ (v : Option Value) (h9 : zH), Qc (.inl v) h9 → zV G y cc nL ret d (pc + 3) lv (v.toList ++ rest) h9 Q) : zV G y cc nL ret d pc lv st h Q := fun p e R s m args below meth c H locs cells slots n0 z0 ls C h1 h2 h3 h4 h5 h6 => by
  obtain ⟨hx, hb, hml, hown, hrt, hlk, hnm, htb, hts, hR, hG, hbs⟩ := C
  obtain ⟨hq1, hq2⟩ := h3
  refine zcallR ⟨hx, hb, hml, hown, hrt, hlk, hnm, htb, hts, hR, hG, hbs⟩ h1 h2 h5 h6 (va_runIN (As := []) (rest := rest) (own := y.cls) (host := "RingThreads") (n := 0) ⟨hx, hb, hml, hown, hts⟩ (hM.met hq9) ⟨va_cnB 0 hts (zgood (l := []) (fun _ h => by cases h) c3) rfl rfl rfl (by rw [hyc]; exact hG.2.2.2.2.2.2.2.2.1) (hts _ c2) ⟨by decide +kernel, by decide +kernel, by decide +kernel⟩ ?_, rfl, hts _ hin⟩ (zpre hG h4 ⟨hq1, hq2⟩ h5 hbs) rfl rfl h6.1 hs (by show 2 * 0 + _ ≤ 8; omega) hd ?_) kr
  · rw [hR]; exact ⟨hdd, by show 8 + (nL' + 11) + 34 * d' ≤ 34 * d; omega⟩
  · rw [hR]; exact ⟨by show cells + 50000 * (d' + 1) ≤ 50000 * (d + 1); omega, by show slots + 400000 * (d' + 1) ≤ 400000 * (d + 1); omega⟩
theorem v_objInit {idx b : Nat} (c1 : Cond.methodLink y.cls idx objectInit ∈ GT) (c2 : Cond.instanceMethod objectInit ∈ GT) (c3 : Cond.code objectInit ⟨#[0xb1]⟩ 1 none ∈ GT) (hd : decode cc pc = .ok (.invokespecial idx, 3)) (hdd : 1 ≤ d) (hW : (st.map fun v => v.category).sum ≤ 8) (kk : zV G y cc nL ret d (pc + 3) lv st h Q) : zV G y cc nL ret d pc lv (.ref b :: st) h Q := fun p e R s m args below meth c H locs cells slots n0 z0 ls C h1 h2 h3 h4 h5 h6 => by
  obtain ⟨hx, hb, hml, hown, hrt, hlk, hnm, htb, hts, hR, hG, hbs⟩ := C
  refine W.objInit hx hb hown (hts _ c1) (hts _ c2) (hts _ c3) rfl (h6.1.trans hml.symm) rfl hd (by rw [hR]; exact hdd) (by rw [hR]; show 2 * 0 + _ + 12 ≤ 34 * d; omega) (kk p e R s m args below meth c H locs cells slots n0 z0 ls ⟨hx, hb, hml, hown, hrt, hlk, hnm, htb, hts, hR, hG, hbs⟩ h1 h2 h3 h4 h5 h6)
theorem v_mmax {idx : Nat} {x z : Int32} (c1 : Cond.methodLink y.cls idx Lib.Math.max.name ∈ GT) (c2 : Cond.static Lib.Math.max.name ∈ GT) (c3 : Cond.initialized "java/lang/Math" ∈ GT) (c4 : Cond.code Lib.Math.max.name Lib.Math.max.code 2 (some .int) ∈ GT) (hd : decode cc pc = .ok (.invokestatic idx, 3)) (hdd : 1 ≤ d) (hW : (st.map fun v => v.category).sum ≤ 8) (kk : zV G y cc nL ret d (pc + 3) lv (.int (if x < z then z else x) :: st) h Q) : zV G y cc nL ret d pc lv (.int z :: .int x :: st) h Q := fun p e R s m args below meth c H locs cells slots n0 z0 ls C h1 h2 h3 h4 h5 h6 => by
  obtain ⟨hx, hb, hml, hown, hrt, hlk, hnm, htb, hts, hR, hG, hbs⟩ := C
  obtain ⟨g1, g2⟩ := zroomle (d := d) h1 h2 h3
  exact va_mmax hx hb (hml.trans h6.1.symm) hown (hts _ c1) (hts _ c2) (hts _ c3) (hts _ c4) (by rw [hR]; exact hdd) (by rw [hR]; show _ + 13 ≤ 34 * d; omega) (by rw [hR]; exact g1) (by rw [hR]; exact g2) hd (kk p e R s m args below meth c H locs cells slots n0 z0 ls ⟨hx, hb, hml, hown, hrt, hlk, hnm, htb, hts, hR, hG, hbs⟩ h1 h2 h3 h4 h5 h6)
theorem v_mmin {idx : Nat} {x z : Int32} (c1 : Cond.methodLink y.cls idx Lib.Math.min.name ∈ GT) (c2 : Cond.static Lib.Math.min.name ∈ GT) (c3 : Cond.initialized "java/lang/Math" ∈ GT) (c4 : Cond.code Lib.Math.min.name Lib.Math.min.code 2 (some .int) ∈ GT) (hd : decode cc pc = .ok (.invokestatic idx, 3)) (hdd : 1 ≤ d) (hW : (st.map fun v => v.category).sum ≤ 8) (kk : zV G y cc nL ret d (pc + 3) lv (.int (if z < x then z else x) :: st) h Q) : zV G y cc nL ret d pc lv (.int z :: .int x :: st) h Q := fun p e R s m args below meth c H locs cells slots n0 z0 ls C h1 h2 h3 h4 h5 h6 => by
  obtain ⟨hx, hb, hml, hown, hrt, hlk, hnm, htb, hts, hR, hG, hbs⟩ := C
  obtain ⟨g1, g2⟩ := zroomle (d := d) h1 h2 h3
  exact va_mmin hx hb (hml.trans h6.1.symm) hown (hts _ c1) (hts _ c2) (hts _ c3) (hts _ c4) (by rw [hR]; exact hdd) (by rw [hR]; show _ + 13 ≤ 34 * d; omega) (by rw [hR]; exact g1) (by rw [hR]; exact g2) hd (kk p e R s m args below meth c H locs cells slots n0 z0 ls ⟨hx, hb, hml, hown, hrt, hlk, hnm, htb, hts, hR, hG, hbs⟩ h1 h2 h3 h4 h5 h6)
theorem v_mabs {idx : Nat} {x : Int32} (c1 : Cond.methodLink y.cls idx Lib.Math.abs.name ∈ GT) (c2 : Cond.static Lib.Math.abs.name ∈ GT) (c3 : Cond.initialized "java/lang/Math" ∈ GT) (c4 : Cond.code Lib.Math.abs.name Lib.Math.abs.code 1 (some .int) ∈ GT) (hd : decode cc pc = .ok (.invokestatic idx, 3)) (hdd : 1 ≤ d) (hW : (st.map fun v => v.category).sum ≤ 8) (kk : zV G y cc nL ret d (pc + 3) lv (.int (if 0 ≤ x then x else 0 - x) :: st) h Q) : zV G y cc nL ret d pc lv (.int x :: st) h Q := fun p e R s m args below meth c H locs cells slots n0 z0 ls C h1 h2 h3 h4 h5 h6 => by
  obtain ⟨hx, hb, hml, hown, hrt, hlk, hnm, htb, hts, hR, hG, hbs⟩ := C
  obtain ⟨g1, g2⟩ := zroomle (d := d) h1 h2 h3
  exact va_mabs hx hb (hml.trans h6.1.symm) hown (hts _ c1) (hts _ c2) (hts _ c3) (hts _ c4) (by rw [hR]; exact hdd) (by rw [hR]; show _ + 13 ≤ 34 * d; omega) (by rw [hR]; exact g1) (by rw [hR]; exact g2) hd (kk p e R s m args below meth c H locs cells slots n0 z0 ls ⟨hx, hb, hml, hown, hrt, hlk, hnm, htb, hts, hR, hG, hbs⟩ h1 h2 h3 h4 h5 h6)
theorem v_copyI {idx a0 a N0 N1 : Nat} {f g : Nat → Int32} {sp dp n : Int32} (c1 : Cond.methodLink y.cls idx arraycopyName ∈ GT) (c2 : Cond.native arraycopyName ∈ GT) (c3 : Cond.static arraycopyName ∈ GT) (c4 : Cond.initialized "java/lang/System" ∈ GT) (hd : decode cc pc = .ok (.invokestatic idx, 3)) (ha0 : h.1 a0 = some (tg2, .inl (0, N0, .inl f))) (ha1 : h.1 a = some (tg, .inl (0, N1, .inl g))) (b1 : ¬ sp < 0) (b2 : ¬ dp < 0) (b3 : ¬ n < 0) (b4 : sp.toNatClampNeg + n.toNatClampNeg ≤ N0) (b5 : dp.toNatClampNeg + n.toNatClampNeg ≤ N1) (hdd : 1 ≤ d) (hW : (st.map fun v => v.category).sum ≤ 8)
    (kk : zV G y cc nL ret d (pc + 3) lv st (zup h.1 a (tg, .inl (0, N1, .inl (va_cpy f g sp.toNatClampNeg dp.toNatClampNeg n.toNatClampNeg))), h.2) Q) : zV G y cc nL ret d pc lv (.int n :: .int dp :: .ref a :: .int sp :: .ref a0 :: st) h Q := fun p e R s m args below meth c H locs cells slots n0 z0 ls C h1 h2 h3 h4 h5 h6 => by
  obtain ⟨hx, hb, hml, hown, hrt, hlk, hnm, htb, hts, hR, hG, hbs⟩ := C
  obtain ⟨ws, w1, w2, w3⟩ := h4
  obtain ⟨q0, hq0⟩ := w1 _ _ ha0
  obtain ⟨q1, hq1⟩ := w1 _ _ ha1
  have hnw : nativeFrameWords "java/lang/System" "arraycopy" 5 = 7 := by decide +kernel
  exact va_copyi (D := G.2.1) (cl := zCL) (ty := .int) hx hb (hml.trans h6.1.symm) hown (hts _ c1) (hts _ c2) (hts _ c3) (hts _ c4) hG.2.1 w2 w3 h5 q0 q1 0 0 hq0 hq1 rfl rfl rfl b1 b2 b3 b4 b5 (fun i _ => rfl) (by rw [hR]; exact hdd) (by rw [hR, hnw]; show _ + (7 + 11) ≤ 34 * d; omega) hd (fun H9 locs9 hP9 hD9 hS9 => kk p e R s m args below meth c H9 locs9 cells slots n0 z0 ls ⟨hx, hb, hml, hown, hrt, hlk, hnm, htb, hts, hR, hG, hbs⟩ h1 h2 h3 ⟨_, zR.put w1 hq1, hP9, hD9⟩ hS9 h6)
theorem v_rawBits {idx : Nat} {b : UInt64} (c1 : Cond.methodLink y.cls idx ⟨"java/lang/Double", "doubleToRawLongBits", "(D)J"⟩ ∈ GT) (c2 : Cond.native ⟨"java/lang/Double", "doubleToRawLongBits", "(D)J"⟩ ∈ GT) (c3 : Cond.static ⟨"java/lang/Double", "doubleToRawLongBits", "(D)J"⟩ ∈ GT) (c4 : Cond.initialized "java/lang/Double" ∈ GT) (hd : decode cc pc = .ok (.invokestatic idx, 3)) (hdd : 1 ≤ d) (hW : (st.map fun v => v.category).sum ≤ 8) (kk : zV G y cc nL ret d (pc + 3) lv (.long b.toInt64 :: st) h Q) : zV G y cc nL ret d pc lv (.double b :: st) h Q := fun p e R s m args below meth c H locs cells slots n0 z0 ls C h1 h2 h3 h4 h5 h6 => by
  obtain ⟨hx, hb, hml, hown, hrt, hlk, hnm, htb, hts, hR, hG, hbs⟩ := C
  exact vn_d2l hx hb (hml.trans h6.1.symm) hown (hts _ c1) (hts _ c2) (hts _ c3) (hts _ c4) (by rw [hR]; exact hdd) (by rw [hR]; show _ + 15 ≤ 34 * d; omega) hd (kk p e R s m args below meth c H locs cells slots n0 z0 ls ⟨hx, hb, hml, hown, hrt, hlk, hnm, htb, hts, hR, hG, hbs⟩ h1 h2 h3 h4 h5 h6)
abbrev zchain : List String := ["java/lang/RuntimeException", "java/lang/Exception"]
/-- the words of a throw: 'new', the constructor -/
def zTH (ik ic : Nat) (cls : String) : Prop :=
  cls ∈ zEXC ∧ Bundle.fit cls = true ∧ Cond.classLink "RingThreads" ik cls ∈ GT ∧ Cond.initialized cls ∈ GT ∧ (∀ w ∈ (vx_atS "RingThreads" ic cls zchain).filter goodWord, w ∈ GT) ∧ (∀ w ∈ (vx_atS "RingThreads" ic cls zchain).filter (fun w => !goodWord w), w ∈ [Cond.castable cls cls, .declares (Bundle.initS "java/lang/RuntimeException"), .declares (Bundle.initS "java/lang/Exception"), .declares (Bundle.initS "java/lang/Throwable")]) ∧ (∀ w ∈ Cond.classLink "RingThreads" ik cls :: Cond.initialized cls :: vx_atS "RingThreads" ic cls zchain, vx_ot w = true)
theorem zthrown {below : List Frame} {s : State} {args : Array Value} {H : Heap} {locs : List Loc} {cells slots n0 z0 : Nat} {cls : String} (hQ : Q (.inr cls) (h.1, h.2.1 + 1, h.2.2 + 6)) (hc1 : h.2.1 + 1 ≤ 50000) (hc2 : h.2.2 + 6 ≤ 400000) (h1 : h.2.1 = n0 + cells) (h2 : h.2.2 = z0 + slots) (h4 : zR G h.1 H) (h5 : va_S (zA G) s.heap H locs) :
    ∀ t, vx_MQ below (fun _ _ _ _ => False) (fun E s t => E = cls ∧ H.size ≤ t.heap.size ∧ ∀ q : Nat, q < H.size → t.heap[q]? = H[q]?) args s (cells + 1) (slots + 6) (zA G) t → vx_MQ below (zQ G Q n0 z0) (zX G Q n0 z0) args s (50000 * (d + 1)) (400000 * (d + 1)) (zA G) t := by
  rintro t ⟨o, a1, a2, ⟨a3, -⟩ | ⟨q2, rfl, E2, ce2, L2, ⟨rfl, d0, d1⟩, d2, d3, d4, d5, d6, d7⟩⟩
  · exact a3.elim
  · refine ⟨_, a1, a2, Or.inr ⟨q2, rfl, E2, ce2, L2, ⟨(h.1, h.2.1 + 1, h.2.2 + 6), cells + 1, slots + 6, L2, hQ, ?_, by show h.2.1 + 1 = _; omega, by show h.2.2 + 6 = _; omega, ⟨hc1, hc2⟩, d6, d7, ?_⟩, d2, d3, d4, d5, d6.mono (by omega) (by omega), d7⟩⟩
    · obtain ⟨ws, w1, w2, w3⟩ := h4
      exact ⟨ws, w1, w2.kept (fun k q hk => d1 q.1 (w2 k q hk).lt), w3⟩
    · exact ⟨Nat.le_trans h5.1 d0, fun q q1 q2 => (d1 q (Nat.lt_of_lt_of_le q1 h5.1)).trans (h5.2.1 q q1 q2)⟩
theorem v_throwS {ik is ic : Nat} {cls text : String} (hyc : y.cls = "RingThreads") (w : zTH ik ic cls) (hs : (is, text) ∈ zSTR) (d0 : decode cc pc = .ok (.new ik, 3)) (d3 : decode cc (pc + 3) = .ok (.dup, 1)) (d4 : decode cc (pc + 4) = .ok (.ldc is, 2)) (d6 : decode cc (pc + 6) = .ok (.invokespecial ic, 3)) (d9 : decode cc (pc + 9) = .ok (.athrow, 1)) (hdd : 6 ≤ d) (hW : (st.map fun v => v.category).sum ≤ 8) (hc1 : h.2.1 + 1 ≤ 50000) (hc2 : h.2.2 + 6 ≤ 400000)
    (hQ : Q (.inr cls) (h.1, h.2.1 + 1, h.2.2 + 6)) : zV G y cc nL ret d pc lv st h Q := fun p e R s m args below meth c H locs cells slots n0 z0 ls C h1 h2 h3 h4 h5 h6 => by
  obtain ⟨hx, hb, hml, hown, hrt, hlk, hnm, htb, hts, hR, hG, hbs⟩ := C
  obtain ⟨e1, e2, e3, e4, e5, e6, e7⟩ := w
  obtain ⟨sa, hsa⟩ := hG.2.2.2.2.2.2.1 _ hs
  refine W.mono (zthrown (h := h) hQ hc1 hc2 h1 h2 h4 h5) (vx_throwS (names := zchain) hx hb hG.1.1 (by rw [← hyc]; exact hown) e2 (by decide) (hts _ e3) (hts _ e4) hsa (vx_hat (fun w hw => hts _ (e5 w hw)) e6 (vx_c (va_Nw.use rfl (hG.2.2.2.2.2.2.2.2.2.1 _ e1)) (vx_c (va_Nw.use rfl (hG.2.2.2.2.2.2.2.2.2.2.2.1 _ (by decide))) (vx_c (va_Nw.use rfl (hG.2.2.2.2.2.2.2.2.2.2.2.1 _ (by decide))) (vx_c (va_Nw.use rfl (hG.2.2.2.2.2.2.2.2.2.2.2.1 _ (by decide))) vx_n))))) e7 hG.2.2.2.2.1 hG.2.2.2.2.2.1 h5 (h6.1.trans hml.symm) d0 d3 d4 d6 d9 (fun x hx => (htb x hx).elim) ?_ ?_ ?_ ?_ hlk (fun t _ z1 z2 => ⟨rfl, z1, z2⟩) h5.2.2 (Nat.le_refl _) (Nat.le_refl _))
  · rw [hR]; show 2 + 3 < d; omega
  · rw [hR]; show _ + (13 * (2 + 1) + 43) ≤ 34 * d; omega
  · rw [hR]; show cells + 1 ≤ 50000 * (d + 1); omega
  · rw [hR]; show slots + 6 ≤ 400000 * (d + 1); omega
theorem v_throwSW {ik is ic : Nat} {cls text : String} (hyc : y.cls = "RingThreads") (w : zTH ik ic cls) (hs : (is, text) ∈ zSTR) (d0 : decode cc pc = .ok (.new ik, 3)) (d3 : decode cc (pc + 3) = .ok (.dup, 1)) (d4 : decode cc (pc + 4) = .ok (.ldc_w is, 3)) (d7 : decode cc (pc + 7) = .ok (.invokespecial ic, 3)) (d10 : decode cc (pc + 10) = .ok (.athrow, 1)) (hdd : 6 ≤ d) (hW : (st.map fun v => v.category).sum ≤ 8) (hc1 : h.2.1 + 1 ≤ 50000) (hc2 : h.2.2 + 6 ≤ 400000)
    (hQ : Q (.inr cls) (h.1, h.2.1 + 1, h.2.2 + 6)) : zV G y cc nL ret d pc lv st h Q := fun p e R s m args below meth c H locs cells slots n0 z0 ls C h1 h2 h3 h4 h5 h6 => by
  obtain ⟨hx, hb, hml, hown, hrt, hlk, hnm, htb, hts, hR, hG, hbs⟩ := C
  obtain ⟨e1, e2, e3, e4, e5, e6, e7⟩ := w
  obtain ⟨sa, hsa⟩ := hG.2.2.2.2.2.2.1 _ hs
  refine W.mono (zthrown (h := h) hQ hc1 hc2 h1 h2 h4 h5) (vx_throwSW (names := zchain) hx hb hG.1.1 (by rw [← hyc]; exact hown) e2 (by decide) (hts _ e3) (hts _ e4) hsa (vx_hat (fun w hw => hts _ (e5 w hw)) e6 (vx_c (va_Nw.use rfl (hG.2.2.2.2.2.2.2.2.2.1 _ e1)) (vx_c (va_Nw.use rfl (hG.2.2.2.2.2.2.2.2.2.2.2.1 _ (by decide))) (vx_c (va_Nw.use rfl (hG.2.2.2.2.2.2.2.2.2.2.2.1 _ (by decide))) (vx_c (va_Nw.use rfl (hG.2.2.2.2.2.2.2.2.2.2.2.1 _ (by decide))) vx_n))))) e7 hG.2.2.2.2.1 hG.2.2.2.2.2.1 h5 (h6.1.trans hml.symm) d0 d3 d4 d7 d10 (fun x hx => (htb x hx).elim) ?_ ?_ ?_ ?_ hlk (fun t _ z1 z2 => ⟨rfl, z1, z2⟩) h5.2.2 (Nat.le_refl _) (Nat.le_refl _))
  · rw [hR]; show 2 + 3 < d; omega
  · rw [hR]; show _ + (13 * (2 + 1) + 43) ≤ 34 * d; omega
  · rw [hR]; show cells + 1 ≤ 50000 * (d + 1); omega
  · rw [hR]; show slots + 6 ≤ 400000 * (d + 1); omega
end ZCALL2
