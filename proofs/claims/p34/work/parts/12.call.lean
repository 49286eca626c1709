theorem zsum {f : Cell → Nat} {l l' : List Cell} {k : Nat} (hlen : l.length ≤ l'.length) (hk : k ≤ l.length) (hsz : ∀ (i : Nat) (c : Cell), l[i]? = some c → ∃ c', l'[i]? = some c' ∧ f c' = f c) : ((l'.drop k).map f).sum = ((l.drop k).map f).sum + ((l'.drop l.length).map f).sum := by
  have e : (l'.take l.length).map f = l.map f := by
    apply List.ext_getElem?
    intro i
    rw [List.getElem?_map, List.getElem?_map]
    by_cases hi : i < l.length
    · obtain ⟨c', h1, h2⟩ := hsz i _ (List.getElem?_eq_getElem hi)
      rw [List.getElem?_take_of_lt hi, h1, List.getElem?_eq_getElem hi]
      show some (f c') = some (f _)
      rw [h2]
    · have h1 : l[i]? = none := List.getElem?_eq_none (by omega)
      have h2 : (l'.take l.length)[i]? = none := List.getElem?_eq_none (by rw [List.length_take]; omega)
      rw [h1, h2]
  have hd : l'.drop k = (l'.take l.length).drop k ++ l'.drop l.length := by
    conv => lhs; rw [← List.take_append_drop l.length l']
    rw [List.drop_append_of_le_length (by rw [List.length_take]; omega)]
  rw [hd, List.map_append, List.sum_append, List.map_drop, e, ← List.map_drop]
theorem ztight {p : Program} {l : Launch} {e : Env} {R : Room} {s : State} {m : MethodId} {args : Array Value} {below : List Frame} {meth : Method} {c : Code} {T T' : State} {locs locs' : List Loc} {cells slots cells' slots' : Nat}
    (X : Stand p l e R s m args below meth c T locs cells slots) (X' : Stand p l e R s m args below meth c T' locs' cells' slots') {st t : State} {L : List Loc} {k n : Nat} (hs : st.sameButNew ({ t with vm := st.vm } : State) L k n) (e0 : st.heap = T.heap) (e1 : T'.heap = t.heap) :
    Stand p l e R s m args below meth c T' locs' (cells + k) (slots + n) := by
  obtain ⟨a1, a2, a3, a4, a5, a6⟩ := X.same
  obtain ⟨b1, b2, b3, b4, b5, b6⟩ := X'.same
  obtain ⟨c1, c2, c3, c4, c5, c6⟩ := hs
  refine { X' with same := ⟨b1, b2, ?_, b4, ?_, b6⟩ }
  · show T'.heap.size ≤ s.heap.size + (cells + k)
    have a3 : T.heap.size ≤ s.heap.size + cells := a3
    have c3 : t.heap.size ≤ st.heap.size + k := c3
    rw [e0] at c3
    rw [e1]
    omega
  · show ((T'.heap.toList.drop s.heap.size).map (·.slots.size)).sum ≤ slots + n
    have a5 : ((T.heap.toList.drop s.heap.size).map (·.slots.size)).sum ≤ slots := a5
    have c5 : ((t.heap.toList.drop st.heap.size).map (·.slots.size)).sum ≤ n := c5
    have a2 : s.heap.size ≤ T.heap.size := a2
    have c2 : st.heap.size ≤ t.heap.size := c2
    rw [e0] at c5 c2
    rw [e1]
    have hz := zsum (f := fun c => c.slots.size) (l := T.heap.toList) (l' := t.heap.toList) (k := s.heap.size) (by simpa using c2) (by simpa using a2) (fun i c hi => by
      have hi' : st.heap[i]? = some c := by rw [e0]; simpa using hi
      obtain ⟨c', q1, q2, q3, q4⟩ := c6 i c hi'
      exact ⟨c', by simpa using q1, q3⟩)
    have hl : T.heap.toList.length = T.heap.size := by simp
    rw [hl] at hz
    rw [hz]
    omega
theorem zroomle {h : zH} {n0 cells z0 slots d : Nat} (h1 : h.2.1 = n0 + cells) (h2 : h.2.2 = z0 + slots) (h3 : zcap h) : cells ≤ 50000 * (d + 1) ∧ slots ≤ 400000 * (d + 1) := by
  have := h3.1
  have := h3.2
  omega
/-- a return, as the method's end wants it -/
theorem zend {G : zW} {below : List Frame} {Q : zOut → zH → Prop} {s : State} {args : Array Value} {H : Heap} {locs : List Loc} {cells slots n0 z0 d : Nat} {h : zH} {v : Option Value} (hQ : Q (.inl v) h) (h1 : h.2.1 = n0 + cells) (h2 : h.2.2 = z0 + slots) (h3 : zcap h) (h4 : zR G h.1 H) (h5 : va_S (zA G) s.heap H locs) :
    ∀ t, MQ below (fun _ _ o t => o = .returned v ∧ t.heap = H) args s cells slots (zA G) t → vx_MQ below (zQ G Q n0 z0) (zX G Q n0 z0) args s (50000 * (d + 1)) (400000 * (d + 1)) (zA G) t := by
  rintro t ⟨o, a1, a2, ⟨rfl, a3⟩, L, ⟨b1, b2, b3⟩, b4⟩
  obtain ⟨g1, g2⟩ := zroomle (d := d) h1 h2 h3
  exact ⟨_, a1, a2, Or.inl ⟨⟨v, h, cells, slots, L, rfl, hQ, by rw [a3]; exact h4, h1, h2, h3, b3, b4, h5.F a3⟩, L, ⟨b1, b2, b3.mono g1 g2⟩, b4⟩⟩
section ZCALL
variable {G : zW} {y : MethodName} {cc : ByteArray} {nL : Nat} {ret : Option FieldType} {d : Nat} {pc : Nat} {lv : List (Nat × Value)} {st : List Value} {h : zH} {Q : zOut → zH → Prop} {tg tg2 : Nat}
theorem v_ireturn {x : Int32} (hd : decode cc pc = .ok (.ireturn, 1)) (hr : ret = some .int) (hQ : Q (.inl (some (.int x))) h) : zV G y cc nL ret d pc lv [.int x] h Q := fun p e R s m args below meth c H locs cells slots n0 z0 ls C h1 h2 h3 h4 h5 h6 => by
  obtain ⟨hx, hb, hml, hown, hrt, hlk, hnm, htb, hts, hR, hG, hbs⟩ := C
  exact W.mono (zend hQ h1 h2 h3 h4 h5) (W.iret hx hb (hrt.trans hr) (fun t ht hW => ⟨rfl, ht⟩) h5.2.2 hd hlk)
theorem v_zreturn {x : Int32} (hd : decode cc pc = .ok (.ireturn, 1)) (hr : ret = some .boolean) (hn : narrow .boolean (.int x) = .int x) (hQ : Q (.inl (some (.int x))) h) : zV G y cc nL ret d pc lv [.int x] h Q := fun p e R s m args below meth c H locs cells slots n0 z0 ls C h1 h2 h3 h4 h5 h6 => by
  obtain ⟨hx, hb, hml, hown, hrt, hlk, hnm, htb, hts, hR, hG, hbs⟩ := C
  exact W.mono (zend hQ h1 h2 h3 h4 h5) (W.zret hx hb (hrt.trans hr) hn (fun t ht hW => ⟨rfl, ht⟩) h5.2.2 hd hlk)
theorem v_lreturn {x : Int64} (hd : decode cc pc = .ok (.lreturn, 1)) (hr : ret = some .long) (hQ : Q (.inl (some (.long x))) h) : zV G y cc nL ret d pc lv [.long x] h Q := fun p e R s m args below meth c H locs cells slots n0 z0 ls C h1 h2 h3 h4 h5 h6 => by
  obtain ⟨hx, hb, hml, hown, hrt, hlk, hnm, htb, hts, hR, hG, hbs⟩ := C
  exact W.mono (zend hQ h1 h2 h3 h4 h5) (W.lret hx hb (hrt.trans hr) (fun t ht hW => ⟨rfl, ht⟩) h5.2.2 hd hlk)
theorem v_dreturn {x : UInt64} (hd : decode cc pc = .ok (.dreturn, 1)) (hr : ret = some .double) (hQ : Q (.inl (some (.double x))) h) : zV G y cc nL ret d pc lv [.double x] h Q := fun p e R s m args below meth c H locs cells slots n0 z0 ls C h1 h2 h3 h4 h5 h6 => by
  obtain ⟨hx, hb, hml, hown, hrt, hlk, hnm, htb, hts, hR, hG, hbs⟩ := C
  exact W.mono (zend hQ h1 h2 h3 h4 h5) (W.dret hx hb (hrt.trans hr) (fun t ht hW => ⟨rfl, ht⟩) h5.2.2 hd hlk)
theorem v_areturn {x : Nat} {rt : FieldType} (hd : decode cc pc = .ok (.areturn, 1)) (hr : ret = some rt) (hrf : (∃ n, rt = .object n) ∨ ∃ t, rt = .array t) (hQ : Q (.inl (some (.ref x))) h) : zV G y cc nL ret d pc lv [.ref x] h Q := fun p e R s m args below meth c H locs cells slots n0 z0 ls C h1 h2 h3 h4 h5 h6 => by
  obtain ⟨hx, hb, hml, hown, hrt, hlk, hnm, htb, hts, hR, hG, hbs⟩ := C
  exact W.mono (zend hQ h1 h2 h3 h4 h5) (W.aret hx hb (hrt.trans hr) hrf (Or.inr ⟨x, rfl⟩) (fun t ht hW => ⟨rfl, ht⟩) h5.2.2 hd hlk)
theorem v_return (hd : decode cc pc = .ok (.return_, 1)) (hr : ret = none) (hQ : Q (.inl none) h) : zV G y cc nL ret d pc lv [] h Q := fun p e R s m args below meth c H locs cells slots n0 z0 ls C h1 h2 h3 h4 h5 h6 => by
  obtain ⟨hx, hb, hml, hown, hrt, hlk, hnm, htb, hts, hR, hG, hbs⟩ := C
  exact W.mono (zend hQ h1 h2 h3 h4 h5) (W.vret hx hb (hrt.trans hr) (fun t ht hW => ⟨rfl, ht⟩) h5.2.2 hd hlk)
/-- what follows a call -/
theorem zcall {p : Program} {e : Env} {R : Room} {s : State} {m : MethodId} {args : Array Value} {below : List Frame} {meth : Method} {c : Code} {H : Heap} {locs : List Loc} {cells slots n0 z0 : Nat} {ls : Array Slot} {stk rest : List Value} {a : Array Value} {Qc : zOut → zH → Prop} {MC MS : Nat}
    (C : zC G y cc nL ret d p R s m args meth c) (h1 : h.2.1 = n0 + cells) (h2 : h.2.2 = z0 + slots) (h5 : va_S (zA G) s.heap H locs) (h6 : lv_has ls nL lv)
    (hr : vx_Run p G.1 e R s m args below meth c H locs cells slots MC MS (F0 m pc ls stk) rest (zQ G Qc h.2.1 h.2.2 a) (zX G Qc h.2.1 h.2.2) (zA G))
    (kr : ∀ (v : Option Value) (h9 : zH), Qc (.inl v) h9 → zV G y cc nL ret d (pc + 3) lv (v.toList ++ rest) h9 Q) (kx : ∀ (E : String) (h9 : zH), Qc (.inr E) h9 → Q (.inr E) h9) :
    W p G.1 e R s m args below meth c H locs cells slots (vx_MQ below (zQ G Q n0 z0) (zX G Q n0 z0) args s (50000 * (d + 1)) (400000 * (d + 1)) (zA G)) (F0 m pc ls stk) := by
  intro T hT X
  have hSz : ∀ {st t : State} {L : List Loc} {T' : State}, st.heap = H → T'.heap = t.heap → (∀ q ∈ L, zA G q.base) → va_F (zA G) st t → va_S (zA G) s.heap T'.heap (locs ++ L) := by
    intro st t L T' e0 e1 hL hF
    refine ⟨?_, fun q q1 q2 => ?_, fun z hz => (List.mem_append.mp hz).elim (h5.2.2 z) (hL z)⟩
    · rw [e1]; exact Nat.le_trans h5.1 (by rw [← e0]; exact hF.1)
    · rw [e1, hF.2 q (by rw [e0]; exact Nat.lt_of_lt_of_le q1 h5.1) q2, e0]; exact h5.2.1 q q1 q2
  rcases hr T hT X with ⟨v, st₀, t, T', L, e0, X', hL, e1, e2, hq, hg⟩ | ⟨q, st₀, t, T', L, E, ce, e0, X', hL, e1, e2, hx9, hce, hcv, hcl, hst⟩
  · obtain ⟨v', h9, k, n, L', ho, hQ, hRep, c1, c2, hcap, hsame, hL', hF⟩ := hq
    cases ho
    have X2 := ztight X X' hsame (by rw [e0, hT]) e1
    obtain ⟨t2, a1, b1⟩ := kr v h9 hQ p e R s m args below meth c T'.heap (locs ++ L) (cells + k) (slots + n) n0 z0 ls C (by rw [c1, h1]; omega) (by rw [c2, h2]; omega) hcap (by rw [e1]; exact hRep) (hSz e0 e1 hL hF) h6 T' rfl X2
    exact ⟨t2, hg t2 a1, b1⟩
  · obtain ⟨h9, k, n, L', hQ, hRep, c1, c2, hcap, hsame, hL', hF⟩ := hx9
    have X2 := ztight X X' hsame (by rw [e0, hT]) e1
    have hS9 := hSz e0 e1 hL hF
    obtain ⟨g1, g2⟩ := zroomle (d := d) (h := h9) (n0 := n0) (cells := cells + k) (z0 := z0) (slots := slots + n) (by rw [c1, h1]; omega) (by rw [c2, h2]; omega) hcap
    obtain ⟨t2, a1, o, b1, b2, b3⟩ := vx_out (Qc := fun _ _ _ _ => False) (XC := fun E' st t => E' = E ∧ t.heap = T'.heap) (rest := rest) (free := zA G) (mc := cells + k) (ms := slots + n) (args := args) (below := below) (pc := pc) (ls := ls) (fun x hx => (C.2.2.2.2.2.2.2.1 x hx).elim) C.2.2.2.2.2.1 (by rw [e1]; exact hce) hcv hcl (fun t ht hA => ⟨rfl, ht⟩) hS9.2.2 (Nat.le_refl _) (Nat.le_refl _) T' rfl X2
    refine ⟨t2, hst.trans a1, o, b1, b2, ?_⟩
    rcases b3 with ⟨b3, -⟩ | ⟨q2, rfl, E2, ce2, L2, ⟨rfl, d1⟩, d2, d3, d4, d5, d6, d7⟩
    · exact b3.elim
    · refine Or.inr ⟨q2, rfl, E2, ce2, L2, ⟨h9, cells + k, slots + n, L2, kx _ _ hQ, by rw [d1, e1]; exact hRep, by rw [c1, h1]; omega, by rw [c2, h2]; omega, hcap, d6, d7, hS9.F d1⟩, d2, d3, d4, d5, d6.mono g1 g2, d7⟩
/-- the words of a call -/
def zCS (own : String) (idx : Nat) (y' : MethodName) (cc' : ByteArray) (nL' : Nat) (ret' : Option FieldType) (n : Nat) : Prop :=
  Cond.methodLink own idx y' ∈ GT ∧ Cond.initialized y'.cls ∈ GT ∧ Cond.code y' cc' nL' ret' ∈ GT ∧ nL' ≤ 15 ∧ y'.cls ≠ "java/lang/invoke/MethodHandle" ∧ y'.cls ≠ "java/lang/invoke/VarHandle" ∧ (parseMethodDescriptor y'.desc).map (fun d => d.parameters.length) = some n
theorem zgood {y' : MethodName} {cc' : ByteArray} {nL' : Nat} {ret' : Option FieldType} {l : List Cond} (h : ∀ w ∈ l, w ∈ GT) (hc : Cond.code y' cc' nL' ret' ∈ GT) : GoodIn GT (l ++ (Cond.code y' cc' nL' ret' :: GT)) := by
  intro w hw
  have hm : w ∈ GT := by
    rcases List.mem_append.mp hw with h1 | h1
    · exact h w h1
    · rcases List.mem_cons.mp h1 with rfl | h2
      · exact hc
      · exact h2
  exact ⟨hm, good_of_word (GT_good hm)⟩
theorem zblind {as : List Value} {h9 : zH} : FrameBlind (zPc G as h9) := fun a U g mk ⟨q1, q2, q3, q4, q5⟩ =>
  ⟨q1, zG.moved (s := U) (U := U.calling g mk a) (State.WarmedH.refl U) q2, q3, q4, q5⟩
theorem zpre {s : State} {H : Heap} {locs : List Loc} {as : List Value} (hG : zG G s s.heap) (h4 : zR G h.1 H) (h3 : zcap h) (h5 : va_S (zA G) s.heap H locs) (hbs : G.2.2.2.1 ≤ s.heap.size) : PreS s H (zPc G as h) as :=
  ⟨zblind, fun U hU hW => ⟨rfl, by rw [hU]; exact (hG.kept h5.2.1).moved hW, by rw [hU]; exact h4, h3, by rw [hU]; exact Nat.le_trans hbs h5.1⟩⟩
theorem v_callS {idx n d' nL' : Nat} {y' : MethodName} {cc' : ByteArray} {ret' : Option FieldType} {as rest : List Value} {Qc : zOut → zH → Prop} (hc : zCS y.cls idx y' cc' nL' ret' n) (hst : Cond.static y' ∈ GT) (hd : decode cc pc = .ok (.invokestatic idx, 3)) (hM : zM G y' cc' nL' ret' d' as h Qc) (hs : st = as.reverse ++ rest) (hn : as.length = n) (hdd : d' + 1 ≤ d) (hW : (rest.map fun v => v.category).sum ≤ 8)
    (kr : ∀ (v : Option Value) (h9 : zH), Qc (.inl v) h9 → zV G y cc nL ret d (pc + 3) lv (v.toList ++ rest) h9 Q) (kx : ∀ (E : String) (h9 : zH), Qc (.inr E) h9 → Q (.inr E) h9) : zV G y cc nL ret d pc lv st h Q := fun p e R s m args below meth c H locs cells slots n0 z0 ls C h1 h2 h3 h4 h5 h6 => by
  obtain ⟨hx, hb, hml, hown, hrt, hlk, hnm, htb, hts, hR, hG, hbs⟩ := C
  obtain ⟨c1, c2, c3, c4, c5, c6, c7⟩ := hc
  obtain ⟨hq1, hq2⟩ := h3
  refine zcall ⟨hx, hb, hml, hown, hrt, hlk, hnm, htb, hts, hR, hG, hbs⟩ h1 h2 h5 h6 (vx_runS (As := as) (rest := rest) ⟨hx, hb, hml, hown, hts⟩ hM (va_cwS n hts (zgood (by simp [c1, hst, c2]) c3) rfl rfl rfl ⟨c5, c6, c7⟩ ?_) (zpre hG h4 ⟨hq1, hq2⟩ h5 hbs) rfl hn h6.1 hs (by show 2 * 0 + _ ≤ 8; omega) hd ?_) kr kx
  · rw [hR]; exact ⟨hdd, by show 8 + (nL' + 11) + 34 * d' ≤ 34 * d; omega⟩
  · rw [hR]; exact ⟨by show cells + 50000 * (d' + 1) ≤ 50000 * (d + 1); omega, by show slots + 400000 * (d' + 1) ≤ 400000 * (d + 1); omega⟩
theorem v_callV {idx n d' nL' b ci : Nat} {vs : List Value} {y' : MethodName} {cc' : ByteArray} {ret' : Option FieldType} {as rest : List Value} {Qc : zOut → zH → Prop} (hc : zCS y.cls idx y' cc' nL' ret' n) (hin : Cond.instanceMethod y' ∈ GT) (hse : Cond.selects y'.cls y' y' ∈ GT) (hci : zCL[ci]?.map (fun q => q.1) = some y'.cls) (hd : decode cc pc = .ok (.invokevirtual idx, 3)) (hbv : h.1 b = some (tg, .inr (ci, vs))) (hM : zM G y' cc' nL' ret' d' (.ref b :: as) h Qc) (hs : st = as.reverse ++ .ref b :: rest) (hn : as.length = n) (hdd : d' + 1 ≤ d) (hW : (rest.map fun v => v.category).sum ≤ 8)
    (kr : ∀ (v : Option Value) (h9 : zH), Qc (.inl v) h9 → zV G y cc nL ret d (pc + 3) lv (v.toList ++ rest) h9 Q) (kx : ∀ (E : String) (h9 : zH), Qc (.inr E) h9 → Q (.inr E) h9) : zV G y cc nL ret d pc lv st h Q := fun p e R s m args below meth c H locs cells slots n0 z0 ls C h1 h2 h3 h4 h5 h6 => by
  obtain ⟨hx, hb, hml, hown, hrt, hlk, hnm, htb, hts, hR, hG, hbs⟩ := C
  obtain ⟨c1, c2, c3, c4, c5, c6, c7⟩ := hc
  obtain ⟨hq1, hq2⟩ := h3
  have hp := zpre (as := .ref b :: as) hG h4 ⟨hq1, hq2⟩ h5 hbs
  obtain ⟨ws, w1, w2, w3, q0, hq⟩ := h4.at hbv
  have hrec : ∃ cell : Cell, H[b]? = some cell ∧ cell.vm.isStatics = false ∧ s.vm.findClass y'.cls = some cell.cls := by
    cases hz : zCL[ci]? with
    | none => rw [hz] at hci; cases hci
    | some r =>
      rw [hz] at hci
      have e9 : r.1 = y'.cls := Option.some.inj hci
      rw [← e9]
      exact va_recv hG.2.1 w2 hz hq
  refine zcall ⟨hx, hb, hml, hown, hrt, hlk, hnm, htb, hts, hR, hG, hbs⟩ h1 h2 h5 h6 (vx_runV (As := as) (rest := rest) (C := y'.cls) ⟨hx, hb, hml, hown, hts⟩ hM (cwV n hts (zgood (by simp [c1, hin, hse, c2]) c3) rfl rfl rfl ⟨rfl, c5, c6, c7⟩ ?_) ⟨hp.1, hrec, hp.2⟩ rfl hn h6.1 hs (by show 2 * 0 + _ ≤ 8; omega) hd ?_) kr kx
  · rw [hR]; exact ⟨hdd, by show 8 + (nL' + 11) + 34 * d' ≤ 34 * d; omega⟩
  · rw [hR]; exact ⟨by show cells + 50000 * (d' + 1) ≤ 50000 * (d + 1); omega, by show slots + 400000 * (d' + 1) ≤ 400000 * (d + 1); omega⟩
/-- a contract out of the walk from the method's entry -/
theorem zM.of {as : List Value} (hy : plainName y.cls = true) (hl : (lg_sl as).length ≤ nL) (k : zV G y cc nL ret d 0 (lv_args 0 as) [] h Q) : zM G y cc nL ret d as h Q := by
  refine vx_ofW (cc := cc) (maxL := nL) (ret := ret) hy rfl ?_
  intro p e s m args below meth c s₁ B hml htab hPc
  obtain ⟨rfl, hG, hR, hcap, hbs⟩ := hPc
  rw [lg_entry_eq]
  exact k p e (zroom d) s m as.toArray below meth c s.heap [] 0 0 h.2.1 h.2.2 _ ⟨B.exec, B.bytes, hml, findClass_of_methodNamed B.named, B.returns, B.notSynchronized, (name_of_methodNamed B.named B.method).1, htab, fun w hw => atoms_spec (ws := .code y cc nL ret :: GT) B.pre w (List.mem_cons_of_mem _ hw), rfl, hG, hbs⟩ rfl rfl hcap hR va_S.rf (lv_entry as hl)
theorem zM.mono {as : List Value} {Q' : zOut → zH → Prop} (hq : ∀ o h, Q o h → Q' o h) (k : zM G y cc nL ret d as h Q) : zM G y cc nL ret d as h Q' := by
  intro p e ha hc hk s m args below hf happ hP hK
  obtain ⟨n, o, a1, a2, a3, a4⟩ := k p e ha hc hk s m args below hf happ hP hK
  refine ⟨n, o, a1, a2, a3, ?_⟩
  rcases a4 with ⟨⟨v, h9, k9, n9, L, b1, b2, b3⟩, b4⟩ | ⟨q, b1, E, ce, L, ⟨h9, k9, n9, L9, c1, c2⟩, b2⟩
  · exact Or.inl ⟨⟨v, h9, k9, n9, L, b1, hq _ _ b2, b3⟩, b4⟩
  · exact Or.inr ⟨q, b1, E, ce, L, ⟨h9, k9, n9, L9, hq _ _ c1, c2⟩, b2⟩
end ZCALL
