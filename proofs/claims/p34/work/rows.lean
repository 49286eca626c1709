section
-- ===== PART A: goes FIRST, ahead of the names: the tables' words, and 'selects' of the private methods out of them =====
/-- a private method of a class that the tables say can be made, by its rows of tables_1 -/
def lw_okq (q : MethodName × Nat) : Prop := (q.1.cls ≠ "java/lang/invoke/MethodHandle" ∧ q.1.cls ≠ "java/lang/invoke/VarHandle") ∧ Cond.instantiable q.1.cls q.2 ∈ tables_1 ∧ Cond.privateMethod q.1 ∈ tables_1 ∧ Cond.instanceMethod q.1 ∈ tables_1
theorem lw_p0 : lw_okq (⟨"java/lang/Throwable", "fillInStackTrace", "(I)Ljava/lang/Throwable;"⟩, 6) := ⟨⟨by decide +kernel, by decide +kernel⟩, List.mem_of_getElem? (i := 189) (by decide +kernel), List.mem_of_getElem? (i := 187) (by decide +kernel), List.mem_of_getElem? (i := 188) (by decide +kernel)⟩
theorem lw_p1 : lw_okq (⟨"RingThreads", "copyTo", "([LRingThreads$Ring;I)V"⟩, 7) := ⟨⟨by decide +kernel, by decide +kernel⟩, List.mem_of_getElem? (i := 15) (by decide +kernel), List.mem_of_getElem? (i := 219) (by decide +kernel), List.mem_of_getElem? (i := 220) (by decide +kernel)⟩
theorem lw_p2 : lw_okq (⟨"RingThreads", "save", "()V"⟩, 7) := ⟨⟨by decide +kernel, by decide +kernel⟩, List.mem_of_getElem? (i := 15) (by decide +kernel), List.mem_of_getElem? (i := 250) (by decide +kernel), List.mem_of_getElem? (i := 251) (by decide +kernel)⟩
theorem lw_p3 : lw_okq (⟨"RingThreads$Ring", "putThread", "(II)V"⟩, 19) := ⟨⟨by decide +kernel, by decide +kernel⟩, List.mem_of_getElem? (i := 40) (by decide +kernel), List.mem_of_getElem? (i := 419) (by decide +kernel), List.mem_of_getElem? (i := 420) (by decide +kernel)⟩
theorem lw_p4 : lw_okq (⟨"RingThreads", "needNail", "(I)V"⟩, 7) := ⟨⟨by decide +kernel, by decide +kernel⟩, List.mem_of_getElem? (i := 15) (by decide +kernel), List.mem_of_getElem? (i := 487) (by decide +kernel), List.mem_of_getElem? (i := 488) (by decide +kernel)⟩
def lw_privs_1 : List (MethodName × Nat) := [(⟨"java/lang/Throwable", "fillInStackTrace", "(I)Ljava/lang/Throwable;"⟩, 6), (⟨"RingThreads", "copyTo", "([LRingThreads$Ring;I)V"⟩, 7), (⟨"RingThreads", "save", "()V"⟩, 7), (⟨"RingThreads$Ring", "putThread", "(II)V"⟩, 19), (⟨"RingThreads", "needNail", "(I)V"⟩, 7)]
theorem lw_r1 : ∀ q ∈ lw_privs_1, lw_okq q := List.forall_mem_cons.mpr ⟨lw_p0, List.forall_mem_cons.mpr ⟨lw_p1, List.forall_mem_cons.mpr ⟨lw_p2, List.forall_mem_cons.mpr ⟨lw_p3, List.forall_mem_cons.mpr ⟨lw_p4, fun _ h => absurd h List.not_mem_nil⟩⟩⟩⟩⟩
def lw_privs : List (MethodName × Nat) := lw_privs_1
def lw_tbl : List Cond := k2_sels lw_privs ++ tables_1
theorem lw_privs_ok : ∀ q ∈ lw_privs, lw_okq q := lw_r1
end
section
/-! ===== BEGIN words of one list among another's, by their places ===== -/
theorem goodIn_r {big : List Cond} (ws : List Cond) (ps : List Nat) (hp : ws = ps.filterMap (fun i => big[i]?)) (h : ws.all goodWord = true) : GoodIn big ws := by
  intro w hw
  have h1 := List.all_eq_true.mp h w hw
  rw [hp] at hw
  obtain ⟨i, -, hi⟩ := List.mem_filterMap.mp hw
  have hm : w ∈ big := by first | exact List.mem_of_getElem? hi | exact List.getElem?_mem hi
  exact ⟨hm, good_of_word h1⟩
theorem goodIn_app {big a b : List Cond} (ha : GoodIn big a) (hb : GoodIn big b) : GoodIn big (a ++ b) := fun w h => (List.mem_append.mp h).elim (ha w) (hb w)
theorem goodIn_ca {big a b : List Cond} {c : Cond} (ha : GoodIn big (c :: a)) (hb : GoodIn big b) : GoodIn big (c :: (a ++ b)) := fun w h => (List.mem_cons.mp h).elim (fun e => ha w (List.mem_cons.mpr (Or.inl e))) (fun h => (List.mem_append.mp h).elim (fun h => ha w (List.mem_cons.mpr (Or.inr h))) (hb w))
theorem goodIn_sub {big ws : List Cond} (hm : ∀ w ∈ ws, w ∈ big) (h : ws.all goodWord = true) : GoodIn big ws := fun w hw => ⟨hm w hw, good_of_word (List.all_eq_true.mp h w hw)⟩
/-! ===== END ===== -/

/-! ===== BEGIN exceptions that leave a method, and their catching by the caller (launches without stack traces) ===== -/
section VXA
/-! The laws vx_back, vx_callV, vx_callS, vx_callSW, vx_throw0, vx_throwS follow proofs of the library, with one case more: JvmDerived/Free/Laws.lean (Back.of_free), Shelf42/LK1.lean (callV, callS), Shelf/KitTraced.lean (throwNew0V, throwNewS). -/
/-- where a method has thrown q: the class by its name, the cell, what was written, the world -/
def vx_T (XC : String → State → State → Prop) (st : State) (q : Addr) (t : State) (mc ms : Nat) (free : Addr → Prop) : Prop :=
  ∃ (E : String) (ce : Cell) (L : List Loc), XC E st t ∧ t.heap[q]? = some ce ∧ ce.vm = .none ∧ st.vm.findClass E = some ce.cls ∧ st.WarmedH t.vm ∧ st.sameButNew ({ t with vm := st.vm } : State) L mc ms ∧ ∀ z ∈ L, free z.base
def vx_Q (Qc : Array Value → State → Outcome → State → Prop) (XC : String → State → State → Prop) (mc ms : Nat) (free : Addr → Prop) : Array Value → State → Outcome → State → Prop := fun a st o t =>
  (Qc a st o t ∧ ∃ L, FrameEnd st o t L mc ms ∧ ∀ q ∈ L, free q.base) ∨ ∃ q, o = .threw q ∧ vx_T XC st q t mc ms free
/-- a callee that returns or throws -/
def vx_Met (l : Launch) (y : MethodName) (ws : List Cond) (rm : Room) (Pc : Array Value → State → Prop) (Qc : Array Value → State → Outcome → State → Prop) (XC : String → State → State → Prop) (mc ms : Nat) (free : Addr → Prop) : Prop :=
  MetFree l y (headSpec ws rm) Pc (fun _ _ _ _ _ => True) (vx_Q Qc XC mc ms free)
def vx_Post (XC : String → State → State → Prop) (mc ms : Nat) (free : Addr → Prop) : Pt → Array Value → Addr → Pt → Prop := fun A a q B =>
  ∃ (g : JFrame) (mk : MethodId) (t : State) (L : List Loc) (E : String) (ce : Cell), B.U.heap = t.heap ∧ B.U.vm = t.vm ∧ XC E (A.U.calling g mk a) t ∧ t.heap[q]? = some ce ∧ ce.vm = .none ∧ A.U.vm.findClass E = some ce.cls ∧ B.locs = A.locs ++ L ∧ (∀ z ∈ L, free z.base) ∧ B.cells = A.cells + mc ∧ B.slots = A.slots + ms
def vx_Back (l : Launch) (R : Room) (p : Program) (e : Env) (below : List Frame) (s : State) (sargs : Array Value) (y : MethodName) (len W9 : Nat)
    (Pre : Pt → Array Value → Prop) (Post : Pt → Array Value → Option Value → Pt → Prop) (PostX : Pt → Array Value → Addr → Pt → Prop) : Prop :=
  ∀ (m : MethodId) (meth : Method) (c : Code) (A : Pt) (g : JFrame) (ig : Instr) (mk : MethodId) (a : Array Value),
    Stand p l e R s m sargs below meth c A.U A.locs A.cells A.slots → g.method = m → g.locals.size = c.maxLocals → decode c.code g.pc = .ok (ig, len) →
    2 * g.monitorRoom + (g.stack.map fun v => v.category).sum ≤ W9 → A.U.methodNamed? y = some mk → Pre A a →
    (∃ (v : Option Value) (B : Pt), Stand p l e R s m sargs below meth c B.U B.locs B.cells B.slots ∧ Post A a v B ∧
      Steps p.tables e below (doInvoke e (A.U.setTop g) [] mk a).1 (B.U.setTop { g with pc := g.pc + len, stack := v.toList ++ g.stack })) ∨
    (∃ (q : Addr) (B : Pt), Stand p l e R s m sargs below meth c B.U B.locs B.cells B.slots ∧ PostX A a q B ∧
      Steps p.tables e below (doInvoke e (A.U.setTop g) [] mk a).1 ((B.U.setTop g).pushFrame (.throwing q)))
section Payer
variable {l : Launch} {R : Room} {p : Program} {e : Env} {below : List Frame} {s : State} {sargs : Array Value} {y : MethodName} {len W9 : Nat}
theorem vx_back {ws : List Cond} {rm : Room} {Pc : Array Value → State → Prop} {Qc : Array Value → State → Outcome → State → Prop} {XC : String → State → State → Prop} {mc ms : Nat} {free : Addr → Prop} {bytes : ByteArray} {maxL : Nat} {ret : Option FieldType}
    (hM : vx_Met l y ws rm Pc Qc XC mc ms free) (hblind : FrameBlind Pc) (hrc : rm.cells = mc) (hrs : rm.slots = ms)
    (hframes : rm.frames + 1 ≤ R.frames) (hlocals : W9 + (maxL + 11) + rm.locals ≤ R.locals)
    (hws : ∀ w ∈ ws, ∀ a' U, s.WarmedH U.vm → w.before a' U = true) (hcode : Cond.code y bytes maxL ret ∈ ws) (hinit : ∀ a' U, s.WarmedH U.vm → (Cond.initialized y.cls).before a' U = true) :
    vx_Back l R p e below s sargs y len W9 (PreOf R mc ms Pc) (PostOf Qc mc ms free) (vx_Post XC mc ms free) := by
  intro m meth c A g ig mk a X hg hsize hdg hW hn hp
  have h1 : (headSpec ws rm).pre.before a A.U = true := atoms_intro fun w hw => hws w hw _ _ X.warmed
  have h2 : (Cond.code y bytes maxL ret).before a A.U = true := hws _ hcode _ _ X.warmed
  have h3 : (Cond.initialized y.cls).before a A.U = true := hinit _ _ X.warmed
  have h4 : A.cells + (headSpec ws rm).room.cells ≤ R.cells := by rw [show (headSpec ws rm).room.cells = mc from hrc]; exact hp.1
  have h5 : A.slots + (headSpec ws rm).room.slots ≤ R.slots := by rw [show (headSpec ws rm).room.slots = ms from hrs]; exact hp.2.1
  have hPc : Pc a (A.U.calling g mk a) := hblind _ _ _ _ hp.2.2
  obtain ⟨U, Ls, c0, s0⟩ := A
  dsimp only [Pt.U, Pt.locs, Pt.cells, Pt.slots] at h1 h2 h3 h4 h5 X hn hPc ⊢
  obtain ⟨methY, cY, hmY, hcY, -, hlY, -, -, -, -⟩ := Cond.code_spec hn h2
  obtain ⟨kY, hkY, -⟩ := className_of_methodNamed hn
  have hinitY : kY.init = .initialized := Cond.initialized_spec (findClass_of_methodNamed hn) hkY h3
  have h : At U g.method c below := by rw [hg]; exact X.here
  have hlocals9 : W9 + (maxL + 11) + (headSpec ws rm).room.locals ≤ R.locals := hlocals
  have happ : (headSpec ws rm).appliesLoose y e.platform (U.calling g mk a) = true :=
    Spec.appliesLoose_calling (g := g) h hdg hn hkY hinitY
      (X.room_calling (g := g) (R' := (headSpec ws rm).room) hsize hmY hcY hframes (by rw [hlY]; omega) h4 h5) h1
  obtain ⟨mid, hmid⟩ := h.above
  have hfr : (U.setTop g).frames = (.java g :: mid) ++ below := by rw [State.frames_setTop' g h.top, hmid]; rfl
  obtain ⟨o, s₂, hsteps, -, hend, hq⟩ := Steps.callFree hM p X.admits X.cas X.clock (acts := []) hfr happ hPc trivial
  have hq' : vx_Q Qc XC mc ms free a (U.calling g mk a) o s₂ := hq
  rw [State.frames_setTop' g h.top] at hend
  obtain ⟨g₀, hg0⟩ := Option.isSome_iff_exists.mp h.top
  obtain ⟨r, hr⟩ := State.topJava?_eq_some.mp hg0
  have hr' : (({ U with heap := s₂.heap, slotsUsed := s₂.slotsUsed } : State).setVm s₂.vm).frames = .java g₀ :: r := hr
  rcases hq' with ⟨hqc, L, hfe, hL⟩ | ⟨q, rfl, E, ce, L, hx, hce, hcv, hcl, hW₂, hsm, hL⟩
  · obtain ⟨⟨v, rfl⟩, hW₂, e2, q2, q3, q4, q5, q6⟩ := id hfe
    have e3 : s₂ = ({ (U.calling g mk a).setFrames s₂.frames with heap := s₂.heap, slotsUsed := s₂.slotsUsed } : State).setVm s₂.vm := by
      have : s₂ = ({ s₂ with vm := (U.calling g mk a).vm } : State).setVm s₂.vm := rfl
      rw [e2] at this
      exact this
    obtain ⟨c₂, i₂, len₂, hc₂, hd₂, hf₂⟩ := hend
    have hW' : U.WarmedH s₂.vm := hW₂
    have hcc : c₂ = c := by
      have h1 : s₂.code? g.method = U.code? g.method := by
        rw [State.code?_eq, State.code?_eq, hW'.alike.method?]
      exact Option.some.inj (hc₂.symm.trans (h1.trans h.code))
    subst hcc
    have hlen : len₂ = len := by rw [hdg] at hd₂; cases hd₂; rfl
    subst hlen
    have hs₂ : s₂ = (({ U with heap := s₂.heap, slotsUsed := s₂.slotsUsed } : State).setVm s₂.vm).setTop { g with pc := g.pc + len₂, stack := v.toList ++ g.stack } := by
      refine e3.trans ?_
      rw [hf₂, State.calling_eq h.top, State.setFrames_setFrames, State.setTop_of_frames _ hr', hr]
      rfl
    have hsame : U.sameButNew ({ U with heap := s₂.heap, slotsUsed := s₂.slotsUsed } : State) L mc ms := by
      refine ⟨?_, q2, q3, q4, q5, q6⟩
      obtain ⟨t, ht, -⟩ := State.frames_cons hr
      show ({ U with heap := s₂.heap, slotsUsed := s₂.slotsUsed } : State) = { U.setFrames U.frames with heap := s₂.heap, slotsUsed := s₂.slotsUsed }
      rw [State.setFrames_self ht]
    subst hg
    refine Or.inl ⟨v, ⟨(({ U with heap := s₂.heap, slotsUsed := s₂.slotsUsed } : State).setVm s₂.vm), Ls ++ L, c0 + mc, s0 + ms⟩,
      ⟨X.admits, X.cas, X.clock, X.frames, X.room, X.hears, X.method, X.code, (X.here.setHeapUsed s₂.heap s₂.slotsUsed).setVm hW'.alike, X.tail, State.WarmedH.trans X.warmed hW', X.limits, X.bytes, X.same.trans (hsame.setVm s.vm)⟩,
      ⟨g, mk, s₂, L, rfl, rfl, hqc, rfl, hL, rfl, rfl⟩, ?_⟩
    show Steps p.tables e below _ ((({ U with heap := s₂.heap, slotsUsed := s₂.slotsUsed } : State).setVm s₂.vm).setTop { g with pc := g.pc + len₂, stack := v.toList ++ g.stack })
    rw [← hs₂]
    exact hsteps
  · obtain ⟨e2, q2, q3, q4, q5, q6⟩ := id hsm
    have e3 : s₂ = ({ (U.calling g mk a).setFrames s₂.frames with heap := s₂.heap, slotsUsed := s₂.slotsUsed } : State).setVm s₂.vm := by
      have : s₂ = ({ s₂ with vm := (U.calling g mk a).vm } : State).setVm s₂.vm := rfl
      rw [e2] at this
      exact this
    have hf₂ : s₂.frames = .throwing q :: .java g :: U.frames.tail := hend
    have hW' : U.WarmedH s₂.vm := hW₂
    have hs₂ : s₂ = ((({ U with heap := s₂.heap, slotsUsed := s₂.slotsUsed } : State).setVm s₂.vm).setTop g).pushFrame (.throwing q) := by
      refine e3.trans ?_
      rw [hf₂, State.calling_eq h.top, State.setFrames_setFrames, State.pushFrame, State.frames_setTop _ hr', State.setTop_of_frames _ hr', State.setFrames_setFrames, hr]
      rfl
    have hsame : U.sameButNew ({ U with heap := s₂.heap, slotsUsed := s₂.slotsUsed } : State) L mc ms := by
      refine ⟨?_, q2, q3, q4, q5, q6⟩
      obtain ⟨t, ht, -⟩ := State.frames_cons hr
      show ({ U with heap := s₂.heap, slotsUsed := s₂.slotsUsed } : State) = { U.setFrames U.frames with heap := s₂.heap, slotsUsed := s₂.slotsUsed }
      rw [State.setFrames_self ht]
    subst hg
    refine Or.inr ⟨q, ⟨(({ U with heap := s₂.heap, slotsUsed := s₂.slotsUsed } : State).setVm s₂.vm), Ls ++ L, c0 + mc, s0 + ms⟩,
      ⟨X.admits, X.cas, X.clock, X.frames, X.room, X.hears, X.method, X.code, (X.here.setHeapUsed s₂.heap s₂.slotsUsed).setVm hW'.alike, X.tail, State.WarmedH.trans X.warmed hW', X.limits, X.bytes, X.same.trans (hsame.setVm s.vm)⟩,
      ⟨g, mk, s₂, L, E, ce, rfl, rfl, hx, hce, hcv, hcl, rfl, hL, rfl, rfl⟩, ?_⟩
    show Steps p.tables e below _ (((({ U with heap := s₂.heap, slotsUsed := s₂.slotsUsed } : State).setVm s₂.vm).setTop g).pushFrame (.throwing q))
    rw [← hs₂]
    exact hsteps
end Payer
section Calls
variable {p : Program} {l : Launch} {e : Env} {R : Room} {s : State} {m : MethodId} {args : Array Value} {below : List Frame} {meth : Method} {c : Code} {T : State} {locs : List Loc} {cells slots : Nat}
theorem vx_callV (X : Stand p l e R s m args below meth c T locs cells slots) (hexec : p.tables.exec = Jvm.exec) {own C : String} {index : Nat} {y : MethodName} {bytes : ByteArray} {maxL : Nat} {ret : Option FieldType}
    (hown : s.vm.findClass own = some m.cls) (hlink : (Cond.methodLink own index y).before args s = true) (hinst : (Cond.instanceMethod y).before args s = true) (hsel : (Cond.selects C y y).before args s = true)
    (hcode : (Cond.code y bytes maxL ret).before args s = true) (hy : y.cls ≠ "java/lang/invoke/MethodHandle" ∧ y.cls ≠ "java/lang/invoke/VarHandle")
    {W9 : Nat} {Pre : Pt → Array Value → Prop} {Post : Pt → Array Value → Option Value → Pt → Prop} {PostX : Pt → Array Value → Addr → Pt → Prop} (hK : vx_Back l R p e below s args y 3 W9 Pre Post PostX)
    {b : Addr} {cellB : Cell} (hcell : T.heap[b]? = some cellB) (hobj : cellB.vm.isStatics = false) (hcls : s.vm.findClass C = some cellB.cls)
    {g : JFrame} (hg : g.method = m) (hsize : g.locals.size = c.maxLocals) {argsL rest : List Value} (hlen : ∀ sig, parseMethodDescriptor y.desc = some sig → argsL.length = sig.parameters.length)
    (hstack : g.stack = argsL.reverse ++ .ref b :: rest) (hW : 2 * g.monitorRoom + (rest.map fun v => v.category).sum ≤ W9) (hdg : decode c.code g.pc = .ok (.invokevirtual index, 3))
    (hpre : ∀ vm₁, s.WarmedH vm₁ → Pre ⟨T.setVm vm₁, locs, cells, slots⟩ (Value.ref b :: argsL).toArray) :
    (∃ (v : Option Value) (vm₁ : Vm) (B : Pt), s.WarmedH vm₁ ∧ Stand p l e R s m args below meth c B.U B.locs B.cells B.slots ∧ Post ⟨T.setVm vm₁, locs, cells, slots⟩ (Value.ref b :: argsL).toArray v B ∧
      ∀ target, Steps p.tables e below (B.U.setTop { g with pc := g.pc + 3, stack := v.toList ++ rest }) target → Steps p.tables e below (T.setTop g) target) ∨
    (∃ (q : Addr) (vm₁ : Vm) (B : Pt), s.WarmedH vm₁ ∧ Stand p l e R s m args below meth c B.U B.locs B.cells B.slots ∧ PostX ⟨T.setVm vm₁, locs, cells, slots⟩ (Value.ref b :: argsL).toArray q B ∧
      Steps p.tables e below (T.setTop g) ((B.U.setTop { g with stack := rest }).pushFrame (.throwing q))) := by
  obtain ⟨mk, methM, hnamed, hmethM, hstM, habM⟩ := Cond.instanceMethod_spec hinst
  obtain ⟨methM', cM, hmethM', -, -, -, -, -, -, hsigM⟩ := Cond.code_spec hnamed hcode
  cases hmethM.symm.trans hmethM'
  obtain ⟨c2, r2, m2, q1, q2, q3, q4, kP, hkP, hkPi⟩ := Cond.selects_spec hsel
  cases hcls.symm.trans q1
  cases (State.methodFound?_of_named hnamed hy).symm.trans q2
  cases hnamed.symm.trans q3
  have hselP : selectMethod e.platform s.vm cellB.cls mk = .method mk := by rw [Launch.admits_selectMethod X.admits]; exact q4
  obtain ⟨vm₁, X₁, hstep₁⟩ := X.invokevirtual hexec hown hlink hnamed hmethM hstM hkP hkPi hy (a := b) (cell := cellB) hcell
    (fun z h => by rw [h] at hobj; cases hobj) hselP hmethM habM hkP hkPi (g := g) hg (argsL := argsL) (rest := rest) (hlen _ hsigM) hstack hdg
  rcases hK m meth c ⟨T.setVm vm₁, locs, cells, slots⟩ { g with stack := rest } (.invokevirtual index) mk (Value.ref b :: argsL).toArray X₁ hg hsize hdg hW (X₁.named hnamed) (hpre vm₁ X₁.warmed) with ⟨v, B, X', hpost, hsteps⟩ | ⟨q, B, X', hpost, hsteps⟩
  · exact Or.inl ⟨v, vm₁, B, X₁.warmed, X', hpost, fun target h => hstep₁ _ fun acts => by rw [doInvoke_state]; exact hsteps.trans h⟩
  · exact Or.inr ⟨q, vm₁, B, X₁.warmed, X', hpost, hstep₁ _ fun acts => by rw [doInvoke_state]; exact hsteps⟩
theorem vx_callS (X : Stand p l e R s m args below meth c T locs cells slots) (hexec : p.tables.exec = Jvm.exec) {own : String} {index : Nat} {y : MethodName} {bytes : ByteArray} {maxL : Nat} {ret : Option FieldType}
    (hown : s.vm.findClass own = some m.cls) (hlink : (Cond.methodLink own index y).before args s = true) (hstat : (Cond.static y).before args s = true) (hinit : (Cond.initialized y.cls).before args s = true)
    (hcode : (Cond.code y bytes maxL ret).before args s = true) (hy : y.cls ≠ "java/lang/invoke/MethodHandle" ∧ y.cls ≠ "java/lang/invoke/VarHandle")
    {W9 : Nat} {Pre : Pt → Array Value → Prop} {Post : Pt → Array Value → Option Value → Pt → Prop} {PostX : Pt → Array Value → Addr → Pt → Prop} (hK : vx_Back l R p e below s args y 3 W9 Pre Post PostX)
    {g : JFrame} (hg : g.method = m) (hsize : g.locals.size = c.maxLocals) {argsL rest : List Value} (hlen : ∀ sig, parseMethodDescriptor y.desc = some sig → argsL.length = sig.parameters.length)
    (hstack : g.stack = argsL.reverse ++ rest) (hW : 2 * g.monitorRoom + (rest.map fun v => v.category).sum ≤ W9) (hdg : decode c.code g.pc = .ok (.invokestatic index, 3))
    (hpre : ∀ vm₁, s.WarmedH vm₁ → Pre ⟨T.setVm vm₁, locs, cells, slots⟩ argsL.toArray) :
    (∃ (v : Option Value) (vm₁ : Vm) (B : Pt), s.WarmedH vm₁ ∧ Stand p l e R s m args below meth c B.U B.locs B.cells B.slots ∧ Post ⟨T.setVm vm₁, locs, cells, slots⟩ argsL.toArray v B ∧
      ∀ target, Steps p.tables e below (B.U.setTop { g with pc := g.pc + 3, stack := v.toList ++ rest }) target → Steps p.tables e below (T.setTop g) target) ∨
    (∃ (q : Addr) (vm₁ : Vm) (B : Pt), s.WarmedH vm₁ ∧ Stand p l e R s m args below meth c B.U B.locs B.cells B.slots ∧ PostX ⟨T.setVm vm₁, locs, cells, slots⟩ argsL.toArray q B ∧
      Steps p.tables e below (T.setTop g) ((B.U.setTop { g with stack := rest }).pushFrame (.throwing q))) := by
  obtain ⟨mk, hnamed⟩ := Cond.code_named hcode
  obtain ⟨methM, cM, hmethM, -, -, -, -, -, -, hsigM⟩ := Cond.code_spec hnamed hcode
  have hstatic : methM.isStatic = true := Cond.static_spec hnamed hmethM hstat
  obtain ⟨kP, hkP, -⟩ := className_of_methodNamed hnamed
  have hinitP : kP.init = .initialized := Cond.initialized_spec (findClass_of_methodNamed hnamed) hkP hinit
  obtain ⟨vm₁, X₁, hstep₁⟩ := X.invokestatic hexec hown hlink hnamed hmethM hstatic hkP hinitP hy (g := g) hg (argsL := argsL) (rest := rest) (hlen _ hsigM) hstack hdg
  rcases hK m meth c ⟨T.setVm vm₁, locs, cells, slots⟩ { g with stack := rest } (.invokestatic index) mk argsL.toArray X₁ hg hsize hdg hW (X₁.named hnamed) (hpre vm₁ X₁.warmed) with ⟨v, B, X', hpost, hsteps⟩ | ⟨q, B, X', hpost, hsteps⟩
  · exact Or.inl ⟨v, vm₁, B, X₁.warmed, X', hpost, fun target h => hstep₁ _ fun acts => by rw [doInvoke_state]; exact hsteps.trans h⟩
  · exact Or.inr ⟨q, vm₁, B, X₁.warmed, X', hpost, hstep₁ _ fun acts => by rw [doInvoke_state]; exact hsteps⟩
end Calls
theorem vx_cls {s : State} {T : State} {vm₁ : Vm} {E : String} {k : ClassId} (hW : s.WarmedH vm₁) (h : (T.setVm vm₁).vm.findClass E = some k) : s.vm.findClass E = some k := by
  have h1 : vm₁.findClass E = some k := h
  rw [hW.alike.findClass] at h1
  exact h1
/-- the method's frame g, with q thrown over it -/
def vx_W (p : Program) (l : Launch) (e : Env) (R : Room) (s : State) (m : MethodId) (args : Array Value) (below : List Frame) (meth : Method) (c : Code) (H : Heap) (locs : List Loc) (cells slots : Nat) (Q : State → Prop) (g : JFrame) (q : Addr) : Prop :=
  ∀ T : State, T.heap = H → Stand p l e R s m args below meth c T locs cells slots → ∃ t, Steps p.tables e below ((T.setTop g).pushFrame (.throwing q)) t ∧ Q t
def vx_Run (p : Program) (l : Launch) (e : Env) (R : Room) (s : State) (m : MethodId) (args : Array Value) (below : List Frame) (meth : Method) (c : Code) (H : Heap) (locs : List Loc) (cells slots mc ms : Nat) (g : JFrame) (rest : List Value) (Qa : State → Outcome → State → Prop) (XC : String → State → State → Prop) (free : Addr → Prop) : Prop :=
  ∀ T : State, T.heap = H → Stand p l e R s m args below meth c T locs cells slots →
    (∃ (v : Option Value) (st₀ t T' : State) (L : List Loc), st₀.heap = H ∧ Stand p l e R s m args below meth c T' (locs ++ L) (cells + mc) (slots + ms) ∧ (∀ q ∈ L, free q.base) ∧ T'.heap = t.heap ∧ T'.vm = t.vm ∧ Qa st₀ (.returned v) t ∧
      Goes p e below T g T' { g with pc := g.pc + 3, stack := v.toList ++ rest }) ∨
    (∃ (q : Addr) (st₀ t T' : State) (L : List Loc) (E : String) (ce : Cell), st₀.heap = H ∧ Stand p l e R s m args below meth c T' (locs ++ L) (cells + mc) (slots + ms) ∧ (∀ z ∈ L, free z.base) ∧ T'.heap = t.heap ∧ T'.vm = t.vm ∧ XC E st₀ t ∧ t.heap[q]? = some ce ∧ ce.vm = .none ∧ s.vm.findClass E = some ce.cls ∧
      Steps p.tables e below (T.setTop g) ((T'.setTop { g with stack := rest }).pushFrame (.throwing q)))
def vx_X {S : Type} (px : S → Prop) (B : String → S → State → Prop) (A : Nat → Prop) : String → State → State → Prop := fun E st t => ∃ u : S, px u ∧ B E u t ∧ va_F A st t
section Runs
variable {p : Program} {l : Launch} {e : Env} {R : Room} {s : State} {m : MethodId} {args : Array Value} {below : List Frame} {meth : Method} {c : Code} {H : Heap} {locs : List Loc} {cells slots : Nat}
variable {y : MethodName} {bytes cc : ByteArray} {maxL nL mc ms n index : Nat} {ret : Option FieldType} {ws : List Cond} {rm : Room} {Pc : Array Value → State → Prop} {Qc : Array Value → State → Outcome → State → Prop} {XC : String → State → State → Prop} {free : Addr → Prop} {Ts : List Cond} {own C : String} {b : Addr} {As rest : List Value} {g : JFrame}
theorem vx_callBack (cb : CallB R s args own index y bytes maxL ret ws rm mc ms n) (hM : vx_Met l y ws rm Pc Qc XC mc ms free) (hbl : FrameBlind Pc) : vx_Back l R p e below s args y 3 8 (PreOf R mc ms Pc) (PostOf Qc mc ms free) (vx_Post XC mc ms free) := by
  obtain ⟨hrc, hrs, hfr, hlo, hws, hcw, -, hini, -⟩ := cb
  exact vx_back (bytes := bytes) (maxL := maxL) (ret := ret) hM hbl hrc hrs hfr hlo hws hcw (fun a' U hW => word_at hW (Or.inl (by first | rfl | simp [Cond.onTables, Cond.keeps, Cond.steady])) hini)
theorem vx_runV (S : CallFix p m c cc nL s args Ts own) (hM : vx_Met l y ws rm Pc Qc XC mc ms free) (cw : CallW R s args own C index y bytes maxL ret ws rm mc ms n) (hp : PreV s H C b Pc As)
    (hg : g.method = m) (hn : As.length = n) (hsize : g.locals.size = nL) (hstack : g.stack = As.reverse ++ .ref b :: rest) (hW : 2 * g.monitorRoom + (rest.map fun v => v.category).sum ≤ 8) (hdg : decode cc g.pc = .ok (.invokevirtual index, 3)) (hf : cells + mc ≤ R.cells ∧ slots + ms ≤ R.slots) :
    vx_Run p l e R s m args below meth c H locs cells slots mc ms g rest (Qc (Value.ref b :: As).toArray) XC free := by
  have hK : vx_Back l R p e below s args y 3 8 (PreOf R mc ms Pc) (PostOf Qc mc ms free) (vx_Post XC mc ms free) := vx_callBack cw.1 hM hp.1
  obtain ⟨⟨-, -, -, -, -, -, hcode, -, hy, hlen, hl⟩, hin, hse⟩ := cw
  obtain ⟨hx, hb, hml, ho, -⟩ := S
  obtain ⟨-, ⟨cellB, hcB, hoB, hclB⟩, hPc⟩ := hp
  intro T hT X
  rcases vx_callV X hx (C := C) (bytes := bytes) (maxL := maxL) (ret := ret) ho hl hin hse hcode hy hK (by rw [hT]; exact hcB) hoB hclB hg (hsize.trans hml.symm) (argsL := As) (rest := rest) (fun sig h => hn.trans (hlen sig h)) hstack hW (by rw [hb]; exact hdg)
    (fun vm₁ hW₁ => ⟨hf.1, hf.2, hPc (T.setVm vm₁) hT hW₁⟩) with ⟨v, vm₁, ⟨U', l2, c2, s2⟩, hW₁, X', ⟨g', mk, t, L, e1, e2, hq, h1, hL, h2, h3⟩, st⟩ | ⟨q, vm₁, ⟨U', l2, c2, s2⟩, hW₁, X', ⟨g', mk, t, L, E, ce, e1, e2, hq, hce, hcv, hcl, h1, hL, h2, h3⟩, st⟩
  · dsimp only [Pt.U, Pt.locs, Pt.cells, Pt.slots] at X' e1 e2 h1 h2 h3 st
    subst h1; subst h2; subst h3
    exact Or.inl ⟨v, (T.setVm vm₁).calling g' mk (Value.ref b :: As).toArray, t, U', L, hT, X', hL, e1, e2, hq, st⟩
  · dsimp only [Pt.U, Pt.locs, Pt.cells, Pt.slots] at X' e1 e2 h1 h2 h3 st hcl
    subst h1; subst h2; subst h3
    exact Or.inr ⟨q, (T.setVm vm₁).calling g' mk (Value.ref b :: As).toArray, t, U', L, E, ce, hT, X', hL, e1, e2, hq, hce, hcv, vx_cls hW₁ hcl, st⟩
theorem vx_runS (S : CallFix p m c cc nL s args Ts own) (hM : vx_Met l y ws rm Pc Qc XC mc ms free) (cw : CallB R s args own index y bytes maxL ret ws rm mc ms n ∧ (Cond.static y).before args s = true) (hp : PreS s H Pc As)
    (hg : g.method = m) (hn : As.length = n) (hsize : g.locals.size = nL) (hstack : g.stack = As.reverse ++ rest) (hW : 2 * g.monitorRoom + (rest.map fun v => v.category).sum ≤ 8) (hdg : decode cc g.pc = .ok (.invokestatic index, 3)) (hf : cells + mc ≤ R.cells ∧ slots + ms ≤ R.slots) :
    vx_Run p l e R s m args below meth c H locs cells slots mc ms g rest (Qc As.toArray) XC free := by
  have hK : vx_Back l R p e below s args y 3 8 (PreOf R mc ms Pc) (PostOf Qc mc ms free) (vx_Post XC mc ms free) := vx_callBack cw.1 hM hp.1
  obtain ⟨⟨-, -, -, -, -, -, hcode, hini, hy, hlen, hl⟩, hstt⟩ := cw
  obtain ⟨hx, hb, hml, ho, -⟩ := S
  intro T hT X
  rcases vx_callS X hx (bytes := bytes) (maxL := maxL) (ret := ret) ho hl hstt hini hcode hy hK hg (hsize.trans hml.symm) (argsL := As) (rest := rest) (fun sig h => hn.trans (hlen sig h)) hstack hW (by rw [hb]; exact hdg)
    (fun vm₁ hW₁ => ⟨hf.1, hf.2, hp.2 (T.setVm vm₁) hT hW₁⟩) with ⟨v, vm₁, ⟨U', l2, c2, s2⟩, hW₁, X', ⟨g', mk, t, L, e1, e2, hq, h1, hL, h2, h3⟩, st⟩ | ⟨q, vm₁, ⟨U', l2, c2, s2⟩, hW₁, X', ⟨g', mk, t, L, E, ce, e1, e2, hq, hce, hcv, hcl, h1, hL, h2, h3⟩, st⟩
  · dsimp only [Pt.U, Pt.locs, Pt.cells, Pt.slots] at X' e1 e2 h1 h2 h3 st
    subst h1; subst h2; subst h3
    exact Or.inl ⟨v, (T.setVm vm₁).calling g' mk As.toArray, t, U', L, hT, X', hL, e1, e2, hq, st⟩
  · dsimp only [Pt.U, Pt.locs, Pt.cells, Pt.slots] at X' e1 e2 h1 h2 h3 st hcl
    subst h1; subst h2; subst h3
    exact Or.inr ⟨q, (T.setVm vm₁).calling g' mk As.toArray, t, U', L, E, ce, hT, X', hL, e1, e2, hq, hce, hcv, vx_cls hW₁ hcl, st⟩
end Runs
section Rows
variable {p : Program} {l : Launch} {e : Env} {R : Room} {s : State} {m : MethodId} {args : Array Value} {below : List Frame} {meth : Method} {c : Code} {H : Heap} {locs : List Loc} {cells slots : Nat} {Q : State → Prop}
variable {mc ms : Nat} {free : Addr → Prop} {A0 A1 : Nat → Prop} {H0 : Heap} {a : Array Value} {pc : Nat} {ls : Array Slot} {st0 rest : List Value}
theorem vx_keep {st₀ t T' : State} {L : List Loc} (h0 : st₀.heap = H) (e1 : T'.heap = t.heap) (hS : va_S A0 H0 H locs) (hA : ∀ q, q < H.size → A1 q → A0 q) (hf : ∀ q, free q → A0 q) (hL : ∀ q ∈ L, free q.base) (hF : va_F A1 st₀ t) :
    H.size ≤ T'.heap.size ∧ (∀ q : Nat, q < H.size → ¬ A1 q → T'.heap[q]? = H[q]?) ∧ va_S A0 H0 T'.heap (locs ++ L) := by
  obtain ⟨hz, hk⟩ := hF
  rw [h0] at hz hk
  exact ⟨by rw [e1]; exact hz, fun q h1 h2 => by rw [e1]; exact hk q h1 h2,
    ⟨Nat.le_trans hS.1 (by rw [e1]; exact hz), fun q h1 h2 => by rw [e1, hk q (Nat.lt_of_lt_of_le h1 hS.1) (fun z => h2 (hA q (Nat.lt_of_lt_of_le h1 hS.1) z))]; exact hS.2.1 q h1 h2, fun q hq => by
      rcases List.mem_append.mp hq with h | h
      · exact hS.2.2 q h
      · exact hf _ (hL q h)⟩⟩
theorem vx_calli {S SX : Type} {post : Int32 → S → Prop} {px : SX → Prop} {B : S → State → Prop} {BX : String → SX → State → Prop} {AX : Nat → Prop} (hr : vx_Run p l e R s m args below meth c H locs cells slots mc ms (F0 m pc ls st0) rest (va_Qi post B A1 a) (vx_X px BX AX) free) (hS : va_S A0 H0 H locs) (hA : ∀ q, q < H.size → A1 q → A0 q) (hf : ∀ q, free q → A0 q) (hAX : ∀ q, q < H.size → AX q → A0 q)
    (kx : ∀ (E : String) (ce : Cell) (q9 : Addr) (u : SX) (t : State) (H1 : Heap) (locs1 : List Loc), t.heap = H1 → s.vm.Alike t.vm → px u → BX E u t → H.size ≤ H1.size → (∀ q : Nat, q < H.size → ¬ AX q → H1[q]? = H[q]?) → va_S A0 H0 H1 locs1 → H1[q9]? = some ce → ce.vm = .none → s.vm.findClass E = some ce.cls → vx_W p l e R s m args below meth c H1 locs1 (cells + mc) (slots + ms) Q (F0 m pc ls rest) q9)
    (kk : ∀ (r : Int32) (u : S) (t : State) (H1 : Heap) (locs1 : List Loc), t.heap = H1 → s.vm.Alike t.vm → post r u → B u t → H.size ≤ H1.size → (∀ q : Nat, q < H.size → ¬ A1 q → H1[q]? = H[q]?) → va_S A0 H0 H1 locs1 → W p l e R s m args below meth c H1 locs1 (cells + mc) (slots + ms) Q (F0 m (pc + 3) ls (.int r :: rest))) : W p l e R s m args below meth c H locs cells slots Q (F0 m pc ls st0) := by
  intro T hT X
  rcases hr T hT X with ⟨v, st₀, t, T', L, h0, X', hL, e1, e2, ⟨⟨r, u, hv, hp, hb⟩, hF⟩, st⟩ | ⟨q, st₀, t, T', L, E, ce, h0, X', hL, e1, e2, ⟨u, hp, hb, hF⟩, hce, hcv, hcl, st⟩
  · cases hv
    obtain ⟨k1, k2, k3⟩ := vx_keep h0 e1 hS hA hf hL hF
    obtain ⟨t2, a1, b1⟩ := kk r u t T'.heap (locs ++ L) e1.symm (by rw [← e2]; exact X'.warmed.alike) hp hb k1 k2 k3 T' rfl X'
    exact ⟨t2, st t2 a1, b1⟩
  · obtain ⟨k1, k2, k3⟩ := vx_keep h0 e1 hS hAX hf hL hF
    obtain ⟨t2, a1, b1⟩ := kx E ce q u t T'.heap (locs ++ L) e1.symm (by rw [← e2]; exact X'.warmed.alike) hp hb k1 k2 k3 (by rw [e1]; exact hce) hcv hcl T' rfl X'
    exact ⟨t2, st.trans a1, b1⟩
theorem vx_calll {S SX : Type} {post : Int64 → S → Prop} {px : SX → Prop} {B : S → State → Prop} {BX : String → SX → State → Prop} {AX : Nat → Prop} (hr : vx_Run p l e R s m args below meth c H locs cells slots mc ms (F0 m pc ls st0) rest (va_Ql post B A1 a) (vx_X px BX AX) free) (hS : va_S A0 H0 H locs) (hA : ∀ q, q < H.size → A1 q → A0 q) (hf : ∀ q, free q → A0 q) (hAX : ∀ q, q < H.size → AX q → A0 q)
    (kx : ∀ (E : String) (ce : Cell) (q9 : Addr) (u : SX) (t : State) (H1 : Heap) (locs1 : List Loc), t.heap = H1 → s.vm.Alike t.vm → px u → BX E u t → H.size ≤ H1.size → (∀ q : Nat, q < H.size → ¬ AX q → H1[q]? = H[q]?) → va_S A0 H0 H1 locs1 → H1[q9]? = some ce → ce.vm = .none → s.vm.findClass E = some ce.cls → vx_W p l e R s m args below meth c H1 locs1 (cells + mc) (slots + ms) Q (F0 m pc ls rest) q9)
    (kk : ∀ (r : Int64) (u : S) (t : State) (H1 : Heap) (locs1 : List Loc), t.heap = H1 → s.vm.Alike t.vm → post r u → B u t → H.size ≤ H1.size → (∀ q : Nat, q < H.size → ¬ A1 q → H1[q]? = H[q]?) → va_S A0 H0 H1 locs1 → W p l e R s m args below meth c H1 locs1 (cells + mc) (slots + ms) Q (F0 m (pc + 3) ls (.long r :: rest))) : W p l e R s m args below meth c H locs cells slots Q (F0 m pc ls st0) := by
  intro T hT X
  rcases hr T hT X with ⟨v, st₀, t, T', L, h0, X', hL, e1, e2, ⟨⟨r, u, hv, hp, hb⟩, hF⟩, st⟩ | ⟨q, st₀, t, T', L, E, ce, h0, X', hL, e1, e2, ⟨u, hp, hb, hF⟩, hce, hcv, hcl, st⟩
  · cases hv
    obtain ⟨k1, k2, k3⟩ := vx_keep h0 e1 hS hA hf hL hF
    obtain ⟨t2, a1, b1⟩ := kk r u t T'.heap (locs ++ L) e1.symm (by rw [← e2]; exact X'.warmed.alike) hp hb k1 k2 k3 T' rfl X'
    exact ⟨t2, st t2 a1, b1⟩
  · obtain ⟨k1, k2, k3⟩ := vx_keep h0 e1 hS hAX hf hL hF
    obtain ⟨t2, a1, b1⟩ := kx E ce q u t T'.heap (locs ++ L) e1.symm (by rw [← e2]; exact X'.warmed.alike) hp hb k1 k2 k3 (by rw [e1]; exact hce) hcv hcl T' rfl X'
    exact ⟨t2, st.trans a1, b1⟩
theorem vx_callf {S SX : Type} {post : UInt32 → S → Prop} {px : SX → Prop} {B : S → State → Prop} {BX : String → SX → State → Prop} {AX : Nat → Prop} (hr : vx_Run p l e R s m args below meth c H locs cells slots mc ms (F0 m pc ls st0) rest (va_Qf post B A1 a) (vx_X px BX AX) free) (hS : va_S A0 H0 H locs) (hA : ∀ q, q < H.size → A1 q → A0 q) (hf : ∀ q, free q → A0 q) (hAX : ∀ q, q < H.size → AX q → A0 q)
    (kx : ∀ (E : String) (ce : Cell) (q9 : Addr) (u : SX) (t : State) (H1 : Heap) (locs1 : List Loc), t.heap = H1 → s.vm.Alike t.vm → px u → BX E u t → H.size ≤ H1.size → (∀ q : Nat, q < H.size → ¬ AX q → H1[q]? = H[q]?) → va_S A0 H0 H1 locs1 → H1[q9]? = some ce → ce.vm = .none → s.vm.findClass E = some ce.cls → vx_W p l e R s m args below meth c H1 locs1 (cells + mc) (slots + ms) Q (F0 m pc ls rest) q9)
    (kk : ∀ (r : UInt32) (u : S) (t : State) (H1 : Heap) (locs1 : List Loc), t.heap = H1 → s.vm.Alike t.vm → post r u → B u t → H.size ≤ H1.size → (∀ q : Nat, q < H.size → ¬ A1 q → H1[q]? = H[q]?) → va_S A0 H0 H1 locs1 → W p l e R s m args below meth c H1 locs1 (cells + mc) (slots + ms) Q (F0 m (pc + 3) ls (.float r :: rest))) : W p l e R s m args below meth c H locs cells slots Q (F0 m pc ls st0) := by
  intro T hT X
  rcases hr T hT X with ⟨v, st₀, t, T', L, h0, X', hL, e1, e2, ⟨⟨r, u, hv, hp, hb⟩, hF⟩, st⟩ | ⟨q, st₀, t, T', L, E, ce, h0, X', hL, e1, e2, ⟨u, hp, hb, hF⟩, hce, hcv, hcl, st⟩
  · cases hv
    obtain ⟨k1, k2, k3⟩ := vx_keep h0 e1 hS hA hf hL hF
    obtain ⟨t2, a1, b1⟩ := kk r u t T'.heap (locs ++ L) e1.symm (by rw [← e2]; exact X'.warmed.alike) hp hb k1 k2 k3 T' rfl X'
    exact ⟨t2, st t2 a1, b1⟩
  · obtain ⟨k1, k2, k3⟩ := vx_keep h0 e1 hS hAX hf hL hF
    obtain ⟨t2, a1, b1⟩ := kx E ce q u t T'.heap (locs ++ L) e1.symm (by rw [← e2]; exact X'.warmed.alike) hp hb k1 k2 k3 (by rw [e1]; exact hce) hcv hcl T' rfl X'
    exact ⟨t2, st.trans a1, b1⟩
theorem vx_calld {S SX : Type} {post : UInt64 → S → Prop} {px : SX → Prop} {B : S → State → Prop} {BX : String → SX → State → Prop} {AX : Nat → Prop} (hr : vx_Run p l e R s m args below meth c H locs cells slots mc ms (F0 m pc ls st0) rest (va_Qd post B A1 a) (vx_X px BX AX) free) (hS : va_S A0 H0 H locs) (hA : ∀ q, q < H.size → A1 q → A0 q) (hf : ∀ q, free q → A0 q) (hAX : ∀ q, q < H.size → AX q → A0 q)
    (kx : ∀ (E : String) (ce : Cell) (q9 : Addr) (u : SX) (t : State) (H1 : Heap) (locs1 : List Loc), t.heap = H1 → s.vm.Alike t.vm → px u → BX E u t → H.size ≤ H1.size → (∀ q : Nat, q < H.size → ¬ AX q → H1[q]? = H[q]?) → va_S A0 H0 H1 locs1 → H1[q9]? = some ce → ce.vm = .none → s.vm.findClass E = some ce.cls → vx_W p l e R s m args below meth c H1 locs1 (cells + mc) (slots + ms) Q (F0 m pc ls rest) q9)
    (kk : ∀ (r : UInt64) (u : S) (t : State) (H1 : Heap) (locs1 : List Loc), t.heap = H1 → s.vm.Alike t.vm → post r u → B u t → H.size ≤ H1.size → (∀ q : Nat, q < H.size → ¬ A1 q → H1[q]? = H[q]?) → va_S A0 H0 H1 locs1 → W p l e R s m args below meth c H1 locs1 (cells + mc) (slots + ms) Q (F0 m (pc + 3) ls (.double r :: rest))) : W p l e R s m args below meth c H locs cells slots Q (F0 m pc ls st0) := by
  intro T hT X
  rcases hr T hT X with ⟨v, st₀, t, T', L, h0, X', hL, e1, e2, ⟨⟨r, u, hv, hp, hb⟩, hF⟩, st⟩ | ⟨q, st₀, t, T', L, E, ce, h0, X', hL, e1, e2, ⟨u, hp, hb, hF⟩, hce, hcv, hcl, st⟩
  · cases hv
    obtain ⟨k1, k2, k3⟩ := vx_keep h0 e1 hS hA hf hL hF
    obtain ⟨t2, a1, b1⟩ := kk r u t T'.heap (locs ++ L) e1.symm (by rw [← e2]; exact X'.warmed.alike) hp hb k1 k2 k3 T' rfl X'
    exact ⟨t2, st t2 a1, b1⟩
  · obtain ⟨k1, k2, k3⟩ := vx_keep h0 e1 hS hAX hf hL hF
    obtain ⟨t2, a1, b1⟩ := kx E ce q u t T'.heap (locs ++ L) e1.symm (by rw [← e2]; exact X'.warmed.alike) hp hb k1 k2 k3 (by rw [e1]; exact hce) hcv hcl T' rfl X'
    exact ⟨t2, st.trans a1, b1⟩
theorem vx_callv {S SX : Type} {post : S → Prop} {px : SX → Prop} {B : S → State → Prop} {BX : String → SX → State → Prop} {AX : Nat → Prop} (hr : vx_Run p l e R s m args below meth c H locs cells slots mc ms (F0 m pc ls st0) rest (va_Qv post B A1 a) (vx_X px BX AX) free) (hS : va_S A0 H0 H locs) (hA : ∀ q, q < H.size → A1 q → A0 q) (hf : ∀ q, free q → A0 q) (hAX : ∀ q, q < H.size → AX q → A0 q)
    (kx : ∀ (E : String) (ce : Cell) (q9 : Addr) (u : SX) (t : State) (H1 : Heap) (locs1 : List Loc), t.heap = H1 → s.vm.Alike t.vm → px u → BX E u t → H.size ≤ H1.size → (∀ q : Nat, q < H.size → ¬ AX q → H1[q]? = H[q]?) → va_S A0 H0 H1 locs1 → H1[q9]? = some ce → ce.vm = .none → s.vm.findClass E = some ce.cls → vx_W p l e R s m args below meth c H1 locs1 (cells + mc) (slots + ms) Q (F0 m pc ls rest) q9)
    (kk : ∀ (u : S) (t : State) (H1 : Heap) (locs1 : List Loc), t.heap = H1 → s.vm.Alike t.vm → post u → B u t → H.size ≤ H1.size → (∀ q : Nat, q < H.size → ¬ A1 q → H1[q]? = H[q]?) → va_S A0 H0 H1 locs1 → W p l e R s m args below meth c H1 locs1 (cells + mc) (slots + ms) Q (F0 m (pc + 3) ls (rest))) : W p l e R s m args below meth c H locs cells slots Q (F0 m pc ls st0) := by
  intro T hT X
  rcases hr T hT X with ⟨v, st₀, t, T', L, h0, X', hL, e1, e2, ⟨⟨u, hv, hp, hb⟩, hF⟩, st⟩ | ⟨q, st₀, t, T', L, E, ce, h0, X', hL, e1, e2, ⟨u, hp, hb, hF⟩, hce, hcv, hcl, st⟩
  · cases hv
    obtain ⟨k1, k2, k3⟩ := vx_keep h0 e1 hS hA hf hL hF
    obtain ⟨t2, a1, b1⟩ := kk u t T'.heap (locs ++ L) e1.symm (by rw [← e2]; exact X'.warmed.alike) hp hb k1 k2 k3 T' rfl X'
    exact ⟨t2, st t2 a1, b1⟩
  · obtain ⟨k1, k2, k3⟩ := vx_keep h0 e1 hS hAX hf hL hF
    obtain ⟨t2, a1, b1⟩ := kx E ce q u t T'.heap (locs ++ L) e1.symm (by rw [← e2]; exact X'.warmed.alike) hp hb k1 k2 k3 (by rw [e1]; exact hce) hcv hcl T' rfl X'
    exact ⟨t2, st.trans a1, b1⟩
/-- caught by the row x of this method's table; the rows ahead don't take it -/
theorem vx_catch {own name : String} {E : String} {ce : Cell} {q : Addr} (hown : s.vm.findClass own = some m.cls) (pre : List ExceptionTableEntry) (x : ExceptionTableEntry) (suf : List ExceptionTableEntry) (hsplit : c.exceptionTable.toList = pre ++ x :: suf)
    (hpass : ∀ z ∈ pre, covers z pc = false ∨ (z.catchType ≠ 0 ∧ ∃ nm : String, (Cond.classLink own z.catchType nm).before args s = true ∧ va_Nc E nm s)) (hx : covers x pc = true) (h0 : x.catchType ≠ 0)
    (hlink : (Cond.classLink own x.catchType name).before args s = true) (hcast : (Cond.castable E name).before args s = true) (hcell : H[q]? = some ce) (hv : ce.vm = .none) (hcl : s.vm.findClass E = some ce.cls)
    (kk : W p l e R s m args below meth c H locs cells slots Q (F0 m x.handlerPc ls [.ref q])) : vx_W p l e R s m args below meth c H locs cells slots Q (F0 m pc ls rest) q := by
  intro T hT X
  have hpl : e.platform.magicAccessors = ({} : Platform).magicAccessors := by rw [X.admits.platform]
  obtain ⟨c3, c4, hc3, hc4, hasg⟩ := Cond.castable_spec hcast
  cases Option.some.inj (hc3.symm.trans hcl)
  obtain ⟨c5, hc5, hcl5⟩ := Cond.classLink_spec hown hlink e.platform hpl
  cases Option.some.inj (hc4.symm.trans hc5)
  obtain ⟨vm', X', st⟩ := X.thenCaughtThrough q (g := F0 m pc ls rest) rfl (Steps.refl _) (by rw [hT]; exact hcell) (by rw [hv]; rfl) (by obtain ⟨k9, h9, -⟩ := Vm.findClass_spec hcl; exact ⟨k9, h9⟩) pre x suf hsplit
    (fun z hz => by
      rcases hpass z hz with h | ⟨hz0, nm, hl1, hn1⟩
      · exact Or.inl h
      · obtain ⟨c6, hc6, hcl6⟩ := Cond.classLink_spec hown hl1 e.platform hpl
        obtain ⟨a8, b8, h1, h2, h3⟩ := hn1
        cases Option.some.inj (h1.symm.trans hcl)
        cases Option.some.inj (h2.symm.trans hc6)
        exact Or.inr ⟨hz0, _, hcl6, h3⟩) hx (Or.inr ⟨h0, c4, hcl5, hasg⟩)
  obtain ⟨t, a1, b1⟩ := kk (T.setVm vm') hT X'
  exact ⟨t, st.trans a1, b1⟩
end Rows
section Ends
variable {p : Program} {l : Launch} {e : Env} {R : Room} {s : State} {m : MethodId} {args : Array Value} {below : List Frame} {meth : Method} {c : Code} {H : Heap} {locs : List Loc} {cells slots : Nat} {Q : State → Prop}
variable {mc ms : Nat} {free : Addr → Prop} {A0 A1 : Nat → Prop} {H0 : Heap} {a : Array Value} {ls : Array Slot} {st0 rest : List Value}
variable {Qc : Array Value → State → Outcome → State → Prop} {XC : String → State → State → Prop}
/-- what a body that may throw owes at its end -/
def vx_MQ (below : List Frame) (Qc : Array Value → State → Outcome → State → Prop) (XC : String → State → State → Prop) (a : Array Value) (s : State) (mc ms : Nat) (free : Addr → Prop) : State → Prop := fun t =>
  ∃ o, t.status = .running ∧ Ended t below o ∧ vx_Q Qc XC mc ms free a s o t
theorem vx_ret {g : JFrame} {mc ms : Nat} (k : W p l e R s m args below meth c H locs cells slots (MQ below Qc args s mc ms free) g) : W p l e R s m args below meth c H locs cells slots (vx_MQ below Qc XC args s mc ms free) g := by
  intro T hT X
  obtain ⟨t, a1, o, b1, b2, b3, b4⟩ := k T hT X
  exact ⟨t, a1, o, b1, b2, Or.inl ⟨b3, b4⟩⟩
/-- not caught here: it goes on to the caller -/
theorem vx_widen {g : JFrame} {q : Addr} {k n : Nat} (h1 : cells ≤ k) (h2 : slots ≤ n) (kk : vx_W p l e R s m args below meth c H locs k n Q g q) : vx_W p l e R s m args below meth c H locs cells slots Q g q := fun T hT X => kk T hT (stand_widen X h1 h2)
theorem vx_out {pc : Nat} {E : String} {ce : Cell} {q : Addr} {mc ms : Nat} (hout : ∀ x ∈ c.exceptionTable.toList, covers x pc = false) (hlocks : meth.locks = false) (hcell : H[q]? = some ce) (hv : ce.vm = .none) (hcl : s.vm.findClass E = some ce.cls)
    (hx : ∀ t : State, t.heap = H → s.vm.Alike t.vm → XC E s t) (hf : ∀ z ∈ locs, free z.base) (hc : cells ≤ mc) (hs : slots ≤ ms) :
    vx_W p l e R s m args below meth c H locs cells slots (vx_MQ below Qc XC args s mc ms free) (F0 m pc ls rest) q := by
  intro T hT X
  obtain ⟨st1, hrun, hend, hW, hsm⟩ := X.leaveThrown q (g := F0 m pc ls rest) rfl rfl rfl hout hlocks
  have hcell9 : (T.setFrames (.throwing q :: below)).heap[q]? = some ce := by
    show T.heap[q]? = some ce
    rw [hT]; exact hcell
  exact ⟨_, st1, .threw q, hrun, hend, Or.inr ⟨q, rfl, E, ce, locs, hx _ hT hW.alike, hcell9, hv, hcl, hW, hsm.mono hc hs, hf⟩⟩
theorem vx_frame {U : State} {k n : Nat} (h : s.sameButNew ({ U with vm := s.vm } : State) locs k n) : s.heap.size ≤ U.heap.size ∧ ∀ q : Nat, q < s.heap.size → (∀ z ∈ locs, z.base ≠ q) → U.heap[q]? = s.heap[q]? := by
  obtain ⟨-, h2, -, -, -, h6⟩ := h
  refine ⟨h2, fun q hq hz => ?_⟩
  obtain ⟨c9, e1, e2, e3, e4⟩ := h6 q _ (Array.getElem?_eq_getElem hq)
  have hs : c9.slots = (s.heap[q]).slots := Array.ext_getElem? fun i => e4 i fun hm => hz _ hm rfl
  have h9 : c9 = s.heap[q] := by
    rw [hs] at e2
    exact e2
  have e5 : U.heap[q]? = some c9 := e1
  rw [e5, h9, Array.getElem?_eq_getElem hq]
/-- the words of a throw but the four that speak of the heap -/
def vx_no (w : Cond) : Bool := decide (w ≠ .isRef (.static Bundle.tN "UNASSIGNED_STACK" Bundle.steD)) && decide (w ≠ .isRef (.static Bundle.tN "SUPPRESSED_SENTINEL" Bundle.listD)) && decide (w ≠ .laysStatic Bundle.tN "UNASSIGNED_STACK" Bundle.steD) && decide (w ≠ .laysStatic Bundle.tN "SUPPRESSED_SENTINEL" Bundle.listD)
def vx_at0 (own : String) (ic : Nat) (X : String) (names : List String) : List Cond := (Bundle.ownAtoms0 own ic X names).filter vx_no
def vx_atS (own : String) (ic : Nat) (X : String) (names : List String) : List Cond := (Bundle.ownAtoms own ic X names).filter vx_no
/-- a word that the tables alone decide, or a good one -/
def vx_ot (w : Cond) : Bool := w.onTables || goodWord w
theorem vx_ot_at {args a' : Array Value} {s U : State} {w : Cond} (hW : s.WarmedH U.vm) (hvm : s.vm = U.vm) (hg : vx_ot w = true) (h : w.before args s = true) : w.before a' U = true := by
  simp only [vx_ot, Bool.or_eq_true] at hg
  rcases hg with hg | hg
  · exact va_tabs hg hvm h
  · exact word_at hW (good_of_word hg) h
/-- a list's words: the good ones out of the method's own list, the others by premises of their own -/
theorem vx_hat {args : Array Value} {s : State} {L B : List Cond} (h1 : ∀ w ∈ L.filter goodWord, w.before args s = true) (h2 : ∀ w ∈ L.filter (fun w => !goodWord w), w ∈ B) (h3 : ∀ w ∈ B, w.before args s = true) : ∀ w ∈ L, w.before args s = true := by
  intro w hw
  by_cases g : goodWord w = true
  · exact h1 w (List.mem_filter.mpr ⟨hw, g⟩)
  · refine h3 w (h2 w (List.mem_filter.mpr ⟨hw, ?_⟩))
    show (!goodWord w) = true
    cases hgw : goodWord w
    · rfl
    · exact absurd hgw g
theorem vx_c {args : Array Value} {s : State} {w : Cond} {B : List Cond} (h : w.before args s = true) (t : ∀ w ∈ B, w.before args s = true) : ∀ w' ∈ w :: B, w'.before args s = true := fun w' h' => (List.mem_cons.mp h').elim (fun e => by rw [e]; exact h) (t w')
theorem vx_n {args : Array Value} {s : State} : ∀ w ∈ ([] : List Cond), w.before args s = true := fun _ h => nomatch h
theorem vx_own {args : Array Value} {s : State} {L : List Cond} (h1 : ∀ w ∈ L.filter vx_no, w.before args s = true)
    (hU : (Cond.isRef (.static Bundle.tN "UNASSIGNED_STACK" Bundle.steD)).before args s = true) (hN : (Cond.isRef (.static Bundle.tN "SUPPRESSED_SENTINEL" Bundle.listD)).before args s = true)
    (lU : (Cond.laysStatic Bundle.tN "UNASSIGNED_STACK" Bundle.steD).before args s = true) (lN : (Cond.laysStatic Bundle.tN "SUPPRESSED_SENTINEL" Bundle.listD).before args s = true) : ∀ w ∈ L, w.before args s = true := by
  intro w hw
  by_cases e1 : w = .isRef (.static Bundle.tN "UNASSIGNED_STACK" Bundle.steD)
  · rw [e1]; exact hU
  · by_cases e2 : w = .isRef (.static Bundle.tN "SUPPRESSED_SENTINEL" Bundle.listD)
    · rw [e2]; exact hN
    · by_cases e3 : w = .laysStatic Bundle.tN "UNASSIGNED_STACK" Bundle.steD
      · rw [e3]; exact lU
      · by_cases e4 : w = .laysStatic Bundle.tN "SUPPRESSED_SENTINEL" Bundle.listD
        · rw [e4]; exact lN
        · exact h1 w (List.mem_filter.mpr ⟨hw, by unfold vx_no; rw [decide_eq_true e1, decide_eq_true e2, decide_eq_true e3, decide_eq_true e4]; rfl⟩)
/-- where a static field lies, its class's statics cell in H -/
def vx_L (C n d : String) (A : Nat → Prop) (U : State) (H : Heap) : Prop := ∃ (c : ClassId) (k : Class) (i : Nat) (f : Field) (a : Nat) (cell : Cell), U.vm.findClass C = some c ∧ U.fieldFound? C n d = some (c, k, i, f) ∧ f.isStatic = true ∧ k.statics = some a ∧ H[a]? = some cell ∧ cell.vm.isStatics = true ∧ cell.cls = c ∧ f.slot < cell.slots.size ∧ k.staticTypes[f.slot]? = some f.type ∧ ¬ A a
theorem vx_L.moved {C n d : String} {A : Nat → Prop} {u U : State} {H : Heap} (hvm : u.vm.Alike U.vm) (h : vx_L C n d A u H) : vx_L C n d A U H := by
  obtain ⟨c, k, i, f, a, cell, h1, h2, h3, h4, h5, h6, h7, h8, h9, h10⟩ := h
  obtain ⟨k', hi', he⟩ := State.fieldFound?_setVm hvm h2
  exact ⟨c, k', i, f, a, cell, by rw [hvm.findClass]; exact h1, hi', h3, by rw [he]; exact h4, h5, h6, h7, h8, by rw [he]; exact h9, h10⟩
theorem vx_L.kept {C n d : String} {A : Nat → Prop} {U : State} {H H1 : Heap} (h : vx_L C n d A U H) (hq : ∀ a : Nat, a < H.size → ¬ A a → H1[a]? = H[a]?) : vx_L C n d A U H1 := by
  obtain ⟨c, k, i, f, a, cell, h1, h2, h3, h4, h5, h6, h7, h8, h9, h10⟩ := h
  exact ⟨c, k, i, f, a, cell, h1, h2, h3, h4, by rw [hq a (Array.getElem?_eq_some_iff.mp h5).1 h10]; exact h5, h6, h7, h8, h9, h10⟩
theorem vx_L.narrow {C n d : String} {A B : Nat → Prop} {U : State} {H : Heap} (h : vx_L C n d A U H) (hAB : ∀ q, B q → A q) : vx_L C n d B U H := by
  obtain ⟨c, k, i, f, a, cell, h1, h2, h3, h4, h5, h6, h7, h8, h9, h10⟩ := h
  exact ⟨c, k, i, f, a, cell, h1, h2, h3, h4, h5, h6, h7, h8, h9, fun z => h10 (hAB _ z)⟩
theorem vx_L.word {C n d : String} {A : Nat → Prop} {s : State} {args : Array Value} (h : vx_L C n d A s s.heap) : (Cond.laysStatic C n d).before args s = true := by
  obtain ⟨c, k, i, f, a, cell, h1, h2, h3, h4, h5, h6, h7, h8, h9, -⟩ := h
  show (Cond.laysStatic C n d).holds args s none s [] = true
  exact Cond.laysStatic_of h1 h2 h3 h4 h5 h6 h7 h8 h9
/-- .. and what it holds: null or some reference -/
def vx_Zq (C n d : String) (A : Nat → Prop) (U : State) (H : Heap) : Prop := va_Zq C n d A U H ∧ vx_L C n d A U H
theorem vx_Zq.moved {C n d : String} {A : Nat → Prop} {u U : State} {H : Heap} (hvm : u.vm.Alike U.vm) (h : vx_Zq C n d A u H) : vx_Zq C n d A U H := ⟨va_Zq.moved hvm h.1, vx_L.moved hvm h.2⟩
theorem vx_Zq.kept {C n d : String} {A : Nat → Prop} {U : State} {H H1 : Heap} (h : vx_Zq C n d A U H) (hq : ∀ a : Nat, a < H.size → ¬ A a → H1[a]? = H[a]?) : vx_Zq C n d A U H1 := ⟨va_Zq.kept h.1 hq, vx_L.kept h.2 hq⟩
theorem vx_Zq.narrow {C n d : String} {A B : Nat → Prop} {U : State} {H : Heap} (h : vx_Zq C n d A U H) (hAB : ∀ q, B q → A q) : vx_Zq C n d B U H := ⟨va_Zq.narrow h.1 hAB, vx_L.narrow h.2 hAB⟩
theorem vx_Zqof {args : Array Value} {s : State} {C n d : String} {A : Nat → Prop} (hl : (Cond.laysStatic C n d).before args s = true) (hini : (Cond.initialized C).before args s = true) (h : (Cond.isRef (.static C n d)).before args s = true) (hA : ∀ a : Nat, a < s.heap.size → ¬ A a) : vx_Zq C n d A s s.heap := by
  refine ⟨va_Zqof hl hini h hA, ?_⟩
  obtain ⟨c, k, i, f, a, cell, h1, h2, h3, h4, h5, h6, h7, h8, h9⟩ := Cond.laysStatic_spec hl
  exact ⟨c, k, i, f, a, cell, h1, h2, h3, h4, h5, h6, h7, h8, h9, hA a (Array.getElem?_eq_some_iff.mp h5).1⟩
theorem vx_isRef {C n d : String} {v : Value} {A : Nat → Prop} {s : State} {args : Array Value} (h : va_Z C n d v A s s.heap) (hv : v.isRef = true) : (Cond.isRef (.static C n d)).before args s = true := by
  obtain ⟨cf, kf, fi, f, a, cell, h1, h2, h3, h4, h5, h6, h7, -⟩ := h
  have he : (Term.static C n d).eval args s none [] s = some v := by
    simp [Term.eval, State.fieldNamed?, h1, h2, h4, h5, h6, h7]
  simp only [Cond.before, Cond.holds, Cond.value, he]
  cases v <;> simp_all [Value.isRef]
theorem vx_isRefq {C n d : String} {A : Nat → Prop} {s : State} {args : Array Value} (h : va_Zq C n d A s s.heap) : (Cond.isRef (.static C n d)).before args s = true := by
  rcases h with h | ⟨t, h⟩
  · exact vx_isRef h rfl
  · exact vx_isRef h rfl
/-- the same frame, seen from here: as if the method were called anew in this heap -/
theorem vx_rebase {T : State} (X : Stand p l e R s m args below meth c T locs cells slots) {R' : Room} (hf : R'.frames ≤ R.frames) (hl : R'.locals ≤ R.locals) (hc : cells + R'.cells ≤ R.cells) (hs : slots + R'.slots ≤ R.slots) :
    Stand p l e R' ((T.setVm s.vm).setFrames (.invoking m args :: below)) m args below meth c T [] 0 0 := by
  have htop : (T.setVm s.vm).topJava?.isSome := X.here.top
  have hF : ((T.setVm s.vm).setFrames (.invoking m args :: below)).frames = .invoking m args :: below := State.frames_setFrames _ (State.cur_lt_of_top htop)
  obtain ⟨g₀, hg0⟩ := Option.isSome_iff_exists.mp htop
  obtain ⟨r, hr⟩ := State.topJava?_eq_some.mp hg0
  have hl9 : e.platform.stackLimits (T.setVm s.vm).me = e.platform.stackLimits s.me := X.limits
  have hb9 : (T.setVm s.vm).me.stackBytes = s.me.stackBytes := X.bytes
  refine ⟨X.admits, X.cas, X.clock, hF, ?_, X.hears, X.method, X.code, X.here, X.tail, X.warmed, ?_, ?_, ?_⟩
  · have h := X.room
    have hU : ((T.setVm s.vm).setFrames (.invoking m args :: below)).localsInUse = s.localsInUse := by
      rw [State.localsInUse_invoking hF (meth := meth) (c := c) X.method X.code, State.localsInUse_invoking X.frames X.method X.code]
    simp only [State.hasRoom, Bool.and_eq_true, decide_eq_true_eq] at h ⊢
    obtain ⟨⟨⟨⟨h1, h2, h3, h4, h5, h6⟩, h7⟩, h8⟩, h9⟩ := h
    rw [X.frames, List.length_cons] at h2 h3
    have q1 := X.heapSize
    have q2 := X.used
    simp only [hF, hU, List.length_cons, State.stackLimits_setFrames, State.stackBytes_setFrames, hl9, hb9]
    refine ⟨⟨⟨⟨by omega, by omega, by omega, by omega, by omega, h6⟩, ?_⟩, ?_⟩, X.book⟩
    · show T.heap.size + R'.cells ≤ e.platform.maxCells
      omega
    · show T.slotsUsed + R'.slots ≤ e.platform.maxSlots
      omega
  · rw [State.stackLimits_setFrames]; rfl
  · rw [State.stackBytes_setFrames]; rfl
  · refine ⟨?_, Nat.le_refl _, Nat.le_refl _, ?_, ?_, fun a c9 h9 => ⟨c9, h9, rfl, rfl, fun _ _ => rfl⟩⟩
    · obtain ⟨t, ht, -⟩ := State.frames_cons hr
      show T.setVm s.vm = { ((T.setVm s.vm).setFrames (.invoking m args :: below)).setFrames (T.setVm s.vm).frames with heap := T.heap, slotsUsed := T.slotsUsed }
      rw [State.setFrames_setFrames, State.setFrames_self ht]
      rfl
    · show T.slotsUsed = T.slotsUsed + ((T.heap.toList.drop T.heap.size).map (·.slots.size)).sum
      rw [List.drop_eq_nil_of_le (Nat.le_of_eq Array.length_toList)]
      rfl
    · show ((T.heap.toList.drop T.heap.size).map (·.slots.size)).sum ≤ 0
      rw [List.drop_eq_nil_of_le (Nat.le_of_eq Array.length_toList)]
      exact Nat.le_refl _
/-- 'throw new E()': new; dup; invokespecial; athrow -/
theorem vx_throw0 {cc : ByteArray} {pc : Nat} (hexec : p.tables.exec = Jvm.exec) (hb : c.code = cc) (hl : l.stackTraces = false) {own cls : String} {names : List String} {ik ic mc ms : Nat} {A : Nat → Prop}
    (hown : s.vm.findClass own = some m.cls) (hcls : Bundle.fit cls = true) (hnames : ∀ n ∈ names, Bundle.fit n = true)
    (hk : (Cond.classLink own ik cls).before args s = true) (hini : (Cond.initialized cls).before args s = true) (hat : ∀ w ∈ vx_at0 own ic cls names, w.before args s = true)
    (hgood : ∀ w ∈ Cond.classLink own ik cls :: Cond.initialized cls :: vx_at0 own ic cls names, vx_ot w = true)
    (hU : vx_Zq Bundle.tN "UNASSIGNED_STACK" Bundle.steD A s s.heap) (hN : vx_Zq Bundle.tN "SUPPRESSED_SENTINEL" Bundle.listD A s s.heap) (hS : va_S A s.heap H locs) (hsize : ls.size = c.maxLocals)
    (d0 : decode cc pc = .ok (.new ik, 3)) (d3 : decode cc (pc + 3) = .ok (.dup, 1)) (d4 : decode cc (pc + 4) = .ok (.invokespecial ic, 3)) (d7 : decode cc (pc + 7) = .ok (.athrow, 1))
    (hout : ∀ x ∈ c.exceptionTable.toList, covers x (pc + 7) = false)
    (hRframes : names.length + 3 < R.frames) (hRlocals : (rest.map fun v => v.category).sum + (13 * (names.length + 1) + 42) ≤ R.locals) (hRcells : cells + 1 ≤ R.cells) (hRslots : slots + 6 ≤ R.slots) (hlocks : meth.locks = false)
    (hx : ∀ t : State, s.vm.Alike t.vm → H.size ≤ t.heap.size → (∀ q : Nat, q < H.size → t.heap[q]? = H[q]?) → XC cls s t)
    (hf : ∀ z ∈ locs, free z.base) (hc : cells + 1 ≤ mc) (hs : slots + 6 ≤ ms) :
    W p l e R s m args below meth c H locs cells slots (vx_MQ below Qc XC args s mc ms free) (F0 m pc ls rest) := by
  intro T hT X
  have htr : e.platform.stackTraces = false := (show e.platform.stackTraces = l.stackTraces by rw [X.admits.platform]).trans hl
  have Y := vx_rebase X (R' := { frames := R.frames, locals := R.locals, cells := 1, slots := 6 }) (Nat.le_refl _) (Nat.le_refl _) hRcells hRslots
  obtain ⟨s', hA⟩ : ∃ z, z = (T.setVm s.vm).setFrames (.invoking m args :: below) := ⟨_, rfl⟩
  rw [← hA] at Y
  have hvm : s'.vm = s.vm := by rw [hA]; rfl
  have hhp : s'.heap = H := by rw [hA]; exact hT
  have hW0 : s.WarmedH s'.vm := by rw [hvm]; exact State.WarmedH.refl s
  have hat' : ∀ w ∈ vx_at0 own ic cls names, w.before args s' = true := fun w hw => vx_ot_at hW0 hvm.symm (hgood w (List.mem_cons_of_mem _ (List.mem_cons_of_mem _ hw))) (hat w hw)
  have hk' : (Cond.classLink own ik cls).before args s' = true := vx_ot_at hW0 hvm.symm (hgood _ List.mem_cons_self) hk
  have hini' : (Cond.initialized cls).before args s' = true := vx_ot_at hW0 hvm.symm (hgood _ (List.mem_cons_of_mem _ List.mem_cons_self)) hini
  have hU' : vx_Zq Bundle.tN "UNASSIGNED_STACK" Bundle.steD A s' s'.heap := by rw [hhp]; exact vx_Zq.moved hW0.alike (hU.kept hS.2.1)
  have hN' : vx_Zq Bundle.tN "SUPPRESSED_SENTINEL" Bundle.listD A s' s'.heap := by rw [hhp]; exact vx_Zq.moved hW0.alike (hN.kept hS.2.1)
  have h : ∀ w ∈ Bundle.ownAtoms0 own ic cls names, w.before args s' = true := vx_own hat' (vx_isRefq hU'.1) (vx_isRefq hN'.1) hU'.2.word hN'.2.word
  have hown' : s'.vm.findClass own = some m.cls := by rw [hvm]; exact hown
  have hins : (Cond.instantiable cls 6).before args s' = true := h _ (by simp [Bundle.ownAtoms0])
  obtain ⟨vm₁, cX, kX, hfX, hkX, -, -, X₁, st1⟩ := Y.newCold hexec (own := own) (C := cls) (index := ik) (n := 6) hown' hk' hins hini'
    (g := F0 m pc ls rest) rfl (by rw [hb]; exact d0) (Nat.le_refl _) (Nat.le_refl _)
  generalize hT1 : (T.setVm vm₁).pushCell { cls := cX, slots := kX.instanceTypes.map defaultValue, vm := .none } = T1 at X₁ st1
  have hcat : (Value.ref T.heap.size).category = 1 := rfl
  have hcellA : T1.heap[T.heap.size]? = some (freshCell cX kX) := by rw [← hT1]; exact State.heap_pushCell_size _ _
  have d3' : decode c.code (pc + 3) = .ok (.dup, 1) := by rw [hb]; exact d3
  obtain ⟨U, hsteps, hrun, hend, hW, hsame, ce, hce, hO⟩ := X₁.ctorThrow0 hexec htr (own := own) (cls := cls) (names := names) (ic := ic) hown' hcls hnames h (fun x hx => nomatch hx) hfX hkX hcellA (by rw [hhp, hT]; exact Nat.le_refl _)
    (g := { method := m, pc := pc + 4, locals := ls, stack := .ref T.heap.size :: .ref T.heap.size :: rest, locked := none }) rfl hsize rfl rfl (rest := rest) rfl
    (by rw [hb]; exact d4) (by rw [hb]; exact d7) hout hRframes (by simp only [List.map_cons, List.sum_cons, hcat]; omega) hlocks
  obtain ⟨f1, f2⟩ := vx_frame hsame
  rw [hhp] at f1 f2
  have hWs : s.WarmedH U.vm := State.WarmedH.trans hW0 hW
  have hcl : s.vm.findClass cls = some ce.cls := by
    have h9 := hO.cls
    rw [hvm] at h9
    exact h9
  have hall : s.sameButNew ({ U with vm := s.vm } : State) locs mc ms := by
    subst hA
    obtain ⟨e1, e2⟩ := hsame
    rw [State.setFrames_setFrames] at e1
    have h2 : (T.setVm s.vm).sameButNew ({ U with vm := s.vm } : State) [] (0 + 1) (0 + 6) := ⟨e1, e2⟩
    have h3 := X.same.trans h2
    rw [List.append_nil] at h3
    exact h3.mono hc hs
  refine ⟨U, ?_, .threw T.heap.size, hrun, hend, Or.inr ⟨T.heap.size, rfl, cls, ce, locs, hx U hWs.alike f1 (fun q hq => f2 q hq (fun z hz => nomatch hz)), hce, hO.vm, hcl, hWs, hall, hf⟩⟩
  refine st1 _ ?_
  show Steps p.tables e below (T1.setTop { method := m, pc := pc + 3, locals := ls, stack := .ref T.heap.size :: rest, locked := none }) _
  jvm_step X₁.here [X₁.here.top, hexec, d3', Value.category]
  exact hsteps
/-- 'throw new E("text")': new; dup; ldc; invokespecial; athrow -/
theorem vx_throwS {cc : ByteArray} {pc : Nat} (hexec : p.tables.exec = Jvm.exec) (hb : c.code = cc) (hl : l.stackTraces = false) {own cls text : String} {names : List String} {ik is ic mc ms sa : Nat} {A : Nat → Prop}
    (hown : s.vm.findClass own = some m.cls) (hcls : Bundle.fit cls = true) (hnames : ∀ n ∈ names, Bundle.fit n = true)
    (hk : (Cond.classLink own ik cls).before args s = true) (hini : (Cond.initialized cls).before args s = true) (hstr : vk_R own is text sa s) (hat : ∀ w ∈ vx_atS own ic cls names, w.before args s = true)
    (hgood : ∀ w ∈ Cond.classLink own ik cls :: Cond.initialized cls :: vx_atS own ic cls names, vx_ot w = true)
    (hU : vx_Zq Bundle.tN "UNASSIGNED_STACK" Bundle.steD A s s.heap) (hN : vx_Zq Bundle.tN "SUPPRESSED_SENTINEL" Bundle.listD A s s.heap) (hS : va_S A s.heap H locs) (hsize : ls.size = c.maxLocals)
    (d0 : decode cc pc = .ok (.new ik, 3)) (d3 : decode cc (pc + 3) = .ok (.dup, 1)) (d4 : decode cc (pc + 4) = .ok (.ldc is, 2)) (d6 : decode cc (pc + 6) = .ok (.invokespecial ic, 3)) (d9 : decode cc (pc + 9) = .ok (.athrow, 1))
    (hout : ∀ x ∈ c.exceptionTable.toList, covers x (pc + 9) = false)
    (hRframes : names.length + 3 < R.frames) (hRlocals : (rest.map fun v => v.category).sum + (13 * (names.length + 1) + 43) ≤ R.locals) (hRcells : cells + 1 ≤ R.cells) (hRslots : slots + 6 ≤ R.slots) (hlocks : meth.locks = false)
    (hx : ∀ t : State, s.vm.Alike t.vm → H.size ≤ t.heap.size → (∀ q : Nat, q < H.size → t.heap[q]? = H[q]?) → XC cls s t)
    (hf : ∀ z ∈ locs, free z.base) (hc : cells + 1 ≤ mc) (hs : slots + 6 ≤ ms) :
    W p l e R s m args below meth c H locs cells slots (vx_MQ below Qc XC args s mc ms free) (F0 m pc ls rest) := by
  intro T hT X
  have htr : e.platform.stackTraces = false := (show e.platform.stackTraces = l.stackTraces by rw [X.admits.platform]).trans hl
  have Y := vx_rebase X (R' := { frames := R.frames, locals := R.locals, cells := 1, slots := 6 }) (Nat.le_refl _) (Nat.le_refl _) hRcells hRslots
  obtain ⟨s', hA⟩ : ∃ z, z = (T.setVm s.vm).setFrames (.invoking m args :: below) := ⟨_, rfl⟩
  rw [← hA] at Y
  have hvm : s'.vm = s.vm := by rw [hA]; rfl
  have hhp : s'.heap = H := by rw [hA]; exact hT
  have hW0 : s.WarmedH s'.vm := by rw [hvm]; exact State.WarmedH.refl s
  have hat' : ∀ w ∈ vx_atS own ic cls names, w.before args s' = true := fun w hw => vx_ot_at hW0 hvm.symm (hgood w (List.mem_cons_of_mem _ (List.mem_cons_of_mem _ hw))) (hat w hw)
  have hk' : (Cond.classLink own ik cls).before args s' = true := vx_ot_at hW0 hvm.symm (hgood _ List.mem_cons_self) hk
  have hini' : (Cond.initialized cls).before args s' = true := vx_ot_at hW0 hvm.symm (hgood _ (List.mem_cons_of_mem _ List.mem_cons_self)) hini
  have hU' : vx_Zq Bundle.tN "UNASSIGNED_STACK" Bundle.steD A s' s'.heap := by rw [hhp]; exact vx_Zq.moved hW0.alike (hU.kept hS.2.1)
  have hN' : vx_Zq Bundle.tN "SUPPRESSED_SENTINEL" Bundle.listD A s' s'.heap := by rw [hhp]; exact vx_Zq.moved hW0.alike (hN.kept hS.2.1)
  have h : ∀ w ∈ Bundle.ownAtoms own ic cls names, w.before args s' = true := vx_own hat' (vx_isRefq hU'.1) (vx_isRefq hN'.1) hU'.2.word hN'.2.word
  have hown' : s'.vm.findClass own = some m.cls := by rw [hvm]; exact hown
  have hins : (Cond.instantiable cls 6).before args s' = true := h _ (by simp [Bundle.ownAtoms])
  obtain ⟨vm₁, cX, kX, hfX, hkX, -, -, X₁, st1⟩ := Y.newCold hexec (own := own) (C := cls) (index := ik) (n := 6) hown' hk' hins hini'
    (g := F0 m pc ls rest) rfl (by rw [hb]; exact d0) (Nat.le_refl _) (Nat.le_refl _)
  generalize hT1 : (T.setVm vm₁).pushCell { cls := cX, slots := kX.instanceTypes.map defaultValue, vm := .none } = T1 at X₁ st1
  have hcat : (Value.ref T.heap.size).category = 1 := rfl
  have hcellA : T1.heap[T.heap.size]? = some (freshCell cX kX) := by rw [← hT1]; exact State.heap_pushCell_size _ _
  have d3' : decode c.code (pc + 3) = .ok (.dup, 1) := by rw [hb]; exact d3
  have d4' : decode c.code (pc + 4) = .ok (.ldc is, 2) := by rw [hb]; exact d4
  have hstr' : vk_R own is text sa s' := vk_R.warm hW0 hstr
  obtain ⟨U, hsteps, hrun, hend, hW, hsame, ce, hce, hO⟩ := X₁.ctorThrowS hexec htr (own := own) (cls := cls) (names := names) (ic := ic) hown' hcls hnames h (fun x hx => nomatch hx) hfX hkX hcellA (by rw [hhp, hT]; exact Nat.le_refl _) (msg := .ref sa) rfl
    (g := { method := m, pc := pc + 6, locals := ls, stack := .ref sa :: .ref T.heap.size :: .ref T.heap.size :: rest, locked := none }) rfl hsize rfl rfl (rest := rest) rfl
    (by rw [hb]; exact d6) (by rw [hb]; exact d9) hout hRframes (by simp only [List.map_cons, List.sum_cons, hcat]; omega) hlocks
  obtain ⟨f1, f2⟩ := vx_frame hsame
  rw [hhp] at f1 f2
  have hWs : s.WarmedH U.vm := State.WarmedH.trans hW0 hW
  have hcl : s.vm.findClass cls = some ce.cls := by
    have h9 := hO.cls
    rw [hvm] at h9
    exact h9
  have hall : s.sameButNew ({ U with vm := s.vm } : State) locs mc ms := by
    subst hA
    obtain ⟨e1, e2⟩ := hsame
    rw [State.setFrames_setFrames] at e1
    have h2 : (T.setVm s.vm).sameButNew ({ U with vm := s.vm } : State) [] (0 + 1) (0 + 6) := ⟨e1, e2⟩
    have h3 := X.same.trans h2
    rw [List.append_nil] at h3
    exact h3.mono hc hs
  refine ⟨U, ?_, .threw T.heap.size, hrun, hend, Or.inr ⟨T.heap.size, rfl, cls, ce, locs, hx U hWs.alike f1 (fun q hq => f2 q hq (fun z hz => nomatch hz)), hce, hO.vm, hcl, hWs, hall, hf⟩⟩
  refine st1 _ ?_
  show Steps p.tables e below (T1.setTop { method := m, pc := pc + 3, locals := ls, stack := .ref T.heap.size :: rest, locked := none }) _
  jvm_step X₁.here [X₁.here.top, hexec, d3', Value.category]
  exact X₁.ldcString hexec (own := own) (text := text) (index := is) (a := sa) hown' hstr'.1 hstr'.2
    (g := { method := m, pc := pc + 4, locals := ls, stack := .ref T.heap.size :: .ref T.heap.size :: rest, locked := none }) rfl d4' _ hsteps
/-- 'throw new E("text")', the text by a wide index -/
theorem vx_throwSW {cc : ByteArray} {pc : Nat} (hexec : p.tables.exec = Jvm.exec) (hb : c.code = cc) (hl : l.stackTraces = false) {own cls text : String} {names : List String} {ik is ic mc ms sa : Nat} {A : Nat → Prop}
    (hown : s.vm.findClass own = some m.cls) (hcls : Bundle.fit cls = true) (hnames : ∀ n ∈ names, Bundle.fit n = true)
    (hk : (Cond.classLink own ik cls).before args s = true) (hini : (Cond.initialized cls).before args s = true) (hstr : vk_R own is text sa s) (hat : ∀ w ∈ vx_atS own ic cls names, w.before args s = true)
    (hgood : ∀ w ∈ Cond.classLink own ik cls :: Cond.initialized cls :: vx_atS own ic cls names, vx_ot w = true)
    (hU : vx_Zq Bundle.tN "UNASSIGNED_STACK" Bundle.steD A s s.heap) (hN : vx_Zq Bundle.tN "SUPPRESSED_SENTINEL" Bundle.listD A s s.heap) (hS : va_S A s.heap H locs) (hsize : ls.size = c.maxLocals)
    (d0 : decode cc pc = .ok (.new ik, 3)) (d3 : decode cc (pc + 3) = .ok (.dup, 1)) (d4 : decode cc (pc + 4) = .ok (.ldc_w is, 3)) (d7 : decode cc (pc + 7) = .ok (.invokespecial ic, 3)) (d10 : decode cc (pc + 10) = .ok (.athrow, 1))
    (hout : ∀ x ∈ c.exceptionTable.toList, covers x (pc + 10) = false)
    (hRframes : names.length + 3 < R.frames) (hRlocals : (rest.map fun v => v.category).sum + (13 * (names.length + 1) + 43) ≤ R.locals) (hRcells : cells + 1 ≤ R.cells) (hRslots : slots + 6 ≤ R.slots) (hlocks : meth.locks = false)
    (hx : ∀ t : State, s.vm.Alike t.vm → H.size ≤ t.heap.size → (∀ q : Nat, q < H.size → t.heap[q]? = H[q]?) → XC cls s t)
    (hf : ∀ z ∈ locs, free z.base) (hc : cells + 1 ≤ mc) (hs : slots + 6 ≤ ms) :
    W p l e R s m args below meth c H locs cells slots (vx_MQ below Qc XC args s mc ms free) (F0 m pc ls rest) := by
  intro T hT X
  have htr : e.platform.stackTraces = false := (show e.platform.stackTraces = l.stackTraces by rw [X.admits.platform]).trans hl
  have Y := vx_rebase X (R' := { frames := R.frames, locals := R.locals, cells := 1, slots := 6 }) (Nat.le_refl _) (Nat.le_refl _) hRcells hRslots
  obtain ⟨s', hA⟩ : ∃ z, z = (T.setVm s.vm).setFrames (.invoking m args :: below) := ⟨_, rfl⟩
  rw [← hA] at Y
  have hvm : s'.vm = s.vm := by rw [hA]; rfl
  have hhp : s'.heap = H := by rw [hA]; exact hT
  have hW0 : s.WarmedH s'.vm := by rw [hvm]; exact State.WarmedH.refl s
  have hat' : ∀ w ∈ vx_atS own ic cls names, w.before args s' = true := fun w hw => vx_ot_at hW0 hvm.symm (hgood w (List.mem_cons_of_mem _ (List.mem_cons_of_mem _ hw))) (hat w hw)
  have hk' : (Cond.classLink own ik cls).before args s' = true := vx_ot_at hW0 hvm.symm (hgood _ List.mem_cons_self) hk
  have hini' : (Cond.initialized cls).before args s' = true := vx_ot_at hW0 hvm.symm (hgood _ (List.mem_cons_of_mem _ List.mem_cons_self)) hini
  have hU' : vx_Zq Bundle.tN "UNASSIGNED_STACK" Bundle.steD A s' s'.heap := by rw [hhp]; exact vx_Zq.moved hW0.alike (hU.kept hS.2.1)
  have hN' : vx_Zq Bundle.tN "SUPPRESSED_SENTINEL" Bundle.listD A s' s'.heap := by rw [hhp]; exact vx_Zq.moved hW0.alike (hN.kept hS.2.1)
  have h : ∀ w ∈ Bundle.ownAtoms own ic cls names, w.before args s' = true := vx_own hat' (vx_isRefq hU'.1) (vx_isRefq hN'.1) hU'.2.word hN'.2.word
  have hown' : s'.vm.findClass own = some m.cls := by rw [hvm]; exact hown
  have hins : (Cond.instantiable cls 6).before args s' = true := h _ (by simp [Bundle.ownAtoms])
  obtain ⟨vm₁, cX, kX, hfX, hkX, -, -, X₁, st1⟩ := Y.newCold hexec (own := own) (C := cls) (index := ik) (n := 6) hown' hk' hins hini'
    (g := F0 m pc ls rest) rfl (by rw [hb]; exact d0) (Nat.le_refl _) (Nat.le_refl _)
  generalize hT1 : (T.setVm vm₁).pushCell { cls := cX, slots := kX.instanceTypes.map defaultValue, vm := .none } = T1 at X₁ st1
  have hcat : (Value.ref T.heap.size).category = 1 := rfl
  have hcellA : T1.heap[T.heap.size]? = some (freshCell cX kX) := by rw [← hT1]; exact State.heap_pushCell_size _ _
  have d3' : decode c.code (pc + 3) = .ok (.dup, 1) := by rw [hb]; exact d3
  have d4' : decode c.code (pc + 4) = .ok (.ldc_w is, 3) := by rw [hb]; exact d4
  have hstr' : vk_R own is text sa s' := vk_R.warm hW0 hstr
  obtain ⟨U, hsteps, hrun, hend, hW, hsame, ce, hce, hO⟩ := X₁.ctorThrowS hexec htr (own := own) (cls := cls) (names := names) (ic := ic) hown' hcls hnames h (fun x hx => nomatch hx) hfX hkX hcellA (by rw [hhp, hT]; exact Nat.le_refl _) (msg := .ref sa) rfl
    (g := { method := m, pc := pc + 7, locals := ls, stack := .ref sa :: .ref T.heap.size :: .ref T.heap.size :: rest, locked := none }) rfl hsize rfl rfl (rest := rest) rfl
    (by rw [hb]; exact d7) (by rw [hb]; exact d10) hout hRframes (by simp only [List.map_cons, List.sum_cons, hcat]; omega) hlocks
  obtain ⟨f1, f2⟩ := vx_frame hsame
  rw [hhp] at f1 f2
  have hWs : s.WarmedH U.vm := State.WarmedH.trans hW0 hW
  have hcl : s.vm.findClass cls = some ce.cls := by
    have h9 := hO.cls
    rw [hvm] at h9
    exact h9
  have hall : s.sameButNew ({ U with vm := s.vm } : State) locs mc ms := by
    subst hA
    obtain ⟨e1, e2⟩ := hsame
    rw [State.setFrames_setFrames] at e1
    have h2 : (T.setVm s.vm).sameButNew ({ U with vm := s.vm } : State) [] (0 + 1) (0 + 6) := ⟨e1, e2⟩
    have h3 := X.same.trans h2
    rw [List.append_nil] at h3
    exact h3.mono hc hs
  refine ⟨U, ?_, .threw T.heap.size, hrun, hend, Or.inr ⟨T.heap.size, rfl, cls, ce, locs, hx U hWs.alike f1 (fun q hq => f2 q hq (fun z hz => nomatch hz)), hce, hO.vm, hcl, hWs, hall, hf⟩⟩
  refine st1 _ ?_
  show Steps p.tables e below (T1.setTop { method := m, pc := pc + 3, locals := ls, stack := .ref T.heap.size :: rest, locked := none }) _
  jvm_step X₁.here [X₁.here.top, hexec, d3', Value.category]
  exact X₁.ldcStringW hexec (own := own) (text := text) (index := is) (a := sa) hown' hstr'.1 hstr'.2
    (g := { method := m, pc := pc + 4, locals := ls, stack := .ref T.heap.size :: .ref T.heap.size :: rest, locked := none }) rfl d4' _ hsteps
end Ends
section Bodies
variable {l : Launch}
theorem vx_ofW {y : MethodName} {ws ws' : List Cond} {rm : Room} {Pc : Array Value → State → Prop} {Qc : Array Value → State → Outcome → State → Prop} {XC : String → State → State → Prop} {mc ms : Nat} {free : Addr → Prop} {cc : ByteArray} {maxL : Nat} {ret : Option FieldType}
    (hy : plainName y.cls = true) (hw : ws = Cond.code y cc maxL ret :: ws')
    (body : ∀ p e s m args below meth c s₁, BodyLoose p l y (headSpec ws rm) cc maxL ret e s m args below meth c s₁ → c.maxLocals = maxL → (∀ x ∈ c.exceptionTable.toList, False) → Pc args s →
      W p l e (headSpec ws rm).room s m args below meth c s.heap [] 0 0 (vx_MQ below Qc XC args s mc ms free) (entryFrame m args maxL)) : vx_Met l y ws rm Pc Qc XC mc ms free := by
  refine MetFree.of_bodyS (code := cc) (maxLocals := maxL) (ret := ret) hy ?_ ?_
  · intro args s m h hn
    obtain ⟨meth, c, h1, h2, h3, h4, h5, h6, -, -⟩ := Cond.code_spec hn (atoms_spec (ws := ws) h _ (by rw [hw]; exact List.mem_cons_self))
    exact ⟨meth, c, h1, h2, h3, h4, h5, h6⟩
  · intro p e s m args below meth c s₁ B hml hP _
    have hh0 : s₁.heap = s.heap := by rw [B.state]; rfl
    have ht : ∀ x ∈ c.exceptionTable.toList, False := by
      obtain ⟨meth9, c9, h1, h2, -, -, -, -, h7, -⟩ := Cond.code_spec B.named (atoms_spec (ws := ws) B.pre _ (by rw [hw]; exact List.mem_cons_self))
      cases Option.some.inj (h1.symm.trans B.method)
      cases Option.some.inj (h2.symm.trans (Stand.of_body B).code)
      intro x hx
      rw [Array.isEmpty_iff.mp h7] at hx
      cases hx
    obtain ⟨t, a1, o, b1, b2, b3⟩ := body p e s m args below meth c s₁ B hml ht hP s₁ hh0 (Stand.of_body B)
    exact ⟨t, o, a1, b1, b2, b3⟩
/-- the table of a body with handlers -/
theorem vx_table {p : Program} {x y : MethodName} {S : Spec} {cc bytes : ByteArray} {maxL maxL' : Nat} {ret ret' : Option FieldType} {e : Env} {s s₁ : State} {m : MethodId} {args : Array Value} {below : List Frame} {meth : Method} {c : Code} {hh : List (Nat × Nat × Nat × Nat)}
    (B : BodyLoose p l y S cc maxL ret e s m args below meth c s₁) (h : (Cond.codeWith y bytes maxL' ret' hh).before args s = true) : c.exceptionTable.toList = tableOf hh := by
  obtain ⟨m9, meth9, c9, hn9, h1, h2, -, -, h6, -⟩ := Cond.codeWith_spec h
  cases Option.some.inj (hn9.symm.trans B.named)
  cases Option.some.inj (h1.symm.trans B.method)
  cases Option.some.inj (h2.symm.trans (Stand.of_body B).code)
  rw [← h6, table_eq]
end Bodies
end VXA
/-! ===== END ===== -/
/-! ===== BEGIN a static call of a method with an exception table ===== -/
section VXS
variable {p : Program} {l : Launch} {e : Env} {R : Room} {s : State} {m : MethodId} {args : Array Value} {below : List Frame} {meth : Method} {c : Code} {T : State} {H : Heap} {locs : List Loc} {cells slots : Nat}
abbrev vx_CSW (R : Room) (s : State) (args : Array Value) (own : String) (index : Nat) (y : MethodName) (bytes : ByteArray) (maxL : Nat) (ret : Option FieldType) (hh : List (Nat × Nat × Nat × Nat)) (ws : List Cond) (rm : Room) (mc ms n : Nat) : Prop :=
  (rm.cells = mc ∧ rm.slots = ms ∧ rm.frames + 1 ≤ R.frames ∧ 8 + (maxL + 11) + rm.locals ≤ R.locals ∧ (∀ w ∈ ws, ∀ (a' : Array Value) (U : State), s.WarmedH U.vm → w.before a' U = true) ∧ Cond.codeWith y bytes maxL ret hh ∈ ws) ∧
  (Cond.codeWith y bytes maxL ret hh).before args s = true ∧ (Cond.initialized y.cls).before args s = true ∧ (y.cls ≠ "java/lang/invoke/MethodHandle" ∧ y.cls ≠ "java/lang/invoke/VarHandle") ∧
  (∀ sig, parseMethodDescriptor y.desc = some sig → n = sig.parameters.length) ∧ (Cond.methodLink own index y).before args s = true ∧ (Cond.static y).before args s = true
theorem vx_cwSW {own : String} {index maxL mc ms : Nat} {y : MethodName} {bytes : ByteArray} {ret : Option FieldType} {hh : List (Nat × Nat × Nat × Nat)} {Ts ws ws' : List Cond} {rm : Room} (n : Nat) (ht : ∀ w ∈ Ts, w.before args s = true) (hT : GoodIn Ts (va_wsS own index y ws)) (hw : ws = Cond.codeWith y bytes maxL ret hh :: ws') (hrc : rm.cells = mc) (hrs : rm.slots = ms)
    (hd : y.cls ≠ "java/lang/invoke/MethodHandle" ∧ y.cls ≠ "java/lang/invoke/VarHandle" ∧ (parseMethodDescriptor y.desc).map (fun d => d.parameters.length) = some n) (hR : rm.frames + 1 ≤ R.frames ∧ 8 + (maxL + 11) + rm.locals ≤ R.locals) :
    vx_CSW R s args own index y bytes maxL ret hh ws rm mc ms n := by
  have ok : ∀ w ∈ va_wsS own index y ws, w.before args s = true := fun w h => ht w (hT w h).1
  have hG : GoodIn Ts ws := fun w h => hT w (by unfold va_wsS; exact List.mem_append_right _ h)
  have hc : Cond.codeWith y bytes maxL ret hh ∈ ws := by rw [hw]; exact List.mem_cons_self
  refine ⟨⟨hrc, hrs, hR.1, hR.2, pay_in ht hG, hc⟩, ht _ (hG _ hc).1, ok _ (by simp [va_wsS]), ⟨hd.1, hd.2.1⟩, fun sig h => ?_, ok _ (by simp [va_wsS]), ok _ (by simp [va_wsS])⟩
  have h2 := hd.2.2
  rw [h] at h2
  exact (Option.some.inj h2).symm
theorem vx_callSW (X : Stand p l e R s m args below meth c T locs cells slots) (hexec : p.tables.exec = Jvm.exec) {own : String} {index : Nat} {y : MethodName} {bytes : ByteArray} {maxL : Nat} {ret : Option FieldType} {hh : List (Nat × Nat × Nat × Nat)}
    (hown : s.vm.findClass own = some m.cls) (hlink : (Cond.methodLink own index y).before args s = true) (hstat : (Cond.static y).before args s = true) (hinit : (Cond.initialized y.cls).before args s = true)
    (hcode : (Cond.codeWith y bytes maxL ret hh).before args s = true) (hy : y.cls ≠ "java/lang/invoke/MethodHandle" ∧ y.cls ≠ "java/lang/invoke/VarHandle")
    {W9 : Nat} {Pre : Pt → Array Value → Prop} {Post : Pt → Array Value → Option Value → Pt → Prop} (hK : Back l R p e below s args y 3 W9 Pre Post)
    {g : JFrame} (hg : g.method = m) (hsize : g.locals.size = c.maxLocals) {argsL rest : List Value} (hlen : ∀ sig, parseMethodDescriptor y.desc = some sig → argsL.length = sig.parameters.length)
    (hstack : g.stack = argsL.reverse ++ rest) (hW : 2 * g.monitorRoom + (rest.map fun v => v.category).sum ≤ W9) (hdg : decode c.code g.pc = .ok (.invokestatic index, 3))
    (hpre : ∀ vm₁, s.WarmedH vm₁ → Pre ⟨T.setVm vm₁, locs, cells, slots⟩ argsL.toArray) :
    ∃ (v : Option Value) (vm₁ : Vm) (B : Pt), s.WarmedH vm₁ ∧ Stand p l e R s m args below meth c B.U B.locs B.cells B.slots ∧ Post ⟨T.setVm vm₁, locs, cells, slots⟩ argsL.toArray v B ∧
      ∀ target, Steps p.tables e below (B.U.setTop { g with pc := g.pc + 3, stack := v.toList ++ rest }) target → Steps p.tables e below (T.setTop g) target := by
  obtain ⟨mk, methM, cM, hnamed, hmethM, -, -, -, -, -, -, hsigM⟩ := Cond.codeWith_spec hcode
  have hstatic : methM.isStatic = true := Cond.static_spec hnamed hmethM hstat
  obtain ⟨kP, hkP, -⟩ := className_of_methodNamed hnamed
  have hinitP : kP.init = .initialized := Cond.initialized_spec (findClass_of_methodNamed hnamed) hkP hinit
  obtain ⟨vm₁, X₁, hstep₁⟩ := X.invokestatic hexec hown hlink hnamed hmethM hstatic hkP hinitP hy (g := g) hg (argsL := argsL) (rest := rest) (hlen _ hsigM) hstack hdg
  obtain ⟨v, B, X', hpost, hsteps⟩ := hK m meth c ⟨T.setVm vm₁, locs, cells, slots⟩ { g with stack := rest } (.invokestatic index) mk argsL.toArray X₁ hg hsize hdg hW (X₁.named hnamed) (hpre vm₁ X₁.warmed)
  exact ⟨v, vm₁, B, X₁.warmed, X', hpost, fun target h => hstep₁ _ fun acts => by rw [doInvoke_state]; exact hsteps.trans h⟩
theorem vx_runSW {y : MethodName} {bytes cc : ByteArray} {maxL nL mc ms n index : Nat} {ret : Option FieldType} {hh : List (Nat × Nat × Nat × Nat)} {ws : List Cond} {rm : Room} {Pc : Array Value → State → Prop} {Qc : Array Value → State → Outcome → State → Prop} {free : Addr → Prop} {Ts : List Cond} {own : String} {As rest : List Value} {g : JFrame}
    (S : CallFix p m c cc nL s args Ts own) (hM : Met l y ws rm Pc Qc mc ms free) (cw : vx_CSW R s args own index y bytes maxL ret hh ws rm mc ms n) (hp : PreS s H Pc As)
    (hg : g.method = m) (hn : As.length = n) (hsize : g.locals.size = nL) (hstack : g.stack = As.reverse ++ rest) (hW : 2 * g.monitorRoom + (rest.map fun v => v.category).sum ≤ 8) (hdg : decode cc g.pc = .ok (.invokestatic index, 3)) (hf : cells + mc ≤ R.cells ∧ slots + ms ≤ R.slots) :
    va_Run p l e R s m args below meth c H locs cells slots mc ms g rest (Qc As.toArray) (free) := by
  obtain ⟨⟨hrc, hrs, hfr, hlo, hws, hcw⟩, hcode, hini, hy, hlen, hl, hstt⟩ := cw
  have hK : Back l R p e below s args y 3 8 (PreOf R mc ms Pc) (PostOf Qc mc ms free) := va_backW (hh := hh) (bytes := bytes) (maxL := maxL) (ret := ret) hM hp.1 hrc hrs hfr hlo hws hcw (fun a' U hW => word_at hW (Or.inl (by first | rfl | simp [Cond.onTables, Cond.keeps, Cond.steady])) hini)
  obtain ⟨hx, hb, hml, ho, -⟩ := S
  intro T hT X
  obtain ⟨v, vm₁, ⟨U', l2, c2, s2⟩, hW₁, X', ⟨g', mk, t, L, e1, e2, hq, h1, hL, h2, h3⟩, st⟩ := vx_callSW X hx (hh := hh) (bytes := bytes) (maxL := maxL) (ret := ret) ho hl hstt hini hcode hy hK hg (hsize.trans hml.symm) (argsL := As) (rest := rest) (fun sig h => hn.trans (hlen sig h)) hstack hW (by rw [hb]; exact hdg)
    (fun vm₁ hW₁ => ⟨hf.1, hf.2, hp.2 (T.setVm vm₁) hT hW₁⟩)
  dsimp only [Pt.U, Pt.locs, Pt.cells, Pt.slots] at X' e1 e2 h1 h2 h3 st
  subst h1; subst h2; subst h3
  exact ⟨v, (T.setVm vm₁).calling g' mk As.toArray, t, U', L, hT, X', hL, e1, e2, hq, st⟩
/-- not caught here, past rows that name other classes: it goes on to the caller -/
theorem vx_outP {p : Program} {l : Launch} {e : Env} {R : Room} {s : State} {m : MethodId} {args : Array Value} {below : List Frame} {meth : Method} {c : Code} {H : Heap} {locs : List Loc} {cells slots : Nat} {free : Addr → Prop} {ls : Array Slot} {rest : List Value} {Qc : Array Value → State → Outcome → State → Prop} {XC : String → State → State → Prop}
    {pc : Nat} {own E : String} {ce : Cell} {q : Addr} {mc ms : Nat} (hown : s.vm.findClass own = some m.cls) (hlocks : meth.locks = false)
    (hpass : ∀ z ∈ c.exceptionTable.toList, covers z pc = false ∨ (z.catchType ≠ 0 ∧ ∃ nm : String, (Cond.classLink own z.catchType nm).before args s = true ∧ va_Nc E nm s)) (hcell : H[q]? = some ce) (hv : ce.vm = .none) (hcl : s.vm.findClass E = some ce.cls)
    (hx : ∀ t : State, t.heap = H → s.vm.Alike t.vm → XC E s t) (hf : ∀ z ∈ locs, free z.base) (hc : cells ≤ mc) (hs : slots ≤ ms) :
    vx_W p l e R s m args below meth c H locs cells slots (vx_MQ below Qc XC args s mc ms free) (F0 m pc ls rest) q := by
  intro T hT X
  have hpl : e.platform.magicAccessors = ({} : Platform).magicAccessors := by rw [X.admits.platform]
  obtain ⟨vm', hW', X', st⟩ := X.outThrough hlocks q (g := F0 m pc ls rest) rfl rfl rfl (cell := ce) (by rw [hT]; exact hcell) (by rw [hv]; rfl)
    (by obtain ⟨k9, h9, -⟩ := Vm.findClass_spec hcl; exact ⟨k9, h9⟩) (fun z hz => by
      rcases hpass z hz with h | ⟨hz0, nm, hl1, hn1⟩
      · exact Or.inl h
      · obtain ⟨c6, hc6, hcl6⟩ := Cond.classLink_spec hown hl1 e.platform hpl
        obtain ⟨a8, b8, h1, h2, h3⟩ := hn1
        cases Option.some.inj (h1.symm.trans hcl)
        cases Option.some.inj (h2.symm.trans hc6)
        exact Or.inr ⟨hz0, _, hcl6, h3⟩)
  obtain ⟨g₀, hfr⟩ := X'.frames_eq
  have hcell9 : ((T.setVm vm').setFrames (.throwing q :: below)).heap[q]? = some ce := by
    show T.heap[q]? = some ce
    rw [hT]; exact hcell
  have hend : Ended ((T.setVm vm').setFrames (.throwing q :: below)) below (.threw q) := State.frames_setFrames _ (State.cur_lt_of_frames hfr)
  refine ⟨(T.setVm vm').setFrames (.throwing q :: below), ?_, .threw q, X'.here.running, hend, Or.inr ⟨q, rfl, E, ce, locs, hx _ hT (X'.ends _).1.alike, hcell9, hv, hcl, (X'.ends _).1, (X'.ends _).2.mono hc hs, hf⟩⟩
  rw [X.pushThrowing_eq]
  exact st
/-- a thing of a world lies in the heap -/
theorem vx_lt {D : va_G} {cl : List vw_C} {ws : va_W} {H1 : Heap} (h : va_P D cl ws H1) {k : Nat} {q : Nat × va_E} (hk : ws[k]? = some q) : q.1 < H1.size := (h k q hk).lt
end VXS
/-! ===== END ===== -/
/-! ===== BEGIN methods with a table of their own: called by a name, returning or throwing ===== -/
section VXH
/-! vx_backW, vx_callVX, vx_callSX, vx_callVW, vx_runVW, vx_runVX, vx_runSX, vx_ofWH follow the same proofs as their sisters above (Free/Laws.lean, Shelf42/LK1.lean); vx_outP calls Shelf42/NT130.lean (outThrough). -/
section
variable {l : Launch} {R : Room} {p : Program} {e : Env} {below : List Frame} {s : State} {sargs : Array Value} {y : MethodName} {len W9 : Nat}
theorem vx_backW {ws : List Cond} {rm : Room} {Pc : Array Value → State → Prop} {Qc : Array Value → State → Outcome → State → Prop} {XC : String → State → State → Prop} {mc ms : Nat} {free : Addr → Prop} {bytes : ByteArray} {maxL : Nat} {ret : Option FieldType} {hh : List (Nat × Nat × Nat × Nat)}
    (hM : vx_Met l y ws rm Pc Qc XC mc ms free) (hblind : FrameBlind Pc) (hrc : rm.cells = mc) (hrs : rm.slots = ms)
    (hframes : rm.frames + 1 ≤ R.frames) (hlocals : W9 + (maxL + 11) + rm.locals ≤ R.locals)
    (hws : ∀ w ∈ ws, ∀ a' U, s.WarmedH U.vm → w.before a' U = true) (hcode : Cond.codeWith y bytes maxL ret hh ∈ ws) (hinit : ∀ a' U, s.WarmedH U.vm → (Cond.initialized y.cls).before a' U = true) :
    vx_Back l R p e below s sargs y len W9 (PreOf R mc ms Pc) (PostOf Qc mc ms free) (vx_Post XC mc ms free) := by
  intro m meth c A g ig mk a X hg hsize hdg hW hn hp
  have h1 : (headSpec ws rm).pre.before a A.U = true := atoms_intro fun w hw => hws w hw _ _ X.warmed
  have h2 : (Cond.codeWith y bytes maxL ret hh).before a A.U = true := hws _ hcode _ _ X.warmed
  have h3 : (Cond.initialized y.cls).before a A.U = true := hinit _ _ X.warmed
  have h4 : A.cells + (headSpec ws rm).room.cells ≤ R.cells := by rw [show (headSpec ws rm).room.cells = mc from hrc]; exact hp.1
  have h5 : A.slots + (headSpec ws rm).room.slots ≤ R.slots := by rw [show (headSpec ws rm).room.slots = ms from hrs]; exact hp.2.1
  have hPc : Pc a (A.U.calling g mk a) := hblind _ _ _ _ hp.2.2
  obtain ⟨U, Ls, c0, s0⟩ := A
  dsimp only [Pt.U, Pt.locs, Pt.cells, Pt.slots] at h1 h2 h3 h4 h5 X hn hPc ⊢
  obtain ⟨m9, methY, cY, hn9, hmY, hcY, -, hlY, -⟩ := Cond.codeWith_spec h2
  cases Option.some.inj (hn9.symm.trans hn)
  obtain ⟨kY, hkY, -⟩ := className_of_methodNamed hn
  have hinitY : kY.init = .initialized := Cond.initialized_spec (findClass_of_methodNamed hn) hkY h3
  have h : At U g.method c below := by rw [hg]; exact X.here
  have hlocals9 : W9 + (maxL + 11) + (headSpec ws rm).room.locals ≤ R.locals := hlocals
  have happ : (headSpec ws rm).appliesLoose y e.platform (U.calling g mk a) = true :=
    Spec.appliesLoose_calling (g := g) h hdg hn hkY hinitY
      (X.room_calling (g := g) (R' := (headSpec ws rm).room) hsize hmY hcY hframes (by rw [hlY]; omega) h4 h5) h1
  obtain ⟨mid, hmid⟩ := h.above
  have hfr : (U.setTop g).frames = (.java g :: mid) ++ below := by rw [State.frames_setTop' g h.top, hmid]; rfl
  obtain ⟨o, s₂, hsteps, -, hend, hq⟩ := Steps.callFree hM p X.admits X.cas X.clock (acts := []) hfr happ hPc trivial
  have hq' : vx_Q Qc XC mc ms free a (U.calling g mk a) o s₂ := hq
  rw [State.frames_setTop' g h.top] at hend
  obtain ⟨g₀, hg0⟩ := Option.isSome_iff_exists.mp h.top
  obtain ⟨r, hr⟩ := State.topJava?_eq_some.mp hg0
  have hr' : (({ U with heap := s₂.heap, slotsUsed := s₂.slotsUsed } : State).setVm s₂.vm).frames = .java g₀ :: r := hr
  rcases hq' with ⟨hqc, L, hfe, hL⟩ | ⟨q, rfl, E, ce, L, hx, hce, hcv, hcl, hW₂, hsm, hL⟩
  · obtain ⟨⟨v, rfl⟩, hW₂, e2, q2, q3, q4, q5, q6⟩ := id hfe
    have e3 : s₂ = ({ (U.calling g mk a).setFrames s₂.frames with heap := s₂.heap, slotsUsed := s₂.slotsUsed } : State).setVm s₂.vm := by
      have : s₂ = ({ s₂ with vm := (U.calling g mk a).vm } : State).setVm s₂.vm := rfl
      rw [e2] at this
      exact this
    obtain ⟨c₂, i₂, len₂, hc₂, hd₂, hf₂⟩ := hend
    have hW' : U.WarmedH s₂.vm := hW₂
    have hcc : c₂ = c := by
      have h1 : s₂.code? g.method = U.code? g.method := by
        rw [State.code?_eq, State.code?_eq, hW'.alike.method?]
      exact Option.some.inj (hc₂.symm.trans (h1.trans h.code))
    subst hcc
    have hlen : len₂ = len := by rw [hdg] at hd₂; cases hd₂; rfl
    subst hlen
    have hs₂ : s₂ = (({ U with heap := s₂.heap, slotsUsed := s₂.slotsUsed } : State).setVm s₂.vm).setTop { g with pc := g.pc + len₂, stack := v.toList ++ g.stack } := by
      refine e3.trans ?_
      rw [hf₂, State.calling_eq h.top, State.setFrames_setFrames, State.setTop_of_frames _ hr', hr]
      rfl
    have hsame : U.sameButNew ({ U with heap := s₂.heap, slotsUsed := s₂.slotsUsed } : State) L mc ms := by
      refine ⟨?_, q2, q3, q4, q5, q6⟩
      obtain ⟨t, ht, -⟩ := State.frames_cons hr
      show ({ U with heap := s₂.heap, slotsUsed := s₂.slotsUsed } : State) = { U.setFrames U.frames with heap := s₂.heap, slotsUsed := s₂.slotsUsed }
      rw [State.setFrames_self ht]
    subst hg
    refine Or.inl ⟨v, ⟨(({ U with heap := s₂.heap, slotsUsed := s₂.slotsUsed } : State).setVm s₂.vm), Ls ++ L, c0 + mc, s0 + ms⟩,
      ⟨X.admits, X.cas, X.clock, X.frames, X.room, X.hears, X.method, X.code, (X.here.setHeapUsed s₂.heap s₂.slotsUsed).setVm hW'.alike, X.tail, State.WarmedH.trans X.warmed hW', X.limits, X.bytes, X.same.trans (hsame.setVm s.vm)⟩,
      ⟨g, mk, s₂, L, rfl, rfl, hqc, rfl, hL, rfl, rfl⟩, ?_⟩
    show Steps p.tables e below _ ((({ U with heap := s₂.heap, slotsUsed := s₂.slotsUsed } : State).setVm s₂.vm).setTop { g with pc := g.pc + len₂, stack := v.toList ++ g.stack })
    rw [← hs₂]
    exact hsteps
  · obtain ⟨e2, q2, q3, q4, q5, q6⟩ := id hsm
    have e3 : s₂ = ({ (U.calling g mk a).setFrames s₂.frames with heap := s₂.heap, slotsUsed := s₂.slotsUsed } : State).setVm s₂.vm := by
      have : s₂ = ({ s₂ with vm := (U.calling g mk a).vm } : State).setVm s₂.vm := rfl
      rw [e2] at this
      exact this
    have hf₂ : s₂.frames = .throwing q :: .java g :: U.frames.tail := hend
    have hW' : U.WarmedH s₂.vm := hW₂
    have hs₂ : s₂ = ((({ U with heap := s₂.heap, slotsUsed := s₂.slotsUsed } : State).setVm s₂.vm).setTop g).pushFrame (.throwing q) := by
      refine e3.trans ?_
      rw [hf₂, State.calling_eq h.top, State.setFrames_setFrames, State.pushFrame, State.frames_setTop _ hr', State.setTop_of_frames _ hr', State.setFrames_setFrames, hr]
      rfl
    have hsame : U.sameButNew ({ U with heap := s₂.heap, slotsUsed := s₂.slotsUsed } : State) L mc ms := by
      refine ⟨?_, q2, q3, q4, q5, q6⟩
      obtain ⟨t, ht, -⟩ := State.frames_cons hr
      show ({ U with heap := s₂.heap, slotsUsed := s₂.slotsUsed } : State) = { U.setFrames U.frames with heap := s₂.heap, slotsUsed := s₂.slotsUsed }
      rw [State.setFrames_self ht]
    subst hg
    refine Or.inr ⟨q, ⟨(({ U with heap := s₂.heap, slotsUsed := s₂.slotsUsed } : State).setVm s₂.vm), Ls ++ L, c0 + mc, s0 + ms⟩,
      ⟨X.admits, X.cas, X.clock, X.frames, X.room, X.hears, X.method, X.code, (X.here.setHeapUsed s₂.heap s₂.slotsUsed).setVm hW'.alike, X.tail, State.WarmedH.trans X.warmed hW', X.limits, X.bytes, X.same.trans (hsame.setVm s.vm)⟩,
      ⟨g, mk, s₂, L, E, ce, rfl, rfl, hx, hce, hcv, hcl, rfl, hL, rfl, rfl⟩, ?_⟩
    show Steps p.tables e below _ (((({ U with heap := s₂.heap, slotsUsed := s₂.slotsUsed } : State).setVm s₂.vm).setTop g).pushFrame (.throwing q))
    rw [← hs₂]
    exact hsteps
end
variable {p : Program} {l : Launch} {e : Env} {R : Room} {s : State} {m : MethodId} {args : Array Value} {below : List Frame} {meth : Method} {c : Code} {T : State} {H : Heap} {locs : List Loc} {cells slots : Nat}
theorem vx_callVX (X : Stand p l e R s m args below meth c T locs cells slots) (hexec : p.tables.exec = Jvm.exec) {own C : String} {index : Nat} {y : MethodName} {bytes : ByteArray} {maxL : Nat} {ret : Option FieldType} {hh : List (Nat × Nat × Nat × Nat)}
    (hown : s.vm.findClass own = some m.cls) (hlink : (Cond.methodLink own index y).before args s = true) (hinst : (Cond.instanceMethod y).before args s = true) (hsel : (Cond.selects C y y).before args s = true)
    (hcode : (Cond.codeWith y bytes maxL ret hh).before args s = true) (hy : y.cls ≠ "java/lang/invoke/MethodHandle" ∧ y.cls ≠ "java/lang/invoke/VarHandle")
    {W9 : Nat} {Pre : Pt → Array Value → Prop} {Post : Pt → Array Value → Option Value → Pt → Prop} {PostX : Pt → Array Value → Addr → Pt → Prop} (hK : vx_Back l R p e below s args y 3 W9 Pre Post PostX)
    {b : Addr} {cellB : Cell} (hcell : T.heap[b]? = some cellB) (hobj : cellB.vm.isStatics = false) (hcls : s.vm.findClass C = some cellB.cls)
    {g : JFrame} (hg : g.method = m) (hsize : g.locals.size = c.maxLocals) {argsL rest : List Value} (hlen : ∀ sig, parseMethodDescriptor y.desc = some sig → argsL.length = sig.parameters.length)
    (hstack : g.stack = argsL.reverse ++ .ref b :: rest) (hW : 2 * g.monitorRoom + (rest.map fun v => v.category).sum ≤ W9) (hdg : decode c.code g.pc = .ok (.invokevirtual index, 3))
    (hpre : ∀ vm₁, s.WarmedH vm₁ → Pre ⟨T.setVm vm₁, locs, cells, slots⟩ (Value.ref b :: argsL).toArray) :
    (∃ (v : Option Value) (vm₁ : Vm) (B : Pt), s.WarmedH vm₁ ∧ Stand p l e R s m args below meth c B.U B.locs B.cells B.slots ∧ Post ⟨T.setVm vm₁, locs, cells, slots⟩ (Value.ref b :: argsL).toArray v B ∧
      ∀ target, Steps p.tables e below (B.U.setTop { g with pc := g.pc + 3, stack := v.toList ++ rest }) target → Steps p.tables e below (T.setTop g) target) ∨
    (∃ (q : Addr) (vm₁ : Vm) (B : Pt), s.WarmedH vm₁ ∧ Stand p l e R s m args below meth c B.U B.locs B.cells B.slots ∧ PostX ⟨T.setVm vm₁, locs, cells, slots⟩ (Value.ref b :: argsL).toArray q B ∧
      Steps p.tables e below (T.setTop g) ((B.U.setTop { g with stack := rest }).pushFrame (.throwing q))) := by
  obtain ⟨mk, methM, hnamed, hmethM, hstM, habM⟩ := Cond.instanceMethod_spec hinst
  obtain ⟨m8, methM', cM, hn8, hmethM', -, -, -, -, -, -, hsigM⟩ := Cond.codeWith_spec hcode
  cases Option.some.inj (hn8.symm.trans hnamed)
  cases hmethM.symm.trans hmethM'
  obtain ⟨c2, r2, m2, q1, q2, q3, q4, kP, hkP, hkPi⟩ := Cond.selects_spec hsel
  cases hcls.symm.trans q1
  cases (State.methodFound?_of_named hnamed hy).symm.trans q2
  cases hnamed.symm.trans q3
  have hselP : selectMethod e.platform s.vm cellB.cls mk = .method mk := by rw [Launch.admits_selectMethod X.admits]; exact q4
  obtain ⟨vm₁, X₁, hstep₁⟩ := X.invokevirtual hexec hown hlink hnamed hmethM hstM hkP hkPi hy (a := b) (cell := cellB) hcell
    (fun z h => by rw [h] at hobj; cases hobj) hselP hmethM habM hkP hkPi (g := g) hg (argsL := argsL) (rest := rest) (hlen _ hsigM) hstack hdg
  rcases hK m meth c ⟨T.setVm vm₁, locs, cells, slots⟩ { g with stack := rest } (.invokevirtual index) mk (Value.ref b :: argsL).toArray X₁ hg hsize hdg hW (X₁.named hnamed) (hpre vm₁ X₁.warmed) with ⟨v, B, X', hpost, hsteps⟩ | ⟨q, B, X', hpost, hsteps⟩
  · exact Or.inl ⟨v, vm₁, B, X₁.warmed, X', hpost, fun target h => hstep₁ _ fun acts => by rw [doInvoke_state]; exact hsteps.trans h⟩
  · exact Or.inr ⟨q, vm₁, B, X₁.warmed, X', hpost, hstep₁ _ fun acts => by rw [doInvoke_state]; exact hsteps⟩
theorem vx_callSX (X : Stand p l e R s m args below meth c T locs cells slots) (hexec : p.tables.exec = Jvm.exec) {own : String} {index : Nat} {y : MethodName} {bytes : ByteArray} {maxL : Nat} {ret : Option FieldType} {hh : List (Nat × Nat × Nat × Nat)}
    (hown : s.vm.findClass own = some m.cls) (hlink : (Cond.methodLink own index y).before args s = true) (hstat : (Cond.static y).before args s = true) (hinit : (Cond.initialized y.cls).before args s = true)
    (hcode : (Cond.codeWith y bytes maxL ret hh).before args s = true) (hy : y.cls ≠ "java/lang/invoke/MethodHandle" ∧ y.cls ≠ "java/lang/invoke/VarHandle")
    {W9 : Nat} {Pre : Pt → Array Value → Prop} {Post : Pt → Array Value → Option Value → Pt → Prop} {PostX : Pt → Array Value → Addr → Pt → Prop} (hK : vx_Back l R p e below s args y 3 W9 Pre Post PostX)
    {g : JFrame} (hg : g.method = m) (hsize : g.locals.size = c.maxLocals) {argsL rest : List Value} (hlen : ∀ sig, parseMethodDescriptor y.desc = some sig → argsL.length = sig.parameters.length)
    (hstack : g.stack = argsL.reverse ++ rest) (hW : 2 * g.monitorRoom + (rest.map fun v => v.category).sum ≤ W9) (hdg : decode c.code g.pc = .ok (.invokestatic index, 3))
    (hpre : ∀ vm₁, s.WarmedH vm₁ → Pre ⟨T.setVm vm₁, locs, cells, slots⟩ argsL.toArray) :
    (∃ (v : Option Value) (vm₁ : Vm) (B : Pt), s.WarmedH vm₁ ∧ Stand p l e R s m args below meth c B.U B.locs B.cells B.slots ∧ Post ⟨T.setVm vm₁, locs, cells, slots⟩ argsL.toArray v B ∧
      ∀ target, Steps p.tables e below (B.U.setTop { g with pc := g.pc + 3, stack := v.toList ++ rest }) target → Steps p.tables e below (T.setTop g) target) ∨
    (∃ (q : Addr) (vm₁ : Vm) (B : Pt), s.WarmedH vm₁ ∧ Stand p l e R s m args below meth c B.U B.locs B.cells B.slots ∧ PostX ⟨T.setVm vm₁, locs, cells, slots⟩ argsL.toArray q B ∧
      Steps p.tables e below (T.setTop g) ((B.U.setTop { g with stack := rest }).pushFrame (.throwing q))) := by
  obtain ⟨mk, methM, cM, hnamed, hmethM, -, -, -, -, -, -, hsigM⟩ := Cond.codeWith_spec hcode
  have hstatic : methM.isStatic = true := Cond.static_spec hnamed hmethM hstat
  obtain ⟨kP, hkP, -⟩ := className_of_methodNamed hnamed
  have hinitP : kP.init = .initialized := Cond.initialized_spec (findClass_of_methodNamed hnamed) hkP hinit
  obtain ⟨vm₁, X₁, hstep₁⟩ := X.invokestatic hexec hown hlink hnamed hmethM hstatic hkP hinitP hy (g := g) hg (argsL := argsL) (rest := rest) (hlen _ hsigM) hstack hdg
  rcases hK m meth c ⟨T.setVm vm₁, locs, cells, slots⟩ { g with stack := rest } (.invokestatic index) mk argsL.toArray X₁ hg hsize hdg hW (X₁.named hnamed) (hpre vm₁ X₁.warmed) with ⟨v, B, X', hpost, hsteps⟩ | ⟨q, B, X', hpost, hsteps⟩
  · exact Or.inl ⟨v, vm₁, B, X₁.warmed, X', hpost, fun target h => hstep₁ _ fun acts => by rw [doInvoke_state]; exact hsteps.trans h⟩
  · exact Or.inr ⟨q, vm₁, B, X₁.warmed, X', hpost, hstep₁ _ fun acts => by rw [doInvoke_state]; exact hsteps⟩
theorem vx_callVW (X : Stand p l e R s m args below meth c T locs cells slots) (hexec : p.tables.exec = Jvm.exec) {own C : String} {index : Nat} {y : MethodName} {bytes : ByteArray} {maxL : Nat} {ret : Option FieldType} {hh : List (Nat × Nat × Nat × Nat)}
    (hown : s.vm.findClass own = some m.cls) (hlink : (Cond.methodLink own index y).before args s = true) (hinst : (Cond.instanceMethod y).before args s = true) (hsel : (Cond.selects C y y).before args s = true)
    (hcode : (Cond.codeWith y bytes maxL ret hh).before args s = true) (hy : y.cls ≠ "java/lang/invoke/MethodHandle" ∧ y.cls ≠ "java/lang/invoke/VarHandle")
    {W9 : Nat} {Pre : Pt → Array Value → Prop} {Post : Pt → Array Value → Option Value → Pt → Prop} (hK : Back l R p e below s args y 3 W9 Pre Post)
    {b : Addr} {cellB : Cell} (hcell : T.heap[b]? = some cellB) (hobj : cellB.vm.isStatics = false) (hcls : s.vm.findClass C = some cellB.cls)
    {g : JFrame} (hg : g.method = m) (hsize : g.locals.size = c.maxLocals) {argsL rest : List Value} (hlen : ∀ sig, parseMethodDescriptor y.desc = some sig → argsL.length = sig.parameters.length)
    (hstack : g.stack = argsL.reverse ++ .ref b :: rest) (hW : 2 * g.monitorRoom + (rest.map fun v => v.category).sum ≤ W9) (hdg : decode c.code g.pc = .ok (.invokevirtual index, 3))
    (hpre : ∀ vm₁, s.WarmedH vm₁ → Pre ⟨T.setVm vm₁, locs, cells, slots⟩ (Value.ref b :: argsL).toArray) :
    ∃ (v : Option Value) (vm₁ : Vm) (B : Pt), s.WarmedH vm₁ ∧ Stand p l e R s m args below meth c B.U B.locs B.cells B.slots ∧ Post ⟨T.setVm vm₁, locs, cells, slots⟩ (Value.ref b :: argsL).toArray v B ∧
      ∀ target, Steps p.tables e below (B.U.setTop { g with pc := g.pc + 3, stack := v.toList ++ rest }) target → Steps p.tables e below (T.setTop g) target := by
  obtain ⟨mk, methM, hnamed, hmethM, hstM, habM⟩ := Cond.instanceMethod_spec hinst
  obtain ⟨m8, methM', cM, hn8, hmethM', -, -, -, -, -, -, hsigM⟩ := Cond.codeWith_spec hcode
  cases Option.some.inj (hn8.symm.trans hnamed)
  cases hmethM.symm.trans hmethM'
  obtain ⟨c2, r2, m2, q1, q2, q3, q4, kP, hkP, hkPi⟩ := Cond.selects_spec hsel
  cases hcls.symm.trans q1
  cases (State.methodFound?_of_named hnamed hy).symm.trans q2
  cases hnamed.symm.trans q3
  have hselP : selectMethod e.platform s.vm cellB.cls mk = .method mk := by rw [Launch.admits_selectMethod X.admits]; exact q4
  obtain ⟨vm₁, X₁, hstep₁⟩ := X.invokevirtual hexec hown hlink hnamed hmethM hstM hkP hkPi hy (a := b) (cell := cellB) hcell
    (fun z h => by rw [h] at hobj; cases hobj) hselP hmethM habM hkP hkPi (g := g) hg (argsL := argsL) (rest := rest) (hlen _ hsigM) hstack hdg
  obtain ⟨v, B, X', hpost, hsteps⟩ := hK m meth c ⟨T.setVm vm₁, locs, cells, slots⟩ { g with stack := rest } (.invokevirtual index) mk (Value.ref b :: argsL).toArray X₁ hg hsize hdg hW (X₁.named hnamed) (hpre vm₁ X₁.warmed)
  exact ⟨v, vm₁, B, X₁.warmed, X', hpost, fun target h => hstep₁ _ fun acts => by rw [doInvoke_state]; exact hsteps.trans h⟩
abbrev vx_CVW (R : Room) (s : State) (args : Array Value) (own C : String) (index : Nat) (y : MethodName) (bytes : ByteArray) (maxL : Nat) (ret : Option FieldType) (hh : List (Nat × Nat × Nat × Nat)) (ws : List Cond) (rm : Room) (mc ms n : Nat) : Prop :=
  (rm.cells = mc ∧ rm.slots = ms ∧ rm.frames + 1 ≤ R.frames ∧ 8 + (maxL + 11) + rm.locals ≤ R.locals ∧ (∀ w ∈ ws, ∀ (a' : Array Value) (U : State), s.WarmedH U.vm → w.before a' U = true) ∧ Cond.codeWith y bytes maxL ret hh ∈ ws) ∧
  (Cond.codeWith y bytes maxL ret hh).before args s = true ∧ (Cond.initialized y.cls).before args s = true ∧ (y.cls ≠ "java/lang/invoke/MethodHandle" ∧ y.cls ≠ "java/lang/invoke/VarHandle") ∧
  (∀ sig, parseMethodDescriptor y.desc = some sig → n = sig.parameters.length) ∧ (Cond.methodLink own index y).before args s = true ∧ (Cond.instanceMethod y).before args s = true ∧ (Cond.selects C y y).before args s = true
theorem vx_cwVW {own C : String} {index maxL mc ms : Nat} {y : MethodName} {bytes : ByteArray} {ret : Option FieldType} {hh : List (Nat × Nat × Nat × Nat)} {Ts ws ws' : List Cond} {rm : Room} (n : Nat) (ht : ∀ w ∈ Ts, w.before args s = true) (hT : GoodIn Ts (wsV own index C y ws)) (hw : ws = Cond.codeWith y bytes maxL ret hh :: ws') (hrc : rm.cells = mc) (hrs : rm.slots = ms)
    (hd : y.cls = C ∧ y.cls ≠ "java/lang/invoke/MethodHandle" ∧ y.cls ≠ "java/lang/invoke/VarHandle" ∧ (parseMethodDescriptor y.desc).map (fun d => d.parameters.length) = some n) (hR : rm.frames + 1 ≤ R.frames ∧ 8 + (maxL + 11) + rm.locals ≤ R.locals) :
    vx_CVW R s args own C index y bytes maxL ret hh ws rm mc ms n := by
  obtain ⟨hC, hd⟩ := hd
  subst hC
  have ok : ∀ w ∈ wsV own index y.cls y ws, w.before args s = true := fun w h => ht w (hT w h).1
  have hG : GoodIn Ts ws := fun w h => hT w (by unfold wsV; exact List.mem_append_right _ h)
  have hc : Cond.codeWith y bytes maxL ret hh ∈ ws := by rw [hw]; exact List.mem_cons_self
  refine ⟨⟨hrc, hrs, hR.1, hR.2, pay_in ht hG, hc⟩, ht _ (hG _ hc).1, ok _ (by simp [wsV]), ⟨hd.1, hd.2.1⟩, fun sig h => ?_, ok _ (by simp [wsV]), ok _ (by simp [wsV]), ok _ (by simp [wsV])⟩
  have h2 := hd.2.2
  rw [h] at h2
  exact (Option.some.inj h2).symm
theorem vx_runVW {y : MethodName} {bytes cc : ByteArray} {maxL nL mc ms n index : Nat} {ret : Option FieldType} {hh : List (Nat × Nat × Nat × Nat)} {ws : List Cond} {rm : Room} {Pc : Array Value → State → Prop} {Qc : Array Value → State → Outcome → State → Prop} {free : Addr → Prop} {Ts : List Cond} {own C : String} {b : Addr} {As rest : List Value} {g : JFrame}
    (S : CallFix p m c cc nL s args Ts own) (hM : Met l y ws rm Pc Qc mc ms free) (cw : vx_CVW R s args own C index y bytes maxL ret hh ws rm mc ms n) (hp : PreV s H C b Pc As)
    (hg : g.method = m) (hn : As.length = n) (hsize : g.locals.size = nL) (hstack : g.stack = As.reverse ++ .ref b :: rest) (hW : 2 * g.monitorRoom + (rest.map fun v => v.category).sum ≤ 8) (hdg : decode cc g.pc = .ok (.invokevirtual index, 3)) (hf : cells + mc ≤ R.cells ∧ slots + ms ≤ R.slots) :
    va_Run p l e R s m args below meth c H locs cells slots mc ms g rest (Qc (Value.ref b :: As).toArray) free := by
  obtain ⟨⟨hrc, hrs, hfr, hlo, hws, hcw⟩, hcode, hini, hy, hlen, hl, hin, hse⟩ := cw
  have hK : Back l R p e below s args y 3 8 (PreOf R mc ms Pc) (PostOf Qc mc ms free) := va_backW (hh := hh) (bytes := bytes) (maxL := maxL) (ret := ret) hM hp.1 hrc hrs hfr hlo hws hcw (fun a' U hW => word_at hW (Or.inl (by first | rfl | simp [Cond.onTables, Cond.keeps, Cond.steady])) hini)
  obtain ⟨hx, hb, hml, ho, -⟩ := S
  obtain ⟨-, ⟨cellB, hcB, hoB, hclB⟩, hPc⟩ := hp
  intro T hT X
  obtain ⟨v, vm₁, ⟨U', l2, c2, s2⟩, hW₁, X', ⟨g', mk, t, L, e1, e2, hq, h1, hL, h2, h3⟩, st⟩ := vx_callVW X hx (C := C) (hh := hh) (bytes := bytes) (maxL := maxL) (ret := ret) ho hl hin hse hcode hy hK (by rw [hT]; exact hcB) hoB hclB hg (hsize.trans hml.symm) (argsL := As) (rest := rest) (fun sig h => hn.trans (hlen sig h)) hstack hW (by rw [hb]; exact hdg)
    (fun vm₁ hW₁ => ⟨hf.1, hf.2, hPc (T.setVm vm₁) hT hW₁⟩)
  dsimp only [Pt.U, Pt.locs, Pt.cells, Pt.slots] at X' e1 e2 h1 h2 h3 st
  subst h1; subst h2; subst h3
  exact ⟨v, (T.setVm vm₁).calling g' mk (Value.ref b :: As).toArray, t, U', L, hT, X', hL, e1, e2, hq, st⟩
section
variable {y : MethodName} {bytes cc : ByteArray} {maxL nL mc ms n index : Nat} {ret : Option FieldType} {ws : List Cond} {rm : Room} {Pc : Array Value → State → Prop} {Qc : Array Value → State → Outcome → State → Prop} {XC : String → State → State → Prop} {free : Addr → Prop} {Ts : List Cond} {own C : String} {b : Addr} {As rest : List Value} {g : JFrame}
theorem vx_runVX {hh : List (Nat × Nat × Nat × Nat)} (S : CallFix p m c cc nL s args Ts own) (hM : vx_Met l y ws rm Pc Qc XC mc ms free) (cw : vx_CVW R s args own C index y bytes maxL ret hh ws rm mc ms n) (hp : PreV s H C b Pc As)
    (hg : g.method = m) (hn : As.length = n) (hsize : g.locals.size = nL) (hstack : g.stack = As.reverse ++ .ref b :: rest) (hW : 2 * g.monitorRoom + (rest.map fun v => v.category).sum ≤ 8) (hdg : decode cc g.pc = .ok (.invokevirtual index, 3)) (hf : cells + mc ≤ R.cells ∧ slots + ms ≤ R.slots) :
    vx_Run p l e R s m args below meth c H locs cells slots mc ms g rest (Qc (Value.ref b :: As).toArray) XC free := by
  obtain ⟨⟨hrc, hrs, hfr, hlo, hws, hcw⟩, hcode, hini, hy, hlen, hl, hin, hse⟩ := cw
  have hK : vx_Back l R p e below s args y 3 8 (PreOf R mc ms Pc) (PostOf Qc mc ms free) (vx_Post XC mc ms free) := vx_backW (hh := hh) (bytes := bytes) (maxL := maxL) (ret := ret) hM hp.1 hrc hrs hfr hlo hws hcw (fun a' U hW => word_at hW (Or.inl (by first | rfl | simp [Cond.onTables, Cond.keeps, Cond.steady])) hini)
  obtain ⟨hx, hb, hml, ho, -⟩ := S
  obtain ⟨-, ⟨cellB, hcB, hoB, hclB⟩, hPc⟩ := hp
  intro T hT X
  rcases vx_callVX X hx (C := C) (hh := hh) (bytes := bytes) (maxL := maxL) (ret := ret) ho hl hin hse hcode hy hK (by rw [hT]; exact hcB) hoB hclB hg (hsize.trans hml.symm) (argsL := As) (rest := rest) (fun sig h => hn.trans (hlen sig h)) hstack hW (by rw [hb]; exact hdg)
    (fun vm₁ hW₁ => ⟨hf.1, hf.2, hPc (T.setVm vm₁) hT hW₁⟩) with ⟨v, vm₁, ⟨U', l2, c2, s2⟩, hW₁, X', ⟨g', mk, t, L, e1, e2, hq, h1, hL, h2, h3⟩, st⟩ | ⟨q, vm₁, ⟨U', l2, c2, s2⟩, hW₁, X', ⟨g', mk, t, L, E, ce, e1, e2, hq, hce, hcv, hcl, h1, hL, h2, h3⟩, st⟩
  · dsimp only [Pt.U, Pt.locs, Pt.cells, Pt.slots] at X' e1 e2 h1 h2 h3 st
    subst h1; subst h2; subst h3
    exact Or.inl ⟨v, (T.setVm vm₁).calling g' mk (Value.ref b :: As).toArray, t, U', L, hT, X', hL, e1, e2, hq, st⟩
  · dsimp only [Pt.U, Pt.locs, Pt.cells, Pt.slots] at X' e1 e2 h1 h2 h3 st hcl
    subst h1; subst h2; subst h3
    exact Or.inr ⟨q, (T.setVm vm₁).calling g' mk (Value.ref b :: As).toArray, t, U', L, E, ce, hT, X', hL, e1, e2, hq, hce, hcv, vx_cls hW₁ hcl, st⟩
theorem vx_runSX {hh : List (Nat × Nat × Nat × Nat)} (S : CallFix p m c cc nL s args Ts own) (hM : vx_Met l y ws rm Pc Qc XC mc ms free) (cw : vx_CSW R s args own index y bytes maxL ret hh ws rm mc ms n) (hp : PreS s H Pc As)
    (hg : g.method = m) (hn : As.length = n) (hsize : g.locals.size = nL) (hstack : g.stack = As.reverse ++ rest) (hW : 2 * g.monitorRoom + (rest.map fun v => v.category).sum ≤ 8) (hdg : decode cc g.pc = .ok (.invokestatic index, 3)) (hf : cells + mc ≤ R.cells ∧ slots + ms ≤ R.slots) :
    vx_Run p l e R s m args below meth c H locs cells slots mc ms g rest (Qc As.toArray) XC free := by
  obtain ⟨⟨hrc, hrs, hfr, hlo, hws, hcw⟩, hcode, hini, hy, hlen, hl, hstt⟩ := cw
  have hK : vx_Back l R p e below s args y 3 8 (PreOf R mc ms Pc) (PostOf Qc mc ms free) (vx_Post XC mc ms free) := vx_backW (hh := hh) (bytes := bytes) (maxL := maxL) (ret := ret) hM hp.1 hrc hrs hfr hlo hws hcw (fun a' U hW => word_at hW (Or.inl (by first | rfl | simp [Cond.onTables, Cond.keeps, Cond.steady])) hini)
  obtain ⟨hx, hb, hml, ho, -⟩ := S
  intro T hT X
  rcases vx_callSX X hx (hh := hh) (bytes := bytes) (maxL := maxL) (ret := ret) ho hl hstt hini hcode hy hK hg (hsize.trans hml.symm) (argsL := As) (rest := rest) (fun sig h => hn.trans (hlen sig h)) hstack hW (by rw [hb]; exact hdg)
    (fun vm₁ hW₁ => ⟨hf.1, hf.2, hp.2 (T.setVm vm₁) hT hW₁⟩) with ⟨v, vm₁, ⟨U', l2, c2, s2⟩, hW₁, X', ⟨g', mk, t, L, e1, e2, hq, h1, hL, h2, h3⟩, st⟩ | ⟨q, vm₁, ⟨U', l2, c2, s2⟩, hW₁, X', ⟨g', mk, t, L, E, ce, e1, e2, hq, hce, hcv, hcl, h1, hL, h2, h3⟩, st⟩
  · dsimp only [Pt.U, Pt.locs, Pt.cells, Pt.slots] at X' e1 e2 h1 h2 h3 st
    subst h1; subst h2; subst h3
    exact Or.inl ⟨v, (T.setVm vm₁).calling g' mk As.toArray, t, U', L, hT, X', hL, e1, e2, hq, st⟩
  · dsimp only [Pt.U, Pt.locs, Pt.cells, Pt.slots] at X' e1 e2 h1 h2 h3 st hcl
    subst h1; subst h2; subst h3
    exact Or.inr ⟨q, (T.setVm vm₁).calling g' mk As.toArray, t, U', L, E, ce, hT, X', hL, e1, e2, hq, hce, hcv, vx_cls hW₁ hcl, st⟩
end
end VXH
theorem vx_ofWH {l : Launch} {y : MethodName} {ws ws' : List Cond} {rm : Room} {Pc : Array Value → State → Prop} {Qc : Array Value → State → Outcome → State → Prop} {XC : String → State → State → Prop} {mc ms : Nat} {free : Addr → Prop} {cc : ByteArray} {maxL : Nat} {ret : Option FieldType} {hh : List (Nat × Nat × Nat × Nat)}
    (hy : plainName y.cls = true) (hw : ws = Cond.codeWith y cc maxL ret hh :: ws')
    (body : ∀ p e s m args below meth c s₁, BodyLoose p l y (headSpec ws rm) cc maxL ret e s m args below meth c s₁ → c.maxLocals = maxL → Pc args s →
      W p l e (headSpec ws rm).room s m args below meth c s.heap [] 0 0 (vx_MQ below Qc XC args s mc ms free) (entryFrame m args maxL)) : vx_Met l y ws rm Pc Qc XC mc ms free := by
  refine MetFree.of_bodyS (code := cc) (maxLocals := maxL) (ret := ret) hy ?_ ?_
  · intro args s m h hn
    obtain ⟨m9, meth, c, hn9, h1, h2, h3, h4, -, h5, h6, -⟩ := Cond.codeWith_spec (atoms_spec (ws := ws) h _ (by rw [hw]; exact List.mem_cons_self))
    cases hn.symm.trans hn9
    exact ⟨meth, c, h1, h2, h3, h4, h5, h6⟩
  · intro p e s m args below meth c s₁ B hml hP _
    have hh0 : s₁.heap = s.heap := by rw [B.state]; rfl
    obtain ⟨t, a1, o, b1, b2, b3⟩ := body p e s m args below meth c s₁ B hml hP s₁ hh0 (Stand.of_body B)
    exact ⟨t, o, a1, b1, b2, b3⟩
/-! ===== END ===== -/
end
section
def RX0 : String := "RingThreads$Line"
def TX0 : u_T := fun k => match k with
  | 0 => ("RingThreads$Line", "length", "I", true)
  | _ => ("RingThreads$Line", "squares", "[I", true)
def tyX0 : Nat → FieldType := fun k => match k with
  | 0 => .int
  | _ => .array .int
abbrev wsX00 : List Cond := u_ws RX0 TX0 2
theorem nmX0 : ∀ a, a < 2 → ∀ b, b < 2 → a ≠ b → (TX0 a).2.1 ≠ (TX0 b).2.1 := by decide +kernel
theorem tyX0_ok : ∀ k, k < 2 → parseFieldDescriptor (TX0 k).2.2.1 = some (tyX0 k) := by decide +kernel
abbrev cX0_init : ByteArray := prog_2_method_1_code
def yX0_init : MethodName := ⟨RX0, "<init>", "(I[I)V"⟩
abbrev cX0_xOf : ByteArray := prog_2_method_2_code
def yX0_xOf : MethodName := ⟨RX0, "xOf", "(I)I"⟩
abbrev cX0_yOf : ByteArray := prog_2_method_3_code
def yX0_yOf : MethodName := ⟨RX0, "yOf", "(I)I"⟩
abbrev cX0_pairOf : ByteArray := prog_2_method_4_code
def yX0_pairOf : MethodName := ⟨RX0, "pairOf", "(II)I"⟩
abbrev cX0_trace : ByteArray := prog_2_method_5_code
def yX0_trace : MethodName := ⟨RX0, "trace", "(II)LRingThreads$Line;"⟩
abbrev cX0_rootOf : ByteArray := prog_2_method_6_code
def yX0_rootOf : MethodName := ⟨RX0, "rootOf", "(I)I"⟩
def RX1 : String := "RingThreads$Ring"
def TX1 : u_T := fun k => match k with
  | 0 => ("RingThreads$Ring", "lines", "[LRingThreads$Line;", true)
  | 1 => ("RingThreads$Ring", "nails", "I", false)
  | 2 => ("RingThreads$Ring", "step", "I", false)
  | 3 => ("RingThreads$Ring", "at", "I", false)
  | 4 => ("RingThreads$Ring", "now", "I", false)
  | 5 => ("RingThreads$Ring", "woundSoFar", "I", false)
  | 6 => ("RingThreads$Ring", "refusedSoFar", "I", false)
  | 7 => ("RingThreads$Ring", "knots", "I", false)
  | 8 => ("RingThreads$Ring", "lying", "I", false)
  | 9 => ("RingThreads$Ring", "shades", "[I", true)
  | 10 => ("RingThreads$Ring", "left", "[I", true)
  | 11 => ("RingThreads$Ring", "settings", "[I", true)
  | 12 => ("RingThreads$Ring", "from", "[I", true)
  | 13 => ("RingThreads$Ring", "to", "[I", true)
  | 14 => ("RingThreads$Ring", "spools", "[I", true)
  | 15 => ("RingThreads$Ring", "greys", "[I", true)
  | 16 => ("RingThreads$Ring", "dark", "[I", true)
  | 17 => ("RingThreads$Ring", "crossings", "[I", true)
  | _ => ("RingThreads$Ring", "times", "[I", true)
def tyX1 : Nat → FieldType := fun k => match k with
  | 0 => .array (.object "RingThreads$Line")
  | 1 => .int
  | 2 => .int
  | 3 => .int
  | 4 => .int
  | 5 => .int
  | 6 => .int
  | 7 => .int
  | 8 => .int
  | 9 => .array .int
  | 10 => .array .int
  | 11 => .array .int
  | 12 => .array .int
  | 13 => .array .int
  | 14 => .array .int
  | 15 => .array .int
  | 16 => .array .int
  | 17 => .array .int
  | _ => .array .int
abbrev wsX10 : List Cond := u_ws RX1 TX1 19
theorem nmX1 : ∀ a, a < 19 → ∀ b, b < 19 → a ≠ b → (TX1 a).2.1 ≠ (TX1 b).2.1 := by decide +kernel
theorem tyX1_ok : ∀ k, k < 19 → parseFieldDescriptor (TX1 k).2.2.1 = some (tyX1 k) := by decide +kernel
abbrev cX1_init : ByteArray := prog_3_method_1_code
def yX1_init : MethodName := ⟨RX1, "<init>", "([LRingThreads$Line;)V"⟩
abbrev cX1_copyFrom : ByteArray := prog_3_method_2_code
def yX1_copyFrom : MethodName := ⟨RX1, "copyFrom", "(LRingThreads$Ring;)V"⟩
abbrev cX1_lineBetween : ByteArray := prog_3_method_3_code
def yX1_lineBetween : MethodName := ⟨RX1, "lineBetween", "(II)LRingThreads$Line;"⟩
abbrev cX1_timesLying : ByteArray := prog_3_method_4_code
def yX1_timesLying : MethodName := ⟨RX1, "timesLying", "(II)I"⟩
abbrev cX1_refusal : ByteArray := prog_3_method_5_code
def yX1_refusal : MethodName := ⟨RX1, "refusal", "(I)I"⟩
abbrev cX1_lackOf : ByteArray := prog_3_method_6_code
def yX1_lackOf : MethodName := ⟨RX1, "lackOf", "(I)I"⟩
abbrev cX1_misfit : ByteArray := prog_3_method_7_code
def yX1_misfit : MethodName := ⟨RX1, "misfit", "()I"⟩
abbrev cX1_squaresOfSign : ByteArray := prog_3_method_8_code
def yX1_squaresOfSign : MethodName := ⟨RX1, "squaresOfSign", "(I)I"⟩
abbrev cX1_gainTo : ByteArray := prog_3_method_9_code
def yX1_gainTo : MethodName := ⟨RX1, "gainTo", "(I)I"⟩
abbrev cX1_relief : ByteArray := prog_3_method_10_code
def yX1_relief : MethodName := ⟨RX1, "relief", "(II)I"⟩
abbrev cX1_misfitByGains : ByteArray := prog_3_method_11_code
def yX1_misfitByGains : MethodName := ⟨RX1, "misfitByGains", "([I)I"⟩
abbrev cX1_bestNail : ByteArray := prog_3_method_12_code
def yX1_bestNail : MethodName := ⟨RX1, "bestNail", "()I"⟩
abbrev cX1_lay : ByteArray := prog_3_method_14_code
def yX1_lay : MethodName := ⟨RX1, "lay", "(I)V"⟩
abbrev cX1_takeOff : ByteArray := prog_3_method_15_code
def yX1_takeOff : MethodName := ⟨RX1, "takeOff", "()V"⟩
abbrev cX1_takeAllOff : ByteArray := prog_3_method_16_code
def yX1_takeAllOff : MethodName := ⟨RX1, "takeAllOff", "()V"⟩
abbrev cX1_putThread : ByteArray := prog_3_method_17_code
def yX1_putThread : MethodName := ⟨RX1, "putThread", "(II)V"⟩
abbrev cX1_endsAt : ByteArray := prog_3_method_18_code
def yX1_endsAt : MethodName := ⟨RX1, "endsAt", "(I)I"⟩
abbrev cX1_chordsOf : ByteArray := prog_3_method_19_code
def yX1_chordsOf : MethodName := ⟨RX1, "chordsOf", "(I)I"⟩
abbrev cX1_threadLying : ByteArray := prog_3_method_20_code
def yX1_threadLying : MethodName := ⟨RX1, "threadLying", "(I)I"⟩
def RX2 : String := "RingThreads$Text"
def TX2 : u_T := fun k => match k with
  | 0 => ("RingThreads$Text", "codes", "[C", true)
  | _ => ("RingThreads$Text", "length", "I", false)
def tyX2 : Nat → FieldType := fun k => match k with
  | 0 => .array .char
  | _ => .int
abbrev wsX20 : List Cond := u_ws RX2 TX2 2
theorem nmX2 : ∀ a, a < 2 → ∀ b, b < 2 → a ≠ b → (TX2 a).2.1 ≠ (TX2 b).2.1 := by decide +kernel
theorem tyX2_ok : ∀ k, k < 2 → parseFieldDescriptor (TX2 k).2.2.1 = some (tyX2 k) := by decide +kernel
abbrev cX2_init : ByteArray := prog_4_method_1_code
def yX2_init : MethodName := ⟨RX2, "<init>", "()V"⟩
def RX3 : String := "RingThreads"
def TX3 : u_T := fun k => match k with
  | 0 => ("RingThreads", "ring", "LRingThreads$Ring;", true)
  | 1 => ("RingThreads", "trial", "LRingThreads$Ring;", true)
  | 2 => ("RingThreads", "scratch", "[I", true)
  | 3 => ("RingThreads", "text", "LRingThreads$Text;", true)
  | 4 => ("RingThreads", "slots", "[LRingThreads$Ring;", true)
  | 5 => ("RingThreads", "saved", "[LRingThreads$Ring;", true)
  | _ => ("RingThreads", "savedMany", "I", false)
def tyX3 : Nat → FieldType := fun k => match k with
  | 0 => .object "RingThreads$Ring"
  | 1 => .object "RingThreads$Ring"
  | 2 => .array .int
  | 3 => .object "RingThreads$Text"
  | 4 => .array (.object "RingThreads$Ring")
  | 5 => .array (.object "RingThreads$Ring")
  | _ => .int
abbrev wsX30 : List Cond := u_ws RX3 TX3 7
theorem nmX3 : ∀ a, a < 7 → ∀ b, b < 7 → a ≠ b → (TX3 a).2.1 ≠ (TX3 b).2.1 := by decide +kernel
theorem tyX3_ok : ∀ k, k < 7 → parseFieldDescriptor (TX3 k).2.2.1 = some (tyX3 k) := by decide +kernel
abbrev cX3_init : ByteArray := prog_1_method_1_code
def yX3_init : MethodName := ⟨RX3, "<init>", "()V"⟩
abbrev cX3_nails : ByteArray := prog_1_method_2_code
def yX3_nails : MethodName := ⟨RX3, "nails", "(I)I"⟩
abbrev cX3_spool : ByteArray := prog_1_method_3_code
def yX3_spool : MethodName := ⟨RX3, "spool", "(III)I"⟩
abbrev cX3_knot : ByteArray := prog_1_method_4_code
def yX3_knot : MethodName := ⟨RX3, "knot", "(I)I"⟩
abbrev cX3_set : ByteArray := prog_1_method_5_code
def yX3_set : MethodName := ⟨RX3, "set", "(II)I"⟩
abbrev cX3_wind : ByteArray := prog_1_method_6_code
def yX3_wind : MethodName := ⟨RX3, "wind", "(I)I"⟩
abbrev cX3_unwind : ByteArray := prog_1_method_7_code
def yX3_unwind : MethodName := ⟨RX3, "unwind", "()I"⟩
abbrev cX3_windBest : ByteArray := prog_1_method_8_code
def yX3_windBest : MethodName := ⟨RX3, "windBest", "(I)I"⟩
abbrev cX3_want : ByteArray := prog_1_method_9_code
def yX3_want : MethodName := ⟨RX3, "want", "(III)I"⟩
abbrev cX3_turnFace : ByteArray := prog_1_method_10_code
def yX3_turnFace : MethodName := ⟨RX3, "turnFace", "(I)I"⟩
abbrev cX3_keep : ByteArray := prog_1_method_15_code
def yX3_keep : MethodName := ⟨RX3, "keep", "(I)I"⟩
abbrev cX3_goBack : ByteArray := prog_1_method_16_code
def yX3_goBack : MethodName := ⟨RX3, "goBack", "(I)I"⟩
abbrev cX3_undo : ByteArray := prog_1_method_17_code
def yX3_undo : MethodName := ⟨RX3, "undo", "()I"⟩
abbrev cX3_nailOf : ByteArray := prog_1_method_18_code
def yX3_nailOf : MethodName := ⟨RX3, "nailOf", "(II)I"⟩
abbrev cX3_spoolOf : ByteArray := prog_1_method_19_code
def yX3_spoolOf : MethodName := ⟨RX3, "spoolOf", "(II)I"⟩
abbrev cX3_wound : ByteArray := prog_1_method_21_code
def yX3_wound : MethodName := ⟨RX3, "wound", "(II)I"⟩
abbrev cX3_square : ByteArray := prog_1_method_22_code
def yX3_square : MethodName := ⟨RX3, "square", "(III)I"⟩
abbrev cX3_count : ByteArray := prog_1_method_23_code
def yX3_count : MethodName := ⟨RX3, "count", "(I)I"⟩
abbrev cX3_setting : ByteArray := prog_1_method_24_code
def yX3_setting : MethodName := ⟨RX3, "setting", "(I)I"⟩
abbrev cX3_whyNot : ByteArray := prog_1_method_25_code
def yX3_whyNot : MethodName := ⟨RX3, "whyNot", "(I)I"⟩
abbrev cX3_gain : ByteArray := prog_1_method_26_code
def yX3_gain : MethodName := ⟨RX3, "gain", "(I)I"⟩
abbrev cX3_best : ByteArray := prog_1_method_27_code
def yX3_best : MethodName := ⟨RX3, "best", "()I"⟩
abbrev cX3_palest : ByteArray := prog_1_method_29_code
def yX3_palest : MethodName := ⟨RX3, "palest", "()I"⟩
abbrev cX3_stepOf : ByteArray := prog_1_method_39_code
def yX3_stepOf : MethodName := ⟨RX3, "stepOf", "(I)I"⟩
abbrev cX3_needNail : ByteArray := prog_1_method_40_code
def yX3_needNail : MethodName := ⟨RX3, "needNail", "(I)V"⟩
abbrev cX3_needSpool : ByteArray := prog_1_method_41_code
def yX3_needSpool : MethodName := ⟨RX3, "needSpool", "(I)V"⟩
abbrev cX3_needSetting : ByteArray := prog_1_method_42_code
def yX3_needSetting : MethodName := ⟨RX3, "needSetting", "(I)V"⟩
abbrev cX3_needSquare : ByteArray := prog_1_method_43_code
def yX3_needSquare : MethodName := ⟨RX3, "needSquare", "(II)V"⟩
abbrev cX3_needRange : ByteArray := prog_1_method_44_code
def yX3_needRange : MethodName := ⟨RX3, "needRange", "(III)V"⟩
abbrev cX3_save : ByteArray := prog_1_method_45_code
def yX3_save : MethodName := ⟨RX3, "save", "()V"⟩
abbrev cX3_copyTo : ByteArray := prog_1_method_46_code
def yX3_copyTo : MethodName := ⟨RX3, "copyTo", "([LRingThreads$Ring;I)V"⟩
def RX4 : String := "RingThreadsModel"
def TX4 : u_T := fun k => match k with
  | _ => ("", "", "", false)
def tyX4 : Nat → FieldType := fun k => match k with
  | _ => .int
abbrev wsX40 : List Cond := u_ws RX4 TX4 0
theorem nmX4 : ∀ a, a < 0 → ∀ b, b < 0 → a ≠ b → (TX4 a).2.1 ≠ (TX4 b).2.1 := by decide +kernel
theorem tyX4_ok : ∀ k, k < 0 → parseFieldDescriptor (TX4 k).2.2.1 = some (tyX4 k) := by decide +kernel
def RJx145de : String := "java/io/Serializable"
def TJx145de : u_T := fun k => match k with
  | _ => ("", "", "", false)
def tyJx145de : Nat → FieldType := fun k => match k with
  | _ => .int
theorem nmJx145de : ∀ a, a < 0 → ∀ b, b < 0 → a ≠ b → (TJx145de a).2.1 ≠ (TJx145de b).2.1 := by decide +kernel
theorem tyJx145de_ok : ∀ k, k < 0 → parseFieldDescriptor (TJx145de k).2.2.1 = some (tyJx145de k) := by decide +kernel
def RJx8e188 : String := "java/lang/Cloneable"
def TJx8e188 : u_T := fun k => match k with
  | _ => ("", "", "", false)
def tyJx8e188 : Nat → FieldType := fun k => match k with
  | _ => .int
theorem nmJx8e188 : ∀ a, a < 0 → ∀ b, b < 0 → a ≠ b → (TJx8e188 a).2.1 ≠ (TJx8e188 b).2.1 := by decide +kernel
theorem tyJx8e188_ok : ∀ k, k < 0 → parseFieldDescriptor (TJx8e188 k).2.2.1 = some (tyJx8e188 k) := by decide +kernel
def RJ9 : String := "java/lang/Math"
def TJ9 : u_T := fun k => match k with
  | _ => ("", "", "", false)
def tyJ9 : Nat → FieldType := fun k => match k with
  | _ => .int
theorem nmJ9 : ∀ a, a < 0 → ∀ b, b < 0 → a ≠ b → (TJ9 a).2.1 ≠ (TJ9 b).2.1 := by decide +kernel
theorem tyJ9_ok : ∀ k, k < 0 → parseFieldDescriptor (TJ9 k).2.2.1 = some (tyJ9 k) := by decide +kernel
abbrev cJ9_abs_0f7a4 : ByteArray := prog_12_method_59_code
def yJ9_abs_0f7a4 : MethodName := ⟨RJ9, "abs", "(I)I"⟩
abbrev cJ9_max_7cf53 : ByteArray := prog_12_method_65_code
def yJ9_max_7cf53 : MethodName := ⟨RJ9, "max", "(II)I"⟩
abbrev cJ9_min_7cf53 : ByteArray := prog_12_method_69_code
def yJ9_min_7cf53 : MethodName := ⟨RJ9, "min", "(II)I"⟩
def RJ0 : String := "java/lang/String"
def TJ0 : u_T := fun k => match k with
  | _ => ("", "", "", false)
def tyJ0 : Nat → FieldType := fun k => match k with
  | _ => .int
theorem nmJ0 : ∀ a, a < 0 → ∀ b, b < 0 → a ≠ b → (TJ0 a).2.1 ≠ (TJ0 b).2.1 := by decide +kernel
theorem tyJ0_ok : ∀ k, k < 0 → parseFieldDescriptor (TJ0 k).2.2.1 = some (tyJ0 k) := by decide +kernel
def RJ10 : String := "java/lang/System"
def TJ10 : u_T := fun k => match k with
  | _ => ("", "", "", false)
def tyJ10 : Nat → FieldType := fun k => match k with
  | _ => .int
theorem nmJ10 : ∀ a, a < 0 → ∀ b, b < 0 → a ≠ b → (TJ10 a).2.1 ≠ (TJ10 b).2.1 := by decide +kernel
theorem tyJ10_ok : ∀ k, k < 0 → parseFieldDescriptor (TJ10 k).2.2.1 = some (tyJ10 k) := by decide +kernel
def RJ7 : String := "java/util/Arrays"
def TJ7 : u_T := fun k => match k with
  | _ => ("", "", "", false)
def tyJ7 : Nat → FieldType := fun k => match k with
  | _ => .int
theorem nmJ7 : ∀ a, a < 0 → ∀ b, b < 0 → a ≠ b → (TJ7 a).2.1 ≠ (TJ7 b).2.1 := by decide +kernel
theorem tyJ7_ok : ∀ k, k < 0 → parseFieldDescriptor (TJ7 k).2.2.1 = some (tyJ7 k) := by decide +kernel
abbrev cJ7_copyOf_59c91 : ByteArray := prog_17_method_123_code
def yJ7_copyOf_59c91 : MethodName := ⟨RJ7, "copyOf", "([II)[I"⟩
def RL : String := "RingThreadsLaw"
abbrev cL_cell : ByteArray := method_2_code
def yL_cell : MethodName := ⟨RL, "cell", "([II)I"⟩
abbrev cL_low : ByteArray := method_3_code
def yL_low : MethodName := ⟨RL, "low", "(II)I"⟩
abbrev cL_told : ByteArray := method_4_code
def yL_told : MethodName := ⟨RL, "told", "(LRingThreads;)J"⟩
abbrev cL_act : ByteArray := method_5_code
def yL_act : MethodName := ⟨RL, "act", "(LRingThreads;II)I"⟩
abbrev cL_holds : ByteArray := method_6_code
def yL_holds : MethodName := ⟨RL, "holds", "(LRingThreads;)Z"⟩
abbrev cL_law : ByteArray := code
def yL_law : MethodName := ⟨RL, "law", "([I)Z"⟩
abbrev vwCl : List vw_C := [(RX0, TX0, 2), (RX1, TX1, 19), (RX2, TX2, 2), (RX3, TX3, 7)]
end
section
theorem dX0_init_0 : decode cX0_init 0 = .ok (.aload_n 0, 1) := by decide +kernel
theorem dX0_init_1 : decode cX0_init 1 = .ok (.invokespecial 3, 3) := by decide +kernel
theorem dX0_init_4 : decode cX0_init 4 = .ok (.aload_n 0, 1) := by decide +kernel
theorem dX0_init_5 : decode cX0_init 5 = .ok (.iload_n 1, 1) := by decide +kernel
theorem dX0_init_6 : decode cX0_init 6 = .ok (.putfield 9, 3) := by decide +kernel
theorem dX0_init_9 : decode cX0_init 9 = .ok (.aload_n 0, 1) := by decide +kernel
theorem dX0_init_10 : decode cX0_init 10 = .ok (.aload_n 2, 1) := by decide +kernel
theorem dX0_init_11 : decode cX0_init 11 = .ok (.putfield 15, 3) := by decide +kernel
theorem dX0_init_14 : decode cX0_init 14 = .ok (.return_, 1) := by decide +kernel
theorem dX0_xOf_0 : decode cX0_xOf 0 = .ok (.iload_n 0, 1) := by decide +kernel
theorem dX0_xOf_1 : decode cX0_xOf 1 = .ok (.ifCond .lt 9, 3) := by decide +kernel
theorem dX0_xOf_4 : decode cX0_xOf 4 = .ok (.iload_n 0, 1) := by decide +kernel
theorem dX0_xOf_5 : decode cX0_xOf 5 = .ok (.bipush 24, 2) := by decide +kernel
theorem dX0_xOf_7 : decode cX0_xOf 7 = .ok (.if_icmp .lt 8, 3) := by decide +kernel
theorem dX0_xOf_10 : decode cX0_xOf 10 = .ok (.bipush 60, 2) := by decide +kernel
theorem dX0_xOf_12 : decode cX0_xOf 12 = .ok (.goto 11, 3) := by decide +kernel
theorem dX0_xOf_15 : decode cX0_xOf 15 = .ok (.bipush 60, 2) := by decide +kernel
theorem dX0_xOf_17 : decode cX0_xOf 17 = .ok (.getstatic 19, 3) := by decide +kernel
theorem dX0_xOf_20 : decode cX0_xOf 20 = .ok (.iload_n 0, 1) := by decide +kernel
theorem dX0_xOf_21 : decode cX0_xOf 21 = .ok (.iaload, 1) := by decide +kernel
theorem dX0_xOf_22 : decode cX0_xOf 22 = .ok (.iadd, 1) := by decide +kernel
theorem dX0_xOf_23 : decode cX0_xOf 23 = .ok (.ireturn, 1) := by decide +kernel
theorem dX0_yOf_0 : decode cX0_yOf 0 = .ok (.iload_n 0, 1) := by decide +kernel
theorem dX0_yOf_1 : decode cX0_yOf 1 = .ok (.ifCond .lt 9, 3) := by decide +kernel
theorem dX0_yOf_4 : decode cX0_yOf 4 = .ok (.iload_n 0, 1) := by decide +kernel
theorem dX0_yOf_5 : decode cX0_yOf 5 = .ok (.bipush 24, 2) := by decide +kernel
theorem dX0_yOf_7 : decode cX0_yOf 7 = .ok (.if_icmp .lt 8, 3) := by decide +kernel
theorem dX0_yOf_10 : decode cX0_yOf 10 = .ok (.bipush 60, 2) := by decide +kernel
theorem dX0_yOf_12 : decode cX0_yOf 12 = .ok (.goto 17, 3) := by decide +kernel
theorem dX0_yOf_15 : decode cX0_yOf 15 = .ok (.bipush 60, 2) := by decide +kernel
theorem dX0_yOf_17 : decode cX0_yOf 17 = .ok (.getstatic 19, 3) := by decide +kernel
theorem dX0_yOf_20 : decode cX0_yOf 20 = .ok (.iload_n 0, 1) := by decide +kernel
theorem dX0_yOf_21 : decode cX0_yOf 21 = .ok (.bipush 18, 2) := by decide +kernel
theorem dX0_yOf_23 : decode cX0_yOf 23 = .ok (.iadd, 1) := by decide +kernel
theorem dX0_yOf_24 : decode cX0_yOf 24 = .ok (.bipush 24, 2) := by decide +kernel
theorem dX0_yOf_26 : decode cX0_yOf 26 = .ok (.irem, 1) := by decide +kernel
theorem dX0_yOf_27 : decode cX0_yOf 27 = .ok (.iaload, 1) := by decide +kernel
theorem dX0_yOf_28 : decode cX0_yOf 28 = .ok (.iadd, 1) := by decide +kernel
theorem dX0_yOf_29 : decode cX0_yOf 29 = .ok (.ireturn, 1) := by decide +kernel
theorem dX0_pairOf_0 : decode cX0_pairOf 0 = .ok (.iload_n 0, 1) := by decide +kernel
theorem dX0_pairOf_1 : decode cX0_pairOf 1 = .ok (.iload_n 1, 1) := by decide +kernel
theorem dX0_pairOf_2 : decode cX0_pairOf 2 = .ok (.invokestatic 22, 3) := by decide +kernel
theorem dX0_pairOf_5 : decode cX0_pairOf 5 = .ok (.istore_n 2, 1) := by decide +kernel
theorem dX0_pairOf_6 : decode cX0_pairOf 6 = .ok (.iload_n 0, 1) := by decide +kernel
theorem dX0_pairOf_7 : decode cX0_pairOf 7 = .ok (.iload_n 1, 1) := by decide +kernel
theorem dX0_pairOf_8 : decode cX0_pairOf 8 = .ok (.invokestatic 28, 3) := by decide +kernel
theorem dX0_pairOf_11 : decode cX0_pairOf 11 = .ok (.istore_n 3, 1) := by decide +kernel
theorem dX0_pairOf_12 : decode cX0_pairOf 12 = .ok (.iload_n 2, 1) := by decide +kernel
theorem dX0_pairOf_13 : decode cX0_pairOf 13 = .ok (.ifCond .lt 14, 3) := by decide +kernel
theorem dX0_pairOf_16 : decode cX0_pairOf 16 = .ok (.iload_n 2, 1) := by decide +kernel
theorem dX0_pairOf_17 : decode cX0_pairOf 17 = .ok (.iload_n 3, 1) := by decide +kernel
theorem dX0_pairOf_18 : decode cX0_pairOf 18 = .ok (.if_icmp .eq 9, 3) := by decide +kernel
theorem dX0_pairOf_21 : decode cX0_pairOf 21 = .ok (.iload_n 3, 1) := by decide +kernel
theorem dX0_pairOf_22 : decode cX0_pairOf 22 = .ok (.bipush 24, 2) := by decide +kernel
theorem dX0_pairOf_24 : decode cX0_pairOf 24 = .ok (.if_icmp .lt 5, 3) := by decide +kernel
theorem dX0_pairOf_27 : decode cX0_pairOf 27 = .ok (.iconst (-1), 1) := by decide +kernel
theorem dX0_pairOf_28 : decode cX0_pairOf 28 = .ok (.ireturn, 1) := by decide +kernel
theorem dX0_pairOf_29 : decode cX0_pairOf 29 = .ok (.iload_n 3, 1) := by decide +kernel
theorem dX0_pairOf_30 : decode cX0_pairOf 30 = .ok (.iload_n 3, 1) := by decide +kernel
theorem dX0_pairOf_31 : decode cX0_pairOf 31 = .ok (.iconst 1, 1) := by decide +kernel
theorem dX0_pairOf_32 : decode cX0_pairOf 32 = .ok (.isub, 1) := by decide +kernel
theorem dX0_pairOf_33 : decode cX0_pairOf 33 = .ok (.imul, 1) := by decide +kernel
theorem dX0_pairOf_34 : decode cX0_pairOf 34 = .ok (.iconst 2, 1) := by decide +kernel
theorem dX0_pairOf_35 : decode cX0_pairOf 35 = .ok (.idiv, 1) := by decide +kernel
theorem dX0_pairOf_36 : decode cX0_pairOf 36 = .ok (.iload_n 2, 1) := by decide +kernel
theorem dX0_pairOf_37 : decode cX0_pairOf 37 = .ok (.iadd, 1) := by decide +kernel
theorem dX0_pairOf_38 : decode cX0_pairOf 38 = .ok (.ireturn, 1) := by decide +kernel
theorem dX0_trace_0 : decode cX0_trace 0 = .ok (.iload_n 0, 1) := by decide +kernel
theorem dX0_trace_1 : decode cX0_trace 1 = .ok (.invokestatic 31, 3) := by decide +kernel
theorem dX0_trace_4 : decode cX0_trace 4 = .ok (.istore_n 2, 1) := by decide +kernel
theorem dX0_trace_5 : decode cX0_trace 5 = .ok (.iload_n 0, 1) := by decide +kernel
theorem dX0_trace_6 : decode cX0_trace 6 = .ok (.invokestatic 35, 3) := by decide +kernel
theorem dX0_trace_9 : decode cX0_trace 9 = .ok (.istore_n 3, 1) := by decide +kernel
theorem dX0_trace_10 : decode cX0_trace 10 = .ok (.iload_n 1, 1) := by decide +kernel
theorem dX0_trace_11 : decode cX0_trace 11 = .ok (.invokestatic 31, 3) := by decide +kernel
theorem dX0_trace_14 : decode cX0_trace 14 = .ok (.iload_n 2, 1) := by decide +kernel
theorem dX0_trace_15 : decode cX0_trace 15 = .ok (.isub, 1) := by decide +kernel
theorem dX0_trace_16 : decode cX0_trace 16 = .ok (.istore 4, 2) := by decide +kernel
theorem dX0_trace_18 : decode cX0_trace 18 = .ok (.iload_n 1, 1) := by decide +kernel
theorem dX0_trace_19 : decode cX0_trace 19 = .ok (.invokestatic 35, 3) := by decide +kernel
theorem dX0_trace_22 : decode cX0_trace 22 = .ok (.iload_n 3, 1) := by decide +kernel
theorem dX0_trace_23 : decode cX0_trace 23 = .ok (.isub, 1) := by decide +kernel
theorem dX0_trace_24 : decode cX0_trace 24 = .ok (.istore 5, 2) := by decide +kernel
theorem dX0_trace_26 : decode cX0_trace 26 = .ok (.iload 4, 2) := by decide +kernel
theorem dX0_trace_28 : decode cX0_trace 28 = .ok (.invokestatic 38, 3) := by decide +kernel
theorem dX0_trace_31 : decode cX0_trace 31 = .ok (.iload 5, 2) := by decide +kernel
theorem dX0_trace_33 : decode cX0_trace 33 = .ok (.invokestatic 38, 3) := by decide +kernel
theorem dX0_trace_36 : decode cX0_trace 36 = .ok (.invokestatic 28, 3) := by decide +kernel
theorem dX0_trace_39 : decode cX0_trace 39 = .ok (.istore 6, 2) := by decide +kernel
theorem dX0_trace_41 : decode cX0_trace 41 = .ok (.bipush 23, 2) := by decide +kernel
theorem dX0_trace_43 : decode cX0_trace 43 = .ok (.newarray .int, 2) := by decide +kernel
theorem dX0_trace_45 : decode cX0_trace 45 = .ok (.astore 7, 2) := by decide +kernel
theorem dX0_trace_47 : decode cX0_trace 47 = .ok (.iconst 0, 1) := by decide +kernel
theorem dX0_trace_48 : decode cX0_trace 48 = .ok (.istore 8, 2) := by decide +kernel
theorem dX0_trace_50 : decode cX0_trace 50 = .ok (.iconst 0, 1) := by decide +kernel
theorem dX0_trace_51 : decode cX0_trace 51 = .ok (.istore 9, 2) := by decide +kernel
theorem dX0_trace_53 : decode cX0_trace 53 = .ok (.iload 9, 2) := by decide +kernel
theorem dX0_trace_55 : decode cX0_trace 55 = .ok (.iload 6, 2) := by decide +kernel
theorem dX0_trace_57 : decode cX0_trace 57 = .ok (.if_icmp .gt 98, 3) := by decide +kernel
theorem dX0_trace_60 : decode cX0_trace 60 = .ok (.iload 6, 2) := by decide +kernel
theorem dX0_trace_62 : decode cX0_trace 62 = .ok (.ifCond .le 93, 3) := by decide +kernel
theorem dX0_trace_65 : decode cX0_trace 65 = .ok (.iload_n 2, 1) := by decide +kernel
theorem dX0_trace_66 : decode cX0_trace 66 = .ok (.iload 4, 2) := by decide +kernel
theorem dX0_trace_68 : decode cX0_trace 68 = .ok (.iload 9, 2) := by decide +kernel
theorem dX0_trace_70 : decode cX0_trace 70 = .ok (.imul, 1) := by decide +kernel
theorem dX0_trace_71 : decode cX0_trace 71 = .ok (.iload 6, 2) := by decide +kernel
theorem dX0_trace_73 : decode cX0_trace 73 = .ok (.idiv, 1) := by decide +kernel
theorem dX0_trace_74 : decode cX0_trace 74 = .ok (.iadd, 1) := by decide +kernel
theorem dX0_trace_75 : decode cX0_trace 75 = .ok (.bipush 10, 2) := by decide +kernel
theorem dX0_trace_77 : decode cX0_trace 77 = .ok (.idiv, 1) := by decide +kernel
theorem dX0_trace_78 : decode cX0_trace 78 = .ok (.bipush 11, 2) := by decide +kernel
theorem dX0_trace_80 : decode cX0_trace 80 = .ok (.invokestatic 22, 3) := by decide +kernel
theorem dX0_trace_83 : decode cX0_trace 83 = .ok (.istore 10, 2) := by decide +kernel
theorem dX0_trace_85 : decode cX0_trace 85 = .ok (.iload_n 3, 1) := by decide +kernel
theorem dX0_trace_86 : decode cX0_trace 86 = .ok (.iload 5, 2) := by decide +kernel
theorem dX0_trace_88 : decode cX0_trace 88 = .ok (.iload 9, 2) := by decide +kernel
theorem dX0_trace_90 : decode cX0_trace 90 = .ok (.imul, 1) := by decide +kernel
theorem dX0_trace_91 : decode cX0_trace 91 = .ok (.iload 6, 2) := by decide +kernel
theorem dX0_trace_93 : decode cX0_trace 93 = .ok (.idiv, 1) := by decide +kernel
theorem dX0_trace_94 : decode cX0_trace 94 = .ok (.iadd, 1) := by decide +kernel
theorem dX0_trace_95 : decode cX0_trace 95 = .ok (.bipush 10, 2) := by decide +kernel
theorem dX0_trace_97 : decode cX0_trace 97 = .ok (.idiv, 1) := by decide +kernel
theorem dX0_trace_98 : decode cX0_trace 98 = .ok (.bipush 11, 2) := by decide +kernel
theorem dX0_trace_100 : decode cX0_trace 100 = .ok (.invokestatic 22, 3) := by decide +kernel
theorem dX0_trace_103 : decode cX0_trace 103 = .ok (.istore 11, 2) := by decide +kernel
theorem dX0_trace_105 : decode cX0_trace 105 = .ok (.iload 11, 2) := by decide +kernel
theorem dX0_trace_107 : decode cX0_trace 107 = .ok (.bipush 12, 2) := by decide +kernel
theorem dX0_trace_109 : decode cX0_trace 109 = .ok (.imul, 1) := by decide +kernel
theorem dX0_trace_110 : decode cX0_trace 110 = .ok (.iload 10, 2) := by decide +kernel
theorem dX0_trace_112 : decode cX0_trace 112 = .ok (.iadd, 1) := by decide +kernel
theorem dX0_trace_113 : decode cX0_trace 113 = .ok (.istore 12, 2) := by decide +kernel
theorem dX0_trace_115 : decode cX0_trace 115 = .ok (.iload 8, 2) := by decide +kernel
theorem dX0_trace_117 : decode cX0_trace 117 = .ok (.ifCond .eq 15, 3) := by decide +kernel
theorem dX0_trace_120 : decode cX0_trace 120 = .ok (.aload 7, 2) := by decide +kernel
theorem dX0_trace_122 : decode cX0_trace 122 = .ok (.iload 8, 2) := by decide +kernel
theorem dX0_trace_124 : decode cX0_trace 124 = .ok (.iconst 1, 1) := by decide +kernel
theorem dX0_trace_125 : decode cX0_trace 125 = .ok (.isub, 1) := by decide +kernel
theorem dX0_trace_126 : decode cX0_trace 126 = .ok (.iaload, 1) := by decide +kernel
theorem dX0_trace_127 : decode cX0_trace 127 = .ok (.iload 12, 2) := by decide +kernel
theorem dX0_trace_129 : decode cX0_trace 129 = .ok (.if_icmp .eq 20, 3) := by decide +kernel
theorem dX0_trace_132 : decode cX0_trace 132 = .ok (.iload 8, 2) := by decide +kernel
theorem dX0_trace_134 : decode cX0_trace 134 = .ok (.bipush 23, 2) := by decide +kernel
theorem dX0_trace_136 : decode cX0_trace 136 = .ok (.if_icmp .ge 13, 3) := by decide +kernel
theorem dX0_trace_139 : decode cX0_trace 139 = .ok (.aload 7, 2) := by decide +kernel
theorem dX0_trace_141 : decode cX0_trace 141 = .ok (.iload 8, 2) := by decide +kernel
theorem dX0_trace_143 : decode cX0_trace 143 = .ok (.iload 12, 2) := by decide +kernel
theorem dX0_trace_145 : decode cX0_trace 145 = .ok (.iastore, 1) := by decide +kernel
theorem dX0_trace_146 : decode cX0_trace 146 = .ok (.iinc 8 1, 3) := by decide +kernel
theorem dX0_trace_149 : decode cX0_trace 149 = .ok (.iinc 9 1, 3) := by decide +kernel
theorem dX0_trace_152 : decode cX0_trace 152 = .ok (.goto (-99), 3) := by decide +kernel
theorem dX0_trace_155 : decode cX0_trace 155 = .ok (.new 10, 3) := by decide +kernel
theorem dX0_trace_158 : decode cX0_trace 158 = .ok (.dup, 1) := by decide +kernel
theorem dX0_trace_159 : decode cX0_trace 159 = .ok (.iload 4, 2) := by decide +kernel
theorem dX0_trace_161 : decode cX0_trace 161 = .ok (.iload 4, 2) := by decide +kernel
theorem dX0_trace_163 : decode cX0_trace 163 = .ok (.imul, 1) := by decide +kernel
theorem dX0_trace_164 : decode cX0_trace 164 = .ok (.iload 5, 2) := by decide +kernel
theorem dX0_trace_166 : decode cX0_trace 166 = .ok (.iload 5, 2) := by decide +kernel
theorem dX0_trace_168 : decode cX0_trace 168 = .ok (.imul, 1) := by decide +kernel
theorem dX0_trace_169 : decode cX0_trace 169 = .ok (.iadd, 1) := by decide +kernel
theorem dX0_trace_170 : decode cX0_trace 170 = .ok (.invokestatic 41, 3) := by decide +kernel
theorem dX0_trace_173 : decode cX0_trace 173 = .ok (.aload 7, 2) := by decide +kernel
theorem dX0_trace_175 : decode cX0_trace 175 = .ok (.iload 8, 2) := by decide +kernel
theorem dX0_trace_177 : decode cX0_trace 177 = .ok (.invokestatic 44, 3) := by decide +kernel
theorem dX0_trace_180 : decode cX0_trace 180 = .ok (.invokespecial 50, 3) := by decide +kernel
theorem dX0_trace_183 : decode cX0_trace 183 = .ok (.areturn, 1) := by decide +kernel
theorem dX0_rootOf_0 : decode cX0_rootOf 0 = .ok (.iconst 0, 1) := by decide +kernel
theorem dX0_rootOf_1 : decode cX0_rootOf 1 = .ok (.istore_n 1, 1) := by decide +kernel
theorem dX0_rootOf_2 : decode cX0_rootOf 2 = .ok (.iload_n 1, 1) := by decide +kernel
theorem dX0_rootOf_3 : decode cX0_rootOf 3 = .ok (.sipush 240, 3) := by decide +kernel
theorem dX0_rootOf_6 : decode cX0_rootOf 6 = .ok (.if_icmp .ge 20, 3) := by decide +kernel
theorem dX0_rootOf_9 : decode cX0_rootOf 9 = .ok (.iload_n 1, 1) := by decide +kernel
theorem dX0_rootOf_10 : decode cX0_rootOf 10 = .ok (.iconst 1, 1) := by decide +kernel
theorem dX0_rootOf_11 : decode cX0_rootOf 11 = .ok (.iadd, 1) := by decide +kernel
theorem dX0_rootOf_12 : decode cX0_rootOf 12 = .ok (.iload_n 1, 1) := by decide +kernel
theorem dX0_rootOf_13 : decode cX0_rootOf 13 = .ok (.iconst 1, 1) := by decide +kernel
theorem dX0_rootOf_14 : decode cX0_rootOf 14 = .ok (.iadd, 1) := by decide +kernel
theorem dX0_rootOf_15 : decode cX0_rootOf 15 = .ok (.imul, 1) := by decide +kernel
theorem dX0_rootOf_16 : decode cX0_rootOf 16 = .ok (.iload_n 0, 1) := by decide +kernel
theorem dX0_rootOf_17 : decode cX0_rootOf 17 = .ok (.if_icmp .gt 9, 3) := by decide +kernel
theorem dX0_rootOf_20 : decode cX0_rootOf 20 = .ok (.iinc 1 1, 3) := by decide +kernel
theorem dX0_rootOf_23 : decode cX0_rootOf 23 = .ok (.goto (-21), 3) := by decide +kernel
theorem dX0_rootOf_26 : decode cX0_rootOf 26 = .ok (.iload_n 1, 1) := by decide +kernel
theorem dX0_rootOf_27 : decode cX0_rootOf 27 = .ok (.ireturn, 1) := by decide +kernel
theorem dX1_init_0 : decode cX1_init 0 = .ok (.aload_n 0, 1) := by decide +kernel
theorem dX1_init_1 : decode cX1_init 1 = .ok (.invokespecial 3, 3) := by decide +kernel
theorem dX1_init_4 : decode cX1_init 4 = .ok (.aload_n 0, 1) := by decide +kernel
theorem dX1_init_5 : decode cX1_init 5 = .ok (.bipush 12, 2) := by decide +kernel
theorem dX1_init_7 : decode cX1_init 7 = .ok (.putfield 9, 3) := by decide +kernel
theorem dX1_init_10 : decode cX1_init 10 = .ok (.aload_n 0, 1) := by decide +kernel
theorem dX1_init_11 : decode cX1_init 11 = .ok (.iconst 2, 1) := by decide +kernel
theorem dX1_init_12 : decode cX1_init 12 = .ok (.putfield 15, 3) := by decide +kernel
theorem dX1_init_15 : decode cX1_init 15 = .ok (.aload_n 0, 1) := by decide +kernel
theorem dX1_init_16 : decode cX1_init 16 = .ok (.iconst 3, 1) := by decide +kernel
theorem dX1_init_17 : decode cX1_init 17 = .ok (.newarray .int, 2) := by decide +kernel
theorem dX1_init_19 : decode cX1_init 19 = .ok (.dup, 1) := by decide +kernel
theorem dX1_init_20 : decode cX1_init 20 = .ok (.iconst 0, 1) := by decide +kernel
theorem dX1_init_21 : decode cX1_init 21 = .ok (.iconst 1, 1) := by decide +kernel
theorem dX1_init_22 : decode cX1_init 22 = .ok (.iastore, 1) := by decide +kernel
theorem dX1_init_23 : decode cX1_init 23 = .ok (.dup, 1) := by decide +kernel
theorem dX1_init_24 : decode cX1_init 24 = .ok (.iconst 1, 1) := by decide +kernel
theorem dX1_init_25 : decode cX1_init 25 = .ok (.iconst 2, 1) := by decide +kernel
theorem dX1_init_26 : decode cX1_init 26 = .ok (.iastore, 1) := by decide +kernel
theorem dX1_init_27 : decode cX1_init 27 = .ok (.dup, 1) := by decide +kernel
theorem dX1_init_28 : decode cX1_init 28 = .ok (.iconst 2, 1) := by decide +kernel
theorem dX1_init_29 : decode cX1_init 29 = .ok (.iconst 3, 1) := by decide +kernel
theorem dX1_init_30 : decode cX1_init 30 = .ok (.iastore, 1) := by decide +kernel
theorem dX1_init_31 : decode cX1_init 31 = .ok (.putfield 18, 3) := by decide +kernel
theorem dX1_init_34 : decode cX1_init 34 = .ok (.aload_n 0, 1) := by decide +kernel
theorem dX1_init_35 : decode cX1_init 35 = .ok (.iconst 3, 1) := by decide +kernel
theorem dX1_init_36 : decode cX1_init 36 = .ok (.newarray .int, 2) := by decide +kernel
theorem dX1_init_38 : decode cX1_init 38 = .ok (.dup, 1) := by decide +kernel
theorem dX1_init_39 : decode cX1_init 39 = .ok (.iconst 0, 1) := by decide +kernel
theorem dX1_init_40 : decode cX1_init 40 = .ok (.sipush 2000, 3) := by decide +kernel
theorem dX1_init_43 : decode cX1_init 43 = .ok (.iastore, 1) := by decide +kernel
theorem dX1_init_44 : decode cX1_init 44 = .ok (.dup, 1) := by decide +kernel
theorem dX1_init_45 : decode cX1_init 45 = .ok (.iconst 1, 1) := by decide +kernel
theorem dX1_init_46 : decode cX1_init 46 = .ok (.sipush 2000, 3) := by decide +kernel
theorem dX1_init_49 : decode cX1_init 49 = .ok (.iastore, 1) := by decide +kernel
theorem dX1_init_50 : decode cX1_init 50 = .ok (.dup, 1) := by decide +kernel
theorem dX1_init_51 : decode cX1_init 51 = .ok (.iconst 2, 1) := by decide +kernel
theorem dX1_init_52 : decode cX1_init 52 = .ok (.sipush 2000, 3) := by decide +kernel
theorem dX1_init_55 : decode cX1_init 55 = .ok (.iastore, 1) := by decide +kernel
theorem dX1_init_56 : decode cX1_init 56 = .ok (.putfield 22, 3) := by decide +kernel
theorem dX1_init_59 : decode cX1_init 59 = .ok (.aload_n 0, 1) := by decide +kernel
theorem dX1_init_60 : decode cX1_init 60 = .ok (.iconst 3, 1) := by decide +kernel
theorem dX1_init_61 : decode cX1_init 61 = .ok (.newarray .int, 2) := by decide +kernel
theorem dX1_init_63 : decode cX1_init 63 = .ok (.dup, 1) := by decide +kernel
theorem dX1_init_64 : decode cX1_init 64 = .ok (.iconst 0, 1) := by decide +kernel
theorem dX1_init_65 : decode cX1_init 65 = .ok (.iconst 1, 1) := by decide +kernel
theorem dX1_init_66 : decode cX1_init 66 = .ok (.iastore, 1) := by decide +kernel
theorem dX1_init_67 : decode cX1_init 67 = .ok (.dup, 1) := by decide +kernel
theorem dX1_init_68 : decode cX1_init 68 = .ok (.iconst 1, 1) := by decide +kernel
theorem dX1_init_69 : decode cX1_init 69 = .ok (.iconst 1, 1) := by decide +kernel
theorem dX1_init_70 : decode cX1_init 70 = .ok (.iastore, 1) := by decide +kernel
theorem dX1_init_71 : decode cX1_init 71 = .ok (.dup, 1) := by decide +kernel
theorem dX1_init_72 : decode cX1_init 72 = .ok (.iconst 2, 1) := by decide +kernel
theorem dX1_init_73 : decode cX1_init 73 = .ok (.iconst 2, 1) := by decide +kernel
theorem dX1_init_74 : decode cX1_init 74 = .ok (.iastore, 1) := by decide +kernel
theorem dX1_init_75 : decode cX1_init 75 = .ok (.putfield 25, 3) := by decide +kernel
theorem dX1_init_78 : decode cX1_init 78 = .ok (.aload_n 0, 1) := by decide +kernel
theorem dX1_init_79 : decode cX1_init 79 = .ok (.sipush 201, 3) := by decide +kernel
theorem dX1_init_82 : decode cX1_init 82 = .ok (.newarray .int, 2) := by decide +kernel
theorem dX1_init_84 : decode cX1_init 84 = .ok (.putfield 28, 3) := by decide +kernel
theorem dX1_init_87 : decode cX1_init 87 = .ok (.aload_n 0, 1) := by decide +kernel
theorem dX1_init_88 : decode cX1_init 88 = .ok (.sipush 201, 3) := by decide +kernel
theorem dX1_init_91 : decode cX1_init 91 = .ok (.newarray .int, 2) := by decide +kernel
theorem dX1_init_93 : decode cX1_init 93 = .ok (.putfield 31, 3) := by decide +kernel
theorem dX1_init_96 : decode cX1_init 96 = .ok (.aload_n 0, 1) := by decide +kernel
theorem dX1_init_97 : decode cX1_init 97 = .ok (.sipush 201, 3) := by decide +kernel
theorem dX1_init_100 : decode cX1_init 100 = .ok (.newarray .int, 2) := by decide +kernel
theorem dX1_init_102 : decode cX1_init 102 = .ok (.putfield 34, 3) := by decide +kernel
theorem dX1_init_105 : decode cX1_init 105 = .ok (.aload_n 0, 1) := by decide +kernel
theorem dX1_init_106 : decode cX1_init 106 = .ok (.sipush 144, 3) := by decide +kernel
theorem dX1_init_109 : decode cX1_init 109 = .ok (.newarray .int, 2) := by decide +kernel
theorem dX1_init_111 : decode cX1_init 111 = .ok (.putfield 37, 3) := by decide +kernel
theorem dX1_init_114 : decode cX1_init 114 = .ok (.aload_n 0, 1) := by decide +kernel
theorem dX1_init_115 : decode cX1_init 115 = .ok (.sipush 144, 3) := by decide +kernel
theorem dX1_init_118 : decode cX1_init 118 = .ok (.newarray .int, 2) := by decide +kernel
theorem dX1_init_120 : decode cX1_init 120 = .ok (.putfield 40, 3) := by decide +kernel
theorem dX1_init_123 : decode cX1_init 123 = .ok (.aload_n 0, 1) := by decide +kernel
theorem dX1_init_124 : decode cX1_init 124 = .ok (.sipush 144, 3) := by decide +kernel
theorem dX1_init_127 : decode cX1_init 127 = .ok (.newarray .int, 2) := by decide +kernel
theorem dX1_init_129 : decode cX1_init 129 = .ok (.putfield 43, 3) := by decide +kernel
theorem dX1_init_132 : decode cX1_init 132 = .ok (.aload_n 0, 1) := by decide +kernel
theorem dX1_init_133 : decode cX1_init 133 = .ok (.sipush 276, 3) := by decide +kernel
theorem dX1_init_136 : decode cX1_init 136 = .ok (.newarray .int, 2) := by decide +kernel
theorem dX1_init_138 : decode cX1_init 138 = .ok (.putfield 46, 3) := by decide +kernel
theorem dX1_init_141 : decode cX1_init 141 = .ok (.aload_n 0, 1) := by decide +kernel
theorem dX1_init_142 : decode cX1_init 142 = .ok (.aload_n 1, 1) := by decide +kernel
theorem dX1_init_143 : decode cX1_init 143 = .ok (.putfield 49, 3) := by decide +kernel
theorem dX1_init_146 : decode cX1_init 146 = .ok (.return_, 1) := by decide +kernel
theorem dX1_copyFrom_0 : decode cX1_copyFrom 0 = .ok (.aload_n 0, 1) := by decide +kernel
theorem dX1_copyFrom_1 : decode cX1_copyFrom 1 = .ok (.aload_n 1, 1) := by decide +kernel
theorem dX1_copyFrom_2 : decode cX1_copyFrom 2 = .ok (.getfield 9, 3) := by decide +kernel
theorem dX1_copyFrom_5 : decode cX1_copyFrom 5 = .ok (.putfield 9, 3) := by decide +kernel
theorem dX1_copyFrom_8 : decode cX1_copyFrom 8 = .ok (.aload_n 0, 1) := by decide +kernel
theorem dX1_copyFrom_9 : decode cX1_copyFrom 9 = .ok (.aload_n 1, 1) := by decide +kernel
theorem dX1_copyFrom_10 : decode cX1_copyFrom 10 = .ok (.getfield 15, 3) := by decide +kernel
theorem dX1_copyFrom_13 : decode cX1_copyFrom 13 = .ok (.putfield 15, 3) := by decide +kernel
theorem dX1_copyFrom_16 : decode cX1_copyFrom 16 = .ok (.aload_n 0, 1) := by decide +kernel
theorem dX1_copyFrom_17 : decode cX1_copyFrom 17 = .ok (.aload_n 1, 1) := by decide +kernel
theorem dX1_copyFrom_18 : decode cX1_copyFrom 18 = .ok (.getfield 53, 3) := by decide +kernel
theorem dX1_copyFrom_21 : decode cX1_copyFrom 21 = .ok (.putfield 53, 3) := by decide +kernel
theorem dX1_copyFrom_24 : decode cX1_copyFrom 24 = .ok (.aload_n 0, 1) := by decide +kernel
theorem dX1_copyFrom_25 : decode cX1_copyFrom 25 = .ok (.aload_n 1, 1) := by decide +kernel
theorem dX1_copyFrom_26 : decode cX1_copyFrom 26 = .ok (.getfield 56, 3) := by decide +kernel
theorem dX1_copyFrom_29 : decode cX1_copyFrom 29 = .ok (.putfield 56, 3) := by decide +kernel
theorem dX1_copyFrom_32 : decode cX1_copyFrom 32 = .ok (.aload_n 0, 1) := by decide +kernel
theorem dX1_copyFrom_33 : decode cX1_copyFrom 33 = .ok (.aload_n 1, 1) := by decide +kernel
theorem dX1_copyFrom_34 : decode cX1_copyFrom 34 = .ok (.getfield 59, 3) := by decide +kernel
theorem dX1_copyFrom_37 : decode cX1_copyFrom 37 = .ok (.putfield 59, 3) := by decide +kernel
theorem dX1_copyFrom_40 : decode cX1_copyFrom 40 = .ok (.aload_n 0, 1) := by decide +kernel
theorem dX1_copyFrom_41 : decode cX1_copyFrom 41 = .ok (.aload_n 1, 1) := by decide +kernel
theorem dX1_copyFrom_42 : decode cX1_copyFrom 42 = .ok (.getfield 62, 3) := by decide +kernel
theorem dX1_copyFrom_45 : decode cX1_copyFrom 45 = .ok (.putfield 62, 3) := by decide +kernel
theorem dX1_copyFrom_48 : decode cX1_copyFrom 48 = .ok (.aload_n 0, 1) := by decide +kernel
theorem dX1_copyFrom_49 : decode cX1_copyFrom 49 = .ok (.aload_n 1, 1) := by decide +kernel
theorem dX1_copyFrom_50 : decode cX1_copyFrom 50 = .ok (.getfield 65, 3) := by decide +kernel
theorem dX1_copyFrom_53 : decode cX1_copyFrom 53 = .ok (.putfield 65, 3) := by decide +kernel
theorem dX1_copyFrom_56 : decode cX1_copyFrom 56 = .ok (.aload_n 0, 1) := by decide +kernel
theorem dX1_copyFrom_57 : decode cX1_copyFrom 57 = .ok (.aload_n 1, 1) := by decide +kernel
theorem dX1_copyFrom_58 : decode cX1_copyFrom 58 = .ok (.getfield 68, 3) := by decide +kernel
theorem dX1_copyFrom_61 : decode cX1_copyFrom 61 = .ok (.putfield 68, 3) := by decide +kernel
theorem dX1_copyFrom_64 : decode cX1_copyFrom 64 = .ok (.aload_n 1, 1) := by decide +kernel
theorem dX1_copyFrom_65 : decode cX1_copyFrom 65 = .ok (.getfield 18, 3) := by decide +kernel
theorem dX1_copyFrom_68 : decode cX1_copyFrom 68 = .ok (.iconst 0, 1) := by decide +kernel
theorem dX1_copyFrom_69 : decode cX1_copyFrom 69 = .ok (.aload_n 0, 1) := by decide +kernel
theorem dX1_copyFrom_70 : decode cX1_copyFrom 70 = .ok (.getfield 18, 3) := by decide +kernel
theorem dX1_copyFrom_73 : decode cX1_copyFrom 73 = .ok (.iconst 0, 1) := by decide +kernel
theorem dX1_copyFrom_74 : decode cX1_copyFrom 74 = .ok (.iconst 3, 1) := by decide +kernel
theorem dX1_copyFrom_75 : decode cX1_copyFrom 75 = .ok (.invokestatic 71, 3) := by decide +kernel
theorem dX1_copyFrom_78 : decode cX1_copyFrom 78 = .ok (.aload_n 1, 1) := by decide +kernel
theorem dX1_copyFrom_79 : decode cX1_copyFrom 79 = .ok (.getfield 22, 3) := by decide +kernel
theorem dX1_copyFrom_82 : decode cX1_copyFrom 82 = .ok (.iconst 0, 1) := by decide +kernel
theorem dX1_copyFrom_83 : decode cX1_copyFrom 83 = .ok (.aload_n 0, 1) := by decide +kernel
theorem dX1_copyFrom_84 : decode cX1_copyFrom 84 = .ok (.getfield 22, 3) := by decide +kernel
theorem dX1_copyFrom_87 : decode cX1_copyFrom 87 = .ok (.iconst 0, 1) := by decide +kernel
theorem dX1_copyFrom_88 : decode cX1_copyFrom 88 = .ok (.iconst 3, 1) := by decide +kernel
theorem dX1_copyFrom_89 : decode cX1_copyFrom 89 = .ok (.invokestatic 71, 3) := by decide +kernel
theorem dX1_copyFrom_92 : decode cX1_copyFrom 92 = .ok (.aload_n 1, 1) := by decide +kernel
theorem dX1_copyFrom_93 : decode cX1_copyFrom 93 = .ok (.getfield 25, 3) := by decide +kernel
theorem dX1_copyFrom_96 : decode cX1_copyFrom 96 = .ok (.iconst 0, 1) := by decide +kernel
theorem dX1_copyFrom_97 : decode cX1_copyFrom 97 = .ok (.aload_n 0, 1) := by decide +kernel
theorem dX1_copyFrom_98 : decode cX1_copyFrom 98 = .ok (.getfield 25, 3) := by decide +kernel
theorem dX1_copyFrom_101 : decode cX1_copyFrom 101 = .ok (.iconst 0, 1) := by decide +kernel
theorem dX1_copyFrom_102 : decode cX1_copyFrom 102 = .ok (.iconst 3, 1) := by decide +kernel
theorem dX1_copyFrom_103 : decode cX1_copyFrom 103 = .ok (.invokestatic 71, 3) := by decide +kernel
theorem dX1_copyFrom_106 : decode cX1_copyFrom 106 = .ok (.aload_n 1, 1) := by decide +kernel
theorem dX1_copyFrom_107 : decode cX1_copyFrom 107 = .ok (.getfield 28, 3) := by decide +kernel
theorem dX1_copyFrom_110 : decode cX1_copyFrom 110 = .ok (.iconst 0, 1) := by decide +kernel
theorem dX1_copyFrom_111 : decode cX1_copyFrom 111 = .ok (.aload_n 0, 1) := by decide +kernel
theorem dX1_copyFrom_112 : decode cX1_copyFrom 112 = .ok (.getfield 28, 3) := by decide +kernel
theorem dX1_copyFrom_115 : decode cX1_copyFrom 115 = .ok (.iconst 0, 1) := by decide +kernel
theorem dX1_copyFrom_116 : decode cX1_copyFrom 116 = .ok (.aload_n 0, 1) := by decide +kernel
theorem dX1_copyFrom_117 : decode cX1_copyFrom 117 = .ok (.getfield 68, 3) := by decide +kernel
theorem dX1_copyFrom_120 : decode cX1_copyFrom 120 = .ok (.invokestatic 71, 3) := by decide +kernel
theorem dX1_copyFrom_123 : decode cX1_copyFrom 123 = .ok (.aload_n 1, 1) := by decide +kernel
theorem dX1_copyFrom_124 : decode cX1_copyFrom 124 = .ok (.getfield 31, 3) := by decide +kernel
theorem dX1_copyFrom_127 : decode cX1_copyFrom 127 = .ok (.iconst 0, 1) := by decide +kernel
theorem dX1_copyFrom_128 : decode cX1_copyFrom 128 = .ok (.aload_n 0, 1) := by decide +kernel
theorem dX1_copyFrom_129 : decode cX1_copyFrom 129 = .ok (.getfield 31, 3) := by decide +kernel
theorem dX1_copyFrom_132 : decode cX1_copyFrom 132 = .ok (.iconst 0, 1) := by decide +kernel
theorem dX1_copyFrom_133 : decode cX1_copyFrom 133 = .ok (.aload_n 0, 1) := by decide +kernel
theorem dX1_copyFrom_134 : decode cX1_copyFrom 134 = .ok (.getfield 68, 3) := by decide +kernel
theorem dX1_copyFrom_137 : decode cX1_copyFrom 137 = .ok (.invokestatic 71, 3) := by decide +kernel
theorem dX1_copyFrom_140 : decode cX1_copyFrom 140 = .ok (.aload_n 1, 1) := by decide +kernel
theorem dX1_copyFrom_141 : decode cX1_copyFrom 141 = .ok (.getfield 34, 3) := by decide +kernel
theorem dX1_copyFrom_144 : decode cX1_copyFrom 144 = .ok (.iconst 0, 1) := by decide +kernel
theorem dX1_copyFrom_145 : decode cX1_copyFrom 145 = .ok (.aload_n 0, 1) := by decide +kernel
theorem dX1_copyFrom_146 : decode cX1_copyFrom 146 = .ok (.getfield 34, 3) := by decide +kernel
theorem dX1_copyFrom_149 : decode cX1_copyFrom 149 = .ok (.iconst 0, 1) := by decide +kernel
theorem dX1_copyFrom_150 : decode cX1_copyFrom 150 = .ok (.aload_n 0, 1) := by decide +kernel
theorem dX1_copyFrom_151 : decode cX1_copyFrom 151 = .ok (.getfield 68, 3) := by decide +kernel
theorem dX1_copyFrom_154 : decode cX1_copyFrom 154 = .ok (.invokestatic 71, 3) := by decide +kernel
theorem dX1_copyFrom_157 : decode cX1_copyFrom 157 = .ok (.aload_n 1, 1) := by decide +kernel
theorem dX1_copyFrom_158 : decode cX1_copyFrom 158 = .ok (.getfield 37, 3) := by decide +kernel
theorem dX1_copyFrom_161 : decode cX1_copyFrom 161 = .ok (.iconst 0, 1) := by decide +kernel
theorem dX1_copyFrom_162 : decode cX1_copyFrom 162 = .ok (.aload_n 0, 1) := by decide +kernel
theorem dX1_copyFrom_163 : decode cX1_copyFrom 163 = .ok (.getfield 37, 3) := by decide +kernel
theorem dX1_copyFrom_166 : decode cX1_copyFrom 166 = .ok (.iconst 0, 1) := by decide +kernel
theorem dX1_copyFrom_167 : decode cX1_copyFrom 167 = .ok (.sipush 144, 3) := by decide +kernel
theorem dX1_copyFrom_170 : decode cX1_copyFrom 170 = .ok (.invokestatic 71, 3) := by decide +kernel
theorem dX1_copyFrom_173 : decode cX1_copyFrom 173 = .ok (.aload_n 1, 1) := by decide +kernel
theorem dX1_copyFrom_174 : decode cX1_copyFrom 174 = .ok (.getfield 40, 3) := by decide +kernel
theorem dX1_copyFrom_177 : decode cX1_copyFrom 177 = .ok (.iconst 0, 1) := by decide +kernel
theorem dX1_copyFrom_178 : decode cX1_copyFrom 178 = .ok (.aload_n 0, 1) := by decide +kernel
theorem dX1_copyFrom_179 : decode cX1_copyFrom 179 = .ok (.getfield 40, 3) := by decide +kernel
theorem dX1_copyFrom_182 : decode cX1_copyFrom 182 = .ok (.iconst 0, 1) := by decide +kernel
theorem dX1_copyFrom_183 : decode cX1_copyFrom 183 = .ok (.sipush 144, 3) := by decide +kernel
theorem dX1_copyFrom_186 : decode cX1_copyFrom 186 = .ok (.invokestatic 71, 3) := by decide +kernel
theorem dX1_copyFrom_189 : decode cX1_copyFrom 189 = .ok (.aload_n 1, 1) := by decide +kernel
theorem dX1_copyFrom_190 : decode cX1_copyFrom 190 = .ok (.getfield 43, 3) := by decide +kernel
theorem dX1_copyFrom_193 : decode cX1_copyFrom 193 = .ok (.iconst 0, 1) := by decide +kernel
theorem dX1_copyFrom_194 : decode cX1_copyFrom 194 = .ok (.aload_n 0, 1) := by decide +kernel
theorem dX1_copyFrom_195 : decode cX1_copyFrom 195 = .ok (.getfield 43, 3) := by decide +kernel
theorem dX1_copyFrom_198 : decode cX1_copyFrom 198 = .ok (.iconst 0, 1) := by decide +kernel
theorem dX1_copyFrom_199 : decode cX1_copyFrom 199 = .ok (.sipush 144, 3) := by decide +kernel
theorem dX1_copyFrom_202 : decode cX1_copyFrom 202 = .ok (.invokestatic 71, 3) := by decide +kernel
theorem dX1_copyFrom_205 : decode cX1_copyFrom 205 = .ok (.aload_n 1, 1) := by decide +kernel
theorem dX1_copyFrom_206 : decode cX1_copyFrom 206 = .ok (.getfield 46, 3) := by decide +kernel
theorem dX1_copyFrom_209 : decode cX1_copyFrom 209 = .ok (.iconst 0, 1) := by decide +kernel
theorem dX1_copyFrom_210 : decode cX1_copyFrom 210 = .ok (.aload_n 0, 1) := by decide +kernel
theorem dX1_copyFrom_211 : decode cX1_copyFrom 211 = .ok (.getfield 46, 3) := by decide +kernel
theorem dX1_copyFrom_214 : decode cX1_copyFrom 214 = .ok (.iconst 0, 1) := by decide +kernel
theorem dX1_copyFrom_215 : decode cX1_copyFrom 215 = .ok (.sipush 276, 3) := by decide +kernel
theorem dX1_copyFrom_218 : decode cX1_copyFrom 218 = .ok (.invokestatic 71, 3) := by decide +kernel
theorem dX1_copyFrom_221 : decode cX1_copyFrom 221 = .ok (.return_, 1) := by decide +kernel
theorem dX1_lineBetween_0 : decode cX1_lineBetween 0 = .ok (.iload_n 1, 1) := by decide +kernel
theorem dX1_lineBetween_1 : decode cX1_lineBetween 1 = .ok (.aload_n 0, 1) := by decide +kernel
theorem dX1_lineBetween_2 : decode cX1_lineBetween 2 = .ok (.getfield 15, 3) := by decide +kernel
theorem dX1_lineBetween_5 : decode cX1_lineBetween 5 = .ok (.imul, 1) := by decide +kernel
theorem dX1_lineBetween_6 : decode cX1_lineBetween 6 = .ok (.iload_n 2, 1) := by decide +kernel
theorem dX1_lineBetween_7 : decode cX1_lineBetween 7 = .ok (.aload_n 0, 1) := by decide +kernel
theorem dX1_lineBetween_8 : decode cX1_lineBetween 8 = .ok (.getfield 15, 3) := by decide +kernel
theorem dX1_lineBetween_11 : decode cX1_lineBetween 11 = .ok (.imul, 1) := by decide +kernel
theorem dX1_lineBetween_12 : decode cX1_lineBetween 12 = .ok (.invokestatic 77, 3) := by decide +kernel
theorem dX1_lineBetween_15 : decode cX1_lineBetween 15 = .ok (.istore_n 3, 1) := by decide +kernel
theorem dX1_lineBetween_16 : decode cX1_lineBetween 16 = .ok (.iload_n 3, 1) := by decide +kernel
theorem dX1_lineBetween_17 : decode cX1_lineBetween 17 = .ok (.iconst (-1), 1) := by decide +kernel
theorem dX1_lineBetween_18 : decode cX1_lineBetween 18 = .ok (.if_icmp .ne 15, 3) := by decide +kernel
theorem dX1_lineBetween_21 : decode cX1_lineBetween 21 = .ok (.new 78, 3) := by decide +kernel
theorem dX1_lineBetween_24 : decode cX1_lineBetween 24 = .ok (.dup, 1) := by decide +kernel
theorem dX1_lineBetween_25 : decode cX1_lineBetween 25 = .ok (.iconst 0, 1) := by decide +kernel
theorem dX1_lineBetween_26 : decode cX1_lineBetween 26 = .ok (.iconst 0, 1) := by decide +kernel
theorem dX1_lineBetween_27 : decode cX1_lineBetween 27 = .ok (.newarray .int, 2) := by decide +kernel
theorem dX1_lineBetween_29 : decode cX1_lineBetween 29 = .ok (.invokespecial 83, 3) := by decide +kernel
theorem dX1_lineBetween_32 : decode cX1_lineBetween 32 = .ok (.areturn, 1) := by decide +kernel
theorem dX1_lineBetween_33 : decode cX1_lineBetween 33 = .ok (.aload_n 0, 1) := by decide +kernel
theorem dX1_lineBetween_34 : decode cX1_lineBetween 34 = .ok (.getfield 49, 3) := by decide +kernel
theorem dX1_lineBetween_37 : decode cX1_lineBetween 37 = .ok (.iload_n 3, 1) := by decide +kernel
theorem dX1_lineBetween_38 : decode cX1_lineBetween 38 = .ok (.aaload, 1) := by decide +kernel
theorem dX1_lineBetween_39 : decode cX1_lineBetween 39 = .ok (.astore 4, 2) := by decide +kernel
theorem dX1_lineBetween_41 : decode cX1_lineBetween 41 = .ok (.aload 4, 2) := by decide +kernel
theorem dX1_lineBetween_43 : decode cX1_lineBetween 43 = .ok (.ifnonnull 36, 3) := by decide +kernel
theorem dX1_lineBetween_46 : decode cX1_lineBetween 46 = .ok (.iload_n 1, 1) := by decide +kernel
theorem dX1_lineBetween_47 : decode cX1_lineBetween 47 = .ok (.iload_n 2, 1) := by decide +kernel
theorem dX1_lineBetween_48 : decode cX1_lineBetween 48 = .ok (.invokestatic 86, 3) := by decide +kernel
theorem dX1_lineBetween_51 : decode cX1_lineBetween 51 = .ok (.aload_n 0, 1) := by decide +kernel
theorem dX1_lineBetween_52 : decode cX1_lineBetween 52 = .ok (.getfield 15, 3) := by decide +kernel
theorem dX1_lineBetween_55 : decode cX1_lineBetween 55 = .ok (.imul, 1) := by decide +kernel
theorem dX1_lineBetween_56 : decode cX1_lineBetween 56 = .ok (.iload_n 1, 1) := by decide +kernel
theorem dX1_lineBetween_57 : decode cX1_lineBetween 57 = .ok (.iload_n 2, 1) := by decide +kernel
theorem dX1_lineBetween_58 : decode cX1_lineBetween 58 = .ok (.invokestatic 91, 3) := by decide +kernel
theorem dX1_lineBetween_61 : decode cX1_lineBetween 61 = .ok (.aload_n 0, 1) := by decide +kernel
theorem dX1_lineBetween_62 : decode cX1_lineBetween 62 = .ok (.getfield 15, 3) := by decide +kernel
theorem dX1_lineBetween_65 : decode cX1_lineBetween 65 = .ok (.imul, 1) := by decide +kernel
theorem dX1_lineBetween_66 : decode cX1_lineBetween 66 = .ok (.invokestatic 94, 3) := by decide +kernel
theorem dX1_lineBetween_69 : decode cX1_lineBetween 69 = .ok (.astore 4, 2) := by decide +kernel
theorem dX1_lineBetween_71 : decode cX1_lineBetween 71 = .ok (.aload_n 0, 1) := by decide +kernel
theorem dX1_lineBetween_72 : decode cX1_lineBetween 72 = .ok (.getfield 49, 3) := by decide +kernel
theorem dX1_lineBetween_75 : decode cX1_lineBetween 75 = .ok (.iload_n 3, 1) := by decide +kernel
theorem dX1_lineBetween_76 : decode cX1_lineBetween 76 = .ok (.aload 4, 2) := by decide +kernel
theorem dX1_lineBetween_78 : decode cX1_lineBetween 78 = .ok (.aastore, 1) := by decide +kernel
theorem dX1_lineBetween_79 : decode cX1_lineBetween 79 = .ok (.aload 4, 2) := by decide +kernel
theorem dX1_lineBetween_81 : decode cX1_lineBetween 81 = .ok (.areturn, 1) := by decide +kernel
theorem dX1_timesLying_0 : decode cX1_timesLying 0 = .ok (.iload_n 1, 1) := by decide +kernel
theorem dX1_timesLying_1 : decode cX1_timesLying 1 = .ok (.aload_n 0, 1) := by decide +kernel
theorem dX1_timesLying_2 : decode cX1_timesLying 2 = .ok (.getfield 15, 3) := by decide +kernel
theorem dX1_timesLying_5 : decode cX1_timesLying 5 = .ok (.imul, 1) := by decide +kernel
theorem dX1_timesLying_6 : decode cX1_timesLying 6 = .ok (.iload_n 2, 1) := by decide +kernel
theorem dX1_timesLying_7 : decode cX1_timesLying 7 = .ok (.aload_n 0, 1) := by decide +kernel
theorem dX1_timesLying_8 : decode cX1_timesLying 8 = .ok (.getfield 15, 3) := by decide +kernel
theorem dX1_timesLying_11 : decode cX1_timesLying 11 = .ok (.imul, 1) := by decide +kernel
theorem dX1_timesLying_12 : decode cX1_timesLying 12 = .ok (.invokestatic 77, 3) := by decide +kernel
theorem dX1_timesLying_15 : decode cX1_timesLying 15 = .ok (.istore_n 3, 1) := by decide +kernel
theorem dX1_timesLying_16 : decode cX1_timesLying 16 = .ok (.iload_n 3, 1) := by decide +kernel
theorem dX1_timesLying_17 : decode cX1_timesLying 17 = .ok (.iconst (-1), 1) := by decide +kernel
theorem dX1_timesLying_18 : decode cX1_timesLying 18 = .ok (.if_icmp .ne 7, 3) := by decide +kernel
theorem dX1_timesLying_21 : decode cX1_timesLying 21 = .ok (.iconst 0, 1) := by decide +kernel
theorem dX1_timesLying_22 : decode cX1_timesLying 22 = .ok (.goto 9, 3) := by decide +kernel
theorem dX1_timesLying_25 : decode cX1_timesLying 25 = .ok (.aload_n 0, 1) := by decide +kernel
theorem dX1_timesLying_26 : decode cX1_timesLying 26 = .ok (.getfield 46, 3) := by decide +kernel
theorem dX1_timesLying_29 : decode cX1_timesLying 29 = .ok (.iload_n 3, 1) := by decide +kernel
theorem dX1_timesLying_30 : decode cX1_timesLying 30 = .ok (.iaload, 1) := by decide +kernel
theorem dX1_timesLying_31 : decode cX1_timesLying 31 = .ok (.ireturn, 1) := by decide +kernel
theorem dX1_refusal_0 : decode cX1_refusal 0 = .ok (.iload_n 1, 1) := by decide +kernel
theorem dX1_refusal_1 : decode cX1_refusal 1 = .ok (.aload_n 0, 1) := by decide +kernel
theorem dX1_refusal_2 : decode cX1_refusal 2 = .ok (.getfield 53, 3) := by decide +kernel
theorem dX1_refusal_5 : decode cX1_refusal 5 = .ok (.if_icmp .ne 5, 3) := by decide +kernel
theorem dX1_refusal_8 : decode cX1_refusal 8 = .ok (.iconst 1, 1) := by decide +kernel
theorem dX1_refusal_9 : decode cX1_refusal 9 = .ok (.ireturn, 1) := by decide +kernel
theorem dX1_refusal_10 : decode cX1_refusal 10 = .ok (.iload_n 1, 1) := by decide +kernel
theorem dX1_refusal_11 : decode cX1_refusal 11 = .ok (.aload_n 0, 1) := by decide +kernel
theorem dX1_refusal_12 : decode cX1_refusal 12 = .ok (.getfield 53, 3) := by decide +kernel
theorem dX1_refusal_15 : decode cX1_refusal 15 = .ok (.isub, 1) := by decide +kernel
theorem dX1_refusal_16 : decode cX1_refusal 16 = .ok (.invokestatic 98, 3) := by decide +kernel
theorem dX1_refusal_19 : decode cX1_refusal 19 = .ok (.istore_n 2, 1) := by decide +kernel
theorem dX1_refusal_20 : decode cX1_refusal 20 = .ok (.iload_n 2, 1) := by decide +kernel
theorem dX1_refusal_21 : decode cX1_refusal 21 = .ok (.aload_n 0, 1) := by decide +kernel
theorem dX1_refusal_22 : decode cX1_refusal 22 = .ok (.getfield 9, 3) := by decide +kernel
theorem dX1_refusal_25 : decode cX1_refusal 25 = .ok (.iload_n 2, 1) := by decide +kernel
theorem dX1_refusal_26 : decode cX1_refusal 26 = .ok (.isub, 1) := by decide +kernel
theorem dX1_refusal_27 : decode cX1_refusal 27 = .ok (.invokestatic 86, 3) := by decide +kernel
theorem dX1_refusal_30 : decode cX1_refusal 30 = .ok (.aload_n 0, 1) := by decide +kernel
theorem dX1_refusal_31 : decode cX1_refusal 31 = .ok (.getfield 25, 3) := by decide +kernel
theorem dX1_refusal_34 : decode cX1_refusal 34 = .ok (.iconst 0, 1) := by decide +kernel
theorem dX1_refusal_35 : decode cX1_refusal 35 = .ok (.iaload, 1) := by decide +kernel
theorem dX1_refusal_36 : decode cX1_refusal 36 = .ok (.if_icmp .ge 5, 3) := by decide +kernel
theorem dX1_refusal_39 : decode cX1_refusal 39 = .ok (.iconst 2, 1) := by decide +kernel
theorem dX1_refusal_40 : decode cX1_refusal 40 = .ok (.ireturn, 1) := by decide +kernel
theorem dX1_refusal_41 : decode cX1_refusal 41 = .ok (.aload_n 0, 1) := by decide +kernel
theorem dX1_refusal_42 : decode cX1_refusal 42 = .ok (.aload_n 0, 1) := by decide +kernel
theorem dX1_refusal_43 : decode cX1_refusal 43 = .ok (.getfield 53, 3) := by decide +kernel
theorem dX1_refusal_46 : decode cX1_refusal 46 = .ok (.iload_n 1, 1) := by decide +kernel
theorem dX1_refusal_47 : decode cX1_refusal 47 = .ok (.invokevirtual 102, 3) := by decide +kernel
theorem dX1_refusal_50 : decode cX1_refusal 50 = .ok (.aload_n 0, 1) := by decide +kernel
theorem dX1_refusal_51 : decode cX1_refusal 51 = .ok (.getfield 25, 3) := by decide +kernel
theorem dX1_refusal_54 : decode cX1_refusal 54 = .ok (.iconst 1, 1) := by decide +kernel
theorem dX1_refusal_55 : decode cX1_refusal 55 = .ok (.iaload, 1) := by decide +kernel
theorem dX1_refusal_56 : decode cX1_refusal 56 = .ok (.if_icmp .lt 5, 3) := by decide +kernel
theorem dX1_refusal_59 : decode cX1_refusal 59 = .ok (.iconst 3, 1) := by decide +kernel
theorem dX1_refusal_60 : decode cX1_refusal 60 = .ok (.ireturn, 1) := by decide +kernel
theorem dX1_refusal_61 : decode cX1_refusal 61 = .ok (.aload_n 0, 1) := by decide +kernel
theorem dX1_refusal_62 : decode cX1_refusal 62 = .ok (.getfield 22, 3) := by decide +kernel
theorem dX1_refusal_65 : decode cX1_refusal 65 = .ok (.aload_n 0, 1) := by decide +kernel
theorem dX1_refusal_66 : decode cX1_refusal 66 = .ok (.getfield 56, 3) := by decide +kernel
theorem dX1_refusal_69 : decode cX1_refusal 69 = .ok (.iaload, 1) := by decide +kernel
theorem dX1_refusal_70 : decode cX1_refusal 70 = .ok (.aload_n 0, 1) := by decide +kernel
theorem dX1_refusal_71 : decode cX1_refusal 71 = .ok (.aload_n 0, 1) := by decide +kernel
theorem dX1_refusal_72 : decode cX1_refusal 72 = .ok (.getfield 53, 3) := by decide +kernel
theorem dX1_refusal_75 : decode cX1_refusal 75 = .ok (.iload_n 1, 1) := by decide +kernel
theorem dX1_refusal_76 : decode cX1_refusal 76 = .ok (.invokevirtual 105, 3) := by decide +kernel
theorem dX1_refusal_79 : decode cX1_refusal 79 = .ok (.getfield 108, 3) := by decide +kernel
theorem dX1_refusal_82 : decode cX1_refusal 82 = .ok (.if_icmp .ge 7, 3) := by decide +kernel
theorem dX1_refusal_85 : decode cX1_refusal 85 = .ok (.iconst 4, 1) := by decide +kernel
theorem dX1_refusal_86 : decode cX1_refusal 86 = .ok (.goto 4, 3) := by decide +kernel
theorem dX1_refusal_89 : decode cX1_refusal 89 = .ok (.iconst 0, 1) := by decide +kernel
theorem dX1_refusal_90 : decode cX1_refusal 90 = .ok (.ireturn, 1) := by decide +kernel
theorem dX1_lackOf_0 : decode cX1_lackOf 0 = .ok (.aload_n 0, 1) := by decide +kernel
theorem dX1_lackOf_1 : decode cX1_lackOf 1 = .ok (.getfield 37, 3) := by decide +kernel
theorem dX1_lackOf_4 : decode cX1_lackOf 4 = .ok (.iload_n 1, 1) := by decide +kernel
theorem dX1_lackOf_5 : decode cX1_lackOf 5 = .ok (.iaload, 1) := by decide +kernel
theorem dX1_lackOf_6 : decode cX1_lackOf 6 = .ok (.aload_n 0, 1) := by decide +kernel
theorem dX1_lackOf_7 : decode cX1_lackOf 7 = .ok (.getfield 25, 3) := by decide +kernel
theorem dX1_lackOf_10 : decode cX1_lackOf 10 = .ok (.iconst 2, 1) := by decide +kernel
theorem dX1_lackOf_11 : decode cX1_lackOf 11 = .ok (.iaload, 1) := by decide +kernel
theorem dX1_lackOf_12 : decode cX1_lackOf 12 = .ok (.imul, 1) := by decide +kernel
theorem dX1_lackOf_13 : decode cX1_lackOf 13 = .ok (.aload_n 0, 1) := by decide +kernel
theorem dX1_lackOf_14 : decode cX1_lackOf 14 = .ok (.getfield 40, 3) := by decide +kernel
theorem dX1_lackOf_17 : decode cX1_lackOf 17 = .ok (.iload_n 1, 1) := by decide +kernel
theorem dX1_lackOf_18 : decode cX1_lackOf 18 = .ok (.iaload, 1) := by decide +kernel
theorem dX1_lackOf_19 : decode cX1_lackOf 19 = .ok (.isub, 1) := by decide +kernel
theorem dX1_lackOf_20 : decode cX1_lackOf 20 = .ok (.ireturn, 1) := by decide +kernel
theorem dX1_misfit_0 : decode cX1_misfit 0 = .ok (.iconst 0, 1) := by decide +kernel
theorem dX1_misfit_1 : decode cX1_misfit 1 = .ok (.istore_n 1, 1) := by decide +kernel
theorem dX1_misfit_2 : decode cX1_misfit 2 = .ok (.iconst 0, 1) := by decide +kernel
theorem dX1_misfit_3 : decode cX1_misfit 3 = .ok (.istore_n 2, 1) := by decide +kernel
theorem dX1_misfit_4 : decode cX1_misfit 4 = .ok (.iload_n 2, 1) := by decide +kernel
theorem dX1_misfit_5 : decode cX1_misfit 5 = .ok (.sipush 144, 3) := by decide +kernel
theorem dX1_misfit_8 : decode cX1_misfit 8 = .ok (.if_icmp .ge 20, 3) := by decide +kernel
theorem dX1_misfit_11 : decode cX1_misfit 11 = .ok (.iload_n 1, 1) := by decide +kernel
theorem dX1_misfit_12 : decode cX1_misfit 12 = .ok (.aload_n 0, 1) := by decide +kernel
theorem dX1_misfit_13 : decode cX1_misfit 13 = .ok (.iload_n 2, 1) := by decide +kernel
theorem dX1_misfit_14 : decode cX1_misfit 14 = .ok (.invokevirtual 111, 3) := by decide +kernel
theorem dX1_misfit_17 : decode cX1_misfit 17 = .ok (.invokestatic 98, 3) := by decide +kernel
theorem dX1_misfit_20 : decode cX1_misfit 20 = .ok (.iadd, 1) := by decide +kernel
theorem dX1_misfit_21 : decode cX1_misfit 21 = .ok (.istore_n 1, 1) := by decide +kernel
theorem dX1_misfit_22 : decode cX1_misfit 22 = .ok (.iinc 2 1, 3) := by decide +kernel
theorem dX1_misfit_25 : decode cX1_misfit 25 = .ok (.goto (-21), 3) := by decide +kernel
theorem dX1_misfit_28 : decode cX1_misfit 28 = .ok (.iload_n 1, 1) := by decide +kernel
theorem dX1_misfit_29 : decode cX1_misfit 29 = .ok (.ireturn, 1) := by decide +kernel
theorem dX1_squaresOfSign_0 : decode cX1_squaresOfSign 0 = .ok (.iconst 0, 1) := by decide +kernel
theorem dX1_squaresOfSign_1 : decode cX1_squaresOfSign 1 = .ok (.istore_n 2, 1) := by decide +kernel
theorem dX1_squaresOfSign_2 : decode cX1_squaresOfSign 2 = .ok (.iconst 0, 1) := by decide +kernel
theorem dX1_squaresOfSign_3 : decode cX1_squaresOfSign 3 = .ok (.istore_n 3, 1) := by decide +kernel
theorem dX1_squaresOfSign_4 : decode cX1_squaresOfSign 4 = .ok (.iload_n 3, 1) := by decide +kernel
theorem dX1_squaresOfSign_5 : decode cX1_squaresOfSign 5 = .ok (.sipush 144, 3) := by decide +kernel
theorem dX1_squaresOfSign_8 : decode cX1_squaresOfSign 8 = .ok (.if_icmp .ge 42, 3) := by decide +kernel
theorem dX1_squaresOfSign_11 : decode cX1_squaresOfSign 11 = .ok (.aload_n 0, 1) := by decide +kernel
theorem dX1_squaresOfSign_12 : decode cX1_squaresOfSign 12 = .ok (.iload_n 3, 1) := by decide +kernel
theorem dX1_squaresOfSign_13 : decode cX1_squaresOfSign 13 = .ok (.invokevirtual 111, 3) := by decide +kernel
theorem dX1_squaresOfSign_16 : decode cX1_squaresOfSign 16 = .ok (.istore 4, 2) := by decide +kernel
theorem dX1_squaresOfSign_18 : decode cX1_squaresOfSign 18 = .ok (.iload 4, 2) := by decide +kernel
theorem dX1_squaresOfSign_20 : decode cX1_squaresOfSign 20 = .ok (.ifCond .le 7, 3) := by decide +kernel
theorem dX1_squaresOfSign_23 : decode cX1_squaresOfSign 23 = .ok (.iconst 1, 1) := by decide +kernel
theorem dX1_squaresOfSign_24 : decode cX1_squaresOfSign 24 = .ok (.goto 13, 3) := by decide +kernel
theorem dX1_squaresOfSign_27 : decode cX1_squaresOfSign 27 = .ok (.iload 4, 2) := by decide +kernel
theorem dX1_squaresOfSign_29 : decode cX1_squaresOfSign 29 = .ok (.ifCond .ge 7, 3) := by decide +kernel
theorem dX1_squaresOfSign_32 : decode cX1_squaresOfSign 32 = .ok (.iconst (-1), 1) := by decide +kernel
theorem dX1_squaresOfSign_33 : decode cX1_squaresOfSign 33 = .ok (.goto 4, 3) := by decide +kernel
theorem dX1_squaresOfSign_36 : decode cX1_squaresOfSign 36 = .ok (.iconst 0, 1) := by decide +kernel
theorem dX1_squaresOfSign_37 : decode cX1_squaresOfSign 37 = .ok (.iload_n 1, 1) := by decide +kernel
theorem dX1_squaresOfSign_38 : decode cX1_squaresOfSign 38 = .ok (.if_icmp .ne 6, 3) := by decide +kernel
theorem dX1_squaresOfSign_41 : decode cX1_squaresOfSign 41 = .ok (.iinc 2 1, 3) := by decide +kernel
theorem dX1_squaresOfSign_44 : decode cX1_squaresOfSign 44 = .ok (.iinc 3 1, 3) := by decide +kernel
theorem dX1_squaresOfSign_47 : decode cX1_squaresOfSign 47 = .ok (.goto (-43), 3) := by decide +kernel
theorem dX1_squaresOfSign_50 : decode cX1_squaresOfSign 50 = .ok (.iload_n 2, 1) := by decide +kernel
theorem dX1_squaresOfSign_51 : decode cX1_squaresOfSign 51 = .ok (.ireturn, 1) := by decide +kernel
theorem dX1_gainTo_0 : decode cX1_gainTo 0 = .ok (.iconst 0, 1) := by decide +kernel
theorem dX1_gainTo_1 : decode cX1_gainTo 1 = .ok (.istore_n 2, 1) := by decide +kernel
theorem dX1_gainTo_2 : decode cX1_gainTo 2 = .ok (.aload_n 0, 1) := by decide +kernel
theorem dX1_gainTo_3 : decode cX1_gainTo 3 = .ok (.aload_n 0, 1) := by decide +kernel
theorem dX1_gainTo_4 : decode cX1_gainTo 4 = .ok (.getfield 53, 3) := by decide +kernel
theorem dX1_gainTo_7 : decode cX1_gainTo 7 = .ok (.iload_n 1, 1) := by decide +kernel
theorem dX1_gainTo_8 : decode cX1_gainTo 8 = .ok (.invokevirtual 105, 3) := by decide +kernel
theorem dX1_gainTo_11 : decode cX1_gainTo 11 = .ok (.getfield 114, 3) := by decide +kernel
theorem dX1_gainTo_14 : decode cX1_gainTo 14 = .ok (.astore_n 3, 1) := by decide +kernel
theorem dX1_gainTo_15 : decode cX1_gainTo 15 = .ok (.aload_n 3, 1) := by decide +kernel
theorem dX1_gainTo_16 : decode cX1_gainTo 16 = .ok (.arraylength, 1) := by decide +kernel
theorem dX1_gainTo_17 : decode cX1_gainTo 17 = .ok (.istore 4, 2) := by decide +kernel
theorem dX1_gainTo_19 : decode cX1_gainTo 19 = .ok (.iconst 0, 1) := by decide +kernel
theorem dX1_gainTo_20 : decode cX1_gainTo 20 = .ok (.istore 5, 2) := by decide +kernel
theorem dX1_gainTo_22 : decode cX1_gainTo 22 = .ok (.iload 5, 2) := by decide +kernel
theorem dX1_gainTo_24 : decode cX1_gainTo 24 = .ok (.iload 4, 2) := by decide +kernel
theorem dX1_gainTo_26 : decode cX1_gainTo 26 = .ok (.if_icmp .ge 36, 3) := by decide +kernel
theorem dX1_gainTo_29 : decode cX1_gainTo 29 = .ok (.aload_n 3, 1) := by decide +kernel
theorem dX1_gainTo_30 : decode cX1_gainTo 30 = .ok (.iload 5, 2) := by decide +kernel
theorem dX1_gainTo_32 : decode cX1_gainTo 32 = .ok (.iaload, 1) := by decide +kernel
theorem dX1_gainTo_33 : decode cX1_gainTo 33 = .ok (.istore 6, 2) := by decide +kernel
theorem dX1_gainTo_35 : decode cX1_gainTo 35 = .ok (.iload_n 2, 1) := by decide +kernel
theorem dX1_gainTo_36 : decode cX1_gainTo 36 = .ok (.aload_n 0, 1) := by decide +kernel
theorem dX1_gainTo_37 : decode cX1_gainTo 37 = .ok (.iload 6, 2) := by decide +kernel
theorem dX1_gainTo_39 : decode cX1_gainTo 39 = .ok (.invokevirtual 111, 3) := by decide +kernel
theorem dX1_gainTo_42 : decode cX1_gainTo 42 = .ok (.aload_n 0, 1) := by decide +kernel
theorem dX1_gainTo_43 : decode cX1_gainTo 43 = .ok (.getfield 18, 3) := by decide +kernel
theorem dX1_gainTo_46 : decode cX1_gainTo 46 = .ok (.aload_n 0, 1) := by decide +kernel
theorem dX1_gainTo_47 : decode cX1_gainTo 47 = .ok (.getfield 56, 3) := by decide +kernel
theorem dX1_gainTo_50 : decode cX1_gainTo 50 = .ok (.iaload, 1) := by decide +kernel
theorem dX1_gainTo_51 : decode cX1_gainTo 51 = .ok (.invokestatic 117, 3) := by decide +kernel
theorem dX1_gainTo_54 : decode cX1_gainTo 54 = .ok (.iadd, 1) := by decide +kernel
theorem dX1_gainTo_55 : decode cX1_gainTo 55 = .ok (.istore_n 2, 1) := by decide +kernel
theorem dX1_gainTo_56 : decode cX1_gainTo 56 = .ok (.iinc 5 1, 3) := by decide +kernel
theorem dX1_gainTo_59 : decode cX1_gainTo 59 = .ok (.goto (-37), 3) := by decide +kernel
theorem dX1_gainTo_62 : decode cX1_gainTo 62 = .ok (.iload_n 2, 1) := by decide +kernel
theorem dX1_gainTo_63 : decode cX1_gainTo 63 = .ok (.ireturn, 1) := by decide +kernel
theorem dX1_relief_0 : decode cX1_relief 0 = .ok (.iload_n 0, 1) := by decide +kernel
theorem dX1_relief_1 : decode cX1_relief 1 = .ok (.invokestatic 98, 3) := by decide +kernel
theorem dX1_relief_4 : decode cX1_relief 4 = .ok (.iload_n 0, 1) := by decide +kernel
theorem dX1_relief_5 : decode cX1_relief 5 = .ok (.iload_n 1, 1) := by decide +kernel
theorem dX1_relief_6 : decode cX1_relief 6 = .ok (.isub, 1) := by decide +kernel
theorem dX1_relief_7 : decode cX1_relief 7 = .ok (.invokestatic 98, 3) := by decide +kernel
theorem dX1_relief_10 : decode cX1_relief 10 = .ok (.isub, 1) := by decide +kernel
theorem dX1_relief_11 : decode cX1_relief 11 = .ok (.ireturn, 1) := by decide +kernel
theorem dX1_misfitByGains_0 : decode cX1_misfitByGains 0 = .ok (.iconst 0, 1) := by decide +kernel
theorem dX1_misfitByGains_1 : decode cX1_misfitByGains 1 = .ok (.istore_n 2, 1) := by decide +kernel
theorem dX1_misfitByGains_2 : decode cX1_misfitByGains 2 = .ok (.iconst 0, 1) := by decide +kernel
theorem dX1_misfitByGains_3 : decode cX1_misfitByGains 3 = .ok (.istore_n 3, 1) := by decide +kernel
theorem dX1_misfitByGains_4 : decode cX1_misfitByGains 4 = .ok (.iload_n 3, 1) := by decide +kernel
theorem dX1_misfitByGains_5 : decode cX1_misfitByGains 5 = .ok (.sipush 144, 3) := by decide +kernel
theorem dX1_misfitByGains_8 : decode cX1_misfitByGains 8 = .ok (.if_icmp .ge 31, 3) := by decide +kernel
theorem dX1_misfitByGains_11 : decode cX1_misfitByGains 11 = .ok (.aload_n 1, 1) := by decide +kernel
theorem dX1_misfitByGains_12 : decode cX1_misfitByGains 12 = .ok (.iload_n 3, 1) := by decide +kernel
theorem dX1_misfitByGains_13 : decode cX1_misfitByGains 13 = .ok (.aload_n 0, 1) := by decide +kernel
theorem dX1_misfitByGains_14 : decode cX1_misfitByGains 14 = .ok (.getfield 37, 3) := by decide +kernel
theorem dX1_misfitByGains_17 : decode cX1_misfitByGains 17 = .ok (.iload_n 3, 1) := by decide +kernel
theorem dX1_misfitByGains_18 : decode cX1_misfitByGains 18 = .ok (.iaload, 1) := by decide +kernel
theorem dX1_misfitByGains_19 : decode cX1_misfitByGains 19 = .ok (.aload_n 0, 1) := by decide +kernel
theorem dX1_misfitByGains_20 : decode cX1_misfitByGains 20 = .ok (.getfield 25, 3) := by decide +kernel
theorem dX1_misfitByGains_23 : decode cX1_misfitByGains 23 = .ok (.iconst 2, 1) := by decide +kernel
theorem dX1_misfitByGains_24 : decode cX1_misfitByGains 24 = .ok (.iaload, 1) := by decide +kernel
theorem dX1_misfitByGains_25 : decode cX1_misfitByGains 25 = .ok (.imul, 1) := by decide +kernel
theorem dX1_misfitByGains_26 : decode cX1_misfitByGains 26 = .ok (.iastore, 1) := by decide +kernel
theorem dX1_misfitByGains_27 : decode cX1_misfitByGains 27 = .ok (.iload_n 2, 1) := by decide +kernel
theorem dX1_misfitByGains_28 : decode cX1_misfitByGains 28 = .ok (.aload_n 1, 1) := by decide +kernel
theorem dX1_misfitByGains_29 : decode cX1_misfitByGains 29 = .ok (.iload_n 3, 1) := by decide +kernel
theorem dX1_misfitByGains_30 : decode cX1_misfitByGains 30 = .ok (.iaload, 1) := by decide +kernel
theorem dX1_misfitByGains_31 : decode cX1_misfitByGains 31 = .ok (.iadd, 1) := by decide +kernel
theorem dX1_misfitByGains_32 : decode cX1_misfitByGains 32 = .ok (.istore_n 2, 1) := by decide +kernel
theorem dX1_misfitByGains_33 : decode cX1_misfitByGains 33 = .ok (.iinc 3 1, 3) := by decide +kernel
theorem dX1_misfitByGains_36 : decode cX1_misfitByGains 36 = .ok (.goto (-32), 3) := by decide +kernel
theorem dX1_misfitByGains_39 : decode cX1_misfitByGains 39 = .ok (.iconst 0, 1) := by decide +kernel
theorem dX1_misfitByGains_40 : decode cX1_misfitByGains 40 = .ok (.istore_n 3, 1) := by decide +kernel
theorem dX1_misfitByGains_41 : decode cX1_misfitByGains 41 = .ok (.iload_n 3, 1) := by decide +kernel
theorem dX1_misfitByGains_42 : decode cX1_misfitByGains 42 = .ok (.aload_n 0, 1) := by decide +kernel
theorem dX1_misfitByGains_43 : decode cX1_misfitByGains 43 = .ok (.getfield 68, 3) := by decide +kernel
theorem dX1_misfitByGains_46 : decode cX1_misfitByGains 46 = .ok (.if_icmp .ge 92, 3) := by decide +kernel
theorem dX1_misfitByGains_49 : decode cX1_misfitByGains 49 = .ok (.aload_n 0, 1) := by decide +kernel
theorem dX1_misfitByGains_50 : decode cX1_misfitByGains 50 = .ok (.getfield 18, 3) := by decide +kernel
theorem dX1_misfitByGains_53 : decode cX1_misfitByGains 53 = .ok (.aload_n 0, 1) := by decide +kernel
theorem dX1_misfitByGains_54 : decode cX1_misfitByGains 54 = .ok (.getfield 34, 3) := by decide +kernel
theorem dX1_misfitByGains_57 : decode cX1_misfitByGains 57 = .ok (.iload_n 3, 1) := by decide +kernel
theorem dX1_misfitByGains_58 : decode cX1_misfitByGains 58 = .ok (.iaload, 1) := by decide +kernel
theorem dX1_misfitByGains_59 : decode cX1_misfitByGains 59 = .ok (.iaload, 1) := by decide +kernel
theorem dX1_misfitByGains_60 : decode cX1_misfitByGains 60 = .ok (.istore 4, 2) := by decide +kernel
theorem dX1_misfitByGains_62 : decode cX1_misfitByGains 62 = .ok (.aload_n 0, 1) := by decide +kernel
theorem dX1_misfitByGains_63 : decode cX1_misfitByGains 63 = .ok (.aload_n 0, 1) := by decide +kernel
theorem dX1_misfitByGains_64 : decode cX1_misfitByGains 64 = .ok (.getfield 28, 3) := by decide +kernel
theorem dX1_misfitByGains_67 : decode cX1_misfitByGains 67 = .ok (.iload_n 3, 1) := by decide +kernel
theorem dX1_misfitByGains_68 : decode cX1_misfitByGains 68 = .ok (.iaload, 1) := by decide +kernel
theorem dX1_misfitByGains_69 : decode cX1_misfitByGains 69 = .ok (.aload_n 0, 1) := by decide +kernel
theorem dX1_misfitByGains_70 : decode cX1_misfitByGains 70 = .ok (.getfield 31, 3) := by decide +kernel
theorem dX1_misfitByGains_73 : decode cX1_misfitByGains 73 = .ok (.iload_n 3, 1) := by decide +kernel
theorem dX1_misfitByGains_74 : decode cX1_misfitByGains 74 = .ok (.iaload, 1) := by decide +kernel
theorem dX1_misfitByGains_75 : decode cX1_misfitByGains 75 = .ok (.invokevirtual 105, 3) := by decide +kernel
theorem dX1_misfitByGains_78 : decode cX1_misfitByGains 78 = .ok (.getfield 114, 3) := by decide +kernel
theorem dX1_misfitByGains_81 : decode cX1_misfitByGains 81 = .ok (.astore 5, 2) := by decide +kernel
theorem dX1_misfitByGains_83 : decode cX1_misfitByGains 83 = .ok (.aload 5, 2) := by decide +kernel
theorem dX1_misfitByGains_85 : decode cX1_misfitByGains 85 = .ok (.arraylength, 1) := by decide +kernel
theorem dX1_misfitByGains_86 : decode cX1_misfitByGains 86 = .ok (.istore 6, 2) := by decide +kernel
theorem dX1_misfitByGains_88 : decode cX1_misfitByGains 88 = .ok (.iconst 0, 1) := by decide +kernel
theorem dX1_misfitByGains_89 : decode cX1_misfitByGains 89 = .ok (.istore 7, 2) := by decide +kernel
theorem dX1_misfitByGains_91 : decode cX1_misfitByGains 91 = .ok (.iload 7, 2) := by decide +kernel
theorem dX1_misfitByGains_93 : decode cX1_misfitByGains 93 = .ok (.iload 6, 2) := by decide +kernel
theorem dX1_misfitByGains_95 : decode cX1_misfitByGains 95 = .ok (.if_icmp .ge 37, 3) := by decide +kernel
theorem dX1_misfitByGains_98 : decode cX1_misfitByGains 98 = .ok (.aload 5, 2) := by decide +kernel
theorem dX1_misfitByGains_100 : decode cX1_misfitByGains 100 = .ok (.iload 7, 2) := by decide +kernel
theorem dX1_misfitByGains_102 : decode cX1_misfitByGains 102 = .ok (.iaload, 1) := by decide +kernel
theorem dX1_misfitByGains_103 : decode cX1_misfitByGains 103 = .ok (.istore 8, 2) := by decide +kernel
theorem dX1_misfitByGains_105 : decode cX1_misfitByGains 105 = .ok (.iload_n 2, 1) := by decide +kernel
theorem dX1_misfitByGains_106 : decode cX1_misfitByGains 106 = .ok (.aload_n 1, 1) := by decide +kernel
theorem dX1_misfitByGains_107 : decode cX1_misfitByGains 107 = .ok (.iload 8, 2) := by decide +kernel
theorem dX1_misfitByGains_109 : decode cX1_misfitByGains 109 = .ok (.iaload, 1) := by decide +kernel
theorem dX1_misfitByGains_110 : decode cX1_misfitByGains 110 = .ok (.iload 4, 2) := by decide +kernel
theorem dX1_misfitByGains_112 : decode cX1_misfitByGains 112 = .ok (.invokestatic 117, 3) := by decide +kernel
theorem dX1_misfitByGains_115 : decode cX1_misfitByGains 115 = .ok (.isub, 1) := by decide +kernel
theorem dX1_misfitByGains_116 : decode cX1_misfitByGains 116 = .ok (.istore_n 2, 1) := by decide +kernel
theorem dX1_misfitByGains_117 : decode cX1_misfitByGains 117 = .ok (.aload_n 1, 1) := by decide +kernel
theorem dX1_misfitByGains_118 : decode cX1_misfitByGains 118 = .ok (.iload 8, 2) := by decide +kernel
theorem dX1_misfitByGains_120 : decode cX1_misfitByGains 120 = .ok (.dup2, 1) := by decide +kernel
theorem dX1_misfitByGains_121 : decode cX1_misfitByGains 121 = .ok (.iaload, 1) := by decide +kernel
theorem dX1_misfitByGains_122 : decode cX1_misfitByGains 122 = .ok (.iload 4, 2) := by decide +kernel
theorem dX1_misfitByGains_124 : decode cX1_misfitByGains 124 = .ok (.isub, 1) := by decide +kernel
theorem dX1_misfitByGains_125 : decode cX1_misfitByGains 125 = .ok (.iastore, 1) := by decide +kernel
theorem dX1_misfitByGains_126 : decode cX1_misfitByGains 126 = .ok (.iinc 7 1, 3) := by decide +kernel
theorem dX1_misfitByGains_129 : decode cX1_misfitByGains 129 = .ok (.goto (-38), 3) := by decide +kernel
theorem dX1_misfitByGains_132 : decode cX1_misfitByGains 132 = .ok (.iinc 3 1, 3) := by decide +kernel
theorem dX1_misfitByGains_135 : decode cX1_misfitByGains 135 = .ok (.goto (-94), 3) := by decide +kernel
theorem dX1_misfitByGains_138 : decode cX1_misfitByGains 138 = .ok (.iload_n 2, 1) := by decide +kernel
theorem dX1_misfitByGains_139 : decode cX1_misfitByGains 139 = .ok (.ireturn, 1) := by decide +kernel
theorem dX1_bestNail_0 : decode cX1_bestNail 0 = .ok (.iconst (-1), 1) := by decide +kernel
theorem dX1_bestNail_1 : decode cX1_bestNail 1 = .ok (.istore_n 1, 1) := by decide +kernel
theorem dX1_bestNail_2 : decode cX1_bestNail 2 = .ok (.iconst 0, 1) := by decide +kernel
theorem dX1_bestNail_3 : decode cX1_bestNail 3 = .ok (.istore_n 2, 1) := by decide +kernel
theorem dX1_bestNail_4 : decode cX1_bestNail 4 = .ok (.iconst 0, 1) := by decide +kernel
theorem dX1_bestNail_5 : decode cX1_bestNail 5 = .ok (.istore_n 3, 1) := by decide +kernel
theorem dX1_bestNail_6 : decode cX1_bestNail 6 = .ok (.iconst 0, 1) := by decide +kernel
theorem dX1_bestNail_7 : decode cX1_bestNail 7 = .ok (.istore 4, 2) := by decide +kernel
theorem dX1_bestNail_9 : decode cX1_bestNail 9 = .ok (.iconst 0, 1) := by decide +kernel
theorem dX1_bestNail_10 : decode cX1_bestNail 10 = .ok (.istore 5, 2) := by decide +kernel
theorem dX1_bestNail_12 : decode cX1_bestNail 12 = .ok (.iload 5, 2) := by decide +kernel
theorem dX1_bestNail_14 : decode cX1_bestNail 14 = .ok (.aload_n 0, 1) := by decide +kernel
theorem dX1_bestNail_15 : decode cX1_bestNail 15 = .ok (.getfield 9, 3) := by decide +kernel
theorem dX1_bestNail_18 : decode cX1_bestNail 18 = .ok (.if_icmp .ge 114, 3) := by decide +kernel
theorem dX1_bestNail_21 : decode cX1_bestNail 21 = .ok (.aload_n 0, 1) := by decide +kernel
theorem dX1_bestNail_22 : decode cX1_bestNail 22 = .ok (.iload 5, 2) := by decide +kernel
theorem dX1_bestNail_24 : decode cX1_bestNail 24 = .ok (.invokevirtual 120, 3) := by decide +kernel
theorem dX1_bestNail_27 : decode cX1_bestNail 27 = .ok (.ifCond .ne 99, 3) := by decide +kernel
theorem dX1_bestNail_30 : decode cX1_bestNail 30 = .ok (.aload_n 0, 1) := by decide +kernel
theorem dX1_bestNail_31 : decode cX1_bestNail 31 = .ok (.iload 5, 2) := by decide +kernel
theorem dX1_bestNail_33 : decode cX1_bestNail 33 = .ok (.invokevirtual 123, 3) := by decide +kernel
theorem dX1_bestNail_36 : decode cX1_bestNail 36 = .ok (.istore 6, 2) := by decide +kernel
theorem dX1_bestNail_38 : decode cX1_bestNail 38 = .ok (.aload_n 0, 1) := by decide +kernel
theorem dX1_bestNail_39 : decode cX1_bestNail 39 = .ok (.aload_n 0, 1) := by decide +kernel
theorem dX1_bestNail_40 : decode cX1_bestNail 40 = .ok (.getfield 53, 3) := by decide +kernel
theorem dX1_bestNail_43 : decode cX1_bestNail 43 = .ok (.iload 5, 2) := by decide +kernel
theorem dX1_bestNail_45 : decode cX1_bestNail 45 = .ok (.invokevirtual 102, 3) := by decide +kernel
theorem dX1_bestNail_48 : decode cX1_bestNail 48 = .ok (.istore 7, 2) := by decide +kernel
theorem dX1_bestNail_50 : decode cX1_bestNail 50 = .ok (.aload_n 0, 1) := by decide +kernel
theorem dX1_bestNail_51 : decode cX1_bestNail 51 = .ok (.aload_n 0, 1) := by decide +kernel
theorem dX1_bestNail_52 : decode cX1_bestNail 52 = .ok (.getfield 53, 3) := by decide +kernel
theorem dX1_bestNail_55 : decode cX1_bestNail 55 = .ok (.iload 5, 2) := by decide +kernel
theorem dX1_bestNail_57 : decode cX1_bestNail 57 = .ok (.invokevirtual 105, 3) := by decide +kernel
theorem dX1_bestNail_60 : decode cX1_bestNail 60 = .ok (.getfield 108, 3) := by decide +kernel
theorem dX1_bestNail_63 : decode cX1_bestNail 63 = .ok (.istore 8, 2) := by decide +kernel
theorem dX1_bestNail_65 : decode cX1_bestNail 65 = .ok (.iload 7, 2) := by decide +kernel
theorem dX1_bestNail_67 : decode cX1_bestNail 67 = .ok (.iload_n 3, 1) := by decide +kernel
theorem dX1_bestNail_68 : decode cX1_bestNail 68 = .ok (.if_icmp .lt 16, 3) := by decide +kernel
theorem dX1_bestNail_71 : decode cX1_bestNail 71 = .ok (.iload 7, 2) := by decide +kernel
theorem dX1_bestNail_73 : decode cX1_bestNail 73 = .ok (.iload_n 3, 1) := by decide +kernel
theorem dX1_bestNail_74 : decode cX1_bestNail 74 = .ok (.if_icmp .ne 14, 3) := by decide +kernel
theorem dX1_bestNail_77 : decode cX1_bestNail 77 = .ok (.iload 8, 2) := by decide +kernel
theorem dX1_bestNail_79 : decode cX1_bestNail 79 = .ok (.iload 4, 2) := by decide +kernel
theorem dX1_bestNail_81 : decode cX1_bestNail 81 = .ok (.if_icmp .ge 7, 3) := by decide +kernel
theorem dX1_bestNail_84 : decode cX1_bestNail 84 = .ok (.iconst 1, 1) := by decide +kernel
theorem dX1_bestNail_85 : decode cX1_bestNail 85 = .ok (.goto 4, 3) := by decide +kernel
theorem dX1_bestNail_88 : decode cX1_bestNail 88 = .ok (.iconst 0, 1) := by decide +kernel
theorem dX1_bestNail_89 : decode cX1_bestNail 89 = .ok (.istore 9, 2) := by decide +kernel
theorem dX1_bestNail_91 : decode cX1_bestNail 91 = .ok (.iload_n 1, 1) := by decide +kernel
theorem dX1_bestNail_92 : decode cX1_bestNail 92 = .ok (.iconst (-1), 1) := by decide +kernel
theorem dX1_bestNail_93 : decode cX1_bestNail 93 = .ok (.if_icmp .eq 20, 3) := by decide +kernel
theorem dX1_bestNail_96 : decode cX1_bestNail 96 = .ok (.iload 6, 2) := by decide +kernel
theorem dX1_bestNail_98 : decode cX1_bestNail 98 = .ok (.iload_n 2, 1) := by decide +kernel
theorem dX1_bestNail_99 : decode cX1_bestNail 99 = .ok (.if_icmp .gt 14, 3) := by decide +kernel
theorem dX1_bestNail_102 : decode cX1_bestNail 102 = .ok (.iload 6, 2) := by decide +kernel
theorem dX1_bestNail_104 : decode cX1_bestNail 104 = .ok (.iload_n 2, 1) := by decide +kernel
theorem dX1_bestNail_105 : decode cX1_bestNail 105 = .ok (.if_icmp .ne 21, 3) := by decide +kernel
theorem dX1_bestNail_108 : decode cX1_bestNail 108 = .ok (.iload 9, 2) := by decide +kernel
theorem dX1_bestNail_110 : decode cX1_bestNail 110 = .ok (.ifCond .eq 16, 3) := by decide +kernel
theorem dX1_bestNail_113 : decode cX1_bestNail 113 = .ok (.iload 5, 2) := by decide +kernel
theorem dX1_bestNail_115 : decode cX1_bestNail 115 = .ok (.istore_n 1, 1) := by decide +kernel
theorem dX1_bestNail_116 : decode cX1_bestNail 116 = .ok (.iload 6, 2) := by decide +kernel
theorem dX1_bestNail_118 : decode cX1_bestNail 118 = .ok (.istore_n 2, 1) := by decide +kernel
theorem dX1_bestNail_119 : decode cX1_bestNail 119 = .ok (.iload 7, 2) := by decide +kernel
theorem dX1_bestNail_121 : decode cX1_bestNail 121 = .ok (.istore_n 3, 1) := by decide +kernel
theorem dX1_bestNail_122 : decode cX1_bestNail 122 = .ok (.iload 8, 2) := by decide +kernel
theorem dX1_bestNail_124 : decode cX1_bestNail 124 = .ok (.istore 4, 2) := by decide +kernel
theorem dX1_bestNail_126 : decode cX1_bestNail 126 = .ok (.iinc 5 1, 3) := by decide +kernel
theorem dX1_bestNail_129 : decode cX1_bestNail 129 = .ok (.goto (-117), 3) := by decide +kernel
theorem dX1_bestNail_132 : decode cX1_bestNail 132 = .ok (.iload_n 1, 1) := by decide +kernel
theorem dX1_bestNail_133 : decode cX1_bestNail 133 = .ok (.ireturn, 1) := by decide +kernel
theorem dX1_lay_0 : decode cX1_lay 0 = .ok (.aload_n 0, 1) := by decide +kernel
theorem dX1_lay_1 : decode cX1_lay 1 = .ok (.getfield 68, 3) := by decide +kernel
theorem dX1_lay_4 : decode cX1_lay 4 = .ok (.sipush 200, 3) := by decide +kernel
theorem dX1_lay_7 : decode cX1_lay 7 = .ok (.if_icmp .le 4, 3) := by decide +kernel
theorem dX1_lay_10 : decode cX1_lay 10 = .ok (.return_, 1) := by decide +kernel
theorem dX1_lay_11 : decode cX1_lay 11 = .ok (.aload_n 0, 1) := by decide +kernel
theorem dX1_lay_12 : decode cX1_lay 12 = .ok (.getfield 28, 3) := by decide +kernel
theorem dX1_lay_15 : decode cX1_lay 15 = .ok (.aload_n 0, 1) := by decide +kernel
theorem dX1_lay_16 : decode cX1_lay 16 = .ok (.getfield 68, 3) := by decide +kernel
theorem dX1_lay_19 : decode cX1_lay 19 = .ok (.aload_n 0, 1) := by decide +kernel
theorem dX1_lay_20 : decode cX1_lay 20 = .ok (.getfield 53, 3) := by decide +kernel
theorem dX1_lay_23 : decode cX1_lay 23 = .ok (.iastore, 1) := by decide +kernel
theorem dX1_lay_24 : decode cX1_lay 24 = .ok (.aload_n 0, 1) := by decide +kernel
theorem dX1_lay_25 : decode cX1_lay 25 = .ok (.getfield 31, 3) := by decide +kernel
theorem dX1_lay_28 : decode cX1_lay 28 = .ok (.aload_n 0, 1) := by decide +kernel
theorem dX1_lay_29 : decode cX1_lay 29 = .ok (.getfield 68, 3) := by decide +kernel
theorem dX1_lay_32 : decode cX1_lay 32 = .ok (.iload_n 1, 1) := by decide +kernel
theorem dX1_lay_33 : decode cX1_lay 33 = .ok (.iastore, 1) := by decide +kernel
theorem dX1_lay_34 : decode cX1_lay 34 = .ok (.aload_n 0, 1) := by decide +kernel
theorem dX1_lay_35 : decode cX1_lay 35 = .ok (.getfield 34, 3) := by decide +kernel
theorem dX1_lay_38 : decode cX1_lay 38 = .ok (.aload_n 0, 1) := by decide +kernel
theorem dX1_lay_39 : decode cX1_lay 39 = .ok (.getfield 68, 3) := by decide +kernel
theorem dX1_lay_42 : decode cX1_lay 42 = .ok (.aload_n 0, 1) := by decide +kernel
theorem dX1_lay_43 : decode cX1_lay 43 = .ok (.getfield 56, 3) := by decide +kernel
theorem dX1_lay_46 : decode cX1_lay 46 = .ok (.iastore, 1) := by decide +kernel
theorem dX1_lay_47 : decode cX1_lay 47 = .ok (.aload_n 0, 1) := by decide +kernel
theorem dX1_lay_48 : decode cX1_lay 48 = .ok (.aload_n 0, 1) := by decide +kernel
theorem dX1_lay_49 : decode cX1_lay 49 = .ok (.getfield 68, 3) := by decide +kernel
theorem dX1_lay_52 : decode cX1_lay 52 = .ok (.iconst 1, 1) := by decide +kernel
theorem dX1_lay_53 : decode cX1_lay 53 = .ok (.invokevirtual 126, 3) := by decide +kernel
theorem dX1_lay_56 : decode cX1_lay 56 = .ok (.aload_n 0, 1) := by decide +kernel
theorem dX1_lay_57 : decode cX1_lay 57 = .ok (.dup, 1) := by decide +kernel
theorem dX1_lay_58 : decode cX1_lay 58 = .ok (.getfield 68, 3) := by decide +kernel
theorem dX1_lay_61 : decode cX1_lay 61 = .ok (.iconst 1, 1) := by decide +kernel
theorem dX1_lay_62 : decode cX1_lay 62 = .ok (.iadd, 1) := by decide +kernel
theorem dX1_lay_63 : decode cX1_lay 63 = .ok (.putfield 68, 3) := by decide +kernel
theorem dX1_lay_66 : decode cX1_lay 66 = .ok (.aload_n 0, 1) := by decide +kernel
theorem dX1_lay_67 : decode cX1_lay 67 = .ok (.iload_n 1, 1) := by decide +kernel
theorem dX1_lay_68 : decode cX1_lay 68 = .ok (.putfield 53, 3) := by decide +kernel
theorem dX1_lay_71 : decode cX1_lay 71 = .ok (.return_, 1) := by decide +kernel
theorem dX1_takeOff_0 : decode cX1_takeOff 0 = .ok (.aload_n 0, 1) := by decide +kernel
theorem dX1_takeOff_1 : decode cX1_takeOff 1 = .ok (.getfield 68, 3) := by decide +kernel
theorem dX1_takeOff_4 : decode cX1_takeOff 4 = .ok (.ifCond .gt 4, 3) := by decide +kernel
theorem dX1_takeOff_7 : decode cX1_takeOff 7 = .ok (.return_, 1) := by decide +kernel
theorem dX1_takeOff_8 : decode cX1_takeOff 8 = .ok (.aload_n 0, 1) := by decide +kernel
theorem dX1_takeOff_9 : decode cX1_takeOff 9 = .ok (.dup, 1) := by decide +kernel
theorem dX1_takeOff_10 : decode cX1_takeOff 10 = .ok (.getfield 68, 3) := by decide +kernel
theorem dX1_takeOff_13 : decode cX1_takeOff 13 = .ok (.iconst 1, 1) := by decide +kernel
theorem dX1_takeOff_14 : decode cX1_takeOff 14 = .ok (.isub, 1) := by decide +kernel
theorem dX1_takeOff_15 : decode cX1_takeOff 15 = .ok (.putfield 68, 3) := by decide +kernel
theorem dX1_takeOff_18 : decode cX1_takeOff 18 = .ok (.aload_n 0, 1) := by decide +kernel
theorem dX1_takeOff_19 : decode cX1_takeOff 19 = .ok (.aload_n 0, 1) := by decide +kernel
theorem dX1_takeOff_20 : decode cX1_takeOff 20 = .ok (.getfield 68, 3) := by decide +kernel
theorem dX1_takeOff_23 : decode cX1_takeOff 23 = .ok (.iconst (-1), 1) := by decide +kernel
theorem dX1_takeOff_24 : decode cX1_takeOff 24 = .ok (.invokevirtual 126, 3) := by decide +kernel
theorem dX1_takeOff_27 : decode cX1_takeOff 27 = .ok (.aload_n 0, 1) := by decide +kernel
theorem dX1_takeOff_28 : decode cX1_takeOff 28 = .ok (.aload_n 0, 1) := by decide +kernel
theorem dX1_takeOff_29 : decode cX1_takeOff 29 = .ok (.getfield 28, 3) := by decide +kernel
theorem dX1_takeOff_32 : decode cX1_takeOff 32 = .ok (.aload_n 0, 1) := by decide +kernel
theorem dX1_takeOff_33 : decode cX1_takeOff 33 = .ok (.getfield 68, 3) := by decide +kernel
theorem dX1_takeOff_36 : decode cX1_takeOff 36 = .ok (.iaload, 1) := by decide +kernel
theorem dX1_takeOff_37 : decode cX1_takeOff 37 = .ok (.putfield 53, 3) := by decide +kernel
theorem dX1_takeOff_40 : decode cX1_takeOff 40 = .ok (.aload_n 0, 1) := by decide +kernel
theorem dX1_takeOff_41 : decode cX1_takeOff 41 = .ok (.aload_n 0, 1) := by decide +kernel
theorem dX1_takeOff_42 : decode cX1_takeOff 42 = .ok (.getfield 34, 3) := by decide +kernel
theorem dX1_takeOff_45 : decode cX1_takeOff 45 = .ok (.aload_n 0, 1) := by decide +kernel
theorem dX1_takeOff_46 : decode cX1_takeOff 46 = .ok (.getfield 68, 3) := by decide +kernel
theorem dX1_takeOff_49 : decode cX1_takeOff 49 = .ok (.iaload, 1) := by decide +kernel
theorem dX1_takeOff_50 : decode cX1_takeOff 50 = .ok (.putfield 56, 3) := by decide +kernel
theorem dX1_takeOff_53 : decode cX1_takeOff 53 = .ok (.return_, 1) := by decide +kernel
theorem dX1_takeAllOff_0 : decode cX1_takeAllOff 0 = .ok (.aload_n 0, 1) := by decide +kernel
theorem dX1_takeAllOff_1 : decode cX1_takeAllOff 1 = .ok (.getfield 56, 3) := by decide +kernel
theorem dX1_takeAllOff_4 : decode cX1_takeAllOff 4 = .ok (.istore_n 1, 1) := by decide +kernel
theorem dX1_takeAllOff_5 : decode cX1_takeAllOff 5 = .ok (.aload_n 0, 1) := by decide +kernel
theorem dX1_takeAllOff_6 : decode cX1_takeAllOff 6 = .ok (.getfield 68, 3) := by decide +kernel
theorem dX1_takeAllOff_9 : decode cX1_takeAllOff 9 = .ok (.istore_n 2, 1) := by decide +kernel
theorem dX1_takeAllOff_10 : decode cX1_takeAllOff 10 = .ok (.iload_n 2, 1) := by decide +kernel
theorem dX1_takeAllOff_11 : decode cX1_takeAllOff 11 = .ok (.ifCond .le 13, 3) := by decide +kernel
theorem dX1_takeAllOff_14 : decode cX1_takeAllOff 14 = .ok (.aload_n 0, 1) := by decide +kernel
theorem dX1_takeAllOff_15 : decode cX1_takeAllOff 15 = .ok (.invokevirtual 130, 3) := by decide +kernel
theorem dX1_takeAllOff_18 : decode cX1_takeAllOff 18 = .ok (.iinc 2 (-1), 3) := by decide +kernel
theorem dX1_takeAllOff_21 : decode cX1_takeAllOff 21 = .ok (.goto (-11), 3) := by decide +kernel
theorem dX1_takeAllOff_24 : decode cX1_takeAllOff 24 = .ok (.aload_n 0, 1) := by decide +kernel
theorem dX1_takeAllOff_25 : decode cX1_takeAllOff 25 = .ok (.iload_n 1, 1) := by decide +kernel
theorem dX1_takeAllOff_26 : decode cX1_takeAllOff 26 = .ok (.putfield 56, 3) := by decide +kernel
theorem dX1_takeAllOff_29 : decode cX1_takeAllOff 29 = .ok (.return_, 1) := by decide +kernel
theorem dX1_putThread_0 : decode cX1_putThread 0 = .ok (.aload_n 0, 1) := by decide +kernel
theorem dX1_putThread_1 : decode cX1_putThread 1 = .ok (.getfield 28, 3) := by decide +kernel
theorem dX1_putThread_4 : decode cX1_putThread 4 = .ok (.iload_n 1, 1) := by decide +kernel
theorem dX1_putThread_5 : decode cX1_putThread 5 = .ok (.iaload, 1) := by decide +kernel
theorem dX1_putThread_6 : decode cX1_putThread 6 = .ok (.aload_n 0, 1) := by decide +kernel
theorem dX1_putThread_7 : decode cX1_putThread 7 = .ok (.getfield 15, 3) := by decide +kernel
theorem dX1_putThread_10 : decode cX1_putThread 10 = .ok (.imul, 1) := by decide +kernel
theorem dX1_putThread_11 : decode cX1_putThread 11 = .ok (.aload_n 0, 1) := by decide +kernel
theorem dX1_putThread_12 : decode cX1_putThread 12 = .ok (.getfield 31, 3) := by decide +kernel
theorem dX1_putThread_15 : decode cX1_putThread 15 = .ok (.iload_n 1, 1) := by decide +kernel
theorem dX1_putThread_16 : decode cX1_putThread 16 = .ok (.iaload, 1) := by decide +kernel
theorem dX1_putThread_17 : decode cX1_putThread 17 = .ok (.aload_n 0, 1) := by decide +kernel
theorem dX1_putThread_18 : decode cX1_putThread 18 = .ok (.getfield 15, 3) := by decide +kernel
theorem dX1_putThread_21 : decode cX1_putThread 21 = .ok (.imul, 1) := by decide +kernel
theorem dX1_putThread_22 : decode cX1_putThread 22 = .ok (.invokestatic 77, 3) := by decide +kernel
theorem dX1_putThread_25 : decode cX1_putThread 25 = .ok (.istore_n 3, 1) := by decide +kernel
theorem dX1_putThread_26 : decode cX1_putThread 26 = .ok (.iload_n 3, 1) := by decide +kernel
theorem dX1_putThread_27 : decode cX1_putThread 27 = .ok (.iconst (-1), 1) := by decide +kernel
theorem dX1_putThread_28 : decode cX1_putThread 28 = .ok (.if_icmp .ne 4, 3) := by decide +kernel
theorem dX1_putThread_31 : decode cX1_putThread 31 = .ok (.return_, 1) := by decide +kernel
theorem dX1_putThread_32 : decode cX1_putThread 32 = .ok (.aload_n 0, 1) := by decide +kernel
theorem dX1_putThread_33 : decode cX1_putThread 33 = .ok (.aload_n 0, 1) := by decide +kernel
theorem dX1_putThread_34 : decode cX1_putThread 34 = .ok (.getfield 28, 3) := by decide +kernel
theorem dX1_putThread_37 : decode cX1_putThread 37 = .ok (.iload_n 1, 1) := by decide +kernel
theorem dX1_putThread_38 : decode cX1_putThread 38 = .ok (.iaload, 1) := by decide +kernel
theorem dX1_putThread_39 : decode cX1_putThread 39 = .ok (.aload_n 0, 1) := by decide +kernel
theorem dX1_putThread_40 : decode cX1_putThread 40 = .ok (.getfield 31, 3) := by decide +kernel
theorem dX1_putThread_43 : decode cX1_putThread 43 = .ok (.iload_n 1, 1) := by decide +kernel
theorem dX1_putThread_44 : decode cX1_putThread 44 = .ok (.iaload, 1) := by decide +kernel
theorem dX1_putThread_45 : decode cX1_putThread 45 = .ok (.invokevirtual 105, 3) := by decide +kernel
theorem dX1_putThread_48 : decode cX1_putThread 48 = .ok (.astore 4, 2) := by decide +kernel
theorem dX1_putThread_50 : decode cX1_putThread 50 = .ok (.aload_n 0, 1) := by decide +kernel
theorem dX1_putThread_51 : decode cX1_putThread 51 = .ok (.getfield 34, 3) := by decide +kernel
theorem dX1_putThread_54 : decode cX1_putThread 54 = .ok (.iload_n 1, 1) := by decide +kernel
theorem dX1_putThread_55 : decode cX1_putThread 55 = .ok (.iaload, 1) := by decide +kernel
theorem dX1_putThread_56 : decode cX1_putThread 56 = .ok (.istore 5, 2) := by decide +kernel
theorem dX1_putThread_58 : decode cX1_putThread 58 = .ok (.aload_n 0, 1) := by decide +kernel
theorem dX1_putThread_59 : decode cX1_putThread 59 = .ok (.getfield 46, 3) := by decide +kernel
theorem dX1_putThread_62 : decode cX1_putThread 62 = .ok (.iload_n 3, 1) := by decide +kernel
theorem dX1_putThread_63 : decode cX1_putThread 63 = .ok (.dup2, 1) := by decide +kernel
theorem dX1_putThread_64 : decode cX1_putThread 64 = .ok (.iaload, 1) := by decide +kernel
theorem dX1_putThread_65 : decode cX1_putThread 65 = .ok (.iload_n 2, 1) := by decide +kernel
theorem dX1_putThread_66 : decode cX1_putThread 66 = .ok (.iadd, 1) := by decide +kernel
theorem dX1_putThread_67 : decode cX1_putThread 67 = .ok (.iastore, 1) := by decide +kernel
theorem dX1_putThread_68 : decode cX1_putThread 68 = .ok (.aload_n 0, 1) := by decide +kernel
theorem dX1_putThread_69 : decode cX1_putThread 69 = .ok (.getfield 22, 3) := by decide +kernel
theorem dX1_putThread_72 : decode cX1_putThread 72 = .ok (.iload 5, 2) := by decide +kernel
theorem dX1_putThread_74 : decode cX1_putThread 74 = .ok (.dup2, 1) := by decide +kernel
theorem dX1_putThread_75 : decode cX1_putThread 75 = .ok (.iaload, 1) := by decide +kernel
theorem dX1_putThread_76 : decode cX1_putThread 76 = .ok (.iload_n 2, 1) := by decide +kernel
theorem dX1_putThread_77 : decode cX1_putThread 77 = .ok (.aload 4, 2) := by decide +kernel
theorem dX1_putThread_79 : decode cX1_putThread 79 = .ok (.getfield 108, 3) := by decide +kernel
theorem dX1_putThread_82 : decode cX1_putThread 82 = .ok (.imul, 1) := by decide +kernel
theorem dX1_putThread_83 : decode cX1_putThread 83 = .ok (.isub, 1) := by decide +kernel
theorem dX1_putThread_84 : decode cX1_putThread 84 = .ok (.iastore, 1) := by decide +kernel
theorem dX1_putThread_85 : decode cX1_putThread 85 = .ok (.aload 4, 2) := by decide +kernel
theorem dX1_putThread_87 : decode cX1_putThread 87 = .ok (.getfield 114, 3) := by decide +kernel
theorem dX1_putThread_90 : decode cX1_putThread 90 = .ok (.astore 6, 2) := by decide +kernel
theorem dX1_putThread_92 : decode cX1_putThread 92 = .ok (.aload 6, 2) := by decide +kernel
theorem dX1_putThread_94 : decode cX1_putThread 94 = .ok (.arraylength, 1) := by decide +kernel
theorem dX1_putThread_95 : decode cX1_putThread 95 = .ok (.istore 7, 2) := by decide +kernel
theorem dX1_putThread_97 : decode cX1_putThread 97 = .ok (.iconst 0, 1) := by decide +kernel
theorem dX1_putThread_98 : decode cX1_putThread 98 = .ok (.istore 8, 2) := by decide +kernel
theorem dX1_putThread_100 : decode cX1_putThread 100 = .ok (.iload 8, 2) := by decide +kernel
theorem dX1_putThread_102 : decode cX1_putThread 102 = .ok (.iload 7, 2) := by decide +kernel
theorem dX1_putThread_104 : decode cX1_putThread 104 = .ok (.if_icmp .ge 46, 3) := by decide +kernel
theorem dX1_putThread_107 : decode cX1_putThread 107 = .ok (.aload 6, 2) := by decide +kernel
theorem dX1_putThread_109 : decode cX1_putThread 109 = .ok (.iload 8, 2) := by decide +kernel
theorem dX1_putThread_111 : decode cX1_putThread 111 = .ok (.iaload, 1) := by decide +kernel
theorem dX1_putThread_112 : decode cX1_putThread 112 = .ok (.istore 9, 2) := by decide +kernel
theorem dX1_putThread_114 : decode cX1_putThread 114 = .ok (.aload_n 0, 1) := by decide +kernel
theorem dX1_putThread_115 : decode cX1_putThread 115 = .ok (.getfield 40, 3) := by decide +kernel
theorem dX1_putThread_118 : decode cX1_putThread 118 = .ok (.iload 9, 2) := by decide +kernel
theorem dX1_putThread_120 : decode cX1_putThread 120 = .ok (.dup2, 1) := by decide +kernel
theorem dX1_putThread_121 : decode cX1_putThread 121 = .ok (.iaload, 1) := by decide +kernel
theorem dX1_putThread_122 : decode cX1_putThread 122 = .ok (.iload_n 2, 1) := by decide +kernel
theorem dX1_putThread_123 : decode cX1_putThread 123 = .ok (.aload_n 0, 1) := by decide +kernel
theorem dX1_putThread_124 : decode cX1_putThread 124 = .ok (.getfield 18, 3) := by decide +kernel
theorem dX1_putThread_127 : decode cX1_putThread 127 = .ok (.iload 5, 2) := by decide +kernel
theorem dX1_putThread_129 : decode cX1_putThread 129 = .ok (.iaload, 1) := by decide +kernel
theorem dX1_putThread_130 : decode cX1_putThread 130 = .ok (.imul, 1) := by decide +kernel
theorem dX1_putThread_131 : decode cX1_putThread 131 = .ok (.iadd, 1) := by decide +kernel
theorem dX1_putThread_132 : decode cX1_putThread 132 = .ok (.iastore, 1) := by decide +kernel
theorem dX1_putThread_133 : decode cX1_putThread 133 = .ok (.aload_n 0, 1) := by decide +kernel
theorem dX1_putThread_134 : decode cX1_putThread 134 = .ok (.getfield 43, 3) := by decide +kernel
theorem dX1_putThread_137 : decode cX1_putThread 137 = .ok (.iload 9, 2) := by decide +kernel
theorem dX1_putThread_139 : decode cX1_putThread 139 = .ok (.dup2, 1) := by decide +kernel
theorem dX1_putThread_140 : decode cX1_putThread 140 = .ok (.iaload, 1) := by decide +kernel
theorem dX1_putThread_141 : decode cX1_putThread 141 = .ok (.iload_n 2, 1) := by decide +kernel
theorem dX1_putThread_142 : decode cX1_putThread 142 = .ok (.iadd, 1) := by decide +kernel
theorem dX1_putThread_143 : decode cX1_putThread 143 = .ok (.iastore, 1) := by decide +kernel
theorem dX1_putThread_144 : decode cX1_putThread 144 = .ok (.iinc 8 1, 3) := by decide +kernel
theorem dX1_putThread_147 : decode cX1_putThread 147 = .ok (.goto (-47), 3) := by decide +kernel
theorem dX1_putThread_150 : decode cX1_putThread 150 = .ok (.return_, 1) := by decide +kernel
theorem dX1_endsAt_0 : decode cX1_endsAt 0 = .ok (.iconst 0, 1) := by decide +kernel
theorem dX1_endsAt_1 : decode cX1_endsAt 1 = .ok (.istore_n 2, 1) := by decide +kernel
theorem dX1_endsAt_2 : decode cX1_endsAt 2 = .ok (.iconst 0, 1) := by decide +kernel
theorem dX1_endsAt_3 : decode cX1_endsAt 3 = .ok (.istore_n 3, 1) := by decide +kernel
theorem dX1_endsAt_4 : decode cX1_endsAt 4 = .ok (.iload_n 3, 1) := by decide +kernel
theorem dX1_endsAt_5 : decode cX1_endsAt 5 = .ok (.aload_n 0, 1) := by decide +kernel
theorem dX1_endsAt_6 : decode cX1_endsAt 6 = .ok (.getfield 68, 3) := by decide +kernel
theorem dX1_endsAt_9 : decode cX1_endsAt 9 = .ok (.if_icmp .ge 32, 3) := by decide +kernel
theorem dX1_endsAt_12 : decode cX1_endsAt 12 = .ok (.aload_n 0, 1) := by decide +kernel
theorem dX1_endsAt_13 : decode cX1_endsAt 13 = .ok (.getfield 28, 3) := by decide +kernel
theorem dX1_endsAt_16 : decode cX1_endsAt 16 = .ok (.iload_n 3, 1) := by decide +kernel
theorem dX1_endsAt_17 : decode cX1_endsAt 17 = .ok (.iaload, 1) := by decide +kernel
theorem dX1_endsAt_18 : decode cX1_endsAt 18 = .ok (.iload_n 1, 1) := by decide +kernel
theorem dX1_endsAt_19 : decode cX1_endsAt 19 = .ok (.if_icmp .eq 13, 3) := by decide +kernel
theorem dX1_endsAt_22 : decode cX1_endsAt 22 = .ok (.aload_n 0, 1) := by decide +kernel
theorem dX1_endsAt_23 : decode cX1_endsAt 23 = .ok (.getfield 31, 3) := by decide +kernel
theorem dX1_endsAt_26 : decode cX1_endsAt 26 = .ok (.iload_n 3, 1) := by decide +kernel
theorem dX1_endsAt_27 : decode cX1_endsAt 27 = .ok (.iaload, 1) := by decide +kernel
theorem dX1_endsAt_28 : decode cX1_endsAt 28 = .ok (.iload_n 1, 1) := by decide +kernel
theorem dX1_endsAt_29 : decode cX1_endsAt 29 = .ok (.if_icmp .ne 6, 3) := by decide +kernel
theorem dX1_endsAt_32 : decode cX1_endsAt 32 = .ok (.iinc 2 1, 3) := by decide +kernel
theorem dX1_endsAt_35 : decode cX1_endsAt 35 = .ok (.iinc 3 1, 3) := by decide +kernel
theorem dX1_endsAt_38 : decode cX1_endsAt 38 = .ok (.goto (-34), 3) := by decide +kernel
theorem dX1_endsAt_41 : decode cX1_endsAt 41 = .ok (.iload_n 2, 1) := by decide +kernel
theorem dX1_endsAt_42 : decode cX1_endsAt 42 = .ok (.ireturn, 1) := by decide +kernel
theorem dX1_chordsOf_0 : decode cX1_chordsOf 0 = .ok (.iconst 0, 1) := by decide +kernel
theorem dX1_chordsOf_1 : decode cX1_chordsOf 1 = .ok (.istore_n 2, 1) := by decide +kernel
theorem dX1_chordsOf_2 : decode cX1_chordsOf 2 = .ok (.iconst 0, 1) := by decide +kernel
theorem dX1_chordsOf_3 : decode cX1_chordsOf 3 = .ok (.istore_n 3, 1) := by decide +kernel
theorem dX1_chordsOf_4 : decode cX1_chordsOf 4 = .ok (.iload_n 3, 1) := by decide +kernel
theorem dX1_chordsOf_5 : decode cX1_chordsOf 5 = .ok (.aload_n 0, 1) := by decide +kernel
theorem dX1_chordsOf_6 : decode cX1_chordsOf 6 = .ok (.getfield 68, 3) := by decide +kernel
theorem dX1_chordsOf_9 : decode cX1_chordsOf 9 = .ok (.if_icmp .ge 22, 3) := by decide +kernel
theorem dX1_chordsOf_12 : decode cX1_chordsOf 12 = .ok (.aload_n 0, 1) := by decide +kernel
theorem dX1_chordsOf_13 : decode cX1_chordsOf 13 = .ok (.getfield 34, 3) := by decide +kernel
theorem dX1_chordsOf_16 : decode cX1_chordsOf 16 = .ok (.iload_n 3, 1) := by decide +kernel
theorem dX1_chordsOf_17 : decode cX1_chordsOf 17 = .ok (.iaload, 1) := by decide +kernel
theorem dX1_chordsOf_18 : decode cX1_chordsOf 18 = .ok (.iload_n 1, 1) := by decide +kernel
theorem dX1_chordsOf_19 : decode cX1_chordsOf 19 = .ok (.if_icmp .ne 6, 3) := by decide +kernel
theorem dX1_chordsOf_22 : decode cX1_chordsOf 22 = .ok (.iinc 2 1, 3) := by decide +kernel
theorem dX1_chordsOf_25 : decode cX1_chordsOf 25 = .ok (.iinc 3 1, 3) := by decide +kernel
theorem dX1_chordsOf_28 : decode cX1_chordsOf 28 = .ok (.goto (-24), 3) := by decide +kernel
theorem dX1_chordsOf_31 : decode cX1_chordsOf 31 = .ok (.iload_n 2, 1) := by decide +kernel
theorem dX1_chordsOf_32 : decode cX1_chordsOf 32 = .ok (.ireturn, 1) := by decide +kernel
theorem dX1_threadLying_0 : decode cX1_threadLying 0 = .ok (.iconst 0, 1) := by decide +kernel
theorem dX1_threadLying_1 : decode cX1_threadLying 1 = .ok (.istore_n 2, 1) := by decide +kernel
theorem dX1_threadLying_2 : decode cX1_threadLying 2 = .ok (.iconst 0, 1) := by decide +kernel
theorem dX1_threadLying_3 : decode cX1_threadLying 3 = .ok (.istore_n 3, 1) := by decide +kernel
theorem dX1_threadLying_4 : decode cX1_threadLying 4 = .ok (.iload_n 3, 1) := by decide +kernel
theorem dX1_threadLying_5 : decode cX1_threadLying 5 = .ok (.aload_n 0, 1) := by decide +kernel
theorem dX1_threadLying_6 : decode cX1_threadLying 6 = .ok (.getfield 68, 3) := by decide +kernel
theorem dX1_threadLying_9 : decode cX1_threadLying 9 = .ok (.if_icmp .ge 41, 3) := by decide +kernel
theorem dX1_threadLying_12 : decode cX1_threadLying 12 = .ok (.aload_n 0, 1) := by decide +kernel
theorem dX1_threadLying_13 : decode cX1_threadLying 13 = .ok (.getfield 34, 3) := by decide +kernel
theorem dX1_threadLying_16 : decode cX1_threadLying 16 = .ok (.iload_n 3, 1) := by decide +kernel
theorem dX1_threadLying_17 : decode cX1_threadLying 17 = .ok (.iaload, 1) := by decide +kernel
theorem dX1_threadLying_18 : decode cX1_threadLying 18 = .ok (.iload_n 1, 1) := by decide +kernel
theorem dX1_threadLying_19 : decode cX1_threadLying 19 = .ok (.if_icmp .ne 25, 3) := by decide +kernel
theorem dX1_threadLying_22 : decode cX1_threadLying 22 = .ok (.iload_n 2, 1) := by decide +kernel
theorem dX1_threadLying_23 : decode cX1_threadLying 23 = .ok (.aload_n 0, 1) := by decide +kernel
theorem dX1_threadLying_24 : decode cX1_threadLying 24 = .ok (.aload_n 0, 1) := by decide +kernel
theorem dX1_threadLying_25 : decode cX1_threadLying 25 = .ok (.getfield 28, 3) := by decide +kernel
theorem dX1_threadLying_28 : decode cX1_threadLying 28 = .ok (.iload_n 3, 1) := by decide +kernel
theorem dX1_threadLying_29 : decode cX1_threadLying 29 = .ok (.iaload, 1) := by decide +kernel
theorem dX1_threadLying_30 : decode cX1_threadLying 30 = .ok (.aload_n 0, 1) := by decide +kernel
theorem dX1_threadLying_31 : decode cX1_threadLying 31 = .ok (.getfield 31, 3) := by decide +kernel
theorem dX1_threadLying_34 : decode cX1_threadLying 34 = .ok (.iload_n 3, 1) := by decide +kernel
theorem dX1_threadLying_35 : decode cX1_threadLying 35 = .ok (.iaload, 1) := by decide +kernel
theorem dX1_threadLying_36 : decode cX1_threadLying 36 = .ok (.invokevirtual 105, 3) := by decide +kernel
theorem dX1_threadLying_39 : decode cX1_threadLying 39 = .ok (.getfield 108, 3) := by decide +kernel
theorem dX1_threadLying_42 : decode cX1_threadLying 42 = .ok (.iadd, 1) := by decide +kernel
theorem dX1_threadLying_43 : decode cX1_threadLying 43 = .ok (.istore_n 2, 1) := by decide +kernel
theorem dX1_threadLying_44 : decode cX1_threadLying 44 = .ok (.iinc 3 1, 3) := by decide +kernel
theorem dX1_threadLying_47 : decode cX1_threadLying 47 = .ok (.goto (-43), 3) := by decide +kernel
theorem dX1_threadLying_50 : decode cX1_threadLying 50 = .ok (.iload_n 2, 1) := by decide +kernel
theorem dX1_threadLying_51 : decode cX1_threadLying 51 = .ok (.ireturn, 1) := by decide +kernel
theorem dX2_init_0 : decode cX2_init 0 = .ok (.aload_n 0, 1) := by decide +kernel
theorem dX2_init_1 : decode cX2_init 1 = .ok (.invokespecial 3, 3) := by decide +kernel
theorem dX2_init_4 : decode cX2_init 4 = .ok (.aload_n 0, 1) := by decide +kernel
theorem dX2_init_5 : decode cX2_init 5 = .ok (.bipush 60, 2) := by decide +kernel
theorem dX2_init_7 : decode cX2_init 7 = .ok (.newarray .char, 2) := by decide +kernel
theorem dX2_init_9 : decode cX2_init 9 = .ok (.putfield 9, 3) := by decide +kernel
theorem dX2_init_12 : decode cX2_init 12 = .ok (.return_, 1) := by decide +kernel
end
section
theorem dX3_init_0 : decode cX3_init 0 = .ok (.aload_n 0, 1) := by decide +kernel
theorem dX3_init_1 : decode cX3_init 1 = .ok (.invokespecial 3, 3) := by decide +kernel
theorem dX3_init_4 : decode cX3_init 4 = .ok (.aload_n 0, 1) := by decide +kernel
theorem dX3_init_5 : decode cX3_init 5 = .ok (.sipush 144, 3) := by decide +kernel
theorem dX3_init_8 : decode cX3_init 8 = .ok (.newarray .int, 2) := by decide +kernel
theorem dX3_init_10 : decode cX3_init 10 = .ok (.putfield 9, 3) := by decide +kernel
theorem dX3_init_13 : decode cX3_init 13 = .ok (.aload_n 0, 1) := by decide +kernel
theorem dX3_init_14 : decode cX3_init 14 = .ok (.new 13, 3) := by decide +kernel
theorem dX3_init_17 : decode cX3_init 17 = .ok (.dup, 1) := by decide +kernel
theorem dX3_init_18 : decode cX3_init 18 = .ok (.invokespecial 15, 3) := by decide +kernel
theorem dX3_init_21 : decode cX3_init 21 = .ok (.putfield 16, 3) := by decide +kernel
theorem dX3_init_24 : decode cX3_init 24 = .ok (.aload_n 0, 1) := by decide +kernel
theorem dX3_init_25 : decode cX3_init 25 = .ok (.iconst 2, 1) := by decide +kernel
theorem dX3_init_26 : decode cX3_init 26 = .ok (.anewarray 20, 3) := by decide +kernel
theorem dX3_init_29 : decode cX3_init 29 = .ok (.putfield 22, 3) := by decide +kernel
theorem dX3_init_32 : decode cX3_init 32 = .ok (.aload_n 0, 1) := by decide +kernel
theorem dX3_init_33 : decode cX3_init 33 = .ok (.bipush 6, 2) := by decide +kernel
theorem dX3_init_35 : decode cX3_init 35 = .ok (.anewarray 20, 3) := by decide +kernel
theorem dX3_init_38 : decode cX3_init 38 = .ok (.putfield 26, 3) := by decide +kernel
theorem dX3_init_41 : decode cX3_init 41 = .ok (.sipush 276, 3) := by decide +kernel
theorem dX3_init_44 : decode cX3_init 44 = .ok (.anewarray 29, 3) := by decide +kernel
theorem dX3_init_47 : decode cX3_init 47 = .ok (.astore_n 1, 1) := by decide +kernel
theorem dX3_init_48 : decode cX3_init 48 = .ok (.aload_n 0, 1) := by decide +kernel
theorem dX3_init_49 : decode cX3_init 49 = .ok (.new 20, 3) := by decide +kernel
theorem dX3_init_52 : decode cX3_init 52 = .ok (.dup, 1) := by decide +kernel
theorem dX3_init_53 : decode cX3_init 53 = .ok (.aload_n 1, 1) := by decide +kernel
theorem dX3_init_54 : decode cX3_init 54 = .ok (.invokespecial 31, 3) := by decide +kernel
theorem dX3_init_57 : decode cX3_init 57 = .ok (.putfield 34, 3) := by decide +kernel
theorem dX3_init_60 : decode cX3_init 60 = .ok (.aload_n 0, 1) := by decide +kernel
theorem dX3_init_61 : decode cX3_init 61 = .ok (.new 20, 3) := by decide +kernel
theorem dX3_init_64 : decode cX3_init 64 = .ok (.dup, 1) := by decide +kernel
theorem dX3_init_65 : decode cX3_init 65 = .ok (.aload_n 1, 1) := by decide +kernel
theorem dX3_init_66 : decode cX3_init 66 = .ok (.invokespecial 31, 3) := by decide +kernel
theorem dX3_init_69 : decode cX3_init 69 = .ok (.putfield 38, 3) := by decide +kernel
theorem dX3_init_72 : decode cX3_init 72 = .ok (.return_, 1) := by decide +kernel
theorem dX3_nails_0 : decode cX3_nails 0 = .ok (.iload_n 1, 1) := by decide +kernel
theorem dX3_nails_1 : decode cX3_nails 1 = .ok (.invokestatic 41, 3) := by decide +kernel
theorem dX3_nails_4 : decode cX3_nails 4 = .ok (.istore_n 2, 1) := by decide +kernel
theorem dX3_nails_5 : decode cX3_nails 5 = .ok (.iload_n 2, 1) := by decide +kernel
theorem dX3_nails_6 : decode cX3_nails 6 = .ok (.iconst (-1), 1) := by decide +kernel
theorem dX3_nails_7 : decode cX3_nails 7 = .ok (.if_icmp .ne 13, 3) := by decide +kernel
theorem dX3_nails_10 : decode cX3_nails 10 = .ok (.new 45, 3) := by decide +kernel
theorem dX3_nails_13 : decode cX3_nails 13 = .ok (.dup, 1) := by decide +kernel
theorem dX3_nails_14 : decode cX3_nails 14 = .ok (.ldc 47, 2) := by decide +kernel
theorem dX3_nails_16 : decode cX3_nails 16 = .ok (.invokespecial 49, 3) := by decide +kernel
theorem dX3_nails_19 : decode cX3_nails 19 = .ok (.athrow, 1) := by decide +kernel
theorem dX3_nails_20 : decode cX3_nails 20 = .ok (.aload_n 0, 1) := by decide +kernel
theorem dX3_nails_21 : decode cX3_nails 21 = .ok (.invokevirtual 52, 3) := by decide +kernel
theorem dX3_nails_24 : decode cX3_nails 24 = .ok (.aload_n 0, 1) := by decide +kernel
theorem dX3_nails_25 : decode cX3_nails 25 = .ok (.getfield 34, 3) := by decide +kernel
theorem dX3_nails_28 : decode cX3_nails 28 = .ok (.getfield 55, 3) := by decide +kernel
theorem dX3_nails_31 : decode cX3_nails 31 = .ok (.istore_n 3, 1) := by decide +kernel
theorem dX3_nails_32 : decode cX3_nails 32 = .ok (.aload_n 0, 1) := by decide +kernel
theorem dX3_nails_33 : decode cX3_nails 33 = .ok (.getfield 34, 3) := by decide +kernel
theorem dX3_nails_36 : decode cX3_nails 36 = .ok (.invokevirtual 59, 3) := by decide +kernel
theorem dX3_nails_39 : decode cX3_nails 39 = .ok (.aload_n 0, 1) := by decide +kernel
theorem dX3_nails_40 : decode cX3_nails 40 = .ok (.getfield 34, 3) := by decide +kernel
theorem dX3_nails_43 : decode cX3_nails 43 = .ok (.iload_n 1, 1) := by decide +kernel
theorem dX3_nails_44 : decode cX3_nails 44 = .ok (.putfield 55, 3) := by decide +kernel
theorem dX3_nails_47 : decode cX3_nails 47 = .ok (.aload_n 0, 1) := by decide +kernel
theorem dX3_nails_48 : decode cX3_nails 48 = .ok (.getfield 34, 3) := by decide +kernel
theorem dX3_nails_51 : decode cX3_nails 51 = .ok (.iload_n 2, 1) := by decide +kernel
theorem dX3_nails_52 : decode cX3_nails 52 = .ok (.putfield 62, 3) := by decide +kernel
theorem dX3_nails_55 : decode cX3_nails 55 = .ok (.aload_n 0, 1) := by decide +kernel
theorem dX3_nails_56 : decode cX3_nails 56 = .ok (.getfield 34, 3) := by decide +kernel
theorem dX3_nails_59 : decode cX3_nails 59 = .ok (.iconst 0, 1) := by decide +kernel
theorem dX3_nails_60 : decode cX3_nails 60 = .ok (.putfield 65, 3) := by decide +kernel
theorem dX3_nails_63 : decode cX3_nails 63 = .ok (.iload_n 3, 1) := by decide +kernel
theorem dX3_nails_64 : decode cX3_nails 64 = .ok (.ireturn, 1) := by decide +kernel
theorem dX3_spool_0 : decode cX3_spool 0 = .ok (.iload_n 1, 1) := by decide +kernel
theorem dX3_spool_1 : decode cX3_spool 1 = .ok (.invokestatic 68, 3) := by decide +kernel
theorem dX3_spool_4 : decode cX3_spool 4 = .ok (.iload_n 2, 1) := by decide +kernel
theorem dX3_spool_5 : decode cX3_spool 5 = .ok (.iconst 1, 1) := by decide +kernel
theorem dX3_spool_6 : decode cX3_spool 6 = .ok (.bipush 9, 2) := by decide +kernel
theorem dX3_spool_8 : decode cX3_spool 8 = .ok (.invokestatic 72, 3) := by decide +kernel
theorem dX3_spool_11 : decode cX3_spool 11 = .ok (.iload_n 3, 1) := by decide +kernel
theorem dX3_spool_12 : decode cX3_spool 12 = .ok (.iconst 0, 1) := by decide +kernel
theorem dX3_spool_13 : decode cX3_spool 13 = .ok (.sipush 9999, 3) := by decide +kernel
theorem dX3_spool_16 : decode cX3_spool 16 = .ok (.invokestatic 72, 3) := by decide +kernel
theorem dX3_spool_19 : decode cX3_spool 19 = .ok (.iload_n 1, 1) := by decide +kernel
theorem dX3_spool_20 : decode cX3_spool 20 = .ok (.aload_n 0, 1) := by decide +kernel
theorem dX3_spool_21 : decode cX3_spool 21 = .ok (.getfield 34, 3) := by decide +kernel
theorem dX3_spool_24 : decode cX3_spool 24 = .ok (.getfield 76, 3) := by decide +kernel
theorem dX3_spool_27 : decode cX3_spool 27 = .ok (.if_icmp .eq 14, 3) := by decide +kernel
theorem dX3_spool_30 : decode cX3_spool 30 = .ok (.aload_n 0, 1) := by decide +kernel
theorem dX3_spool_31 : decode cX3_spool 31 = .ok (.getfield 34, 3) := by decide +kernel
theorem dX3_spool_34 : decode cX3_spool 34 = .ok (.iload_n 1, 1) := by decide +kernel
theorem dX3_spool_35 : decode cX3_spool 35 = .ok (.invokevirtual 79, 3) := by decide +kernel
theorem dX3_spool_38 : decode cX3_spool 38 = .ok (.ifCond .le 13, 3) := by decide +kernel
theorem dX3_spool_41 : decode cX3_spool 41 = .ok (.new 82, 3) := by decide +kernel
theorem dX3_spool_44 : decode cX3_spool 44 = .ok (.dup, 1) := by decide +kernel
theorem dX3_spool_45 : decode cX3_spool 45 = .ok (.ldc 84, 2) := by decide +kernel
theorem dX3_spool_47 : decode cX3_spool 47 = .ok (.invokespecial 86, 3) := by decide +kernel
theorem dX3_spool_50 : decode cX3_spool 50 = .ok (.athrow, 1) := by decide +kernel
theorem dX3_spool_51 : decode cX3_spool 51 = .ok (.aload_n 0, 1) := by decide +kernel
theorem dX3_spool_52 : decode cX3_spool 52 = .ok (.invokevirtual 52, 3) := by decide +kernel
theorem dX3_spool_55 : decode cX3_spool 55 = .ok (.aload_n 0, 1) := by decide +kernel
theorem dX3_spool_56 : decode cX3_spool 56 = .ok (.getfield 34, 3) := by decide +kernel
theorem dX3_spool_59 : decode cX3_spool 59 = .ok (.getfield 87, 3) := by decide +kernel
theorem dX3_spool_62 : decode cX3_spool 62 = .ok (.iload_n 1, 1) := by decide +kernel
theorem dX3_spool_63 : decode cX3_spool 63 = .ok (.iaload, 1) := by decide +kernel
theorem dX3_spool_64 : decode cX3_spool 64 = .ok (.istore 4, 2) := by decide +kernel
theorem dX3_spool_66 : decode cX3_spool 66 = .ok (.aload_n 0, 1) := by decide +kernel
theorem dX3_spool_67 : decode cX3_spool 67 = .ok (.getfield 34, 3) := by decide +kernel
theorem dX3_spool_70 : decode cX3_spool 70 = .ok (.getfield 90, 3) := by decide +kernel
theorem dX3_spool_73 : decode cX3_spool 73 = .ok (.iload_n 1, 1) := by decide +kernel
theorem dX3_spool_74 : decode cX3_spool 74 = .ok (.iload_n 2, 1) := by decide +kernel
theorem dX3_spool_75 : decode cX3_spool 75 = .ok (.iastore, 1) := by decide +kernel
theorem dX3_spool_76 : decode cX3_spool 76 = .ok (.aload_n 0, 1) := by decide +kernel
theorem dX3_spool_77 : decode cX3_spool 77 = .ok (.getfield 34, 3) := by decide +kernel
theorem dX3_spool_80 : decode cX3_spool 80 = .ok (.getfield 87, 3) := by decide +kernel
theorem dX3_spool_83 : decode cX3_spool 83 = .ok (.iload_n 1, 1) := by decide +kernel
theorem dX3_spool_84 : decode cX3_spool 84 = .ok (.iload_n 3, 1) := by decide +kernel
theorem dX3_spool_85 : decode cX3_spool 85 = .ok (.iastore, 1) := by decide +kernel
theorem dX3_spool_86 : decode cX3_spool 86 = .ok (.iload 4, 2) := by decide +kernel
theorem dX3_spool_88 : decode cX3_spool 88 = .ok (.ireturn, 1) := by decide +kernel
theorem dX3_knot_0 : decode cX3_knot 0 = .ok (.iload_n 1, 1) := by decide +kernel
theorem dX3_knot_1 : decode cX3_knot 1 = .ok (.invokestatic 68, 3) := by decide +kernel
theorem dX3_knot_4 : decode cX3_knot 4 = .ok (.iload_n 1, 1) := by decide +kernel
theorem dX3_knot_5 : decode cX3_knot 5 = .ok (.aload_n 0, 1) := by decide +kernel
theorem dX3_knot_6 : decode cX3_knot 6 = .ok (.getfield 34, 3) := by decide +kernel
theorem dX3_knot_9 : decode cX3_knot 9 = .ok (.getfield 76, 3) := by decide +kernel
theorem dX3_knot_12 : decode cX3_knot 12 = .ok (.if_icmp .ne 13, 3) := by decide +kernel
theorem dX3_knot_15 : decode cX3_knot 15 = .ok (.new 82, 3) := by decide +kernel
theorem dX3_knot_18 : decode cX3_knot 18 = .ok (.dup, 1) := by decide +kernel
theorem dX3_knot_19 : decode cX3_knot 19 = .ok (.ldc 93, 2) := by decide +kernel
theorem dX3_knot_21 : decode cX3_knot 21 = .ok (.invokespecial 86, 3) := by decide +kernel
theorem dX3_knot_24 : decode cX3_knot 24 = .ok (.athrow, 1) := by decide +kernel
theorem dX3_knot_25 : decode cX3_knot 25 = .ok (.aload_n 0, 1) := by decide +kernel
theorem dX3_knot_26 : decode cX3_knot 26 = .ok (.invokevirtual 52, 3) := by decide +kernel
theorem dX3_knot_29 : decode cX3_knot 29 = .ok (.aload_n 0, 1) := by decide +kernel
theorem dX3_knot_30 : decode cX3_knot 30 = .ok (.getfield 34, 3) := by decide +kernel
theorem dX3_knot_33 : decode cX3_knot 33 = .ok (.iload_n 1, 1) := by decide +kernel
theorem dX3_knot_34 : decode cX3_knot 34 = .ok (.putfield 76, 3) := by decide +kernel
theorem dX3_knot_37 : decode cX3_knot 37 = .ok (.aload_n 0, 1) := by decide +kernel
theorem dX3_knot_38 : decode cX3_knot 38 = .ok (.getfield 34, 3) := by decide +kernel
theorem dX3_knot_41 : decode cX3_knot 41 = .ok (.dup, 1) := by decide +kernel
theorem dX3_knot_42 : decode cX3_knot 42 = .ok (.getfield 95, 3) := by decide +kernel
theorem dX3_knot_45 : decode cX3_knot 45 = .ok (.iconst 1, 1) := by decide +kernel
theorem dX3_knot_46 : decode cX3_knot 46 = .ok (.iadd, 1) := by decide +kernel
theorem dX3_knot_47 : decode cX3_knot 47 = .ok (.putfield 95, 3) := by decide +kernel
theorem dX3_knot_50 : decode cX3_knot 50 = .ok (.aload_n 0, 1) := by decide +kernel
theorem dX3_knot_51 : decode cX3_knot 51 = .ok (.getfield 34, 3) := by decide +kernel
theorem dX3_knot_54 : decode cX3_knot 54 = .ok (.getfield 95, 3) := by decide +kernel
theorem dX3_knot_57 : decode cX3_knot 57 = .ok (.ireturn, 1) := by decide +kernel
theorem dX3_set_0 : decode cX3_set 0 = .ok (.iload_n 1, 1) := by decide +kernel
theorem dX3_set_1 : decode cX3_set 1 = .ok (.invokestatic 98, 3) := by decide +kernel
theorem dX3_set_4 : decode cX3_set 4 = .ok (.iload_n 2, 1) := by decide +kernel
theorem dX3_set_5 : decode cX3_set 5 = .ok (.iconst 1, 1) := by decide +kernel
theorem dX3_set_6 : decode cX3_set 6 = .ok (.getstatic 101, 3) := by decide +kernel
theorem dX3_set_9 : decode cX3_set 9 = .ok (.iload_n 1, 1) := by decide +kernel
theorem dX3_set_10 : decode cX3_set 10 = .ok (.iaload, 1) := by decide +kernel
theorem dX3_set_11 : decode cX3_set 11 = .ok (.invokestatic 72, 3) := by decide +kernel
theorem dX3_set_14 : decode cX3_set 14 = .ok (.aload_n 0, 1) := by decide +kernel
theorem dX3_set_15 : decode cX3_set 15 = .ok (.invokevirtual 52, 3) := by decide +kernel
theorem dX3_set_18 : decode cX3_set 18 = .ok (.aload_n 0, 1) := by decide +kernel
theorem dX3_set_19 : decode cX3_set 19 = .ok (.getfield 34, 3) := by decide +kernel
theorem dX3_set_22 : decode cX3_set 22 = .ok (.getfield 104, 3) := by decide +kernel
theorem dX3_set_25 : decode cX3_set 25 = .ok (.iload_n 1, 1) := by decide +kernel
theorem dX3_set_26 : decode cX3_set 26 = .ok (.iaload, 1) := by decide +kernel
theorem dX3_set_27 : decode cX3_set 27 = .ok (.istore_n 3, 1) := by decide +kernel
theorem dX3_set_28 : decode cX3_set 28 = .ok (.aload_n 0, 1) := by decide +kernel
theorem dX3_set_29 : decode cX3_set 29 = .ok (.getfield 34, 3) := by decide +kernel
theorem dX3_set_32 : decode cX3_set 32 = .ok (.getfield 104, 3) := by decide +kernel
theorem dX3_set_35 : decode cX3_set 35 = .ok (.iload_n 1, 1) := by decide +kernel
theorem dX3_set_36 : decode cX3_set 36 = .ok (.iload_n 2, 1) := by decide +kernel
theorem dX3_set_37 : decode cX3_set 37 = .ok (.iastore, 1) := by decide +kernel
theorem dX3_set_38 : decode cX3_set 38 = .ok (.iload_n 3, 1) := by decide +kernel
theorem dX3_set_39 : decode cX3_set 39 = .ok (.ireturn, 1) := by decide +kernel
theorem dX3_wind_0 : decode cX3_wind 0 = .ok (.aload_n 0, 1) := by decide +kernel
theorem dX3_wind_1 : decode cX3_wind 1 = .ok (.iload_n 1, 1) := by decide +kernel
theorem dX3_wind_2 : decode cX3_wind 2 = .ok (.invokevirtual 107, 3) := by decide +kernel
theorem dX3_wind_5 : decode cX3_wind 5 = .ok (.aload_n 0, 1) := by decide +kernel
theorem dX3_wind_6 : decode cX3_wind 6 = .ok (.getfield 34, 3) := by decide +kernel
theorem dX3_wind_9 : decode cX3_wind 9 = .ok (.getfield 110, 3) := by decide +kernel
theorem dX3_wind_12 : decode cX3_wind 12 = .ok (.sipush 200, 3) := by decide +kernel
theorem dX3_wind_15 : decode cX3_wind 15 = .ok (.if_icmp .lt 13, 3) := by decide +kernel
theorem dX3_wind_18 : decode cX3_wind 18 = .ok (.new 82, 3) := by decide +kernel
theorem dX3_wind_21 : decode cX3_wind 21 = .ok (.dup, 1) := by decide +kernel
theorem dX3_wind_22 : decode cX3_wind 22 = .ok (.ldc 113, 2) := by decide +kernel
theorem dX3_wind_24 : decode cX3_wind 24 = .ok (.invokespecial 86, 3) := by decide +kernel
theorem dX3_wind_27 : decode cX3_wind 27 = .ok (.athrow, 1) := by decide +kernel
theorem dX3_wind_28 : decode cX3_wind 28 = .ok (.aload_n 0, 1) := by decide +kernel
theorem dX3_wind_29 : decode cX3_wind 29 = .ok (.invokevirtual 52, 3) := by decide +kernel
theorem dX3_wind_32 : decode cX3_wind 32 = .ok (.aload_n 0, 1) := by decide +kernel
theorem dX3_wind_33 : decode cX3_wind 33 = .ok (.getfield 34, 3) := by decide +kernel
theorem dX3_wind_36 : decode cX3_wind 36 = .ok (.iload_n 1, 1) := by decide +kernel
theorem dX3_wind_37 : decode cX3_wind 37 = .ok (.invokevirtual 115, 3) := by decide +kernel
theorem dX3_wind_40 : decode cX3_wind 40 = .ok (.istore_n 2, 1) := by decide +kernel
theorem dX3_wind_41 : decode cX3_wind 41 = .ok (.iload_n 2, 1) := by decide +kernel
theorem dX3_wind_42 : decode cX3_wind 42 = .ok (.ifCond .ne 27, 3) := by decide +kernel
theorem dX3_wind_45 : decode cX3_wind 45 = .ok (.aload_n 0, 1) := by decide +kernel
theorem dX3_wind_46 : decode cX3_wind 46 = .ok (.getfield 34, 3) := by decide +kernel
theorem dX3_wind_49 : decode cX3_wind 49 = .ok (.iload_n 1, 1) := by decide +kernel
theorem dX3_wind_50 : decode cX3_wind 50 = .ok (.invokevirtual 118, 3) := by decide +kernel
theorem dX3_wind_53 : decode cX3_wind 53 = .ok (.aload_n 0, 1) := by decide +kernel
theorem dX3_wind_54 : decode cX3_wind 54 = .ok (.getfield 34, 3) := by decide +kernel
theorem dX3_wind_57 : decode cX3_wind 57 = .ok (.dup, 1) := by decide +kernel
theorem dX3_wind_58 : decode cX3_wind 58 = .ok (.getfield 121, 3) := by decide +kernel
theorem dX3_wind_61 : decode cX3_wind 61 = .ok (.iconst 1, 1) := by decide +kernel
theorem dX3_wind_62 : decode cX3_wind 62 = .ok (.iadd, 1) := by decide +kernel
theorem dX3_wind_63 : decode cX3_wind 63 = .ok (.putfield 121, 3) := by decide +kernel
theorem dX3_wind_66 : decode cX3_wind 66 = .ok (.goto 16, 3) := by decide +kernel
theorem dX3_wind_69 : decode cX3_wind 69 = .ok (.aload_n 0, 1) := by decide +kernel
theorem dX3_wind_70 : decode cX3_wind 70 = .ok (.getfield 34, 3) := by decide +kernel
theorem dX3_wind_73 : decode cX3_wind 73 = .ok (.dup, 1) := by decide +kernel
theorem dX3_wind_74 : decode cX3_wind 74 = .ok (.getfield 124, 3) := by decide +kernel
theorem dX3_wind_77 : decode cX3_wind 77 = .ok (.iconst 1, 1) := by decide +kernel
theorem dX3_wind_78 : decode cX3_wind 78 = .ok (.iadd, 1) := by decide +kernel
theorem dX3_wind_79 : decode cX3_wind 79 = .ok (.putfield 124, 3) := by decide +kernel
theorem dX3_wind_82 : decode cX3_wind 82 = .ok (.iload_n 2, 1) := by decide +kernel
theorem dX3_wind_83 : decode cX3_wind 83 = .ok (.ireturn, 1) := by decide +kernel
theorem dX3_unwind_0 : decode cX3_unwind 0 = .ok (.aload_n 0, 1) := by decide +kernel
theorem dX3_unwind_1 : decode cX3_unwind 1 = .ok (.getfield 34, 3) := by decide +kernel
theorem dX3_unwind_4 : decode cX3_unwind 4 = .ok (.getfield 110, 3) := by decide +kernel
theorem dX3_unwind_7 : decode cX3_unwind 7 = .ok (.ifCond .ne 13, 3) := by decide +kernel
theorem dX3_unwind_10 : decode cX3_unwind 10 = .ok (.new 82, 3) := by decide +kernel
theorem dX3_unwind_13 : decode cX3_unwind 13 = .ok (.dup, 1) := by decide +kernel
theorem dX3_unwind_14 : decode cX3_unwind 14 = .ok (.ldc 127, 2) := by decide +kernel
theorem dX3_unwind_16 : decode cX3_unwind 16 = .ok (.invokespecial 86, 3) := by decide +kernel
theorem dX3_unwind_19 : decode cX3_unwind 19 = .ok (.athrow, 1) := by decide +kernel
theorem dX3_unwind_20 : decode cX3_unwind 20 = .ok (.aload_n 0, 1) := by decide +kernel
theorem dX3_unwind_21 : decode cX3_unwind 21 = .ok (.invokevirtual 52, 3) := by decide +kernel
theorem dX3_unwind_24 : decode cX3_unwind 24 = .ok (.aload_n 0, 1) := by decide +kernel
theorem dX3_unwind_25 : decode cX3_unwind 25 = .ok (.getfield 34, 3) := by decide +kernel
theorem dX3_unwind_28 : decode cX3_unwind 28 = .ok (.invokevirtual 129, 3) := by decide +kernel
theorem dX3_unwind_31 : decode cX3_unwind 31 = .ok (.aload_n 0, 1) := by decide +kernel
theorem dX3_unwind_32 : decode cX3_unwind 32 = .ok (.getfield 34, 3) := by decide +kernel
theorem dX3_unwind_35 : decode cX3_unwind 35 = .ok (.getfield 65, 3) := by decide +kernel
theorem dX3_unwind_38 : decode cX3_unwind 38 = .ok (.ireturn, 1) := by decide +kernel
theorem dX3_windBest_0 : decode cX3_windBest 0 = .ok (.iload_n 1, 1) := by decide +kernel
theorem dX3_windBest_1 : decode cX3_windBest 1 = .ok (.iconst 1, 1) := by decide +kernel
theorem dX3_windBest_2 : decode cX3_windBest 2 = .ok (.bipush 50, 2) := by decide +kernel
theorem dX3_windBest_4 : decode cX3_windBest 4 = .ok (.invokestatic 72, 3) := by decide +kernel
theorem dX3_windBest_7 : decode cX3_windBest 7 = .ok (.aload_n 0, 1) := by decide +kernel
theorem dX3_windBest_8 : decode cX3_windBest 8 = .ok (.invokevirtual 52, 3) := by decide +kernel
theorem dX3_windBest_11 : decode cX3_windBest 11 = .ok (.iconst 0, 1) := by decide +kernel
theorem dX3_windBest_12 : decode cX3_windBest 12 = .ok (.istore_n 2, 1) := by decide +kernel
theorem dX3_windBest_13 : decode cX3_windBest 13 = .ok (.iload_n 2, 1) := by decide +kernel
theorem dX3_windBest_14 : decode cX3_windBest 14 = .ok (.iload_n 1, 1) := by decide +kernel
theorem dX3_windBest_15 : decode cX3_windBest 15 = .ok (.if_icmp .ge 69, 3) := by decide +kernel
theorem dX3_windBest_18 : decode cX3_windBest 18 = .ok (.aload_n 0, 1) := by decide +kernel
theorem dX3_windBest_19 : decode cX3_windBest 19 = .ok (.getfield 34, 3) := by decide +kernel
theorem dX3_windBest_22 : decode cX3_windBest 22 = .ok (.invokevirtual 132, 3) := by decide +kernel
theorem dX3_windBest_25 : decode cX3_windBest 25 = .ok (.istore_n 3, 1) := by decide +kernel
theorem dX3_windBest_26 : decode cX3_windBest 26 = .ok (.iload_n 3, 1) := by decide +kernel
theorem dX3_windBest_27 : decode cX3_windBest 27 = .ok (.iconst (-1), 1) := by decide +kernel
theorem dX3_windBest_28 : decode cX3_windBest 28 = .ok (.if_icmp .eq 27, 3) := by decide +kernel
theorem dX3_windBest_31 : decode cX3_windBest 31 = .ok (.aload_n 0, 1) := by decide +kernel
theorem dX3_windBest_32 : decode cX3_windBest 32 = .ok (.getfield 34, 3) := by decide +kernel
theorem dX3_windBest_35 : decode cX3_windBest 35 = .ok (.getfield 110, 3) := by decide +kernel
theorem dX3_windBest_38 : decode cX3_windBest 38 = .ok (.sipush 200, 3) := by decide +kernel
theorem dX3_windBest_41 : decode cX3_windBest 41 = .ok (.if_icmp .ge 14, 3) := by decide +kernel
theorem dX3_windBest_44 : decode cX3_windBest 44 = .ok (.aload_n 0, 1) := by decide +kernel
theorem dX3_windBest_45 : decode cX3_windBest 45 = .ok (.getfield 34, 3) := by decide +kernel
theorem dX3_windBest_48 : decode cX3_windBest 48 = .ok (.iload_n 3, 1) := by decide +kernel
theorem dX3_windBest_49 : decode cX3_windBest 49 = .ok (.invokevirtual 136, 3) := by decide +kernel
theorem dX3_windBest_52 : decode cX3_windBest 52 = .ok (.ifCond .gt 5, 3) := by decide +kernel
theorem dX3_windBest_55 : decode cX3_windBest 55 = .ok (.iload_n 2, 1) := by decide +kernel
theorem dX3_windBest_56 : decode cX3_windBest 56 = .ok (.ireturn, 1) := by decide +kernel
theorem dX3_windBest_57 : decode cX3_windBest 57 = .ok (.aload_n 0, 1) := by decide +kernel
theorem dX3_windBest_58 : decode cX3_windBest 58 = .ok (.getfield 34, 3) := by decide +kernel
theorem dX3_windBest_61 : decode cX3_windBest 61 = .ok (.iload_n 3, 1) := by decide +kernel
theorem dX3_windBest_62 : decode cX3_windBest 62 = .ok (.invokevirtual 118, 3) := by decide +kernel
theorem dX3_windBest_65 : decode cX3_windBest 65 = .ok (.aload_n 0, 1) := by decide +kernel
theorem dX3_windBest_66 : decode cX3_windBest 66 = .ok (.getfield 34, 3) := by decide +kernel
theorem dX3_windBest_69 : decode cX3_windBest 69 = .ok (.dup, 1) := by decide +kernel
theorem dX3_windBest_70 : decode cX3_windBest 70 = .ok (.getfield 121, 3) := by decide +kernel
theorem dX3_windBest_73 : decode cX3_windBest 73 = .ok (.iconst 1, 1) := by decide +kernel
theorem dX3_windBest_74 : decode cX3_windBest 74 = .ok (.iadd, 1) := by decide +kernel
theorem dX3_windBest_75 : decode cX3_windBest 75 = .ok (.putfield 121, 3) := by decide +kernel
theorem dX3_windBest_78 : decode cX3_windBest 78 = .ok (.iinc 2 1, 3) := by decide +kernel
theorem dX3_windBest_81 : decode cX3_windBest 81 = .ok (.goto (-68), 3) := by decide +kernel
theorem dX3_windBest_84 : decode cX3_windBest 84 = .ok (.iload_n 1, 1) := by decide +kernel
theorem dX3_windBest_85 : decode cX3_windBest 85 = .ok (.ireturn, 1) := by decide +kernel
theorem dX3_want_0 : decode cX3_want 0 = .ok (.iload_n 1, 1) := by decide +kernel
theorem dX3_want_1 : decode cX3_want 1 = .ok (.iload_n 2, 1) := by decide +kernel
theorem dX3_want_2 : decode cX3_want 2 = .ok (.invokestatic 139, 3) := by decide +kernel
theorem dX3_want_5 : decode cX3_want 5 = .ok (.iload_n 3, 1) := by decide +kernel
theorem dX3_want_6 : decode cX3_want 6 = .ok (.iconst 0, 1) := by decide +kernel
theorem dX3_want_7 : decode cX3_want 7 = .ok (.bipush 9, 2) := by decide +kernel
theorem dX3_want_9 : decode cX3_want 9 = .ok (.invokestatic 72, 3) := by decide +kernel
theorem dX3_want_12 : decode cX3_want 12 = .ok (.aload_n 0, 1) := by decide +kernel
theorem dX3_want_13 : decode cX3_want 13 = .ok (.invokevirtual 52, 3) := by decide +kernel
theorem dX3_want_16 : decode cX3_want 16 = .ok (.iload_n 2, 1) := by decide +kernel
theorem dX3_want_17 : decode cX3_want 17 = .ok (.bipush 12, 2) := by decide +kernel
theorem dX3_want_19 : decode cX3_want 19 = .ok (.imul, 1) := by decide +kernel
theorem dX3_want_20 : decode cX3_want 20 = .ok (.iload_n 1, 1) := by decide +kernel
theorem dX3_want_21 : decode cX3_want 21 = .ok (.iadd, 1) := by decide +kernel
theorem dX3_want_22 : decode cX3_want 22 = .ok (.istore 4, 2) := by decide +kernel
theorem dX3_want_24 : decode cX3_want 24 = .ok (.aload_n 0, 1) := by decide +kernel
theorem dX3_want_25 : decode cX3_want 25 = .ok (.getfield 34, 3) := by decide +kernel
theorem dX3_want_28 : decode cX3_want 28 = .ok (.getfield 143, 3) := by decide +kernel
theorem dX3_want_31 : decode cX3_want 31 = .ok (.iload 4, 2) := by decide +kernel
theorem dX3_want_33 : decode cX3_want 33 = .ok (.iaload, 1) := by decide +kernel
theorem dX3_want_34 : decode cX3_want 34 = .ok (.istore 5, 2) := by decide +kernel
theorem dX3_want_36 : decode cX3_want 36 = .ok (.aload_n 0, 1) := by decide +kernel
theorem dX3_want_37 : decode cX3_want 37 = .ok (.getfield 34, 3) := by decide +kernel
theorem dX3_want_40 : decode cX3_want 40 = .ok (.getfield 143, 3) := by decide +kernel
theorem dX3_want_43 : decode cX3_want 43 = .ok (.iload 4, 2) := by decide +kernel
theorem dX3_want_45 : decode cX3_want 45 = .ok (.iload_n 3, 1) := by decide +kernel
theorem dX3_want_46 : decode cX3_want 46 = .ok (.iastore, 1) := by decide +kernel
theorem dX3_want_47 : decode cX3_want 47 = .ok (.iload 5, 2) := by decide +kernel
theorem dX3_want_49 : decode cX3_want 49 = .ok (.ireturn, 1) := by decide +kernel
theorem dX3_turnFace_0 : decode cX3_turnFace 0 = .ok (.iload_n 1, 1) := by decide +kernel
theorem dX3_turnFace_1 : decode cX3_turnFace 1 = .ok (.iconst 0, 1) := by decide +kernel
theorem dX3_turnFace_2 : decode cX3_turnFace 2 = .ok (.iconst 2, 1) := by decide +kernel
theorem dX3_turnFace_3 : decode cX3_turnFace 3 = .ok (.invokestatic 72, 3) := by decide +kernel
theorem dX3_turnFace_6 : decode cX3_turnFace 6 = .ok (.aload_n 0, 1) := by decide +kernel
theorem dX3_turnFace_7 : decode cX3_turnFace 7 = .ok (.invokevirtual 52, 3) := by decide +kernel
theorem dX3_turnFace_10 : decode cX3_turnFace 10 = .ok (.aload_n 0, 1) := by decide +kernel
theorem dX3_turnFace_11 : decode cX3_turnFace 11 = .ok (.getfield 34, 3) := by decide +kernel
theorem dX3_turnFace_14 : decode cX3_turnFace 14 = .ok (.getfield 143, 3) := by decide +kernel
theorem dX3_turnFace_17 : decode cX3_turnFace 17 = .ok (.iconst 0, 1) := by decide +kernel
theorem dX3_turnFace_18 : decode cX3_turnFace 18 = .ok (.aload_n 0, 1) := by decide +kernel
theorem dX3_turnFace_19 : decode cX3_turnFace 19 = .ok (.getfield 9, 3) := by decide +kernel
theorem dX3_turnFace_22 : decode cX3_turnFace 22 = .ok (.iconst 0, 1) := by decide +kernel
theorem dX3_turnFace_23 : decode cX3_turnFace 23 = .ok (.sipush 144, 3) := by decide +kernel
theorem dX3_turnFace_26 : decode cX3_turnFace 26 = .ok (.invokestatic 146, 3) := by decide +kernel
theorem dX3_turnFace_29 : decode cX3_turnFace 29 = .ok (.iconst 0, 1) := by decide +kernel
theorem dX3_turnFace_30 : decode cX3_turnFace 30 = .ok (.istore_n 2, 1) := by decide +kernel
theorem dX3_turnFace_31 : decode cX3_turnFace 31 = .ok (.iload_n 2, 1) := by decide +kernel
theorem dX3_turnFace_32 : decode cX3_turnFace 32 = .ok (.bipush 12, 2) := by decide +kernel
theorem dX3_turnFace_34 : decode cX3_turnFace 34 = .ok (.if_icmp .ge 112, 3) := by decide +kernel
theorem dX3_turnFace_37 : decode cX3_turnFace 37 = .ok (.iconst 0, 1) := by decide +kernel
theorem dX3_turnFace_38 : decode cX3_turnFace 38 = .ok (.istore_n 3, 1) := by decide +kernel
theorem dX3_turnFace_39 : decode cX3_turnFace 39 = .ok (.iload_n 3, 1) := by decide +kernel
theorem dX3_turnFace_40 : decode cX3_turnFace 40 = .ok (.bipush 12, 2) := by decide +kernel
theorem dX3_turnFace_42 : decode cX3_turnFace 42 = .ok (.if_icmp .ge 98, 3) := by decide +kernel
theorem dX3_turnFace_45 : decode cX3_turnFace 45 = .ok (.aload_n 0, 1) := by decide +kernel
theorem dX3_turnFace_46 : decode cX3_turnFace 46 = .ok (.getfield 9, 3) := by decide +kernel
theorem dX3_turnFace_49 : decode cX3_turnFace 49 = .ok (.iload_n 2, 1) := by decide +kernel
theorem dX3_turnFace_50 : decode cX3_turnFace 50 = .ok (.bipush 12, 2) := by decide +kernel
theorem dX3_turnFace_52 : decode cX3_turnFace 52 = .ok (.imul, 1) := by decide +kernel
theorem dX3_turnFace_53 : decode cX3_turnFace 53 = .ok (.iload_n 3, 1) := by decide +kernel
theorem dX3_turnFace_54 : decode cX3_turnFace 54 = .ok (.iadd, 1) := by decide +kernel
theorem dX3_turnFace_55 : decode cX3_turnFace 55 = .ok (.iaload, 1) := by decide +kernel
theorem dX3_turnFace_56 : decode cX3_turnFace 56 = .ok (.istore 4, 2) := by decide +kernel
theorem dX3_turnFace_58 : decode cX3_turnFace 58 = .ok (.iload_n 1, 1) := by decide +kernel
theorem dX3_turnFace_59 : decode cX3_turnFace 59 = .ok (.ifCond .ne 27, 3) := by decide +kernel
theorem dX3_turnFace_62 : decode cX3_turnFace 62 = .ok (.aload_n 0, 1) := by decide +kernel
theorem dX3_turnFace_63 : decode cX3_turnFace 63 = .ok (.getfield 34, 3) := by decide +kernel
theorem dX3_turnFace_66 : decode cX3_turnFace 66 = .ok (.getfield 143, 3) := by decide +kernel
theorem dX3_turnFace_69 : decode cX3_turnFace 69 = .ok (.iload_n 3, 1) := by decide +kernel
theorem dX3_turnFace_70 : decode cX3_turnFace 70 = .ok (.bipush 12, 2) := by decide +kernel
theorem dX3_turnFace_72 : decode cX3_turnFace 72 = .ok (.imul, 1) := by decide +kernel
theorem dX3_turnFace_73 : decode cX3_turnFace 73 = .ok (.bipush 12, 2) := by decide +kernel
theorem dX3_turnFace_75 : decode cX3_turnFace 75 = .ok (.iadd, 1) := by decide +kernel
theorem dX3_turnFace_76 : decode cX3_turnFace 76 = .ok (.iconst 1, 1) := by decide +kernel
theorem dX3_turnFace_77 : decode cX3_turnFace 77 = .ok (.isub, 1) := by decide +kernel
theorem dX3_turnFace_78 : decode cX3_turnFace 78 = .ok (.iload_n 2, 1) := by decide +kernel
theorem dX3_turnFace_79 : decode cX3_turnFace 79 = .ok (.isub, 1) := by decide +kernel
theorem dX3_turnFace_80 : decode cX3_turnFace 80 = .ok (.iload 4, 2) := by decide +kernel
theorem dX3_turnFace_82 : decode cX3_turnFace 82 = .ok (.iastore, 1) := by decide +kernel
theorem dX3_turnFace_83 : decode cX3_turnFace 83 = .ok (.goto 51, 3) := by decide +kernel
theorem dX3_turnFace_86 : decode cX3_turnFace 86 = .ok (.iload_n 1, 1) := by decide +kernel
theorem dX3_turnFace_87 : decode cX3_turnFace 87 = .ok (.iconst 1, 1) := by decide +kernel
theorem dX3_turnFace_88 : decode cX3_turnFace 88 = .ok (.if_icmp .ne 27, 3) := by decide +kernel
theorem dX3_turnFace_91 : decode cX3_turnFace 91 = .ok (.aload_n 0, 1) := by decide +kernel
theorem dX3_turnFace_92 : decode cX3_turnFace 92 = .ok (.getfield 34, 3) := by decide +kernel
theorem dX3_turnFace_95 : decode cX3_turnFace 95 = .ok (.getfield 143, 3) := by decide +kernel
theorem dX3_turnFace_98 : decode cX3_turnFace 98 = .ok (.iload_n 2, 1) := by decide +kernel
theorem dX3_turnFace_99 : decode cX3_turnFace 99 = .ok (.bipush 12, 2) := by decide +kernel
theorem dX3_turnFace_101 : decode cX3_turnFace 101 = .ok (.imul, 1) := by decide +kernel
theorem dX3_turnFace_102 : decode cX3_turnFace 102 = .ok (.bipush 12, 2) := by decide +kernel
theorem dX3_turnFace_104 : decode cX3_turnFace 104 = .ok (.iadd, 1) := by decide +kernel
theorem dX3_turnFace_105 : decode cX3_turnFace 105 = .ok (.iconst 1, 1) := by decide +kernel
theorem dX3_turnFace_106 : decode cX3_turnFace 106 = .ok (.isub, 1) := by decide +kernel
theorem dX3_turnFace_107 : decode cX3_turnFace 107 = .ok (.iload_n 3, 1) := by decide +kernel
theorem dX3_turnFace_108 : decode cX3_turnFace 108 = .ok (.isub, 1) := by decide +kernel
theorem dX3_turnFace_109 : decode cX3_turnFace 109 = .ok (.iload 4, 2) := by decide +kernel
theorem dX3_turnFace_111 : decode cX3_turnFace 111 = .ok (.iastore, 1) := by decide +kernel
theorem dX3_turnFace_112 : decode cX3_turnFace 112 = .ok (.goto 22, 3) := by decide +kernel
theorem dX3_turnFace_115 : decode cX3_turnFace 115 = .ok (.aload_n 0, 1) := by decide +kernel
theorem dX3_turnFace_116 : decode cX3_turnFace 116 = .ok (.getfield 34, 3) := by decide +kernel
theorem dX3_turnFace_119 : decode cX3_turnFace 119 = .ok (.getfield 143, 3) := by decide +kernel
theorem dX3_turnFace_122 : decode cX3_turnFace 122 = .ok (.iload_n 2, 1) := by decide +kernel
theorem dX3_turnFace_123 : decode cX3_turnFace 123 = .ok (.bipush 12, 2) := by decide +kernel
theorem dX3_turnFace_125 : decode cX3_turnFace 125 = .ok (.imul, 1) := by decide +kernel
theorem dX3_turnFace_126 : decode cX3_turnFace 126 = .ok (.iload_n 3, 1) := by decide +kernel
theorem dX3_turnFace_127 : decode cX3_turnFace 127 = .ok (.iadd, 1) := by decide +kernel
theorem dX3_turnFace_128 : decode cX3_turnFace 128 = .ok (.bipush 9, 2) := by decide +kernel
theorem dX3_turnFace_130 : decode cX3_turnFace 130 = .ok (.iload 4, 2) := by decide +kernel
theorem dX3_turnFace_132 : decode cX3_turnFace 132 = .ok (.isub, 1) := by decide +kernel
theorem dX3_turnFace_133 : decode cX3_turnFace 133 = .ok (.iastore, 1) := by decide +kernel
theorem dX3_turnFace_134 : decode cX3_turnFace 134 = .ok (.iinc 3 1, 3) := by decide +kernel
theorem dX3_turnFace_137 : decode cX3_turnFace 137 = .ok (.goto (-98), 3) := by decide +kernel
theorem dX3_turnFace_140 : decode cX3_turnFace 140 = .ok (.iinc 2 1, 3) := by decide +kernel
theorem dX3_turnFace_143 : decode cX3_turnFace 143 = .ok (.goto (-112), 3) := by decide +kernel
theorem dX3_turnFace_146 : decode cX3_turnFace 146 = .ok (.aload_n 0, 1) := by decide +kernel
theorem dX3_turnFace_147 : decode cX3_turnFace 147 = .ok (.getfield 34, 3) := by decide +kernel
theorem dX3_turnFace_150 : decode cX3_turnFace 150 = .ok (.invokevirtual 152, 3) := by decide +kernel
theorem dX3_turnFace_153 : decode cX3_turnFace 153 = .ok (.ireturn, 1) := by decide +kernel
theorem dX3_keep_0 : decode cX3_keep 0 = .ok (.iload_n 1, 1) := by decide +kernel
theorem dX3_keep_1 : decode cX3_keep 1 = .ok (.iconst 0, 1) := by decide +kernel
theorem dX3_keep_2 : decode cX3_keep 2 = .ok (.iconst 1, 1) := by decide +kernel
theorem dX3_keep_3 : decode cX3_keep 3 = .ok (.invokestatic 72, 3) := by decide +kernel
theorem dX3_keep_6 : decode cX3_keep 6 = .ok (.aload_n 0, 1) := by decide +kernel
theorem dX3_keep_7 : decode cX3_keep 7 = .ok (.aload_n 0, 1) := by decide +kernel
theorem dX3_keep_8 : decode cX3_keep 8 = .ok (.getfield 22, 3) := by decide +kernel
theorem dX3_keep_11 : decode cX3_keep 11 = .ok (.iload_n 1, 1) := by decide +kernel
theorem dX3_keep_12 : decode cX3_keep 12 = .ok (.invokevirtual 177, 3) := by decide +kernel
theorem dX3_keep_15 : decode cX3_keep 15 = .ok (.aload_n 0, 1) := by decide +kernel
theorem dX3_keep_16 : decode cX3_keep 16 = .ok (.getfield 34, 3) := by decide +kernel
theorem dX3_keep_19 : decode cX3_keep 19 = .ok (.getfield 110, 3) := by decide +kernel
theorem dX3_keep_22 : decode cX3_keep 22 = .ok (.ireturn, 1) := by decide +kernel
theorem dX3_goBack_0 : decode cX3_goBack 0 = .ok (.iload_n 1, 1) := by decide +kernel
theorem dX3_goBack_1 : decode cX3_goBack 1 = .ok (.iconst 0, 1) := by decide +kernel
theorem dX3_goBack_2 : decode cX3_goBack 2 = .ok (.iconst 1, 1) := by decide +kernel
theorem dX3_goBack_3 : decode cX3_goBack 3 = .ok (.invokestatic 72, 3) := by decide +kernel
theorem dX3_goBack_6 : decode cX3_goBack 6 = .ok (.aload_n 0, 1) := by decide +kernel
theorem dX3_goBack_7 : decode cX3_goBack 7 = .ok (.getfield 22, 3) := by decide +kernel
theorem dX3_goBack_10 : decode cX3_goBack 10 = .ok (.iload_n 1, 1) := by decide +kernel
theorem dX3_goBack_11 : decode cX3_goBack 11 = .ok (.aaload, 1) := by decide +kernel
theorem dX3_goBack_12 : decode cX3_goBack 12 = .ok (.astore_n 2, 1) := by decide +kernel
theorem dX3_goBack_13 : decode cX3_goBack 13 = .ok (.aload_n 2, 1) := by decide +kernel
theorem dX3_goBack_14 : decode cX3_goBack 14 = .ok (.ifnonnull 13, 3) := by decide +kernel
theorem dX3_goBack_17 : decode cX3_goBack 17 = .ok (.new 82, 3) := by decide +kernel
theorem dX3_goBack_20 : decode cX3_goBack 20 = .ok (.dup, 1) := by decide +kernel
theorem dX3_goBack_21 : decode cX3_goBack 21 = .ok (.ldc 181, 2) := by decide +kernel
theorem dX3_goBack_23 : decode cX3_goBack 23 = .ok (.invokespecial 86, 3) := by decide +kernel
theorem dX3_goBack_26 : decode cX3_goBack 26 = .ok (.athrow, 1) := by decide +kernel
theorem dX3_goBack_27 : decode cX3_goBack 27 = .ok (.aload_n 0, 1) := by decide +kernel
theorem dX3_goBack_28 : decode cX3_goBack 28 = .ok (.invokevirtual 52, 3) := by decide +kernel
theorem dX3_goBack_31 : decode cX3_goBack 31 = .ok (.aload_n 0, 1) := by decide +kernel
theorem dX3_goBack_32 : decode cX3_goBack 32 = .ok (.getfield 34, 3) := by decide +kernel
theorem dX3_goBack_35 : decode cX3_goBack 35 = .ok (.aload_n 2, 1) := by decide +kernel
theorem dX3_goBack_36 : decode cX3_goBack 36 = .ok (.invokevirtual 183, 3) := by decide +kernel
theorem dX3_goBack_39 : decode cX3_goBack 39 = .ok (.aload_n 0, 1) := by decide +kernel
theorem dX3_goBack_40 : decode cX3_goBack 40 = .ok (.getfield 34, 3) := by decide +kernel
theorem dX3_goBack_43 : decode cX3_goBack 43 = .ok (.getfield 110, 3) := by decide +kernel
theorem dX3_goBack_46 : decode cX3_goBack 46 = .ok (.ireturn, 1) := by decide +kernel
theorem dX3_undo_0 : decode cX3_undo 0 = .ok (.aload_n 0, 1) := by decide +kernel
theorem dX3_undo_1 : decode cX3_undo 1 = .ok (.getfield 187, 3) := by decide +kernel
theorem dX3_undo_4 : decode cX3_undo 4 = .ok (.ifCond .le 17, 3) := by decide +kernel
theorem dX3_undo_7 : decode cX3_undo 7 = .ok (.aload_n 0, 1) := by decide +kernel
theorem dX3_undo_8 : decode cX3_undo 8 = .ok (.getfield 26, 3) := by decide +kernel
theorem dX3_undo_11 : decode cX3_undo 11 = .ok (.aload_n 0, 1) := by decide +kernel
theorem dX3_undo_12 : decode cX3_undo 12 = .ok (.getfield 187, 3) := by decide +kernel
theorem dX3_undo_15 : decode cX3_undo 15 = .ok (.iconst 1, 1) := by decide +kernel
theorem dX3_undo_16 : decode cX3_undo 16 = .ok (.isub, 1) := by decide +kernel
theorem dX3_undo_17 : decode cX3_undo 17 = .ok (.aaload, 1) := by decide +kernel
theorem dX3_undo_18 : decode cX3_undo 18 = .ok (.goto 4, 3) := by decide +kernel
theorem dX3_undo_21 : decode cX3_undo 21 = .ok (.aconst_null, 1) := by decide +kernel
theorem dX3_undo_22 : decode cX3_undo 22 = .ok (.astore_n 1, 1) := by decide +kernel
theorem dX3_undo_23 : decode cX3_undo 23 = .ok (.aload_n 1, 1) := by decide +kernel
theorem dX3_undo_24 : decode cX3_undo 24 = .ok (.ifnonnull 13, 3) := by decide +kernel
theorem dX3_undo_27 : decode cX3_undo 27 = .ok (.new 82, 3) := by decide +kernel
theorem dX3_undo_30 : decode cX3_undo 30 = .ok (.dup, 1) := by decide +kernel
theorem dX3_undo_31 : decode cX3_undo 31 = .ok (.ldc 190, 2) := by decide +kernel
theorem dX3_undo_33 : decode cX3_undo 33 = .ok (.invokespecial 86, 3) := by decide +kernel
theorem dX3_undo_36 : decode cX3_undo 36 = .ok (.athrow, 1) := by decide +kernel
theorem dX3_undo_37 : decode cX3_undo 37 = .ok (.aload_n 0, 1) := by decide +kernel
theorem dX3_undo_38 : decode cX3_undo 38 = .ok (.getfield 34, 3) := by decide +kernel
theorem dX3_undo_41 : decode cX3_undo 41 = .ok (.aload_n 1, 1) := by decide +kernel
theorem dX3_undo_42 : decode cX3_undo 42 = .ok (.invokevirtual 183, 3) := by decide +kernel
theorem dX3_undo_45 : decode cX3_undo 45 = .ok (.aload_n 0, 1) := by decide +kernel
theorem dX3_undo_46 : decode cX3_undo 46 = .ok (.dup, 1) := by decide +kernel
theorem dX3_undo_47 : decode cX3_undo 47 = .ok (.getfield 187, 3) := by decide +kernel
theorem dX3_undo_50 : decode cX3_undo 50 = .ok (.iconst 1, 1) := by decide +kernel
theorem dX3_undo_51 : decode cX3_undo 51 = .ok (.isub, 1) := by decide +kernel
theorem dX3_undo_52 : decode cX3_undo 52 = .ok (.putfield 187, 3) := by decide +kernel
theorem dX3_undo_55 : decode cX3_undo 55 = .ok (.aload_n 0, 1) := by decide +kernel
theorem dX3_undo_56 : decode cX3_undo 56 = .ok (.getfield 187, 3) := by decide +kernel
theorem dX3_undo_59 : decode cX3_undo 59 = .ok (.ireturn, 1) := by decide +kernel
theorem dX3_nailOf_0 : decode cX3_nailOf 0 = .ok (.aload_n 0, 1) := by decide +kernel
theorem dX3_nailOf_1 : decode cX3_nailOf 1 = .ok (.iload_n 1, 1) := by decide +kernel
theorem dX3_nailOf_2 : decode cX3_nailOf 2 = .ok (.invokevirtual 107, 3) := by decide +kernel
theorem dX3_nailOf_5 : decode cX3_nailOf 5 = .ok (.iload_n 2, 1) := by decide +kernel
theorem dX3_nailOf_6 : decode cX3_nailOf 6 = .ok (.iconst 0, 1) := by decide +kernel
theorem dX3_nailOf_7 : decode cX3_nailOf 7 = .ok (.iconst 3, 1) := by decide +kernel
theorem dX3_nailOf_8 : decode cX3_nailOf 8 = .ok (.invokestatic 72, 3) := by decide +kernel
theorem dX3_nailOf_11 : decode cX3_nailOf 11 = .ok (.iload_n 2, 1) := by decide +kernel
theorem dX3_nailOf_12 : decode cX3_nailOf 12 = .ok (.tableswitch 63 0 2 #[28, 41, 54], 28) := by decide +kernel
theorem dX3_nailOf_40 : decode cX3_nailOf 40 = .ok (.iload_n 1, 1) := by decide +kernel
theorem dX3_nailOf_41 : decode cX3_nailOf 41 = .ok (.aload_n 0, 1) := by decide +kernel
theorem dX3_nailOf_42 : decode cX3_nailOf 42 = .ok (.getfield 34, 3) := by decide +kernel
theorem dX3_nailOf_45 : decode cX3_nailOf 45 = .ok (.getfield 62, 3) := by decide +kernel
theorem dX3_nailOf_48 : decode cX3_nailOf 48 = .ok (.imul, 1) := by decide +kernel
theorem dX3_nailOf_49 : decode cX3_nailOf 49 = .ok (.invokestatic 192, 3) := by decide +kernel
theorem dX3_nailOf_52 : decode cX3_nailOf 52 = .ok (.ireturn, 1) := by decide +kernel
theorem dX3_nailOf_53 : decode cX3_nailOf 53 = .ok (.iload_n 1, 1) := by decide +kernel
theorem dX3_nailOf_54 : decode cX3_nailOf 54 = .ok (.aload_n 0, 1) := by decide +kernel
theorem dX3_nailOf_55 : decode cX3_nailOf 55 = .ok (.getfield 34, 3) := by decide +kernel
theorem dX3_nailOf_58 : decode cX3_nailOf 58 = .ok (.getfield 62, 3) := by decide +kernel
theorem dX3_nailOf_61 : decode cX3_nailOf 61 = .ok (.imul, 1) := by decide +kernel
theorem dX3_nailOf_62 : decode cX3_nailOf 62 = .ok (.invokestatic 195, 3) := by decide +kernel
theorem dX3_nailOf_65 : decode cX3_nailOf 65 = .ok (.ireturn, 1) := by decide +kernel
theorem dX3_nailOf_66 : decode cX3_nailOf 66 = .ok (.aload_n 0, 1) := by decide +kernel
theorem dX3_nailOf_67 : decode cX3_nailOf 67 = .ok (.getfield 34, 3) := by decide +kernel
theorem dX3_nailOf_70 : decode cX3_nailOf 70 = .ok (.iload_n 1, 1) := by decide +kernel
theorem dX3_nailOf_71 : decode cX3_nailOf 71 = .ok (.invokevirtual 198, 3) := by decide +kernel
theorem dX3_nailOf_74 : decode cX3_nailOf 74 = .ok (.ireturn, 1) := by decide +kernel
theorem dX3_nailOf_75 : decode cX3_nailOf 75 = .ok (.iload_n 1, 1) := by decide +kernel
theorem dX3_nailOf_76 : decode cX3_nailOf 76 = .ok (.aload_n 0, 1) := by decide +kernel
theorem dX3_nailOf_77 : decode cX3_nailOf 77 = .ok (.getfield 34, 3) := by decide +kernel
theorem dX3_nailOf_80 : decode cX3_nailOf 80 = .ok (.getfield 65, 3) := by decide +kernel
theorem dX3_nailOf_83 : decode cX3_nailOf 83 = .ok (.if_icmp .ne 7, 3) := by decide +kernel
theorem dX3_nailOf_86 : decode cX3_nailOf 86 = .ok (.iconst 1, 1) := by decide +kernel
theorem dX3_nailOf_87 : decode cX3_nailOf 87 = .ok (.goto 4, 3) := by decide +kernel
theorem dX3_nailOf_90 : decode cX3_nailOf 90 = .ok (.iconst 0, 1) := by decide +kernel
theorem dX3_nailOf_91 : decode cX3_nailOf 91 = .ok (.ireturn, 1) := by decide +kernel
theorem dX3_spoolOf_0 : decode cX3_spoolOf 0 = .ok (.iload_n 1, 1) := by decide +kernel
theorem dX3_spoolOf_1 : decode cX3_spoolOf 1 = .ok (.invokestatic 68, 3) := by decide +kernel
theorem dX3_spoolOf_4 : decode cX3_spoolOf 4 = .ok (.iload_n 2, 1) := by decide +kernel
theorem dX3_spoolOf_5 : decode cX3_spoolOf 5 = .ok (.iconst 0, 1) := by decide +kernel
theorem dX3_spoolOf_6 : decode cX3_spoolOf 6 = .ok (.iconst 4, 1) := by decide +kernel
theorem dX3_spoolOf_7 : decode cX3_spoolOf 7 = .ok (.invokestatic 72, 3) := by decide +kernel
theorem dX3_spoolOf_10 : decode cX3_spoolOf 10 = .ok (.iload_n 2, 1) := by decide +kernel
theorem dX3_spoolOf_11 : decode cX3_spoolOf 11 = .ok (.tableswitch 67 0 3 #[29, 39, 49, 58], 29) := by decide +kernel
theorem dX3_spoolOf_40 : decode cX3_spoolOf 40 = .ok (.aload_n 0, 1) := by decide +kernel
theorem dX3_spoolOf_41 : decode cX3_spoolOf 41 = .ok (.getfield 34, 3) := by decide +kernel
theorem dX3_spoolOf_44 : decode cX3_spoolOf 44 = .ok (.getfield 90, 3) := by decide +kernel
theorem dX3_spoolOf_47 : decode cX3_spoolOf 47 = .ok (.iload_n 1, 1) := by decide +kernel
theorem dX3_spoolOf_48 : decode cX3_spoolOf 48 = .ok (.iaload, 1) := by decide +kernel
theorem dX3_spoolOf_49 : decode cX3_spoolOf 49 = .ok (.ireturn, 1) := by decide +kernel
theorem dX3_spoolOf_50 : decode cX3_spoolOf 50 = .ok (.aload_n 0, 1) := by decide +kernel
theorem dX3_spoolOf_51 : decode cX3_spoolOf 51 = .ok (.getfield 34, 3) := by decide +kernel
theorem dX3_spoolOf_54 : decode cX3_spoolOf 54 = .ok (.getfield 87, 3) := by decide +kernel
theorem dX3_spoolOf_57 : decode cX3_spoolOf 57 = .ok (.iload_n 1, 1) := by decide +kernel
theorem dX3_spoolOf_58 : decode cX3_spoolOf 58 = .ok (.iaload, 1) := by decide +kernel
theorem dX3_spoolOf_59 : decode cX3_spoolOf 59 = .ok (.ireturn, 1) := by decide +kernel
theorem dX3_spoolOf_60 : decode cX3_spoolOf 60 = .ok (.aload_n 0, 1) := by decide +kernel
theorem dX3_spoolOf_61 : decode cX3_spoolOf 61 = .ok (.getfield 34, 3) := by decide +kernel
theorem dX3_spoolOf_64 : decode cX3_spoolOf 64 = .ok (.iload_n 1, 1) := by decide +kernel
theorem dX3_spoolOf_65 : decode cX3_spoolOf 65 = .ok (.invokevirtual 201, 3) := by decide +kernel
theorem dX3_spoolOf_68 : decode cX3_spoolOf 68 = .ok (.ireturn, 1) := by decide +kernel
theorem dX3_spoolOf_69 : decode cX3_spoolOf 69 = .ok (.aload_n 0, 1) := by decide +kernel
theorem dX3_spoolOf_70 : decode cX3_spoolOf 70 = .ok (.getfield 34, 3) := by decide +kernel
theorem dX3_spoolOf_73 : decode cX3_spoolOf 73 = .ok (.iload_n 1, 1) := by decide +kernel
theorem dX3_spoolOf_74 : decode cX3_spoolOf 74 = .ok (.invokevirtual 79, 3) := by decide +kernel
theorem dX3_spoolOf_77 : decode cX3_spoolOf 77 = .ok (.ireturn, 1) := by decide +kernel
theorem dX3_spoolOf_78 : decode cX3_spoolOf 78 = .ok (.iload_n 1, 1) := by decide +kernel
theorem dX3_spoolOf_79 : decode cX3_spoolOf 79 = .ok (.aload_n 0, 1) := by decide +kernel
theorem dX3_spoolOf_80 : decode cX3_spoolOf 80 = .ok (.getfield 34, 3) := by decide +kernel
theorem dX3_spoolOf_83 : decode cX3_spoolOf 83 = .ok (.getfield 76, 3) := by decide +kernel
theorem dX3_spoolOf_86 : decode cX3_spoolOf 86 = .ok (.if_icmp .ne 7, 3) := by decide +kernel
theorem dX3_spoolOf_89 : decode cX3_spoolOf 89 = .ok (.iconst 1, 1) := by decide +kernel
theorem dX3_spoolOf_90 : decode cX3_spoolOf 90 = .ok (.goto 4, 3) := by decide +kernel
theorem dX3_spoolOf_93 : decode cX3_spoolOf 93 = .ok (.iconst 0, 1) := by decide +kernel
theorem dX3_spoolOf_94 : decode cX3_spoolOf 94 = .ok (.ireturn, 1) := by decide +kernel
theorem dX3_wound_0 : decode cX3_wound 0 = .ok (.iload_n 1, 1) := by decide +kernel
theorem dX3_wound_1 : decode cX3_wound 1 = .ok (.ifCond .ge 13, 3) := by decide +kernel
theorem dX3_wound_4 : decode cX3_wound 4 = .ok (.new 45, 3) := by decide +kernel
theorem dX3_wound_7 : decode cX3_wound 7 = .ok (.dup, 1) := by decide +kernel
theorem dX3_wound_8 : decode cX3_wound 8 = .ok (.ldc 216, 2) := by decide +kernel
theorem dX3_wound_10 : decode cX3_wound 10 = .ok (.invokespecial 49, 3) := by decide +kernel
theorem dX3_wound_13 : decode cX3_wound 13 = .ok (.athrow, 1) := by decide +kernel
theorem dX3_wound_14 : decode cX3_wound 14 = .ok (.iload_n 2, 1) := by decide +kernel
theorem dX3_wound_15 : decode cX3_wound 15 = .ok (.iconst 0, 1) := by decide +kernel
theorem dX3_wound_16 : decode cX3_wound 16 = .ok (.iconst 2, 1) := by decide +kernel
theorem dX3_wound_17 : decode cX3_wound 17 = .ok (.invokestatic 72, 3) := by decide +kernel
theorem dX3_wound_20 : decode cX3_wound 20 = .ok (.iload_n 1, 1) := by decide +kernel
theorem dX3_wound_21 : decode cX3_wound 21 = .ok (.aload_n 0, 1) := by decide +kernel
theorem dX3_wound_22 : decode cX3_wound 22 = .ok (.getfield 34, 3) := by decide +kernel
theorem dX3_wound_25 : decode cX3_wound 25 = .ok (.getfield 110, 3) := by decide +kernel
theorem dX3_wound_28 : decode cX3_wound 28 = .ok (.if_icmp .lt 5, 3) := by decide +kernel
theorem dX3_wound_31 : decode cX3_wound 31 = .ok (.iconst (-1), 1) := by decide +kernel
theorem dX3_wound_32 : decode cX3_wound 32 = .ok (.ireturn, 1) := by decide +kernel
theorem dX3_wound_33 : decode cX3_wound 33 = .ok (.aload_n 0, 1) := by decide +kernel
theorem dX3_wound_34 : decode cX3_wound 34 = .ok (.getfield 34, 3) := by decide +kernel
theorem dX3_wound_37 : decode cX3_wound 37 = .ok (.getfield 110, 3) := by decide +kernel
theorem dX3_wound_40 : decode cX3_wound 40 = .ok (.iconst 1, 1) := by decide +kernel
theorem dX3_wound_41 : decode cX3_wound 41 = .ok (.isub, 1) := by decide +kernel
theorem dX3_wound_42 : decode cX3_wound 42 = .ok (.iload_n 1, 1) := by decide +kernel
theorem dX3_wound_43 : decode cX3_wound 43 = .ok (.isub, 1) := by decide +kernel
theorem dX3_wound_44 : decode cX3_wound 44 = .ok (.istore_n 3, 1) := by decide +kernel
theorem dX3_wound_45 : decode cX3_wound 45 = .ok (.iload_n 2, 1) := by decide +kernel
theorem dX3_wound_46 : decode cX3_wound 46 = .ok (.lookupswitch 46 #[(0, 26), (1, 36)], 26) := by decide +kernel
theorem dX3_wound_72 : decode cX3_wound 72 = .ok (.aload_n 0, 1) := by decide +kernel
theorem dX3_wound_73 : decode cX3_wound 73 = .ok (.getfield 34, 3) := by decide +kernel
theorem dX3_wound_76 : decode cX3_wound 76 = .ok (.getfield 218, 3) := by decide +kernel
theorem dX3_wound_79 : decode cX3_wound 79 = .ok (.iload_n 3, 1) := by decide +kernel
theorem dX3_wound_80 : decode cX3_wound 80 = .ok (.iaload, 1) := by decide +kernel
theorem dX3_wound_81 : decode cX3_wound 81 = .ok (.ireturn, 1) := by decide +kernel
theorem dX3_wound_82 : decode cX3_wound 82 = .ok (.aload_n 0, 1) := by decide +kernel
theorem dX3_wound_83 : decode cX3_wound 83 = .ok (.getfield 34, 3) := by decide +kernel
theorem dX3_wound_86 : decode cX3_wound 86 = .ok (.getfield 221, 3) := by decide +kernel
theorem dX3_wound_89 : decode cX3_wound 89 = .ok (.iload_n 3, 1) := by decide +kernel
theorem dX3_wound_90 : decode cX3_wound 90 = .ok (.iaload, 1) := by decide +kernel
theorem dX3_wound_91 : decode cX3_wound 91 = .ok (.ireturn, 1) := by decide +kernel
theorem dX3_wound_92 : decode cX3_wound 92 = .ok (.aload_n 0, 1) := by decide +kernel
theorem dX3_wound_93 : decode cX3_wound 93 = .ok (.getfield 34, 3) := by decide +kernel
theorem dX3_wound_96 : decode cX3_wound 96 = .ok (.getfield 224, 3) := by decide +kernel
theorem dX3_wound_99 : decode cX3_wound 99 = .ok (.iload_n 3, 1) := by decide +kernel
theorem dX3_wound_100 : decode cX3_wound 100 = .ok (.iaload, 1) := by decide +kernel
theorem dX3_wound_101 : decode cX3_wound 101 = .ok (.ireturn, 1) := by decide +kernel
theorem dX3_square_0 : decode cX3_square 0 = .ok (.iload_n 1, 1) := by decide +kernel
theorem dX3_square_1 : decode cX3_square 1 = .ok (.iload_n 2, 1) := by decide +kernel
theorem dX3_square_2 : decode cX3_square 2 = .ok (.invokestatic 139, 3) := by decide +kernel
theorem dX3_square_5 : decode cX3_square 5 = .ok (.iload_n 3, 1) := by decide +kernel
theorem dX3_square_6 : decode cX3_square 6 = .ok (.iconst 0, 1) := by decide +kernel
theorem dX3_square_7 : decode cX3_square 7 = .ok (.iconst 3, 1) := by decide +kernel
theorem dX3_square_8 : decode cX3_square 8 = .ok (.invokestatic 72, 3) := by decide +kernel
theorem dX3_square_11 : decode cX3_square 11 = .ok (.iload_n 2, 1) := by decide +kernel
theorem dX3_square_12 : decode cX3_square 12 = .ok (.bipush 12, 2) := by decide +kernel
theorem dX3_square_14 : decode cX3_square 14 = .ok (.imul, 1) := by decide +kernel
theorem dX3_square_15 : decode cX3_square 15 = .ok (.iload_n 1, 1) := by decide +kernel
theorem dX3_square_16 : decode cX3_square 16 = .ok (.iadd, 1) := by decide +kernel
theorem dX3_square_17 : decode cX3_square 17 = .ok (.istore 4, 2) := by decide +kernel
theorem dX3_square_19 : decode cX3_square 19 = .ok (.iload_n 3, 1) := by decide +kernel
theorem dX3_square_20 : decode cX3_square 20 = .ok (.tableswitch 64 0 2 #[28, 39, 50], 28) := by decide +kernel
theorem dX3_square_48 : decode cX3_square 48 = .ok (.aload_n 0, 1) := by decide +kernel
theorem dX3_square_49 : decode cX3_square 49 = .ok (.getfield 34, 3) := by decide +kernel
theorem dX3_square_52 : decode cX3_square 52 = .ok (.getfield 143, 3) := by decide +kernel
theorem dX3_square_55 : decode cX3_square 55 = .ok (.iload 4, 2) := by decide +kernel
theorem dX3_square_57 : decode cX3_square 57 = .ok (.iaload, 1) := by decide +kernel
theorem dX3_square_58 : decode cX3_square 58 = .ok (.ireturn, 1) := by decide +kernel
theorem dX3_square_59 : decode cX3_square 59 = .ok (.aload_n 0, 1) := by decide +kernel
theorem dX3_square_60 : decode cX3_square 60 = .ok (.getfield 34, 3) := by decide +kernel
theorem dX3_square_63 : decode cX3_square 63 = .ok (.getfield 227, 3) := by decide +kernel
theorem dX3_square_66 : decode cX3_square 66 = .ok (.iload 4, 2) := by decide +kernel
theorem dX3_square_68 : decode cX3_square 68 = .ok (.iaload, 1) := by decide +kernel
theorem dX3_square_69 : decode cX3_square 69 = .ok (.ireturn, 1) := by decide +kernel
theorem dX3_square_70 : decode cX3_square 70 = .ok (.aload_n 0, 1) := by decide +kernel
theorem dX3_square_71 : decode cX3_square 71 = .ok (.getfield 34, 3) := by decide +kernel
theorem dX3_square_74 : decode cX3_square 74 = .ok (.iload 4, 2) := by decide +kernel
theorem dX3_square_76 : decode cX3_square 76 = .ok (.invokevirtual 230, 3) := by decide +kernel
theorem dX3_square_79 : decode cX3_square 79 = .ok (.sipush 10000, 3) := by decide +kernel
theorem dX3_square_82 : decode cX3_square 82 = .ok (.iadd, 1) := by decide +kernel
theorem dX3_square_83 : decode cX3_square 83 = .ok (.ireturn, 1) := by decide +kernel
theorem dX3_square_84 : decode cX3_square 84 = .ok (.aload_n 0, 1) := by decide +kernel
theorem dX3_square_85 : decode cX3_square 85 = .ok (.getfield 34, 3) := by decide +kernel
theorem dX3_square_88 : decode cX3_square 88 = .ok (.getfield 233, 3) := by decide +kernel
theorem dX3_square_91 : decode cX3_square 91 = .ok (.iload 4, 2) := by decide +kernel
theorem dX3_square_93 : decode cX3_square 93 = .ok (.iaload, 1) := by decide +kernel
theorem dX3_square_94 : decode cX3_square 94 = .ok (.ireturn, 1) := by decide +kernel
theorem dX3_count_0 : decode cX3_count 0 = .ok (.iload_n 1, 1) := by decide +kernel
theorem dX3_count_1 : decode cX3_count 1 = .ok (.iconst 0, 1) := by decide +kernel
theorem dX3_count_2 : decode cX3_count 2 = .ok (.bipush 12, 2) := by decide +kernel
theorem dX3_count_4 : decode cX3_count 4 = .ok (.invokestatic 72, 3) := by decide +kernel
theorem dX3_count_7 : decode cX3_count 7 = .ok (.iload_n 1, 1) := by decide +kernel
theorem dX3_count_8 : decode cX3_count 8 = .ok (.tableswitch 185 0 11 #[64, 72, 80, 88, 96, 104, 112, 120, 128, 140, 149, 158], 64) := by decide +kernel
theorem dX3_count_72 : decode cX3_count 72 = .ok (.aload_n 0, 1) := by decide +kernel
theorem dX3_count_73 : decode cX3_count 73 = .ok (.getfield 34, 3) := by decide +kernel
theorem dX3_count_76 : decode cX3_count 76 = .ok (.getfield 55, 3) := by decide +kernel
theorem dX3_count_79 : decode cX3_count 79 = .ok (.ireturn, 1) := by decide +kernel
theorem dX3_count_80 : decode cX3_count 80 = .ok (.aload_n 0, 1) := by decide +kernel
theorem dX3_count_81 : decode cX3_count 81 = .ok (.getfield 34, 3) := by decide +kernel
theorem dX3_count_84 : decode cX3_count 84 = .ok (.getfield 65, 3) := by decide +kernel
theorem dX3_count_87 : decode cX3_count 87 = .ok (.ireturn, 1) := by decide +kernel
theorem dX3_count_88 : decode cX3_count 88 = .ok (.aload_n 0, 1) := by decide +kernel
theorem dX3_count_89 : decode cX3_count 89 = .ok (.getfield 34, 3) := by decide +kernel
theorem dX3_count_92 : decode cX3_count 92 = .ok (.getfield 76, 3) := by decide +kernel
theorem dX3_count_95 : decode cX3_count 95 = .ok (.ireturn, 1) := by decide +kernel
theorem dX3_count_96 : decode cX3_count 96 = .ok (.aload_n 0, 1) := by decide +kernel
theorem dX3_count_97 : decode cX3_count 97 = .ok (.getfield 34, 3) := by decide +kernel
theorem dX3_count_100 : decode cX3_count 100 = .ok (.getfield 110, 3) := by decide +kernel
theorem dX3_count_103 : decode cX3_count 103 = .ok (.ireturn, 1) := by decide +kernel
theorem dX3_count_104 : decode cX3_count 104 = .ok (.aload_n 0, 1) := by decide +kernel
theorem dX3_count_105 : decode cX3_count 105 = .ok (.getfield 34, 3) := by decide +kernel
theorem dX3_count_108 : decode cX3_count 108 = .ok (.getfield 121, 3) := by decide +kernel
theorem dX3_count_111 : decode cX3_count 111 = .ok (.ireturn, 1) := by decide +kernel
theorem dX3_count_112 : decode cX3_count 112 = .ok (.aload_n 0, 1) := by decide +kernel
theorem dX3_count_113 : decode cX3_count 113 = .ok (.getfield 34, 3) := by decide +kernel
theorem dX3_count_116 : decode cX3_count 116 = .ok (.getfield 124, 3) := by decide +kernel
theorem dX3_count_119 : decode cX3_count 119 = .ok (.ireturn, 1) := by decide +kernel
theorem dX3_count_120 : decode cX3_count 120 = .ok (.aload_n 0, 1) := by decide +kernel
theorem dX3_count_121 : decode cX3_count 121 = .ok (.getfield 34, 3) := by decide +kernel
theorem dX3_count_124 : decode cX3_count 124 = .ok (.getfield 95, 3) := by decide +kernel
theorem dX3_count_127 : decode cX3_count 127 = .ok (.ireturn, 1) := by decide +kernel
theorem dX3_count_128 : decode cX3_count 128 = .ok (.aload_n 0, 1) := by decide +kernel
theorem dX3_count_129 : decode cX3_count 129 = .ok (.getfield 34, 3) := by decide +kernel
theorem dX3_count_132 : decode cX3_count 132 = .ok (.invokevirtual 152, 3) := by decide +kernel
theorem dX3_count_135 : decode cX3_count 135 = .ok (.ireturn, 1) := by decide +kernel
theorem dX3_count_136 : decode cX3_count 136 = .ok (.aload_n 0, 1) := by decide +kernel
theorem dX3_count_137 : decode cX3_count 137 = .ok (.getfield 34, 3) := by decide +kernel
theorem dX3_count_140 : decode cX3_count 140 = .ok (.aload_n 0, 1) := by decide +kernel
theorem dX3_count_141 : decode cX3_count 141 = .ok (.getfield 9, 3) := by decide +kernel
theorem dX3_count_144 : decode cX3_count 144 = .ok (.invokevirtual 236, 3) := by decide +kernel
theorem dX3_count_147 : decode cX3_count 147 = .ok (.ireturn, 1) := by decide +kernel
theorem dX3_count_148 : decode cX3_count 148 = .ok (.aload_n 0, 1) := by decide +kernel
theorem dX3_count_149 : decode cX3_count 149 = .ok (.getfield 34, 3) := by decide +kernel
theorem dX3_count_152 : decode cX3_count 152 = .ok (.iconst 1, 1) := by decide +kernel
theorem dX3_count_153 : decode cX3_count 153 = .ok (.invokevirtual 240, 3) := by decide +kernel
theorem dX3_count_156 : decode cX3_count 156 = .ok (.ireturn, 1) := by decide +kernel
theorem dX3_count_157 : decode cX3_count 157 = .ok (.aload_n 0, 1) := by decide +kernel
theorem dX3_count_158 : decode cX3_count 158 = .ok (.getfield 34, 3) := by decide +kernel
theorem dX3_count_161 : decode cX3_count 161 = .ok (.iconst (-1), 1) := by decide +kernel
theorem dX3_count_162 : decode cX3_count 162 = .ok (.invokevirtual 240, 3) := by decide +kernel
theorem dX3_count_165 : decode cX3_count 165 = .ok (.ireturn, 1) := by decide +kernel
theorem dX3_count_166 : decode cX3_count 166 = .ok (.aload_n 0, 1) := by decide +kernel
theorem dX3_count_167 : decode cX3_count 167 = .ok (.getfield 34, 3) := by decide +kernel
theorem dX3_count_170 : decode cX3_count 170 = .ok (.iconst 0, 1) := by decide +kernel
theorem dX3_count_171 : decode cX3_count 171 = .ok (.invokevirtual 201, 3) := by decide +kernel
theorem dX3_count_174 : decode cX3_count 174 = .ok (.aload_n 0, 1) := by decide +kernel
theorem dX3_count_175 : decode cX3_count 175 = .ok (.getfield 34, 3) := by decide +kernel
theorem dX3_count_178 : decode cX3_count 178 = .ok (.iconst 1, 1) := by decide +kernel
theorem dX3_count_179 : decode cX3_count 179 = .ok (.invokevirtual 201, 3) := by decide +kernel
theorem dX3_count_182 : decode cX3_count 182 = .ok (.iadd, 1) := by decide +kernel
theorem dX3_count_183 : decode cX3_count 183 = .ok (.aload_n 0, 1) := by decide +kernel
theorem dX3_count_184 : decode cX3_count 184 = .ok (.getfield 34, 3) := by decide +kernel
theorem dX3_count_187 : decode cX3_count 187 = .ok (.iconst 2, 1) := by decide +kernel
theorem dX3_count_188 : decode cX3_count 188 = .ok (.invokevirtual 201, 3) := by decide +kernel
theorem dX3_count_191 : decode cX3_count 191 = .ok (.iadd, 1) := by decide +kernel
theorem dX3_count_192 : decode cX3_count 192 = .ok (.ireturn, 1) := by decide +kernel
theorem dX3_count_193 : decode cX3_count 193 = .ok (.aload_n 0, 1) := by decide +kernel
theorem dX3_count_194 : decode cX3_count 194 = .ok (.getfield 187, 3) := by decide +kernel
theorem dX3_count_197 : decode cX3_count 197 = .ok (.ireturn, 1) := by decide +kernel
theorem dX3_setting_0 : decode cX3_setting 0 = .ok (.iload_n 1, 1) := by decide +kernel
theorem dX3_setting_1 : decode cX3_setting 1 = .ok (.invokestatic 98, 3) := by decide +kernel
theorem dX3_setting_4 : decode cX3_setting 4 = .ok (.aload_n 0, 1) := by decide +kernel
theorem dX3_setting_5 : decode cX3_setting 5 = .ok (.getfield 34, 3) := by decide +kernel
theorem dX3_setting_8 : decode cX3_setting 8 = .ok (.getfield 104, 3) := by decide +kernel
theorem dX3_setting_11 : decode cX3_setting 11 = .ok (.iload_n 1, 1) := by decide +kernel
theorem dX3_setting_12 : decode cX3_setting 12 = .ok (.iaload, 1) := by decide +kernel
theorem dX3_setting_13 : decode cX3_setting 13 = .ok (.ireturn, 1) := by decide +kernel
theorem dX3_whyNot_0 : decode cX3_whyNot 0 = .ok (.aload_n 0, 1) := by decide +kernel
theorem dX3_whyNot_1 : decode cX3_whyNot 1 = .ok (.iload_n 1, 1) := by decide +kernel
theorem dX3_whyNot_2 : decode cX3_whyNot 2 = .ok (.invokevirtual 107, 3) := by decide +kernel
theorem dX3_whyNot_5 : decode cX3_whyNot 5 = .ok (.aload_n 0, 1) := by decide +kernel
theorem dX3_whyNot_6 : decode cX3_whyNot 6 = .ok (.getfield 34, 3) := by decide +kernel
theorem dX3_whyNot_9 : decode cX3_whyNot 9 = .ok (.iload_n 1, 1) := by decide +kernel
theorem dX3_whyNot_10 : decode cX3_whyNot 10 = .ok (.invokevirtual 115, 3) := by decide +kernel
theorem dX3_whyNot_13 : decode cX3_whyNot 13 = .ok (.ireturn, 1) := by decide +kernel
theorem dX3_gain_0 : decode cX3_gain 0 = .ok (.aload_n 0, 1) := by decide +kernel
theorem dX3_gain_1 : decode cX3_gain 1 = .ok (.iload_n 1, 1) := by decide +kernel
theorem dX3_gain_2 : decode cX3_gain 2 = .ok (.invokevirtual 107, 3) := by decide +kernel
theorem dX3_gain_5 : decode cX3_gain 5 = .ok (.iload_n 1, 1) := by decide +kernel
theorem dX3_gain_6 : decode cX3_gain 6 = .ok (.aload_n 0, 1) := by decide +kernel
theorem dX3_gain_7 : decode cX3_gain 7 = .ok (.getfield 34, 3) := by decide +kernel
theorem dX3_gain_10 : decode cX3_gain 10 = .ok (.getfield 65, 3) := by decide +kernel
theorem dX3_gain_13 : decode cX3_gain 13 = .ok (.if_icmp .ne 7, 3) := by decide +kernel
theorem dX3_gain_16 : decode cX3_gain 16 = .ok (.iconst (-1), 1) := by decide +kernel
theorem dX3_gain_17 : decode cX3_gain 17 = .ok (.goto 15, 3) := by decide +kernel
theorem dX3_gain_20 : decode cX3_gain 20 = .ok (.aload_n 0, 1) := by decide +kernel
theorem dX3_gain_21 : decode cX3_gain 21 = .ok (.getfield 34, 3) := by decide +kernel
theorem dX3_gain_24 : decode cX3_gain 24 = .ok (.iload_n 1, 1) := by decide +kernel
theorem dX3_gain_25 : decode cX3_gain 25 = .ok (.invokevirtual 136, 3) := by decide +kernel
theorem dX3_gain_28 : decode cX3_gain 28 = .ok (.sipush 10000, 3) := by decide +kernel
theorem dX3_gain_31 : decode cX3_gain 31 = .ok (.iadd, 1) := by decide +kernel
theorem dX3_gain_32 : decode cX3_gain 32 = .ok (.ireturn, 1) := by decide +kernel
theorem dX3_best_0 : decode cX3_best 0 = .ok (.aload_n 0, 1) := by decide +kernel
theorem dX3_best_1 : decode cX3_best 1 = .ok (.getfield 34, 3) := by decide +kernel
theorem dX3_best_4 : decode cX3_best 4 = .ok (.invokevirtual 132, 3) := by decide +kernel
theorem dX3_best_7 : decode cX3_best 7 = .ok (.ireturn, 1) := by decide +kernel
theorem dX3_palest_0 : decode cX3_palest 0 = .ok (.iconst (-1), 1) := by decide +kernel
theorem dX3_palest_1 : decode cX3_palest 1 = .ok (.istore_n 1, 1) := by decide +kernel
theorem dX3_palest_2 : decode cX3_palest 2 = .ok (.iconst 0, 1) := by decide +kernel
theorem dX3_palest_3 : decode cX3_palest 3 = .ok (.istore_n 2, 1) := by decide +kernel
theorem dX3_palest_4 : decode cX3_palest 4 = .ok (.iconst 0, 1) := by decide +kernel
theorem dX3_palest_5 : decode cX3_palest 5 = .ok (.istore_n 3, 1) := by decide +kernel
theorem dX3_palest_6 : decode cX3_palest 6 = .ok (.iload_n 3, 1) := by decide +kernel
theorem dX3_palest_7 : decode cX3_palest 7 = .ok (.sipush 144, 3) := by decide +kernel
theorem dX3_palest_10 : decode cX3_palest 10 = .ok (.if_icmp .ge 41, 3) := by decide +kernel
theorem dX3_palest_13 : decode cX3_palest 13 = .ok (.aload_n 0, 1) := by decide +kernel
theorem dX3_palest_14 : decode cX3_palest 14 = .ok (.getfield 34, 3) := by decide +kernel
theorem dX3_palest_17 : decode cX3_palest 17 = .ok (.iload_n 3, 1) := by decide +kernel
theorem dX3_palest_18 : decode cX3_palest 18 = .ok (.invokevirtual 230, 3) := by decide +kernel
theorem dX3_palest_21 : decode cX3_palest 21 = .ok (.istore 4, 2) := by decide +kernel
theorem dX3_palest_23 : decode cX3_palest 23 = .ok (.iload 4, 2) := by decide +kernel
theorem dX3_palest_25 : decode cX3_palest 25 = .ok (.iload_n 2, 1) := by decide +kernel
theorem dX3_palest_26 : decode cX3_palest 26 = .ok (.if_icmp .le 19, 3) := by decide +kernel
theorem dX3_palest_29 : decode cX3_palest 29 = .ok (.iload 4, 2) := by decide +kernel
theorem dX3_palest_31 : decode cX3_palest 31 = .ok (.istore_n 2, 1) := by decide +kernel
theorem dX3_palest_32 : decode cX3_palest 32 = .ok (.bipush 100, 2) := by decide +kernel
theorem dX3_palest_34 : decode cX3_palest 34 = .ok (.iload_n 3, 1) := by decide +kernel
theorem dX3_palest_35 : decode cX3_palest 35 = .ok (.bipush 12, 2) := by decide +kernel
theorem dX3_palest_37 : decode cX3_palest 37 = .ok (.idiv, 1) := by decide +kernel
theorem dX3_palest_38 : decode cX3_palest 38 = .ok (.imul, 1) := by decide +kernel
theorem dX3_palest_39 : decode cX3_palest 39 = .ok (.iload_n 3, 1) := by decide +kernel
theorem dX3_palest_40 : decode cX3_palest 40 = .ok (.bipush 12, 2) := by decide +kernel
theorem dX3_palest_42 : decode cX3_palest 42 = .ok (.irem, 1) := by decide +kernel
theorem dX3_palest_43 : decode cX3_palest 43 = .ok (.iadd, 1) := by decide +kernel
theorem dX3_palest_44 : decode cX3_palest 44 = .ok (.istore_n 1, 1) := by decide +kernel
theorem dX3_palest_45 : decode cX3_palest 45 = .ok (.iinc 3 1, 3) := by decide +kernel
theorem dX3_palest_48 : decode cX3_palest 48 = .ok (.goto (-42), 3) := by decide +kernel
theorem dX3_palest_51 : decode cX3_palest 51 = .ok (.iload_n 1, 1) := by decide +kernel
theorem dX3_palest_52 : decode cX3_palest 52 = .ok (.ireturn, 1) := by decide +kernel
theorem dX3_stepOf_0 : decode cX3_stepOf 0 = .ok (.iload_n 0, 1) := by decide +kernel
theorem dX3_stepOf_1 : decode cX3_stepOf 1 = .ok (.lookupswitch 62 #[(4, 51), (6, 54), (8, 56), (12, 58), (24, 60)], 51) := by decide +kernel
theorem dX3_stepOf_52 : decode cX3_stepOf 52 = .ok (.bipush 6, 2) := by decide +kernel
theorem dX3_stepOf_54 : decode cX3_stepOf 54 = .ok (.ireturn, 1) := by decide +kernel
theorem dX3_stepOf_55 : decode cX3_stepOf 55 = .ok (.iconst 4, 1) := by decide +kernel
theorem dX3_stepOf_56 : decode cX3_stepOf 56 = .ok (.ireturn, 1) := by decide +kernel
theorem dX3_stepOf_57 : decode cX3_stepOf 57 = .ok (.iconst 3, 1) := by decide +kernel
theorem dX3_stepOf_58 : decode cX3_stepOf 58 = .ok (.ireturn, 1) := by decide +kernel
theorem dX3_stepOf_59 : decode cX3_stepOf 59 = .ok (.iconst 2, 1) := by decide +kernel
theorem dX3_stepOf_60 : decode cX3_stepOf 60 = .ok (.ireturn, 1) := by decide +kernel
theorem dX3_stepOf_61 : decode cX3_stepOf 61 = .ok (.iconst 1, 1) := by decide +kernel
theorem dX3_stepOf_62 : decode cX3_stepOf 62 = .ok (.ireturn, 1) := by decide +kernel
theorem dX3_stepOf_63 : decode cX3_stepOf 63 = .ok (.iconst (-1), 1) := by decide +kernel
theorem dX3_stepOf_64 : decode cX3_stepOf 64 = .ok (.ireturn, 1) := by decide +kernel
theorem dX3_needNail_0 : decode cX3_needNail 0 = .ok (.iload_n 1, 1) := by decide +kernel
theorem dX3_needNail_1 : decode cX3_needNail 1 = .ok (.ifCond .lt 14, 3) := by decide +kernel
theorem dX3_needNail_4 : decode cX3_needNail 4 = .ok (.iload_n 1, 1) := by decide +kernel
theorem dX3_needNail_5 : decode cX3_needNail 5 = .ok (.aload_n 0, 1) := by decide +kernel
theorem dX3_needNail_6 : decode cX3_needNail 6 = .ok (.getfield 34, 3) := by decide +kernel
theorem dX3_needNail_9 : decode cX3_needNail 9 = .ok (.getfield 55, 3) := by decide +kernel
theorem dX3_needNail_12 : decode cX3_needNail 12 = .ok (.if_icmp .lt 14, 3) := by decide +kernel
theorem dX3_needNail_15 : decode cX3_needNail 15 = .ok (.new 322, 3) := by decide +kernel
theorem dX3_needNail_18 : decode cX3_needNail 18 = .ok (.dup, 1) := by decide +kernel
theorem dX3_needNail_19 : decode cX3_needNail 19 = .ok (.ldc_w 324, 3) := by decide +kernel
theorem dX3_needNail_22 : decode cX3_needNail 22 = .ok (.invokespecial 326, 3) := by decide +kernel
theorem dX3_needNail_25 : decode cX3_needNail 25 = .ok (.athrow, 1) := by decide +kernel
theorem dX3_needNail_26 : decode cX3_needNail 26 = .ok (.return_, 1) := by decide +kernel
theorem dX3_needSpool_0 : decode cX3_needSpool 0 = .ok (.iload_n 0, 1) := by decide +kernel
theorem dX3_needSpool_1 : decode cX3_needSpool 1 = .ok (.ifCond .lt 8, 3) := by decide +kernel
theorem dX3_needSpool_4 : decode cX3_needSpool 4 = .ok (.iload_n 0, 1) := by decide +kernel
theorem dX3_needSpool_5 : decode cX3_needSpool 5 = .ok (.iconst 3, 1) := by decide +kernel
theorem dX3_needSpool_6 : decode cX3_needSpool 6 = .ok (.if_icmp .lt 14, 3) := by decide +kernel
theorem dX3_needSpool_9 : decode cX3_needSpool 9 = .ok (.new 322, 3) := by decide +kernel
theorem dX3_needSpool_12 : decode cX3_needSpool 12 = .ok (.dup, 1) := by decide +kernel
theorem dX3_needSpool_13 : decode cX3_needSpool 13 = .ok (.ldc_w 327, 3) := by decide +kernel
theorem dX3_needSpool_16 : decode cX3_needSpool 16 = .ok (.invokespecial 326, 3) := by decide +kernel
theorem dX3_needSpool_19 : decode cX3_needSpool 19 = .ok (.athrow, 1) := by decide +kernel
theorem dX3_needSpool_20 : decode cX3_needSpool 20 = .ok (.return_, 1) := by decide +kernel
theorem dX3_needSetting_0 : decode cX3_needSetting 0 = .ok (.iload_n 0, 1) := by decide +kernel
theorem dX3_needSetting_1 : decode cX3_needSetting 1 = .ok (.ifCond .lt 8, 3) := by decide +kernel
theorem dX3_needSetting_4 : decode cX3_needSetting 4 = .ok (.iload_n 0, 1) := by decide +kernel
theorem dX3_needSetting_5 : decode cX3_needSetting 5 = .ok (.iconst 3, 1) := by decide +kernel
theorem dX3_needSetting_6 : decode cX3_needSetting 6 = .ok (.if_icmp .lt 14, 3) := by decide +kernel
theorem dX3_needSetting_9 : decode cX3_needSetting 9 = .ok (.new 322, 3) := by decide +kernel
theorem dX3_needSetting_12 : decode cX3_needSetting 12 = .ok (.dup, 1) := by decide +kernel
theorem dX3_needSetting_13 : decode cX3_needSetting 13 = .ok (.ldc_w 329, 3) := by decide +kernel
theorem dX3_needSetting_16 : decode cX3_needSetting 16 = .ok (.invokespecial 326, 3) := by decide +kernel
theorem dX3_needSetting_19 : decode cX3_needSetting 19 = .ok (.athrow, 1) := by decide +kernel
theorem dX3_needSetting_20 : decode cX3_needSetting 20 = .ok (.return_, 1) := by decide +kernel
theorem dX3_needSquare_0 : decode cX3_needSquare 0 = .ok (.iload_n 0, 1) := by decide +kernel
theorem dX3_needSquare_1 : decode cX3_needSquare 1 = .ok (.ifCond .lt 19, 3) := by decide +kernel
theorem dX3_needSquare_4 : decode cX3_needSquare 4 = .ok (.iload_n 0, 1) := by decide +kernel
theorem dX3_needSquare_5 : decode cX3_needSquare 5 = .ok (.bipush 12, 2) := by decide +kernel
theorem dX3_needSquare_7 : decode cX3_needSquare 7 = .ok (.if_icmp .ge 13, 3) := by decide +kernel
theorem dX3_needSquare_10 : decode cX3_needSquare 10 = .ok (.iload_n 1, 1) := by decide +kernel
theorem dX3_needSquare_11 : decode cX3_needSquare 11 = .ok (.ifCond .lt 9, 3) := by decide +kernel
theorem dX3_needSquare_14 : decode cX3_needSquare 14 = .ok (.iload_n 1, 1) := by decide +kernel
theorem dX3_needSquare_15 : decode cX3_needSquare 15 = .ok (.bipush 12, 2) := by decide +kernel
theorem dX3_needSquare_17 : decode cX3_needSquare 17 = .ok (.if_icmp .lt 14, 3) := by decide +kernel
theorem dX3_needSquare_20 : decode cX3_needSquare 20 = .ok (.new 322, 3) := by decide +kernel
theorem dX3_needSquare_23 : decode cX3_needSquare 23 = .ok (.dup, 1) := by decide +kernel
theorem dX3_needSquare_24 : decode cX3_needSquare 24 = .ok (.ldc_w 331, 3) := by decide +kernel
theorem dX3_needSquare_27 : decode cX3_needSquare 27 = .ok (.invokespecial 326, 3) := by decide +kernel
theorem dX3_needSquare_30 : decode cX3_needSquare 30 = .ok (.athrow, 1) := by decide +kernel
theorem dX3_needSquare_31 : decode cX3_needSquare 31 = .ok (.return_, 1) := by decide +kernel
theorem dX3_needRange_0 : decode cX3_needRange 0 = .ok (.iload_n 0, 1) := by decide +kernel
theorem dX3_needRange_1 : decode cX3_needRange 1 = .ok (.iload_n 1, 1) := by decide +kernel
theorem dX3_needRange_2 : decode cX3_needRange 2 = .ok (.if_icmp .lt 8, 3) := by decide +kernel
theorem dX3_needRange_5 : decode cX3_needRange 5 = .ok (.iload_n 0, 1) := by decide +kernel
theorem dX3_needRange_6 : decode cX3_needRange 6 = .ok (.iload_n 2, 1) := by decide +kernel
theorem dX3_needRange_7 : decode cX3_needRange 7 = .ok (.if_icmp .le 13, 3) := by decide +kernel
theorem dX3_needRange_10 : decode cX3_needRange 10 = .ok (.new 45, 3) := by decide +kernel
theorem dX3_needRange_13 : decode cX3_needRange 13 = .ok (.dup, 1) := by decide +kernel
theorem dX3_needRange_14 : decode cX3_needRange 14 = .ok (.ldc 216, 2) := by decide +kernel
theorem dX3_needRange_16 : decode cX3_needRange 16 = .ok (.invokespecial 49, 3) := by decide +kernel
theorem dX3_needRange_19 : decode cX3_needRange 19 = .ok (.athrow, 1) := by decide +kernel
theorem dX3_needRange_20 : decode cX3_needRange 20 = .ok (.return_, 1) := by decide +kernel
theorem dX3_save_0 : decode cX3_save 0 = .ok (.aload_n 0, 1) := by decide +kernel
theorem dX3_save_1 : decode cX3_save 1 = .ok (.getfield 187, 3) := by decide +kernel
theorem dX3_save_4 : decode cX3_save 4 = .ok (.bipush 6, 2) := by decide +kernel
theorem dX3_save_6 : decode cX3_save 6 = .ok (.if_icmp .lt 50, 3) := by decide +kernel
theorem dX3_save_9 : decode cX3_save 9 = .ok (.aload_n 0, 1) := by decide +kernel
theorem dX3_save_10 : decode cX3_save 10 = .ok (.getfield 26, 3) := by decide +kernel
theorem dX3_save_13 : decode cX3_save 13 = .ok (.iconst 0, 1) := by decide +kernel
theorem dX3_save_14 : decode cX3_save 14 = .ok (.aaload, 1) := by decide +kernel
theorem dX3_save_15 : decode cX3_save 15 = .ok (.astore_n 1, 1) := by decide +kernel
theorem dX3_save_16 : decode cX3_save 16 = .ok (.iconst 1, 1) := by decide +kernel
theorem dX3_save_17 : decode cX3_save 17 = .ok (.istore_n 2, 1) := by decide +kernel
theorem dX3_save_18 : decode cX3_save 18 = .ok (.iload_n 2, 1) := by decide +kernel
theorem dX3_save_19 : decode cX3_save 19 = .ok (.bipush 6, 2) := by decide +kernel
theorem dX3_save_21 : decode cX3_save 21 = .ok (.if_icmp .ge 23, 3) := by decide +kernel
theorem dX3_save_24 : decode cX3_save 24 = .ok (.aload_n 0, 1) := by decide +kernel
theorem dX3_save_25 : decode cX3_save 25 = .ok (.getfield 26, 3) := by decide +kernel
theorem dX3_save_28 : decode cX3_save 28 = .ok (.iload_n 2, 1) := by decide +kernel
theorem dX3_save_29 : decode cX3_save 29 = .ok (.iconst 1, 1) := by decide +kernel
theorem dX3_save_30 : decode cX3_save 30 = .ok (.isub, 1) := by decide +kernel
theorem dX3_save_31 : decode cX3_save 31 = .ok (.aload_n 0, 1) := by decide +kernel
theorem dX3_save_32 : decode cX3_save 32 = .ok (.getfield 26, 3) := by decide +kernel
theorem dX3_save_35 : decode cX3_save 35 = .ok (.iload_n 2, 1) := by decide +kernel
theorem dX3_save_36 : decode cX3_save 36 = .ok (.aaload, 1) := by decide +kernel
theorem dX3_save_37 : decode cX3_save 37 = .ok (.aastore, 1) := by decide +kernel
theorem dX3_save_38 : decode cX3_save 38 = .ok (.iinc 2 1, 3) := by decide +kernel
theorem dX3_save_41 : decode cX3_save 41 = .ok (.goto (-23), 3) := by decide +kernel
theorem dX3_save_44 : decode cX3_save 44 = .ok (.aload_n 0, 1) := by decide +kernel
theorem dX3_save_45 : decode cX3_save 45 = .ok (.getfield 26, 3) := by decide +kernel
theorem dX3_save_48 : decode cX3_save 48 = .ok (.iconst 5, 1) := by decide +kernel
theorem dX3_save_49 : decode cX3_save 49 = .ok (.aload_n 1, 1) := by decide +kernel
theorem dX3_save_50 : decode cX3_save 50 = .ok (.aastore, 1) := by decide +kernel
theorem dX3_save_51 : decode cX3_save 51 = .ok (.aload_n 0, 1) := by decide +kernel
theorem dX3_save_52 : decode cX3_save 52 = .ok (.iconst 5, 1) := by decide +kernel
theorem dX3_save_53 : decode cX3_save 53 = .ok (.putfield 187, 3) := by decide +kernel
theorem dX3_save_56 : decode cX3_save 56 = .ok (.aload_n 0, 1) := by decide +kernel
theorem dX3_save_57 : decode cX3_save 57 = .ok (.aload_n 0, 1) := by decide +kernel
theorem dX3_save_58 : decode cX3_save 58 = .ok (.getfield 26, 3) := by decide +kernel
theorem dX3_save_61 : decode cX3_save 61 = .ok (.aload_n 0, 1) := by decide +kernel
theorem dX3_save_62 : decode cX3_save 62 = .ok (.getfield 187, 3) := by decide +kernel
theorem dX3_save_65 : decode cX3_save 65 = .ok (.invokevirtual 177, 3) := by decide +kernel
theorem dX3_save_68 : decode cX3_save 68 = .ok (.aload_n 0, 1) := by decide +kernel
theorem dX3_save_69 : decode cX3_save 69 = .ok (.dup, 1) := by decide +kernel
theorem dX3_save_70 : decode cX3_save 70 = .ok (.getfield 187, 3) := by decide +kernel
theorem dX3_save_73 : decode cX3_save 73 = .ok (.iconst 1, 1) := by decide +kernel
theorem dX3_save_74 : decode cX3_save 74 = .ok (.iadd, 1) := by decide +kernel
theorem dX3_save_75 : decode cX3_save 75 = .ok (.putfield 187, 3) := by decide +kernel
theorem dX3_save_78 : decode cX3_save 78 = .ok (.return_, 1) := by decide +kernel
theorem dX3_copyTo_0 : decode cX3_copyTo 0 = .ok (.aload_n 1, 1) := by decide +kernel
theorem dX3_copyTo_1 : decode cX3_copyTo 1 = .ok (.iload_n 2, 1) := by decide +kernel
theorem dX3_copyTo_2 : decode cX3_copyTo 2 = .ok (.aaload, 1) := by decide +kernel
theorem dX3_copyTo_3 : decode cX3_copyTo 3 = .ok (.astore_n 3, 1) := by decide +kernel
theorem dX3_copyTo_4 : decode cX3_copyTo 4 = .ok (.aload_n 3, 1) := by decide +kernel
theorem dX3_copyTo_5 : decode cX3_copyTo 5 = .ok (.ifnonnull 22, 3) := by decide +kernel
theorem dX3_copyTo_8 : decode cX3_copyTo 8 = .ok (.new 20, 3) := by decide +kernel
theorem dX3_copyTo_11 : decode cX3_copyTo 11 = .ok (.dup, 1) := by decide +kernel
theorem dX3_copyTo_12 : decode cX3_copyTo 12 = .ok (.aload_n 0, 1) := by decide +kernel
theorem dX3_copyTo_13 : decode cX3_copyTo 13 = .ok (.getfield 34, 3) := by decide +kernel
theorem dX3_copyTo_16 : decode cX3_copyTo 16 = .ok (.getfield 333, 3) := by decide +kernel
theorem dX3_copyTo_19 : decode cX3_copyTo 19 = .ok (.invokespecial 31, 3) := by decide +kernel
theorem dX3_copyTo_22 : decode cX3_copyTo 22 = .ok (.astore_n 3, 1) := by decide +kernel
theorem dX3_copyTo_23 : decode cX3_copyTo 23 = .ok (.aload_n 1, 1) := by decide +kernel
theorem dX3_copyTo_24 : decode cX3_copyTo 24 = .ok (.iload_n 2, 1) := by decide +kernel
theorem dX3_copyTo_25 : decode cX3_copyTo 25 = .ok (.aload_n 3, 1) := by decide +kernel
theorem dX3_copyTo_26 : decode cX3_copyTo 26 = .ok (.aastore, 1) := by decide +kernel
theorem dX3_copyTo_27 : decode cX3_copyTo 27 = .ok (.aload_n 3, 1) := by decide +kernel
theorem dX3_copyTo_28 : decode cX3_copyTo 28 = .ok (.aload_n 0, 1) := by decide +kernel
theorem dX3_copyTo_29 : decode cX3_copyTo 29 = .ok (.getfield 34, 3) := by decide +kernel
theorem dX3_copyTo_32 : decode cX3_copyTo 32 = .ok (.invokevirtual 183, 3) := by decide +kernel
theorem dX3_copyTo_35 : decode cX3_copyTo 35 = .ok (.return_, 1) := by decide +kernel
end
section
theorem dL_cell_0 : decode cL_cell 0 = .ok (.iload_n 1, 1) := by decide +kernel
theorem dL_cell_1 : decode cL_cell 1 = .ok (.aload_n 0, 1) := by decide +kernel
theorem dL_cell_2 : decode cL_cell 2 = .ok (.arraylength, 1) := by decide +kernel
theorem dL_cell_3 : decode cL_cell 3 = .ok (.if_icmp .ge 9, 3) := by decide +kernel
theorem dL_cell_6 : decode cL_cell 6 = .ok (.aload_n 0, 1) := by decide +kernel
theorem dL_cell_7 : decode cL_cell 7 = .ok (.iload_n 1, 1) := by decide +kernel
theorem dL_cell_8 : decode cL_cell 8 = .ok (.iaload, 1) := by decide +kernel
theorem dL_cell_9 : decode cL_cell 9 = .ok (.goto 15, 3) := by decide +kernel
theorem dL_cell_12 : decode cL_cell 12 = .ok (.sipush 7919, 3) := by decide +kernel
theorem dL_cell_15 : decode cL_cell 15 = .ok (.iload_n 1, 1) := by decide +kernel
theorem dL_cell_16 : decode cL_cell 16 = .ok (.iconst 3, 1) := by decide +kernel
theorem dL_cell_17 : decode cL_cell 17 = .ok (.iadd, 1) := by decide +kernel
theorem dL_cell_18 : decode cL_cell 18 = .ok (.imul, 1) := by decide +kernel
theorem dL_cell_19 : decode cL_cell 19 = .ok (.iload_n 1, 1) := by decide +kernel
theorem dL_cell_20 : decode cL_cell 20 = .ok (.bipush 11, 2) := by decide +kernel
theorem dL_cell_22 : decode cL_cell 22 = .ok (.iadd, 1) := by decide +kernel
theorem dL_cell_23 : decode cL_cell 23 = .ok (.imul, 1) := by decide +kernel
theorem dL_cell_24 : decode cL_cell 24 = .ok (.ireturn, 1) := by decide +kernel
theorem dL_low_0 : decode cL_low 0 = .ok (.iload_n 0, 1) := by decide +kernel
theorem dL_low_1 : decode cL_low 1 = .ok (.ldc 7, 2) := by decide +kernel
theorem dL_low_3 : decode cL_low 3 = .ok (.iand, 1) := by decide +kernel
theorem dL_low_4 : decode cL_low 4 = .ok (.iload_n 1, 1) := by decide +kernel
theorem dL_low_5 : decode cL_low 5 = .ok (.irem, 1) := by decide +kernel
theorem dL_low_6 : decode cL_low 6 = .ok (.ireturn, 1) := by decide +kernel
theorem dL_told_0 : decode cL_told 0 = .ok (.ldc2_w 8, 3) := by decide +kernel
theorem dL_told_3 : decode cL_told 3 = .ok (.lstore_n 1, 1) := by decide +kernel
theorem dL_told_4 : decode cL_told 4 = .ok (.iconst 0, 1) := by decide +kernel
theorem dL_told_5 : decode cL_told 5 = .ok (.istore_n 3, 1) := by decide +kernel
theorem dL_told_6 : decode cL_told 6 = .ok (.iload_n 3, 1) := by decide +kernel
theorem dL_told_7 : decode cL_told 7 = .ok (.bipush 12, 2) := by decide +kernel
theorem dL_told_9 : decode cL_told 9 = .ok (.if_icmp .ge 22, 3) := by decide +kernel
theorem dL_told_12 : decode cL_told 12 = .ok (.ldc2_w 10, 3) := by decide +kernel
theorem dL_told_15 : decode cL_told 15 = .ok (.lload_n 1, 1) := by decide +kernel
theorem dL_told_16 : decode cL_told 16 = .ok (.lmul, 1) := by decide +kernel
theorem dL_told_17 : decode cL_told 17 = .ok (.aload_n 0, 1) := by decide +kernel
theorem dL_told_18 : decode cL_told 18 = .ok (.iload_n 3, 1) := by decide +kernel
theorem dL_told_19 : decode cL_told 19 = .ok (.invokevirtual 12, 3) := by decide +kernel
theorem dL_told_22 : decode cL_told 22 = .ok (.i2l, 1) := by decide +kernel
theorem dL_told_23 : decode cL_told 23 = .ok (.ladd, 1) := by decide +kernel
theorem dL_told_24 : decode cL_told 24 = .ok (.lstore_n 1, 1) := by decide +kernel
theorem dL_told_25 : decode cL_told 25 = .ok (.iinc 3 1, 3) := by decide +kernel
theorem dL_told_28 : decode cL_told 28 = .ok (.goto (-22), 3) := by decide +kernel
theorem dL_told_31 : decode cL_told 31 = .ok (.iconst 0, 1) := by decide +kernel
theorem dL_told_32 : decode cL_told 32 = .ok (.istore_n 3, 1) := by decide +kernel
theorem dL_told_33 : decode cL_told 33 = .ok (.iload_n 3, 1) := by decide +kernel
theorem dL_told_34 : decode cL_told 34 = .ok (.bipush 15, 2) := by decide +kernel
theorem dL_told_36 : decode cL_told 36 = .ok (.if_icmp .ge 27, 3) := by decide +kernel
theorem dL_told_39 : decode cL_told 39 = .ok (.ldc2_w 10, 3) := by decide +kernel
theorem dL_told_42 : decode cL_told 42 = .ok (.lload_n 1, 1) := by decide +kernel
theorem dL_told_43 : decode cL_told 43 = .ok (.lmul, 1) := by decide +kernel
theorem dL_told_44 : decode cL_told 44 = .ok (.aload_n 0, 1) := by decide +kernel
theorem dL_told_45 : decode cL_told 45 = .ok (.iload_n 3, 1) := by decide +kernel
theorem dL_told_46 : decode cL_told 46 = .ok (.iconst 5, 1) := by decide +kernel
theorem dL_told_47 : decode cL_told 47 = .ok (.idiv, 1) := by decide +kernel
theorem dL_told_48 : decode cL_told 48 = .ok (.iload_n 3, 1) := by decide +kernel
theorem dL_told_49 : decode cL_told 49 = .ok (.iconst 5, 1) := by decide +kernel
theorem dL_told_50 : decode cL_told 50 = .ok (.irem, 1) := by decide +kernel
theorem dL_told_51 : decode cL_told 51 = .ok (.invokevirtual 18, 3) := by decide +kernel
theorem dL_told_54 : decode cL_told 54 = .ok (.i2l, 1) := by decide +kernel
theorem dL_told_55 : decode cL_told 55 = .ok (.ladd, 1) := by decide +kernel
theorem dL_told_56 : decode cL_told 56 = .ok (.lstore_n 1, 1) := by decide +kernel
theorem dL_told_57 : decode cL_told 57 = .ok (.iinc 3 1, 3) := by decide +kernel
theorem dL_told_60 : decode cL_told 60 = .ok (.goto (-27), 3) := by decide +kernel
theorem dL_told_63 : decode cL_told 63 = .ok (.iconst 0, 1) := by decide +kernel
theorem dL_told_64 : decode cL_told 64 = .ok (.istore_n 3, 1) := by decide +kernel
theorem dL_told_65 : decode cL_told 65 = .ok (.iload_n 3, 1) := by decide +kernel
theorem dL_told_66 : decode cL_told 66 = .ok (.bipush 12, 2) := by decide +kernel
theorem dL_told_68 : decode cL_told 68 = .ok (.if_icmp .ge 27, 3) := by decide +kernel
theorem dL_told_71 : decode cL_told 71 = .ok (.ldc2_w 10, 3) := by decide +kernel
theorem dL_told_74 : decode cL_told 74 = .ok (.lload_n 1, 1) := by decide +kernel
theorem dL_told_75 : decode cL_told 75 = .ok (.lmul, 1) := by decide +kernel
theorem dL_told_76 : decode cL_told 76 = .ok (.aload_n 0, 1) := by decide +kernel
theorem dL_told_77 : decode cL_told 77 = .ok (.iload_n 3, 1) := by decide +kernel
theorem dL_told_78 : decode cL_told 78 = .ok (.iconst 3, 1) := by decide +kernel
theorem dL_told_79 : decode cL_told 79 = .ok (.idiv, 1) := by decide +kernel
theorem dL_told_80 : decode cL_told 80 = .ok (.iload_n 3, 1) := by decide +kernel
theorem dL_told_81 : decode cL_told 81 = .ok (.iconst 3, 1) := by decide +kernel
theorem dL_told_82 : decode cL_told 82 = .ok (.irem, 1) := by decide +kernel
theorem dL_told_83 : decode cL_told 83 = .ok (.invokevirtual 22, 3) := by decide +kernel
theorem dL_told_86 : decode cL_told 86 = .ok (.i2l, 1) := by decide +kernel
theorem dL_told_87 : decode cL_told 87 = .ok (.ladd, 1) := by decide +kernel
theorem dL_told_88 : decode cL_told 88 = .ok (.lstore_n 1, 1) := by decide +kernel
theorem dL_told_89 : decode cL_told 89 = .ok (.iinc 3 1, 3) := by decide +kernel
theorem dL_told_92 : decode cL_told 92 = .ok (.goto (-27), 3) := by decide +kernel
theorem dL_told_95 : decode cL_told 95 = .ok (.iconst 0, 1) := by decide +kernel
theorem dL_told_96 : decode cL_told 96 = .ok (.istore_n 3, 1) := by decide +kernel
theorem dL_told_97 : decode cL_told 97 = .ok (.iload_n 3, 1) := by decide +kernel
theorem dL_told_98 : decode cL_told 98 = .ok (.sipush 144, 3) := by decide +kernel
theorem dL_told_101 : decode cL_told 101 = .ok (.if_icmp .ge 49, 3) := by decide +kernel
theorem dL_told_104 : decode cL_told 104 = .ok (.ldc2_w 10, 3) := by decide +kernel
theorem dL_told_107 : decode cL_told 107 = .ok (.ldc2_w 10, 3) := by decide +kernel
theorem dL_told_110 : decode cL_told 110 = .ok (.lload_n 1, 1) := by decide +kernel
theorem dL_told_111 : decode cL_told 111 = .ok (.lmul, 1) := by decide +kernel
theorem dL_told_112 : decode cL_told 112 = .ok (.aload_n 0, 1) := by decide +kernel
theorem dL_told_113 : decode cL_told 113 = .ok (.iload_n 3, 1) := by decide +kernel
theorem dL_told_114 : decode cL_told 114 = .ok (.bipush 12, 2) := by decide +kernel
theorem dL_told_116 : decode cL_told 116 = .ok (.irem, 1) := by decide +kernel
theorem dL_told_117 : decode cL_told 117 = .ok (.iload_n 3, 1) := by decide +kernel
theorem dL_told_118 : decode cL_told 118 = .ok (.bipush 12, 2) := by decide +kernel
theorem dL_told_120 : decode cL_told 120 = .ok (.idiv, 1) := by decide +kernel
theorem dL_told_121 : decode cL_told 121 = .ok (.iconst 0, 1) := by decide +kernel
theorem dL_told_122 : decode cL_told 122 = .ok (.invokevirtual 25, 3) := by decide +kernel
theorem dL_told_125 : decode cL_told 125 = .ok (.i2l, 1) := by decide +kernel
theorem dL_told_126 : decode cL_told 126 = .ok (.ladd, 1) := by decide +kernel
theorem dL_told_127 : decode cL_told 127 = .ok (.lmul, 1) := by decide +kernel
theorem dL_told_128 : decode cL_told 128 = .ok (.aload_n 0, 1) := by decide +kernel
theorem dL_told_129 : decode cL_told 129 = .ok (.iload_n 3, 1) := by decide +kernel
theorem dL_told_130 : decode cL_told 130 = .ok (.bipush 12, 2) := by decide +kernel
theorem dL_told_132 : decode cL_told 132 = .ok (.irem, 1) := by decide +kernel
theorem dL_told_133 : decode cL_told 133 = .ok (.iload_n 3, 1) := by decide +kernel
theorem dL_told_134 : decode cL_told 134 = .ok (.bipush 12, 2) := by decide +kernel
theorem dL_told_136 : decode cL_told 136 = .ok (.idiv, 1) := by decide +kernel
theorem dL_told_137 : decode cL_told 137 = .ok (.iconst 1, 1) := by decide +kernel
theorem dL_told_138 : decode cL_told 138 = .ok (.invokevirtual 25, 3) := by decide +kernel
theorem dL_told_141 : decode cL_told 141 = .ok (.i2l, 1) := by decide +kernel
theorem dL_told_142 : decode cL_told 142 = .ok (.ladd, 1) := by decide +kernel
theorem dL_told_143 : decode cL_told 143 = .ok (.lstore_n 1, 1) := by decide +kernel
theorem dL_told_144 : decode cL_told 144 = .ok (.iinc 3 1, 3) := by decide +kernel
theorem dL_told_147 : decode cL_told 147 = .ok (.goto (-50), 3) := by decide +kernel
theorem dL_told_150 : decode cL_told 150 = .ok (.lload_n 1, 1) := by decide +kernel
theorem dL_told_151 : decode cL_told 151 = .ok (.lreturn, 1) := by decide +kernel
theorem dL_act_0 : decode cL_act 0 = .ok (.iload_n 1, 1) := by decide +kernel
theorem dL_act_1 : decode cL_act 1 = .ok (.bipush 15, 2) := by decide +kernel
theorem dL_act_3 : decode cL_act 3 = .ok (.iand, 1) := by decide +kernel
theorem dL_act_4 : decode cL_act 4 = .ok (.tableswitch 273 0 9 #[56, 106, 166, 186, 205, 205, 233, 243, 261, 261], 56) := by decide +kernel
theorem dL_act_60 : decode cL_act 60 = .ok (.iload_n 2, 1) := by decide +kernel
theorem dL_act_61 : decode cL_act 61 = .ok (.iconst 5, 1) := by decide +kernel
theorem dL_act_62 : decode cL_act 62 = .ok (.invokestatic 29, 3) := by decide +kernel
theorem dL_act_65 : decode cL_act 65 = .ok (.istore_n 3, 1) := by decide +kernel
theorem dL_act_66 : decode cL_act 66 = .ok (.iload_n 2, 1) := by decide +kernel
theorem dL_act_67 : decode cL_act 67 = .ok (.bipush 20, 2) := by decide +kernel
theorem dL_act_69 : decode cL_act 69 = .ok (.ishr, 1) := by decide +kernel
theorem dL_act_70 : decode cL_act 70 = .ok (.iconst 3, 1) := by decide +kernel
theorem dL_act_71 : decode cL_act 71 = .ok (.iand, 1) := by decide +kernel
theorem dL_act_72 : decode cL_act 72 = .ok (.ifCond .ne 35, 3) := by decide +kernel
theorem dL_act_75 : decode cL_act 75 = .ok (.aload_n 0, 1) := by decide +kernel
theorem dL_act_76 : decode cL_act 76 = .ok (.iload_n 3, 1) := by decide +kernel
theorem dL_act_77 : decode cL_act 77 = .ok (.iconst 3, 1) := by decide +kernel
theorem dL_act_78 : decode cL_act 78 = .ok (.if_icmp .ge 11, 3) := by decide +kernel
theorem dL_act_81 : decode cL_act 81 = .ok (.iconst 4, 1) := by decide +kernel
theorem dL_act_82 : decode cL_act 82 = .ok (.iconst 2, 1) := by decide +kernel
theorem dL_act_83 : decode cL_act 83 = .ok (.iload_n 3, 1) := by decide +kernel
theorem dL_act_84 : decode cL_act 84 = .ok (.imul, 1) := by decide +kernel
theorem dL_act_85 : decode cL_act 85 = .ok (.iadd, 1) := by decide +kernel
theorem dL_act_86 : decode cL_act 86 = .ok (.goto 15, 3) := by decide +kernel
theorem dL_act_89 : decode cL_act 89 = .ok (.iload_n 3, 1) := by decide +kernel
theorem dL_act_90 : decode cL_act 90 = .ok (.iconst 3, 1) := by decide +kernel
theorem dL_act_91 : decode cL_act 91 = .ok (.if_icmp .ne 8, 3) := by decide +kernel
theorem dL_act_94 : decode cL_act 94 = .ok (.bipush 12, 2) := by decide +kernel
theorem dL_act_96 : decode cL_act 96 = .ok (.goto 5, 3) := by decide +kernel
theorem dL_act_99 : decode cL_act 99 = .ok (.bipush 24, 2) := by decide +kernel
theorem dL_act_101 : decode cL_act 101 = .ok (.invokevirtual 34, 3) := by decide +kernel
theorem dL_act_104 : decode cL_act 104 = .ok (.goto 5, 3) := by decide +kernel
theorem dL_act_107 : decode cL_act 107 = .ok (.bipush (-9), 2) := by decide +kernel
theorem dL_act_109 : decode cL_act 109 = .ok (.ireturn, 1) := by decide +kernel
theorem dL_act_110 : decode cL_act 110 = .ok (.iload_n 2, 1) := by decide +kernel
theorem dL_act_111 : decode cL_act 111 = .ok (.iconst 3, 1) := by decide +kernel
theorem dL_act_112 : decode cL_act 112 = .ok (.invokestatic 29, 3) := by decide +kernel
theorem dL_act_115 : decode cL_act 115 = .ok (.istore 4, 2) := by decide +kernel
theorem dL_act_117 : decode cL_act 117 = .ok (.aload_n 0, 1) := by decide +kernel
theorem dL_act_118 : decode cL_act 118 = .ok (.iload 4, 2) := by decide +kernel
theorem dL_act_120 : decode cL_act 120 = .ok (.iconst 4, 1) := by decide +kernel
theorem dL_act_121 : decode cL_act 121 = .ok (.invokevirtual 18, 3) := by decide +kernel
theorem dL_act_124 : decode cL_act 124 = .ok (.iconst 1, 1) := by decide +kernel
theorem dL_act_125 : decode cL_act 125 = .ok (.if_icmp .eq 13, 3) := by decide +kernel
theorem dL_act_128 : decode cL_act 128 = .ok (.aload_n 0, 1) := by decide +kernel
theorem dL_act_129 : decode cL_act 129 = .ok (.iload 4, 2) := by decide +kernel
theorem dL_act_131 : decode cL_act 131 = .ok (.iconst 3, 1) := by decide +kernel
theorem dL_act_132 : decode cL_act 132 = .ok (.invokevirtual 18, 3) := by decide +kernel
theorem dL_act_135 : decode cL_act 135 = .ok (.ifCond .le 8, 3) := by decide +kernel
theorem dL_act_138 : decode cL_act 138 = .ok (.bipush (-9), 2) := by decide +kernel
theorem dL_act_140 : decode cL_act 140 = .ok (.goto 29, 3) := by decide +kernel
theorem dL_act_143 : decode cL_act 143 = .ok (.aload_n 0, 1) := by decide +kernel
theorem dL_act_144 : decode cL_act 144 = .ok (.iload 4, 2) := by decide +kernel
theorem dL_act_146 : decode cL_act 146 = .ok (.iconst 1, 1) := by decide +kernel
theorem dL_act_147 : decode cL_act 147 = .ok (.iload_n 2, 1) := by decide +kernel
theorem dL_act_148 : decode cL_act 148 = .ok (.iconst 2, 1) := by decide +kernel
theorem dL_act_149 : decode cL_act 149 = .ok (.ishr, 1) := by decide +kernel
theorem dL_act_150 : decode cL_act 150 = .ok (.bipush 9, 2) := by decide +kernel
theorem dL_act_152 : decode cL_act 152 = .ok (.invokestatic 29, 3) := by decide +kernel
theorem dL_act_155 : decode cL_act 155 = .ok (.iadd, 1) := by decide +kernel
theorem dL_act_156 : decode cL_act 156 = .ok (.iload_n 2, 1) := by decide +kernel
theorem dL_act_157 : decode cL_act 157 = .ok (.bipush 6, 2) := by decide +kernel
theorem dL_act_159 : decode cL_act 159 = .ok (.ishr, 1) := by decide +kernel
theorem dL_act_160 : decode cL_act 160 = .ok (.sipush 10000, 3) := by decide +kernel
theorem dL_act_163 : decode cL_act 163 = .ok (.invokestatic 29, 3) := by decide +kernel
theorem dL_act_166 : decode cL_act 166 = .ok (.invokevirtual 37, 3) := by decide +kernel
theorem dL_act_169 : decode cL_act 169 = .ok (.ireturn, 1) := by decide +kernel
theorem dL_act_170 : decode cL_act 170 = .ok (.aload_n 0, 1) := by decide +kernel
theorem dL_act_171 : decode cL_act 171 = .ok (.aload_n 0, 1) := by decide +kernel
theorem dL_act_172 : decode cL_act 172 = .ok (.iconst 2, 1) := by decide +kernel
theorem dL_act_173 : decode cL_act 173 = .ok (.invokevirtual 12, 3) := by decide +kernel
theorem dL_act_176 : decode cL_act 176 = .ok (.iconst 1, 1) := by decide +kernel
theorem dL_act_177 : decode cL_act 177 = .ok (.iadd, 1) := by decide +kernel
theorem dL_act_178 : decode cL_act 178 = .ok (.iload_n 2, 1) := by decide +kernel
theorem dL_act_179 : decode cL_act 179 = .ok (.iconst 2, 1) := by decide +kernel
theorem dL_act_180 : decode cL_act 180 = .ok (.invokestatic 29, 3) := by decide +kernel
theorem dL_act_183 : decode cL_act 183 = .ok (.iadd, 1) := by decide +kernel
theorem dL_act_184 : decode cL_act 184 = .ok (.iconst 3, 1) := by decide +kernel
theorem dL_act_185 : decode cL_act 185 = .ok (.irem, 1) := by decide +kernel
theorem dL_act_186 : decode cL_act 186 = .ok (.invokevirtual 40, 3) := by decide +kernel
theorem dL_act_189 : decode cL_act 189 = .ok (.ireturn, 1) := by decide +kernel
theorem dL_act_190 : decode cL_act 190 = .ok (.aload_n 0, 1) := by decide +kernel
theorem dL_act_191 : decode cL_act 191 = .ok (.iload_n 2, 1) := by decide +kernel
theorem dL_act_192 : decode cL_act 192 = .ok (.iconst 3, 1) := by decide +kernel
theorem dL_act_193 : decode cL_act 193 = .ok (.invokestatic 29, 3) := by decide +kernel
theorem dL_act_196 : decode cL_act 196 = .ok (.iconst 1, 1) := by decide +kernel
theorem dL_act_197 : decode cL_act 197 = .ok (.iload_n 2, 1) := by decide +kernel
theorem dL_act_198 : decode cL_act 198 = .ok (.iconst 2, 1) := by decide +kernel
theorem dL_act_199 : decode cL_act 199 = .ok (.ishr, 1) := by decide +kernel
theorem dL_act_200 : decode cL_act 200 = .ok (.iconst 4, 1) := by decide +kernel
theorem dL_act_201 : decode cL_act 201 = .ok (.invokestatic 29, 3) := by decide +kernel
theorem dL_act_204 : decode cL_act 204 = .ok (.iadd, 1) := by decide +kernel
theorem dL_act_205 : decode cL_act 205 = .ok (.invokevirtual 43, 3) := by decide +kernel
theorem dL_act_208 : decode cL_act 208 = .ok (.ireturn, 1) := by decide +kernel
theorem dL_act_209 : decode cL_act 209 = .ok (.aload_n 0, 1) := by decide +kernel
theorem dL_act_210 : decode cL_act 210 = .ok (.iload_n 2, 1) := by decide +kernel
theorem dL_act_211 : decode cL_act 211 = .ok (.bipush 12, 2) := by decide +kernel
theorem dL_act_213 : decode cL_act 213 = .ok (.invokestatic 29, 3) := by decide +kernel
theorem dL_act_216 : decode cL_act 216 = .ok (.iload_n 2, 1) := by decide +kernel
theorem dL_act_217 : decode cL_act 217 = .ok (.iconst 4, 1) := by decide +kernel
theorem dL_act_218 : decode cL_act 218 = .ok (.ishr, 1) := by decide +kernel
theorem dL_act_219 : decode cL_act 219 = .ok (.bipush 12, 2) := by decide +kernel
theorem dL_act_221 : decode cL_act 221 = .ok (.invokestatic 29, 3) := by decide +kernel
theorem dL_act_224 : decode cL_act 224 = .ok (.iload_n 2, 1) := by decide +kernel
theorem dL_act_225 : decode cL_act 225 = .ok (.bipush 8, 2) := by decide +kernel
theorem dL_act_227 : decode cL_act 227 = .ok (.ishr, 1) := by decide +kernel
theorem dL_act_228 : decode cL_act 228 = .ok (.bipush 10, 2) := by decide +kernel
theorem dL_act_230 : decode cL_act 230 = .ok (.invokestatic 29, 3) := by decide +kernel
theorem dL_act_233 : decode cL_act 233 = .ok (.invokevirtual 46, 3) := by decide +kernel
theorem dL_act_236 : decode cL_act 236 = .ok (.ireturn, 1) := by decide +kernel
theorem dL_act_237 : decode cL_act 237 = .ok (.aload_n 0, 1) := by decide +kernel
theorem dL_act_238 : decode cL_act 238 = .ok (.iload_n 2, 1) := by decide +kernel
theorem dL_act_239 : decode cL_act 239 = .ok (.iconst 3, 1) := by decide +kernel
theorem dL_act_240 : decode cL_act 240 = .ok (.invokestatic 29, 3) := by decide +kernel
theorem dL_act_243 : decode cL_act 243 = .ok (.invokevirtual 49, 3) := by decide +kernel
theorem dL_act_246 : decode cL_act 246 = .ok (.ireturn, 1) := by decide +kernel
theorem dL_act_247 : decode cL_act 247 = .ok (.aload_n 0, 1) := by decide +kernel
theorem dL_act_248 : decode cL_act 248 = .ok (.iconst 3, 1) := by decide +kernel
theorem dL_act_249 : decode cL_act 249 = .ok (.invokevirtual 12, 3) := by decide +kernel
theorem dL_act_252 : decode cL_act 252 = .ok (.ifCond .ne 8, 3) := by decide +kernel
theorem dL_act_255 : decode cL_act 255 = .ok (.bipush (-9), 2) := by decide +kernel
theorem dL_act_257 : decode cL_act 257 = .ok (.goto 7, 3) := by decide +kernel
theorem dL_act_260 : decode cL_act 260 = .ok (.aload_n 0, 1) := by decide +kernel
theorem dL_act_261 : decode cL_act 261 = .ok (.invokevirtual 52, 3) := by decide +kernel
theorem dL_act_264 : decode cL_act 264 = .ok (.ireturn, 1) := by decide +kernel
theorem dL_act_265 : decode cL_act 265 = .ok (.aload_n 0, 1) := by decide +kernel
theorem dL_act_266 : decode cL_act 266 = .ok (.iconst 1, 1) := by decide +kernel
theorem dL_act_267 : decode cL_act 267 = .ok (.iload_n 2, 1) := by decide +kernel
theorem dL_act_268 : decode cL_act 268 = .ok (.iconst 4, 1) := by decide +kernel
theorem dL_act_269 : decode cL_act 269 = .ok (.invokestatic 29, 3) := by decide +kernel
theorem dL_act_272 : decode cL_act 272 = .ok (.iadd, 1) := by decide +kernel
theorem dL_act_273 : decode cL_act 273 = .ok (.invokevirtual 56, 3) := by decide +kernel
theorem dL_act_276 : decode cL_act 276 = .ok (.ireturn, 1) := by decide +kernel
theorem dL_act_277 : decode cL_act 277 = .ok (.aload_n 0, 1) := by decide +kernel
theorem dL_act_278 : decode cL_act 278 = .ok (.iconst 3, 1) := by decide +kernel
theorem dL_act_279 : decode cL_act 279 = .ok (.invokevirtual 12, 3) := by decide +kernel
theorem dL_act_282 : decode cL_act 282 = .ok (.sipush 200, 3) := by decide +kernel
theorem dL_act_285 : decode cL_act 285 = .ok (.if_icmp .ne 8, 3) := by decide +kernel
theorem dL_act_288 : decode cL_act 288 = .ok (.bipush (-9), 2) := by decide +kernel
theorem dL_act_290 : decode cL_act 290 = .ok (.goto 16, 3) := by decide +kernel
theorem dL_act_293 : decode cL_act 293 = .ok (.aload_n 0, 1) := by decide +kernel
theorem dL_act_294 : decode cL_act 294 = .ok (.iload_n 2, 1) := by decide +kernel
theorem dL_act_295 : decode cL_act 295 = .ok (.aload_n 0, 1) := by decide +kernel
theorem dL_act_296 : decode cL_act 296 = .ok (.iconst 0, 1) := by decide +kernel
theorem dL_act_297 : decode cL_act 297 = .ok (.invokevirtual 12, 3) := by decide +kernel
theorem dL_act_300 : decode cL_act 300 = .ok (.invokestatic 29, 3) := by decide +kernel
theorem dL_act_303 : decode cL_act 303 = .ok (.invokevirtual 59, 3) := by decide +kernel
theorem dL_act_306 : decode cL_act 306 = .ok (.ireturn, 1) := by decide +kernel
theorem dL_holds_0 : decode cL_holds 0 = .ok (.iconst 0, 1) := by decide +kernel
theorem dL_holds_1 : decode cL_holds 1 = .ok (.istore_n 1, 1) := by decide +kernel
theorem dL_holds_2 : decode cL_holds 2 = .ok (.iconst 0, 1) := by decide +kernel
theorem dL_holds_3 : decode cL_holds 3 = .ok (.istore_n 2, 1) := by decide +kernel
theorem dL_holds_4 : decode cL_holds 4 = .ok (.iconst 0, 1) := by decide +kernel
theorem dL_holds_5 : decode cL_holds 5 = .ok (.istore_n 3, 1) := by decide +kernel
theorem dL_holds_6 : decode cL_holds 6 = .ok (.iconst 0, 1) := by decide +kernel
theorem dL_holds_7 : decode cL_holds 7 = .ok (.istore 4, 2) := by decide +kernel
theorem dL_holds_9 : decode cL_holds 9 = .ok (.iload 4, 2) := by decide +kernel
theorem dL_holds_11 : decode cL_holds 11 = .ok (.sipush 144, 3) := by decide +kernel
theorem dL_holds_14 : decode cL_holds 14 = .ok (.if_icmp .ge 116, 3) := by decide +kernel
theorem dL_holds_17 : decode cL_holds 17 = .ok (.aload_n 0, 1) := by decide +kernel
theorem dL_holds_18 : decode cL_holds 18 = .ok (.iload 4, 2) := by decide +kernel
theorem dL_holds_20 : decode cL_holds 20 = .ok (.bipush 12, 2) := by decide +kernel
theorem dL_holds_22 : decode cL_holds 22 = .ok (.irem, 1) := by decide +kernel
theorem dL_holds_23 : decode cL_holds 23 = .ok (.iload 4, 2) := by decide +kernel
theorem dL_holds_25 : decode cL_holds 25 = .ok (.bipush 12, 2) := by decide +kernel
theorem dL_holds_27 : decode cL_holds 27 = .ok (.idiv, 1) := by decide +kernel
theorem dL_holds_28 : decode cL_holds 28 = .ok (.iconst 2, 1) := by decide +kernel
theorem dL_holds_29 : decode cL_holds 29 = .ok (.invokevirtual 25, 3) := by decide +kernel
theorem dL_holds_32 : decode cL_holds 32 = .ok (.sipush 10000, 3) := by decide +kernel
theorem dL_holds_35 : decode cL_holds 35 = .ok (.isub, 1) := by decide +kernel
theorem dL_holds_36 : decode cL_holds 36 = .ok (.istore 5, 2) := by decide +kernel
theorem dL_holds_38 : decode cL_holds 38 = .ok (.iload_n 1, 1) := by decide +kernel
theorem dL_holds_39 : decode cL_holds 39 = .ok (.iload 5, 2) := by decide +kernel
theorem dL_holds_41 : decode cL_holds 41 = .ok (.ifCond .ge 9, 3) := by decide +kernel
theorem dL_holds_44 : decode cL_holds 44 = .ok (.iload 5, 2) := by decide +kernel
theorem dL_holds_46 : decode cL_holds 46 = .ok (.ineg, 1) := by decide +kernel
theorem dL_holds_47 : decode cL_holds 47 = .ok (.goto 5, 3) := by decide +kernel
theorem dL_holds_50 : decode cL_holds 50 = .ok (.iload 5, 2) := by decide +kernel
theorem dL_holds_52 : decode cL_holds 52 = .ok (.iadd, 1) := by decide +kernel
theorem dL_holds_53 : decode cL_holds 53 = .ok (.istore_n 1, 1) := by decide +kernel
theorem dL_holds_54 : decode cL_holds 54 = .ok (.iload_n 2, 1) := by decide +kernel
theorem dL_holds_55 : decode cL_holds 55 = .ok (.iload 5, 2) := by decide +kernel
theorem dL_holds_57 : decode cL_holds 57 = .ok (.ifCond .le 7, 3) := by decide +kernel
theorem dL_holds_60 : decode cL_holds 60 = .ok (.iconst 1, 1) := by decide +kernel
theorem dL_holds_61 : decode cL_holds 61 = .ok (.goto 4, 3) := by decide +kernel
theorem dL_holds_64 : decode cL_holds 64 = .ok (.iconst 0, 1) := by decide +kernel
theorem dL_holds_65 : decode cL_holds 65 = .ok (.iadd, 1) := by decide +kernel
theorem dL_holds_66 : decode cL_holds 66 = .ok (.istore_n 2, 1) := by decide +kernel
theorem dL_holds_67 : decode cL_holds 67 = .ok (.iload_n 3, 1) := by decide +kernel
theorem dL_holds_68 : decode cL_holds 68 = .ok (.iload 5, 2) := by decide +kernel
theorem dL_holds_70 : decode cL_holds 70 = .ok (.ifCond .ge 7, 3) := by decide +kernel
theorem dL_holds_73 : decode cL_holds 73 = .ok (.iconst 1, 1) := by decide +kernel
theorem dL_holds_74 : decode cL_holds 74 = .ok (.goto 4, 3) := by decide +kernel
theorem dL_holds_77 : decode cL_holds 77 = .ok (.iconst 0, 1) := by decide +kernel
theorem dL_holds_78 : decode cL_holds 78 = .ok (.iadd, 1) := by decide +kernel
theorem dL_holds_79 : decode cL_holds 79 = .ok (.istore_n 3, 1) := by decide +kernel
theorem dL_holds_80 : decode cL_holds 80 = .ok (.iload 5, 2) := by decide +kernel
theorem dL_holds_82 : decode cL_holds 82 = .ok (.aload_n 0, 1) := by decide +kernel
theorem dL_holds_83 : decode cL_holds 83 = .ok (.iload 4, 2) := by decide +kernel
theorem dL_holds_85 : decode cL_holds 85 = .ok (.bipush 12, 2) := by decide +kernel
theorem dL_holds_87 : decode cL_holds 87 = .ok (.irem, 1) := by decide +kernel
theorem dL_holds_88 : decode cL_holds 88 = .ok (.iload 4, 2) := by decide +kernel
theorem dL_holds_90 : decode cL_holds 90 = .ok (.bipush 12, 2) := by decide +kernel
theorem dL_holds_92 : decode cL_holds 92 = .ok (.idiv, 1) := by decide +kernel
theorem dL_holds_93 : decode cL_holds 93 = .ok (.iconst 0, 1) := by decide +kernel
theorem dL_holds_94 : decode cL_holds 94 = .ok (.invokevirtual 25, 3) := by decide +kernel
theorem dL_holds_97 : decode cL_holds 97 = .ok (.aload_n 0, 1) := by decide +kernel
theorem dL_holds_98 : decode cL_holds 98 = .ok (.iconst 2, 1) := by decide +kernel
theorem dL_holds_99 : decode cL_holds 99 = .ok (.invokevirtual 62, 3) := by decide +kernel
theorem dL_holds_102 : decode cL_holds 102 = .ok (.imul, 1) := by decide +kernel
theorem dL_holds_103 : decode cL_holds 103 = .ok (.aload_n 0, 1) := by decide +kernel
theorem dL_holds_104 : decode cL_holds 104 = .ok (.iload 4, 2) := by decide +kernel
theorem dL_holds_106 : decode cL_holds 106 = .ok (.bipush 12, 2) := by decide +kernel
theorem dL_holds_108 : decode cL_holds 108 = .ok (.irem, 1) := by decide +kernel
theorem dL_holds_109 : decode cL_holds 109 = .ok (.iload 4, 2) := by decide +kernel
theorem dL_holds_111 : decode cL_holds 111 = .ok (.bipush 12, 2) := by decide +kernel
theorem dL_holds_113 : decode cL_holds 113 = .ok (.idiv, 1) := by decide +kernel
theorem dL_holds_114 : decode cL_holds 114 = .ok (.iconst 1, 1) := by decide +kernel
theorem dL_holds_115 : decode cL_holds 115 = .ok (.invokevirtual 25, 3) := by decide +kernel
theorem dL_holds_118 : decode cL_holds 118 = .ok (.isub, 1) := by decide +kernel
theorem dL_holds_119 : decode cL_holds 119 = .ok (.if_icmp .eq 5, 3) := by decide +kernel
theorem dL_holds_122 : decode cL_holds 122 = .ok (.iconst 0, 1) := by decide +kernel
theorem dL_holds_123 : decode cL_holds 123 = .ok (.ireturn, 1) := by decide +kernel
theorem dL_holds_124 : decode cL_holds 124 = .ok (.iinc 4 1, 3) := by decide +kernel
theorem dL_holds_127 : decode cL_holds 127 = .ok (.goto (-118), 3) := by decide +kernel
theorem dL_holds_130 : decode cL_holds 130 = .ok (.iconst 0, 1) := by decide +kernel
theorem dL_holds_131 : decode cL_holds 131 = .ok (.istore 4, 2) := by decide +kernel
theorem dL_holds_133 : decode cL_holds 133 = .ok (.aload_n 0, 1) := by decide +kernel
theorem dL_holds_134 : decode cL_holds 134 = .ok (.invokevirtual 65, 3) := by decide +kernel
theorem dL_holds_137 : decode cL_holds 137 = .ok (.istore 5, 2) := by decide +kernel
theorem dL_holds_139 : decode cL_holds 139 = .ok (.iconst 0, 1) := by decide +kernel
theorem dL_holds_140 : decode cL_holds 140 = .ok (.istore 6, 2) := by decide +kernel
theorem dL_holds_142 : decode cL_holds 142 = .ok (.iconst 0, 1) := by decide +kernel
theorem dL_holds_143 : decode cL_holds 143 = .ok (.istore 7, 2) := by decide +kernel
theorem dL_holds_145 : decode cL_holds 145 = .ok (.iload 7, 2) := by decide +kernel
theorem dL_holds_147 : decode cL_holds 147 = .ok (.aload_n 0, 1) := by decide +kernel
theorem dL_holds_148 : decode cL_holds 148 = .ok (.iconst 0, 1) := by decide +kernel
theorem dL_holds_149 : decode cL_holds 149 = .ok (.invokevirtual 12, 3) := by decide +kernel
theorem dL_holds_152 : decode cL_holds 152 = .ok (.if_icmp .ge 126, 3) := by decide +kernel
theorem dL_holds_155 : decode cL_holds 155 = .ok (.aload_n 0, 1) := by decide +kernel
theorem dL_holds_156 : decode cL_holds 156 = .ok (.iload 7, 2) := by decide +kernel
theorem dL_holds_158 : decode cL_holds 158 = .ok (.invokevirtual 68, 3) := by decide +kernel
theorem dL_holds_161 : decode cL_holds 161 = .ok (.istore 8, 2) := by decide +kernel
theorem dL_holds_163 : decode cL_holds 163 = .ok (.iload 4, 2) := by decide +kernel
theorem dL_holds_165 : decode cL_holds 165 = .ok (.aload_n 0, 1) := by decide +kernel
theorem dL_holds_166 : decode cL_holds 166 = .ok (.iload 7, 2) := by decide +kernel
theorem dL_holds_168 : decode cL_holds 168 = .ok (.iconst 2, 1) := by decide +kernel
theorem dL_holds_169 : decode cL_holds 169 = .ok (.invokevirtual 71, 3) := by decide +kernel
theorem dL_holds_172 : decode cL_holds 172 = .ok (.iadd, 1) := by decide +kernel
theorem dL_holds_173 : decode cL_holds 173 = .ok (.istore 4, 2) := by decide +kernel
theorem dL_holds_175 : decode cL_holds 175 = .ok (.iload 6, 2) := by decide +kernel
theorem dL_holds_177 : decode cL_holds 177 = .ok (.ifCond .ne 8, 3) := by decide +kernel
theorem dL_holds_180 : decode cL_holds 180 = .ok (.iload 8, 2) := by decide +kernel
theorem dL_holds_182 : decode cL_holds 182 = .ok (.ifCond .ne 7, 3) := by decide +kernel
theorem dL_holds_185 : decode cL_holds 185 = .ok (.iconst 1, 1) := by decide +kernel
theorem dL_holds_186 : decode cL_holds 186 = .ok (.goto 4, 3) := by decide +kernel
theorem dL_holds_189 : decode cL_holds 189 = .ok (.iconst 0, 1) := by decide +kernel
theorem dL_holds_190 : decode cL_holds 190 = .ok (.istore 6, 2) := by decide +kernel
theorem dL_holds_192 : decode cL_holds 192 = .ok (.iload 8, 2) := by decide +kernel
theorem dL_holds_194 : decode cL_holds 194 = .ok (.iconst 1, 1) := by decide +kernel
theorem dL_holds_195 : decode cL_holds 195 = .ok (.if_icmp .ne 7, 3) := by decide +kernel
theorem dL_holds_198 : decode cL_holds 198 = .ok (.iconst 1, 1) := by decide +kernel
theorem dL_holds_199 : decode cL_holds 199 = .ok (.goto 4, 3) := by decide +kernel
theorem dL_holds_202 : decode cL_holds 202 = .ok (.iconst 0, 1) := by decide +kernel
theorem dL_holds_203 : decode cL_holds 203 = .ok (.iload 7, 2) := by decide +kernel
theorem dL_holds_205 : decode cL_holds 205 = .ok (.aload_n 0, 1) := by decide +kernel
theorem dL_holds_206 : decode cL_holds 206 = .ok (.iconst 1, 1) := by decide +kernel
theorem dL_holds_207 : decode cL_holds 207 = .ok (.invokevirtual 12, 3) := by decide +kernel
theorem dL_holds_210 : decode cL_holds 210 = .ok (.if_icmp .ne 7, 3) := by decide +kernel
theorem dL_holds_213 : decode cL_holds 213 = .ok (.iconst 1, 1) := by decide +kernel
theorem dL_holds_214 : decode cL_holds 214 = .ok (.goto 4, 3) := by decide +kernel
theorem dL_holds_217 : decode cL_holds 217 = .ok (.iconst 0, 1) := by decide +kernel
theorem dL_holds_218 : decode cL_holds 218 = .ok (.if_icmp .ne 52, 3) := by decide +kernel
theorem dL_holds_221 : decode cL_holds 221 = .ok (.aload_n 0, 1) := by decide +kernel
theorem dL_holds_222 : decode cL_holds 222 = .ok (.iload 7, 2) := by decide +kernel
theorem dL_holds_224 : decode cL_holds 224 = .ok (.invokevirtual 74, 3) := by decide +kernel
theorem dL_holds_227 : decode cL_holds 227 = .ok (.iconst (-1), 1) := by decide +kernel
theorem dL_holds_228 : decode cL_holds 228 = .ok (.if_icmp .ne 7, 3) := by decide +kernel
theorem dL_holds_231 : decode cL_holds 231 = .ok (.iconst 1, 1) := by decide +kernel
theorem dL_holds_232 : decode cL_holds 232 = .ok (.goto 4, 3) := by decide +kernel
theorem dL_holds_235 : decode cL_holds 235 = .ok (.iconst 0, 1) := by decide +kernel
theorem dL_holds_236 : decode cL_holds 236 = .ok (.iload 8, 2) := by decide +kernel
theorem dL_holds_238 : decode cL_holds 238 = .ok (.iconst 1, 1) := by decide +kernel
theorem dL_holds_239 : decode cL_holds 239 = .ok (.if_icmp .ne 7, 3) := by decide +kernel
theorem dL_holds_242 : decode cL_holds 242 = .ok (.iconst 1, 1) := by decide +kernel
theorem dL_holds_243 : decode cL_holds 243 = .ok (.goto 4, 3) := by decide +kernel
theorem dL_holds_246 : decode cL_holds 246 = .ok (.iconst 0, 1) := by decide +kernel
theorem dL_holds_247 : decode cL_holds 247 = .ok (.if_icmp .ne 23, 3) := by decide +kernel
theorem dL_holds_250 : decode cL_holds 250 = .ok (.iload 8, 2) := by decide +kernel
theorem dL_holds_252 : decode cL_holds 252 = .ok (.ifCond .ne 20, 3) := by decide +kernel
theorem dL_holds_255 : decode cL_holds 255 = .ok (.aload_n 0, 1) := by decide +kernel
theorem dL_holds_256 : decode cL_holds 256 = .ok (.iload 7, 2) := by decide +kernel
theorem dL_holds_258 : decode cL_holds 258 = .ok (.invokevirtual 74, 3) := by decide +kernel
theorem dL_holds_261 : decode cL_holds 261 = .ok (.aload_n 0, 1) := by decide +kernel
theorem dL_holds_262 : decode cL_holds 262 = .ok (.iload 5, 2) := by decide +kernel
theorem dL_holds_264 : decode cL_holds 264 = .ok (.invokevirtual 74, 3) := by decide +kernel
theorem dL_holds_267 : decode cL_holds 267 = .ok (.if_icmp .le 5, 3) := by decide +kernel
theorem dL_holds_270 : decode cL_holds 270 = .ok (.iconst 0, 1) := by decide +kernel
theorem dL_holds_271 : decode cL_holds 271 = .ok (.ireturn, 1) := by decide +kernel
theorem dL_holds_272 : decode cL_holds 272 = .ok (.iinc 7 1, 3) := by decide +kernel
theorem dL_holds_275 : decode cL_holds 275 = .ok (.goto (-130), 3) := by decide +kernel
theorem dL_holds_278 : decode cL_holds 278 = .ok (.iconst 0, 1) := by decide +kernel
theorem dL_holds_279 : decode cL_holds 279 = .ok (.istore 7, 2) := by decide +kernel
theorem dL_holds_281 : decode cL_holds 281 = .ok (.iconst 0, 1) := by decide +kernel
theorem dL_holds_282 : decode cL_holds 282 = .ok (.istore 8, 2) := by decide +kernel
theorem dL_holds_284 : decode cL_holds 284 = .ok (.iconst 0, 1) := by decide +kernel
theorem dL_holds_285 : decode cL_holds 285 = .ok (.istore 9, 2) := by decide +kernel
theorem dL_holds_287 : decode cL_holds 287 = .ok (.iload 9, 2) := by decide +kernel
theorem dL_holds_289 : decode cL_holds 289 = .ok (.iconst 3, 1) := by decide +kernel
theorem dL_holds_290 : decode cL_holds 290 = .ok (.if_icmp .ge 33, 3) := by decide +kernel
theorem dL_holds_293 : decode cL_holds 293 = .ok (.iload 7, 2) := by decide +kernel
theorem dL_holds_295 : decode cL_holds 295 = .ok (.aload_n 0, 1) := by decide +kernel
theorem dL_holds_296 : decode cL_holds 296 = .ok (.iload 9, 2) := by decide +kernel
theorem dL_holds_298 : decode cL_holds 298 = .ok (.iconst 3, 1) := by decide +kernel
theorem dL_holds_299 : decode cL_holds 299 = .ok (.invokevirtual 18, 3) := by decide +kernel
theorem dL_holds_302 : decode cL_holds 302 = .ok (.iadd, 1) := by decide +kernel
theorem dL_holds_303 : decode cL_holds 303 = .ok (.istore 7, 2) := by decide +kernel
theorem dL_holds_305 : decode cL_holds 305 = .ok (.iload 8, 2) := by decide +kernel
theorem dL_holds_307 : decode cL_holds 307 = .ok (.aload_n 0, 1) := by decide +kernel
theorem dL_holds_308 : decode cL_holds 308 = .ok (.iload 9, 2) := by decide +kernel
theorem dL_holds_310 : decode cL_holds 310 = .ok (.iconst 2, 1) := by decide +kernel
theorem dL_holds_311 : decode cL_holds 311 = .ok (.invokevirtual 18, 3) := by decide +kernel
theorem dL_holds_314 : decode cL_holds 314 = .ok (.iadd, 1) := by decide +kernel
theorem dL_holds_315 : decode cL_holds 315 = .ok (.istore 8, 2) := by decide +kernel
theorem dL_holds_317 : decode cL_holds 317 = .ok (.iinc 9 1, 3) := by decide +kernel
theorem dL_holds_320 : decode cL_holds 320 = .ok (.goto (-33), 3) := by decide +kernel
theorem dL_holds_323 : decode cL_holds 323 = .ok (.aload_n 0, 1) := by decide +kernel
theorem dL_holds_324 : decode cL_holds 324 = .ok (.bipush 7, 2) := by decide +kernel
theorem dL_holds_326 : decode cL_holds 326 = .ok (.invokevirtual 12, 3) := by decide +kernel
theorem dL_holds_329 : decode cL_holds 329 = .ok (.iload_n 1, 1) := by decide +kernel
theorem dL_holds_330 : decode cL_holds 330 = .ok (.if_icmp .ne 83, 3) := by decide +kernel
theorem dL_holds_333 : decode cL_holds 333 = .ok (.aload_n 0, 1) := by decide +kernel
theorem dL_holds_334 : decode cL_holds 334 = .ok (.bipush 8, 2) := by decide +kernel
theorem dL_holds_336 : decode cL_holds 336 = .ok (.invokevirtual 12, 3) := by decide +kernel
theorem dL_holds_339 : decode cL_holds 339 = .ok (.iload_n 1, 1) := by decide +kernel
theorem dL_holds_340 : decode cL_holds 340 = .ok (.if_icmp .ne 73, 3) := by decide +kernel
theorem dL_holds_343 : decode cL_holds 343 = .ok (.aload_n 0, 1) := by decide +kernel
theorem dL_holds_344 : decode cL_holds 344 = .ok (.bipush 9, 2) := by decide +kernel
theorem dL_holds_346 : decode cL_holds 346 = .ok (.invokevirtual 12, 3) := by decide +kernel
theorem dL_holds_349 : decode cL_holds 349 = .ok (.iload_n 2, 1) := by decide +kernel
theorem dL_holds_350 : decode cL_holds 350 = .ok (.if_icmp .ne 63, 3) := by decide +kernel
theorem dL_holds_353 : decode cL_holds 353 = .ok (.aload_n 0, 1) := by decide +kernel
theorem dL_holds_354 : decode cL_holds 354 = .ok (.bipush 10, 2) := by decide +kernel
theorem dL_holds_356 : decode cL_holds 356 = .ok (.invokevirtual 12, 3) := by decide +kernel
theorem dL_holds_359 : decode cL_holds 359 = .ok (.iload_n 3, 1) := by decide +kernel
theorem dL_holds_360 : decode cL_holds 360 = .ok (.if_icmp .ne 53, 3) := by decide +kernel
theorem dL_holds_363 : decode cL_holds 363 = .ok (.iload 4, 2) := by decide +kernel
theorem dL_holds_365 : decode cL_holds 365 = .ok (.iconst 2, 1) := by decide +kernel
theorem dL_holds_366 : decode cL_holds 366 = .ok (.aload_n 0, 1) := by decide +kernel
theorem dL_holds_367 : decode cL_holds 367 = .ok (.iconst 3, 1) := by decide +kernel
theorem dL_holds_368 : decode cL_holds 368 = .ok (.invokevirtual 12, 3) := by decide +kernel
theorem dL_holds_371 : decode cL_holds 371 = .ok (.imul, 1) := by decide +kernel
theorem dL_holds_372 : decode cL_holds 372 = .ok (.if_icmp .ne 41, 3) := by decide +kernel
theorem dL_holds_375 : decode cL_holds 375 = .ok (.iload 7, 2) := by decide +kernel
theorem dL_holds_377 : decode cL_holds 377 = .ok (.aload_n 0, 1) := by decide +kernel
theorem dL_holds_378 : decode cL_holds 378 = .ok (.iconst 3, 1) := by decide +kernel
theorem dL_holds_379 : decode cL_holds 379 = .ok (.invokevirtual 12, 3) := by decide +kernel
theorem dL_holds_382 : decode cL_holds 382 = .ok (.if_icmp .ne 31, 3) := by decide +kernel
theorem dL_holds_385 : decode cL_holds 385 = .ok (.iload 8, 2) := by decide +kernel
theorem dL_holds_387 : decode cL_holds 387 = .ok (.aload_n 0, 1) := by decide +kernel
theorem dL_holds_388 : decode cL_holds 388 = .ok (.bipush 11, 2) := by decide +kernel
theorem dL_holds_390 : decode cL_holds 390 = .ok (.invokevirtual 12, 3) := by decide +kernel
theorem dL_holds_393 : decode cL_holds 393 = .ok (.if_icmp .ne 20, 3) := by decide +kernel
theorem dL_holds_396 : decode cL_holds 396 = .ok (.aload_n 0, 1) := by decide +kernel
theorem dL_holds_397 : decode cL_holds 397 = .ok (.iconst 4, 1) := by decide +kernel
theorem dL_holds_398 : decode cL_holds 398 = .ok (.invokevirtual 12, 3) := by decide +kernel
theorem dL_holds_401 : decode cL_holds 401 = .ok (.aload_n 0, 1) := by decide +kernel
theorem dL_holds_402 : decode cL_holds 402 = .ok (.iconst 3, 1) := by decide +kernel
theorem dL_holds_403 : decode cL_holds 403 = .ok (.invokevirtual 12, 3) := by decide +kernel
theorem dL_holds_406 : decode cL_holds 406 = .ok (.if_icmp .lt 7, 3) := by decide +kernel
theorem dL_holds_409 : decode cL_holds 409 = .ok (.iconst 1, 1) := by decide +kernel
theorem dL_holds_410 : decode cL_holds 410 = .ok (.goto 4, 3) := by decide +kernel
theorem dL_holds_413 : decode cL_holds 413 = .ok (.iconst 0, 1) := by decide +kernel
theorem dL_holds_414 : decode cL_holds 414 = .ok (.istore 9, 2) := by decide +kernel
theorem dL_holds_416 : decode cL_holds 416 = .ok (.iload 9, 2) := by decide +kernel
theorem dL_holds_418 : decode cL_holds 418 = .ok (.ifCond .eq 69, 3) := by decide +kernel
theorem dL_holds_421 : decode cL_holds 421 = .ok (.iload 6, 2) := by decide +kernel
theorem dL_holds_423 : decode cL_holds 423 = .ok (.iload 5, 2) := by decide +kernel
theorem dL_holds_425 : decode cL_holds 425 = .ok (.ifCond .lt 7, 3) := by decide +kernel
theorem dL_holds_428 : decode cL_holds 428 = .ok (.iconst 1, 1) := by decide +kernel
theorem dL_holds_429 : decode cL_holds 429 = .ok (.goto 4, 3) := by decide +kernel
theorem dL_holds_432 : decode cL_holds 432 = .ok (.iconst 0, 1) := by decide +kernel
theorem dL_holds_433 : decode cL_holds 433 = .ok (.if_icmp .ne 54, 3) := by decide +kernel
theorem dL_holds_436 : decode cL_holds 436 = .ok (.aload_n 0, 1) := by decide +kernel
theorem dL_holds_437 : decode cL_holds 437 = .ok (.invokevirtual 77, 3) := by decide +kernel
theorem dL_holds_440 : decode cL_holds 440 = .ok (.iconst (-1), 1) := by decide +kernel
theorem dL_holds_441 : decode cL_holds 441 = .ok (.if_icmp .ne 7, 3) := by decide +kernel
theorem dL_holds_444 : decode cL_holds 444 = .ok (.iconst 1, 1) := by decide +kernel
theorem dL_holds_445 : decode cL_holds 445 = .ok (.goto 4, 3) := by decide +kernel
theorem dL_holds_448 : decode cL_holds 448 = .ok (.iconst 0, 1) := by decide +kernel
theorem dL_holds_449 : decode cL_holds 449 = .ok (.iload_n 2, 1) := by decide +kernel
theorem dL_holds_450 : decode cL_holds 450 = .ok (.ifCond .ne 7, 3) := by decide +kernel
theorem dL_holds_453 : decode cL_holds 453 = .ok (.iconst 1, 1) := by decide +kernel
theorem dL_holds_454 : decode cL_holds 454 = .ok (.goto 4, 3) := by decide +kernel
theorem dL_holds_457 : decode cL_holds 457 = .ok (.iconst 0, 1) := by decide +kernel
theorem dL_holds_458 : decode cL_holds 458 = .ok (.if_icmp .ne 29, 3) := by decide +kernel
theorem dL_holds_461 : decode cL_holds 461 = .ok (.aload_n 0, 1) := by decide +kernel
theorem dL_holds_462 : decode cL_holds 462 = .ok (.iconst 3, 1) := by decide +kernel
theorem dL_holds_463 : decode cL_holds 463 = .ok (.invokevirtual 12, 3) := by decide +kernel
theorem dL_holds_466 : decode cL_holds 466 = .ok (.ifCond .eq 17, 3) := by decide +kernel
theorem dL_holds_469 : decode cL_holds 469 = .ok (.aload_n 0, 1) := by decide +kernel
theorem dL_holds_470 : decode cL_holds 470 = .ok (.iconst 0, 1) := by decide +kernel
theorem dL_holds_471 : decode cL_holds 471 = .ok (.iconst 1, 1) := by decide +kernel
theorem dL_holds_472 : decode cL_holds 472 = .ok (.invokevirtual 22, 3) := by decide +kernel
theorem dL_holds_475 : decode cL_holds 475 = .ok (.aload_n 0, 1) := by decide +kernel
theorem dL_holds_476 : decode cL_holds 476 = .ok (.iconst 1, 1) := by decide +kernel
theorem dL_holds_477 : decode cL_holds 477 = .ok (.invokevirtual 12, 3) := by decide +kernel
theorem dL_holds_480 : decode cL_holds 480 = .ok (.if_icmp .ne 7, 3) := by decide +kernel
theorem dL_holds_483 : decode cL_holds 483 = .ok (.iconst 1, 1) := by decide +kernel
theorem dL_holds_484 : decode cL_holds 484 = .ok (.goto 4, 3) := by decide +kernel
theorem dL_holds_487 : decode cL_holds 487 = .ok (.iconst 0, 1) := by decide +kernel
theorem dL_holds_488 : decode cL_holds 488 = .ok (.ireturn, 1) := by decide +kernel
theorem dL_law_0 : decode cL_law 0 = .ok (.new 13, 3) := by decide +kernel
theorem dL_law_3 : decode cL_law 3 = .ok (.dup, 1) := by decide +kernel
theorem dL_law_4 : decode cL_law 4 = .ok (.invokespecial 80, 3) := by decide +kernel
theorem dL_law_7 : decode cL_law 7 = .ok (.astore_n 1, 1) := by decide +kernel
theorem dL_law_8 : decode cL_law 8 = .ok (.aload_n 1, 1) := by decide +kernel
theorem dL_law_9 : decode cL_law 9 = .ok (.invokestatic 81, 3) := by decide +kernel
theorem dL_law_12 : decode cL_law 12 = .ok (.lstore_n 2, 1) := by decide +kernel
theorem dL_law_13 : decode cL_law 13 = .ok (.aload_n 1, 1) := by decide +kernel
theorem dL_law_14 : decode cL_law 14 = .ok (.iconst 0, 1) := by decide +kernel
theorem dL_law_15 : decode cL_law 15 = .ok (.invokevirtual 85, 3) := by decide +kernel
theorem dL_law_18 : decode cL_law 18 = .ok (.ifCond .eq 5, 3) := by decide +kernel
theorem dL_law_21 : decode cL_law 21 = .ok (.iconst 0, 1) := by decide +kernel
theorem dL_law_22 : decode cL_law 22 = .ok (.ireturn, 1) := by decide +kernel
theorem dL_law_23 : decode cL_law 23 = .ok (.iconst 0, 1) := by decide +kernel
theorem dL_law_24 : decode cL_law 24 = .ok (.istore 4, 2) := by decide +kernel
theorem dL_law_26 : decode cL_law 26 = .ok (.iload 4, 2) := by decide +kernel
theorem dL_law_28 : decode cL_law 28 = .ok (.bipush 28, 2) := by decide +kernel
theorem dL_law_30 : decode cL_law 30 = .ok (.if_icmp .ge 291, 3) := by decide +kernel
theorem dL_law_33 : decode cL_law 33 = .ok (.aload_n 0, 1) := by decide +kernel
theorem dL_law_34 : decode cL_law 34 = .ok (.iconst 2, 1) := by decide +kernel
theorem dL_law_35 : decode cL_law 35 = .ok (.iload 4, 2) := by decide +kernel
theorem dL_law_37 : decode cL_law 37 = .ok (.imul, 1) := by decide +kernel
theorem dL_law_38 : decode cL_law 38 = .ok (.invokestatic 88, 3) := by decide +kernel
theorem dL_law_41 : decode cL_law 41 = .ok (.istore 5, 2) := by decide +kernel
theorem dL_law_43 : decode cL_law 43 = .ok (.aload_n 0, 1) := by decide +kernel
theorem dL_law_44 : decode cL_law 44 = .ok (.iconst 2, 1) := by decide +kernel
theorem dL_law_45 : decode cL_law 45 = .ok (.iload 4, 2) := by decide +kernel
theorem dL_law_47 : decode cL_law 47 = .ok (.imul, 1) := by decide +kernel
theorem dL_law_48 : decode cL_law 48 = .ok (.iconst 1, 1) := by decide +kernel
theorem dL_law_49 : decode cL_law 49 = .ok (.iadd, 1) := by decide +kernel
theorem dL_law_50 : decode cL_law 50 = .ok (.invokestatic 88, 3) := by decide +kernel
theorem dL_law_53 : decode cL_law 53 = .ok (.istore 6, 2) := by decide +kernel
theorem dL_law_55 : decode cL_law 55 = .ok (.aload_n 1, 1) := by decide +kernel
theorem dL_law_56 : decode cL_law 56 = .ok (.bipush 12, 2) := by decide +kernel
theorem dL_law_58 : decode cL_law 58 = .ok (.invokevirtual 12, 3) := by decide +kernel
theorem dL_law_61 : decode cL_law 61 = .ok (.bipush 6, 2) := by decide +kernel
theorem dL_law_63 : decode cL_law 63 = .ok (.if_icmp .ne 13, 3) := by decide +kernel
theorem dL_law_66 : decode cL_law 66 = .ok (.aload_n 1, 1) := by decide +kernel
theorem dL_law_67 : decode cL_law 67 = .ok (.invokevirtual 92, 3) := by decide +kernel
theorem dL_law_70 : decode cL_law 70 = .ok (.pop, 1) := by decide +kernel
theorem dL_law_71 : decode cL_law 71 = .ok (.aload_n 1, 1) := by decide +kernel
theorem dL_law_72 : decode cL_law 72 = .ok (.invokevirtual 92, 3) := by decide +kernel
theorem dL_law_75 : decode cL_law 75 = .ok (.pop, 1) := by decide +kernel
theorem dL_law_76 : decode cL_law 76 = .ok (.aload_n 1, 1) := by decide +kernel
theorem dL_law_77 : decode cL_law 77 = .ok (.bipush 12, 2) := by decide +kernel
theorem dL_law_79 : decode cL_law 79 = .ok (.invokevirtual 12, 3) := by decide +kernel
theorem dL_law_82 : decode cL_law 82 = .ok (.istore 7, 2) := by decide +kernel
theorem dL_law_84 : decode cL_law 84 = .ok (.aload_n 1, 1) := by decide +kernel
theorem dL_law_85 : decode cL_law 85 = .ok (.invokestatic 81, 3) := by decide +kernel
theorem dL_law_88 : decode cL_law 88 = .ok (.lstore 8, 2) := by decide +kernel
theorem dL_law_90 : decode cL_law 90 = .ok (.aload_n 1, 1) := by decide +kernel
theorem dL_law_91 : decode cL_law 91 = .ok (.iload 5, 2) := by decide +kernel
theorem dL_law_93 : decode cL_law 93 = .ok (.iload 6, 2) := by decide +kernel
theorem dL_law_95 : decode cL_law 95 = .ok (.invokestatic 95, 3) := by decide +kernel
theorem dL_law_98 : decode cL_law 98 = .ok (.istore 10, 2) := by decide +kernel
theorem dL_law_100 : decode cL_law 100 = .ok (.aload_n 1, 1) := by decide +kernel
theorem dL_law_101 : decode cL_law 101 = .ok (.invokestatic 81, 3) := by decide +kernel
theorem dL_law_104 : decode cL_law 104 = .ok (.lstore 11, 2) := by decide +kernel
theorem dL_law_106 : decode cL_law 106 = .ok (.iload 10, 2) := by decide +kernel
theorem dL_law_108 : decode cL_law 108 = .ok (.bipush (-9), 2) := by decide +kernel
theorem dL_law_110 : decode cL_law 110 = .ok (.if_icmp .ne 25, 3) := by decide +kernel
theorem dL_law_113 : decode cL_law 113 = .ok (.lload 11, 2) := by decide +kernel
theorem dL_law_115 : decode cL_law 115 = .ok (.lload 8, 2) := by decide +kernel
theorem dL_law_117 : decode cL_law 117 = .ok (.lcmp, 1) := by decide +kernel
theorem dL_law_118 : decode cL_law 118 = .ok (.ifCond .ne 30, 3) := by decide +kernel
theorem dL_law_121 : decode cL_law 121 = .ok (.aload_n 1, 1) := by decide +kernel
theorem dL_law_122 : decode cL_law 122 = .ok (.bipush 12, 2) := by decide +kernel
theorem dL_law_124 : decode cL_law 124 = .ok (.invokevirtual 12, 3) := by decide +kernel
theorem dL_law_127 : decode cL_law 127 = .ok (.iload 7, 2) := by decide +kernel
theorem dL_law_129 : decode cL_law 129 = .ok (.if_icmp .eq 21, 3) := by decide +kernel
theorem dL_law_132 : decode cL_law 132 = .ok (.goto 16, 3) := by decide +kernel
theorem dL_law_135 : decode cL_law 135 = .ok (.aload_n 1, 1) := by decide +kernel
theorem dL_law_136 : decode cL_law 136 = .ok (.bipush 12, 2) := by decide +kernel
theorem dL_law_138 : decode cL_law 138 = .ok (.invokevirtual 12, 3) := by decide +kernel
theorem dL_law_141 : decode cL_law 141 = .ok (.iload 7, 2) := by decide +kernel
theorem dL_law_143 : decode cL_law 143 = .ok (.iconst 1, 1) := by decide +kernel
theorem dL_law_144 : decode cL_law 144 = .ok (.iadd, 1) := by decide +kernel
theorem dL_law_145 : decode cL_law 145 = .ok (.if_icmp .eq 5, 3) := by decide +kernel
theorem dL_law_148 : decode cL_law 148 = .ok (.iconst 0, 1) := by decide +kernel
theorem dL_law_149 : decode cL_law 149 = .ok (.ireturn, 1) := by decide +kernel
theorem dL_law_150 : decode cL_law 150 = .ok (.iload 10, 2) := by decide +kernel
theorem dL_law_152 : decode cL_law 152 = .ok (.bipush (-9), 2) := by decide +kernel
theorem dL_law_154 : decode cL_law 154 = .ok (.if_icmp .le 57, 3) := by decide +kernel
theorem dL_law_157 : decode cL_law 157 = .ok (.iload 5, 2) := by decide +kernel
theorem dL_law_159 : decode cL_law 159 = .ok (.bipush 8, 2) := by decide +kernel
theorem dL_law_161 : decode cL_law 161 = .ok (.ishr, 1) := by decide +kernel
theorem dL_law_162 : decode cL_law 162 = .ok (.iconst 1, 1) := by decide +kernel
theorem dL_law_163 : decode cL_law 163 = .ok (.iand, 1) := by decide +kernel
theorem dL_law_164 : decode cL_law 164 = .ok (.ifCond .ne 47, 3) := by decide +kernel
theorem dL_law_167 : decode cL_law 167 = .ok (.aload_n 1, 1) := by decide +kernel
theorem dL_law_168 : decode cL_law 168 = .ok (.invokevirtual 92, 3) := by decide +kernel
theorem dL_law_171 : decode cL_law 171 = .ok (.iload 7, 2) := by decide +kernel
theorem dL_law_173 : decode cL_law 173 = .ok (.if_icmp .ne 36, 3) := by decide +kernel
theorem dL_law_176 : decode cL_law 176 = .ok (.aload_n 1, 1) := by decide +kernel
theorem dL_law_177 : decode cL_law 177 = .ok (.invokestatic 81, 3) := by decide +kernel
theorem dL_law_180 : decode cL_law 180 = .ok (.lload 8, 2) := by decide +kernel
theorem dL_law_182 : decode cL_law 182 = .ok (.lcmp, 1) := by decide +kernel
theorem dL_law_183 : decode cL_law 183 = .ok (.ifCond .ne 26, 3) := by decide +kernel
theorem dL_law_186 : decode cL_law 186 = .ok (.aload_n 1, 1) := by decide +kernel
theorem dL_law_187 : decode cL_law 187 = .ok (.iload 5, 2) := by decide +kernel
theorem dL_law_189 : decode cL_law 189 = .ok (.iload 6, 2) := by decide +kernel
theorem dL_law_191 : decode cL_law 191 = .ok (.invokestatic 95, 3) := by decide +kernel
theorem dL_law_194 : decode cL_law 194 = .ok (.iload 10, 2) := by decide +kernel
theorem dL_law_196 : decode cL_law 196 = .ok (.if_icmp .ne 13, 3) := by decide +kernel
theorem dL_law_199 : decode cL_law 199 = .ok (.aload_n 1, 1) := by decide +kernel
theorem dL_law_200 : decode cL_law 200 = .ok (.invokestatic 81, 3) := by decide +kernel
theorem dL_law_203 : decode cL_law 203 = .ok (.lload 11, 2) := by decide +kernel
theorem dL_law_205 : decode cL_law 205 = .ok (.lcmp, 1) := by decide +kernel
theorem dL_law_206 : decode cL_law 206 = .ok (.ifCond .eq 5, 3) := by decide +kernel
theorem dL_law_209 : decode cL_law 209 = .ok (.iconst 0, 1) := by decide +kernel
theorem dL_law_210 : decode cL_law 210 = .ok (.ireturn, 1) := by decide +kernel
theorem dL_law_211 : decode cL_law 211 = .ok (.iload 4, 2) := by decide +kernel
theorem dL_law_213 : decode cL_law 213 = .ok (.iconst 2, 1) := by decide +kernel
theorem dL_law_214 : decode cL_law 214 = .ok (.irem, 1) := by decide +kernel
theorem dL_law_215 : decode cL_law 215 = .ok (.iconst 1, 1) := by decide +kernel
theorem dL_law_216 : decode cL_law 216 = .ok (.if_icmp .ne 12, 3) := by decide +kernel
theorem dL_law_219 : decode cL_law 219 = .ok (.aload_n 1, 1) := by decide +kernel
theorem dL_law_220 : decode cL_law 220 = .ok (.invokestatic 99, 3) := by decide +kernel
theorem dL_law_223 : decode cL_law 223 = .ok (.ifCond .ne 5, 3) := by decide +kernel
theorem dL_law_226 : decode cL_law 226 = .ok (.iconst 0, 1) := by decide +kernel
theorem dL_law_227 : decode cL_law 227 = .ok (.ireturn, 1) := by decide +kernel
theorem dL_law_228 : decode cL_law 228 = .ok (.iload 5, 2) := by decide +kernel
theorem dL_law_230 : decode cL_law 230 = .ok (.bipush 9, 2) := by decide +kernel
theorem dL_law_232 : decode cL_law 232 = .ok (.ishr, 1) := by decide +kernel
theorem dL_law_233 : decode cL_law 233 = .ok (.bipush 7, 2) := by decide +kernel
theorem dL_law_235 : decode cL_law 235 = .ok (.iand, 1) := by decide +kernel
theorem dL_law_236 : decode cL_law 236 = .ok (.ifCond .ne 15, 3) := by decide +kernel
theorem dL_law_239 : decode cL_law 239 = .ok (.aload_n 1, 1) := by decide +kernel
theorem dL_law_240 : decode cL_law 240 = .ok (.iconst 0, 1) := by decide +kernel
theorem dL_law_241 : decode cL_law 241 = .ok (.invokevirtual 85, 3) := by decide +kernel
theorem dL_law_244 : decode cL_law 244 = .ok (.pop, 1) := by decide +kernel
theorem dL_law_245 : decode cL_law 245 = .ok (.lload 11, 2) := by decide +kernel
theorem dL_law_247 : decode cL_law 247 = .ok (.lstore_n 2, 1) := by decide +kernel
theorem dL_law_248 : decode cL_law 248 = .ok (.goto 67, 3) := by decide +kernel
theorem dL_law_251 : decode cL_law 251 = .ok (.iload 5, 2) := by decide +kernel
theorem dL_law_253 : decode cL_law 253 = .ok (.bipush 9, 2) := by decide +kernel
theorem dL_law_255 : decode cL_law 255 = .ok (.ishr, 1) := by decide +kernel
theorem dL_law_256 : decode cL_law 256 = .ok (.bipush 7, 2) := by decide +kernel
theorem dL_law_258 : decode cL_law 258 = .ok (.iand, 1) := by decide +kernel
theorem dL_law_259 : decode cL_law 259 = .ok (.iconst 1, 1) := by decide +kernel
theorem dL_law_260 : decode cL_law 260 = .ok (.if_icmp .ne 55, 3) := by decide +kernel
theorem dL_law_263 : decode cL_law 263 = .ok (.aload_n 1, 1) := by decide +kernel
theorem dL_law_264 : decode cL_law 264 = .ok (.bipush 12, 2) := by decide +kernel
theorem dL_law_266 : decode cL_law 266 = .ok (.invokevirtual 12, 3) := by decide +kernel
theorem dL_law_269 : decode cL_law 269 = .ok (.bipush 6, 2) := by decide +kernel
theorem dL_law_271 : decode cL_law 271 = .ok (.if_icmp .ge 44, 3) := by decide +kernel
theorem dL_law_274 : decode cL_law 274 = .ok (.aload_n 1, 1) := by decide +kernel
theorem dL_law_275 : decode cL_law 275 = .ok (.iconst 0, 1) := by decide +kernel
theorem dL_law_276 : decode cL_law 276 = .ok (.invokevirtual 103, 3) := by decide +kernel
theorem dL_law_279 : decode cL_law 279 = .ok (.aload_n 1, 1) := by decide +kernel
theorem dL_law_280 : decode cL_law 280 = .ok (.iconst 3, 1) := by decide +kernel
theorem dL_law_281 : decode cL_law 281 = .ok (.invokevirtual 12, 3) := by decide +kernel
theorem dL_law_284 : decode cL_law 284 = .ok (.if_icmp .ne 29, 3) := by decide +kernel
theorem dL_law_287 : decode cL_law 287 = .ok (.aload_n 1, 1) := by decide +kernel
theorem dL_law_288 : decode cL_law 288 = .ok (.invokestatic 81, 3) := by decide +kernel
theorem dL_law_291 : decode cL_law 291 = .ok (.lload_n 2, 1) := by decide +kernel
theorem dL_law_292 : decode cL_law 292 = .ok (.lcmp, 1) := by decide +kernel
theorem dL_law_293 : decode cL_law 293 = .ok (.ifCond .ne 20, 3) := by decide +kernel
theorem dL_law_296 : decode cL_law 296 = .ok (.aload_n 1, 1) := by decide +kernel
theorem dL_law_297 : decode cL_law 297 = .ok (.invokevirtual 92, 3) := by decide +kernel
theorem dL_law_300 : decode cL_law 300 = .ok (.ifCond .lt 13, 3) := by decide +kernel
theorem dL_law_303 : decode cL_law 303 = .ok (.aload_n 1, 1) := by decide +kernel
theorem dL_law_304 : decode cL_law 304 = .ok (.invokestatic 81, 3) := by decide +kernel
theorem dL_law_307 : decode cL_law 307 = .ok (.lload 11, 2) := by decide +kernel
theorem dL_law_309 : decode cL_law 309 = .ok (.lcmp, 1) := by decide +kernel
theorem dL_law_310 : decode cL_law 310 = .ok (.ifCond .eq 5, 3) := by decide +kernel
theorem dL_law_313 : decode cL_law 313 = .ok (.iconst 0, 1) := by decide +kernel
theorem dL_law_314 : decode cL_law 314 = .ok (.ireturn, 1) := by decide +kernel
theorem dL_law_315 : decode cL_law 315 = .ok (.iinc 4 1, 3) := by decide +kernel
theorem dL_law_318 : decode cL_law 318 = .ok (.goto (-292), 3) := by decide +kernel
theorem dL_law_321 : decode cL_law 321 = .ok (.iconst 1, 1) := by decide +kernel
theorem dL_law_322 : decode cL_law 322 = .ok (.ireturn, 1) := by decide +kernel
end
section
theorem dJ9_abs_0f7a4_0 : decode cJ9_abs_0f7a4 0 = .ok (.iload_n 0, 1) := by decide +kernel
theorem dJ9_abs_0f7a4_1 : decode cJ9_abs_0f7a4 1 = .ok (.ifCond .ge 8, 3) := by decide +kernel
theorem dJ9_abs_0f7a4_4 : decode cJ9_abs_0f7a4 4 = .ok (.iload_n 0, 1) := by decide +kernel
theorem dJ9_abs_0f7a4_5 : decode cJ9_abs_0f7a4 5 = .ok (.ineg, 1) := by decide +kernel
theorem dJ9_abs_0f7a4_6 : decode cJ9_abs_0f7a4 6 = .ok (.goto 4, 3) := by decide +kernel
theorem dJ9_abs_0f7a4_9 : decode cJ9_abs_0f7a4 9 = .ok (.iload_n 0, 1) := by decide +kernel
theorem dJ9_abs_0f7a4_10 : decode cJ9_abs_0f7a4 10 = .ok (.ireturn, 1) := by decide +kernel
theorem dJ9_max_7cf53_0 : decode cJ9_max_7cf53 0 = .ok (.iload_n 0, 1) := by decide +kernel
theorem dJ9_max_7cf53_1 : decode cJ9_max_7cf53 1 = .ok (.iload_n 1, 1) := by decide +kernel
theorem dJ9_max_7cf53_2 : decode cJ9_max_7cf53 2 = .ok (.if_icmp .lt 7, 3) := by decide +kernel
theorem dJ9_max_7cf53_5 : decode cJ9_max_7cf53 5 = .ok (.iload_n 0, 1) := by decide +kernel
theorem dJ9_max_7cf53_6 : decode cJ9_max_7cf53 6 = .ok (.goto 4, 3) := by decide +kernel
theorem dJ9_max_7cf53_9 : decode cJ9_max_7cf53 9 = .ok (.iload_n 1, 1) := by decide +kernel
theorem dJ9_max_7cf53_10 : decode cJ9_max_7cf53 10 = .ok (.ireturn, 1) := by decide +kernel
theorem dJ9_min_7cf53_0 : decode cJ9_min_7cf53 0 = .ok (.iload_n 0, 1) := by decide +kernel
theorem dJ9_min_7cf53_1 : decode cJ9_min_7cf53 1 = .ok (.iload_n 1, 1) := by decide +kernel
theorem dJ9_min_7cf53_2 : decode cJ9_min_7cf53 2 = .ok (.if_icmp .gt 7, 3) := by decide +kernel
theorem dJ9_min_7cf53_5 : decode cJ9_min_7cf53 5 = .ok (.iload_n 0, 1) := by decide +kernel
theorem dJ9_min_7cf53_6 : decode cJ9_min_7cf53 6 = .ok (.goto 4, 3) := by decide +kernel
theorem dJ9_min_7cf53_9 : decode cJ9_min_7cf53 9 = .ok (.iload_n 1, 1) := by decide +kernel
theorem dJ9_min_7cf53_10 : decode cJ9_min_7cf53 10 = .ok (.ireturn, 1) := by decide +kernel
theorem dJ7_copyOf_59c91_0 : decode cJ7_copyOf_59c91 0 = .ok (.iload_n 1, 1) := by decide +kernel
theorem dJ7_copyOf_59c91_1 : decode cJ7_copyOf_59c91 1 = .ok (.aload_n 0, 1) := by decide +kernel
theorem dJ7_copyOf_59c91_2 : decode cJ7_copyOf_59c91 2 = .ok (.arraylength, 1) := by decide +kernel
theorem dJ7_copyOf_59c91_3 : decode cJ7_copyOf_59c91 3 = .ok (.if_icmp .ne 11, 3) := by decide +kernel
theorem dJ7_copyOf_59c91_6 : decode cJ7_copyOf_59c91 6 = .ok (.aload_n 0, 1) := by decide +kernel
theorem dJ7_copyOf_59c91_7 : decode cJ7_copyOf_59c91 7 = .ok (.invokevirtual 316, 3) := by decide +kernel
theorem dJ7_copyOf_59c91_10 : decode cJ7_copyOf_59c91 10 = .ok (.checkcast 317, 3) := by decide +kernel
theorem dJ7_copyOf_59c91_13 : decode cJ7_copyOf_59c91 13 = .ok (.areturn, 1) := by decide +kernel
theorem dJ7_copyOf_59c91_14 : decode cJ7_copyOf_59c91 14 = .ok (.iload_n 1, 1) := by decide +kernel
theorem dJ7_copyOf_59c91_15 : decode cJ7_copyOf_59c91 15 = .ok (.newarray .int, 2) := by decide +kernel
theorem dJ7_copyOf_59c91_17 : decode cJ7_copyOf_59c91 17 = .ok (.astore_n 2, 1) := by decide +kernel
theorem dJ7_copyOf_59c91_18 : decode cJ7_copyOf_59c91 18 = .ok (.aload_n 0, 1) := by decide +kernel
theorem dJ7_copyOf_59c91_19 : decode cJ7_copyOf_59c91 19 = .ok (.iconst 0, 1) := by decide +kernel
theorem dJ7_copyOf_59c91_20 : decode cJ7_copyOf_59c91 20 = .ok (.aload_n 2, 1) := by decide +kernel
theorem dJ7_copyOf_59c91_21 : decode cJ7_copyOf_59c91 21 = .ok (.iconst 0, 1) := by decide +kernel
theorem dJ7_copyOf_59c91_22 : decode cJ7_copyOf_59c91 22 = .ok (.aload_n 0, 1) := by decide +kernel
theorem dJ7_copyOf_59c91_23 : decode cJ7_copyOf_59c91 23 = .ok (.arraylength, 1) := by decide +kernel
theorem dJ7_copyOf_59c91_24 : decode cJ7_copyOf_59c91 24 = .ok (.iload_n 1, 1) := by decide +kernel
theorem dJ7_copyOf_59c91_25 : decode cJ7_copyOf_59c91 25 = .ok (.invokestatic 304, 3) := by decide +kernel
theorem dJ7_copyOf_59c91_28 : decode cJ7_copyOf_59c91 28 = .ok (.invokestatic 150, 3) := by decide +kernel
theorem dJ7_copyOf_59c91_31 : decode cJ7_copyOf_59c91 31 = .ok (.aload_n 2, 1) := by decide +kernel
theorem dJ7_copyOf_59c91_32 : decode cJ7_copyOf_59c91 32 = .ok (.areturn, 1) := by decide +kernel
end
section
/-! THE WALK IN WORDS OF OUR OWN: an abstract heap (a function from addresses to cells), a judgement zV ("from pc, with these locals, this stack, this heap, the method ends, and Q holds of its outcome and its heap"), a method's contract zM, and a row an instruction, each out of the kit's rows. -/
/-- a cell: a tag of our own (two addresses with different tags are different), and what it holds -/
abbrev zCE : Type := Nat × ((Nat × vp_A) ⊕ (Nat × List Value))
abbrev zHM : Type := Nat → Option zCE
abbrev zH : Type := zHM × Nat × Nat
abbrev zOut : Type := Option Value ⊕ String
/-- the world: the launch, the classes' numbers, the array classes' numbers, the first address of ours, the two static arrays, the script -/
abbrev zW : Type := Launch × va_G × (Nat → ClassId) × Nat × Nat × Nat × Nat × Nat × (Nat → Int32)
/-- the script: where it lies, its length, its ints -/
abbrev zSc (G : zW) : Nat × Nat × (Nat → Int32) := G.2.2.2.2.2.2
def zE (K : Nat → ClassId) (e : zCE) : va_E := match e.2 with
  | .inl x => .inl (K x.1, x.2)
  | .inr o => .inr o
def zup (f : zHM) (a : Nat) (e : zCE) : zHM := fun q => if q = a then some e else f q
theorem zup_at (f : zHM) (a : Nat) (e : zCE) : zup f a e a = some e := if_pos rfl
theorem zup_ne {f : zHM} {a q : Nat} {e : zCE} (h : q ≠ a) : zup f a e q = f q := if_neg h
theorem ztne {f : zHM} {a b t1 t2 : Nat} {c1 c2 : (Nat × vp_A) ⊕ (Nat × List Value)} (ha : f a = some (t1, c1)) (hb : f b = some (t2, c2)) (ht : t1 ≠ t2) : a ≠ b := fun e => by
  subst e
  rw [ha] at hb
  exact ht (Prod.mk.inj (Option.some.inj hb)).1
theorem zup_get {f : zHM} {a b t1 t2 : Nat} {c1 c2 : (Nat × vp_A) ⊕ (Nat × List Value)} {e : zCE} (ha : f a = some (t1, c1)) (hb : f b = some (t2, c2)) (ht : t1 ≠ t2) : zup f b e a = some (t1, c1) := (zup_ne (ztne ha hb ht)).trans ha
theorem zup_new {f : zHM} {a b : Nat} {x e : zCE} (ha : f a = some x) (hb : f b = none) : zup f b e a = some x := (zup_ne (fun q => by rw [q, hb] at ha; cases ha)).trans ha
abbrev zCL : List vw_C := [(RX0, TX0, 2), (RX1, TX1, 19), (RX2, TX2, 2), (RX3, TX3, 7)]
def ztys (K : Nat → ClassId) : List (ClassId × FieldType) := [(K 0, .int), (K 1, .int), (K 2, .int), (K 3, .char), (K 4, .object "RingThreads$Line"), (K 5, .object "RingThreads$Ring")]
def GT : List Cond := lw_tbl.filter goodWord
theorem GT_in {w : Cond} (h : w ∈ lw_tbl) (hg : goodWord w = true) : w ∈ GT := List.mem_filter.mpr ⟨h, hg⟩
theorem GT_good {w : Cond} (h : w ∈ GT) : goodWord w = true := (List.mem_filter.mp h).2
def zA (G : zW) : Nat → Prop := fun q => G.2.2.2.1 ≤ q
def zAR : List Int32 := [60, 58, 52, 42, 30, 16, 0, -16, -30, -42, -52, -58, -60, -58, -52, -42, -30, -16, 0, 16, 30, 42, 52, 58]
def zMS : List Int32 := [6, 9, 9]
def zSTR : List (Nat × String) := [(47, "4, 6, 8, 12 or 24 nails"), (84, "the spool is in use"), (93, "it is the spool of now"), (113, "200 chords lie"), (127, "no chord lies"), (181, "no snapshot is in the slot"), (190, "no state is saved"), (216, "out of range"), (324, "no such nail"), (327, "no such spool"), (329, "no such setting"), (331, "no such square")]
def zEXC : List String := ["java/lang/IllegalArgumentException", "java/lang/IllegalStateException", "java/lang/IndexOutOfBoundsException"]
def zDCL : List MethodName := [Bundle.initS "java/lang/RuntimeException", Bundle.initS "java/lang/Exception", Bundle.initS "java/lang/Throwable"]
def zAOL : List String := ["RingThreads$Line", "RingThreads$Ring"]
/-- what stays true of the tables and the statics -/
def zG (G : zW) (U : State) (H : Heap) : Prop :=
  (G.1.stackTraces = false ∧ (zSc G).1 < G.2.2.2.1 ∧ va_X (zSc G).1 (zSc G).2.1 (zSc G).2.2 U H) ∧ va_K G.2.1 zCL (ztys G.2.2.1) U ∧
  (va_Z "RingThreads" "AROUND" "[I" (.ref G.2.2.2.2.1) (zA G) U H ∧ va_T .int G.2.2.2.2.1 24 (fun j => .int (zAR.getD j 0)) (zA G) U H) ∧
  (va_Z "RingThreads" "MOST_SETTING" "[I" (.ref G.2.2.2.2.2.1) (zA G) U H ∧ va_T .int G.2.2.2.2.2.1 3 (fun j => .int (zMS.getD j 0)) (zA G) U H) ∧
  vx_Zq Bundle.tN "UNASSIGNED_STACK" Bundle.steD (zA G) U H ∧ vx_Zq Bundle.tN "SUPPRESSED_SENTINEL" Bundle.listD (zA G) U H ∧
  (∀ q ∈ zSTR, ∃ sa, vk_R "RingThreads" q.1 q.2 sa U) ∧
  va_Nw (.fieldLinkNest "RingThreads$Line" 19 "RingThreads" "AROUND" "[I" "RingThreads") U ∧ va_Nw (.methodLinkNest "RingThreads" 15 yX2_init "RingThreads") U ∧
  (∀ X ∈ zEXC, va_Nw (.castable X X) U) ∧ (∀ X ∈ zEXC, ∀ Y ∈ zEXC, X ≠ Y → va_Nc X Y U) ∧ (∀ Y ∈ zDCL, va_Nw (.declares Y) U) ∧ (∀ C ∈ zAOL, va_AO C U)
theorem zG.moved {G : zW} {s U : State} {H : Heap} (hW : s.WarmedH U.vm) (h : zG G s H) : zG G U H := by
  obtain ⟨h0, h1, ⟨h2, h3⟩, ⟨h4, h5⟩, h6, h7, h8, h9, h10, h11, h12, h13, h14⟩ := h
  exact ⟨⟨h0.1, h0.2.1, va_X.moved hW.alike h0.2.2⟩, va_K.moved hW.alike h1, ⟨va_Z.moved hW.alike h2, va_T.moved hW.alike h3⟩, ⟨va_Z.moved hW.alike h4, va_T.moved hW.alike h5⟩, vx_Zq.moved hW.alike h6, vx_Zq.moved hW.alike h7, fun q hq => by obtain ⟨sa, h⟩ := h8 q hq; exact ⟨sa, vk_R.warm hW h⟩, va_Nw.warmF hW h9, va_Nw.warmM hW h10, fun X hX => va_Nw.warmC hW (h11 X hX), fun X hX Y hY hn => va_Nc.moved hW.alike (h12 X hX Y hY hn), fun Y hY => va_Nw.warmD hW (h13 Y hY), fun C hC => va_AO.moved hW.alike (h14 C hC)⟩
theorem zG.kept {G : zW} {U : State} {H H1 : Heap} (hq : ∀ a : Nat, a < H.size → ¬ zA G a → H1[a]? = H[a]?) (h : zG G U H) : zG G U H1 := by
  obtain ⟨h0, h1, ⟨h2, h3⟩, ⟨h4, h5⟩, h6, h7, h8, h9, h10, h11, h12, h13, h14⟩ := h
  have hlt : (zSc G).1 < H.size := by
    obtain ⟨scr, e, -⟩ := h0.2.2
    exact (Array.getElem?_eq_some_iff.mp e).1
  exact ⟨⟨h0.1, h0.2.1, va_X.kept h0.2.2 (hq _ hlt (Nat.not_le.mpr h0.2.1))⟩, h1, ⟨va_Z.kept h2 hq, va_T.kept h3 hq⟩, ⟨va_Z.kept h4 hq, va_T.kept h5 hq⟩, vx_Zq.kept h6 hq, vx_Zq.kept h7 hq, h8, h9, h10, h11, h12, h13, h14⟩
/-- the abstract heap lies in the heap -/
def zR (G : zW) (f : zHM) (H : Heap) : Prop := ∃ ws : va_W, (∀ a e, f a = some e → ∃ k : Nat, ws[k]? = some (a, zE G.2.2.1 e)) ∧ va_P G.2.1 zCL ws H ∧ va_D (zA G) ws
def zcap (h : zH) : Prop := h.2.1 ≤ 50000 ∧ h.2.2 ≤ 400000
def zroom (d : Nat) : Room := { frames := d, cells := 50000 * (d + 1), slots := 400000 * (d + 1), locals := 34 * d }
/-- how a method ends: it returns .. -/
def zQ (G : zW) (Q : zOut → zH → Prop) (n0 z0 : Nat) : Array Value → State → Outcome → State → Prop := fun _ st o t =>
  ∃ (v : Option Value) (h : zH) (k n : Nat) (L : List Loc), o = .returned v ∧ Q (.inl v) h ∧ zR G h.1 t.heap ∧ h.2.1 = n0 + k ∧ h.2.2 = z0 + n ∧ zcap h ∧ st.sameButNew ({ t with vm := st.vm } : State) L k n ∧ (∀ q ∈ L, zA G q.base) ∧ va_F (zA G) st t
/-- .. or throws -/
def zX (G : zW) (Q : zOut → zH → Prop) (n0 z0 : Nat) : String → State → State → Prop := fun E st t =>
  ∃ (h : zH) (k n : Nat) (L : List Loc), Q (.inr E) h ∧ zR G h.1 t.heap ∧ h.2.1 = n0 + k ∧ h.2.2 = z0 + n ∧ zcap h ∧ st.sameButNew ({ t with vm := st.vm } : State) L k n ∧ (∀ q ∈ L, zA G q.base) ∧ va_F (zA G) st t
def zC (G : zW) (y : MethodName) (cc : ByteArray) (nL : Nat) (ret : Option FieldType) (d : Nat) (p : Program) (R : Room) (s : State) (m : MethodId) (args : Array Value) (meth : Method) (c : Code) : Prop :=
  p.tables.exec = Jvm.exec ∧ c.code = cc ∧ c.maxLocals = nL ∧ s.vm.findClass y.cls = some m.cls ∧ meth.sig.returnType = ret ∧ meth.locks = false ∧ meth.name = y.name ∧ (∀ x ∈ c.exceptionTable.toList, False) ∧ (∀ w ∈ GT, w.before args s = true) ∧ R = zroom d ∧ zG G s s.heap ∧ G.2.2.2.1 ≤ s.heap.size
def zV (G : zW) (y : MethodName) (cc : ByteArray) (nL : Nat) (ret : Option FieldType) (d : Nat) (pc : Nat) (lv : List (Nat × Value)) (st : List Value) (h : zH) (Q : zOut → zH → Prop) : Prop :=
  ∀ (p : Program) (e : Env) (R : Room) (s : State) (m : MethodId) (args : Array Value) (below : List Frame) (meth : Method) (c : Code) (H : Heap) (locs : List Loc) (cells slots n0 z0 : Nat) (ls : Array Slot),
    zC G y cc nL ret d p R s m args meth c → h.2.1 = n0 + cells → h.2.2 = z0 + slots → zcap h → zR G h.1 H → va_S (zA G) s.heap H locs → lv_has ls nL lv →
    W p G.1 e R s m args below meth c H locs cells slots (vx_MQ below (zQ G Q n0 z0) (zX G Q n0 z0) args s (50000 * (d + 1)) (400000 * (d + 1)) (zA G)) (F0 m pc ls st)
/-- a method's contract -/
def zPc (G : zW) (as : List Value) (h : zH) : Array Value → State → Prop := fun a U => a = as.toArray ∧ zG G U U.heap ∧ zR G h.1 U.heap ∧ zcap h ∧ G.2.2.2.1 ≤ U.heap.size
def zM (G : zW) (y : MethodName) (cc : ByteArray) (nL : Nat) (ret : Option FieldType) (d : Nat) (as : List Value) (h : zH) (Q : zOut → zH → Prop) : Prop :=
  vx_Met G.1 y (.code y cc nL ret :: GT) (zroom d) (zPc G as h) (zQ G Q h.2.1 h.2.2) (zX G Q h.2.1 h.2.2) (50000 * (d + 1)) (400000 * (d + 1)) (zA G)
def zlk : List (Nat × Value) → Nat → Option Value
  | [], _ => none
  | q :: r, i => bif q.1 == i then some q.2 else zlk r i
theorem zlk_mem : ∀ {lv : List (Nat × Value)} {i : Nat} {v : Value}, zlk lv i = some v → (i, v) ∈ lv
  | [], i, v, h => by cases h
  | q :: r, i, v, h => by
    unfold zlk at h
    cases hq : q.1 == i with
    | true =>
      rw [hq] at h
      have e1 : q.1 = i := eq_of_beq hq
      have e2 : q.2 = v := Option.some.inj h
      rw [← e1, ← e2]; exact List.mem_cons_self
    | false =>
      rw [hq] at h
      exact List.mem_cons_of_mem _ (zlk_mem h)
theorem zlk_at {ls : Array Slot} {nL : Nat} {lv : List (Nat × Value)} {i : Nat} {v : Value} (h : lv_has ls nL lv) (hk : zlk lv i = some v) : ls[i]? = some (.val v) := h.2.2 (i, v) (zlk_mem hk)
def zst1 (lv : List (Nat × Value)) (i : Nat) (v : Value) : List (Nat × Value) := (i, v) :: lv.filter (fun q => !(q.1 == i) && !(q.1 + 1 == i && q.2.category == 2))
def zst2 (lv : List (Nat × Value)) (i : Nat) (v : Value) : List (Nat × Value) := (i, v) :: lv.filter (fun q => !(q.1 == i) && (!(q.1 == i + 1) && !(q.1 + 1 == i && q.2.category == 2)))
def zsub (lv : List (Nat × Value)) : List (Nat × Value) → Prop
  | [] => True
  | q :: r => zlk lv q.1 = some q.2 ∧ zsub lv r
theorem zsub_mem {lv : List (Nat × Value)} : ∀ {l : List (Nat × Value)}, zsub lv l → ∀ q ∈ l, q ∈ lv
  | [], _, q, h => by cases h
  | x :: r, hs, q, h => by
    rcases List.mem_cons.mp h with rfl | h
    · exact zlk_mem hs.1
    · exact zsub_mem hs.2 q h
/-- the world's relation is not touched by what is forgotten -/
theorem zR.at {G : zW} {f : zHM} {H : Heap} (h : zR G f H) {a : Nat} {e : zCE} (ha : f a = some e) : ∃ ws : va_W, (∀ a e, f a = some e → ∃ k : Nat, ws[k]? = some (a, zE G.2.2.1 e)) ∧ va_P G.2.1 zCL ws H ∧ va_D (zA G) ws ∧ ∃ k : Nat, ws[k]? = some (a, zE G.2.2.1 e) := by
  obtain ⟨ws, h1, h2, h3⟩ := h
  exact ⟨ws, h1, h2, h3, h1 a e ha⟩
theorem zR.put {G : zW} {f : zHM} {ws : va_W} {a k0 : Nat} {e0 : va_E} {e : zCE} (h1 : ∀ a e, f a = some e → ∃ k : Nat, ws[k]? = some (a, zE G.2.2.1 e)) (hk : ws[k0]? = some (a, e0)) (b : Nat) (x : zCE) (hb : zup f a e b = some x) : ∃ k : Nat, (ws.set k0 (a, zE G.2.2.1 e))[k]? = some (b, zE G.2.2.1 x) := by
  have hlt : k0 < ws.length := (List.getElem?_eq_some_iff.mp hk).1
  by_cases hba : b = a
  · subst hba
    rw [zup_at] at hb
    cases hb
    exact ⟨k0, by rw [List.getElem?_set]; simp [hlt]⟩
  · rw [zup_ne hba] at hb
    obtain ⟨k, hk1⟩ := h1 b x hb
    refine ⟨k, ?_⟩
    rw [List.getElem?_set]
    by_cases hkk : k0 = k
    · subst hkk
      rw [hk] at hk1
      have := (Prod.mk.inj (Option.some.inj hk1)).1
      exact absurd this.symm hba
    · rw [if_neg hkk]; exact hk1
theorem zR.lt {G : zW} {f : zHM} {H : Heap} (h : zR G f H) {a : Nat} {e : zCE} (ha : f a = some e) : a < H.size := by
  obtain ⟨ws, h1, h2, h3, k, hk⟩ := h.at ha
  exact (h2 k _ hk).lt
theorem W.mono {p : Program} {l : Launch} {e : Env} {R : Room} {s : State} {m : MethodId} {args : Array Value} {below : List Frame} {meth : Method} {c : Code} {H : Heap} {locs : List Loc} {cells slots : Nat} {Q Q' : State → Prop} {g : JFrame} (hq : ∀ t, Q t → Q' t) (k : W p l e R s m args below meth c H locs cells slots Q g) : W p l e R s m args below meth c H locs cells slots Q' g := by
  intro T hT X
  obtain ⟨t, a, b⟩ := k T hT X
  exact ⟨t, a, hq t b⟩
section ZROWS
variable {G : zW} {y : MethodName} {cc : ByteArray} {nL : Nat} {ret : Option FieldType} {d : Nat} {pc : Nat} {lv : List (Nat × Value)} {st : List Value} {h : zH} {Q : zOut → zH → Prop}
theorem v_loc {lv' : List (Nat × Value)} (hs : zsub lv lv') (k : zV G y cc nL ret d pc lv' st h Q) : zV G y cc nL ret d pc lv st h Q := fun p e R s m args below meth c H locs cells slots n0 z0 ls C h1 h2 h3 h4 h5 h6 =>
  k p e R s m args below meth c H locs cells slots n0 z0 ls C h1 h2 h3 h4 h5 ⟨h6.1, h6.2.1, fun q hq => h6.2.2 q (zsub_mem hs q hq)⟩
theorem v_mono {Q' : zOut → zH → Prop} (hq : ∀ o h, Q o h → Q' o h) (k : zV G y cc nL ret d pc lv st h Q) : zV G y cc nL ret d pc lv st h Q' := fun p e R s m args below meth c H locs cells slots n0 z0 ls C h1 h2 h3 h4 h5 h6 => by
  refine W.mono ?_ (k p e R s m args below meth c H locs cells slots n0 z0 ls C h1 h2 h3 h4 h5 h6)
  rintro t ⟨o, a1, a2, ⟨⟨v, h9, k9, n9, L, b1, b2, b3⟩, b4⟩ | ⟨q, b1, E, ce, L, ⟨h9, k9, n9, L9, c1, c2⟩, b2⟩⟩
  · exact ⟨o, a1, a2, Or.inl ⟨⟨v, h9, k9, n9, L, b1, hq _ _ b2, b3⟩, b4⟩⟩
  · exact ⟨o, a1, a2, Or.inr ⟨q, b1, E, ce, L, ⟨h9, k9, n9, L9, hq _ _ c1, c2⟩, b2⟩⟩
theorem v_iconst {n : Int} (v : Int32) (hd : decode cc pc = .ok (.iconst n, 1)) (hv : Int32.ofInt n = v) (k : zV G y cc nL ret d (pc + 1) lv (.int v :: st) h Q) : zV G y cc nL ret d pc lv st h Q := fun p e R s m args below meth c H locs cells slots n0 z0 ls C h1 h2 h3 h4 h5 h6 => lv_iconst C.1 C.2.1 hd hv (k p e R s m args below meth c H locs cells slots n0 z0 ls C h1 h2 h3 h4 h5 h6)
theorem v_bipush {n : Int} (v : Int32) (hd : decode cc pc = .ok (.bipush n, 2)) (hv : (Int8.ofInt n).toInt32 = v) (k : zV G y cc nL ret d (pc + 2) lv (.int v :: st) h Q) : zV G y cc nL ret d pc lv st h Q := fun p e R s m args below meth c H locs cells slots n0 z0 ls C h1 h2 h3 h4 h5 h6 => lv_bipush C.1 C.2.1 hd hv (k p e R s m args below meth c H locs cells slots n0 z0 ls C h1 h2 h3 h4 h5 h6)
theorem v_sipush {n : Int} (v : Int32) (hd : decode cc pc = .ok (.sipush n, 3)) (hv : (Int16.ofInt n).toInt32 = v) (k : zV G y cc nL ret d (pc + 3) lv (.int v :: st) h Q) : zV G y cc nL ret d pc lv st h Q := fun p e R s m args below meth c H locs cells slots n0 z0 ls C h1 h2 h3 h4 h5 h6 => lv_sipush C.1 C.2.1 hd hv (k p e R s m args below meth c H locs cells slots n0 z0 ls C h1 h2 h3 h4 h5 h6)
theorem v_lconst {n : Fin 2} (v : Int64) (hd : decode cc pc = .ok (.lconst n, 1)) (hv : Int64.ofNat n = v) (k : zV G y cc nL ret d (pc + 1) lv (.long v :: st) h Q) : zV G y cc nL ret d pc lv st h Q := fun p e R s m args below meth c H locs cells slots n0 z0 ls C h1 h2 h3 h4 h5 h6 => lv_lconst C.1 C.2.1 hd hv (k p e R s m args below meth c H locs cells slots n0 z0 ls C h1 h2 h3 h4 h5 h6)
theorem v_dconst0  (hd : decode cc pc = .ok (.dconst 0, 1)) (k : zV G y cc nL ret d (pc + 1) lv (.double 0 :: st) h Q) : zV G y cc nL ret d pc lv st h Q := fun p e R s m args below meth c H locs cells slots n0 z0 ls C h1 h2 h3 h4 h5 h6 => lv_dconst0 C.1 C.2.1 hd (k p e R s m args below meth c H locs cells slots n0 z0 ls C h1 h2 h3 h4 h5 h6)
theorem v_dconst1  (hd : decode cc pc = .ok (.dconst 1, 1)) (k : zV G y cc nL ret d (pc + 1) lv (.double 4607182418800017408 :: st) h Q) : zV G y cc nL ret d pc lv st h Q := fun p e R s m args below meth c H locs cells slots n0 z0 ls C h1 h2 h3 h4 h5 h6 => lv_dconst1 C.1 C.2.1 hd (k p e R s m args below meth c H locs cells slots n0 z0 ls C h1 h2 h3 h4 h5 h6)
theorem v_null  (hd : decode cc pc = .ok (.aconst_null, 1)) (k : zV G y cc nL ret d (pc + 1) lv (.null :: st) h Q) : zV G y cc nL ret d pc lv st h Q := fun p e R s m args below meth c H locs cells slots n0 z0 ls C h1 h2 h3 h4 h5 h6 => lv_null C.1 C.2.1 hd (k p e R s m args below meth c H locs cells slots n0 z0 ls C h1 h2 h3 h4 h5 h6)
theorem v_iload_n {i : Nat} {j : Fin 4} {x : Int32} (hd : decode cc pc = .ok (.iload_n j, 1)) (hi : (j : Nat) = i) (hl : zlk lv i = some (.int x)) (k : zV G y cc nL ret d (pc + 1) lv (.int x :: st) h Q) : zV G y cc nL ret d pc lv st h Q := fun p e R s m args below meth c H locs cells slots n0 z0 ls C h1 h2 h3 h4 h5 h6 => lv_iload_n C.1 C.2.1 hd hi (zlk_at h6 hl) (k p e R s m args below meth c H locs cells slots n0 z0 ls C h1 h2 h3 h4 h5 h6)
theorem v_iload {i : Nat} {x : Int32} (hd : decode cc pc = .ok (.iload i, 2)) (hl : zlk lv i = some (.int x)) (k : zV G y cc nL ret d (pc + 2) lv (.int x :: st) h Q) : zV G y cc nL ret d pc lv st h Q := fun p e R s m args below meth c H locs cells slots n0 z0 ls C h1 h2 h3 h4 h5 h6 => lv_iload C.1 C.2.1 hd (zlk_at h6 hl) (k p e R s m args below meth c H locs cells slots n0 z0 ls C h1 h2 h3 h4 h5 h6)
theorem v_lload_n {i : Nat} {j : Fin 4} {x : Int64} (hd : decode cc pc = .ok (.lload_n j, 1)) (hi : (j : Nat) = i) (hl : zlk lv i = some (.long x)) (k : zV G y cc nL ret d (pc + 1) lv (.long x :: st) h Q) : zV G y cc nL ret d pc lv st h Q := fun p e R s m args below meth c H locs cells slots n0 z0 ls C h1 h2 h3 h4 h5 h6 => lv_lload_n C.1 C.2.1 hd hi (zlk_at h6 hl) (k p e R s m args below meth c H locs cells slots n0 z0 ls C h1 h2 h3 h4 h5 h6)
theorem v_lload {i : Nat} {x : Int64} (hd : decode cc pc = .ok (.lload i, 2)) (hl : zlk lv i = some (.long x)) (k : zV G y cc nL ret d (pc + 2) lv (.long x :: st) h Q) : zV G y cc nL ret d pc lv st h Q := fun p e R s m args below meth c H locs cells slots n0 z0 ls C h1 h2 h3 h4 h5 h6 => lv_lload C.1 C.2.1 hd (zlk_at h6 hl) (k p e R s m args below meth c H locs cells slots n0 z0 ls C h1 h2 h3 h4 h5 h6)
theorem v_dload_n {i : Nat} {j : Fin 4} {x : UInt64} (hd : decode cc pc = .ok (.dload_n j, 1)) (hi : (j : Nat) = i) (hl : zlk lv i = some (.double x)) (k : zV G y cc nL ret d (pc + 1) lv (.double x :: st) h Q) : zV G y cc nL ret d pc lv st h Q := fun p e R s m args below meth c H locs cells slots n0 z0 ls C h1 h2 h3 h4 h5 h6 => lv_dload_n C.1 C.2.1 hd hi (zlk_at h6 hl) (k p e R s m args below meth c H locs cells slots n0 z0 ls C h1 h2 h3 h4 h5 h6)
theorem v_dload {i : Nat} {x : UInt64} (hd : decode cc pc = .ok (.dload i, 2)) (hl : zlk lv i = some (.double x)) (k : zV G y cc nL ret d (pc + 2) lv (.double x :: st) h Q) : zV G y cc nL ret d pc lv st h Q := fun p e R s m args below meth c H locs cells slots n0 z0 ls C h1 h2 h3 h4 h5 h6 => lv_dload C.1 C.2.1 hd (zlk_at h6 hl) (k p e R s m args below meth c H locs cells slots n0 z0 ls C h1 h2 h3 h4 h5 h6)
theorem v_aload_n {i : Nat} {j : Fin 4} {x : Nat} (hd : decode cc pc = .ok (.aload_n j, 1)) (hi : (j : Nat) = i) (hl : zlk lv i = some (.ref x)) (k : zV G y cc nL ret d (pc + 1) lv (.ref x :: st) h Q) : zV G y cc nL ret d pc lv st h Q := fun p e R s m args below meth c H locs cells slots n0 z0 ls C h1 h2 h3 h4 h5 h6 => lv_aload_n C.1 C.2.1 hd hi (zlk_at h6 hl) (k p e R s m args below meth c H locs cells slots n0 z0 ls C h1 h2 h3 h4 h5 h6)
theorem v_aload {i : Nat} {x : Nat} (hd : decode cc pc = .ok (.aload i, 2)) (hl : zlk lv i = some (.ref x)) (k : zV G y cc nL ret d (pc + 2) lv (.ref x :: st) h Q) : zV G y cc nL ret d pc lv st h Q := fun p e R s m args below meth c H locs cells slots n0 z0 ls C h1 h2 h3 h4 h5 h6 => lv_aload C.1 C.2.1 hd (zlk_at h6 hl) (k p e R s m args below meth c H locs cells slots n0 z0 ls C h1 h2 h3 h4 h5 h6)
theorem v_aload_nN {i : Nat} {j : Fin 4} (hd : decode cc pc = .ok (.aload_n j, 1)) (hi : (j : Nat) = i) (hl : zlk lv i = some .null) (k : zV G y cc nL ret d (pc + 1) lv (.null :: st) h Q) : zV G y cc nL ret d pc lv st h Q := fun p e R s m args below meth c H locs cells slots n0 z0 ls C h1 h2 h3 h4 h5 h6 => lv_aload_nN C.1 C.2.1 hd hi (zlk_at h6 hl) (k p e R s m args below meth c H locs cells slots n0 z0 ls C h1 h2 h3 h4 h5 h6)
theorem v_aloadN {i : Nat} (hd : decode cc pc = .ok (.aload i, 2)) (hl : zlk lv i = some .null) (k : zV G y cc nL ret d (pc + 2) lv (.null :: st) h Q) : zV G y cc nL ret d pc lv st h Q := fun p e R s m args below meth c H locs cells slots n0 z0 ls C h1 h2 h3 h4 h5 h6 => lv_aloadN C.1 C.2.1 hd (zlk_at h6 hl) (k p e R s m args below meth c H locs cells slots n0 z0 ls C h1 h2 h3 h4 h5 h6)
theorem v_istore_n {i : Nat} {j : Fin 4} {x : Int32} (hd : decode cc pc = .ok (.istore_n j, 1)) (hi : (j : Nat) = i) (hn : i < nL) (k : zV G y cc nL ret d (pc + 1) (zst1 lv i (.int x)) st h Q) : zV G y cc nL ret d pc lv (.int x :: st) h Q := fun p e R s m args below meth c H locs cells slots n0 z0 ls C h1 h2 h3 h4 h5 h6 => lv_istore_n C.1 C.2.1 hd hi h6 hn rfl (fun ls9 h9 => k p e R s m args below meth c H locs cells slots n0 z0 ls9 C h1 h2 h3 h4 h5 h9)
theorem v_istore {i : Nat} {x : Int32} (hd : decode cc pc = .ok (.istore i, 2)) (hn : i < nL) (k : zV G y cc nL ret d (pc + 2) (zst1 lv i (.int x)) st h Q) : zV G y cc nL ret d pc lv (.int x :: st) h Q := fun p e R s m args below meth c H locs cells slots n0 z0 ls C h1 h2 h3 h4 h5 h6 => lv_istore C.1 C.2.1 hd h6 hn rfl (fun ls9 h9 => k p e R s m args below meth c H locs cells slots n0 z0 ls9 C h1 h2 h3 h4 h5 h9)
theorem v_lstore_n {i : Nat} {j : Fin 4} {x : Int64} (hd : decode cc pc = .ok (.lstore_n j, 1)) (hi : (j : Nat) = i) (hn : i + 1 < nL) (k : zV G y cc nL ret d (pc + 1) (zst2 lv i (.long x)) st h Q) : zV G y cc nL ret d pc lv (.long x :: st) h Q := fun p e R s m args below meth c H locs cells slots n0 z0 ls C h1 h2 h3 h4 h5 h6 => lv_lstore_n C.1 C.2.1 hd hi h6 hn rfl (fun ls9 h9 => k p e R s m args below meth c H locs cells slots n0 z0 ls9 C h1 h2 h3 h4 h5 h9)
theorem v_lstore {i : Nat} {x : Int64} (hd : decode cc pc = .ok (.lstore i, 2)) (hn : i + 1 < nL) (k : zV G y cc nL ret d (pc + 2) (zst2 lv i (.long x)) st h Q) : zV G y cc nL ret d pc lv (.long x :: st) h Q := fun p e R s m args below meth c H locs cells slots n0 z0 ls C h1 h2 h3 h4 h5 h6 => lv_lstore C.1 C.2.1 hd h6 hn rfl (fun ls9 h9 => k p e R s m args below meth c H locs cells slots n0 z0 ls9 C h1 h2 h3 h4 h5 h9)
theorem v_dstore_n {i : Nat} {j : Fin 4} {x : UInt64} (hd : decode cc pc = .ok (.dstore_n j, 1)) (hi : (j : Nat) = i) (hn : i + 1 < nL) (k : zV G y cc nL ret d (pc + 1) (zst2 lv i (.double x)) st h Q) : zV G y cc nL ret d pc lv (.double x :: st) h Q := fun p e R s m args below meth c H locs cells slots n0 z0 ls C h1 h2 h3 h4 h5 h6 => lv_dstore_n C.1 C.2.1 hd hi h6 hn rfl (fun ls9 h9 => k p e R s m args below meth c H locs cells slots n0 z0 ls9 C h1 h2 h3 h4 h5 h9)
theorem v_dstore {i : Nat} {x : UInt64} (hd : decode cc pc = .ok (.dstore i, 2)) (hn : i + 1 < nL) (k : zV G y cc nL ret d (pc + 2) (zst2 lv i (.double x)) st h Q) : zV G y cc nL ret d pc lv (.double x :: st) h Q := fun p e R s m args below meth c H locs cells slots n0 z0 ls C h1 h2 h3 h4 h5 h6 => lv_dstore C.1 C.2.1 hd h6 hn rfl (fun ls9 h9 => k p e R s m args below meth c H locs cells slots n0 z0 ls9 C h1 h2 h3 h4 h5 h9)
theorem v_astore_n {i : Nat} {j : Fin 4} {x : Nat} (hd : decode cc pc = .ok (.astore_n j, 1)) (hi : (j : Nat) = i) (hn : i < nL) (k : zV G y cc nL ret d (pc + 1) (zst1 lv i (.ref x)) st h Q) : zV G y cc nL ret d pc lv (.ref x :: st) h Q := fun p e R s m args below meth c H locs cells slots n0 z0 ls C h1 h2 h3 h4 h5 h6 => lv_astore_n C.1 C.2.1 hd hi h6 hn rfl (fun ls9 h9 => k p e R s m args below meth c H locs cells slots n0 z0 ls9 C h1 h2 h3 h4 h5 h9)
theorem v_astore {i : Nat} {x : Nat} (hd : decode cc pc = .ok (.astore i, 2)) (hn : i < nL) (k : zV G y cc nL ret d (pc + 2) (zst1 lv i (.ref x)) st h Q) : zV G y cc nL ret d pc lv (.ref x :: st) h Q := fun p e R s m args below meth c H locs cells slots n0 z0 ls C h1 h2 h3 h4 h5 h6 => lv_astore C.1 C.2.1 hd h6 hn rfl (fun ls9 h9 => k p e R s m args below meth c H locs cells slots n0 z0 ls9 C h1 h2 h3 h4 h5 h9)
theorem v_astore_nN {i : Nat} {j : Fin 4} (hd : decode cc pc = .ok (.astore_n j, 1)) (hi : (j : Nat) = i) (hn : i < nL) (k : zV G y cc nL ret d (pc + 1) (zst1 lv i .null) st h Q) : zV G y cc nL ret d pc lv (.null :: st) h Q := fun p e R s m args below meth c H locs cells slots n0 z0 ls C h1 h2 h3 h4 h5 h6 => lv_astore_nN C.1 C.2.1 hd hi h6 hn rfl (fun ls9 h9 => k p e R s m args below meth c H locs cells slots n0 z0 ls9 C h1 h2 h3 h4 h5 h9)
theorem v_astoreN {i : Nat} (hd : decode cc pc = .ok (.astore i, 2)) (hn : i < nL) (k : zV G y cc nL ret d (pc + 2) (zst1 lv i .null) st h Q) : zV G y cc nL ret d pc lv (.null :: st) h Q := fun p e R s m args below meth c H locs cells slots n0 z0 ls C h1 h2 h3 h4 h5 h6 => lv_astoreN C.1 C.2.1 hd h6 hn rfl (fun ls9 h9 => k p e R s m args below meth c H locs cells slots n0 z0 ls9 C h1 h2 h3 h4 h5 h9)
theorem v_iinc {i : Nat} {n : Int} {x : Int32} (v : Int32) (hd : decode cc pc = .ok (.iinc i n, 3)) (hl : zlk lv i = some (.int x)) (hv : x + Int32.ofInt n = v) (hn : i < nL) (k : zV G y cc nL ret d (pc + 3) (zst1 lv i (.int v)) st h Q) : zV G y cc nL ret d pc lv st h Q := fun p e R s m args below meth c H locs cells slots n0 z0 ls C h1 h2 h3 h4 h5 h6 => by
  obtain ⟨j, hj⟩ := List.getElem?_of_mem (zlk_mem hl)
  exact lv_iinc C.1 C.2.1 hd h6 hj hv hn rfl (fun ls9 h9 => k p e R s m args below meth c H locs cells slots n0 z0 ls9 C h1 h2 h3 h4 h5 h9)
theorem v_iadd {x z : Int32} (hd : decode cc pc = .ok (.iadd, 1)) (k : zV G y cc nL ret d (pc + 1) lv (.int (x + z) :: st) h Q) : zV G y cc nL ret d pc lv (.int z :: .int x :: st) h Q := fun p e R s m args below meth c H locs cells slots n0 z0 ls C h1 h2 h3 h4 h5 h6 => lv_iadd C.1 C.2.1 hd (k p e R s m args below meth c H locs cells slots n0 z0 ls C h1 h2 h3 h4 h5 h6)
theorem v_isub {x z : Int32} (hd : decode cc pc = .ok (.isub, 1)) (k : zV G y cc nL ret d (pc + 1) lv (.int (x - z) :: st) h Q) : zV G y cc nL ret d pc lv (.int z :: .int x :: st) h Q := fun p e R s m args below meth c H locs cells slots n0 z0 ls C h1 h2 h3 h4 h5 h6 => lv_isub C.1 C.2.1 hd (k p e R s m args below meth c H locs cells slots n0 z0 ls C h1 h2 h3 h4 h5 h6)
theorem v_imul {x z : Int32} (hd : decode cc pc = .ok (.imul, 1)) (k : zV G y cc nL ret d (pc + 1) lv (.int (x * z) :: st) h Q) : zV G y cc nL ret d pc lv (.int z :: .int x :: st) h Q := fun p e R s m args below meth c H locs cells slots n0 z0 ls C h1 h2 h3 h4 h5 h6 => lv_imul C.1 C.2.1 hd (k p e R s m args below meth c H locs cells slots n0 z0 ls C h1 h2 h3 h4 h5 h6)
theorem v_iand {x z : Int32} (hd : decode cc pc = .ok (.iand, 1)) (k : zV G y cc nL ret d (pc + 1) lv (.int (x &&& z) :: st) h Q) : zV G y cc nL ret d pc lv (.int z :: .int x :: st) h Q := fun p e R s m args below meth c H locs cells slots n0 z0 ls C h1 h2 h3 h4 h5 h6 => lv_iand C.1 C.2.1 hd (k p e R s m args below meth c H locs cells slots n0 z0 ls C h1 h2 h3 h4 h5 h6)
theorem v_idiv {x z : Int32} (hd : decode cc pc = .ok (.idiv, 1)) (hz : ¬ z = 0) (k : zV G y cc nL ret d (pc + 1) lv (.int (x / z) :: st) h Q) : zV G y cc nL ret d pc lv (.int z :: .int x :: st) h Q := fun p e R s m args below meth c H locs cells slots n0 z0 ls C h1 h2 h3 h4 h5 h6 => lv_idiv C.1 C.2.1 hd hz (k p e R s m args below meth c H locs cells slots n0 z0 ls C h1 h2 h3 h4 h5 h6)
theorem v_irem {x z : Int32} (hd : decode cc pc = .ok (.irem, 1)) (hz : ¬ z = 0) (k : zV G y cc nL ret d (pc + 1) lv (.int (x - x / z * z) :: st) h Q) : zV G y cc nL ret d pc lv (.int z :: .int x :: st) h Q := fun p e R s m args below meth c H locs cells slots n0 z0 ls C h1 h2 h3 h4 h5 h6 => lv_irem C.1 C.2.1 hd hz (k p e R s m args below meth c H locs cells slots n0 z0 ls C h1 h2 h3 h4 h5 h6)
theorem v_ineg {x : Int32} (hd : decode cc pc = .ok (.ineg, 1)) (k : zV G y cc nL ret d (pc + 1) lv (.int (-x) :: st) h Q) : zV G y cc nL ret d pc lv (.int x :: st) h Q := fun p e R s m args below meth c H locs cells slots n0 z0 ls C h1 h2 h3 h4 h5 h6 => lv_ineg C.1 C.2.1 hd (k p e R s m args below meth c H locs cells slots n0 z0 ls C h1 h2 h3 h4 h5 h6)
theorem v_ladd {x z : Int64} (hd : decode cc pc = .ok (.ladd, 1)) (k : zV G y cc nL ret d (pc + 1) lv (.long (x + z) :: st) h Q) : zV G y cc nL ret d pc lv (.long z :: .long x :: st) h Q := fun p e R s m args below meth c H locs cells slots n0 z0 ls C h1 h2 h3 h4 h5 h6 => lv_ladd C.1 C.2.1 hd (k p e R s m args below meth c H locs cells slots n0 z0 ls C h1 h2 h3 h4 h5 h6)
theorem v_lsub {x z : Int64} (hd : decode cc pc = .ok (.lsub, 1)) (k : zV G y cc nL ret d (pc + 1) lv (.long (x - z) :: st) h Q) : zV G y cc nL ret d pc lv (.long z :: .long x :: st) h Q := fun p e R s m args below meth c H locs cells slots n0 z0 ls C h1 h2 h3 h4 h5 h6 => lv_lsub C.1 C.2.1 hd (k p e R s m args below meth c H locs cells slots n0 z0 ls C h1 h2 h3 h4 h5 h6)
theorem v_lmul {x z : Int64} (hd : decode cc pc = .ok (.lmul, 1)) (k : zV G y cc nL ret d (pc + 1) lv (.long (x * z) :: st) h Q) : zV G y cc nL ret d pc lv (.long z :: .long x :: st) h Q := fun p e R s m args below meth c H locs cells slots n0 z0 ls C h1 h2 h3 h4 h5 h6 => lv_lmul C.1 C.2.1 hd (k p e R s m args below meth c H locs cells slots n0 z0 ls C h1 h2 h3 h4 h5 h6)
theorem v_i2l {x : Int32} (hd : decode cc pc = .ok (.i2l, 1)) (k : zV G y cc nL ret d (pc + 1) lv (.long x.toInt64 :: st) h Q) : zV G y cc nL ret d pc lv (.int x :: st) h Q := fun p e R s m args below meth c H locs cells slots n0 z0 ls C h1 h2 h3 h4 h5 h6 => lv_i2l C.1 C.2.1 hd rfl (k p e R s m args below meth c H locs cells slots n0 z0 ls C h1 h2 h3 h4 h5 h6)
theorem v_i2c {x : Int32} (hd : decode cc pc = .ok (.i2c, 1)) (k : zV G y cc nL ret d (pc + 1) lv (.int (x.toUInt32 % 65536).toInt32 :: st) h Q) : zV G y cc nL ret d pc lv (.int x :: st) h Q := fun p e R s m args below meth c H locs cells slots n0 z0 ls C h1 h2 h3 h4 h5 h6 => lv_i2c C.1 C.2.1 hd rfl (k p e R s m args below meth c H locs cells slots n0 z0 ls C h1 h2 h3 h4 h5 h6)
theorem v_lshl {x : Int64} {z : Int32} (hd : decode cc pc = .ok (.lshl, 1)) (k : zV G y cc nL ret d (pc + 1) lv (.long (x <<< (z.toInt64 &&& 63)) :: st) h Q) : zV G y cc nL ret d pc lv (.int z :: .long x :: st) h Q := fun p e R s m args below meth c H locs cells slots n0 z0 ls C h1 h2 h3 h4 h5 h6 => lv_lshl C.1 C.2.1 hd rfl (k p e R s m args below meth c H locs cells slots n0 z0 ls C h1 h2 h3 h4 h5 h6)
theorem v_i2d {x : Int32} (hd : decode cc pc = .ok (.i2d, 1)) (k : zV G y cc nL ret d (pc + 1) lv (.double (FP.i2d x) :: st) h Q) : zV G y cc nL ret d pc lv (.int x :: st) h Q := fun p e R s m args below meth c H locs cells slots n0 z0 ls C h1 h2 h3 h4 h5 h6 => lv_i2d C.1 C.2.1 hd (k p e R s m args below meth c H locs cells slots n0 z0 ls C h1 h2 h3 h4 h5 h6)
theorem v_d2l {x : UInt64} (hd : decode cc pc = .ok (.d2l, 1)) (k : zV G y cc nL ret d (pc + 1) lv (.long (FP.d2l x) :: st) h Q) : zV G y cc nL ret d pc lv (.double x :: st) h Q := fun p e R s m args below meth c H locs cells slots n0 z0 ls C h1 h2 h3 h4 h5 h6 => lv_d2l C.1 C.2.1 hd (k p e R s m args below meth c H locs cells slots n0 z0 ls C h1 h2 h3 h4 h5 h6)
theorem v_dsub {x z : UInt64} (hd : decode cc pc = .ok (.dsub, 1)) (hne : vf_n64 (FP.dsub x z)) (k : zV G y cc nL ret d (pc + 1) lv (.double (FP.dsub x z) :: st) h Q) : zV G y cc nL ret d pc lv (.double z :: .double x :: st) h Q := fun p e R s m args below meth c H locs cells slots n0 z0 ls C h1 h2 h3 h4 h5 h6 => lv_dsub C.1 C.2.1 hd hne (k p e R s m args below meth c H locs cells slots n0 z0 ls C h1 h2 h3 h4 h5 h6)
theorem v_dmul {x z : UInt64} (hd : decode cc pc = .ok (.dmul, 1)) (hne : vf_n64 (FP.dmul x z)) (k : zV G y cc nL ret d (pc + 1) lv (.double (FP.dmul x z) :: st) h Q) : zV G y cc nL ret d pc lv (.double z :: .double x :: st) h Q := fun p e R s m args below meth c H locs cells slots n0 z0 ls C h1 h2 h3 h4 h5 h6 => lv_dmul C.1 C.2.1 hd hne (k p e R s m args below meth c H locs cells slots n0 z0 ls C h1 h2 h3 h4 h5 h6)
theorem v_ddiv {x z : UInt64} (hd : decode cc pc = .ok (.ddiv, 1)) (hne : vf_n64 (FP.ddiv x z)) (k : zV G y cc nL ret d (pc + 1) lv (.double (FP.ddiv x z) :: st) h Q) : zV G y cc nL ret d pc lv (.double z :: .double x :: st) h Q := fun p e R s m args below meth c H locs cells slots n0 z0 ls C h1 h2 h3 h4 h5 h6 => lv_ddiv C.1 C.2.1 hd hne (k p e R s m args below meth c H locs cells slots n0 z0 ls C h1 h2 h3 h4 h5 h6)
theorem v_dcmp {x z : UInt64} {op : CmpOp} (hd : decode cc pc = .ok (.dcmp op, 1)) (k : zV G y cc nL ret d (pc + 1) lv (.int (Op.cmpValue (FP.dcmp x z) op) :: st) h Q) : zV G y cc nL ret d pc lv (.double z :: .double x :: st) h Q := fun p e R s m args below meth c H locs cells slots n0 z0 ls C h1 h2 h3 h4 h5 h6 => lv_dcmp C.1 C.2.1 hd (k p e R s m args below meth c H locs cells slots n0 z0 ls C h1 h2 h3 h4 h5 h6)
theorem v_dup {w : Value} (hd : decode cc pc = .ok (.dup, 1)) (hw : w.category = 1) (k : zV G y cc nL ret d (pc + 1) lv (w :: w :: st) h Q) : zV G y cc nL ret d pc lv (w :: st) h Q := fun p e R s m args below meth c H locs cells slots n0 z0 ls C h1 h2 h3 h4 h5 h6 => lv_dup C.1 C.2.1 hd hw (k p e R s m args below meth c H locs cells slots n0 z0 ls C h1 h2 h3 h4 h5 h6)
theorem v_pop {w : Value} (hd : decode cc pc = .ok (.pop, 1)) (hw : w.category = 1) (k : zV G y cc nL ret d (pc + 1) lv st h Q) : zV G y cc nL ret d pc lv (w :: st) h Q := fun p e R s m args below meth c H locs cells slots n0 z0 ls C h1 h2 h3 h4 h5 h6 => lv_pop C.1 C.2.1 hd hw (k p e R s m args below meth c H locs cells slots n0 z0 ls C h1 h2 h3 h4 h5 h6)
theorem v_dup2 {w z : Value} (hd : decode cc pc = .ok (.dup2, 1)) (hw : w.category = 1) (hz : z.category = 1) (k : zV G y cc nL ret d (pc + 1) lv (w :: z :: w :: z :: st) h Q) : zV G y cc nL ret d pc lv (w :: z :: st) h Q := fun p e R s m args below meth c H locs cells slots n0 z0 ls C h1 h2 h3 h4 h5 h6 => lv_dup2_11 C.1 C.2.1 hd hw hz (k p e R s m args below meth c H locs cells slots n0 z0 ls C h1 h2 h3 h4 h5 h6)
theorem v_icmp_eq {x z : Int32} {off : Int} (tgt : Nat) (hd : decode cc pc = .ok (.if_icmp .eq off, 3)) (ht : (pc : Int) + off = (tgt : Int)) (kt : x = z → zV G y cc nL ret d tgt lv st h Q) (kf : ¬ x = z → zV G y cc nL ret d (pc + 3) lv st h Q) : zV G y cc nL ret d pc lv (.int z :: .int x :: st) h Q := fun p e R s m args below meth c H locs cells slots n0 z0 ls C h1 h2 h3 h4 h5 h6 => lv_icmp_eq C.1 C.2.1 hd ht (fun b => kt b p e R s m args below meth c H locs cells slots n0 z0 ls C h1 h2 h3 h4 h5 h6) (fun b => kf b p e R s m args below meth c H locs cells slots n0 z0 ls C h1 h2 h3 h4 h5 h6)
theorem v_if_eq {x : Int32} {off : Int} (tgt : Nat) (hd : decode cc pc = .ok (.ifCond .eq off, 3)) (ht : (pc : Int) + off = (tgt : Int)) (kt : x = 0 → zV G y cc nL ret d tgt lv st h Q) (kf : ¬ x = 0 → zV G y cc nL ret d (pc + 3) lv st h Q) : zV G y cc nL ret d pc lv (.int x :: st) h Q := fun p e R s m args below meth c H locs cells slots n0 z0 ls C h1 h2 h3 h4 h5 h6 => lv_if_eq C.1 C.2.1 hd ht (fun b => kt b p e R s m args below meth c H locs cells slots n0 z0 ls C h1 h2 h3 h4 h5 h6) (fun b => kf b p e R s m args below meth c H locs cells slots n0 z0 ls C h1 h2 h3 h4 h5 h6)
theorem v_icmp_ne {x z : Int32} {off : Int} (tgt : Nat) (hd : decode cc pc = .ok (.if_icmp .ne off, 3)) (ht : (pc : Int) + off = (tgt : Int)) (kt : ¬ x = z → zV G y cc nL ret d tgt lv st h Q) (kf : x = z → zV G y cc nL ret d (pc + 3) lv st h Q) : zV G y cc nL ret d pc lv (.int z :: .int x :: st) h Q := fun p e R s m args below meth c H locs cells slots n0 z0 ls C h1 h2 h3 h4 h5 h6 => lv_icmp_ne C.1 C.2.1 hd ht (fun b => kt b p e R s m args below meth c H locs cells slots n0 z0 ls C h1 h2 h3 h4 h5 h6) (fun b => kf b p e R s m args below meth c H locs cells slots n0 z0 ls C h1 h2 h3 h4 h5 h6)
theorem v_if_ne {x : Int32} {off : Int} (tgt : Nat) (hd : decode cc pc = .ok (.ifCond .ne off, 3)) (ht : (pc : Int) + off = (tgt : Int)) (kt : ¬ x = 0 → zV G y cc nL ret d tgt lv st h Q) (kf : x = 0 → zV G y cc nL ret d (pc + 3) lv st h Q) : zV G y cc nL ret d pc lv (.int x :: st) h Q := fun p e R s m args below meth c H locs cells slots n0 z0 ls C h1 h2 h3 h4 h5 h6 => lv_if_ne C.1 C.2.1 hd ht (fun b => kt b p e R s m args below meth c H locs cells slots n0 z0 ls C h1 h2 h3 h4 h5 h6) (fun b => kf b p e R s m args below meth c H locs cells slots n0 z0 ls C h1 h2 h3 h4 h5 h6)
theorem v_icmp_lt {x z : Int32} {off : Int} (tgt : Nat) (hd : decode cc pc = .ok (.if_icmp .lt off, 3)) (ht : (pc : Int) + off = (tgt : Int)) (kt : x < z → zV G y cc nL ret d tgt lv st h Q) (kf : ¬ x < z → zV G y cc nL ret d (pc + 3) lv st h Q) : zV G y cc nL ret d pc lv (.int z :: .int x :: st) h Q := fun p e R s m args below meth c H locs cells slots n0 z0 ls C h1 h2 h3 h4 h5 h6 => lv_icmp_lt C.1 C.2.1 hd ht (fun b => kt b p e R s m args below meth c H locs cells slots n0 z0 ls C h1 h2 h3 h4 h5 h6) (fun b => kf b p e R s m args below meth c H locs cells slots n0 z0 ls C h1 h2 h3 h4 h5 h6)
theorem v_if_lt {x : Int32} {off : Int} (tgt : Nat) (hd : decode cc pc = .ok (.ifCond .lt off, 3)) (ht : (pc : Int) + off = (tgt : Int)) (kt : x < 0 → zV G y cc nL ret d tgt lv st h Q) (kf : ¬ x < 0 → zV G y cc nL ret d (pc + 3) lv st h Q) : zV G y cc nL ret d pc lv (.int x :: st) h Q := fun p e R s m args below meth c H locs cells slots n0 z0 ls C h1 h2 h3 h4 h5 h6 => lv_if_lt C.1 C.2.1 hd ht (fun b => kt b p e R s m args below meth c H locs cells slots n0 z0 ls C h1 h2 h3 h4 h5 h6) (fun b => kf b p e R s m args below meth c H locs cells slots n0 z0 ls C h1 h2 h3 h4 h5 h6)
theorem v_icmp_ge {x z : Int32} {off : Int} (tgt : Nat) (hd : decode cc pc = .ok (.if_icmp .ge off, 3)) (ht : (pc : Int) + off = (tgt : Int)) (kt : z ≤ x → zV G y cc nL ret d tgt lv st h Q) (kf : ¬ z ≤ x → zV G y cc nL ret d (pc + 3) lv st h Q) : zV G y cc nL ret d pc lv (.int z :: .int x :: st) h Q := fun p e R s m args below meth c H locs cells slots n0 z0 ls C h1 h2 h3 h4 h5 h6 => lv_icmp_ge C.1 C.2.1 hd ht (fun b => kt b p e R s m args below meth c H locs cells slots n0 z0 ls C h1 h2 h3 h4 h5 h6) (fun b => kf b p e R s m args below meth c H locs cells slots n0 z0 ls C h1 h2 h3 h4 h5 h6)
theorem v_if_ge {x : Int32} {off : Int} (tgt : Nat) (hd : decode cc pc = .ok (.ifCond .ge off, 3)) (ht : (pc : Int) + off = (tgt : Int)) (kt : 0 ≤ x → zV G y cc nL ret d tgt lv st h Q) (kf : ¬ 0 ≤ x → zV G y cc nL ret d (pc + 3) lv st h Q) : zV G y cc nL ret d pc lv (.int x :: st) h Q := fun p e R s m args below meth c H locs cells slots n0 z0 ls C h1 h2 h3 h4 h5 h6 => lv_if_ge C.1 C.2.1 hd ht (fun b => kt b p e R s m args below meth c H locs cells slots n0 z0 ls C h1 h2 h3 h4 h5 h6) (fun b => kf b p e R s m args below meth c H locs cells slots n0 z0 ls C h1 h2 h3 h4 h5 h6)
theorem v_icmp_gt {x z : Int32} {off : Int} (tgt : Nat) (hd : decode cc pc = .ok (.if_icmp .gt off, 3)) (ht : (pc : Int) + off = (tgt : Int)) (kt : z < x → zV G y cc nL ret d tgt lv st h Q) (kf : ¬ z < x → zV G y cc nL ret d (pc + 3) lv st h Q) : zV G y cc nL ret d pc lv (.int z :: .int x :: st) h Q := fun p e R s m args below meth c H locs cells slots n0 z0 ls C h1 h2 h3 h4 h5 h6 => lv_icmp_gt C.1 C.2.1 hd ht (fun b => kt b p e R s m args below meth c H locs cells slots n0 z0 ls C h1 h2 h3 h4 h5 h6) (fun b => kf b p e R s m args below meth c H locs cells slots n0 z0 ls C h1 h2 h3 h4 h5 h6)
theorem v_if_gt {x : Int32} {off : Int} (tgt : Nat) (hd : decode cc pc = .ok (.ifCond .gt off, 3)) (ht : (pc : Int) + off = (tgt : Int)) (kt : 0 < x → zV G y cc nL ret d tgt lv st h Q) (kf : ¬ 0 < x → zV G y cc nL ret d (pc + 3) lv st h Q) : zV G y cc nL ret d pc lv (.int x :: st) h Q := fun p e R s m args below meth c H locs cells slots n0 z0 ls C h1 h2 h3 h4 h5 h6 => lv_if_gt C.1 C.2.1 hd ht (fun b => kt b p e R s m args below meth c H locs cells slots n0 z0 ls C h1 h2 h3 h4 h5 h6) (fun b => kf b p e R s m args below meth c H locs cells slots n0 z0 ls C h1 h2 h3 h4 h5 h6)
theorem v_icmp_le {x z : Int32} {off : Int} (tgt : Nat) (hd : decode cc pc = .ok (.if_icmp .le off, 3)) (ht : (pc : Int) + off = (tgt : Int)) (kt : x ≤ z → zV G y cc nL ret d tgt lv st h Q) (kf : ¬ x ≤ z → zV G y cc nL ret d (pc + 3) lv st h Q) : zV G y cc nL ret d pc lv (.int z :: .int x :: st) h Q := fun p e R s m args below meth c H locs cells slots n0 z0 ls C h1 h2 h3 h4 h5 h6 => lv_icmp_le C.1 C.2.1 hd ht (fun b => kt b p e R s m args below meth c H locs cells slots n0 z0 ls C h1 h2 h3 h4 h5 h6) (fun b => kf b p e R s m args below meth c H locs cells slots n0 z0 ls C h1 h2 h3 h4 h5 h6)
theorem v_if_le {x : Int32} {off : Int} (tgt : Nat) (hd : decode cc pc = .ok (.ifCond .le off, 3)) (ht : (pc : Int) + off = (tgt : Int)) (kt : x ≤ 0 → zV G y cc nL ret d tgt lv st h Q) (kf : ¬ x ≤ 0 → zV G y cc nL ret d (pc + 3) lv st h Q) : zV G y cc nL ret d pc lv (.int x :: st) h Q := fun p e R s m args below meth c H locs cells slots n0 z0 ls C h1 h2 h3 h4 h5 h6 => lv_if_le C.1 C.2.1 hd ht (fun b => kt b p e R s m args below meth c H locs cells slots n0 z0 ls C h1 h2 h3 h4 h5 h6) (fun b => kf b p e R s m args below meth c H locs cells slots n0 z0 ls C h1 h2 h3 h4 h5 h6)
theorem v_goto {off : Int} (tgt : Nat) (hd : decode cc pc = .ok (.goto off, 3)) (ht : (pc : Int) + off = (tgt : Int)) (k : zV G y cc nL ret d tgt lv st h Q) : zV G y cc nL ret d pc lv st h Q := fun p e R s m args below meth c H locs cells slots n0 z0 ls C h1 h2 h3 h4 h5 h6 => lv_goto C.1 C.2.1 hd ht (k p e R s m args below meth c H locs cells slots n0 z0 ls C h1 h2 h3 h4 h5 h6)
theorem v_ifnonnull {x : Nat} {off : Int} (tgt : Nat) (hd : decode cc pc = .ok (.ifnonnull off, 3)) (ht : (pc : Int) + off = (tgt : Int)) (k : zV G y cc nL ret d tgt lv st h Q) : zV G y cc nL ret d pc lv (.ref x :: st) h Q := fun p e R s m args below meth c H locs cells slots n0 z0 ls C h1 h2 h3 h4 h5 h6 => lv_ifnonnull C.1 C.2.1 hd ht (k p e R s m args below meth c H locs cells slots n0 z0 ls C h1 h2 h3 h4 h5 h6)
theorem v_ifnonnullN {off : Int} (hd : decode cc pc = .ok (.ifnonnull off, 3)) (k : zV G y cc nL ret d (pc + 3) lv st h Q) : zV G y cc nL ret d pc lv (.null :: st) h Q := fun p e R s m args below meth c H locs cells slots n0 z0 ls C h1 h2 h3 h4 h5 h6 => lv_ifnonnullN C.1 C.2.1 hd (k p e R s m args below meth c H locs cells slots n0 z0 ls C h1 h2 h3 h4 h5 h6)
theorem v_tableIn {dflt lo hi : Int} {offs : Array Int} {len : Nat} {x : Int32} {off : Int} (tgt : Nat) (hd : decode cc pc = .ok (.tableswitch dflt lo hi offs, len)) (b1 : ¬ x.toInt < lo) (b2 : ¬ hi < x.toInt) (ho : offs[(x.toInt - lo).toNat]? = some off) (ht : (pc : Int) + off = (tgt : Int)) (k : zV G y cc nL ret d tgt lv st h Q) : zV G y cc nL ret d pc lv (.int x :: st) h Q := fun p e R s m args below meth c H locs cells slots n0 z0 ls C h1 h2 h3 h4 h5 h6 => lv_tableIn C.1 C.2.1 hd b1 b2 ho ht (k p e R s m args below meth c H locs cells slots n0 z0 ls C h1 h2 h3 h4 h5 h6)
theorem v_tableOut {dflt lo hi : Int} {offs : Array Int} {len : Nat} {x : Int32} (tgt : Nat) (hd : decode cc pc = .ok (.tableswitch dflt lo hi offs, len)) (b1 : x.toInt < lo ∨ hi < x.toInt) (ht : (pc : Int) + dflt = (tgt : Int)) (k : zV G y cc nL ret d tgt lv st h Q) : zV G y cc nL ret d pc lv (.int x :: st) h Q := fun p e R s m args below meth c H locs cells slots n0 z0 ls C h1 h2 h3 h4 h5 h6 => lv_tableOut C.1 C.2.1 hd b1 ht (k p e R s m args below meth c H locs cells slots n0 z0 ls C h1 h2 h3 h4 h5 h6)
theorem v_lookup {dflt : Int} {ps : Array (Int × Int)} {len : Nat} {x : Int32} {off : Int} (tgt : Nat) (hd : decode cc pc = .ok (.lookupswitch dflt ps, len)) (hp : (ps.toList.zip (ps.toList.drop 1)).all (fun (a, next) => a.1 < next.1) = true) (ho : Op.lookupswitch.offset ps.toList dflt x.toInt = off) (ht : (pc : Int) + off = (tgt : Int)) (k : zV G y cc nL ret d tgt lv st h Q) : zV G y cc nL ret d pc lv (.int x :: st) h Q := fun p e R s m args below meth c H locs cells slots n0 z0 ls C h1 h2 h3 h4 h5 h6 => lv_lookup C.1 C.2.1 hd hp ho ht (k p e R s m args below meth c H locs cells slots n0 z0 ls C h1 h2 h3 h4 h5 h6)
theorem v_ldc {index : Nat} (v : Int32) (hd : decode cc pc = .ok (.ldc index, 2)) (hw : Cond.constant y.cls index v ∈ GT) (k : zV G y cc nL ret d (pc + 2) lv (.int v :: st) h Q) : zV G y cc nL ret d pc lv st h Q := fun p e R s m args below meth c H locs cells slots n0 z0 ls C h1 h2 h3 h4 h5 h6 => lv_ldc C.1 C.2.1 C.2.2.2.1 (C.2.2.2.2.2.2.2.2.1 _ hw) hd (k p e R s m args below meth c H locs cells slots n0 z0 ls C h1 h2 h3 h4 h5 h6)
theorem v_ldcw {index : Nat} (v : Int32) (hd : decode cc pc = .ok (.ldc_w index, 3)) (hw : Cond.constant y.cls index v ∈ GT) (k : zV G y cc nL ret d (pc + 3) lv (.int v :: st) h Q) : zV G y cc nL ret d pc lv st h Q := fun p e R s m args below meth c H locs cells slots n0 z0 ls C h1 h2 h3 h4 h5 h6 => lv_ldcw C.1 C.2.1 C.2.2.2.1 (C.2.2.2.2.2.2.2.2.1 _ hw) hd (k p e R s m args below meth c H locs cells slots n0 z0 ls C h1 h2 h3 h4 h5 h6)
theorem v_ldc2 {index : Nat} (v : Int64) (hd : decode cc pc = .ok (.ldc2_w index, 3)) (hw : Cond.constantLong y.cls index v ∈ GT) (k : zV G y cc nL ret d (pc + 3) lv (.long v :: st) h Q) : zV G y cc nL ret d pc lv st h Q := fun p e R s m args below meth c H locs cells slots n0 z0 ls C h1 h2 h3 h4 h5 h6 => lv_ldc2 C.1 C.2.1 C.2.2.2.1 (C.2.2.2.2.2.2.2.2.1 _ hw) hd (k p e R s m args below meth c H locs cells slots n0 z0 ls C h1 h2 h3 h4 h5 h6)
theorem v_ldc2d {index : Nat} (v : UInt64) (hd : decode cc pc = .ok (.ldc2_w index, 3)) (hw : Cond.constantDouble y.cls index v ∈ GT) (k : zV G y cc nL ret d (pc + 3) lv (.double v :: st) h Q) : zV G y cc nL ret d pc lv st h Q := fun p e R s m args below meth c H locs cells slots n0 z0 ls C h1 h2 h3 h4 h5 h6 => lv_ldc2d C.1 C.2.1 C.2.2.2.1 (C.2.2.2.2.2.2.2.2.1 _ hw) hd (k p e R s m args below meth c H locs cells slots n0 z0 ls C h1 h2 h3 h4 h5 h6)
end ZROWS
end
section
/-- a field's link: the class's number, the field's place, its type, whether it is final -/
def zFL (own : String) (idx ci k : Nat) (ty : FieldType) (fin : Bool) : Prop :=
  ∃ (C : String) (T : u_T) (N : Nat) (ty0 : Nat → FieldType), zCL[ci]? = some (C, T, N) ∧ (∀ w ∈ u_ws C T N, w ∈ GT) ∧ k < N ∧ Cond.fieldLink own idx C (T k).2.1 (T k).2.2.1 ∈ GT ∧ (T k).1 = C ∧
    (∀ k, k < N → parseFieldDescriptor (T k).2.2.1 = some (ty0 k)) ∧ (∀ a, a < N → ∀ b, b < N → a ≠ b → (T a).2.1 ≠ (T b).2.1) ∧ (T k).2.2.2 = fin ∧ parseFieldDescriptor (T k).2.2.1 = some ty
/-- a class that can be made -/
def zNL (own : String) (idx ci : Nat) (fs : List Value) (n : Nat) : Prop :=
  ∃ (C : String) (T : u_T) (ty0 : Nat → FieldType), zCL[ci]? = some (C, T, n) ∧ (∀ w ∈ u_ws C T n, w ∈ GT) ∧ (∀ k, k < n → parseFieldDescriptor (T k).2.2.1 = some (ty0 k)) ∧ Cond.classLink own idx C ∈ GT ∧ Cond.instantiable C n ∈ GT ∧ Cond.initialized C ∈ GT ∧ ∀ j, j < n → defaultValue (ty0 j) = vp_V fs j
theorem zR.new {G : zW} {f : zHM} {ws : va_W} {q : Nat} {e : zCE} (h1 : ∀ a e, f a = some e → ∃ k : Nat, ws[k]? = some (a, zE G.2.2.1 e)) (b : Nat) (x : zCE) (hb : zup f q e b = some x) : ∃ k : Nat, (ws ++ [(q, zE G.2.2.1 e)])[k]? = some (b, zE G.2.2.1 x) := by
  by_cases hbq : b = q
  · subst hbq
    rw [zup_at] at hb
    cases hb
    exact ⟨ws.length, by simp⟩
  · rw [zup_ne hbq] at hb
    obtain ⟨k, hk⟩ := h1 b x hb
    exact ⟨k, by rw [List.getElem?_append_left (List.getElem?_eq_some_iff.mp hk).1]; exact hk⟩
theorem zR.fresh {G : zW} {f : zHM} {ws : va_W} {q : Nat} {e : va_E} {A : Nat → Prop} (h1 : ∀ a e, f a = some e → ∃ k : Nat, ws[k]? = some (a, zE G.2.2.1 e)) (hD : va_D A (ws ++ [(q, e)])) : f q = none := by
  cases hf : f q with
  | none => rfl
  | some x =>
    obtain ⟨k, hk⟩ := h1 q x hf
    have hlt := (List.getElem?_eq_some_iff.mp hk).1
    have := hD.1 k ws.length (q, zE G.2.2.1 x) (q, e) (by rw [List.getElem?_append_left hlt]; exact hk) (show (ws ++ [(q, e)])[ws.length]? = some (q, e) by simp) rfl
    omega
theorem zcells {G : zW} {h : zH} {n0 cells d : Nat} (h1 : h.2.1 = n0 + cells) (h3 : zcap h) : cells + 0 ≤ 50000 * (d + 1) := by
  have := h3.1
  omega
section ZHEAP
variable {G : zW} {y : MethodName} {cc : ByteArray} {nL : Nat} {ret : Option FieldType} {d : Nat} {pc : Nat} {lv : List (Nat × Value)} {st : List Value} {h : zH} {Q : zOut → zH → Prop} {tg tg2 : Nat}
theorem zb8 {N b : Nat} (h : N ≤ 60000) (h8 : b ≤ 8) : N * b ≤ 536870912 := Nat.le_trans (Nat.mul_le_mul h h8) (by decide)
theorem v_getfield {idx ci k a : Nat} {ty : FieldType} {fin : Bool} {fs : List Value} {v : Value} (f : zFL y.cls idx ci k ty fin) (hd : decode cc pc = .ok (.getfield idx, 3)) (ha : h.1 a = some (tg, .inr (ci, fs))) (hv : fs[k]? = some v) (kk : zV G y cc nL ret d (pc + 3) lv (v :: st) h Q) : zV G y cc nL ret d pc lv (.ref a :: st) h Q := fun p e R s m args below meth c H locs cells slots n0 z0 ls C h1 h2 h3 h4 h5 h6 => by
  obtain ⟨hx, hb, hml, hown, hrt, hlk, hnm, htb, hts, hR, hG, hbs⟩ := C
  obtain ⟨Cn, T, N, ty0, f1, f2, f3, f4, f5, f6, f7, f8, f9⟩ := f
  obtain ⟨ws, w1, w2, w3, q0, hq⟩ := h4.at ha
  exact va_get (D := G.2.1) (cl := zCL) (C := Cn) (T := T) (N := N) (ci := ci) hx hb hts f2 hown hG.2.1 w2 q0 hq f1 k f3 (hts _ f4) (fun x hx => by rw [f5] at hx; exact hx) hv hd (kk p e R s m args below meth c H locs cells slots n0 z0 ls ⟨hx, hb, hml, hown, hrt, hlk, hnm, htb, hts, hR, hG, hbs⟩ h1 h2 h3 h4 h5 h6)
theorem v_putfield {idx ci k a : Nat} {ty : FieldType} {fs : List Value} {v : Value} (f : zFL y.cls idx ci k ty false) (hd : decode cc pc = .ok (.putfield idx, 3)) (ha : h.1 a = some (tg, .inr (ci, fs))) (hn : narrow ty v = v) (hf : fits ty v = true) (hl : k < fs.length) (kk : zV G y cc nL ret d (pc + 3) lv st (zup h.1 a (tg, .inr (ci, fs.set k v)), h.2) Q) : zV G y cc nL ret d pc lv (v :: .ref a :: st) h Q := fun p e R s m args below meth c H locs cells slots n0 z0 ls C h1 h2 h3 h4 h5 h6 => by
  obtain ⟨hx, hb, hml, hown, hrt, hlk, hnm, htb, hts, hR, hG, hbs⟩ := C
  obtain ⟨Cn, T, N, ty0, f1, f2, f3, f4, f5, f6, f7, f8, f9⟩ := f
  obtain ⟨ws, w1, w2, w3, q0, hq⟩ := h4.at ha
  exact va_put (D := G.2.1) (cl := zCL) (C := Cn) (T := T) (N := N) (ci := ci) hx hb hts f2 ty0 f6 f7 hown hG.2.1 w2 w3 h5 q0 hq f1 k f3 (hts _ f4) (fun x hx => by rw [f5] at hx; exact hx) f8 f9 hn hf hl hd (fun H9 locs9 hP9 hD9 hS9 => kk p e R s m args below meth c H9 locs9 cells slots n0 z0 ls ⟨hx, hb, hml, hown, hrt, hlk, hnm, htb, hts, hR, hG, hbs⟩ h1 h2 h3 ⟨_, zR.put w1 hq, hP9, hD9⟩ hS9 h6)
theorem v_putfieldF {idx ci k a : Nat} {ty : FieldType} {fs : List Value} {v : Value} (f : zFL y.cls idx ci k ty true) (hin : y.name = "<init>") (hdc : zCL[ci]?.map (fun q => q.1) = some y.cls) (hd : decode cc pc = .ok (.putfield idx, 3)) (ha : h.1 a = some (tg, .inr (ci, fs))) (hn : narrow ty v = v) (hf : fits ty v = true) (hl : k < fs.length) (kk : zV G y cc nL ret d (pc + 3) lv st (zup h.1 a (tg, .inr (ci, fs.set k v)), h.2) Q) : zV G y cc nL ret d pc lv (v :: .ref a :: st) h Q := fun p e R s m args below meth c H locs cells slots n0 z0 ls C h1 h2 h3 h4 h5 h6 => by
  obtain ⟨hx, hb, hml, hown, hrt, hlk, hnm, htb, hts, hR, hG, hbs⟩ := C
  obtain ⟨Cn, T, N, ty0, f1, f2, f3, f4, f5, f6, f7, f8, f9⟩ := f
  obtain ⟨ws, w1, w2, w3, q0, hq⟩ := h4.at ha
  have hCn : Cn = y.cls := by rw [f1] at hdc; exact Option.some.inj hdc
  exact va_putF (D := G.2.1) (cl := zCL) (C := Cn) (T := T) (N := N) (ci := ci) hx hb hts f2 ty0 f6 f7 hown hG.2.1 w2 w3 h5 q0 hq f1 k f3 (hts _ f4) (fun x hx => by rw [f5] at hx; exact hx) f8 (hnm.trans hin) (f5.trans hCn) f9 hn hf hl hd (fun H9 locs9 hP9 hD9 hS9 => kk p e R s m args below meth c H9 locs9 cells slots n0 z0 ls ⟨hx, hb, hml, hown, hrt, hlk, hnm, htb, hts, hR, hG, hbs⟩ h1 h2 h3 ⟨_, zR.put w1 hq, hP9, hD9⟩ hS9 h6)
theorem v_iaload {a n : Nat} {f : Nat → Int32} {i : Int32} (hd : decode cc pc = .ok (.iaload, 1)) (ha : h.1 a = some (tg, .inl (0, n, .inl f))) (hin : vp_in i n) (kk : zV G y cc nL ret d (pc + 1) lv (.int (f i.toNatClampNeg) :: st) h Q) : zV G y cc nL ret d pc lv (.int i :: .ref a :: st) h Q := fun p e R s m args below meth c H locs cells slots n0 z0 ls C h1 h2 h3 h4 h5 h6 => by
  obtain ⟨hx, hb, hml, hown, hrt, hlk, hnm, htb, hts, hR, hG, hbs⟩ := C
  obtain ⟨ws, w1, w2, w3, q0, hq⟩ := h4.at ha
  exact va_iald (D := G.2.1) (cl := zCL) hx hb hG.2.1 w2 q0 0 hq rfl hin hd (kk p e R s m args below meth c H locs cells slots n0 z0 ls ⟨hx, hb, hml, hown, hrt, hlk, hnm, htb, hts, hR, hG, hbs⟩ h1 h2 h3 h4 h5 h6)
theorem v_caload {a n : Nat} {f : Nat → Int32} {i : Int32} (hd : decode cc pc = .ok (.caload, 1)) (ha : h.1 a = some (tg, .inl (3, n, .inl f))) (hin : vp_in i n) (kk : zV G y cc nL ret d (pc + 1) lv (.int (f i.toNatClampNeg) :: st) h Q) : zV G y cc nL ret d pc lv (.int i :: .ref a :: st) h Q := fun p e R s m args below meth c H locs cells slots n0 z0 ls C h1 h2 h3 h4 h5 h6 => by
  obtain ⟨hx, hb, hml, hown, hrt, hlk, hnm, htb, hts, hR, hG, hbs⟩ := C
  obtain ⟨ws, w1, w2, w3, q0, hq⟩ := h4.at ha
  exact va_cald (D := G.2.1) (cl := zCL) hx hb hG.2.1 w2 q0 3 hq rfl hin hd (kk p e R s m args below meth c H locs cells slots n0 z0 ls ⟨hx, hb, hml, hown, hrt, hlk, hnm, htb, hts, hR, hG, hbs⟩ h1 h2 h3 h4 h5 h6)
theorem v_aaloadL {a n : Nat} {f : Nat → Option Nat} {i : Int32} (hd : decode cc pc = .ok (.aaload, 1)) (ha : h.1 a = some (tg, .inl (4, n, .inr (.inr (.inr (.inr f)))))) (hin : vp_in i n) (kk : zV G y cc nL ret d (pc + 1) lv (va_rf (f i.toNatClampNeg) :: st) h Q) : zV G y cc nL ret d pc lv (.int i :: .ref a :: st) h Q := fun p e R s m args below meth c H locs cells slots n0 z0 ls C h1 h2 h3 h4 h5 h6 => by
  obtain ⟨hx, hb, hml, hown, hrt, hlk, hnm, htb, hts, hR, hG, hbs⟩ := C
  obtain ⟨ws, w1, w2, w3, q0, hq⟩ := h4.at ha
  exact va_aldq (D := G.2.1) (cl := zCL) hx hb hG.2.1 w2 q0 4 hq rfl hin hd (kk p e R s m args below meth c H locs cells slots n0 z0 ls ⟨hx, hb, hml, hown, hrt, hlk, hnm, htb, hts, hR, hG, hbs⟩ h1 h2 h3 h4 h5 h6)
theorem v_aaloadR {a n : Nat} {f : Nat → Option Nat} {i : Int32} (hd : decode cc pc = .ok (.aaload, 1)) (ha : h.1 a = some (tg, .inl (5, n, .inr (.inr (.inr (.inr f)))))) (hin : vp_in i n) (kk : zV G y cc nL ret d (pc + 1) lv (va_rf (f i.toNatClampNeg) :: st) h Q) : zV G y cc nL ret d pc lv (.int i :: .ref a :: st) h Q := fun p e R s m args below meth c H locs cells slots n0 z0 ls C h1 h2 h3 h4 h5 h6 => by
  obtain ⟨hx, hb, hml, hown, hrt, hlk, hnm, htb, hts, hR, hG, hbs⟩ := C
  obtain ⟨ws, w1, w2, w3, q0, hq⟩ := h4.at ha
  exact va_aldq (D := G.2.1) (cl := zCL) hx hb hG.2.1 w2 q0 5 hq rfl hin hd (kk p e R s m args below meth c H locs cells slots n0 z0 ls ⟨hx, hb, hml, hown, hrt, hlk, hnm, htb, hts, hR, hG, hbs⟩ h1 h2 h3 h4 h5 h6)
theorem v_iastore {a n : Nat} {f : Nat → Int32} {i : Int32} {x : Int32} (hd : decode cc pc = .ok (.iastore, 1)) (ha : h.1 a = some (tg, .inl (0, n, .inl f))) (hin : vp_in i n) (kk : zV G y cc nL ret d (pc + 1) lv st (zup h.1 a (tg, .inl (0, n, .inl (upd f i.toNatClampNeg x))), h.2) Q) : zV G y cc nL ret d pc lv (.int x :: .int i :: .ref a :: st) h Q := fun p e R s m args below meth c H locs cells slots n0 z0 ls C h1 h2 h3 h4 h5 h6 => by
  obtain ⟨hx, hb, hml, hown, hrt, hlk, hnm, htb, hts, hR, hG, hbs⟩ := C
  obtain ⟨ws, w1, w2, w3, q0, hq⟩ := h4.at ha
  exact va_iast (D := G.2.1) (cl := zCL) hx hb hG.2.1 w2 w3 h5 q0 0 hq rfl hin hd (fun H9 locs9 hP9 hD9 hS9 => kk p e R s m args below meth c H9 locs9 cells slots n0 z0 ls ⟨hx, hb, hml, hown, hrt, hlk, hnm, htb, hts, hR, hG, hbs⟩ h1 h2 h3 ⟨_, zR.put w1 hq, hP9, hD9⟩ hS9 h6)
theorem v_castore {a n : Nat} {f : Nat → Int32} {i : Int32} {x : Int32} (hd : decode cc pc = .ok (.castore, 1)) (ha : h.1 a = some (tg, .inl (3, n, .inl f))) (hin : vp_in i n) (kk : zV G y cc nL ret d (pc + 1) lv st (zup h.1 a (tg, .inl (3, n, .inl (upd f i.toNatClampNeg (vp_nar .char x)))), h.2) Q) : zV G y cc nL ret d pc lv (.int x :: .int i :: .ref a :: st) h Q := fun p e R s m args below meth c H locs cells slots n0 z0 ls C h1 h2 h3 h4 h5 h6 => by
  obtain ⟨hx, hb, hml, hown, hrt, hlk, hnm, htb, hts, hR, hG, hbs⟩ := C
  obtain ⟨ws, w1, w2, w3, q0, hq⟩ := h4.at ha
  exact va_cast (D := G.2.1) (cl := zCL) hx hb hG.2.1 w2 w3 h5 q0 3 hq rfl hin hd (fun H9 locs9 hP9 hD9 hS9 => kk p e R s m args below meth c H9 locs9 cells slots n0 z0 ls ⟨hx, hb, hml, hown, hrt, hlk, hnm, htb, hts, hR, hG, hbs⟩ h1 h2 h3 ⟨_, zR.put w1 hq, hP9, hD9⟩ hS9 h6)
theorem v_aastoreL {a n b : Nat} {vs : List Value} {f : Nat → Option Nat} {i : Int32} (hd : decode cc pc = .ok (.aastore, 1)) (ha : h.1 a = some (tg, .inl (4, n, .inr (.inr (.inr (.inr f)))))) (hbv : h.1 b = some (tg2, .inr (0, vs))) (hin : vp_in i n) (kk : zV G y cc nL ret d (pc + 1) lv st (zup h.1 a (tg, .inl (4, n, .inr (.inr (.inr (.inr (va_up f i.toNatClampNeg (some b))))))), h.2) Q) : zV G y cc nL ret d pc lv (.ref b :: .int i :: .ref a :: st) h Q := fun p e R s m args below meth c H locs cells slots n0 z0 ls C h1 h2 h3 h4 h5 h6 => by
  obtain ⟨hx, hb, hml, hown, hrt, hlk, hnm, htb, hts, hR, hG, hbs⟩ := C
  obtain ⟨ws, w1, w2, w3, q0, hq⟩ := h4.at ha
  obtain ⟨qk, hqk⟩ := w1 _ _ hbv
  exact va_astq (D := G.2.1) (cl := zCL) (r := (RX0, TX0, 2)) (ci := 0) (vs := vs) hx hb hG.2.1 w2 w3 h5 q0 4 qk hq rfl hqk rfl hin hd (fun H9 locs9 hP9 hD9 hS9 => kk p e R s m args below meth c H9 locs9 cells slots n0 z0 ls ⟨hx, hb, hml, hown, hrt, hlk, hnm, htb, hts, hR, hG, hbs⟩ h1 h2 h3 ⟨_, zR.put w1 hq, hP9, hD9⟩ hS9 h6)
theorem v_aastoreR {a n b : Nat} {vs : List Value} {f : Nat → Option Nat} {i : Int32} (hd : decode cc pc = .ok (.aastore, 1)) (ha : h.1 a = some (tg, .inl (5, n, .inr (.inr (.inr (.inr f)))))) (hbv : h.1 b = some (tg2, .inr (1, vs))) (hin : vp_in i n) (kk : zV G y cc nL ret d (pc + 1) lv st (zup h.1 a (tg, .inl (5, n, .inr (.inr (.inr (.inr (va_up f i.toNatClampNeg (some b))))))), h.2) Q) : zV G y cc nL ret d pc lv (.ref b :: .int i :: .ref a :: st) h Q := fun p e R s m args below meth c H locs cells slots n0 z0 ls C h1 h2 h3 h4 h5 h6 => by
  obtain ⟨hx, hb, hml, hown, hrt, hlk, hnm, htb, hts, hR, hG, hbs⟩ := C
  obtain ⟨ws, w1, w2, w3, q0, hq⟩ := h4.at ha
  obtain ⟨qk, hqk⟩ := w1 _ _ hbv
  exact va_astq (D := G.2.1) (cl := zCL) (r := (RX1, TX1, 19)) (ci := 1) (vs := vs) hx hb hG.2.1 w2 w3 h5 q0 5 qk hq rfl hqk rfl hin hd (fun H9 locs9 hP9 hD9 hS9 => kk p e R s m args below meth c H9 locs9 cells slots n0 z0 ls ⟨hx, hb, hml, hown, hrt, hlk, hnm, htb, hts, hR, hG, hbs⟩ h1 h2 h3 ⟨_, zR.put w1 hq, hP9, hD9⟩ hS9 h6)
theorem v_aastoreRN {a n : Nat} {f : Nat → Option Nat} {i : Int32} (hd : decode cc pc = .ok (.aastore, 1)) (ha : h.1 a = some (tg, .inl (5, n, .inr (.inr (.inr (.inr f)))))) (hin : vp_in i n) (kk : zV G y cc nL ret d (pc + 1) lv st (zup h.1 a (tg, .inl (5, n, .inr (.inr (.inr (.inr (va_up f i.toNatClampNeg none)))))), h.2) Q) : zV G y cc nL ret d pc lv (.null :: .int i :: .ref a :: st) h Q := fun p e R s m args below meth c H locs cells slots n0 z0 ls C h1 h2 h3 h4 h5 h6 => by
  obtain ⟨hx, hb, hml, hown, hrt, hlk, hnm, htb, hts, hR, hG, hbs⟩ := C
  obtain ⟨ws, w1, w2, w3, q0, hq⟩ := h4.at ha
  exact va_astqN (D := G.2.1) (cl := zCL) (C := "RingThreads$Ring") hx hb hG.2.1 w2 w3 h5 q0 5 hq rfl hin hd (fun H9 locs9 hP9 hD9 hS9 => kk p e R s m args below meth c H9 locs9 cells slots n0 z0 ls ⟨hx, hb, hml, hown, hrt, hlk, hnm, htb, hts, hR, hG, hbs⟩ h1 h2 h3 ⟨_, zR.put w1 hq, hP9, hD9⟩ hS9 h6)
theorem v_arraylength {a i : Nat} {x : vp_A} (hi : i < 6) (hd : decode cc pc = .ok (.arraylength, 1)) (ha : h.1 a = some (tg, .inl (i, x))) (kk : zV G y cc nL ret d (pc + 1) lv (.int (Int32.ofNat x.1) :: st) h Q) : zV G y cc nL ret d pc lv (.ref a :: st) h Q := fun p e R s m args below meth c H locs cells slots n0 z0 ls C h1 h2 h3 h4 h5 h6 => by
  obtain ⟨hx, hb, hml, hown, hrt, hlk, hnm, htb, hts, hR, hG, hbs⟩ := C
  obtain ⟨ws, w1, w2, w3, q0, hq⟩ := h4.at ha
  have ht : ∃ ty, (ztys G.2.2.1)[i]? = some (G.2.2.1 i, ty) := by
    match i, hi with
    | 0, _ => exact ⟨_, rfl⟩
    | 1, _ => exact ⟨_, rfl⟩
    | 2, _ => exact ⟨_, rfl⟩
    | 3, _ => exact ⟨_, rfl⟩
    | 4, _ => exact ⟨_, rfl⟩
    | 5, _ => exact ⟨_, rfl⟩
  obtain ⟨ty, ht⟩ := ht
  exact va_alen (D := G.2.1) (cl := zCL) hx hb hG.2.1 w2 q0 i hq ht rfl hd (kk p e R s m args below meth c H locs cells slots n0 z0 ls ⟨hx, hb, hml, hown, hrt, hlk, hnm, htb, hts, hR, hG, hbs⟩ h1 h2 h3 h4 h5 h6)
theorem v_getsM {idx : Nat} (hd : decode cc pc = .ok (.getstatic idx, 3)) (hw : Cond.fieldLink y.cls idx "RingThreads" "MOST_SETTING" "[I" ∈ GT) (kk : zV G y cc nL ret d (pc + 3) lv (.ref G.2.2.2.2.2.1 :: st) h Q) : zV G y cc nL ret d pc lv st h Q := fun p e R s m args below meth c H locs cells slots n0 z0 ls C h1 h2 h3 h4 h5 h6 => by
  obtain ⟨hx, hb, hml, hown, hrt, hlk, hnm, htb, hts, hR, hG, hbs⟩ := C
  exact va_gets (C := "RingThreads") hx hb hG.2.2.2.1.1 h5 hown (hts _ hw) (fun x hx => hx) hd (kk p e R s m args below meth c H locs cells slots n0 z0 ls ⟨hx, hb, hml, hown, hrt, hlk, hnm, htb, hts, hR, hG, hbs⟩ h1 h2 h3 h4 h5 h6)
theorem v_getsA (hy : y.cls = "RingThreads$Line") (hd : decode cc pc = .ok (.getstatic 19, 3)) (kk : zV G y cc nL ret d (pc + 3) lv (.ref G.2.2.2.2.1 :: st) h Q) : zV G y cc nL ret d pc lv st h Q := fun p e R s m args below meth c H locs cells slots n0 z0 ls C h1 h2 h3 h4 h5 h6 => by
  obtain ⟨hx, hb, hml, hown, hrt, hlk, hnm, htb, hts, hR, hG, hbs⟩ := C
  exact va_getsN (C := "RingThreads") (own := "RingThreads$Line") (host := "RingThreads") hx hb hG.2.2.1.1 h5 (by rw [← hy]; exact hown) (va_Nw.use rfl hG.2.2.2.2.2.2.2.1) (fun x hx => hx) hd (kk p e R s m args below meth c H locs cells slots n0 z0 ls ⟨hx, hb, hml, hown, hrt, hlk, hnm, htb, hts, hR, hG, hbs⟩ h1 h2 h3 h4 h5 h6)
theorem v_ialoadA {i : Int32} (hd : decode cc pc = .ok (.iaload, 1)) (hin : vp_in i 24) (kk : zV G y cc nL ret d (pc + 1) lv (.int (zAR.getD i.toNatClampNeg 0) :: st) h Q) : zV G y cc nL ret d pc lv (.int i :: .ref G.2.2.2.2.1 :: st) h Q := fun p e R s m args below meth c H locs cells slots n0 z0 ls C h1 h2 h3 h4 h5 h6 => by
  obtain ⟨hx, hb, hml, hown, hrt, hlk, hnm, htb, hts, hR, hG, hbs⟩ := C
  exact va_ti hx hb hG.2.2.1.2 h5 hin rfl hd (kk p e R s m args below meth c H locs cells slots n0 z0 ls ⟨hx, hb, hml, hown, hrt, hlk, hnm, htb, hts, hR, hG, hbs⟩ h1 h2 h3 h4 h5 h6)
theorem v_ialoadM {i : Int32} (hd : decode cc pc = .ok (.iaload, 1)) (hin : vp_in i 3) (kk : zV G y cc nL ret d (pc + 1) lv (.int (zMS.getD i.toNatClampNeg 0) :: st) h Q) : zV G y cc nL ret d pc lv (.int i :: .ref G.2.2.2.2.2.1 :: st) h Q := fun p e R s m args below meth c H locs cells slots n0 z0 ls C h1 h2 h3 h4 h5 h6 => by
  obtain ⟨hx, hb, hml, hown, hrt, hlk, hnm, htb, hts, hR, hG, hbs⟩ := C
  exact va_ti hx hb hG.2.2.2.1.2 h5 hin rfl hd (kk p e R s m args below meth c H locs cells slots n0 z0 ls ⟨hx, hb, hml, hown, hrt, hlk, hnm, htb, hts, hR, hG, hbs⟩ h1 h2 h3 h4 h5 h6)
theorem v_new {idx ci n : Nat} (fs : List Value) (f : zNL y.cls idx ci fs n) (hd : decode cc pc = .ok (.new idx, 3)) (hc1 : h.2.1 + 1 ≤ 50000) (hc2 : h.2.2 + n ≤ 400000) (kk : ∀ q : Nat, h.1 q = none → zV G y cc nL ret d (pc + 3) lv (.ref q :: st) (zup h.1 q (tg, .inr (ci, fs)), h.2.1 + 1, h.2.2 + n) Q) : zV G y cc nL ret d pc lv st h Q := fun p e R s m args below meth c H locs cells slots n0 z0 ls C h1 h2 h3 h4 h5 h6 => by
  obtain ⟨hx, hb, hml, hown, hrt, hlk, hnm, htb, hts, hR, hG, hbs⟩ := C
  obtain ⟨Cn, T, ty0, f1, f2, f3, f4, f5, f6, f7⟩ := f
  obtain ⟨ws, w1, w2, w3⟩ := h4
  refine va_new (D := G.2.1) (cl := zCL) (C := Cn) (T := T) (N := n) (ci := ci) (fs := fs) hx hb hts f2 ty0 f3 hown (hts _ f4) (hts _ f5) (hts _ f6) hG.2.1 w2 w3 h5 (fun q hq => Nat.le_trans hbs hq) f1 f7 ?_ ?_ hd (fun q H9 hP9 hD9 hS9 => kk q (zR.fresh w1 hD9) p e R s m args below meth c H9 locs (cells + 1) (slots + n) n0 z0 ls ⟨hx, hb, hml, hown, hrt, hlk, hnm, htb, hts, hR, hG, hbs⟩ (by show h.2.1 + 1 = n0 + (cells + 1); omega) (by show h.2.2 + n = z0 + (slots + n); omega) ⟨hc1, hc2⟩ ⟨_, zR.new w1, hP9, hD9⟩ hS9 h6)
  · rw [hR]; show cells + 1 ≤ 50000 * (d + 1); omega
  · rw [hR]; show slots + n ≤ 400000 * (d + 1); omega
theorem v_newI {N : Nat} {n : Int32} (hd : decode cc pc = .ok (.newarray .int, 2)) (hw : Cond.arrayClass .int ∈ GT) (hn : ¬ n < 0) (hN : n.toNatClampNeg = N) (hb8 : N ≤ 60000) (hc1 : h.2.1 + 1 ≤ 50000) (hc2 : h.2.2 + N ≤ 400000) (kk : ∀ q : Nat, h.1 q = none → zV G y cc nL ret d (pc + 2) lv (.ref q :: st) (zup h.1 q (tg, .inl (0, N, .inl (fun _ => 0))), h.2.1 + 1, h.2.2 + N) Q) : zV G y cc nL ret d pc lv (.int n :: st) h Q := fun p e R s m args below meth c H locs cells slots n0 z0 ls C h1 h2 h3 h4 h5 h6 => by
  obtain ⟨hx, hb, hml, hown, hrt, hlk, hnm, htb, hts, hR, hG, hbs⟩ := C
  obtain ⟨ws, w1, w2, w3⟩ := h4
  refine va_newa (D := G.2.1) (cl := zCL) (atype := .int) (ty := .int) (a0 := (N, .inl (fun _ => 0))) hx hb (hts _ hw) rfl hG.2.1 w2 w3 h5 (fun q hq => Nat.le_trans hbs hq) (fun cA => rfl) hn hN (zb8 hb8 (by decide)) ?_ ?_ hd (fun q cA H9 hK9 hP9 hD9 hS9 => ?_)
  · rw [hR]; show cells + 1 ≤ 50000 * (d + 1); omega
  · rw [hR]; show slots + N ≤ 400000 * (d + 1); omega
  have eK : cA = G.2.2.1 0 := by
    have e1 := (hK9.2 6 (cA, .int) rfl).2
    have e2 := (hG.2.1.2 0 (G.2.2.1 0, .int) rfl).2
    exact Option.some.inj (Eq.trans (Eq.symm e1) e2)
  subst eK
  exact kk q (zR.fresh w1 hD9) p e R s m args below meth c H9 locs (cells + 1) (slots + N) n0 z0 ls ⟨hx, hb, hml, hown, hrt, hlk, hnm, htb, hts, hR, hG, hbs⟩ (by show h.2.1 + 1 = n0 + (cells + 1); omega) (by show h.2.2 + N = z0 + (slots + N); omega) ⟨hc1, hc2⟩ ⟨_, zR.new w1, hP9, hD9⟩ hS9 h6
theorem v_newC {N : Nat} {n : Int32} (hd : decode cc pc = .ok (.newarray .char, 2)) (hw : Cond.arrayClass .char ∈ GT) (hn : ¬ n < 0) (hN : n.toNatClampNeg = N) (hb8 : N ≤ 60000) (hc1 : h.2.1 + 1 ≤ 50000) (hc2 : h.2.2 + N ≤ 400000) (kk : ∀ q : Nat, h.1 q = none → zV G y cc nL ret d (pc + 2) lv (.ref q :: st) (zup h.1 q (tg, .inl (3, N, .inl (fun _ => 0))), h.2.1 + 1, h.2.2 + N) Q) : zV G y cc nL ret d pc lv (.int n :: st) h Q := fun p e R s m args below meth c H locs cells slots n0 z0 ls C h1 h2 h3 h4 h5 h6 => by
  obtain ⟨hx, hb, hml, hown, hrt, hlk, hnm, htb, hts, hR, hG, hbs⟩ := C
  obtain ⟨ws, w1, w2, w3⟩ := h4
  refine va_newa (D := G.2.1) (cl := zCL) (atype := .char) (ty := .char) (a0 := (N, .inl (fun _ => 0))) hx hb (hts _ hw) rfl hG.2.1 w2 w3 h5 (fun q hq => Nat.le_trans hbs hq) (fun cA => rfl) hn hN (zb8 hb8 (by decide)) ?_ ?_ hd (fun q cA H9 hK9 hP9 hD9 hS9 => ?_)
  · rw [hR]; show cells + 1 ≤ 50000 * (d + 1); omega
  · rw [hR]; show slots + N ≤ 400000 * (d + 1); omega
  have eK : cA = G.2.2.1 3 := by
    have e1 := (hK9.2 6 (cA, .char) rfl).2
    have e2 := (hG.2.1.2 3 (G.2.2.1 3, .char) rfl).2
    exact Option.some.inj (Eq.trans (Eq.symm e1) e2)
  subst eK
  exact kk q (zR.fresh w1 hD9) p e R s m args below meth c H9 locs (cells + 1) (slots + N) n0 z0 ls ⟨hx, hb, hml, hown, hrt, hlk, hnm, htb, hts, hR, hG, hbs⟩ (by show h.2.1 + 1 = n0 + (cells + 1); omega) (by show h.2.2 + N = z0 + (slots + N); omega) ⟨hc1, hc2⟩ ⟨_, zR.new w1, hP9, hD9⟩ hS9 h6
theorem v_newL {idx N : Nat} {n : Int32} (hd : decode cc pc = .ok (.anewarray idx, 3)) (hw : Cond.classLink y.cls idx "RingThreads$Line" ∈ GT) (hn : ¬ n < 0) (hN : n.toNatClampNeg = N) (hb8 : N ≤ 60000) (hc1 : h.2.1 + 1 ≤ 50000) (hc2 : h.2.2 + N ≤ 400000) (kk : ∀ q : Nat, h.1 q = none → zV G y cc nL ret d (pc + 3) lv (.ref q :: st) (zup h.1 q (tg, .inl (4, N, .inr (.inr (.inr (.inr (fun _ => none)))))), h.2.1 + 1, h.2.2 + N) Q) : zV G y cc nL ret d pc lv (.int n :: st) h Q := fun p e R s m args below meth c H locs cells slots n0 z0 ls C h1 h2 h3 h4 h5 h6 => by
  obtain ⟨hx, hb, hml, hown, hrt, hlk, hnm, htb, hts, hR, hG, hbs⟩ := C
  obtain ⟨ws, w1, w2, w3⟩ := h4
  refine va_newq (D := G.2.1) (cl := zCL) (C := "RingThreads$Line") hx hb hown (hts _ hw) (hG.2.2.2.2.2.2.2.2.2.2.2.2 _ (by decide)) hG.2.1 w2 w3 h5 (fun q hq => Nat.le_trans hbs hq) hn hN (by omega) ?_ ?_ hd (fun q cA H9 hK9 hP9 hD9 hS9 => ?_)
  · rw [hR]; show cells + 1 ≤ 50000 * (d + 1); omega
  · rw [hR]; show slots + N ≤ 400000 * (d + 1); omega
  have eK : cA = G.2.2.1 4 := by
    obtain ⟨-, -, -, -, -, e1⟩ := (hK9.2 6 (cA, .object "RingThreads$Line") rfl).2
    obtain ⟨-, -, -, -, -, e2⟩ := (hG.2.1.2 4 (G.2.2.1 4, .object "RingThreads$Line") rfl).2
    exact Option.some.inj (Eq.trans (Eq.symm e1) e2)
  subst eK
  exact kk q (zR.fresh w1 hD9) p e R s m args below meth c H9 locs (cells + 1) (slots + N) n0 z0 ls ⟨hx, hb, hml, hown, hrt, hlk, hnm, htb, hts, hR, hG, hbs⟩ (by show h.2.1 + 1 = n0 + (cells + 1); omega) (by show h.2.2 + N = z0 + (slots + N); omega) ⟨hc1, hc2⟩ ⟨_, zR.new w1, hP9, hD9⟩ hS9 h6
theorem v_newR {idx N : Nat} {n : Int32} (hd : decode cc pc = .ok (.anewarray idx, 3)) (hw : Cond.classLink y.cls idx "RingThreads$Ring" ∈ GT) (hn : ¬ n < 0) (hN : n.toNatClampNeg = N) (hb8 : N ≤ 60000) (hc1 : h.2.1 + 1 ≤ 50000) (hc2 : h.2.2 + N ≤ 400000) (kk : ∀ q : Nat, h.1 q = none → zV G y cc nL ret d (pc + 3) lv (.ref q :: st) (zup h.1 q (tg, .inl (5, N, .inr (.inr (.inr (.inr (fun _ => none)))))), h.2.1 + 1, h.2.2 + N) Q) : zV G y cc nL ret d pc lv (.int n :: st) h Q := fun p e R s m args below meth c H locs cells slots n0 z0 ls C h1 h2 h3 h4 h5 h6 => by
  obtain ⟨hx, hb, hml, hown, hrt, hlk, hnm, htb, hts, hR, hG, hbs⟩ := C
  obtain ⟨ws, w1, w2, w3⟩ := h4
  refine va_newq (D := G.2.1) (cl := zCL) (C := "RingThreads$Ring") hx hb hown (hts _ hw) (hG.2.2.2.2.2.2.2.2.2.2.2.2 _ (by decide)) hG.2.1 w2 w3 h5 (fun q hq => Nat.le_trans hbs hq) hn hN (by omega) ?_ ?_ hd (fun q cA H9 hK9 hP9 hD9 hS9 => ?_)
  · rw [hR]; show cells + 1 ≤ 50000 * (d + 1); omega
  · rw [hR]; show slots + N ≤ 400000 * (d + 1); omega
  have eK : cA = G.2.2.1 5 := by
    obtain ⟨-, -, -, -, -, e1⟩ := (hK9.2 6 (cA, .object "RingThreads$Ring") rfl).2
    obtain ⟨-, -, -, -, -, e2⟩ := (hG.2.1.2 5 (G.2.2.1 5, .object "RingThreads$Ring") rfl).2
    exact Option.some.inj (Eq.trans (Eq.symm e1) e2)
  subst eK
  exact kk q (zR.fresh w1 hD9) p e R s m args below meth c H9 locs (cells + 1) (slots + N) n0 z0 ls ⟨hx, hb, hml, hown, hrt, hlk, hnm, htb, hts, hR, hG, hbs⟩ (by show h.2.1 + 1 = n0 + (cells + 1); omega) (by show h.2.2 + N = z0 + (slots + N); omega) ⟨hc1, hc2⟩ ⟨_, zR.new w1, hP9, hD9⟩ hS9 h6
end ZHEAP
end
section
theorem zsum {f : Cell → Nat} {l l' : List Cell} {k : Nat} (hlen : l.length ≤ l'.length) (hk : k ≤ l.length) (hsz : ∀ (i : Nat) (c : Cell), l[i]? = some c → ∃ c', l'[i]? = some c' ∧ f c' = f c) : ((l'.drop k).map f).sum = ((l.drop k).map f).sum + ((l'.drop l.length).map f).sum := by
  have e : (l'.take l.length).map f = l.map f := by
    apply List.ext_getElem?
    intro i
    rw [List.getElem?_map, List.getElem?_map]
    by_cases hi : i < l.length
    · obtain ⟨c', h1, h2⟩ := hsz i _ (List.getElem?_eq_getElem hi)
      rw [List.getElem?_take_of_lt hi, h1, List.getElem?_eq_getElem hi]
      show some (f c') = some (f _)
      rw [h2]
    · have h1 : l[i]? = none := List.getElem?_eq_none (by omega)
      have h2 : (l'.take l.length)[i]? = none := List.getElem?_eq_none (by rw [List.length_take]; omega)
      rw [h1, h2]
  have hd : l'.drop k = (l'.take l.length).drop k ++ l'.drop l.length := by
    conv => lhs; rw [← List.take_append_drop l.length l']
    rw [List.drop_append_of_le_length (by rw [List.length_take]; omega)]
  rw [hd, List.map_append, List.sum_append, List.map_drop, e, ← List.map_drop]
theorem ztight {p : Program} {l : Launch} {e : Env} {R : Room} {s : State} {m : MethodId} {args : Array Value} {below : List Frame} {meth : Method} {c : Code} {T T' : State} {locs locs' : List Loc} {cells slots cells' slots' : Nat}
    (X : Stand p l e R s m args below meth c T locs cells slots) (X' : Stand p l e R s m args below meth c T' locs' cells' slots') {st t : State} {L : List Loc} {k n : Nat} (hs : st.sameButNew ({ t with vm := st.vm } : State) L k n) (e0 : st.heap = T.heap) (e1 : T'.heap = t.heap) :
    Stand p l e R s m args below meth c T' locs' (cells + k) (slots + n) := by
  obtain ⟨a1, a2, a3, a4, a5, a6⟩ := X.same
  obtain ⟨b1, b2, b3, b4, b5, b6⟩ := X'.same
  obtain ⟨c1, c2, c3, c4, c5, c6⟩ := hs
  refine { X' with same := ⟨b1, b2, ?_, b4, ?_, b6⟩ }
  · show T'.heap.size ≤ s.heap.size + (cells + k)
    have a3 : T.heap.size ≤ s.heap.size + cells := a3
    have c3 : t.heap.size ≤ st.heap.size + k := c3
    rw [e0] at c3
    rw [e1]
    omega
  · show ((T'.heap.toList.drop s.heap.size).map (·.slots.size)).sum ≤ slots + n
    have a5 : ((T.heap.toList.drop s.heap.size).map (·.slots.size)).sum ≤ slots := a5
    have c5 : ((t.heap.toList.drop st.heap.size).map (·.slots.size)).sum ≤ n := c5
    have a2 : s.heap.size ≤ T.heap.size := a2
    have c2 : st.heap.size ≤ t.heap.size := c2
    rw [e0] at c5 c2
    rw [e1]
    have hz := zsum (f := fun c => c.slots.size) (l := T.heap.toList) (l' := t.heap.toList) (k := s.heap.size) (by simpa using c2) (by simpa using a2) (fun i c hi => by
      have hi' : st.heap[i]? = some c := by rw [e0]; simpa using hi
      obtain ⟨c', q1, q2, q3, q4⟩ := c6 i c hi'
      exact ⟨c', by simpa using q1, q3⟩)
    have hl : T.heap.toList.length = T.heap.size := by simp
    rw [hl] at hz
    rw [hz]
    omega
theorem zroomle {h : zH} {n0 cells z0 slots d : Nat} (h1 : h.2.1 = n0 + cells) (h2 : h.2.2 = z0 + slots) (h3 : zcap h) : cells ≤ 50000 * (d + 1) ∧ slots ≤ 400000 * (d + 1) := by
  have := h3.1
  have := h3.2
  omega
/-- a return, as the method's end wants it -/
theorem zend {G : zW} {below : List Frame} {Q : zOut → zH → Prop} {s : State} {args : Array Value} {H : Heap} {locs : List Loc} {cells slots n0 z0 d : Nat} {h : zH} {v : Option Value} (hQ : Q (.inl v) h) (h1 : h.2.1 = n0 + cells) (h2 : h.2.2 = z0 + slots) (h3 : zcap h) (h4 : zR G h.1 H) (h5 : va_S (zA G) s.heap H locs) :
    ∀ t, MQ below (fun _ _ o t => o = .returned v ∧ t.heap = H) args s cells slots (zA G) t → vx_MQ below (zQ G Q n0 z0) (zX G Q n0 z0) args s (50000 * (d + 1)) (400000 * (d + 1)) (zA G) t := by
  rintro t ⟨o, a1, a2, ⟨rfl, a3⟩, L, ⟨b1, b2, b3⟩, b4⟩
  obtain ⟨g1, g2⟩ := zroomle (d := d) h1 h2 h3
  exact ⟨_, a1, a2, Or.inl ⟨⟨v, h, cells, slots, L, rfl, hQ, by rw [a3]; exact h4, h1, h2, h3, b3, b4, h5.F a3⟩, L, ⟨b1, b2, b3.mono g1 g2⟩, b4⟩⟩
section ZCALL
variable {G : zW} {y : MethodName} {cc : ByteArray} {nL : Nat} {ret : Option FieldType} {d : Nat} {pc : Nat} {lv : List (Nat × Value)} {st : List Value} {h : zH} {Q : zOut → zH → Prop} {tg tg2 : Nat}
theorem v_ireturn {x : Int32} (hd : decode cc pc = .ok (.ireturn, 1)) (hr : ret = some .int) (hQ : Q (.inl (some (.int x))) h) : zV G y cc nL ret d pc lv [.int x] h Q := fun p e R s m args below meth c H locs cells slots n0 z0 ls C h1 h2 h3 h4 h5 h6 => by
  obtain ⟨hx, hb, hml, hown, hrt, hlk, hnm, htb, hts, hR, hG, hbs⟩ := C
  exact W.mono (zend hQ h1 h2 h3 h4 h5) (W.iret hx hb (hrt.trans hr) (fun t ht hW => ⟨rfl, ht⟩) h5.2.2 hd hlk)
theorem v_zreturn {x : Int32} (hd : decode cc pc = .ok (.ireturn, 1)) (hr : ret = some .boolean) (hn : narrow .boolean (.int x) = .int x) (hQ : Q (.inl (some (.int x))) h) : zV G y cc nL ret d pc lv [.int x] h Q := fun p e R s m args below meth c H locs cells slots n0 z0 ls C h1 h2 h3 h4 h5 h6 => by
  obtain ⟨hx, hb, hml, hown, hrt, hlk, hnm, htb, hts, hR, hG, hbs⟩ := C
  exact W.mono (zend hQ h1 h2 h3 h4 h5) (W.zret hx hb (hrt.trans hr) hn (fun t ht hW => ⟨rfl, ht⟩) h5.2.2 hd hlk)
theorem v_lreturn {x : Int64} (hd : decode cc pc = .ok (.lreturn, 1)) (hr : ret = some .long) (hQ : Q (.inl (some (.long x))) h) : zV G y cc nL ret d pc lv [.long x] h Q := fun p e R s m args below meth c H locs cells slots n0 z0 ls C h1 h2 h3 h4 h5 h6 => by
  obtain ⟨hx, hb, hml, hown, hrt, hlk, hnm, htb, hts, hR, hG, hbs⟩ := C
  exact W.mono (zend hQ h1 h2 h3 h4 h5) (W.lret hx hb (hrt.trans hr) (fun t ht hW => ⟨rfl, ht⟩) h5.2.2 hd hlk)
theorem v_dreturn {x : UInt64} (hd : decode cc pc = .ok (.dreturn, 1)) (hr : ret = some .double) (hQ : Q (.inl (some (.double x))) h) : zV G y cc nL ret d pc lv [.double x] h Q := fun p e R s m args below meth c H locs cells slots n0 z0 ls C h1 h2 h3 h4 h5 h6 => by
  obtain ⟨hx, hb, hml, hown, hrt, hlk, hnm, htb, hts, hR, hG, hbs⟩ := C
  exact W.mono (zend hQ h1 h2 h3 h4 h5) (W.dret hx hb (hrt.trans hr) (fun t ht hW => ⟨rfl, ht⟩) h5.2.2 hd hlk)
theorem v_areturn {x : Nat} {rt : FieldType} (hd : decode cc pc = .ok (.areturn, 1)) (hr : ret = some rt) (hrf : (∃ n, rt = .object n) ∨ ∃ t, rt = .array t) (hQ : Q (.inl (some (.ref x))) h) : zV G y cc nL ret d pc lv [.ref x] h Q := fun p e R s m args below meth c H locs cells slots n0 z0 ls C h1 h2 h3 h4 h5 h6 => by
  obtain ⟨hx, hb, hml, hown, hrt, hlk, hnm, htb, hts, hR, hG, hbs⟩ := C
  exact W.mono (zend hQ h1 h2 h3 h4 h5) (W.aret hx hb (hrt.trans hr) hrf (Or.inr ⟨x, rfl⟩) (fun t ht hW => ⟨rfl, ht⟩) h5.2.2 hd hlk)
theorem v_return (hd : decode cc pc = .ok (.return_, 1)) (hr : ret = none) (hQ : Q (.inl none) h) : zV G y cc nL ret d pc lv [] h Q := fun p e R s m args below meth c H locs cells slots n0 z0 ls C h1 h2 h3 h4 h5 h6 => by
  obtain ⟨hx, hb, hml, hown, hrt, hlk, hnm, htb, hts, hR, hG, hbs⟩ := C
  exact W.mono (zend hQ h1 h2 h3 h4 h5) (W.vret hx hb (hrt.trans hr) (fun t ht hW => ⟨rfl, ht⟩) h5.2.2 hd hlk)
/-- what follows a call -/
theorem zcall {p : Program} {e : Env} {R : Room} {s : State} {m : MethodId} {args : Array Value} {below : List Frame} {meth : Method} {c : Code} {H : Heap} {locs : List Loc} {cells slots n0 z0 : Nat} {ls : Array Slot} {stk rest : List Value} {a : Array Value} {Qc : zOut → zH → Prop} {MC MS : Nat}
    (C : zC G y cc nL ret d p R s m args meth c) (h1 : h.2.1 = n0 + cells) (h2 : h.2.2 = z0 + slots) (h5 : va_S (zA G) s.heap H locs) (h6 : lv_has ls nL lv)
    (hr : vx_Run p G.1 e R s m args below meth c H locs cells slots MC MS (F0 m pc ls stk) rest (zQ G Qc h.2.1 h.2.2 a) (zX G Qc h.2.1 h.2.2) (zA G))
    (kr : ∀ (v : Option Value) (h9 : zH), Qc (.inl v) h9 → zV G y cc nL ret d (pc + 3) lv (v.toList ++ rest) h9 Q) (kx : ∀ (E : String) (h9 : zH), Qc (.inr E) h9 → Q (.inr E) h9) :
    W p G.1 e R s m args below meth c H locs cells slots (vx_MQ below (zQ G Q n0 z0) (zX G Q n0 z0) args s (50000 * (d + 1)) (400000 * (d + 1)) (zA G)) (F0 m pc ls stk) := by
  intro T hT X
  have hSz : ∀ {st t : State} {L : List Loc} {T' : State}, st.heap = H → T'.heap = t.heap → (∀ q ∈ L, zA G q.base) → va_F (zA G) st t → va_S (zA G) s.heap T'.heap (locs ++ L) := by
    intro st t L T' e0 e1 hL hF
    refine ⟨?_, fun q q1 q2 => ?_, fun z hz => (List.mem_append.mp hz).elim (h5.2.2 z) (hL z)⟩
    · rw [e1]; exact Nat.le_trans h5.1 (by rw [← e0]; exact hF.1)
    · rw [e1, hF.2 q (by rw [e0]; exact Nat.lt_of_lt_of_le q1 h5.1) q2, e0]; exact h5.2.1 q q1 q2
  rcases hr T hT X with ⟨v, st₀, t, T', L, e0, X', hL, e1, e2, hq, hg⟩ | ⟨q, st₀, t, T', L, E, ce, e0, X', hL, e1, e2, hx9, hce, hcv, hcl, hst⟩
  · obtain ⟨v', h9, k, n, L', ho, hQ, hRep, c1, c2, hcap, hsame, hL', hF⟩ := hq
    cases ho
    have X2 := ztight X X' hsame (by rw [e0, hT]) e1
    obtain ⟨t2, a1, b1⟩ := kr v h9 hQ p e R s m args below meth c T'.heap (locs ++ L) (cells + k) (slots + n) n0 z0 ls C (by rw [c1, h1]; omega) (by rw [c2, h2]; omega) hcap (by rw [e1]; exact hRep) (hSz e0 e1 hL hF) h6 T' rfl X2
    exact ⟨t2, hg t2 a1, b1⟩
  · obtain ⟨h9, k, n, L', hQ, hRep, c1, c2, hcap, hsame, hL', hF⟩ := hx9
    have X2 := ztight X X' hsame (by rw [e0, hT]) e1
    have hS9 := hSz e0 e1 hL hF
    obtain ⟨g1, g2⟩ := zroomle (d := d) (h := h9) (n0 := n0) (cells := cells + k) (z0 := z0) (slots := slots + n) (by rw [c1, h1]; omega) (by rw [c2, h2]; omega) hcap
    obtain ⟨t2, a1, o, b1, b2, b3⟩ := vx_out (Qc := fun _ _ _ _ => False) (XC := fun E' st t => E' = E ∧ t.heap = T'.heap) (rest := rest) (free := zA G) (mc := cells + k) (ms := slots + n) (args := args) (below := below) (pc := pc) (ls := ls) (fun x hx => (C.2.2.2.2.2.2.2.1 x hx).elim) C.2.2.2.2.2.1 (by rw [e1]; exact hce) hcv hcl (fun t ht hA => ⟨rfl, ht⟩) hS9.2.2 (Nat.le_refl _) (Nat.le_refl _) T' rfl X2
    refine ⟨t2, hst.trans a1, o, b1, b2, ?_⟩
    rcases b3 with ⟨b3, -⟩ | ⟨q2, rfl, E2, ce2, L2, ⟨rfl, d1⟩, d2, d3, d4, d5, d6, d7⟩
    · exact b3.elim
    · refine Or.inr ⟨q2, rfl, E2, ce2, L2, ⟨h9, cells + k, slots + n, L2, kx _ _ hQ, by rw [d1, e1]; exact hRep, by rw [c1, h1]; omega, by rw [c2, h2]; omega, hcap, d6, d7, hS9.F d1⟩, d2, d3, d4, d5, d6.mono g1 g2, d7⟩
/-- the words of a call -/
def zCS (own : String) (idx : Nat) (y' : MethodName) (cc' : ByteArray) (nL' : Nat) (ret' : Option FieldType) (n : Nat) : Prop :=
  Cond.methodLink own idx y' ∈ GT ∧ Cond.initialized y'.cls ∈ GT ∧ Cond.code y' cc' nL' ret' ∈ GT ∧ nL' ≤ 15 ∧ y'.cls ≠ "java/lang/invoke/MethodHandle" ∧ y'.cls ≠ "java/lang/invoke/VarHandle" ∧ (parseMethodDescriptor y'.desc).map (fun d => d.parameters.length) = some n
theorem zgood {y' : MethodName} {cc' : ByteArray} {nL' : Nat} {ret' : Option FieldType} {l : List Cond} (h : ∀ w ∈ l, w ∈ GT) (hc : Cond.code y' cc' nL' ret' ∈ GT) : GoodIn GT (l ++ (Cond.code y' cc' nL' ret' :: GT)) := by
  intro w hw
  have hm : w ∈ GT := by
    rcases List.mem_append.mp hw with h1 | h1
    · exact h w h1
    · rcases List.mem_cons.mp h1 with rfl | h2
      · exact hc
      · exact h2
  exact ⟨hm, good_of_word (GT_good hm)⟩
theorem zblind {as : List Value} {h9 : zH} : FrameBlind (zPc G as h9) := fun a U g mk ⟨q1, q2, q3, q4, q5⟩ =>
  ⟨q1, zG.moved (s := U) (U := U.calling g mk a) (State.WarmedH.refl U) q2, q3, q4, q5⟩
theorem zpre {s : State} {H : Heap} {locs : List Loc} {as : List Value} (hG : zG G s s.heap) (h4 : zR G h.1 H) (h3 : zcap h) (h5 : va_S (zA G) s.heap H locs) (hbs : G.2.2.2.1 ≤ s.heap.size) : PreS s H (zPc G as h) as :=
  ⟨zblind, fun U hU hW => ⟨rfl, by rw [hU]; exact (hG.kept h5.2.1).moved hW, by rw [hU]; exact h4, h3, by rw [hU]; exact Nat.le_trans hbs h5.1⟩⟩
theorem v_callS {idx n d' nL' : Nat} {y' : MethodName} {cc' : ByteArray} {ret' : Option FieldType} {as rest : List Value} {Qc : zOut → zH → Prop} (hc : zCS y.cls idx y' cc' nL' ret' n) (hst : Cond.static y' ∈ GT) (hd : decode cc pc = .ok (.invokestatic idx, 3)) (hM : zM G y' cc' nL' ret' d' as h Qc) (hs : st = as.reverse ++ rest) (hn : as.length = n) (hdd : d' + 1 ≤ d) (hW : (rest.map fun v => v.category).sum ≤ 8)
    (kr : ∀ (v : Option Value) (h9 : zH), Qc (.inl v) h9 → zV G y cc nL ret d (pc + 3) lv (v.toList ++ rest) h9 Q) (kx : ∀ (E : String) (h9 : zH), Qc (.inr E) h9 → Q (.inr E) h9) : zV G y cc nL ret d pc lv st h Q := fun p e R s m args below meth c H locs cells slots n0 z0 ls C h1 h2 h3 h4 h5 h6 => by
  obtain ⟨hx, hb, hml, hown, hrt, hlk, hnm, htb, hts, hR, hG, hbs⟩ := C
  obtain ⟨c1, c2, c3, c4, c5, c6, c7⟩ := hc
  obtain ⟨hq1, hq2⟩ := h3
  refine zcall ⟨hx, hb, hml, hown, hrt, hlk, hnm, htb, hts, hR, hG, hbs⟩ h1 h2 h5 h6 (vx_runS (As := as) (rest := rest) ⟨hx, hb, hml, hown, hts⟩ hM (va_cwS n hts (zgood (by simp [c1, hst, c2]) c3) rfl rfl rfl ⟨c5, c6, c7⟩ ?_) (zpre hG h4 ⟨hq1, hq2⟩ h5 hbs) rfl hn h6.1 hs (by show 2 * 0 + _ ≤ 8; omega) hd ?_) kr kx
  · rw [hR]; exact ⟨hdd, by show 8 + (nL' + 11) + 34 * d' ≤ 34 * d; omega⟩
  · rw [hR]; exact ⟨by show cells + 50000 * (d' + 1) ≤ 50000 * (d + 1); omega, by show slots + 400000 * (d' + 1) ≤ 400000 * (d + 1); omega⟩
theorem v_callV {idx n d' nL' b ci : Nat} {vs : List Value} {y' : MethodName} {cc' : ByteArray} {ret' : Option FieldType} {as rest : List Value} {Qc : zOut → zH → Prop} (hc : zCS y.cls idx y' cc' nL' ret' n) (hin : Cond.instanceMethod y' ∈ GT) (hse : Cond.selects y'.cls y' y' ∈ GT) (hci : zCL[ci]?.map (fun q => q.1) = some y'.cls) (hd : decode cc pc = .ok (.invokevirtual idx, 3)) (hbv : h.1 b = some (tg, .inr (ci, vs))) (hM : zM G y' cc' nL' ret' d' (.ref b :: as) h Qc) (hs : st = as.reverse ++ .ref b :: rest) (hn : as.length = n) (hdd : d' + 1 ≤ d) (hW : (rest.map fun v => v.category).sum ≤ 8)
    (kr : ∀ (v : Option Value) (h9 : zH), Qc (.inl v) h9 → zV G y cc nL ret d (pc + 3) lv (v.toList ++ rest) h9 Q) (kx : ∀ (E : String) (h9 : zH), Qc (.inr E) h9 → Q (.inr E) h9) : zV G y cc nL ret d pc lv st h Q := fun p e R s m args below meth c H locs cells slots n0 z0 ls C h1 h2 h3 h4 h5 h6 => by
  obtain ⟨hx, hb, hml, hown, hrt, hlk, hnm, htb, hts, hR, hG, hbs⟩ := C
  obtain ⟨c1, c2, c3, c4, c5, c6, c7⟩ := hc
  obtain ⟨hq1, hq2⟩ := h3
  have hp := zpre (as := .ref b :: as) hG h4 ⟨hq1, hq2⟩ h5 hbs
  obtain ⟨ws, w1, w2, w3, q0, hq⟩ := h4.at hbv
  have hrec : ∃ cell : Cell, H[b]? = some cell ∧ cell.vm.isStatics = false ∧ s.vm.findClass y'.cls = some cell.cls := by
    cases hz : zCL[ci]? with
    | none => rw [hz] at hci; cases hci
    | some r =>
      rw [hz] at hci
      have e9 : r.1 = y'.cls := Option.some.inj hci
      rw [← e9]
      exact va_recv hG.2.1 w2 hz hq
  refine zcall ⟨hx, hb, hml, hown, hrt, hlk, hnm, htb, hts, hR, hG, hbs⟩ h1 h2 h5 h6 (vx_runV (As := as) (rest := rest) (C := y'.cls) ⟨hx, hb, hml, hown, hts⟩ hM (cwV n hts (zgood (by simp [c1, hin, hse, c2]) c3) rfl rfl rfl ⟨rfl, c5, c6, c7⟩ ?_) ⟨hp.1, hrec, hp.2⟩ rfl hn h6.1 hs (by show 2 * 0 + _ ≤ 8; omega) hd ?_) kr kx
  · rw [hR]; exact ⟨hdd, by show 8 + (nL' + 11) + 34 * d' ≤ 34 * d; omega⟩
  · rw [hR]; exact ⟨by show cells + 50000 * (d' + 1) ≤ 50000 * (d + 1); omega, by show slots + 400000 * (d' + 1) ≤ 400000 * (d + 1); omega⟩
/-- a contract out of the walk from the method's entry -/
theorem zM.of {as : List Value} (hy : plainName y.cls = true) (hl : (lg_sl as).length ≤ nL) (k : zV G y cc nL ret d 0 (lv_args 0 as) [] h Q) : zM G y cc nL ret d as h Q := by
  refine vx_ofW (cc := cc) (maxL := nL) (ret := ret) hy rfl ?_
  intro p e s m args below meth c s₁ B hml htab hPc
  obtain ⟨rfl, hG, hR, hcap, hbs⟩ := hPc
  rw [lg_entry_eq]
  exact k p e (zroom d) s m as.toArray below meth c s.heap [] 0 0 h.2.1 h.2.2 _ ⟨B.exec, B.bytes, hml, findClass_of_methodNamed B.named, B.returns, B.notSynchronized, (name_of_methodNamed B.named B.method).1, htab, fun w hw => atoms_spec (ws := .code y cc nL ret :: GT) B.pre w (List.mem_cons_of_mem _ hw), rfl, hG, hbs⟩ rfl rfl hcap hR va_S.rf (lv_entry as hl)
theorem zM.mono {as : List Value} {Q' : zOut → zH → Prop} (hq : ∀ o h, Q o h → Q' o h) (k : zM G y cc nL ret d as h Q) : zM G y cc nL ret d as h Q' := by
  intro p e ha hc hk s m args below hf happ hP hK
  obtain ⟨n, o, a1, a2, a3, a4⟩ := k p e ha hc hk s m args below hf happ hP hK
  refine ⟨n, o, a1, a2, a3, ?_⟩
  rcases a4 with ⟨⟨v, h9, k9, n9, L, b1, b2, b3⟩, b4⟩ | ⟨q, b1, E, ce, L, ⟨h9, k9, n9, L9, c1, c2⟩, b2⟩
  · exact Or.inl ⟨⟨v, h9, k9, n9, L, b1, hq _ _ b2, b3⟩, b4⟩
  · exact Or.inr ⟨q, b1, E, ce, L, ⟨h9, k9, n9, L9, hq _ _ c1, c2⟩, b2⟩
end ZCALL
end
section
section ZCALL2
variable {G : zW} {y : MethodName} {cc : ByteArray} {nL : Nat} {ret : Option FieldType} {d : Nat} {pc : Nat} {lv : List (Nat × Value)} {st : List Value} {h : zH} {Q : zOut → zH → Prop} {tg tg2 : Nat}
/-- a contract of a method that throws nothing, as the kit has it -/
theorem zM.met {as : List Value} (hq : ∀ E h9, ¬ Q (.inr E) h9) (k : zM G y cc nL ret d as h Q) : Met G.1 y (.code y cc nL ret :: GT) (zroom d) (zPc G as h) (zQ G Q h.2.1 h.2.2) (50000 * (d + 1)) (400000 * (d + 1)) (zA G) := by
  intro p e ha hc hk s m args below hf happ hP hK
  obtain ⟨n, o, a1, a2, a3, a4⟩ := k p e ha hc hk s m args below hf happ hP hK
  refine ⟨n, o, a1, a2, a3, ?_⟩
  rcases a4 with a4 | ⟨q, b1, E, ce, L, ⟨h9, k9, n9, L9, c1, c2⟩, b2⟩
  · exact a4
  · exact absurd c1 (hq _ _)
theorem zcallR {p : Program} {e : Env} {R : Room} {s : State} {m : MethodId} {args : Array Value} {below : List Frame} {meth : Method} {c : Code} {H : Heap} {locs : List Loc} {cells slots n0 z0 : Nat} {ls : Array Slot} {stk rest : List Value} {a : Array Value} {Qc : zOut → zH → Prop} {MC MS : Nat}
    (C : zC G y cc nL ret d p R s m args meth c) (h1 : h.2.1 = n0 + cells) (h2 : h.2.2 = z0 + slots) (h5 : va_S (zA G) s.heap H locs) (h6 : lv_has ls nL lv)
    (hr : va_Run p G.1 e R s m args below meth c H locs cells slots MC MS (F0 m pc ls stk) rest (zQ G Qc h.2.1 h.2.2 a) (zA G))
    (kr : ∀ (v : Option Value) (h9 : zH), Qc (.inl v) h9 → zV G y cc nL ret d (pc + 3) lv (v.toList ++ rest) h9 Q) :
    W p G.1 e R s m args below meth c H locs cells slots (vx_MQ below (zQ G Q n0 z0) (zX G Q n0 z0) args s (50000 * (d + 1)) (400000 * (d + 1)) (zA G)) (F0 m pc ls stk) := by
  refine zcall (MC := MC) (MS := MS) (a := a) (rest := rest) (Qc := fun o h9 => match o with | .inl v => Qc (.inl v) h9 | .inr _ => False) C h1 h2 h5 h6 ?_ kr (fun E h9 z => z.elim)
  intro T hT X
  obtain ⟨v, st₀, t, T', L, e0, X', hL, e1, e2, hq, hg⟩ := hr T hT X
  exact Or.inl ⟨v, st₀, t, T', L, e0, X', hL, e1, e2, hq, hg⟩
theorem v_callI {idx n d' nL' b : Nat} {y' : MethodName} {cc' : ByteArray} {as rest : List Value} {Qc : zOut → zH → Prop} (hc : zCS y.cls idx y' cc' nL' none n) (hin : Cond.instanceMethod y' ∈ GT) (hy1 : y'.name = "<init>") (hd : decode cc pc = .ok (.invokespecial idx, 3)) (hM : zM G y' cc' nL' none d' (.ref b :: as) h Qc) (hq9 : ∀ E h9, ¬ Qc (.inr E) h9) (hs : st = as.reverse ++ .ref b :: rest) (hn : as.length = n) (hdd : d' + 1 ≤ d) (hW : (rest.map fun v => v.category).sum ≤ 8)
    (kr : ∀ (v : Option Value) (h9 : zH), Qc (.inl v) h9 → zV G y cc nL ret d (pc + 3) lv (v.toList ++ rest) h9 Q) : zV G y cc nL ret d pc lv st h Q := fun p e R s m args below meth c H locs cells slots n0 z0 ls C h1 h2 h3 h4 h5 h6 => by
  obtain ⟨hx, hb, hml, hown, hrt, hlk, hnm, htb, hts, hR, hG, hbs⟩ := C
  obtain ⟨c1, c2, c3, c4, c5, c6, c7⟩ := hc
  obtain ⟨hq1, hq2⟩ := h3
  refine zcallR ⟨hx, hb, hml, hown, hrt, hlk, hnm, htb, hts, hR, hG, hbs⟩ h1 h2 h5 h6 (va_runI (As := as) (rest := rest) ⟨hx, hb, hml, hown, hts⟩ (hM.met hq9) (cwI n hts (zgood (l := []) (fun _ h => by cases h) c3) rfl rfl rfl (hts _ c2) (hts _ c1) (hts _ hin) hy1 ⟨c5, c6, c7⟩ ?_) (zpre hG h4 ⟨hq1, hq2⟩ h5 hbs) rfl hn h6.1 hs (by show 2 * 0 + _ ≤ 8; omega) hd ?_) kr
  · rw [hR]; exact ⟨hdd, by show 8 + (nL' + 11) + 34 * d' ≤ 34 * d; omega⟩
  · rw [hR]; exact ⟨by show cells + 50000 * (d' + 1) ≤ 50000 * (d + 1); omega, by show slots + 400000 * (d' + 1) ≤ 400000 * (d + 1); omega⟩
/-- the private constructor of Text, from RingThreads -/
theorem v_callIN {d' nL' b : Nat} {cc' : ByteArray} {rest : List Value} {Qc : zOut → zH → Prop} (hyc : y.cls = "RingThreads") (c2 : Cond.initialized yX2_init.cls ∈ GT) (c3 : Cond.code yX2_init cc' nL' none ∈ GT) (c4 : nL' ≤ 15) (hin : Cond.instanceMethod yX2_init ∈ GT) (hd : decode cc pc = .ok (.invokespecial 15, 3)) (hM : zM G yX2_init cc' nL' none d' [.ref b] h Qc) (hq9 : ∀ E h9, ¬ Qc (.inr E) h9) (hs : st = .ref b :: rest) (hdd : d' + 1 ≤ d) (hW : (rest.map fun v => v.category).sum ≤ 8)
    (kr : ∀ (v : Option Value) (h9 : zH), Qc (.inl v) h9 → zV G y cc nL ret d (pc + 3) lv (v.toList ++ rest) h9 Q) : zV G y cc nL ret d pc lv st h Q := fun p e R s m args below meth c H locs cells slots n0 z0 ls C h1 h2 h3 h4 h5 h6 => by
  obtain ⟨hx, hb, hml, hown, hrt, hlk, hnm, htb, hts, hR, hG, hbs⟩ := C
  obtain ⟨hq1, hq2⟩ := h3
  refine zcallR ⟨hx, hb, hml, hown, hrt, hlk, hnm, htb, hts, hR, hG, hbs⟩ h1 h2 h5 h6 (va_runIN (As := []) (rest := rest) (own := y.cls) (host := "RingThreads") (n := 0) ⟨hx, hb, hml, hown, hts⟩ (hM.met hq9) ⟨va_cnB 0 hts (zgood (l := []) (fun _ h => by cases h) c3) rfl rfl rfl (by rw [hyc]; exact hG.2.2.2.2.2.2.2.2.1) (hts _ c2) ⟨by decide +kernel, by decide +kernel, by decide +kernel⟩ ?_, rfl, hts _ hin⟩ (zpre hG h4 ⟨hq1, hq2⟩ h5 hbs) rfl rfl h6.1 hs (by show 2 * 0 + _ ≤ 8; omega) hd ?_) kr
  · rw [hR]; exact ⟨hdd, by show 8 + (nL' + 11) + 34 * d' ≤ 34 * d; omega⟩
  · rw [hR]; exact ⟨by show cells + 50000 * (d' + 1) ≤ 50000 * (d + 1); omega, by show slots + 400000 * (d' + 1) ≤ 400000 * (d + 1); omega⟩
theorem v_objInit {idx b : Nat} (c1 : Cond.methodLink y.cls idx objectInit ∈ GT) (c2 : Cond.instanceMethod objectInit ∈ GT) (c3 : Cond.code objectInit ⟨#[0xb1]⟩ 1 none ∈ GT) (hd : decode cc pc = .ok (.invokespecial idx, 3)) (hdd : 1 ≤ d) (hW : (st.map fun v => v.category).sum ≤ 8) (kk : zV G y cc nL ret d (pc + 3) lv st h Q) : zV G y cc nL ret d pc lv (.ref b :: st) h Q := fun p e R s m args below meth c H locs cells slots n0 z0 ls C h1 h2 h3 h4 h5 h6 => by
  obtain ⟨hx, hb, hml, hown, hrt, hlk, hnm, htb, hts, hR, hG, hbs⟩ := C
  refine W.objInit hx hb hown (hts _ c1) (hts _ c2) (hts _ c3) rfl (h6.1.trans hml.symm) rfl hd (by rw [hR]; exact hdd) (by rw [hR]; show 2 * 0 + _ + 12 ≤ 34 * d; omega) (kk p e R s m args below meth c H locs cells slots n0 z0 ls ⟨hx, hb, hml, hown, hrt, hlk, hnm, htb, hts, hR, hG, hbs⟩ h1 h2 h3 h4 h5 h6)
theorem v_mmax {idx : Nat} {x z : Int32} (c1 : Cond.methodLink y.cls idx Lib.Math.max.name ∈ GT) (c2 : Cond.static Lib.Math.max.name ∈ GT) (c3 : Cond.initialized "java/lang/Math" ∈ GT) (c4 : Cond.code Lib.Math.max.name Lib.Math.max.code 2 (some .int) ∈ GT) (hd : decode cc pc = .ok (.invokestatic idx, 3)) (hdd : 1 ≤ d) (hW : (st.map fun v => v.category).sum ≤ 8) (kk : zV G y cc nL ret d (pc + 3) lv (.int (if x < z then z else x) :: st) h Q) : zV G y cc nL ret d pc lv (.int z :: .int x :: st) h Q := fun p e R s m args below meth c H locs cells slots n0 z0 ls C h1 h2 h3 h4 h5 h6 => by
  obtain ⟨hx, hb, hml, hown, hrt, hlk, hnm, htb, hts, hR, hG, hbs⟩ := C
  obtain ⟨g1, g2⟩ := zroomle (d := d) h1 h2 h3
  exact va_mmax hx hb (hml.trans h6.1.symm) hown (hts _ c1) (hts _ c2) (hts _ c3) (hts _ c4) (by rw [hR]; exact hdd) (by rw [hR]; show _ + 13 ≤ 34 * d; omega) (by rw [hR]; exact g1) (by rw [hR]; exact g2) hd (kk p e R s m args below meth c H locs cells slots n0 z0 ls ⟨hx, hb, hml, hown, hrt, hlk, hnm, htb, hts, hR, hG, hbs⟩ h1 h2 h3 h4 h5 h6)
theorem v_mmin {idx : Nat} {x z : Int32} (c1 : Cond.methodLink y.cls idx Lib.Math.min.name ∈ GT) (c2 : Cond.static Lib.Math.min.name ∈ GT) (c3 : Cond.initialized "java/lang/Math" ∈ GT) (c4 : Cond.code Lib.Math.min.name Lib.Math.min.code 2 (some .int) ∈ GT) (hd : decode cc pc = .ok (.invokestatic idx, 3)) (hdd : 1 ≤ d) (hW : (st.map fun v => v.category).sum ≤ 8) (kk : zV G y cc nL ret d (pc + 3) lv (.int (if z < x then z else x) :: st) h Q) : zV G y cc nL ret d pc lv (.int z :: .int x :: st) h Q := fun p e R s m args below meth c H locs cells slots n0 z0 ls C h1 h2 h3 h4 h5 h6 => by
  obtain ⟨hx, hb, hml, hown, hrt, hlk, hnm, htb, hts, hR, hG, hbs⟩ := C
  obtain ⟨g1, g2⟩ := zroomle (d := d) h1 h2 h3
  exact va_mmin hx hb (hml.trans h6.1.symm) hown (hts _ c1) (hts _ c2) (hts _ c3) (hts _ c4) (by rw [hR]; exact hdd) (by rw [hR]; show _ + 13 ≤ 34 * d; omega) (by rw [hR]; exact g1) (by rw [hR]; exact g2) hd (kk p e R s m args below meth c H locs cells slots n0 z0 ls ⟨hx, hb, hml, hown, hrt, hlk, hnm, htb, hts, hR, hG, hbs⟩ h1 h2 h3 h4 h5 h6)
theorem v_mabs {idx : Nat} {x : Int32} (c1 : Cond.methodLink y.cls idx Lib.Math.abs.name ∈ GT) (c2 : Cond.static Lib.Math.abs.name ∈ GT) (c3 : Cond.initialized "java/lang/Math" ∈ GT) (c4 : Cond.code Lib.Math.abs.name Lib.Math.abs.code 1 (some .int) ∈ GT) (hd : decode cc pc = .ok (.invokestatic idx, 3)) (hdd : 1 ≤ d) (hW : (st.map fun v => v.category).sum ≤ 8) (kk : zV G y cc nL ret d (pc + 3) lv (.int (if 0 ≤ x then x else 0 - x) :: st) h Q) : zV G y cc nL ret d pc lv (.int x :: st) h Q := fun p e R s m args below meth c H locs cells slots n0 z0 ls C h1 h2 h3 h4 h5 h6 => by
  obtain ⟨hx, hb, hml, hown, hrt, hlk, hnm, htb, hts, hR, hG, hbs⟩ := C
  obtain ⟨g1, g2⟩ := zroomle (d := d) h1 h2 h3
  exact va_mabs hx hb (hml.trans h6.1.symm) hown (hts _ c1) (hts _ c2) (hts _ c3) (hts _ c4) (by rw [hR]; exact hdd) (by rw [hR]; show _ + 13 ≤ 34 * d; omega) (by rw [hR]; exact g1) (by rw [hR]; exact g2) hd (kk p e R s m args below meth c H locs cells slots n0 z0 ls ⟨hx, hb, hml, hown, hrt, hlk, hnm, htb, hts, hR, hG, hbs⟩ h1 h2 h3 h4 h5 h6)
theorem v_copyI {idx a0 a N0 N1 : Nat} {f g : Nat → Int32} {sp dp n : Int32} (c1 : Cond.methodLink y.cls idx arraycopyName ∈ GT) (c2 : Cond.native arraycopyName ∈ GT) (c3 : Cond.static arraycopyName ∈ GT) (c4 : Cond.initialized "java/lang/System" ∈ GT) (hd : decode cc pc = .ok (.invokestatic idx, 3)) (ha0 : h.1 a0 = some (tg2, .inl (0, N0, .inl f))) (ha1 : h.1 a = some (tg, .inl (0, N1, .inl g))) (b1 : ¬ sp < 0) (b2 : ¬ dp < 0) (b3 : ¬ n < 0) (b4 : sp.toNatClampNeg + n.toNatClampNeg ≤ N0) (b5 : dp.toNatClampNeg + n.toNatClampNeg ≤ N1) (hdd : 1 ≤ d) (hW : (st.map fun v => v.category).sum ≤ 8)
    (kk : zV G y cc nL ret d (pc + 3) lv st (zup h.1 a (tg, .inl (0, N1, .inl (va_cpy f g sp.toNatClampNeg dp.toNatClampNeg n.toNatClampNeg))), h.2) Q) : zV G y cc nL ret d pc lv (.int n :: .int dp :: .ref a :: .int sp :: .ref a0 :: st) h Q := fun p e R s m args below meth c H locs cells slots n0 z0 ls C h1 h2 h3 h4 h5 h6 => by
  obtain ⟨hx, hb, hml, hown, hrt, hlk, hnm, htb, hts, hR, hG, hbs⟩ := C
  obtain ⟨ws, w1, w2, w3⟩ := h4
  obtain ⟨q0, hq0⟩ := w1 _ _ ha0
  obtain ⟨q1, hq1⟩ := w1 _ _ ha1
  have hnw : nativeFrameWords "java/lang/System" "arraycopy" 5 = 7 := by decide +kernel
  exact va_copyi (D := G.2.1) (cl := zCL) (ty := .int) hx hb (hml.trans h6.1.symm) hown (hts _ c1) (hts _ c2) (hts _ c3) (hts _ c4) hG.2.1 w2 w3 h5 q0 q1 0 0 hq0 hq1 rfl rfl rfl b1 b2 b3 b4 b5 (fun i _ => rfl) (by rw [hR]; exact hdd) (by rw [hR, hnw]; show _ + (7 + 11) ≤ 34 * d; omega) hd (fun H9 locs9 hP9 hD9 hS9 => kk p e R s m args below meth c H9 locs9 cells slots n0 z0 ls ⟨hx, hb, hml, hown, hrt, hlk, hnm, htb, hts, hR, hG, hbs⟩ h1 h2 h3 ⟨_, zR.put w1 hq1, hP9, hD9⟩ hS9 h6)
theorem v_rawBits {idx : Nat} {b : UInt64} (c1 : Cond.methodLink y.cls idx ⟨"java/lang/Double", "doubleToRawLongBits", "(D)J"⟩ ∈ GT) (c2 : Cond.native ⟨"java/lang/Double", "doubleToRawLongBits", "(D)J"⟩ ∈ GT) (c3 : Cond.static ⟨"java/lang/Double", "doubleToRawLongBits", "(D)J"⟩ ∈ GT) (c4 : Cond.initialized "java/lang/Double" ∈ GT) (hd : decode cc pc = .ok (.invokestatic idx, 3)) (hdd : 1 ≤ d) (hW : (st.map fun v => v.category).sum ≤ 8) (kk : zV G y cc nL ret d (pc + 3) lv (.long b.toInt64 :: st) h Q) : zV G y cc nL ret d pc lv (.double b :: st) h Q := fun p e R s m args below meth c H locs cells slots n0 z0 ls C h1 h2 h3 h4 h5 h6 => by
  obtain ⟨hx, hb, hml, hown, hrt, hlk, hnm, htb, hts, hR, hG, hbs⟩ := C
  exact vn_d2l hx hb (hml.trans h6.1.symm) hown (hts _ c1) (hts _ c2) (hts _ c3) (hts _ c4) (by rw [hR]; exact hdd) (by rw [hR]; show _ + 15 ≤ 34 * d; omega) hd (kk p e R s m args below meth c H locs cells slots n0 z0 ls ⟨hx, hb, hml, hown, hrt, hlk, hnm, htb, hts, hR, hG, hbs⟩ h1 h2 h3 h4 h5 h6)
abbrev zchain : List String := ["java/lang/RuntimeException", "java/lang/Exception"]
/-- the words of a throw: 'new', the constructor -/
def zTH (ik ic : Nat) (cls : String) : Prop :=
  cls ∈ zEXC ∧ Bundle.fit cls = true ∧ Cond.classLink "RingThreads" ik cls ∈ GT ∧ Cond.initialized cls ∈ GT ∧ (∀ w ∈ (vx_atS "RingThreads" ic cls zchain).filter goodWord, w ∈ GT) ∧ (∀ w ∈ (vx_atS "RingThreads" ic cls zchain).filter (fun w => !goodWord w), w ∈ [Cond.castable cls cls, .declares (Bundle.initS "java/lang/RuntimeException"), .declares (Bundle.initS "java/lang/Exception"), .declares (Bundle.initS "java/lang/Throwable")]) ∧ (∀ w ∈ Cond.classLink "RingThreads" ik cls :: Cond.initialized cls :: vx_atS "RingThreads" ic cls zchain, vx_ot w = true)
theorem zthrown {below : List Frame} {s : State} {args : Array Value} {H : Heap} {locs : List Loc} {cells slots n0 z0 : Nat} {cls : String} (hQ : Q (.inr cls) (h.1, h.2.1 + 1, h.2.2 + 6)) (hc1 : h.2.1 + 1 ≤ 50000) (hc2 : h.2.2 + 6 ≤ 400000) (h1 : h.2.1 = n0 + cells) (h2 : h.2.2 = z0 + slots) (h4 : zR G h.1 H) (h5 : va_S (zA G) s.heap H locs) :
    ∀ t, vx_MQ below (fun _ _ _ _ => False) (fun E s t => E = cls ∧ H.size ≤ t.heap.size ∧ ∀ q : Nat, q < H.size → t.heap[q]? = H[q]?) args s (cells + 1) (slots + 6) (zA G) t → vx_MQ below (zQ G Q n0 z0) (zX G Q n0 z0) args s (50000 * (d + 1)) (400000 * (d + 1)) (zA G) t := by
  rintro t ⟨o, a1, a2, ⟨a3, -⟩ | ⟨q2, rfl, E2, ce2, L2, ⟨rfl, d0, d1⟩, d2, d3, d4, d5, d6, d7⟩⟩
  · exact a3.elim
  · refine ⟨_, a1, a2, Or.inr ⟨q2, rfl, E2, ce2, L2, ⟨(h.1, h.2.1 + 1, h.2.2 + 6), cells + 1, slots + 6, L2, hQ, ?_, by show h.2.1 + 1 = _; omega, by show h.2.2 + 6 = _; omega, ⟨hc1, hc2⟩, d6, d7, ?_⟩, d2, d3, d4, d5, d6.mono (by omega) (by omega), d7⟩⟩
    · obtain ⟨ws, w1, w2, w3⟩ := h4
      exact ⟨ws, w1, w2.kept (fun k q hk => d1 q.1 (w2 k q hk).lt), w3⟩
    · exact ⟨Nat.le_trans h5.1 d0, fun q q1 q2 => (d1 q (Nat.lt_of_lt_of_le q1 h5.1)).trans (h5.2.1 q q1 q2)⟩
theorem v_throwS {ik is ic : Nat} {cls text : String} (hyc : y.cls = "RingThreads") (w : zTH ik ic cls) (hs : (is, text) ∈ zSTR) (d0 : decode cc pc = .ok (.new ik, 3)) (d3 : decode cc (pc + 3) = .ok (.dup, 1)) (d4 : decode cc (pc + 4) = .ok (.ldc is, 2)) (d6 : decode cc (pc + 6) = .ok (.invokespecial ic, 3)) (d9 : decode cc (pc + 9) = .ok (.athrow, 1)) (hdd : 6 ≤ d) (hW : (st.map fun v => v.category).sum ≤ 8) (hc1 : h.2.1 + 1 ≤ 50000) (hc2 : h.2.2 + 6 ≤ 400000)
    (hQ : Q (.inr cls) (h.1, h.2.1 + 1, h.2.2 + 6)) : zV G y cc nL ret d pc lv st h Q := fun p e R s m args below meth c H locs cells slots n0 z0 ls C h1 h2 h3 h4 h5 h6 => by
  obtain ⟨hx, hb, hml, hown, hrt, hlk, hnm, htb, hts, hR, hG, hbs⟩ := C
  obtain ⟨e1, e2, e3, e4, e5, e6, e7⟩ := w
  obtain ⟨sa, hsa⟩ := hG.2.2.2.2.2.2.1 _ hs
  refine W.mono (zthrown (h := h) hQ hc1 hc2 h1 h2 h4 h5) (vx_throwS (names := zchain) hx hb hG.1.1 (by rw [← hyc]; exact hown) e2 (by decide) (hts _ e3) (hts _ e4) hsa (vx_hat (fun w hw => hts _ (e5 w hw)) e6 (vx_c (va_Nw.use rfl (hG.2.2.2.2.2.2.2.2.2.1 _ e1)) (vx_c (va_Nw.use rfl (hG.2.2.2.2.2.2.2.2.2.2.2.1 _ (by decide))) (vx_c (va_Nw.use rfl (hG.2.2.2.2.2.2.2.2.2.2.2.1 _ (by decide))) (vx_c (va_Nw.use rfl (hG.2.2.2.2.2.2.2.2.2.2.2.1 _ (by decide))) vx_n))))) e7 hG.2.2.2.2.1 hG.2.2.2.2.2.1 h5 (h6.1.trans hml.symm) d0 d3 d4 d6 d9 (fun x hx => (htb x hx).elim) ?_ ?_ ?_ ?_ hlk (fun t _ z1 z2 => ⟨rfl, z1, z2⟩) h5.2.2 (Nat.le_refl _) (Nat.le_refl _))
  · rw [hR]; show 2 + 3 < d; omega
  · rw [hR]; show _ + (13 * (2 + 1) + 43) ≤ 34 * d; omega
  · rw [hR]; show cells + 1 ≤ 50000 * (d + 1); omega
  · rw [hR]; show slots + 6 ≤ 400000 * (d + 1); omega
theorem v_throwSW {ik is ic : Nat} {cls text : String} (hyc : y.cls = "RingThreads") (w : zTH ik ic cls) (hs : (is, text) ∈ zSTR) (d0 : decode cc pc = .ok (.new ik, 3)) (d3 : decode cc (pc + 3) = .ok (.dup, 1)) (d4 : decode cc (pc + 4) = .ok (.ldc_w is, 3)) (d7 : decode cc (pc + 7) = .ok (.invokespecial ic, 3)) (d10 : decode cc (pc + 10) = .ok (.athrow, 1)) (hdd : 6 ≤ d) (hW : (st.map fun v => v.category).sum ≤ 8) (hc1 : h.2.1 + 1 ≤ 50000) (hc2 : h.2.2 + 6 ≤ 400000)
    (hQ : Q (.inr cls) (h.1, h.2.1 + 1, h.2.2 + 6)) : zV G y cc nL ret d pc lv st h Q := fun p e R s m args below meth c H locs cells slots n0 z0 ls C h1 h2 h3 h4 h5 h6 => by
  obtain ⟨hx, hb, hml, hown, hrt, hlk, hnm, htb, hts, hR, hG, hbs⟩ := C
  obtain ⟨e1, e2, e3, e4, e5, e6, e7⟩ := w
  obtain ⟨sa, hsa⟩ := hG.2.2.2.2.2.2.1 _ hs
  refine W.mono (zthrown (h := h) hQ hc1 hc2 h1 h2 h4 h5) (vx_throwSW (names := zchain) hx hb hG.1.1 (by rw [← hyc]; exact hown) e2 (by decide) (hts _ e3) (hts _ e4) hsa (vx_hat (fun w hw => hts _ (e5 w hw)) e6 (vx_c (va_Nw.use rfl (hG.2.2.2.2.2.2.2.2.2.1 _ e1)) (vx_c (va_Nw.use rfl (hG.2.2.2.2.2.2.2.2.2.2.2.1 _ (by decide))) (vx_c (va_Nw.use rfl (hG.2.2.2.2.2.2.2.2.2.2.2.1 _ (by decide))) (vx_c (va_Nw.use rfl (hG.2.2.2.2.2.2.2.2.2.2.2.1 _ (by decide))) vx_n))))) e7 hG.2.2.2.2.1 hG.2.2.2.2.2.1 h5 (h6.1.trans hml.symm) d0 d3 d4 d7 d10 (fun x hx => (htb x hx).elim) ?_ ?_ ?_ ?_ hlk (fun t _ z1 z2 => ⟨rfl, z1, z2⟩) h5.2.2 (Nat.le_refl _) (Nat.le_refl _))
  · rw [hR]; show 2 + 3 < d; omega
  · rw [hR]; show _ + (13 * (2 + 1) + 43) ≤ 34 * d; omega
  · rw [hR]; show cells + 1 ≤ 50000 * (d + 1); omega
  · rw [hR]; show slots + 6 ≤ 400000 * (d + 1); omega
end ZCALL2
end
section
theorem GT_at {w : Cond} (k : Nat) (h : lw_tbl[k]? = some w) (hg : goodWord w = true) : w ∈ GT := GT_in (List.mem_of_getElem? h) hg
theorem zGTall {l : List Cond} (h : (l.all fun w => decide (w ∈ lw_tbl) && goodWord w) = true) : ∀ w ∈ l, w ∈ GT := fun w hw => by
  have h1 := List.all_eq_true.mp h w hw
  simp only [Bool.and_eq_true, decide_eq_true_eq] at h1
  exact GT_in h1.1 h1.2
theorem inX0 : ∀ w ∈ u_ws RX0 TX0 2, w ∈ GT := zGTall (by decide +kernel)
theorem inX1 : ∀ w ∈ u_ws RX1 TX1 19, w ∈ GT := zGTall (by decide +kernel)
theorem inX2 : ∀ w ∈ u_ws RX2 TX2 2, w ∈ GT := zGTall (by decide +kernel)
theorem inX3 : ∀ w ∈ u_ws RX3 TX3 7, w ∈ GT := zGTall (by decide +kernel)
theorem gi_X1_init : Cond.instanceMethod yX1_init ∈ GT := GT_at 47 (by decide +kernel) (by decide +kernel)
theorem gs_X3_stepOf : Cond.static yX3_stepOf ∈ GT := GT_at 412 (by decide +kernel) (by decide +kernel)
theorem gi_X3_save : Cond.instanceMethod yX3_save ∈ GT := GT_at 256 (by decide +kernel) (by decide +kernel)
theorem ge_X3_save : Cond.selects yX3_save.cls yX3_save yX3_save ∈ GT := GT_at 2 (by decide +kernel) (by decide +kernel)
theorem gi_X1_takeAllOff : Cond.instanceMethod yX1_takeAllOff ∈ GT := GT_at 416 (by decide +kernel) (by decide +kernel)
theorem ge_X1_takeAllOff : Cond.selects yX1_takeAllOff.cls yX1_takeAllOff yX1_takeAllOff ∈ GT := GT_at 417 (by decide +kernel) (by decide +kernel)
theorem gs_X3_needSpool : Cond.static yX3_needSpool ∈ GT := GT_at 365 (by decide +kernel) (by decide +kernel)
theorem gs_X3_needRange : Cond.static yX3_needRange ∈ GT := GT_at 153 (by decide +kernel) (by decide +kernel)
theorem gi_X1_chordsOf : Cond.instanceMethod yX1_chordsOf ∈ GT := GT_at 384 (by decide +kernel) (by decide +kernel)
theorem ge_X1_chordsOf : Cond.selects yX1_chordsOf.cls yX1_chordsOf yX1_chordsOf ∈ GT := GT_at 385 (by decide +kernel) (by decide +kernel)
theorem gs_X3_needSetting : Cond.static yX3_needSetting ∈ GT := GT_at 442 (by decide +kernel) (by decide +kernel)
theorem gi_X3_needNail : Cond.instanceMethod yX3_needNail ∈ GT := GT_at 493 (by decide +kernel) (by decide +kernel)
theorem ge_X3_needNail : Cond.selects yX3_needNail.cls yX3_needNail yX3_needNail ∈ GT := GT_at 4 (by decide +kernel) (by decide +kernel)
theorem gi_X1_refusal : Cond.instanceMethod yX1_refusal ∈ GT := GT_at 471 (by decide +kernel) (by decide +kernel)
theorem ge_X1_refusal : Cond.selects yX1_refusal.cls yX1_refusal yX1_refusal ∈ GT := GT_at 472 (by decide +kernel) (by decide +kernel)
theorem gi_X1_lay : Cond.instanceMethod yX1_lay ∈ GT := GT_at 484 (by decide +kernel) (by decide +kernel)
theorem ge_X1_lay : Cond.selects yX1_lay.cls yX1_lay yX1_lay ∈ GT := GT_at 485 (by decide +kernel) (by decide +kernel)
theorem gi_X1_takeOff : Cond.instanceMethod yX1_takeOff ∈ GT := GT_at 420 (by decide +kernel) (by decide +kernel)
theorem ge_X1_takeOff : Cond.selects yX1_takeOff.cls yX1_takeOff yX1_takeOff ∈ GT := GT_at 421 (by decide +kernel) (by decide +kernel)
theorem gi_X1_bestNail : Cond.instanceMethod yX1_bestNail ∈ GT := GT_at 467 (by decide +kernel) (by decide +kernel)
theorem ge_X1_bestNail : Cond.selects yX1_bestNail.cls yX1_bestNail yX1_bestNail ∈ GT := GT_at 468 (by decide +kernel) (by decide +kernel)
theorem gi_X1_gainTo : Cond.instanceMethod yX1_gainTo ∈ GT := GT_at 479 (by decide +kernel) (by decide +kernel)
theorem ge_X1_gainTo : Cond.selects yX1_gainTo.cls yX1_gainTo yX1_gainTo ∈ GT := GT_at 480 (by decide +kernel) (by decide +kernel)
theorem gs_X3_needSquare : Cond.static yX3_needSquare ∈ GT := GT_at 396 (by decide +kernel) (by decide +kernel)
theorem gi_X1_misfit : Cond.instanceMethod yX1_misfit ∈ GT := GT_at 268 (by decide +kernel) (by decide +kernel)
theorem ge_X1_misfit : Cond.selects yX1_misfit.cls yX1_misfit yX1_misfit ∈ GT := GT_at 269 (by decide +kernel) (by decide +kernel)
theorem gi_X3_copyTo : Cond.instanceMethod yX3_copyTo ∈ GT := GT_at 225 (by decide +kernel) (by decide +kernel)
theorem ge_X3_copyTo : Cond.selects yX3_copyTo.cls yX3_copyTo yX3_copyTo ∈ GT := GT_at 1 (by decide +kernel) (by decide +kernel)
theorem gi_X1_copyFrom : Cond.instanceMethod yX1_copyFrom ∈ GT := GT_at 228 (by decide +kernel) (by decide +kernel)
theorem ge_X1_copyFrom : Cond.selects yX1_copyFrom.cls yX1_copyFrom yX1_copyFrom ∈ GT := GT_at 229 (by decide +kernel) (by decide +kernel)
theorem gs_X0_xOf : Cond.static yX0_xOf ∈ GT := GT_at 316 (by decide +kernel) (by decide +kernel)
theorem gs_X0_yOf : Cond.static yX0_yOf ∈ GT := GT_at 321 (by decide +kernel) (by decide +kernel)
theorem gi_X1_endsAt : Cond.instanceMethod yX1_endsAt ∈ GT := GT_at 520 (by decide +kernel) (by decide +kernel)
theorem ge_X1_endsAt : Cond.selects yX1_endsAt.cls yX1_endsAt yX1_endsAt ∈ GT := GT_at 521 (by decide +kernel) (by decide +kernel)
theorem gi_X1_threadLying : Cond.instanceMethod yX1_threadLying ∈ GT := GT_at 349 (by decide +kernel) (by decide +kernel)
theorem ge_X1_threadLying : Cond.selects yX1_threadLying.cls yX1_threadLying yX1_threadLying ∈ GT := GT_at 350 (by decide +kernel) (by decide +kernel)
theorem gi_X1_lackOf : Cond.instanceMethod yX1_lackOf ∈ GT := GT_at 272 (by decide +kernel) (by decide +kernel)
theorem ge_X1_lackOf : Cond.selects yX1_lackOf.cls yX1_lackOf yX1_lackOf ∈ GT := GT_at 273 (by decide +kernel) (by decide +kernel)
theorem gi_X1_misfitByGains : Cond.instanceMethod yX1_misfitByGains ∈ GT := GT_at 279 (by decide +kernel) (by decide +kernel)
theorem ge_X1_misfitByGains : Cond.selects yX1_misfitByGains.cls yX1_misfitByGains yX1_misfitByGains ∈ GT := GT_at 280 (by decide +kernel) (by decide +kernel)
theorem gi_X1_squaresOfSign : Cond.instanceMethod yX1_squaresOfSign ∈ GT := GT_at 345 (by decide +kernel) (by decide +kernel)
theorem ge_X1_squaresOfSign : Cond.selects yX1_squaresOfSign.cls yX1_squaresOfSign yX1_squaresOfSign ∈ GT := GT_at 346 (by decide +kernel) (by decide +kernel)
theorem gs_J9_min_7cf53 : Cond.static yJ9_min_7cf53 ∈ GT := GT_at 290 (by decide +kernel) (by decide +kernel)
theorem gs_J9_max_7cf53 : Cond.static yJ9_max_7cf53 ∈ GT := GT_at 293 (by decide +kernel) (by decide +kernel)
theorem gs_J9_abs_0f7a4 : Cond.static yJ9_abs_0f7a4 ∈ GT := GT_at 276 (by decide +kernel) (by decide +kernel)
theorem gs_X0_rootOf : Cond.static yX0_rootOf ∈ GT := GT_at 326 (by decide +kernel) (by decide +kernel)
theorem gs_J7_copyOf_59c91 : Cond.static yJ7_copyOf_59c91 ∈ GT := GT_at 329 (by decide +kernel) (by decide +kernel)
theorem gi_X0_init : Cond.instanceMethod yX0_init ∈ GT := GT_at 298 (by decide +kernel) (by decide +kernel)
theorem gs_X0_pairOf : Cond.static yX0_pairOf ∈ GT := GT_at 287 (by decide +kernel) (by decide +kernel)
theorem gs_X0_trace : Cond.static yX0_trace ∈ GT := GT_at 313 (by decide +kernel) (by decide +kernel)
theorem gi_X1_timesLying : Cond.instanceMethod yX1_timesLying ∈ GT := GT_at 475 (by decide +kernel) (by decide +kernel)
theorem ge_X1_timesLying : Cond.selects yX1_timesLying.cls yX1_timesLying yX1_timesLying ∈ GT := GT_at 476 (by decide +kernel) (by decide +kernel)
theorem gi_X1_lineBetween : Cond.instanceMethod yX1_lineBetween ∈ GT := GT_at 283 (by decide +kernel) (by decide +kernel)
theorem ge_X1_lineBetween : Cond.selects yX1_lineBetween.cls yX1_lineBetween yX1_lineBetween ∈ GT := GT_at 284 (by decide +kernel) (by decide +kernel)
theorem gs_X1_relief : Cond.static yX1_relief ∈ GT := GT_at 342 (by decide +kernel) (by decide +kernel)
theorem gi_X1_putThread : Cond.instanceMethod yX1_putThread ∈ GT := GT_at 425 (by decide +kernel) (by decide +kernel)
theorem ge_X1_putThread : Cond.selects yX1_putThread.cls yX1_putThread yX1_putThread ∈ GT := GT_at 3 (by decide +kernel) (by decide +kernel)
theorem gi_X3_count : Cond.instanceMethod yX3_count ∈ GT := GT_at 264 (by decide +kernel) (by decide +kernel)
theorem ge_X3_count : Cond.selects yX3_count.cls yX3_count yX3_count ∈ GT := GT_at 265 (by decide +kernel) (by decide +kernel)
theorem gi_X3_spoolOf : Cond.instanceMethod yX3_spoolOf ∈ GT := GT_at 361 (by decide +kernel) (by decide +kernel)
theorem ge_X3_spoolOf : Cond.selects yX3_spoolOf.cls yX3_spoolOf yX3_spoolOf ∈ GT := GT_at 362 (by decide +kernel) (by decide +kernel)
theorem gi_X3_wound : Cond.instanceMethod yX3_wound ∈ GT := GT_at 388 (by decide +kernel) (by decide +kernel)
theorem ge_X3_wound : Cond.selects yX3_wound.cls yX3_wound yX3_wound ∈ GT := GT_at 389 (by decide +kernel) (by decide +kernel)
theorem gi_X3_square : Cond.instanceMethod yX3_square ∈ GT := GT_at 392 (by decide +kernel) (by decide +kernel)
theorem ge_X3_square : Cond.selects yX3_square.cls yX3_square yX3_square ∈ GT := GT_at 393 (by decide +kernel) (by decide +kernel)
theorem gs_L_low : Cond.static yL_low ∈ GT := GT_at 404 (by decide +kernel) (by decide +kernel)
theorem gi_X3_nails : Cond.instanceMethod yX3_nails ∈ GT := GT_at 408 (by decide +kernel) (by decide +kernel)
theorem ge_X3_nails : Cond.selects yX3_nails.cls yX3_nails yX3_nails ∈ GT := GT_at 409 (by decide +kernel) (by decide +kernel)
theorem gi_X3_spool : Cond.instanceMethod yX3_spool ∈ GT := GT_at 428 (by decide +kernel) (by decide +kernel)
theorem ge_X3_spool : Cond.selects yX3_spool.cls yX3_spool yX3_spool ∈ GT := GT_at 429 (by decide +kernel) (by decide +kernel)
theorem gi_X3_knot : Cond.instanceMethod yX3_knot ∈ GT := GT_at 433 (by decide +kernel) (by decide +kernel)
theorem ge_X3_knot : Cond.selects yX3_knot.cls yX3_knot yX3_knot ∈ GT := GT_at 434 (by decide +kernel) (by decide +kernel)
theorem gi_X3_set : Cond.instanceMethod yX3_set ∈ GT := GT_at 438 (by decide +kernel) (by decide +kernel)
theorem ge_X3_set : Cond.selects yX3_set.cls yX3_set yX3_set ∈ GT := GT_at 439 (by decide +kernel) (by decide +kernel)
theorem gi_X3_want : Cond.instanceMethod yX3_want ∈ GT := GT_at 448 (by decide +kernel) (by decide +kernel)
theorem ge_X3_want : Cond.selects yX3_want.cls yX3_want yX3_want ∈ GT := GT_at 449 (by decide +kernel) (by decide +kernel)
theorem gi_X3_turnFace : Cond.instanceMethod yX3_turnFace ∈ GT := GT_at 452 (by decide +kernel) (by decide +kernel)
theorem ge_X3_turnFace : Cond.selects yX3_turnFace.cls yX3_turnFace yX3_turnFace ∈ GT := GT_at 453 (by decide +kernel) (by decide +kernel)
theorem gi_X3_unwind : Cond.instanceMethod yX3_unwind ∈ GT := GT_at 457 (by decide +kernel) (by decide +kernel)
theorem ge_X3_unwind : Cond.selects yX3_unwind.cls yX3_unwind yX3_unwind ∈ GT := GT_at 458 (by decide +kernel) (by decide +kernel)
theorem gi_X3_windBest : Cond.instanceMethod yX3_windBest ∈ GT := GT_at 463 (by decide +kernel) (by decide +kernel)
theorem ge_X3_windBest : Cond.selects yX3_windBest.cls yX3_windBest yX3_windBest ∈ GT := GT_at 464 (by decide +kernel) (by decide +kernel)
theorem gi_X3_wind : Cond.instanceMethod yX3_wind ∈ GT := GT_at 488 (by decide +kernel) (by decide +kernel)
theorem ge_X3_wind : Cond.selects yX3_wind.cls yX3_wind yX3_wind ∈ GT := GT_at 489 (by decide +kernel) (by decide +kernel)
theorem gi_X3_setting : Cond.instanceMethod yX3_setting ∈ GT := GT_at 502 (by decide +kernel) (by decide +kernel)
theorem ge_X3_setting : Cond.selects yX3_setting.cls yX3_setting yX3_setting ∈ GT := GT_at 503 (by decide +kernel) (by decide +kernel)
theorem gi_X3_best : Cond.instanceMethod yX3_best ∈ GT := GT_at 506 (by decide +kernel) (by decide +kernel)
theorem ge_X3_best : Cond.selects yX3_best.cls yX3_best yX3_best ∈ GT := GT_at 507 (by decide +kernel) (by decide +kernel)
theorem gi_X3_whyNot : Cond.instanceMethod yX3_whyNot ∈ GT := GT_at 510 (by decide +kernel) (by decide +kernel)
theorem ge_X3_whyNot : Cond.selects yX3_whyNot.cls yX3_whyNot yX3_whyNot ∈ GT := GT_at 511 (by decide +kernel) (by decide +kernel)
theorem gi_X3_nailOf : Cond.instanceMethod yX3_nailOf ∈ GT := GT_at 514 (by decide +kernel) (by decide +kernel)
theorem ge_X3_nailOf : Cond.selects yX3_nailOf.cls yX3_nailOf yX3_nailOf ∈ GT := GT_at 515 (by decide +kernel) (by decide +kernel)
theorem gi_X3_gain : Cond.instanceMethod yX3_gain ∈ GT := GT_at 524 (by decide +kernel) (by decide +kernel)
theorem ge_X3_gain : Cond.selects yX3_gain.cls yX3_gain yX3_gain ∈ GT := GT_at 525 (by decide +kernel) (by decide +kernel)
theorem gi_X3_palest : Cond.instanceMethod yX3_palest ∈ GT := GT_at 528 (by decide +kernel) (by decide +kernel)
theorem ge_X3_palest : Cond.selects yX3_palest.cls yX3_palest yX3_palest ∈ GT := GT_at 529 (by decide +kernel) (by decide +kernel)
theorem gi_X3_init : Cond.instanceMethod yX3_init ∈ GT := GT_at 22 (by decide +kernel) (by decide +kernel)
theorem gs_L_told : Cond.static yL_told ∈ GT := GT_at 356 (by decide +kernel) (by decide +kernel)
theorem gi_X3_keep : Cond.instanceMethod yX3_keep ∈ GT := GT_at 149 (by decide +kernel) (by decide +kernel)
theorem ge_X3_keep : Cond.selects yX3_keep.cls yX3_keep yX3_keep ∈ GT := GT_at 150 (by decide +kernel) (by decide +kernel)
theorem gs_L_cell : Cond.static yL_cell ∈ GT := GT_at 353 (by decide +kernel) (by decide +kernel)
theorem gi_X3_undo : Cond.instanceMethod yX3_undo ∈ GT := GT_at 259 (by decide +kernel) (by decide +kernel)
theorem ge_X3_undo : Cond.selects yX3_undo.cls yX3_undo yX3_undo ∈ GT := GT_at 260 (by decide +kernel) (by decide +kernel)
theorem gs_L_act : Cond.static yL_act ∈ GT := GT_at 401 (by decide +kernel) (by decide +kernel)
theorem gs_L_holds : Cond.static yL_holds ∈ GT := GT_at 499 (by decide +kernel) (by decide +kernel)
theorem gi_X3_goBack : Cond.instanceMethod yX3_goBack ∈ GT := GT_at 235 (by decide +kernel) (by decide +kernel)
theorem ge_X3_goBack : Cond.selects yX3_goBack.cls yX3_goBack yX3_goBack ∈ GT := GT_at 236 (by decide +kernel) (by decide +kernel)
theorem fX3_9 : zFL RX3 9 3 2 (.array .int) true := ⟨RX3, TX3, 7, tyX3, rfl, inX3, by decide, GT_at 128 (by decide +kernel) (by decide +kernel), rfl, tyX3_ok, nmX3, rfl, by decide +kernel⟩
theorem fX3_16 : zFL RX3 16 3 3 (.object "RingThreads$Text") true := ⟨RX3, TX3, 7, tyX3, rfl, inX3, by decide, GT_at 129 (by decide +kernel) (by decide +kernel), rfl, tyX3_ok, nmX3, rfl, by decide +kernel⟩
theorem fX3_22 : zFL RX3 22 3 4 (.array (.object "RingThreads$Ring")) true := ⟨RX3, TX3, 7, tyX3, rfl, inX3, by decide, GT_at 130 (by decide +kernel) (by decide +kernel), rfl, tyX3_ok, nmX3, rfl, by decide +kernel⟩
theorem fX3_26 : zFL RX3 26 3 5 (.array (.object "RingThreads$Ring")) true := ⟨RX3, TX3, 7, tyX3, rfl, inX3, by decide, GT_at 131 (by decide +kernel) (by decide +kernel), rfl, tyX3_ok, nmX3, rfl, by decide +kernel⟩
theorem fX3_34 : zFL RX3 34 3 0 (.object "RingThreads$Ring") true := ⟨RX3, TX3, 7, tyX3, rfl, inX3, by decide, GT_at 126 (by decide +kernel) (by decide +kernel), rfl, tyX3_ok, nmX3, rfl, by decide +kernel⟩
theorem fX3_38 : zFL RX3 38 3 1 (.object "RingThreads$Ring") true := ⟨RX3, TX3, 7, tyX3, rfl, inX3, by decide, GT_at 127 (by decide +kernel) (by decide +kernel), rfl, tyX3_ok, nmX3, rfl, by decide +kernel⟩
theorem fX3_55 : zFL RX3 55 1 1 .int false := ⟨RX1, TX1, 19, tyX1, rfl, inX1, by decide, GT_at 53 (by decide +kernel) (by decide +kernel), rfl, tyX1_ok, nmX1, rfl, by decide +kernel⟩
theorem fX3_62 : zFL RX3 62 1 2 .int false := ⟨RX1, TX1, 19, tyX1, rfl, inX1, by decide, GT_at 55 (by decide +kernel) (by decide +kernel), rfl, tyX1_ok, nmX1, rfl, by decide +kernel⟩
theorem fX3_65 : zFL RX3 65 1 3 .int false := ⟨RX1, TX1, 19, tyX1, rfl, inX1, by decide, GT_at 57 (by decide +kernel) (by decide +kernel), rfl, tyX1_ok, nmX1, rfl, by decide +kernel⟩
theorem fX3_76 : zFL RX3 76 1 4 .int false := ⟨RX1, TX1, 19, tyX1, rfl, inX1, by decide, GT_at 59 (by decide +kernel) (by decide +kernel), rfl, tyX1_ok, nmX1, rfl, by decide +kernel⟩
theorem fX3_87 : zFL RX3 87 1 10 (.array .int) true := ⟨RX1, TX1, 19, tyX1, rfl, inX1, by decide, GT_at 71 (by decide +kernel) (by decide +kernel), rfl, tyX1_ok, nmX1, rfl, by decide +kernel⟩
theorem fX3_90 : zFL RX3 90 1 9 (.array .int) true := ⟨RX1, TX1, 19, tyX1, rfl, inX1, by decide, GT_at 69 (by decide +kernel) (by decide +kernel), rfl, tyX1_ok, nmX1, rfl, by decide +kernel⟩
theorem fX3_95 : zFL RX3 95 1 7 .int false := ⟨RX1, TX1, 19, tyX1, rfl, inX1, by decide, GT_at 65 (by decide +kernel) (by decide +kernel), rfl, tyX1_ok, nmX1, rfl, by decide +kernel⟩
theorem fX3_104 : zFL RX3 104 1 11 (.array .int) true := ⟨RX1, TX1, 19, tyX1, rfl, inX1, by decide, GT_at 73 (by decide +kernel) (by decide +kernel), rfl, tyX1_ok, nmX1, rfl, by decide +kernel⟩
theorem fX3_110 : zFL RX3 110 1 8 .int false := ⟨RX1, TX1, 19, tyX1, rfl, inX1, by decide, GT_at 67 (by decide +kernel) (by decide +kernel), rfl, tyX1_ok, nmX1, rfl, by decide +kernel⟩
theorem fX3_121 : zFL RX3 121 1 5 .int false := ⟨RX1, TX1, 19, tyX1, rfl, inX1, by decide, GT_at 61 (by decide +kernel) (by decide +kernel), rfl, tyX1_ok, nmX1, rfl, by decide +kernel⟩
theorem fX3_124 : zFL RX3 124 1 6 .int false := ⟨RX1, TX1, 19, tyX1, rfl, inX1, by decide, GT_at 63 (by decide +kernel) (by decide +kernel), rfl, tyX1_ok, nmX1, rfl, by decide +kernel⟩
theorem fX3_143 : zFL RX3 143 1 15 (.array .int) true := ⟨RX1, TX1, 19, tyX1, rfl, inX1, by decide, GT_at 81 (by decide +kernel) (by decide +kernel), rfl, tyX1_ok, nmX1, rfl, by decide +kernel⟩
theorem fX3_187 : zFL RX3 187 3 6 .int false := ⟨RX3, TX3, 7, tyX3, rfl, inX3, by decide, GT_at 132 (by decide +kernel) (by decide +kernel), rfl, tyX3_ok, nmX3, rfl, by decide +kernel⟩
theorem fX3_218 : zFL RX3 218 1 12 (.array .int) true := ⟨RX1, TX1, 19, tyX1, rfl, inX1, by decide, GT_at 75 (by decide +kernel) (by decide +kernel), rfl, tyX1_ok, nmX1, rfl, by decide +kernel⟩
theorem fX3_221 : zFL RX3 221 1 13 (.array .int) true := ⟨RX1, TX1, 19, tyX1, rfl, inX1, by decide, GT_at 77 (by decide +kernel) (by decide +kernel), rfl, tyX1_ok, nmX1, rfl, by decide +kernel⟩
theorem fX3_224 : zFL RX3 224 1 14 (.array .int) true := ⟨RX1, TX1, 19, tyX1, rfl, inX1, by decide, GT_at 79 (by decide +kernel) (by decide +kernel), rfl, tyX1_ok, nmX1, rfl, by decide +kernel⟩
theorem fX3_227 : zFL RX3 227 1 16 (.array .int) true := ⟨RX1, TX1, 19, tyX1, rfl, inX1, by decide, GT_at 83 (by decide +kernel) (by decide +kernel), rfl, tyX1_ok, nmX1, rfl, by decide +kernel⟩
theorem fX3_233 : zFL RX3 233 1 17 (.array .int) true := ⟨RX1, TX1, 19, tyX1, rfl, inX1, by decide, GT_at 85 (by decide +kernel) (by decide +kernel), rfl, tyX1_ok, nmX1, rfl, by decide +kernel⟩
theorem fX3_333 : zFL RX3 333 1 0 (.array (.object "RingThreads$Line")) true := ⟨RX1, TX1, 19, tyX1, rfl, inX1, by decide, GT_at 51 (by decide +kernel) (by decide +kernel), rfl, tyX1_ok, nmX1, rfl, by decide +kernel⟩
theorem fX0_9 : zFL RX0 9 0 0 .int true := ⟨RX0, TX0, 2, tyX0, rfl, inX0, by decide, GT_at 301 (by decide +kernel) (by decide +kernel), rfl, tyX0_ok, nmX0, rfl, by decide +kernel⟩
theorem fX0_15 : zFL RX0 15 0 1 (.array .int) true := ⟨RX0, TX0, 2, tyX0, rfl, inX0, by decide, GT_at 303 (by decide +kernel) (by decide +kernel), rfl, tyX0_ok, nmX0, rfl, by decide +kernel⟩
theorem fX1_9 : zFL RX1 9 1 1 .int false := ⟨RX1, TX1, 19, tyX1, rfl, inX1, by decide, GT_at 52 (by decide +kernel) (by decide +kernel), rfl, tyX1_ok, nmX1, rfl, by decide +kernel⟩
theorem fX1_15 : zFL RX1 15 1 2 .int false := ⟨RX1, TX1, 19, tyX1, rfl, inX1, by decide, GT_at 54 (by decide +kernel) (by decide +kernel), rfl, tyX1_ok, nmX1, rfl, by decide +kernel⟩
theorem fX1_18 : zFL RX1 18 1 9 (.array .int) true := ⟨RX1, TX1, 19, tyX1, rfl, inX1, by decide, GT_at 68 (by decide +kernel) (by decide +kernel), rfl, tyX1_ok, nmX1, rfl, by decide +kernel⟩
theorem fX1_22 : zFL RX1 22 1 10 (.array .int) true := ⟨RX1, TX1, 19, tyX1, rfl, inX1, by decide, GT_at 70 (by decide +kernel) (by decide +kernel), rfl, tyX1_ok, nmX1, rfl, by decide +kernel⟩
theorem fX1_25 : zFL RX1 25 1 11 (.array .int) true := ⟨RX1, TX1, 19, tyX1, rfl, inX1, by decide, GT_at 72 (by decide +kernel) (by decide +kernel), rfl, tyX1_ok, nmX1, rfl, by decide +kernel⟩
theorem fX1_28 : zFL RX1 28 1 12 (.array .int) true := ⟨RX1, TX1, 19, tyX1, rfl, inX1, by decide, GT_at 74 (by decide +kernel) (by decide +kernel), rfl, tyX1_ok, nmX1, rfl, by decide +kernel⟩
theorem fX1_31 : zFL RX1 31 1 13 (.array .int) true := ⟨RX1, TX1, 19, tyX1, rfl, inX1, by decide, GT_at 76 (by decide +kernel) (by decide +kernel), rfl, tyX1_ok, nmX1, rfl, by decide +kernel⟩
theorem fX1_34 : zFL RX1 34 1 14 (.array .int) true := ⟨RX1, TX1, 19, tyX1, rfl, inX1, by decide, GT_at 78 (by decide +kernel) (by decide +kernel), rfl, tyX1_ok, nmX1, rfl, by decide +kernel⟩
theorem fX1_37 : zFL RX1 37 1 15 (.array .int) true := ⟨RX1, TX1, 19, tyX1, rfl, inX1, by decide, GT_at 80 (by decide +kernel) (by decide +kernel), rfl, tyX1_ok, nmX1, rfl, by decide +kernel⟩
theorem fX1_40 : zFL RX1 40 1 16 (.array .int) true := ⟨RX1, TX1, 19, tyX1, rfl, inX1, by decide, GT_at 82 (by decide +kernel) (by decide +kernel), rfl, tyX1_ok, nmX1, rfl, by decide +kernel⟩
theorem fX1_43 : zFL RX1 43 1 17 (.array .int) true := ⟨RX1, TX1, 19, tyX1, rfl, inX1, by decide, GT_at 84 (by decide +kernel) (by decide +kernel), rfl, tyX1_ok, nmX1, rfl, by decide +kernel⟩
theorem fX1_46 : zFL RX1 46 1 18 (.array .int) true := ⟨RX1, TX1, 19, tyX1, rfl, inX1, by decide, GT_at 86 (by decide +kernel) (by decide +kernel), rfl, tyX1_ok, nmX1, rfl, by decide +kernel⟩
theorem fX1_49 : zFL RX1 49 1 0 (.array (.object "RingThreads$Line")) true := ⟨RX1, TX1, 19, tyX1, rfl, inX1, by decide, GT_at 50 (by decide +kernel) (by decide +kernel), rfl, tyX1_ok, nmX1, rfl, by decide +kernel⟩
theorem fX1_53 : zFL RX1 53 1 3 .int false := ⟨RX1, TX1, 19, tyX1, rfl, inX1, by decide, GT_at 56 (by decide +kernel) (by decide +kernel), rfl, tyX1_ok, nmX1, rfl, by decide +kernel⟩
theorem fX1_56 : zFL RX1 56 1 4 .int false := ⟨RX1, TX1, 19, tyX1, rfl, inX1, by decide, GT_at 58 (by decide +kernel) (by decide +kernel), rfl, tyX1_ok, nmX1, rfl, by decide +kernel⟩
theorem fX1_59 : zFL RX1 59 1 5 .int false := ⟨RX1, TX1, 19, tyX1, rfl, inX1, by decide, GT_at 60 (by decide +kernel) (by decide +kernel), rfl, tyX1_ok, nmX1, rfl, by decide +kernel⟩
theorem fX1_62 : zFL RX1 62 1 6 .int false := ⟨RX1, TX1, 19, tyX1, rfl, inX1, by decide, GT_at 62 (by decide +kernel) (by decide +kernel), rfl, tyX1_ok, nmX1, rfl, by decide +kernel⟩
theorem fX1_65 : zFL RX1 65 1 7 .int false := ⟨RX1, TX1, 19, tyX1, rfl, inX1, by decide, GT_at 64 (by decide +kernel) (by decide +kernel), rfl, tyX1_ok, nmX1, rfl, by decide +kernel⟩
theorem fX1_68 : zFL RX1 68 1 8 .int false := ⟨RX1, TX1, 19, tyX1, rfl, inX1, by decide, GT_at 66 (by decide +kernel) (by decide +kernel), rfl, tyX1_ok, nmX1, rfl, by decide +kernel⟩
theorem fX1_108 : zFL RX1 108 0 0 .int true := ⟨RX0, TX0, 2, tyX0, rfl, inX0, by decide, GT_at 302 (by decide +kernel) (by decide +kernel), rfl, tyX0_ok, nmX0, rfl, by decide +kernel⟩
theorem fX1_114 : zFL RX1 114 0 1 (.array .int) true := ⟨RX0, TX0, 2, tyX0, rfl, inX0, by decide, GT_at 304 (by decide +kernel) (by decide +kernel), rfl, tyX0_ok, nmX0, rfl, by decide +kernel⟩
theorem fX2_9 : zFL RX2 9 2 0 (.array .char) true := ⟨RX2, TX2, 2, tyX2, rfl, inX2, by decide, GT_at 33 (by decide +kernel) (by decide +kernel), rfl, tyX2_ok, nmX2, rfl, by decide +kernel⟩
theorem kX3_31 : zCS RX3 31 yX1_init cX1_init 2 none 1 := ⟨GT_at 46 (by decide +kernel) (by decide +kernel), GT_at 8 (by decide +kernel) (by decide +kernel), GT_at 48 (by decide +kernel) (by decide +kernel), by decide, by decide +kernel, by decide +kernel, by decide +kernel⟩
theorem kX3_41 : zCS RX3 41 yX3_stepOf cX3_stepOf 1 (some .int) 1 := ⟨GT_at 411 (by decide +kernel) (by decide +kernel), GT_at 6 (by decide +kernel) (by decide +kernel), GT_at 413 (by decide +kernel) (by decide +kernel), by decide, by decide +kernel, by decide +kernel, by decide +kernel⟩
theorem kX3_52 : zCS RX3 52 yX3_save cX3_save 3 none 0 := ⟨GT_at 254 (by decide +kernel) (by decide +kernel), GT_at 6 (by decide +kernel) (by decide +kernel), GT_at 257 (by decide +kernel) (by decide +kernel), by decide, by decide +kernel, by decide +kernel, by decide +kernel⟩
theorem kX3_59 : zCS RX3 59 yX1_takeAllOff cX1_takeAllOff 3 none 0 := ⟨GT_at 415 (by decide +kernel) (by decide +kernel), GT_at 8 (by decide +kernel) (by decide +kernel), GT_at 418 (by decide +kernel) (by decide +kernel), by decide, by decide +kernel, by decide +kernel, by decide +kernel⟩
theorem kX3_68 : zCS RX3 68 yX3_needSpool cX3_needSpool 1 none 1 := ⟨GT_at 364 (by decide +kernel) (by decide +kernel), GT_at 6 (by decide +kernel) (by decide +kernel), GT_at 366 (by decide +kernel) (by decide +kernel), by decide, by decide +kernel, by decide +kernel, by decide +kernel⟩
theorem kX3_72 : zCS RX3 72 yX3_needRange cX3_needRange 3 none 3 := ⟨GT_at 152 (by decide +kernel) (by decide +kernel), GT_at 6 (by decide +kernel) (by decide +kernel), GT_at 154 (by decide +kernel) (by decide +kernel), by decide, by decide +kernel, by decide +kernel, by decide +kernel⟩
theorem kX3_79 : zCS RX3 79 yX1_chordsOf cX1_chordsOf 4 (some .int) 1 := ⟨GT_at 383 (by decide +kernel) (by decide +kernel), GT_at 8 (by decide +kernel) (by decide +kernel), GT_at 386 (by decide +kernel) (by decide +kernel), by decide, by decide +kernel, by decide +kernel, by decide +kernel⟩
theorem kX3_98 : zCS RX3 98 yX3_needSetting cX3_needSetting 1 none 1 := ⟨GT_at 441 (by decide +kernel) (by decide +kernel), GT_at 6 (by decide +kernel) (by decide +kernel), GT_at 443 (by decide +kernel) (by decide +kernel), by decide, by decide +kernel, by decide +kernel, by decide +kernel⟩
theorem kX3_107 : zCS RX3 107 yX3_needNail cX3_needNail 2 none 1 := ⟨GT_at 491 (by decide +kernel) (by decide +kernel), GT_at 6 (by decide +kernel) (by decide +kernel), GT_at 494 (by decide +kernel) (by decide +kernel), by decide, by decide +kernel, by decide +kernel, by decide +kernel⟩
theorem kX3_115 : zCS RX3 115 yX1_refusal cX1_refusal 3 (some .int) 1 := ⟨GT_at 497 (by decide +kernel) (by decide +kernel), GT_at 8 (by decide +kernel) (by decide +kernel), GT_at 473 (by decide +kernel) (by decide +kernel), by decide, by decide +kernel, by decide +kernel, by decide +kernel⟩
theorem kX3_118 : zCS RX3 118 yX1_lay cX1_lay 2 none 1 := ⟨GT_at 483 (by decide +kernel) (by decide +kernel), GT_at 8 (by decide +kernel) (by decide +kernel), GT_at 486 (by decide +kernel) (by decide +kernel), by decide, by decide +kernel, by decide +kernel, by decide +kernel⟩
theorem kX3_129 : zCS RX3 129 yX1_takeOff cX1_takeOff 1 none 0 := ⟨GT_at 461 (by decide +kernel) (by decide +kernel), GT_at 8 (by decide +kernel) (by decide +kernel), GT_at 422 (by decide +kernel) (by decide +kernel), by decide, by decide +kernel, by decide +kernel, by decide +kernel⟩
theorem kX3_132 : zCS RX3 132 yX1_bestNail cX1_bestNail 10 (some .int) 0 := ⟨GT_at 466 (by decide +kernel) (by decide +kernel), GT_at 8 (by decide +kernel) (by decide +kernel), GT_at 469 (by decide +kernel) (by decide +kernel), by decide, by decide +kernel, by decide +kernel, by decide +kernel⟩
theorem kX3_136 : zCS RX3 136 yX1_gainTo cX1_gainTo 7 (some .int) 1 := ⟨GT_at 482 (by decide +kernel) (by decide +kernel), GT_at 8 (by decide +kernel) (by decide +kernel), GT_at 481 (by decide +kernel) (by decide +kernel), by decide, by decide +kernel, by decide +kernel, by decide +kernel⟩
theorem kX3_139 : zCS RX3 139 yX3_needSquare cX3_needSquare 2 none 2 := ⟨GT_at 395 (by decide +kernel) (by decide +kernel), GT_at 6 (by decide +kernel) (by decide +kernel), GT_at 397 (by decide +kernel) (by decide +kernel), by decide, by decide +kernel, by decide +kernel, by decide +kernel⟩
theorem kX3_152 : zCS RX3 152 yX1_misfit cX1_misfit 3 (some .int) 0 := ⟨GT_at 267 (by decide +kernel) (by decide +kernel), GT_at 8 (by decide +kernel) (by decide +kernel), GT_at 270 (by decide +kernel) (by decide +kernel), by decide, by decide +kernel, by decide +kernel, by decide +kernel⟩
theorem kX3_177 : zCS RX3 177 yX3_copyTo cX3_copyTo 4 none 2 := ⟨GT_at 223 (by decide +kernel) (by decide +kernel), GT_at 6 (by decide +kernel) (by decide +kernel), GT_at 226 (by decide +kernel) (by decide +kernel), by decide, by decide +kernel, by decide +kernel, by decide +kernel⟩
theorem kX3_183 : zCS RX3 183 yX1_copyFrom cX1_copyFrom 2 none 1 := ⟨GT_at 227 (by decide +kernel) (by decide +kernel), GT_at 8 (by decide +kernel) (by decide +kernel), GT_at 230 (by decide +kernel) (by decide +kernel), by decide, by decide +kernel, by decide +kernel, by decide +kernel⟩
theorem kX3_192 : zCS RX3 192 yX0_xOf cX0_xOf 1 (some .int) 1 := ⟨GT_at 517 (by decide +kernel) (by decide +kernel), GT_at 14 (by decide +kernel) (by decide +kernel), GT_at 317 (by decide +kernel) (by decide +kernel), by decide, by decide +kernel, by decide +kernel, by decide +kernel⟩
theorem kX3_195 : zCS RX3 195 yX0_yOf cX0_yOf 1 (some .int) 1 := ⟨GT_at 518 (by decide +kernel) (by decide +kernel), GT_at 14 (by decide +kernel) (by decide +kernel), GT_at 322 (by decide +kernel) (by decide +kernel), by decide, by decide +kernel, by decide +kernel, by decide +kernel⟩
theorem kX3_198 : zCS RX3 198 yX1_endsAt cX1_endsAt 4 (some .int) 1 := ⟨GT_at 519 (by decide +kernel) (by decide +kernel), GT_at 8 (by decide +kernel) (by decide +kernel), GT_at 522 (by decide +kernel) (by decide +kernel), by decide, by decide +kernel, by decide +kernel, by decide +kernel⟩
theorem kX3_201 : zCS RX3 201 yX1_threadLying cX1_threadLying 4 (some .int) 1 := ⟨GT_at 348 (by decide +kernel) (by decide +kernel), GT_at 8 (by decide +kernel) (by decide +kernel), GT_at 351 (by decide +kernel) (by decide +kernel), by decide, by decide +kernel, by decide +kernel, by decide +kernel⟩
theorem kX3_230 : zCS RX3 230 yX1_lackOf cX1_lackOf 2 (some .int) 1 := ⟨GT_at 399 (by decide +kernel) (by decide +kernel), GT_at 8 (by decide +kernel) (by decide +kernel), GT_at 274 (by decide +kernel) (by decide +kernel), by decide, by decide +kernel, by decide +kernel, by decide +kernel⟩
theorem kX3_236 : zCS RX3 236 yX1_misfitByGains cX1_misfitByGains 9 (some .int) 1 := ⟨GT_at 278 (by decide +kernel) (by decide +kernel), GT_at 8 (by decide +kernel) (by decide +kernel), GT_at 281 (by decide +kernel) (by decide +kernel), by decide, by decide +kernel, by decide +kernel, by decide +kernel⟩
theorem kX3_240 : zCS RX3 240 yX1_squaresOfSign cX1_squaresOfSign 5 (some .int) 1 := ⟨GT_at 344 (by decide +kernel) (by decide +kernel), GT_at 8 (by decide +kernel) (by decide +kernel), GT_at 347 (by decide +kernel) (by decide +kernel), by decide, by decide +kernel, by decide +kernel, by decide +kernel⟩
theorem kX0_22 : zCS RX0 22 yJ9_min_7cf53 cJ9_min_7cf53 2 (some .int) 2 := ⟨GT_at 289 (by decide +kernel) (by decide +kernel), GT_at 13 (by decide +kernel) (by decide +kernel), GT_at 291 (by decide +kernel) (by decide +kernel), by decide, by decide +kernel, by decide +kernel, by decide +kernel⟩
theorem kX0_28 : zCS RX0 28 yJ9_max_7cf53 cJ9_max_7cf53 2 (some .int) 2 := ⟨GT_at 292 (by decide +kernel) (by decide +kernel), GT_at 13 (by decide +kernel) (by decide +kernel), GT_at 294 (by decide +kernel) (by decide +kernel), by decide, by decide +kernel, by decide +kernel, by decide +kernel⟩
theorem kX0_31 : zCS RX0 31 yX0_xOf cX0_xOf 1 (some .int) 1 := ⟨GT_at 315 (by decide +kernel) (by decide +kernel), GT_at 14 (by decide +kernel) (by decide +kernel), GT_at 317 (by decide +kernel) (by decide +kernel), by decide, by decide +kernel, by decide +kernel, by decide +kernel⟩
theorem kX0_35 : zCS RX0 35 yX0_yOf cX0_yOf 1 (some .int) 1 := ⟨GT_at 320 (by decide +kernel) (by decide +kernel), GT_at 14 (by decide +kernel) (by decide +kernel), GT_at 322 (by decide +kernel) (by decide +kernel), by decide, by decide +kernel, by decide +kernel, by decide +kernel⟩
theorem kX0_38 : zCS RX0 38 yJ9_abs_0f7a4 cJ9_abs_0f7a4 1 (some .int) 1 := ⟨GT_at 323 (by decide +kernel) (by decide +kernel), GT_at 13 (by decide +kernel) (by decide +kernel), GT_at 277 (by decide +kernel) (by decide +kernel), by decide, by decide +kernel, by decide +kernel, by decide +kernel⟩
theorem kX0_41 : zCS RX0 41 yX0_rootOf cX0_rootOf 2 (some .int) 1 := ⟨GT_at 325 (by decide +kernel) (by decide +kernel), GT_at 14 (by decide +kernel) (by decide +kernel), GT_at 327 (by decide +kernel) (by decide +kernel), by decide, by decide +kernel, by decide +kernel, by decide +kernel⟩
theorem kX0_44 : zCS RX0 44 yJ7_copyOf_59c91 cJ7_copyOf_59c91 3 (some (.array .int)) 2 := ⟨GT_at 328 (by decide +kernel) (by decide +kernel), GT_at 15 (by decide +kernel) (by decide +kernel), GT_at 330 (by decide +kernel) (by decide +kernel), by decide, by decide +kernel, by decide +kernel, by decide +kernel⟩
theorem kX0_50 : zCS RX0 50 yX0_init cX0_init 3 none 2 := ⟨GT_at 340 (by decide +kernel) (by decide +kernel), GT_at 14 (by decide +kernel) (by decide +kernel), GT_at 299 (by decide +kernel) (by decide +kernel), by decide, by decide +kernel, by decide +kernel, by decide +kernel⟩
theorem kX1_77 : zCS RX1 77 yX0_pairOf cX0_pairOf 4 (some .int) 2 := ⟨GT_at 286 (by decide +kernel) (by decide +kernel), GT_at 14 (by decide +kernel) (by decide +kernel), GT_at 288 (by decide +kernel) (by decide +kernel), by decide, by decide +kernel, by decide +kernel, by decide +kernel⟩
theorem kX1_83 : zCS RX1 83 yX0_init cX0_init 3 none 2 := ⟨GT_at 297 (by decide +kernel) (by decide +kernel), GT_at 14 (by decide +kernel) (by decide +kernel), GT_at 299 (by decide +kernel) (by decide +kernel), by decide, by decide +kernel, by decide +kernel, by decide +kernel⟩
theorem kX1_86 : zCS RX1 86 yJ9_min_7cf53 cJ9_min_7cf53 2 (some .int) 2 := ⟨GT_at 310 (by decide +kernel) (by decide +kernel), GT_at 13 (by decide +kernel) (by decide +kernel), GT_at 291 (by decide +kernel) (by decide +kernel), by decide, by decide +kernel, by decide +kernel, by decide +kernel⟩
theorem kX1_91 : zCS RX1 91 yJ9_max_7cf53 cJ9_max_7cf53 2 (some .int) 2 := ⟨GT_at 311 (by decide +kernel) (by decide +kernel), GT_at 13 (by decide +kernel) (by decide +kernel), GT_at 294 (by decide +kernel) (by decide +kernel), by decide, by decide +kernel, by decide +kernel, by decide +kernel⟩
theorem kX1_94 : zCS RX1 94 yX0_trace cX0_trace 13 (some (.object "RingThreads$Line")) 2 := ⟨GT_at 312 (by decide +kernel) (by decide +kernel), GT_at 14 (by decide +kernel) (by decide +kernel), GT_at 314 (by decide +kernel) (by decide +kernel), by decide, by decide +kernel, by decide +kernel, by decide +kernel⟩
theorem kX1_98 : zCS RX1 98 yJ9_abs_0f7a4 cJ9_abs_0f7a4 1 (some .int) 1 := ⟨GT_at 275 (by decide +kernel) (by decide +kernel), GT_at 13 (by decide +kernel) (by decide +kernel), GT_at 277 (by decide +kernel) (by decide +kernel), by decide, by decide +kernel, by decide +kernel, by decide +kernel⟩
theorem kX1_102 : zCS RX1 102 yX1_timesLying cX1_timesLying 4 (some .int) 2 := ⟨GT_at 474 (by decide +kernel) (by decide +kernel), GT_at 8 (by decide +kernel) (by decide +kernel), GT_at 477 (by decide +kernel) (by decide +kernel), by decide, by decide +kernel, by decide +kernel, by decide +kernel⟩
theorem kX1_105 : zCS RX1 105 yX1_lineBetween cX1_lineBetween 5 (some (.object "RingThreads$Line")) 2 := ⟨GT_at 282 (by decide +kernel) (by decide +kernel), GT_at 8 (by decide +kernel) (by decide +kernel), GT_at 285 (by decide +kernel) (by decide +kernel), by decide, by decide +kernel, by decide +kernel, by decide +kernel⟩
theorem kX1_111 : zCS RX1 111 yX1_lackOf cX1_lackOf 2 (some .int) 1 := ⟨GT_at 271 (by decide +kernel) (by decide +kernel), GT_at 8 (by decide +kernel) (by decide +kernel), GT_at 274 (by decide +kernel) (by decide +kernel), by decide, by decide +kernel, by decide +kernel, by decide +kernel⟩
theorem kX1_117 : zCS RX1 117 yX1_relief cX1_relief 2 (some .int) 2 := ⟨GT_at 341 (by decide +kernel) (by decide +kernel), GT_at 8 (by decide +kernel) (by decide +kernel), GT_at 343 (by decide +kernel) (by decide +kernel), by decide, by decide +kernel, by decide +kernel, by decide +kernel⟩
theorem kX1_120 : zCS RX1 120 yX1_refusal cX1_refusal 3 (some .int) 1 := ⟨GT_at 470 (by decide +kernel) (by decide +kernel), GT_at 8 (by decide +kernel) (by decide +kernel), GT_at 473 (by decide +kernel) (by decide +kernel), by decide, by decide +kernel, by decide +kernel, by decide +kernel⟩
theorem kX1_123 : zCS RX1 123 yX1_gainTo cX1_gainTo 7 (some .int) 1 := ⟨GT_at 478 (by decide +kernel) (by decide +kernel), GT_at 8 (by decide +kernel) (by decide +kernel), GT_at 481 (by decide +kernel) (by decide +kernel), by decide, by decide +kernel, by decide +kernel, by decide +kernel⟩
theorem kX1_126 : zCS RX1 126 yX1_putThread cX1_putThread 10 none 2 := ⟨GT_at 423 (by decide +kernel) (by decide +kernel), GT_at 8 (by decide +kernel) (by decide +kernel), GT_at 426 (by decide +kernel) (by decide +kernel), by decide, by decide +kernel, by decide +kernel, by decide +kernel⟩
theorem kX1_130 : zCS RX1 130 yX1_takeOff cX1_takeOff 1 none 0 := ⟨GT_at 419 (by decide +kernel) (by decide +kernel), GT_at 8 (by decide +kernel) (by decide +kernel), GT_at 422 (by decide +kernel) (by decide +kernel), by decide, by decide +kernel, by decide +kernel, by decide +kernel⟩
theorem kL_12 : zCS RL 12 yX3_count cX3_count 2 (some .int) 1 := ⟨GT_at 263 (by decide +kernel) (by decide +kernel), GT_at 6 (by decide +kernel) (by decide +kernel), GT_at 266 (by decide +kernel) (by decide +kernel), by decide, by decide +kernel, by decide +kernel, by decide +kernel⟩
theorem kL_18 : zCS RL 18 yX3_spoolOf cX3_spoolOf 3 (some .int) 2 := ⟨GT_at 360 (by decide +kernel) (by decide +kernel), GT_at 6 (by decide +kernel) (by decide +kernel), GT_at 363 (by decide +kernel) (by decide +kernel), by decide, by decide +kernel, by decide +kernel, by decide +kernel⟩
theorem kL_22 : zCS RL 22 yX3_wound cX3_wound 4 (some .int) 2 := ⟨GT_at 387 (by decide +kernel) (by decide +kernel), GT_at 6 (by decide +kernel) (by decide +kernel), GT_at 390 (by decide +kernel) (by decide +kernel), by decide, by decide +kernel, by decide +kernel, by decide +kernel⟩
theorem kL_25 : zCS RL 25 yX3_square cX3_square 5 (some .int) 3 := ⟨GT_at 391 (by decide +kernel) (by decide +kernel), GT_at 6 (by decide +kernel) (by decide +kernel), GT_at 394 (by decide +kernel) (by decide +kernel), by decide, by decide +kernel, by decide +kernel, by decide +kernel⟩
theorem kL_29 : zCS RL 29 yL_low cL_low 2 (some .int) 2 := ⟨GT_at 403 (by decide +kernel) (by decide +kernel), GT_at 5 (by decide +kernel) (by decide +kernel), GT_at 405 (by decide +kernel) (by decide +kernel), by decide, by decide +kernel, by decide +kernel, by decide +kernel⟩
theorem kL_34 : zCS RL 34 yX3_nails cX3_nails 4 (some .int) 1 := ⟨GT_at 407 (by decide +kernel) (by decide +kernel), GT_at 6 (by decide +kernel) (by decide +kernel), GT_at 410 (by decide +kernel) (by decide +kernel), by decide, by decide +kernel, by decide +kernel, by decide +kernel⟩
theorem kL_37 : zCS RL 37 yX3_spool cX3_spool 5 (some .int) 3 := ⟨GT_at 427 (by decide +kernel) (by decide +kernel), GT_at 6 (by decide +kernel) (by decide +kernel), GT_at 430 (by decide +kernel) (by decide +kernel), by decide, by decide +kernel, by decide +kernel, by decide +kernel⟩
theorem kL_40 : zCS RL 40 yX3_knot cX3_knot 2 (some .int) 1 := ⟨GT_at 432 (by decide +kernel) (by decide +kernel), GT_at 6 (by decide +kernel) (by decide +kernel), GT_at 435 (by decide +kernel) (by decide +kernel), by decide, by decide +kernel, by decide +kernel, by decide +kernel⟩
theorem kL_43 : zCS RL 43 yX3_set cX3_set 4 (some .int) 2 := ⟨GT_at 437 (by decide +kernel) (by decide +kernel), GT_at 6 (by decide +kernel) (by decide +kernel), GT_at 440 (by decide +kernel) (by decide +kernel), by decide, by decide +kernel, by decide +kernel, by decide +kernel⟩
theorem kL_46 : zCS RL 46 yX3_want cX3_want 6 (some .int) 3 := ⟨GT_at 447 (by decide +kernel) (by decide +kernel), GT_at 6 (by decide +kernel) (by decide +kernel), GT_at 450 (by decide +kernel) (by decide +kernel), by decide, by decide +kernel, by decide +kernel, by decide +kernel⟩
theorem kL_49 : zCS RL 49 yX3_turnFace cX3_turnFace 5 (some .int) 1 := ⟨GT_at 451 (by decide +kernel) (by decide +kernel), GT_at 6 (by decide +kernel) (by decide +kernel), GT_at 454 (by decide +kernel) (by decide +kernel), by decide, by decide +kernel, by decide +kernel, by decide +kernel⟩
theorem kL_52 : zCS RL 52 yX3_unwind cX3_unwind 1 (some .int) 0 := ⟨GT_at 456 (by decide +kernel) (by decide +kernel), GT_at 6 (by decide +kernel) (by decide +kernel), GT_at 459 (by decide +kernel) (by decide +kernel), by decide, by decide +kernel, by decide +kernel, by decide +kernel⟩
theorem kL_56 : zCS RL 56 yX3_windBest cX3_windBest 4 (some .int) 1 := ⟨GT_at 462 (by decide +kernel) (by decide +kernel), GT_at 6 (by decide +kernel) (by decide +kernel), GT_at 465 (by decide +kernel) (by decide +kernel), by decide, by decide +kernel, by decide +kernel, by decide +kernel⟩
theorem kL_59 : zCS RL 59 yX3_wind cX3_wind 3 (some .int) 1 := ⟨GT_at 487 (by decide +kernel) (by decide +kernel), GT_at 6 (by decide +kernel) (by decide +kernel), GT_at 490 (by decide +kernel) (by decide +kernel), by decide, by decide +kernel, by decide +kernel, by decide +kernel⟩
theorem kL_62 : zCS RL 62 yX3_setting cX3_setting 2 (some .int) 1 := ⟨GT_at 501 (by decide +kernel) (by decide +kernel), GT_at 6 (by decide +kernel) (by decide +kernel), GT_at 504 (by decide +kernel) (by decide +kernel), by decide, by decide +kernel, by decide +kernel, by decide +kernel⟩
theorem kL_65 : zCS RL 65 yX3_best cX3_best 1 (some .int) 0 := ⟨GT_at 505 (by decide +kernel) (by decide +kernel), GT_at 6 (by decide +kernel) (by decide +kernel), GT_at 508 (by decide +kernel) (by decide +kernel), by decide, by decide +kernel, by decide +kernel, by decide +kernel⟩
theorem kL_68 : zCS RL 68 yX3_whyNot cX3_whyNot 2 (some .int) 1 := ⟨GT_at 509 (by decide +kernel) (by decide +kernel), GT_at 6 (by decide +kernel) (by decide +kernel), GT_at 512 (by decide +kernel) (by decide +kernel), by decide, by decide +kernel, by decide +kernel, by decide +kernel⟩
theorem kL_71 : zCS RL 71 yX3_nailOf cX3_nailOf 3 (some .int) 2 := ⟨GT_at 513 (by decide +kernel) (by decide +kernel), GT_at 6 (by decide +kernel) (by decide +kernel), GT_at 516 (by decide +kernel) (by decide +kernel), by decide, by decide +kernel, by decide +kernel, by decide +kernel⟩
theorem kL_74 : zCS RL 74 yX3_gain cX3_gain 2 (some .int) 1 := ⟨GT_at 523 (by decide +kernel) (by decide +kernel), GT_at 6 (by decide +kernel) (by decide +kernel), GT_at 526 (by decide +kernel) (by decide +kernel), by decide, by decide +kernel, by decide +kernel, by decide +kernel⟩
theorem kL_77 : zCS RL 77 yX3_palest cX3_palest 5 (some .int) 0 := ⟨GT_at 527 (by decide +kernel) (by decide +kernel), GT_at 6 (by decide +kernel) (by decide +kernel), GT_at 530 (by decide +kernel) (by decide +kernel), by decide, by decide +kernel, by decide +kernel, by decide +kernel⟩
theorem kL_80 : zCS RL 80 yX3_init cX3_init 2 none 0 := ⟨GT_at 21 (by decide +kernel) (by decide +kernel), GT_at 6 (by decide +kernel) (by decide +kernel), GT_at 23 (by decide +kernel) (by decide +kernel), by decide, by decide +kernel, by decide +kernel, by decide +kernel⟩
theorem kL_81 : zCS RL 81 yL_told cL_told 4 (some .long) 1 := ⟨GT_at 355 (by decide +kernel) (by decide +kernel), GT_at 5 (by decide +kernel) (by decide +kernel), GT_at 357 (by decide +kernel) (by decide +kernel), by decide, by decide +kernel, by decide +kernel, by decide +kernel⟩
theorem kL_85 : zCS RL 85 yX3_keep cX3_keep 2 (some .int) 1 := ⟨GT_at 148 (by decide +kernel) (by decide +kernel), GT_at 6 (by decide +kernel) (by decide +kernel), GT_at 151 (by decide +kernel) (by decide +kernel), by decide, by decide +kernel, by decide +kernel, by decide +kernel⟩
theorem kL_88 : zCS RL 88 yL_cell cL_cell 2 (some .int) 2 := ⟨GT_at 352 (by decide +kernel) (by decide +kernel), GT_at 5 (by decide +kernel) (by decide +kernel), GT_at 354 (by decide +kernel) (by decide +kernel), by decide, by decide +kernel, by decide +kernel, by decide +kernel⟩
theorem kL_92 : zCS RL 92 yX3_undo cX3_undo 2 (some .int) 0 := ⟨GT_at 258 (by decide +kernel) (by decide +kernel), GT_at 6 (by decide +kernel) (by decide +kernel), GT_at 261 (by decide +kernel) (by decide +kernel), by decide, by decide +kernel, by decide +kernel, by decide +kernel⟩
theorem kL_95 : zCS RL 95 yL_act cL_act 5 (some .int) 3 := ⟨GT_at 400 (by decide +kernel) (by decide +kernel), GT_at 5 (by decide +kernel) (by decide +kernel), GT_at 402 (by decide +kernel) (by decide +kernel), by decide, by decide +kernel, by decide +kernel, by decide +kernel⟩
theorem kL_99 : zCS RL 99 yL_holds cL_holds 10 (some .boolean) 1 := ⟨GT_at 498 (by decide +kernel) (by decide +kernel), GT_at 5 (by decide +kernel) (by decide +kernel), GT_at 500 (by decide +kernel) (by decide +kernel), by decide, by decide +kernel, by decide +kernel, by decide +kernel⟩
theorem kL_103 : zCS RL 103 yX3_goBack cX3_goBack 3 (some .int) 1 := ⟨GT_at 234 (by decide +kernel) (by decide +kernel), GT_at 6 (by decide +kernel) (by decide +kernel), GT_at 237 (by decide +kernel) (by decide +kernel), by decide, by decide +kernel, by decide +kernel, by decide +kernel⟩
theorem goI : Cond.instanceMethod objectInit ∈ GT := GT_in (by decide +kernel) (by decide +kernel)
theorem goC : Cond.code objectInit ⟨#[0xb1]⟩ 1 none ∈ GT := GT_in (by decide +kernel) (by decide +kernel)
theorem goLX3 : Cond.methodLink RX3 3 objectInit ∈ GT := GT_in (by decide +kernel) (by decide +kernel)
theorem goLX0 : Cond.methodLink RX0 3 objectInit ∈ GT := GT_in (by decide +kernel) (by decide +kernel)
theorem goLX1 : Cond.methodLink RX1 3 objectInit ∈ GT := GT_in (by decide +kernel) (by decide +kernel)
theorem goLX2 : Cond.methodLink RX2 3 objectInit ∈ GT := GT_in (by decide +kernel) (by decide +kernel)
theorem gcpX3 : Cond.methodLink RX3 146 arraycopyName ∈ GT := GT_in (by decide +kernel) (by decide +kernel)
theorem gcpX1 : Cond.methodLink RX1 71 arraycopyName ∈ GT := GT_in (by decide +kernel) (by decide +kernel)
theorem gcpN : Cond.native arraycopyName ∈ GT := GT_in (by decide +kernel) (by decide +kernel)
theorem gcpS : Cond.static arraycopyName ∈ GT := GT_in (by decide +kernel) (by decide +kernel)
theorem gcpI : Cond.initialized "java/lang/System" ∈ GT := GT_in (by decide +kernel) (by decide +kernel)
theorem gMath : Cond.initialized "java/lang/Math" ∈ GT := GT_in (by decide +kernel) (by decide +kernel)
theorem gA_int : Cond.arrayClass .int ∈ GT := GT_in (by decide +kernel) (by decide +kernel)
theorem gA_char : Cond.arrayClass .char ∈ GT := GT_in (by decide +kernel) (by decide +kernel)
theorem gClR : Cond.classLink RX3 20 "RingThreads$Ring" ∈ GT := GT_in (by decide +kernel) (by decide +kernel)
theorem gClL : Cond.classLink RX3 29 "RingThreads$Line" ∈ GT := GT_in (by decide +kernel) (by decide +kernel)
theorem gMS : Cond.fieldLink RX3 101 "RingThreads" "MOST_SETTING" "[I" ∈ GT := GT_in (by decide +kernel) (by decide +kernel)
theorem gLmax : Cond.constant RL 7 2147483647 ∈ GT := GT_in (by decide +kernel) (by decide +kernel)
theorem gL3 : Cond.constantLong RL 8 3 ∈ GT := GT_in (by decide +kernel) (by decide +kernel)
theorem gL31 : Cond.constantLong RL 10 31 ∈ GT := GT_in (by decide +kernel) (by decide +kernel)
theorem nX3_13 : zNL RX3 13 2 [.null, .int 0] 2 := ⟨RX2, TX2, tyX2, rfl, inX2, tyX2_ok, GT_in (by decide +kernel) (by decide +kernel), GT_in (by decide +kernel) (by decide +kernel), GT_in (by decide +kernel) (by decide +kernel), by decide +kernel⟩
theorem nX3_20 : zNL RX3 20 1 [.null, .int 0, .int 0, .int 0, .int 0, .int 0, .int 0, .int 0, .int 0, .null, .null, .null, .null, .null, .null, .null, .null, .null, .null] 19 := ⟨RX1, TX1, tyX1, rfl, inX1, tyX1_ok, GT_in (by decide +kernel) (by decide +kernel), GT_in (by decide +kernel) (by decide +kernel), GT_in (by decide +kernel) (by decide +kernel), by decide +kernel⟩
theorem nX0_10 : zNL RX0 10 0 [.int 0, .null] 2 := ⟨RX0, TX0, tyX0, rfl, inX0, tyX0_ok, GT_in (by decide +kernel) (by decide +kernel), GT_in (by decide +kernel) (by decide +kernel), GT_in (by decide +kernel) (by decide +kernel), by decide +kernel⟩
theorem nX1_78 : zNL RX1 78 0 [.int 0, .null] 2 := ⟨RX0, TX0, tyX0, rfl, inX0, tyX0_ok, GT_in (by decide +kernel) (by decide +kernel), GT_in (by decide +kernel) (by decide +kernel), GT_in (by decide +kernel) (by decide +kernel), by decide +kernel⟩
theorem nL_13 : zNL RL 13 3 [.null, .null, .null, .null, .null, .null, .int 0] 7 := ⟨RX3, TX3, tyX3, rfl, inX3, tyX3_ok, GT_in (by decide +kernel) (by decide +kernel), GT_in (by decide +kernel) (by decide +kernel), GT_in (by decide +kernel) (by decide +kernel), by decide +kernel⟩
theorem zth_45 : zTH 45 49 "java/lang/IllegalArgumentException" := ⟨by decide, by decide, GT_in (by decide +kernel) (by decide +kernel), GT_in (by decide +kernel) (by decide +kernel), zGTall (by decide +kernel), by decide +kernel, by decide +kernel⟩
theorem zth_82 : zTH 82 86 "java/lang/IllegalStateException" := ⟨by decide, by decide, GT_in (by decide +kernel) (by decide +kernel), GT_in (by decide +kernel) (by decide +kernel), zGTall (by decide +kernel), by decide +kernel, by decide +kernel⟩
theorem zth_322 : zTH 322 326 "java/lang/IndexOutOfBoundsException" := ⟨by decide, by decide, GT_in (by decide +kernel) (by decide +kernel), GT_in (by decide +kernel) (by decide +kernel), zGTall (by decide +kernel), by decide +kernel, by decide +kernel⟩
end
section
/-- one cell changed, under its tag -/
def zPut (f : zHM) (a : Nat) (e : zCE) (f' : zHM) : Prop := f' a = some e ∧ (∀ (b t : Nat) (c : (Nat × vp_A) ⊕ (Nat × List Value)), f b = some (t, c) → t ≠ e.1 → f' b = some (t, c)) ∧ ∀ b : Nat, b ≠ a → f' b = f b
/-- one cell more -/
def zNew (f : zHM) (a : Nat) (e : zCE) (f' : zHM) : Prop := f' a = some e ∧ f a = none ∧ ∀ (b : Nat) (x : zCE), f b = some x → f' b = some x
theorem zPut.of {f : zHM} {a t : Nat} {c c0 : (Nat × vp_A) ⊕ (Nat × List Value)} (ha : f a = some (t, c0)) : zPut f a (t, c) (zup f a (t, c)) := ⟨zup_at f a _, fun b t2 c2 hb ht => zup_get hb ha ht, fun b hb => zup_ne hb⟩
theorem zNew.of {f : zHM} {a : Nat} {e : zCE} (ha : f a = none) : zNew f a e (zup f a e) := ⟨zup_at f a _, ha, fun b x hb => zup_new hb ha⟩
theorem zPut.ne {f f' : zHM} {a b t t2 : Nat} {c c2 : (Nat × vp_A) ⊕ (Nat × List Value)} (h : zPut f a (t, c) f') (hb : f b = some (t2, c2)) (ht : t2 ≠ t) : f' b = some (t2, c2) := h.2.1 b t2 c2 hb ht
/-- a method's end: it returns this value (or nothing), and P holds of its heap; or it throws -/
def zD (w : Option Value) (P : zHM → Nat × Nat → Prop) : zOut → zH → Prop := fun o h => o = .inl w ∧ P h.1 h.2
def zDx (E : String) (P : zHM → Nat × Nat → Prop) : zOut → zH → Prop := fun o h => o = .inr E ∧ P h.1 h.2
/-- .. the heap as it was -/
abbrev zS (w : Value) (f : zHM) (m : Nat × Nat) : zOut → zH → Prop := zD (some w) (fun f' m' => f' = f ∧ m' = m)
/-- .. a reference made by the method itself -/
def zDr (P : Nat → zHM → Nat × Nat → Prop) : zOut → zH → Prop := fun o h => ∃ q : Nat, o = .inl (some (.ref q)) ∧ P q h.1 h.2
section ZCONV
variable {G : zW} {y : MethodName} {cc : ByteArray} {nL : Nat} {ret : Option FieldType} {d : Nat} {pc : Nat} {lv : List (Nat × Value)} {st : List Value} {f : zHM} {m : Nat × Nat} {Q : zOut → zH → Prop} {tg tg2 : Nat}
theorem v_iincC {i : Nat} {n : Int} {x : Int32} (c : Int32) (hd : decode cc pc = .ok (.iinc i n, 3)) (hl : zlk lv i = some (.int x)) (hc : Int32.ofInt n = c) (hn : i < nL) (k : zV G y cc nL ret d (pc + 3) (zst1 lv i (.int (x + c))) st (f, m) Q) : zV G y cc nL ret d pc lv st (f, m) Q := v_iinc (x + c) hd hl (by rw [hc]) hn k
theorem v_iincN {i : Nat} {j : Nat} (hd : decode cc pc = .ok (.iinc i 1, 3)) (hl : zlk lv i = some (.int (nI j))) (hn : i < nL) (k : zV G y cc nL ret d (pc + 3) (zst1 lv i (.int (nI (j + 1)))) st (f, m) Q) : zV G y cc nL ret d pc lv st (f, m) Q := v_iinc (nI (j + 1)) hd hl (by rw [← nI_1]; rfl) hn k
theorem v_putfieldX {idx ci k a : Nat} {ty : FieldType} {fs : List Value} {v : Value} (fl : zFL y.cls idx ci k ty false) (hd : decode cc pc = .ok (.putfield idx, 3)) (ha : f a = some (tg, .inr (ci, fs))) (hn : narrow ty v = v) (hf : fits ty v = true) (hl : k < fs.length) (kk : ∀ f', zPut f a (tg, .inr (ci, fs.set k v)) f' → zV G y cc nL ret d (pc + 3) lv st (f', m) Q) : zV G y cc nL ret d pc lv (v :: .ref a :: st) (f, m) Q := v_putfield (h := (f, m)) fl hd ha hn hf hl (kk _ (zPut.of ha))
theorem v_putfieldFX {idx ci k a : Nat} {ty : FieldType} {fs : List Value} {v : Value} (fl : zFL y.cls idx ci k ty true) (hin : y.name = "<init>") (hdc : zCL[ci]?.map (fun q => q.1) = some y.cls) (hd : decode cc pc = .ok (.putfield idx, 3)) (ha : f a = some (tg, .inr (ci, fs))) (hn : narrow ty v = v) (hf : fits ty v = true) (hl : k < fs.length) (kk : ∀ f', zPut f a (tg, .inr (ci, fs.set k v)) f' → zV G y cc nL ret d (pc + 3) lv st (f', m) Q) : zV G y cc nL ret d pc lv (v :: .ref a :: st) (f, m) Q := v_putfieldF (h := (f, m)) fl hin hdc hd ha hn hf hl (kk _ (zPut.of ha))
theorem v_iastoreX {a n : Nat} {g : Nat → Int32} {i : Int32} {x : Int32} (hd : decode cc pc = .ok (.iastore, 1)) (ha : f a = some (tg, .inl (0, n, .inl g))) (hin : vp_in i n) (kk : ∀ f', zPut f a (tg, .inl (0, n, .inl (upd g i.toNatClampNeg x))) f' → zV G y cc nL ret d (pc + 1) lv st (f', m) Q) : zV G y cc nL ret d pc lv (.int x :: .int i :: .ref a :: st) (f, m) Q := v_iastore (h := (f, m)) hd ha hin (kk _ (zPut.of ha))
theorem v_castoreX {a n : Nat} {g : Nat → Int32} {i : Int32} {x : Int32} (hd : decode cc pc = .ok (.castore, 1)) (ha : f a = some (tg, .inl (3, n, .inl g))) (hin : vp_in i n) (kk : ∀ f', zPut f a (tg, .inl (3, n, .inl (upd g i.toNatClampNeg (vp_nar .char x)))) f' → zV G y cc nL ret d (pc + 1) lv st (f', m) Q) : zV G y cc nL ret d pc lv (.int x :: .int i :: .ref a :: st) (f, m) Q := v_castore (h := (f, m)) hd ha hin (kk _ (zPut.of ha))
theorem v_aastoreLX {a n b : Nat} {vs : List Value} {g : Nat → Option Nat} {i : Int32} (hd : decode cc pc = .ok (.aastore, 1)) (ha : f a = some (tg, .inl (4, n, .inr (.inr (.inr (.inr g)))))) (hbv : f b = some (tg2, .inr (0, vs))) (hin : vp_in i n) (kk : ∀ f', zPut f a (tg, .inl (4, n, .inr (.inr (.inr (.inr (va_up g i.toNatClampNeg (some b))))))) f' → zV G y cc nL ret d (pc + 1) lv st (f', m) Q) : zV G y cc nL ret d pc lv (.ref b :: .int i :: .ref a :: st) (f, m) Q := v_aastoreL (h := (f, m)) hd ha hbv hin (kk _ (zPut.of ha))
theorem v_aastoreRX {a n b : Nat} {vs : List Value} {g : Nat → Option Nat} {i : Int32} (hd : decode cc pc = .ok (.aastore, 1)) (ha : f a = some (tg, .inl (5, n, .inr (.inr (.inr (.inr g)))))) (hbv : f b = some (tg2, .inr (1, vs))) (hin : vp_in i n) (kk : ∀ f', zPut f a (tg, .inl (5, n, .inr (.inr (.inr (.inr (va_up g i.toNatClampNeg (some b))))))) f' → zV G y cc nL ret d (pc + 1) lv st (f', m) Q) : zV G y cc nL ret d pc lv (.ref b :: .int i :: .ref a :: st) (f, m) Q := v_aastoreR (h := (f, m)) hd ha hbv hin (kk _ (zPut.of ha))
theorem v_aastoreRNX {a n : Nat} {g : Nat → Option Nat} {i : Int32} (hd : decode cc pc = .ok (.aastore, 1)) (ha : f a = some (tg, .inl (5, n, .inr (.inr (.inr (.inr g)))))) (hin : vp_in i n) (kk : ∀ f', zPut f a (tg, .inl (5, n, .inr (.inr (.inr (.inr (va_up g i.toNatClampNeg none)))))) f' → zV G y cc nL ret d (pc + 1) lv st (f', m) Q) : zV G y cc nL ret d pc lv (.null :: .int i :: .ref a :: st) (f, m) Q := v_aastoreRN (h := (f, m)) hd ha hin (kk _ (zPut.of ha))
theorem v_copyIX {idx a0 a N0 N1 : Nat} {g0 g : Nat → Int32} {sp dp n : Int32} (c1 : Cond.methodLink y.cls idx arraycopyName ∈ GT) (c2 : Cond.native arraycopyName ∈ GT) (c3 : Cond.static arraycopyName ∈ GT) (c4 : Cond.initialized "java/lang/System" ∈ GT) (hd : decode cc pc = .ok (.invokestatic idx, 3)) (ha0 : f a0 = some (tg2, .inl (0, N0, .inl g0))) (ha1 : f a = some (tg, .inl (0, N1, .inl g))) (b1 : ¬ sp < 0) (b2 : ¬ dp < 0) (b3 : ¬ n < 0) (b4 : sp.toNatClampNeg + n.toNatClampNeg ≤ N0) (b5 : dp.toNatClampNeg + n.toNatClampNeg ≤ N1) (hdd : 1 ≤ d) (hW : (st.map fun v => v.category).sum ≤ 8)
    (kk : ∀ f', zPut f a (tg, .inl (0, N1, .inl (va_cpy g0 g sp.toNatClampNeg dp.toNatClampNeg n.toNatClampNeg))) f' → zV G y cc nL ret d (pc + 3) lv st (f', m) Q) : zV G y cc nL ret d pc lv (.int n :: .int dp :: .ref a :: .int sp :: .ref a0 :: st) (f, m) Q := v_copyI (h := (f, m)) c1 c2 c3 c4 hd ha0 ha1 b1 b2 b3 b4 b5 hdd hW (kk _ (zPut.of ha1))
theorem v_alen {a i : Nat} {x : vp_A} (hd : decode cc pc = .ok (.arraylength, 1)) (ha : f a = some (tg, .inl (i, x))) (hi : i < 6) (kk : zV G y cc nL ret d (pc + 1) lv (.int (Int32.ofNat x.1) :: st) (f, m) Q) : zV G y cc nL ret d pc lv (.ref a :: st) (f, m) Q := v_arraylength (h := (f, m)) hi hd ha kk
theorem v_newX {idx ci n : Nat} (t : Nat) {fs : List Value} (fl : zNL y.cls idx ci fs n) (hd : decode cc pc = .ok (.new idx, 3)) (hc1 : m.1 + 1 ≤ 50000) (hc2 : m.2 + n ≤ 400000) (kk : ∀ (q : Nat) f', zNew f q (t, .inr (ci, fs)) f' → zV G y cc nL ret d (pc + 3) lv (.ref q :: st) (f', (m.1 + 1, m.2 + n)) Q) : zV G y cc nL ret d pc lv st (f, m) Q := v_new (h := (f, m)) (tg := t) fs fl hd hc1 hc2 (fun q hq => kk q _ (zNew.of hq))
theorem v_newIX {n : Int32} (t N : Nat) (hd : decode cc pc = .ok (.newarray .int, 2)) (hn : ¬ n < 0) (hN : n.toNatClampNeg = N) (hb8 : N ≤ 60000) (hc1 : m.1 + 1 ≤ 50000) (hc2 : m.2 + N ≤ 400000) (kk : ∀ (q : Nat) f', zNew f q (t, .inl (0, N, .inl (fun _ => 0))) f' → zV G y cc nL ret d (pc + 2) lv (.ref q :: st) (f', (m.1 + 1, m.2 + N)) Q) : zV G y cc nL ret d pc lv (.int n :: st) (f, m) Q := v_newI (h := (f, m)) (tg := t) hd gA_int hn hN hb8 hc1 hc2 (fun q hq => kk q _ (zNew.of hq))
theorem v_newCX {n : Int32} (t N : Nat) (hd : decode cc pc = .ok (.newarray .char, 2)) (hn : ¬ n < 0) (hN : n.toNatClampNeg = N) (hb8 : N ≤ 60000) (hc1 : m.1 + 1 ≤ 50000) (hc2 : m.2 + N ≤ 400000) (kk : ∀ (q : Nat) f', zNew f q (t, .inl (3, N, .inl (fun _ => 0))) f' → zV G y cc nL ret d (pc + 2) lv (.ref q :: st) (f', (m.1 + 1, m.2 + N)) Q) : zV G y cc nL ret d pc lv (.int n :: st) (f, m) Q := v_newC (h := (f, m)) (tg := t) hd gA_char hn hN hb8 hc1 hc2 (fun q hq => kk q _ (zNew.of hq))
theorem v_newLX {idx : Nat} {n : Int32} (t N : Nat) (hd : decode cc pc = .ok (.anewarray idx, 3)) (hw : Cond.classLink y.cls idx "RingThreads$Line" ∈ GT) (hn : ¬ n < 0) (hN : n.toNatClampNeg = N) (hb8 : N ≤ 60000) (hc1 : m.1 + 1 ≤ 50000) (hc2 : m.2 + N ≤ 400000) (kk : ∀ (q : Nat) f', zNew f q (t, .inl (4, N, .inr (.inr (.inr (.inr (fun _ => none)))))) f' → zV G y cc nL ret d (pc + 3) lv (.ref q :: st) (f', (m.1 + 1, m.2 + N)) Q) : zV G y cc nL ret d pc lv (.int n :: st) (f, m) Q := v_newL (h := (f, m)) (tg := t) hd hw hn hN hb8 hc1 hc2 (fun q hq => kk q _ (zNew.of hq))
theorem v_newRX {idx : Nat} {n : Int32} (t N : Nat) (hd : decode cc pc = .ok (.anewarray idx, 3)) (hw : Cond.classLink y.cls idx "RingThreads$Ring" ∈ GT) (hn : ¬ n < 0) (hN : n.toNatClampNeg = N) (hb8 : N ≤ 60000) (hc1 : m.1 + 1 ≤ 50000) (hc2 : m.2 + N ≤ 400000) (kk : ∀ (q : Nat) f', zNew f q (t, .inl (5, N, .inr (.inr (.inr (.inr (fun _ => none)))))) f' → zV G y cc nL ret d (pc + 3) lv (.ref q :: st) (f', (m.1 + 1, m.2 + N)) Q) : zV G y cc nL ret d pc lv (.int n :: st) (f, m) Q := v_newR (h := (f, m)) (tg := t) hd hw hn hN hb8 hc1 hc2 (fun q hq => kk q _ (zNew.of hq))
theorem v_callS1 {w : Value} {idx n d2 nL2 : Nat} {y2 : MethodName} {cc2 : ByteArray} {ret2 : Option FieldType} {as rest : List Value} {P : zHM → Nat × Nat → Prop} (hc : zCS y.cls idx y2 cc2 nL2 ret2 n) (hst : Cond.static y2 ∈ GT) (hd : decode cc pc = .ok (.invokestatic idx, 3)) (hM : zM G y2 cc2 nL2 ret2 d2 as (f, m) (zD (some w) P)) (hs : st = as.reverse ++ rest) (hn : as.length = n) (hdd : d2 + 1 ≤ d) (hW : (rest.map fun v => v.category).sum ≤ 8) (kr : ∀ f' m', P f' m' → zV G y cc nL ret d (pc + 3) lv (w :: rest) (f', m') Q) : zV G y cc nL ret d pc lv st (f, m) Q :=
  v_callS hc hst hd hM hs hn hdd hW (fun v h9 hq => by obtain ⟨e, hp⟩ := hq; cases e; exact kr h9.1 h9.2 hp) (fun E h9 hq => by cases hq.1)
theorem v_callV1 {b ci : Nat} {vs : List Value} {w : Value} {idx n d2 nL2 : Nat} {y2 : MethodName} {cc2 : ByteArray} {ret2 : Option FieldType} {as rest : List Value} {P : zHM → Nat × Nat → Prop} (hc : zCS y.cls idx y2 cc2 nL2 ret2 n) (hin : Cond.instanceMethod y2 ∈ GT) (hse : Cond.selects y2.cls y2 y2 ∈ GT) (hci : zCL[ci]?.map (fun q => q.1) = some y2.cls) (hd : decode cc pc = .ok (.invokevirtual idx, 3)) (hbv : f b = some (tg, .inr (ci, vs))) (hM : zM G y2 cc2 nL2 ret2 d2 (.ref b :: as) (f, m) (zD (some w) P)) (hs : st = as.reverse ++ .ref b :: rest) (hn : as.length = n) (hdd : d2 + 1 ≤ d) (hW : (rest.map fun v => v.category).sum ≤ 8) (kr : ∀ f' m', P f' m' → zV G y cc nL ret d (pc + 3) lv (w :: rest) (f', m') Q) : zV G y cc nL ret d pc lv st (f, m) Q :=
  v_callV (h := (f, m)) hc hin hse hci hd hbv hM hs hn hdd hW (fun v h9 hq => by obtain ⟨e, hp⟩ := hq; cases e; exact kr h9.1 h9.2 hp) (fun E h9 hq => by cases hq.1)
theorem v_callS0 {idx n d2 nL2 : Nat} {y2 : MethodName} {cc2 : ByteArray} {ret2 : Option FieldType} {as rest : List Value} {P : zHM → Nat × Nat → Prop} (hc : zCS y.cls idx y2 cc2 nL2 ret2 n) (hst : Cond.static y2 ∈ GT) (hd : decode cc pc = .ok (.invokestatic idx, 3)) (hM : zM G y2 cc2 nL2 ret2 d2 as (f, m) (zD none P)) (hs : st = as.reverse ++ rest) (hn : as.length = n) (hdd : d2 + 1 ≤ d) (hW : (rest.map fun v => v.category).sum ≤ 8) (kr : ∀ f' m', P f' m' → zV G y cc nL ret d (pc + 3) lv rest (f', m') Q) : zV G y cc nL ret d pc lv st (f, m) Q :=
  v_callS hc hst hd hM hs hn hdd hW (fun v h9 hq => by obtain ⟨e, hp⟩ := hq; cases e; exact kr h9.1 h9.2 hp) (fun E h9 hq => by cases hq.1)
theorem v_callV0 {b ci : Nat} {vs : List Value} {idx n d2 nL2 : Nat} {y2 : MethodName} {cc2 : ByteArray} {ret2 : Option FieldType} {as rest : List Value} {P : zHM → Nat × Nat → Prop} (hc : zCS y.cls idx y2 cc2 nL2 ret2 n) (hin : Cond.instanceMethod y2 ∈ GT) (hse : Cond.selects y2.cls y2 y2 ∈ GT) (hci : zCL[ci]?.map (fun q => q.1) = some y2.cls) (hd : decode cc pc = .ok (.invokevirtual idx, 3)) (hbv : f b = some (tg, .inr (ci, vs))) (hM : zM G y2 cc2 nL2 ret2 d2 (.ref b :: as) (f, m) (zD none P)) (hs : st = as.reverse ++ .ref b :: rest) (hn : as.length = n) (hdd : d2 + 1 ≤ d) (hW : (rest.map fun v => v.category).sum ≤ 8) (kr : ∀ f' m', P f' m' → zV G y cc nL ret d (pc + 3) lv rest (f', m') Q) : zV G y cc nL ret d pc lv st (f, m) Q :=
  v_callV (h := (f, m)) hc hin hse hci hd hbv hM hs hn hdd hW (fun v h9 hq => by obtain ⟨e, hp⟩ := hq; cases e; exact kr h9.1 h9.2 hp) (fun E h9 hq => by cases hq.1)
theorem v_callSr {idx n d2 nL2 : Nat} {y2 : MethodName} {cc2 : ByteArray} {ret2 : Option FieldType} {as rest : List Value} {P : Nat → zHM → Nat × Nat → Prop} (hc : zCS y.cls idx y2 cc2 nL2 ret2 n) (hst : Cond.static y2 ∈ GT) (hd : decode cc pc = .ok (.invokestatic idx, 3)) (hM : zM G y2 cc2 nL2 ret2 d2 as (f, m) (zDr P)) (hs : st = as.reverse ++ rest) (hn : as.length = n) (hdd : d2 + 1 ≤ d) (hW : (rest.map fun v => v.category).sum ≤ 8) (kr : ∀ q f' m', P q f' m' → zV G y cc nL ret d (pc + 3) lv (.ref q :: rest) (f', m') Q) : zV G y cc nL ret d pc lv st (f, m) Q :=
  v_callS hc hst hd hM hs hn hdd hW (fun v h9 hq => by obtain ⟨q, e, hp⟩ := hq; cases e; exact kr q h9.1 h9.2 hp) (fun E h9 hq => by obtain ⟨q, e, -⟩ := hq; cases e)
theorem v_callVr {b ci : Nat} {vs : List Value} {idx n d2 nL2 : Nat} {y2 : MethodName} {cc2 : ByteArray} {ret2 : Option FieldType} {as rest : List Value} {P : Nat → zHM → Nat × Nat → Prop} (hc : zCS y.cls idx y2 cc2 nL2 ret2 n) (hin : Cond.instanceMethod y2 ∈ GT) (hse : Cond.selects y2.cls y2 y2 ∈ GT) (hci : zCL[ci]?.map (fun q => q.1) = some y2.cls) (hd : decode cc pc = .ok (.invokevirtual idx, 3)) (hbv : f b = some (tg, .inr (ci, vs))) (hM : zM G y2 cc2 nL2 ret2 d2 (.ref b :: as) (f, m) (zDr P)) (hs : st = as.reverse ++ .ref b :: rest) (hn : as.length = n) (hdd : d2 + 1 ≤ d) (hW : (rest.map fun v => v.category).sum ≤ 8) (kr : ∀ q f' m', P q f' m' → zV G y cc nL ret d (pc + 3) lv (.ref q :: rest) (f', m') Q) : zV G y cc nL ret d pc lv st (f, m) Q :=
  v_callV (h := (f, m)) hc hin hse hci hd hbv hM hs hn hdd hW (fun v h9 hq => by obtain ⟨q, e, hp⟩ := hq; cases e; exact kr q h9.1 h9.2 hp) (fun E h9 hq => by obtain ⟨q, e, -⟩ := hq; cases e)
theorem v_callI0 {b : Nat} {idx n d2 nL2 : Nat} {y2 : MethodName} {cc2 : ByteArray} {as rest : List Value} {P : zHM → Nat × Nat → Prop} (hc : zCS y.cls idx y2 cc2 nL2 none n) (hin : Cond.instanceMethod y2 ∈ GT) (hy1 : y2.name = "<init>") (hd : decode cc pc = .ok (.invokespecial idx, 3)) (hM : zM G y2 cc2 nL2 none d2 (.ref b :: as) (f, m) (zD none P)) (hs : st = as.reverse ++ .ref b :: rest) (hn : as.length = n) (hdd : d2 + 1 ≤ d) (hW : (rest.map fun v => v.category).sum ≤ 8) (kr : ∀ f' m', P f' m' → zV G y cc nL ret d (pc + 3) lv rest (f', m') Q) : zV G y cc nL ret d pc lv st (f, m) Q :=
  v_callI hc hin hy1 hd hM (fun E h9 hq => by cases hq.1) hs hn hdd hW (fun v h9 hq => by obtain ⟨e, hp⟩ := hq; cases e; exact kr h9.1 h9.2 hp)
theorem v_callIN0 {b d2 nL2 : Nat} {cc2 : ByteArray} {rest : List Value} {P : zHM → Nat × Nat → Prop} (hyc : y.cls = "RingThreads") (c2 : Cond.initialized yX2_init.cls ∈ GT) (c3 : Cond.code yX2_init cc2 nL2 none ∈ GT) (c4 : nL2 ≤ 15) (hin : Cond.instanceMethod yX2_init ∈ GT) (hd : decode cc pc = .ok (.invokespecial 15, 3)) (hM : zM G yX2_init cc2 nL2 none d2 [.ref b] (f, m) (zD none P)) (hs : st = .ref b :: rest) (hdd : d2 + 1 ≤ d) (hW : (rest.map fun v => v.category).sum ≤ 8) (kr : ∀ f' m', P f' m' → zV G y cc nL ret d (pc + 3) lv rest (f', m') Q) : zV G y cc nL ret d pc lv st (f, m) Q :=
  v_callIN hyc c2 c3 c4 hin hd hM (fun E h9 hq => by cases hq.1) hs hdd hW (fun v h9 hq => by obtain ⟨e, hp⟩ := hq; cases e; exact kr h9.1 h9.2 hp)
/-- .. the heap as it was -/
theorem v_callSp {w : Value} {idx n d2 nL2 : Nat} {y2 : MethodName} {cc2 : ByteArray} {ret2 : Option FieldType} {as rest : List Value} (hc : zCS y.cls idx y2 cc2 nL2 ret2 n) (hst : Cond.static y2 ∈ GT) (hd : decode cc pc = .ok (.invokestatic idx, 3)) (hM : zM G y2 cc2 nL2 ret2 d2 as (f, m) (zS w f m)) (hs : st = as.reverse ++ rest) (hn : as.length = n) (hdd : d2 + 1 ≤ d) (hW : (rest.map fun v => v.category).sum ≤ 8) (kr : zV G y cc nL ret d (pc + 3) lv (w :: rest) (f, m) Q) : zV G y cc nL ret d pc lv st (f, m) Q :=
  v_callS1 hc hst hd hM hs hn hdd hW (fun f' m' h => by obtain ⟨rfl, rfl⟩ := h; exact kr)
theorem v_callVp {w : Value} {b ci : Nat} {vs : List Value} {idx n d2 nL2 : Nat} {y2 : MethodName} {cc2 : ByteArray} {ret2 : Option FieldType} {as rest : List Value} (hc : zCS y.cls idx y2 cc2 nL2 ret2 n) (hin : Cond.instanceMethod y2 ∈ GT) (hse : Cond.selects y2.cls y2 y2 ∈ GT) (hci : zCL[ci]?.map (fun q => q.1) = some y2.cls) (hd : decode cc pc = .ok (.invokevirtual idx, 3)) (hbv : f b = some (tg, .inr (ci, vs))) (hM : zM G y2 cc2 nL2 ret2 d2 (.ref b :: as) (f, m) (zS w f m)) (hs : st = as.reverse ++ .ref b :: rest) (hn : as.length = n) (hdd : d2 + 1 ≤ d) (hW : (rest.map fun v => v.category).sum ≤ 8) (kr : zV G y cc nL ret d (pc + 3) lv (w :: rest) (f, m) Q) : zV G y cc nL ret d pc lv st (f, m) Q :=
  v_callV1 hc hin hse hci hd hbv hM hs hn hdd hW (fun f' m' h => by obtain ⟨rfl, rfl⟩ := h; exact kr)
end ZCONV
end
section
/-! WHAT A RING'S STATE IS: ρ 0: numbers (0 nails, 1 the nail of now, 2 the spool of now, 3 wound, 4 refused, 5 knots), ρ 1 shades, ρ 2 thread left, ρ 3 settings, ρ 4, 5, 6 from, to, spool of the chords that lie, ρ 7 greys, ρ 8 darkness; n: how many chords lie. -/
abbrev zRS : Type := Nat → Nat → Int32
def ZA (f : zHM) (a t len val : Nat) (φ : Nat → Int32) : Prop := ∃ g, f a = some (t, .inl (0, len, .inl g)) ∧ ∀ i, i < val → g i = φ i
theorem ZA.ne {f f' : zHM} {a b t t2 len val : Nat} {c : (Nat × vp_A) ⊕ (Nat × List Value)} {φ : Nat → Int32} (h : zPut f a (t, c) f') (hb : ZA f b t2 len val φ) (ht : t2 ≠ t) : ZA f' b t2 len val φ := by
  obtain ⟨g, h1, h2⟩ := hb
  exact ⟨g, h.ne h1 ht, h2⟩
theorem ZA.congr {f : zHM} {a t len val : Nat} {φ ψ : Nat → Int32} (h : ZA f a t len val φ) (e : ∀ i, i < val → φ i = ψ i) : ZA f a t len val ψ := by
  obtain ⟨g, h1, h2⟩ := h
  exact ⟨g, h1, fun i hi => (h2 i hi).trans (e i hi)⟩
def sSum (F : Nat → Int32) : Nat → Int32
  | 0 => 0
  | n + 1 => sSum F n + F n
def sAbs (x : Int32) : Int32 := if 0 ≤ x then x else 0 - x
def sSgn (x : Int32) : Int32 := if 0 < x then 1 else if x < 0 then -1 else 0
def sLack (ρ : zRS) (q : Nat) : Int32 := ρ 7 q * ρ 3 2 - ρ 8 q
def sRel (l s : Int32) : Int32 := sAbs l - sAbs (l - s)
def sMisfit (ρ : zRS) : Int32 := sSum (fun q => sAbs (sLack ρ q)) 144
def sThat (ρ : zRS) (s : Int32) : Int32 := sSum (fun q => if sSgn (sLack ρ q) = s then 1 else 0) 144
theorem zlkE {lv : List (Nat × Value)} {i : Nat} {x y : Int32} (h : zlk lv i = some (.int x)) (e : x = y) : zlk lv i = some (.int y) := by rw [h, e]
def sPr (one other : Nat) : Nat := max one other * (max one other - 1) / 2 + min one other
/-- the places of a chord's nails: a nail times the step -/
def sStep (ρ : zRS) : Int32 := 24 / ρ 0 0
/-- how often a chord lies: by its pair of places -/
def sTm (ρ : zRS) (n : Nat) (p : Nat) : Int32 := sSum (fun c => if sPr ((ρ 4 c).toNatClampNeg * (sStep ρ).toNatClampNeg) ((ρ 5 c).toNatClampNeg * (sStep ρ).toNatClampNeg) = p then 1 else 0) n
/-- a ring in the heap: t its tag, la the row of lines, A its arrays, xs, tm: crossings and times -/
def RPic (f : zHM) (t r la : Nat) (A : Nat → Nat) (ρ : zRS) (n : Nat) (xs tm : Nat → Int32) : Prop :=
  f r = some (t, .inr (1, [.ref la, .int (ρ 0 0), .int (sStep ρ), .int (ρ 0 1), .int (ρ 0 2), .int (ρ 0 3), .int (ρ 0 4), .int (ρ 0 5), .int (nI n), .ref (A 0), .ref (A 1), .ref (A 2), .ref (A 3), .ref (A 4), .ref (A 5), .ref (A 6), .ref (A 7), .ref (A 8), .ref (A 9)])) ∧
  ZA f (A 0) (t + 1) 3 3 (ρ 1) ∧ ZA f (A 1) (t + 2) 3 3 (ρ 2) ∧ ZA f (A 2) (t + 3) 3 3 (ρ 3) ∧ ZA f (A 3) (t + 4) 201 n (ρ 4) ∧ ZA f (A 4) (t + 5) 201 n (ρ 5) ∧ ZA f (A 5) (t + 6) 201 n (ρ 6) ∧
  ZA f (A 6) (t + 7) 144 144 (ρ 7) ∧ ZA f (A 7) (t + 8) 144 144 (ρ 8) ∧ ZA f (A 8) (t + 9) 144 144 xs ∧ ZA f (A 9) (t + 10) 276 276 tm
/-- all but the cells of some tags is as it was -/
def zFr (T : Nat → Prop) (f f' : zHM) : Prop := ∀ (a t : Nat) (c : (Nat × vp_A) ⊕ (Nat × List Value)), f a = some (t, c) → ¬ T t → f' a = some (t, c)
theorem zFr.refl {T : Nat → Prop} {f : zHM} : zFr T f f := fun _ _ _ h _ => h
theorem zFr.trans {T : Nat → Prop} {f f' f2 : zHM} (h : zFr T f f') (h2 : zFr T f' f2) : zFr T f f2 := fun a t c q n => h2 a t c (h a t c q n) n
theorem zFr.put {T : Nat → Prop} {f f' f2 : zHM} {a : Nat} {e : zCE} (h : zFr T f f') (h2 : zPut f' a e f2) (ht : T e.1) : zFr T f f2 := fun b t c q n => h2.2.1 b t c (h b t c q n) (fun z => n (by rw [z]; exact ht))
theorem zFr.new {T : Nat → Prop} {f f' f2 : zHM} {a : Nat} {e : zCE} (h : zFr T f f') (h2 : zNew f' a e f2) : zFr T f f2 := fun b t c q n => h2.2.2 b _ (h b t c q n)
theorem zFr.weaken {T T' : Nat → Prop} {f f' : zHM} (h : zFr T f f') (ht : ∀ t, T t → T' t) : zFr T' f f' := fun a t c q n => h a t c q (fun z => n (ht t z))
theorem ZA.fr {T : Nat → Prop} {f f' : zHM} {b t2 len val : Nat} {φ : Nat → Int32} (h : zFr T f f') (hb : ZA f b t2 len val φ) (ht : ¬ T t2) : ZA f' b t2 len val φ := by
  obtain ⟨g, h1, h2⟩ := hb
  exact ⟨g, h _ _ _ h1 ht, h2⟩
theorem RPic.fr {T : Nat → Prop} {f f' : zHM} {t r la n : Nat} {A : Nat → Nat} {ρ : zRS} {xs tm : Nat → Int32} (h : zFr T f f') (hr : RPic f t r la A ρ n xs tm) (ht : ∀ k, k ≤ 10 → ¬ T (t + k)) : RPic f' t r la A ρ n xs tm := by
  obtain ⟨r0, r1, r2, r3, r4, r5, r6, r7, r8, r9, r10⟩ := hr
  exact ⟨h _ _ _ r0 (ht 0 (by omega)), r1.fr h (ht 1 (by omega)), r2.fr h (ht 2 (by omega)), r3.fr h (ht 3 (by omega)), r4.fr h (ht 4 (by omega)), r5.fr h (ht 5 (by omega)), r6.fr h (ht 6 (by omega)), r7.fr h (ht 7 (by omega)), r8.fr h (ht 8 (by omega)), r9.fr h (ht 9 (by omega)), r10.fr h (ht 10 (by omega))⟩
end
section
set_option maxRecDepth 10000 in
set_option maxHeartbeats 1000000 in
theorem c_relief {G : zW} {f : zHM} {m : Nat × Nat} {x s : Int32} : zM G yX1_relief cX1_relief 2 (some .int) 2 [.int x, .int s] (f, m) (zS (.int (sRel x s)) f m) := by
  refine zM.of (by decide) (Nat.le_of_ble_eq_true rfl) ?_
  refine v_iload_n dX1_relief_0 rfl rfl ?_
  refine v_mabs kX1_98.1 gs_J9_abs_0f7a4 kX1_98.2.1 kX1_98.2.2.1 dX1_relief_1 (by decide) (Nat.le_of_ble_eq_true rfl) ?_
  refine v_iload_n dX1_relief_4 rfl rfl ?_
  refine v_iload_n dX1_relief_5 rfl rfl ?_
  refine v_isub dX1_relief_6 ?_
  refine v_mabs kX1_98.1 gs_J9_abs_0f7a4 kX1_98.2.1 kX1_98.2.2.1 dX1_relief_7 (by decide) (Nat.le_of_ble_eq_true rfl) ?_
  refine v_isub dX1_relief_10 ?_
  exact v_ireturn dX1_relief_11 rfl ⟨rfl, rfl, rfl⟩
set_option maxRecDepth 10000 in
set_option maxHeartbeats 1000000 in
theorem c_lackOf {G : zW} {f : zHM} {m : Nat × Nat} {t r la n : Nat} {A : Nat → Nat} {ρ : zRS} {xs tm : Nat → Int32} (hr : RPic f t r la A ρ n xs tm) {q : Nat} (hq : q < 144) : zM G yX1_lackOf cX1_lackOf 2 (some .int) 1 [.ref r, .int (nI q)] (f, m) (zS (.int (sLack ρ q)) f m) := by
  refine zM.of (by decide) (Nat.le_of_ble_eq_true rfl) ?_
  obtain ⟨r0, ⟨g1, a1, e1⟩, ⟨g2, a2, e2⟩, ⟨g3, a3, e3⟩, ⟨g4, a4, e4⟩, ⟨g5, a5, e5⟩, ⟨g6, a6, e6⟩, ⟨g7, a7, e7⟩, ⟨g8, a8, e8⟩, ⟨g9, a9, e9⟩, ⟨g10, a10, e10⟩⟩ := hr
  refine v_aload_n dX1_lackOf_0 rfl rfl ?_
  refine v_getfield fX1_37 dX1_lackOf_1 (by assumption) (by rfl) ?_
  refine v_iload_n dX1_lackOf_4 rfl rfl ?_
  refine v_iaload dX1_lackOf_5 (by assumption) (vp_in_nI hq (by omega)) ?_
  refine v_aload_n dX1_lackOf_6 rfl rfl ?_
  refine v_getfield fX1_25 dX1_lackOf_7 (by assumption) (by rfl) ?_
  refine v_iconst (2) dX1_lackOf_10 (by decide) ?_
  refine v_iaload dX1_lackOf_11 (by assumption) (by unfold vp_in; decide) ?_
  refine v_imul dX1_lackOf_12 ?_
  refine v_aload_n dX1_lackOf_13 rfl rfl ?_
  refine v_getfield fX1_40 dX1_lackOf_14 (by assumption) (by rfl) ?_
  refine v_iload_n dX1_lackOf_17 rfl rfl ?_
  refine v_iaload dX1_lackOf_18 (by assumption) (vp_in_nI hq (by omega)) ?_
  refine v_isub dX1_lackOf_19 ?_
  exact v_ireturn dX1_lackOf_20 rfl ⟨by rw [nI_clamp (by omega), e7 q hq, e8 q hq]; rw [show g3 (Int32.toNatClampNeg 2) = ρ 3 2 from e3 2 (by omega)]; rfl, rfl, rfl⟩
set_option maxRecDepth 10000 in
set_option maxHeartbeats 1000000 in
theorem c_misfit {G : zW} {f : zHM} {m : Nat × Nat} {t r la n : Nat} {A : Nat → Nat} {ρ : zRS} {xs tm : Nat → Int32} (hr : RPic f t r la A ρ n xs tm) : zM G yX1_misfit cX1_misfit 3 (some .int) 2 [.ref r] (f, m) (zS (.int (sMisfit ρ)) f m) := by
  refine zM.of (by decide) (Nat.le_of_ble_eq_true rfl) ?_
  have r0 := hr.1
  have loop : ∀ (k i : Nat), i + k = 144 → zV G yX1_misfit cX1_misfit 3 (some .int) 2 4 [(0, .ref r), (1, .int (sSum (fun q => sAbs (sLack ρ q)) i)), (2, .int (nI i))] [] (f, m) (zS (.int (sMisfit ρ)) f m) := by
    intro k
    induction k with
    | zero =>
      intro i hi
      have hi : i = 144 := by omega
      subst hi
      refine v_iload_n dX1_misfit_4 rfl rfl ?_
      refine v_sipush (nI 144) dX1_misfit_5 (by decide) ?_
      refine v_icmp_ge 28 dX1_misfit_8 (by decide) (fun b8 => ?_) (fun b8 => ?_)
      · refine v_iload_n dX1_misfit_28 rfl rfl ?_
        exact v_ireturn dX1_misfit_29 rfl ⟨rfl, rfl, rfl⟩
      · exact absurd (nI_le (by omega) (by omega)) b8
    | succ k ih =>
      intro i hi
      have h9 : i < 144 := by omega
      refine v_iload_n dX1_misfit_4 rfl rfl ?_
      refine v_sipush (nI 144) dX1_misfit_5 (by decide) ?_
      refine v_icmp_ge 28 dX1_misfit_8 (by decide) (fun b8 => ?_) (fun b8 => ?_)
      · exact absurd b8 (nI_ge h9 (by omega))
      · refine v_iload_n dX1_misfit_11 rfl rfl ?_
        refine v_aload_n dX1_misfit_12 rfl rfl ?_
        refine v_iload_n dX1_misfit_13 rfl rfl ?_
        refine v_callVp kX1_111 gi_X1_lackOf ge_X1_lackOf rfl dX1_misfit_14 (by assumption) (c_lackOf hr h9) rfl rfl (by decide) (Nat.le_of_ble_eq_true rfl) ?_
        refine v_mabs kX1_98.1 gs_J9_abs_0f7a4 kX1_98.2.1 kX1_98.2.2.1 dX1_misfit_17 (by decide) (Nat.le_of_ble_eq_true rfl) ?_
        refine v_iadd dX1_misfit_20 ?_
        refine v_istore_n dX1_misfit_21 rfl (by decide) ?_
        refine v_iincN dX1_misfit_22 rfl (by decide) ?_
        refine v_goto 4 dX1_misfit_25 (by decide) ?_
        exact v_loc (lv' := [(0, .ref r), (1, .int (sSum (fun q => sAbs (sLack ρ q)) (i + 1))), (2, .int (nI (i + 1)))]) ⟨rfl, rfl, rfl, trivial⟩ (ih (i + 1) (by omega))
  refine v_iconst (0) dX1_misfit_0 (by decide) ?_
  refine v_istore_n dX1_misfit_1 rfl (by decide) ?_
  refine v_iconst (0) dX1_misfit_2 (by decide) ?_
  refine v_istore_n dX1_misfit_3 rfl (by decide) ?_
  exact v_loc (lv' := [(0, .ref r), (1, .int (sSum (fun q => sAbs (sLack ρ q)) 0)), (2, .int (nI 0))]) ⟨rfl, rfl, rfl, trivial⟩ (loop 144 0 rfl)
end
section
def sX (p : Nat) : Int32 := 60 + zAR.getD p 0
def sY (p : Nat) : Int32 := 60 + zAR.getD ((p + 18) % 24) 0
def sRtF : Nat → Nat → Nat → Nat
  | 0, r, _ => r
  | k + 1, r, v => if (r + 1) * (r + 1) ≤ v then sRtF k (r + 1) v else r
def sRt (v : Nat) : Nat := sRtF 240 0 v
theorem nI_min (a b : Nat) (ha : a < 2 ^ 31) (hb : b < 2 ^ 31) : (if nI b < nI a then nI b else nI a) = nI (min a b) := by
  by_cases h : b < a
  · rw [if_pos (nI_lt h ha), Nat.min_eq_right (by omega)]
  · rw [if_neg (nI_nlt (by omega) hb), Nat.min_eq_left (by omega)]
theorem nI_max (a b : Nat) (ha : a < 2 ^ 31) (hb : b < 2 ^ 31) : (if nI a < nI b then nI b else nI a) = nI (max a b) := by
  by_cases h : a < b
  · rw [if_pos (nI_lt h hb), Nat.max_eq_right (by omega)]
  · rw [if_neg (nI_nlt (by omega) ha), Nat.max_eq_left (by omega)]
theorem sPr_lt {a b : Nat} (ha : a < 24) (hb : b < 24) (hn : a ≠ b) : sPr a b < 276 := by
  have h : ∀ a, a < 24 → ∀ b, b < 24 → a ≠ b → sPr a b < 276 := by decide +kernel
  exact h a ha b hb hn
set_option maxRecDepth 10000 in
set_option maxHeartbeats 1000000 in
theorem c_xOf {G : zW} {f : zHM} {m : Nat × Nat} {p : Nat} (hp : p < 24) : zM G yX0_xOf cX0_xOf 1 (some .int) 1 [.int (nI p)] (f, m) (zS (.int (sX p)) f m) := by
  refine zM.of (by decide) (Nat.le_of_ble_eq_true rfl) ?_
  refine v_iload_n dX0_xOf_0 rfl rfl ?_
  refine v_if_lt 10 dX0_xOf_1 (by decide) (fun b1 => ?_) (fun b1 => ?_)
  · exact absurd b1 (nI_pos (by omega))
  · refine v_iload_n dX0_xOf_4 rfl rfl ?_
    refine v_bipush (nI 24) dX0_xOf_5 (by decide) ?_
    refine v_icmp_lt 15 dX0_xOf_7 (by decide) (fun b7 => ?_) (fun b7 => ?_)
    · refine v_bipush (60) dX0_xOf_15 (by decide) ?_
      refine v_getsA rfl dX0_xOf_17 ?_
      refine v_iload_n dX0_xOf_20 rfl rfl ?_
      refine v_ialoadA dX0_xOf_21 (vp_in_nI hp (by omega)) ?_
      rw [nI_clamp (by omega)]
      refine v_iadd dX0_xOf_22 ?_
      exact v_ireturn dX0_xOf_23 rfl ⟨rfl, rfl, rfl⟩
    · exact absurd (nI_lt hp (by omega)) b7
set_option maxRecDepth 10000 in
set_option maxHeartbeats 1000000 in
theorem c_yOf {G : zW} {f : zHM} {m : Nat × Nat} {p : Nat} (hp : p < 24) : zM G yX0_yOf cX0_yOf 1 (some .int) 1 [.int (nI p)] (f, m) (zS (.int (sY p)) f m) := by
  refine zM.of (by decide) (Nat.le_of_ble_eq_true rfl) ?_
  refine v_iload_n dX0_yOf_0 rfl rfl ?_
  refine v_if_lt 10 dX0_yOf_1 (by decide) (fun b1 => ?_) (fun b1 => ?_)
  · exact absurd b1 (nI_pos (by omega))
  · refine v_iload_n dX0_yOf_4 rfl rfl ?_
    refine v_bipush (nI 24) dX0_yOf_5 (by decide) ?_
    refine v_icmp_lt 15 dX0_yOf_7 (by decide) (fun b7 => ?_) (fun b7 => ?_)
    · refine v_bipush (60) dX0_yOf_15 (by decide) ?_
      refine v_getsA rfl dX0_yOf_17 ?_
      refine v_iload_n dX0_yOf_20 rfl rfl ?_
      refine v_bipush (nI 18) dX0_yOf_21 (by decide) ?_
      refine v_iadd dX0_yOf_23 ?_
      refine v_bipush (nI 24) dX0_yOf_24 (by decide) ?_
      refine v_irem dX0_yOf_26 (by decide) ?_
      rw [nI_add, pk_rem (by omega) (by omega) (by omega)]
      refine v_ialoadA dX0_yOf_27 (vp_in_nI (Nat.mod_lt _ (by omega)) (by omega)) ?_
      rw [nI_clamp (by omega)]
      refine v_iadd dX0_yOf_28 ?_
      exact v_ireturn dX0_yOf_29 rfl ⟨rfl, rfl, rfl⟩
    · exact absurd (nI_lt hp (by omega)) b7
set_option maxRecDepth 10000 in
set_option maxHeartbeats 1000000 in
theorem c_pairOf {G : zW} {f : zHM} {m : Nat × Nat} {a b : Nat} (ha : a < 24) (hb : b < 24) (hn : a ≠ b) : zM G yX0_pairOf cX0_pairOf 4 (some .int) 1 [.int (nI a), .int (nI b)] (f, m) (zS (.int (nI (sPr a b))) f m) := by
  refine zM.of (by decide) (Nat.le_of_ble_eq_true rfl) ?_
  refine v_iload_n dX0_pairOf_0 rfl rfl ?_
  refine v_iload_n dX0_pairOf_1 rfl rfl ?_
  refine v_mmin kX0_22.1 gs_J9_min_7cf53 kX0_22.2.1 kX0_22.2.2.1 dX0_pairOf_2 (by decide) (Nat.le_of_ble_eq_true rfl) ?_
  rw [nI_min a b (by omega) (by omega)]
  refine v_istore_n dX0_pairOf_5 rfl (by decide) ?_
  refine v_iload_n dX0_pairOf_6 rfl rfl ?_
  refine v_iload_n dX0_pairOf_7 rfl rfl ?_
  refine v_mmax kX0_28.1 gs_J9_max_7cf53 kX0_28.2.1 kX0_28.2.2.1 dX0_pairOf_8 (by decide) (Nat.le_of_ble_eq_true rfl) ?_
  rw [nI_max a b (by omega) (by omega)]
  refine v_istore_n dX0_pairOf_11 rfl (by decide) ?_
  refine v_iload_n dX0_pairOf_12 rfl rfl ?_
  refine v_if_lt 27 dX0_pairOf_13 (by decide) (fun b13 => ?_) (fun b13 => ?_)
  · exact absurd b13 (nI_pos (by omega))
  · refine v_iload_n dX0_pairOf_16 rfl rfl ?_
    refine v_iload_n dX0_pairOf_17 rfl rfl ?_
    refine v_icmp_eq 27 dX0_pairOf_18 (by decide) (fun b18 => ?_) (fun b18 => ?_)
    · exact absurd ((nI_eq (by omega) (by omega)).mp b18) (by omega)
    · refine v_iload_n dX0_pairOf_21 rfl rfl ?_
      refine v_bipush (nI 24) dX0_pairOf_22 (by decide) ?_
      refine v_icmp_lt 29 dX0_pairOf_24 (by decide) (fun b24 => ?_) (fun b24 => ?_)
      · refine v_iload_n dX0_pairOf_29 rfl rfl ?_
        refine v_iload_n dX0_pairOf_30 rfl rfl ?_
        refine v_iconst (nI 1) dX0_pairOf_31 (by decide) ?_
        refine v_isub dX0_pairOf_32 ?_
        refine v_imul dX0_pairOf_33 ?_
        refine v_iconst (nI 2) dX0_pairOf_34 (by decide) ?_
        refine v_idiv dX0_pairOf_35 (by decide) ?_
        refine v_iload_n dX0_pairOf_36 rfl rfl ?_
        refine v_iadd dX0_pairOf_37 ?_
        exact v_ireturn dX0_pairOf_38 rfl ⟨by rw [pk_sub (by omega), pk_mul, pk_div (by rw [show max a b * (max a b - 1) = max a b * (max a b - 1) from rfl]; exact Nat.lt_of_le_of_lt (Nat.mul_le_mul (Nat.max_le.mpr ⟨Nat.le_of_lt ha, Nat.le_of_lt hb⟩) (Nat.le_trans (Nat.sub_le _ 1) (Nat.max_le.mpr ⟨Nat.le_of_lt ha, Nat.le_of_lt hb⟩))) (by decide)) (by omega) (by omega), nI_add]; rfl, rfl, rfl⟩
      · exact absurd (nI_lt (by omega) (by omega)) b24
set_option maxRecDepth 10000 in
set_option maxHeartbeats 1000000 in
theorem c_rootOf {G : zW} {f : zHM} {m : Nat × Nat} {v : Nat} (hv : v < 2 ^ 31) : zM G yX0_rootOf cX0_rootOf 2 (some .int) 1 [.int (nI v)] (f, m) (zS (.int (nI (sRt v))) f m) := by
  refine zM.of (by decide) (Nat.le_of_ble_eq_true rfl) ?_
  have loop : ∀ (k r : Nat), r + k = 240 → sRtF k r v = sRt v → zV G yX0_rootOf cX0_rootOf 2 (some .int) 1 2 [(0, .int (nI v)), (1, .int (nI r))] [] (f, m) (zS (.int (nI (sRt v))) f m) := by
    intro k
    induction k with
    | zero =>
      intro r hr he
      have hr : r = 240 := by omega
      subst hr
      refine v_iload_n dX0_rootOf_2 rfl rfl ?_
      refine v_sipush (nI 240) dX0_rootOf_3 (by decide) ?_
      refine v_icmp_ge 26 dX0_rootOf_6 (by decide) (fun b6 => ?_) (fun b6 => ?_)
      · refine v_iload_n dX0_rootOf_26 rfl rfl ?_
        exact v_ireturn dX0_rootOf_27 rfl ⟨by rw [← he]; rfl, rfl, rfl⟩
      · exact absurd (nI_le (by omega) (by omega)) b6
    | succ k ih =>
      intro r hr he
      refine v_iload_n dX0_rootOf_2 rfl rfl ?_
      refine v_sipush (nI 240) dX0_rootOf_3 (by decide) ?_
      refine v_icmp_ge 26 dX0_rootOf_6 (by decide) (fun b6 => ?_) (fun b6 => ?_)
      · exact absurd b6 (nI_ge (by omega) (by omega))
      · refine v_iload_n dX0_rootOf_9 rfl rfl ?_
        refine v_iconst (nI 1) dX0_rootOf_10 (by decide) ?_
        refine v_iadd dX0_rootOf_11 ?_
        refine v_iload_n dX0_rootOf_12 rfl rfl ?_
        refine v_iconst (nI 1) dX0_rootOf_13 (by decide) ?_
        refine v_iadd dX0_rootOf_14 ?_
        refine v_imul dX0_rootOf_15 ?_
        refine v_iload_n dX0_rootOf_16 rfl rfl ?_
        rw [nI_add, pk_mul]
        have hsq : (r + 1) * (r + 1) < 2 ^ 31 := Nat.lt_of_le_of_lt (Nat.mul_le_mul (show r + 1 ≤ 241 by omega) (show r + 1 ≤ 241 by omega)) (by decide)
        refine v_icmp_gt 26 dX0_rootOf_17 (by decide) (fun b17 => ?_) (fun b17 => ?_)
        · have hc : ¬ (r + 1) * (r + 1) ≤ v := fun hc => absurd b17 (by rw [nI_ltI hv hsq]; omega)
          refine v_iload_n dX0_rootOf_26 rfl rfl ?_
          exact v_ireturn dX0_rootOf_27 rfl ⟨by rw [← he]; unfold sRtF; rw [if_neg hc], rfl, rfl⟩
        · have hc : (r + 1) * (r + 1) ≤ v := by
            refine Nat.not_lt.mp fun hc => b17 ?_
            rw [nI_ltI hv hsq]; exact hc
          refine v_iincN dX0_rootOf_20 rfl (by decide) ?_
          refine v_goto 2 dX0_rootOf_23 (by decide) ?_
          exact v_loc (lv' := [(0, .int (nI v)), (1, .int (nI (r + 1)))]) ⟨rfl, rfl, trivial⟩ (ih (r + 1) (by omega) (by rw [← he, sRtF, if_pos hc]))
  refine v_iconst (0) dX0_rootOf_0 (by decide) ?_
  refine v_istore_n dX0_rootOf_1 rfl (by decide) ?_
  exact v_loc (lv' := [(0, .int (nI v)), (1, .int (nI 0))]) ⟨rfl, rfl, trivial⟩ (loop 240 0 rfl rfl)
set_option maxRecDepth 10000 in
set_option maxHeartbeats 1000000 in
theorem c_Line_init {G : zW} {f : zHM} {m : Nat × Nat} {t q a : Nat} {x y : Value} {len : Int32} (r0 : f q = some (t, .inr (0, [x, y]))) : zM G yX0_init cX0_init 3 none 1 [.ref q, .int len, .ref a] (f, m) (zD none (fun f' m' => zPut f q (t, .inr (0, [.int len, .ref a])) f' ∧ m' = m)) := by
  refine zM.of (by decide) (Nat.le_of_ble_eq_true rfl) ?_
  refine v_aload_n dX0_init_0 rfl rfl ?_
  refine v_objInit goLX0 goI goC dX0_init_1 (by decide) (Nat.le_of_ble_eq_true rfl) ?_
  refine v_aload_n dX0_init_4 rfl rfl ?_
  refine v_iload_n dX0_init_5 rfl rfl ?_
  refine v_putfieldFX fX0_9 rfl rfl dX0_init_6 (by assumption) rfl rfl (Nat.le_of_ble_eq_true rfl) (fun f hp => ?_)
  have r0 := hp.1
  have hp1 := hp
  refine v_aload_n dX0_init_9 rfl rfl ?_
  refine v_aload_n dX0_init_10 rfl rfl ?_
  refine v_putfieldFX fX0_15 rfl rfl dX0_init_11 (by assumption) rfl rfl (Nat.le_of_ble_eq_true rfl) (fun f hp => ?_)
  have r0 := hp.1
  exact v_return dX0_init_14 rfl ⟨rfl, ⟨r0, fun b t2 c hb ht => by
    have h1 := hp1.ne hb ht
    exact hp.ne h1 ht, fun b hb => (hp.2.2 b hb).trans (hp1.2.2 b hb)⟩, rfl⟩
end
section
def sDX (lo hi : Nat) : Int32 := sX hi - sX lo
def sDY (lo hi : Nat) : Int32 := sY hi - sY lo
def sSt (lo hi : Nat) : Int32 := if sAbs (sDX lo hi) < sAbs (sDY lo hi) then sAbs (sDY lo hi) else sAbs (sDX lo hi)
def sN (lo hi : Nat) : Nat := (sSt lo hi).toNatClampNeg
def sXk (lo hi k : Nat) : Int32 := sX lo + sDX lo hi * nI k / nI (sN lo hi)
def sYk (lo hi k : Nat) : Int32 := sY lo + sDY lo hi * nI k / nI (sN lo hi)
def sEk (lo hi k : Nat) : Int32 := (if 11 < sYk lo hi k / 10 then 11 else sYk lo hi k / 10) * 12 + (if 11 < sXk lo hi k / 10 then 11 else sXk lo hi k / 10)
def sSq (lo hi k : Nat) : Nat := (sEk lo hi k).toNatClampNeg
def sQd (lo hi : Nat) : Nat := (sDX lo hi * sDX lo hi + sDY lo hi * sDY lo hi).toNatClampNeg
def sLen (lo hi : Nat) : Nat := sRt (sQd lo hi)
theorem sN_ok : ∀ hi, hi < 24 → ∀ lo, lo < hi → sSt lo hi = nI (sN lo hi) ∧ 1 ≤ sN lo hi ∧ sN lo hi ≤ 120 ∧ sDX lo hi * sDX lo hi + sDY lo hi * sDY lo hi = nI (sQd lo hi) ∧ sQd lo hi < 57600 := by decide +kernel
theorem sEk_ok : ∀ hi, hi < 24 → ∀ lo, lo < hi → ∀ k, k < sN lo hi + 1 → sEk lo hi k = nI (sSq lo hi k) ∧ sSq lo hi k < 144 := by decide +kernel
end
section
def sTr (lo hi : Nat) : Nat → List Nat
  | 0 => []
  | k + 1 => if ((sTr lo hi k).length ≠ 0 ∧ (sTr lo hi k).getD ((sTr lo hi k).length - 1) 0 = sSq lo hi k) ∨ 23 ≤ (sTr lo hi k).length then sTr lo hi k else sTr lo hi k ++ [sSq lo hi k]
def sPT (lo hi : Nat) : List Nat := sTr lo hi (sN lo hi + 1)
theorem sTr_le (lo hi : Nat) : ∀ k, (sTr lo hi k).length ≤ 23
  | 0 => by simp [sTr]
  | k + 1 => by
    unfold sTr
    have := sTr_le lo hi k
    split
    · exact this
    · rename_i h
      simp only [List.length_append, List.length_singleton]
      omega
theorem sPT_ok : ∀ hi, hi < 24 → ∀ lo, lo < hi → (sPT lo hi).length ≤ 19 ∧ (sPT lo hi).Nodup ∧ (∀ q ∈ sPT lo hi, q < 144) := by decide +kernel
end
section
def LineAt (f : zHM) (tl q lo hi : Nat) : Prop := ∃ (s : Nat) (g : Nat → Int32), f q = some (tl, .inr (0, [.int (nI (sLen lo hi)), .ref s])) ∧ f s = some (tl + 1, .inl (0, (sPT lo hi).length, .inl g)) ∧ ∀ i, i < (sPT lo hi).length → g i = nI ((sPT lo hi).getD i 0)
theorem gJ150 : Cond.methodLink RJ7 150 arraycopyName ∈ GT := GT_in (by decide +kernel) (by decide +kernel)
theorem gJ304 : Cond.methodLink RJ7 304 Lib.Math.min.name ∈ GT := GT_in (by decide +kernel) (by decide +kernel)
set_option maxRecDepth 10000 in
set_option maxHeartbeats 1000000 in
theorem c_copyOf {G : zW} {f : zHM} {m : Nat × Nat} {a t n0 k : Nat} {g : Nat → Int32} (tq : Nat) (ha : f a = some (t, .inl (0, n0, .inl g))) (hk : k < n0) (hn0 : n0 ≤ 50000) (hm1 : m.1 + 1 ≤ 50000) (hm2 : m.2 + k ≤ 400000) : zM G yJ7_copyOf_59c91 cJ7_copyOf_59c91 3 (some (.array .int)) 1 [.ref a, .int (nI k)] (f, m) (zDr (fun q f' m' => (∃ g', f' q = some (tq, .inl (0, k, .inl g')) ∧ ∀ i, i < k → g' i = g i) ∧ (∀ b x, f b = some x → f' b = some x) ∧ f q = none ∧ m' = (m.1 + 1, m.2 + k))) := by
  refine zM.of (by decide) (Nat.le_of_ble_eq_true rfl) ?_
  refine v_iload_n dJ7_copyOf_59c91_0 rfl rfl ?_
  refine v_aload_n dJ7_copyOf_59c91_1 rfl rfl ?_
  refine v_alen dJ7_copyOf_59c91_2 (by assumption) (by decide) ?_
  refine v_icmp_ne 14 dJ7_copyOf_59c91_3 (by decide) (fun b => ?_) (fun b => ?_)
  · refine v_iload_n dJ7_copyOf_59c91_14 rfl rfl ?_
    refine v_newIX tq k dJ7_copyOf_59c91_15 (nI_pos (by omega)) (nI_clamp (by omega)) (by omega) hm1 hm2 (fun q f9 hp => ?_)
    have ha9 := hp.2.2 _ _ ha
    have hq9 := hp.1
    refine v_astore_n dJ7_copyOf_59c91_17 rfl (by decide) ?_
    refine v_aload_n dJ7_copyOf_59c91_18 rfl rfl ?_
    refine v_iconst (nI 0) dJ7_copyOf_59c91_19 (by decide) ?_
    refine v_aload_n dJ7_copyOf_59c91_20 rfl rfl ?_
    refine v_iconst (nI 0) dJ7_copyOf_59c91_21 (by decide) ?_
    refine v_aload_n dJ7_copyOf_59c91_22 rfl rfl ?_
    refine v_alen dJ7_copyOf_59c91_23 (by assumption) (by decide) ?_
    refine v_iload_n dJ7_copyOf_59c91_24 rfl rfl ?_
    refine v_mmin gJ304 gs_J9_min_7cf53 kX1_86.2.1 kX1_86.2.2.1 dJ7_copyOf_59c91_25 (by decide) (Nat.le_of_ble_eq_true rfl) ?_
    rw [show (Int32.ofNat (n0, (Sum.inl g : (Nat → Int32) ⊕ (Nat → Int64) ⊕ (Nat → UInt32) ⊕ (Nat → UInt64) ⊕ (Nat → Option Nat))).1) = nI n0 from rfl, nI_min n0 k (by omega) (by omega), Nat.min_eq_right (Nat.le_of_lt hk)]
    refine v_copyIX gJ150 gcpN gcpS gcpI dJ7_copyOf_59c91_28 (by assumption) (by assumption) (nI_pos (by omega)) (nI_pos (by omega)) (nI_pos (by omega)) (by rw [nI_clamp (by omega), nI_clamp (by omega)]; omega) (by rw [nI_clamp (by omega), nI_clamp (by omega)]; omega) (by decide) (Nat.le_of_ble_eq_true rfl) (fun f8 hp8 => ?_)
    refine v_aload_n dJ7_copyOf_59c91_31 rfl rfl ?_
    refine v_areturn dJ7_copyOf_59c91_32 rfl (Or.inr ⟨_, rfl⟩) ⟨q, rfl, ⟨_, hp8.1, fun i hi => ?_⟩, fun b x hb => ?_, hp.2.1, rfl⟩
    · rw [nI_clamp (by omega), nI_clamp (by omega), pk_cpy_in (Nat.zero_le i) (by omega)]
      congr 1
      omega
    · exact (hp8.2.2 b (fun e => by rw [e, hp.2.1] at hb; cases hb)).trans (hp.2.2 b x hb)
  · exact absurd ((nI_eq (by omega) (by omega)).mp b) (by omega)
theorem sTr_lt {lo hi : Nat} (hlt : lo < hi) (hhi : hi < 24) : ∀ k, k ≤ sN lo hi + 1 → ∀ j, j < (sTr lo hi k).length → (sTr lo hi k).getD j 0 < 2 ^ 31
  | 0, _, j, hj => absurd hj (Nat.not_lt_zero j)
  | k + 1, hk, j, hj => by
    have ih := sTr_lt hlt hhi k (by omega)
    unfold sTr at hj ⊢
    split at hj
    · rename_i h; rw [if_pos h]; exact ih j hj
    · rename_i h
      rw [if_neg h]
      rw [List.length_append, List.length_singleton] at hj
      simp only [List.getD]
      by_cases hjl : j = (sTr lo hi k).length
      · have := (sEk_ok hi hhi lo hlt k (by omega)).2
        subst hjl
        simp
        omega
      · rw [List.getElem?_append_left (by omega)]
        exact ih j (by omega)
set_option maxRecDepth 10000 in
set_option maxHeartbeats 1000000 in
theorem c_trace {G : zW} {f : zHM} {m : Nat × Nat} (tl : Nat) {lo hi : Nat} (hlt : lo < hi) (hhi : hi < 24) (hm1 : m.1 + 3 ≤ 50000) (hm2 : m.2 + 48 ≤ 400000) : zM G yX0_trace cX0_trace 13 (some (.object "RingThreads$Line")) 2 [.int (nI lo), .int (nI hi)] (f, m) (zDr (fun q f' m' => LineAt f' tl q lo hi ∧ (∀ b x, f b = some x → f' b = some x) ∧ f q = none ∧ m'.1 = m.1 + 3 ∧ m'.2 ≤ m.2 + 44)) := by
  refine zM.of (by decide) (Nat.le_of_ble_eq_true rfl) ?_
  obtain ⟨hs1, hs2, hs3, hQ1, hQ2⟩ := sN_ok hi hhi lo hlt
  refine v_iload_n dX0_trace_0 rfl rfl ?_
  refine v_callSp kX0_31 gs_X0_xOf dX0_trace_1 (c_xOf (by omega)) rfl rfl (by decide) (Nat.le_of_ble_eq_true rfl) ?_
  refine v_istore_n dX0_trace_4 rfl (by decide) ?_
  refine v_iload_n dX0_trace_5 rfl rfl ?_
  refine v_callSp kX0_35 gs_X0_yOf dX0_trace_6 (c_yOf (by omega)) rfl rfl (by decide) (Nat.le_of_ble_eq_true rfl) ?_
  refine v_istore_n dX0_trace_9 rfl (by decide) ?_
  refine v_iload_n dX0_trace_10 rfl rfl ?_
  refine v_callSp kX0_31 gs_X0_xOf dX0_trace_11 (c_xOf (by omega)) rfl rfl (by decide) (Nat.le_of_ble_eq_true rfl) ?_
  refine v_iload_n dX0_trace_14 rfl rfl ?_
  refine v_isub dX0_trace_15 ?_
  refine v_istore dX0_trace_16 (by decide) ?_
  refine v_iload_n dX0_trace_18 rfl rfl ?_
  refine v_callSp kX0_35 gs_X0_yOf dX0_trace_19 (c_yOf (by omega)) rfl rfl (by decide) (Nat.le_of_ble_eq_true rfl) ?_
  refine v_iload_n dX0_trace_22 rfl rfl ?_
  refine v_isub dX0_trace_23 ?_
  refine v_istore dX0_trace_24 (by decide) ?_
  refine v_iload dX0_trace_26 rfl ?_
  refine v_mabs kX0_38.1 gs_J9_abs_0f7a4 kX0_38.2.1 kX0_38.2.2.1 dX0_trace_28 (by decide) (Nat.le_of_ble_eq_true rfl) ?_
  refine v_iload dX0_trace_31 rfl ?_
  refine v_mabs kX0_38.1 gs_J9_abs_0f7a4 kX0_38.2.1 kX0_38.2.2.1 dX0_trace_33 (by decide) (Nat.le_of_ble_eq_true rfl) ?_
  refine v_mmax kX0_28.1 gs_J9_max_7cf53 kX0_28.2.1 kX0_28.2.2.1 dX0_trace_36 (by decide) (Nat.le_of_ble_eq_true rfl) ?_
  refine v_istore dX0_trace_39 (by decide) ?_
  refine v_bipush (23) dX0_trace_41 (by decide) ?_
  refine v_newIX 900 23 dX0_trace_43 (by decide) (by decide) (by omega) (by omega) (by omega) (fun q f1 hpq => ?_)
  have hfq := hpq.2.1
  obtain ⟨m', hm'⟩ : ∃ z : Nat × Nat, z = (m.1 + 1, m.2 + 23) := ⟨_, rfl⟩
  rw [← hm']
  have loop : ∀ (k : Nat), ∀ (i : Nat), i + k = sN lo hi + 1 → ∀ (f1 : zHM) (g : Nat → Int32), f1 q = some (900, .inl (0, 23, .inl g)) → (∀ j, j < (sTr lo hi i).length → g j = nI ((sTr lo hi i).getD j 0)) → (∀ b x, f b = some x → f1 b = some x) → zV G yX0_trace cX0_trace 13 (some (.object "RingThreads$Line")) 2 53 [(0, .int (nI lo)), (1, .int (nI hi)), (2, .int (sX lo)), (3, .int (sY lo)), (4, .int (sDX lo hi)), (5, .int (sDY lo hi)), (6, .int (nI (sN lo hi))), (7, .ref q), (8, .int (nI (sTr lo hi i).length)), (9, .int (nI i))] [] (f1, m') (zDr (fun q f' m' => LineAt f' tl q lo hi ∧ (∀ b x, f b = some x → f' b = some x) ∧ f q = none ∧ m'.1 = m.1 + 3 ∧ m'.2 ≤ m.2 + 44)) := by
    intro k
    induction k with
    | zero =>
      intro i hi9 f1 g hg hgs hkeep
      have hi9 : i = sN lo hi + 1 := by omega
      subst hi9
      refine v_iload dX0_trace_53 rfl ?_
      refine v_iload dX0_trace_55 rfl ?_
      refine v_icmp_gt 155 dX0_trace_57 (by decide) (fun b57 => ?_) (fun b57 => ?_)
      · have hl9 := (sPT_ok hi hhi lo hlt).1
        have hrv : sTr lo hi (sN lo hi + 1) = sPT lo hi := rfl
        rw [hrv] at hgs ⊢
        refine v_newX tl nX0_10 dX0_trace_155 (by rw [hm']; show m.1 + 1 + 1 ≤ 50000; omega) (by rw [hm']; show m.2 + 23 + 2 ≤ 400000; omega) (fun q9 f9 hp9 => ?_)
        have hg9 := hp9.2.2 _ _ hg
        have hn9 := hp9.1
        refine v_dup dX0_trace_158 rfl ?_
        refine v_iload dX0_trace_159 rfl ?_
        refine v_iload dX0_trace_161 rfl ?_
        refine v_imul dX0_trace_163 ?_
        refine v_iload dX0_trace_164 rfl ?_
        refine v_iload dX0_trace_166 rfl ?_
        refine v_imul dX0_trace_168 ?_
        refine v_iadd dX0_trace_169 ?_
        rw [hQ1]
        refine v_callSp kX0_41 gs_X0_rootOf dX0_trace_170 (c_rootOf (by omega)) rfl rfl (by decide) (Nat.le_of_ble_eq_true rfl) ?_
        refine v_aload dX0_trace_173 rfl ?_
        refine v_iload dX0_trace_175 rfl ?_
        refine v_callSr kX0_44 gs_J7_copyOf_59c91 dX0_trace_177 (c_copyOf (tl + 1) hg9 (by omega) (by omega) (by rw [hm']; show m.1 + 1 + 1 + 1 ≤ 50000; omega) (by rw [hm']; show m.2 + 23 + 2 + _ ≤ 400000; omega)) rfl rfl (by decide) (Nat.le_of_ble_eq_true rfl) (fun s8 f8 m8 h8 => ?_)
        obtain ⟨⟨g8, hs8, hgs8⟩, hk8, hf8, rfl⟩ := h8
        have hn8 := hk8 _ _ hn9
        refine v_callI0 kX0_50 gi_X0_init rfl dX0_trace_180 (c_Line_init hn8) rfl rfl (by decide) (Nat.le_of_ble_eq_true rfl) (fun f7 m7 h7 => ?_)
        obtain ⟨hp7, rfl⟩ := h7
        have hne : s8 ≠ q9 := fun e => by rw [e, hn9] at hf8; cases hf8
        refine v_areturn dX0_trace_183 rfl (Or.inl ⟨_, rfl⟩) ⟨q9, rfl, ⟨s8, g8, hp7.1, (hp7.2.2 s8 hne).trans hs8, fun i hi => (hgs8 i hi).trans (hgs i hi)⟩, fun b x hb => ?_, ?_, ?_, ?_⟩
        · have hb2 := hkeep b x hb
          have hb3 := hp9.2.2 b x hb2
          have hb4 := hk8 b x hb3
          exact (hp7.2.2 b (fun e => by rw [e, hp9.2.1] at hb2; cases hb2)).trans hb4
        · cases hz : f q9 with
          | none => rfl
          | some x => have := hkeep q9 x hz; rw [hp9.2.1] at this; cases this
        · rw [hm']
        · rw [hm']; show m.2 + 23 + 2 + _ ≤ m.2 + 44; omega
      · exact absurd (nI_lt (by omega) (by omega)) b57
    | succ k ih =>
      intro i hi9 f1 g hg hgs hkeep
      have hE := sEk_ok hi hhi lo hlt i (by omega)
      have hall : ∀ j, j < (sTr lo hi i).length → (sTr lo hi i).getD j 0 < 2 ^ 31 := fun j hj => sTr_lt hlt hhi i (by omega) j hj
      have app : ¬ (((sTr lo hi i).length ≠ 0 ∧ (sTr lo hi i).getD ((sTr lo hi i).length - 1) 0 = sSq lo hi i) ∨ 23 ≤ (sTr lo hi i).length) → (∀ (i : Nat), i + k = sN lo hi + 1 → ∀ (f1 : zHM) (g : Nat → Int32), f1 q = some (900, .inl (0, 23, .inl g)) → (∀ j, j < (sTr lo hi i).length → g j = nI ((sTr lo hi i).getD j 0)) → (∀ b x, f b = some x → f1 b = some x) → zV G yX0_trace cX0_trace 13 (some (.object "RingThreads$Line")) 2 53 [(0, .int (nI lo)), (1, .int (nI hi)), (2, .int (sX lo)), (3, .int (sY lo)), (4, .int (sDX lo hi)), (5, .int (sDY lo hi)), (6, .int (nI (sN lo hi))), (7, .ref q), (8, .int (nI (sTr lo hi i).length)), (9, .int (nI i))] [] (f1, m') (zDr (fun q f' m' => LineAt f' tl q lo hi ∧ (∀ b x, f b = some x → f' b = some x) ∧ f q = none ∧ m'.1 = m.1 + 3 ∧ m'.2 ≤ m.2 + 44))) → zV G yX0_trace cX0_trace 13 (some (.object "RingThreads$Line")) 2 132 [(0, .int (nI lo)), (1, .int (nI hi)), (2, .int (sX lo)), (3, .int (sY lo)), (4, .int (sDX lo hi)), (5, .int (sDY lo hi)), (6, .int (nI (sN lo hi))), (7, .ref q), (8, .int (nI (sTr lo hi i).length)), (9, .int (nI i)), (12, .int (nI (sSq lo hi i)))] [] (f1, m') (zDr (fun q f' m' => LineAt f' tl q lo hi ∧ (∀ b x, f b = some x → f' b = some x) ∧ f q = none ∧ m'.1 = m.1 + 3 ∧ m'.2 ≤ m.2 + 44)) := by
        intro hno ih
        have h23 : ¬ 23 ≤ (sTr lo hi i).length := fun h => hno (Or.inr h)
        have he : sTr lo hi (i + 1) = sTr lo hi i ++ [sSq lo hi i] := if_neg hno
        refine v_iload dX0_trace_132 rfl ?_
        refine v_bipush (nI 23) dX0_trace_134 (by decide) ?_
        refine v_icmp_ge 149 dX0_trace_136 (by decide) (fun b136 => absurd b136 (nI_ge (by omega) (by omega))) (fun b136 => ?_)
        refine v_aload dX0_trace_139 rfl ?_
        refine v_iload dX0_trace_141 rfl ?_
        refine v_iload dX0_trace_143 rfl ?_
        refine v_iastoreX dX0_trace_145 (by assumption) (vp_in_nI (by omega) (by omega)) (fun f hp => ?_)
        have hg := hp.1
        refine v_iincN dX0_trace_146 rfl (by decide) ?_
        refine v_iincN dX0_trace_149 rfl (by decide) ?_
        refine v_goto 53 dX0_trace_152 (by decide) ?_
        refine v_loc (lv' := [(0, .int (nI lo)), (1, .int (nI hi)), (2, .int (sX lo)), (3, .int (sY lo)), (4, .int (sDX lo hi)), (5, .int (sDY lo hi)), (6, .int (nI (sN lo hi))), (7, .ref q), (8, .int (nI (sTr lo hi (i + 1)).length)), (9, .int (nI (i + 1)))]) ⟨rfl, rfl, rfl, rfl, rfl, rfl, rfl, rfl, zlkE rfl (by rw [he, List.length_append]; rfl), rfl, trivial⟩ (ih (i + 1) (by omega) f _ hg (fun j hj => ?_) (fun b x hb => ?_))
        · rw [nI_clamp (by omega)]
          rw [he] at hj ⊢
          rw [List.length_append, List.length_singleton] at hj
          by_cases hjl : j = (sTr lo hi i).length
          · subst hjl; rw [pk_us]; simp [List.getD]
          · rw [pk_un hjl, hgs j (by omega)]; simp only [List.getD]; rw [List.getElem?_append_left (by omega)]
        · have h1 := hkeep b x hb
          exact (hp.2.2 b (fun e => by rw [e, hfq] at hb; cases hb)).trans h1
      refine v_iload dX0_trace_53 rfl ?_
      refine v_iload dX0_trace_55 rfl ?_
      refine v_icmp_gt 155 dX0_trace_57 (by decide) (fun b57 => ?_) (fun b57 => ?_)
      · exact absurd b57 (nI_nlt (by omega) (by omega))
      · refine v_iload dX0_trace_60 rfl ?_
        refine v_if_le 155 dX0_trace_62 (by decide) (fun b62 => ?_) (fun b62 => ?_)
        · exact absurd b62 (nI_nle (by omega) (by omega))
        · refine v_iload_n dX0_trace_65 rfl rfl ?_
          refine v_iload dX0_trace_66 rfl ?_
          refine v_iload dX0_trace_68 rfl ?_
          refine v_imul dX0_trace_70 ?_
          refine v_iload dX0_trace_71 rfl ?_
          refine v_idiv dX0_trace_73 (nI_ne0 (by omega) (by omega)) ?_
          refine v_iadd dX0_trace_74 ?_
          refine v_bipush (10) dX0_trace_75 (by decide) ?_
          refine v_idiv dX0_trace_77 (by decide) ?_
          refine v_bipush (11) dX0_trace_78 (by decide) ?_
          refine v_mmin kX0_22.1 gs_J9_min_7cf53 kX0_22.2.1 kX0_22.2.2.1 dX0_trace_80 (by decide) (Nat.le_of_ble_eq_true rfl) ?_
          refine v_istore dX0_trace_83 (by decide) ?_
          refine v_iload_n dX0_trace_85 rfl rfl ?_
          refine v_iload dX0_trace_86 rfl ?_
          refine v_iload dX0_trace_88 rfl ?_
          refine v_imul dX0_trace_90 ?_
          refine v_iload dX0_trace_91 rfl ?_
          refine v_idiv dX0_trace_93 (nI_ne0 (by omega) (by omega)) ?_
          refine v_iadd dX0_trace_94 ?_
          refine v_bipush (10) dX0_trace_95 (by decide) ?_
          refine v_idiv dX0_trace_97 (by decide) ?_
          refine v_bipush (11) dX0_trace_98 (by decide) ?_
          refine v_mmin kX0_22.1 gs_J9_min_7cf53 kX0_22.2.1 kX0_22.2.2.1 dX0_trace_100 (by decide) (Nat.le_of_ble_eq_true rfl) ?_
          refine v_istore dX0_trace_103 (by decide) ?_
          refine v_iload dX0_trace_105 rfl ?_
          refine v_bipush (12) dX0_trace_107 (by decide) ?_
          refine v_imul dX0_trace_109 ?_
          refine v_iload dX0_trace_110 rfl ?_
          refine v_iadd dX0_trace_112 ?_
          refine v_istore dX0_trace_113 (by decide) ?_
          refine v_loc (lv' := [(0, .int (nI lo)), (1, .int (nI hi)), (2, .int (sX lo)), (3, .int (sY lo)), (4, .int (sDX lo hi)), (5, .int (sDY lo hi)), (6, .int (nI (sN lo hi))), (7, .ref q), (8, .int (nI (sTr lo hi i).length)), (9, .int (nI i)), (12, .int (nI (sSq lo hi i)))]) ⟨rfl, rfl, rfl, rfl, rfl, rfl, rfl, rfl, rfl, rfl, zlkE (x := sEk lo hi i) rfl hE.1, trivial⟩ ?_
          have hl8 := sTr_le lo hi i
          have hk0 : (9 : Nat) = 9 := rfl
          refine v_iload dX0_trace_115 rfl ?_
          refine v_if_eq 132 dX0_trace_117 (by decide) (fun b117 => ?_) (fun b117 => ?_)
          · have hz : (sTr lo hi i).length = 0 := (nI_eq (by omega) (by omega)).mp b117
            exact app ((not_or.mpr ⟨fun h => h.1 hz, by omega⟩)) ih
          · have hz : (sTr lo hi i).length ≠ 0 := fun hz => b117 (by rw [hz]; rfl)
            refine v_aload dX0_trace_120 rfl ?_
            refine v_iload dX0_trace_122 rfl ?_
            refine v_iconst (nI 1) dX0_trace_124 (by decide) ?_
            refine v_isub dX0_trace_125 ?_
            rw [pk_sub (by omega)]
            refine v_iaload dX0_trace_126 (by assumption) (vp_in_nI (by omega) (by omega)) ?_
            rw [nI_clamp (by omega), hgs _ (by omega)]
            refine v_iload dX0_trace_127 rfl ?_
            refine v_icmp_eq 149 dX0_trace_129 (by decide) (fun b129 => ?_) (fun b129 => ?_)
            · have he : sTr lo hi (i + 1) = sTr lo hi i := if_pos (Or.inl ⟨hz, (nI_eq (hall _ (by omega)) (by omega)).mp b129⟩)
              refine v_iincN dX0_trace_149 rfl (by decide) ?_
              refine v_goto 53 dX0_trace_152 (by decide) ?_
              exact v_loc (lv' := [(0, .int (nI lo)), (1, .int (nI hi)), (2, .int (sX lo)), (3, .int (sY lo)), (4, .int (sDX lo hi)), (5, .int (sDY lo hi)), (6, .int (nI (sN lo hi))), (7, .ref q), (8, .int (nI (sTr lo hi (i + 1)).length)), (9, .int (nI (i + 1)))]) ⟨rfl, rfl, rfl, rfl, rfl, rfl, rfl, rfl, zlkE rfl (by rw [he]), rfl, trivial⟩ (ih (i + 1) (by omega) f1 g hg (by rw [he]; exact hgs) hkeep)
            · by_cases h23 : 23 ≤ (sTr lo hi i).length
              · have he : sTr lo hi (i + 1) = sTr lo hi i := if_pos (Or.inr h23)
                refine v_iload dX0_trace_132 rfl ?_
                refine v_bipush (nI 23) dX0_trace_134 (by decide) ?_
                refine v_icmp_ge 149 dX0_trace_136 (by decide) (fun b136 => ?_) (fun b136 => ?_)
                · refine v_iincN dX0_trace_149 rfl (by decide) ?_
                  refine v_goto 53 dX0_trace_152 (by decide) ?_
                  exact v_loc (lv' := [(0, .int (nI lo)), (1, .int (nI hi)), (2, .int (sX lo)), (3, .int (sY lo)), (4, .int (sDX lo hi)), (5, .int (sDY lo hi)), (6, .int (nI (sN lo hi))), (7, .ref q), (8, .int (nI (sTr lo hi (i + 1)).length)), (9, .int (nI (i + 1)))]) ⟨rfl, rfl, rfl, rfl, rfl, rfl, rfl, rfl, zlkE rfl (by rw [he]), rfl, trivial⟩ (ih (i + 1) (by omega) f1 g hg (by rw [he]; exact hgs) hkeep)
                · exact absurd (nI_le h23 (by omega)) b136
              · exact app (not_or.mpr ⟨fun h => b129 (by rw [h.2]), h23⟩) ih
  refine v_astore dX0_trace_45 (by decide) ?_
  refine v_iconst (0) dX0_trace_47 (by decide) ?_
  refine v_istore dX0_trace_48 (by decide) ?_
  refine v_iconst (0) dX0_trace_50 (by decide) ?_
  refine v_istore dX0_trace_51 (by decide) ?_
  exact v_loc (lv' := [(0, .int (nI lo)), (1, .int (nI hi)), (2, .int (sX lo)), (3, .int (sY lo)), (4, .int (sDX lo hi)), (5, .int (sDY lo hi)), (6, .int (nI (sN lo hi))), (7, .ref q), (8, .int (nI (sTr lo hi 0).length)), (9, .int (nI 0))]) ⟨rfl, rfl, rfl, rfl, rfl, rfl, zlkE (x := sSt lo hi) rfl hs1, rfl, rfl, rfl, trivial⟩ (loop (sN lo hi + 1) 0 (by omega) f1 _ hpq.1 (fun j hj => absurd hj (Nat.not_lt_zero j)) hpq.2.2)
end
section
def unPr (p : Nat) : Nat × Nat := ((List.range 24).flatMap (fun hi => (List.range hi).map (fun lo => (lo, hi)))).getD p (0, 0)
theorem unPr_ok : ∀ hi, hi < 24 → ∀ lo, lo < hi → unPr (sPr lo hi) = (lo, hi) := by decide +kernel
theorem sPr_inj : ∀ hi, hi < 24 → ∀ lo, lo < hi → ∀ hi', hi' < 24 → ∀ lo', lo' < hi' → sPr lo hi = sPr lo' hi' → lo = lo' ∧ hi = hi' := by
  intro hi h1 lo h2 hi' h3 lo' h4 e
  have e1 := unPr_ok hi h1 lo h2
  rw [e, unPr_ok hi' h3 lo' h4] at e1
  exact ⟨(Prod.mk.inj e1).1.symm, (Prod.mk.inj e1).2.symm⟩
def RV (ρ : zRS) (N s : Nat) : Prop := ρ 0 0 = nI N ∧ sStep ρ = nI s ∧ N * s = 24 ∧ 4 ≤ N
theorem RV.pos {ρ : zRS} {N s : Nat} (h : RV ρ N s) : 0 < s ∧ N ≤ 24 ∧ s ≤ 24 := by
  obtain ⟨-, -, h3, h4⟩ := h
  have hs : 0 < s := by
    rcases Nat.eq_zero_or_pos s with e | e
    · rw [e] at h3; omega
    · exact e
  refine ⟨hs, ?_, ?_⟩
  · calc N = N * 1 := (Nat.mul_one N).symm
      _ ≤ N * s := Nat.mul_le_mul_left N hs
      _ = 24 := h3
  · calc s = 1 * s := (Nat.one_mul s).symm
      _ ≤ N * s := Nat.mul_le_mul_right s (by omega)
      _ = 24 := h3
theorem RV.pl {ρ : zRS} {N s a : Nat} (h : RV ρ N s) (ha : a < N) : a * s < 24 := by
  have := Nat.mul_lt_mul_of_pos_right ha h.pos.1
  rw [h.2.2.1] at this
  exact this
theorem RV.ne {ρ : zRS} {N s a b : Nat} (h : RV ρ N s) (hn : a ≠ b) : a * s ≠ b * s := fun e => hn (Nat.eq_of_mul_eq_mul_right h.pos.1 e)
def zcn (g : Nat → Option Nat) : Nat → Nat
  | 0 => 0
  | n + 1 => zcn g n + (if g n = none then 1 else 0)
theorem zcn_out {g : Nat → Option Nat} {p q : Nat} : ∀ n, n ≤ p → zcn (va_up g p (some q)) n = zcn g n
  | 0, _ => rfl
  | n + 1, h => by
    unfold zcn
    rw [zcn_out n (by omega)]
    have : va_up g p (some q) n = g n := if_neg (by omega)
    rw [this]
theorem zcn_up {g : Nat → Option Nat} {p q : Nat} (hg : g p = none) : ∀ n, p < n → zcn (va_up g p (some q)) n + 1 = zcn g n
  | 0, h => absurd h (Nat.not_lt_zero _)
  | n + 1, h => by
    unfold zcn
    by_cases e : p = n
    · subst e
      have h1 : va_up g p (some q) p = some q := if_pos rfl
      rw [zcn_out p (Nat.le_refl _), h1, hg]
      simp
    · have h1 : va_up g p (some q) n = g n := if_neg (fun z => e z.symm)
      have := zcn_up hg n (by omega) (q := q)
      rw [h1]
      omega
theorem zcn_pos {g : Nat → Option Nat} {p : Nat} (hg : g p = none) (n : Nat) (h : p < n) : 1 ≤ zcn g n := by
  have := zcn_up (q := 0) hg n h
  omega
/-- the row of lines: those that are made are right; the room that those may take that are not made yet is kept -/
def LNok (f : zHM) (m : Nat × Nat) (la : Nat) (M : Nat × Nat) : Prop :=
  M.1 ≤ 50000 ∧ M.2 ≤ 399990 ∧ ∃ g, f la = some (950, .inl (4, 276, .inr (.inr (.inr (.inr g))))) ∧ (∀ p, p < 276 → ∀ q, g p = some q → ∃ lo hi, lo < hi ∧ hi < 24 ∧ sPr lo hi = p ∧ LineAt f (1000 + 2 * p) q lo hi) ∧ m.1 + 3 * zcn g 276 ≤ M.1 ∧ m.2 + 44 * zcn g 276 ≤ M.2
abbrev zT9 : Nat → Prop := fun t => t = 950
theorem LineAt.put {f f' : zHM} {a t tl q lo hi : Nat} {c : (Nat × vp_A) ⊕ (Nat × List Value)} (h : zPut f a (t, c) f') (hl : LineAt f tl q lo hi) (ht : t < tl) : LineAt f' tl q lo hi := by
  obtain ⟨s, g, h1, h2, h3⟩ := hl
  exact ⟨s, g, h.ne h1 (by omega), h.ne h2 (by omega), h3⟩
theorem LineAt.fr {T : Nat → Prop} {f f' : zHM} {tl q lo hi : Nat} (h : zFr T f f') (hl : LineAt f tl q lo hi) (h1 : ¬ T tl) (h2 : ¬ T (tl + 1)) : LineAt f' tl q lo hi := by
  obtain ⟨s, g, e1, e2, e3⟩ := hl
  exact ⟨s, g, h _ _ _ e1 h1, h _ _ _ e2 h2, e3⟩
theorem LineAt.keep {f f' : zHM} {tl q lo hi : Nat} (h : ∀ b x, f b = some x → f' b = some x) (hl : LineAt f tl q lo hi) : LineAt f' tl q lo hi := by
  obtain ⟨s, g, e1, e2, e3⟩ := hl
  exact ⟨s, g, h _ _ e1, h _ _ e2, e3⟩
theorem LNok.fr {T : Nat → Prop} {f f' : zHM} {m : Nat × Nat} {la : Nat} {M : Nat × Nat} (h : zFr T f f') (hl : LNok f m la M) (ht : ∀ t, 950 ≤ t → ¬ T t) : LNok f' m la M := by
  obtain ⟨h1, h2, g, h3, h4, h5, h6⟩ := hl
  refine ⟨h1, h2, g, h _ _ _ h3 (ht _ (by omega)), fun p hp q hq => ?_, h5, h6⟩
  obtain ⟨lo, hi, b1, b2, b3, b4⟩ := h4 p hp q hq
  exact ⟨lo, hi, b1, b2, b3, b4.fr h (ht _ (by omega)) (ht _ (by omega))⟩
theorem sPr_mm (a b : Nat) : sPr (min a b) (max a b) = sPr a b := by
  unfold sPr
  rcases Nat.le_total a b with h | h
  · simp [Nat.min_eq_left h, Nat.max_eq_right h, h]
  · simp [Nat.min_eq_right h, Nat.max_eq_left h, h]
theorem mm_mul (a b s : Nat) : min a b * s = min (a * s) (b * s) ∧ max a b * s = max (a * s) (b * s) := by
  rcases Nat.le_total a b with h | h
  · have := Nat.mul_le_mul_right s h
    exact ⟨by rw [Nat.min_eq_left h, Nat.min_eq_left this], by rw [Nat.max_eq_right h, Nat.max_eq_right this]⟩
  · have := Nat.mul_le_mul_right s h
    exact ⟨by rw [Nat.min_eq_right h, Nat.min_eq_right this], by rw [Nat.max_eq_left h, Nat.max_eq_left this]⟩
theorem nI_m1 {n : Nat} (h : n < 2 ^ 31) : ¬ nI n = -1 := fun e => by
  have h1 := nI_toInt h
  rw [e] at h1
  have h2 : (-1 : Int32).toInt = -1 := by decide
  rw [h2] at h1
  omega
set_option maxRecDepth 10000 in
set_option maxHeartbeats 1000000 in
theorem c_timesLying {G : zW} {f : zHM} {m : Nat × Nat} {t r la n : Nat} {A : Nat → Nat} {ρ : zRS} {xs tm : Nat → Int32} (hr : RPic f t r la A ρ n xs tm) {N s : Nat} (hv : RV ρ N s) {a b : Nat} (ha : a < N) (hb : b < N) (hn : a ≠ b) : zM G yX1_timesLying cX1_timesLying 4 (some .int) 2 [.ref r, .int (nI a), .int (nI b)] (f, m) (zS (.int (tm (sPr (a * s) (b * s)))) f m) := by
  refine zM.of (by decide) (Nat.le_of_ble_eq_true rfl) ?_
  have hpa := hv.pl ha
  have hpb := hv.pl hb
  have hpn := hv.ne hn
  have hpp := sPr_lt hpa hpb hpn
  obtain ⟨r0, ⟨g1, a1, e1⟩, ⟨g2, a2, e2⟩, ⟨g3, a3, e3⟩, ⟨g4, a4, e4⟩, ⟨g5, a5, e5⟩, ⟨g6, a6, e6⟩, ⟨g7, a7, e7⟩, ⟨g8, a8, e8⟩, ⟨g9, a9, e9⟩, ⟨g10, a10, e10⟩⟩ := hr
  refine v_iload_n dX1_timesLying_0 rfl rfl ?_
  refine v_aload_n dX1_timesLying_1 rfl rfl ?_
  refine v_getfield fX1_15 dX1_timesLying_2 (by assumption) (by rfl) ?_
  refine v_imul dX1_timesLying_5 ?_
  refine v_iload_n dX1_timesLying_6 rfl rfl ?_
  refine v_aload_n dX1_timesLying_7 rfl rfl ?_
  refine v_getfield fX1_15 dX1_timesLying_8 (by assumption) (by rfl) ?_
  refine v_imul dX1_timesLying_11 ?_
  rw [hv.2.1, pk_mul, pk_mul]
  refine v_callSp kX1_77 gs_X0_pairOf dX1_timesLying_12 (c_pairOf hpa hpb hpn) rfl rfl (by decide) (Nat.le_of_ble_eq_true rfl) ?_
  refine v_istore_n dX1_timesLying_15 rfl (by decide) ?_
  refine v_iload_n dX1_timesLying_16 rfl rfl ?_
  refine v_iconst (-1) dX1_timesLying_17 (by decide) ?_
  refine v_icmp_ne 25 dX1_timesLying_18 (by decide) (fun b18 => ?_) (fun b18 => ?_)
  · refine v_aload_n dX1_timesLying_25 rfl rfl ?_
    refine v_getfield fX1_46 dX1_timesLying_26 (by assumption) (by rfl) ?_
    refine v_iload_n dX1_timesLying_29 rfl rfl ?_
    refine v_iaload dX1_timesLying_30 (by assumption) (vp_in_nI hpp (by omega)) ?_
    exact v_ireturn dX1_timesLying_31 rfl ⟨by rw [nI_clamp (by omega), e10 _ hpp], rfl, rfl⟩
  · exact absurd b18 (nI_m1 (by omega))
set_option maxRecDepth 10000 in
set_option maxHeartbeats 1000000 in
theorem c_lineBetween {G : zW} {f : zHM} {m : Nat × Nat} {t r la n : Nat} {A : Nat → Nat} {ρ : zRS} {xs tm : Nat → Int32} (hr : RPic f t r la A ρ n xs tm) {N s : Nat} (hv : RV ρ N s) {a b : Nat} (ha : a < N) (hb : b < N) (hn : a ≠ b) {M : Nat × Nat} (hL : LNok f m la M) : zM G yX1_lineBetween cX1_lineBetween 5 (some (.object "RingThreads$Line")) 3 [.ref r, .int (nI a), .int (nI b)] (f, m) (zDr (fun q f' m' => LineAt f' (1000 + 2 * (sPr (a * s) (b * s))) q (min (a * s) (b * s)) (max (a * s) (b * s)) ∧ LNok f' m' la M ∧ zFr zT9 f f')) := by
  refine zM.of (by decide) (Nat.le_of_ble_eq_true rfl) ?_
  have hpa := hv.pl ha
  have hpb := hv.pl hb
  have hpn := hv.ne hn
  have hpp := sPr_lt hpa hpb hpn
  have r0 := hr.1
  have hv9 := hv.pos
  obtain ⟨hM1, hM2, gl, hla, hll, hc1, hc2⟩ := hL
  refine v_iload_n dX1_lineBetween_0 rfl rfl ?_
  refine v_aload_n dX1_lineBetween_1 rfl rfl ?_
  refine v_getfield fX1_15 dX1_lineBetween_2 (by assumption) (by rfl) ?_
  refine v_imul dX1_lineBetween_5 ?_
  refine v_iload_n dX1_lineBetween_6 rfl rfl ?_
  refine v_aload_n dX1_lineBetween_7 rfl rfl ?_
  refine v_getfield fX1_15 dX1_lineBetween_8 (by assumption) (by rfl) ?_
  refine v_imul dX1_lineBetween_11 ?_
  rw [hv.2.1, pk_mul, pk_mul]
  refine v_callSp kX1_77 gs_X0_pairOf dX1_lineBetween_12 (c_pairOf hpa hpb hpn) rfl rfl (by decide) (Nat.le_of_ble_eq_true rfl) ?_
  refine v_istore_n dX1_lineBetween_15 rfl (by decide) ?_
  refine v_iload_n dX1_lineBetween_16 rfl rfl ?_
  refine v_iconst (-1) dX1_lineBetween_17 (by decide) ?_
  refine v_icmp_ne 33 dX1_lineBetween_18 (by decide) (fun b18 => ?_) (fun b18 => ?_)
  · refine v_aload_n dX1_lineBetween_33 rfl rfl ?_
    refine v_getfield fX1_49 dX1_lineBetween_34 (by assumption) (by rfl) ?_
    refine v_iload_n dX1_lineBetween_37 rfl rfl ?_
    refine v_aaloadL dX1_lineBetween_38 (by assumption) (vp_in_nI hpp (by omega)) ?_
    rw [nI_clamp (by omega)]
    cases hgp : gl (sPr (a * s) (b * s)) with
    | some q =>
      obtain ⟨lo, hi, b1, b2, b3, b4⟩ := hll _ hpp q hgp
      have hmm := sPr_inj hi b2 lo b1 (max (a * s) (b * s)) (by omega) (min (a * s) (b * s)) (by omega) (b3.trans (sPr_mm _ _).symm)
      rw [hmm.1, hmm.2] at b4
      refine v_astore dX1_lineBetween_39 (by decide) ?_
      refine v_aload dX1_lineBetween_41 rfl ?_
      refine v_ifnonnull 79 dX1_lineBetween_43 (by decide) ?_
      refine v_aload dX1_lineBetween_79 rfl ?_
      exact v_areturn dX1_lineBetween_81 rfl (Or.inl ⟨_, rfl⟩) ⟨q, rfl, b4, ⟨hM1, hM2, gl, hla, hll, hc1, hc2⟩, zFr.refl⟩
    | none =>
      have hcp := zcn_pos hgp 276 hpp
      refine v_astoreN dX1_lineBetween_39 (by decide) ?_
      refine v_aloadN dX1_lineBetween_41 rfl ?_
      refine v_ifnonnullN dX1_lineBetween_43 ?_
      refine v_iload_n dX1_lineBetween_46 rfl rfl ?_
      refine v_iload_n dX1_lineBetween_47 rfl rfl ?_
      refine v_mmin kX1_86.1 gs_J9_min_7cf53 kX1_86.2.1 kX1_86.2.2.1 dX1_lineBetween_48 (by decide) (Nat.le_of_ble_eq_true rfl) ?_
      rw [nI_min a b (by omega) (by omega)]
      refine v_aload_n dX1_lineBetween_51 rfl rfl ?_
      refine v_getfield fX1_15 dX1_lineBetween_52 (by assumption) (by rfl) ?_
      refine v_imul dX1_lineBetween_55 ?_
      refine v_iload_n dX1_lineBetween_56 rfl rfl ?_
      refine v_iload_n dX1_lineBetween_57 rfl rfl ?_
      refine v_mmax kX1_91.1 gs_J9_max_7cf53 kX1_91.2.1 kX1_91.2.2.1 dX1_lineBetween_58 (by decide) (Nat.le_of_ble_eq_true rfl) ?_
      rw [nI_max a b (by omega) (by omega)]
      refine v_aload_n dX1_lineBetween_61 rfl rfl ?_
      refine v_getfield fX1_15 dX1_lineBetween_62 (by assumption) (by rfl) ?_
      refine v_imul dX1_lineBetween_65 ?_
      rw [hv.2.1, pk_mul, pk_mul, (mm_mul a b s).1, (mm_mul a b s).2]
      refine v_callSr kX1_94 gs_X0_trace dX1_lineBetween_66 (c_trace (1000 + 2 * (sPr (a * s) (b * s))) (lo := min (a * s) (b * s)) (hi := max (a * s) (b * s)) (by omega) (by omega) (by omega) (by omega)) rfl rfl (by decide) (Nat.le_of_ble_eq_true rfl) (fun q f9 m9 h9 => ?_)
      obtain ⟨hl9, hk9, hf9, hm91, hm92⟩ := h9
      have r0 := hk9 _ _ r0
      have hla9 := hk9 _ _ hla
      obtain ⟨sq, gq, hq1, hq2, hq3⟩ := id hl9
      refine v_astore dX1_lineBetween_69 (by decide) ?_
      refine v_aload_n dX1_lineBetween_71 rfl rfl ?_
      refine v_getfield fX1_49 dX1_lineBetween_72 (by assumption) (by rfl) ?_
      refine v_iload_n dX1_lineBetween_75 rfl rfl ?_
      refine v_aload dX1_lineBetween_76 rfl ?_
      refine v_aastoreLX dX1_lineBetween_78 (by assumption) hq1 (vp_in_nI hpp (by omega)) (fun f8 hp => ?_)
      rw [nI_clamp (by omega)] at hp
      refine v_aload dX1_lineBetween_79 rfl ?_
      have hz := zcn_up (q := q) hgp 276 hpp
      refine v_areturn dX1_lineBetween_81 rfl (Or.inl ⟨_, rfl⟩) ⟨q, rfl, hl9.put hp (by omega), ⟨hM1, hM2, _, hp.1, fun p hp9 q9 hq9 => ?_, ?_, ?_⟩, ?_⟩
      · by_cases e : p = (sPr (a * s) (b * s))
        · subst e
          have hqq : va_up gl (sPr (a * s) (b * s)) (some q) (sPr (a * s) (b * s)) = some q := if_pos rfl
          rw [hqq] at hq9
          cases hq9
          exact ⟨_, _, by omega, by omega, sPr_mm _ _, hl9.put hp (by omega)⟩
        · have hqq : va_up gl (sPr (a * s) (b * s)) (some q) p = gl p := if_neg e
          rw [hqq] at hq9
          obtain ⟨lo, hi, b1, b2, b3, b4⟩ := hll p hp9 q9 hq9
          exact ⟨lo, hi, b1, b2, b3, (b4.keep hk9).put hp (by omega)⟩
      · show m9.1 + 3 * zcn (va_up gl (sPr (a * s) (b * s)) (some q)) 276 ≤ M.1
        omega
      · show m9.2 + 44 * zcn (va_up gl (sPr (a * s) (b * s)) (some q)) 276 ≤ M.2
        omega
      · intro b' t' c hb' ht'
        exact hp.ne (hk9 _ _ hb') ht'
  · exact absurd b18 (nI_m1 (by omega))
end
section
def sFar (a b : Nat) : Nat := if a < b then b - a else a - b
theorem sFar_ok : ∀ a, a < 24 → ∀ b, b < 24 → sAbs (nI b - nI a) = nI (sFar a b) := by decide +kernel
def sLn (s a b : Nat) : Int32 := nI (sLen (min (a * s) (b * s)) (max (a * s) (b * s)))
def sPa (s a b : Nat) : List Nat := sPT (min (a * s) (b * s)) (max (a * s) (b * s))
def sRef (N s : Nat) (ap ti lf : Int32) (tm : Nat → Int32) (a b : Nat) : Int32 :=
  if b = a then 1 else if nI (min (sFar a b) (N - sFar a b)) < ap then 2 else if ti ≤ tm (sPr (a * s) (b * s)) then 3 else if lf < sLn s a b then 4 else 0
/-- what a chord would gain, summed along its squares -/
def sGn (ρ : zRS) (sh : Int32) : List Nat → Int32 → Int32
  | [], z => z
  | q :: l, z => sGn ρ sh l (z + sRel (sLack ρ q) sh)
theorem sGn_snoc (ρ : zRS) (sh : Int32) (q : Nat) : ∀ (l : List Nat) (z : Int32), sGn ρ sh (l ++ [q]) z = sGn ρ sh l z + sRel (sLack ρ q) sh
  | [], z => rfl
  | x :: l, z => sGn_snoc ρ sh q l _
def sGain (ρ : zRS) (s : Nat) (sh : Int32) (a b : Nat) : Int32 := sGn ρ sh (sPa s a b) 0
theorem sPa_ok {ρ : zRS} {N s a b : Nat} (hv : RV ρ N s) (ha : a < N) (hb : b < N) (hn : a ≠ b) : (sPa s a b).length ≤ 19 ∧ (sPa s a b).Nodup ∧ ∀ q ∈ sPa s a b, q < 144 := by
  have h1 := hv.pl ha
  have h2 := hv.pl hb
  have h3 := hv.ne hn
  exact sPT_ok (max (a * s) (b * s)) (by omega) (min (a * s) (b * s)) (by omega)
theorem take_succ_getD (l : List Nat) (i : Nat) (h : i < l.length) : l.take (i + 1) = l.take i ++ [l.getD i 0] := by
  rw [List.take_succ]
  simp [List.getD, List.getElem?_eq_getElem h]
/-- a ring's numbers are in their ranges -/
def RW (ρ : zRS) (N s n : Nat) : Prop := RV ρ N s ∧ n ≤ 201 ∧ ∀ c, c < n → ∃ a b u, a < N ∧ b < N ∧ a ≠ b ∧ u < 3 ∧ ρ 4 c = nI a ∧ ρ 5 c = nI b ∧ ρ 6 c = nI u
set_option maxRecDepth 10000 in
set_option maxHeartbeats 1000000 in
theorem c_refusal {G : zW} {f : zHM} {m : Nat × Nat} {t r la n : Nat} {A : Nat → Nat} {ρ : zRS} {xs tm : Nat → Int32} (hr : RPic f t r la A ρ n xs tm) (ht : t ≤ 900) {N s : Nat} (hv : RV ρ N s) {M : Nat × Nat} (hL : LNok f m la M) {a b u : Nat} (ha : a < N) (hb : b < N) (hu : u < 3) (hat : ρ 0 1 = nI a) (hnow : ρ 0 2 = nI u) : zM G yX1_refusal cX1_refusal 3 (some .int) 4 [.ref r, .int (nI b)] (f, m) (zD (some (.int (sRef N s (ρ 3 0) (ρ 3 1) (ρ 2 u) tm a b))) (fun f' m' => LNok f' m' la M ∧ zFr zT9 f f')) := by
  refine zM.of (by decide) (Nat.le_of_ble_eq_true rfl) ?_
  have hv9 := hv.pos
  obtain ⟨r0, ⟨g1, a1, e1⟩, ⟨g2, a2, e2⟩, ⟨g3, a3, e3⟩, ⟨g4, a4, e4⟩, ⟨g5, a5, e5⟩, ⟨g6, a6, e6⟩, ⟨g7, a7, e7⟩, ⟨g8, a8, e8⟩, ⟨g9, a9, e9⟩, ⟨g10, a10, e10⟩⟩ := id hr
  refine v_iload_n dX1_refusal_0 rfl rfl ?_
  refine v_aload_n dX1_refusal_1 rfl rfl ?_
  refine v_getfield fX1_53 dX1_refusal_2 (by assumption) (by rfl) ?_
  refine v_icmp_ne 10 dX1_refusal_5 (by decide) (fun b5 => ?_) (fun b5 => ?_)
  · have hne : ¬ b = a := fun e => b5 (by rw [hat, e])
    refine v_iload_n dX1_refusal_10 rfl rfl ?_
    refine v_aload_n dX1_refusal_11 rfl rfl ?_
    refine v_getfield fX1_53 dX1_refusal_12 (by assumption) (by rfl) ?_
    refine v_isub dX1_refusal_15 ?_
    rw [hat]
    refine v_mabs kX1_98.1 gs_J9_abs_0f7a4 kX1_98.2.1 kX1_98.2.2.1 dX1_refusal_16 (by decide) (Nat.le_of_ble_eq_true rfl) ?_
    rw [show (if 0 ≤ nI b - nI a then nI b - nI a else 0 - (nI b - nI a)) = nI (sFar a b) from sFar_ok a (by omega) b (by omega)]
    refine v_istore_n dX1_refusal_19 rfl (by decide) ?_
    refine v_iload_n dX1_refusal_20 rfl rfl ?_
    refine v_aload_n dX1_refusal_21 rfl rfl ?_
    refine v_getfield fX1_9 dX1_refusal_22 (by assumption) (by rfl) ?_
    refine v_iload_n dX1_refusal_25 rfl rfl ?_
    refine v_isub dX1_refusal_26 ?_
    rw [hv.1, pk_sub (by unfold sFar; split <;> omega)]
    refine v_mmin kX1_86.1 gs_J9_min_7cf53 kX1_86.2.1 kX1_86.2.2.1 dX1_refusal_27 (by decide) (Nat.le_of_ble_eq_true rfl) ?_
    rw [nI_min _ _ (by unfold sFar; split <;> omega) (by omega)]
    refine v_aload_n dX1_refusal_30 rfl rfl ?_
    refine v_getfield fX1_25 dX1_refusal_31 (by assumption) (by rfl) ?_
    refine v_iconst (nI 0) dX1_refusal_34 (by decide) ?_
    refine v_iaload dX1_refusal_35 (by assumption) (vp_in_nI (by omega) (by omega)) ?_
    rw [nI_clamp (by omega), e3 0 (by omega)]
    refine v_icmp_ge 41 dX1_refusal_36 (by decide) (fun b36 => ?_) (fun b36 => ?_)
    · have hnear : ¬ nI (min (sFar a b) (N - sFar a b)) < ρ 3 0 := Int32.not_lt.mpr b36
      refine v_aload_n dX1_refusal_41 rfl rfl ?_
      refine v_aload_n dX1_refusal_42 rfl rfl ?_
      refine v_getfield fX1_53 dX1_refusal_43 (by assumption) (by rfl) ?_
      rw [hat]
      refine v_iload_n dX1_refusal_46 rfl rfl ?_
      refine v_callVp kX1_102 gi_X1_timesLying ge_X1_timesLying rfl dX1_refusal_47 (by assumption) (c_timesLying hr hv ha hb (fun e => b5 (by rw [hat, e]))) rfl rfl (by decide) (Nat.le_of_ble_eq_true rfl) ?_
      refine v_aload_n dX1_refusal_50 rfl rfl ?_
      refine v_getfield fX1_25 dX1_refusal_51 (by assumption) (by rfl) ?_
      refine v_iconst (nI 1) dX1_refusal_54 (by decide) ?_
      refine v_iaload dX1_refusal_55 (by assumption) (vp_in_nI (by omega) (by omega)) ?_
      rw [nI_clamp (by omega), e3 1 (by omega)]
      refine v_icmp_lt 61 dX1_refusal_56 (by decide) (fun b56 => ?_) (fun b56 => ?_)
      · have htm : ¬ ρ 3 1 ≤ tm (sPr (a * s) (b * s)) := Int32.not_le.mpr b56
        refine v_aload_n dX1_refusal_61 rfl rfl ?_
        refine v_getfield fX1_22 dX1_refusal_62 (by assumption) (by rfl) ?_
        refine v_aload_n dX1_refusal_65 rfl rfl ?_
        refine v_getfield fX1_56 dX1_refusal_66 (by assumption) (by rfl) ?_
        rw [hnow]
        refine v_iaload dX1_refusal_69 (by assumption) (vp_in_nI hu (by omega)) ?_
        rw [nI_clamp (by omega), e2 u hu]
        refine v_aload_n dX1_refusal_70 rfl rfl ?_
        refine v_aload_n dX1_refusal_71 rfl rfl ?_
        refine v_getfield fX1_53 dX1_refusal_72 (by assumption) (by rfl) ?_
        rw [hat]
        refine v_iload_n dX1_refusal_75 rfl rfl ?_
        refine v_callVr kX1_105 gi_X1_lineBetween ge_X1_lineBetween rfl dX1_refusal_76 (by assumption) (c_lineBetween hr hv ha hb (fun e => b5 (by rw [hat, e])) hL) rfl rfl (by decide) (Nat.le_of_ble_eq_true rfl) (fun q f m hc => ?_)
        obtain ⟨hl9, hL, hf9⟩ := hc
        have hr := hr.fr hf9 (fun k hk => by show ¬ (t + k = 950); omega)
        obtain ⟨sq, gq, hq1, hq2, hq3⟩ := hl9
        obtain ⟨r0, ⟨g1, a1, e1⟩, ⟨g2, a2, e2⟩, ⟨g3, a3, e3⟩, ⟨g4, a4, e4⟩, ⟨g5, a5, e5⟩, ⟨g6, a6, e6⟩, ⟨g7, a7, e7⟩, ⟨g8, a8, e8⟩, ⟨g9, a9, e9⟩, ⟨g10, a10, e10⟩⟩ := id hr
        refine v_getfield fX1_108 dX1_refusal_79 (by assumption) (by rfl) ?_
        refine v_icmp_ge 89 dX1_refusal_82 (by decide) (fun b82 => ?_) (fun b82 => ?_)
        · refine v_iconst (0) dX1_refusal_89 (by decide) ?_
          exact v_ireturn dX1_refusal_90 rfl ⟨by rw [show sRef N s (ρ 3 0) (ρ 3 1) (ρ 2 u) tm a b = 0 from (if_neg hne).trans ((if_neg hnear).trans ((if_neg htm).trans (if_neg (Int32.not_lt.mpr b82))))], hL, hf9⟩
        · refine v_iconst (4) dX1_refusal_85 (by decide) ?_
          refine v_goto 90 dX1_refusal_86 (by decide) ?_
          exact v_ireturn dX1_refusal_90 rfl ⟨by rw [show sRef N s (ρ 3 0) (ρ 3 1) (ρ 2 u) tm a b = 4 from (if_neg hne).trans ((if_neg hnear).trans ((if_neg htm).trans (if_pos (Int32.not_le.mp b82))))], hL, hf9⟩
      · have htm : ρ 3 1 ≤ tm (sPr (a * s) (b * s)) := Int32.not_lt.mp b56
        refine v_iconst (3) dX1_refusal_59 (by decide) ?_
        exact v_ireturn dX1_refusal_60 rfl ⟨by rw [show sRef N s (ρ 3 0) (ρ 3 1) (ρ 2 u) tm a b = 3 from (if_neg hne).trans ((if_neg hnear).trans (if_pos htm))], hL, zFr.refl⟩
    · have hnear : nI (min (sFar a b) (N - sFar a b)) < ρ 3 0 := Int32.not_le.mp b36
      refine v_iconst (2) dX1_refusal_39 (by decide) ?_
      exact v_ireturn dX1_refusal_40 rfl ⟨by rw [show sRef N s (ρ 3 0) (ρ 3 1) (ρ 2 u) tm a b = 2 from (if_neg hne).trans (if_pos hnear)], hL, zFr.refl⟩
  · refine v_iconst (1) dX1_refusal_8 (by decide) ?_
    exact v_ireturn dX1_refusal_9 rfl ⟨by rw [show sRef N s (ρ 3 0) (ρ 3 1) (ρ 2 u) tm a b = 1 from if_pos ((nI_eq (by omega) (by omega)).mp (b5.trans hat))], hL, zFr.refl⟩
set_option maxRecDepth 10000 in
set_option maxHeartbeats 1000000 in
theorem c_gainTo {G : zW} {f0 : zHM} {m : Nat × Nat} {t r la n : Nat} {A : Nat → Nat} {ρ : zRS} {xs tm : Nat → Int32} (hr : RPic f0 t r la A ρ n xs tm) (ht : t ≤ 900) {N s : Nat} (hv : RV ρ N s) {M : Nat × Nat} (hL : LNok f0 m la M) {a b u : Nat} (ha : a < N) (hb : b < N) (hn : a ≠ b) (hu : u < 3) (hat : ρ 0 1 = nI a) (hnow : ρ 0 2 = nI u) : zM G yX1_gainTo cX1_gainTo 7 (some .int) 4 [.ref r, .int (nI b)] (f0, m) (zD (some (.int (sGain ρ s (ρ 1 u) a b))) (fun f' m' => LNok f' m' la M ∧ zFr zT9 f0 f')) := by
  refine zM.of (by decide) (Nat.le_of_ble_eq_true rfl) ?_
  have hv9 := hv.pos
  have hpa := sPa_ok hv ha hb hn
  obtain ⟨r0, ⟨g1, a1, e1⟩, ⟨g2, a2, e2⟩, ⟨g3, a3, e3⟩, ⟨g4, a4, e4⟩, ⟨g5, a5, e5⟩, ⟨g6, a6, e6⟩, ⟨g7, a7, e7⟩, ⟨g8, a8, e8⟩, ⟨g9, a9, e9⟩, ⟨g10, a10, e10⟩⟩ := id hr
  refine v_iconst (0) dX1_gainTo_0 (by decide) ?_
  refine v_istore_n dX1_gainTo_1 rfl (by decide) ?_
  refine v_aload_n dX1_gainTo_2 rfl rfl ?_
  refine v_aload_n dX1_gainTo_3 rfl rfl ?_
  refine v_getfield fX1_53 dX1_gainTo_4 (by assumption) (by rfl) ?_
  rw [hat]
  refine v_iload_n dX1_gainTo_7 rfl rfl ?_
  refine v_callVr kX1_105 gi_X1_lineBetween ge_X1_lineBetween rfl dX1_gainTo_8 (by assumption) (c_lineBetween hr hv ha hb hn hL) rfl rfl (by decide) (Nat.le_of_ble_eq_true rfl) (fun q f m hc => ?_)
  obtain ⟨hl9, hL, hf9⟩ := hc
  have hr := hr.fr hf9 (fun k hk => by show ¬ (t + k = 950); omega)
  obtain ⟨sq, gq, hq1, hq2, hq3⟩ := hl9
  obtain ⟨r0, ⟨g1, a1, e1⟩, ⟨g2, a2, e2⟩, ⟨g3, a3, e3⟩, ⟨g4, a4, e4⟩, ⟨g5, a5, e5⟩, ⟨g6, a6, e6⟩, ⟨g7, a7, e7⟩, ⟨g8, a8, e8⟩, ⟨g9, a9, e9⟩, ⟨g10, a10, e10⟩⟩ := id hr
  replace hq2 : f sq = some (1000 + 2 * sPr (a * s) (b * s) + 1, .inl (0, (sPa s a b).length, .inl gq)) := hq2
  replace hq3 : ∀ i, i < (sPa s a b).length → gq i = nI ((sPa s a b).getD i 0) := hq3
  generalize hPL0 : sPa s a b = PL at hq2 hq3 hpa
  replace hPL0 : sPa s a b = PL ∧ True := ⟨hPL0, trivial⟩
  have loop : ∀ (k i : Nat), i + k = PL.length → zV G yX1_gainTo cX1_gainTo 7 (some .int) 4 22 [(0, .ref r), (2, .int (sGn ρ (ρ 1 u) (PL.take i) 0)), (3, .ref sq), (4, .int (nI PL.length)), (5, .int (nI i))] [] (f, m) (zD (some (.int (sGain ρ s (ρ 1 u) a b))) (fun f' m' => LNok f' m' la M ∧ zFr zT9 f0 f')) := by
    intro k
    induction k with
    | zero =>
      intro i hi 
      have hi : i = PL.length := by omega
      subst hi
      refine v_iload dX1_gainTo_22 rfl ?_
      refine v_iload dX1_gainTo_24 rfl ?_
      refine v_icmp_ge 62 dX1_gainTo_26 (by decide) (fun b26 => ?_) (fun b26 => ?_)
      · refine v_iload_n dX1_gainTo_62 rfl rfl ?_
        exact v_ireturn dX1_gainTo_63 rfl ⟨by rw [List.take_length, ← hPL0.1]; rfl, hL, hf9⟩
      · exact absurd (nI_le (by omega) (by omega)) b26
    | succ k ih =>
      intro i hi 
      have h9 : i < PL.length := by omega
      have hq9 : PL.getD i 0 < 144 := hpa.2.2 _ (by rw [List.getD, List.getElem?_eq_getElem h9]; exact List.getElem_mem h9)
      refine v_iload dX1_gainTo_22 rfl ?_
      refine v_iload dX1_gainTo_24 rfl ?_
      refine v_icmp_ge 62 dX1_gainTo_26 (by decide) (fun b26 => ?_) (fun b26 => ?_)
      · exact absurd b26 (nI_ge h9 (by omega))
      · refine v_aload_n dX1_gainTo_29 rfl rfl ?_
        refine v_iload dX1_gainTo_30 rfl ?_
        refine v_iaload dX1_gainTo_32 (by assumption) (vp_in_nI h9 (by omega)) ?_
        rw [nI_clamp (by omega), hq3 i h9]
        refine v_istore dX1_gainTo_33 (by decide) ?_
        refine v_iload_n dX1_gainTo_35 rfl rfl ?_
        refine v_aload_n dX1_gainTo_36 rfl rfl ?_
        refine v_iload dX1_gainTo_37 rfl ?_
        refine v_callVp kX1_111 gi_X1_lackOf ge_X1_lackOf rfl dX1_gainTo_39 (by assumption) (c_lackOf hr hq9) rfl rfl (by decide) (Nat.le_of_ble_eq_true rfl) ?_
        refine v_aload_n dX1_gainTo_42 rfl rfl ?_
        refine v_getfield fX1_18 dX1_gainTo_43 (by assumption) (by rfl) ?_
        refine v_aload_n dX1_gainTo_46 rfl rfl ?_
        refine v_getfield fX1_56 dX1_gainTo_47 (by assumption) (by rfl) ?_
        rw [hnow]
        refine v_iaload dX1_gainTo_50 (by assumption) (vp_in_nI hu (by omega)) ?_
        rw [nI_clamp (by omega), e1 u hu]
        refine v_callSp kX1_117 gs_X1_relief dX1_gainTo_51 c_relief rfl rfl (by decide) (Nat.le_of_ble_eq_true rfl) ?_
        refine v_iadd dX1_gainTo_54 ?_
        refine v_istore_n dX1_gainTo_55 rfl (by decide) ?_
        refine v_iincN dX1_gainTo_56 rfl (by decide) ?_
        refine v_goto 22 dX1_gainTo_59 (by decide) ?_
        exact v_loc (lv' := [(0, .ref r), (2, .int (sGn ρ (ρ 1 u) (PL.take (i + 1)) 0)), (3, .ref sq), (4, .int (nI PL.length)), (5, .int (nI (i + 1)))]) ⟨rfl, zlkE rfl (by rw [take_succ_getD _ _ h9, sGn_snoc]), rfl, rfl, rfl, trivial⟩ (ih (i + 1) (by omega))
  refine v_getfield fX1_114 dX1_gainTo_11 (by assumption) (by rfl) ?_
  refine v_astore_n dX1_gainTo_14 rfl (by decide) ?_
  refine v_aload_n dX1_gainTo_15 rfl rfl ?_
  refine v_alen dX1_gainTo_16 (by assumption) (by decide) ?_
  refine v_istore dX1_gainTo_17 (by decide) ?_
  refine v_iconst (0) dX1_gainTo_19 (by decide) ?_
  refine v_istore dX1_gainTo_20 (by decide) ?_
  exact v_loc (lv' := [(0, .ref r), (2, .int (sGn ρ (ρ 1 u) (PL.take 0) 0)), (3, .ref sq), (4, .int (nI PL.length)), (5, .int (nI 0))]) ⟨rfl, rfl, rfl, rfl, rfl, trivial⟩ (loop PL.length 0 (by omega))
end
section
def sEnds (ρ : zRS) (n : Nat) (x : Int32) : Int32 := sSum (fun c => if ρ 4 c = x ∨ ρ 5 c = x then 1 else 0) n
def sCh (ρ : zRS) (n : Nat) (x : Int32) : Int32 := sSum (fun c => if ρ 6 c = x then 1 else 0) n
def zn (x : Int32) : Nat := x.toNatClampNeg
def sThr (ρ : zRS) (s n : Nat) (x : Int32) : Int32 := sSum (fun c => if ρ 6 c = x then sLn s (zn (ρ 4 c)) (zn (ρ 5 c)) else 0) n
def sBst (rf gn ot ln : Nat → Int32) : Nat → Int32 × Int32 × Int32 × Int32
  | 0 => (-1, 0, 0, 0)
  | i + 1 => if rf i = 0 ∧ ((sBst rf gn ot ln i).1 = -1 ∨ (sBst rf gn ot ln i).2.1 < gn i ∨ (gn i = (sBst rf gn ot ln i).2.1 ∧ (ot i < (sBst rf gn ot ln i).2.2.1 ∨ (ot i = (sBst rf gn ot ln i).2.2.1 ∧ ¬ (sBst rf gn ot ln i).2.2.2 ≤ ln i)))) then (nI i, gn i, ot i, ln i) else sBst rf gn ot ln i
def sBest (ρ : zRS) (N s : Nat) (tm : Nat → Int32) (a u : Nat) : Int32 := (sBst (fun b => sRef N s (ρ 3 0) (ρ 3 1) (ρ 2 u) tm a b) (fun b => sGain ρ s (ρ 1 u) a b) (fun b => tm (sPr (a * s) (b * s))) (fun b => sLn s a b) N).1
theorem sRef_self (N s : Nat) (ap ti lf : Int32) (tm : Nat → Int32) (a : Nat) : ¬ sRef N s ap ti lf tm a a = 0 := by
  unfold sRef
  rw [if_pos rfl]
  decide
set_option maxRecDepth 10000 in
set_option maxHeartbeats 1000000 in
theorem c_squaresOfSign {G : zW} {f : zHM} {m : Nat × Nat} {t r la n : Nat} {A : Nat → Nat} {ρ : zRS} {xs tm : Nat → Int32} (hr : RPic f t r la A ρ n xs tm) (x : Int32) : zM G yX1_squaresOfSign cX1_squaresOfSign 5 (some .int) 2 [.ref r, .int x] (f, m) (zS (.int (sThat ρ x)) f m) := by
  refine zM.of (by decide) (Nat.le_of_ble_eq_true rfl) ?_
  have r0 := hr.1
  have loop : ∀ (k i : Nat), i + k = 144 → zV G yX1_squaresOfSign cX1_squaresOfSign 5 (some .int) 2 4 [(0, .ref r), (1, .int x), (2, .int (sSum (fun q => if sSgn (sLack ρ q) = x then 1 else 0) i)), (3, .int (nI i))] [] (f, m) (zS (.int (sThat ρ x)) f m) := by
    intro k
    induction k with
    | zero =>
      intro i hi 
      have hi : i = 144 := by omega
      subst hi
      refine v_iload_n dX1_squaresOfSign_4 rfl rfl ?_
      refine v_sipush (nI 144) dX1_squaresOfSign_5 (by decide) ?_
      refine v_icmp_ge 50 dX1_squaresOfSign_8 (by decide) (fun b8 => ?_) (fun b8 => ?_)
      · refine v_iload_n dX1_squaresOfSign_50 rfl rfl ?_
        exact v_ireturn dX1_squaresOfSign_51 rfl ⟨rfl, rfl, rfl⟩
      · exact absurd (nI_le (by omega) (by omega)) b8
    | succ k ih =>
      intro i hi 
      have h9 : i < 144 := by omega
      refine v_iload_n dX1_squaresOfSign_4 rfl rfl ?_
      refine v_sipush (nI 144) dX1_squaresOfSign_5 (by decide) ?_
      refine v_icmp_ge 50 dX1_squaresOfSign_8 (by decide) (fun b8 => ?_) (fun b8 => ?_)
      · exact absurd b8 (nI_ge h9 (by omega))
      · refine v_aload_n dX1_squaresOfSign_11 rfl rfl ?_
        refine v_iload_n dX1_squaresOfSign_12 rfl rfl ?_
        refine v_callVp kX1_111 gi_X1_lackOf ge_X1_lackOf rfl dX1_squaresOfSign_13 (by assumption) (c_lackOf hr h9) rfl rfl (by decide) (Nat.le_of_ble_eq_true rfl) ?_
        refine v_istore dX1_squaresOfSign_16 (by decide) ?_
        refine v_iload dX1_squaresOfSign_18 rfl ?_
        refine v_if_le 27 dX1_squaresOfSign_20 (by decide) (fun b20 => ?_) (fun b20 => ?_)
        · refine v_iload dX1_squaresOfSign_27 rfl ?_
          refine v_if_ge 36 dX1_squaresOfSign_29 (by decide) (fun b29 => ?_) (fun b29 => ?_)
          · have hs : sSgn (sLack ρ i) = 0 := (if_neg (Int32.not_lt.mpr b20)).trans (if_neg (Int32.not_lt.mpr b29))
            refine v_iconst (0) dX1_squaresOfSign_36 (by decide) ?_
            refine v_iload_n dX1_squaresOfSign_37 rfl rfl ?_
            refine v_icmp_ne 44 dX1_squaresOfSign_38 (by decide) (fun b38 => ?_) (fun b38 => ?_)
            · refine v_iincN dX1_squaresOfSign_44 rfl (by decide) ?_
              refine v_goto 4 dX1_squaresOfSign_47 (by decide) ?_
              exact v_loc (lv' := [(0, .ref r), (1, .int x), (2, .int (sSum (fun q => if sSgn (sLack ρ q) = x then 1 else 0) (i + 1))), (3, .int (nI (i + 1)))]) ⟨rfl, rfl, zlkE rfl (by show _ = sSum _ i + (if sSgn (sLack ρ i) = x then 1 else 0); rw [hs]; first | rw [if_pos b38] | rw [if_neg b38, Int32.add_zero]), rfl, trivial⟩ (ih (i + 1) (by omega))
            · refine v_iincC (1) dX1_squaresOfSign_41 rfl (by decide) (by decide) ?_
              refine v_iincN dX1_squaresOfSign_44 rfl (by decide) ?_
              refine v_goto 4 dX1_squaresOfSign_47 (by decide) ?_
              exact v_loc (lv' := [(0, .ref r), (1, .int x), (2, .int (sSum (fun q => if sSgn (sLack ρ q) = x then 1 else 0) (i + 1))), (3, .int (nI (i + 1)))]) ⟨rfl, rfl, zlkE rfl (by show _ = sSum _ i + (if sSgn (sLack ρ i) = x then 1 else 0); rw [hs]; first | rw [if_pos b38] | rw [if_neg b38, Int32.add_zero]), rfl, trivial⟩ (ih (i + 1) (by omega))
          · have hs : sSgn (sLack ρ i) = -1 := (if_neg (Int32.not_lt.mpr b20)).trans (if_pos (Int32.not_le.mp b29))
            refine v_iconst (-1) dX1_squaresOfSign_32 (by decide) ?_
            refine v_goto 37 dX1_squaresOfSign_33 (by decide) ?_
            refine v_iload_n dX1_squaresOfSign_37 rfl rfl ?_
            refine v_icmp_ne 44 dX1_squaresOfSign_38 (by decide) (fun b38 => ?_) (fun b38 => ?_)
            · refine v_iincN dX1_squaresOfSign_44 rfl (by decide) ?_
              refine v_goto 4 dX1_squaresOfSign_47 (by decide) ?_
              exact v_loc (lv' := [(0, .ref r), (1, .int x), (2, .int (sSum (fun q => if sSgn (sLack ρ q) = x then 1 else 0) (i + 1))), (3, .int (nI (i + 1)))]) ⟨rfl, rfl, zlkE rfl (by show _ = sSum _ i + (if sSgn (sLack ρ i) = x then 1 else 0); rw [hs]; first | rw [if_pos b38] | rw [if_neg b38, Int32.add_zero]), rfl, trivial⟩ (ih (i + 1) (by omega))
            · refine v_iincC (1) dX1_squaresOfSign_41 rfl (by decide) (by decide) ?_
              refine v_iincN dX1_squaresOfSign_44 rfl (by decide) ?_
              refine v_goto 4 dX1_squaresOfSign_47 (by decide) ?_
              exact v_loc (lv' := [(0, .ref r), (1, .int x), (2, .int (sSum (fun q => if sSgn (sLack ρ q) = x then 1 else 0) (i + 1))), (3, .int (nI (i + 1)))]) ⟨rfl, rfl, zlkE rfl (by show _ = sSum _ i + (if sSgn (sLack ρ i) = x then 1 else 0); rw [hs]; first | rw [if_pos b38] | rw [if_neg b38, Int32.add_zero]), rfl, trivial⟩ (ih (i + 1) (by omega))
        · have hs : sSgn (sLack ρ i) = 1 := if_pos (Int32.not_le.mp b20)
          refine v_iconst (1) dX1_squaresOfSign_23 (by decide) ?_
          refine v_goto 37 dX1_squaresOfSign_24 (by decide) ?_
          refine v_iload_n dX1_squaresOfSign_37 rfl rfl ?_
          refine v_icmp_ne 44 dX1_squaresOfSign_38 (by decide) (fun b38 => ?_) (fun b38 => ?_)
          · refine v_iincN dX1_squaresOfSign_44 rfl (by decide) ?_
            refine v_goto 4 dX1_squaresOfSign_47 (by decide) ?_
            exact v_loc (lv' := [(0, .ref r), (1, .int x), (2, .int (sSum (fun q => if sSgn (sLack ρ q) = x then 1 else 0) (i + 1))), (3, .int (nI (i + 1)))]) ⟨rfl, rfl, zlkE rfl (by show _ = sSum _ i + (if sSgn (sLack ρ i) = x then 1 else 0); rw [hs]; first | rw [if_pos b38] | rw [if_neg b38, Int32.add_zero]), rfl, trivial⟩ (ih (i + 1) (by omega))
          · refine v_iincC (1) dX1_squaresOfSign_41 rfl (by decide) (by decide) ?_
            refine v_iincN dX1_squaresOfSign_44 rfl (by decide) ?_
            refine v_goto 4 dX1_squaresOfSign_47 (by decide) ?_
            exact v_loc (lv' := [(0, .ref r), (1, .int x), (2, .int (sSum (fun q => if sSgn (sLack ρ q) = x then 1 else 0) (i + 1))), (3, .int (nI (i + 1)))]) ⟨rfl, rfl, zlkE rfl (by show _ = sSum _ i + (if sSgn (sLack ρ i) = x then 1 else 0); rw [hs]; first | rw [if_pos b38] | rw [if_neg b38, Int32.add_zero]), rfl, trivial⟩ (ih (i + 1) (by omega))
  refine v_iconst (0) dX1_squaresOfSign_0 (by decide) ?_
  refine v_istore_n dX1_squaresOfSign_1 rfl (by decide) ?_
  refine v_iconst (0) dX1_squaresOfSign_2 (by decide) ?_
  refine v_istore_n dX1_squaresOfSign_3 rfl (by decide) ?_
  exact v_loc (lv' := [(0, .ref r), (1, .int x), (2, .int (sSum (fun q => if sSgn (sLack ρ q) = x then 1 else 0) 0)), (3, .int (nI 0))]) ⟨rfl, rfl, rfl, rfl, trivial⟩ (loop 144 0 rfl)
set_option maxRecDepth 10000 in
set_option maxHeartbeats 1000000 in
theorem c_endsAt {G : zW} {f : zHM} {m : Nat × Nat} {t r la n : Nat} {A : Nat → Nat} {ρ : zRS} {xs tm : Nat → Int32} (hr : RPic f t r la A ρ n xs tm) (hn : n ≤ 201) (x : Int32) : zM G yX1_endsAt cX1_endsAt 4 (some .int) 1 [.ref r, .int x] (f, m) (zS (.int (sEnds ρ n x)) f m) := by
  refine zM.of (by decide) (Nat.le_of_ble_eq_true rfl) ?_
  obtain ⟨r0, ⟨g1, a1, e1⟩, ⟨g2, a2, e2⟩, ⟨g3, a3, e3⟩, ⟨g4, a4, e4⟩, ⟨g5, a5, e5⟩, ⟨g6, a6, e6⟩, ⟨g7, a7, e7⟩, ⟨g8, a8, e8⟩, ⟨g9, a9, e9⟩, ⟨g10, a10, e10⟩⟩ := id hr
  have loop : ∀ (k i : Nat), i + k = n → zV G yX1_endsAt cX1_endsAt 4 (some .int) 1 4 [(0, .ref r), (1, .int x), (2, .int (sSum (fun c => if ρ 4 c = x ∨ ρ 5 c = x then 1 else 0) i)), (3, .int (nI i))] [] (f, m) (zS (.int (sEnds ρ n x)) f m) := by
    intro k
    induction k with
    | zero =>
      intro i hi 
      have hi : i = n := by omega
      subst hi
      refine v_iload_n dX1_endsAt_4 rfl rfl ?_
      refine v_aload_n dX1_endsAt_5 rfl rfl ?_
      refine v_getfield fX1_68 dX1_endsAt_6 (by assumption) (by rfl) ?_
      refine v_icmp_ge 41 dX1_endsAt_9 (by decide) (fun b9 => ?_) (fun b9 => ?_)
      · refine v_iload_n dX1_endsAt_41 rfl rfl ?_
        exact v_ireturn dX1_endsAt_42 rfl ⟨rfl, rfl, rfl⟩
      · exact absurd (nI_le (by omega) (by omega)) b9
    | succ k ih =>
      intro i hi 
      have h9 : i < n := by omega
      refine v_iload_n dX1_endsAt_4 rfl rfl ?_
      refine v_aload_n dX1_endsAt_5 rfl rfl ?_
      refine v_getfield fX1_68 dX1_endsAt_6 (by assumption) (by rfl) ?_
      refine v_icmp_ge 41 dX1_endsAt_9 (by decide) (fun b9 => ?_) (fun b9 => ?_)
      · exact absurd b9 (nI_ge h9 (by omega))
      · refine v_aload_n dX1_endsAt_12 rfl rfl ?_
        refine v_getfield fX1_28 dX1_endsAt_13 (by assumption) (by rfl) ?_
        refine v_iload_n dX1_endsAt_16 rfl rfl ?_
        refine v_iaload dX1_endsAt_17 (by assumption) (vp_in_nI (by omega) (by omega)) ?_
        rw [nI_clamp (by omega), e4 i h9]
        refine v_iload_n dX1_endsAt_18 rfl rfl ?_
        refine v_icmp_eq 32 dX1_endsAt_19 (by decide) (fun b19 => ?_) (fun b19 => ?_)
        · refine v_iincC (1) dX1_endsAt_32 rfl (by decide) (by decide) ?_
          refine v_iincN dX1_endsAt_35 rfl (by decide) ?_
          refine v_goto 4 dX1_endsAt_38 (by decide) ?_
          exact v_loc (lv' := [(0, .ref r), (1, .int x), (2, .int (sSum (fun c => if ρ 4 c = x ∨ ρ 5 c = x then 1 else 0) (i + 1))), (3, .int (nI (i + 1)))]) ⟨rfl, rfl, zlkE rfl (by show _ = sSum _ i + (if ρ 4 i = x ∨ ρ 5 i = x then 1 else 0); simp [b9, b19]), rfl, trivial⟩ (ih (i + 1) (by omega))
        · refine v_aload_n dX1_endsAt_22 rfl rfl ?_
          refine v_getfield fX1_31 dX1_endsAt_23 (by assumption) (by rfl) ?_
          refine v_iload_n dX1_endsAt_26 rfl rfl ?_
          refine v_iaload dX1_endsAt_27 (by assumption) (vp_in_nI (by omega) (by omega)) ?_
          rw [nI_clamp (by omega), e5 i h9]
          refine v_iload_n dX1_endsAt_28 rfl rfl ?_
          refine v_icmp_ne 35 dX1_endsAt_29 (by decide) (fun b29 => ?_) (fun b29 => ?_)
          · refine v_iincN dX1_endsAt_35 rfl (by decide) ?_
            refine v_goto 4 dX1_endsAt_38 (by decide) ?_
            exact v_loc (lv' := [(0, .ref r), (1, .int x), (2, .int (sSum (fun c => if ρ 4 c = x ∨ ρ 5 c = x then 1 else 0) (i + 1))), (3, .int (nI (i + 1)))]) ⟨rfl, rfl, zlkE rfl (by show _ = sSum _ i + (if ρ 4 i = x ∨ ρ 5 i = x then 1 else 0); simp [b9, b19, b29]), rfl, trivial⟩ (ih (i + 1) (by omega))
          · refine v_iincC (1) dX1_endsAt_32 rfl (by decide) (by decide) ?_
            refine v_iincN dX1_endsAt_35 rfl (by decide) ?_
            refine v_goto 4 dX1_endsAt_38 (by decide) ?_
            exact v_loc (lv' := [(0, .ref r), (1, .int x), (2, .int (sSum (fun c => if ρ 4 c = x ∨ ρ 5 c = x then 1 else 0) (i + 1))), (3, .int (nI (i + 1)))]) ⟨rfl, rfl, zlkE rfl (by show _ = sSum _ i + (if ρ 4 i = x ∨ ρ 5 i = x then 1 else 0); simp [b9, b19, b29]), rfl, trivial⟩ (ih (i + 1) (by omega))
  refine v_iconst (0) dX1_endsAt_0 (by decide) ?_
  refine v_istore_n dX1_endsAt_1 rfl (by decide) ?_
  refine v_iconst (0) dX1_endsAt_2 (by decide) ?_
  refine v_istore_n dX1_endsAt_3 rfl (by decide) ?_
  exact v_loc (lv' := [(0, .ref r), (1, .int x), (2, .int (sSum (fun c => if ρ 4 c = x ∨ ρ 5 c = x then 1 else 0) 0)), (3, .int (nI 0))]) ⟨rfl, rfl, rfl, rfl, trivial⟩ (loop n 0 (by omega))
set_option maxRecDepth 10000 in
set_option maxHeartbeats 1000000 in
theorem c_chordsOf {G : zW} {f : zHM} {m : Nat × Nat} {t r la n : Nat} {A : Nat → Nat} {ρ : zRS} {xs tm : Nat → Int32} (hr : RPic f t r la A ρ n xs tm) (hn : n ≤ 201) (x : Int32) : zM G yX1_chordsOf cX1_chordsOf 4 (some .int) 1 [.ref r, .int x] (f, m) (zS (.int (sCh ρ n x)) f m) := by
  refine zM.of (by decide) (Nat.le_of_ble_eq_true rfl) ?_
  obtain ⟨r0, ⟨g1, a1, e1⟩, ⟨g2, a2, e2⟩, ⟨g3, a3, e3⟩, ⟨g4, a4, e4⟩, ⟨g5, a5, e5⟩, ⟨g6, a6, e6⟩, ⟨g7, a7, e7⟩, ⟨g8, a8, e8⟩, ⟨g9, a9, e9⟩, ⟨g10, a10, e10⟩⟩ := id hr
  have loop : ∀ (k i : Nat), i + k = n → zV G yX1_chordsOf cX1_chordsOf 4 (some .int) 1 4 [(0, .ref r), (1, .int x), (2, .int (sSum (fun c => if ρ 6 c = x then 1 else 0) i)), (3, .int (nI i))] [] (f, m) (zS (.int (sCh ρ n x)) f m) := by
    intro k
    induction k with
    | zero =>
      intro i hi 
      have hi : i = n := by omega
      subst hi
      refine v_iload_n dX1_chordsOf_4 rfl rfl ?_
      refine v_aload_n dX1_chordsOf_5 rfl rfl ?_
      refine v_getfield fX1_68 dX1_chordsOf_6 (by assumption) (by rfl) ?_
      refine v_icmp_ge 31 dX1_chordsOf_9 (by decide) (fun b9 => ?_) (fun b9 => ?_)
      · refine v_iload_n dX1_chordsOf_31 rfl rfl ?_
        exact v_ireturn dX1_chordsOf_32 rfl ⟨rfl, rfl, rfl⟩
      · exact absurd (nI_le (by omega) (by omega)) b9
    | succ k ih =>
      intro i hi 
      have h9 : i < n := by omega
      refine v_iload_n dX1_chordsOf_4 rfl rfl ?_
      refine v_aload_n dX1_chordsOf_5 rfl rfl ?_
      refine v_getfield fX1_68 dX1_chordsOf_6 (by assumption) (by rfl) ?_
      refine v_icmp_ge 31 dX1_chordsOf_9 (by decide) (fun b9 => ?_) (fun b9 => ?_)
      · exact absurd b9 (nI_ge h9 (by omega))
      · refine v_aload_n dX1_chordsOf_12 rfl rfl ?_
        refine v_getfield fX1_34 dX1_chordsOf_13 (by assumption) (by rfl) ?_
        refine v_iload_n dX1_chordsOf_16 rfl rfl ?_
        refine v_iaload dX1_chordsOf_17 (by assumption) (vp_in_nI (by omega) (by omega)) ?_
        rw [nI_clamp (by omega), e6 i h9]
        refine v_iload_n dX1_chordsOf_18 rfl rfl ?_
        refine v_icmp_ne 25 dX1_chordsOf_19 (by decide) (fun b19 => ?_) (fun b19 => ?_)
        · refine v_iincN dX1_chordsOf_25 rfl (by decide) ?_
          refine v_goto 4 dX1_chordsOf_28 (by decide) ?_
          exact v_loc (lv' := [(0, .ref r), (1, .int x), (2, .int (sSum (fun c => if ρ 6 c = x then 1 else 0) (i + 1))), (3, .int (nI (i + 1)))]) ⟨rfl, rfl, zlkE rfl (by show _ = sSum _ i + (if ρ 6 i = x then 1 else 0); first | rw [if_pos b19] | rw [if_neg b19, Int32.add_zero]), rfl, trivial⟩ (ih (i + 1) (by omega))
        · refine v_iincC (1) dX1_chordsOf_22 rfl (by decide) (by decide) ?_
          refine v_iincN dX1_chordsOf_25 rfl (by decide) ?_
          refine v_goto 4 dX1_chordsOf_28 (by decide) ?_
          exact v_loc (lv' := [(0, .ref r), (1, .int x), (2, .int (sSum (fun c => if ρ 6 c = x then 1 else 0) (i + 1))), (3, .int (nI (i + 1)))]) ⟨rfl, rfl, zlkE rfl (by show _ = sSum _ i + (if ρ 6 i = x then 1 else 0); first | rw [if_pos b19] | rw [if_neg b19, Int32.add_zero]), rfl, trivial⟩ (ih (i + 1) (by omega))
  refine v_iconst (0) dX1_chordsOf_0 (by decide) ?_
  refine v_istore_n dX1_chordsOf_1 rfl (by decide) ?_
  refine v_iconst (0) dX1_chordsOf_2 (by decide) ?_
  refine v_istore_n dX1_chordsOf_3 rfl (by decide) ?_
  exact v_loc (lv' := [(0, .ref r), (1, .int x), (2, .int (sSum (fun c => if ρ 6 c = x then 1 else 0) 0)), (3, .int (nI 0))]) ⟨rfl, rfl, rfl, rfl, trivial⟩ (loop n 0 (by omega))
set_option maxRecDepth 10000 in
set_option maxHeartbeats 1000000 in
theorem c_threadLying {G : zW} {f0 : zHM} {m0 : Nat × Nat} {t r la n : Nat} {A : Nat → Nat} {ρ : zRS} {xs tm : Nat → Int32} (hr : RPic f0 t r la A ρ n xs tm) (ht : t ≤ 900) {N s : Nat} (hw : RW ρ N s n) {M : Nat × Nat} (hL : LNok f0 m0 la M) (x : Int32) : zM G yX1_threadLying cX1_threadLying 4 (some .int) 4 [.ref r, .int x] (f0, m0) (zD (some (.int (sThr ρ s n x))) (fun f' m' => LNok f' m' la M ∧ zFr zT9 f0 f')) := by
  refine zM.of (by decide) (Nat.le_of_ble_eq_true rfl) ?_
  have hn201 := hw.2.1
  have loop : ∀ (k i : Nat), i + k = n → ∀ (f : zHM) (m : Nat × Nat), RPic f t r la A ρ n xs tm → LNok f m la M → zFr zT9 f0 f → zV G yX1_threadLying cX1_threadLying 4 (some .int) 4 4 [(0, .ref r), (1, .int x), (2, .int (sSum (fun c => if ρ 6 c = x then sLn s (zn (ρ 4 c)) (zn (ρ 5 c)) else 0) i)), (3, .int (nI i))] [] (f, m) (zD (some (.int (sThr ρ s n x))) (fun f' m' => LNok f' m' la M ∧ zFr zT9 f0 f')) := by
    intro k
    induction k with
    | zero =>
      intro i hi f m hr hL hf0
      have hi : i = n := by omega
      subst hi
      obtain ⟨r0, ⟨g1, a1, e1⟩, ⟨g2, a2, e2⟩, ⟨g3, a3, e3⟩, ⟨g4, a4, e4⟩, ⟨g5, a5, e5⟩, ⟨g6, a6, e6⟩, ⟨g7, a7, e7⟩, ⟨g8, a8, e8⟩, ⟨g9, a9, e9⟩, ⟨g10, a10, e10⟩⟩ := id hr
      refine v_iload_n dX1_threadLying_4 rfl rfl ?_
      refine v_aload_n dX1_threadLying_5 rfl rfl ?_
      refine v_getfield fX1_68 dX1_threadLying_6 (by assumption) (by rfl) ?_
      refine v_icmp_ge 50 dX1_threadLying_9 (by decide) (fun b9 => ?_) (fun b9 => ?_)
      · refine v_iload_n dX1_threadLying_50 rfl rfl ?_
        exact v_ireturn dX1_threadLying_51 rfl ⟨rfl, hL, hf0⟩
      · exact absurd (nI_le (by omega) (by omega)) b9
    | succ k ih =>
      intro i hi f m hr hL hf0
      have h9 : i < n := by omega
      obtain ⟨a, b, u, ha, hb, hn, hu, q4, q5, q6⟩ := hw.2.2 i h9
      have hv9 := hw.1.pos
      obtain ⟨r0, ⟨g1, a1, e1⟩, ⟨g2, a2, e2⟩, ⟨g3, a3, e3⟩, ⟨g4, a4, e4⟩, ⟨g5, a5, e5⟩, ⟨g6, a6, e6⟩, ⟨g7, a7, e7⟩, ⟨g8, a8, e8⟩, ⟨g9, a9, e9⟩, ⟨g10, a10, e10⟩⟩ := id hr
      refine v_iload_n dX1_threadLying_4 rfl rfl ?_
      refine v_aload_n dX1_threadLying_5 rfl rfl ?_
      refine v_getfield fX1_68 dX1_threadLying_6 (by assumption) (by rfl) ?_
      refine v_icmp_ge 50 dX1_threadLying_9 (by decide) (fun b9 => ?_) (fun b9 => ?_)
      · exact absurd b9 (nI_ge h9 (by omega))
      · refine v_aload_n dX1_threadLying_12 rfl rfl ?_
        refine v_getfield fX1_34 dX1_threadLying_13 (by assumption) (by rfl) ?_
        refine v_iload_n dX1_threadLying_16 rfl rfl ?_
        refine v_iaload dX1_threadLying_17 (by assumption) (vp_in_nI (by omega) (by omega)) ?_
        rw [nI_clamp (by omega), e6 i h9]
        refine v_iload_n dX1_threadLying_18 rfl rfl ?_
        refine v_icmp_ne 44 dX1_threadLying_19 (by decide) (fun b19 => ?_) (fun b19 => ?_)
        · refine v_iincN dX1_threadLying_44 rfl (by decide) ?_
          refine v_goto 4 dX1_threadLying_47 (by decide) ?_
          exact v_loc (lv' := [(0, .ref r), (1, .int x), (2, .int (sSum (fun c => if ρ 6 c = x then sLn s (zn (ρ 4 c)) (zn (ρ 5 c)) else 0) (i + 1))), (3, .int (nI (i + 1)))]) ⟨rfl, rfl, zlkE rfl (by show _ = sSum _ i + (if ρ 6 i = x then sLn s (zn (ρ 4 i)) (zn (ρ 5 i)) else 0); first | (rw [if_neg b19, Int32.add_zero]; done) | (rw [if_pos b19, q4, q5]; unfold zn; rw [nI_clamp (by omega), nI_clamp (by omega)]; rfl)), rfl, trivial⟩ (ih (i + 1) (by omega) f m hr hL (by first | exact hf0.trans hf9 | exact hf0))
        · refine v_iload_n dX1_threadLying_22 rfl rfl ?_
          refine v_aload_n dX1_threadLying_23 rfl rfl ?_
          refine v_aload_n dX1_threadLying_24 rfl rfl ?_
          refine v_getfield fX1_28 dX1_threadLying_25 (by assumption) (by rfl) ?_
          refine v_iload_n dX1_threadLying_28 rfl rfl ?_
          refine v_iaload dX1_threadLying_29 (by assumption) (vp_in_nI (by omega) (by omega)) ?_
          rw [nI_clamp (by omega), e4 i h9, q4]
          refine v_aload_n dX1_threadLying_30 rfl rfl ?_
          refine v_getfield fX1_31 dX1_threadLying_31 (by assumption) (by rfl) ?_
          refine v_iload_n dX1_threadLying_34 rfl rfl ?_
          refine v_iaload dX1_threadLying_35 (by assumption) (vp_in_nI (by omega) (by omega)) ?_
          rw [nI_clamp (by omega), e5 i h9, q5]
          refine v_callVr kX1_105 gi_X1_lineBetween ge_X1_lineBetween rfl dX1_threadLying_36 (by assumption) (c_lineBetween hr hw.1 ha hb hn hL) rfl rfl (by decide) (Nat.le_of_ble_eq_true rfl) (fun q f m hc => ?_)
          obtain ⟨hl9, hL, hf9⟩ := hc
          have hr := hr.fr hf9 (fun k hk => by show ¬ (t + k = 950); omega)
          obtain ⟨sq9, gq9, hq1, hq2, hq3⟩ := hl9
          obtain ⟨r0, ⟨g1, a1, e1⟩, ⟨g2, a2, e2⟩, ⟨g3, a3, e3⟩, ⟨g4, a4, e4⟩, ⟨g5, a5, e5⟩, ⟨g6, a6, e6⟩, ⟨g7, a7, e7⟩, ⟨g8, a8, e8⟩, ⟨g9, a9, e9⟩, ⟨g10, a10, e10⟩⟩ := id hr
          refine v_getfield fX1_108 dX1_threadLying_39 (by assumption) (by rfl) ?_
          refine v_iadd dX1_threadLying_42 ?_
          refine v_istore_n dX1_threadLying_43 rfl (by decide) ?_
          refine v_iincN dX1_threadLying_44 rfl (by decide) ?_
          refine v_goto 4 dX1_threadLying_47 (by decide) ?_
          exact v_loc (lv' := [(0, .ref r), (1, .int x), (2, .int (sSum (fun c => if ρ 6 c = x then sLn s (zn (ρ 4 c)) (zn (ρ 5 c)) else 0) (i + 1))), (3, .int (nI (i + 1)))]) ⟨rfl, rfl, zlkE rfl (by show _ = sSum _ i + (if ρ 6 i = x then sLn s (zn (ρ 4 i)) (zn (ρ 5 i)) else 0); first | (rw [if_neg b19, Int32.add_zero]; done) | (rw [if_pos b19, q4, q5]; unfold zn; rw [nI_clamp (by omega), nI_clamp (by omega)]; rfl)), rfl, trivial⟩ (ih (i + 1) (by omega) f m hr hL (by first | exact hf0.trans hf9 | exact hf0))
  refine v_iconst (0) dX1_threadLying_0 (by decide) ?_
  refine v_istore_n dX1_threadLying_1 rfl (by decide) ?_
  refine v_iconst (0) dX1_threadLying_2 (by decide) ?_
  refine v_istore_n dX1_threadLying_3 rfl (by decide) ?_
  exact v_loc (lv' := [(0, .ref r), (1, .int x), (2, .int (sSum (fun c => if ρ 6 c = x then sLn s (zn (ρ 4 c)) (zn (ρ 5 c)) else 0) 0)), (3, .int (nI 0))]) ⟨rfl, rfl, rfl, rfl, trivial⟩ (loop n 0 (by omega) f0 m0 hr hL zFr.refl)
set_option maxRecDepth 10000 in
set_option maxHeartbeats 1000000 in
theorem c_bestNail {G : zW} {f0 : zHM} {m0 : Nat × Nat} {t r la n : Nat} {A : Nat → Nat} {ρ : zRS} {xs tm : Nat → Int32} (hr : RPic f0 t r la A ρ n xs tm) (ht : t ≤ 900) {N s : Nat} (hv : RV ρ N s) {M : Nat × Nat} (hL : LNok f0 m0 la M) {a u : Nat} (ha : a < N) (hu : u < 3) (hat : ρ 0 1 = nI a) (hnow : ρ 0 2 = nI u) : zM G yX1_bestNail cX1_bestNail 10 (some .int) 5 [.ref r] (f0, m0) (zD (some (.int (sBest ρ N s tm a u))) (fun f' m' => LNok f' m' la M ∧ zFr zT9 f0 f')) := by
  refine zM.of (by decide) (Nat.le_of_ble_eq_true rfl) ?_
  have hv9 := hv.pos
  obtain ⟨rf, hrf⟩ : ∃ z : Nat → Int32, (∀ b, z b = sRef N s (ρ 3 0) (ρ 3 1) (ρ 2 u) tm a b) ∧ True := ⟨_, fun _ => rfl, trivial⟩
  obtain ⟨gn, hgn⟩ : ∃ z : Nat → Int32, (∀ b, z b = sGain ρ s (ρ 1 u) a b) ∧ True := ⟨_, fun _ => rfl, trivial⟩
  obtain ⟨ln, hln⟩ : ∃ z : Nat → Int32, (∀ b, z b = sLn s a b) ∧ True := ⟨_, fun _ => rfl, trivial⟩
  obtain ⟨ot, hot⟩ : ∃ z : Nat → Int32, (∀ b, z b = tm (sPr (a * s) (b * s))) ∧ True := ⟨_, fun _ => rfl, trivial⟩
  have hself : ∀ b, rf b = 0 → a ≠ b := fun b hb e => sRef_self N s (ρ 3 0) (ρ 3 1) (ρ 2 u) tm a (by rw [← hb, hrf.1 b, e])
  have loop : ∀ (k i : Nat), i + k = N → ∀ (f : zHM) (m : Nat × Nat), RPic f t r la A ρ n xs tm → LNok f m la M → zFr zT9 f0 f → zV G yX1_bestNail cX1_bestNail 10 (some .int) 5 12 [(0, .ref r), (1, .int (sBst rf gn ot ln i).1), (2, .int (sBst rf gn ot ln i).2.1), (3, .int (sBst rf gn ot ln i).2.2.1), (4, .int (sBst rf gn ot ln i).2.2.2), (5, .int (nI i))] [] (f, m) (zD (some (.int (sBest ρ N s tm a u))) (fun f' m' => LNok f' m' la M ∧ zFr zT9 f0 f')) := by
    intro k
    induction k with
    | zero =>
      intro i hi f m hr hL hf0
      have hi : i = N := by omega
      subst hi
      obtain ⟨r0, ⟨g1, a1, e1⟩, ⟨g2, a2, e2⟩, ⟨g3, a3, e3⟩, ⟨g4, a4, e4⟩, ⟨g5, a5, e5⟩, ⟨g6, a6, e6⟩, ⟨g7, a7, e7⟩, ⟨g8, a8, e8⟩, ⟨g9, a9, e9⟩, ⟨g10, a10, e10⟩⟩ := id hr
      refine v_iload dX1_bestNail_12 rfl ?_
      refine v_aload_n dX1_bestNail_14 rfl rfl ?_
      refine v_getfield fX1_9 dX1_bestNail_15 (by assumption) (by rfl) ?_
      rw [hv.1]
      refine v_icmp_ge 132 dX1_bestNail_18 (by decide) (fun b18 => ?_) (fun b18 => ?_)
      · refine v_iload_n dX1_bestNail_132 rfl rfl ?_
        exact v_ireturn dX1_bestNail_133 rfl ⟨by rw [show rf = _ from funext hrf.1, show gn = _ from funext hgn.1, show ot = _ from funext hot.1, show ln = _ from funext hln.1]; rfl, hL, hf0⟩
      · exact absurd (nI_le (by omega) (by omega)) b18
    | succ k ih =>
      intro i hi f m hr hL hf0
      have h9 : i < N := by omega
      obtain ⟨r0, ⟨g1, a1, e1⟩, ⟨g2, a2, e2⟩, ⟨g3, a3, e3⟩, ⟨g4, a4, e4⟩, ⟨g5, a5, e5⟩, ⟨g6, a6, e6⟩, ⟨g7, a7, e7⟩, ⟨g8, a8, e8⟩, ⟨g9, a9, e9⟩, ⟨g10, a10, e10⟩⟩ := id hr
      refine v_iload dX1_bestNail_12 rfl ?_
      refine v_aload_n dX1_bestNail_14 rfl rfl ?_
      refine v_getfield fX1_9 dX1_bestNail_15 (by assumption) (by rfl) ?_
      rw [hv.1]
      refine v_icmp_ge 132 dX1_bestNail_18 (by decide) (fun b18 => ?_) (fun b18 => ?_)
      · exact absurd b18 (nI_ge h9 (by omega))
      · refine v_aload_n dX1_bestNail_21 rfl rfl ?_
        refine v_iload dX1_bestNail_22 rfl ?_
        refine v_callV1 kX1_120 gi_X1_refusal ge_X1_refusal rfl dX1_bestNail_24 (by assumption) (c_refusal hr ht hv hL ha h9 hu hat hnow) rfl rfl (by decide) (Nat.le_of_ble_eq_true rfl) (fun f m hc => ?_)
        obtain ⟨hL, hf9⟩ := hc
        have hr := hr.fr hf9 (fun k hk => by show ¬ (t + k = 950); omega)
        replace hf0 := hf0.trans hf9
        obtain ⟨r0, ⟨g1, a1, e1⟩, ⟨g2, a2, e2⟩, ⟨g3, a3, e3⟩, ⟨g4, a4, e4⟩, ⟨g5, a5, e5⟩, ⟨g6, a6, e6⟩, ⟨g7, a7, e7⟩, ⟨g8, a8, e8⟩, ⟨g9, a9, e9⟩, ⟨g10, a10, e10⟩⟩ := id hr
        rw [← hrf.1 i]
        refine v_if_ne 126 dX1_bestNail_27 (by decide) (fun b27 => ?_) (fun b27 => ?_)
        · have hst : sBst rf gn ot ln (i + 1) = sBst rf gn ot ln i := if_neg (fun h => b27 h.1)
          refine v_iincN dX1_bestNail_126 rfl (by decide) ?_
          refine v_goto 12 dX1_bestNail_129 (by decide) ?_
          exact v_loc (lv' := [(0, .ref r), (1, .int (sBst rf gn ot ln (i + 1)).1), (2, .int (sBst rf gn ot ln (i + 1)).2.1), (3, .int (sBst rf gn ot ln (i + 1)).2.2.1), (4, .int (sBst rf gn ot ln (i + 1)).2.2.2), (5, .int (nI (i + 1)))]) ⟨rfl, zlkE rfl (by rw [hst]), zlkE rfl (by rw [hst]), zlkE rfl (by rw [hst]), zlkE rfl (by rw [hst]), rfl, trivial⟩ (ih (i + 1) (by omega) f m hr hL hf0)
        · have hne : a ≠ i := hself i b27
          refine v_aload_n dX1_bestNail_30 rfl rfl ?_
          refine v_iload dX1_bestNail_31 rfl ?_
          refine v_callV1 kX1_123 gi_X1_gainTo ge_X1_gainTo rfl dX1_bestNail_33 (by assumption) (c_gainTo hr ht hv hL ha h9 hne hu hat hnow) rfl rfl (by decide) (Nat.le_of_ble_eq_true rfl) (fun f m hc => ?_)
          obtain ⟨hL, hf9⟩ := hc
          have hr := hr.fr hf9 (fun k hk => by show ¬ (t + k = 950); omega)
          replace hf0 := hf0.trans hf9
          obtain ⟨r0, ⟨g1, a1, e1⟩, ⟨g2, a2, e2⟩, ⟨g3, a3, e3⟩, ⟨g4, a4, e4⟩, ⟨g5, a5, e5⟩, ⟨g6, a6, e6⟩, ⟨g7, a7, e7⟩, ⟨g8, a8, e8⟩, ⟨g9, a9, e9⟩, ⟨g10, a10, e10⟩⟩ := id hr
          rw [← hgn.1 i]
          refine v_istore dX1_bestNail_36 (by decide) ?_
          refine v_aload_n dX1_bestNail_38 rfl rfl ?_
          refine v_aload_n dX1_bestNail_39 rfl rfl ?_
          refine v_getfield fX1_53 dX1_bestNail_40 (by assumption) (by rfl) ?_
          rw [hat]
          refine v_iload dX1_bestNail_43 rfl ?_
          refine v_callVp kX1_102 gi_X1_timesLying ge_X1_timesLying rfl dX1_bestNail_45 (by assumption) (c_timesLying hr hv ha h9 hne) rfl rfl (by decide) (Nat.le_of_ble_eq_true rfl) ?_
          rw [← hot.1 i]
          refine v_istore dX1_bestNail_48 (by decide) ?_
          refine v_aload_n dX1_bestNail_50 rfl rfl ?_
          refine v_aload_n dX1_bestNail_51 rfl rfl ?_
          refine v_getfield fX1_53 dX1_bestNail_52 (by assumption) (by rfl) ?_
          rw [hat]
          refine v_iload dX1_bestNail_55 rfl ?_
          refine v_callVr kX1_105 gi_X1_lineBetween ge_X1_lineBetween rfl dX1_bestNail_57 (by assumption) (c_lineBetween hr hv ha h9 hne hL) rfl rfl (by decide) (Nat.le_of_ble_eq_true rfl) (fun q f m hc => ?_)
          obtain ⟨hl9, hL, hf9⟩ := hc
          have hr := hr.fr hf9 (fun k hk => by show ¬ (t + k = 950); omega)
          obtain ⟨sq9, gq9, hq1, hq2, hq3⟩ := hl9
          obtain ⟨r0, ⟨g1, a1, e1⟩, ⟨g2, a2, e2⟩, ⟨g3, a3, e3⟩, ⟨g4, a4, e4⟩, ⟨g5, a5, e5⟩, ⟨g6, a6, e6⟩, ⟨g7, a7, e7⟩, ⟨g8, a8, e8⟩, ⟨g9, a9, e9⟩, ⟨g10, a10, e10⟩⟩ := id hr
          replace hf0 := hf0.trans hf9
          refine v_getfield fX1_108 dX1_bestNail_60 (by assumption) (by rfl) ?_
          rw [show nI (sLen (min (a * s) (i * s)) (max (a * s) (i * s))) = ln i from (hln.1 i).symm]
          refine v_istore dX1_bestNail_63 (by decide) ?_
          refine v_iload dX1_bestNail_65 rfl ?_
          refine v_iload_n dX1_bestNail_67 rfl rfl ?_
          refine v_icmp_lt 84 dX1_bestNail_68 (by decide) (fun b68 => ?_) (fun b68 => ?_)
          · refine v_iconst (1) dX1_bestNail_84 (by decide) ?_
            refine v_goto 89 dX1_bestNail_85 (by decide) ?_
            refine v_istore dX1_bestNail_89 (by decide) ?_
            refine v_iload_n dX1_bestNail_91 rfl rfl ?_
            refine v_iconst (-1) dX1_bestNail_92 (by decide) ?_
            refine v_icmp_eq 113 dX1_bestNail_93 (by decide) (fun b93 => ?_) (fun b93 => ?_)
            · have hst : sBst rf gn ot ln (i + 1) = (nI i, gn i, ot i, ln i) := if_pos (by simp [b27, b68, b93])
              refine v_iload dX1_bestNail_113 rfl ?_
              refine v_istore_n dX1_bestNail_115 rfl (by decide) ?_
              refine v_iload dX1_bestNail_116 rfl ?_
              refine v_istore_n dX1_bestNail_118 rfl (by decide) ?_
              refine v_iload dX1_bestNail_119 rfl ?_
              refine v_istore_n dX1_bestNail_121 rfl (by decide) ?_
              refine v_iload dX1_bestNail_122 rfl ?_
              refine v_istore dX1_bestNail_124 (by decide) ?_
              refine v_iincN dX1_bestNail_126 rfl (by decide) ?_
              refine v_goto 12 dX1_bestNail_129 (by decide) ?_
              exact v_loc (lv' := [(0, .ref r), (1, .int (sBst rf gn ot ln (i + 1)).1), (2, .int (sBst rf gn ot ln (i + 1)).2.1), (3, .int (sBst rf gn ot ln (i + 1)).2.2.1), (4, .int (sBst rf gn ot ln (i + 1)).2.2.2), (5, .int (nI (i + 1)))]) ⟨rfl, zlkE rfl (by rw [hst]), zlkE rfl (by rw [hst]), zlkE rfl (by rw [hst]), zlkE rfl (by rw [hst]), rfl, trivial⟩ (ih (i + 1) (by omega) f m hr hL hf0)
            · refine v_iload dX1_bestNail_96 rfl ?_
              refine v_iload_n dX1_bestNail_98 rfl rfl ?_
              refine v_icmp_gt 113 dX1_bestNail_99 (by decide) (fun b99 => ?_) (fun b99 => ?_)
              · have hst : sBst rf gn ot ln (i + 1) = (nI i, gn i, ot i, ln i) := if_pos (by simp [b27, b68, b93, b99])
                refine v_iload dX1_bestNail_113 rfl ?_
                refine v_istore_n dX1_bestNail_115 rfl (by decide) ?_
                refine v_iload dX1_bestNail_116 rfl ?_
                refine v_istore_n dX1_bestNail_118 rfl (by decide) ?_
                refine v_iload dX1_bestNail_119 rfl ?_
                refine v_istore_n dX1_bestNail_121 rfl (by decide) ?_
                refine v_iload dX1_bestNail_122 rfl ?_
                refine v_istore dX1_bestNail_124 (by decide) ?_
                refine v_iincN dX1_bestNail_126 rfl (by decide) ?_
                refine v_goto 12 dX1_bestNail_129 (by decide) ?_
                exact v_loc (lv' := [(0, .ref r), (1, .int (sBst rf gn ot ln (i + 1)).1), (2, .int (sBst rf gn ot ln (i + 1)).2.1), (3, .int (sBst rf gn ot ln (i + 1)).2.2.1), (4, .int (sBst rf gn ot ln (i + 1)).2.2.2), (5, .int (nI (i + 1)))]) ⟨rfl, zlkE rfl (by rw [hst]), zlkE rfl (by rw [hst]), zlkE rfl (by rw [hst]), zlkE rfl (by rw [hst]), rfl, trivial⟩ (ih (i + 1) (by omega) f m hr hL hf0)
              · refine v_iload dX1_bestNail_102 rfl ?_
                refine v_iload_n dX1_bestNail_104 rfl rfl ?_
                refine v_icmp_ne 126 dX1_bestNail_105 (by decide) (fun b105 => ?_) (fun b105 => ?_)
                · have hst : sBst rf gn ot ln (i + 1) = sBst rf gn ot ln i := if_neg (by simp [b27, b68, b93, b99, b105])
                  refine v_iincN dX1_bestNail_126 rfl (by decide) ?_
                  refine v_goto 12 dX1_bestNail_129 (by decide) ?_
                  exact v_loc (lv' := [(0, .ref r), (1, .int (sBst rf gn ot ln (i + 1)).1), (2, .int (sBst rf gn ot ln (i + 1)).2.1), (3, .int (sBst rf gn ot ln (i + 1)).2.2.1), (4, .int (sBst rf gn ot ln (i + 1)).2.2.2), (5, .int (nI (i + 1)))]) ⟨rfl, zlkE rfl (by rw [hst]), zlkE rfl (by rw [hst]), zlkE rfl (by rw [hst]), zlkE rfl (by rw [hst]), rfl, trivial⟩ (ih (i + 1) (by omega) f m hr hL hf0)
                · refine v_iload dX1_bestNail_108 rfl ?_
                  refine v_if_eq 126 dX1_bestNail_110 (by decide) (fun b110 => ?_) (fun b110 => ?_)
                  · have hst : sBst rf gn ot ln (i + 1) = sBst rf gn ot ln i := by first | exact absurd b110 (by decide) | exact if_neg (by simp [b27, b68, b93, b99, b105])
                    refine v_iincN dX1_bestNail_126 rfl (by decide) ?_
                    refine v_goto 12 dX1_bestNail_129 (by decide) ?_
                    exact v_loc (lv' := [(0, .ref r), (1, .int (sBst rf gn ot ln (i + 1)).1), (2, .int (sBst rf gn ot ln (i + 1)).2.1), (3, .int (sBst rf gn ot ln (i + 1)).2.2.1), (4, .int (sBst rf gn ot ln (i + 1)).2.2.2), (5, .int (nI (i + 1)))]) ⟨rfl, zlkE rfl (by rw [hst]), zlkE rfl (by rw [hst]), zlkE rfl (by rw [hst]), zlkE rfl (by rw [hst]), rfl, trivial⟩ (ih (i + 1) (by omega) f m hr hL hf0)
                  · have hst : sBst rf gn ot ln (i + 1) = (nI i, gn i, ot i, ln i) := by first | exact absurd rfl b110 | exact if_pos (by simp [b27, b68, b93, b99, b105])
                    refine v_iload dX1_bestNail_113 rfl ?_
                    refine v_istore_n dX1_bestNail_115 rfl (by decide) ?_
                    refine v_iload dX1_bestNail_116 rfl ?_
                    refine v_istore_n dX1_bestNail_118 rfl (by decide) ?_
                    refine v_iload dX1_bestNail_119 rfl ?_
                    refine v_istore_n dX1_bestNail_121 rfl (by decide) ?_
                    refine v_iload dX1_bestNail_122 rfl ?_
                    refine v_istore dX1_bestNail_124 (by decide) ?_
                    refine v_iincN dX1_bestNail_126 rfl (by decide) ?_
                    refine v_goto 12 dX1_bestNail_129 (by decide) ?_
                    exact v_loc (lv' := [(0, .ref r), (1, .int (sBst rf gn ot ln (i + 1)).1), (2, .int (sBst rf gn ot ln (i + 1)).2.1), (3, .int (sBst rf gn ot ln (i + 1)).2.2.1), (4, .int (sBst rf gn ot ln (i + 1)).2.2.2), (5, .int (nI (i + 1)))]) ⟨rfl, zlkE rfl (by rw [hst]), zlkE rfl (by rw [hst]), zlkE rfl (by rw [hst]), zlkE rfl (by rw [hst]), rfl, trivial⟩ (ih (i + 1) (by omega) f m hr hL hf0)
          · refine v_iload dX1_bestNail_71 rfl ?_
            refine v_iload_n dX1_bestNail_73 rfl rfl ?_
            refine v_icmp_ne 88 dX1_bestNail_74 (by decide) (fun b74 => ?_) (fun b74 => ?_)
            · refine v_iconst (0) dX1_bestNail_88 (by decide) ?_
              refine v_istore dX1_bestNail_89 (by decide) ?_
              refine v_iload_n dX1_bestNail_91 rfl rfl ?_
              refine v_iconst (-1) dX1_bestNail_92 (by decide) ?_
              refine v_icmp_eq 113 dX1_bestNail_93 (by decide) (fun b93 => ?_) (fun b93 => ?_)
              · have hst : sBst rf gn ot ln (i + 1) = (nI i, gn i, ot i, ln i) := if_pos (by simp [b27, b68, b74, b93])
                refine v_iload dX1_bestNail_113 rfl ?_
                refine v_istore_n dX1_bestNail_115 rfl (by decide) ?_
                refine v_iload dX1_bestNail_116 rfl ?_
                refine v_istore_n dX1_bestNail_118 rfl (by decide) ?_
                refine v_iload dX1_bestNail_119 rfl ?_
                refine v_istore_n dX1_bestNail_121 rfl (by decide) ?_
                refine v_iload dX1_bestNail_122 rfl ?_
                refine v_istore dX1_bestNail_124 (by decide) ?_
                refine v_iincN dX1_bestNail_126 rfl (by decide) ?_
                refine v_goto 12 dX1_bestNail_129 (by decide) ?_
                exact v_loc (lv' := [(0, .ref r), (1, .int (sBst rf gn ot ln (i + 1)).1), (2, .int (sBst rf gn ot ln (i + 1)).2.1), (3, .int (sBst rf gn ot ln (i + 1)).2.2.1), (4, .int (sBst rf gn ot ln (i + 1)).2.2.2), (5, .int (nI (i + 1)))]) ⟨rfl, zlkE rfl (by rw [hst]), zlkE rfl (by rw [hst]), zlkE rfl (by rw [hst]), zlkE rfl (by rw [hst]), rfl, trivial⟩ (ih (i + 1) (by omega) f m hr hL hf0)
              · refine v_iload dX1_bestNail_96 rfl ?_
                refine v_iload_n dX1_bestNail_98 rfl rfl ?_
                refine v_icmp_gt 113 dX1_bestNail_99 (by decide) (fun b99 => ?_) (fun b99 => ?_)
                · have hst : sBst rf gn ot ln (i + 1) = (nI i, gn i, ot i, ln i) := if_pos (by simp [b27, b68, b74, b93, b99])
                  refine v_iload dX1_bestNail_113 rfl ?_
                  refine v_istore_n dX1_bestNail_115 rfl (by decide) ?_
                  refine v_iload dX1_bestNail_116 rfl ?_
                  refine v_istore_n dX1_bestNail_118 rfl (by decide) ?_
                  refine v_iload dX1_bestNail_119 rfl ?_
                  refine v_istore_n dX1_bestNail_121 rfl (by decide) ?_
                  refine v_iload dX1_bestNail_122 rfl ?_
                  refine v_istore dX1_bestNail_124 (by decide) ?_
                  refine v_iincN dX1_bestNail_126 rfl (by decide) ?_
                  refine v_goto 12 dX1_bestNail_129 (by decide) ?_
                  exact v_loc (lv' := [(0, .ref r), (1, .int (sBst rf gn ot ln (i + 1)).1), (2, .int (sBst rf gn ot ln (i + 1)).2.1), (3, .int (sBst rf gn ot ln (i + 1)).2.2.1), (4, .int (sBst rf gn ot ln (i + 1)).2.2.2), (5, .int (nI (i + 1)))]) ⟨rfl, zlkE rfl (by rw [hst]), zlkE rfl (by rw [hst]), zlkE rfl (by rw [hst]), zlkE rfl (by rw [hst]), rfl, trivial⟩ (ih (i + 1) (by omega) f m hr hL hf0)
                · refine v_iload dX1_bestNail_102 rfl ?_
                  refine v_iload_n dX1_bestNail_104 rfl rfl ?_
                  refine v_icmp_ne 126 dX1_bestNail_105 (by decide) (fun b105 => ?_) (fun b105 => ?_)
                  · have hst : sBst rf gn ot ln (i + 1) = sBst rf gn ot ln i := if_neg (by simp [b27, b68, b74, b93, b99, b105])
                    refine v_iincN dX1_bestNail_126 rfl (by decide) ?_
                    refine v_goto 12 dX1_bestNail_129 (by decide) ?_
                    exact v_loc (lv' := [(0, .ref r), (1, .int (sBst rf gn ot ln (i + 1)).1), (2, .int (sBst rf gn ot ln (i + 1)).2.1), (3, .int (sBst rf gn ot ln (i + 1)).2.2.1), (4, .int (sBst rf gn ot ln (i + 1)).2.2.2), (5, .int (nI (i + 1)))]) ⟨rfl, zlkE rfl (by rw [hst]), zlkE rfl (by rw [hst]), zlkE rfl (by rw [hst]), zlkE rfl (by rw [hst]), rfl, trivial⟩ (ih (i + 1) (by omega) f m hr hL hf0)
                  · refine v_iload dX1_bestNail_108 rfl ?_
                    refine v_if_eq 126 dX1_bestNail_110 (by decide) (fun b110 => ?_) (fun b110 => ?_)
                    · have hst : sBst rf gn ot ln (i + 1) = sBst rf gn ot ln i := by first | exact absurd b110 (by decide) | exact if_neg (by simp [b27, b68, b74, b93, b99, b105])
                      refine v_iincN dX1_bestNail_126 rfl (by decide) ?_
                      refine v_goto 12 dX1_bestNail_129 (by decide) ?_
                      exact v_loc (lv' := [(0, .ref r), (1, .int (sBst rf gn ot ln (i + 1)).1), (2, .int (sBst rf gn ot ln (i + 1)).2.1), (3, .int (sBst rf gn ot ln (i + 1)).2.2.1), (4, .int (sBst rf gn ot ln (i + 1)).2.2.2), (5, .int (nI (i + 1)))]) ⟨rfl, zlkE rfl (by rw [hst]), zlkE rfl (by rw [hst]), zlkE rfl (by rw [hst]), zlkE rfl (by rw [hst]), rfl, trivial⟩ (ih (i + 1) (by omega) f m hr hL hf0)
                    · have hst : sBst rf gn ot ln (i + 1) = (nI i, gn i, ot i, ln i) := by first | exact absurd rfl b110 | exact if_pos (by simp [b27, b68, b74, b93, b99, b105])
                      refine v_iload dX1_bestNail_113 rfl ?_
                      refine v_istore_n dX1_bestNail_115 rfl (by decide) ?_
                      refine v_iload dX1_bestNail_116 rfl ?_
                      refine v_istore_n dX1_bestNail_118 rfl (by decide) ?_
                      refine v_iload dX1_bestNail_119 rfl ?_
                      refine v_istore_n dX1_bestNail_121 rfl (by decide) ?_
                      refine v_iload dX1_bestNail_122 rfl ?_
                      refine v_istore dX1_bestNail_124 (by decide) ?_
                      refine v_iincN dX1_bestNail_126 rfl (by decide) ?_
                      refine v_goto 12 dX1_bestNail_129 (by decide) ?_
                      exact v_loc (lv' := [(0, .ref r), (1, .int (sBst rf gn ot ln (i + 1)).1), (2, .int (sBst rf gn ot ln (i + 1)).2.1), (3, .int (sBst rf gn ot ln (i + 1)).2.2.1), (4, .int (sBst rf gn ot ln (i + 1)).2.2.2), (5, .int (nI (i + 1)))]) ⟨rfl, zlkE rfl (by rw [hst]), zlkE rfl (by rw [hst]), zlkE rfl (by rw [hst]), zlkE rfl (by rw [hst]), rfl, trivial⟩ (ih (i + 1) (by omega) f m hr hL hf0)
            · refine v_iload dX1_bestNail_77 rfl ?_
              refine v_iload dX1_bestNail_79 rfl ?_
              refine v_icmp_ge 88 dX1_bestNail_81 (by decide) (fun b81 => ?_) (fun b81 => ?_)
              · refine v_iconst (0) dX1_bestNail_88 (by decide) ?_
                refine v_istore dX1_bestNail_89 (by decide) ?_
                refine v_iload_n dX1_bestNail_91 rfl rfl ?_
                refine v_iconst (-1) dX1_bestNail_92 (by decide) ?_
                refine v_icmp_eq 113 dX1_bestNail_93 (by decide) (fun b93 => ?_) (fun b93 => ?_)
                · have hst : sBst rf gn ot ln (i + 1) = (nI i, gn i, ot i, ln i) := if_pos (by simp [b27, b68, b74, b81, b93])
                  refine v_iload dX1_bestNail_113 rfl ?_
                  refine v_istore_n dX1_bestNail_115 rfl (by decide) ?_
                  refine v_iload dX1_bestNail_116 rfl ?_
                  refine v_istore_n dX1_bestNail_118 rfl (by decide) ?_
                  refine v_iload dX1_bestNail_119 rfl ?_
                  refine v_istore_n dX1_bestNail_121 rfl (by decide) ?_
                  refine v_iload dX1_bestNail_122 rfl ?_
                  refine v_istore dX1_bestNail_124 (by decide) ?_
                  refine v_iincN dX1_bestNail_126 rfl (by decide) ?_
                  refine v_goto 12 dX1_bestNail_129 (by decide) ?_
                  exact v_loc (lv' := [(0, .ref r), (1, .int (sBst rf gn ot ln (i + 1)).1), (2, .int (sBst rf gn ot ln (i + 1)).2.1), (3, .int (sBst rf gn ot ln (i + 1)).2.2.1), (4, .int (sBst rf gn ot ln (i + 1)).2.2.2), (5, .int (nI (i + 1)))]) ⟨rfl, zlkE rfl (by rw [hst]), zlkE rfl (by rw [hst]), zlkE rfl (by rw [hst]), zlkE rfl (by rw [hst]), rfl, trivial⟩ (ih (i + 1) (by omega) f m hr hL hf0)
                · refine v_iload dX1_bestNail_96 rfl ?_
                  refine v_iload_n dX1_bestNail_98 rfl rfl ?_
                  refine v_icmp_gt 113 dX1_bestNail_99 (by decide) (fun b99 => ?_) (fun b99 => ?_)
                  · have hst : sBst rf gn ot ln (i + 1) = (nI i, gn i, ot i, ln i) := if_pos (by simp [b27, b68, b74, b81, b93, b99])
                    refine v_iload dX1_bestNail_113 rfl ?_
                    refine v_istore_n dX1_bestNail_115 rfl (by decide) ?_
                    refine v_iload dX1_bestNail_116 rfl ?_
                    refine v_istore_n dX1_bestNail_118 rfl (by decide) ?_
                    refine v_iload dX1_bestNail_119 rfl ?_
                    refine v_istore_n dX1_bestNail_121 rfl (by decide) ?_
                    refine v_iload dX1_bestNail_122 rfl ?_
                    refine v_istore dX1_bestNail_124 (by decide) ?_
                    refine v_iincN dX1_bestNail_126 rfl (by decide) ?_
                    refine v_goto 12 dX1_bestNail_129 (by decide) ?_
                    exact v_loc (lv' := [(0, .ref r), (1, .int (sBst rf gn ot ln (i + 1)).1), (2, .int (sBst rf gn ot ln (i + 1)).2.1), (3, .int (sBst rf gn ot ln (i + 1)).2.2.1), (4, .int (sBst rf gn ot ln (i + 1)).2.2.2), (5, .int (nI (i + 1)))]) ⟨rfl, zlkE rfl (by rw [hst]), zlkE rfl (by rw [hst]), zlkE rfl (by rw [hst]), zlkE rfl (by rw [hst]), rfl, trivial⟩ (ih (i + 1) (by omega) f m hr hL hf0)
                  · refine v_iload dX1_bestNail_102 rfl ?_
                    refine v_iload_n dX1_bestNail_104 rfl rfl ?_
                    refine v_icmp_ne 126 dX1_bestNail_105 (by decide) (fun b105 => ?_) (fun b105 => ?_)
                    · have hst : sBst rf gn ot ln (i + 1) = sBst rf gn ot ln i := if_neg (by simp [b27, b68, b74, b81, b93, b99, b105])
                      refine v_iincN dX1_bestNail_126 rfl (by decide) ?_
                      refine v_goto 12 dX1_bestNail_129 (by decide) ?_
                      exact v_loc (lv' := [(0, .ref r), (1, .int (sBst rf gn ot ln (i + 1)).1), (2, .int (sBst rf gn ot ln (i + 1)).2.1), (3, .int (sBst rf gn ot ln (i + 1)).2.2.1), (4, .int (sBst rf gn ot ln (i + 1)).2.2.2), (5, .int (nI (i + 1)))]) ⟨rfl, zlkE rfl (by rw [hst]), zlkE rfl (by rw [hst]), zlkE rfl (by rw [hst]), zlkE rfl (by rw [hst]), rfl, trivial⟩ (ih (i + 1) (by omega) f m hr hL hf0)
                    · refine v_iload dX1_bestNail_108 rfl ?_
                      refine v_if_eq 126 dX1_bestNail_110 (by decide) (fun b110 => ?_) (fun b110 => ?_)
                      · have hst : sBst rf gn ot ln (i + 1) = sBst rf gn ot ln i := by first | exact absurd b110 (by decide) | exact if_neg (by simp [b27, b68, b74, b81, b93, b99, b105])
                        refine v_iincN dX1_bestNail_126 rfl (by decide) ?_
                        refine v_goto 12 dX1_bestNail_129 (by decide) ?_
                        exact v_loc (lv' := [(0, .ref r), (1, .int (sBst rf gn ot ln (i + 1)).1), (2, .int (sBst rf gn ot ln (i + 1)).2.1), (3, .int (sBst rf gn ot ln (i + 1)).2.2.1), (4, .int (sBst rf gn ot ln (i + 1)).2.2.2), (5, .int (nI (i + 1)))]) ⟨rfl, zlkE rfl (by rw [hst]), zlkE rfl (by rw [hst]), zlkE rfl (by rw [hst]), zlkE rfl (by rw [hst]), rfl, trivial⟩ (ih (i + 1) (by omega) f m hr hL hf0)
                      · have hst : sBst rf gn ot ln (i + 1) = (nI i, gn i, ot i, ln i) := by first | exact absurd rfl b110 | exact if_pos (by simp [b27, b68, b74, b81, b93, b99, b105])
                        refine v_iload dX1_bestNail_113 rfl ?_
                        refine v_istore_n dX1_bestNail_115 rfl (by decide) ?_
                        refine v_iload dX1_bestNail_116 rfl ?_
                        refine v_istore_n dX1_bestNail_118 rfl (by decide) ?_
                        refine v_iload dX1_bestNail_119 rfl ?_
                        refine v_istore_n dX1_bestNail_121 rfl (by decide) ?_
                        refine v_iload dX1_bestNail_122 rfl ?_
                        refine v_istore dX1_bestNail_124 (by decide) ?_
                        refine v_iincN dX1_bestNail_126 rfl (by decide) ?_
                        refine v_goto 12 dX1_bestNail_129 (by decide) ?_
                        exact v_loc (lv' := [(0, .ref r), (1, .int (sBst rf gn ot ln (i + 1)).1), (2, .int (sBst rf gn ot ln (i + 1)).2.1), (3, .int (sBst rf gn ot ln (i + 1)).2.2.1), (4, .int (sBst rf gn ot ln (i + 1)).2.2.2), (5, .int (nI (i + 1)))]) ⟨rfl, zlkE rfl (by rw [hst]), zlkE rfl (by rw [hst]), zlkE rfl (by rw [hst]), zlkE rfl (by rw [hst]), rfl, trivial⟩ (ih (i + 1) (by omega) f m hr hL hf0)
              · refine v_iconst (1) dX1_bestNail_84 (by decide) ?_
                refine v_goto 89 dX1_bestNail_85 (by decide) ?_
                refine v_istore dX1_bestNail_89 (by decide) ?_
                refine v_iload_n dX1_bestNail_91 rfl rfl ?_
                refine v_iconst (-1) dX1_bestNail_92 (by decide) ?_
                refine v_icmp_eq 113 dX1_bestNail_93 (by decide) (fun b93 => ?_) (fun b93 => ?_)
                · have hst : sBst rf gn ot ln (i + 1) = (nI i, gn i, ot i, ln i) := if_pos (by simp [b27, b68, b74, b81, b93])
                  refine v_iload dX1_bestNail_113 rfl ?_
                  refine v_istore_n dX1_bestNail_115 rfl (by decide) ?_
                  refine v_iload dX1_bestNail_116 rfl ?_
                  refine v_istore_n dX1_bestNail_118 rfl (by decide) ?_
                  refine v_iload dX1_bestNail_119 rfl ?_
                  refine v_istore_n dX1_bestNail_121 rfl (by decide) ?_
                  refine v_iload dX1_bestNail_122 rfl ?_
                  refine v_istore dX1_bestNail_124 (by decide) ?_
                  refine v_iincN dX1_bestNail_126 rfl (by decide) ?_
                  refine v_goto 12 dX1_bestNail_129 (by decide) ?_
                  exact v_loc (lv' := [(0, .ref r), (1, .int (sBst rf gn ot ln (i + 1)).1), (2, .int (sBst rf gn ot ln (i + 1)).2.1), (3, .int (sBst rf gn ot ln (i + 1)).2.2.1), (4, .int (sBst rf gn ot ln (i + 1)).2.2.2), (5, .int (nI (i + 1)))]) ⟨rfl, zlkE rfl (by rw [hst]), zlkE rfl (by rw [hst]), zlkE rfl (by rw [hst]), zlkE rfl (by rw [hst]), rfl, trivial⟩ (ih (i + 1) (by omega) f m hr hL hf0)
                · refine v_iload dX1_bestNail_96 rfl ?_
                  refine v_iload_n dX1_bestNail_98 rfl rfl ?_
                  refine v_icmp_gt 113 dX1_bestNail_99 (by decide) (fun b99 => ?_) (fun b99 => ?_)
                  · have hst : sBst rf gn ot ln (i + 1) = (nI i, gn i, ot i, ln i) := if_pos (by simp [b27, b68, b74, b81, b93, b99])
                    refine v_iload dX1_bestNail_113 rfl ?_
                    refine v_istore_n dX1_bestNail_115 rfl (by decide) ?_
                    refine v_iload dX1_bestNail_116 rfl ?_
                    refine v_istore_n dX1_bestNail_118 rfl (by decide) ?_
                    refine v_iload dX1_bestNail_119 rfl ?_
                    refine v_istore_n dX1_bestNail_121 rfl (by decide) ?_
                    refine v_iload dX1_bestNail_122 rfl ?_
                    refine v_istore dX1_bestNail_124 (by decide) ?_
                    refine v_iincN dX1_bestNail_126 rfl (by decide) ?_
                    refine v_goto 12 dX1_bestNail_129 (by decide) ?_
                    exact v_loc (lv' := [(0, .ref r), (1, .int (sBst rf gn ot ln (i + 1)).1), (2, .int (sBst rf gn ot ln (i + 1)).2.1), (3, .int (sBst rf gn ot ln (i + 1)).2.2.1), (4, .int (sBst rf gn ot ln (i + 1)).2.2.2), (5, .int (nI (i + 1)))]) ⟨rfl, zlkE rfl (by rw [hst]), zlkE rfl (by rw [hst]), zlkE rfl (by rw [hst]), zlkE rfl (by rw [hst]), rfl, trivial⟩ (ih (i + 1) (by omega) f m hr hL hf0)
                  · refine v_iload dX1_bestNail_102 rfl ?_
                    refine v_iload_n dX1_bestNail_104 rfl rfl ?_
                    refine v_icmp_ne 126 dX1_bestNail_105 (by decide) (fun b105 => ?_) (fun b105 => ?_)
                    · have hst : sBst rf gn ot ln (i + 1) = sBst rf gn ot ln i := if_neg (by simp [b27, b68, b74, b81, b93, b99, b105])
                      refine v_iincN dX1_bestNail_126 rfl (by decide) ?_
                      refine v_goto 12 dX1_bestNail_129 (by decide) ?_
                      exact v_loc (lv' := [(0, .ref r), (1, .int (sBst rf gn ot ln (i + 1)).1), (2, .int (sBst rf gn ot ln (i + 1)).2.1), (3, .int (sBst rf gn ot ln (i + 1)).2.2.1), (4, .int (sBst rf gn ot ln (i + 1)).2.2.2), (5, .int (nI (i + 1)))]) ⟨rfl, zlkE rfl (by rw [hst]), zlkE rfl (by rw [hst]), zlkE rfl (by rw [hst]), zlkE rfl (by rw [hst]), rfl, trivial⟩ (ih (i + 1) (by omega) f m hr hL hf0)
                    · refine v_iload dX1_bestNail_108 rfl ?_
                      refine v_if_eq 126 dX1_bestNail_110 (by decide) (fun b110 => ?_) (fun b110 => ?_)
                      · have hst : sBst rf gn ot ln (i + 1) = sBst rf gn ot ln i := by first | exact absurd b110 (by decide) | exact if_neg (by simp [b27, b68, b74, b81, b93, b99, b105])
                        refine v_iincN dX1_bestNail_126 rfl (by decide) ?_
                        refine v_goto 12 dX1_bestNail_129 (by decide) ?_
                        exact v_loc (lv' := [(0, .ref r), (1, .int (sBst rf gn ot ln (i + 1)).1), (2, .int (sBst rf gn ot ln (i + 1)).2.1), (3, .int (sBst rf gn ot ln (i + 1)).2.2.1), (4, .int (sBst rf gn ot ln (i + 1)).2.2.2), (5, .int (nI (i + 1)))]) ⟨rfl, zlkE rfl (by rw [hst]), zlkE rfl (by rw [hst]), zlkE rfl (by rw [hst]), zlkE rfl (by rw [hst]), rfl, trivial⟩ (ih (i + 1) (by omega) f m hr hL hf0)
                      · have hst : sBst rf gn ot ln (i + 1) = (nI i, gn i, ot i, ln i) := by first | exact absurd rfl b110 | exact if_pos (by simp [b27, b68, b74, b81, b93, b99, b105])
                        refine v_iload dX1_bestNail_113 rfl ?_
                        refine v_istore_n dX1_bestNail_115 rfl (by decide) ?_
                        refine v_iload dX1_bestNail_116 rfl ?_
                        refine v_istore_n dX1_bestNail_118 rfl (by decide) ?_
                        refine v_iload dX1_bestNail_119 rfl ?_
                        refine v_istore_n dX1_bestNail_121 rfl (by decide) ?_
                        refine v_iload dX1_bestNail_122 rfl ?_
                        refine v_istore dX1_bestNail_124 (by decide) ?_
                        refine v_iincN dX1_bestNail_126 rfl (by decide) ?_
                        refine v_goto 12 dX1_bestNail_129 (by decide) ?_
                        exact v_loc (lv' := [(0, .ref r), (1, .int (sBst rf gn ot ln (i + 1)).1), (2, .int (sBst rf gn ot ln (i + 1)).2.1), (3, .int (sBst rf gn ot ln (i + 1)).2.2.1), (4, .int (sBst rf gn ot ln (i + 1)).2.2.2), (5, .int (nI (i + 1)))]) ⟨rfl, zlkE rfl (by rw [hst]), zlkE rfl (by rw [hst]), zlkE rfl (by rw [hst]), zlkE rfl (by rw [hst]), rfl, trivial⟩ (ih (i + 1) (by omega) f m hr hL hf0)
  refine v_iconst (-1) dX1_bestNail_0 (by decide) ?_
  refine v_istore_n dX1_bestNail_1 rfl (by decide) ?_
  refine v_iconst (0) dX1_bestNail_2 (by decide) ?_
  refine v_istore_n dX1_bestNail_3 rfl (by decide) ?_
  refine v_iconst (0) dX1_bestNail_4 (by decide) ?_
  refine v_istore_n dX1_bestNail_5 rfl (by decide) ?_
  refine v_iconst (0) dX1_bestNail_6 (by decide) ?_
  refine v_istore dX1_bestNail_7 (by decide) ?_
  refine v_iconst (0) dX1_bestNail_9 (by decide) ?_
  refine v_istore dX1_bestNail_10 (by decide) ?_
  exact v_loc (lv' := [(0, .ref r), (1, .int (sBst rf gn ot ln 0).1), (2, .int (sBst rf gn ot ln 0).2.1), (3, .int (sBst rf gn ot ln 0).2.2.1), (4, .int (sBst rf gn ot ln 0).2.2.2), (5, .int (nI 0))]) ⟨rfl, rfl, rfl, rfl, rfl, rfl, trivial⟩ (loop N 0 (by omega) f0 m0 hr hL zFr.refl)
end
section
def zset (ρ : zRS) (k : Nat) (φ : Nat → Int32) : zRS := fun k' i => if k' = k then φ i else ρ k' i
theorem zset_eq {ρ : zRS} {k : Nat} {φ : Nat → Int32} (i : Nat) : zset ρ k φ k i = φ i := if_pos rfl
theorem zset_ne {ρ : zRS} {k k' : Nat} {φ : Nat → Int32} (h : k' ≠ k) (i : Nat) : zset ρ k φ k' i = ρ k' i := if_neg h
theorem zset_zset {ρ : zRS} {k : Nat} {φ ψ : Nat → Int32} : zset (zset ρ k φ) k ψ = zset ρ k ψ := by
  funext k' i
  by_cases h : k' = k
  · subst h; rw [zset_eq, zset_eq]
  · rw [zset_ne h, zset_ne h, zset_ne h]
theorem zset_id {ρ : zRS} {k : Nat} {φ : Nat → Int32} (h : ∀ i, φ i = ρ k i) : zset ρ k φ = ρ := by
  funext k' i
  by_cases h9 : k' = k
  · subst h9; rw [zset_eq, h]
  · rw [zset_ne h9]
/-- as RPic, but that the chords of v places are known -/
def RPV (f : zHM) (t r la : Nat) (A : Nat → Nat) (ρ : zRS) (n v : Nat) (xs tm : Nat → Int32) : Prop :=
  f r = some (t, .inr (1, [.ref la, .int (ρ 0 0), .int (sStep ρ), .int (ρ 0 1), .int (ρ 0 2), .int (ρ 0 3), .int (ρ 0 4), .int (ρ 0 5), .int (nI n), .ref (A 0), .ref (A 1), .ref (A 2), .ref (A 3), .ref (A 4), .ref (A 5), .ref (A 6), .ref (A 7), .ref (A 8), .ref (A 9)])) ∧
  ZA f (A 0) (t + 1) 3 3 (ρ 1) ∧ ZA f (A 1) (t + 2) 3 3 (ρ 2) ∧ ZA f (A 2) (t + 3) 3 3 (ρ 3) ∧ ZA f (A 3) (t + 4) 201 v (ρ 4) ∧ ZA f (A 4) (t + 5) 201 v (ρ 5) ∧ ZA f (A 5) (t + 6) 201 v (ρ 6) ∧
  ZA f (A 6) (t + 7) 144 144 (ρ 7) ∧ ZA f (A 7) (t + 8) 144 144 (ρ 8) ∧ ZA f (A 8) (t + 9) 144 144 xs ∧ ZA f (A 9) (t + 10) 276 276 tm
theorem RPV.pic {f : zHM} {t r la n : Nat} {A : Nat → Nat} {ρ : zRS} {xs tm : Nat → Int32} (h : RPV f t r la A ρ n n xs tm) : RPic f t r la A ρ n xs tm := h
theorem RPic.pv {f : zHM} {t r la n : Nat} {A : Nat → Nat} {ρ : zRS} {xs tm : Nat → Int32} (h : RPic f t r la A ρ n xs tm) : RPV f t r la A ρ n n xs tm := h
theorem RPV.eq {f : zHM} {t r la n v : Nat} {A : Nat → Nat} {ρ ρ' : zRS} {xs tm xs' tm' : Nat → Int32} (h : RPV f t r la A ρ n v xs tm) (e : ρ = ρ') (e2 : xs = xs') (e3 : tm = tm') : RPV f t r la A ρ' n v xs' tm' := by subst e; subst e2; subst e3; exact h
theorem RPV.fr {T : Nat → Prop} {f f' : zHM} {t r la n v : Nat} {A : Nat → Nat} {ρ : zRS} {xs tm : Nat → Int32} (h : zFr T f f') (hr : RPV f t r la A ρ n v xs tm) (ht : ∀ k, k ≤ 10 → ¬ T (t + k)) : RPV f' t r la A ρ n v xs tm := by
  obtain ⟨r0, r1, r2, r3, r4, r5, r6, r7, r8, r9, r10⟩ := hr
  exact ⟨h _ _ _ r0 (ht 0 (by omega)), r1.fr h (ht 1 (by omega)), r2.fr h (ht 2 (by omega)), r3.fr h (ht 3 (by omega)), r4.fr h (ht 4 (by omega)), r5.fr h (ht 5 (by omega)), r6.fr h (ht 6 (by omega)), r7.fr h (ht 7 (by omega)), r8.fr h (ht 8 (by omega)), r9.fr h (ht 9 (by omega)), r10.fr h (ht 10 (by omega))⟩
theorem ZA.less {f : zHM} {a t len v v' : Nat} {φ : Nat → Int32} (h : ZA f a t len v φ) (hv : v' ≤ v) : ZA f a t len v' φ := by
  obtain ⟨g, h1, h2⟩ := h
  exact ⟨g, h1, fun i hi => h2 i (by omega)⟩
theorem RPV.less {f : zHM} {t r la n v v' : Nat} {A : Nat → Nat} {ρ : zRS} {xs tm : Nat → Int32} (hr : RPV f t r la A ρ n v xs tm) (hv : v' ≤ v) : RPV f t r la A ρ n v' xs tm := by
  obtain ⟨r0, r1, r2, r3, r4, r5, r6, r7, r8, r9, r10⟩ := hr
  exact ⟨r0, r1, r2, r3, r4.less hv, r5.less hv, r6.less hv, r7, r8, r9, r10⟩
theorem RPV.set2 {f f' : zHM} {t r la n v : Nat} {A : Nat → Nat} {ρ : zRS} {xs tm g' φ : Nat → Int32} (hr : RPV f t r la A ρ n v xs tm) (hp : zPut f (A 1) (t + 2, .inl (0, 3, .inl g')) f') (hg : ∀ i, i < 3 → g' i = φ i) : RPV f' t r la A (zset ρ 2 φ) n v xs tm := by
  obtain ⟨r0, r1, r2, r3, r4, r5, r6, r7, r8, r9, r10⟩ := hr
  exact ⟨hp.ne r0 (by omega), ZA.ne hp r1 (by omega), ⟨g', hp.1, hg⟩, ZA.ne hp r3 (by omega), ZA.ne hp r4 (by omega), ZA.ne hp r5 (by omega), ZA.ne hp r6 (by omega), ZA.ne hp r7 (by omega), ZA.ne hp r8 (by omega), ZA.ne hp r9 (by omega), ZA.ne hp r10 (by omega)⟩
theorem RPV.set8 {f f' : zHM} {t r la n v : Nat} {A : Nat → Nat} {ρ : zRS} {xs tm g' φ : Nat → Int32} (hr : RPV f t r la A ρ n v xs tm) (hp : zPut f (A 7) (t + 8, .inl (0, 144, .inl g')) f') (hg : ∀ i, i < 144 → g' i = φ i) : RPV f' t r la A (zset ρ 8 φ) n v xs tm := by
  obtain ⟨r0, r1, r2, r3, r4, r5, r6, r7, r8, r9, r10⟩ := hr
  exact ⟨hp.ne r0 (by omega), ZA.ne hp r1 (by omega), ZA.ne hp r2 (by omega), ZA.ne hp r3 (by omega), ZA.ne hp r4 (by omega), ZA.ne hp r5 (by omega), ZA.ne hp r6 (by omega), ZA.ne hp r7 (by omega), ⟨g', hp.1, hg⟩, ZA.ne hp r9 (by omega), ZA.ne hp r10 (by omega)⟩
theorem RPV.set_xs {f f' : zHM} {t r la n v : Nat} {A : Nat → Nat} {ρ : zRS} {xs tm g' φ : Nat → Int32} (hr : RPV f t r la A ρ n v xs tm) (hp : zPut f (A 8) (t + 9, .inl (0, 144, .inl g')) f') (hg : ∀ i, i < 144 → g' i = φ i) : RPV f' t r la A ρ n v φ tm := by
  obtain ⟨r0, r1, r2, r3, r4, r5, r6, r7, r8, r9, r10⟩ := hr
  exact ⟨hp.ne r0 (by omega), ZA.ne hp r1 (by omega), ZA.ne hp r2 (by omega), ZA.ne hp r3 (by omega), ZA.ne hp r4 (by omega), ZA.ne hp r5 (by omega), ZA.ne hp r6 (by omega), ZA.ne hp r7 (by omega), ZA.ne hp r8 (by omega), ⟨g', hp.1, hg⟩, ZA.ne hp r10 (by omega)⟩
theorem RPV.set_tm {f f' : zHM} {t r la n v : Nat} {A : Nat → Nat} {ρ : zRS} {xs tm g' φ : Nat → Int32} (hr : RPV f t r la A ρ n v xs tm) (hp : zPut f (A 9) (t + 10, .inl (0, 276, .inl g')) f') (hg : ∀ i, i < 276 → g' i = φ i) : RPV f' t r la A ρ n v xs φ := by
  obtain ⟨r0, r1, r2, r3, r4, r5, r6, r7, r8, r9, r10⟩ := hr
  exact ⟨hp.ne r0 (by omega), ZA.ne hp r1 (by omega), ZA.ne hp r2 (by omega), ZA.ne hp r3 (by omega), ZA.ne hp r4 (by omega), ZA.ne hp r5 (by omega), ZA.ne hp r6 (by omega), ZA.ne hp r7 (by omega), ZA.ne hp r8 (by omega), ZA.ne hp r9 (by omega), ⟨g', hp.1, hg⟩⟩
theorem RPV.obj {f f' : zHM} {t r la n n' v : Nat} {A : Nat → Nat} {ρ ρ' : zRS} {xs tm : Nat → Int32} (hr : RPV f t r la A ρ n v xs tm) (he : ∀ k, k ≠ 0 → ∀ i, ρ' k i = ρ k i)
    (hp : zPut f r (t, .inr (1, [.ref la, .int (ρ' 0 0), .int (sStep ρ'), .int (ρ' 0 1), .int (ρ' 0 2), .int (ρ' 0 3), .int (ρ' 0 4), .int (ρ' 0 5), .int (nI n'), .ref (A 0), .ref (A 1), .ref (A 2), .ref (A 3), .ref (A 4), .ref (A 5), .ref (A 6), .ref (A 7), .ref (A 8), .ref (A 9)])) f') : RPV f' t r la A ρ' n' v xs tm := by
  obtain ⟨r0, r1, r2, r3, r4, r5, r6, r7, r8, r9, r10⟩ := hr
  have c : ∀ k, k ≠ 0 → ρ' k = ρ k := fun k hk => funext (he k hk)
  refine ⟨hp.1, ?_, ?_, ?_, ?_, ?_, ?_, ?_, ?_, ZA.ne hp r9 (by omega), ZA.ne hp r10 (by omega)⟩
  · rw [c 1 (by omega)]; exact ZA.ne hp r1 (by omega)
  · rw [c 2 (by omega)]; exact ZA.ne hp r2 (by omega)
  · rw [c 3 (by omega)]; exact ZA.ne hp r3 (by omega)
  · rw [c 4 (by omega)]; exact ZA.ne hp r4 (by omega)
  · rw [c 5 (by omega)]; exact ZA.ne hp r5 (by omega)
  · rw [c 6 (by omega)]; exact ZA.ne hp r6 (by omega)
  · rw [c 7 (by omega)]; exact ZA.ne hp r7 (by omega)
  · rw [c 8 (by omega)]; exact ZA.ne hp r8 (by omega)
abbrev zTR (t : Nat) : Nat → Prop := fun τ => τ = 950 ∨ (t ≤ τ ∧ τ ≤ t + 10)
def sPutL (ρ : zRS) (u : Nat) (x : Int32) : Nat → Int32 := fun i => if i = u then ρ 2 i - x else ρ 2 i
def sInL (L : List Nat) (z : Int32) (φ : Nat → Int32) : Nat → Int32 := fun q => if q ∈ L then φ q + z else φ q
def sPutT (tm : Nat → Int32) (p : Nat) (z : Int32) : Nat → Int32 := fun q => if q = p then tm q + z else tm q
theorem sInL_nil (z : Int32) (φ : Nat → Int32) (q : Nat) : sInL [] z φ q = φ q := if_neg (by simp)
theorem sInL_snoc {L : List Nat} {i : Nat} (hn : L.Nodup) (hi : i < L.length) (z : Int32) (φ : Nat → Int32) (q : Nat) : upd (sInL (L.take i) z φ) (L.getD i 0) (φ (L.getD i 0) + z) q = sInL (L.take (i + 1)) z φ q := by
  have hd : L.getD i 0 = L[i] := by simp [List.getD, List.getElem?_eq_getElem hi]
  rw [take_succ_getD L i hi]
  unfold upd sInL
  by_cases h : q = L.getD i 0
  · subst h
    rw [if_pos rfl, if_pos (List.mem_append.mpr (Or.inr (List.mem_singleton.mpr rfl)))]
  · rw [if_neg h]
    by_cases hm : q ∈ L.take i
    · rw [if_pos hm, if_pos (List.mem_append.mpr (Or.inl hm))]
    · rw [if_neg hm, if_neg (fun z => (List.mem_append.mp z).elim hm (fun z => h (List.mem_singleton.mp z)))]
theorem sInL_at {L : List Nat} {i : Nat} (hn : L.Nodup) (hi : i < L.length) (z : Int32) (φ : Nat → Int32) : sInL (L.take i) z φ (L.getD i 0) = φ (L.getD i 0) := by
  have hd : L.getD i 0 = L[i] := by simp [List.getD, List.getElem?_eq_getElem hi]
  refine if_neg fun hm => ?_
  rw [hd] at hm
  obtain ⟨j, hj, e⟩ := List.mem_iff_getElem.mp hm
  have hj2 : j < i := by rw [List.length_take] at hj; omega
  rw [List.getElem_take] at e
  exact List.pairwise_iff_getElem.mp hn j i (by omega) hi hj2 e
/-- the ring when the thread of a chord has been laid (z = 1) or taken off (z = -1) -/
def sPutR (ρ : zRS) (s a b u : Nat) (z : Int32) : zRS := zset (zset ρ 2 (sPutL ρ u (z * sLn s a b))) 8 (sInL (sPa s a b) (z * ρ 1 u) (ρ 8))
abbrev zTRi (t : Nat) : Nat → Prop := fun τ => t ≤ τ ∧ τ ≤ t + 10
set_option maxRecDepth 10000 in
set_option maxHeartbeats 1000000 in
theorem c_putThread {G : zW} {f0 : zHM} {m : Nat × Nat} {t r la n v : Nat} {A : Nat → Nat} {ρ : zRS} {xs tm : Nat → Int32} (hr : RPV f0 t r la A ρ n v xs tm) (ht : t ≤ 900) (hnv : n ≤ v) {N s : Nat} (hv : RV ρ N s) {M : Nat × Nat} (hL : LNok f0 m la M) {c a b u : Nat} (hc : c < v) (hv201 : v ≤ 201) (ha : a < N) (hb : b < N) (hn : a ≠ b) (hu : u < 3) (q4 : ρ 4 c = nI a) (q5 : ρ 5 c = nI b) (q6 : ρ 6 c = nI u) (z : Int32) : zM G yX1_putThread cX1_putThread 10 none 4 [.ref r, .int (nI c), .int z] (f0, m) (zD none (fun f' m' => RPV f' t r la A (sPutR ρ s a b u z) n v (sInL (sPa s a b) z xs) (sPutT tm (sPr (a * s) (b * s)) z) ∧ LNok f' m' la M ∧ zFr (zTR t) f0 f')) := by
  refine zM.of (by decide) (Nat.le_of_ble_eq_true rfl) ?_
  have hv9 := hv.pos
  have hpa := hv.pl ha
  have hpb := hv.pl hb
  have hpn := hv.ne hn
  have hpp := sPr_lt hpa hpb hpn
  have hpa0 := sPa_ok hv ha hb hn
  obtain ⟨r0, ⟨g1, a1, e1⟩, ⟨g2, a2, e2⟩, ⟨g3, a3, e3⟩, ⟨g4, a4, e4⟩, ⟨g5, a5, e5⟩, ⟨g6, a6, e6⟩, ⟨g7, a7, e7⟩, ⟨g8, a8, e8⟩, ⟨g9, a9, e9⟩, ⟨g10, a10, e10⟩⟩ := id hr
  refine v_aload_n dX1_putThread_0 rfl rfl ?_
  refine v_getfield fX1_28 dX1_putThread_1 (by assumption) (by rfl) ?_
  refine v_iload_n dX1_putThread_4 rfl rfl ?_
  refine v_iaload dX1_putThread_5 (by assumption) (vp_in_nI (by omega) (by omega)) ?_
  rw [nI_clamp (by omega), e4 c hc, q4]
  refine v_aload_n dX1_putThread_6 rfl rfl ?_
  refine v_getfield fX1_15 dX1_putThread_7 (by assumption) (by rfl) ?_
  refine v_imul dX1_putThread_10 ?_
  refine v_aload_n dX1_putThread_11 rfl rfl ?_
  refine v_getfield fX1_31 dX1_putThread_12 (by assumption) (by rfl) ?_
  refine v_iload_n dX1_putThread_15 rfl rfl ?_
  refine v_iaload dX1_putThread_16 (by assumption) (vp_in_nI (by omega) (by omega)) ?_
  rw [nI_clamp (by omega), e5 c hc, q5]
  refine v_aload_n dX1_putThread_17 rfl rfl ?_
  refine v_getfield fX1_15 dX1_putThread_18 (by assumption) (by rfl) ?_
  refine v_imul dX1_putThread_21 ?_
  rw [hv.2.1, pk_mul, pk_mul]
  refine v_callSp kX1_77 gs_X0_pairOf dX1_putThread_22 (c_pairOf hpa hpb hpn) rfl rfl (by decide) (Nat.le_of_ble_eq_true rfl) ?_
  refine v_istore_n dX1_putThread_25 rfl (by decide) ?_
  refine v_iload_n dX1_putThread_26 rfl rfl ?_
  refine v_iconst (-1) dX1_putThread_27 (by decide) ?_
  refine v_icmp_ne 32 dX1_putThread_28 (by decide) (fun b28 => ?_) (fun b28 => ?_)
  · refine v_aload_n dX1_putThread_32 rfl rfl ?_
    refine v_aload_n dX1_putThread_33 rfl rfl ?_
    refine v_getfield fX1_28 dX1_putThread_34 (by assumption) (by rfl) ?_
    refine v_iload_n dX1_putThread_37 rfl rfl ?_
    refine v_iaload dX1_putThread_38 (by assumption) (vp_in_nI (by omega) (by omega)) ?_
    rw [nI_clamp (by omega), e4 c hc, q4]
    refine v_aload_n dX1_putThread_39 rfl rfl ?_
    refine v_getfield fX1_31 dX1_putThread_40 (by assumption) (by rfl) ?_
    refine v_iload_n dX1_putThread_43 rfl rfl ?_
    refine v_iaload dX1_putThread_44 (by assumption) (vp_in_nI (by omega) (by omega)) ?_
    rw [nI_clamp (by omega), e5 c hc, q5]
    refine v_callVr kX1_105 gi_X1_lineBetween ge_X1_lineBetween rfl dX1_putThread_45 (by assumption) (c_lineBetween (hr.less hnv).pic hv ha hb hn hL) rfl rfl (by decide) (Nat.le_of_ble_eq_true rfl) (fun q f m hc9 => ?_)
    obtain ⟨hl9, hL, hf9⟩ := hc9
    have hr := hr.fr hf9 (fun k hk => by show ¬ (t + k = 950); omega)
    obtain ⟨sq, gq, hq1, hq2, hq3⟩ := hl9
    obtain ⟨r0, ⟨g1, a1, e1⟩, ⟨g2, a2, e2⟩, ⟨g3, a3, e3⟩, ⟨g4, a4, e4⟩, ⟨g5, a5, e5⟩, ⟨g6, a6, e6⟩, ⟨g7, a7, e7⟩, ⟨g8, a8, e8⟩, ⟨g9, a9, e9⟩, ⟨g10, a10, e10⟩⟩ := id hr
    replace hq2 : f sq = some (1000 + 2 * (sPr (a * s) (b * s)) + 1, .inl (0, (sPa s a b).length, .inl gq)) := hq2
    replace hq3 : ∀ i, i < (sPa s a b).length → gq i = nI ((sPa s a b).getD i 0) := hq3
    replace hq1 : f q = some (1000 + 2 * (sPr (a * s) (b * s)), .inr (0, [.int (sLn s a b), .ref sq])) := hq1
    generalize hPL0 : sPa s a b = PL at hq2 hq3 hpa0
    replace hPL0 : sPa s a b = PL ∧ True := ⟨hPL0, trivial⟩
    have hf0 : zFr (zTR t) f0 f := hf9.weaken (fun _ h => Or.inl h)
    refine v_astore dX1_putThread_48 (by decide) ?_
    refine v_aload_n dX1_putThread_50 rfl rfl ?_
    refine v_getfield fX1_34 dX1_putThread_51 (by assumption) (by rfl) ?_
    refine v_iload_n dX1_putThread_54 rfl rfl ?_
    refine v_iaload dX1_putThread_55 (by assumption) (vp_in_nI (by omega) (by omega)) ?_
    rw [nI_clamp (by omega), e6 c hc, q6]
    refine v_istore dX1_putThread_56 (by decide) ?_
    refine v_aload_n dX1_putThread_58 rfl rfl ?_
    refine v_getfield fX1_46 dX1_putThread_59 (by assumption) (by rfl) ?_
    refine v_iload_n dX1_putThread_62 rfl rfl ?_
    refine v_dup2 dX1_putThread_63 rfl rfl ?_
    refine v_iaload dX1_putThread_64 (by assumption) (vp_in_nI hpp (by omega)) ?_
    rw [nI_clamp (by omega), e10 _ hpp]
    refine v_iload_n dX1_putThread_65 rfl rfl ?_
    refine v_iadd dX1_putThread_66 ?_
    refine v_iastoreX dX1_putThread_67 (by assumption) (vp_in_nI hpp (by omega)) (fun f hp => ?_)
    have hr := hr.set_tm (φ := sPutT tm (sPr (a * s) (b * s)) z) hp (fun i hi => by
      rw [nI_clamp (by omega)]; unfold sPutT upd
      by_cases h : i = (sPr (a * s) (b * s))
      · subst h; rw [if_pos rfl, if_pos rfl]
      · rw [if_neg h, if_neg h, e10 i hi])
    have hq1 := hp.ne hq1 (by omega)
    have hq2 := hp.ne hq2 (by omega)
    have hf0 := hf0.put hp (Or.inr ⟨by show t ≤ t + 10; omega, by show t + 10 ≤ t + 10; omega⟩)
    have hL := hL.fr (zFr.refl.put (T := zTRi t) hp ⟨by show t ≤ t + 10; omega, by show t + 10 ≤ t + 10; omega⟩) (fun τ h1 h2 => by have := h2.2; omega)
    obtain ⟨r0, ⟨g1, a1, e1⟩, ⟨g2, a2, e2⟩, ⟨g3, a3, e3⟩, ⟨g4, a4, e4⟩, ⟨g5, a5, e5⟩, ⟨g6, a6, e6⟩, ⟨g7, a7, e7⟩, ⟨g8, a8, e8⟩, ⟨g9, a9, e9⟩, ⟨g10, a10, e10⟩⟩ := id hr
    refine v_aload_n dX1_putThread_68 rfl rfl ?_
    refine v_getfield fX1_22 dX1_putThread_69 (by assumption) (by rfl) ?_
    refine v_iload dX1_putThread_72 rfl ?_
    refine v_dup2 dX1_putThread_74 rfl rfl ?_
    refine v_iaload dX1_putThread_75 (by assumption) (vp_in_nI hu (by omega)) ?_
    rw [nI_clamp (by omega), e2 u hu]
    refine v_iload_n dX1_putThread_76 rfl rfl ?_
    refine v_aload dX1_putThread_77 rfl ?_
    refine v_getfield fX1_108 dX1_putThread_79 (by assumption) (by rfl) ?_
    refine v_imul dX1_putThread_82 ?_
    refine v_isub dX1_putThread_83 ?_
    refine v_iastoreX dX1_putThread_84 (by assumption) (vp_in_nI hu (by omega)) (fun f hp => ?_)
    have hr := hr.set2 (φ := sPutL ρ u (z * sLn s a b)) hp (fun i hi => by
      rw [nI_clamp (by omega)]; unfold sPutL upd
      by_cases h : i = u
      · subst h; rw [if_pos rfl, if_pos rfl]
      · rw [if_neg h, if_neg h, e2 i hi])
    have hq1 := hp.ne hq1 (by omega)
    have hq2 := hp.ne hq2 (by omega)
    have hf0 := hf0.put hp (Or.inr ⟨by show t ≤ t + 2; omega, by show t + 2 ≤ t + 10; omega⟩)
    have hL := hL.fr (zFr.refl.put (T := zTRi t) hp ⟨by show t ≤ t + 2; omega, by show t + 2 ≤ t + 10; omega⟩) (fun τ h1 h2 => by have := h2.2; omega)
    obtain ⟨r0, ⟨g1, a1, e1⟩, ⟨g2, a2, e2⟩, ⟨g3, a3, e3⟩, ⟨g4, a4, e4⟩, ⟨g5, a5, e5⟩, ⟨g6, a6, e6⟩, ⟨g7, a7, e7⟩, ⟨g8, a8, e8⟩, ⟨g9, a9, e9⟩, ⟨g10, a10, e10⟩⟩ := id hr
    refine v_aload dX1_putThread_85 rfl ?_
    refine v_getfield fX1_114 dX1_putThread_87 (by assumption) (by rfl) ?_
    refine v_astore dX1_putThread_90 (by decide) ?_
    refine v_aload dX1_putThread_92 rfl ?_
    refine v_alen dX1_putThread_94 (by assumption) (by decide) ?_
    refine v_istore dX1_putThread_95 (by decide) ?_
    have loop : ∀ (k i : Nat), i + k = PL.length → ∀ (f : zHM), RPV f t r la A (zset (zset ρ 2 (sPutL ρ u (z * sLn s a b))) 8 (sInL (PL.take i) (z * ρ 1 u) (ρ 8))) n v (sInL (PL.take i) z xs) (sPutT tm (sPr (a * s) (b * s)) z) → LNok f m la M → zFr (zTR t) f0 f → f q = some (1000 + 2 * (sPr (a * s) (b * s)), .inr (0, [.int (sLn s a b), .ref sq])) → f sq = some (1000 + 2 * (sPr (a * s) (b * s)) + 1, .inl (0, PL.length, .inl gq)) → zV G yX1_putThread cX1_putThread 10 none 4 100 [(0, .ref r), (2, .int z), (5, .int (nI u)), (6, .ref sq), (7, .int (nI PL.length)), (8, .int (nI i))] [] (f, m) (zD none (fun f' m' => RPV f' t r la A (sPutR ρ s a b u z) n v (sInL PL z xs) (sPutT tm (sPr (a * s) (b * s)) z) ∧ LNok f' m' la M ∧ zFr (zTR t) f0 f')) := by
      intro k
      induction k with
      | zero =>
        intro i hi f hr hL hf0 hq1 hq2
        have hi : i = PL.length := by omega
        subst hi
        refine v_iload dX1_putThread_100 rfl ?_
        refine v_iload dX1_putThread_102 rfl ?_
        refine v_icmp_ge 150 dX1_putThread_104 (by decide) (fun b104 => ?_) (fun b104 => ?_)
        · exact v_return dX1_putThread_150 rfl ⟨rfl, by rw [List.take_length] at hr; unfold sPutR; rw [hPL0.1]; exact hr, hL, hf0⟩
        · exact absurd (nI_le (by omega) (by omega)) b104
      | succ k ih =>
        intro i hi f hr hL hf0 hq1 hq2
        have h9 : i < PL.length := by omega
        have hq9 : PL.getD i 0 < 144 := hpa0.2.2 _ (by rw [List.getD, List.getElem?_eq_getElem h9]; exact List.getElem_mem h9)
        obtain ⟨r0, ⟨g1, a1, e1⟩, ⟨g2, a2, e2⟩, ⟨g3, a3, e3⟩, ⟨g4, a4, e4⟩, ⟨g5, a5, e5⟩, ⟨g6, a6, e6⟩, ⟨g7, a7, e7⟩, ⟨g8, a8, e8⟩, ⟨g9, a9, e9⟩, ⟨g10, a10, e10⟩⟩ := id hr
        refine v_iload dX1_putThread_100 rfl ?_
        refine v_iload dX1_putThread_102 rfl ?_
        refine v_icmp_ge 150 dX1_putThread_104 (by decide) (fun b104 => ?_) (fun b104 => ?_)
        · exact absurd b104 (nI_ge h9 (by omega))
        · refine v_aload dX1_putThread_107 rfl ?_
          refine v_iload dX1_putThread_109 rfl ?_
          refine v_iaload dX1_putThread_111 (by assumption) (vp_in_nI h9 (by omega)) ?_
          rw [nI_clamp (by omega), hq3 i h9]
          refine v_istore dX1_putThread_112 (by decide) ?_
          refine v_aload_n dX1_putThread_114 rfl rfl ?_
          refine v_getfield fX1_40 dX1_putThread_115 (by assumption) (by rfl) ?_
          refine v_iload dX1_putThread_118 rfl ?_
          refine v_dup2 dX1_putThread_120 rfl rfl ?_
          refine v_iaload dX1_putThread_121 (by assumption) (vp_in_nI hq9 (by omega)) ?_
          rw [nI_clamp (by omega), e8 _ hq9]
          refine v_iload_n dX1_putThread_122 rfl rfl ?_
          refine v_aload_n dX1_putThread_123 rfl rfl ?_
          refine v_getfield fX1_18 dX1_putThread_124 (by assumption) (by rfl) ?_
          refine v_iload dX1_putThread_127 rfl ?_
          refine v_iaload dX1_putThread_129 (by assumption) (vp_in_nI hu (by omega)) ?_
          rw [nI_clamp (by omega), e1 u hu]
          refine v_imul dX1_putThread_130 ?_
          refine v_iadd dX1_putThread_131 ?_
          refine v_iastoreX dX1_putThread_132 (by assumption) (vp_in_nI hq9 (by omega)) (fun f hp => ?_)
          have hr := hr.set8 (φ := sInL (PL.take (i + 1)) (z * ρ 1 u) (ρ 8)) hp (fun j hj => by
            rw [nI_clamp (by omega), ← sInL_snoc hpa0.2.1 h9]; unfold upd
            by_cases h : j = PL.getD i 0
            · rw [if_pos h, if_pos h, zset_eq, sInL_at hpa0.2.1 h9]; rfl
            · rw [if_neg h, if_neg h, e8 j hj, zset_eq])
          rw [zset_zset] at hr
          have hq1 := hp.ne hq1 (by omega)
          have hq2 := hp.ne hq2 (by omega)
          have hf0 := hf0.put hp (Or.inr ⟨by show t ≤ t + 8; omega, by show t + 8 ≤ t + 10; omega⟩)
          have hL := hL.fr (zFr.refl.put (T := zTRi t) hp ⟨by show t ≤ t + 8; omega, by show t + 8 ≤ t + 10; omega⟩) (fun τ h1 h2 => by have := h2.2; omega)
          obtain ⟨r0, ⟨g1, a1, e1⟩, ⟨g2, a2, e2⟩, ⟨g3, a3, e3⟩, ⟨g4, a4, e4⟩, ⟨g5, a5, e5⟩, ⟨g6, a6, e6⟩, ⟨g7, a7, e7⟩, ⟨g8, a8, e8⟩, ⟨g9, a9, e9⟩, ⟨g10, a10, e10⟩⟩ := id hr
          refine v_aload_n dX1_putThread_133 rfl rfl ?_
          refine v_getfield fX1_43 dX1_putThread_134 (by assumption) (by rfl) ?_
          refine v_iload dX1_putThread_137 rfl ?_
          refine v_dup2 dX1_putThread_139 rfl rfl ?_
          refine v_iaload dX1_putThread_140 (by assumption) (vp_in_nI hq9 (by omega)) ?_
          rw [nI_clamp (by omega), e9 _ hq9]
          refine v_iload_n dX1_putThread_141 rfl rfl ?_
          refine v_iadd dX1_putThread_142 ?_
          refine v_iastoreX dX1_putThread_143 (by assumption) (vp_in_nI hq9 (by omega)) (fun f hp => ?_)
          have hr := hr.set_xs (φ := sInL (PL.take (i + 1)) z xs) hp (fun j hj => by
            rw [nI_clamp (by omega), ← sInL_snoc hpa0.2.1 h9]; unfold upd
            by_cases h : j = PL.getD i 0
            · rw [if_pos h, if_pos h, sInL_at hpa0.2.1 h9]
            · rw [if_neg h, if_neg h, e9 j hj])
          have hq1 := hp.ne hq1 (by omega)
          have hq2 := hp.ne hq2 (by omega)
          have hf0 := hf0.put hp (Or.inr ⟨by show t ≤ t + 9; omega, by show t + 9 ≤ t + 10; omega⟩)
          have hL := hL.fr (zFr.refl.put (T := zTRi t) hp ⟨by show t ≤ t + 9; omega, by show t + 9 ≤ t + 10; omega⟩) (fun τ h1 h2 => by have := h2.2; omega)
          refine v_iincN dX1_putThread_144 rfl (by decide) ?_
          refine v_goto 100 dX1_putThread_147 (by decide) ?_
          exact v_loc (lv' := [(0, .ref r), (2, .int z), (5, .int (nI u)), (6, .ref sq), (7, .int (nI PL.length)), (8, .int (nI (i + 1)))]) ⟨rfl, rfl, rfl, rfl, rfl, rfl, trivial⟩ (ih (i + 1) (by omega) f hr hL hf0 hq1 hq2)
    refine v_iconst (nI 0) dX1_putThread_97 (by decide) ?_
    refine v_istore dX1_putThread_98 (by decide) ?_
    exact v_loc (lv' := [(0, .ref r), (2, .int z), (5, .int (nI u)), (6, .ref sq), (7, .int (nI PL.length)), (8, .int (nI 0))]) ⟨rfl, rfl, rfl, rfl, rfl, rfl, trivial⟩ (loop PL.length 0 (by omega) f (hr.eq (zset_id (fun i => by rw [List.take_zero, sInL_nil]; rfl)).symm (funext fun i => by rw [List.take_zero, sInL_nil]) rfl) hL hf0 hq1 hq2)
  · exact absurd b28 (nI_m1 (by omega))
end
section
def sAdd (ρ : zRS) (n a b u : Nat) : zRS := zset (zset (zset ρ 4 (fun c => if c = n then nI a else ρ 4 c)) 5 (fun c => if c = n then nI b else ρ 5 c)) 6 (fun c => if c = n then nI u else ρ 6 c)
def sLay (ρ : zRS) (s n a b u : Nat) : zRS := zset (sPutR (sAdd ρ n a b u) s a b u 1) 0 (fun i => if i = 1 then nI b else ρ 0 i)
def sOff (ρ : zRS) (s a b u : Nat) : zRS := zset (sPutR ρ s a b u (-1)) 0 (fun i => if i = 1 then nI a else if i = 2 then nI u else ρ 0 i)
theorem zput_fr {f0 f f' : zHM} {t k a : Nat} {c : (Nat × vp_A) ⊕ (Nat × List Value)} (h : zFr (zTR t) f0 f) (hp : zPut f a (t + k, c) f') (hk : k ≤ 10) : zFr (zTR t) f0 f' := h.put hp (Or.inr ⟨by show t ≤ t + k; omega, by show t + k ≤ t + 10; omega⟩)
theorem zput_ln {f f' : zHM} {m : Nat × Nat} {la : Nat} {M : Nat × Nat} {t k a : Nat} {c : (Nat × vp_A) ⊕ (Nat × List Value)} (hL : LNok f m la M) (hp : zPut f a (t + k, c) f') (hk : k ≤ 10) (ht : t ≤ 900) : LNok f' m la M :=
  hL.fr (zFr.refl.put (T := zTRi t) hp ⟨by show t ≤ t + k; omega, by show t + k ≤ t + 10; omega⟩) (fun τ h1 h2 => by have := h2.2; omega)
set_option maxRecDepth 10000 in
set_option maxHeartbeats 1000000 in
theorem c_lay {G : zW} {f0 : zHM} {m : Nat × Nat} {t r la n : Nat} {A : Nat → Nat} {ρ : zRS} {xs tm : Nat → Int32} (hr : RPic f0 t r la A ρ n xs tm) (ht : t ≤ 900) (hn200 : n ≤ 200) {N s : Nat} (hv : RV ρ N s) {M : Nat × Nat} (hL : LNok f0 m la M) {a b u : Nat} (ha : a < N) (hb : b < N) (hn : a ≠ b) (hu : u < 3) (hat : ρ 0 1 = nI a) (hnow : ρ 0 2 = nI u) : zM G yX1_lay cX1_lay 2 none 5 [.ref r, .int (nI b)] (f0, m) (zD none (fun f' m' => RPic f' t r la A (sLay ρ s n a b u) (n + 1) (sInL (sPa s a b) 1 xs) (sPutT tm (sPr (a * s) (b * s)) 1) ∧ LNok f' m' la M ∧ zFr (zTR t) f0 f')) := by
  refine zM.of (by decide) (Nat.le_of_ble_eq_true rfl) ?_
  have hv9 := hv.pos
  obtain ⟨r0, ⟨g1, a1, e1⟩, ⟨g2, a2, e2⟩, ⟨g3, a3, e3⟩, ⟨g4, a4, e4⟩, ⟨g5, a5, e5⟩, ⟨g6, a6, e6⟩, ⟨g7, a7, e7⟩, ⟨g8, a8, e8⟩, ⟨g9, a9, e9⟩, ⟨g10, a10, e10⟩⟩ := id hr
  have hf0 : zFr (zTR t) f0 f0 := zFr.refl
  refine v_aload_n dX1_lay_0 rfl rfl ?_
  refine v_getfield fX1_68 dX1_lay_1 (by assumption) (by rfl) ?_
  refine v_sipush (nI 200) dX1_lay_4 (by decide) ?_
  refine v_icmp_le 11 dX1_lay_7 (by decide) (fun b7 => ?_) (fun b7 => ?_)
  · refine v_aload_n dX1_lay_11 rfl rfl ?_
    refine v_getfield fX1_28 dX1_lay_12 (by assumption) (by rfl) ?_
    refine v_aload_n dX1_lay_15 rfl rfl ?_
    refine v_getfield fX1_68 dX1_lay_16 (by assumption) (by rfl) ?_
    refine v_aload_n dX1_lay_19 rfl rfl ?_
    refine v_getfield fX1_53 dX1_lay_20 (by assumption) (by rfl) ?_
    rw [hat]
    refine v_iastoreX dX1_lay_23 (by assumption) (vp_in_nI (by omega) (by omega)) (fun f hp => ?_)
    have r0 := hp.ne r0 (by omega)
    have a1 := hp.ne a1 (by omega)
    have a2 := hp.ne a2 (by omega)
    have a3 := hp.ne a3 (by omega)
    have a5 := hp.ne a5 (by omega)
    have a6 := hp.ne a6 (by omega)
    have a7 := hp.ne a7 (by omega)
    have a8 := hp.ne a8 (by omega)
    have a9 := hp.ne a9 (by omega)
    have a10 := hp.ne a10 (by omega)
    have a4 := hp.1
    have hf0 := zput_fr (k := 4) hf0 hp (by omega)
    have hL := zput_ln (k := 4) hL hp (by omega) ht
    refine v_aload_n dX1_lay_24 rfl rfl ?_
    refine v_getfield fX1_31 dX1_lay_25 (by assumption) (by rfl) ?_
    refine v_aload_n dX1_lay_28 rfl rfl ?_
    refine v_getfield fX1_68 dX1_lay_29 (by assumption) (by rfl) ?_
    refine v_iload_n dX1_lay_32 rfl rfl ?_
    refine v_iastoreX dX1_lay_33 (by assumption) (vp_in_nI (by omega) (by omega)) (fun f hp => ?_)
    have r0 := hp.ne r0 (by omega)
    have a1 := hp.ne a1 (by omega)
    have a2 := hp.ne a2 (by omega)
    have a3 := hp.ne a3 (by omega)
    have a4 := hp.ne a4 (by omega)
    have a6 := hp.ne a6 (by omega)
    have a7 := hp.ne a7 (by omega)
    have a8 := hp.ne a8 (by omega)
    have a9 := hp.ne a9 (by omega)
    have a10 := hp.ne a10 (by omega)
    have a5 := hp.1
    have hf0 := zput_fr (k := 5) hf0 hp (by omega)
    have hL := zput_ln (k := 5) hL hp (by omega) ht
    refine v_aload_n dX1_lay_34 rfl rfl ?_
    refine v_getfield fX1_34 dX1_lay_35 (by assumption) (by rfl) ?_
    refine v_aload_n dX1_lay_38 rfl rfl ?_
    refine v_getfield fX1_68 dX1_lay_39 (by assumption) (by rfl) ?_
    refine v_aload_n dX1_lay_42 rfl rfl ?_
    refine v_getfield fX1_56 dX1_lay_43 (by assumption) (by rfl) ?_
    rw [hnow]
    refine v_iastoreX dX1_lay_46 (by assumption) (vp_in_nI (by omega) (by omega)) (fun f hp => ?_)
    have r0 := hp.ne r0 (by omega)
    have a1 := hp.ne a1 (by omega)
    have a2 := hp.ne a2 (by omega)
    have a3 := hp.ne a3 (by omega)
    have a4 := hp.ne a4 (by omega)
    have a5 := hp.ne a5 (by omega)
    have a7 := hp.ne a7 (by omega)
    have a8 := hp.ne a8 (by omega)
    have a9 := hp.ne a9 (by omega)
    have a10 := hp.ne a10 (by omega)
    have a6 := hp.1
    have hf0 := zput_fr (k := 6) hf0 hp (by omega)
    have hL := zput_ln (k := 6) hL hp (by omega) ht
    have hr : RPV f t r la A (sAdd ρ n a b u) n (n + 1) xs tm := by
      have hu9 : ∀ (g φ : Nat → Int32) (x : Int32), (∀ i, i < n → g i = φ i) → ∀ i, i < n + 1 → upd g (nI n).toNatClampNeg x i = if i = n then x else φ i := fun g φ x he i hi => by
        rw [nI_clamp (by omega)]; unfold upd
        by_cases h : i = n
        · rw [if_pos h, if_pos h]
        · rw [if_neg h, if_neg h, he i (by omega)]
      exact ⟨r0, ⟨g1, a1, e1⟩, ⟨g2, a2, e2⟩, ⟨g3, a3, e3⟩, ⟨_, a4, hu9 g4 (ρ 4) _ e4⟩, ⟨_, a5, hu9 g5 (ρ 5) _ e5⟩, ⟨_, a6, hu9 g6 (ρ 6) _ e6⟩, ⟨g7, a7, e7⟩, ⟨g8, a8, e8⟩, ⟨g9, a9, e9⟩, ⟨g10, a10, e10⟩⟩
    refine v_aload_n dX1_lay_47 rfl rfl ?_
    refine v_aload_n dX1_lay_48 rfl rfl ?_
    refine v_getfield fX1_68 dX1_lay_49 (by assumption) (by rfl) ?_
    refine v_iconst (1) dX1_lay_52 (by decide) ?_
    refine v_callV0 kX1_126 gi_X1_putThread ge_X1_putThread rfl dX1_lay_53 (by assumption) (c_putThread hr ht (by omega) (hv : RV (sAdd ρ n a b u) N s) hL (c := n) (by omega) (by omega) ha hb hn hu ((zset_ne (by omega) n).trans ((zset_ne (by omega) n).trans ((zset_eq n).trans (if_pos rfl)))) ((zset_ne (by omega) n).trans ((zset_eq n).trans (if_pos rfl))) ((zset_eq n).trans (if_pos rfl)) 1) rfl rfl (by decide) (Nat.le_of_ble_eq_true rfl) (fun f m hc => ?_)
    obtain ⟨hr, hL, hf9⟩ := hc
    have hf0 := hf0.trans hf9
    have r0 := hr.1
    refine v_aload_n dX1_lay_56 rfl rfl ?_
    refine v_dup dX1_lay_57 rfl ?_
    refine v_getfield fX1_68 dX1_lay_58 (by assumption) (by rfl) ?_
    refine v_iconst (nI 1) dX1_lay_61 (by decide) ?_
    refine v_iadd dX1_lay_62 ?_
    rw [nI_add]
    refine v_putfieldX fX1_68 dX1_lay_63 (by assumption) rfl rfl (Nat.le_of_ble_eq_true rfl) (fun f hp => ?_)
    have hr := hr.obj (ρ' := sPutR (sAdd ρ n a b u) s a b u 1) (n' := n + 1) (fun _ _ _ => rfl) hp
    have hf0 := zput_fr (k := 0) hf0 hp (by omega)
    have hL := zput_ln (k := 0) hL hp (by omega) ht
    have r0 := hr.1
    refine v_aload_n dX1_lay_66 rfl rfl ?_
    refine v_iload_n dX1_lay_67 rfl rfl ?_
    refine v_putfieldX fX1_53 dX1_lay_68 (by assumption) rfl rfl (Nat.le_of_ble_eq_true rfl) (fun f hp => ?_)
    have hr := hr.obj (ρ' := sLay ρ s n a b u) (n' := n + 1) (fun k hk i => zset_ne hk i) hp
    have hf0 := zput_fr (k := 0) hf0 hp (by omega)
    have hL := zput_ln (k := 0) hL hp (by omega) ht
    exact v_return dX1_lay_71 rfl ⟨rfl, hr.pic, hL, hf0⟩
  · exact absurd (nI_le (by omega) (by omega)) b7
set_option maxRecDepth 10000 in
set_option maxHeartbeats 1000000 in
theorem c_takeOff {G : zW} {f0 : zHM} {m : Nat × Nat} {t r la k : Nat} {A : Nat → Nat} {ρ : zRS} {xs tm : Nat → Int32} (hr : RPic f0 t r la A ρ (k + 1) xs tm) (ht : t ≤ 900) (hk201 : k < 201) {N s : Nat} (hv : RV ρ N s) {M : Nat × Nat} (hL : LNok f0 m la M) {a b u : Nat} (ha : a < N) (hb : b < N) (hn : a ≠ b) (hu : u < 3) (q4 : ρ 4 k = nI a) (q5 : ρ 5 k = nI b) (q6 : ρ 6 k = nI u) : zM G yX1_takeOff cX1_takeOff 1 none 5 [.ref r] (f0, m) (zD none (fun f' m' => RPic f' t r la A (sOff ρ s a b u) k (sInL (sPa s a b) (-1) xs) (sPutT tm (sPr (a * s) (b * s)) (-1)) ∧ LNok f' m' la M ∧ zFr (zTR t) f0 f')) := by
  refine zM.of (by decide) (Nat.le_of_ble_eq_true rfl) ?_
  have hv9 := hv.pos
  obtain ⟨r0, ⟨g1, a1, e1⟩, ⟨g2, a2, e2⟩, ⟨g3, a3, e3⟩, ⟨g4, a4, e4⟩, ⟨g5, a5, e5⟩, ⟨g6, a6, e6⟩, ⟨g7, a7, e7⟩, ⟨g8, a8, e8⟩, ⟨g9, a9, e9⟩, ⟨g10, a10, e10⟩⟩ := id hr
  have hf0 : zFr (zTR t) f0 f0 := zFr.refl
  refine v_aload_n dX1_takeOff_0 rfl rfl ?_
  refine v_getfield fX1_68 dX1_takeOff_1 (by assumption) (by rfl) ?_
  refine v_if_gt 8 dX1_takeOff_4 (by decide) (fun b4 => ?_) (fun b4 => ?_)
  · refine v_aload_n dX1_takeOff_8 rfl rfl ?_
    refine v_dup dX1_takeOff_9 rfl ?_
    refine v_getfield fX1_68 dX1_takeOff_10 (by assumption) (by rfl) ?_
    refine v_iconst (nI 1) dX1_takeOff_13 (by decide) ?_
    refine v_isub dX1_takeOff_14 ?_
    rw [pk_sub (by omega), Nat.add_sub_cancel]
    refine v_putfieldX fX1_68 dX1_takeOff_15 (by assumption) rfl rfl (Nat.le_of_ble_eq_true rfl) (fun f hp => ?_)
    have hr := hr.pv.obj (ρ' := ρ) (n' := k) (fun _ _ _ => rfl) hp
    have hf0 := zput_fr (k := 0) hf0 hp (by omega)
    have hL := zput_ln (k := 0) hL hp (by omega) ht
    have r0 := hr.1
    refine v_aload_n dX1_takeOff_18 rfl rfl ?_
    refine v_aload_n dX1_takeOff_19 rfl rfl ?_
    refine v_getfield fX1_68 dX1_takeOff_20 (by assumption) (by rfl) ?_
    refine v_iconst (-1) dX1_takeOff_23 (by decide) ?_
    refine v_callV0 kX1_126 gi_X1_putThread ge_X1_putThread rfl dX1_takeOff_24 (by assumption) (c_putThread hr ht (by omega) hv hL (c := k) (by omega) (by omega) ha hb hn hu q4 q5 q6 (-1)) rfl rfl (by decide) (Nat.le_of_ble_eq_true rfl) (fun f m hc => ?_)
    obtain ⟨hr, hL, hf9⟩ := hc
    have hf0 := hf0.trans hf9
    obtain ⟨r0, ⟨g1, a1, e1⟩, ⟨g2, a2, e2⟩, ⟨g3, a3, e3⟩, ⟨g4, a4, e4⟩, ⟨g5, a5, e5⟩, ⟨g6, a6, e6⟩, ⟨g7, a7, e7⟩, ⟨g8, a8, e8⟩, ⟨g9, a9, e9⟩, ⟨g10, a10, e10⟩⟩ := id hr
    refine v_aload_n dX1_takeOff_27 rfl rfl ?_
    refine v_aload_n dX1_takeOff_28 rfl rfl ?_
    refine v_getfield fX1_28 dX1_takeOff_29 (by assumption) (by rfl) ?_
    refine v_aload_n dX1_takeOff_32 rfl rfl ?_
    refine v_getfield fX1_68 dX1_takeOff_33 (by assumption) (by rfl) ?_
    refine v_iaload dX1_takeOff_36 (by assumption) (vp_in_nI (by omega) (by omega)) ?_
    rw [nI_clamp (by omega), e4 k (by omega), show sPutR ρ s a b u (-1) 4 k = nI a from q4]
    refine v_putfieldX fX1_53 dX1_takeOff_37 (by assumption) rfl rfl (Nat.le_of_ble_eq_true rfl) (fun f hp => ?_)
    have hr := hr.obj (ρ' := zset (sPutR ρ s a b u (-1)) 0 (fun i => if i = 1 then nI a else ρ 0 i)) (n' := k) (fun k hk i => zset_ne hk i) hp
    have hf0 := zput_fr (k := 0) hf0 hp (by omega)
    have hL := zput_ln (k := 0) hL hp (by omega) ht
    obtain ⟨r0, ⟨g1, a1, e1⟩, ⟨g2, a2, e2⟩, ⟨g3, a3, e3⟩, ⟨g4, a4, e4⟩, ⟨g5, a5, e5⟩, ⟨g6, a6, e6⟩, ⟨g7, a7, e7⟩, ⟨g8, a8, e8⟩, ⟨g9, a9, e9⟩, ⟨g10, a10, e10⟩⟩ := id hr
    refine v_aload_n dX1_takeOff_40 rfl rfl ?_
    refine v_aload_n dX1_takeOff_41 rfl rfl ?_
    refine v_getfield fX1_34 dX1_takeOff_42 (by assumption) (by rfl) ?_
    refine v_aload_n dX1_takeOff_45 rfl rfl ?_
    refine v_getfield fX1_68 dX1_takeOff_46 (by assumption) (by rfl) ?_
    refine v_iaload dX1_takeOff_49 (by assumption) (vp_in_nI (by omega) (by omega)) ?_
    rw [nI_clamp (by omega), e6 k (by omega), show zset (sPutR ρ s a b u (-1)) 0 (fun i => if i = 1 then nI a else ρ 0 i) 6 k = nI u from q6]
    refine v_putfieldX fX1_56 dX1_takeOff_50 (by assumption) rfl rfl (Nat.le_of_ble_eq_true rfl) (fun f hp => ?_)
    have hr := hr.obj (ρ' := sOff ρ s a b u) (n' := k) (fun k hk i => (zset_ne hk i).trans (zset_ne hk i).symm) hp
    have hf0 := zput_fr (k := 0) hf0 hp (by omega)
    have hL := zput_ln (k := 0) hL hp (by omega) ht
    exact v_return dX1_takeOff_53 rfl ⟨rfl, (hr.less (Nat.le_succ k)).pic, hL, hf0⟩
  · exact absurd (by rw [show (0 : Int32) = nI 0 from rfl, nI_ltI (by omega) (by omega)]; omega) b4
end
section
theorem zput_fri {f0 f f' : zHM} {t k a : Nat} {c : (Nat × vp_A) ⊕ (Nat × List Value)} (h : zFr (zTRi t) f0 f) (hp : zPut f a (t + k, c) f') (hk : k ≤ 10) : zFr (zTRi t) f0 f' := h.put hp ⟨by show t ≤ t + k; omega, by show t + k ≤ t + 10; omega⟩
set_option maxRecDepth 10000 in
set_option maxHeartbeats 1000000 in
theorem c_copyFrom {G : zW} {f0 : zHM} {m : Nat × Nat} {t r la n t' r' n' : Nat} {A A' : Nat → Nat} {ρ ρ' : zRS} {xs tm xs' tm' : Nat → Int32} (hr : RPic f0 t r la A ρ n xs tm) (hr' : RPic f0 t' r' la A' ρ' n' xs' tm') (hd : t' + 10 < t ∨ t + 10 < t') (hn' : n' ≤ 201) : zM G yX1_copyFrom cX1_copyFrom 2 none 2 [.ref r, .ref r'] (f0, m) (zD none (fun f' m' => RPic f' t r la A ρ' n' xs' tm' ∧ zFr (zTRi t) f0 f' ∧ m' = m)) := by
  refine zM.of (by decide) (Nat.le_of_ble_eq_true rfl) ?_
  obtain ⟨r0, ⟨g1, a1, -⟩, ⟨g2, a2, -⟩, ⟨g3, a3, -⟩, ⟨g4, a4, -⟩, ⟨g5, a5, -⟩, ⟨g6, a6, -⟩, ⟨g7, a7, -⟩, ⟨g8, a8, -⟩, ⟨g9, a9, -⟩, ⟨g10, a10, -⟩⟩ := hr
  obtain ⟨b0, ⟨k1, b1, e1⟩, ⟨k2, b2, e2⟩, ⟨k3, b3, e3⟩, ⟨k4, b4, e4⟩, ⟨k5, b5, e5⟩, ⟨k6, b6, e6⟩, ⟨k7, b7, e7⟩, ⟨k8, b8, e8⟩, ⟨k9, b9, e9⟩, ⟨k10, b10, e10⟩⟩ := hr'
  have hf0 : zFr (zTRi t) f0 f0 := zFr.refl
  have hcp : ∀ (g' g φ : Nat → Int32) (N : Nat), N < 2 ^ 31 → (∀ i, i < N → g' i = φ i) → ∀ i, i < N → va_cpy g' g (nI 0).toNatClampNeg (nI 0).toNatClampNeg (nI N).toNatClampNeg i = φ i := fun g' g φ N hN he i hi => by
    rw [show (nI 0).toNatClampNeg = 0 from rfl, nI_clamp hN, pk_cpy_in (Nat.zero_le i) (by omega), ← he i hi]
    congr 1
    omega
  refine v_aload_n dX1_copyFrom_0 rfl rfl ?_
  refine v_aload_n dX1_copyFrom_1 rfl rfl ?_
  refine v_getfield fX1_9 dX1_copyFrom_2 (by assumption) (by rfl) ?_
  refine v_putfieldX fX1_9 dX1_copyFrom_5 (by assumption) rfl rfl (Nat.le_of_ble_eq_true rfl) (fun f hp => ?_)
  have a1 := hp.ne a1 (by omega)
  have a2 := hp.ne a2 (by omega)
  have a3 := hp.ne a3 (by omega)
  have a4 := hp.ne a4 (by omega)
  have a5 := hp.ne a5 (by omega)
  have a6 := hp.ne a6 (by omega)
  have a7 := hp.ne a7 (by omega)
  have a8 := hp.ne a8 (by omega)
  have a9 := hp.ne a9 (by omega)
  have a10 := hp.ne a10 (by omega)
  have b0 := hp.ne b0 (by omega)
  have b1 := hp.ne b1 (by omega)
  have b2 := hp.ne b2 (by omega)
  have b3 := hp.ne b3 (by omega)
  have b4 := hp.ne b4 (by omega)
  have b5 := hp.ne b5 (by omega)
  have b6 := hp.ne b6 (by omega)
  have b7 := hp.ne b7 (by omega)
  have b8 := hp.ne b8 (by omega)
  have b9 := hp.ne b9 (by omega)
  have b10 := hp.ne b10 (by omega)
  have r0 := hp.1
  have hf0 := zput_fri (k := 0) hf0 hp (by omega)
  refine v_aload_n dX1_copyFrom_8 rfl rfl ?_
  refine v_aload_n dX1_copyFrom_9 rfl rfl ?_
  refine v_getfield fX1_15 dX1_copyFrom_10 (by assumption) (by rfl) ?_
  refine v_putfieldX fX1_15 dX1_copyFrom_13 (by assumption) rfl rfl (Nat.le_of_ble_eq_true rfl) (fun f hp => ?_)
  have a1 := hp.ne a1 (by omega)
  have a2 := hp.ne a2 (by omega)
  have a3 := hp.ne a3 (by omega)
  have a4 := hp.ne a4 (by omega)
  have a5 := hp.ne a5 (by omega)
  have a6 := hp.ne a6 (by omega)
  have a7 := hp.ne a7 (by omega)
  have a8 := hp.ne a8 (by omega)
  have a9 := hp.ne a9 (by omega)
  have a10 := hp.ne a10 (by omega)
  have b0 := hp.ne b0 (by omega)
  have b1 := hp.ne b1 (by omega)
  have b2 := hp.ne b2 (by omega)
  have b3 := hp.ne b3 (by omega)
  have b4 := hp.ne b4 (by omega)
  have b5 := hp.ne b5 (by omega)
  have b6 := hp.ne b6 (by omega)
  have b7 := hp.ne b7 (by omega)
  have b8 := hp.ne b8 (by omega)
  have b9 := hp.ne b9 (by omega)
  have b10 := hp.ne b10 (by omega)
  have r0 := hp.1
  have hf0 := zput_fri (k := 0) hf0 hp (by omega)
  refine v_aload_n dX1_copyFrom_16 rfl rfl ?_
  refine v_aload_n dX1_copyFrom_17 rfl rfl ?_
  refine v_getfield fX1_53 dX1_copyFrom_18 (by assumption) (by rfl) ?_
  refine v_putfieldX fX1_53 dX1_copyFrom_21 (by assumption) rfl rfl (Nat.le_of_ble_eq_true rfl) (fun f hp => ?_)
  have a1 := hp.ne a1 (by omega)
  have a2 := hp.ne a2 (by omega)
  have a3 := hp.ne a3 (by omega)
  have a4 := hp.ne a4 (by omega)
  have a5 := hp.ne a5 (by omega)
  have a6 := hp.ne a6 (by omega)
  have a7 := hp.ne a7 (by omega)
  have a8 := hp.ne a8 (by omega)
  have a9 := hp.ne a9 (by omega)
  have a10 := hp.ne a10 (by omega)
  have b0 := hp.ne b0 (by omega)
  have b1 := hp.ne b1 (by omega)
  have b2 := hp.ne b2 (by omega)
  have b3 := hp.ne b3 (by omega)
  have b4 := hp.ne b4 (by omega)
  have b5 := hp.ne b5 (by omega)
  have b6 := hp.ne b6 (by omega)
  have b7 := hp.ne b7 (by omega)
  have b8 := hp.ne b8 (by omega)
  have b9 := hp.ne b9 (by omega)
  have b10 := hp.ne b10 (by omega)
  have r0 := hp.1
  have hf0 := zput_fri (k := 0) hf0 hp (by omega)
  refine v_aload_n dX1_copyFrom_24 rfl rfl ?_
  refine v_aload_n dX1_copyFrom_25 rfl rfl ?_
  refine v_getfield fX1_56 dX1_copyFrom_26 (by assumption) (by rfl) ?_
  refine v_putfieldX fX1_56 dX1_copyFrom_29 (by assumption) rfl rfl (Nat.le_of_ble_eq_true rfl) (fun f hp => ?_)
  have a1 := hp.ne a1 (by omega)
  have a2 := hp.ne a2 (by omega)
  have a3 := hp.ne a3 (by omega)
  have a4 := hp.ne a4 (by omega)
  have a5 := hp.ne a5 (by omega)
  have a6 := hp.ne a6 (by omega)
  have a7 := hp.ne a7 (by omega)
  have a8 := hp.ne a8 (by omega)
  have a9 := hp.ne a9 (by omega)
  have a10 := hp.ne a10 (by omega)
  have b0 := hp.ne b0 (by omega)
  have b1 := hp.ne b1 (by omega)
  have b2 := hp.ne b2 (by omega)
  have b3 := hp.ne b3 (by omega)
  have b4 := hp.ne b4 (by omega)
  have b5 := hp.ne b5 (by omega)
  have b6 := hp.ne b6 (by omega)
  have b7 := hp.ne b7 (by omega)
  have b8 := hp.ne b8 (by omega)
  have b9 := hp.ne b9 (by omega)
  have b10 := hp.ne b10 (by omega)
  have r0 := hp.1
  have hf0 := zput_fri (k := 0) hf0 hp (by omega)
  refine v_aload_n dX1_copyFrom_32 rfl rfl ?_
  refine v_aload_n dX1_copyFrom_33 rfl rfl ?_
  refine v_getfield fX1_59 dX1_copyFrom_34 (by assumption) (by rfl) ?_
  refine v_putfieldX fX1_59 dX1_copyFrom_37 (by assumption) rfl rfl (Nat.le_of_ble_eq_true rfl) (fun f hp => ?_)
  have a1 := hp.ne a1 (by omega)
  have a2 := hp.ne a2 (by omega)
  have a3 := hp.ne a3 (by omega)
  have a4 := hp.ne a4 (by omega)
  have a5 := hp.ne a5 (by omega)
  have a6 := hp.ne a6 (by omega)
  have a7 := hp.ne a7 (by omega)
  have a8 := hp.ne a8 (by omega)
  have a9 := hp.ne a9 (by omega)
  have a10 := hp.ne a10 (by omega)
  have b0 := hp.ne b0 (by omega)
  have b1 := hp.ne b1 (by omega)
  have b2 := hp.ne b2 (by omega)
  have b3 := hp.ne b3 (by omega)
  have b4 := hp.ne b4 (by omega)
  have b5 := hp.ne b5 (by omega)
  have b6 := hp.ne b6 (by omega)
  have b7 := hp.ne b7 (by omega)
  have b8 := hp.ne b8 (by omega)
  have b9 := hp.ne b9 (by omega)
  have b10 := hp.ne b10 (by omega)
  have r0 := hp.1
  have hf0 := zput_fri (k := 0) hf0 hp (by omega)
  refine v_aload_n dX1_copyFrom_40 rfl rfl ?_
  refine v_aload_n dX1_copyFrom_41 rfl rfl ?_
  refine v_getfield fX1_62 dX1_copyFrom_42 (by assumption) (by rfl) ?_
  refine v_putfieldX fX1_62 dX1_copyFrom_45 (by assumption) rfl rfl (Nat.le_of_ble_eq_true rfl) (fun f hp => ?_)
  have a1 := hp.ne a1 (by omega)
  have a2 := hp.ne a2 (by omega)
  have a3 := hp.ne a3 (by omega)
  have a4 := hp.ne a4 (by omega)
  have a5 := hp.ne a5 (by omega)
  have a6 := hp.ne a6 (by omega)
  have a7 := hp.ne a7 (by omega)
  have a8 := hp.ne a8 (by omega)
  have a9 := hp.ne a9 (by omega)
  have a10 := hp.ne a10 (by omega)
  have b0 := hp.ne b0 (by omega)
  have b1 := hp.ne b1 (by omega)
  have b2 := hp.ne b2 (by omega)
  have b3 := hp.ne b3 (by omega)
  have b4 := hp.ne b4 (by omega)
  have b5 := hp.ne b5 (by omega)
  have b6 := hp.ne b6 (by omega)
  have b7 := hp.ne b7 (by omega)
  have b8 := hp.ne b8 (by omega)
  have b9 := hp.ne b9 (by omega)
  have b10 := hp.ne b10 (by omega)
  have r0 := hp.1
  have hf0 := zput_fri (k := 0) hf0 hp (by omega)
  refine v_aload_n dX1_copyFrom_48 rfl rfl ?_
  refine v_aload_n dX1_copyFrom_49 rfl rfl ?_
  refine v_getfield fX1_65 dX1_copyFrom_50 (by assumption) (by rfl) ?_
  refine v_putfieldX fX1_65 dX1_copyFrom_53 (by assumption) rfl rfl (Nat.le_of_ble_eq_true rfl) (fun f hp => ?_)
  have a1 := hp.ne a1 (by omega)
  have a2 := hp.ne a2 (by omega)
  have a3 := hp.ne a3 (by omega)
  have a4 := hp.ne a4 (by omega)
  have a5 := hp.ne a5 (by omega)
  have a6 := hp.ne a6 (by omega)
  have a7 := hp.ne a7 (by omega)
  have a8 := hp.ne a8 (by omega)
  have a9 := hp.ne a9 (by omega)
  have a10 := hp.ne a10 (by omega)
  have b0 := hp.ne b0 (by omega)
  have b1 := hp.ne b1 (by omega)
  have b2 := hp.ne b2 (by omega)
  have b3 := hp.ne b3 (by omega)
  have b4 := hp.ne b4 (by omega)
  have b5 := hp.ne b5 (by omega)
  have b6 := hp.ne b6 (by omega)
  have b7 := hp.ne b7 (by omega)
  have b8 := hp.ne b8 (by omega)
  have b9 := hp.ne b9 (by omega)
  have b10 := hp.ne b10 (by omega)
  have r0 := hp.1
  have hf0 := zput_fri (k := 0) hf0 hp (by omega)
  refine v_aload_n dX1_copyFrom_56 rfl rfl ?_
  refine v_aload_n dX1_copyFrom_57 rfl rfl ?_
  refine v_getfield fX1_68 dX1_copyFrom_58 (by assumption) (by rfl) ?_
  refine v_putfieldX fX1_68 dX1_copyFrom_61 (by assumption) rfl rfl (Nat.le_of_ble_eq_true rfl) (fun f hp => ?_)
  have a1 := hp.ne a1 (by omega)
  have a2 := hp.ne a2 (by omega)
  have a3 := hp.ne a3 (by omega)
  have a4 := hp.ne a4 (by omega)
  have a5 := hp.ne a5 (by omega)
  have a6 := hp.ne a6 (by omega)
  have a7 := hp.ne a7 (by omega)
  have a8 := hp.ne a8 (by omega)
  have a9 := hp.ne a9 (by omega)
  have a10 := hp.ne a10 (by omega)
  have b0 := hp.ne b0 (by omega)
  have b1 := hp.ne b1 (by omega)
  have b2 := hp.ne b2 (by omega)
  have b3 := hp.ne b3 (by omega)
  have b4 := hp.ne b4 (by omega)
  have b5 := hp.ne b5 (by omega)
  have b6 := hp.ne b6 (by omega)
  have b7 := hp.ne b7 (by omega)
  have b8 := hp.ne b8 (by omega)
  have b9 := hp.ne b9 (by omega)
  have b10 := hp.ne b10 (by omega)
  have r0 := hp.1
  have hf0 := zput_fri (k := 0) hf0 hp (by omega)
  refine v_aload_n dX1_copyFrom_64 rfl rfl ?_
  refine v_getfield fX1_18 dX1_copyFrom_65 (by assumption) (by rfl) ?_
  refine v_iconst (nI 0) dX1_copyFrom_68 (by decide) ?_
  refine v_aload_n dX1_copyFrom_69 rfl rfl ?_
  refine v_getfield fX1_18 dX1_copyFrom_70 (by assumption) (by rfl) ?_
  refine v_iconst (nI 0) dX1_copyFrom_73 (by decide) ?_
  refine v_iconst (nI 3) dX1_copyFrom_74 (by decide) ?_
  refine v_copyIX gcpX1 gcpN gcpS gcpI dX1_copyFrom_75 (by assumption) (by assumption) (by decide) (by decide) (nI_pos (by omega)) (by rw [show (nI 0).toNatClampNeg = 0 from rfl, nI_clamp (by omega)]; omega) (by rw [show (nI 0).toNatClampNeg = 0 from rfl, nI_clamp (by omega)]; omega) (by decide) (Nat.le_of_ble_eq_true rfl) (fun f hp => ?_)
  have r0 := hp.ne r0 (by omega)
  have a2 := hp.ne a2 (by omega)
  have a3 := hp.ne a3 (by omega)
  have a4 := hp.ne a4 (by omega)
  have a5 := hp.ne a5 (by omega)
  have a6 := hp.ne a6 (by omega)
  have a7 := hp.ne a7 (by omega)
  have a8 := hp.ne a8 (by omega)
  have a9 := hp.ne a9 (by omega)
  have a10 := hp.ne a10 (by omega)
  have b0 := hp.ne b0 (by omega)
  have b1 := hp.ne b1 (by omega)
  have b2 := hp.ne b2 (by omega)
  have b3 := hp.ne b3 (by omega)
  have b4 := hp.ne b4 (by omega)
  have b5 := hp.ne b5 (by omega)
  have b6 := hp.ne b6 (by omega)
  have b7 := hp.ne b7 (by omega)
  have b8 := hp.ne b8 (by omega)
  have b9 := hp.ne b9 (by omega)
  have b10 := hp.ne b10 (by omega)
  have a1 := hp.1
  have hf0 := zput_fri (k := 1) hf0 hp (by omega)
  refine v_aload_n dX1_copyFrom_78 rfl rfl ?_
  refine v_getfield fX1_22 dX1_copyFrom_79 (by assumption) (by rfl) ?_
  refine v_iconst (nI 0) dX1_copyFrom_82 (by decide) ?_
  refine v_aload_n dX1_copyFrom_83 rfl rfl ?_
  refine v_getfield fX1_22 dX1_copyFrom_84 (by assumption) (by rfl) ?_
  refine v_iconst (nI 0) dX1_copyFrom_87 (by decide) ?_
  refine v_iconst (nI 3) dX1_copyFrom_88 (by decide) ?_
  refine v_copyIX gcpX1 gcpN gcpS gcpI dX1_copyFrom_89 (by assumption) (by assumption) (by decide) (by decide) (nI_pos (by omega)) (by rw [show (nI 0).toNatClampNeg = 0 from rfl, nI_clamp (by omega)]; omega) (by rw [show (nI 0).toNatClampNeg = 0 from rfl, nI_clamp (by omega)]; omega) (by decide) (Nat.le_of_ble_eq_true rfl) (fun f hp => ?_)
  have r0 := hp.ne r0 (by omega)
  have a1 := hp.ne a1 (by omega)
  have a3 := hp.ne a3 (by omega)
  have a4 := hp.ne a4 (by omega)
  have a5 := hp.ne a5 (by omega)
  have a6 := hp.ne a6 (by omega)
  have a7 := hp.ne a7 (by omega)
  have a8 := hp.ne a8 (by omega)
  have a9 := hp.ne a9 (by omega)
  have a10 := hp.ne a10 (by omega)
  have b0 := hp.ne b0 (by omega)
  have b1 := hp.ne b1 (by omega)
  have b2 := hp.ne b2 (by omega)
  have b3 := hp.ne b3 (by omega)
  have b4 := hp.ne b4 (by omega)
  have b5 := hp.ne b5 (by omega)
  have b6 := hp.ne b6 (by omega)
  have b7 := hp.ne b7 (by omega)
  have b8 := hp.ne b8 (by omega)
  have b9 := hp.ne b9 (by omega)
  have b10 := hp.ne b10 (by omega)
  have a2 := hp.1
  have hf0 := zput_fri (k := 2) hf0 hp (by omega)
  refine v_aload_n dX1_copyFrom_92 rfl rfl ?_
  refine v_getfield fX1_25 dX1_copyFrom_93 (by assumption) (by rfl) ?_
  refine v_iconst (nI 0) dX1_copyFrom_96 (by decide) ?_
  refine v_aload_n dX1_copyFrom_97 rfl rfl ?_
  refine v_getfield fX1_25 dX1_copyFrom_98 (by assumption) (by rfl) ?_
  refine v_iconst (nI 0) dX1_copyFrom_101 (by decide) ?_
  refine v_iconst (nI 3) dX1_copyFrom_102 (by decide) ?_
  refine v_copyIX gcpX1 gcpN gcpS gcpI dX1_copyFrom_103 (by assumption) (by assumption) (by decide) (by decide) (nI_pos (by omega)) (by rw [show (nI 0).toNatClampNeg = 0 from rfl, nI_clamp (by omega)]; omega) (by rw [show (nI 0).toNatClampNeg = 0 from rfl, nI_clamp (by omega)]; omega) (by decide) (Nat.le_of_ble_eq_true rfl) (fun f hp => ?_)
  have r0 := hp.ne r0 (by omega)
  have a1 := hp.ne a1 (by omega)
  have a2 := hp.ne a2 (by omega)
  have a4 := hp.ne a4 (by omega)
  have a5 := hp.ne a5 (by omega)
  have a6 := hp.ne a6 (by omega)
  have a7 := hp.ne a7 (by omega)
  have a8 := hp.ne a8 (by omega)
  have a9 := hp.ne a9 (by omega)
  have a10 := hp.ne a10 (by omega)
  have b0 := hp.ne b0 (by omega)
  have b1 := hp.ne b1 (by omega)
  have b2 := hp.ne b2 (by omega)
  have b3 := hp.ne b3 (by omega)
  have b4 := hp.ne b4 (by omega)
  have b5 := hp.ne b5 (by omega)
  have b6 := hp.ne b6 (by omega)
  have b7 := hp.ne b7 (by omega)
  have b8 := hp.ne b8 (by omega)
  have b9 := hp.ne b9 (by omega)
  have b10 := hp.ne b10 (by omega)
  have a3 := hp.1
  have hf0 := zput_fri (k := 3) hf0 hp (by omega)
  refine v_aload_n dX1_copyFrom_106 rfl rfl ?_
  refine v_getfield fX1_28 dX1_copyFrom_107 (by assumption) (by rfl) ?_
  refine v_iconst (nI 0) dX1_copyFrom_110 (by decide) ?_
  refine v_aload_n dX1_copyFrom_111 rfl rfl ?_
  refine v_getfield fX1_28 dX1_copyFrom_112 (by assumption) (by rfl) ?_
  refine v_iconst (nI 0) dX1_copyFrom_115 (by decide) ?_
  refine v_aload_n dX1_copyFrom_116 rfl rfl ?_
  refine v_getfield fX1_68 dX1_copyFrom_117 (by assumption) (by rfl) ?_
  refine v_copyIX gcpX1 gcpN gcpS gcpI dX1_copyFrom_120 (by assumption) (by assumption) (by decide) (by decide) (nI_pos (by omega)) (by rw [show (nI 0).toNatClampNeg = 0 from rfl, nI_clamp (by omega)]; omega) (by rw [show (nI 0).toNatClampNeg = 0 from rfl, nI_clamp (by omega)]; omega) (by decide) (Nat.le_of_ble_eq_true rfl) (fun f hp => ?_)
  have r0 := hp.ne r0 (by omega)
  have a1 := hp.ne a1 (by omega)
  have a2 := hp.ne a2 (by omega)
  have a3 := hp.ne a3 (by omega)
  have a5 := hp.ne a5 (by omega)
  have a6 := hp.ne a6 (by omega)
  have a7 := hp.ne a7 (by omega)
  have a8 := hp.ne a8 (by omega)
  have a9 := hp.ne a9 (by omega)
  have a10 := hp.ne a10 (by omega)
  have b0 := hp.ne b0 (by omega)
  have b1 := hp.ne b1 (by omega)
  have b2 := hp.ne b2 (by omega)
  have b3 := hp.ne b3 (by omega)
  have b4 := hp.ne b4 (by omega)
  have b5 := hp.ne b5 (by omega)
  have b6 := hp.ne b6 (by omega)
  have b7 := hp.ne b7 (by omega)
  have b8 := hp.ne b8 (by omega)
  have b9 := hp.ne b9 (by omega)
  have b10 := hp.ne b10 (by omega)
  have a4 := hp.1
  have hf0 := zput_fri (k := 4) hf0 hp (by omega)
  refine v_aload_n dX1_copyFrom_123 rfl rfl ?_
  refine v_getfield fX1_31 dX1_copyFrom_124 (by assumption) (by rfl) ?_
  refine v_iconst (nI 0) dX1_copyFrom_127 (by decide) ?_
  refine v_aload_n dX1_copyFrom_128 rfl rfl ?_
  refine v_getfield fX1_31 dX1_copyFrom_129 (by assumption) (by rfl) ?_
  refine v_iconst (nI 0) dX1_copyFrom_132 (by decide) ?_
  refine v_aload_n dX1_copyFrom_133 rfl rfl ?_
  refine v_getfield fX1_68 dX1_copyFrom_134 (by assumption) (by rfl) ?_
  refine v_copyIX gcpX1 gcpN gcpS gcpI dX1_copyFrom_137 (by assumption) (by assumption) (by decide) (by decide) (nI_pos (by omega)) (by rw [show (nI 0).toNatClampNeg = 0 from rfl, nI_clamp (by omega)]; omega) (by rw [show (nI 0).toNatClampNeg = 0 from rfl, nI_clamp (by omega)]; omega) (by decide) (Nat.le_of_ble_eq_true rfl) (fun f hp => ?_)
  have r0 := hp.ne r0 (by omega)
  have a1 := hp.ne a1 (by omega)
  have a2 := hp.ne a2 (by omega)
  have a3 := hp.ne a3 (by omega)
  have a4 := hp.ne a4 (by omega)
  have a6 := hp.ne a6 (by omega)
  have a7 := hp.ne a7 (by omega)
  have a8 := hp.ne a8 (by omega)
  have a9 := hp.ne a9 (by omega)
  have a10 := hp.ne a10 (by omega)
  have b0 := hp.ne b0 (by omega)
  have b1 := hp.ne b1 (by omega)
  have b2 := hp.ne b2 (by omega)
  have b3 := hp.ne b3 (by omega)
  have b4 := hp.ne b4 (by omega)
  have b5 := hp.ne b5 (by omega)
  have b6 := hp.ne b6 (by omega)
  have b7 := hp.ne b7 (by omega)
  have b8 := hp.ne b8 (by omega)
  have b9 := hp.ne b9 (by omega)
  have b10 := hp.ne b10 (by omega)
  have a5 := hp.1
  have hf0 := zput_fri (k := 5) hf0 hp (by omega)
  refine v_aload_n dX1_copyFrom_140 rfl rfl ?_
  refine v_getfield fX1_34 dX1_copyFrom_141 (by assumption) (by rfl) ?_
  refine v_iconst (nI 0) dX1_copyFrom_144 (by decide) ?_
  refine v_aload_n dX1_copyFrom_145 rfl rfl ?_
  refine v_getfield fX1_34 dX1_copyFrom_146 (by assumption) (by rfl) ?_
  refine v_iconst (nI 0) dX1_copyFrom_149 (by decide) ?_
  refine v_aload_n dX1_copyFrom_150 rfl rfl ?_
  refine v_getfield fX1_68 dX1_copyFrom_151 (by assumption) (by rfl) ?_
  refine v_copyIX gcpX1 gcpN gcpS gcpI dX1_copyFrom_154 (by assumption) (by assumption) (by decide) (by decide) (nI_pos (by omega)) (by rw [show (nI 0).toNatClampNeg = 0 from rfl, nI_clamp (by omega)]; omega) (by rw [show (nI 0).toNatClampNeg = 0 from rfl, nI_clamp (by omega)]; omega) (by decide) (Nat.le_of_ble_eq_true rfl) (fun f hp => ?_)
  have r0 := hp.ne r0 (by omega)
  have a1 := hp.ne a1 (by omega)
  have a2 := hp.ne a2 (by omega)
  have a3 := hp.ne a3 (by omega)
  have a4 := hp.ne a4 (by omega)
  have a5 := hp.ne a5 (by omega)
  have a7 := hp.ne a7 (by omega)
  have a8 := hp.ne a8 (by omega)
  have a9 := hp.ne a9 (by omega)
  have a10 := hp.ne a10 (by omega)
  have b0 := hp.ne b0 (by omega)
  have b1 := hp.ne b1 (by omega)
  have b2 := hp.ne b2 (by omega)
  have b3 := hp.ne b3 (by omega)
  have b4 := hp.ne b4 (by omega)
  have b5 := hp.ne b5 (by omega)
  have b6 := hp.ne b6 (by omega)
  have b7 := hp.ne b7 (by omega)
  have b8 := hp.ne b8 (by omega)
  have b9 := hp.ne b9 (by omega)
  have b10 := hp.ne b10 (by omega)
  have a6 := hp.1
  have hf0 := zput_fri (k := 6) hf0 hp (by omega)
  refine v_aload_n dX1_copyFrom_157 rfl rfl ?_
  refine v_getfield fX1_37 dX1_copyFrom_158 (by assumption) (by rfl) ?_
  refine v_iconst (nI 0) dX1_copyFrom_161 (by decide) ?_
  refine v_aload_n dX1_copyFrom_162 rfl rfl ?_
  refine v_getfield fX1_37 dX1_copyFrom_163 (by assumption) (by rfl) ?_
  refine v_iconst (nI 0) dX1_copyFrom_166 (by decide) ?_
  refine v_sipush (nI 144) dX1_copyFrom_167 (by decide) ?_
  refine v_copyIX gcpX1 gcpN gcpS gcpI dX1_copyFrom_170 (by assumption) (by assumption) (by decide) (by decide) (nI_pos (by omega)) (by rw [show (nI 0).toNatClampNeg = 0 from rfl, nI_clamp (by omega)]; omega) (by rw [show (nI 0).toNatClampNeg = 0 from rfl, nI_clamp (by omega)]; omega) (by decide) (Nat.le_of_ble_eq_true rfl) (fun f hp => ?_)
  have r0 := hp.ne r0 (by omega)
  have a1 := hp.ne a1 (by omega)
  have a2 := hp.ne a2 (by omega)
  have a3 := hp.ne a3 (by omega)
  have a4 := hp.ne a4 (by omega)
  have a5 := hp.ne a5 (by omega)
  have a6 := hp.ne a6 (by omega)
  have a8 := hp.ne a8 (by omega)
  have a9 := hp.ne a9 (by omega)
  have a10 := hp.ne a10 (by omega)
  have b0 := hp.ne b0 (by omega)
  have b1 := hp.ne b1 (by omega)
  have b2 := hp.ne b2 (by omega)
  have b3 := hp.ne b3 (by omega)
  have b4 := hp.ne b4 (by omega)
  have b5 := hp.ne b5 (by omega)
  have b6 := hp.ne b6 (by omega)
  have b7 := hp.ne b7 (by omega)
  have b8 := hp.ne b8 (by omega)
  have b9 := hp.ne b9 (by omega)
  have b10 := hp.ne b10 (by omega)
  have a7 := hp.1
  have hf0 := zput_fri (k := 7) hf0 hp (by omega)
  refine v_aload_n dX1_copyFrom_173 rfl rfl ?_
  refine v_getfield fX1_40 dX1_copyFrom_174 (by assumption) (by rfl) ?_
  refine v_iconst (nI 0) dX1_copyFrom_177 (by decide) ?_
  refine v_aload_n dX1_copyFrom_178 rfl rfl ?_
  refine v_getfield fX1_40 dX1_copyFrom_179 (by assumption) (by rfl) ?_
  refine v_iconst (nI 0) dX1_copyFrom_182 (by decide) ?_
  refine v_sipush (nI 144) dX1_copyFrom_183 (by decide) ?_
  refine v_copyIX gcpX1 gcpN gcpS gcpI dX1_copyFrom_186 (by assumption) (by assumption) (by decide) (by decide) (nI_pos (by omega)) (by rw [show (nI 0).toNatClampNeg = 0 from rfl, nI_clamp (by omega)]; omega) (by rw [show (nI 0).toNatClampNeg = 0 from rfl, nI_clamp (by omega)]; omega) (by decide) (Nat.le_of_ble_eq_true rfl) (fun f hp => ?_)
  have r0 := hp.ne r0 (by omega)
  have a1 := hp.ne a1 (by omega)
  have a2 := hp.ne a2 (by omega)
  have a3 := hp.ne a3 (by omega)
  have a4 := hp.ne a4 (by omega)
  have a5 := hp.ne a5 (by omega)
  have a6 := hp.ne a6 (by omega)
  have a7 := hp.ne a7 (by omega)
  have a9 := hp.ne a9 (by omega)
  have a10 := hp.ne a10 (by omega)
  have b0 := hp.ne b0 (by omega)
  have b1 := hp.ne b1 (by omega)
  have b2 := hp.ne b2 (by omega)
  have b3 := hp.ne b3 (by omega)
  have b4 := hp.ne b4 (by omega)
  have b5 := hp.ne b5 (by omega)
  have b6 := hp.ne b6 (by omega)
  have b7 := hp.ne b7 (by omega)
  have b8 := hp.ne b8 (by omega)
  have b9 := hp.ne b9 (by omega)
  have b10 := hp.ne b10 (by omega)
  have a8 := hp.1
  have hf0 := zput_fri (k := 8) hf0 hp (by omega)
  refine v_aload_n dX1_copyFrom_189 rfl rfl ?_
  refine v_getfield fX1_43 dX1_copyFrom_190 (by assumption) (by rfl) ?_
  refine v_iconst (nI 0) dX1_copyFrom_193 (by decide) ?_
  refine v_aload_n dX1_copyFrom_194 rfl rfl ?_
  refine v_getfield fX1_43 dX1_copyFrom_195 (by assumption) (by rfl) ?_
  refine v_iconst (nI 0) dX1_copyFrom_198 (by decide) ?_
  refine v_sipush (nI 144) dX1_copyFrom_199 (by decide) ?_
  refine v_copyIX gcpX1 gcpN gcpS gcpI dX1_copyFrom_202 (by assumption) (by assumption) (by decide) (by decide) (nI_pos (by omega)) (by rw [show (nI 0).toNatClampNeg = 0 from rfl, nI_clamp (by omega)]; omega) (by rw [show (nI 0).toNatClampNeg = 0 from rfl, nI_clamp (by omega)]; omega) (by decide) (Nat.le_of_ble_eq_true rfl) (fun f hp => ?_)
  have r0 := hp.ne r0 (by omega)
  have a1 := hp.ne a1 (by omega)
  have a2 := hp.ne a2 (by omega)
  have a3 := hp.ne a3 (by omega)
  have a4 := hp.ne a4 (by omega)
  have a5 := hp.ne a5 (by omega)
  have a6 := hp.ne a6 (by omega)
  have a7 := hp.ne a7 (by omega)
  have a8 := hp.ne a8 (by omega)
  have a10 := hp.ne a10 (by omega)
  have b0 := hp.ne b0 (by omega)
  have b1 := hp.ne b1 (by omega)
  have b2 := hp.ne b2 (by omega)
  have b3 := hp.ne b3 (by omega)
  have b4 := hp.ne b4 (by omega)
  have b5 := hp.ne b5 (by omega)
  have b6 := hp.ne b6 (by omega)
  have b7 := hp.ne b7 (by omega)
  have b8 := hp.ne b8 (by omega)
  have b9 := hp.ne b9 (by omega)
  have b10 := hp.ne b10 (by omega)
  have a9 := hp.1
  have hf0 := zput_fri (k := 9) hf0 hp (by omega)
  refine v_aload_n dX1_copyFrom_205 rfl rfl ?_
  refine v_getfield fX1_46 dX1_copyFrom_206 (by assumption) (by rfl) ?_
  refine v_iconst (nI 0) dX1_copyFrom_209 (by decide) ?_
  refine v_aload_n dX1_copyFrom_210 rfl rfl ?_
  refine v_getfield fX1_46 dX1_copyFrom_211 (by assumption) (by rfl) ?_
  refine v_iconst (nI 0) dX1_copyFrom_214 (by decide) ?_
  refine v_sipush (nI 276) dX1_copyFrom_215 (by decide) ?_
  refine v_copyIX gcpX1 gcpN gcpS gcpI dX1_copyFrom_218 (by assumption) (by assumption) (by decide) (by decide) (nI_pos (by omega)) (by rw [show (nI 0).toNatClampNeg = 0 from rfl, nI_clamp (by omega)]; omega) (by rw [show (nI 0).toNatClampNeg = 0 from rfl, nI_clamp (by omega)]; omega) (by decide) (Nat.le_of_ble_eq_true rfl) (fun f hp => ?_)
  have r0 := hp.ne r0 (by omega)
  have a1 := hp.ne a1 (by omega)
  have a2 := hp.ne a2 (by omega)
  have a3 := hp.ne a3 (by omega)
  have a4 := hp.ne a4 (by omega)
  have a5 := hp.ne a5 (by omega)
  have a6 := hp.ne a6 (by omega)
  have a7 := hp.ne a7 (by omega)
  have a8 := hp.ne a8 (by omega)
  have a9 := hp.ne a9 (by omega)
  have b0 := hp.ne b0 (by omega)
  have b1 := hp.ne b1 (by omega)
  have b2 := hp.ne b2 (by omega)
  have b3 := hp.ne b3 (by omega)
  have b4 := hp.ne b4 (by omega)
  have b5 := hp.ne b5 (by omega)
  have b6 := hp.ne b6 (by omega)
  have b7 := hp.ne b7 (by omega)
  have b8 := hp.ne b8 (by omega)
  have b9 := hp.ne b9 (by omega)
  have b10 := hp.ne b10 (by omega)
  have a10 := hp.1
  have hf0 := zput_fri (k := 10) hf0 hp (by omega)
  exact v_return dX1_copyFrom_221 rfl ⟨rfl, ⟨r0, ⟨_, a1, hcp _ _ _ _ (by omega) e1⟩, ⟨_, a2, hcp _ _ _ _ (by omega) e2⟩, ⟨_, a3, hcp _ _ _ _ (by omega) e3⟩, ⟨_, a4, hcp _ _ _ _ (by omega) e4⟩, ⟨_, a5, hcp _ _ _ _ (by omega) e5⟩, ⟨_, a6, hcp _ _ _ _ (by omega) e6⟩, ⟨_, a7, hcp _ _ _ _ (by omega) e7⟩, ⟨_, a8, hcp _ _ _ _ (by omega) e8⟩, ⟨_, a9, hcp _ _ _ _ (by omega) e9⟩, ⟨_, a10, hcp _ _ _ _ (by omega) e10⟩⟩, hf0, rfl⟩
end
section
/-- a new ring -/
def sNew : zRS := fun k i => if k = 0 then (if i = 0 then 12 else 0) else if k = 1 then (if i = 0 then 1 else if i = 1 then 2 else 3) else if k = 2 then 2000 else if k = 3 then (if i = 2 then 2 else 1) else 0
theorem h3 (g φ : Nat → Int32) (e0 : g 0 = φ 0) (e1 : g 1 = φ 1) (e2 : g 2 = φ 2) : ∀ i, i < 3 → g i = φ i := fun i hi => by
  match i, hi with
  | 0, _ => exact e0
  | 1, _ => exact e1
  | 2, _ => exact e2
set_option maxRecDepth 10000 in
set_option maxHeartbeats 1000000 in
theorem c_Ring_init {G : zW} {f0 : zHM} {m : Nat × Nat} {t r la : Nat} (r0 : f0 r = some (t, .inr (1, [.null, .int 0, .int 0, .int 0, .int 0, .int 0, .int 0, .int 0, .int 0, .null, .null, .null, .null, .null, .null, .null, .null, .null, .null]))) (hm1 : m.1 + 10 ≤ 50000) (hm2 : m.2 + 1320 ≤ 400000) : zM G yX1_init cX1_init 2 none 2 [.ref r, .ref la] (f0, m) (zD none (fun f' m' => (∃ A, RPic f' t r la A sNew 0 (fun _ => 0) (fun _ => 0)) ∧ zFr (zTRi t) f0 f' ∧ m' = (m.1 + 10, m.2 + 1320))) := by
  refine zM.of (by decide) (Nat.le_of_ble_eq_true rfl) ?_
  have hf0 : zFr (zTRi t) f0 f0 := zFr.refl
  refine v_aload_n dX1_init_0 rfl rfl ?_
  refine v_objInit goLX1 goI goC dX1_init_1 (by decide) (Nat.le_of_ble_eq_true rfl) ?_
  refine v_aload_n dX1_init_4 rfl rfl ?_
  refine v_bipush (12) dX1_init_5 (by decide) ?_
  refine v_putfieldX fX1_9 dX1_init_7 (by assumption) rfl rfl (Nat.le_of_ble_eq_true rfl) (fun f hp => ?_)
  
  have r0 := hp.1
  have hf0 := zput_fri (k := 0) hf0 hp (by omega)
  refine v_aload_n dX1_init_10 rfl rfl ?_
  refine v_iconst (2) dX1_init_11 (by decide) ?_
  refine v_putfieldX fX1_15 dX1_init_12 (by assumption) rfl rfl (Nat.le_of_ble_eq_true rfl) (fun f hp => ?_)
  
  have r0 := hp.1
  have hf0 := zput_fri (k := 0) hf0 hp (by omega)
  refine v_aload_n dX1_init_15 rfl rfl ?_
  refine v_iconst (nI 3) dX1_init_16 (by decide) ?_
  refine v_newIX (t + 1) 3 dX1_init_17 (by decide) (by decide) (by omega) (by omega) (by omega) (fun q1 f hp => ?_)
  have r0 := hp.2.2 _ _ r0
  have a1 := hp.1
  have hf0 := zFr.new hf0 hp
  refine v_dup dX1_init_19 rfl ?_
  refine v_iconst (0) dX1_init_20 (by decide) ?_
  refine v_iconst (1) dX1_init_21 (by decide) ?_
  refine v_iastoreX dX1_init_22 (by assumption) (by unfold vp_in; decide) (fun f hp => ?_)
  have r0 := hp.ne r0 (by omega)
  have a1 := hp.1
  have hf0 := zput_fri (k := 1) hf0 hp (by omega)
  refine v_dup dX1_init_23 rfl ?_
  refine v_iconst (1) dX1_init_24 (by decide) ?_
  refine v_iconst (2) dX1_init_25 (by decide) ?_
  refine v_iastoreX dX1_init_26 (by assumption) (by unfold vp_in; decide) (fun f hp => ?_)
  have r0 := hp.ne r0 (by omega)
  have a1 := hp.1
  have hf0 := zput_fri (k := 1) hf0 hp (by omega)
  refine v_dup dX1_init_27 rfl ?_
  refine v_iconst (2) dX1_init_28 (by decide) ?_
  refine v_iconst (3) dX1_init_29 (by decide) ?_
  refine v_iastoreX dX1_init_30 (by assumption) (by unfold vp_in; decide) (fun f hp => ?_)
  have r0 := hp.ne r0 (by omega)
  have a1 := hp.1
  have hf0 := zput_fri (k := 1) hf0 hp (by omega)
  refine v_putfieldFX fX1_18 rfl rfl dX1_init_31 (by assumption) rfl rfl (Nat.le_of_ble_eq_true rfl) (fun f hp => ?_)
  have a1 := hp.ne a1 (by omega)
  have r0 := hp.1
  have hf0 := zput_fri (k := 0) hf0 hp (by omega)
  refine v_aload_n dX1_init_34 rfl rfl ?_
  refine v_iconst (nI 3) dX1_init_35 (by decide) ?_
  refine v_newIX (t + 2) 3 dX1_init_36 (by decide) (by decide) (by omega) (by omega) (by omega) (fun q2 f hp => ?_)
  have r0 := hp.2.2 _ _ r0
  have a1 := hp.2.2 _ _ a1
  have a2 := hp.1
  have hf0 := zFr.new hf0 hp
  refine v_dup dX1_init_38 rfl ?_
  refine v_iconst (0) dX1_init_39 (by decide) ?_
  refine v_sipush (2000) dX1_init_40 (by decide) ?_
  refine v_iastoreX dX1_init_43 (by assumption) (by unfold vp_in; decide) (fun f hp => ?_)
  have r0 := hp.ne r0 (by omega)
  have a1 := hp.ne a1 (by omega)
  have a2 := hp.1
  have hf0 := zput_fri (k := 2) hf0 hp (by omega)
  refine v_dup dX1_init_44 rfl ?_
  refine v_iconst (1) dX1_init_45 (by decide) ?_
  refine v_sipush (2000) dX1_init_46 (by decide) ?_
  refine v_iastoreX dX1_init_49 (by assumption) (by unfold vp_in; decide) (fun f hp => ?_)
  have r0 := hp.ne r0 (by omega)
  have a1 := hp.ne a1 (by omega)
  have a2 := hp.1
  have hf0 := zput_fri (k := 2) hf0 hp (by omega)
  refine v_dup dX1_init_50 rfl ?_
  refine v_iconst (2) dX1_init_51 (by decide) ?_
  refine v_sipush (2000) dX1_init_52 (by decide) ?_
  refine v_iastoreX dX1_init_55 (by assumption) (by unfold vp_in; decide) (fun f hp => ?_)
  have r0 := hp.ne r0 (by omega)
  have a1 := hp.ne a1 (by omega)
  have a2 := hp.1
  have hf0 := zput_fri (k := 2) hf0 hp (by omega)
  refine v_putfieldFX fX1_22 rfl rfl dX1_init_56 (by assumption) rfl rfl (Nat.le_of_ble_eq_true rfl) (fun f hp => ?_)
  have a1 := hp.ne a1 (by omega)
  have a2 := hp.ne a2 (by omega)
  have r0 := hp.1
  have hf0 := zput_fri (k := 0) hf0 hp (by omega)
  refine v_aload_n dX1_init_59 rfl rfl ?_
  refine v_iconst (nI 3) dX1_init_60 (by decide) ?_
  refine v_newIX (t + 3) 3 dX1_init_61 (by decide) (by decide) (by omega) (by omega) (by omega) (fun q3 f hp => ?_)
  have r0 := hp.2.2 _ _ r0
  have a1 := hp.2.2 _ _ a1
  have a2 := hp.2.2 _ _ a2
  have a3 := hp.1
  have hf0 := zFr.new hf0 hp
  refine v_dup dX1_init_63 rfl ?_
  refine v_iconst (0) dX1_init_64 (by decide) ?_
  refine v_iconst (1) dX1_init_65 (by decide) ?_
  refine v_iastoreX dX1_init_66 (by assumption) (by unfold vp_in; decide) (fun f hp => ?_)
  have r0 := hp.ne r0 (by omega)
  have a1 := hp.ne a1 (by omega)
  have a2 := hp.ne a2 (by omega)
  have a3 := hp.1
  have hf0 := zput_fri (k := 3) hf0 hp (by omega)
  refine v_dup dX1_init_67 rfl ?_
  refine v_iconst (1) dX1_init_68 (by decide) ?_
  refine v_iconst (1) dX1_init_69 (by decide) ?_
  refine v_iastoreX dX1_init_70 (by assumption) (by unfold vp_in; decide) (fun f hp => ?_)
  have r0 := hp.ne r0 (by omega)
  have a1 := hp.ne a1 (by omega)
  have a2 := hp.ne a2 (by omega)
  have a3 := hp.1
  have hf0 := zput_fri (k := 3) hf0 hp (by omega)
  refine v_dup dX1_init_71 rfl ?_
  refine v_iconst (2) dX1_init_72 (by decide) ?_
  refine v_iconst (2) dX1_init_73 (by decide) ?_
  refine v_iastoreX dX1_init_74 (by assumption) (by unfold vp_in; decide) (fun f hp => ?_)
  have r0 := hp.ne r0 (by omega)
  have a1 := hp.ne a1 (by omega)
  have a2 := hp.ne a2 (by omega)
  have a3 := hp.1
  have hf0 := zput_fri (k := 3) hf0 hp (by omega)
  refine v_putfieldFX fX1_25 rfl rfl dX1_init_75 (by assumption) rfl rfl (Nat.le_of_ble_eq_true rfl) (fun f hp => ?_)
  have a1 := hp.ne a1 (by omega)
  have a2 := hp.ne a2 (by omega)
  have a3 := hp.ne a3 (by omega)
  have r0 := hp.1
  have hf0 := zput_fri (k := 0) hf0 hp (by omega)
  refine v_aload_n dX1_init_78 rfl rfl ?_
  refine v_sipush (nI 201) dX1_init_79 (by decide) ?_
  refine v_newIX (t + 4) 201 dX1_init_82 (by decide) (by decide) (by omega) (by omega) (by omega) (fun q4 f hp => ?_)
  have r0 := hp.2.2 _ _ r0
  have a1 := hp.2.2 _ _ a1
  have a2 := hp.2.2 _ _ a2
  have a3 := hp.2.2 _ _ a3
  have a4 := hp.1
  have hf0 := zFr.new hf0 hp
  refine v_putfieldFX fX1_28 rfl rfl dX1_init_84 (by assumption) rfl rfl (Nat.le_of_ble_eq_true rfl) (fun f hp => ?_)
  have a1 := hp.ne a1 (by omega)
  have a2 := hp.ne a2 (by omega)
  have a3 := hp.ne a3 (by omega)
  have a4 := hp.ne a4 (by omega)
  have r0 := hp.1
  have hf0 := zput_fri (k := 0) hf0 hp (by omega)
  refine v_aload_n dX1_init_87 rfl rfl ?_
  refine v_sipush (nI 201) dX1_init_88 (by decide) ?_
  refine v_newIX (t + 5) 201 dX1_init_91 (by decide) (by decide) (by omega) (by omega) (by omega) (fun q5 f hp => ?_)
  have r0 := hp.2.2 _ _ r0
  have a1 := hp.2.2 _ _ a1
  have a2 := hp.2.2 _ _ a2
  have a3 := hp.2.2 _ _ a3
  have a4 := hp.2.2 _ _ a4
  have a5 := hp.1
  have hf0 := zFr.new hf0 hp
  refine v_putfieldFX fX1_31 rfl rfl dX1_init_93 (by assumption) rfl rfl (Nat.le_of_ble_eq_true rfl) (fun f hp => ?_)
  have a1 := hp.ne a1 (by omega)
  have a2 := hp.ne a2 (by omega)
  have a3 := hp.ne a3 (by omega)
  have a4 := hp.ne a4 (by omega)
  have a5 := hp.ne a5 (by omega)
  have r0 := hp.1
  have hf0 := zput_fri (k := 0) hf0 hp (by omega)
  refine v_aload_n dX1_init_96 rfl rfl ?_
  refine v_sipush (nI 201) dX1_init_97 (by decide) ?_
  refine v_newIX (t + 6) 201 dX1_init_100 (by decide) (by decide) (by omega) (by omega) (by omega) (fun q6 f hp => ?_)
  have r0 := hp.2.2 _ _ r0
  have a1 := hp.2.2 _ _ a1
  have a2 := hp.2.2 _ _ a2
  have a3 := hp.2.2 _ _ a3
  have a4 := hp.2.2 _ _ a4
  have a5 := hp.2.2 _ _ a5
  have a6 := hp.1
  have hf0 := zFr.new hf0 hp
  refine v_putfieldFX fX1_34 rfl rfl dX1_init_102 (by assumption) rfl rfl (Nat.le_of_ble_eq_true rfl) (fun f hp => ?_)
  have a1 := hp.ne a1 (by omega)
  have a2 := hp.ne a2 (by omega)
  have a3 := hp.ne a3 (by omega)
  have a4 := hp.ne a4 (by omega)
  have a5 := hp.ne a5 (by omega)
  have a6 := hp.ne a6 (by omega)
  have r0 := hp.1
  have hf0 := zput_fri (k := 0) hf0 hp (by omega)
  refine v_aload_n dX1_init_105 rfl rfl ?_
  refine v_sipush (nI 144) dX1_init_106 (by decide) ?_
  refine v_newIX (t + 7) 144 dX1_init_109 (by decide) (by decide) (by omega) (by omega) (by omega) (fun q7 f hp => ?_)
  have r0 := hp.2.2 _ _ r0
  have a1 := hp.2.2 _ _ a1
  have a2 := hp.2.2 _ _ a2
  have a3 := hp.2.2 _ _ a3
  have a4 := hp.2.2 _ _ a4
  have a5 := hp.2.2 _ _ a5
  have a6 := hp.2.2 _ _ a6
  have a7 := hp.1
  have hf0 := zFr.new hf0 hp
  refine v_putfieldFX fX1_37 rfl rfl dX1_init_111 (by assumption) rfl rfl (Nat.le_of_ble_eq_true rfl) (fun f hp => ?_)
  have a1 := hp.ne a1 (by omega)
  have a2 := hp.ne a2 (by omega)
  have a3 := hp.ne a3 (by omega)
  have a4 := hp.ne a4 (by omega)
  have a5 := hp.ne a5 (by omega)
  have a6 := hp.ne a6 (by omega)
  have a7 := hp.ne a7 (by omega)
  have r0 := hp.1
  have hf0 := zput_fri (k := 0) hf0 hp (by omega)
  refine v_aload_n dX1_init_114 rfl rfl ?_
  refine v_sipush (nI 144) dX1_init_115 (by decide) ?_
  refine v_newIX (t + 8) 144 dX1_init_118 (by decide) (by decide) (by omega) (by omega) (by omega) (fun q8 f hp => ?_)
  have r0 := hp.2.2 _ _ r0
  have a1 := hp.2.2 _ _ a1
  have a2 := hp.2.2 _ _ a2
  have a3 := hp.2.2 _ _ a3
  have a4 := hp.2.2 _ _ a4
  have a5 := hp.2.2 _ _ a5
  have a6 := hp.2.2 _ _ a6
  have a7 := hp.2.2 _ _ a7
  have a8 := hp.1
  have hf0 := zFr.new hf0 hp
  refine v_putfieldFX fX1_40 rfl rfl dX1_init_120 (by assumption) rfl rfl (Nat.le_of_ble_eq_true rfl) (fun f hp => ?_)
  have a1 := hp.ne a1 (by omega)
  have a2 := hp.ne a2 (by omega)
  have a3 := hp.ne a3 (by omega)
  have a4 := hp.ne a4 (by omega)
  have a5 := hp.ne a5 (by omega)
  have a6 := hp.ne a6 (by omega)
  have a7 := hp.ne a7 (by omega)
  have a8 := hp.ne a8 (by omega)
  have r0 := hp.1
  have hf0 := zput_fri (k := 0) hf0 hp (by omega)
  refine v_aload_n dX1_init_123 rfl rfl ?_
  refine v_sipush (nI 144) dX1_init_124 (by decide) ?_
  refine v_newIX (t + 9) 144 dX1_init_127 (by decide) (by decide) (by omega) (by omega) (by omega) (fun q9 f hp => ?_)
  have r0 := hp.2.2 _ _ r0
  have a1 := hp.2.2 _ _ a1
  have a2 := hp.2.2 _ _ a2
  have a3 := hp.2.2 _ _ a3
  have a4 := hp.2.2 _ _ a4
  have a5 := hp.2.2 _ _ a5
  have a6 := hp.2.2 _ _ a6
  have a7 := hp.2.2 _ _ a7
  have a8 := hp.2.2 _ _ a8
  have a9 := hp.1
  have hf0 := zFr.new hf0 hp
  refine v_putfieldFX fX1_43 rfl rfl dX1_init_129 (by assumption) rfl rfl (Nat.le_of_ble_eq_true rfl) (fun f hp => ?_)
  have a1 := hp.ne a1 (by omega)
  have a2 := hp.ne a2 (by omega)
  have a3 := hp.ne a3 (by omega)
  have a4 := hp.ne a4 (by omega)
  have a5 := hp.ne a5 (by omega)
  have a6 := hp.ne a6 (by omega)
  have a7 := hp.ne a7 (by omega)
  have a8 := hp.ne a8 (by omega)
  have a9 := hp.ne a9 (by omega)
  have r0 := hp.1
  have hf0 := zput_fri (k := 0) hf0 hp (by omega)
  refine v_aload_n dX1_init_132 rfl rfl ?_
  refine v_sipush (nI 276) dX1_init_133 (by decide) ?_
  refine v_newIX (t + 10) 276 dX1_init_136 (by decide) (by decide) (by omega) (by omega) (by omega) (fun q10 f hp => ?_)
  have r0 := hp.2.2 _ _ r0
  have a1 := hp.2.2 _ _ a1
  have a2 := hp.2.2 _ _ a2
  have a3 := hp.2.2 _ _ a3
  have a4 := hp.2.2 _ _ a4
  have a5 := hp.2.2 _ _ a5
  have a6 := hp.2.2 _ _ a6
  have a7 := hp.2.2 _ _ a7
  have a8 := hp.2.2 _ _ a8
  have a9 := hp.2.2 _ _ a9
  have a10 := hp.1
  have hf0 := zFr.new hf0 hp
  refine v_putfieldFX fX1_46 rfl rfl dX1_init_138 (by assumption) rfl rfl (Nat.le_of_ble_eq_true rfl) (fun f hp => ?_)
  have a1 := hp.ne a1 (by omega)
  have a2 := hp.ne a2 (by omega)
  have a3 := hp.ne a3 (by omega)
  have a4 := hp.ne a4 (by omega)
  have a5 := hp.ne a5 (by omega)
  have a6 := hp.ne a6 (by omega)
  have a7 := hp.ne a7 (by omega)
  have a8 := hp.ne a8 (by omega)
  have a9 := hp.ne a9 (by omega)
  have a10 := hp.ne a10 (by omega)
  have r0 := hp.1
  have hf0 := zput_fri (k := 0) hf0 hp (by omega)
  refine v_aload_n dX1_init_141 rfl rfl ?_
  refine v_aload_n dX1_init_142 rfl rfl ?_
  refine v_putfieldFX fX1_49 rfl rfl dX1_init_143 (by assumption) rfl rfl (Nat.le_of_ble_eq_true rfl) (fun f hp => ?_)
  have a1 := hp.ne a1 (by omega)
  have a2 := hp.ne a2 (by omega)
  have a3 := hp.ne a3 (by omega)
  have a4 := hp.ne a4 (by omega)
  have a5 := hp.ne a5 (by omega)
  have a6 := hp.ne a6 (by omega)
  have a7 := hp.ne a7 (by omega)
  have a8 := hp.ne a8 (by omega)
  have a9 := hp.ne a9 (by omega)
  have a10 := hp.ne a10 (by omega)
  have r0 := hp.1
  have hf0 := zput_fri (k := 0) hf0 hp (by omega)
  exact v_return dX1_init_146 rfl ⟨rfl, ⟨fun k => match k with | 0 => q1 | 1 => q2 | 2 => q3 | 3 => q4 | 4 => q5 | 5 => q6 | 6 => q7 | 7 => q8 | 8 => q9 | _ => q10, r0, ⟨_, a1, h3 _ _ rfl rfl rfl⟩, ⟨_, a2, h3 _ _ rfl rfl rfl⟩, ⟨_, a3, h3 _ _ rfl rfl rfl⟩, ⟨_, a4, fun i hi => absurd hi (Nat.not_lt_zero i)⟩, ⟨_, a5, fun i hi => absurd hi (Nat.not_lt_zero i)⟩, ⟨_, a6, fun i hi => absurd hi (Nat.not_lt_zero i)⟩, ⟨_, a7, fun _ _ => rfl⟩, ⟨_, a8, fun _ _ => rfl⟩, ⟨_, a9, fun _ _ => rfl⟩, ⟨_, a10, fun _ _ => rfl⟩⟩, hf0, rfl⟩
end
section
def sDn (ρ : zRS) (xs tm : Nat → Int32) (s n : Nat) : Nat → zRS × (Nat → Int32) × (Nat → Int32)
  | 0 => (ρ, xs, tm)
  | j + 1 => (sOff (sDn ρ xs tm s n j).1 s (zn (ρ 4 (n - 1 - j))) (zn (ρ 5 (n - 1 - j))) (zn (ρ 6 (n - 1 - j))), sInL (sPa s (zn (ρ 4 (n - 1 - j))) (zn (ρ 5 (n - 1 - j)))) (-1) (sDn ρ xs tm s n j).2.1, sPutT (sDn ρ xs tm s n j).2.2 (sPr (zn (ρ 4 (n - 1 - j)) * s) (zn (ρ 5 (n - 1 - j)) * s)) (-1))
theorem sDn_ch (ρ : zRS) (xs tm : Nat → Int32) (s n : Nat) : ∀ j, (∀ c, (sDn ρ xs tm s n j).1 4 c = ρ 4 c) ∧ (∀ c, (sDn ρ xs tm s n j).1 5 c = ρ 5 c) ∧ (∀ c, (sDn ρ xs tm s n j).1 6 c = ρ 6 c) ∧ (sDn ρ xs tm s n j).1 0 0 = ρ 0 0
  | 0 => ⟨fun _ => rfl, fun _ => rfl, fun _ => rfl, rfl⟩
  | j + 1 => by
    obtain ⟨h4, h5, h6, h0⟩ := sDn_ch ρ xs tm s n j
    exact ⟨fun c => h4 c, fun c => h5 c, fun c => h6 c, h0⟩
def sAllOff (ρ : zRS) (xs tm : Nat → Int32) (s n : Nat) : zRS := zset (sDn ρ xs tm s n n).1 0 (fun i => if i = 2 then ρ 0 2 else (sDn ρ xs tm s n n).1 0 i)
def sMGp (sh : Int32) : List Nat → Int32 × (Nat → Int32) → Int32 × (Nat → Int32)
  | [], S => S
  | q :: l, S => sMGp sh l (S.1 - sRel (S.2 q) sh, fun j => if j = q then S.2 q - sh else S.2 j)
theorem sMGp_snoc (sh : Int32) (q : Nat) : ∀ (l : List Nat) (S : Int32 × (Nat → Int32)), sMGp sh (l ++ [q]) S = ((sMGp sh l S).1 - sRel ((sMGp sh l S).2 q) sh, fun j => if j = q then (sMGp sh l S).2 q - sh else (sMGp sh l S).2 j)
  | [], S => rfl
  | x :: l, S => sMGp_snoc sh q l _
def sMG (ρ : zRS) (s : Nat) : Nat → Int32 × (Nat → Int32)
  | 0 => (sSum (fun q => ρ 7 q * ρ 3 2) 144, fun q => ρ 7 q * ρ 3 2)
  | c + 1 => sMGp (ρ 1 (zn (ρ 6 c))) (sPa s (zn (ρ 4 c)) (zn (ρ 5 c))) (sMG ρ s c)
theorem zn_nI {n : Nat} (h : n < 2 ^ 31) : zn (nI n) = n := nI_clamp h
set_option maxRecDepth 10000 in
set_option maxHeartbeats 1000000 in
theorem c_takeAllOff {G : zW} {f0 : zHM} {m0 : Nat × Nat} {t r la n : Nat} {A : Nat → Nat} {ρ : zRS} {xs tm : Nat → Int32} (hr : RPic f0 t r la A ρ n xs tm) (ht : t ≤ 900) {N s : Nat} (hw : RW ρ N s n) {M : Nat × Nat} (hL : LNok f0 m0 la M) : zM G yX1_takeAllOff cX1_takeAllOff 3 none 6 [.ref r] (f0, m0) (zD none (fun f' m' => RPic f' t r la A (sAllOff ρ xs tm s n) 0 (sDn ρ xs tm s n n).2.1 (sDn ρ xs tm s n n).2.2 ∧ LNok f' m' la M ∧ zFr (zTR t) f0 f')) := by
  refine zM.of (by decide) (Nat.le_of_ble_eq_true rfl) ?_
  have r0 := hr.1
  have hn201 := hw.2.1
  have loop : ∀ (k j : Nat), j + k = n → ∀ (f : zHM) (m : Nat × Nat), RPic f t r la A (sDn ρ xs tm s n j).1 k (sDn ρ xs tm s n j).2.1 (sDn ρ xs tm s n j).2.2 → LNok f m la M → zFr (zTR t) f0 f → zV G yX1_takeAllOff cX1_takeAllOff 3 none 6 10 [(0, .ref r), (1, .int (ρ 0 2)), (2, .int (nI k))] [] (f, m) (zD none (fun f' m' => RPic f' t r la A (sAllOff ρ xs tm s n) 0 (sDn ρ xs tm s n n).2.1 (sDn ρ xs tm s n n).2.2 ∧ LNok f' m' la M ∧ zFr (zTR t) f0 f')) := by
    intro k
    induction k with
    | zero =>
      intro j hj f m hr hL hf0
      have hj : j = n := by omega
      subst hj
      have r0 := hr.1
      refine v_iload_n dX1_takeAllOff_10 rfl rfl ?_
      refine v_if_le 24 dX1_takeAllOff_11 (by decide) (fun b11 => ?_) (fun b11 => ?_)
      · refine v_aload_n dX1_takeAllOff_24 rfl rfl ?_
        refine v_iload_n dX1_takeAllOff_25 rfl rfl ?_
        refine v_putfieldX fX1_56 dX1_takeAllOff_26 (by assumption) rfl rfl (Nat.le_of_ble_eq_true rfl) (fun f hp => ?_)
        have hr := hr.pv.obj (ρ' := sAllOff ρ xs tm s j) (n' := 0) (fun k hk i => zset_ne hk i) hp
        have hf0 := zput_fr (k := 0) hf0 hp (by omega)
        have hL := zput_ln (k := 0) hL hp (by omega) ht
        exact v_return dX1_takeAllOff_29 rfl ⟨rfl, hr.pic, hL, hf0⟩
      · exact absurd (by rw [show (0 : Int32) = nI 0 from rfl, nI_leI (by omega) (by omega)]; omega) b11
    | succ k ih =>
      intro j hj f m hr hL hf0
      have r0 := hr.1
      have hch := sDn_ch ρ xs tm s n j
      obtain ⟨a, b, u, ha, hb, hn, hu, q4, q5, q6⟩ := hw.2.2 k (by omega)
      have hv9 : RV (sDn ρ xs tm s n j).1 N s := ⟨hch.2.2.2.trans hw.1.1, by unfold sStep; rw [hch.2.2.2]; exact hw.1.2.1, hw.1.2.2⟩
      have hr9 : RPic f t r la A (sDn ρ xs tm s n j).1 (k + 1) (sDn ρ xs tm s n j).2.1 (sDn ρ xs tm s n j).2.2 := hr
      have hN24 := hw.1.pos.2.1
      refine v_iload_n dX1_takeAllOff_10 rfl rfl ?_
      refine v_if_le 24 dX1_takeAllOff_11 (by decide) (fun b11 => ?_) (fun b11 => ?_)
      · exact absurd b11 (nI_nle (by omega) (by omega))
      · refine v_aload_n dX1_takeAllOff_14 rfl rfl ?_
        refine v_callV0 kX1_130 gi_X1_takeOff ge_X1_takeOff rfl dX1_takeAllOff_15 (by assumption) (c_takeOff hr9 ht (by omega) hv9 hL ha hb hn hu ((hch.1 k).trans q4) ((hch.2.1 k).trans q5) ((hch.2.2.1 k).trans q6)) rfl rfl (by decide) (Nat.le_of_ble_eq_true rfl) (fun f m hc => ?_)
        obtain ⟨hr, hL, hf9⟩ := hc
        have hf0 := hf0.trans hf9
        refine v_iincC (-1) dX1_takeAllOff_18 rfl (by decide) (by decide) ?_
        rw [pk_m1]
        refine v_goto 10 dX1_takeAllOff_21 (by decide) ?_
        refine v_loc (lv' := [(0, .ref r), (1, .int (ρ 0 2)), (2, .int (nI k))]) ⟨rfl, rfl, rfl, trivial⟩ (ih (j + 1) (by omega) f m ?_ hL hf0)
        have e9 : n - 1 - j = k := by omega
        have hst : sDn ρ xs tm s n (j + 1) = (sOff (sDn ρ xs tm s n j).1 s a b u, sInL (sPa s a b) (-1) (sDn ρ xs tm s n j).2.1, sPutT (sDn ρ xs tm s n j).2.2 (sPr (a * s) (b * s)) (-1)) := by
          show (sOff (sDn ρ xs tm s n j).1 s (zn (ρ 4 (n - 1 - j))) (zn (ρ 5 (n - 1 - j))) (zn (ρ 6 (n - 1 - j))), sInL (sPa s (zn (ρ 4 (n - 1 - j))) (zn (ρ 5 (n - 1 - j)))) (-1) (sDn ρ xs tm s n j).2.1, sPutT (sDn ρ xs tm s n j).2.2 (sPr (zn (ρ 4 (n - 1 - j)) * s) (zn (ρ 5 (n - 1 - j)) * s)) (-1)) = _
          rw [e9, q4, q5, q6, zn_nI (by omega), zn_nI (by omega), zn_nI (by omega)]
        obtain ⟨S9, hS9⟩ : ∃ z, z = sDn ρ xs tm s n (j + 1) := ⟨_, rfl⟩
        rw [← hS9] at hst ⊢
        exact hr.pv.eq (by rw [hst]) (by rw [hst]) (by rw [hst])
  refine v_aload_n dX1_takeAllOff_0 rfl rfl ?_
  refine v_getfield fX1_56 dX1_takeAllOff_1 (by assumption) (by rfl) ?_
  refine v_istore_n dX1_takeAllOff_4 rfl (by decide) ?_
  refine v_aload_n dX1_takeAllOff_5 rfl rfl ?_
  refine v_getfield fX1_68 dX1_takeAllOff_6 (by assumption) (by rfl) ?_
  refine v_istore_n dX1_takeAllOff_9 rfl (by decide) ?_
  exact v_loc (lv' := [(0, .ref r), (1, .int (ρ 0 2)), (2, .int (nI n))]) ⟨rfl, rfl, rfl, trivial⟩ (loop n 0 (by omega) f0 m0 hr hL zFr.refl)
set_option maxRecDepth 10000 in
set_option maxHeartbeats 1000000 in
theorem c_misfitByGains {G : zW} {f0 : zHM} {m0 : Nat × Nat} {t r la n : Nat} {A : Nat → Nat} {ρ : zRS} {xs tm : Nat → Int32} (hr : RPic f0 t r la A ρ n xs tm) (ht : t ≤ 900) {N s : Nat} (hw : RW ρ N s n) {M : Nat × Nat} (hL : LNok f0 m0 la M) {sc ts : Nat} {g0 : Nat → Int32} (hsc : f0 sc = some (ts, .inl (0, 144, .inl g0))) (hts : ts ≤ 940 ∧ (ts < t ∨ t + 10 < ts)) : zM G yX1_misfitByGains cX1_misfitByGains 9 (some .int) 4 [.ref r, .ref sc] (f0, m0) (zD (some (.int (sMG ρ s n).1)) (fun f' m' => (∃ g, f' sc = some (ts, .inl (0, 144, .inl g))) ∧ LNok f' m' la M ∧ zFr (fun τ => τ = 950 ∨ τ = ts) f0 f')) := by
  refine zM.of (by decide) (Nat.le_of_ble_eq_true rfl) ?_
  have r0 := hr.1
  have hn201 := hw.2.1
  have loop2 : ∀ (k c : Nat), c + k = n → ∀ (f : zHM) (m : Nat × Nat) (g : Nat → Int32) (S : Int32 × (Nat → Int32)), (S = sMG ρ s c ∧ True) → f sc = some (ts, .inl (0, 144, .inl g)) → (∀ j, j < 144 → g j = S.2 j) → RPic f t r la A ρ n xs tm → LNok f m la M → zFr (fun τ => τ = 950 ∨ τ = ts) f0 f → zV G yX1_misfitByGains cX1_misfitByGains 9 (some .int) 4 41 [(0, .ref r), (1, .ref sc), (2, .int S.1), (3, .int (nI c))] [] (f, m) (zD (some (.int (sMG ρ s n).1)) (fun f' m' => (∃ g, f' sc = some (ts, .inl (0, 144, .inl g))) ∧ LNok f' m' la M ∧ zFr (fun τ => τ = 950 ∨ τ = ts) f0 f')) := by
    intro k
    induction k with
    | zero =>
      intro c hc9 f m g S hS hsc hgs hr hL hf0
      have hc9 : c = n := by omega
      subst hc9
      obtain ⟨r0, ⟨g1, a1, e1⟩, ⟨g2, a2, e2⟩, ⟨g3, a3, e3⟩, ⟨g4, a4, e4⟩, ⟨g5, a5, e5⟩, ⟨g6, a6, e6⟩, ⟨g7, a7, e7⟩, ⟨g8, a8, e8⟩, ⟨g9, a9, e9⟩, ⟨g10, a10, e10⟩⟩ := id hr
      refine v_iload_n dX1_misfitByGains_41 rfl rfl ?_
      refine v_aload_n dX1_misfitByGains_42 rfl rfl ?_
      refine v_getfield fX1_68 dX1_misfitByGains_43 (by assumption) (by rfl) ?_
      refine v_icmp_ge 138 dX1_misfitByGains_46 (by decide) (fun b46 => ?_) (fun b46 => ?_)
      · refine v_iload_n dX1_misfitByGains_138 rfl rfl ?_
        exact v_ireturn dX1_misfitByGains_139 rfl ⟨by rw [hS.1], ⟨g, hsc⟩, hL, hf0⟩
      · exact absurd (nI_le (by omega) (by omega)) b46
    | succ k ih2 =>
      intro c hck f m g S hS hsc hgs hr hL hf0
      have hc9 : c < n := by omega
      obtain ⟨a, b, u, ha, hb, hn, hu, q4, q5, q6⟩ := hw.2.2 c hc9
      have hv9 := hw.1.pos
      have hpa0 := sPa_ok hw.1 ha hb hn
      obtain ⟨sh, hsh⟩ : ∃ z, z = ρ 1 u ∧ True := ⟨_, rfl, trivial⟩
      obtain ⟨S9, hS9⟩ : ∃ z, z = sMG ρ s (c + 1) ∧ True := ⟨_, rfl, trivial⟩
      have hst : sMGp sh (sPa s a b) S = S9 ∧ True := ⟨by
        rw [hS9.1, hS.1, hsh.1]
        show _ = sMGp (ρ 1 (zn (ρ 6 c))) (sPa s (zn (ρ 4 c)) (zn (ρ 5 c))) (sMG ρ s c)
        rw [q4, q5, q6, zn_nI (by omega), zn_nI (by omega), zn_nI (by omega)], trivial⟩
      obtain ⟨r0, ⟨g1, a1, e1⟩, ⟨g2, a2, e2⟩, ⟨g3, a3, e3⟩, ⟨g4, a4, e4⟩, ⟨g5, a5, e5⟩, ⟨g6, a6, e6⟩, ⟨g7, a7, e7⟩, ⟨g8, a8, e8⟩, ⟨g9, a9, e9⟩, ⟨g10, a10, e10⟩⟩ := id hr
      refine v_iload_n dX1_misfitByGains_41 rfl rfl ?_
      refine v_aload_n dX1_misfitByGains_42 rfl rfl ?_
      refine v_getfield fX1_68 dX1_misfitByGains_43 (by assumption) (by rfl) ?_
      refine v_icmp_ge 138 dX1_misfitByGains_46 (by decide) (fun b46 => ?_) (fun b46 => ?_)
      · exact absurd b46 (nI_ge hc9 (by omega))
      · refine v_aload_n dX1_misfitByGains_49 rfl rfl ?_
        refine v_getfield fX1_18 dX1_misfitByGains_50 (by assumption) (by rfl) ?_
        refine v_aload_n dX1_misfitByGains_53 rfl rfl ?_
        refine v_getfield fX1_34 dX1_misfitByGains_54 (by assumption) (by rfl) ?_
        refine v_iload_n dX1_misfitByGains_57 rfl rfl ?_
        refine v_iaload dX1_misfitByGains_58 (by assumption) (vp_in_nI (by omega) (by omega)) ?_
        rw [nI_clamp (by omega), e6 c hc9, q6]
        refine v_iaload dX1_misfitByGains_59 (by assumption) (vp_in_nI hu (by omega)) ?_
        rw [nI_clamp (by omega), e1 u hu, ← hsh.1]
        refine v_istore dX1_misfitByGains_60 (by decide) ?_
        refine v_aload_n dX1_misfitByGains_62 rfl rfl ?_
        refine v_aload_n dX1_misfitByGains_63 rfl rfl ?_
        refine v_getfield fX1_28 dX1_misfitByGains_64 (by assumption) (by rfl) ?_
        refine v_iload_n dX1_misfitByGains_67 rfl rfl ?_
        refine v_iaload dX1_misfitByGains_68 (by assumption) (vp_in_nI (by omega) (by omega)) ?_
        rw [nI_clamp (by omega), e4 c hc9, q4]
        refine v_aload_n dX1_misfitByGains_69 rfl rfl ?_
        refine v_getfield fX1_31 dX1_misfitByGains_70 (by assumption) (by rfl) ?_
        refine v_iload_n dX1_misfitByGains_73 rfl rfl ?_
        refine v_iaload dX1_misfitByGains_74 (by assumption) (vp_in_nI (by omega) (by omega)) ?_
        rw [nI_clamp (by omega), e5 c hc9, q5]
        refine v_callVr kX1_105 gi_X1_lineBetween ge_X1_lineBetween rfl dX1_misfitByGains_75 (by assumption) (c_lineBetween hr hw.1 ha hb hn hL) rfl rfl (by decide) (Nat.le_of_ble_eq_true rfl) (fun q f m hc => ?_)
        obtain ⟨hl9, hL, hf9⟩ := hc
        have hr := hr.fr hf9 (fun k hk => by show ¬ (t + k = 950); omega)
        obtain ⟨sq, gq, hq1, hq2, hq3⟩ := hl9
        obtain ⟨r0, ⟨g1, a1, e1⟩, ⟨g2, a2, e2⟩, ⟨g3, a3, e3⟩, ⟨g4, a4, e4⟩, ⟨g5, a5, e5⟩, ⟨g6, a6, e6⟩, ⟨g7, a7, e7⟩, ⟨g8, a8, e8⟩, ⟨g9, a9, e9⟩, ⟨g10, a10, e10⟩⟩ := id hr
        have hsc := hf9 _ _ _ hsc (by show ¬ ts = 950; omega)
        have hf0 := hf0.trans (hf9.weaken (T' := fun τ => τ = 950 ∨ τ = ts) (fun _ h => Or.inl h))
        replace hq2 : f sq = some (1000 + 2 * sPr (a * s) (b * s) + 1, .inl (0, (sPa s a b).length, .inl gq)) := hq2
        replace hq3 : ∀ i, i < (sPa s a b).length → gq i = nI ((sPa s a b).getD i 0) := hq3
        generalize hPL0 : sPa s a b = PL at hq2 hq3 hpa0 hst
        replace hPL0 : sPa s a b = PL ∧ True := ⟨hPL0, trivial⟩
        have loop3 : ∀ (k i : Nat), i + k = PL.length → ∀ (f : zHM) (g : Nat → Int32), f sc = some (ts, .inl (0, 144, .inl g)) → (∀ j, j < 144 → g j = (sMGp sh (PL.take i) S).2 j) → RPic f t r la A ρ n xs tm → LNok f m la M → zFr (fun τ => τ = 950 ∨ τ = ts) f0 f → f q = some (1000 + 2 * sPr (a * s) (b * s), .inr (0, [.int (nI (sLen (min (a * s) (b * s)) (max (a * s) (b * s)))), .ref sq])) → f sq = some (1000 + 2 * sPr (a * s) (b * s) + 1, .inl (0, PL.length, .inl gq)) → zV G yX1_misfitByGains cX1_misfitByGains 9 (some .int) 4 91 [(0, .ref r), (1, .ref sc), (2, .int (sMGp sh (PL.take i) S).1), (3, .int (nI c)), (4, .int sh), (5, .ref sq), (6, .int (nI PL.length)), (7, .int (nI i))] [] (f, m) (zD (some (.int (sMG ρ s n).1)) (fun f' m' => (∃ g, f' sc = some (ts, .inl (0, 144, .inl g))) ∧ LNok f' m' la M ∧ zFr (fun τ => τ = 950 ∨ τ = ts) f0 f')) := by
          intro k
          induction k with
          | zero =>
            intro i hi f g hsc hgs hr hL hf0 hq1 hq2
            have hi : i = PL.length := by omega
            subst hi
            refine v_iload dX1_misfitByGains_91 rfl ?_
            refine v_iload dX1_misfitByGains_93 rfl ?_
            refine v_icmp_ge 132 dX1_misfitByGains_95 (by decide) (fun b95 => ?_) (fun b95 => ?_)
            · refine v_iincN dX1_misfitByGains_132 rfl (by decide) ?_
              refine v_goto 41 dX1_misfitByGains_135 (by decide) ?_
              exact v_loc (lv' := [(0, .ref r), (1, .ref sc), (2, .int S9.1), (3, .int (nI (c + 1)))]) ⟨rfl, rfl, zlkE rfl (by rw [List.take_length, hst.1]), rfl, trivial⟩ (ih2 (c + 1) (by omega) f m g S9 hS9 hsc (fun j hj => (hgs j hj).trans (by rw [List.take_length, hst.1])) hr hL hf0)
            · exact absurd (nI_le (by omega) (by omega)) b95
          | succ k ih =>
            intro i hi f g hsc hgs hr hL hf0 hq1 hq2
            have h9 : i < PL.length := by omega
            have hq9 : PL.getD i 0 < 144 := hpa0.2.2 _ (by rw [List.getD, List.getElem?_eq_getElem h9]; exact List.getElem_mem h9)
            obtain ⟨r0, ⟨g1, a1, e1⟩, ⟨g2, a2, e2⟩, ⟨g3, a3, e3⟩, ⟨g4, a4, e4⟩, ⟨g5, a5, e5⟩, ⟨g6, a6, e6⟩, ⟨g7, a7, e7⟩, ⟨g8, a8, e8⟩, ⟨g9, a9, e9⟩, ⟨g10, a10, e10⟩⟩ := id hr
            refine v_iload dX1_misfitByGains_91 rfl ?_
            refine v_iload dX1_misfitByGains_93 rfl ?_
            refine v_icmp_ge 132 dX1_misfitByGains_95 (by decide) (fun b95 => ?_) (fun b95 => ?_)
            · exact absurd b95 (nI_ge h9 (by omega))
            · refine v_aload dX1_misfitByGains_98 rfl ?_
              refine v_iload dX1_misfitByGains_100 rfl ?_
              refine v_iaload dX1_misfitByGains_102 (by assumption) (vp_in_nI h9 (by omega)) ?_
              rw [nI_clamp (by omega), hq3 i h9]
              refine v_istore dX1_misfitByGains_103 (by decide) ?_
              refine v_iload_n dX1_misfitByGains_105 rfl rfl ?_
              refine v_aload_n dX1_misfitByGains_106 rfl rfl ?_
              refine v_iload dX1_misfitByGains_107 rfl ?_
              refine v_iaload dX1_misfitByGains_109 (by assumption) (vp_in_nI hq9 (by omega)) ?_
              rw [nI_clamp (by omega), hgs _ hq9]
              refine v_iload dX1_misfitByGains_110 rfl ?_
              refine v_callSp kX1_117 gs_X1_relief dX1_misfitByGains_112 c_relief rfl rfl (by decide) (Nat.le_of_ble_eq_true rfl) ?_
              refine v_isub dX1_misfitByGains_115 ?_
              refine v_istore_n dX1_misfitByGains_116 rfl (by decide) ?_
              refine v_aload_n dX1_misfitByGains_117 rfl rfl ?_
              refine v_iload dX1_misfitByGains_118 rfl ?_
              refine v_dup2 dX1_misfitByGains_120 rfl rfl ?_
              refine v_iaload dX1_misfitByGains_121 (by assumption) (vp_in_nI hq9 (by omega)) ?_
              rw [nI_clamp (by omega), hgs _ hq9]
              refine v_iload dX1_misfitByGains_122 rfl ?_
              refine v_isub dX1_misfitByGains_124 ?_
              refine v_iastoreX dX1_misfitByGains_125 (by assumption) (vp_in_nI hq9 (by omega)) (fun f hp => ?_)
              have hsc := hp.1
              have hf0 : zFr (fun τ => τ = 950 ∨ τ = ts) f0 f := hf0.put hp (Or.inr rfl)
              have hfp := zFr.put (T := fun τ => τ = ts) zFr.refl hp rfl
              have hr := hr.fr hfp (fun k hk => by show ¬ (t + k = ts); omega)
              have hL := hL.fr hfp (fun τ h1 h2 => by have h2 : τ = ts := h2; omega)
              have hq1 := hp.ne hq1 (by omega)
              have hq2 := hp.ne hq2 (by omega)
              have hgs9 : ∀ j, j < 144 → upd g (nI (PL.getD i 0)).toNatClampNeg ((sMGp sh (PL.take i) S).2 (PL.getD i 0) - sh) j = (sMGp sh (PL.take (i + 1)) S).2 j := fun j hj => by
                rw [take_succ_getD _ _ h9, sMGp_snoc, nI_clamp (by omega)]; unfold upd
                by_cases h : j = PL.getD i 0
                · rw [if_pos h]; exact (if_pos h).symm
                · rw [if_neg h, hgs j hj]; exact (if_neg h).symm
              refine v_iincN dX1_misfitByGains_126 rfl (by decide) ?_
              refine v_goto 91 dX1_misfitByGains_129 (by decide) ?_
              exact v_loc (lv' := [(0, .ref r), (1, .ref sc), (2, .int (sMGp sh (PL.take (i + 1)) S).1), (3, .int (nI c)), (4, .int sh), (5, .ref sq), (6, .int (nI PL.length)), (7, .int (nI (i + 1)))]) ⟨rfl, rfl, zlkE rfl (by rw [take_succ_getD _ _ h9, sMGp_snoc]), rfl, rfl, rfl, rfl, rfl, trivial⟩ (ih (i + 1) (by omega) f _ hsc hgs9 hr hL hf0 hq1 hq2)
        refine v_getfield fX1_114 dX1_misfitByGains_78 (by assumption) (by rfl) ?_
        refine v_astore dX1_misfitByGains_81 (by decide) ?_
        refine v_aload dX1_misfitByGains_83 rfl ?_
        refine v_alen dX1_misfitByGains_85 (by assumption) (by decide) ?_
        refine v_istore dX1_misfitByGains_86 (by decide) ?_
        refine v_iconst (nI 0) dX1_misfitByGains_88 (by decide) ?_
        refine v_istore dX1_misfitByGains_89 (by decide) ?_
        exact v_loc (lv' := [(0, .ref r), (1, .ref sc), (2, .int (sMGp sh (PL.take 0) S).1), (3, .int (nI c)), (4, .int sh), (5, .ref sq), (6, .int (nI PL.length)), (7, .int (nI 0))]) ⟨rfl, rfl, rfl, rfl, rfl, rfl, rfl, rfl, trivial⟩ (loop3 PL.length 0 (by omega) f g hsc hgs hr hL hf0 hq1 hq2)
  have loop1 : ∀ (k i : Nat), i + k = 144 → ∀ (f : zHM) (g : Nat → Int32), f sc = some (ts, .inl (0, 144, .inl g)) → (∀ j, j < i → g j = (fun q => ρ 7 q * ρ 3 2) j) → RPic f t r la A ρ n xs tm → LNok f m0 la M → zFr (fun τ => τ = 950 ∨ τ = ts) f0 f → zV G yX1_misfitByGains cX1_misfitByGains 9 (some .int) 4 4 [(0, .ref r), (1, .ref sc), (2, .int (sSum (fun q => ρ 7 q * ρ 3 2) i)), (3, .int (nI i))] [] (f, m0) (zD (some (.int (sMG ρ s n).1)) (fun f' m' => (∃ g, f' sc = some (ts, .inl (0, 144, .inl g))) ∧ LNok f' m' la M ∧ zFr (fun τ => τ = 950 ∨ τ = ts) f0 f')) := by
    intro k
    induction k with
    | zero =>
      intro i hi f g hsc hgs hr hL hf0
      have hi : i = 144 := by omega
      subst hi
      obtain ⟨r0, ⟨g1, a1, e1⟩, ⟨g2, a2, e2⟩, ⟨g3, a3, e3⟩, ⟨g4, a4, e4⟩, ⟨g5, a5, e5⟩, ⟨g6, a6, e6⟩, ⟨g7, a7, e7⟩, ⟨g8, a8, e8⟩, ⟨g9, a9, e9⟩, ⟨g10, a10, e10⟩⟩ := id hr
      refine v_iload_n dX1_misfitByGains_4 rfl rfl ?_
      refine v_sipush (nI 144) dX1_misfitByGains_5 (by decide) ?_
      refine v_icmp_ge 39 dX1_misfitByGains_8 (by decide) (fun b8 => ?_) (fun b8 => ?_)
      · refine v_iconst (nI 0) dX1_misfitByGains_39 (by decide) ?_
        refine v_istore_n dX1_misfitByGains_40 rfl (by decide) ?_
        exact v_loc (lv' := [(0, .ref r), (1, .ref sc), (2, .int (sMG ρ s 0).1), (3, .int (nI 0))]) ⟨rfl, rfl, rfl, rfl, trivial⟩ (loop2 n 0 (by omega) f m0 g (sMG ρ s 0) ⟨rfl, trivial⟩ hsc hgs hr hL hf0)
      · exact absurd (nI_le (by omega) (by omega)) b8
    | succ k ih =>
      intro i hi f g hsc hgs hr hL hf0
      have h9 : i < 144 := by omega
      obtain ⟨r0, ⟨g1, a1, e1⟩, ⟨g2, a2, e2⟩, ⟨g3, a3, e3⟩, ⟨g4, a4, e4⟩, ⟨g5, a5, e5⟩, ⟨g6, a6, e6⟩, ⟨g7, a7, e7⟩, ⟨g8, a8, e8⟩, ⟨g9, a9, e9⟩, ⟨g10, a10, e10⟩⟩ := id hr
      refine v_iload_n dX1_misfitByGains_4 rfl rfl ?_
      refine v_sipush (nI 144) dX1_misfitByGains_5 (by decide) ?_
      refine v_icmp_ge 39 dX1_misfitByGains_8 (by decide) (fun b8 => ?_) (fun b8 => ?_)
      · exact absurd b8 (nI_ge h9 (by omega))
      · refine v_aload_n dX1_misfitByGains_11 rfl rfl ?_
        refine v_iload_n dX1_misfitByGains_12 rfl rfl ?_
        refine v_aload_n dX1_misfitByGains_13 rfl rfl ?_
        refine v_getfield fX1_37 dX1_misfitByGains_14 (by assumption) (by rfl) ?_
        refine v_iload_n dX1_misfitByGains_17 rfl rfl ?_
        refine v_iaload dX1_misfitByGains_18 (by assumption) (vp_in_nI (by omega) (by omega)) ?_
        rw [nI_clamp (by omega), e7 i h9]
        refine v_aload_n dX1_misfitByGains_19 rfl rfl ?_
        refine v_getfield fX1_25 dX1_misfitByGains_20 (by assumption) (by rfl) ?_
        refine v_iconst (nI 2) dX1_misfitByGains_23 (by decide) ?_
        refine v_iaload dX1_misfitByGains_24 (by assumption) (by unfold vp_in; decide) ?_
        rw [show g3 (nI 2).toNatClampNeg = ρ 3 2 from e3 2 (by omega)]
        refine v_imul dX1_misfitByGains_25 ?_
        refine v_iastoreX dX1_misfitByGains_26 (by assumption) (vp_in_nI (by omega) (by omega)) (fun f hp => ?_)
        have hsc := hp.1
        have hf0 : zFr (fun τ => τ = 950 ∨ τ = ts) f0 f := hf0.put hp (Or.inr rfl)
        have hfp := zFr.put (T := fun τ => τ = ts) zFr.refl hp rfl
        have hr := hr.fr hfp (fun k hk => by show ¬ (t + k = ts); omega)
        have hL := hL.fr hfp (fun τ h1 h2 => by have h2 : τ = ts := h2; omega)
        obtain ⟨r0, ⟨g1, a1, e1⟩, ⟨g2, a2, e2⟩, ⟨g3, a3, e3⟩, ⟨g4, a4, e4⟩, ⟨g5, a5, e5⟩, ⟨g6, a6, e6⟩, ⟨g7, a7, e7⟩, ⟨g8, a8, e8⟩, ⟨g9, a9, e9⟩, ⟨g10, a10, e10⟩⟩ := id hr
        refine v_iload_n dX1_misfitByGains_27 rfl rfl ?_
        refine v_aload_n dX1_misfitByGains_28 rfl rfl ?_
        refine v_iload_n dX1_misfitByGains_29 rfl rfl ?_
        refine v_iaload dX1_misfitByGains_30 (by assumption) (vp_in_nI (by omega) (by omega)) ?_
        rw [nI_clamp (by omega), pk_us]
        refine v_iadd dX1_misfitByGains_31 ?_
        refine v_istore_n dX1_misfitByGains_32 rfl (by decide) ?_
        refine v_iincN dX1_misfitByGains_33 rfl (by decide) ?_
        refine v_goto 4 dX1_misfitByGains_36 (by decide) ?_
        exact v_loc (lv' := [(0, .ref r), (1, .ref sc), (2, .int (sSum (fun q => ρ 7 q * ρ 3 2) (i + 1))), (3, .int (nI (i + 1)))]) ⟨rfl, rfl, rfl, rfl, trivial⟩ (ih (i + 1) (by omega) f _ hsc (fun j hj => by
          rw [nI_clamp (by omega)]
          by_cases h : j = i
          · subst h; rw [pk_us]
          · rw [pk_un h, hgs j (by omega)]) hr hL hf0)
  refine v_iconst (0) dX1_misfitByGains_0 (by decide) ?_
  refine v_istore_n dX1_misfitByGains_1 rfl (by decide) ?_
  refine v_iconst (0) dX1_misfitByGains_2 (by decide) ?_
  refine v_istore_n dX1_misfitByGains_3 rfl (by decide) ?_
  exact v_loc (lv' := [(0, .ref r), (1, .ref sc), (2, .int (sSum (fun q => ρ 7 q * ρ 3 2) 0)), (3, .int (nI 0))]) ⟨rfl, rfl, rfl, rfl, trivial⟩ (loop1 144 0 rfl f0 g0 hsc (fun j hj => absurd hj (Nat.not_lt_zero j)) hr hL zFr.refl)
end
section
def sIsD (c : Nat) : Bool := decide (48 ≤ c ∧ c ≤ 57)
def sIsL (c : Nat) : Bool := decide (97 ≤ c ∧ c ≤ 108)
def sEnd (st : Nat) : Bool := decide (st = 15 ∨ (0 < st ∧ st ≤ 12))
def sSb (st c : Nat) : Nat :=
  if st = 13 then (if sIsL c = true then 0 else 16) else if sIsD c = true then (if st = 14 then 15 else if 12 ≤ st then 16 else st + 1)
  else if c = 42 ∧ st = 0 then 14 else if c = 59 ∧ sEnd st = true then 13 else 16
def sRun (ch : Nat → Nat) : Nat → Nat
  | 0 => 13
  | i + 1 => sSb (sRun ch i) (ch i)
/-- the greys that a text tells: where the row starts, the column, whether a star stood, the greys -/
def sTl (ch : Nat → Nat) (g0 : Nat → Int32) : Nat → Nat × Nat × Bool × (Nat → Int32)
  | 0 => (0, 0, false, g0)
  | i + 1 => match sTl ch g0 i with
    | (s, k, b, g) => if sIsL (ch i) = true then ((ch i - 97) * 12, 0, false, g) else if ch i = 42 then (s, k, true, g)
      else if sIsD (ch i) = true ∧ b = true then (s, k, b, fun j => if s ≤ j ∧ j < s + 12 then nI (ch i - 48) else g j)
      else if sIsD (ch i) = true ∧ ¬ 12 ≤ k then (s, k + 1, b, fun j => if j = s + k then nI (ch i - 48) else g j) else (s, k, b, g)
def TPic (f : zHM) (t tx co L : Nat) (ch : Nat → Nat) : Prop :=
  f tx = some (t, .inr (2, [.ref co, .int (nI L)])) ∧ ∃ g, f co = some (t + 1, .inl (3, 60, .inl g)) ∧ ∀ i, i < L → g i = nI (ch i) ∧ ch i < 128
theorem TPic.fr {T : Nat → Prop} {f f' : zHM} {t tx co L : Nat} {ch : Nat → Nat} (h : zFr T f f') (hr : TPic f t tx co L ch) (h1 : ¬ T t) (h2 : ¬ T (t + 1)) : TPic f' t tx co L ch := by
  obtain ⟨e1, g, e2, e3⟩ := hr
  exact ⟨h _ _ _ e1 h1, g, h _ _ _ e2 h2, e3⟩
set_option maxRecDepth 10000 in
set_option maxHeartbeats 1000000 in
theorem c_Text_init {G : zW} {f : zHM} {m : Nat × Nat} {t tx : Nat} (r0 : f tx = some (t, .inr (2, [.null, .int 0]))) (hm1 : m.1 + 1 ≤ 50000) (hm2 : m.2 + 60 ≤ 400000) : zM G yX2_init cX2_init 1 none 1 [.ref tx] (f, m) (zD none (fun f' m' => (∃ co, TPic f' t tx co 0 (fun _ => 0)) ∧ zFr (fun τ => τ = t) f f' ∧ m' = (m.1 + 1, m.2 + 60))) := by
  refine zM.of (by decide) (Nat.le_of_ble_eq_true rfl) ?_
  refine v_aload_n dX2_init_0 rfl rfl ?_
  refine v_objInit goLX2 goI goC dX2_init_1 (by decide) (Nat.le_of_ble_eq_true rfl) ?_
  refine v_aload_n dX2_init_4 rfl rfl ?_
  refine v_bipush (nI 60) dX2_init_5 (by decide) ?_
  refine v_newCX (t + 1) 60 dX2_init_7 (by decide) (by decide) (by omega) hm1 hm2 (fun q f1 hp1 => ?_)
  have r0 := hp1.2.2 _ _ r0
  have a0 := hp1.1
  refine v_putfieldFX fX2_9 rfl rfl dX2_init_9 (by assumption) rfl rfl (Nat.le_of_ble_eq_true rfl) (fun f2 hp2 => ?_)
  have a0 := hp2.ne a0 (by omega)
  have r0 := hp2.1
  exact v_return dX2_init_12 rfl ⟨rfl, ⟨q, r0, _, a0, fun i hi => absurd hi (Nat.not_lt_zero i)⟩, (zFr.new zFr.refl hp1).put hp2 rfl, rfl⟩
end
section
section ZCONV2
variable {G : zW} {y : MethodName} {cc : ByteArray} {nL : Nat} {ret : Option FieldType} {d : Nat} {pc : Nat} {lv : List (Nat × Value)} {st : List Value} {f : zHM} {m : Nat × Nat} {Q : zOut → zH → Prop} {tg : Nat}
theorem v_callV0p {b ci : Nat} {vs : List Value} {idx n d2 nL2 : Nat} {y2 : MethodName} {cc2 : ByteArray} {ret2 : Option FieldType} {as rest : List Value} (hc : zCS y.cls idx y2 cc2 nL2 ret2 n) (hin : Cond.instanceMethod y2 ∈ GT) (hse : Cond.selects y2.cls y2 y2 ∈ GT) (hci : zCL[ci]?.map (fun q => q.1) = some y2.cls) (hd : decode cc pc = .ok (.invokevirtual idx, 3)) (hbv : f b = some (tg, .inr (ci, vs))) (hM : zM G y2 cc2 nL2 ret2 d2 (.ref b :: as) (f, m) (zD none (fun f' m' => f' = f ∧ m' = m))) (hs : st = as.reverse ++ .ref b :: rest) (hn : as.length = n) (hdd : d2 + 1 ≤ d) (hW : (rest.map fun v => v.category).sum ≤ 8) (kr : zV G y cc nL ret d (pc + 3) lv rest (f, m) Q) : zV G y cc nL ret d pc lv st (f, m) Q :=
  v_callV0 hc hin hse hci hd hbv hM hs hn hdd hW (fun f' m' h => by obtain ⟨rfl, rfl⟩ := h; exact kr)
theorem v_callS0p {idx n d2 nL2 : Nat} {y2 : MethodName} {cc2 : ByteArray} {ret2 : Option FieldType} {as rest : List Value} (hc : zCS y.cls idx y2 cc2 nL2 ret2 n) (hst : Cond.static y2 ∈ GT) (hd : decode cc pc = .ok (.invokestatic idx, 3)) (hM : zM G y2 cc2 nL2 ret2 d2 as (f, m) (zD none (fun f' m' => f' = f ∧ m' = m))) (hs : st = as.reverse ++ rest) (hn : as.length = n) (hdd : d2 + 1 ≤ d) (hW : (rest.map fun v => v.category).sum ≤ 8) (kr : zV G y cc nL ret d (pc + 3) lv rest (f, m) Q) : zV G y cc nL ret d pc lv st (f, m) Q :=
  v_callS0 hc hst hd hM hs hn hdd hW (fun f' m' h => by obtain ⟨rfl, rfl⟩ := h; exact kr)
end ZCONV2
abbrev zOk (f : zHM) (m : Nat × Nat) : zHM → Nat × Nat → Prop := fun f' m' => f' = f ∧ m' = m
set_option maxRecDepth 10000 in
set_option maxHeartbeats 1000000 in
theorem c_needRange {G : zW} {f : zHM} {m : Nat × Nat} {v a b : Int32} (h1 : ¬ v < a) (h2 : v ≤ b) : zM G yX3_needRange cX3_needRange 3 none 6 [.int v, .int a, .int b] (f, m) (zD none (zOk f m)) := by
  refine zM.of (by decide) (Nat.le_of_ble_eq_true rfl) ?_
  refine v_iload_n dX3_needRange_0 rfl rfl ?_
  refine v_iload_n dX3_needRange_1 rfl rfl ?_
  refine v_icmp_lt 10 dX3_needRange_2 (by decide) (fun b2 => ?_) (fun b2 => ?_)
  · exact absurd b2 h1
  · refine v_iload_n dX3_needRange_5 rfl rfl ?_
    refine v_iload_n dX3_needRange_6 rfl rfl ?_
    refine v_icmp_le 20 dX3_needRange_7 (by decide) (fun b7 => ?_) (fun b7 => ?_)
    · exact v_return dX3_needRange_20 rfl ⟨rfl, rfl, rfl⟩
    · exact absurd h2 b7
set_option maxRecDepth 10000 in
set_option maxHeartbeats 1000000 in
theorem c_needSpool {G : zW} {f : zHM} {m : Nat × Nat} {v : Int32} (h1 : ¬ v < 0) (h2 : v < 3) : zM G yX3_needSpool cX3_needSpool 1 none 6 [.int v] (f, m) (zD none (zOk f m)) := by
  refine zM.of (by decide) (Nat.le_of_ble_eq_true rfl) ?_
  refine v_iload_n dX3_needSpool_0 rfl rfl ?_
  refine v_if_lt 9 dX3_needSpool_1 (by decide) (fun b1 => ?_) (fun b1 => ?_)
  · exact absurd b1 h1
  · refine v_iload_n dX3_needSpool_4 rfl rfl ?_
    refine v_iconst (3) dX3_needSpool_5 (by decide) ?_
    refine v_icmp_lt 20 dX3_needSpool_6 (by decide) (fun b6 => ?_) (fun b6 => ?_)
    · exact v_return dX3_needSpool_20 rfl ⟨rfl, rfl, rfl⟩
    · exact absurd h2 b6
set_option maxRecDepth 10000 in
set_option maxHeartbeats 1000000 in
theorem c_needSetting {G : zW} {f : zHM} {m : Nat × Nat} {v : Int32} (h1 : ¬ v < 0) (h2 : v < 3) : zM G yX3_needSetting cX3_needSetting 1 none 6 [.int v] (f, m) (zD none (zOk f m)) := by
  refine zM.of (by decide) (Nat.le_of_ble_eq_true rfl) ?_
  refine v_iload_n dX3_needSetting_0 rfl rfl ?_
  refine v_if_lt 9 dX3_needSetting_1 (by decide) (fun b1 => ?_) (fun b1 => ?_)
  · exact absurd b1 h1
  · refine v_iload_n dX3_needSetting_4 rfl rfl ?_
    refine v_iconst (3) dX3_needSetting_5 (by decide) ?_
    refine v_icmp_lt 20 dX3_needSetting_6 (by decide) (fun b6 => ?_) (fun b6 => ?_)
    · exact v_return dX3_needSetting_20 rfl ⟨rfl, rfl, rfl⟩
    · exact absurd h2 b6
set_option maxRecDepth 10000 in
set_option maxHeartbeats 1000000 in
theorem c_needSquare {G : zW} {f : zHM} {m : Nat × Nat} {x z : Int32} (h1 : ¬ x < 0) (h2 : ¬ 12 ≤ x) (h3 : ¬ z < 0) (h4 : z < 12) : zM G yX3_needSquare cX3_needSquare 2 none 6 [.int x, .int z] (f, m) (zD none (zOk f m)) := by
  refine zM.of (by decide) (Nat.le_of_ble_eq_true rfl) ?_
  refine v_iload_n dX3_needSquare_0 rfl rfl ?_
  refine v_if_lt 20 dX3_needSquare_1 (by decide) (fun b1 => ?_) (fun b1 => ?_)
  · exact absurd b1 h1
  · refine v_iload_n dX3_needSquare_4 rfl rfl ?_
    refine v_bipush (12) dX3_needSquare_5 (by decide) ?_
    refine v_icmp_ge 20 dX3_needSquare_7 (by decide) (fun b7 => ?_) (fun b7 => ?_)
    · exact absurd b7 h2
    · refine v_iload_n dX3_needSquare_10 rfl rfl ?_
      refine v_if_lt 20 dX3_needSquare_11 (by decide) (fun b11 => ?_) (fun b11 => ?_)
      · exact absurd b11 h3
      · refine v_iload_n dX3_needSquare_14 rfl rfl ?_
        refine v_bipush (12) dX3_needSquare_15 (by decide) ?_
        refine v_icmp_lt 31 dX3_needSquare_17 (by decide) (fun b17 => ?_) (fun b17 => ?_)
        · exact v_return dX3_needSquare_31 rfl ⟨rfl, rfl, rfl⟩
        · exact absurd h4 b17
set_option maxRecDepth 10000 in
set_option maxHeartbeats 1000000 in
theorem c_needNail {G : zW} {f : zHM} {m : Nat × Nat} {la : Nat} {o tg tr : Nat} {vs ws : List Value} {r : Nat} {N : Int32} (r0 : f o = some (tg, .inr (3, .ref r :: vs))) (r1 : f r = some (tr, .inr (1, .ref la :: .int N :: ws))) {v : Int32} (h1 : ¬ v < 0) (h2 : v < N) : zM G yX3_needNail cX3_needNail 2 none 6 [.ref o, .int v] (f, m) (zD none (zOk f m)) := by
  refine zM.of (by decide) (Nat.le_of_ble_eq_true rfl) ?_
  refine v_iload_n dX3_needNail_0 rfl rfl ?_
  refine v_if_lt 15 dX3_needNail_1 (by decide) (fun b1 => ?_) (fun b1 => ?_)
  · exact absurd b1 h1
  · refine v_iload_n dX3_needNail_4 rfl rfl ?_
    refine v_aload_n dX3_needNail_5 rfl rfl ?_
    refine v_getfield fX3_34 dX3_needNail_6 (by assumption) (by rfl) ?_
    refine v_getfield fX3_55 dX3_needNail_9 (by assumption) (by rfl) ?_
    refine v_icmp_lt 26 dX3_needNail_12 (by decide) (fun b12 => ?_) (fun b12 => ?_)
    · exact v_return dX3_needNail_26 rfl ⟨rfl, rfl, rfl⟩
    · exact absurd h2 b12
theorem zlook {z : Int} (h4 : ¬ z = (4 : Int32).toInt) (h6 : ¬ z = (6 : Int32).toInt) (h8 : ¬ z = (8 : Int32).toInt) (h12 : ¬ z = (12 : Int32).toInt) (h24 : ¬ z = (24 : Int32).toInt) : Op.lookupswitch.offset [(4, 51), (6, 54), (8, 56), (12, 58), (24, 60)] 62 z = 62 := by
  rw [show (4 : Int32).toInt = 4 from by decide] at h4
  rw [show (6 : Int32).toInt = 6 from by decide] at h6
  rw [show (8 : Int32).toInt = 8 from by decide] at h8
  rw [show (12 : Int32).toInt = 12 from by decide] at h12
  rw [show (24 : Int32).toInt = 24 from by decide] at h24
  show (if (4 : Int) = z then (51 : Int) else if (6 : Int) = z then 54 else if (8 : Int) = z then 56 else if (12 : Int) = z then 58 else if (24 : Int) = z then 60 else 62) = 62
  rw [if_neg (Ne.symm h4), if_neg (Ne.symm h6), if_neg (Ne.symm h8), if_neg (Ne.symm h12), if_neg (Ne.symm h24)]
def sStepOf (x : Int32) : Int32 := if x = 4 then 6 else if x = 6 then 4 else if x = 8 then 3 else if x = 12 then 2 else if x = 24 then 1 else -1
set_option maxRecDepth 10000 in
set_option maxHeartbeats 1000000 in
theorem c_stepOf {G : zW} {f : zHM} {m : Nat × Nat} {x : Int32} : zM G yX3_stepOf cX3_stepOf 1 (some .int) 1 [.int x] (f, m) (zS (.int (sStepOf x)) f m) := by
  refine zM.of (by decide) (Nat.le_of_ble_eq_true rfl) ?_
  refine v_iload_n dX3_stepOf_0 rfl rfl ?_
  by_cases h4 : x = 4
  · refine v_lookup 52 dX3_stepOf_1 (by decide) (off := 51) (by subst h4; decide) (by decide) ?_
    refine v_bipush (6) dX3_stepOf_52 (by decide) ?_
    exact v_ireturn dX3_stepOf_54 rfl ⟨by subst h4; rfl, rfl, rfl⟩
  by_cases h6 : x = 6
  · refine v_lookup 55 dX3_stepOf_1 (by decide) (off := 54) (by subst h6; decide) (by decide) ?_
    refine v_iconst (4) dX3_stepOf_55 (by decide) ?_
    exact v_ireturn dX3_stepOf_56 rfl ⟨by subst h6; rfl, rfl, rfl⟩
  by_cases h8 : x = 8
  · refine v_lookup 57 dX3_stepOf_1 (by decide) (off := 56) (by subst h8; decide) (by decide) ?_
    refine v_iconst (3) dX3_stepOf_57 (by decide) ?_
    exact v_ireturn dX3_stepOf_58 rfl ⟨by subst h8; rfl, rfl, rfl⟩
  by_cases h12 : x = 12
  · refine v_lookup 59 dX3_stepOf_1 (by decide) (off := 58) (by subst h12; decide) (by decide) ?_
    refine v_iconst (2) dX3_stepOf_59 (by decide) ?_
    exact v_ireturn dX3_stepOf_60 rfl ⟨by subst h12; rfl, rfl, rfl⟩
  by_cases h24 : x = 24
  · refine v_lookup 61 dX3_stepOf_1 (by decide) (off := 60) (by subst h24; decide) (by decide) ?_
    refine v_iconst (1) dX3_stepOf_61 (by decide) ?_
    exact v_ireturn dX3_stepOf_62 rfl ⟨by subst h24; rfl, rfl, rfl⟩
  refine v_lookup 63 dX3_stepOf_1 (by decide) (off := 62) ?_ (by decide) ?_
  · have e : ∀ k : Int32, ¬ x = k → ¬ x.toInt = k.toInt := fun k hk e => hk (Int32.toInt_inj.mp e)
    have e4 := e 4 h4
    have e6 := e 6 h6
    have e8 := e 8 h8
    have e12 := e 12 h12
    have e24 := e 24 h24
    exact zlook e4 e6 e8 e12 e24
  refine v_iconst (-1) dX3_stepOf_63 (by decide) ?_
  exact v_ireturn dX3_stepOf_64 rfl ⟨by unfold sStepOf; rw [if_neg h4, if_neg h6, if_neg h8, if_neg h12, if_neg h24], rfl, rfl⟩
end
section
abbrev zOb (r tr sc tx sl sv : Nat) (k : Nat) : List Value := [.ref r, .ref tr, .ref sc, .ref tx, .ref sl, .ref sv, .int (nI k)]
def sNailOf (ρ : zRS) (s n b : Nat) : Nat → Int32
  | 0 => sX (b * s)
  | 1 => sY (b * s)
  | 2 => sEnds ρ n (nI b)
  | _ => if nI b = ρ 0 1 then 1 else 0
def sSpoolOf (ρ : zRS) (s n u : Nat) : Nat → Int32
  | 0 => ρ 1 u
  | 1 => ρ 2 u
  | 2 => sThr ρ s n (nI u)
  | 3 => sCh ρ n (nI u)
  | _ => if nI u = ρ 0 2 then 1 else 0
def sWound (ρ : zRS) (n g : Nat) : Nat → Int32
  | 0 => if n ≤ g then -1 else ρ 4 (n - 1 - g)
  | 1 => if n ≤ g then -1 else ρ 5 (n - 1 - g)
  | _ => if n ≤ g then -1 else ρ 6 (n - 1 - g)
def sSquare (ρ : zRS) (xs : Nat → Int32) (q : Nat) : Nat → Int32
  | 0 => ρ 7 q
  | 1 => ρ 8 q
  | 2 => sLack ρ q + 10000
  | _ => xs q
set_option maxRecDepth 10000 in
set_option maxHeartbeats 1000000 in
theorem c_nailOf_0 {G : zW} {f : zHM} {m : Nat × Nat} {o r tr sc tx sl sv k la n : Nat} {A : Nat → Nat} {ρ : zRS} {xs tm : Nat → Int32} (ho : f o = some (600, .inr (3, zOb r tr sc tx sl sv k))) (hr : RPic f 0 r la A ρ n xs tm) {N s : Nat} (hv : RV ρ N s) (hn201 : n ≤ 201) {b : Nat} (hb : b < N) : zM G yX3_nailOf cX3_nailOf 3 (some .int) 7 [.ref o, .int (nI b), .int (nI 0)] (f, m) (zS (.int (sNailOf ρ s n b 0)) f m) := by
  refine zM.of (by decide) (Nat.le_of_ble_eq_true rfl) ?_
  have hv9 := hv.pos
  have hpb := hv.pl hb
  have r0 := hr.1
  refine v_aload_n dX3_nailOf_0 rfl rfl ?_
  refine v_iload_n dX3_nailOf_1 rfl rfl ?_
  refine v_callV0p kX3_107 gi_X3_needNail ge_X3_needNail rfl dX3_nailOf_2 (by assumption) (c_needNail ho hr.1 (nI_pos (by omega)) (by rw [hv.1]; exact nI_lt hb (by omega))) rfl rfl (by decide) (Nat.le_of_ble_eq_true rfl) ?_
  refine v_iload_n dX3_nailOf_5 rfl rfl ?_
  refine v_iconst (0) dX3_nailOf_6 (by decide) ?_
  refine v_iconst (3) dX3_nailOf_7 (by decide) ?_
  refine v_callS0p kX3_72 gs_X3_needRange dX3_nailOf_8 (c_needRange (by decide) (by decide)) rfl rfl (by decide) (Nat.le_of_ble_eq_true rfl) ?_
  refine v_iload_n dX3_nailOf_11 rfl rfl ?_
  refine v_tableIn 40 dX3_nailOf_12 (by decide) (by decide) (off := 28) (by rfl) (by decide) ?_
  refine v_iload_n dX3_nailOf_40 rfl rfl ?_
  refine v_aload_n dX3_nailOf_41 rfl rfl ?_
  refine v_getfield fX3_34 dX3_nailOf_42 (by assumption) (by rfl) ?_
  refine v_getfield fX3_62 dX3_nailOf_45 (by assumption) (by rfl) ?_
  refine v_imul dX3_nailOf_48 ?_
  rw [hv.2.1, pk_mul]
  refine v_callSp kX3_192 gs_X0_xOf dX3_nailOf_49 (c_xOf hpb) rfl rfl (by decide) (Nat.le_of_ble_eq_true rfl) ?_
  exact v_ireturn dX3_nailOf_52 rfl ⟨rfl, rfl, rfl⟩
set_option maxRecDepth 10000 in
set_option maxHeartbeats 1000000 in
theorem c_nailOf_1 {G : zW} {f : zHM} {m : Nat × Nat} {o r tr sc tx sl sv k la n : Nat} {A : Nat → Nat} {ρ : zRS} {xs tm : Nat → Int32} (ho : f o = some (600, .inr (3, zOb r tr sc tx sl sv k))) (hr : RPic f 0 r la A ρ n xs tm) {N s : Nat} (hv : RV ρ N s) (hn201 : n ≤ 201) {b : Nat} (hb : b < N) : zM G yX3_nailOf cX3_nailOf 3 (some .int) 7 [.ref o, .int (nI b), .int (nI 1)] (f, m) (zS (.int (sNailOf ρ s n b 1)) f m) := by
  refine zM.of (by decide) (Nat.le_of_ble_eq_true rfl) ?_
  have hv9 := hv.pos
  have hpb := hv.pl hb
  have r0 := hr.1
  refine v_aload_n dX3_nailOf_0 rfl rfl ?_
  refine v_iload_n dX3_nailOf_1 rfl rfl ?_
  refine v_callV0p kX3_107 gi_X3_needNail ge_X3_needNail rfl dX3_nailOf_2 (by assumption) (c_needNail ho hr.1 (nI_pos (by omega)) (by rw [hv.1]; exact nI_lt hb (by omega))) rfl rfl (by decide) (Nat.le_of_ble_eq_true rfl) ?_
  refine v_iload_n dX3_nailOf_5 rfl rfl ?_
  refine v_iconst (0) dX3_nailOf_6 (by decide) ?_
  refine v_iconst (3) dX3_nailOf_7 (by decide) ?_
  refine v_callS0p kX3_72 gs_X3_needRange dX3_nailOf_8 (c_needRange (by decide) (by decide)) rfl rfl (by decide) (Nat.le_of_ble_eq_true rfl) ?_
  refine v_iload_n dX3_nailOf_11 rfl rfl ?_
  refine v_tableIn 53 dX3_nailOf_12 (by decide) (by decide) (off := 41) (by rfl) (by decide) ?_
  refine v_iload_n dX3_nailOf_53 rfl rfl ?_
  refine v_aload_n dX3_nailOf_54 rfl rfl ?_
  refine v_getfield fX3_34 dX3_nailOf_55 (by assumption) (by rfl) ?_
  refine v_getfield fX3_62 dX3_nailOf_58 (by assumption) (by rfl) ?_
  refine v_imul dX3_nailOf_61 ?_
  rw [hv.2.1, pk_mul]
  refine v_callSp kX3_195 gs_X0_yOf dX3_nailOf_62 (c_yOf hpb) rfl rfl (by decide) (Nat.le_of_ble_eq_true rfl) ?_
  exact v_ireturn dX3_nailOf_65 rfl ⟨rfl, rfl, rfl⟩
set_option maxRecDepth 10000 in
set_option maxHeartbeats 1000000 in
theorem c_nailOf_2 {G : zW} {f : zHM} {m : Nat × Nat} {o r tr sc tx sl sv k la n : Nat} {A : Nat → Nat} {ρ : zRS} {xs tm : Nat → Int32} (ho : f o = some (600, .inr (3, zOb r tr sc tx sl sv k))) (hr : RPic f 0 r la A ρ n xs tm) {N s : Nat} (hv : RV ρ N s) (hn201 : n ≤ 201) {b : Nat} (hb : b < N) : zM G yX3_nailOf cX3_nailOf 3 (some .int) 7 [.ref o, .int (nI b), .int (nI 2)] (f, m) (zS (.int (sNailOf ρ s n b 2)) f m) := by
  refine zM.of (by decide) (Nat.le_of_ble_eq_true rfl) ?_
  have hv9 := hv.pos
  have hpb := hv.pl hb
  have r0 := hr.1
  refine v_aload_n dX3_nailOf_0 rfl rfl ?_
  refine v_iload_n dX3_nailOf_1 rfl rfl ?_
  refine v_callV0p kX3_107 gi_X3_needNail ge_X3_needNail rfl dX3_nailOf_2 (by assumption) (c_needNail ho hr.1 (nI_pos (by omega)) (by rw [hv.1]; exact nI_lt hb (by omega))) rfl rfl (by decide) (Nat.le_of_ble_eq_true rfl) ?_
  refine v_iload_n dX3_nailOf_5 rfl rfl ?_
  refine v_iconst (0) dX3_nailOf_6 (by decide) ?_
  refine v_iconst (3) dX3_nailOf_7 (by decide) ?_
  refine v_callS0p kX3_72 gs_X3_needRange dX3_nailOf_8 (c_needRange (by decide) (by decide)) rfl rfl (by decide) (Nat.le_of_ble_eq_true rfl) ?_
  refine v_iload_n dX3_nailOf_11 rfl rfl ?_
  refine v_tableIn 66 dX3_nailOf_12 (by decide) (by decide) (off := 54) (by rfl) (by decide) ?_
  refine v_aload_n dX3_nailOf_66 rfl rfl ?_
  refine v_getfield fX3_34 dX3_nailOf_67 (by assumption) (by rfl) ?_
  refine v_iload_n dX3_nailOf_70 rfl rfl ?_
  refine v_callVp kX3_198 gi_X1_endsAt ge_X1_endsAt rfl dX3_nailOf_71 (by assumption) (c_endsAt hr hn201 (nI b)) rfl rfl (by decide) (Nat.le_of_ble_eq_true rfl) ?_
  exact v_ireturn dX3_nailOf_74 rfl ⟨rfl, rfl, rfl⟩
set_option maxRecDepth 10000 in
set_option maxHeartbeats 1000000 in
theorem c_nailOf_3 {G : zW} {f : zHM} {m : Nat × Nat} {o r tr sc tx sl sv k la n : Nat} {A : Nat → Nat} {ρ : zRS} {xs tm : Nat → Int32} (ho : f o = some (600, .inr (3, zOb r tr sc tx sl sv k))) (hr : RPic f 0 r la A ρ n xs tm) {N s : Nat} (hv : RV ρ N s) (hn201 : n ≤ 201) {b : Nat} (hb : b < N) : zM G yX3_nailOf cX3_nailOf 3 (some .int) 7 [.ref o, .int (nI b), .int (nI 3)] (f, m) (zS (.int (sNailOf ρ s n b 3)) f m) := by
  refine zM.of (by decide) (Nat.le_of_ble_eq_true rfl) ?_
  have hv9 := hv.pos
  have hpb := hv.pl hb
  have r0 := hr.1
  refine v_aload_n dX3_nailOf_0 rfl rfl ?_
  refine v_iload_n dX3_nailOf_1 rfl rfl ?_
  refine v_callV0p kX3_107 gi_X3_needNail ge_X3_needNail rfl dX3_nailOf_2 (by assumption) (c_needNail ho hr.1 (nI_pos (by omega)) (by rw [hv.1]; exact nI_lt hb (by omega))) rfl rfl (by decide) (Nat.le_of_ble_eq_true rfl) ?_
  refine v_iload_n dX3_nailOf_5 rfl rfl ?_
  refine v_iconst (0) dX3_nailOf_6 (by decide) ?_
  refine v_iconst (3) dX3_nailOf_7 (by decide) ?_
  refine v_callS0p kX3_72 gs_X3_needRange dX3_nailOf_8 (c_needRange (by decide) (by decide)) rfl rfl (by decide) (Nat.le_of_ble_eq_true rfl) ?_
  refine v_iload_n dX3_nailOf_11 rfl rfl ?_
  refine v_tableOut 75 dX3_nailOf_12 (Or.inr (by decide)) (by decide) ?_
  refine v_iload_n dX3_nailOf_75 rfl rfl ?_
  refine v_aload_n dX3_nailOf_76 rfl rfl ?_
  refine v_getfield fX3_34 dX3_nailOf_77 (by assumption) (by rfl) ?_
  refine v_getfield fX3_65 dX3_nailOf_80 (by assumption) (by rfl) ?_
  refine v_icmp_ne 90 dX3_nailOf_83 (by decide) (fun b83 => ?_) (fun b83 => ?_)
  · refine v_iconst (0) dX3_nailOf_90 (by decide) ?_
    exact v_ireturn dX3_nailOf_91 rfl ⟨by rw [show sNailOf ρ s n b 3 = 0 from if_neg b83], rfl, rfl⟩
  · refine v_iconst (1) dX3_nailOf_86 (by decide) ?_
    refine v_goto 91 dX3_nailOf_87 (by decide) ?_
    exact v_ireturn dX3_nailOf_91 rfl ⟨by rw [show sNailOf ρ s n b 3 = 1 from if_pos b83], rfl, rfl⟩
theorem c_nailOf {G : zW} {f : zHM} {m : Nat × Nat} {o r tr sc tx sl sv k la n : Nat} {A : Nat → Nat} {ρ : zRS} {xs tm : Nat → Int32} (ho : f o = some (600, .inr (3, zOb r tr sc tx sl sv k))) (hr : RPic f 0 r la A ρ n xs tm) {N s : Nat} (hv : RV ρ N s) (hn201 : n ≤ 201) {b w : Nat} (hb : b < N) (hw4 : w ≤ 3) : zM G yX3_nailOf cX3_nailOf 3 (some .int) 7 [.ref o, .int (nI b), .int (nI w)] (f, m) (zS (.int (sNailOf ρ s n b w)) f m) := by
  match w, hw4 with
  | 0, _ => exact c_nailOf_0 ho hr hv hn201 hb
  | 1, _ => exact c_nailOf_1 ho hr hv hn201 hb
  | 2, _ => exact c_nailOf_2 ho hr hv hn201 hb
  | 3, _ => exact c_nailOf_3 ho hr hv hn201 hb
set_option maxRecDepth 10000 in
set_option maxHeartbeats 1000000 in
theorem c_spoolOf_0 {G : zW} {f : zHM} {m : Nat × Nat} {o r tr sc tx sl sv k la n : Nat} {A : Nat → Nat} {ρ : zRS} {xs tm : Nat → Int32} (ho : f o = some (600, .inr (3, zOb r tr sc tx sl sv k))) (hr : RPic f 0 r la A ρ n xs tm) {N s : Nat} (hw : RW ρ N s n) {M : Nat × Nat} (hL : LNok f m la M) {u : Nat} (hu : u < 3) : zM G yX3_spoolOf cX3_spoolOf 3 (some .int) 7 [.ref o, .int (nI u), .int (nI 0)] (f, m) (zD (some (.int (sSpoolOf ρ s n u 0))) (fun f' m' => LNok f' m' la M ∧ zFr zT9 f f')) := by
  refine zM.of (by decide) (Nat.le_of_ble_eq_true rfl) ?_
  obtain ⟨r0, ⟨g1, a1, e1⟩, ⟨g2, a2, e2⟩, ⟨g3, a3, e3⟩, ⟨g4, a4, e4⟩, ⟨g5, a5, e5⟩, ⟨g6, a6, e6⟩, ⟨g7, a7, e7⟩, ⟨g8, a8, e8⟩, ⟨g9, a9, e9⟩, ⟨g10, a10, e10⟩⟩ := id hr
  refine v_iload_n dX3_spoolOf_0 rfl rfl ?_
  refine v_callS0p kX3_68 gs_X3_needSpool dX3_spoolOf_1 (c_needSpool (nI_pos (by omega)) (show nI u < nI 3 from nI_lt hu (by omega))) rfl rfl (by decide) (Nat.le_of_ble_eq_true rfl) ?_
  refine v_iload_n dX3_spoolOf_4 rfl rfl ?_
  refine v_iconst (0) dX3_spoolOf_5 (by decide) ?_
  refine v_iconst (4) dX3_spoolOf_6 (by decide) ?_
  refine v_callS0p kX3_72 gs_X3_needRange dX3_spoolOf_7 (c_needRange (by decide) (by decide)) rfl rfl (by decide) (Nat.le_of_ble_eq_true rfl) ?_
  refine v_iload_n dX3_spoolOf_10 rfl rfl ?_
  refine v_tableIn 40 dX3_spoolOf_11 (by decide) (by decide) (off := 29) (by rfl) (by decide) ?_
  refine v_aload_n dX3_spoolOf_40 rfl rfl ?_
  refine v_getfield fX3_34 dX3_spoolOf_41 (by assumption) (by rfl) ?_
  refine v_getfield fX3_90 dX3_spoolOf_44 (by assumption) (by rfl) ?_
  refine v_iload_n dX3_spoolOf_47 rfl rfl ?_
  refine v_iaload dX3_spoolOf_48 (by assumption) (vp_in_nI hu (by omega)) ?_
  exact v_ireturn dX3_spoolOf_49 rfl ⟨by rw [nI_clamp (by omega), e1 u hu]; rfl, hL, zFr.refl⟩
set_option maxRecDepth 10000 in
set_option maxHeartbeats 1000000 in
theorem c_spoolOf_1 {G : zW} {f : zHM} {m : Nat × Nat} {o r tr sc tx sl sv k la n : Nat} {A : Nat → Nat} {ρ : zRS} {xs tm : Nat → Int32} (ho : f o = some (600, .inr (3, zOb r tr sc tx sl sv k))) (hr : RPic f 0 r la A ρ n xs tm) {N s : Nat} (hw : RW ρ N s n) {M : Nat × Nat} (hL : LNok f m la M) {u : Nat} (hu : u < 3) : zM G yX3_spoolOf cX3_spoolOf 3 (some .int) 7 [.ref o, .int (nI u), .int (nI 1)] (f, m) (zD (some (.int (sSpoolOf ρ s n u 1))) (fun f' m' => LNok f' m' la M ∧ zFr zT9 f f')) := by
  refine zM.of (by decide) (Nat.le_of_ble_eq_true rfl) ?_
  obtain ⟨r0, ⟨g1, a1, e1⟩, ⟨g2, a2, e2⟩, ⟨g3, a3, e3⟩, ⟨g4, a4, e4⟩, ⟨g5, a5, e5⟩, ⟨g6, a6, e6⟩, ⟨g7, a7, e7⟩, ⟨g8, a8, e8⟩, ⟨g9, a9, e9⟩, ⟨g10, a10, e10⟩⟩ := id hr
  refine v_iload_n dX3_spoolOf_0 rfl rfl ?_
  refine v_callS0p kX3_68 gs_X3_needSpool dX3_spoolOf_1 (c_needSpool (nI_pos (by omega)) (show nI u < nI 3 from nI_lt hu (by omega))) rfl rfl (by decide) (Nat.le_of_ble_eq_true rfl) ?_
  refine v_iload_n dX3_spoolOf_4 rfl rfl ?_
  refine v_iconst (0) dX3_spoolOf_5 (by decide) ?_
  refine v_iconst (4) dX3_spoolOf_6 (by decide) ?_
  refine v_callS0p kX3_72 gs_X3_needRange dX3_spoolOf_7 (c_needRange (by decide) (by decide)) rfl rfl (by decide) (Nat.le_of_ble_eq_true rfl) ?_
  refine v_iload_n dX3_spoolOf_10 rfl rfl ?_
  refine v_tableIn 50 dX3_spoolOf_11 (by decide) (by decide) (off := 39) (by rfl) (by decide) ?_
  refine v_aload_n dX3_spoolOf_50 rfl rfl ?_
  refine v_getfield fX3_34 dX3_spoolOf_51 (by assumption) (by rfl) ?_
  refine v_getfield fX3_87 dX3_spoolOf_54 (by assumption) (by rfl) ?_
  refine v_iload_n dX3_spoolOf_57 rfl rfl ?_
  refine v_iaload dX3_spoolOf_58 (by assumption) (vp_in_nI hu (by omega)) ?_
  exact v_ireturn dX3_spoolOf_59 rfl ⟨by rw [nI_clamp (by omega), e2 u hu]; rfl, hL, zFr.refl⟩
set_option maxRecDepth 10000 in
set_option maxHeartbeats 1000000 in
theorem c_spoolOf_2 {G : zW} {f : zHM} {m : Nat × Nat} {o r tr sc tx sl sv k la n : Nat} {A : Nat → Nat} {ρ : zRS} {xs tm : Nat → Int32} (ho : f o = some (600, .inr (3, zOb r tr sc tx sl sv k))) (hr : RPic f 0 r la A ρ n xs tm) {N s : Nat} (hw : RW ρ N s n) {M : Nat × Nat} (hL : LNok f m la M) {u : Nat} (hu : u < 3) : zM G yX3_spoolOf cX3_spoolOf 3 (some .int) 7 [.ref o, .int (nI u), .int (nI 2)] (f, m) (zD (some (.int (sSpoolOf ρ s n u 2))) (fun f' m' => LNok f' m' la M ∧ zFr zT9 f f')) := by
  refine zM.of (by decide) (Nat.le_of_ble_eq_true rfl) ?_
  obtain ⟨r0, ⟨g1, a1, e1⟩, ⟨g2, a2, e2⟩, ⟨g3, a3, e3⟩, ⟨g4, a4, e4⟩, ⟨g5, a5, e5⟩, ⟨g6, a6, e6⟩, ⟨g7, a7, e7⟩, ⟨g8, a8, e8⟩, ⟨g9, a9, e9⟩, ⟨g10, a10, e10⟩⟩ := id hr
  refine v_iload_n dX3_spoolOf_0 rfl rfl ?_
  refine v_callS0p kX3_68 gs_X3_needSpool dX3_spoolOf_1 (c_needSpool (nI_pos (by omega)) (show nI u < nI 3 from nI_lt hu (by omega))) rfl rfl (by decide) (Nat.le_of_ble_eq_true rfl) ?_
  refine v_iload_n dX3_spoolOf_4 rfl rfl ?_
  refine v_iconst (0) dX3_spoolOf_5 (by decide) ?_
  refine v_iconst (4) dX3_spoolOf_6 (by decide) ?_
  refine v_callS0p kX3_72 gs_X3_needRange dX3_spoolOf_7 (c_needRange (by decide) (by decide)) rfl rfl (by decide) (Nat.le_of_ble_eq_true rfl) ?_
  refine v_iload_n dX3_spoolOf_10 rfl rfl ?_
  refine v_tableIn 60 dX3_spoolOf_11 (by decide) (by decide) (off := 49) (by rfl) (by decide) ?_
  refine v_aload_n dX3_spoolOf_60 rfl rfl ?_
  refine v_getfield fX3_34 dX3_spoolOf_61 (by assumption) (by rfl) ?_
  refine v_iload_n dX3_spoolOf_64 rfl rfl ?_
  refine v_callV1 kX3_201 gi_X1_threadLying ge_X1_threadLying rfl dX3_spoolOf_65 (by assumption) (c_threadLying hr (by omega) hw hL (nI u)) rfl rfl (by decide) (Nat.le_of_ble_eq_true rfl) (fun f m hc => ?_)
  exact v_ireturn dX3_spoolOf_68 rfl ⟨rfl, hc⟩
set_option maxRecDepth 10000 in
set_option maxHeartbeats 1000000 in
theorem c_spoolOf_3 {G : zW} {f : zHM} {m : Nat × Nat} {o r tr sc tx sl sv k la n : Nat} {A : Nat → Nat} {ρ : zRS} {xs tm : Nat → Int32} (ho : f o = some (600, .inr (3, zOb r tr sc tx sl sv k))) (hr : RPic f 0 r la A ρ n xs tm) {N s : Nat} (hw : RW ρ N s n) {M : Nat × Nat} (hL : LNok f m la M) {u : Nat} (hu : u < 3) : zM G yX3_spoolOf cX3_spoolOf 3 (some .int) 7 [.ref o, .int (nI u), .int (nI 3)] (f, m) (zD (some (.int (sSpoolOf ρ s n u 3))) (fun f' m' => LNok f' m' la M ∧ zFr zT9 f f')) := by
  refine zM.of (by decide) (Nat.le_of_ble_eq_true rfl) ?_
  obtain ⟨r0, ⟨g1, a1, e1⟩, ⟨g2, a2, e2⟩, ⟨g3, a3, e3⟩, ⟨g4, a4, e4⟩, ⟨g5, a5, e5⟩, ⟨g6, a6, e6⟩, ⟨g7, a7, e7⟩, ⟨g8, a8, e8⟩, ⟨g9, a9, e9⟩, ⟨g10, a10, e10⟩⟩ := id hr
  refine v_iload_n dX3_spoolOf_0 rfl rfl ?_
  refine v_callS0p kX3_68 gs_X3_needSpool dX3_spoolOf_1 (c_needSpool (nI_pos (by omega)) (show nI u < nI 3 from nI_lt hu (by omega))) rfl rfl (by decide) (Nat.le_of_ble_eq_true rfl) ?_
  refine v_iload_n dX3_spoolOf_4 rfl rfl ?_
  refine v_iconst (0) dX3_spoolOf_5 (by decide) ?_
  refine v_iconst (4) dX3_spoolOf_6 (by decide) ?_
  refine v_callS0p kX3_72 gs_X3_needRange dX3_spoolOf_7 (c_needRange (by decide) (by decide)) rfl rfl (by decide) (Nat.le_of_ble_eq_true rfl) ?_
  refine v_iload_n dX3_spoolOf_10 rfl rfl ?_
  refine v_tableIn 69 dX3_spoolOf_11 (by decide) (by decide) (off := 58) (by rfl) (by decide) ?_
  refine v_aload_n dX3_spoolOf_69 rfl rfl ?_
  refine v_getfield fX3_34 dX3_spoolOf_70 (by assumption) (by rfl) ?_
  refine v_iload_n dX3_spoolOf_73 rfl rfl ?_
  refine v_callVp kX3_79 gi_X1_chordsOf ge_X1_chordsOf rfl dX3_spoolOf_74 (by assumption) (c_chordsOf hr hw.2.1 (nI u)) rfl rfl (by decide) (Nat.le_of_ble_eq_true rfl) ?_
  exact v_ireturn dX3_spoolOf_77 rfl ⟨rfl, hL, zFr.refl⟩
set_option maxRecDepth 10000 in
set_option maxHeartbeats 1000000 in
theorem c_spoolOf_4 {G : zW} {f : zHM} {m : Nat × Nat} {o r tr sc tx sl sv k la n : Nat} {A : Nat → Nat} {ρ : zRS} {xs tm : Nat → Int32} (ho : f o = some (600, .inr (3, zOb r tr sc tx sl sv k))) (hr : RPic f 0 r la A ρ n xs tm) {N s : Nat} (hw : RW ρ N s n) {M : Nat × Nat} (hL : LNok f m la M) {u : Nat} (hu : u < 3) : zM G yX3_spoolOf cX3_spoolOf 3 (some .int) 7 [.ref o, .int (nI u), .int (nI 4)] (f, m) (zD (some (.int (sSpoolOf ρ s n u 4))) (fun f' m' => LNok f' m' la M ∧ zFr zT9 f f')) := by
  refine zM.of (by decide) (Nat.le_of_ble_eq_true rfl) ?_
  obtain ⟨r0, ⟨g1, a1, e1⟩, ⟨g2, a2, e2⟩, ⟨g3, a3, e3⟩, ⟨g4, a4, e4⟩, ⟨g5, a5, e5⟩, ⟨g6, a6, e6⟩, ⟨g7, a7, e7⟩, ⟨g8, a8, e8⟩, ⟨g9, a9, e9⟩, ⟨g10, a10, e10⟩⟩ := id hr
  refine v_iload_n dX3_spoolOf_0 rfl rfl ?_
  refine v_callS0p kX3_68 gs_X3_needSpool dX3_spoolOf_1 (c_needSpool (nI_pos (by omega)) (show nI u < nI 3 from nI_lt hu (by omega))) rfl rfl (by decide) (Nat.le_of_ble_eq_true rfl) ?_
  refine v_iload_n dX3_spoolOf_4 rfl rfl ?_
  refine v_iconst (0) dX3_spoolOf_5 (by decide) ?_
  refine v_iconst (4) dX3_spoolOf_6 (by decide) ?_
  refine v_callS0p kX3_72 gs_X3_needRange dX3_spoolOf_7 (c_needRange (by decide) (by decide)) rfl rfl (by decide) (Nat.le_of_ble_eq_true rfl) ?_
  refine v_iload_n dX3_spoolOf_10 rfl rfl ?_
  refine v_tableOut 78 dX3_spoolOf_11 (Or.inr (by decide)) (by decide) ?_
  refine v_iload_n dX3_spoolOf_78 rfl rfl ?_
  refine v_aload_n dX3_spoolOf_79 rfl rfl ?_
  refine v_getfield fX3_34 dX3_spoolOf_80 (by assumption) (by rfl) ?_
  refine v_getfield fX3_76 dX3_spoolOf_83 (by assumption) (by rfl) ?_
  refine v_icmp_ne 93 dX3_spoolOf_86 (by decide) (fun b86 => ?_) (fun b86 => ?_)
  · refine v_iconst (0) dX3_spoolOf_93 (by decide) ?_
    exact v_ireturn dX3_spoolOf_94 rfl ⟨by rw [show sSpoolOf ρ s n u 4 = 0 from if_neg b86], hL, zFr.refl⟩
  · refine v_iconst (1) dX3_spoolOf_89 (by decide) ?_
    refine v_goto 94 dX3_spoolOf_90 (by decide) ?_
    exact v_ireturn dX3_spoolOf_94 rfl ⟨by rw [show sSpoolOf ρ s n u 4 = 1 from if_pos b86], hL, zFr.refl⟩
theorem c_spoolOf {G : zW} {f : zHM} {m : Nat × Nat} {o r tr sc tx sl sv k la n : Nat} {A : Nat → Nat} {ρ : zRS} {xs tm : Nat → Int32} (ho : f o = some (600, .inr (3, zOb r tr sc tx sl sv k))) (hr : RPic f 0 r la A ρ n xs tm) {N s : Nat} (hw : RW ρ N s n) {M : Nat × Nat} (hL : LNok f m la M) {u w : Nat} (hu : u < 3) (hw4 : w ≤ 4) : zM G yX3_spoolOf cX3_spoolOf 3 (some .int) 7 [.ref o, .int (nI u), .int (nI w)] (f, m) (zD (some (.int (sSpoolOf ρ s n u w))) (fun f' m' => LNok f' m' la M ∧ zFr zT9 f f')) := by
  match w, hw4 with
  | 0, _ => exact c_spoolOf_0 ho hr hw hL hu
  | 1, _ => exact c_spoolOf_1 ho hr hw hL hu
  | 2, _ => exact c_spoolOf_2 ho hr hw hL hu
  | 3, _ => exact c_spoolOf_3 ho hr hw hL hu
  | 4, _ => exact c_spoolOf_4 ho hr hw hL hu
set_option maxRecDepth 10000 in
set_option maxHeartbeats 1000000 in
theorem c_setting {G : zW} {f : zHM} {m : Nat × Nat} {o r tr sc tx sl sv k la n : Nat} {A : Nat → Nat} {ρ : zRS} {xs tm : Nat → Int32} (ho : f o = some (600, .inr (3, zOb r tr sc tx sl sv k))) (hr : RPic f 0 r la A ρ n xs tm) {u : Nat} (hu : u < 3) : zM G yX3_setting cX3_setting 2 (some .int) 7 [.ref o, .int (nI u)] (f, m) (zS (.int (ρ 3 u)) f m) := by
  refine zM.of (by decide) (Nat.le_of_ble_eq_true rfl) ?_
  obtain ⟨r0, ⟨g1, a1, e1⟩, ⟨g2, a2, e2⟩, ⟨g3, a3, e3⟩, ⟨g4, a4, e4⟩, ⟨g5, a5, e5⟩, ⟨g6, a6, e6⟩, ⟨g7, a7, e7⟩, ⟨g8, a8, e8⟩, ⟨g9, a9, e9⟩, ⟨g10, a10, e10⟩⟩ := id hr
  refine v_iload_n dX3_setting_0 rfl rfl ?_
  refine v_callS0p kX3_98 gs_X3_needSetting dX3_setting_1 (c_needSetting (nI_pos (by omega)) (show nI u < nI 3 from nI_lt hu (by omega))) rfl rfl (by decide) (Nat.le_of_ble_eq_true rfl) ?_
  refine v_aload_n dX3_setting_4 rfl rfl ?_
  refine v_getfield fX3_34 dX3_setting_5 (by assumption) (by rfl) ?_
  refine v_getfield fX3_104 dX3_setting_8 (by assumption) (by rfl) ?_
  refine v_iload_n dX3_setting_11 rfl rfl ?_
  refine v_iaload dX3_setting_12 (by assumption) (vp_in_nI hu (by omega)) ?_
  exact v_ireturn dX3_setting_13 rfl ⟨by rw [nI_clamp (by omega), e3 u hu], rfl, rfl⟩
set_option maxRecDepth 10000 in
set_option maxHeartbeats 1000000 in
theorem c_whyNot {G : zW} {f : zHM} {m : Nat × Nat} {o r tr sc tx sl sv k la n : Nat} {A : Nat → Nat} {ρ : zRS} {xs tm : Nat → Int32} (ho : f o = some (600, .inr (3, zOb r tr sc tx sl sv k))) (hr : RPic f 0 r la A ρ n xs tm) {N s : Nat} (hv : RV ρ N s) {M : Nat × Nat} (hL : LNok f m la M) {a u : Nat} (ha : a < N) (hu : u < 3) (hat : ρ 0 1 = nI a) (hnow : ρ 0 2 = nI u) {b : Nat} (hb : b < N) : zM G yX3_whyNot cX3_whyNot 2 (some .int) 7 [.ref o, .int (nI b)] (f, m) (zD (some (.int (sRef N s (ρ 3 0) (ρ 3 1) (ρ 2 u) tm a b))) (fun f' m' => LNok f' m' la M ∧ zFr zT9 f f')) := by
  refine zM.of (by decide) (Nat.le_of_ble_eq_true rfl) ?_
  have hv9 := hv.pos
  have r0 := hr.1
  refine v_aload_n dX3_whyNot_0 rfl rfl ?_
  refine v_iload_n dX3_whyNot_1 rfl rfl ?_
  refine v_callV0p kX3_107 gi_X3_needNail ge_X3_needNail rfl dX3_whyNot_2 (by assumption) (c_needNail ho hr.1 (nI_pos (by omega)) (by rw [hv.1]; exact nI_lt hb (by omega))) rfl rfl (by decide) (Nat.le_of_ble_eq_true rfl) ?_
  refine v_aload_n dX3_whyNot_5 rfl rfl ?_
  refine v_getfield fX3_34 dX3_whyNot_6 (by assumption) (by rfl) ?_
  refine v_iload_n dX3_whyNot_9 rfl rfl ?_
  refine v_callV1 kX3_115 gi_X1_refusal ge_X1_refusal rfl dX3_whyNot_10 (by assumption) (c_refusal hr (by omega) hv hL ha hb hu hat hnow) rfl rfl (by decide) (Nat.le_of_ble_eq_true rfl) (fun f m hc => ?_)
  exact v_ireturn dX3_whyNot_13 rfl ⟨rfl, hc⟩
def sGain9 (ρ : zRS) (s u a b : Nat) : Int32 := if b = a then -1 else sGain ρ s (ρ 1 u) a b + 10000
set_option maxRecDepth 10000 in
set_option maxHeartbeats 1000000 in
theorem c_gain {G : zW} {f : zHM} {m : Nat × Nat} {o r tr sc tx sl sv k la n : Nat} {A : Nat → Nat} {ρ : zRS} {xs tm : Nat → Int32} (ho : f o = some (600, .inr (3, zOb r tr sc tx sl sv k))) (hr : RPic f 0 r la A ρ n xs tm) {N s : Nat} (hv : RV ρ N s) {M : Nat × Nat} (hL : LNok f m la M) {a u : Nat} (ha : a < N) (hu : u < 3) (hat : ρ 0 1 = nI a) (hnow : ρ 0 2 = nI u) {b : Nat} (hb : b < N) : zM G yX3_gain cX3_gain 2 (some .int) 7 [.ref o, .int (nI b)] (f, m) (zD (some (.int (sGain9 ρ s u a b))) (fun f' m' => LNok f' m' la M ∧ zFr zT9 f f')) := by
  refine zM.of (by decide) (Nat.le_of_ble_eq_true rfl) ?_
  have hv9 := hv.pos
  have r0 := hr.1
  refine v_aload_n dX3_gain_0 rfl rfl ?_
  refine v_iload_n dX3_gain_1 rfl rfl ?_
  refine v_callV0p kX3_107 gi_X3_needNail ge_X3_needNail rfl dX3_gain_2 (by assumption) (c_needNail ho hr.1 (nI_pos (by omega)) (by rw [hv.1]; exact nI_lt hb (by omega))) rfl rfl (by decide) (Nat.le_of_ble_eq_true rfl) ?_
  refine v_iload_n dX3_gain_5 rfl rfl ?_
  refine v_aload_n dX3_gain_6 rfl rfl ?_
  refine v_getfield fX3_34 dX3_gain_7 (by assumption) (by rfl) ?_
  refine v_getfield fX3_65 dX3_gain_10 (by assumption) (by rfl) ?_
  rw [hat]
  refine v_icmp_ne 20 dX3_gain_13 (by decide) (fun b13 => ?_) (fun b13 => ?_)
  · have hne : a ≠ b := fun e => b13 (by rw [e])
    refine v_aload_n dX3_gain_20 rfl rfl ?_
    refine v_getfield fX3_34 dX3_gain_21 (by assumption) (by rfl) ?_
    refine v_iload_n dX3_gain_24 rfl rfl ?_
    refine v_callV1 kX3_136 gi_X1_gainTo ge_X1_gainTo rfl dX3_gain_25 (by assumption) (c_gainTo hr (by omega) hv hL ha hb hne hu hat hnow) rfl rfl (by decide) (Nat.le_of_ble_eq_true rfl) (fun f m hc => ?_)
    refine v_sipush (10000) dX3_gain_28 (by decide) ?_
    refine v_iadd dX3_gain_31 ?_
    exact v_ireturn dX3_gain_32 rfl ⟨by rw [show sGain9 ρ s u a b = sGain ρ s (ρ 1 u) a b + 10000 from if_neg (fun e => hne e.symm)], hc⟩
  · have hne : b = a := (nI_eq (by omega) (by omega)).mp b13
    refine v_iconst (-1) dX3_gain_16 (by decide) ?_
    refine v_goto 32 dX3_gain_17 (by decide) ?_
    exact v_ireturn dX3_gain_32 rfl ⟨by rw [show sGain9 ρ s u a b = -1 from if_pos hne], hL, zFr.refl⟩
set_option maxRecDepth 10000 in
set_option maxHeartbeats 1000000 in
theorem c_best {G : zW} {f : zHM} {m : Nat × Nat} {o r tr sc tx sl sv k la n : Nat} {A : Nat → Nat} {ρ : zRS} {xs tm : Nat → Int32} (ho : f o = some (600, .inr (3, zOb r tr sc tx sl sv k))) (hr : RPic f 0 r la A ρ n xs tm) {N s : Nat} (hv : RV ρ N s) {M : Nat × Nat} (hL : LNok f m la M) {a u : Nat} (ha : a < N) (hu : u < 3) (hat : ρ 0 1 = nI a) (hnow : ρ 0 2 = nI u) : zM G yX3_best cX3_best 1 (some .int) 6 [.ref o] (f, m) (zD (some (.int (sBest ρ N s tm a u))) (fun f' m' => LNok f' m' la M ∧ zFr zT9 f f')) := by
  refine zM.of (by decide) (Nat.le_of_ble_eq_true rfl) ?_
  have r0 := hr.1
  refine v_aload_n dX3_best_0 rfl rfl ?_
  refine v_getfield fX3_34 dX3_best_1 (by assumption) (by rfl) ?_
  refine v_callV1 kX3_132 gi_X1_bestNail ge_X1_bestNail rfl dX3_best_4 (by assumption) (c_bestNail hr (by omega) hv hL ha hu hat hnow) rfl rfl (by decide) (Nat.le_of_ble_eq_true rfl) (fun f m hc => ?_)
  exact v_ireturn dX3_best_7 rfl ⟨rfl, hc⟩
end
section
def sCount (ρ : zRS) (s n k : Nat) : Nat → Int32
  | 0 => ρ 0 0
  | 1 => ρ 0 1
  | 2 => ρ 0 2
  | 3 => nI n
  | 4 => ρ 0 3
  | 5 => ρ 0 4
  | 6 => ρ 0 5
  | 7 => sMisfit ρ
  | 8 => (sMG ρ s n).1
  | 9 => sThat ρ 1
  | 10 => sThat ρ (-1)
  | 11 => sThr ρ s n 0 + sThr ρ s n 1 + sThr ρ s n 2
  | _ => nI k
abbrev zT96 : Nat → Prop := fun τ => τ = 950 ∨ τ = 601
def sPal (ρ : zRS) : Nat → Int32 × Int32
  | 0 => (-1, 0)
  | q + 1 => if sLack ρ q ≤ (sPal ρ q).2 then sPal ρ q else (nI (100 * (q / 12) + q % 12), sLack ρ q)
set_option maxRecDepth 10000 in
set_option maxHeartbeats 1000000 in
theorem c_wound_0 {G : zW} {f : zHM} {m : Nat × Nat} {o r tr sc tx sl sv k la n : Nat} {A : Nat → Nat} {ρ : zRS} {xs tm : Nat → Int32} (ho : f o = some (600, .inr (3, zOb r tr sc tx sl sv k))) (hr : RPic f 0 r la A ρ n xs tm) (hn201 : n ≤ 201) {g : Nat} (hg : g < 2 ^ 31) : zM G yX3_wound cX3_wound 4 (some .int) 7 [.ref o, .int (nI g), .int (nI 0)] (f, m) (zS (.int (sWound ρ n g 0)) f m) := by
  refine zM.of (by decide) (Nat.le_of_ble_eq_true rfl) ?_
  obtain ⟨r0, ⟨g1, a1, e1⟩, ⟨g2, a2, e2⟩, ⟨g3, a3, e3⟩, ⟨g4, a4, e4⟩, ⟨g5, a5, e5⟩, ⟨g6, a6, e6⟩, ⟨g7, a7, e7⟩, ⟨g8, a8, e8⟩, ⟨g9, a9, e9⟩, ⟨g10, a10, e10⟩⟩ := id hr
  refine v_iload_n dX3_wound_0 rfl rfl ?_
  refine v_if_ge 14 dX3_wound_1 (by decide) (fun b1 => ?_) (fun b1 => ?_)
  · refine v_iload_n dX3_wound_14 rfl rfl ?_
    refine v_iconst (0) dX3_wound_15 (by decide) ?_
    refine v_iconst (2) dX3_wound_16 (by decide) ?_
    refine v_callS0p kX3_72 gs_X3_needRange dX3_wound_17 (c_needRange (by decide) (by decide)) rfl rfl (by decide) (Nat.le_of_ble_eq_true rfl) ?_
    refine v_iload_n dX3_wound_20 rfl rfl ?_
    refine v_aload_n dX3_wound_21 rfl rfl ?_
    refine v_getfield fX3_34 dX3_wound_22 (by assumption) (by rfl) ?_
    refine v_getfield fX3_110 dX3_wound_25 (by assumption) (by rfl) ?_
    refine v_icmp_lt 33 dX3_wound_28 (by decide) (fun b28 => ?_) (fun b28 => ?_)
    · rw [nI_ltI (by omega) (by omega)] at b28
      refine v_aload_n dX3_wound_33 rfl rfl ?_
      refine v_getfield fX3_34 dX3_wound_34 (by assumption) (by rfl) ?_
      refine v_getfield fX3_110 dX3_wound_37 (by assumption) (by rfl) ?_
      refine v_iconst (nI 1) dX3_wound_40 (by decide) ?_
      refine v_isub dX3_wound_41 ?_
      rw [pk_sub (by omega)]
      refine v_iload_n dX3_wound_42 rfl rfl ?_
      refine v_isub dX3_wound_43 ?_
      rw [pk_sub (by omega)]
      refine v_istore_n dX3_wound_44 rfl (by decide) ?_
      refine v_iload_n dX3_wound_45 rfl rfl ?_
      refine v_lookup 72 dX3_wound_46 (by decide) (off := 26) (by decide) (by decide) ?_
      refine v_aload_n dX3_wound_72 rfl rfl ?_
      refine v_getfield fX3_34 dX3_wound_73 (by assumption) (by rfl) ?_
      refine v_getfield fX3_218 dX3_wound_76 (by assumption) (by rfl) ?_
      refine v_iload_n dX3_wound_79 rfl rfl ?_
      refine v_iaload dX3_wound_80 (by assumption) (vp_in_nI (by omega) (by omega)) ?_
      exact v_ireturn dX3_wound_81 rfl ⟨by rw [nI_clamp (by omega), e4 _ (by omega), show sWound ρ n g 0 = ρ 4 (n - 1 - g) from if_neg (by omega)], rfl, rfl⟩
    · rw [nI_ltI (by omega) (by omega)] at b28
      refine v_iconst (-1) dX3_wound_31 (by decide) ?_
      exact v_ireturn dX3_wound_32 rfl ⟨by rw [show sWound ρ n g 0 = -1 from if_pos (by omega)], rfl, rfl⟩
  · exact absurd (nI_pos' (by omega)) b1
set_option maxRecDepth 10000 in
set_option maxHeartbeats 1000000 in
theorem c_wound_1 {G : zW} {f : zHM} {m : Nat × Nat} {o r tr sc tx sl sv k la n : Nat} {A : Nat → Nat} {ρ : zRS} {xs tm : Nat → Int32} (ho : f o = some (600, .inr (3, zOb r tr sc tx sl sv k))) (hr : RPic f 0 r la A ρ n xs tm) (hn201 : n ≤ 201) {g : Nat} (hg : g < 2 ^ 31) : zM G yX3_wound cX3_wound 4 (some .int) 7 [.ref o, .int (nI g), .int (nI 1)] (f, m) (zS (.int (sWound ρ n g 1)) f m) := by
  refine zM.of (by decide) (Nat.le_of_ble_eq_true rfl) ?_
  obtain ⟨r0, ⟨g1, a1, e1⟩, ⟨g2, a2, e2⟩, ⟨g3, a3, e3⟩, ⟨g4, a4, e4⟩, ⟨g5, a5, e5⟩, ⟨g6, a6, e6⟩, ⟨g7, a7, e7⟩, ⟨g8, a8, e8⟩, ⟨g9, a9, e9⟩, ⟨g10, a10, e10⟩⟩ := id hr
  refine v_iload_n dX3_wound_0 rfl rfl ?_
  refine v_if_ge 14 dX3_wound_1 (by decide) (fun b1 => ?_) (fun b1 => ?_)
  · refine v_iload_n dX3_wound_14 rfl rfl ?_
    refine v_iconst (0) dX3_wound_15 (by decide) ?_
    refine v_iconst (2) dX3_wound_16 (by decide) ?_
    refine v_callS0p kX3_72 gs_X3_needRange dX3_wound_17 (c_needRange (by decide) (by decide)) rfl rfl (by decide) (Nat.le_of_ble_eq_true rfl) ?_
    refine v_iload_n dX3_wound_20 rfl rfl ?_
    refine v_aload_n dX3_wound_21 rfl rfl ?_
    refine v_getfield fX3_34 dX3_wound_22 (by assumption) (by rfl) ?_
    refine v_getfield fX3_110 dX3_wound_25 (by assumption) (by rfl) ?_
    refine v_icmp_lt 33 dX3_wound_28 (by decide) (fun b28 => ?_) (fun b28 => ?_)
    · rw [nI_ltI (by omega) (by omega)] at b28
      refine v_aload_n dX3_wound_33 rfl rfl ?_
      refine v_getfield fX3_34 dX3_wound_34 (by assumption) (by rfl) ?_
      refine v_getfield fX3_110 dX3_wound_37 (by assumption) (by rfl) ?_
      refine v_iconst (nI 1) dX3_wound_40 (by decide) ?_
      refine v_isub dX3_wound_41 ?_
      rw [pk_sub (by omega)]
      refine v_iload_n dX3_wound_42 rfl rfl ?_
      refine v_isub dX3_wound_43 ?_
      rw [pk_sub (by omega)]
      refine v_istore_n dX3_wound_44 rfl (by decide) ?_
      refine v_iload_n dX3_wound_45 rfl rfl ?_
      refine v_lookup 82 dX3_wound_46 (by decide) (off := 36) (by decide) (by decide) ?_
      refine v_aload_n dX3_wound_82 rfl rfl ?_
      refine v_getfield fX3_34 dX3_wound_83 (by assumption) (by rfl) ?_
      refine v_getfield fX3_221 dX3_wound_86 (by assumption) (by rfl) ?_
      refine v_iload_n dX3_wound_89 rfl rfl ?_
      refine v_iaload dX3_wound_90 (by assumption) (vp_in_nI (by omega) (by omega)) ?_
      exact v_ireturn dX3_wound_91 rfl ⟨by rw [nI_clamp (by omega), e5 _ (by omega), show sWound ρ n g 1 = ρ 5 (n - 1 - g) from if_neg (by omega)], rfl, rfl⟩
    · rw [nI_ltI (by omega) (by omega)] at b28
      refine v_iconst (-1) dX3_wound_31 (by decide) ?_
      exact v_ireturn dX3_wound_32 rfl ⟨by rw [show sWound ρ n g 1 = -1 from if_pos (by omega)], rfl, rfl⟩
  · exact absurd (nI_pos' (by omega)) b1
set_option maxRecDepth 10000 in
set_option maxHeartbeats 1000000 in
theorem c_wound_2 {G : zW} {f : zHM} {m : Nat × Nat} {o r tr sc tx sl sv k la n : Nat} {A : Nat → Nat} {ρ : zRS} {xs tm : Nat → Int32} (ho : f o = some (600, .inr (3, zOb r tr sc tx sl sv k))) (hr : RPic f 0 r la A ρ n xs tm) (hn201 : n ≤ 201) {g : Nat} (hg : g < 2 ^ 31) : zM G yX3_wound cX3_wound 4 (some .int) 7 [.ref o, .int (nI g), .int (nI 2)] (f, m) (zS (.int (sWound ρ n g 2)) f m) := by
  refine zM.of (by decide) (Nat.le_of_ble_eq_true rfl) ?_
  obtain ⟨r0, ⟨g1, a1, e1⟩, ⟨g2, a2, e2⟩, ⟨g3, a3, e3⟩, ⟨g4, a4, e4⟩, ⟨g5, a5, e5⟩, ⟨g6, a6, e6⟩, ⟨g7, a7, e7⟩, ⟨g8, a8, e8⟩, ⟨g9, a9, e9⟩, ⟨g10, a10, e10⟩⟩ := id hr
  refine v_iload_n dX3_wound_0 rfl rfl ?_
  refine v_if_ge 14 dX3_wound_1 (by decide) (fun b1 => ?_) (fun b1 => ?_)
  · refine v_iload_n dX3_wound_14 rfl rfl ?_
    refine v_iconst (0) dX3_wound_15 (by decide) ?_
    refine v_iconst (2) dX3_wound_16 (by decide) ?_
    refine v_callS0p kX3_72 gs_X3_needRange dX3_wound_17 (c_needRange (by decide) (by decide)) rfl rfl (by decide) (Nat.le_of_ble_eq_true rfl) ?_
    refine v_iload_n dX3_wound_20 rfl rfl ?_
    refine v_aload_n dX3_wound_21 rfl rfl ?_
    refine v_getfield fX3_34 dX3_wound_22 (by assumption) (by rfl) ?_
    refine v_getfield fX3_110 dX3_wound_25 (by assumption) (by rfl) ?_
    refine v_icmp_lt 33 dX3_wound_28 (by decide) (fun b28 => ?_) (fun b28 => ?_)
    · rw [nI_ltI (by omega) (by omega)] at b28
      refine v_aload_n dX3_wound_33 rfl rfl ?_
      refine v_getfield fX3_34 dX3_wound_34 (by assumption) (by rfl) ?_
      refine v_getfield fX3_110 dX3_wound_37 (by assumption) (by rfl) ?_
      refine v_iconst (nI 1) dX3_wound_40 (by decide) ?_
      refine v_isub dX3_wound_41 ?_
      rw [pk_sub (by omega)]
      refine v_iload_n dX3_wound_42 rfl rfl ?_
      refine v_isub dX3_wound_43 ?_
      rw [pk_sub (by omega)]
      refine v_istore_n dX3_wound_44 rfl (by decide) ?_
      refine v_iload_n dX3_wound_45 rfl rfl ?_
      refine v_lookup 92 dX3_wound_46 (by decide) (off := 46) (by decide) (by decide) ?_
      refine v_aload_n dX3_wound_92 rfl rfl ?_
      refine v_getfield fX3_34 dX3_wound_93 (by assumption) (by rfl) ?_
      refine v_getfield fX3_224 dX3_wound_96 (by assumption) (by rfl) ?_
      refine v_iload_n dX3_wound_99 rfl rfl ?_
      refine v_iaload dX3_wound_100 (by assumption) (vp_in_nI (by omega) (by omega)) ?_
      exact v_ireturn dX3_wound_101 rfl ⟨by rw [nI_clamp (by omega), e6 _ (by omega), show sWound ρ n g 2 = ρ 6 (n - 1 - g) from if_neg (by omega)], rfl, rfl⟩
    · rw [nI_ltI (by omega) (by omega)] at b28
      refine v_iconst (-1) dX3_wound_31 (by decide) ?_
      exact v_ireturn dX3_wound_32 rfl ⟨by rw [show sWound ρ n g 2 = -1 from if_pos (by omega)], rfl, rfl⟩
  · exact absurd (nI_pos' (by omega)) b1
theorem c_wound {G : zW} {f : zHM} {m : Nat × Nat} {o r tr sc tx sl sv k la n : Nat} {A : Nat → Nat} {ρ : zRS} {xs tm : Nat → Int32} (ho : f o = some (600, .inr (3, zOb r tr sc tx sl sv k))) (hr : RPic f 0 r la A ρ n xs tm) (hn201 : n ≤ 201) {g w : Nat} (hg : g < 2 ^ 31) (hw4 : w ≤ 2) : zM G yX3_wound cX3_wound 4 (some .int) 7 [.ref o, .int (nI g), .int (nI w)] (f, m) (zS (.int (sWound ρ n g w)) f m) := by
  match w, hw4 with
  | 0, _ => exact c_wound_0 ho hr hn201 hg
  | 1, _ => exact c_wound_1 ho hr hn201 hg
  | 2, _ => exact c_wound_2 ho hr hn201 hg
set_option maxRecDepth 10000 in
set_option maxHeartbeats 1000000 in
theorem c_square_0 {G : zW} {f : zHM} {m : Nat × Nat} {o r tr sc tx sl sv k la n : Nat} {A : Nat → Nat} {ρ : zRS} {xs tm : Nat → Int32} (ho : f o = some (600, .inr (3, zOb r tr sc tx sl sv k))) (hr : RPic f 0 r la A ρ n xs tm) {x z : Nat} (hx : x < 12) (hz : z < 12) : zM G yX3_square cX3_square 5 (some .int) 7 [.ref o, .int (nI x), .int (nI z), .int (nI 0)] (f, m) (zS (.int (sSquare ρ xs (z * 12 + x) 0)) f m) := by
  refine zM.of (by decide) (Nat.le_of_ble_eq_true rfl) ?_
  have hq : z * 12 + x < 144 := by omega
  obtain ⟨r0, ⟨g1, a1, e1⟩, ⟨g2, a2, e2⟩, ⟨g3, a3, e3⟩, ⟨g4, a4, e4⟩, ⟨g5, a5, e5⟩, ⟨g6, a6, e6⟩, ⟨g7, a7, e7⟩, ⟨g8, a8, e8⟩, ⟨g9, a9, e9⟩, ⟨g10, a10, e10⟩⟩ := id hr
  refine v_iload_n dX3_square_0 rfl rfl ?_
  refine v_iload_n dX3_square_1 rfl rfl ?_
  refine v_callS0p kX3_139 gs_X3_needSquare dX3_square_2 (c_needSquare (nI_pos (by omega)) (show ¬ nI 12 ≤ nI x from nI_ge hx (by omega)) (nI_pos (by omega)) (show nI z < nI 12 from nI_lt hz (by omega))) rfl rfl (by decide) (Nat.le_of_ble_eq_true rfl) ?_
  refine v_iload_n dX3_square_5 rfl rfl ?_
  refine v_iconst (0) dX3_square_6 (by decide) ?_
  refine v_iconst (3) dX3_square_7 (by decide) ?_
  refine v_callS0p kX3_72 gs_X3_needRange dX3_square_8 (c_needRange (by decide) (by decide)) rfl rfl (by decide) (Nat.le_of_ble_eq_true rfl) ?_
  refine v_iload_n dX3_square_11 rfl rfl ?_
  refine v_bipush (nI 12) dX3_square_12 (by decide) ?_
  refine v_imul dX3_square_14 ?_
  rw [pk_mul]
  refine v_iload_n dX3_square_15 rfl rfl ?_
  refine v_iadd dX3_square_16 ?_
  rw [nI_add]
  refine v_istore dX3_square_17 (by decide) ?_
  refine v_iload_n dX3_square_19 rfl rfl ?_
  refine v_tableIn 48 dX3_square_20 (by decide) (by decide) (off := 28) (by rfl) (by decide) ?_
  refine v_aload_n dX3_square_48 rfl rfl ?_
  refine v_getfield fX3_34 dX3_square_49 (by assumption) (by rfl) ?_
  refine v_getfield fX3_143 dX3_square_52 (by assumption) (by rfl) ?_
  refine v_iload dX3_square_55 rfl ?_
  refine v_iaload dX3_square_57 (by assumption) (vp_in_nI hq (by omega)) ?_
  exact v_ireturn dX3_square_58 rfl ⟨by rw [nI_clamp (by omega), e7 _ hq]; rfl, rfl, rfl⟩
set_option maxRecDepth 10000 in
set_option maxHeartbeats 1000000 in
theorem c_square_1 {G : zW} {f : zHM} {m : Nat × Nat} {o r tr sc tx sl sv k la n : Nat} {A : Nat → Nat} {ρ : zRS} {xs tm : Nat → Int32} (ho : f o = some (600, .inr (3, zOb r tr sc tx sl sv k))) (hr : RPic f 0 r la A ρ n xs tm) {x z : Nat} (hx : x < 12) (hz : z < 12) : zM G yX3_square cX3_square 5 (some .int) 7 [.ref o, .int (nI x), .int (nI z), .int (nI 1)] (f, m) (zS (.int (sSquare ρ xs (z * 12 + x) 1)) f m) := by
  refine zM.of (by decide) (Nat.le_of_ble_eq_true rfl) ?_
  have hq : z * 12 + x < 144 := by omega
  obtain ⟨r0, ⟨g1, a1, e1⟩, ⟨g2, a2, e2⟩, ⟨g3, a3, e3⟩, ⟨g4, a4, e4⟩, ⟨g5, a5, e5⟩, ⟨g6, a6, e6⟩, ⟨g7, a7, e7⟩, ⟨g8, a8, e8⟩, ⟨g9, a9, e9⟩, ⟨g10, a10, e10⟩⟩ := id hr
  refine v_iload_n dX3_square_0 rfl rfl ?_
  refine v_iload_n dX3_square_1 rfl rfl ?_
  refine v_callS0p kX3_139 gs_X3_needSquare dX3_square_2 (c_needSquare (nI_pos (by omega)) (show ¬ nI 12 ≤ nI x from nI_ge hx (by omega)) (nI_pos (by omega)) (show nI z < nI 12 from nI_lt hz (by omega))) rfl rfl (by decide) (Nat.le_of_ble_eq_true rfl) ?_
  refine v_iload_n dX3_square_5 rfl rfl ?_
  refine v_iconst (0) dX3_square_6 (by decide) ?_
  refine v_iconst (3) dX3_square_7 (by decide) ?_
  refine v_callS0p kX3_72 gs_X3_needRange dX3_square_8 (c_needRange (by decide) (by decide)) rfl rfl (by decide) (Nat.le_of_ble_eq_true rfl) ?_
  refine v_iload_n dX3_square_11 rfl rfl ?_
  refine v_bipush (nI 12) dX3_square_12 (by decide) ?_
  refine v_imul dX3_square_14 ?_
  rw [pk_mul]
  refine v_iload_n dX3_square_15 rfl rfl ?_
  refine v_iadd dX3_square_16 ?_
  rw [nI_add]
  refine v_istore dX3_square_17 (by decide) ?_
  refine v_iload_n dX3_square_19 rfl rfl ?_
  refine v_tableIn 59 dX3_square_20 (by decide) (by decide) (off := 39) (by rfl) (by decide) ?_
  refine v_aload_n dX3_square_59 rfl rfl ?_
  refine v_getfield fX3_34 dX3_square_60 (by assumption) (by rfl) ?_
  refine v_getfield fX3_227 dX3_square_63 (by assumption) (by rfl) ?_
  refine v_iload dX3_square_66 rfl ?_
  refine v_iaload dX3_square_68 (by assumption) (vp_in_nI hq (by omega)) ?_
  exact v_ireturn dX3_square_69 rfl ⟨by rw [nI_clamp (by omega), e8 _ hq]; rfl, rfl, rfl⟩
set_option maxRecDepth 10000 in
set_option maxHeartbeats 1000000 in
theorem c_square_2 {G : zW} {f : zHM} {m : Nat × Nat} {o r tr sc tx sl sv k la n : Nat} {A : Nat → Nat} {ρ : zRS} {xs tm : Nat → Int32} (ho : f o = some (600, .inr (3, zOb r tr sc tx sl sv k))) (hr : RPic f 0 r la A ρ n xs tm) {x z : Nat} (hx : x < 12) (hz : z < 12) : zM G yX3_square cX3_square 5 (some .int) 7 [.ref o, .int (nI x), .int (nI z), .int (nI 2)] (f, m) (zS (.int (sSquare ρ xs (z * 12 + x) 2)) f m) := by
  refine zM.of (by decide) (Nat.le_of_ble_eq_true rfl) ?_
  have hq : z * 12 + x < 144 := by omega
  obtain ⟨r0, ⟨g1, a1, e1⟩, ⟨g2, a2, e2⟩, ⟨g3, a3, e3⟩, ⟨g4, a4, e4⟩, ⟨g5, a5, e5⟩, ⟨g6, a6, e6⟩, ⟨g7, a7, e7⟩, ⟨g8, a8, e8⟩, ⟨g9, a9, e9⟩, ⟨g10, a10, e10⟩⟩ := id hr
  refine v_iload_n dX3_square_0 rfl rfl ?_
  refine v_iload_n dX3_square_1 rfl rfl ?_
  refine v_callS0p kX3_139 gs_X3_needSquare dX3_square_2 (c_needSquare (nI_pos (by omega)) (show ¬ nI 12 ≤ nI x from nI_ge hx (by omega)) (nI_pos (by omega)) (show nI z < nI 12 from nI_lt hz (by omega))) rfl rfl (by decide) (Nat.le_of_ble_eq_true rfl) ?_
  refine v_iload_n dX3_square_5 rfl rfl ?_
  refine v_iconst (0) dX3_square_6 (by decide) ?_
  refine v_iconst (3) dX3_square_7 (by decide) ?_
  refine v_callS0p kX3_72 gs_X3_needRange dX3_square_8 (c_needRange (by decide) (by decide)) rfl rfl (by decide) (Nat.le_of_ble_eq_true rfl) ?_
  refine v_iload_n dX3_square_11 rfl rfl ?_
  refine v_bipush (nI 12) dX3_square_12 (by decide) ?_
  refine v_imul dX3_square_14 ?_
  rw [pk_mul]
  refine v_iload_n dX3_square_15 rfl rfl ?_
  refine v_iadd dX3_square_16 ?_
  rw [nI_add]
  refine v_istore dX3_square_17 (by decide) ?_
  refine v_iload_n dX3_square_19 rfl rfl ?_
  refine v_tableIn 70 dX3_square_20 (by decide) (by decide) (off := 50) (by rfl) (by decide) ?_
  refine v_aload_n dX3_square_70 rfl rfl ?_
  refine v_getfield fX3_34 dX3_square_71 (by assumption) (by rfl) ?_
  refine v_iload dX3_square_74 rfl ?_
  refine v_callVp kX3_230 gi_X1_lackOf ge_X1_lackOf rfl dX3_square_76 (by assumption) (c_lackOf hr hq) rfl rfl (by decide) (Nat.le_of_ble_eq_true rfl) ?_
  refine v_sipush (10000) dX3_square_79 (by decide) ?_
  refine v_iadd dX3_square_82 ?_
  exact v_ireturn dX3_square_83 rfl ⟨rfl, rfl, rfl⟩
set_option maxRecDepth 10000 in
set_option maxHeartbeats 1000000 in
theorem c_square_3 {G : zW} {f : zHM} {m : Nat × Nat} {o r tr sc tx sl sv k la n : Nat} {A : Nat → Nat} {ρ : zRS} {xs tm : Nat → Int32} (ho : f o = some (600, .inr (3, zOb r tr sc tx sl sv k))) (hr : RPic f 0 r la A ρ n xs tm) {x z : Nat} (hx : x < 12) (hz : z < 12) : zM G yX3_square cX3_square 5 (some .int) 7 [.ref o, .int (nI x), .int (nI z), .int (nI 3)] (f, m) (zS (.int (sSquare ρ xs (z * 12 + x) 3)) f m) := by
  refine zM.of (by decide) (Nat.le_of_ble_eq_true rfl) ?_
  have hq : z * 12 + x < 144 := by omega
  obtain ⟨r0, ⟨g1, a1, e1⟩, ⟨g2, a2, e2⟩, ⟨g3, a3, e3⟩, ⟨g4, a4, e4⟩, ⟨g5, a5, e5⟩, ⟨g6, a6, e6⟩, ⟨g7, a7, e7⟩, ⟨g8, a8, e8⟩, ⟨g9, a9, e9⟩, ⟨g10, a10, e10⟩⟩ := id hr
  refine v_iload_n dX3_square_0 rfl rfl ?_
  refine v_iload_n dX3_square_1 rfl rfl ?_
  refine v_callS0p kX3_139 gs_X3_needSquare dX3_square_2 (c_needSquare (nI_pos (by omega)) (show ¬ nI 12 ≤ nI x from nI_ge hx (by omega)) (nI_pos (by omega)) (show nI z < nI 12 from nI_lt hz (by omega))) rfl rfl (by decide) (Nat.le_of_ble_eq_true rfl) ?_
  refine v_iload_n dX3_square_5 rfl rfl ?_
  refine v_iconst (0) dX3_square_6 (by decide) ?_
  refine v_iconst (3) dX3_square_7 (by decide) ?_
  refine v_callS0p kX3_72 gs_X3_needRange dX3_square_8 (c_needRange (by decide) (by decide)) rfl rfl (by decide) (Nat.le_of_ble_eq_true rfl) ?_
  refine v_iload_n dX3_square_11 rfl rfl ?_
  refine v_bipush (nI 12) dX3_square_12 (by decide) ?_
  refine v_imul dX3_square_14 ?_
  rw [pk_mul]
  refine v_iload_n dX3_square_15 rfl rfl ?_
  refine v_iadd dX3_square_16 ?_
  rw [nI_add]
  refine v_istore dX3_square_17 (by decide) ?_
  refine v_iload_n dX3_square_19 rfl rfl ?_
  refine v_tableOut 84 dX3_square_20 (Or.inr (by decide)) (by decide) ?_
  refine v_aload_n dX3_square_84 rfl rfl ?_
  refine v_getfield fX3_34 dX3_square_85 (by assumption) (by rfl) ?_
  refine v_getfield fX3_233 dX3_square_88 (by assumption) (by rfl) ?_
  refine v_iload dX3_square_91 rfl ?_
  refine v_iaload dX3_square_93 (by assumption) (vp_in_nI hq (by omega)) ?_
  exact v_ireturn dX3_square_94 rfl ⟨by rw [nI_clamp (by omega), e9 _ hq]; rfl, rfl, rfl⟩
theorem c_square {G : zW} {f : zHM} {m : Nat × Nat} {o r tr sc tx sl sv k la n : Nat} {A : Nat → Nat} {ρ : zRS} {xs tm : Nat → Int32} (ho : f o = some (600, .inr (3, zOb r tr sc tx sl sv k))) (hr : RPic f 0 r la A ρ n xs tm) {x z w : Nat} (hx : x < 12) (hz : z < 12) (hw4 : w ≤ 3) : zM G yX3_square cX3_square 5 (some .int) 7 [.ref o, .int (nI x), .int (nI z), .int (nI w)] (f, m) (zS (.int (sSquare ρ xs (z * 12 + x) w)) f m) := by
  match w, hw4 with
  | 0, _ => exact c_square_0 ho hr hx hz
  | 1, _ => exact c_square_1 ho hr hx hz
  | 2, _ => exact c_square_2 ho hr hx hz
  | 3, _ => exact c_square_3 ho hr hx hz
set_option maxRecDepth 10000 in
set_option maxHeartbeats 1000000 in
theorem c_count_0 {G : zW} {f : zHM} {m : Nat × Nat} {o r tr sc tx sl sv k la n : Nat} {A : Nat → Nat} {ρ : zRS} {xs tm : Nat → Int32} (ho : f o = some (600, .inr (3, zOb r tr sc tx sl sv k))) (hr : RPic f 0 r la A ρ n xs tm) {N s : Nat} (hw : RW ρ N s n) {M : Nat × Nat} (hL : LNok f m la M) {gs : Nat → Int32} (hsc : f sc = some (601, .inl (0, 144, .inl gs))) : zM G yX3_count cX3_count 2 (some .int) 7 [.ref o, .int (nI 0)] (f, m) (zD (some (.int (sCount ρ s n k 0))) (fun f' m' => (∃ g, f' sc = some (601, .inl (0, 144, .inl g))) ∧ LNok f' m' la M ∧ zFr zT96 f f')) := by
  refine zM.of (by decide) (Nat.le_of_ble_eq_true rfl) ?_
  have r0 := hr.1
  refine v_iload_n dX3_count_0 rfl rfl ?_
  refine v_iconst (0) dX3_count_1 (by decide) ?_
  refine v_bipush (12) dX3_count_2 (by decide) ?_
  refine v_callS0p kX3_72 gs_X3_needRange dX3_count_4 (c_needRange (by decide) (by decide)) rfl rfl (by decide) (Nat.le_of_ble_eq_true rfl) ?_
  refine v_iload_n dX3_count_7 rfl rfl ?_
  refine v_tableIn 72 dX3_count_8 (by decide) (by decide) (off := 64) (by rfl) (by decide) ?_
  refine v_aload_n dX3_count_72 rfl rfl ?_
  refine v_getfield fX3_34 dX3_count_73 (by assumption) (by rfl) ?_
  refine v_getfield fX3_55 dX3_count_76 (by assumption) (by rfl) ?_
  exact v_ireturn dX3_count_79 rfl ⟨rfl, ⟨gs, hsc⟩, hL, zFr.refl⟩
set_option maxRecDepth 10000 in
set_option maxHeartbeats 1000000 in
theorem c_count_1 {G : zW} {f : zHM} {m : Nat × Nat} {o r tr sc tx sl sv k la n : Nat} {A : Nat → Nat} {ρ : zRS} {xs tm : Nat → Int32} (ho : f o = some (600, .inr (3, zOb r tr sc tx sl sv k))) (hr : RPic f 0 r la A ρ n xs tm) {N s : Nat} (hw : RW ρ N s n) {M : Nat × Nat} (hL : LNok f m la M) {gs : Nat → Int32} (hsc : f sc = some (601, .inl (0, 144, .inl gs))) : zM G yX3_count cX3_count 2 (some .int) 7 [.ref o, .int (nI 1)] (f, m) (zD (some (.int (sCount ρ s n k 1))) (fun f' m' => (∃ g, f' sc = some (601, .inl (0, 144, .inl g))) ∧ LNok f' m' la M ∧ zFr zT96 f f')) := by
  refine zM.of (by decide) (Nat.le_of_ble_eq_true rfl) ?_
  have r0 := hr.1
  refine v_iload_n dX3_count_0 rfl rfl ?_
  refine v_iconst (0) dX3_count_1 (by decide) ?_
  refine v_bipush (12) dX3_count_2 (by decide) ?_
  refine v_callS0p kX3_72 gs_X3_needRange dX3_count_4 (c_needRange (by decide) (by decide)) rfl rfl (by decide) (Nat.le_of_ble_eq_true rfl) ?_
  refine v_iload_n dX3_count_7 rfl rfl ?_
  refine v_tableIn 80 dX3_count_8 (by decide) (by decide) (off := 72) (by rfl) (by decide) ?_
  refine v_aload_n dX3_count_80 rfl rfl ?_
  refine v_getfield fX3_34 dX3_count_81 (by assumption) (by rfl) ?_
  refine v_getfield fX3_65 dX3_count_84 (by assumption) (by rfl) ?_
  exact v_ireturn dX3_count_87 rfl ⟨rfl, ⟨gs, hsc⟩, hL, zFr.refl⟩
set_option maxRecDepth 10000 in
set_option maxHeartbeats 1000000 in
theorem c_count_2 {G : zW} {f : zHM} {m : Nat × Nat} {o r tr sc tx sl sv k la n : Nat} {A : Nat → Nat} {ρ : zRS} {xs tm : Nat → Int32} (ho : f o = some (600, .inr (3, zOb r tr sc tx sl sv k))) (hr : RPic f 0 r la A ρ n xs tm) {N s : Nat} (hw : RW ρ N s n) {M : Nat × Nat} (hL : LNok f m la M) {gs : Nat → Int32} (hsc : f sc = some (601, .inl (0, 144, .inl gs))) : zM G yX3_count cX3_count 2 (some .int) 7 [.ref o, .int (nI 2)] (f, m) (zD (some (.int (sCount ρ s n k 2))) (fun f' m' => (∃ g, f' sc = some (601, .inl (0, 144, .inl g))) ∧ LNok f' m' la M ∧ zFr zT96 f f')) := by
  refine zM.of (by decide) (Nat.le_of_ble_eq_true rfl) ?_
  have r0 := hr.1
  refine v_iload_n dX3_count_0 rfl rfl ?_
  refine v_iconst (0) dX3_count_1 (by decide) ?_
  refine v_bipush (12) dX3_count_2 (by decide) ?_
  refine v_callS0p kX3_72 gs_X3_needRange dX3_count_4 (c_needRange (by decide) (by decide)) rfl rfl (by decide) (Nat.le_of_ble_eq_true rfl) ?_
  refine v_iload_n dX3_count_7 rfl rfl ?_
  refine v_tableIn 88 dX3_count_8 (by decide) (by decide) (off := 80) (by rfl) (by decide) ?_
  refine v_aload_n dX3_count_88 rfl rfl ?_
  refine v_getfield fX3_34 dX3_count_89 (by assumption) (by rfl) ?_
  refine v_getfield fX3_76 dX3_count_92 (by assumption) (by rfl) ?_
  exact v_ireturn dX3_count_95 rfl ⟨rfl, ⟨gs, hsc⟩, hL, zFr.refl⟩
set_option maxRecDepth 10000 in
set_option maxHeartbeats 1000000 in
theorem c_count_3 {G : zW} {f : zHM} {m : Nat × Nat} {o r tr sc tx sl sv k la n : Nat} {A : Nat → Nat} {ρ : zRS} {xs tm : Nat → Int32} (ho : f o = some (600, .inr (3, zOb r tr sc tx sl sv k))) (hr : RPic f 0 r la A ρ n xs tm) {N s : Nat} (hw : RW ρ N s n) {M : Nat × Nat} (hL : LNok f m la M) {gs : Nat → Int32} (hsc : f sc = some (601, .inl (0, 144, .inl gs))) : zM G yX3_count cX3_count 2 (some .int) 7 [.ref o, .int (nI 3)] (f, m) (zD (some (.int (sCount ρ s n k 3))) (fun f' m' => (∃ g, f' sc = some (601, .inl (0, 144, .inl g))) ∧ LNok f' m' la M ∧ zFr zT96 f f')) := by
  refine zM.of (by decide) (Nat.le_of_ble_eq_true rfl) ?_
  have r0 := hr.1
  refine v_iload_n dX3_count_0 rfl rfl ?_
  refine v_iconst (0) dX3_count_1 (by decide) ?_
  refine v_bipush (12) dX3_count_2 (by decide) ?_
  refine v_callS0p kX3_72 gs_X3_needRange dX3_count_4 (c_needRange (by decide) (by decide)) rfl rfl (by decide) (Nat.le_of_ble_eq_true rfl) ?_
  refine v_iload_n dX3_count_7 rfl rfl ?_
  refine v_tableIn 96 dX3_count_8 (by decide) (by decide) (off := 88) (by rfl) (by decide) ?_
  refine v_aload_n dX3_count_96 rfl rfl ?_
  refine v_getfield fX3_34 dX3_count_97 (by assumption) (by rfl) ?_
  refine v_getfield fX3_110 dX3_count_100 (by assumption) (by rfl) ?_
  exact v_ireturn dX3_count_103 rfl ⟨rfl, ⟨gs, hsc⟩, hL, zFr.refl⟩
set_option maxRecDepth 10000 in
set_option maxHeartbeats 1000000 in
theorem c_count_4 {G : zW} {f : zHM} {m : Nat × Nat} {o r tr sc tx sl sv k la n : Nat} {A : Nat → Nat} {ρ : zRS} {xs tm : Nat → Int32} (ho : f o = some (600, .inr (3, zOb r tr sc tx sl sv k))) (hr : RPic f 0 r la A ρ n xs tm) {N s : Nat} (hw : RW ρ N s n) {M : Nat × Nat} (hL : LNok f m la M) {gs : Nat → Int32} (hsc : f sc = some (601, .inl (0, 144, .inl gs))) : zM G yX3_count cX3_count 2 (some .int) 7 [.ref o, .int (nI 4)] (f, m) (zD (some (.int (sCount ρ s n k 4))) (fun f' m' => (∃ g, f' sc = some (601, .inl (0, 144, .inl g))) ∧ LNok f' m' la M ∧ zFr zT96 f f')) := by
  refine zM.of (by decide) (Nat.le_of_ble_eq_true rfl) ?_
  have r0 := hr.1
  refine v_iload_n dX3_count_0 rfl rfl ?_
  refine v_iconst (0) dX3_count_1 (by decide) ?_
  refine v_bipush (12) dX3_count_2 (by decide) ?_
  refine v_callS0p kX3_72 gs_X3_needRange dX3_count_4 (c_needRange (by decide) (by decide)) rfl rfl (by decide) (Nat.le_of_ble_eq_true rfl) ?_
  refine v_iload_n dX3_count_7 rfl rfl ?_
  refine v_tableIn 104 dX3_count_8 (by decide) (by decide) (off := 96) (by rfl) (by decide) ?_
  refine v_aload_n dX3_count_104 rfl rfl ?_
  refine v_getfield fX3_34 dX3_count_105 (by assumption) (by rfl) ?_
  refine v_getfield fX3_121 dX3_count_108 (by assumption) (by rfl) ?_
  exact v_ireturn dX3_count_111 rfl ⟨rfl, ⟨gs, hsc⟩, hL, zFr.refl⟩
set_option maxRecDepth 10000 in
set_option maxHeartbeats 1000000 in
theorem c_count_5 {G : zW} {f : zHM} {m : Nat × Nat} {o r tr sc tx sl sv k la n : Nat} {A : Nat → Nat} {ρ : zRS} {xs tm : Nat → Int32} (ho : f o = some (600, .inr (3, zOb r tr sc tx sl sv k))) (hr : RPic f 0 r la A ρ n xs tm) {N s : Nat} (hw : RW ρ N s n) {M : Nat × Nat} (hL : LNok f m la M) {gs : Nat → Int32} (hsc : f sc = some (601, .inl (0, 144, .inl gs))) : zM G yX3_count cX3_count 2 (some .int) 7 [.ref o, .int (nI 5)] (f, m) (zD (some (.int (sCount ρ s n k 5))) (fun f' m' => (∃ g, f' sc = some (601, .inl (0, 144, .inl g))) ∧ LNok f' m' la M ∧ zFr zT96 f f')) := by
  refine zM.of (by decide) (Nat.le_of_ble_eq_true rfl) ?_
  have r0 := hr.1
  refine v_iload_n dX3_count_0 rfl rfl ?_
  refine v_iconst (0) dX3_count_1 (by decide) ?_
  refine v_bipush (12) dX3_count_2 (by decide) ?_
  refine v_callS0p kX3_72 gs_X3_needRange dX3_count_4 (c_needRange (by decide) (by decide)) rfl rfl (by decide) (Nat.le_of_ble_eq_true rfl) ?_
  refine v_iload_n dX3_count_7 rfl rfl ?_
  refine v_tableIn 112 dX3_count_8 (by decide) (by decide) (off := 104) (by rfl) (by decide) ?_
  refine v_aload_n dX3_count_112 rfl rfl ?_
  refine v_getfield fX3_34 dX3_count_113 (by assumption) (by rfl) ?_
  refine v_getfield fX3_124 dX3_count_116 (by assumption) (by rfl) ?_
  exact v_ireturn dX3_count_119 rfl ⟨rfl, ⟨gs, hsc⟩, hL, zFr.refl⟩
set_option maxRecDepth 10000 in
set_option maxHeartbeats 1000000 in
theorem c_count_6 {G : zW} {f : zHM} {m : Nat × Nat} {o r tr sc tx sl sv k la n : Nat} {A : Nat → Nat} {ρ : zRS} {xs tm : Nat → Int32} (ho : f o = some (600, .inr (3, zOb r tr sc tx sl sv k))) (hr : RPic f 0 r la A ρ n xs tm) {N s : Nat} (hw : RW ρ N s n) {M : Nat × Nat} (hL : LNok f m la M) {gs : Nat → Int32} (hsc : f sc = some (601, .inl (0, 144, .inl gs))) : zM G yX3_count cX3_count 2 (some .int) 7 [.ref o, .int (nI 6)] (f, m) (zD (some (.int (sCount ρ s n k 6))) (fun f' m' => (∃ g, f' sc = some (601, .inl (0, 144, .inl g))) ∧ LNok f' m' la M ∧ zFr zT96 f f')) := by
  refine zM.of (by decide) (Nat.le_of_ble_eq_true rfl) ?_
  have r0 := hr.1
  refine v_iload_n dX3_count_0 rfl rfl ?_
  refine v_iconst (0) dX3_count_1 (by decide) ?_
  refine v_bipush (12) dX3_count_2 (by decide) ?_
  refine v_callS0p kX3_72 gs_X3_needRange dX3_count_4 (c_needRange (by decide) (by decide)) rfl rfl (by decide) (Nat.le_of_ble_eq_true rfl) ?_
  refine v_iload_n dX3_count_7 rfl rfl ?_
  refine v_tableIn 120 dX3_count_8 (by decide) (by decide) (off := 112) (by rfl) (by decide) ?_
  refine v_aload_n dX3_count_120 rfl rfl ?_
  refine v_getfield fX3_34 dX3_count_121 (by assumption) (by rfl) ?_
  refine v_getfield fX3_95 dX3_count_124 (by assumption) (by rfl) ?_
  exact v_ireturn dX3_count_127 rfl ⟨rfl, ⟨gs, hsc⟩, hL, zFr.refl⟩
set_option maxRecDepth 10000 in
set_option maxHeartbeats 1000000 in
theorem c_count_7 {G : zW} {f : zHM} {m : Nat × Nat} {o r tr sc tx sl sv k la n : Nat} {A : Nat → Nat} {ρ : zRS} {xs tm : Nat → Int32} (ho : f o = some (600, .inr (3, zOb r tr sc tx sl sv k))) (hr : RPic f 0 r la A ρ n xs tm) {N s : Nat} (hw : RW ρ N s n) {M : Nat × Nat} (hL : LNok f m la M) {gs : Nat → Int32} (hsc : f sc = some (601, .inl (0, 144, .inl gs))) : zM G yX3_count cX3_count 2 (some .int) 7 [.ref o, .int (nI 7)] (f, m) (zD (some (.int (sCount ρ s n k 7))) (fun f' m' => (∃ g, f' sc = some (601, .inl (0, 144, .inl g))) ∧ LNok f' m' la M ∧ zFr zT96 f f')) := by
  refine zM.of (by decide) (Nat.le_of_ble_eq_true rfl) ?_
  have r0 := hr.1
  refine v_iload_n dX3_count_0 rfl rfl ?_
  refine v_iconst (0) dX3_count_1 (by decide) ?_
  refine v_bipush (12) dX3_count_2 (by decide) ?_
  refine v_callS0p kX3_72 gs_X3_needRange dX3_count_4 (c_needRange (by decide) (by decide)) rfl rfl (by decide) (Nat.le_of_ble_eq_true rfl) ?_
  refine v_iload_n dX3_count_7 rfl rfl ?_
  refine v_tableIn 128 dX3_count_8 (by decide) (by decide) (off := 120) (by rfl) (by decide) ?_
  refine v_aload_n dX3_count_128 rfl rfl ?_
  refine v_getfield fX3_34 dX3_count_129 (by assumption) (by rfl) ?_
  refine v_callVp kX3_152 gi_X1_misfit ge_X1_misfit rfl dX3_count_132 (by assumption) (c_misfit hr) rfl rfl (by decide) (Nat.le_of_ble_eq_true rfl) ?_
  exact v_ireturn dX3_count_135 rfl ⟨rfl, ⟨gs, hsc⟩, hL, zFr.refl⟩
set_option maxRecDepth 10000 in
set_option maxHeartbeats 1000000 in
theorem c_count_8 {G : zW} {f : zHM} {m : Nat × Nat} {o r tr sc tx sl sv k la n : Nat} {A : Nat → Nat} {ρ : zRS} {xs tm : Nat → Int32} (ho : f o = some (600, .inr (3, zOb r tr sc tx sl sv k))) (hr : RPic f 0 r la A ρ n xs tm) {N s : Nat} (hw : RW ρ N s n) {M : Nat × Nat} (hL : LNok f m la M) {gs : Nat → Int32} (hsc : f sc = some (601, .inl (0, 144, .inl gs))) : zM G yX3_count cX3_count 2 (some .int) 7 [.ref o, .int (nI 8)] (f, m) (zD (some (.int (sCount ρ s n k 8))) (fun f' m' => (∃ g, f' sc = some (601, .inl (0, 144, .inl g))) ∧ LNok f' m' la M ∧ zFr zT96 f f')) := by
  refine zM.of (by decide) (Nat.le_of_ble_eq_true rfl) ?_
  have r0 := hr.1
  refine v_iload_n dX3_count_0 rfl rfl ?_
  refine v_iconst (0) dX3_count_1 (by decide) ?_
  refine v_bipush (12) dX3_count_2 (by decide) ?_
  refine v_callS0p kX3_72 gs_X3_needRange dX3_count_4 (c_needRange (by decide) (by decide)) rfl rfl (by decide) (Nat.le_of_ble_eq_true rfl) ?_
  refine v_iload_n dX3_count_7 rfl rfl ?_
  refine v_tableIn 136 dX3_count_8 (by decide) (by decide) (off := 128) (by rfl) (by decide) ?_
  refine v_aload_n dX3_count_136 rfl rfl ?_
  refine v_getfield fX3_34 dX3_count_137 (by assumption) (by rfl) ?_
  refine v_aload_n dX3_count_140 rfl rfl ?_
  refine v_getfield fX3_9 dX3_count_141 (by assumption) (by rfl) ?_
  refine v_callV1 kX3_236 gi_X1_misfitByGains ge_X1_misfitByGains rfl dX3_count_144 (by assumption) (c_misfitByGains hr (by omega) hw hL hsc (by omega)) rfl rfl (by decide) (Nat.le_of_ble_eq_true rfl) (fun f m hc => ?_)
  exact v_ireturn dX3_count_147 rfl ⟨rfl, hc.1, hc.2.1, hc.2.2⟩
set_option maxRecDepth 10000 in
set_option maxHeartbeats 1000000 in
theorem c_count_9 {G : zW} {f : zHM} {m : Nat × Nat} {o r tr sc tx sl sv k la n : Nat} {A : Nat → Nat} {ρ : zRS} {xs tm : Nat → Int32} (ho : f o = some (600, .inr (3, zOb r tr sc tx sl sv k))) (hr : RPic f 0 r la A ρ n xs tm) {N s : Nat} (hw : RW ρ N s n) {M : Nat × Nat} (hL : LNok f m la M) {gs : Nat → Int32} (hsc : f sc = some (601, .inl (0, 144, .inl gs))) : zM G yX3_count cX3_count 2 (some .int) 7 [.ref o, .int (nI 9)] (f, m) (zD (some (.int (sCount ρ s n k 9))) (fun f' m' => (∃ g, f' sc = some (601, .inl (0, 144, .inl g))) ∧ LNok f' m' la M ∧ zFr zT96 f f')) := by
  refine zM.of (by decide) (Nat.le_of_ble_eq_true rfl) ?_
  have r0 := hr.1
  refine v_iload_n dX3_count_0 rfl rfl ?_
  refine v_iconst (0) dX3_count_1 (by decide) ?_
  refine v_bipush (12) dX3_count_2 (by decide) ?_
  refine v_callS0p kX3_72 gs_X3_needRange dX3_count_4 (c_needRange (by decide) (by decide)) rfl rfl (by decide) (Nat.le_of_ble_eq_true rfl) ?_
  refine v_iload_n dX3_count_7 rfl rfl ?_
  refine v_tableIn 148 dX3_count_8 (by decide) (by decide) (off := 140) (by rfl) (by decide) ?_
  refine v_aload_n dX3_count_148 rfl rfl ?_
  refine v_getfield fX3_34 dX3_count_149 (by assumption) (by rfl) ?_
  refine v_iconst (1) dX3_count_152 (by decide) ?_
  refine v_callVp kX3_240 gi_X1_squaresOfSign ge_X1_squaresOfSign rfl dX3_count_153 (by assumption) (c_squaresOfSign hr 1) rfl rfl (by decide) (Nat.le_of_ble_eq_true rfl) ?_
  exact v_ireturn dX3_count_156 rfl ⟨rfl, ⟨gs, hsc⟩, hL, zFr.refl⟩
set_option maxRecDepth 10000 in
set_option maxHeartbeats 1000000 in
theorem c_count_10 {G : zW} {f : zHM} {m : Nat × Nat} {o r tr sc tx sl sv k la n : Nat} {A : Nat → Nat} {ρ : zRS} {xs tm : Nat → Int32} (ho : f o = some (600, .inr (3, zOb r tr sc tx sl sv k))) (hr : RPic f 0 r la A ρ n xs tm) {N s : Nat} (hw : RW ρ N s n) {M : Nat × Nat} (hL : LNok f m la M) {gs : Nat → Int32} (hsc : f sc = some (601, .inl (0, 144, .inl gs))) : zM G yX3_count cX3_count 2 (some .int) 7 [.ref o, .int (nI 10)] (f, m) (zD (some (.int (sCount ρ s n k 10))) (fun f' m' => (∃ g, f' sc = some (601, .inl (0, 144, .inl g))) ∧ LNok f' m' la M ∧ zFr zT96 f f')) := by
  refine zM.of (by decide) (Nat.le_of_ble_eq_true rfl) ?_
  have r0 := hr.1
  refine v_iload_n dX3_count_0 rfl rfl ?_
  refine v_iconst (0) dX3_count_1 (by decide) ?_
  refine v_bipush (12) dX3_count_2 (by decide) ?_
  refine v_callS0p kX3_72 gs_X3_needRange dX3_count_4 (c_needRange (by decide) (by decide)) rfl rfl (by decide) (Nat.le_of_ble_eq_true rfl) ?_
  refine v_iload_n dX3_count_7 rfl rfl ?_
  refine v_tableIn 157 dX3_count_8 (by decide) (by decide) (off := 149) (by rfl) (by decide) ?_
  refine v_aload_n dX3_count_157 rfl rfl ?_
  refine v_getfield fX3_34 dX3_count_158 (by assumption) (by rfl) ?_
  refine v_iconst (-1) dX3_count_161 (by decide) ?_
  refine v_callVp kX3_240 gi_X1_squaresOfSign ge_X1_squaresOfSign rfl dX3_count_162 (by assumption) (c_squaresOfSign hr (-1)) rfl rfl (by decide) (Nat.le_of_ble_eq_true rfl) ?_
  exact v_ireturn dX3_count_165 rfl ⟨rfl, ⟨gs, hsc⟩, hL, zFr.refl⟩
set_option maxRecDepth 10000 in
set_option maxHeartbeats 1000000 in
theorem c_count_11 {G : zW} {f : zHM} {m : Nat × Nat} {o r tr sc tx sl sv k la n : Nat} {A : Nat → Nat} {ρ : zRS} {xs tm : Nat → Int32} (ho : f o = some (600, .inr (3, zOb r tr sc tx sl sv k))) (hr : RPic f 0 r la A ρ n xs tm) {N s : Nat} (hw : RW ρ N s n) {M : Nat × Nat} (hL : LNok f m la M) {gs : Nat → Int32} (hsc : f sc = some (601, .inl (0, 144, .inl gs))) : zM G yX3_count cX3_count 2 (some .int) 7 [.ref o, .int (nI 11)] (f, m) (zD (some (.int (sCount ρ s n k 11))) (fun f' m' => (∃ g, f' sc = some (601, .inl (0, 144, .inl g))) ∧ LNok f' m' la M ∧ zFr zT96 f f')) := by
  refine zM.of (by decide) (Nat.le_of_ble_eq_true rfl) ?_
  have r0 := hr.1
  refine v_iload_n dX3_count_0 rfl rfl ?_
  refine v_iconst (0) dX3_count_1 (by decide) ?_
  refine v_bipush (12) dX3_count_2 (by decide) ?_
  refine v_callS0p kX3_72 gs_X3_needRange dX3_count_4 (c_needRange (by decide) (by decide)) rfl rfl (by decide) (Nat.le_of_ble_eq_true rfl) ?_
  refine v_iload_n dX3_count_7 rfl rfl ?_
  refine v_tableIn 166 dX3_count_8 (by decide) (by decide) (off := 158) (by rfl) (by decide) ?_
  refine v_aload_n dX3_count_166 rfl rfl ?_
  refine v_getfield fX3_34 dX3_count_167 (by assumption) (by rfl) ?_
  refine v_iconst (0) dX3_count_170 (by decide) ?_
  refine v_callV1 kX3_201 gi_X1_threadLying ge_X1_threadLying rfl dX3_count_171 (by assumption) (c_threadLying hr (by omega) hw hL 0) rfl rfl (by decide) (Nat.le_of_ble_eq_true rfl) (fun f m hc => ?_)
  obtain ⟨hL, hf1⟩ := hc
  have hr := hr.fr hf1 (fun k hk => by show ¬ (0 + k = 950); omega)
  have ho := hf1 _ _ _ ho (by decide)
  have r0 := hr.1
  refine v_aload_n dX3_count_174 rfl rfl ?_
  refine v_getfield fX3_34 dX3_count_175 (by assumption) (by rfl) ?_
  refine v_iconst (1) dX3_count_178 (by decide) ?_
  refine v_callV1 kX3_201 gi_X1_threadLying ge_X1_threadLying rfl dX3_count_179 (by assumption) (c_threadLying hr (by omega) hw hL 1) rfl rfl (by decide) (Nat.le_of_ble_eq_true rfl) (fun f m hc => ?_)
  obtain ⟨hL, hf2⟩ := hc
  have hr := hr.fr hf2 (fun k hk => by show ¬ (0 + k = 950); omega)
  have ho := hf2 _ _ _ ho (by decide)
  have r0 := hr.1
  refine v_iadd dX3_count_182 ?_
  refine v_aload_n dX3_count_183 rfl rfl ?_
  refine v_getfield fX3_34 dX3_count_184 (by assumption) (by rfl) ?_
  refine v_iconst (2) dX3_count_187 (by decide) ?_
  refine v_callV1 kX3_201 gi_X1_threadLying ge_X1_threadLying rfl dX3_count_188 (by assumption) (c_threadLying hr (by omega) hw hL 2) rfl rfl (by decide) (Nat.le_of_ble_eq_true rfl) (fun f m hc => ?_)
  obtain ⟨hL, hf3⟩ := hc
  refine v_iadd dX3_count_191 ?_
  exact v_ireturn dX3_count_192 rfl ⟨rfl, ⟨gs, hf3 _ _ _ (hf2 _ _ _ (hf1 _ _ _ hsc (by decide)) (by decide)) (by decide)⟩, hL, ((hf1.trans hf2).trans hf3).weaken (fun _ h => Or.inl h)⟩
set_option maxRecDepth 10000 in
set_option maxHeartbeats 1000000 in
theorem c_count_12 {G : zW} {f : zHM} {m : Nat × Nat} {o r tr sc tx sl sv k la n : Nat} {A : Nat → Nat} {ρ : zRS} {xs tm : Nat → Int32} (ho : f o = some (600, .inr (3, zOb r tr sc tx sl sv k))) (hr : RPic f 0 r la A ρ n xs tm) {N s : Nat} (hw : RW ρ N s n) {M : Nat × Nat} (hL : LNok f m la M) {gs : Nat → Int32} (hsc : f sc = some (601, .inl (0, 144, .inl gs))) : zM G yX3_count cX3_count 2 (some .int) 7 [.ref o, .int (nI 12)] (f, m) (zD (some (.int (sCount ρ s n k 12))) (fun f' m' => (∃ g, f' sc = some (601, .inl (0, 144, .inl g))) ∧ LNok f' m' la M ∧ zFr zT96 f f')) := by
  refine zM.of (by decide) (Nat.le_of_ble_eq_true rfl) ?_
  have r0 := hr.1
  refine v_iload_n dX3_count_0 rfl rfl ?_
  refine v_iconst (0) dX3_count_1 (by decide) ?_
  refine v_bipush (12) dX3_count_2 (by decide) ?_
  refine v_callS0p kX3_72 gs_X3_needRange dX3_count_4 (c_needRange (by decide) (by decide)) rfl rfl (by decide) (Nat.le_of_ble_eq_true rfl) ?_
  refine v_iload_n dX3_count_7 rfl rfl ?_
  refine v_tableOut 193 dX3_count_8 (Or.inr (by decide)) (by decide) ?_
  refine v_aload_n dX3_count_193 rfl rfl ?_
  refine v_getfield fX3_187 dX3_count_194 (by assumption) (by rfl) ?_
  exact v_ireturn dX3_count_197 rfl ⟨rfl, ⟨gs, hsc⟩, hL, zFr.refl⟩
theorem c_count {G : zW} {f : zHM} {m : Nat × Nat} {o r tr sc tx sl sv k la n : Nat} {A : Nat → Nat} {ρ : zRS} {xs tm : Nat → Int32} (ho : f o = some (600, .inr (3, zOb r tr sc tx sl sv k))) (hr : RPic f 0 r la A ρ n xs tm) {N s : Nat} (hw : RW ρ N s n) {M : Nat × Nat} (hL : LNok f m la M) {gs : Nat → Int32} (hsc : f sc = some (601, .inl (0, 144, .inl gs))) {w : Nat} (hw4 : w ≤ 12) : zM G yX3_count cX3_count 2 (some .int) 7 [.ref o, .int (nI w)] (f, m) (zD (some (.int (sCount ρ s n k w))) (fun f' m' => (∃ g, f' sc = some (601, .inl (0, 144, .inl g))) ∧ LNok f' m' la M ∧ zFr zT96 f f')) := by
  match w, hw4 with
  | 0, _ => exact c_count_0 ho hr hw hL hsc
  | 1, _ => exact c_count_1 ho hr hw hL hsc
  | 2, _ => exact c_count_2 ho hr hw hL hsc
  | 3, _ => exact c_count_3 ho hr hw hL hsc
  | 4, _ => exact c_count_4 ho hr hw hL hsc
  | 5, _ => exact c_count_5 ho hr hw hL hsc
  | 6, _ => exact c_count_6 ho hr hw hL hsc
  | 7, _ => exact c_count_7 ho hr hw hL hsc
  | 8, _ => exact c_count_8 ho hr hw hL hsc
  | 9, _ => exact c_count_9 ho hr hw hL hsc
  | 10, _ => exact c_count_10 ho hr hw hL hsc
  | 11, _ => exact c_count_11 ho hr hw hL hsc
  | 12, _ => exact c_count_12 ho hr hw hL hsc
set_option maxRecDepth 10000 in
set_option maxHeartbeats 1000000 in
theorem c_palest {G : zW} {f : zHM} {m : Nat × Nat} {o r tr sc tx sl sv k la n : Nat} {A : Nat → Nat} {ρ : zRS} {xs tm : Nat → Int32} (ho : f o = some (600, .inr (3, zOb r tr sc tx sl sv k))) (hr : RPic f 0 r la A ρ n xs tm) : zM G yX3_palest cX3_palest 5 (some .int) 7 [.ref o] (f, m) (zS (.int (sPal ρ 144).1) f m) := by
  refine zM.of (by decide) (Nat.le_of_ble_eq_true rfl) ?_
  have r0 := hr.1
  have loop : ∀ (k i : Nat), i + k = 144 → zV G yX3_palest cX3_palest 5 (some .int) 7 6 [(0, .ref o), (1, .int (sPal ρ i).1), (2, .int (sPal ρ i).2), (3, .int (nI i))] [] (f, m) (zS (.int (sPal ρ 144).1) f m) := by
    intro k
    induction k with
    | zero =>
      intro i hi 
      have hi : i = 144 := by omega
      subst hi
      refine v_iload_n dX3_palest_6 rfl rfl ?_
      refine v_sipush (nI 144) dX3_palest_7 (by decide) ?_
      refine v_icmp_ge 51 dX3_palest_10 (by decide) (fun b10 => ?_) (fun b10 => ?_)
      · refine v_iload_n dX3_palest_51 rfl rfl ?_
        exact v_ireturn dX3_palest_52 rfl ⟨rfl, rfl, rfl⟩
      · exact absurd (nI_le (by omega) (by omega)) b10
    | succ k ih =>
      intro i hi 
      have h9 : i < 144 := by omega
      refine v_iload_n dX3_palest_6 rfl rfl ?_
      refine v_sipush (nI 144) dX3_palest_7 (by decide) ?_
      refine v_icmp_ge 51 dX3_palest_10 (by decide) (fun b10 => ?_) (fun b10 => ?_)
      · exact absurd b10 (nI_ge h9 (by omega))
      · refine v_aload_n dX3_palest_13 rfl rfl ?_
        refine v_getfield fX3_34 dX3_palest_14 (by assumption) (by rfl) ?_
        refine v_iload_n dX3_palest_17 rfl rfl ?_
        refine v_callVp kX3_230 gi_X1_lackOf ge_X1_lackOf rfl dX3_palest_18 (by assumption) (c_lackOf hr h9) rfl rfl (by decide) (Nat.le_of_ble_eq_true rfl) ?_
        refine v_istore dX3_palest_21 (by decide) ?_
        refine v_iload dX3_palest_23 rfl ?_
        refine v_iload_n dX3_palest_25 rfl rfl ?_
        refine v_icmp_le 45 dX3_palest_26 (by decide) (fun b26 => ?_) (fun b26 => ?_)
        · have hst : sPal ρ (i + 1) = sPal ρ i := if_pos b26
          refine v_iincN dX3_palest_45 rfl (by decide) ?_
          refine v_goto 6 dX3_palest_48 (by decide) ?_
          exact v_loc (lv' := [(0, .ref o), (1, .int (sPal ρ (i + 1)).1), (2, .int (sPal ρ (i + 1)).2), (3, .int (nI (i + 1)))]) ⟨rfl, zlkE rfl (by rw [hst]), zlkE rfl (by rw [hst]), rfl, trivial⟩ (ih (i + 1) (by omega))
        · have hst : sPal ρ (i + 1) = (nI (100 * (i / 12) + i % 12), sLack ρ i) := if_neg b26
          refine v_iload dX3_palest_29 rfl ?_
          refine v_istore_n dX3_palest_31 rfl (by decide) ?_
          refine v_bipush (nI 100) dX3_palest_32 (by decide) ?_
          refine v_iload_n dX3_palest_34 rfl rfl ?_
          refine v_bipush (nI 12) dX3_palest_35 (by decide) ?_
          refine v_idiv dX3_palest_37 (by decide) ?_
          rw [pk_div (by omega) (by omega) (by omega)]
          refine v_imul dX3_palest_38 ?_
          rw [pk_mul]
          refine v_iload_n dX3_palest_39 rfl rfl ?_
          refine v_bipush (nI 12) dX3_palest_40 (by decide) ?_
          refine v_irem dX3_palest_42 (by decide) ?_
          rw [pk_rem (by omega) (by omega) (by omega)]
          refine v_iadd dX3_palest_43 ?_
          rw [nI_add]
          refine v_istore_n dX3_palest_44 rfl (by decide) ?_
          refine v_iincN dX3_palest_45 rfl (by decide) ?_
          refine v_goto 6 dX3_palest_48 (by decide) ?_
          exact v_loc (lv' := [(0, .ref o), (1, .int (sPal ρ (i + 1)).1), (2, .int (sPal ρ (i + 1)).2), (3, .int (nI (i + 1)))]) ⟨rfl, zlkE rfl (by rw [hst]), zlkE rfl (by rw [hst]), rfl, trivial⟩ (ih (i + 1) (by omega))
  refine v_iconst (-1) dX3_palest_0 (by decide) ?_
  refine v_istore_n dX3_palest_1 rfl (by decide) ?_
  refine v_iconst (0) dX3_palest_2 (by decide) ?_
  refine v_istore_n dX3_palest_3 rfl (by decide) ?_
  refine v_iconst (0) dX3_palest_4 (by decide) ?_
  refine v_istore_n dX3_palest_5 rfl (by decide) ?_
  exact v_loc (lv' := [(0, .ref o), (1, .int (sPal ρ 0).1), (2, .int (sPal ρ 0).2), (3, .int (nI 0))]) ⟨rfl, rfl, rfl, rfl, trivial⟩ (loop 144 0 rfl)
end
section
abbrev zST : Type := zRS × Nat × (Nat → Int32) × (Nat → Int32)
/-- a ring of any state -/
def RAny (f : zHM) (t q la : Nat) : Prop := ∃ A ρ n xs tm, RPic f t q la A ρ n xs tm
def RSt (f : zHM) (t q la : Nat) (S : zST) : Prop := ∃ A, RPic f t q la A S.1 S.2.1 S.2.2.1 S.2.2.2
theorem RAny.fr {T : Nat → Prop} {f f' : zHM} {t q la : Nat} (h : zFr T f f') (hr : RAny f t q la) (ht : ∀ k, k ≤ 10 → ¬ T (t + k)) : RAny f' t q la := by
  obtain ⟨A, ρ, n, xs, tm, h1⟩ := hr
  exact ⟨A, ρ, n, xs, tm, h1.fr h ht⟩
theorem RSt.fr {T : Nat → Prop} {f f' : zHM} {t q la : Nat} {S : zST} (h : zFr T f f') (hr : RSt f t q la S) (ht : ∀ k, k ≤ 10 → ¬ T (t + k)) : RSt f' t q la S := by
  obtain ⟨A, h1⟩ := hr
  exact ⟨A, h1.fr h ht⟩
theorem RSt.any {f : zHM} {t q la : Nat} {S : zST} (hr : RSt f t q la S) : RAny f t q la := by
  obtain ⟨A, h1⟩ := hr
  exact ⟨A, _, _, _, _, h1⟩
def zrow (gs : Nat → Option Nat) (len : Nat) : (Nat × vp_A) ⊕ (Nat × List Value) := .inl (5, len, .inr (.inr (.inr (.inr gs))))
abbrev zTC (tgr tq : Nat) : Nat → Prop := fun τ => τ = tgr ∨ (tq ≤ τ ∧ τ ≤ tq + 10)
def zmk (m : Nat × Nat) (x : Option Nat) : Nat × Nat := match x with
  | some _ => m
  | none => (m.1 + 11, m.2 + 1339)
set_option maxRecDepth 10000 in
set_option maxHeartbeats 1000000 in
theorem c_copyTo {G : zW} {f : zHM} {m : Nat × Nat} {o r tr sc tx sl sv k la n : Nat} {A : Nat → Nat} {ρ : zRS} {xs tm : Nat → Int32} (ho : f o = some (600, .inr (3, zOb r tr sc tx sl sv k))) (hr : RPic f 0 r la A ρ n xs tm) (hn201 : n ≤ 201) {ra tgr len i tq : Nat} {gs : Nat → Option Nat} (hra : f ra = some (tgr, zrow gs len)) (hi : i < len) (hlen : len ≤ 6) (htg : 602 ≤ tgr ∧ tgr ≤ 940) (htq : 11 ≤ tq ∧ tq ≤ 580) (hany : ∀ q, gs i = some q → RAny f tq q la) (hnew : gs i = none → m.1 + 11 ≤ 50000 ∧ m.2 + 1339 ≤ 400000) : zM G yX3_copyTo cX3_copyTo 4 none 3 [.ref o, .ref ra, .int (nI i)] (f, m) (zD none (fun f' m' => ∃ q, f' ra = some (tgr, zrow (va_up gs i (some q)) len) ∧ RSt f' tq q la (ρ, n, xs, tm) ∧ zFr (zTC tgr tq) f f' ∧ m' = zmk m (gs i))) := by
  refine zM.of (by decide) (Nat.le_of_ble_eq_true rfl) ?_
  have r0 := hr.1
  refine v_aload_n dX3_copyTo_0 rfl rfl ?_
  refine v_iload_n dX3_copyTo_1 rfl rfl ?_
  refine v_aaloadR dX3_copyTo_2 hra (vp_in_nI hi (by omega)) ?_
  rw [nI_clamp (by omega)]
  cases hgi : gs i with
  | some q =>
    obtain ⟨A', ρ', n', xs', tm', hq⟩ := hany q hgi
    have q0 := hq.1
    refine v_astore_n dX3_copyTo_3 rfl (by decide) ?_
    refine v_aload_n dX3_copyTo_4 rfl rfl ?_
    refine v_ifnonnull 27 dX3_copyTo_5 (by decide) ?_
    refine v_aload_n dX3_copyTo_27 rfl rfl ?_
    refine v_aload_n dX3_copyTo_28 rfl rfl ?_
    refine v_getfield fX3_34 dX3_copyTo_29 (by assumption) (by rfl) ?_
    refine v_callV0 kX3_183 gi_X1_copyFrom ge_X1_copyFrom rfl dX3_copyTo_32 q0 (c_copyFrom hq hr (Or.inl (by omega)) hn201) rfl rfl (by decide) (Nat.le_of_ble_eq_true rfl) (fun f9 m9 hc => ?_)
    obtain ⟨hq9, hf9, rfl⟩ := hc
    refine v_return dX3_copyTo_35 rfl ⟨rfl, q, ?_, ⟨_, hq9⟩, hf9.weaken (fun _ h => Or.inr h), rfl⟩
    have e : va_up gs i (some q) = gs := by
      funext j
      by_cases h : j = i
      · subst h; rw [hgi]; exact if_pos rfl
      · exact if_neg h
    rw [e]
    exact hf9 _ _ _ hra (fun h => by have := h.1; have := h.2; omega)
  | none =>
    obtain ⟨hm1, hm2⟩ := hnew hgi
    refine v_astore_nN dX3_copyTo_3 rfl (by decide) ?_
    refine v_aload_nN dX3_copyTo_4 rfl rfl ?_
    refine v_ifnonnullN dX3_copyTo_5 ?_
    refine v_newX tq nX3_20 dX3_copyTo_8 (by omega) (by omega) (fun q f1 hp => ?_)
    have ho := hp.2.2 _ _ ho
    have hra := hp.2.2 _ _ hra
    have hf1 : zFr (zTC tgr tq) f f1 := zFr.new zFr.refl hp
    have hr := hr.fr hf1 (fun k hk h => by rcases h with h | h <;> omega)
    have r0 := hr.1
    have q0 := hp.1
    refine v_dup dX3_copyTo_11 rfl ?_
    refine v_aload_n dX3_copyTo_12 rfl rfl ?_
    refine v_getfield fX3_34 dX3_copyTo_13 (by assumption) (by rfl) ?_
    refine v_getfield fX3_333 dX3_copyTo_16 (by assumption) (by rfl) ?_
    refine v_callI0 kX3_31 gi_X1_init rfl dX3_copyTo_19 (c_Ring_init q0 (by show m.1 + 1 + 10 ≤ 50000; omega) (by show m.2 + 19 + 1320 ≤ 400000; omega)) rfl rfl (by decide) (Nat.le_of_ble_eq_true rfl) (fun f2 m2 hc => ?_)
    obtain ⟨⟨A2, hq⟩, hf2, rfl⟩ := hc
    have hf2b : ∀ a t c, f1 a = some (t, c) → t = tgr → f2 a = some (t, c) := fun a t c h e => hf2 a t c h (fun h => by have := h.1; have := h.2; omega)
    have hf2 : zFr (zTC tgr tq) f1 f2 := hf2.weaken (fun _ h => Or.inr h)
    have ho := hf2 _ _ _ ho (fun h => by rcases h with h | h <;> omega)
    have hr := hr.fr hf2 (fun k hk h => by rcases h with h | h <;> omega)
    refine v_astore_n dX3_copyTo_22 rfl (by decide) ?_
    refine v_aload_n dX3_copyTo_23 rfl rfl ?_
    refine v_iload_n dX3_copyTo_24 rfl rfl ?_
    refine v_aload_n dX3_copyTo_25 rfl rfl ?_
    have hra2 : f2 ra = some (tgr, zrow gs len) := hf2b _ _ _ hra rfl
    have q0 := hq.1
    refine v_aastoreRX dX3_copyTo_26 hra2 q0 (vp_in_nI hi (by omega)) (fun f3 hp3 => ?_)
    rw [nI_clamp (by omega)] at hp3
    have hf3 : zFr (zTC tgr tq) f2 f3 := zFr.refl.put hp3 (Or.inl rfl)
    have hf3b : zFr (fun τ => τ = tgr) f2 f3 := zFr.refl.put hp3 rfl
    have ho := hf3 _ _ _ ho (fun h => by rcases h with h | h <;> omega)
    have hr := hr.fr hf3 (fun k hk h => by rcases h with h | h <;> omega)
    have hq := hq.fr hf3b (fun k hk h => by omega)
    have r0 := hr.1
    have q0 := hq.1
    refine v_aload_n dX3_copyTo_27 rfl rfl ?_
    refine v_aload_n dX3_copyTo_28 rfl rfl ?_
    refine v_getfield fX3_34 dX3_copyTo_29 (by assumption) (by rfl) ?_
    refine v_callV0 kX3_183 gi_X1_copyFrom ge_X1_copyFrom rfl dX3_copyTo_32 q0 (c_copyFrom hq hr (Or.inl (by omega)) hn201) rfl rfl (by decide) (Nat.le_of_ble_eq_true rfl) (fun f9 m9 hc => ?_)
    obtain ⟨hq9, hf9, rfl⟩ := hc
    refine v_return dX3_copyTo_35 rfl ⟨rfl, q, hf9 _ _ _ hp3.1 (fun h => by have := h.1; have := h.2; omega), ⟨_, hq9⟩, ((hf1.trans hf2).trans hf3).trans (hf9.weaken (fun _ h => Or.inr h)), ?_⟩
    show (m.1 + 1 + 10, m.2 + 19 + 1320) = (m.1 + 11, m.2 + 1339)
    rfl
end
section
/-- the states that are saved: k of them, in the row's first k cells -/
def SVP (f : zHM) (sv la : Nat) (gv : Nat → Option Nat) (π : Nat → Nat) (k : Nat) (st : Nat → zST) : Prop :=
  k ≤ 6 ∧ f sv = some (605, zrow gv 6) ∧ (∀ j, j < 6 → π j < 6) ∧ (∀ i j, i < 6 → j < 6 → π i = π j → i = j) ∧ (∀ j, j < k → ∃ q, gv j = some q ∧ RSt f (100 + 20 * π j) q la (st j)) ∧ (∀ j q, j < 6 → gv j = some q → RAny f (100 + 20 * π j) q la)
abbrev zTS : Nat → Prop := fun τ => τ = 600 ∨ τ = 605 ∨ (100 ≤ τ ∧ τ ≤ 210)
def sPK (k : Nat) : Nat := if k < 6 then k + 1 else 6
def sPS (k : Nat) (st : Nat → zST) (S : zST) : Nat → zST := fun j => if k < 6 then (if j = k then S else st j) else (if j = 5 then S else st (j + 1))
theorem zcn0 {g : Nat → Option Nat} : ∀ n, (∀ j, j < n → ¬ g j = none) → zcn g n = 0
  | 0, _ => rfl
  | n + 1, h => by
    unfold zcn
    rw [zcn0 n (fun j hj => h j (by omega)), if_neg (h n (by omega))]
theorem LNok.more {f : zHM} {m : Nat × Nat} {la : Nat} {M : Nat × Nat} (h : LNok f m la M) (a b : Nat) (h1 : M.1 + a ≤ 50000) (h2 : M.2 + b ≤ 399990) : LNok f (m.1 + a, m.2 + b) la (M.1 + a, M.2 + b) := by
  obtain ⟨_, _, g, e1, e2, e3, e4⟩ := h
  refine ⟨h1, h2, g, e1, e2, ?_, ?_⟩
  · show m.1 + a + 3 * zcn g 276 ≤ M.1 + a
    omega
  · show m.2 + b + 44 * zcn g 276 ≤ M.2 + b
    omega
theorem SVP.fr {T : Nat → Prop} {f f' : zHM} {sv la k : Nat} {gv : Nat → Option Nat} {π : Nat → Nat} {st : Nat → zST} (h : zFr T f f') (hs : SVP f sv la gv π k st) (ht : ∀ τ, τ = 605 ∨ (100 ≤ τ ∧ τ ≤ 210) → ¬ T τ) : SVP f' sv la gv π k st := by
  obtain ⟨h0, h1, h2, h3, h4, h5⟩ := hs
  refine ⟨h0, h _ _ _ h1 (ht _ (Or.inl rfl)), h2, h3, fun j hj => ?_, fun j q hj hq => ?_⟩
  · obtain ⟨q, e1, e2⟩ := h4 j hj
    have := h2 j (by omega)
    exact ⟨q, e1, e2.fr h (fun i hi => ht _ (Or.inr ⟨by omega, by omega⟩))⟩
  · have := h2 j hj
    exact (h5 j q hj hq).fr h (fun i hi => ht _ (Or.inr ⟨by omega, by omega⟩))
def zRg (gv : Nat → Option Nat) (i : Nat) : Nat → Option Nat := fun j => if j + 1 < i then gv (j + 1) else gv j
def zRl (gv : Nat → Option Nat) : Nat → Option Nat := fun j => if j = 5 then gv 0 else if j + 1 < 6 then gv (j + 1) else gv j
def zNx (j : Nat) : Nat := if j = 5 then 0 else j + 1
theorem zNx_lt {j : Nat} (h : j < 6) : zNx j < 6 := by unfold zNx; split <;> omega
theorem zNx_inj {i j : Nat} (h : i < 6) (h2 : j < 6) (e : zNx i = zNx j) : i = j := by
  unfold zNx at e
  split at e <;> split at e <;> omega
theorem zRl_at (gv : Nat → Option Nat) {j : Nat} (h : j < 6) : zRl gv j = gv (zNx j) := by
  unfold zRl zNx
  by_cases h5 : j = 5
  · rw [if_pos h5, if_pos h5]
  · rw [if_neg h5, if_neg h5, if_pos (by omega)]
theorem zRg_1 (gv : Nat → Option Nat) : zRg gv 1 = gv := by
  funext j
  unfold zRg
  rw [if_neg (by omega)]
theorem zRg_s (gv : Nat → Option Nat) {i : Nat} (h : 1 ≤ i) : va_up (zRg gv i) (i - 1) (gv i) = zRg gv (i + 1) := by
  funext j
  show (if j = i - 1 then gv i else zRg gv i j) = zRg gv (i + 1) j
  unfold zRg
  by_cases e : j = i - 1
  · subst e
    rw [if_pos rfl, if_pos (by omega)]
    congr 1
    omega
  · rw [if_neg e]
    by_cases e2 : j + 1 < i
    · rw [if_pos e2, if_pos (by omega)]
    · rw [if_neg e2, if_neg (by omega)]
theorem zRg_l (gv : Nat → Option Nat) : va_up (zRg gv 6) 5 (gv 0) = zRl gv := by
  funext j
  show (if j = 5 then gv 0 else zRg gv 6 j) = zRl gv j
  unfold zRg zRl
  rfl
theorem zcn_same {g : Nat → Option Nat} {p q x : Nat} (hg : g p = some x) : ∀ n, zcn (va_up g p (some q)) n = zcn g n
  | 0 => rfl
  | n + 1 => by
    unfold zcn
    rw [zcn_same hg n]
    by_cases e : n = p
    · have h1 : va_up g p (some q) n = some q := if_pos e
      rw [h1, e, hg]
      rfl
    · have h1 : va_up g p (some q) n = g n := if_neg e
      rw [h1]
set_option maxRecDepth 10000 in
set_option maxHeartbeats 1000000 in
theorem c_save_tail {G : zW} {f : zHM} {m : Nat × Nat} {o r tr sc tx sl sv k la n : Nat} {A : Nat → Nat} {ρ : zRS} {xs tm : Nat → Int32} (ho : f o = some (600, .inr (3, zOb r tr sc tx sl sv k))) (hr : RPic f 0 r la A ρ n xs tm) (hn201 : n ≤ 201) {M : Nat × Nat} (hL : LNok f m la M) {gv : Nat → Option Nat} {π : Nat → Nat} {st : Nat → zST} (hs : SVP f sv la gv π k st) (hB : M.1 + 11 * zcn gv 6 ≤ 50000 ∧ M.2 + 1339 * zcn gv 6 ≤ 399990) (hk : k < 6) {lv : List (Nat × Value)} (hlv : zlk lv 0 = some (.ref o)) : zV G yX3_save cX3_save 3 none 4 56 lv [] (f, m) (zD none (fun f' m' => ∃ gv' π' M', SVP f' sv la gv' π' (k + 1) (fun j => if j = k then (ρ, n, xs, tm) else st j) ∧ LNok f' m' la M' ∧ M'.1 + 11 * zcn gv' 6 = M.1 + 11 * zcn gv 6 ∧ M'.2 + 1339 * zcn gv' 6 = M.2 + 1339 * zcn gv 6 ∧ f' o = some (600, .inr (3, zOb r tr sc tx sl sv (k + 1))) ∧ zFr zTS f f')) := by
  obtain ⟨hs0, hs1, hs2, hs3, hs4, hs5⟩ := hs
  have hpk := hs2 k hk
  have hnw : gv k = none → m.1 + 11 ≤ 50000 ∧ m.2 + 1339 ≤ 400000 := fun h => by
    have h1 := zcn_pos h 6 hk
    have h2 := hL.2.2
    obtain ⟨_, _, _, h3, h4⟩ := h2
    omega
  refine v_aload_n dX3_save_56 rfl hlv ?_
  refine v_aload_n dX3_save_57 rfl hlv ?_
  refine v_getfield fX3_26 dX3_save_58 (by assumption) (by rfl) ?_
  refine v_aload_n dX3_save_61 rfl hlv ?_
  refine v_getfield fX3_187 dX3_save_62 (by assumption) (by rfl) ?_
  refine v_callV0 kX3_177 gi_X3_copyTo ge_X3_copyTo rfl dX3_save_65 (by assumption) (c_copyTo ho hr hn201 hs1 (show k < 6 from hk) (by omega) ⟨by omega, by omega⟩ (tq := 100 + 20 * π k) ⟨by omega, by omega⟩ (fun q hq => hs5 k q hk hq) hnw) rfl rfl (by decide) (Nat.le_of_ble_eq_true rfl) (fun f2 m2 hc => ?_)
  obtain ⟨q, c1, c2, c3, hm2⟩ := hc
  have hf2 : zFr zTS f f2 := c3.weaken (fun τ h => h.elim (fun h => Or.inr (Or.inl h)) (fun h => Or.inr (Or.inr ⟨by omega, by omega⟩)))
  have ho2 := c3 _ _ _ ho (fun h => by rcases h with h | h <;> omega)
  refine v_aload_n dX3_save_68 rfl hlv ?_
  refine v_dup dX3_save_69 rfl ?_
  refine v_getfield fX3_187 dX3_save_70 (by assumption) (by rfl) ?_
  refine v_iconst (1) dX3_save_73 (by decide) ?_
  refine v_iadd dX3_save_74 ?_
  rw [show nI k + 1 = nI (k + 1) from nI_1 k]
  refine v_putfieldX fX3_187 dX3_save_75 (by assumption) rfl rfl (Nat.le_of_ble_eq_true rfl) (fun f3 hp => ?_)
  have hf3 : zFr (fun τ => τ = 600) f2 f3 := zFr.refl.put hp rfl
  refine v_return dX3_save_78 rfl ⟨rfl, va_up gv k (some q), π, ?_⟩
  have hs' : SVP f3 sv la (va_up gv k (some q)) π (k + 1) (fun j => if j = k then (ρ, n, xs, tm) else st j) := by
    refine ⟨by omega, hf3 _ _ _ c1 (by omega), hs2, hs3, fun j hj => ?_, fun j q' hj hq' => ?_⟩
    · by_cases e : j = k
      · refine ⟨q, if_pos e, ?_⟩
        show RSt f3 (100 + 20 * π j) q la (if j = k then (ρ, n, xs, tm) else st j)
        rw [if_pos e, e]
        exact c2.fr hf3 (fun i hi => by omega)
      · obtain ⟨q', e1, e2⟩ := hs4 j (by omega)
        refine ⟨q', (if_neg e).trans e1, ?_⟩
        show RSt f3 (100 + 20 * π j) q' la (if j = k then (ρ, n, xs, tm) else st j)
        rw [if_neg e]
        have hj6 := hs2 j (by omega)
        exact (e2.fr c3 (fun i hi h => by rcases h with h | h; omega; exact e (hs3 j k (by omega) hk (by omega)))).fr hf3 (fun i hi => by omega)
    · by_cases e : j = k
      · have e1 : va_up gv k (some q) j = some q := if_pos e
        rw [e1] at hq'
        cases hq'
        rw [e]
        exact (c2.fr hf3 (fun i hi => by omega)).any
      · have e1 : va_up gv k (some q) j = gv j := if_neg e
        rw [e1] at hq'
        have hj6 := hs2 j hj
        exact ((hs5 j q' hj hq').fr c3 (fun i hi h => by rcases h with h | h; omega; exact e (hs3 j k hj hk (by omega)))).fr hf3 (fun i hi => by omega)
  have hLf : LNok f3 m la M := (hL.fr hf2 (fun t ht h => by rcases h with h | h | h <;> omega)).fr hf3 (fun t ht => by omega)
  have ho3 : f3 o = some (600, .inr (3, zOb r tr sc tx sl sv (k + 1))) := hp.1
  have hfr : zFr zTS f f3 := hf2.trans (hf3.weaken (fun _ h => Or.inl h))
  cases hg : gv k with
  | some q0 =>
    have e : zcn (va_up gv k (some q)) 6 = zcn gv 6 := zcn_same hg 6
    rw [hg] at hm2
    have hm2 : m2 = m := hm2
    subst hm2
    exact ⟨M, hs', hLf, by rw [e], by rw [e], ho3, hfr⟩
  | none =>
    have e := zcn_up (q := q) hg 6 hk
    rw [hg] at hm2
    have hm2 : m2 = (m.1 + 11, m.2 + 1339) := hm2
    subst hm2
    refine ⟨(M.1 + 11, M.2 + 1339), hs', hLf.more 11 1339 (by omega) (by omega), ?_, ?_, ho3, hfr⟩
    · show M.1 + 11 + 11 * zcn (va_up gv k (some q)) 6 = M.1 + 11 * zcn gv 6
      omega
    · show M.2 + 1339 + 1339 * zcn (va_up gv k (some q)) 6 = M.2 + 1339 * zcn gv 6
      omega
set_option maxRecDepth 10000 in
set_option maxHeartbeats 1000000 in
theorem c_save {G : zW} {f : zHM} {m : Nat × Nat} {o r tr sc tx sl sv k la n : Nat} {A : Nat → Nat} {ρ : zRS} {xs tm : Nat → Int32} (ho : f o = some (600, .inr (3, zOb r tr sc tx sl sv k))) (hr : RPic f 0 r la A ρ n xs tm) (hn201 : n ≤ 201) {M : Nat × Nat} (hL : LNok f m la M) {gv : Nat → Option Nat} {π : Nat → Nat} {st : Nat → zST} (hs : SVP f sv la gv π k st) (hB : M.1 + 11 * zcn gv 6 ≤ 50000 ∧ M.2 + 1339 * zcn gv 6 ≤ 399990) : zM G yX3_save cX3_save 3 none 4 [.ref o] (f, m) (zD none (fun f' m' => ∃ gv' π' M', SVP f' sv la gv' π' (sPK k) (sPS k st (ρ, n, xs, tm)) ∧ LNok f' m' la M' ∧ M'.1 + 11 * zcn gv' 6 = M.1 + 11 * zcn gv 6 ∧ M'.2 + 1339 * zcn gv' 6 = M.2 + 1339 * zcn gv 6 ∧ f' o = some (600, .inr (3, zOb r tr sc tx sl sv (sPK k))) ∧ zFr zTS f f')) := by
  refine zM.of (by decide) (Nat.le_of_ble_eq_true rfl) ?_
  obtain ⟨hs0, hs1, hs2, hs3, hs4, hs5⟩ := id hs
  by_cases hk : k < 6
  · have e1 : sPK k = k + 1 := if_pos hk
    have e2 : sPS k st (ρ, n, xs, tm) = (fun j => if j = k then (ρ, n, xs, tm) else st j) := by
      funext j
      unfold sPS
      rw [if_pos hk]
    rw [e1, e2]
    refine v_aload_n dX3_save_0 rfl rfl ?_
    refine v_getfield fX3_187 dX3_save_1 (by assumption) (by rfl) ?_
    refine v_bipush (nI 6) dX3_save_4 (by decide) ?_
    refine v_icmp_lt 56 dX3_save_6 (by decide) (fun b6 => ?_) (fun b6 => ?_)
    · exact c_save_tail ho hr hn201 hL hs hB hk rfl
    · rw [nI_ltI (by omega) (by omega)] at b6
      exact absurd hk b6
  have hk : k = 6 := by omega
  have hqs : ∃ qs : Nat → Nat, ∀ j, j < 6 → gv j = some (qs j) ∧ RSt f (100 + 20 * π j) (qs j) la (st j) := by
    refine ⟨fun j => (gv j).getD 0, fun j hj => ?_⟩
    obtain ⟨q, e1, e2⟩ := hs4 j (by omega)
    show gv j = some ((gv j).getD 0) ∧ RSt f (100 + 20 * π j) ((gv j).getD 0) la (st j)
    rw [e1]
    exact ⟨rfl, e2⟩
  obtain ⟨qs, hst⟩ := hqs
  have loop : ∀ (kk i : Nat), i + kk = 6 → 1 ≤ i → ∀ f1 : zHM, zFr (fun τ => τ = 605) f f1 → f1 o = some (600, .inr (3, zOb r tr sc tx sl sv k)) → f1 sv = some (605, zrow (zRg gv i) 6) → zV G yX3_save cX3_save 3 none 4 18 [(0, .ref o), (1, .ref (qs 0)), (2, .int (nI i))] [] (f1, m) (zD none (fun f' m' => ∃ gv' π' M', SVP f' sv la gv' π' (sPK k) (sPS k st (ρ, n, xs, tm)) ∧ LNok f' m' la M' ∧ M'.1 + 11 * zcn gv' 6 = M.1 + 11 * zcn gv 6 ∧ M'.2 + 1339 * zcn gv' 6 = M.2 + 1339 * zcn gv 6 ∧ f' o = some (600, .inr (3, zOb r tr sc tx sl sv (sPK k))) ∧ zFr zTS f f')) := by
    intro kk
    induction kk with
    | zero =>
      intro i hi h1i f1 hf1 ho1 hrow
      have hi : i = 6 := by omega
      subst hi
      refine v_iload_n dX3_save_18 rfl rfl ?_
      refine v_bipush (nI 6) dX3_save_19 (by decide) ?_
      refine v_icmp_ge 44 dX3_save_21 (by decide) (fun b21 => ?_) (fun b21 => ?_)
      · rw [nI_leI (by omega) (by omega)] at b21
        refine v_aload_n dX3_save_44 rfl rfl ?_
        refine v_getfield fX3_26 dX3_save_45 ho1 (by rfl) ?_
        refine v_iconst (nI 5) dX3_save_48 (by decide) ?_
        refine v_aload_n dX3_save_49 rfl rfl ?_
        obtain ⟨A9, hq9⟩ := (hst 0 (by omega)).2.fr hf1 (fun k hk h => by have := hs2 0 (by omega); omega)
        refine v_aastoreRX dX3_save_50 hrow hq9.1 (vp_in_nI (by omega) (by omega)) (fun f2 hp => ?_)
        rw [nI_clamp (by omega)] at hp
        have hf2 : zFr (fun τ => τ = 605) f f2 := hf1.put hp rfl
        have ho2 := hp.ne ho1 (by omega)
        refine v_aload_n dX3_save_51 rfl rfl ?_
        refine v_iconst (nI 5) dX3_save_52 (by decide) ?_
        refine v_putfieldX fX3_187 dX3_save_53 ho2 rfl rfl (Nat.le_of_ble_eq_true rfl) (fun f3 hp3 => ?_)
        have hf3 : zFr (fun τ => τ = 600) f2 f3 := zFr.refl.put hp3 rfl
        have hf23 : zFr (fun τ => τ = 600 ∨ τ = 605) f f3 := (hf2.weaken (fun _ h => Or.inr h)).trans (hf3.weaken (fun _ h => Or.inl h))
        have ho3 : f3 o = some (600, .inr (3, zOb r tr sc tx sl sv 5)) := hp3.1
        have hrw3 : f3 sv = some (605, zrow (zRl gv) 6) := by
          have h9 := hf3 _ _ _ hp.1 (by omega)
          rw [h9, ← zRg_l gv, (hst 0 (by omega)).1]
          rfl
        have hs' : SVP f3 sv la (zRl gv) (fun j => π (zNx j)) 5 (fun j => st (j + 1)) := by
          refine ⟨by omega, hrw3, fun j hj => hs2 _ (zNx_lt hj), fun i j hi hj e => zNx_inj hi hj (hs3 _ _ (zNx_lt hi) (zNx_lt hj) e), fun j hj => ?_, fun j q hj hq => ?_⟩
          · have e1 : zNx j = j + 1 := if_neg (by omega)
            obtain ⟨e2, e3⟩ := hst (j + 1) (by omega)
            refine ⟨_, (zRl_at gv (by omega)).trans (by rw [e1]; exact e2), ?_⟩
            show RSt f3 (100 + 20 * π (zNx j)) (qs (j + 1)) la (st (j + 1))
            rw [e1]
            exact e3.fr hf23 (fun i hi h => by have := hs2 (j + 1) (by omega); omega)
          · rw [zRl_at gv hj] at hq
            show RAny f3 (100 + 20 * π (zNx j)) q la
            exact (hs5 _ q (zNx_lt hj) hq).fr hf23 (fun i hi h => by have := hs2 _ (zNx_lt hj); omega)
        have hz1 : zcn gv 6 = 0 := zcn0 6 (fun j hj h => by rw [(hst j hj).1] at h; cases h)
        have hz2 : zcn (zRl gv) 6 = 0 := zcn0 6 (fun j hj h => by rw [zRl_at gv hj, (hst _ (zNx_lt hj)).1] at h; cases h)
        have hL3 : LNok f3 m la M := hL.fr hf23 (fun t ht h => by omega)
        refine v_mono ?_ (c_save_tail ho3 (hr.fr hf23 (fun k hk h => by omega)) hn201 hL3 hs' (by rw [hz2]; rw [hz1] at hB; exact hB) (by omega) rfl)
        rintro w ⟨f9, m9⟩ ⟨hw, gv', π', M', c1, c2, c3, c4, c5, c6⟩
        have hk6 : k = 6 := hk
        refine ⟨hw, gv', π', M', ?_, c2, by rw [c3, hz1, hz2], by rw [c4, hz1, hz2], ?_, (hf23.weaken (fun τ h => by omega)).trans c6⟩
        · rw [show sPK k = 5 + 1 from by rw [hk6]; rfl, show sPS k st (ρ, n, xs, tm) = (fun j => if j = 5 then (ρ, n, xs, tm) else st (j + 1)) from by rw [hk6]; rfl]
          exact c1
        · rw [show sPK k = 5 + 1 from by rw [hk6]; rfl]
          exact c5
      · rw [nI_leI (by omega) (by omega)] at b21
        omega
    | succ kk ih =>
      intro i hi h1i f1 hf1 ho1 hrow
      have h9 : i < 6 := by omega
      refine v_iload_n dX3_save_18 rfl rfl ?_
      refine v_bipush (nI 6) dX3_save_19 (by decide) ?_
      refine v_icmp_ge 44 dX3_save_21 (by decide) (fun b21 => ?_) (fun b21 => ?_)
      · rw [nI_leI (by omega) (by omega)] at b21
        omega
      · rw [nI_leI (by omega) (by omega)] at b21
        refine v_aload_n dX3_save_24 rfl rfl ?_
        refine v_getfield fX3_26 dX3_save_25 (by assumption) (by rfl) ?_
        refine v_iload_n dX3_save_28 rfl rfl ?_
        refine v_iconst (nI 1) dX3_save_29 (by decide) ?_
        refine v_isub dX3_save_30 ?_
        rw [pk_sub (by omega)]
        refine v_aload_n dX3_save_31 rfl rfl ?_
        refine v_getfield fX3_26 dX3_save_32 (by assumption) (by rfl) ?_
        refine v_iload_n dX3_save_35 rfl rfl ?_
        refine v_aaloadR dX3_save_36 hrow (vp_in_nI h9 (by omega)) ?_
        rw [nI_clamp (by omega), show zRg gv i i = some (qs i) from by unfold zRg; rw [if_neg (by omega)]; exact (hst i (by omega)).1]
        obtain ⟨A9, hq9⟩ := (hst i (by omega)).2.fr hf1 (fun k hk h => by have := hs2 i (by omega); omega)
        refine v_aastoreRX dX3_save_37 hrow hq9.1 (vp_in_nI (by omega) (by omega)) (fun f2 hp => ?_)
        rw [nI_clamp (by omega)] at hp
        have hf2 : zFr (fun τ => τ = 605) f f2 := hf1.put hp rfl
        have ho2 := hp.ne ho1 (by omega)
        refine v_iincN dX3_save_38 rfl (by decide) ?_
        refine v_goto 18 dX3_save_41 (by decide) ?_
        refine v_loc (lv' := [(0, .ref o), (1, .ref (qs 0)), (2, .int (nI (i + 1)))]) ⟨rfl, rfl, rfl, trivial⟩ (ih (i + 1) (by omega) (by omega) f2 hf2 ho2 ?_)
        rw [← zRg_s gv h1i, (hst i (by omega)).1]
        exact hp.1
  refine v_aload_n dX3_save_0 rfl rfl ?_
  refine v_getfield fX3_187 dX3_save_1 (by assumption) (by rfl) ?_
  refine v_bipush (nI 6) dX3_save_4 (by decide) ?_
  refine v_icmp_lt 56 dX3_save_6 (by decide) (fun b6 => ?_) (fun b6 => ?_)
  · rw [nI_ltI (by omega) (by omega)] at b6
    omega
  refine v_aload_n dX3_save_9 rfl rfl ?_
  refine v_getfield fX3_26 dX3_save_10 (by assumption) (by rfl) ?_
  refine v_iconst (nI 0) dX3_save_13 (by decide) ?_
  refine v_aaloadR dX3_save_14 hs1 (vp_in_nI (by omega) (by omega)) ?_
  rw [nI_clamp (by omega), (hst 0 (by omega)).1]
  refine v_astore_n dX3_save_15 rfl (by decide) ?_
  refine v_iconst (nI 1) dX3_save_16 (by decide) ?_
  refine v_istore_n dX3_save_17 rfl (by decide) ?_
  refine v_loc (lv' := [(0, .ref o), (1, .ref (qs 0)), (2, .int (nI 1))]) ⟨rfl, rfl, rfl, trivial⟩ (loop 5 1 (by omega) (by omega) f zFr.refl ho ?_)
  rw [zRg_1]
  exact hs1
end
section
theorem RPic.sc {f f1 : zHM} {t r la n : Nat} {A : Nat → Nat} {ρ : zRS} {xs tm : Nat → Int32} (hr : RPic f t r la A ρ n xs tm) (ψ : Nat → Int32) (h : f1 r = some (t, .inr (1, [.ref la, .int (ψ 0), .int (24 / ψ 0), .int (ψ 1), .int (ψ 2), .int (ψ 3), .int (ψ 4), .int (ψ 5), .int (nI n), .ref (A 0), .ref (A 1), .ref (A 2), .ref (A 3), .ref (A 4), .ref (A 5), .ref (A 6), .ref (A 7), .ref (A 8), .ref (A 9)]))) (hf : zFr (fun τ => τ = t) f f1) : RPic f1 t r la A (zset ρ 0 ψ) n xs tm := by
  obtain ⟨r0, r1, r2, r3, r4, r5, r6, r7, r8, r9, r10⟩ := hr
  exact ⟨h, r1.fr hf (by omega), r2.fr hf (by omega), r3.fr hf (by omega), r4.fr hf (by omega), r5.fr hf (by omega), r6.fr hf (by omega), r7.fr hf (by omega), r8.fr hf (by omega), r9.fr hf (by omega), r10.fr hf (by omega)⟩
theorem RPic.ar1 {f f1 : zHM} {t r la n : Nat} {A : Nat → Nat} {ρ : zRS} {xs tm : Nat → Int32} (hr : RPic f t r la A ρ n xs tm) (ψ : Nat → Int32) (h : ZA f1 (A 0) (t + 1) 3 3 ψ) (hf : zFr (fun τ => τ = t + 1) f f1) : RPic f1 t r la A (zset ρ 1 ψ) n xs tm := by
  obtain ⟨r0, r1, r2, r3, r4, r5, r6, r7, r8, r9, r10⟩ := hr
  exact ⟨hf _ _ _ r0 (by omega), h, r2.fr hf (by omega), r3.fr hf (by omega), r4.fr hf (by omega), r5.fr hf (by omega), r6.fr hf (by omega), r7.fr hf (by omega), r8.fr hf (by omega), r9.fr hf (by omega), r10.fr hf (by omega)⟩
theorem RPic.ar2 {f f1 : zHM} {t r la n : Nat} {A : Nat → Nat} {ρ : zRS} {xs tm : Nat → Int32} (hr : RPic f t r la A ρ n xs tm) (ψ : Nat → Int32) (h : ZA f1 (A 1) (t + 2) 3 3 ψ) (hf : zFr (fun τ => τ = t + 2) f f1) : RPic f1 t r la A (zset ρ 2 ψ) n xs tm := by
  obtain ⟨r0, r1, r2, r3, r4, r5, r6, r7, r8, r9, r10⟩ := hr
  exact ⟨hf _ _ _ r0 (by omega), r1.fr hf (by omega), h, r3.fr hf (by omega), r4.fr hf (by omega), r5.fr hf (by omega), r6.fr hf (by omega), r7.fr hf (by omega), r8.fr hf (by omega), r9.fr hf (by omega), r10.fr hf (by omega)⟩
theorem RPic.ar3 {f f1 : zHM} {t r la n : Nat} {A : Nat → Nat} {ρ : zRS} {xs tm : Nat → Int32} (hr : RPic f t r la A ρ n xs tm) (ψ : Nat → Int32) (h : ZA f1 (A 2) (t + 3) 3 3 ψ) (hf : zFr (fun τ => τ = t + 3) f f1) : RPic f1 t r la A (zset ρ 3 ψ) n xs tm := by
  obtain ⟨r0, r1, r2, r3, r4, r5, r6, r7, r8, r9, r10⟩ := hr
  exact ⟨hf _ _ _ r0 (by omega), r1.fr hf (by omega), r2.fr hf (by omega), h, r4.fr hf (by omega), r5.fr hf (by omega), r6.fr hf (by omega), r7.fr hf (by omega), r8.fr hf (by omega), r9.fr hf (by omega), r10.fr hf (by omega)⟩
theorem RPic.ar7 {f f1 : zHM} {t r la n : Nat} {A : Nat → Nat} {ρ : zRS} {xs tm : Nat → Int32} (hr : RPic f t r la A ρ n xs tm) (ψ : Nat → Int32) (h : ZA f1 (A 6) (t + 7) 144 144 ψ) (hf : zFr (fun τ => τ = t + 7) f f1) : RPic f1 t r la A (zset ρ 7 ψ) n xs tm := by
  obtain ⟨r0, r1, r2, r3, r4, r5, r6, r7, r8, r9, r10⟩ := hr
  exact ⟨hf _ _ _ r0 (by omega), r1.fr hf (by omega), r2.fr hf (by omega), r3.fr hf (by omega), r4.fr hf (by omega), r5.fr hf (by omega), r6.fr hf (by omega), h, r8.fr hf (by omega), r9.fr hf (by omega), r10.fr hf (by omega)⟩
theorem ZA.up1 {f1 : zHM} {a t len : Nat} {g φ : Nat → Int32} {i : Nat} {v : Int32} (e : ∀ j, j < len → g j = φ j) (h : f1 a = some (t, .inl (0, len, .inl (upd g i v)))) : ZA f1 a t len len (upd φ i v) := by
  refine ⟨_, h, fun j hj => ?_⟩
  unfold upd
  split
  · rfl
  · exact e j hj
abbrev zTU : Nat → Prop := fun τ => τ ≤ 10 ∨ τ = 600 ∨ τ = 605 ∨ (100 ≤ τ ∧ τ ≤ 210) ∨ τ = 950
/-- after a call that saved the state S and left the state S2 -/
def ZP (f : zHM) (o r tr sc tx sl sv k la : Nat) (A : Nat → Nat) (gv : Nat → Option Nat) (st : Nat → zST) (M : Nat × Nat) (S S2 : zST) : zHM → Nat × Nat → Prop := fun f' m' => ∃ gv' π' M', SVP f' sv la gv' π' (sPK k) (sPS k st S) ∧ LNok f' m' la M' ∧ M'.1 + 11 * zcn gv' 6 = M.1 + 11 * zcn gv 6 ∧ M'.2 + 1339 * zcn gv' 6 = M.2 + 1339 * zcn gv 6 ∧ f' o = some (600, .inr (3, zOb r tr sc tx sl sv (sPK k))) ∧ RPic f' 0 r la A S2.1 S2.2.1 S2.2.2.1 S2.2.2.2 ∧ zFr zTU f f'
theorem ZP.of {f f1 f2 : zHM} {m2 : Nat × Nat} {o r tr sc tx sl sv k la : Nat} {A : Nat → Nat} {gv gv1 : Nat → Option Nat} {π1 : Nat → Nat} {st : Nat → zST} {M M1 : Nat × Nat} {S S2 : zST} (h1 : SVP f1 sv la gv1 π1 (sPK k) (sPS k st S)) (h2 : LNok f2 m2 la M1) (h3 : M1.1 + 11 * zcn gv1 6 = M.1 + 11 * zcn gv 6) (h4 : M1.2 + 1339 * zcn gv1 6 = M.2 + 1339 * zcn gv 6) (h5 : f1 o = some (600, .inr (3, zOb r tr sc tx sl sv (sPK k)))) (h6 : zFr zTS f f1) (h7 : zFr (zTR 0) f1 f2) (h8 : RPic f2 0 r la A S2.1 S2.2.1 S2.2.2.1 S2.2.2.2) : ZP f o r tr sc tx sl sv k la A gv st M S S2 f2 m2 :=
  ⟨gv1, π1, M1, h1.fr h7 (fun τ h h9 => by rcases h9 with h9 | h9 <;> omega), h2, h3, h4, h7 _ _ _ h5 (fun h9 => by rcases h9 with h9 | h9 <;> omega), h8, (h6.weaken (fun τ h => by rcases h with h | h | h; exact Or.inr (Or.inl h); exact Or.inr (Or.inr (Or.inl h)); exact Or.inr (Or.inr (Or.inr (Or.inl h))))).trans (h7.weaken (fun τ h => by rcases h with h | h; exact Or.inr (Or.inr (Or.inr (Or.inr h))); exact Or.inl (by omega)))⟩
def sSpoolS (ρ : zRS) (u : Nat) (sh lf : Int32) : zRS := zset (zset ρ 2 (upd (ρ 2) u lf)) 1 (upd (ρ 1) u sh)
def sKnotS (ρ : zRS) (u : Nat) : zRS := zset ρ 0 (fun i => if i = 5 then ρ 0 5 + 1 else if i = 2 then nI u else ρ 0 i)
def sSetS (ρ : zRS) (i : Nat) (v : Int32) : zRS := zset ρ 3 (upd (ρ 3) i v)
def sWantS (ρ : zRS) (q : Nat) (v : Int32) : zRS := zset ρ 7 (upd (ρ 7) q v)
def sInc (ρ : zRS) (j : Nat) : zRS := zset ρ 0 (fun i => if i = j then ρ 0 j + 1 else ρ 0 i)
set_option maxRecDepth 10000 in
set_option maxHeartbeats 1000000 in
theorem c_want {G : zW} {f : zHM} {m : Nat × Nat} {o r tr sc tx sl sv k la n : Nat} {A : Nat → Nat} {ρ : zRS} {xs tm : Nat → Int32} (ho : f o = some (600, .inr (3, zOb r tr sc tx sl sv k))) (hr : RPic f 0 r la A ρ n xs tm) (hn201 : n ≤ 201) {M : Nat × Nat} (hL : LNok f m la M) {gv : Nat → Option Nat} {π : Nat → Nat} {st : Nat → zST} (hs : SVP f sv la gv π k st) (hB : M.1 + 11 * zcn gv 6 ≤ 50000 ∧ M.2 + 1339 * zcn gv 6 ≤ 399990) {x y : Nat} (hx : x < 12) (hy : y < 12) {v : Int32} (h0 : ¬ v < 0) (h9 : v ≤ 9) : zM G yX3_want cX3_want 6 (some .int) 7 [.ref o, .int (nI x), .int (nI y), .int v] (f, m) (zD (some (.int (ρ 7 (y * 12 + x)))) (ZP f o r tr sc tx sl sv k la A gv st M (ρ, n, xs, tm) (sWantS ρ (y * 12 + x) v, n, xs, tm))) := by
  refine zM.of (by decide) (Nat.le_of_ble_eq_true rfl) ?_
  have r0 := hr.1
  refine v_iload_n dX3_want_0 rfl rfl ?_
  refine v_iload_n dX3_want_1 rfl rfl ?_
  refine v_callS0p kX3_139 gs_X3_needSquare dX3_want_2 (c_needSquare (nI_pos (by omega)) (by rw [show (12 : Int32) = nI 12 from rfl, nI_leI (by omega) (by omega)]; omega) (nI_pos (by omega)) (by rw [show (12 : Int32) = nI 12 from rfl, nI_ltI (by omega) (by omega)]; exact hy)) rfl rfl (by decide) (Nat.le_of_ble_eq_true rfl) ?_
  refine v_iload_n dX3_want_5 rfl rfl ?_
  refine v_iconst (0) dX3_want_6 (by decide) ?_
  refine v_bipush (9) dX3_want_7 (by decide) ?_
  refine v_callS0p kX3_72 gs_X3_needRange dX3_want_9 (c_needRange h0 h9) rfl rfl (by decide) (Nat.le_of_ble_eq_true rfl) ?_
  refine v_aload_n dX3_want_12 rfl rfl ?_
  refine v_callV0 kX3_52 gi_X3_save ge_X3_save rfl dX3_want_13 (by assumption) (c_save ho hr hn201 hL hs hB) rfl rfl (by decide) (Nat.le_of_ble_eq_true rfl) (fun f1 m1 hc => ?_)
  obtain ⟨gv1, π1, M1, hs1, hL1, hB1, hB2, ho1, hf1⟩ := hc
  have hr1 := hr.fr hf1 (fun k hk h => by rcases h with h | h | h <;> omega)
  obtain ⟨r0, ⟨g1, a1, e1⟩, ⟨g2, a2, e2⟩, ⟨g3, a3, e3⟩, ⟨g4, a4, e4⟩, ⟨g5, a5, e5⟩, ⟨g6, a6, e6⟩, ⟨g7, a7, e7⟩, ⟨g8, a8, e8⟩, ⟨g9, a9, e9⟩, ⟨g10, a10, e10⟩⟩ := id hr1
  refine v_iload_n dX3_want_16 rfl rfl ?_
  refine v_bipush (nI 12) dX3_want_17 (by decide) ?_
  refine v_imul dX3_want_19 ?_
  rw [pk_mul]
  refine v_iload_n dX3_want_20 rfl rfl ?_
  refine v_iadd dX3_want_21 ?_
  rw [nI_add]
  refine v_istore dX3_want_22 (by decide) ?_
  refine v_aload_n dX3_want_24 rfl rfl ?_
  refine v_getfield fX3_34 dX3_want_25 (by assumption) (by rfl) ?_
  refine v_getfield fX3_143 dX3_want_28 (by assumption) (by rfl) ?_
  refine v_iload dX3_want_31 rfl ?_
  refine v_iaload dX3_want_33 (by assumption) (vp_in_nI (by omega) (by omega)) ?_
  refine v_istore dX3_want_34 (by decide) ?_
  refine v_aload_n dX3_want_36 rfl rfl ?_
  refine v_getfield fX3_34 dX3_want_37 (by assumption) (by rfl) ?_
  refine v_getfield fX3_143 dX3_want_40 (by assumption) (by rfl) ?_
  refine v_iload dX3_want_43 rfl ?_
  refine v_iload_n dX3_want_45 rfl rfl ?_
  refine v_iastoreX dX3_want_46 a7 (vp_in_nI (by omega) (by omega)) (fun f2 hp => ?_)
  rw [nI_clamp (by omega)] at hp
  have hf2 : zFr (fun τ => τ = 0 + 7) f1 f2 := zFr.refl.put hp rfl
  refine v_iload dX3_want_47 rfl ?_
  rw [nI_clamp (by omega), e7 _ (by omega)]
  exact v_ireturn dX3_want_49 rfl ⟨rfl, ZP.of hs1 (hL1.fr hf2 (fun t ht => by omega)) hB1 hB2 ho1 hf1 (hf2.weaken (fun τ h => Or.inr (by omega))) (hr1.ar7 _ (ZA.up1 e7 hp.1) hf2)⟩
set_option maxRecDepth 10000 in
set_option maxHeartbeats 1000000 in
theorem c_knot {G : zW} {f : zHM} {m : Nat × Nat} {o r tr sc tx sl sv k la n : Nat} {A : Nat → Nat} {ρ : zRS} {xs tm : Nat → Int32} (ho : f o = some (600, .inr (3, zOb r tr sc tx sl sv k))) (hr : RPic f 0 r la A ρ n xs tm) (hn201 : n ≤ 201) {M : Nat × Nat} (hL : LNok f m la M) {gv : Nat → Option Nat} {π : Nat → Nat} {st : Nat → zST} (hs : SVP f sv la gv π k st) (hB : M.1 + 11 * zcn gv 6 ≤ 50000 ∧ M.2 + 1339 * zcn gv 6 ≤ 399990) {u : Nat} (hu : u < 3) (hne : ¬ nI u = ρ 0 2) : zM G yX3_knot cX3_knot 2 (some .int) 7 [.ref o, .int (nI u)] (f, m) (zD (some (.int (ρ 0 5 + 1))) (ZP f o r tr sc tx sl sv k la A gv st M (ρ, n, xs, tm) (sKnotS ρ u, n, xs, tm))) := by
  refine zM.of (by decide) (Nat.le_of_ble_eq_true rfl) ?_
  have r0 := hr.1
  refine v_iload_n dX3_knot_0 rfl rfl ?_
  refine v_callS0p kX3_68 gs_X3_needSpool dX3_knot_1 (c_needSpool (nI_pos (by omega)) (show nI u < nI 3 from nI_lt hu (by omega))) rfl rfl (by decide) (Nat.le_of_ble_eq_true rfl) ?_
  refine v_iload_n dX3_knot_4 rfl rfl ?_
  refine v_aload_n dX3_knot_5 rfl rfl ?_
  refine v_getfield fX3_34 dX3_knot_6 (by assumption) (by rfl) ?_
  refine v_getfield fX3_76 dX3_knot_9 (by assumption) (by rfl) ?_
  refine v_icmp_ne 25 dX3_knot_12 (by decide) (fun b12 => ?_) (fun b12 => ?_)
  · refine v_aload_n dX3_knot_25 rfl rfl ?_
    refine v_callV0 kX3_52 gi_X3_save ge_X3_save rfl dX3_knot_26 (by assumption) (c_save ho hr hn201 hL hs hB) rfl rfl (by decide) (Nat.le_of_ble_eq_true rfl) (fun f1 m1 hc => ?_)
    obtain ⟨gv1, π1, M1, hs1, hL1, hB1, hB2, ho1, hf1⟩ := hc
    have hr1 := hr.fr hf1 (fun k hk h => by rcases h with h | h | h <;> omega)
    obtain ⟨r0, ⟨g1, a1, e1⟩, ⟨g2, a2, e2⟩, ⟨g3, a3, e3⟩, ⟨g4, a4, e4⟩, ⟨g5, a5, e5⟩, ⟨g6, a6, e6⟩, ⟨g7, a7, e7⟩, ⟨g8, a8, e8⟩, ⟨g9, a9, e9⟩, ⟨g10, a10, e10⟩⟩ := id hr1
    refine v_aload_n dX3_knot_29 rfl rfl ?_
    refine v_getfield fX3_34 dX3_knot_30 (by assumption) (by rfl) ?_
    refine v_iload_n dX3_knot_33 rfl rfl ?_
    refine v_putfieldX fX3_76 dX3_knot_34 r0 rfl rfl (Nat.le_of_ble_eq_true rfl) (fun f2 hp2 => ?_)
    have r0 := hp2.1
    have ho2 := hp2.ne ho1 (by omega)
    refine v_aload_n dX3_knot_37 rfl rfl ?_
    refine v_getfield fX3_34 dX3_knot_38 (by assumption) (by rfl) ?_
    refine v_dup dX3_knot_41 rfl ?_
    refine v_getfield fX3_95 dX3_knot_42 (by assumption) (by rfl) ?_
    refine v_iconst (1) dX3_knot_45 (by decide) ?_
    refine v_iadd dX3_knot_46 ?_
    refine v_putfieldX fX3_95 dX3_knot_47 r0 rfl rfl (Nat.le_of_ble_eq_true rfl) (fun f3 hp3 => ?_)
    have r0 := hp3.1
    have ho3 := hp3.ne ho2 (by omega)
    have hf3 : zFr (fun τ => τ = 0) f1 f3 := zFr.put (T := fun τ => τ = 0) (zFr.put (T := fun τ => τ = 0) zFr.refl hp2 rfl) hp3 rfl
    refine v_aload_n dX3_knot_50 rfl rfl ?_
    refine v_getfield fX3_34 dX3_knot_51 (by assumption) (by rfl) ?_
    refine v_getfield fX3_95 dX3_knot_54 (by assumption) (by rfl) ?_
    exact v_ireturn dX3_knot_57 rfl ⟨rfl, ZP.of hs1 (hL1.fr hf3 (fun t ht => by omega)) hB1 hB2 ho1 hf1 (hf3.weaken (fun τ h => Or.inr (by omega))) (hr1.sc (fun i => if i = 5 then ρ 0 5 + 1 else if i = 2 then nI u else ρ 0 i) hp3.1 hf3)⟩
  · exact absurd b12 hne
set_option maxRecDepth 10000 in
set_option maxHeartbeats 1000000 in
theorem c_set {G : zW} {f : zHM} {m : Nat × Nat} {o r tr sc tx sl sv k la n : Nat} {A : Nat → Nat} {ρ : zRS} {xs tm : Nat → Int32} (ho : f o = some (600, .inr (3, zOb r tr sc tx sl sv k))) (hr : RPic f 0 r la A ρ n xs tm) (hn201 : n ≤ 201) {M : Nat × Nat} (hL : LNok f m la M) {gv : Nat → Option Nat} {π : Nat → Nat} {st : Nat → zST} (hs : SVP f sv la gv π k st) (hB : M.1 + 11 * zcn gv 6 ≤ 50000 ∧ M.2 + 1339 * zcn gv 6 ≤ 399990) {i : Nat} (hi : i < 3) {v : Int32} (h1 : ¬ v < 1) (h2 : v ≤ zMS.getD i 0) : zM G yX3_set cX3_set 4 (some .int) 7 [.ref o, .int (nI i), .int v] (f, m) (zD (some (.int (ρ 3 i))) (ZP f o r tr sc tx sl sv k la A gv st M (ρ, n, xs, tm) (sSetS ρ i v, n, xs, tm))) := by
  refine zM.of (by decide) (Nat.le_of_ble_eq_true rfl) ?_
  have r0 := hr.1
  refine v_iload_n dX3_set_0 rfl rfl ?_
  refine v_callS0p kX3_98 gs_X3_needSetting dX3_set_1 (c_needSetting (nI_pos (by omega)) (show nI i < nI 3 from nI_lt hi (by omega))) rfl rfl (by decide) (Nat.le_of_ble_eq_true rfl) ?_
  refine v_iload_n dX3_set_4 rfl rfl ?_
  refine v_iconst (1) dX3_set_5 (by decide) ?_
  refine v_getsM dX3_set_6 gMS ?_
  refine v_iload_n dX3_set_9 rfl rfl ?_
  refine v_ialoadM dX3_set_10 (vp_in_nI hi (by omega)) ?_
  rw [nI_clamp (by omega)]
  refine v_callS0p kX3_72 gs_X3_needRange dX3_set_11 (c_needRange h1 h2) rfl rfl (by decide) (Nat.le_of_ble_eq_true rfl) ?_
  refine v_aload_n dX3_set_14 rfl rfl ?_
  refine v_callV0 kX3_52 gi_X3_save ge_X3_save rfl dX3_set_15 (by assumption) (c_save ho hr hn201 hL hs hB) rfl rfl (by decide) (Nat.le_of_ble_eq_true rfl) (fun f1 m1 hc => ?_)
  obtain ⟨gv1, π1, M1, hs1, hL1, hB1, hB2, ho1, hf1⟩ := hc
  have hr1 := hr.fr hf1 (fun k hk h => by rcases h with h | h | h <;> omega)
  obtain ⟨r0, ⟨g1, a1, e1⟩, ⟨g2, a2, e2⟩, ⟨g3, a3, e3⟩, ⟨g4, a4, e4⟩, ⟨g5, a5, e5⟩, ⟨g6, a6, e6⟩, ⟨g7, a7, e7⟩, ⟨g8, a8, e8⟩, ⟨g9, a9, e9⟩, ⟨g10, a10, e10⟩⟩ := id hr1
  refine v_aload_n dX3_set_18 rfl rfl ?_
  refine v_getfield fX3_34 dX3_set_19 (by assumption) (by rfl) ?_
  refine v_getfield fX3_104 dX3_set_22 (by assumption) (by rfl) ?_
  refine v_iload_n dX3_set_25 rfl rfl ?_
  refine v_iaload dX3_set_26 (by assumption) (vp_in_nI (by omega) (by omega)) ?_
  refine v_istore_n dX3_set_27 rfl (by decide) ?_
  refine v_aload_n dX3_set_28 rfl rfl ?_
  refine v_getfield fX3_34 dX3_set_29 (by assumption) (by rfl) ?_
  refine v_getfield fX3_104 dX3_set_32 (by assumption) (by rfl) ?_
  refine v_iload_n dX3_set_35 rfl rfl ?_
  refine v_iload_n dX3_set_36 rfl rfl ?_
  refine v_iastoreX dX3_set_37 a3 (vp_in_nI (by omega) (by omega)) (fun f2 hp => ?_)
  rw [nI_clamp (by omega)] at hp
  have hf2 : zFr (fun τ => τ = 0 + 3) f1 f2 := zFr.refl.put hp rfl
  refine v_iload_n dX3_set_38 rfl rfl ?_
  rw [nI_clamp (by omega), e3 _ (by omega)]
  exact v_ireturn dX3_set_39 rfl ⟨rfl, ZP.of hs1 (hL1.fr hf2 (fun t ht => by omega)) hB1 hB2 ho1 hf1 (hf2.weaken (fun τ h => Or.inr (by omega))) (hr1.ar3 _ (ZA.up1 e3 hp.1) hf2)⟩
theorem zSpE (ρ : zRS) (φ ψ : Nat → Int32) : zset (zset ρ 1 φ) 2 ψ = zset (zset ρ 2 ψ) 1 φ := by
  funext k i
  unfold zset
  by_cases h : k = 2
  · subst h; rfl
  · rw [if_neg h, if_neg h]
set_option maxRecDepth 10000 in
set_option maxHeartbeats 1000000 in
theorem c_spool {G : zW} {f : zHM} {m : Nat × Nat} {o r tr sc tx sl sv k la n : Nat} {A : Nat → Nat} {ρ : zRS} {xs tm : Nat → Int32} (ho : f o = some (600, .inr (3, zOb r tr sc tx sl sv k))) (hr : RPic f 0 r la A ρ n xs tm) (hn201 : n ≤ 201) {M : Nat × Nat} (hL : LNok f m la M) {gv : Nat → Option Nat} {π : Nat → Nat} {st : Nat → zST} (hs : SVP f sv la gv π k st) (hB : M.1 + 11 * zcn gv 6 ≤ 50000 ∧ M.2 + 1339 * zcn gv 6 ≤ 399990) {u : Nat} (hu : u < 3) {sh lf : Int32} (h1 : ¬ sh < 1) (h2 : sh ≤ 9) (h3 : ¬ lf < 0) (h4 : lf ≤ 9999) (hne : ¬ nI u = ρ 0 2) (hch : sCh ρ n (nI u) ≤ 0) : zM G yX3_spool cX3_spool 5 (some .int) 7 [.ref o, .int (nI u), .int sh, .int lf] (f, m) (zD (some (.int (ρ 2 u))) (ZP f o r tr sc tx sl sv k la A gv st M (ρ, n, xs, tm) (sSpoolS ρ u sh lf, n, xs, tm))) := by
  refine zM.of (by decide) (Nat.le_of_ble_eq_true rfl) ?_
  have r0 := hr.1
  unfold sSpoolS
  rw [← zSpE]
  refine v_iload_n dX3_spool_0 rfl rfl ?_
  refine v_callS0p kX3_68 gs_X3_needSpool dX3_spool_1 (c_needSpool (nI_pos (by omega)) (show nI u < nI 3 from nI_lt hu (by omega))) rfl rfl (by decide) (Nat.le_of_ble_eq_true rfl) ?_
  refine v_iload_n dX3_spool_4 rfl rfl ?_
  refine v_iconst (1) dX3_spool_5 (by decide) ?_
  refine v_bipush (9) dX3_spool_6 (by decide) ?_
  refine v_callS0p kX3_72 gs_X3_needRange dX3_spool_8 (c_needRange h1 h2) rfl rfl (by decide) (Nat.le_of_ble_eq_true rfl) ?_
  refine v_iload_n dX3_spool_11 rfl rfl ?_
  refine v_iconst (0) dX3_spool_12 (by decide) ?_
  refine v_sipush (9999) dX3_spool_13 (by decide) ?_
  refine v_callS0p kX3_72 gs_X3_needRange dX3_spool_16 (c_needRange h3 h4) rfl rfl (by decide) (Nat.le_of_ble_eq_true rfl) ?_
  refine v_iload_n dX3_spool_19 rfl rfl ?_
  refine v_aload_n dX3_spool_20 rfl rfl ?_
  refine v_getfield fX3_34 dX3_spool_21 (by assumption) (by rfl) ?_
  refine v_getfield fX3_76 dX3_spool_24 (by assumption) (by rfl) ?_
  refine v_icmp_eq 41 dX3_spool_27 (by decide) (fun b27 => ?_) (fun b27 => ?_)
  · exact absurd b27 hne
  · refine v_aload_n dX3_spool_30 rfl rfl ?_
    refine v_getfield fX3_34 dX3_spool_31 (by assumption) (by rfl) ?_
    refine v_iload_n dX3_spool_34 rfl rfl ?_
    refine v_callVp kX3_79 gi_X1_chordsOf ge_X1_chordsOf rfl dX3_spool_35 (by assumption) (c_chordsOf hr hn201 (nI u)) rfl rfl (by decide) (Nat.le_of_ble_eq_true rfl) ?_
    refine v_if_le 51 dX3_spool_38 (by decide) (fun b38 => ?_) (fun b38 => ?_)
    · refine v_aload_n dX3_spool_51 rfl rfl ?_
      refine v_callV0 kX3_52 gi_X3_save ge_X3_save rfl dX3_spool_52 (by assumption) (c_save ho hr hn201 hL hs hB) rfl rfl (by decide) (Nat.le_of_ble_eq_true rfl) (fun f1 m1 hc => ?_)
      obtain ⟨gv1, π1, M1, hs1, hL1, hB1, hB2, ho1, hf1⟩ := hc
      have hr1 := hr.fr hf1 (fun k hk h => by rcases h with h | h | h <;> omega)
      obtain ⟨r0, ⟨g1, a1, e1⟩, ⟨g2, a2, e2⟩, ⟨g3, a3, e3⟩, ⟨g4, a4, e4⟩, ⟨g5, a5, e5⟩, ⟨g6, a6, e6⟩, ⟨g7, a7, e7⟩, ⟨g8, a8, e8⟩, ⟨g9, a9, e9⟩, ⟨g10, a10, e10⟩⟩ := id hr1
      refine v_aload_n dX3_spool_55 rfl rfl ?_
      refine v_getfield fX3_34 dX3_spool_56 (by assumption) (by rfl) ?_
      refine v_getfield fX3_87 dX3_spool_59 (by assumption) (by rfl) ?_
      refine v_iload_n dX3_spool_62 rfl rfl ?_
      refine v_iaload dX3_spool_63 (by assumption) (vp_in_nI (by omega) (by omega)) ?_
      refine v_istore dX3_spool_64 (by decide) ?_
      refine v_aload_n dX3_spool_66 rfl rfl ?_
      refine v_getfield fX3_34 dX3_spool_67 (by assumption) (by rfl) ?_
      refine v_getfield fX3_90 dX3_spool_70 (by assumption) (by rfl) ?_
      refine v_iload_n dX3_spool_73 rfl rfl ?_
      refine v_iload_n dX3_spool_74 rfl rfl ?_
      refine v_iastoreX dX3_spool_75 a1 (vp_in_nI (by omega) (by omega)) (fun f2 hp2 => ?_)
      rw [nI_clamp (by omega)] at hp2
      have hf2 : zFr (fun τ => τ = 0 + 1) f1 f2 := zFr.refl.put hp2 rfl
      have ho2 := hf2 _ _ _ ho1 (by omega)
      have r02 := hf2 _ _ _ r0 (by omega)
      have a22 := hf2 _ _ _ a2 (by omega)
      refine v_aload_n dX3_spool_76 rfl rfl ?_
      refine v_getfield fX3_34 dX3_spool_77 (by assumption) (by rfl) ?_
      refine v_getfield fX3_87 dX3_spool_80 (by assumption) (by rfl) ?_
      refine v_iload_n dX3_spool_83 rfl rfl ?_
      refine v_iload_n dX3_spool_84 rfl rfl ?_
      refine v_iastoreX dX3_spool_85 a22 (vp_in_nI (by omega) (by omega)) (fun f3 hp3 => ?_)
      rw [nI_clamp (by omega)] at hp3
      have hf3 : zFr (fun τ => τ = 0 + 2) f2 f3 := zFr.refl.put hp3 rfl
      have hf23 : zFr (zTR 0) f1 f3 := (hf2.weaken (fun τ h => Or.inr (by omega))).trans (hf3.weaken (fun τ h => Or.inr (by omega)))
      have hr2 := hr1.ar1 (upd (ρ 1) u sh) (ZA.up1 e1 hp2.1) hf2
      have hr3 := hr2.ar2 (upd (ρ 2) u lf) (ZA.up1 e2 hp3.1) hf3
      refine v_iload dX3_spool_86 rfl ?_
      rw [nI_clamp (by omega), e2 _ (by omega)]
      exact v_ireturn dX3_spool_88 rfl ⟨rfl, ZP.of hs1 ((hL1.fr hf2 (fun t ht => by omega)).fr hf3 (fun t ht => by omega)) hB1 hB2 ho1 hf1 hf23 hr3⟩
    · exact absurd hch b38
end
section
/-- the slots -/
def SLP (f : zHM) (sl la : Nat) (gs : Nat → Option Nat) (ss : Nat → Option zST) : Prop :=
  f sl = some (604, zrow gs 2) ∧ ∀ j, j < 2 → (gs j = none ∧ ss j = none) ∨ ∃ q S, gs j = some q ∧ ss j = some S ∧ RSt f (40 + 20 * j) q la S
theorem SLP.fr {T : Nat → Prop} {f f' : zHM} {sl la : Nat} {gs : Nat → Option Nat} {ss : Nat → Option zST} (h : zFr T f f') (hs : SLP f sl la gs ss) (ht : ∀ τ, τ = 604 ∨ (40 ≤ τ ∧ τ ≤ 70) → ¬ T τ) : SLP f' sl la gs ss := by
  refine ⟨h _ _ _ hs.1 (ht _ (Or.inl rfl)), fun j hj => ?_⟩
  rcases hs.2 j hj with e | ⟨q, S, e1, e2, e3⟩
  · exact Or.inl e
  · exact Or.inr ⟨q, S, e1, e2, e3.fr h (fun i hi => ht _ (Or.inr ⟨by omega, by omega⟩))⟩
abbrev zTK : Nat → Prop := fun τ => τ = 604 ∨ (40 ≤ τ ∧ τ ≤ 70)
def sNailsS (ρ : zRS) (x : Int32) : zRS := zset ρ 0 (fun i => if i = 0 then x else if i = 1 then 0 else ρ 0 i)
theorem sStepOf_div {x : Int32} (h : ¬ sStepOf x = -1) : sStepOf x = 24 / x := by
  unfold sStepOf at h ⊢
  by_cases h4 : x = 4
  · subst h4; rfl
  by_cases h6 : x = 6
  · subst h6; rfl
  by_cases h8 : x = 8
  · subst h8; rfl
  by_cases h12 : x = 12
  · subst h12; rfl
  by_cases h24 : x = 24
  · subst h24; rfl
  rw [if_neg h4, if_neg h6, if_neg h8, if_neg h12, if_neg h24] at h
  exact absurd rfl h
set_option maxRecDepth 10000 in
set_option maxHeartbeats 1000000 in
theorem c_keep {G : zW} {f : zHM} {m : Nat × Nat} {o r tr sc tx sl sv k la n : Nat} {A : Nat → Nat} {ρ : zRS} {xs tm : Nat → Int32} (ho : f o = some (600, .inr (3, zOb r tr sc tx sl sv k))) (hr : RPic f 0 r la A ρ n xs tm) (hn201 : n ≤ 201) {M : Nat × Nat} (hL : LNok f m la M) {gs : Nat → Option Nat} {ss : Nat → Option zST} (hk : SLP f sl la gs ss) (hB : M.1 + 11 * zcn gs 2 ≤ 50000 ∧ M.2 + 1339 * zcn gs 2 ≤ 399990) {i : Nat} (hi : i < 2) : zM G yX3_keep cX3_keep 2 (some .int) 7 [.ref o, .int (nI i)] (f, m) (zD (some (.int (nI n))) (fun f' m' => ∃ gs' M', SLP f' sl la gs' (fun j => if j = i then some (ρ, n, xs, tm) else ss j) ∧ LNok f' m' la M' ∧ M'.1 + 11 * zcn gs' 2 = M.1 + 11 * zcn gs 2 ∧ M'.2 + 1339 * zcn gs' 2 = M.2 + 1339 * zcn gs 2 ∧ zFr zTK f f')) := by
  refine zM.of (by decide) (Nat.le_of_ble_eq_true rfl) ?_
  have r0 := hr.1
  have hany : ∀ q, gs i = some q → RAny f (40 + 20 * i) q la := fun q hq => by
    rcases hk.2 i hi with e | ⟨q', S, e1, e2, e3⟩
    · rw [e.1] at hq; cases hq
    · rw [e1] at hq; cases hq; exact e3.any
  have hnw : gs i = none → m.1 + 11 ≤ 50000 ∧ m.2 + 1339 ≤ 400000 := fun h => by
    have h1 := zcn_pos h 2 hi
    obtain ⟨_, _, _, _, _, h3, h4⟩ := hL
    omega
  refine v_iload_n dX3_keep_0 rfl rfl ?_
  refine v_iconst (0) dX3_keep_1 (by decide) ?_
  refine v_iconst (1) dX3_keep_2 (by decide) ?_
  refine v_callS0p kX3_72 gs_X3_needRange dX3_keep_3 (c_needRange (nI_pos (by omega)) (show nI i ≤ nI 1 from by rw [nI_leI (by omega) (by omega)]; omega)) rfl rfl (by decide) (Nat.le_of_ble_eq_true rfl) ?_
  refine v_aload_n dX3_keep_6 rfl rfl ?_
  refine v_aload_n dX3_keep_7 rfl rfl ?_
  refine v_getfield fX3_22 dX3_keep_8 (by assumption) (by rfl) ?_
  refine v_iload_n dX3_keep_11 rfl rfl ?_
  refine v_callV0 kX3_177 gi_X3_copyTo ge_X3_copyTo rfl dX3_keep_12 (by assumption) (c_copyTo ho hr hn201 hk.1 hi (by omega) ⟨by omega, by omega⟩ (tq := 40 + 20 * i) ⟨by omega, by omega⟩ hany hnw) rfl rfl (by decide) (Nat.le_of_ble_eq_true rfl) (fun f2 m2 hc => ?_)
  obtain ⟨q, c1, c2, c3, hm2⟩ := hc
  have hf2 : zFr zTK f f2 := c3.weaken (fun τ h => h.elim Or.inl (fun h => Or.inr ⟨by omega, by omega⟩))
  have ho2 := c3 _ _ _ ho (fun h => by rcases h with h | h <;> omega)
  have hr2 := hr.fr hf2 (fun k hk h => by rcases h with h | h <;> omega)
  have r02 := hr2.1
  refine v_aload_n dX3_keep_15 rfl rfl ?_
  refine v_getfield fX3_34 dX3_keep_16 ho2 (by rfl) ?_
  refine v_getfield fX3_110 dX3_keep_19 r02 (by rfl) ?_
  refine v_ireturn dX3_keep_22 rfl ⟨rfl, va_up gs i (some q), ?_⟩
  have hs' : SLP f2 sl la (va_up gs i (some q)) (fun j => if j = i then some (ρ, n, xs, tm) else ss j) := by
    refine ⟨c1, fun j hj => ?_⟩
    by_cases e : j = i
    · exact Or.inr ⟨q, _, if_pos e, if_pos e, by rw [e]; exact c2⟩
    · have e1 : va_up gs i (some q) j = gs j := if_neg e
      rw [e1]
      show (gs j = none ∧ (if j = i then some (ρ, n, xs, tm) else ss j) = none) ∨ ∃ q S, gs j = some q ∧ (if j = i then some (ρ, n, xs, tm) else ss j) = some S ∧ RSt f2 (40 + 20 * j) q la S
      rw [if_neg e]
      rcases hk.2 j hj with e2 | ⟨q', S, e2, e3, e4⟩
      · exact Or.inl e2
      · exact Or.inr ⟨q', S, e2, e3, e4.fr c3 (fun x hx h => by rcases h with h | h <;> omega)⟩
  have hLf : LNok f2 m la M := hL.fr hf2 (fun t ht h => by rcases h with h | h <;> omega)
  cases hg : gs i with
  | some q0 =>
    have e : zcn (va_up gs i (some q)) 2 = zcn gs 2 := zcn_same hg 2
    rw [hg] at hm2
    have hm2 : m2 = m := hm2
    subst hm2
    exact ⟨M, hs', hLf, by rw [e], by rw [e], hf2⟩
  | none =>
    have e := zcn_up (q := q) hg 2 hi
    rw [hg] at hm2
    have hm2 : m2 = (m.1 + 11, m.2 + 1339) := hm2
    subst hm2
    refine ⟨(M.1 + 11, M.2 + 1339), hs', hLf.more 11 1339 (by omega) (by omega), ?_, ?_, hf2⟩
    · show M.1 + 11 + 11 * zcn (va_up gs i (some q)) 2 = M.1 + 11 * zcn gs 2
      omega
    · show M.2 + 1339 + 1339 * zcn (va_up gs i (some q)) 2 = M.2 + 1339 * zcn gs 2
      omega
set_option maxRecDepth 10000 in
set_option maxHeartbeats 1000000 in
theorem c_goBack {G : zW} {f : zHM} {m : Nat × Nat} {o r tr sc tx sl sv k la n : Nat} {A : Nat → Nat} {ρ : zRS} {xs tm : Nat → Int32} (ho : f o = some (600, .inr (3, zOb r tr sc tx sl sv k))) (hr : RPic f 0 r la A ρ n xs tm) (hn201 : n ≤ 201) {M : Nat × Nat} (hL : LNok f m la M) {gv : Nat → Option Nat} {π : Nat → Nat} {st : Nat → zST} (hs : SVP f sv la gv π k st) (hB : M.1 + 11 * zcn gv 6 ≤ 50000 ∧ M.2 + 1339 * zcn gv 6 ≤ 399990) {gs : Nat → Option Nat} {ss : Nat → Option zST} (hk0 : SLP f sl la gs ss) {i q : Nat} {S : zST} (hi : i < 2) (hgs : gs i = some q) (hS : RSt f (40 + 20 * i) q la S) (hS201 : S.2.1 ≤ 201) : zM G yX3_goBack cX3_goBack 3 (some .int) 7 [.ref o, .int (nI i)] (f, m) (zD (some (.int (nI S.2.1))) (ZP f o r tr sc tx sl sv k la A gv st M (ρ, n, xs, tm) (S))) := by
  refine zM.of (by decide) (Nat.le_of_ble_eq_true rfl) ?_
  have r0 := hr.1
  refine v_iload_n dX3_goBack_0 rfl rfl ?_
  refine v_iconst (0) dX3_goBack_1 (by decide) ?_
  refine v_iconst (1) dX3_goBack_2 (by decide) ?_
  refine v_callS0p kX3_72 gs_X3_needRange dX3_goBack_3 (c_needRange (nI_pos (by omega)) (show nI i ≤ nI 1 from by rw [nI_leI (by omega) (by omega)]; omega)) rfl rfl (by decide) (Nat.le_of_ble_eq_true rfl) ?_
  refine v_aload_n dX3_goBack_6 rfl rfl ?_
  refine v_getfield fX3_22 dX3_goBack_7 (by assumption) (by rfl) ?_
  refine v_iload_n dX3_goBack_10 rfl rfl ?_
  refine v_aaloadR dX3_goBack_11 hk0.1 (vp_in_nI hi (by omega)) ?_
  rw [nI_clamp (by omega), hgs]
  refine v_astore_n dX3_goBack_12 rfl (by decide) ?_
  refine v_aload_n dX3_goBack_13 rfl rfl ?_
  refine v_ifnonnull 27 dX3_goBack_14 (by decide) ?_
  refine v_aload_n dX3_goBack_27 rfl rfl ?_
  refine v_callV0 kX3_52 gi_X3_save ge_X3_save rfl dX3_goBack_28 (by assumption) (c_save ho hr hn201 hL hs hB) rfl rfl (by decide) (Nat.le_of_ble_eq_true rfl) (fun f1 m1 hc => ?_)
  obtain ⟨gv1, π1, M1, hs1, hL1, hB1, hB2, ho1, hf1⟩ := hc
  have hr1 := hr.fr hf1 (fun k hk h => by rcases h with h | h | h <;> omega)
  obtain ⟨r0, ⟨g1, a1, e1⟩, ⟨g2, a2, e2⟩, ⟨g3, a3, e3⟩, ⟨g4, a4, e4⟩, ⟨g5, a5, e5⟩, ⟨g6, a6, e6⟩, ⟨g7, a7, e7⟩, ⟨g8, a8, e8⟩, ⟨g9, a9, e9⟩, ⟨g10, a10, e10⟩⟩ := id hr1
  obtain ⟨A2, hq⟩ := hS.fr hf1 (fun k hk h => by rcases h with h | h | h <;> omega)
  have q0 := hq.1
  refine v_aload_n dX3_goBack_31 rfl rfl ?_
  refine v_getfield fX3_34 dX3_goBack_32 (by assumption) (by rfl) ?_
  refine v_aload_n dX3_goBack_35 rfl rfl ?_
  refine v_callV0 kX3_183 gi_X1_copyFrom ge_X1_copyFrom rfl dX3_goBack_36 r0 (c_copyFrom hr1 hq (Or.inr (by omega)) hS201) rfl rfl (by decide) (Nat.le_of_ble_eq_true rfl) (fun f9 m9 hc => ?_)
  obtain ⟨hr9, hf9, rfl⟩ := hc
  have ho9 := hf9 _ _ _ ho1 (fun h => by have := h.1; have := h.2; omega)
  have r09 := hr9.1
  refine v_aload_n dX3_goBack_39 rfl rfl ?_
  refine v_getfield fX3_34 dX3_goBack_40 ho9 (by rfl) ?_
  refine v_getfield fX3_110 dX3_goBack_43 r09 (by rfl) ?_
  exact v_ireturn dX3_goBack_46 rfl ⟨rfl, ZP.of hs1 (hL1.fr hf9 (fun t ht h => by have := h.2; omega)) hB1 hB2 ho1 hf1 (hf9.weaken (fun τ h => Or.inr h)) hr9⟩
set_option maxRecDepth 10000 in
set_option maxHeartbeats 1000000 in
theorem c_undo {G : zW} {f : zHM} {m : Nat × Nat} {o r tr sc tx sl sv k la n : Nat} {A : Nat → Nat} {ρ : zRS} {xs tm : Nat → Int32} (ho : f o = some (600, .inr (3, zOb r tr sc tx sl sv k))) (hr : RPic f 0 r la A ρ n xs tm) {M : Nat × Nat} (hL : LNok f m la M) {gv : Nat → Option Nat} {π : Nat → Nat} {st : Nat → zST} (hs : SVP f sv la gv π k st) (hk1 : 1 ≤ k) (hS201 : (st (k - 1)).2.1 ≤ 201) : zM G yX3_undo cX3_undo 2 (some .int) 7 [.ref o] (f, m) (zD (some (.int (nI (k - 1)))) (fun f' m' => SVP f' sv la gv π (k - 1) st ∧ LNok f' m' la M ∧ f' o = some (600, .inr (3, zOb r tr sc tx sl sv (k - 1))) ∧ RPic f' 0 r la A (st (k - 1)).1 (st (k - 1)).2.1 (st (k - 1)).2.2.1 (st (k - 1)).2.2.2 ∧ zFr (fun τ => τ ≤ 10 ∨ τ = 600) f f')) := by
  refine zM.of (by decide) (Nat.le_of_ble_eq_true rfl) ?_
  have r0 := hr.1
  obtain ⟨hs0, hs1, hs2, hs3, hs4, hs5⟩ := id hs
  obtain ⟨q, hq1, A2, hq⟩ := hs4 (k - 1) (by omega)
  have hp6 := hs2 (k - 1) (by omega)
  refine v_aload_n dX3_undo_0 rfl rfl ?_
  refine v_getfield fX3_187 dX3_undo_1 (by assumption) (by rfl) ?_
  refine v_if_le 21 dX3_undo_4 (by decide) (fun b4 => ?_) (fun b4 => ?_)
  · exact absurd b4 (fun h => by rw [show (0 : Int32) = nI 0 from rfl, nI_leI (by omega) (by omega)] at h; omega)
  · refine v_aload_n dX3_undo_7 rfl rfl ?_
    refine v_getfield fX3_26 dX3_undo_8 (by assumption) (by rfl) ?_
    refine v_aload_n dX3_undo_11 rfl rfl ?_
    refine v_getfield fX3_187 dX3_undo_12 (by assumption) (by rfl) ?_
    refine v_iconst (nI 1) dX3_undo_15 (by decide) ?_
    refine v_isub dX3_undo_16 ?_
    rw [pk_sub (by omega)]
    refine v_aaloadR dX3_undo_17 hs1 (vp_in_nI (by omega) (by omega)) ?_
    rw [nI_clamp (by omega), hq1]
    refine v_goto 22 dX3_undo_18 (by decide) ?_
    refine v_astore_n dX3_undo_22 rfl (by decide) ?_
    refine v_aload_n dX3_undo_23 rfl rfl ?_
    refine v_ifnonnull 37 dX3_undo_24 (by decide) ?_
    refine v_aload_n dX3_undo_37 rfl rfl ?_
    refine v_getfield fX3_34 dX3_undo_38 (by assumption) (by rfl) ?_
    refine v_aload_n dX3_undo_41 rfl rfl ?_
    refine v_callV0 kX3_183 gi_X1_copyFrom ge_X1_copyFrom rfl dX3_undo_42 r0 (c_copyFrom hr hq (Or.inr (by omega)) hS201) rfl rfl (by decide) (Nat.le_of_ble_eq_true rfl) (fun f2 m2 hc => ?_)
    obtain ⟨hr2, hf2, rfl⟩ := hc
    have ho2 := hf2 _ _ _ ho (fun h => by have := h.1; have := h.2; omega)
    refine v_aload_n dX3_undo_45 rfl rfl ?_
    refine v_dup dX3_undo_46 rfl ?_
    refine v_getfield fX3_187 dX3_undo_47 ho2 (by rfl) ?_
    refine v_iconst (nI 1) dX3_undo_50 (by decide) ?_
    refine v_isub dX3_undo_51 ?_
    rw [pk_sub (by omega)]
    refine v_putfieldX fX3_187 dX3_undo_52 ho2 rfl rfl (Nat.le_of_ble_eq_true rfl) (fun f3 hp => ?_)
    have ho3 := hp.1
    refine v_aload_n dX3_undo_55 rfl rfl ?_
    refine v_getfield fX3_187 dX3_undo_56 ho3 (by rfl) ?_
    have hf3 : zFr (fun τ => τ = 600) f2 f3 := zFr.refl.put hp rfl
    have hf23 : zFr (fun τ => τ ≤ 10 ∨ τ = 600) f f3 := (hf2.weaken (fun τ h => Or.inl (by have := h.2; omega))).trans (hf3.weaken (fun τ h => Or.inr h))
    have hs' := SVP.fr hf23 hs (fun τ h h9 => by omega)
    obtain ⟨w0, w1, w2, w3, w4, w5⟩ := hs'
    exact v_ireturn dX3_undo_59 rfl ⟨rfl, ⟨by omega, w1, w2, w3, fun j hj => w4 j (by omega), w5⟩, (hL.fr hf23 (fun t ht h => by omega)), ho3, hr2.fr hf3 (fun k hk h => by omega), hf23⟩
set_option maxRecDepth 10000 in
set_option maxHeartbeats 1000000 in
theorem c_unwind {G : zW} {f : zHM} {m : Nat × Nat} {o r tr sc tx sl sv k la n : Nat} {A : Nat → Nat} {ρ : zRS} {xs tm : Nat → Int32} (ho : f o = some (600, .inr (3, zOb r tr sc tx sl sv k))) (hr : RPic f 0 r la A ρ (n + 1) xs tm) (hn201 : n + 1 ≤ 201) {M : Nat × Nat} (hL : LNok f m la M) {gv : Nat → Option Nat} {π : Nat → Nat} {st : Nat → zST} (hs : SVP f sv la gv π k st) (hB : M.1 + 11 * zcn gv 6 ≤ 50000 ∧ M.2 + 1339 * zcn gv 6 ≤ 399990) {N s : Nat} (hw : RW ρ N s (n + 1)) {a b u : Nat} (ha : a < N) (hb : b < N) (hab : a ≠ b) (hu : u < 3) (q4 : ρ 4 n = nI a) (q5 : ρ 5 n = nI b) (q6 : ρ 6 n = nI u) : zM G yX3_unwind cX3_unwind 1 (some .int) 7 [.ref o] (f, m) (zD (some (.int (nI a))) (ZP f o r tr sc tx sl sv k la A gv st M (ρ, n + 1, xs, tm) (sOff ρ s a b u, n, sInL (sPa s a b) (-1) xs, sPutT tm (sPr (a * s) (b * s)) (-1)))) := by
  refine zM.of (by decide) (Nat.le_of_ble_eq_true rfl) ?_
  have r0 := hr.1
  refine v_aload_n dX3_unwind_0 rfl rfl ?_
  refine v_getfield fX3_34 dX3_unwind_1 (by assumption) (by rfl) ?_
  refine v_getfield fX3_110 dX3_unwind_4 (by assumption) (by rfl) ?_
  refine v_if_ne 20 dX3_unwind_7 (by decide) (fun b7 => ?_) (fun b7 => ?_)
  · refine v_aload_n dX3_unwind_20 rfl rfl ?_
    refine v_callV0 kX3_52 gi_X3_save ge_X3_save rfl dX3_unwind_21 (by assumption) (c_save ho hr hn201 hL hs hB) rfl rfl (by decide) (Nat.le_of_ble_eq_true rfl) (fun f1 m1 hc => ?_)
    obtain ⟨gv1, π1, M1, hs1, hL1, hB1, hB2, ho1, hf1⟩ := hc
    have hr1 := hr.fr hf1 (fun k hk h => by rcases h with h | h | h <;> omega)
    obtain ⟨r0, ⟨g1, a1, e1⟩, ⟨g2, a2, e2⟩, ⟨g3, a3, e3⟩, ⟨g4, a4, e4⟩, ⟨g5, a5, e5⟩, ⟨g6, a6, e6⟩, ⟨g7, a7, e7⟩, ⟨g8, a8, e8⟩, ⟨g9, a9, e9⟩, ⟨g10, a10, e10⟩⟩ := id hr1
    refine v_aload_n dX3_unwind_24 rfl rfl ?_
    refine v_getfield fX3_34 dX3_unwind_25 (by assumption) (by rfl) ?_
    refine v_callV0 kX3_129 gi_X1_takeOff ge_X1_takeOff rfl dX3_unwind_28 r0 (c_takeOff hr1 (by omega) (by omega) hw.1 hL1 ha hb hab hu q4 q5 q6) rfl rfl (by decide) (Nat.le_of_ble_eq_true rfl) (fun f2 m2 hc => ?_)
    obtain ⟨hr2, hL2, hf2⟩ := hc
    have hv1 : sOff ρ s a b u 0 1 = nI a := rfl
    generalize sOff ρ s a b u = ρ2 at hr2 hv1 ⊢
    generalize sInL (sPa s a b) (-1) xs = xs2 at hr2 ⊢
    generalize sPutT tm (sPr (a * s) (b * s)) (-1) = tm2 at hr2 ⊢
    have ho2 := hf2 _ _ _ ho1 (fun h => by rcases h with h | h <;> omega)
    have r02 := hr2.1
    refine v_aload_n dX3_unwind_31 rfl rfl ?_
    refine v_getfield fX3_34 dX3_unwind_32 ho2 (by rfl) ?_
    refine v_getfield fX3_65 dX3_unwind_35 r02 (by rfl) ?_
    rw [hv1]
    exact v_ireturn dX3_unwind_38 rfl ⟨rfl, ZP.of hs1 hL2 hB1 hB2 ho1 hf1 hf2 hr2⟩
  · exact absurd b7 (fun h => by rw [show (0 : Int32) = nI 0 from rfl, nI_eq (by omega) (by omega)] at h; omega)
end
section
theorem RW.sc {ρ : zRS} {N s n : Nat} (h : RW ρ N s n) (ψ : Nat → Int32) (e : ψ 0 = ρ 0 0) : RW (zset ρ 0 ψ) N s n := by
  obtain ⟨⟨h1, h2, h3, h4⟩, h5, h6⟩ := h
  refine ⟨⟨?_, ?_, h3, h4⟩, h5, fun c hc => ?_⟩
  · show ψ 0 = nI N
    rw [e]; exact h1
  · show 24 / ψ 0 = nI s
    rw [e]; exact h2
  · obtain ⟨a, b, u, e1, e2, e3, e4, e5, e6, e7⟩ := h6 c hc
    exact ⟨a, b, u, e1, e2, e3, e4, e5, e6, e7⟩
theorem RW.lay {ρ : zRS} {N s n : Nat} (h : RW ρ N s n) (hn : n ≤ 200) {a b u : Nat} (ha : a < N) (hb : b < N) (hab : a ≠ b) (hu : u < 3) : RW (sLay ρ s n a b u) N s (n + 1) := by
  obtain ⟨⟨h1, h2, h3, h4⟩, h5, h6⟩ := h
  refine ⟨⟨h1, h2, h3, h4⟩, by omega, fun c hc => ?_⟩
  by_cases e : c = n
  · refine ⟨a, b, u, ha, hb, hab, hu, ?_, ?_, ?_⟩
    · show (if c = n then nI a else ρ 4 c) = nI a
      exact if_pos e
    · show (if c = n then nI b else ρ 5 c) = nI b
      exact if_pos e
    · show (if c = n then nI u else ρ 6 c) = nI u
      exact if_pos e
  · obtain ⟨a, b, u, e1, e2, e3, e4, e5, e6, e7⟩ := h6 c (by omega)
    refine ⟨a, b, u, e1, e2, e3, e4, ?_, ?_, ?_⟩
    · show (if c = n then nI _ else ρ 4 c) = nI a
      rw [if_neg e]; exact e5
    · show (if c = n then nI _ else ρ 5 c) = nI b
      rw [if_neg e]; exact e6
    · show (if c = n then nI _ else ρ 6 c) = nI u
      rw [if_neg e]; exact e7
theorem sBst_in (rf gn ot ln : Nat → Int32) : ∀ n, (sBst rf gn ot ln n).1 = -1 ∨ ∃ b, b < n ∧ (sBst rf gn ot ln n).1 = nI b ∧ rf b = 0
  | 0 => Or.inl rfl
  | n + 1 => by
    unfold sBst
    split
    · rename_i h
      exact Or.inr ⟨n, by omega, rfl, h.1⟩
    · rcases sBst_in rf gn ot ln n with h | ⟨b, h1, h2, h3⟩
      · exact Or.inl h
      · exact Or.inr ⟨b, by omega, h2, h3⟩
theorem sBest_in (ρ : zRS) (N s : Nat) (tm : Nat → Int32) (a u : Nat) : sBest ρ N s tm a u = -1 ∨ ∃ b, b < N ∧ sBest ρ N s tm a u = nI b ∧ a ≠ b := by
  rcases sBst_in (fun b => sRef N s (ρ 3 0) (ρ 3 1) (ρ 2 u) tm a b) (fun b => sGain ρ s (ρ 1 u) a b) (fun b => tm (sPr (a * s) (b * s))) (fun b => sLn s a b) N with h | ⟨b, h1, h2, h3⟩
  · exact Or.inl h
  · exact Or.inr ⟨b, h1, h2, fun e => sRef_self _ _ _ _ _ _ _ (e ▸ h3)⟩
def sWBn (ρ : zRS) (s n : Nat) (xs tm : Nat → Int32) (a b u : Nat) : zST := (sInc (sLay ρ s n a b u) 3, n + 1, sInL (sPa s a b) 1 xs, sPutT tm (sPr (a * s) (b * s)) 1)
set_option maxRecDepth 10000 in
set_option maxHeartbeats 1000000 in
theorem c_wind_ok {G : zW} {f : zHM} {m : Nat × Nat} {o r tr sc tx sl sv k la n : Nat} {A : Nat → Nat} {ρ : zRS} {xs tm : Nat → Int32} (ho : f o = some (600, .inr (3, zOb r tr sc tx sl sv k))) (hr : RPic f 0 r la A ρ n xs tm) (hn201 : n ≤ 201) {M : Nat × Nat} (hL : LNok f m la M) {gv : Nat → Option Nat} {π : Nat → Nat} {st : Nat → zST} (hs : SVP f sv la gv π k st) (hB : M.1 + 11 * zcn gv 6 ≤ 50000 ∧ M.2 + 1339 * zcn gv 6 ≤ 399990) {N s : Nat} (hw : RW ρ N s n) {a u : Nat} (ha : a < N) (hu : u < 3) (hat : ρ 0 1 = nI a) (hnow : ρ 0 2 = nI u) {b : Nat} (hb : b < N) (hn200 : n < 200) (href : sRef N s (ρ 3 0) (ρ 3 1) (ρ 2 u) tm a b = 0 ∧ True) : zM G yX3_wind cX3_wind 3 (some .int) 7 [.ref o, .int (nI b)] (f, m) (zD (some (.int 0)) (ZP f o r tr sc tx sl sv k la A gv st M (ρ, n, xs, tm) (sWBn ρ s n xs tm a b u))) := by
  refine zM.of (by decide) (Nat.le_of_ble_eq_true rfl) ?_
  have r0 := hr.1
  have hv := hw.1
  have hv9 := hv.pos
  have hab : a ≠ b := fun e => sRef_self _ _ _ _ _ _ _ (e ▸ href.1)
  refine v_aload_n dX3_wind_0 rfl rfl ?_
  refine v_iload_n dX3_wind_1 rfl rfl ?_
  refine v_callV0p kX3_107 gi_X3_needNail ge_X3_needNail rfl dX3_wind_2 (by assumption) (c_needNail ho hr.1 (nI_pos (by omega)) (by rw [hv.1]; exact nI_lt hb (by omega))) rfl rfl (by decide) (Nat.le_of_ble_eq_true rfl) ?_
  refine v_aload_n dX3_wind_5 rfl rfl ?_
  refine v_getfield fX3_34 dX3_wind_6 (by assumption) (by rfl) ?_
  refine v_getfield fX3_110 dX3_wind_9 (by assumption) (by rfl) ?_
  refine v_sipush (200) dX3_wind_12 (by decide) ?_
  refine v_icmp_lt 28 dX3_wind_15 (by decide) (fun b15 => ?_) (fun b15 => ?_)
  · refine v_aload_n dX3_wind_28 rfl rfl ?_
    refine v_callV0 kX3_52 gi_X3_save ge_X3_save rfl dX3_wind_29 (by assumption) (c_save ho hr hn201 hL hs hB) rfl rfl (by decide) (Nat.le_of_ble_eq_true rfl) (fun f1 m1 hc => ?_)
    obtain ⟨gv1, π1, M1, hs1, hL1, hB1, hB2, ho1, hf1⟩ := hc
    have hr1 := hr.fr hf1 (fun k hk h => by rcases h with h | h | h <;> omega)
    obtain ⟨r0, ⟨g1, a1, e1⟩, ⟨g2, a2, e2⟩, ⟨g3, a3, e3⟩, ⟨g4, a4, e4⟩, ⟨g5, a5, e5⟩, ⟨g6, a6, e6⟩, ⟨g7, a7, e7⟩, ⟨g8, a8, e8⟩, ⟨g9, a9, e9⟩, ⟨g10, a10, e10⟩⟩ := id hr1
    refine v_aload_n dX3_wind_32 rfl rfl ?_
    refine v_getfield fX3_34 dX3_wind_33 (by assumption) (by rfl) ?_
    refine v_iload_n dX3_wind_36 rfl rfl ?_
    refine v_callV1 kX3_115 gi_X1_refusal ge_X1_refusal rfl dX3_wind_37 r0 (c_refusal hr1 (by omega) hv hL1 ha hb hu hat hnow) rfl rfl (by decide) (Nat.le_of_ble_eq_true rfl) (fun f2 m2 hc => ?_)
    obtain ⟨hL2, hf2⟩ := hc
    rw [href.1]
    have ho2 := hf2 _ _ _ ho1 (by omega)
    have hr2 := hr1.fr hf2 (fun k hk h => by omega)
    have r02 := hr2.1
    refine v_istore_n dX3_wind_40 rfl (by decide) ?_
    refine v_iload_n dX3_wind_41 rfl rfl ?_
    refine v_if_ne 69 dX3_wind_42 (by decide) (fun b42 => absurd rfl b42) (fun _ => ?_)
    refine v_aload_n dX3_wind_45 rfl rfl ?_
    refine v_getfield fX3_34 dX3_wind_46 ho2 (by rfl) ?_
    refine v_iload_n dX3_wind_49 rfl rfl ?_
    refine v_callV0 kX3_118 gi_X1_lay ge_X1_lay rfl dX3_wind_50 r02 (c_lay hr2 (by omega) (by omega) hv hL2 ha hb hab hu hat hnow) rfl rfl (by decide) (Nat.le_of_ble_eq_true rfl) (fun f3 m3 hc => ?_)
    obtain ⟨hr3, hL3, hf3⟩ := hc
    unfold sWBn
    generalize sLay ρ s n a b u = ρ2 at hr3 ⊢
    generalize sInL (sPa s a b) 1 xs = xs2 at hr3 ⊢
    generalize sPutT tm (sPr (a * s) (b * s)) 1 = tm2 at hr3 ⊢
    have ho3 := hf3 _ _ _ ho2 (fun h => by rcases h with h | h <;> omega)
    have r03 := hr3.1
    refine v_aload_n dX3_wind_53 rfl rfl ?_
    refine v_getfield fX3_34 dX3_wind_54 ho3 (by rfl) ?_
    refine v_dup dX3_wind_57 rfl ?_
    refine v_getfield fX3_121 dX3_wind_58 r03 (by rfl) ?_
    refine v_iconst (1) dX3_wind_61 (by decide) ?_
    refine v_iadd dX3_wind_62 ?_
    refine v_putfieldX fX3_121 dX3_wind_63 r03 rfl rfl (Nat.le_of_ble_eq_true rfl) (fun f4 hp => ?_)
    have hf4 : zFr (fun τ => τ = 0) f3 f4 := zFr.put (T := fun τ => τ = 0) zFr.refl hp rfl
    refine v_goto 82 dX3_wind_66 (by decide) ?_
    refine v_iload_n dX3_wind_82 rfl rfl ?_
    exact v_ireturn dX3_wind_83 rfl ⟨rfl, ZP.of hs1 (hL3.fr hf4 (fun t ht => by omega)) hB1 hB2 ho1 hf1 (((hf2.weaken (fun τ h => Or.inl h)).trans hf3).trans (hf4.weaken (fun τ h => Or.inr (by omega)))) (hr3.sc (fun i => if i = 3 then ρ2 0 3 + 1 else ρ2 0 i) hp.1 hf4)⟩
  · exact absurd b15 (by rw [show (200 : Int32) = nI 200 from rfl, nI_ltI (by omega) (by omega)]; omega)
set_option maxRecDepth 10000 in
set_option maxHeartbeats 1000000 in
theorem c_wind_no {G : zW} {f : zHM} {m : Nat × Nat} {o r tr sc tx sl sv k la n : Nat} {A : Nat → Nat} {ρ : zRS} {xs tm : Nat → Int32} (ho : f o = some (600, .inr (3, zOb r tr sc tx sl sv k))) (hr : RPic f 0 r la A ρ n xs tm) (hn201 : n ≤ 201) {M : Nat × Nat} (hL : LNok f m la M) {gv : Nat → Option Nat} {π : Nat → Nat} {st : Nat → zST} (hs : SVP f sv la gv π k st) (hB : M.1 + 11 * zcn gv 6 ≤ 50000 ∧ M.2 + 1339 * zcn gv 6 ≤ 399990) {N s : Nat} (hw : RW ρ N s n) {a u : Nat} (ha : a < N) (hu : u < 3) (hat : ρ 0 1 = nI a) (hnow : ρ 0 2 = nI u) {b : Nat} (hb : b < N) (hn200 : n < 200) (href : ¬ sRef N s (ρ 3 0) (ρ 3 1) (ρ 2 u) tm a b = 0 ∧ True) : zM G yX3_wind cX3_wind 3 (some .int) 7 [.ref o, .int (nI b)] (f, m) (zD (some (.int (sRef N s (ρ 3 0) (ρ 3 1) (ρ 2 u) tm a b))) (ZP f o r tr sc tx sl sv k la A gv st M (ρ, n, xs, tm) (sInc ρ 4, n, xs, tm))) := by
  refine zM.of (by decide) (Nat.le_of_ble_eq_true rfl) ?_
  have r0 := hr.1
  have hv := hw.1
  have hv9 := hv.pos
  refine v_aload_n dX3_wind_0 rfl rfl ?_
  refine v_iload_n dX3_wind_1 rfl rfl ?_
  refine v_callV0p kX3_107 gi_X3_needNail ge_X3_needNail rfl dX3_wind_2 (by assumption) (c_needNail ho hr.1 (nI_pos (by omega)) (by rw [hv.1]; exact nI_lt hb (by omega))) rfl rfl (by decide) (Nat.le_of_ble_eq_true rfl) ?_
  refine v_aload_n dX3_wind_5 rfl rfl ?_
  refine v_getfield fX3_34 dX3_wind_6 (by assumption) (by rfl) ?_
  refine v_getfield fX3_110 dX3_wind_9 (by assumption) (by rfl) ?_
  refine v_sipush (200) dX3_wind_12 (by decide) ?_
  refine v_icmp_lt 28 dX3_wind_15 (by decide) (fun b15 => ?_) (fun b15 => ?_)
  · refine v_aload_n dX3_wind_28 rfl rfl ?_
    refine v_callV0 kX3_52 gi_X3_save ge_X3_save rfl dX3_wind_29 (by assumption) (c_save ho hr hn201 hL hs hB) rfl rfl (by decide) (Nat.le_of_ble_eq_true rfl) (fun f1 m1 hc => ?_)
    obtain ⟨gv1, π1, M1, hs1, hL1, hB1, hB2, ho1, hf1⟩ := hc
    have hr1 := hr.fr hf1 (fun k hk h => by rcases h with h | h | h <;> omega)
    obtain ⟨r0, ⟨g1, a1, e1⟩, ⟨g2, a2, e2⟩, ⟨g3, a3, e3⟩, ⟨g4, a4, e4⟩, ⟨g5, a5, e5⟩, ⟨g6, a6, e6⟩, ⟨g7, a7, e7⟩, ⟨g8, a8, e8⟩, ⟨g9, a9, e9⟩, ⟨g10, a10, e10⟩⟩ := id hr1
    refine v_aload_n dX3_wind_32 rfl rfl ?_
    refine v_getfield fX3_34 dX3_wind_33 (by assumption) (by rfl) ?_
    refine v_iload_n dX3_wind_36 rfl rfl ?_
    refine v_callV1 kX3_115 gi_X1_refusal ge_X1_refusal rfl dX3_wind_37 r0 (c_refusal hr1 (by omega) hv hL1 ha hb hu hat hnow) rfl rfl (by decide) (Nat.le_of_ble_eq_true rfl) (fun f2 m2 hc => ?_)
    obtain ⟨hL2, hf2⟩ := hc
    obtain ⟨x, hx⟩ : ∃ x, sRef N s (ρ 3 0) (ρ 3 1) (ρ 2 u) tm a b = x := ⟨_, rfl⟩
    rw [hx] at href ⊢
    clear hx
    have ho2 := hf2 _ _ _ ho1 (by omega)
    have hr2 := hr1.fr hf2 (fun k hk h => by omega)
    have r02 := hr2.1
    refine v_istore_n dX3_wind_40 rfl (by decide) ?_
    refine v_iload_n dX3_wind_41 rfl rfl ?_
    refine v_if_ne 69 dX3_wind_42 (by decide) (fun _ => ?_) (fun b42 => absurd b42 href.1)
    refine v_aload_n dX3_wind_69 rfl rfl ?_
    refine v_getfield fX3_34 dX3_wind_70 ho2 (by rfl) ?_
    refine v_dup dX3_wind_73 rfl ?_
    refine v_getfield fX3_124 dX3_wind_74 r02 (by rfl) ?_
    refine v_iconst (1) dX3_wind_77 (by decide) ?_
    refine v_iadd dX3_wind_78 ?_
    refine v_putfieldX fX3_124 dX3_wind_79 r02 rfl rfl (Nat.le_of_ble_eq_true rfl) (fun f4 hp => ?_)
    have hf4 : zFr (fun τ => τ = 0) f2 f4 := zFr.put (T := fun τ => τ = 0) zFr.refl hp rfl
    refine v_iload_n dX3_wind_82 rfl rfl ?_
    exact v_ireturn dX3_wind_83 rfl ⟨rfl, ZP.of hs1 (hL2.fr hf4 (fun t ht => by omega)) hB1 hB2 ho1 hf1 ((hf2.weaken (fun τ h => Or.inl h)).trans (hf4.weaken (fun τ h => Or.inr (by omega)))) (hr2.sc (fun i => if i = 4 then ρ 0 4 + 1 else ρ 0 i) hp.1 hf4)⟩
  · exact absurd b15 (by rw [show (200 : Int32) = nI 200 from rfl, nI_ltI (by omega) (by omega)]; omega)
set_option maxRecDepth 10000 in
set_option maxHeartbeats 1000000 in
theorem c_nails {G : zW} {f : zHM} {m : Nat × Nat} {o r tr sc tx sl sv k la n : Nat} {A : Nat → Nat} {ρ : zRS} {xs tm : Nat → Int32} (ho : f o = some (600, .inr (3, zOb r tr sc tx sl sv k))) (hr : RPic f 0 r la A ρ n xs tm) (hn201 : n ≤ 201) {M : Nat × Nat} (hL : LNok f m la M) {gv : Nat → Option Nat} {π : Nat → Nat} {st : Nat → zST} (hs : SVP f sv la gv π k st) (hB : M.1 + 11 * zcn gv 6 ≤ 50000 ∧ M.2 + 1339 * zcn gv 6 ≤ 399990) {N s : Nat} (hw : RW ρ N s n) {x : Int32} (hst : ¬ sStepOf x = -1) : zM G yX3_nails cX3_nails 4 (some .int) 7 [.ref o, .int x] (f, m) (zD (some (.int (ρ 0 0))) (ZP f o r tr sc tx sl sv k la A gv st M (ρ, n, xs, tm) (sNailsS (sAllOff ρ xs tm s n) x, 0, (sDn ρ xs tm s n n).2.1, (sDn ρ xs tm s n n).2.2))) := by
  refine zM.of (by decide) (Nat.le_of_ble_eq_true rfl) ?_
  have r0 := hr.1
  refine v_iload_n dX3_nails_0 rfl rfl ?_
  refine v_callSp kX3_41 gs_X3_stepOf dX3_nails_1 c_stepOf rfl rfl (by decide) (Nat.le_of_ble_eq_true rfl) ?_
  rw [sStepOf_div hst]
  rw [sStepOf_div hst] at hst
  refine v_istore_n dX3_nails_4 rfl (by decide) ?_
  refine v_iload_n dX3_nails_5 rfl rfl ?_
  refine v_iconst (-1) dX3_nails_6 (by decide) ?_
  refine v_icmp_ne 20 dX3_nails_7 (by decide) (fun b7 => ?_) (fun b7 => ?_)
  · refine v_aload_n dX3_nails_20 rfl rfl ?_
    refine v_callV0 kX3_52 gi_X3_save ge_X3_save rfl dX3_nails_21 (by assumption) (c_save ho hr hn201 hL hs hB) rfl rfl (by decide) (Nat.le_of_ble_eq_true rfl) (fun f1 m1 hc => ?_)
    obtain ⟨gv1, π1, M1, hs1, hL1, hB1, hB2, ho1, hf1⟩ := hc
    have hr1 := hr.fr hf1 (fun k hk h => by rcases h with h | h | h <;> omega)
    obtain ⟨r0, ⟨g1, a1, e1⟩, ⟨g2, a2, e2⟩, ⟨g3, a3, e3⟩, ⟨g4, a4, e4⟩, ⟨g5, a5, e5⟩, ⟨g6, a6, e6⟩, ⟨g7, a7, e7⟩, ⟨g8, a8, e8⟩, ⟨g9, a9, e9⟩, ⟨g10, a10, e10⟩⟩ := id hr1
    refine v_aload_n dX3_nails_24 rfl rfl ?_
    refine v_getfield fX3_34 dX3_nails_25 (by assumption) (by rfl) ?_
    refine v_getfield fX3_55 dX3_nails_28 (by assumption) (by rfl) ?_
    refine v_istore_n dX3_nails_31 rfl (by decide) ?_
    refine v_aload_n dX3_nails_32 rfl rfl ?_
    refine v_getfield fX3_34 dX3_nails_33 (by assumption) (by rfl) ?_
    refine v_callV0 kX3_59 gi_X1_takeAllOff ge_X1_takeAllOff rfl dX3_nails_36 r0 (c_takeAllOff hr1 (by omega) hw hL1) rfl rfl (by decide) (Nat.le_of_ble_eq_true rfl) (fun f2 m2 hc => ?_)
    obtain ⟨hr2, hL2, hf2⟩ := hc
    generalize sAllOff ρ xs tm s n = ρ2 at hr2 ⊢
    generalize (sDn ρ xs tm s n n).2.1 = xs2 at hr2 ⊢
    generalize (sDn ρ xs tm s n n).2.2 = tm2 at hr2 ⊢
    have ho2 := hf2 _ _ _ ho1 (fun h => by rcases h with h | h <;> omega)
    have r02 := hr2.1
    refine v_aload_n dX3_nails_39 rfl rfl ?_
    refine v_getfield fX3_34 dX3_nails_40 ho2 (by rfl) ?_
    refine v_iload_n dX3_nails_43 rfl rfl ?_
    refine v_putfieldX fX3_55 dX3_nails_44 r02 rfl rfl (Nat.le_of_ble_eq_true rfl) (fun f3 hp3 => ?_)
    have hf3 : zFr (fun τ => τ = 0) f2 f3 := zFr.put (T := fun τ => τ = 0) zFr.refl hp3 rfl
    have ho3 := hf3 _ _ _ ho2 (by omega)
    refine v_aload_n dX3_nails_47 rfl rfl ?_
    refine v_getfield fX3_34 dX3_nails_48 ho3 (by rfl) ?_
    refine v_iload_n dX3_nails_51 rfl rfl ?_
    refine v_putfieldX fX3_62 dX3_nails_52 hp3.1 rfl rfl (Nat.le_of_ble_eq_true rfl) (fun f4 hp4 => ?_)
    have hf4 : zFr (fun τ => τ = 0) f2 f4 := zFr.put (T := fun τ => τ = 0) hf3 hp4 rfl
    have ho4 := hf4 _ _ _ ho2 (by omega)
    refine v_aload_n dX3_nails_55 rfl rfl ?_
    refine v_getfield fX3_34 dX3_nails_56 ho4 (by rfl) ?_
    refine v_iconst (0) dX3_nails_59 (by decide) ?_
    refine v_putfieldX fX3_65 dX3_nails_60 hp4.1 rfl rfl (Nat.le_of_ble_eq_true rfl) (fun f5 hp5 => ?_)
    have hf5 : zFr (fun τ => τ = 0) f2 f5 := zFr.put (T := fun τ => τ = 0) hf4 hp5 rfl
    refine v_iload_n dX3_nails_63 rfl rfl ?_
    exact v_ireturn dX3_nails_64 rfl ⟨rfl, ZP.of hs1 (hL2.fr hf5 (fun t ht => by omega)) hB1 hB2 ho1 hf1 (hf2.trans (hf5.weaken (fun τ h => Or.inr (by omega)))) (hr2.sc (fun i => if i = 0 then x else if i = 1 then 0 else ρ2 0 i) hp5.1 hf5)⟩
  · exact absurd b7 hst
end
section
def sWBs (N s : Nat) (ρ : zRS) (n : Nat) (xs tm : Nat → Int32) : Option zST :=
  if sBest ρ N s tm (zn (ρ 0 1)) (zn (ρ 0 2)) = -1 ∨ 200 ≤ n ∨ sGain ρ s (ρ 1 (zn (ρ 0 2))) (zn (ρ 0 1)) (zn (sBest ρ N s tm (zn (ρ 0 1)) (zn (ρ 0 2)))) ≤ 0 then none
  else some (sWBn ρ s n xs tm (zn (ρ 0 1)) (zn (sBest ρ N s tm (zn (ρ 0 1)) (zn (ρ 0 2)))) (zn (ρ 0 2)))
/-- winding the best chord again and again -/
def sWB (N s : Nat) : Nat → zST → zST × Nat
  | 0, S => (S, 0)
  | j + 1, S => match sWBs N s S.1 S.2.1 S.2.2.1 S.2.2.2 with
    | none => (S, 0)
    | some S' => ((sWB N s j S').1, (sWB N s j S').2 + 1)
theorem sWB_no {N s j n : Nat} {ρ : zRS} {xs tm : Nat → Int32} (h : sWBs N s ρ n xs tm = none) : sWB N s (j + 1) (ρ, n, xs, tm) = ((ρ, n, xs, tm), 0) := by
  show (match sWBs N s ρ n xs tm with
    | none => ((ρ, n, xs, tm), 0)
    | some S' => ((sWB N s j S').1, (sWB N s j S').2 + 1)) = _
  rw [h]
theorem sWB_so {N s j n : Nat} {ρ : zRS} {xs tm : Nat → Int32} {S' : zST} (h : sWBs N s ρ n xs tm = some S') : sWB N s (j + 1) (ρ, n, xs, tm) = ((sWB N s j S').1, (sWB N s j S').2 + 1) := by
  show (match sWBs N s ρ n xs tm with
    | none => ((ρ, n, xs, tm), 0)
    | some S' => ((sWB N s j S').1, (sWB N s j S').2 + 1)) = _
  rw [h]
theorem sWBs_1 {N s n a u : Nat} {ρ : zRS} {xs tm : Nat → Int32} (ha : zn (ρ 0 1) = a) (hu : zn (ρ 0 2) = u) (h : sBest ρ N s tm a u = -1) : sWBs N s ρ n xs tm = none := by
  unfold sWBs
  rw [ha, hu]
  exact if_pos (Or.inl h)
theorem sWBs_2 {N s n : Nat} {ρ : zRS} {xs tm : Nat → Int32} (h : 200 ≤ n) : sWBs N s ρ n xs tm = none := if_pos (Or.inr (Or.inl h))
theorem sWBs_3 {N s n a u b : Nat} {ρ : zRS} {xs tm : Nat → Int32} (ha : zn (ρ 0 1) = a) (hu : zn (ρ 0 2) = u) (h : sBest ρ N s tm a u = nI b) (hb : b < 24) (hg : sGain ρ s (ρ 1 u) a b ≤ 0) : sWBs N s ρ n xs tm = none := by
  unfold sWBs
  rw [ha, hu, h, zn_nI (by omega)]
  exact if_pos (Or.inr (Or.inr hg))
theorem sWBs_4 {N s n a u b : Nat} {ρ : zRS} {xs tm : Nat → Int32} (ha : zn (ρ 0 1) = a) (hu : zn (ρ 0 2) = u) (h : sBest ρ N s tm a u = nI b) (hb : b < 24) (hn : n < 200) (hg : ¬ sGain ρ s (ρ 1 u) a b ≤ 0) : sWBs N s ρ n xs tm = some (sWBn ρ s n xs tm a b u) := by
  unfold sWBs
  rw [ha, hu, h, zn_nI (by omega)]
  exact if_neg (fun z => z.elim (nI_m1 (by omega)) (fun z => z.elim (fun z => by omega) hg))
set_option maxRecDepth 10000 in
set_option maxHeartbeats 1000000 in
theorem c_windBest {G : zW} {f : zHM} {m : Nat × Nat} {o r tr sc tx sl sv k la n : Nat} {A : Nat → Nat} {ρ : zRS} {xs tm : Nat → Int32} (ho : f o = some (600, .inr (3, zOb r tr sc tx sl sv k))) (hr : RPic f 0 r la A ρ n xs tm) (hn201 : n ≤ 201) {M : Nat × Nat} (hL : LNok f m la M) {gv : Nat → Option Nat} {π : Nat → Nat} {st : Nat → zST} (hs : SVP f sv la gv π k st) (hB : M.1 + 11 * zcn gv 6 ≤ 50000 ∧ M.2 + 1339 * zcn gv 6 ≤ 399990) {N s : Nat} (hw : RW ρ N s n) {a u : Nat} (ha : a < N) (hu : u < 3) (hat : ρ 0 1 = nI a) (hnow : ρ 0 2 = nI u) {w : Nat} (hw1 : 1 ≤ w) (hw50 : w ≤ 50) : zM G yX3_windBest cX3_windBest 4 (some .int) 7 [.ref o, .int (nI w)] (f, m) (zD (some (.int (nI (sWB N s w (ρ, n, xs, tm)).2))) (ZP f o r tr sc tx sl sv k la A gv st M (ρ, n, xs, tm) (sWB N s w (ρ, n, xs, tm)).1)) := by
  refine zM.of (by decide) (Nat.le_of_ble_eq_true rfl) ?_
  have r0 := hr.1
  refine v_iload_n dX3_windBest_0 rfl rfl ?_
  refine v_iconst (1) dX3_windBest_1 (by decide) ?_
  refine v_bipush (50) dX3_windBest_2 (by decide) ?_
  refine v_callS0p kX3_72 gs_X3_needRange dX3_windBest_4 (c_needRange (by rw [show (1 : Int32) = nI 1 from rfl, nI_ltI (by omega) (by omega)]; omega) (by rw [show (50 : Int32) = nI 50 from rfl, nI_leI (by omega) (by omega)]; exact hw50)) rfl rfl (by decide) (Nat.le_of_ble_eq_true rfl) ?_
  refine v_aload_n dX3_windBest_7 rfl rfl ?_
  refine v_callV0 kX3_52 gi_X3_save ge_X3_save rfl dX3_windBest_8 (by assumption) (c_save ho hr hn201 hL hs hB) rfl rfl (by decide) (Nat.le_of_ble_eq_true rfl) (fun f1 m1 hc => ?_)
  obtain ⟨gv1, π1, M1, hs1, hL1, hB1, hB2, ho1, hf1⟩ := hc
  have hr1 := hr.fr hf1 (fun k hk h => by rcases h with h | h | h <;> omega)
  obtain ⟨r0, ⟨g1, a1, e1⟩, ⟨g2, a2, e2⟩, ⟨g3, a3, e3⟩, ⟨g4, a4, e4⟩, ⟨g5, a5, e5⟩, ⟨g6, a6, e6⟩, ⟨g7, a7, e7⟩, ⟨g8, a8, e8⟩, ⟨g9, a9, e9⟩, ⟨g10, a10, e10⟩⟩ := id hr1
  obtain ⟨S0, hS0⟩ : ∃ S0 : zST, (ρ, n, xs, tm) = S0 := ⟨_, rfl⟩
  have hs1 : SVP f1 sv la gv1 π1 (sPK k) (sPS k st S0) := by rw [← hS0]; exact hs1
  have loop : ∀ (j i : Nat), i + j = w → ∀ (ρ : zRS) (n : Nat) (xs tm : Nat → Int32) (f2 : zHM) (m2 : Nat × Nat) (a u : Nat), RPic f2 0 r la A ρ n xs tm → RW ρ N s n → a < N → u < 3 → ρ 0 1 = nI a → ρ 0 2 = nI u → LNok f2 m2 la M1 → f2 o = some (600, .inr (3, zOb r tr sc tx sl sv (sPK k))) → zFr (zTR 0) f1 f2 → zV G yX3_windBest cX3_windBest 4 (some .int) 7 13 [(0, .ref o), (1, .int (nI w)), (2, .int (nI i))] [] (f2, m2) (zD (some (.int (nI (i + (sWB N s j (ρ, n, xs, tm)).2)))) (ZP f o r tr sc tx sl sv k la A gv st M S0 (sWB N s j (ρ, n, xs, tm)).1)) := by
    intro j
    induction j with
    | zero =>
      intro i hi ρ n xs tm f2 m2 a u hr hw ha hu hat hnow hL2 ho2 hff
      have hi : i = w := by omega
      subst hi
      refine v_iload_n dX3_windBest_13 rfl rfl ?_
      refine v_iload_n dX3_windBest_14 rfl rfl ?_
      refine v_icmp_ge 84 dX3_windBest_15 (by decide) (fun _ => ?_) (fun b15 => absurd (by rw [nI_leI (by omega) (by omega)]; omega) b15)
      refine v_iload_n dX3_windBest_84 rfl rfl ?_
      exact v_ireturn dX3_windBest_85 rfl ⟨rfl, ZP.of hs1 hL2 hB1 hB2 ho1 hf1 hff hr⟩
    | succ j ih =>
      intro i hi ρ n xs tm f2 m2 a u hr hw ha hu hat hnow hL2 ho2 hff
      have hv := hw.1
      have hv9 := hv.pos
      have r0 := hr.1
      have hza : zn (ρ 0 1) = a := by rw [hat, zn_nI (by omega)]
      have hzu : zn (ρ 0 2) = u := by rw [hnow, zn_nI (by omega)]
      have hn201 := hw.2.1
      refine v_iload_n dX3_windBest_13 rfl rfl ?_
      refine v_iload_n dX3_windBest_14 rfl rfl ?_
      refine v_icmp_ge 84 dX3_windBest_15 (by decide) (fun b15 => absurd b15 (by rw [nI_leI (by omega) (by omega)]; omega)) (fun _ => ?_)
      refine v_aload_n dX3_windBest_18 rfl rfl ?_
      refine v_getfield fX3_34 dX3_windBest_19 ho2 (by rfl) ?_
      refine v_callV1 kX3_132 gi_X1_bestNail ge_X1_bestNail rfl dX3_windBest_22 r0 (c_bestNail hr (by omega) hv hL2 ha hu hat hnow) rfl rfl (by decide) (Nat.le_of_ble_eq_true rfl) (fun f3 m3 hc => ?_)
      obtain ⟨hL3, hf3⟩ := hc
      have ho3 := hf3 _ _ _ ho2 (by omega)
      have hr3 := hr.fr hf3 (fun k hk h => by omega)
      have hff3 : zFr (zTR 0) f1 f3 := hff.trans (hf3.weaken (fun τ h => Or.inl h))
      rcases sBest_in ρ N s tm a u with hx | ⟨b, hb, hx, hab⟩
      · have hno := sWB_no (j := j) (sWBs_1 (n := n) (xs := xs) hza hzu hx)
        rw [hno, hx]
        clear hx hno
        refine v_istore_n dX3_windBest_25 rfl (by decide) ?_
        refine v_iload_n dX3_windBest_26 rfl rfl ?_
        refine v_iconst (-1) dX3_windBest_27 (by decide) ?_
        refine v_icmp_eq 55 dX3_windBest_28 (by decide) (fun _ => ?_) (fun z => absurd rfl z)
        refine v_iload_n dX3_windBest_55 rfl rfl ?_
        exact v_ireturn dX3_windBest_56 rfl ⟨rfl, ZP.of hs1 hL3 hB1 hB2 ho1 hf1 hff3 hr3⟩
      rw [hx]
      refine v_istore_n dX3_windBest_25 rfl (by decide) ?_
      refine v_iload_n dX3_windBest_26 rfl rfl ?_
      refine v_iconst (-1) dX3_windBest_27 (by decide) ?_
      refine v_icmp_eq 55 dX3_windBest_28 (by decide) (fun z => absurd z (nI_m1 (by omega))) (fun _ => ?_)
      refine v_aload_n dX3_windBest_31 rfl rfl ?_
      refine v_getfield fX3_34 dX3_windBest_32 ho3 (by rfl) ?_
      refine v_getfield fX3_110 dX3_windBest_35 hr3.1 (by rfl) ?_
      refine v_sipush (nI 200) dX3_windBest_38 (by decide) ?_
      refine v_icmp_ge 55 dX3_windBest_41 (by decide) (fun hge => ?_) (fun hlt => ?_)
      · rw [nI_leI (by omega) (by omega)] at hge
        rw [sWB_no (j := j) (sWBs_2 (N := N) (s := s) (ρ := ρ) (xs := xs) (tm := tm) hge)]
        refine v_iload_n dX3_windBest_55 rfl rfl ?_
        exact v_ireturn dX3_windBest_56 rfl ⟨rfl, ZP.of hs1 hL3 hB1 hB2 ho1 hf1 hff3 hr3⟩
      rw [nI_leI (by omega) (by omega)] at hlt
      refine v_aload_n dX3_windBest_44 rfl rfl ?_
      refine v_getfield fX3_34 dX3_windBest_45 ho3 (by rfl) ?_
      refine v_iload_n dX3_windBest_48 rfl rfl ?_
      refine v_callV1 kX3_136 gi_X1_gainTo ge_X1_gainTo rfl dX3_windBest_49 hr3.1 (c_gainTo hr3 (by omega) hv hL3 ha hb hab hu hat hnow) rfl rfl (by decide) (Nat.le_of_ble_eq_true rfl) (fun f4 m4 hc => ?_)
      obtain ⟨hL4, hf4⟩ := hc
      have ho4 := hf4 _ _ _ ho3 (by omega)
      have hr4 := hr3.fr hf4 (fun k hk h => by omega)
      have hff4 : zFr (zTR 0) f1 f4 := hff3.trans (hf4.weaken (fun τ h => Or.inl h))
      have hq1 := fun g => sWB_no (j := j) (sWBs_3 (n := n) (xs := xs) hza hzu hx (by omega) g)
      have hq2 := fun g => sWB_so (j := j) (sWBs_4 (n := n) (xs := xs) hza hzu hx (by omega) (by omega) g)
      clear hx
      generalize sGain ρ s (ρ 1 u) a b = y at hq1 hq2 ⊢
      refine v_if_gt 57 dX3_windBest_52 (by decide) (fun hgt => ?_) (fun hle => ?_)
      rotate_left
      · rw [hq1 (Int32.not_lt.mp hle)]
        refine v_iload_n dX3_windBest_55 rfl rfl ?_
        exact v_ireturn dX3_windBest_56 rfl ⟨rfl, ZP.of hs1 hL4 hB1 hB2 ho1 hf1 hff4 hr4⟩
      rw [hq2 (Int32.not_le.mpr hgt)]
      clear hq1 hq2
      refine v_aload_n dX3_windBest_57 rfl rfl ?_
      refine v_getfield fX3_34 dX3_windBest_58 ho4 (by rfl) ?_
      refine v_iload_n dX3_windBest_61 rfl rfl ?_
      refine v_callV0 kX3_118 gi_X1_lay ge_X1_lay rfl dX3_windBest_62 hr4.1 (c_lay hr4 (by omega) (by omega) hv hL4 ha hb hab hu hat hnow) rfl rfl (by decide) (Nat.le_of_ble_eq_true rfl) (fun f5 m5 hc => ?_)
      obtain ⟨hr5, hL5, hf5⟩ := hc
      have hw5 : RW (sLay ρ s n a b u) N s (n + 1) := hw.lay (by omega) ha hb hab hu
      have hat5 : sLay ρ s n a b u 0 1 = nI b := rfl
      have hnow5 : sLay ρ s n a b u 0 2 = nI u := hnow
      unfold sWBn
      generalize sLay ρ s n a b u = ρ2 at hr5 hw5 hat5 hnow5 ⊢
      generalize sInL (sPa s a b) 1 xs = xs2 at hr5 ⊢
      generalize sPutT tm (sPr (a * s) (b * s)) 1 = tm2 at hr5 ⊢
      have ho5 := hf5 _ _ _ ho4 (fun h => by rcases h with h | h <;> omega)
      refine v_aload_n dX3_windBest_65 rfl rfl ?_
      refine v_getfield fX3_34 dX3_windBest_66 ho5 (by rfl) ?_
      refine v_dup dX3_windBest_69 rfl ?_
      refine v_getfield fX3_121 dX3_windBest_70 hr5.1 (by rfl) ?_
      refine v_iconst (1) dX3_windBest_73 (by decide) ?_
      refine v_iadd dX3_windBest_74 ?_
      refine v_putfieldX fX3_121 dX3_windBest_75 hr5.1 rfl rfl (Nat.le_of_ble_eq_true rfl) (fun f6 hp => ?_)
      have hf6 : zFr (fun τ => τ = 0) f5 f6 := zFr.put (T := fun τ => τ = 0) zFr.refl hp rfl
      have hr6 : RPic f6 0 r la A (sInc ρ2 3) (n + 1) xs2 tm2 := hr5.sc (fun i => if i = 3 then ρ2 0 3 + 1 else ρ2 0 i) hp.1 hf6
      have hff6 : zFr (zTR 0) f1 f6 := (hff4.trans hf5).trans (hf6.weaken (fun τ h => Or.inr (by omega)))
      have ho6 := hf6 _ _ _ ho5 (by omega)
      refine v_iincN dX3_windBest_78 rfl (by decide) ?_
      refine v_goto 13 dX3_windBest_81 (by decide) ?_
      have hih := ih (i + 1) (by omega) (sInc ρ2 3) (n + 1) xs2 tm2 f6 m5 b u hr6 (hw5.sc _ rfl) hb hu hat5 hnow5 (hL5.fr hf6 (fun t ht => by omega)) ho6 hff6
      rw [show i + 1 + (sWB N s j (sInc ρ2 3, n + 1, xs2, tm2)).2 = i + ((sWB N s j (sInc ρ2 3, n + 1, xs2, tm2)).2 + 1) from by omega] at hih
      exact v_loc (lv' := [(0, .ref o), (1, .int (nI w)), (2, .int (nI (i + 1)))]) ⟨rfl, rfl, rfl, trivial⟩ hih
  refine v_iconst (nI 0) dX3_windBest_11 (by decide) ?_
  refine v_istore_n dX3_windBest_12 rfl (by decide) ?_
  have h9 := loop w 0 (by omega) ρ n xs tm f1 m1 a u hr1 hw ha hu hat hnow hL1 ho1 zFr.refl
  rw [Nat.zero_add, ← hS0] at h9
  exact v_loc (lv' := [(0, .ref o), (1, .int (nI w)), (2, .int (nI 0))]) ⟨rfl, rfl, rfl, trivial⟩ h9
end
section
def ZPT (T : Nat → Prop) (f : zHM) (o r tr sc tx sl sv k la : Nat) (A : Nat → Nat) (gv : Nat → Option Nat) (st : Nat → zST) (M : Nat × Nat) (S S2 : zST) : zHM → Nat × Nat → Prop := fun f' m' => ∃ gv' π' M', SVP f' sv la gv' π' (sPK k) (sPS k st S) ∧ LNok f' m' la M' ∧ M'.1 + 11 * zcn gv' 6 = M.1 + 11 * zcn gv 6 ∧ M'.2 + 1339 * zcn gv' 6 = M.2 + 1339 * zcn gv 6 ∧ f' o = some (600, .inr (3, zOb r tr sc tx sl sv (sPK k))) ∧ RPic f' 0 r la A S2.1 S2.2.1 S2.2.2.1 S2.2.2.2 ∧ zFr T f f' ∧ ∃ g, f' sc = some (601, .inl (0, 144, .inl g))
theorem ZPT.of {T T7 : Nat → Prop} {f f1 f2 : zHM} {m2 : Nat × Nat} {o r tr sc tx sl sv k la : Nat} {A : Nat → Nat} {gv gv1 : Nat → Option Nat} {π1 : Nat → Nat} {st : Nat → zST} {M M1 : Nat × Nat} {S S2 : zST} (h1 : SVP f1 sv la gv1 π1 (sPK k) (sPS k st S)) (h2 : LNok f2 m2 la M1) (h3 : M1.1 + 11 * zcn gv1 6 = M.1 + 11 * zcn gv 6) (h4 : M1.2 + 1339 * zcn gv1 6 = M.2 + 1339 * zcn gv 6) (h5 : f1 o = some (600, .inr (3, zOb r tr sc tx sl sv (sPK k)))) (h6 : zFr zTS f f1) (h7 : zFr T7 f1 f2) (hT : ∀ τ, zTS τ → T τ) (hT7 : ∀ τ, T7 τ → T τ ∧ ¬ zTS τ) (h8 : RPic f2 0 r la A S2.1 S2.2.1 S2.2.2.1 S2.2.2.2) {g : Nat → Int32} (h9 : f2 sc = some (601, .inl (0, 144, .inl g))) : ZPT T f o r tr sc tx sl sv k la A gv st M S S2 f2 m2 :=
  ⟨gv1, π1, M1, h1.fr h7 (fun τ h h9 => (hT7 τ h9).2 (Or.inr h)), h2, h3, h4, h7 _ _ _ h5 (fun h9 => (hT7 _ h9).2 (Or.inl rfl)), h8, (h6.weaken hT).trans (h7.weaken (fun τ h => (hT7 τ h).1)), g, h9⟩
abbrev zTV : Nat → Prop := fun τ => τ ≤ 10 ∨ τ = 600 ∨ τ = 601 ∨ τ = 605 ∨ (100 ≤ τ ∧ τ ≤ 210) ∨ τ = 950
def sTs : Nat → Nat → Nat
  | 0, p => (11 - p % 12) * 12 + p / 12
  | 1, p => p / 12 * 12 + (11 - p % 12)
  | _, p => p
def sTv (w : Nat) (x : Int32) : Int32 := if w = 2 then 9 - x else x
def sTurn (w : Nat) (g : Nat → Int32) : Nat → Int32 := fun p => sTv w (g (sTs w p))
theorem zcp0 (g' g φ : Nat → Int32) (N : Nat) (hN : N < 2 ^ 31) (he : ∀ i, i < N → g' i = φ i) : ∀ i, i < N → va_cpy g' g (nI 0).toNatClampNeg (nI 0).toNatClampNeg (nI N).toNatClampNeg i = φ i := fun i hi => by
  rw [show (nI 0).toNatClampNeg = 0 from rfl, nI_clamp hN, pk_cpy_in (Nat.zero_le i) (by omega), ← he i hi]
  congr 1
  omega
theorem sTs_lt {w p : Nat} (h : p < 144) : sTs w p < 144 := by
  unfold sTs
  split <;> omega
set_option maxRecDepth 10000 in
set_option maxHeartbeats 1000000 in
theorem c_turnFace_0 {G : zW} {f : zHM} {m : Nat × Nat} {o r tr sc tx sl sv k la n : Nat} {A : Nat → Nat} {ρ : zRS} {xs tm : Nat → Int32} (ho : f o = some (600, .inr (3, zOb r tr sc tx sl sv k))) (hr : RPic f 0 r la A ρ n xs tm) (hn201 : n ≤ 201) {M : Nat × Nat} (hL : LNok f m la M) {gv : Nat → Option Nat} {π : Nat → Nat} {st : Nat → zST} (hs : SVP f sv la gv π k st) (hB : M.1 + 11 * zcn gv 6 ≤ 50000 ∧ M.2 + 1339 * zcn gv 6 ≤ 399990) {gsc : Nat → Int32} (hsc : f sc = some (601, .inl (0, 144, .inl gsc))) : zM G yX3_turnFace cX3_turnFace 5 (some .int) 7 [.ref o, .int (nI 0)] (f, m) (zD (some (.int (sMisfit (zset ρ 7 (sTurn 0 (ρ 7)))))) (ZPT zTV f o r tr sc tx sl sv k la A gv st M (ρ, n, xs, tm) (zset ρ 7 (sTurn 0 (ρ 7)), n, xs, tm))) := by
  refine zM.of (by decide) (Nat.le_of_ble_eq_true rfl) ?_
  have r0 := hr.1
  refine v_iload_n dX3_turnFace_0 rfl rfl ?_
  refine v_iconst (nI 0) dX3_turnFace_1 (by decide) ?_
  refine v_iconst (nI 2) dX3_turnFace_2 (by decide) ?_
  refine v_callS0p kX3_72 gs_X3_needRange dX3_turnFace_3 (c_needRange (nI_pos (by omega)) (show nI 0 ≤ nI 2 from by decide)) rfl rfl (by decide) (Nat.le_of_ble_eq_true rfl) ?_
  refine v_aload_n dX3_turnFace_6 rfl rfl ?_
  refine v_callV0 kX3_52 gi_X3_save ge_X3_save rfl dX3_turnFace_7 (by assumption) (c_save ho hr hn201 hL hs hB) rfl rfl (by decide) (Nat.le_of_ble_eq_true rfl) (fun f1 m1 hc => ?_)
  obtain ⟨gv1, π1, M1, hs1, hL1, hB1, hB2, ho1, hf1⟩ := hc
  have hr1 := hr.fr hf1 (fun k hk h => by rcases h with h | h | h <;> omega)
  obtain ⟨r0, ⟨g1, a1, e1⟩, ⟨g2, a2, e2⟩, ⟨g3, a3, e3⟩, ⟨g4, a4, e4⟩, ⟨g5, a5, e5⟩, ⟨g6, a6, e6⟩, ⟨g7, a7, e7⟩, ⟨g8, a8, e8⟩, ⟨g9, a9, e9⟩, ⟨g10, a10, e10⟩⟩ := id hr1
  have hsc1 := hf1 _ _ _ hsc (fun h => by rcases h with h | h | h <;> omega)
  refine v_aload_n dX3_turnFace_10 rfl rfl ?_
  refine v_getfield fX3_34 dX3_turnFace_11 (by assumption) (by rfl) ?_
  refine v_getfield fX3_143 dX3_turnFace_14 (by assumption) (by rfl) ?_
  refine v_iconst (nI 0) dX3_turnFace_17 (by decide) ?_
  refine v_aload_n dX3_turnFace_18 rfl rfl ?_
  refine v_getfield fX3_9 dX3_turnFace_19 (by assumption) (by rfl) ?_
  refine v_iconst (nI 0) dX3_turnFace_22 (by decide) ?_
  refine v_sipush (nI 144) dX3_turnFace_23 (by decide) ?_
  refine v_copyIX gcpX3 gcpN gcpS gcpI dX3_turnFace_26 a7 hsc1 (by decide) (by decide) (nI_pos (by omega)) (by rw [show (nI 0).toNatClampNeg = 0 from rfl, nI_clamp (by omega)]; omega) (by rw [show (nI 0).toNatClampNeg = 0 from rfl, nI_clamp (by omega)]; omega) (by decide) (Nat.le_of_ble_eq_true rfl) (fun f2 hp => ?_)
  have hsv := zcp0 g7 gsc (ρ 7) 144 (by omega) e7
  have hsc2 := hp.1
  generalize va_cpy g7 gsc (nI 0).toNatClampNeg (nI 0).toNatClampNeg (nI 144).toNatClampNeg = gs2 at hsv hsc2
  have hf2 : zFr (fun τ => τ = 601) f1 f2 := zFr.put (T := fun τ => τ = 601) zFr.refl hp rfl
  have hr2 := hr1.fr hf2 (fun k hk h => by omega)
  have ho2 := hf2 _ _ _ ho1 (by omega)
  have inner : ∀ (i : Nat), i < 12 → (∀ (f3 : zHM) (g : Nat → Int32), f3 (A 6) = some (0 + 7, .inl (0, 144, .inl g)) → (∀ p, p < 144 → sTs 0 p < (i + 1) * 12 → g p = sTurn 0 (ρ 7) p) → zFr (fun τ => τ = 7) f2 f3 → zV G yX3_turnFace cX3_turnFace 5 (some .int) 7 31 [(0, .ref o), (1, .int (nI 0)), (2, .int (nI (i + 1)))] [] (f3, m1) (zD (some (.int (sMisfit (zset ρ 7 (sTurn 0 (ρ 7)))))) (ZPT zTV f o r tr sc tx sl sv k la A gv st M (ρ, n, xs, tm) (zset ρ 7 (sTurn 0 (ρ 7)), n, xs, tm)))) → ∀ (kk j : Nat), j + kk = 12 → ∀ (f3 : zHM) (g : Nat → Int32), f3 (A 6) = some (0 + 7, .inl (0, 144, .inl g)) → (∀ p, p < 144 → sTs 0 p < i * 12 + j → g p = sTurn 0 (ρ 7) p) → zFr (fun τ => τ = 7) f2 f3 → zV G yX3_turnFace cX3_turnFace 5 (some .int) 7 39 [(0, .ref o), (1, .int (nI 0)), (2, .int (nI i)), (3, .int (nI j))] [] (f3, m1) (zD (some (.int (sMisfit (zset ρ 7 (sTurn 0 (ρ 7)))))) (ZPT zTV f o r tr sc tx sl sv k la A gv st M (ρ, n, xs, tm) (zset ρ 7 (sTurn 0 (ρ 7)), n, xs, tm))) := by
    intro i h12 hout kk
    induction kk with
    | zero =>
      intro j hj f3 g hg hgi hff
      have hj : j = 12 := by omega
      subst hj
      have ho3 := hff _ _ _ ho2 (by omega)
      refine v_iload_n dX3_turnFace_39 rfl rfl ?_
      refine v_bipush (nI 12) dX3_turnFace_40 (by decide) ?_
      refine v_icmp_ge 140 dX3_turnFace_42 (by decide) (fun _ => ?_) (fun b => absurd (by rw [nI_leI (by omega) (by omega)]; omega) b)
      refine v_iincN dX3_turnFace_140 rfl (by decide) ?_
      refine v_goto 31 dX3_turnFace_143 (by decide) ?_
      exact v_loc (lv' := [(0, .ref o), (1, .int (nI 0)), (2, .int (nI (i + 1)))]) ⟨rfl, rfl, rfl, trivial⟩ (hout f3 g hg (fun p h1 h2 => hgi p h1 (by omega)) hff)
    | succ kk ihj =>
      intro j hj f3 g hg hgi hff
      have h9 : j < 12 := by omega
      have ho3 := hff _ _ _ ho2 (by omega)
      have r03 := hff _ _ _ hr2.1 (by omega)
      have hsc3 := hff _ _ _ hsc2 (by omega)
      refine v_iload_n dX3_turnFace_39 rfl rfl ?_
      refine v_bipush (nI 12) dX3_turnFace_40 (by decide) ?_
      refine v_icmp_ge 140 dX3_turnFace_42 (by decide) (fun b42 => ?_) (fun b42 => ?_)
      · rw [nI_leI (by omega) (by omega)] at b42
        omega
      · rw [nI_leI (by omega) (by omega)] at b42
        refine v_aload_n dX3_turnFace_45 rfl rfl ?_
        refine v_getfield fX3_9 dX3_turnFace_46 (by assumption) (by rfl) ?_
        refine v_iload_n dX3_turnFace_49 rfl rfl ?_
        refine v_bipush (nI 12) dX3_turnFace_50 (by decide) ?_
        refine v_imul dX3_turnFace_52 ?_
        rw [pk_mul]
        refine v_iload_n dX3_turnFace_53 rfl rfl ?_
        refine v_iadd dX3_turnFace_54 ?_
        rw [nI_add]
        refine v_iaload dX3_turnFace_55 hsc3 (vp_in_nI (by omega) (by omega)) ?_
        rw [nI_clamp (by omega), hsv _ (by omega)]
        refine v_istore dX3_turnFace_56 (by decide) ?_
        refine v_iload_n dX3_turnFace_58 rfl rfl ?_
        refine v_if_ne 86 dX3_turnFace_59 (by decide) (fun b59 => ?_) (fun b59 => ?_)
        · exact absurd rfl b59
        · refine v_aload_n dX3_turnFace_62 rfl rfl ?_
          refine v_getfield fX3_34 dX3_turnFace_63 (by assumption) (by rfl) ?_
          refine v_getfield fX3_143 dX3_turnFace_66 (by assumption) (by rfl) ?_
          refine v_iload_n dX3_turnFace_69 rfl rfl ?_
          refine v_bipush (nI 12) dX3_turnFace_70 (by decide) ?_
          refine v_imul dX3_turnFace_72 ?_
          rw [pk_mul]
          refine v_bipush (nI 12) dX3_turnFace_73 (by decide) ?_
          refine v_iadd dX3_turnFace_75 ?_
          rw [nI_add]
          refine v_iconst (nI 1) dX3_turnFace_76 (by decide) ?_
          refine v_isub dX3_turnFace_77 ?_
          rw [pk_sub (by omega)]
          refine v_iload_n dX3_turnFace_78 rfl rfl ?_
          refine v_isub dX3_turnFace_79 ?_
          rw [pk_sub (by omega)]
          refine v_iload dX3_turnFace_80 rfl ?_
          refine v_iastoreX dX3_turnFace_82 hg (vp_in_nI (by omega) (by omega)) (fun f4 hp4 => ?_)
          rw [nI_clamp (by omega)] at hp4
          have hf4 : zFr (fun τ => τ = 7) f2 f4 := zFr.put (T := fun τ => τ = 7) hff hp4 rfl
          refine v_goto 134 dX3_turnFace_83 (by decide) ?_
          refine v_iincN dX3_turnFace_134 rfl (by decide) ?_
          refine v_goto 39 dX3_turnFace_137 (by decide) ?_
          refine v_loc (lv' := [(0, .ref o), (1, .int (nI 0)), (2, .int (nI i)), (3, .int (nI (j + 1)))]) ⟨rfl, rfl, rfl, rfl, trivial⟩ (ihj (j + 1) (by omega) f4 _ hp4.1 (fun p hp5 hs5 => ?_) hf4)
          unfold upd
          by_cases e : p = j * 12 + 12 - 1 - i
          · rw [if_pos e]
            unfold sTurn
            rw [show sTs 0 p = i * 12 + j from by rw [show sTs 0 p = (11 - p % 12) * 12 + p / 12 from rfl]; omega]
            rfl
          · rw [if_neg e]
            refine hgi p hp5 ?_
            have h6 : sTs 0 p ≠ i * 12 + j := fun h7 => e (by rw [show sTs 0 p = (11 - p % 12) * 12 + p / 12 from rfl] at h7; omega)
            omega
  have outer : ∀ (kk i : Nat), i + kk = 12 → ∀ (f3 : zHM) (g : Nat → Int32), f3 (A 6) = some (0 + 7, .inl (0, 144, .inl g)) → (∀ p, p < 144 → sTs 0 p < i * 12 → g p = sTurn 0 (ρ 7) p) → zFr (fun τ => τ = 7) f2 f3 → zV G yX3_turnFace cX3_turnFace 5 (some .int) 7 31 [(0, .ref o), (1, .int (nI 0)), (2, .int (nI i))] [] (f3, m1) (zD (some (.int (sMisfit (zset ρ 7 (sTurn 0 (ρ 7)))))) (ZPT zTV f o r tr sc tx sl sv k la A gv st M (ρ, n, xs, tm) (zset ρ 7 (sTurn 0 (ρ 7)), n, xs, tm))) := by
    intro kk
    induction kk with
    | zero =>
      intro i hi f3 g hg hgi hff
      have hi : i = 12 := by omega
      subst hi
      have ho3 := hff _ _ _ ho2 (by omega)
      have hr3 : RPic f3 0 r la A (zset ρ 7 (sTurn 0 (ρ 7))) n xs tm := hr2.ar7 _ ⟨g, hg, fun p hp => hgi p hp (sTs_lt hp)⟩ hff
      refine v_iload_n dX3_turnFace_31 rfl rfl ?_
      refine v_bipush (nI 12) dX3_turnFace_32 (by decide) ?_
      refine v_icmp_ge 146 dX3_turnFace_34 (by decide) (fun _ => ?_) (fun b => absurd (by rw [nI_leI (by omega) (by omega)]; omega) b)
      refine v_aload_n dX3_turnFace_146 rfl rfl ?_
      refine v_getfield fX3_34 dX3_turnFace_147 ho3 (by rfl) ?_
      refine v_callVp kX3_152 gi_X1_misfit ge_X1_misfit rfl dX3_turnFace_150 hr3.1 (c_misfit hr3) rfl rfl (by decide) (Nat.le_of_ble_eq_true rfl) ?_
      exact v_ireturn dX3_turnFace_153 rfl ⟨rfl, ZPT.of hs1 ((hL1.fr hf2 (fun t ht => by omega)).fr hff (fun t ht => by omega)) hB1 hB2 ho1 hf1 ((hf2.weaken (T' := fun τ => τ = 601 ∨ τ = 7) (fun τ h => Or.inl h)).trans (hff.weaken (fun τ h => Or.inr h))) (fun τ h => by show _ ∨ _; omega) (fun τ h => ⟨by show _ ∨ _; omega, fun h9 => by rcases h9 with h9 | h9 | h9 <;> omega⟩) hr3 (hff _ _ _ hsc2 (by omega))⟩
    | succ kk ih =>
      intro i hi f3 g hg hgi hff
      have h9 : i < 12 := by omega
      refine v_iload_n dX3_turnFace_31 rfl rfl ?_
      refine v_bipush (nI 12) dX3_turnFace_32 (by decide) ?_
      refine v_icmp_ge 146 dX3_turnFace_34 (by decide) (fun b => absurd b (by rw [nI_leI (by omega) (by omega)]; omega)) (fun _ => ?_)
      refine v_iconst (nI 0) dX3_turnFace_37 (by decide) ?_
      refine v_istore_n dX3_turnFace_38 rfl (by decide) ?_
      exact v_loc (lv' := [(0, .ref o), (1, .int (nI 0)), (2, .int (nI i)), (3, .int (nI 0))]) ⟨rfl, rfl, rfl, rfl, trivial⟩ (inner i h9 (fun f4 g4 h1 h2 h3 => ih (i + 1) (by omega) f4 g4 h1 h2 h3) 12 0 (by omega) f3 g hg (fun p h1 h2 => hgi p h1 (by omega)) hff)
  obtain ⟨-, -, -, -, -, -, -, ⟨g9, b7, e9⟩, -⟩ := id hr2
  refine v_iconst (nI 0) dX3_turnFace_29 (by decide) ?_
  refine v_istore_n dX3_turnFace_30 rfl (by decide) ?_
  exact v_loc (lv' := [(0, .ref o), (1, .int (nI 0)), (2, .int (nI 0))]) ⟨rfl, rfl, rfl, trivial⟩ (outer 12 0 (by omega) f2 g9 b7 (fun p h1 h2 => absurd h2 (by omega)) zFr.refl)
set_option maxRecDepth 10000 in
set_option maxHeartbeats 1000000 in
theorem c_turnFace_1 {G : zW} {f : zHM} {m : Nat × Nat} {o r tr sc tx sl sv k la n : Nat} {A : Nat → Nat} {ρ : zRS} {xs tm : Nat → Int32} (ho : f o = some (600, .inr (3, zOb r tr sc tx sl sv k))) (hr : RPic f 0 r la A ρ n xs tm) (hn201 : n ≤ 201) {M : Nat × Nat} (hL : LNok f m la M) {gv : Nat → Option Nat} {π : Nat → Nat} {st : Nat → zST} (hs : SVP f sv la gv π k st) (hB : M.1 + 11 * zcn gv 6 ≤ 50000 ∧ M.2 + 1339 * zcn gv 6 ≤ 399990) {gsc : Nat → Int32} (hsc : f sc = some (601, .inl (0, 144, .inl gsc))) : zM G yX3_turnFace cX3_turnFace 5 (some .int) 7 [.ref o, .int (nI 1)] (f, m) (zD (some (.int (sMisfit (zset ρ 7 (sTurn 1 (ρ 7)))))) (ZPT zTV f o r tr sc tx sl sv k la A gv st M (ρ, n, xs, tm) (zset ρ 7 (sTurn 1 (ρ 7)), n, xs, tm))) := by
  refine zM.of (by decide) (Nat.le_of_ble_eq_true rfl) ?_
  have r0 := hr.1
  refine v_iload_n dX3_turnFace_0 rfl rfl ?_
  refine v_iconst (nI 0) dX3_turnFace_1 (by decide) ?_
  refine v_iconst (nI 2) dX3_turnFace_2 (by decide) ?_
  refine v_callS0p kX3_72 gs_X3_needRange dX3_turnFace_3 (c_needRange (nI_pos (by omega)) (show nI 1 ≤ nI 2 from by decide)) rfl rfl (by decide) (Nat.le_of_ble_eq_true rfl) ?_
  refine v_aload_n dX3_turnFace_6 rfl rfl ?_
  refine v_callV0 kX3_52 gi_X3_save ge_X3_save rfl dX3_turnFace_7 (by assumption) (c_save ho hr hn201 hL hs hB) rfl rfl (by decide) (Nat.le_of_ble_eq_true rfl) (fun f1 m1 hc => ?_)
  obtain ⟨gv1, π1, M1, hs1, hL1, hB1, hB2, ho1, hf1⟩ := hc
  have hr1 := hr.fr hf1 (fun k hk h => by rcases h with h | h | h <;> omega)
  obtain ⟨r0, ⟨g1, a1, e1⟩, ⟨g2, a2, e2⟩, ⟨g3, a3, e3⟩, ⟨g4, a4, e4⟩, ⟨g5, a5, e5⟩, ⟨g6, a6, e6⟩, ⟨g7, a7, e7⟩, ⟨g8, a8, e8⟩, ⟨g9, a9, e9⟩, ⟨g10, a10, e10⟩⟩ := id hr1
  have hsc1 := hf1 _ _ _ hsc (fun h => by rcases h with h | h | h <;> omega)
  refine v_aload_n dX3_turnFace_10 rfl rfl ?_
  refine v_getfield fX3_34 dX3_turnFace_11 (by assumption) (by rfl) ?_
  refine v_getfield fX3_143 dX3_turnFace_14 (by assumption) (by rfl) ?_
  refine v_iconst (nI 0) dX3_turnFace_17 (by decide) ?_
  refine v_aload_n dX3_turnFace_18 rfl rfl ?_
  refine v_getfield fX3_9 dX3_turnFace_19 (by assumption) (by rfl) ?_
  refine v_iconst (nI 0) dX3_turnFace_22 (by decide) ?_
  refine v_sipush (nI 144) dX3_turnFace_23 (by decide) ?_
  refine v_copyIX gcpX3 gcpN gcpS gcpI dX3_turnFace_26 a7 hsc1 (by decide) (by decide) (nI_pos (by omega)) (by rw [show (nI 0).toNatClampNeg = 0 from rfl, nI_clamp (by omega)]; omega) (by rw [show (nI 0).toNatClampNeg = 0 from rfl, nI_clamp (by omega)]; omega) (by decide) (Nat.le_of_ble_eq_true rfl) (fun f2 hp => ?_)
  have hsv := zcp0 g7 gsc (ρ 7) 144 (by omega) e7
  have hsc2 := hp.1
  generalize va_cpy g7 gsc (nI 0).toNatClampNeg (nI 0).toNatClampNeg (nI 144).toNatClampNeg = gs2 at hsv hsc2
  have hf2 : zFr (fun τ => τ = 601) f1 f2 := zFr.put (T := fun τ => τ = 601) zFr.refl hp rfl
  have hr2 := hr1.fr hf2 (fun k hk h => by omega)
  have ho2 := hf2 _ _ _ ho1 (by omega)
  have inner : ∀ (i : Nat), i < 12 → (∀ (f3 : zHM) (g : Nat → Int32), f3 (A 6) = some (0 + 7, .inl (0, 144, .inl g)) → (∀ p, p < 144 → sTs 1 p < (i + 1) * 12 → g p = sTurn 1 (ρ 7) p) → zFr (fun τ => τ = 7) f2 f3 → zV G yX3_turnFace cX3_turnFace 5 (some .int) 7 31 [(0, .ref o), (1, .int (nI 1)), (2, .int (nI (i + 1)))] [] (f3, m1) (zD (some (.int (sMisfit (zset ρ 7 (sTurn 1 (ρ 7)))))) (ZPT zTV f o r tr sc tx sl sv k la A gv st M (ρ, n, xs, tm) (zset ρ 7 (sTurn 1 (ρ 7)), n, xs, tm)))) → ∀ (kk j : Nat), j + kk = 12 → ∀ (f3 : zHM) (g : Nat → Int32), f3 (A 6) = some (0 + 7, .inl (0, 144, .inl g)) → (∀ p, p < 144 → sTs 1 p < i * 12 + j → g p = sTurn 1 (ρ 7) p) → zFr (fun τ => τ = 7) f2 f3 → zV G yX3_turnFace cX3_turnFace 5 (some .int) 7 39 [(0, .ref o), (1, .int (nI 1)), (2, .int (nI i)), (3, .int (nI j))] [] (f3, m1) (zD (some (.int (sMisfit (zset ρ 7 (sTurn 1 (ρ 7)))))) (ZPT zTV f o r tr sc tx sl sv k la A gv st M (ρ, n, xs, tm) (zset ρ 7 (sTurn 1 (ρ 7)), n, xs, tm))) := by
    intro i h12 hout kk
    induction kk with
    | zero =>
      intro j hj f3 g hg hgi hff
      have hj : j = 12 := by omega
      subst hj
      have ho3 := hff _ _ _ ho2 (by omega)
      refine v_iload_n dX3_turnFace_39 rfl rfl ?_
      refine v_bipush (nI 12) dX3_turnFace_40 (by decide) ?_
      refine v_icmp_ge 140 dX3_turnFace_42 (by decide) (fun _ => ?_) (fun b => absurd (by rw [nI_leI (by omega) (by omega)]; omega) b)
      refine v_iincN dX3_turnFace_140 rfl (by decide) ?_
      refine v_goto 31 dX3_turnFace_143 (by decide) ?_
      exact v_loc (lv' := [(0, .ref o), (1, .int (nI 1)), (2, .int (nI (i + 1)))]) ⟨rfl, rfl, rfl, trivial⟩ (hout f3 g hg (fun p h1 h2 => hgi p h1 (by omega)) hff)
    | succ kk ihj =>
      intro j hj f3 g hg hgi hff
      have h9 : j < 12 := by omega
      have ho3 := hff _ _ _ ho2 (by omega)
      have r03 := hff _ _ _ hr2.1 (by omega)
      have hsc3 := hff _ _ _ hsc2 (by omega)
      refine v_iload_n dX3_turnFace_39 rfl rfl ?_
      refine v_bipush (nI 12) dX3_turnFace_40 (by decide) ?_
      refine v_icmp_ge 140 dX3_turnFace_42 (by decide) (fun b42 => ?_) (fun b42 => ?_)
      · rw [nI_leI (by omega) (by omega)] at b42
        omega
      · rw [nI_leI (by omega) (by omega)] at b42
        refine v_aload_n dX3_turnFace_45 rfl rfl ?_
        refine v_getfield fX3_9 dX3_turnFace_46 (by assumption) (by rfl) ?_
        refine v_iload_n dX3_turnFace_49 rfl rfl ?_
        refine v_bipush (nI 12) dX3_turnFace_50 (by decide) ?_
        refine v_imul dX3_turnFace_52 ?_
        rw [pk_mul]
        refine v_iload_n dX3_turnFace_53 rfl rfl ?_
        refine v_iadd dX3_turnFace_54 ?_
        rw [nI_add]
        refine v_iaload dX3_turnFace_55 hsc3 (vp_in_nI (by omega) (by omega)) ?_
        rw [nI_clamp (by omega), hsv _ (by omega)]
        refine v_istore dX3_turnFace_56 (by decide) ?_
        refine v_iload_n dX3_turnFace_58 rfl rfl ?_
        refine v_if_ne 86 dX3_turnFace_59 (by decide) (fun b59 => ?_) (fun b59 => ?_)
        · refine v_iload_n dX3_turnFace_86 rfl rfl ?_
          refine v_iconst (nI 1) dX3_turnFace_87 (by decide) ?_
          refine v_icmp_ne 115 dX3_turnFace_88 (by decide) (fun b88 => ?_) (fun b88 => ?_)
          · exact absurd rfl b88
          · refine v_aload_n dX3_turnFace_91 rfl rfl ?_
            refine v_getfield fX3_34 dX3_turnFace_92 (by assumption) (by rfl) ?_
            refine v_getfield fX3_143 dX3_turnFace_95 (by assumption) (by rfl) ?_
            refine v_iload_n dX3_turnFace_98 rfl rfl ?_
            refine v_bipush (nI 12) dX3_turnFace_99 (by decide) ?_
            refine v_imul dX3_turnFace_101 ?_
            rw [pk_mul]
            refine v_bipush (nI 12) dX3_turnFace_102 (by decide) ?_
            refine v_iadd dX3_turnFace_104 ?_
            rw [nI_add]
            refine v_iconst (nI 1) dX3_turnFace_105 (by decide) ?_
            refine v_isub dX3_turnFace_106 ?_
            rw [pk_sub (by omega)]
            refine v_iload_n dX3_turnFace_107 rfl rfl ?_
            refine v_isub dX3_turnFace_108 ?_
            rw [pk_sub (by omega)]
            refine v_iload dX3_turnFace_109 rfl ?_
            refine v_iastoreX dX3_turnFace_111 hg (vp_in_nI (by omega) (by omega)) (fun f4 hp4 => ?_)
            rw [nI_clamp (by omega)] at hp4
            have hf4 : zFr (fun τ => τ = 7) f2 f4 := zFr.put (T := fun τ => τ = 7) hff hp4 rfl
            refine v_goto 134 dX3_turnFace_112 (by decide) ?_
            refine v_iincN dX3_turnFace_134 rfl (by decide) ?_
            refine v_goto 39 dX3_turnFace_137 (by decide) ?_
            refine v_loc (lv' := [(0, .ref o), (1, .int (nI 1)), (2, .int (nI i)), (3, .int (nI (j + 1)))]) ⟨rfl, rfl, rfl, rfl, trivial⟩ (ihj (j + 1) (by omega) f4 _ hp4.1 (fun p hp5 hs5 => ?_) hf4)
            unfold upd
            by_cases e : p = i * 12 + 12 - 1 - j
            · rw [if_pos e]
              unfold sTurn
              rw [show sTs 1 p = i * 12 + j from by rw [show sTs 1 p = p / 12 * 12 + (11 - p % 12) from rfl]; omega]
              rfl
            · rw [if_neg e]
              refine hgi p hp5 ?_
              have h6 : sTs 1 p ≠ i * 12 + j := fun h7 => e (by rw [show sTs 1 p = p / 12 * 12 + (11 - p % 12) from rfl] at h7; omega)
              omega
        · exact absurd b59 (by decide)
  have outer : ∀ (kk i : Nat), i + kk = 12 → ∀ (f3 : zHM) (g : Nat → Int32), f3 (A 6) = some (0 + 7, .inl (0, 144, .inl g)) → (∀ p, p < 144 → sTs 1 p < i * 12 → g p = sTurn 1 (ρ 7) p) → zFr (fun τ => τ = 7) f2 f3 → zV G yX3_turnFace cX3_turnFace 5 (some .int) 7 31 [(0, .ref o), (1, .int (nI 1)), (2, .int (nI i))] [] (f3, m1) (zD (some (.int (sMisfit (zset ρ 7 (sTurn 1 (ρ 7)))))) (ZPT zTV f o r tr sc tx sl sv k la A gv st M (ρ, n, xs, tm) (zset ρ 7 (sTurn 1 (ρ 7)), n, xs, tm))) := by
    intro kk
    induction kk with
    | zero =>
      intro i hi f3 g hg hgi hff
      have hi : i = 12 := by omega
      subst hi
      have ho3 := hff _ _ _ ho2 (by omega)
      have hr3 : RPic f3 0 r la A (zset ρ 7 (sTurn 1 (ρ 7))) n xs tm := hr2.ar7 _ ⟨g, hg, fun p hp => hgi p hp (sTs_lt hp)⟩ hff
      refine v_iload_n dX3_turnFace_31 rfl rfl ?_
      refine v_bipush (nI 12) dX3_turnFace_32 (by decide) ?_
      refine v_icmp_ge 146 dX3_turnFace_34 (by decide) (fun _ => ?_) (fun b => absurd (by rw [nI_leI (by omega) (by omega)]; omega) b)
      refine v_aload_n dX3_turnFace_146 rfl rfl ?_
      refine v_getfield fX3_34 dX3_turnFace_147 ho3 (by rfl) ?_
      refine v_callVp kX3_152 gi_X1_misfit ge_X1_misfit rfl dX3_turnFace_150 hr3.1 (c_misfit hr3) rfl rfl (by decide) (Nat.le_of_ble_eq_true rfl) ?_
      exact v_ireturn dX3_turnFace_153 rfl ⟨rfl, ZPT.of hs1 ((hL1.fr hf2 (fun t ht => by omega)).fr hff (fun t ht => by omega)) hB1 hB2 ho1 hf1 ((hf2.weaken (T' := fun τ => τ = 601 ∨ τ = 7) (fun τ h => Or.inl h)).trans (hff.weaken (fun τ h => Or.inr h))) (fun τ h => by show _ ∨ _; omega) (fun τ h => ⟨by show _ ∨ _; omega, fun h9 => by rcases h9 with h9 | h9 | h9 <;> omega⟩) hr3 (hff _ _ _ hsc2 (by omega))⟩
    | succ kk ih =>
      intro i hi f3 g hg hgi hff
      have h9 : i < 12 := by omega
      refine v_iload_n dX3_turnFace_31 rfl rfl ?_
      refine v_bipush (nI 12) dX3_turnFace_32 (by decide) ?_
      refine v_icmp_ge 146 dX3_turnFace_34 (by decide) (fun b => absurd b (by rw [nI_leI (by omega) (by omega)]; omega)) (fun _ => ?_)
      refine v_iconst (nI 0) dX3_turnFace_37 (by decide) ?_
      refine v_istore_n dX3_turnFace_38 rfl (by decide) ?_
      exact v_loc (lv' := [(0, .ref o), (1, .int (nI 1)), (2, .int (nI i)), (3, .int (nI 0))]) ⟨rfl, rfl, rfl, rfl, trivial⟩ (inner i h9 (fun f4 g4 h1 h2 h3 => ih (i + 1) (by omega) f4 g4 h1 h2 h3) 12 0 (by omega) f3 g hg (fun p h1 h2 => hgi p h1 (by omega)) hff)
  obtain ⟨-, -, -, -, -, -, -, ⟨g9, b7, e9⟩, -⟩ := id hr2
  refine v_iconst (nI 0) dX3_turnFace_29 (by decide) ?_
  refine v_istore_n dX3_turnFace_30 rfl (by decide) ?_
  exact v_loc (lv' := [(0, .ref o), (1, .int (nI 1)), (2, .int (nI 0))]) ⟨rfl, rfl, rfl, trivial⟩ (outer 12 0 (by omega) f2 g9 b7 (fun p h1 h2 => absurd h2 (by omega)) zFr.refl)
set_option maxRecDepth 10000 in
set_option maxHeartbeats 1000000 in
theorem c_turnFace_2 {G : zW} {f : zHM} {m : Nat × Nat} {o r tr sc tx sl sv k la n : Nat} {A : Nat → Nat} {ρ : zRS} {xs tm : Nat → Int32} (ho : f o = some (600, .inr (3, zOb r tr sc tx sl sv k))) (hr : RPic f 0 r la A ρ n xs tm) (hn201 : n ≤ 201) {M : Nat × Nat} (hL : LNok f m la M) {gv : Nat → Option Nat} {π : Nat → Nat} {st : Nat → zST} (hs : SVP f sv la gv π k st) (hB : M.1 + 11 * zcn gv 6 ≤ 50000 ∧ M.2 + 1339 * zcn gv 6 ≤ 399990) {gsc : Nat → Int32} (hsc : f sc = some (601, .inl (0, 144, .inl gsc))) : zM G yX3_turnFace cX3_turnFace 5 (some .int) 7 [.ref o, .int (nI 2)] (f, m) (zD (some (.int (sMisfit (zset ρ 7 (sTurn 2 (ρ 7)))))) (ZPT zTV f o r tr sc tx sl sv k la A gv st M (ρ, n, xs, tm) (zset ρ 7 (sTurn 2 (ρ 7)), n, xs, tm))) := by
  refine zM.of (by decide) (Nat.le_of_ble_eq_true rfl) ?_
  have r0 := hr.1
  refine v_iload_n dX3_turnFace_0 rfl rfl ?_
  refine v_iconst (nI 0) dX3_turnFace_1 (by decide) ?_
  refine v_iconst (nI 2) dX3_turnFace_2 (by decide) ?_
  refine v_callS0p kX3_72 gs_X3_needRange dX3_turnFace_3 (c_needRange (nI_pos (by omega)) (show nI 2 ≤ nI 2 from by decide)) rfl rfl (by decide) (Nat.le_of_ble_eq_true rfl) ?_
  refine v_aload_n dX3_turnFace_6 rfl rfl ?_
  refine v_callV0 kX3_52 gi_X3_save ge_X3_save rfl dX3_turnFace_7 (by assumption) (c_save ho hr hn201 hL hs hB) rfl rfl (by decide) (Nat.le_of_ble_eq_true rfl) (fun f1 m1 hc => ?_)
  obtain ⟨gv1, π1, M1, hs1, hL1, hB1, hB2, ho1, hf1⟩ := hc
  have hr1 := hr.fr hf1 (fun k hk h => by rcases h with h | h | h <;> omega)
  obtain ⟨r0, ⟨g1, a1, e1⟩, ⟨g2, a2, e2⟩, ⟨g3, a3, e3⟩, ⟨g4, a4, e4⟩, ⟨g5, a5, e5⟩, ⟨g6, a6, e6⟩, ⟨g7, a7, e7⟩, ⟨g8, a8, e8⟩, ⟨g9, a9, e9⟩, ⟨g10, a10, e10⟩⟩ := id hr1
  have hsc1 := hf1 _ _ _ hsc (fun h => by rcases h with h | h | h <;> omega)
  refine v_aload_n dX3_turnFace_10 rfl rfl ?_
  refine v_getfield fX3_34 dX3_turnFace_11 (by assumption) (by rfl) ?_
  refine v_getfield fX3_143 dX3_turnFace_14 (by assumption) (by rfl) ?_
  refine v_iconst (nI 0) dX3_turnFace_17 (by decide) ?_
  refine v_aload_n dX3_turnFace_18 rfl rfl ?_
  refine v_getfield fX3_9 dX3_turnFace_19 (by assumption) (by rfl) ?_
  refine v_iconst (nI 0) dX3_turnFace_22 (by decide) ?_
  refine v_sipush (nI 144) dX3_turnFace_23 (by decide) ?_
  refine v_copyIX gcpX3 gcpN gcpS gcpI dX3_turnFace_26 a7 hsc1 (by decide) (by decide) (nI_pos (by omega)) (by rw [show (nI 0).toNatClampNeg = 0 from rfl, nI_clamp (by omega)]; omega) (by rw [show (nI 0).toNatClampNeg = 0 from rfl, nI_clamp (by omega)]; omega) (by decide) (Nat.le_of_ble_eq_true rfl) (fun f2 hp => ?_)
  have hsv := zcp0 g7 gsc (ρ 7) 144 (by omega) e7
  have hsc2 := hp.1
  generalize va_cpy g7 gsc (nI 0).toNatClampNeg (nI 0).toNatClampNeg (nI 144).toNatClampNeg = gs2 at hsv hsc2
  have hf2 : zFr (fun τ => τ = 601) f1 f2 := zFr.put (T := fun τ => τ = 601) zFr.refl hp rfl
  have hr2 := hr1.fr hf2 (fun k hk h => by omega)
  have ho2 := hf2 _ _ _ ho1 (by omega)
  have inner : ∀ (i : Nat), i < 12 → (∀ (f3 : zHM) (g : Nat → Int32), f3 (A 6) = some (0 + 7, .inl (0, 144, .inl g)) → (∀ p, p < 144 → sTs 2 p < (i + 1) * 12 → g p = sTurn 2 (ρ 7) p) → zFr (fun τ => τ = 7) f2 f3 → zV G yX3_turnFace cX3_turnFace 5 (some .int) 7 31 [(0, .ref o), (1, .int (nI 2)), (2, .int (nI (i + 1)))] [] (f3, m1) (zD (some (.int (sMisfit (zset ρ 7 (sTurn 2 (ρ 7)))))) (ZPT zTV f o r tr sc tx sl sv k la A gv st M (ρ, n, xs, tm) (zset ρ 7 (sTurn 2 (ρ 7)), n, xs, tm)))) → ∀ (kk j : Nat), j + kk = 12 → ∀ (f3 : zHM) (g : Nat → Int32), f3 (A 6) = some (0 + 7, .inl (0, 144, .inl g)) → (∀ p, p < 144 → sTs 2 p < i * 12 + j → g p = sTurn 2 (ρ 7) p) → zFr (fun τ => τ = 7) f2 f3 → zV G yX3_turnFace cX3_turnFace 5 (some .int) 7 39 [(0, .ref o), (1, .int (nI 2)), (2, .int (nI i)), (3, .int (nI j))] [] (f3, m1) (zD (some (.int (sMisfit (zset ρ 7 (sTurn 2 (ρ 7)))))) (ZPT zTV f o r tr sc tx sl sv k la A gv st M (ρ, n, xs, tm) (zset ρ 7 (sTurn 2 (ρ 7)), n, xs, tm))) := by
    intro i h12 hout kk
    induction kk with
    | zero =>
      intro j hj f3 g hg hgi hff
      have hj : j = 12 := by omega
      subst hj
      have ho3 := hff _ _ _ ho2 (by omega)
      refine v_iload_n dX3_turnFace_39 rfl rfl ?_
      refine v_bipush (nI 12) dX3_turnFace_40 (by decide) ?_
      refine v_icmp_ge 140 dX3_turnFace_42 (by decide) (fun _ => ?_) (fun b => absurd (by rw [nI_leI (by omega) (by omega)]; omega) b)
      refine v_iincN dX3_turnFace_140 rfl (by decide) ?_
      refine v_goto 31 dX3_turnFace_143 (by decide) ?_
      exact v_loc (lv' := [(0, .ref o), (1, .int (nI 2)), (2, .int (nI (i + 1)))]) ⟨rfl, rfl, rfl, trivial⟩ (hout f3 g hg (fun p h1 h2 => hgi p h1 (by omega)) hff)
    | succ kk ihj =>
      intro j hj f3 g hg hgi hff
      have h9 : j < 12 := by omega
      have ho3 := hff _ _ _ ho2 (by omega)
      have r03 := hff _ _ _ hr2.1 (by omega)
      have hsc3 := hff _ _ _ hsc2 (by omega)
      refine v_iload_n dX3_turnFace_39 rfl rfl ?_
      refine v_bipush (nI 12) dX3_turnFace_40 (by decide) ?_
      refine v_icmp_ge 140 dX3_turnFace_42 (by decide) (fun b42 => ?_) (fun b42 => ?_)
      · rw [nI_leI (by omega) (by omega)] at b42
        omega
      · rw [nI_leI (by omega) (by omega)] at b42
        refine v_aload_n dX3_turnFace_45 rfl rfl ?_
        refine v_getfield fX3_9 dX3_turnFace_46 (by assumption) (by rfl) ?_
        refine v_iload_n dX3_turnFace_49 rfl rfl ?_
        refine v_bipush (nI 12) dX3_turnFace_50 (by decide) ?_
        refine v_imul dX3_turnFace_52 ?_
        rw [pk_mul]
        refine v_iload_n dX3_turnFace_53 rfl rfl ?_
        refine v_iadd dX3_turnFace_54 ?_
        rw [nI_add]
        refine v_iaload dX3_turnFace_55 hsc3 (vp_in_nI (by omega) (by omega)) ?_
        rw [nI_clamp (by omega), hsv _ (by omega)]
        refine v_istore dX3_turnFace_56 (by decide) ?_
        refine v_iload_n dX3_turnFace_58 rfl rfl ?_
        refine v_if_ne 86 dX3_turnFace_59 (by decide) (fun b59 => ?_) (fun b59 => ?_)
        · refine v_iload_n dX3_turnFace_86 rfl rfl ?_
          refine v_iconst (nI 1) dX3_turnFace_87 (by decide) ?_
          refine v_icmp_ne 115 dX3_turnFace_88 (by decide) (fun b88 => ?_) (fun b88 => ?_)
          · refine v_aload_n dX3_turnFace_115 rfl rfl ?_
            refine v_getfield fX3_34 dX3_turnFace_116 (by assumption) (by rfl) ?_
            refine v_getfield fX3_143 dX3_turnFace_119 (by assumption) (by rfl) ?_
            refine v_iload_n dX3_turnFace_122 rfl rfl ?_
            refine v_bipush (nI 12) dX3_turnFace_123 (by decide) ?_
            refine v_imul dX3_turnFace_125 ?_
            rw [pk_mul]
            refine v_iload_n dX3_turnFace_126 rfl rfl ?_
            refine v_iadd dX3_turnFace_127 ?_
            rw [nI_add]
            refine v_bipush (nI 9) dX3_turnFace_128 (by decide) ?_
            refine v_iload dX3_turnFace_130 rfl ?_
            refine v_isub dX3_turnFace_132 ?_
            refine v_iastoreX dX3_turnFace_133 hg (vp_in_nI (by omega) (by omega)) (fun f4 hp4 => ?_)
            rw [nI_clamp (by omega)] at hp4
            have hf4 : zFr (fun τ => τ = 7) f2 f4 := zFr.put (T := fun τ => τ = 7) hff hp4 rfl
            refine v_iincN dX3_turnFace_134 rfl (by decide) ?_
            refine v_goto 39 dX3_turnFace_137 (by decide) ?_
            refine v_loc (lv' := [(0, .ref o), (1, .int (nI 2)), (2, .int (nI i)), (3, .int (nI (j + 1)))]) ⟨rfl, rfl, rfl, rfl, trivial⟩ (ihj (j + 1) (by omega) f4 _ hp4.1 (fun p hp5 hs5 => ?_) hf4)
            unfold upd
            by_cases e : p = i * 12 + j
            · rw [if_pos e]
              unfold sTurn
              rw [show sTs 2 p = i * 12 + j from by rw [show sTs 2 p = p from rfl]; omega]
              rfl
            · rw [if_neg e]
              refine hgi p hp5 ?_
              have h6 : sTs 2 p ≠ i * 12 + j := fun h7 => e (by rw [show sTs 2 p = p from rfl] at h7; omega)
              omega
          · exact absurd b88 (by decide)
        · exact absurd b59 (by decide)
  have outer : ∀ (kk i : Nat), i + kk = 12 → ∀ (f3 : zHM) (g : Nat → Int32), f3 (A 6) = some (0 + 7, .inl (0, 144, .inl g)) → (∀ p, p < 144 → sTs 2 p < i * 12 → g p = sTurn 2 (ρ 7) p) → zFr (fun τ => τ = 7) f2 f3 → zV G yX3_turnFace cX3_turnFace 5 (some .int) 7 31 [(0, .ref o), (1, .int (nI 2)), (2, .int (nI i))] [] (f3, m1) (zD (some (.int (sMisfit (zset ρ 7 (sTurn 2 (ρ 7)))))) (ZPT zTV f o r tr sc tx sl sv k la A gv st M (ρ, n, xs, tm) (zset ρ 7 (sTurn 2 (ρ 7)), n, xs, tm))) := by
    intro kk
    induction kk with
    | zero =>
      intro i hi f3 g hg hgi hff
      have hi : i = 12 := by omega
      subst hi
      have ho3 := hff _ _ _ ho2 (by omega)
      have hr3 : RPic f3 0 r la A (zset ρ 7 (sTurn 2 (ρ 7))) n xs tm := hr2.ar7 _ ⟨g, hg, fun p hp => hgi p hp (sTs_lt hp)⟩ hff
      refine v_iload_n dX3_turnFace_31 rfl rfl ?_
      refine v_bipush (nI 12) dX3_turnFace_32 (by decide) ?_
      refine v_icmp_ge 146 dX3_turnFace_34 (by decide) (fun _ => ?_) (fun b => absurd (by rw [nI_leI (by omega) (by omega)]; omega) b)
      refine v_aload_n dX3_turnFace_146 rfl rfl ?_
      refine v_getfield fX3_34 dX3_turnFace_147 ho3 (by rfl) ?_
      refine v_callVp kX3_152 gi_X1_misfit ge_X1_misfit rfl dX3_turnFace_150 hr3.1 (c_misfit hr3) rfl rfl (by decide) (Nat.le_of_ble_eq_true rfl) ?_
      exact v_ireturn dX3_turnFace_153 rfl ⟨rfl, ZPT.of hs1 ((hL1.fr hf2 (fun t ht => by omega)).fr hff (fun t ht => by omega)) hB1 hB2 ho1 hf1 ((hf2.weaken (T' := fun τ => τ = 601 ∨ τ = 7) (fun τ h => Or.inl h)).trans (hff.weaken (fun τ h => Or.inr h))) (fun τ h => by show _ ∨ _; omega) (fun τ h => ⟨by show _ ∨ _; omega, fun h9 => by rcases h9 with h9 | h9 | h9 <;> omega⟩) hr3 (hff _ _ _ hsc2 (by omega))⟩
    | succ kk ih =>
      intro i hi f3 g hg hgi hff
      have h9 : i < 12 := by omega
      refine v_iload_n dX3_turnFace_31 rfl rfl ?_
      refine v_bipush (nI 12) dX3_turnFace_32 (by decide) ?_
      refine v_icmp_ge 146 dX3_turnFace_34 (by decide) (fun b => absurd b (by rw [nI_leI (by omega) (by omega)]; omega)) (fun _ => ?_)
      refine v_iconst (nI 0) dX3_turnFace_37 (by decide) ?_
      refine v_istore_n dX3_turnFace_38 rfl (by decide) ?_
      exact v_loc (lv' := [(0, .ref o), (1, .int (nI 2)), (2, .int (nI i)), (3, .int (nI 0))]) ⟨rfl, rfl, rfl, rfl, trivial⟩ (inner i h9 (fun f4 g4 h1 h2 h3 => ih (i + 1) (by omega) f4 g4 h1 h2 h3) 12 0 (by omega) f3 g hg (fun p h1 h2 => hgi p h1 (by omega)) hff)
  obtain ⟨-, -, -, -, -, -, -, ⟨g9, b7, e9⟩, -⟩ := id hr2
  refine v_iconst (nI 0) dX3_turnFace_29 (by decide) ?_
  refine v_istore_n dX3_turnFace_30 rfl (by decide) ?_
  exact v_loc (lv' := [(0, .ref o), (1, .int (nI 2)), (2, .int (nI 0))]) ⟨rfl, rfl, rfl, trivial⟩ (outer 12 0 (by omega) f2 g9 b7 (fun p h1 h2 => absurd h2 (by omega)) zFr.refl)
end
section
theorem gtI : Cond.initialized yX2_init.cls ∈ GT := GT_in (by decide +kernel) (by decide +kernel)
theorem gtC : Cond.code yX2_init cX2_init 1 none ∈ GT := GT_in (by decide +kernel) (by decide +kernel)
theorem gtM : Cond.instanceMethod yX2_init ∈ GT := GT_in (by decide +kernel) (by decide +kernel)
abbrev zTN : Nat → Prop := fun τ => τ ≤ 30 ∨ (600 ≤ τ ∧ τ ≤ 605)
set_option maxRecDepth 10000 in
set_option maxHeartbeats 1000000 in
theorem c_new {G : zW} {f : zHM} {m : Nat × Nat} {o : Nat} (ho : f o = some (600, .inr (3, [.null, .null, .null, .null, .null, .null, .int 0]))) (hm1 : m.1 + 28 ≤ 50000) (hm2 : m.2 + 3168 ≤ 400000) : zM G yX3_init cX3_init 2 none 3 [.ref o] (f, m) (zD none (fun f' m' => ∃ r tr sc tx sl sv la A A2 co, f' o = some (600, .inr (3, zOb r tr sc tx sl sv 0)) ∧ RPic f' 0 r la A sNew 0 (fun _ => 0) (fun _ => 0) ∧ RPic f' 20 tr la A2 sNew 0 (fun _ => 0) (fun _ => 0) ∧ f' sc = some (601, .inl (0, 144, .inl (fun _ => 0))) ∧ TPic f' 602 tx co 0 (fun _ => 0) ∧ f' sl = some (604, zrow (fun _ => none) 2) ∧ f' sv = some (605, zrow (fun _ => none) 6) ∧ f' la = some (950, .inl (4, 276, .inr (.inr (.inr (.inr (fun _ => none)))))) ∧ zFr zTN f f' ∧ m' = (m.1 + 28, m.2 + 3168))) := by
  refine zM.of (by decide) (Nat.le_of_ble_eq_true rfl) ?_
  have hf0 : zFr zTN f f := zFr.refl
  refine v_aload_n dX3_init_0 rfl rfl ?_
  refine v_objInit goLX3 goI goC dX3_init_1 (by decide) (Nat.le_of_ble_eq_true rfl) ?_
  refine v_aload_n dX3_init_4 rfl rfl ?_
  refine v_sipush (nI 144) dX3_init_5 (by decide) ?_
  refine v_newIX 601 144 dX3_init_8 (by decide) (by decide) (by omega) (by omega) (by omega) (fun sc f1 hp => ?_)
  have hf0 := hf0.trans (zFr.new (T := zTN) zFr.refl hp)
  have ho := hp.2.2 _ _ ho
  have hsc := hp.1
  refine v_putfieldFX fX3_9 rfl rfl dX3_init_10 ho rfl rfl (Nat.le_of_ble_eq_true rfl) (fun f1 hp => ?_)
  have hz : zFr (fun τ => τ = 600) _ f1 := zFr.put (T := fun τ => τ = 600) zFr.refl hp rfl
  have hf0 := hf0.trans (hz.weaken (T' := zTN) (fun τ h => Or.inr (by omega)))
  have ho := hp.1
  have hsc := hz _ _ _ hsc (by omega)
  refine v_aload_n dX3_init_13 rfl rfl ?_
  refine v_newX 602 nX3_13 dX3_init_14 (by show m.1 + 1 + 1 ≤ 50000; omega) (by show m.2 + 144 + 2 ≤ 400000; omega) (fun tx f1 hp => ?_)
  have hf0 := hf0.trans (zFr.new (T := zTN) zFr.refl hp)
  have ho := hp.2.2 _ _ ho
  have hsc := hp.2.2 _ _ hsc
  have htx := hp.1
  refine v_dup dX3_init_17 rfl ?_
  refine v_callIN0 rfl gtI gtC (by decide) gtM dX3_init_18 (c_Text_init htx (by show m.1 + 1 + 1 + 1 ≤ 50000; omega) (by show m.2 + 144 + 2 + 60 ≤ 400000; omega)) rfl (by decide) (Nat.le_of_ble_eq_true rfl) (fun f1 m1 hc => ?_)
  obtain ⟨⟨co, htp⟩, hz, rfl⟩ := hc
  have hf0 := hf0.trans (hz.weaken (T' := zTN) (fun τ h => Or.inr (by omega)))
  have hsc := hz _ _ _ hsc (by omega)
  have ho := hz _ _ _ ho (by omega)
  refine v_putfieldFX fX3_16 rfl rfl dX3_init_21 ho rfl rfl (Nat.le_of_ble_eq_true rfl) (fun f1 hp => ?_)
  have hz : zFr (fun τ => τ = 600) _ f1 := zFr.put (T := fun τ => τ = 600) zFr.refl hp rfl
  have hf0 := hf0.trans (hz.weaken (T' := zTN) (fun τ h => Or.inr (by omega)))
  have ho := hp.1
  have hsc := hz _ _ _ hsc (by omega)
  have htp := htp.fr hz (by omega) (by omega)
  refine v_aload_n dX3_init_24 rfl rfl ?_
  refine v_iconst (nI 2) dX3_init_25 (by decide) ?_
  refine v_newRX 604 2 dX3_init_26 gClR (by decide) (by decide) (by omega) (by show m.1 + 1 + 1 + 1 + 1 ≤ 50000; omega) (by show m.2 + 144 + 2 + 60 + 2 ≤ 400000; omega) (fun sl f1 hp => ?_)
  have hf0 := hf0.trans (zFr.new (T := zTN) zFr.refl hp)
  have ho := hp.2.2 _ _ ho
  have hsc := hp.2.2 _ _ hsc
  have htp := htp.fr (zFr.new (T := fun _ => False) zFr.refl hp) id id
  have hsl := hp.1
  refine v_putfieldFX fX3_22 rfl rfl dX3_init_29 ho rfl rfl (Nat.le_of_ble_eq_true rfl) (fun f1 hp => ?_)
  have hz : zFr (fun τ => τ = 600) _ f1 := zFr.put (T := fun τ => τ = 600) zFr.refl hp rfl
  have hf0 := hf0.trans (hz.weaken (T' := zTN) (fun τ h => Or.inr (by omega)))
  have ho := hp.1
  have hsc := hz _ _ _ hsc (by omega)
  have htp := htp.fr hz (by omega) (by omega)
  have hsl := hz _ _ _ hsl (by omega)
  refine v_aload_n dX3_init_32 rfl rfl ?_
  refine v_bipush (nI 6) dX3_init_33 (by decide) ?_
  refine v_newRX 605 6 dX3_init_35 gClR (by decide) (by decide) (by omega) (by show m.1 + 1 + 1 + 1 + 1 + 1 ≤ 50000; omega) (by show m.2 + 144 + 2 + 60 + 2 + 6 ≤ 400000; omega) (fun sv f1 hp => ?_)
  have hf0 := hf0.trans (zFr.new (T := zTN) zFr.refl hp)
  have ho := hp.2.2 _ _ ho
  have hsc := hp.2.2 _ _ hsc
  have htp := htp.fr (zFr.new (T := fun _ => False) zFr.refl hp) id id
  have hsl := hp.2.2 _ _ hsl
  have hsv := hp.1
  refine v_putfieldFX fX3_26 rfl rfl dX3_init_38 ho rfl rfl (Nat.le_of_ble_eq_true rfl) (fun f1 hp => ?_)
  have hz : zFr (fun τ => τ = 600) _ f1 := zFr.put (T := fun τ => τ = 600) zFr.refl hp rfl
  have hf0 := hf0.trans (hz.weaken (T' := zTN) (fun τ h => Or.inr (by omega)))
  have ho := hp.1
  have hsc := hz _ _ _ hsc (by omega)
  have htp := htp.fr hz (by omega) (by omega)
  have hsl := hz _ _ _ hsl (by omega)
  have hsv := hz _ _ _ hsv (by omega)
  refine v_sipush (nI 276) dX3_init_41 (by decide) ?_
  refine v_newLX 950 276 dX3_init_44 gClL (by decide) (by decide) (by omega) (by show m.1 + 1 + 1 + 1 + 1 + 1 + 1 ≤ 50000; omega) (by show m.2 + 144 + 2 + 60 + 2 + 6 + 276 ≤ 400000; omega) (fun la f1 hp => ?_)
  have hf0 := hf0.trans (zFr.new (T := zTN) zFr.refl hp)
  have ho := hp.2.2 _ _ ho
  have hsc := hp.2.2 _ _ hsc
  have htp := htp.fr (zFr.new (T := fun _ => False) zFr.refl hp) id id
  have hsl := hp.2.2 _ _ hsl
  have hsv := hp.2.2 _ _ hsv
  have hla := hp.1
  refine v_astore_n dX3_init_47 rfl (by decide) ?_
  refine v_aload_n dX3_init_48 rfl rfl ?_
  refine v_newX 0 nX3_20 dX3_init_49 (by show m.1 + 1 + 1 + 1 + 1 + 1 + 1 + 1 ≤ 50000; omega) (by show m.2 + 144 + 2 + 60 + 2 + 6 + 276 + 19 ≤ 400000; omega) (fun r f1 hp => ?_)
  have hf0 := hf0.trans (zFr.new (T := zTN) zFr.refl hp)
  have ho := hp.2.2 _ _ ho
  have hsc := hp.2.2 _ _ hsc
  have htp := htp.fr (zFr.new (T := fun _ => False) zFr.refl hp) id id
  have hsl := hp.2.2 _ _ hsl
  have hsv := hp.2.2 _ _ hsv
  have hla := hp.2.2 _ _ hla
  have hr0 := hp.1
  refine v_dup dX3_init_52 rfl ?_
  refine v_aload_n dX3_init_53 rfl rfl ?_
  refine v_callI0 kX3_31 gi_X1_init rfl dX3_init_54 (c_Ring_init hr0 (by show m.1 + 1 + 1 + 1 + 1 + 1 + 1 + 1 + 10 ≤ 50000; omega) (by show m.2 + 144 + 2 + 60 + 2 + 6 + 276 + 19 + 1320 ≤ 400000; omega)) rfl rfl (by decide) (Nat.le_of_ble_eq_true rfl) (fun f1 m1 hc => ?_)
  obtain ⟨⟨A0, hr⟩, hz, rfl⟩ := hc
  have hf0 := hf0.trans (hz.weaken (T' := zTN) (fun τ h => Or.inl (by have := h.2; omega)))
  have hsc := hz _ _ _ hsc (fun h => by have := h.1; have := h.2; omega)
  have htp := htp.fr hz (fun h => by have := h.1; have := h.2; omega) (fun h => by have := h.1; have := h.2; omega)
  have hsl := hz _ _ _ hsl (fun h => by have := h.1; have := h.2; omega)
  have hsv := hz _ _ _ hsv (fun h => by have := h.1; have := h.2; omega)
  have hla := hz _ _ _ hla (fun h => by have := h.1; have := h.2; omega)
  have ho := hz _ _ _ ho (fun h => by have := h.1; have := h.2; omega)
  refine v_putfieldFX fX3_34 rfl rfl dX3_init_57 ho rfl rfl (Nat.le_of_ble_eq_true rfl) (fun f1 hp => ?_)
  have hz : zFr (fun τ => τ = 600) _ f1 := zFr.put (T := fun τ => τ = 600) zFr.refl hp rfl
  have hf0 := hf0.trans (hz.weaken (T' := zTN) (fun τ h => Or.inr (by omega)))
  have ho := hp.1
  have hsc := hz _ _ _ hsc (by omega)
  have htp := htp.fr hz (by omega) (by omega)
  have hsl := hz _ _ _ hsl (by omega)
  have hsv := hz _ _ _ hsv (by omega)
  have hla := hz _ _ _ hla (by omega)
  have hr := hr.fr hz (fun k hk h => by omega)
  refine v_aload_n dX3_init_60 rfl rfl ?_
  refine v_newX 20 nX3_20 dX3_init_61 (by show m.1 + 1 + 1 + 1 + 1 + 1 + 1 + 1 + 10 + 1 ≤ 50000; omega) (by show m.2 + 144 + 2 + 60 + 2 + 6 + 276 + 19 + 1320 + 19 ≤ 400000; omega) (fun tr f1 hp => ?_)
  have hf0 := hf0.trans (zFr.new (T := zTN) zFr.refl hp)
  have ho := hp.2.2 _ _ ho
  have hsc := hp.2.2 _ _ hsc
  have htp := htp.fr (zFr.new (T := fun _ => False) zFr.refl hp) id id
  have hsl := hp.2.2 _ _ hsl
  have hsv := hp.2.2 _ _ hsv
  have hla := hp.2.2 _ _ hla
  have hr := hr.fr (zFr.new (T := fun _ => False) zFr.refl hp) (fun k hk h => h)
  have hr20 := hp.1
  refine v_dup dX3_init_64 rfl ?_
  refine v_aload_n dX3_init_65 rfl rfl ?_
  refine v_callI0 kX3_31 gi_X1_init rfl dX3_init_66 (c_Ring_init hr20 (by show m.1 + 1 + 1 + 1 + 1 + 1 + 1 + 1 + 10 + 1 + 10 ≤ 50000; omega) (by show m.2 + 144 + 2 + 60 + 2 + 6 + 276 + 19 + 1320 + 19 + 1320 ≤ 400000; omega)) rfl rfl (by decide) (Nat.le_of_ble_eq_true rfl) (fun f1 m1 hc => ?_)
  obtain ⟨⟨A20, hr2⟩, hz, rfl⟩ := hc
  have hf0 := hf0.trans (hz.weaken (T' := zTN) (fun τ h => Or.inl (by have := h.2; omega)))
  have hsc := hz _ _ _ hsc (fun h => by have := h.1; have := h.2; omega)
  have htp := htp.fr hz (fun h => by have := h.1; have := h.2; omega) (fun h => by have := h.1; have := h.2; omega)
  have hsl := hz _ _ _ hsl (fun h => by have := h.1; have := h.2; omega)
  have hsv := hz _ _ _ hsv (fun h => by have := h.1; have := h.2; omega)
  have hla := hz _ _ _ hla (fun h => by have := h.1; have := h.2; omega)
  have hr := hr.fr hz (fun k hk h => by have := h.1; have := h.2; omega)
  have ho := hz _ _ _ ho (fun h => by have := h.1; have := h.2; omega)
  refine v_putfieldFX fX3_38 rfl rfl dX3_init_69 ho rfl rfl (Nat.le_of_ble_eq_true rfl) (fun f1 hp => ?_)
  have hz : zFr (fun τ => τ = 600) _ f1 := zFr.put (T := fun τ => τ = 600) zFr.refl hp rfl
  have hf0 := hf0.trans (hz.weaken (T' := zTN) (fun τ h => Or.inr (by omega)))
  have ho := hp.1
  have hsc := hz _ _ _ hsc (by omega)
  have htp := htp.fr hz (by omega) (by omega)
  have hsl := hz _ _ _ hsl (by omega)
  have hsv := hz _ _ _ hsv (by omega)
  have hla := hz _ _ _ hla (by omega)
  have hr := hr.fr hz (fun k hk h => by omega)
  have hr2 := hr2.fr hz (fun k hk h => by omega)
  exact v_return dX3_init_72 rfl ⟨rfl, r, tr, sc, tx, sl, sv, la, A0, A20, co, ho, hr, hr2, hsc, htp, hsl, hsv, hla, hf0, rfl⟩
end
section
theorem RPic.congr {f : zHM} {t r la n : Nat} {A : Nat → Nat} {ρ ρ' : zRS} {xs tm xs' tm' : Nat → Int32} (hr : RPic f t r la A ρ n xs tm) (h0 : ∀ i, i ≤ 5 → ρ 0 i = ρ' 0 i) (h1 : ∀ i, i < 3 → ρ 1 i = ρ' 1 i ∧ ρ 2 i = ρ' 2 i ∧ ρ 3 i = ρ' 3 i) (h4 : ∀ c, c < n → ρ 4 c = ρ' 4 c ∧ ρ 5 c = ρ' 5 c ∧ ρ 6 c = ρ' 6 c) (h7 : ∀ q, q < 144 → ρ 7 q = ρ' 7 q ∧ ρ 8 q = ρ' 8 q ∧ xs q = xs' q) (h9 : ∀ p, p < 276 → tm p = tm' p) : RPic f t r la A ρ' n xs' tm' := by
  obtain ⟨r0, r1, r2, r3, r4, r5, r6, r7, r8, r9, r10⟩ := hr
  have e : sStep ρ = sStep ρ' := by unfold sStep; rw [h0 0 (by omega)]
  rw [e, h0 0 (by omega), h0 1 (by omega), h0 2 (by omega), h0 3 (by omega), h0 4 (by omega), h0 5 (by omega)] at r0
  exact ⟨r0, r1.congr (fun i hi => (h1 i hi).1), r2.congr (fun i hi => (h1 i hi).2.1), r3.congr (fun i hi => (h1 i hi).2.2), r4.congr (fun i hi => (h4 i hi).1), r5.congr (fun i hi => (h4 i hi).2.1), r6.congr (fun i hi => (h4 i hi).2.2), r7.congr (fun i hi => (h7 i hi).1), r8.congr (fun i hi => (h7 i hi).2.1), r9.congr (fun i hi => (h7 i hi).2.2), r10.congr h9⟩
def sNow (ρ : zRS) (v : Int32) : zRS := zset ρ 0 (fun j => if j = 2 then v else ρ 0 j)
end
section
/-! THE REFERENCE'S OBJECT: B its arrays (0 s, 1 saved, 2 slots, 3 hasSlot, 4 buffer, 5 crossed, 6 marks, 7 greys), w its numbers (0 thrown, 1 savedMany, 2 length, 3 crossedMany, 4 mark, 5 at, 6 isWell); tags 700 (the object), 701-708 (the arrays); its state is s, 904 ints. -/
abbrev zMo (B : Nat → Nat) (w : Nat → Int32) (hh : Int64) : List Value := [.int (w 0), .ref (B 0), .ref (B 1), .int (w 1), .ref (B 2), .ref (B 3), .ref (B 4), .int (w 2), .ref (B 5), .int (w 3), .ref (B 6), .int (w 4), .ref (B 7), .int (w 5), .int (w 6), .long hh]
end
section
/-- the reference's object with its state, its mark and its arrays of squares -/
def MX (f : zHM) (o : Nat) (B : Nat → Nat) (w : Nat → Int32) (hh : Int64) (σ : Nat → Int32) (mr : Nat) : Prop :=
  f o = some (700, .inr (4, zMo B w hh)) ∧ f (B 0) = some (701, .inl (0, 904, .inl σ)) ∧ (∃ gc, f (B 5) = some (706, .inl (0, 144, .inl gc))) ∧ (∃ gm, f (B 6) = some (707, .inl (0, 144, .inl gm)) ∧ ∀ q, q < 144 → ∃ j, j ≤ mr ∧ gm q = nI j) ∧ w 4 = nI mr
abbrev zTY : Nat → Prop := fun τ => τ = 700 ∨ τ = 701 ∨ τ = 706 ∨ τ = 707
/-- all numbers but crossedMany and mark are kept -/
def wK (w w' : Nat → Int32) : Prop := ∀ i, i ≠ 3 → i ≠ 4 → w' i = w i
theorem wK.trans {w w' w2 : Nat → Int32} (h : wK w w') (h2 : wK w' w2) : wK w w2 := fun i a b => (h2 i a b).trans (h i a b)
theorem MX.s {f f' : zHM} {o mr : Nat} {B : Nat → Nat} {w : Nat → Int32} {hh : Int64} {σ σ' : Nat → Int32} (h : MX f o B w hh σ mr) (hp : f' (B 0) = some (701, .inl (0, 904, .inl σ'))) (hf : zFr (fun τ => τ = 701) f f') : MX f' o B w hh σ' mr := by
  obtain ⟨h1, h2, ⟨gc, h3⟩, ⟨gm, h4, h5⟩, h6⟩ := h
  exact ⟨hf _ _ _ h1 (by omega), hp, ⟨gc, hf _ _ _ h3 (by omega)⟩, ⟨gm, hf _ _ _ h4 (by omega), h5⟩, h6⟩
end
section
theorem wK.refl (w : Nat → Int32) : wK w w := fun _ _ _ => rfl
theorem MX.st {f0 f f' : zHM} {o mr : Nat} {B : Nat → Nat} {w : Nat → Int32} {hh : Int64} {σ σ' : Nat → Int32} (h : MX f o B w hh σ mr) (hp : zPut f (B 0) (701, .inl (0, 904, .inl σ')) f') (hf : zFr zTY f0 f) : MX f' o B w hh σ' mr ∧ zFr zTY f0 f' :=
  ⟨h.s hp.1 (zFr.put zFr.refl hp rfl), hf.put hp (Or.inr (Or.inl rfl))⟩
theorem sSum_congr {F H : Nat → Int32} : ∀ n, (∀ c, c < n → F c = H c) → sSum F n = sSum H n
  | 0, _ => rfl
  | n + 1, h => by
    show sSum F n + F n = sSum H n + H n
    rw [sSum_congr n (fun c hc => h c (by omega)), h n (by omega)]
end
section
/-- the same state of a ring, of n chords -/
def zEQ (n : Nat) (ρ ρ' : zRS) : Prop := (∀ i, i ≤ 5 → ρ 0 i = ρ' 0 i) ∧ (∀ i, i < 3 → ρ 1 i = ρ' 1 i ∧ ρ 2 i = ρ' 2 i ∧ ρ 3 i = ρ' 3 i) ∧ (∀ c, c < n → ρ 4 c = ρ' 4 c ∧ ρ 5 c = ρ' 5 c ∧ ρ 6 c = ρ' 6 c) ∧ ∀ q, q < 144 → ρ 7 q = ρ' 7 q ∧ ρ 8 q = ρ' 8 q
end
section
/-- the reference's other arrays: saved states, snapshots, the buffer -/
def zNO (f : zHM) (B : Nat → Nat) (k : Nat) (sv : Nat → Nat → Int32) (hsl : Nat → Int32) (sl : Nat → Nat → Int32) (L : Nat) (ch : Nat → Nat) : Prop :=
  (k ≤ 6 ∧ ∃ g, f (B 1) = some (702, .inl (0, 5424, .inl g)) ∧ ∀ j, j < k → ∀ i, i < 904 → g (904 * j + i) = sv j i) ∧
  (∃ g, f (B 2) = some (703, .inl (0, 1808, .inl g)) ∧ ∀ j, j < 2 → ∀ i, i < 904 → g (904 * j + i) = sl j i) ∧
  (∃ g, f (B 3) = some (704, .inl (2, 2, .inl g)) ∧ ∀ j, j < 2 → g j = hsl j) ∧
  (L ≤ 60 ∧ ∃ g, f (B 4) = some (705, .inl (0, 60, .inl g)) ∧ ∀ i, i < L → g i = nI (ch i)) ∧
  ∃ g, f (B 7) = some (708, .inl (0, 144, .inl g))
theorem zNO.fr {T : Nat → Prop} {f f' : zHM} {B : Nat → Nat} {k L : Nat} {sv : Nat → Nat → Int32} {hsl : Nat → Int32} {sl : Nat → Nat → Int32} {ch : Nat → Nat} (h : zNO f B k sv hsl sl L ch) (hf : zFr T f f') (hT : ∀ τ, T τ → ¬ ((702 ≤ τ ∧ τ ≤ 705) ∨ τ = 708)) : zNO f' B k sv hsl sl L ch := by
  obtain ⟨⟨h1, g1, h2, h3⟩, ⟨g2, h4, h5⟩, ⟨g3, h6, h7⟩, ⟨h8, g4, h9, h10⟩, g5, h11⟩ := h
  exact ⟨⟨h1, g1, hf _ _ _ h2 (fun z => hT _ z (by omega)), h3⟩, ⟨g2, hf _ _ _ h4 (fun z => hT _ z (by omega)), h5⟩, ⟨g3, hf _ _ _ h6 (fun z => hT _ z (by omega)), h7⟩, ⟨h8, g4, hf _ _ _ h9 (fun z => hT _ z (by omega)), h10⟩, g5, hf _ _ _ h11 (fun z => hT _ z (by omega))⟩
/-- the reference's object, whole -/
def zNZ (f : zHM) (o : Nat) (B : Nat → Nat) (hh : Int64) (σ : Nat → Int32) (mr : Nat) (th : Int32) (k : Nat) (sv : Nat → Nat → Int32) (hsl : Nat → Int32) (sl : Nat → Nat → Int32) (L : Nat) (ch : Nat → Nat) : Prop := ∃ w, MX f o B w hh σ mr ∧ w 0 = th ∧ w 1 = nI k ∧ w 2 = nI L ∧ zNO f B k sv hsl sl L ch
theorem MX.put {f0 f f' : zHM} {o mr : Nat} {B : Nat → Nat} {w w' : Nat → Int32} {hh hh' : Int64} {σ : Nat → Int32} (h : MX f o B w hh σ mr) (hp : zPut f o (700, .inr (4, zMo B w' hh')) f') (e : w' 4 = w 4) (hf : zFr zTY f0 f) : MX f' o B w' hh' σ mr ∧ zFr zTY f0 f' := by
  obtain ⟨h1, h2, ⟨gc, h3⟩, ⟨gm, h4, h5⟩, h6⟩ := h
  exact ⟨⟨hp.1, hp.ne h2 (by omega), ⟨gc, hp.ne h3 (by omega)⟩, ⟨gm, hp.ne h4 (by omega), h5⟩, e.trans h6⟩, hf.put hp (Or.inl rfl)⟩
theorem MX.fr7 {f f' : zHM} {o mr : Nat} {B : Nat → Nat} {w : Nat → Int32} {hh : Int64} {σ : Nat → Int32} {T : Nat → Prop} (h : MX f o B w hh σ mr) (hf : zFr T f f') (hT : ∀ τ, τ = 700 ∨ τ = 701 ∨ τ = 706 ∨ τ = 707 → ¬ T τ) : MX f' o B w hh σ mr := by
  obtain ⟨h1, h2, ⟨gc, h3⟩, ⟨gm, h4, h5⟩, h6⟩ := h
  exact ⟨hf _ _ _ h1 (hT _ (by omega)), hf _ _ _ h2 (hT _ (by omega)), ⟨gc, hf _ _ _ h3 (hT _ (by omega))⟩, ⟨gm, hf _ _ _ h4 (hT _ (by omega)), h5⟩, h6⟩
end
section
/-- how many chords cross a square -/
def sXs (ρ : zRS) (s n : Nat) (q : Nat) : Int32 := sSum (fun c => if q ∈ sPa s (zn (ρ 4 c)) (zn (ρ 5 c)) then 1 else 0) n
end
section
/-- bounds -/
def zB (c : Int) (x : Int32) : Prop := -c ≤ x.toInt ∧ x.toInt ≤ c
end
section
theorem zEQ.refl {n : Nat} {ρ : zRS} : zEQ n ρ ρ := ⟨fun _ _ => rfl, fun _ _ => ⟨rfl, rfl, rfl⟩, fun _ _ => ⟨rfl, rfl, rfl⟩, fun _ _ => ⟨rfl, rfl⟩⟩
end
section
/-! WHAT TIES BOTH: pure facts about a ring's state. -/
theorem zEQ.symm {n : Nat} {ρ ρ' : zRS} (h : zEQ n ρ ρ') : zEQ n ρ' ρ := by
  obtain ⟨h0, h1, h4, h7⟩ := h
  exact ⟨fun i hi => (h0 i hi).symm, fun i hi => ⟨(h1 i hi).1.symm, (h1 i hi).2.1.symm, (h1 i hi).2.2.symm⟩, fun c hc => ⟨(h4 c hc).1.symm, (h4 c hc).2.1.symm, (h4 c hc).2.2.symm⟩, fun q hq => ⟨(h7 q hq).1.symm, (h7 q hq).2.symm⟩⟩
theorem zEQ.trans {n : Nat} {ρ ρ' ρ2 : zRS} (h : zEQ n ρ ρ') (g : zEQ n ρ' ρ2) : zEQ n ρ ρ2 := by
  obtain ⟨h0, h1, h4, h7⟩ := h
  obtain ⟨g0, g1, g4, g7⟩ := g
  exact ⟨fun i hi => (h0 i hi).trans (g0 i hi), fun i hi => ⟨(h1 i hi).1.trans (g1 i hi).1, (h1 i hi).2.1.trans (g1 i hi).2.1, (h1 i hi).2.2.trans (g1 i hi).2.2⟩, fun c hc => ⟨(h4 c hc).1.trans (g4 c hc).1, (h4 c hc).2.1.trans (g4 c hc).2.1, (h4 c hc).2.2.trans (g4 c hc).2.2⟩, fun q hq => ⟨(h7 q hq).1.trans (g7 q hq).1, (h7 q hq).2.trans (g7 q hq).2⟩⟩
theorem zEQ.less {n m : Nat} {ρ ρ' : zRS} (h : zEQ n ρ ρ') (hm : m ≤ n) : zEQ m ρ ρ' := ⟨h.1, h.2.1, fun c hc => h.2.2.1 c (by omega), h.2.2.2⟩
theorem sStep_eq {n : Nat} {ρ ρ' : zRS} (h : zEQ n ρ ρ') : sStep ρ = sStep ρ' := by
  unfold sStep
  rw [h.1 0 (by omega)]
theorem RV_eq {n N s : Nat} {ρ ρ' : zRS} (h : zEQ n ρ ρ') (hv : RV ρ N s) : RV ρ' N s := ⟨(h.1 0 (by omega)).symm.trans hv.1, (sStep_eq h).symm.trans hv.2.1, hv.2.2⟩
theorem RW_eq {n N s : Nat} {ρ ρ' : zRS} (h : zEQ n ρ ρ') (hw : RW ρ N s n) : RW ρ' N s n := ⟨RV_eq h hw.1, hw.2.1, fun c hc => by
  obtain ⟨a, b, u, ha, hb, hab, hu, q4, q5, q6⟩ := hw.2.2 c hc
  obtain ⟨e4, e5, e6⟩ := h.2.2.1 c hc
  exact ⟨a, b, u, ha, hb, hab, hu, e4.symm.trans q4, e5.symm.trans q5, e6.symm.trans q6⟩⟩
/-- how much thread of which shade darkens a square -/
def sDk (ρ : zRS) (s n q : Nat) : Int32 := sSum (fun c => if q ∈ sPa s (zn (ρ 4 c)) (zn (ρ 5 c)) then ρ 1 (zn (ρ 6 c)) else 0) n
theorem sDk_eq {n N s q : Nat} {ρ ρ' : zRS} (hw : RW ρ N s n) (h : zEQ n ρ ρ') : sDk ρ s n q = sDk ρ' s n q := sSum_congr n fun c hc => by
  obtain ⟨k4, k5, k6⟩ := h.2.2.1 c hc
  obtain ⟨a, b, u, ha, hb, hab, hu, q4, q5, q6⟩ := hw.2.2 c hc
  rw [← k4, ← k5, ← k6, q6, zn_nI (by omega), (h.2.1 u hu).1]
/-- a state of a ring that can be reached -/
def IVr (N s n : Nat) (ρ : zRS) : Prop := RW ρ N s n ∧ n ≤ 200 ∧ (∃ a, a < N ∧ ρ 0 1 = nI a) ∧ (∃ u, u < 3 ∧ ρ 0 2 = nI u) ∧ (∀ u, u < 3 → ∃ h, 1 ≤ h ∧ h ≤ 9 ∧ ρ 1 u = nI h) ∧ (∃ h, 1 ≤ h ∧ h ≤ 9 ∧ ρ 3 2 = nI h) ∧ (∀ q, q < 144 → ∃ g, g ≤ 9 ∧ ρ 7 q = nI g) ∧ ∀ q, q < 144 → ρ 8 q = sDk ρ s n q
theorem IVr_eq {N s n : Nat} {ρ ρ' : zRS} (h : zEQ n ρ ρ') (i : IVr N s n ρ) : IVr N s n ρ' := by
  obtain ⟨h1, h2, ⟨a, h3, h4⟩, ⟨u, h5, h6⟩, h7, ⟨k, h8, h9, h10⟩, h11, h12⟩ := i
  exact ⟨RW_eq h h1, h2, ⟨a, h3, (h.1 1 (by omega)).symm.trans h4⟩, ⟨u, h5, (h.1 2 (by omega)).symm.trans h6⟩, fun u hu => by
    obtain ⟨k, a, b, c⟩ := h7 u hu
    exact ⟨k, a, b, (h.2.1 u hu).1.symm.trans c⟩, ⟨k, h8, h9, (h.2.1 2 (by omega)).2.2.symm.trans h10⟩, fun q hq => by
    obtain ⟨g, a, b⟩ := h11 q hq
    exact ⟨g, a, (h.2.2.2 q hq).1.symm.trans b⟩, fun q hq => (h.2.2.2 q hq).2.symm.trans ((h12 q hq).trans (sDk_eq h1 h))⟩
theorem sDk_nI {N s n : Nat} {ρ : zRS} (i : IVr N s n ρ) (q : Nat) : ∀ m, m ≤ n → ∃ d, d ≤ 9 * m ∧ sDk ρ s m q = nI d
  | 0, _ => ⟨0, Nat.le_refl _, rfl⟩
  | m + 1, hm => by
    obtain ⟨d, h1, h2⟩ := sDk_nI i q m (by omega)
    obtain ⟨a, b, u, ha, hb, hab, hu, q4, q5, q6⟩ := i.1.2.2 m (by omega)
    obtain ⟨k, k1, k2, k3⟩ := i.2.2.2.2.1 u hu
    have e : sDk ρ s (m + 1) q = sDk ρ s m q + (if q ∈ sPa s (zn (ρ 4 m)) (zn (ρ 5 m)) then ρ 1 (zn (ρ 6 m)) else 0) := rfl
    rw [q6, zn_nI (by omega), k3, h2] at e
    by_cases hq : q ∈ sPa s (zn (ρ 4 m)) (zn (ρ 5 m))
    · rw [if_pos hq, nI_add] at e
      exact ⟨d + k, by omega, e⟩
    · rw [if_neg hq, Int32.add_zero] at e
      exact ⟨d, by omega, e⟩
theorem sLack_b {N s n q : Nat} {ρ : zRS} (i : IVr N s n ρ) (hq : q < 144) : zB 3000 (sLack ρ q) := by
  obtain ⟨k, h8, h9, h10⟩ := i.2.2.2.2.2.1
  obtain ⟨g, h11, h12⟩ := i.2.2.2.2.2.2.1 q hq
  obtain ⟨d, h13, h14⟩ := sDk_nI i q n (Nat.le_refl n)
  have hn := i.2.1
  have hgk : g * k ≤ 9 * 9 := Nat.mul_le_mul h11 h9
  unfold sLack zB
  rw [i.2.2.2.2.2.2.2 q hq, h14, h12, h10, pk_mul, pk_sub_toInt (by omega) (by omega)]
  omega
theorem sShade_b {N s n u : Nat} {ρ : zRS} (i : IVr N s n ρ) (hu : u < 3) : 0 ≤ (ρ 1 u).toInt ∧ (ρ 1 u).toInt ≤ 9 := by
  obtain ⟨k, a, b, c⟩ := i.2.2.2.2.1 u hu
  rw [c, nI_toInt (by omega)]
  omega
/-- the misfit, told by gains -/
theorem sSum_upd {F : Nat → Int32} {q : Nat} {v : Int32} : ∀ n, q < n → sSum (fun j => if j = q then v else F j) n = sSum F n - F q + v
  | 0, h => absurd h (Nat.not_lt_zero q)
  | n + 1, h => by
    show sSum (fun j => if j = q then v else F j) n + (if n = q then v else F n) = sSum F n + F n - F q + v
    by_cases e : n = q
    · subst e
      rw [if_pos rfl, sSum_congr (F := fun j => if j = n then v else F j) (H := F) n (fun c hc => if_neg (by omega))]
      generalize sSum F n = x
      generalize F n = y
      grind
    · rw [if_neg e, sSum_upd n (by omega)]
      generalize sSum F n = x
      generalize F n = y
      generalize F q = z
      grind
theorem sMGp_sum {sh : Int32} : ∀ (L : List Nat) (S : Int32 × (Nat → Int32)), (∀ q ∈ L, q < 144) → S.1 = sSum (fun q => sAbs (S.2 q)) 144 → (sMGp sh L S).1 = sSum (fun q => sAbs ((sMGp sh L S).2 q)) 144
  | [], _, _, h => h
  | q :: L, S, hL, h => by
    refine sMGp_sum L _ (fun x hx => hL x (List.mem_cons_of_mem _ hx)) ?_
    show S.1 - sRel (S.2 q) sh = sSum (fun j => sAbs (if j = q then S.2 q - sh else S.2 j)) 144
    have e : (fun j => sAbs (if j = q then S.2 q - sh else S.2 j)) = fun j => if j = q then sAbs (S.2 q - sh) else (fun j => sAbs (S.2 j)) j := funext fun j => by
      by_cases z : j = q
      · rw [if_pos z, if_pos z]
      · rw [if_neg z, if_neg z]
    rw [e, sSum_upd 144 (hL q List.mem_cons_self), ← h]
    unfold sRel
    generalize S.1 = x
    generalize sAbs (S.2 q) = y
    generalize sAbs (S.2 q - sh) = z
    grind
theorem sMGp_lk {sh : Int32} : ∀ (L : List Nat) (S : Int32 × (Nat → Int32)), L.Nodup → ∀ j, (sMGp sh L S).2 j = S.2 j - (if j ∈ L then sh else 0)
  | [], S, _, j => by
    show S.2 j = S.2 j - (if j ∈ [] then sh else 0)
    rw [if_neg (by simp), Int32.sub_zero]
  | q :: L, S, hL, j => by
    obtain ⟨h1, h2⟩ := List.nodup_cons.mp hL
    show (sMGp sh L (S.1 - sRel (S.2 q) sh, fun j => if j = q then S.2 q - sh else S.2 j)).2 j = _
    rw [sMGp_lk L _ h2 j]
    show (if j = q then S.2 q - sh else S.2 j) - (if j ∈ L then sh else 0) = _
    by_cases e : j = q
    · subst e
      rw [if_pos rfl, if_neg h1, if_pos List.mem_cons_self, Int32.sub_zero]
    · rw [if_neg e]
      by_cases e2 : j ∈ L
      · rw [if_pos e2, if_pos (List.mem_cons_of_mem _ e2)]
      · rw [if_neg e2, if_neg (fun z => (List.mem_cons.mp z).elim e e2)]
theorem sMG_ok {N s n : Nat} {ρ : zRS} (i : IVr N s n ρ) : ∀ m, m ≤ n → (sMG ρ s m).1 = sSum (fun q => sAbs ((sMG ρ s m).2 q)) 144 ∧ ∀ q, q < 144 → (sMG ρ s m).2 q = ρ 7 q * ρ 3 2 - sDk ρ s m q
  | 0, _ => by
    refine ⟨sSum_congr 144 fun q hq => ?_, fun q hq => ?_⟩
    · obtain ⟨k, h8, h9, h10⟩ := i.2.2.2.2.2.1
      obtain ⟨g, h11, h12⟩ := i.2.2.2.2.2.2.1 q hq
      show ρ 7 q * ρ 3 2 = sAbs (ρ 7 q * ρ 3 2)
      have hgk : g * k ≤ 9 * 9 := Nat.mul_le_mul h11 h9
      rw [h12, h10, pk_mul]
      unfold sAbs
      rw [if_pos (show (0 : Int32) ≤ nI (g * k) from nI_le (a := 0) (Nat.zero_le _) (by omega))]
    · show ρ 7 q * ρ 3 2 = ρ 7 q * ρ 3 2 - 0
      rw [Int32.sub_zero]
  | m + 1, hm => by
    obtain ⟨h1, h2⟩ := sMG_ok i m (by omega)
    obtain ⟨a, b, u, ha, hb, hab, hu, q4, q5, q6⟩ := i.1.2.2 m (by omega)
    have hp := i.1.1.pos
    obtain ⟨-, hnd, hlt⟩ := sPa_ok i.1.1 ha hb hab
    have ea : zn (ρ 4 m) = a := by rw [q4, zn_nI (by omega)]
    have eb : zn (ρ 5 m) = b := by rw [q5, zn_nI (by omega)]
    have e : sMG ρ s (m + 1) = sMGp (ρ 1 (zn (ρ 6 m))) (sPa s a b) (sMG ρ s m) := by rw [← ea, ← eb]; rfl
    rw [e]
    refine ⟨sMGp_sum _ _ hlt h1, fun q hq => ?_⟩
    rw [sMGp_lk _ _ hnd q, h2 q hq]
    have e2 : sDk ρ s (m + 1) q = sDk ρ s m q + (if q ∈ sPa s (zn (ρ 4 m)) (zn (ρ 5 m)) then ρ 1 (zn (ρ 6 m)) else 0) := rfl
    rw [e2, ea, eb]
    generalize sDk ρ s m q = x
    generalize ρ 7 q * ρ 3 2 = y
    generalize (if q ∈ sPa s a b then ρ 1 (zn (ρ 6 m)) else 0) = z
    grind
theorem sMG_misfit {N s n : Nat} {ρ : zRS} (i : IVr N s n ρ) : (sMG ρ s n).1 = sMisfit ρ := by
  obtain ⟨h1, h2⟩ := sMG_ok i n (Nat.le_refl n)
  rw [h1]
  exact sSum_congr 144 fun q hq => by
    rw [h2 q hq, ← i.2.2.2.2.2.2.2 q hq]
    rfl
end
section
/-! EACH CHANGE OF A RING'S STATE: it stays reachable, and times and crossings stay counts. -/
theorem sSum_s (F : Nat → Int32) (n : Nat) : sSum F (n + 1) = sSum F n + F n := rfl
theorem lay_old {ρ : zRS} {s n a b u c : Nat} (h : c < n) : sLay ρ s n a b u 4 c = ρ 4 c ∧ sLay ρ s n a b u 5 c = ρ 5 c ∧ sLay ρ s n a b u 6 c = ρ 6 c := ⟨if_neg (by omega), if_neg (by omega), if_neg (by omega)⟩
theorem lay_new {ρ : zRS} {s n a b u : Nat} : sLay ρ s n a b u 4 n = nI a ∧ sLay ρ s n a b u 5 n = nI b ∧ sLay ρ s n a b u 6 n = nI u := ⟨if_pos rfl, if_pos rfl, if_pos rfl⟩
theorem lay_8 (ρ : zRS) (s n a b u q : Nat) : sLay ρ s n a b u 8 q = if q ∈ sPa s a b then ρ 8 q + 1 * ρ 1 u else ρ 8 q := by
  unfold sLay sPutR
  generalize sPa s a b = PL
  rfl
theorem off_8 (ρ : zRS) (s a b u q : Nat) : sOff ρ s a b u 8 q = if q ∈ sPa s a b then ρ 8 q + (-1) * ρ 1 u else ρ 8 q := by
  unfold sOff sPutR
  generalize sPa s a b = PL
  rfl
theorem sXs_lay {ρ : zRS} {s n a b u q : Nat} (ha : a < 24) (hb : b < 24) : sXs (sLay ρ s n a b u) s (n + 1) q = sInL (sPa s a b) 1 (sXs ρ s n) q := by
  unfold sXs
  rw [sSum_s, sSum_congr (H := fun c => if q ∈ sPa s (zn (ρ 4 c)) (zn (ρ 5 c)) then 1 else 0) n (fun c hc => by rw [(lay_old hc).1, (lay_old hc).2.1]), lay_new.1, lay_new.2.1, zn_nI (by omega), zn_nI (by omega)]
  unfold sInL
  generalize sPa s a b = PL
  by_cases e : q ∈ PL
  · rw [if_pos e, if_pos e]
  · rw [if_neg e, if_neg e, Int32.add_zero]
theorem sTm_lay {ρ : zRS} {N s n a b u p : Nat} (hv : RV ρ N s) (ha : a < 24) (hb : b < 24) : sTm (sLay ρ s n a b u) (n + 1) p = sPutT (sTm ρ n) (sPr (a * s) (b * s)) 1 p := by
  have hp := hv.pos
  have e0 : sStep (sLay ρ s n a b u) = sStep ρ := rfl
  unfold sTm
  rw [sSum_s, e0, sSum_congr (H := fun c => if sPr ((ρ 4 c).toNatClampNeg * (sStep ρ).toNatClampNeg) ((ρ 5 c).toNatClampNeg * (sStep ρ).toNatClampNeg) = p then 1 else 0) n (fun c hc => by rw [(lay_old hc).1, (lay_old hc).2.1]), lay_new.1, lay_new.2.1, hv.2.1, nI_clamp (by omega), nI_clamp (by omega), nI_clamp (by omega)]
  unfold sPutT
  by_cases e : p = sPr (a * s) (b * s)
  · rw [if_pos e.symm, if_pos e]
  · rw [if_neg (fun z => e z.symm), if_neg e, Int32.add_zero]
theorem sXs_off {ρ : zRS} {s n a b u q : Nat} (ha : a < 24) (hb : b < 24) (q4 : ρ 4 n = nI a) (q5 : ρ 5 n = nI b) : sXs (sOff ρ s a b u) s n q = sInL (sPa s a b) (-1) (sXs ρ s (n + 1)) q := by
  have e1 : sXs (sOff ρ s a b u) s n q = sXs ρ s n q := rfl
  have e2 : sXs ρ s (n + 1) q = sXs ρ s n q + (if q ∈ sPa s a b then 1 else 0) := by
    have : sXs ρ s (n + 1) q = sXs ρ s n q + (if q ∈ sPa s (zn (ρ 4 n)) (zn (ρ 5 n)) then 1 else 0) := rfl
    rw [this, q4, q5, zn_nI (by omega), zn_nI (by omega)]
  rw [e1]
  unfold sInL
  rw [e2]
  generalize sXs ρ s n q = x
  generalize sPa s a b = PL
  by_cases e : q ∈ PL
  · rw [if_pos e, if_pos e]; grind
  · rw [if_neg e, if_neg e, Int32.add_zero]
theorem sTm_off {ρ : zRS} {N s n a b u p : Nat} (hv : RV ρ N s) (ha : a < 24) (hb : b < 24) (q4 : ρ 4 n = nI a) (q5 : ρ 5 n = nI b) : sTm (sOff ρ s a b u) n p = sPutT (sTm ρ (n + 1)) (sPr (a * s) (b * s)) (-1) p := by
  have hp := hv.pos
  have e1 : sTm (sOff ρ s a b u) n p = sTm ρ n p := rfl
  have e2 : sTm ρ (n + 1) p = sTm ρ n p + (if sPr (a * s) (b * s) = p then 1 else 0) := by
    have : sTm ρ (n + 1) p = sTm ρ n p + (if sPr ((ρ 4 n).toNatClampNeg * (sStep ρ).toNatClampNeg) ((ρ 5 n).toNatClampNeg * (sStep ρ).toNatClampNeg) = p then 1 else 0) := rfl
    rw [this, q4, q5, hv.2.1, nI_clamp (by omega), nI_clamp (by omega), nI_clamp (by omega)]
  rw [e1]
  unfold sPutT
  rw [e2]
  generalize sTm ρ n p = x
  by_cases e : p = sPr (a * s) (b * s)
  · rw [if_pos e, if_pos e.symm]; grind
  · rw [if_neg e, if_neg (fun z => e z.symm), Int32.add_zero]
/-- only the numbers 1 .. 5 changed: at, now and the counts -/
theorem IVr_sc {N s n : Nat} {ρ : zRS} (i : IVr N s n ρ) (ψ : Nat → Int32) (e0 : ψ 0 = ρ 0 0) (e1 : ∃ a, a < N ∧ ψ 1 = nI a) (e2 : ∃ u, u < 3 ∧ ψ 2 = nI u) : IVr N s n (zset ρ 0 ψ) := by
  obtain ⟨h1, h2, -, -, h7, h8, h11, h12⟩ := i
  exact ⟨RW.sc h1 ψ e0, h2, e1, e2, h7, h8, h11, h12⟩
theorem IVr_inc {N s n j : Nat} {ρ : zRS} (i : IVr N s n ρ) (hj : 3 ≤ j) : IVr N s n (sInc ρ j) := by
  obtain ⟨a, h3, h4⟩ := i.2.2.1
  obtain ⟨u, h5, h6⟩ := i.2.2.2.1
  exact IVr_sc i _ (if_neg (by omega)) ⟨a, h3, (if_neg (by omega)).trans h4⟩ ⟨u, h5, (if_neg (by omega)).trans h6⟩
theorem IVr_knot {N s n u : Nat} {ρ : zRS} (i : IVr N s n ρ) (hu : u < 3) : IVr N s n (sKnotS ρ u) := by
  obtain ⟨a, h3, h4⟩ := i.2.2.1
  exact IVr_sc i _ rfl ⟨a, h3, h4⟩ ⟨u, hu, rfl⟩
theorem IVr_now {N s n u : Nat} {ρ : zRS} (i : IVr N s n ρ) (hu : u < 3) : IVr N s n (sNow ρ (nI u)) := by
  obtain ⟨a, h3, h4⟩ := i.2.2.1
  exact IVr_sc i _ rfl ⟨a, h3, h4⟩ ⟨u, hu, rfl⟩
theorem IVr_set {N s n e : Nat} {v : Int32} {ρ : zRS} (i : IVr N s n ρ) (h : e = 2 → ∃ k, 1 ≤ k ∧ k ≤ 9 ∧ v = nI k) : IVr N s n (sSetS ρ e v) := by
  obtain ⟨h1, h2, h3, h4, h7, h8, h11, h12⟩ := i
  refine ⟨h1, h2, h3, h4, h7, ?_, h11, h12⟩
  show ∃ k, 1 ≤ k ∧ k ≤ 9 ∧ (if 2 = e then v else ρ 3 2) = nI k
  by_cases z : 2 = e
  · rw [if_pos z]; exact h z.symm
  · rw [if_neg z]; exact h8
theorem IVr_grey {N s n : Nat} {φ : Nat → Int32} {ρ : zRS} (i : IVr N s n ρ) (h : ∀ q, q < 144 → ∃ g, g ≤ 9 ∧ φ q = nI g) : IVr N s n (zset ρ 7 φ) := by
  obtain ⟨h1, h2, h3, h4, h7, h8, h11, h12⟩ := i
  exact ⟨h1, h2, h3, h4, h7, h8, h, h12⟩
theorem sCh_0 {ρ : zRS} {u : Nat} : ∀ n, n ≤ 200 → (sCh ρ n (nI u) ≤ 0) → ∀ c, c < n → ¬ ρ 6 c = nI u := fun n hn h c hc e => by
  have key : ∀ m, m ≤ n → ∃ k, k ≤ m ∧ sCh ρ m (nI u) = nI k ∧ (c < m → 1 ≤ k) := by
    intro m
    induction m with
    | zero => exact fun _ => ⟨0, Nat.le_refl _, rfl, fun z => absurd z (Nat.not_lt_zero c)⟩
    | succ m ih =>
      intro hm
      obtain ⟨k, k1, k2, k3⟩ := ih (by omega)
      have e2 : sCh ρ (m + 1) (nI u) = sCh ρ m (nI u) + (if ρ 6 m = nI u then 1 else 0) := rfl
      rw [k2] at e2
      by_cases z : ρ 6 m = nI u
      · rw [if_pos z, nI_1] at e2
        exact ⟨k + 1, by omega, e2, fun _ => by omega⟩
      · rw [if_neg z, Int32.add_zero] at e2
        exact ⟨k, by omega, e2, fun w => k3 (by
          rcases Nat.lt_or_ge c m with y | y
          · exact y
          · exact absurd ((show m = c by omega) ▸ e) z)⟩
  obtain ⟨k, k1, k2, k3⟩ := key n (Nat.le_refl n)
  rw [k2, show (0 : Int32) = nI 0 from rfl, nI_leI (by omega) (by omega)] at h
  have := k3 hc
  omega
theorem IVr_spool {N s n u : Nat} {sh lf : Int32} {ρ : zRS} (i : IVr N s n ρ) (hu : u < 3) (hch : sCh ρ n (nI u) ≤ 0) (hs : ∃ k, 1 ≤ k ∧ k ≤ 9 ∧ sh = nI k) : IVr N s n (sSpoolS ρ u sh lf) := by
  obtain ⟨h1, h2, h3, h4, h7, h8, h11, h12⟩ := i
  refine ⟨h1, h2, h3, h4, fun w hw => ?_, h8, h11, fun q hq => (h12 q hq).trans (sSum_congr n fun c hc => ?_)⟩
  · show ∃ k, 1 ≤ k ∧ k ≤ 9 ∧ (if w = u then sh else ρ 1 w) = nI k
    by_cases z : w = u
    · rw [if_pos z]; exact hs
    · rw [if_neg z]; exact h7 w hw
  · obtain ⟨a, b, w, ha, hb, hab, hw, q4, q5, q6⟩ := h1.2.2 c hc
    have hne := sCh_0 n h2 hch c hc
    show (if q ∈ sPa s (zn (ρ 4 c)) (zn (ρ 5 c)) then ρ 1 (zn (ρ 6 c)) else 0) = (if q ∈ sPa s (zn (ρ 4 c)) (zn (ρ 5 c)) then (if zn (ρ 6 c) = u then sh else ρ 1 (zn (ρ 6 c))) else 0)
    rw [q6] at hne ⊢
    rw [zn_nI (by omega), if_neg (show ¬ w = u from fun z => hne (by rw [z]))]
theorem IVr_lay {N s n a b u : Nat} {ρ : zRS} (i : IVr N s n ρ) (hn : n < 200) (ha : a < N) (hb : b < N) (hab : a ≠ b) (hu : u < 3) (hnow : ρ 0 2 = nI u) : IVr N s (n + 1) (sLay ρ s n a b u) := by
  obtain ⟨h1, h2, h3, h4, h7, h8, h11, h12⟩ := i
  have hp := h1.1.pos
  refine ⟨RW.lay h1 h2 ha hb hab hu, by omega, ⟨b, hb, rfl⟩, ⟨u, hu, hnow⟩, h7, h8, h11, fun q hq => ?_⟩
  have e1 : sDk (sLay ρ s n a b u) s n q = sDk ρ s n q := sSum_congr n (fun c hc => by rw [(lay_old hc).1, (lay_old hc).2.1, (lay_old hc).2.2]; rfl)
  have e2 : sDk (sLay ρ s n a b u) s (n + 1) q = sDk (sLay ρ s n a b u) s n q + (if q ∈ sPa s (zn (sLay ρ s n a b u 4 n)) (zn (sLay ρ s n a b u 5 n)) then ρ 1 (zn (sLay ρ s n a b u 6 n)) else 0) := rfl
  rw [lay_8, h12 q hq, e2, e1, lay_new.1, lay_new.2.1, lay_new.2.2, zn_nI (by omega), zn_nI (by omega), zn_nI (by omega), Int32.one_mul]
  generalize sDk ρ s n q = x
  generalize sPa s a b = PL
  by_cases e : q ∈ PL
  · rw [if_pos e, if_pos e]
  · rw [if_neg e, if_neg e, Int32.add_zero]
theorem RW_off {N s n a b u : Nat} {ρ : zRS} (h : RW ρ N s (n + 1)) : RW (sOff ρ s a b u) N s n := ⟨h.1, by have := h.2.1; omega, fun c hc => h.2.2 c (by omega)⟩
theorem IVr_off {N s n a b u : Nat} {ρ : zRS} (i : IVr N s (n + 1) ρ) (ha : a < N) (hb : b < N) (hu : u < 3) (q4 : ρ 4 n = nI a) (q5 : ρ 5 n = nI b) (q6 : ρ 6 n = nI u) : IVr N s n (sOff ρ s a b u) := by
  obtain ⟨h1, h2, h3, h4, h7, h8, h11, h12⟩ := i
  have hp := h1.1.pos
  refine ⟨RW_off h1, by omega, ⟨a, ha, rfl⟩, ⟨u, hu, rfl⟩, h7, h8, h11, fun q hq => ?_⟩
  have e1 : sDk (sOff ρ s a b u) s n q = sDk ρ s n q := rfl
  have e2 : sDk ρ s (n + 1) q = sDk ρ s n q + (if q ∈ sPa s (zn (ρ 4 n)) (zn (ρ 5 n)) then ρ 1 (zn (ρ 6 n)) else 0) := rfl
  rw [off_8, h12 q hq, e1, e2, q4, q5, q6, zn_nI (by omega), zn_nI (by omega), zn_nI (by omega)]
  generalize sDk ρ s n q = x
  generalize sPa s a b = PL
  generalize ρ 1 u = y
  by_cases e : q ∈ PL
  · rw [if_pos e, if_pos e]; grind
  · rw [if_neg e, if_neg e, Int32.add_zero]
end
section
theorem RW_le {ρ : zRS} {N s n m : Nat} (h : RW ρ N s n) (hm : m ≤ n) : RW ρ N s m := ⟨h.1, by have := h.2.1; omega, fun c hc => h.2.2 c (by omega)⟩
theorem RW_dn {ρ : zRS} {N s n : Nat} (h : RW ρ N s n) (xs tm : Nat → Int32) (j : Nat) : RW (sDn ρ xs tm s n j).1 N s n := by
  obtain ⟨h4, h5, h6, h0⟩ := sDn_ch ρ xs tm s n j
  refine ⟨⟨h0.trans h.1.1, ?_, h.1.2.2⟩, h.2.1, fun c hc => ?_⟩
  · rw [← h.1.2.1]
    unfold sStep
    rw [h0]
  · obtain ⟨a, b, u, ha, hb, hab, hu, q4, q5, q6⟩ := h.2.2 c hc
    exact ⟨a, b, u, ha, hb, hab, hu, (h4 c).trans q4, (h5 c).trans q5, (h6 c).trans q6⟩
theorem sDn_s {ρ : zRS} {xs tm : Nat → Int32} {s n j a b u : Nat} (ha : a < 24) (hb : b < 24) (hu : u < 3) (q4 : ρ 4 (n - 1 - j) = nI a) (q5 : ρ 5 (n - 1 - j) = nI b) (q6 : ρ 6 (n - 1 - j) = nI u) : (sDn ρ xs tm s n (j + 1)).1 = sOff (sDn ρ xs tm s n j).1 s a b u := by
  have e : (sDn ρ xs tm s n (j + 1)).1 = sOff (sDn ρ xs tm s n j).1 s (zn (ρ 4 (n - 1 - j))) (zn (ρ 5 (n - 1 - j))) (zn (ρ 6 (n - 1 - j))) := rfl
  rw [e, q4, q5, q6, zn_nI (by omega), zn_nI (by omega), zn_nI (by omega)]
end
section
def wP (w w' : Nat → Int32) : Prop := ∀ i, i ≠ 5 → i ≠ 6 → w' i = w i
theorem wP.refl (w : Nat → Int32) : wP w w := fun _ _ _ => rfl
theorem wP.trans {w w' w2 : Nat → Int32} (h : wP w w') (h2 : wP w' w2) : wP w w2 := fun i a b => (h2 i a b).trans (h i a b)
end
section
/-- behind a row: place p', b: well or not -/
def sPO (L e : Nat) (ch : Nat → Nat) (g0 : Nat → Int32) (σ σ' : Nat → Int32) (p b : Nat) : Prop :=
  p ≤ L ∧ (∀ i, i ≤ p → sRun ch i ≠ 16) ∧ (∀ j, j < 616 ∨ 760 ≤ j → σ' j = σ j) ∧ (e = 0 → σ' = σ) ∧
  ((b = 1 ∧ sEnd (sRun ch p) = true ∧ (12 ≤ sRun ch p ∨ p = L ∨ sIsD (ch p) = false) ∧ (e = 1 → ∀ j, j < 144 → σ' (616 + j) = (sTl ch g0 p).2.2.2 j)) ∨
   (b = 0 ∧ (p = L → sEnd (sRun ch p) = false) ∧ (p < L → sRun ch (p + 1) = 16)))
end
section
theorem sPO.trans {L e p b p2 b2 : Nat} {ch : Nat → Nat} {g0 : Nat → Int32} {σ σ' σ2 : Nat → Int32} (h : sPO L e ch g0 σ σ' p b) (h2 : sPO L e ch g0 σ' σ2 p2 b2) : sPO L e ch g0 σ σ2 p2 b2 :=
  ⟨h2.1, h2.2.1, fun j hj => (h2.2.2.1 j hj).trans (h.2.2.1 j hj), fun z => (h2.2.2.2.1 z).trans (h.2.2.2.1 z), h2.2.2.2.2⟩
end
section
/-! THE LAW'S OWN ROWS (the script, the comparison of a long with itself), and what holds of both at the head of its loop. -/
theorem lv_lcmpE {p : Program} {l : Launch} {e : Env} {R : Room} {s : State} {m : MethodId} {args : Array Value} {below : List Frame} {meth : Method} {c : Code} {H : Heap} {locs : List Loc} {cells slots : Nat} {Q : State → Prop} {cc : ByteArray} {pc : Nat} {ls : Array Slot} {rest : List Value} (hexec : p.tables.exec = Jvm.exec) (hb : c.code = cc) {x : Int64} (hdg : decode cc pc = .ok (.lcmp, 1))
    (k : W p l e R s m args below meth c H locs cells slots Q (F0 m (pc + 1) ls (.int 0 :: rest))) : W p l e R s m args below meth c H locs cells slots Q (F0 m pc ls (.long x :: .long x :: rest)) := by
  intro T hT X
  obtain ⟨t, a, b⟩ := k T hT X
  refine ⟨t, ?_, b⟩
  have c1 : ¬ x > x := fun h => absurd h (by simp)
  have c2 : (x == x) = true := beq_self_eq_true x
  jvm_step X.here [X.here.top, hexec, hb, hdg, c1, c2]
  exact a
section ZLAWR
variable {G : zW} {y : MethodName} {cc : ByteArray} {nL : Nat} {ret : Option FieldType} {d : Nat} {pc : Nat} {lv : List (Nat × Value)} {st : List Value} {h : zH} {Q : zOut → zH → Prop} {tg tg2 : Nat}
theorem v_lcmpE {x : Int64} (hd : decode cc pc = .ok (.lcmp, 1)) (k : zV G y cc nL ret d (pc + 1) lv (.int 0 :: st) h Q) : zV G y cc nL ret d pc lv (.long x :: .long x :: st) h Q := fun p e R s m args below meth c H locs cells slots n0 z0 ls C h1 h2 h3 h4 h5 h6 => lv_lcmpE C.1 C.2.1 hd (k p e R s m args below meth c H locs cells slots n0 z0 ls C h1 h2 h3 h4 h5 h6)
theorem v_slen (hd : decode cc pc = .ok (.arraylength, 1)) (k : zV G y cc nL ret d (pc + 1) lv (.int (Int32.ofNat (zSc G).2.1) :: st) h Q) : zV G y cc nL ret d pc lv (.ref (zSc G).1 :: st) h Q := fun p e R s m args below meth c H locs cells slots n0 z0 ls C h1 h2 h3 h4 h5 h6 => by
  obtain ⟨hx, hb, hml, hown, hrt, hlk, hnm, htb, hts, hR, hG, hbs⟩ := C
  exact va_slen (A := zA G) hx hb hG.1.2.2 (Nat.lt_of_lt_of_le hG.1.2.1 hbs) (Nat.not_le.mpr hG.1.2.1) h5 hd (k p e R s m args below meth c H locs cells slots n0 z0 ls ⟨hx, hb, hml, hown, hrt, hlk, hnm, htb, hts, hR, hG, hbs⟩ h1 h2 h3 h4 h5 h6)
theorem v_sload {i : Int32} (hd : decode cc pc = .ok (.iaload, 1)) (hin : vp_in i (zSc G).2.1) (k : zV G y cc nL ret d (pc + 1) lv (.int ((zSc G).2.2 i.toNatClampNeg) :: st) h Q) : zV G y cc nL ret d pc lv (.int i :: .ref (zSc G).1 :: st) h Q := fun p e R s m args below meth c H locs cells slots n0 z0 ls C h1 h2 h3 h4 h5 h6 => by
  obtain ⟨hx, hb, hml, hown, hrt, hlk, hnm, htb, hts, hR, hG, hbs⟩ := C
  exact va_sld (A := zA G) hx hb hG.1.2.2 (Nat.lt_of_lt_of_le hG.1.2.1 hbs) (Nat.not_le.mpr hG.1.2.1) h5 hin hd (k p e R s m args below meth c H locs cells slots n0 z0 ls ⟨hx, hb, hml, hown, hrt, hlk, hnm, htb, hts, hR, hG, hbs⟩ h1 h2 h3 h4 h5 h6)
end ZLAWR
/-- the program's object, whole -/
def CI (f : zHM) (m : Nat × Nat) (x k : Nat) (st : Nat → zST) (ss : Nat → Option zST) (S : zST) (L : Nat) (ch : Nat → Nat) (J : Nat × Nat) : Prop := ∃ r tr sc tx sl sv la A gv π gs co M,
  f x = some (600, .inr (3, zOb r tr sc tx sl sv k)) ∧ RPic f 0 r la A S.1 S.2.1 S.2.2.1 S.2.2.2 ∧ LNok f m la M ∧ RAny f 20 tr la ∧ (∃ g, f sc = some (601, .inl (0, 144, .inl g))) ∧ TPic f 602 tx co L ch ∧ SVP f sv la gv π k st ∧ SLP f sl la gs ss ∧ M.1 + 11 * zcn gv 6 + 11 * zcn gs 2 ≤ J.1 ∧ M.2 + 1339 * zcn gv 6 + 1339 * zcn gs 2 ≤ J.2
theorem CI.fr {T : Nat → Prop} {f f' : zHM} {m : Nat × Nat} {x k L : Nat} {st : Nat → zST} {ss : Nat → Option zST} {S : zST} {ch : Nat → Nat} {J : Nat × Nat} (h : CI f m x k st ss S L ch J) (hf : zFr T f f') (hT : ∀ τ, T τ → 700 ≤ τ ∧ τ ≤ 750) : CI f' m x k st ss S L ch J := by
  obtain ⟨r, tr, sc, tx, sl, sv, la, A, gv, π, gs, co, M, h1, h2, h3, h4, ⟨g, h5⟩, h6, h7, h8, h9, h10⟩ := h
  have hn : ∀ τ, τ < 700 ∨ 750 < τ → ¬ T τ := fun τ q z => by have := hT τ z; omega
  exact ⟨r, tr, sc, tx, sl, sv, la, A, gv, π, gs, co, M, hf _ _ _ h1 (hn _ (by omega)), h2.fr hf (fun k hk => hn _ (by omega)), h3.fr hf (fun t ht => hn _ (by omega)), h4.fr hf (fun k hk => hn _ (by omega)), ⟨g, hf _ _ _ h5 (hn _ (by omega))⟩, h6.fr hf (hn _ (by omega)) (hn _ (by omega)), h7.fr hf (fun τ hτ => hn _ (by omega)), h8.fr hf (fun τ hτ => hn _ (by omega)), h9, h10⟩
theorem CI.more {f : zHM} {m : Nat × Nat} {x k L : Nat} {st : Nat → zST} {ss : Nat → Option zST} {S : zST} {ch : Nat → Nat} {J : Nat × Nat} (h : CI f m x k st ss S L ch J) (a b : Nat) (h1 : J.1 + a ≤ 50000) (h2 : J.2 + b ≤ 399990) : CI f (m.1 + a, m.2 + b) x k st ss S L ch (J.1 + a, J.2 + b) := by
  obtain ⟨r, tr, sc, tx, sl, sv, la, A, gv, π, gs, co, M, q1, q2, q3, q4, q5, q6, q7, q8, q9, q10⟩ := h
  exact ⟨r, tr, sc, tx, sl, sv, la, A, gv, π, gs, co, (M.1 + a, M.2 + b), q1, q2, q3.more a b (by omega) (by omega), q4, q5, q6, q7, q8, by show M.1 + a + _ + _ ≤ J.1 + a; omega, by show M.2 + b + _ + _ ≤ J.2 + b; omega⟩
theorem CI.wide {f : zHM} {m : Nat × Nat} {x k L : Nat} {st : Nat → zST} {ss : Nat → Option zST} {S : zST} {ch : Nat → Nat} {J J' : Nat × Nat} (h : CI f m x k st ss S L ch J) (h1 : J.1 ≤ J'.1) (h2 : J.2 ≤ J'.2) : CI f m x k st ss S L ch J' := by
  obtain ⟨r, tr, sc, tx, sl, sv, la, A, gv, π, gs, co, M, q1, q2, q3, q4, q5, q6, q7, q8, q9, q10⟩ := h
  exact ⟨r, tr, sc, tx, sl, sv, la, A, gv, π, gs, co, M, q1, q2, q3, q4, q5, q6, q7, q8, Nat.le_trans q9 h1, Nat.le_trans q10 h2⟩
theorem zNZ.fr {T : Nat → Prop} {f f' : zHM} {o k L mr : Nat} {B : Nat → Nat} {hh : Int64} {σ : Nat → Int32} {th : Int32} {sv : Nat → Nat → Int32} {hsl : Nat → Int32} {sl : Nat → Nat → Int32} {ch : Nat → Nat} (h : zNZ f o B hh σ mr th k sv hsl sl L ch) (hf : zFr T f f') (hT : ∀ τ, T τ → τ < 700 ∨ 708 < τ) : zNZ f' o B hh σ mr th k sv hsl sl L ch := by
  obtain ⟨w, h1, h2, h3, h4, h5⟩ := h
  exact ⟨w, h1.fr7 hf (fun τ q z => by have := hT τ z; omega), h2, h3, h4, h5.fr hf (fun τ z q => by have := hT τ z; omega)⟩
end
