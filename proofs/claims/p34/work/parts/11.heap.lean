/-- a field's link: the class's number, the field's place, its type, whether it is final -/
def zFL (own : String) (idx ci k : Nat) (ty : FieldType) (fin : Bool) : Prop :=
  ∃ (C : String) (T : u_T) (N : Nat) (ty0 : Nat → FieldType), zCL[ci]? = some (C, T, N) ∧ (∀ w ∈ u_ws C T N, w ∈ GT) ∧ k < N ∧ Cond.fieldLink own idx C (T k).2.1 (T k).2.2.1 ∈ GT ∧ (T k).1 = C ∧
    (∀ k, k < N → parseFieldDescriptor (T k).2.2.1 = some (ty0 k)) ∧ (∀ a, a < N → ∀ b, b < N → a ≠ b → (T a).2.1 ≠ (T b).2.1) ∧ (T k).2.2.2 = fin ∧ parseFieldDescriptor (T k).2.2.1 = some ty
/-- a class that can be made -/
def zNL (own : String) (idx ci : Nat) (fs : List Value) (n : Nat) : Prop :=
  ∃ (C : String) (T : u_T) (ty0 : Nat → FieldType), zCL[ci]? = some (C, T, n) ∧ (∀ w ∈ u_ws C T n, w ∈ GT) ∧ (∀ k, k < n → parseFieldDescriptor (T k).2.2.1 = some (ty0 k)) ∧ Cond.classLink own idx C ∈ GT ∧ Cond.instantiable C n ∈ GT ∧ Cond.initialized C ∈ GT ∧ ∀ j, j < n → defaultValue (ty0 j) = vp_V fs j
theorem zR.new {G : zW} {f : zHM} {ws : va_W} {q : Nat} {e : zCE} (h1 : ∀ a e, f a = some e → ∃ k : Nat, ws[k]? = some (a, zE G.2.2.1 e)) (b : Nat) (x : zCE) (hb : zup f q e b = some x) : ∃ k : Nat, (ws ++ [(q, zE G.2.2.1 e)])[k]? = some (b, zE G.2.2.1 x) := by
  by_cases hbq : b = q
  · subst hbq
    rw [zup_at] at hb
    cases hb
    exact ⟨ws.length, by simp⟩
  · rw [zup_ne hbq] at hb
    obtain ⟨k, hk⟩ := h1 b x hb
    exact ⟨k, by rw [List.getElem?_append_left (List.getElem?_eq_some_iff.mp hk).1]; exact hk⟩
theorem zR.fresh {G : zW} {f : zHM} {ws : va_W} {q : Nat} {e : va_E} {A : Nat → Prop} (h1 : ∀ a e, f a = some e → ∃ k : Nat, ws[k]? = some (a, zE G.2.2.1 e)) (hD : va_D A (ws ++ [(q, e)])) : f q = none := by
  cases hf : f q with
  | none => rfl
  | some x =>
    obtain ⟨k, hk⟩ := h1 q x hf
    have hlt := (List.getElem?_eq_some_iff.mp hk).1
    have := hD.1 k ws.length (q, zE G.2.2.1 x) (q, e) (by rw [List.getElem?_append_left hlt]; exact hk) (show (ws ++ [(q, e)])[ws.length]? = some (q, e) by simp) rfl
    omega
theorem zcells {G : zW} {h : zH} {n0 cells d : Nat} (h1 : h.2.1 = n0 + cells) (h3 : zcap h) : cells + 0 ≤ 50000 * (d + 1) := by
  have := h3.1
  omega
section ZHEAP
variable {G : zW} {y : MethodName} {cc : ByteArray} {nL : Nat} {ret : Option FieldType} {d : Nat} {pc : Nat} {lv : List (Nat × Value)} {st : List Value} {h : zH} {Q : zOut → zH → Prop} {tg tg2 : Nat}
theorem zb8 {N b : Nat} (h : N ≤ 60000) (h8 : b ≤ 8) : N * b ≤ 536870912 := Nat.le_trans (Nat.mul_le_mul h h8) (by decide)
theorem v_getfield {idx ci k a : Nat} {ty : FieldType} {fin : Bool} {fs : List Value} {v : Value} (f : zFL y.cls idx ci k ty fin) (hd : decode cc pc = .ok (.getfield idx, 3)) (ha : h.1 a = some (tg, .inr (ci, fs))) (hv : fs[k]? = some v) (kk : zV G y cc nL ret d (pc + 3) lv (v :: st) h Q) : zV G y cc nL ret d pc lv (.ref a :: st) h Q := fun p e R s m args below meth c H locs cells slots n0 z0 ls C h1 h2 h3 h4 h5 h6 => by
  obtain ⟨hx, hb, hml, hown, hrt, hlk, hnm, htb, hts, hR, hG, hbs⟩ := C
  obtain ⟨Cn, T, N, ty0, f1, f2, f3, f4, f5, f6, f7, f8, f9⟩ := f
  obtain ⟨ws, w1, w2, w3, q0, hq⟩ := h4.at ha
  exact va_get (D := G.2.1) (cl := zCL) (C := Cn) (T := T) (N := N) (ci := ci) hx hb hts f2 hown hG.2.1 w2 q0 hq f1 k f3 (hts _ f4) (fun x hx => by rw [f5] at hx; exact hx) hv hd (kk p e R s m args below meth c H locs cells slots n0 z0 ls ⟨hx, hb, hml, hown, hrt, hlk, hnm, htb, hts, hR, hG, hbs⟩ h1 h2 h3 h4 h5 h6)
theorem v_putfield {idx ci k a : Nat} {ty : FieldType} {fs : List Value} {v : Value} (f : zFL y.cls idx ci k ty false) (hd : decode cc pc = .ok (.putfield idx, 3)) (ha : h.1 a = some (tg, .inr (ci, fs))) (hn : narrow ty v = v) (hf : fits ty v = true) (hl : k < fs.length) (kk : zV G y cc nL ret d (pc + 3) lv st (zup h.1 a (tg, .inr (ci, fs.set k v)), h.2) Q) : zV G y cc nL ret d pc lv (v :: .ref a :: st) h Q := fun p e R s m args below meth c H locs cells slots n0 z0 ls C h1 h2 h3 h4 h5 h6 => by
  obtain ⟨hx, hb, hml, hown, hrt, hlk, hnm, htb, hts, hR, hG, hbs⟩ := C
  obtain ⟨Cn, T, N, ty0, f1, f2, f3, f4, f5, f6, f7, f8, f9⟩ := f
  obtain ⟨ws, w1, w2, w3, q0, hq⟩ := h4.at ha
  exact va_put (D := G.2.1) (cl := zCL) (C := Cn) (T := T) (N := N) (ci := ci) hx hb hts f2 ty0 f6 f7 hown hG.2.1 w2 w3 h5 q0 hq f1 k f3 (hts _ f4) (fun x hx => by rw [f5] at hx; exact hx) f8 f9 hn hf hl hd (fun H9 locs9 hP9 hD9 hS9 => kk p e R s m args below meth c H9 locs9 cells slots n0 z0 ls ⟨hx, hb, hml, hown, hrt, hlk, hnm, htb, hts, hR, hG, hbs⟩ h1 h2 h3 ⟨_, zR.put w1 hq, hP9, hD9⟩ hS9 h6)
theorem v_putfieldF {idx ci k a : Nat} {ty : FieldType} {fs : List Value} {v : Value} (f : zFL y.cls idx ci k ty true) (hin : y.name = "<init>") (hdc : zCL[ci]?.map (fun q => q.1) = some y.cls) (hd : decode cc pc = .ok (.putfield idx, 3)) (ha : h.1 a = some (tg, .inr (ci, fs))) (hn : narrow ty v = v) (hf : fits ty v = true) (hl : k < fs.length) (kk : zV G y cc nL ret d (pc + 3) lv st (zup h.1 a (tg, .inr (ci, fs.set k v)), h.2) Q) : zV G y cc nL ret d pc lv (v :: .ref a :: st) h Q := fun p e R s m args below meth c H locs cells slots n0 z0 ls C h1 h2 h3 h4 h5 h6 => by
  obtain ⟨hx, hb, hml, hown, hrt, hlk, hnm, htb, hts, hR, hG, hbs⟩ := C
  obtain ⟨Cn, T, N, ty0, f1, f2, f3, f4, f5, f6, f7, f8, f9⟩ := f
  obtain ⟨ws, w1, w2, w3, q0, hq⟩ := h4.at ha
  have hCn : Cn = y.cls := by rw [f1] at hdc; exact Option.some.inj hdc
  exact va_putF (D := G.2.1) (cl := zCL) (C := Cn) (T := T) (N := N) (ci := ci) hx hb hts f2 ty0 f6 f7 hown hG.2.1 w2 w3 h5 q0 hq f1 k f3 (hts _ f4) (fun x hx => by rw [f5] at hx; exact hx) f8 (hnm.trans hin) (f5.trans hCn) f9 hn hf hl hd (fun H9 locs9 hP9 hD9 hS9 => kk p e R s m args below meth c H9 locs9 cells slots n0 z0 ls ⟨hx, hb, hml, hown, hrt, hlk, hnm, htb, hts, hR, hG, hbs⟩ h1 h2 h3 ⟨_, zR.put w1 hq, hP9, hD9⟩ hS9 h6)
theorem v_iaload {a n : Nat} {f : Nat → Int32} {i : Int32} (hd : decode cc pc = .ok (.iaload, 1)) (ha : h.1 a = some (tg, .inl (0, n, .inl f))) (hin : vp_in i n) (kk : zV G y cc nL ret d (pc + 1) lv (.int (f i.toNatClampNeg) :: st) h Q) : zV G y cc nL ret d pc lv (.int i :: .ref a :: st) h Q := fun p e R s m args below meth c H locs cells slots n0 z0 ls C h1 h2 h3 h4 h5 h6 => by
  obtain ⟨hx, hb, hml, hown, hrt, hlk, hnm, htb, hts, hR, hG, hbs⟩ := C
  obtain ⟨ws, w1, w2, w3, q0, hq⟩ := h4.at ha
  exact va_iald (D := G.2.1) (cl := zCL) hx hb hG.2.1 w2 q0 0 hq rfl hin hd (kk p e R s m args below meth c H locs cells slots n0 z0 ls ⟨hx, hb, hml, hown, hrt, hlk, hnm, htb, hts, hR, hG, hbs⟩ h1 h2 h3 h4 h5 h6)
theorem v_caload {a n : Nat} {f : Nat → Int32} {i : Int32} (hd : decode cc pc = .ok (.caload, 1)) (ha : h.1 a = some (tg, .inl (3, n, .inl f))) (hin : vp_in i n) (kk : zV G y cc nL ret d (pc + 1) lv (.int (f i.toNatClampNeg) :: st) h Q) : zV G y cc nL ret d pc lv (.int i :: .ref a :: st) h Q := fun p e R s m args below meth c H locs cells slots n0 z0 ls C h1 h2 h3 h4 h5 h6 => by
  obtain ⟨hx, hb, hml, hown, hrt, hlk, hnm, htb, hts, hR, hG, hbs⟩ := C
  obtain ⟨ws, w1, w2, w3, q0, hq⟩ := h4.at ha
  exact va_cald (D := G.2.1) (cl := zCL) hx hb hG.2.1 w2 q0 3 hq rfl hin hd (kk p e R s m args below meth c H locs cells slots n0 z0 ls ⟨hx, hb, hml, hown, hrt, hlk, hnm, htb, hts, hR, hG, hbs⟩ h1 h2 h3 h4 h5 h6)
theorem v_aaloadL {a n : Nat} {f : Nat → Option Nat} {i : Int32} (hd : decode cc pc = .ok (.aaload, 1)) (ha : h.1 a = some (tg, .inl (4, n, .inr (.inr (.inr (.inr f)))))) (hin : vp_in i n) (kk : zV G y cc nL ret d (pc + 1) lv (va_rf (f i.toNatClampNeg) :: st) h Q) : zV G y cc nL ret d pc lv (.int i :: .ref a :: st) h Q := fun p e R s m args below meth c H locs cells slots n0 z0 ls C h1 h2 h3 h4 h5 h6 => by
  obtain ⟨hx, hb, hml, hown, hrt, hlk, hnm, htb, hts, hR, hG, hbs⟩ := C
  obtain ⟨ws, w1, w2, w3, q0, hq⟩ := h4.at ha
  exact va_aldq (D := G.2.1) (cl := zCL) hx hb hG.2.1 w2 q0 4 hq rfl hin hd (kk p e R s m args below meth c H locs cells slots n0 z0 ls ⟨hx, hb, hml, hown, hrt, hlk, hnm, htb, hts, hR, hG, hbs⟩ h1 h2 h3 h4 h5 h6)
theorem v_aaloadR {a n : Nat} {f : Nat → Option Nat} {i : Int32} (hd : decode cc pc = .ok (.aaload, 1)) (ha : h.1 a = some (tg, .inl (5, n, .inr (.inr (.inr (.inr f)))))) (hin : vp_in i n) (kk : zV G y cc nL ret d (pc + 1) lv (va_rf (f i.toNatClampNeg) :: st) h Q) : zV G y cc nL ret d pc lv (.int i :: .ref a :: st) h Q := fun p e R s m args below meth c H locs cells slots n0 z0 ls C h1 h2 h3 h4 h5 h6 => by
  obtain ⟨hx, hb, hml, hown, hrt, hlk, hnm, htb, hts, hR, hG, hbs⟩ := C
  obtain ⟨ws, w1, w2, w3, q0, hq⟩ := h4.at ha
  exact va_aldq (D := G.2.1) (cl := zCL) hx hb hG.2.1 w2 q0 5 hq rfl hin hd (kk p e R s m args below meth c H locs cells slots n0 z0 ls ⟨hx, hb, hml, hown, hrt, hlk, hnm, htb, hts, hR, hG, hbs⟩ h1 h2 h3 h4 h5 h6)
theorem v_iastore {a n : Nat} {f : Nat → Int32} {i : Int32} {x : Int32} (hd : decode cc pc = .ok (.iastore, 1)) (ha : h.1 a = some (tg, .inl (0, n, .inl f))) (hin : vp_in i n) (kk : zV G y cc nL ret d (pc + 1) lv st (zup h.1 a (tg, .inl (0, n, .inl (upd f i.toNatClampNeg x))), h.2) Q) : zV G y cc nL ret d pc lv (.int x :: .int i :: .ref a :: st) h Q := fun p e R s m args below meth c H locs cells slots n0 z0 ls C h1 h2 h3 h4 h5 h6 => by
  obtain ⟨hx, hb, hml, hown, hrt, hlk, hnm, htb, hts, hR, hG, hbs⟩ := C
  obtain ⟨ws, w1, w2, w3, q0, hq⟩ := h4.at ha
  exact va_iast (D := G.2.1) (cl := zCL) hx hb hG.2.1 w2 w3 h5 q0 0 hq rfl hin hd (fun H9 locs9 hP9 hD9 hS9 => kk p e R s m args below meth c H9 locs9 cells slots n0 z0 ls ⟨hx, hb, hml, hown, hrt, hlk, hnm, htb, hts, hR, hG, hbs⟩ h1 h2 h3 ⟨_, zR.put w1 hq, hP9, hD9⟩ hS9 h6)
theorem v_castore {a n : Nat} {f : Nat → Int32} {i : Int32} {x : Int32} (hd : decode cc pc = .ok (.castore, 1)) (ha : h.1 a = some (tg, .inl (3, n, .inl f))) (hin : vp_in i n) (kk : zV G y cc nL ret d (pc + 1) lv st (zup h.1 a (tg, .inl (3, n, .inl (upd f i.toNatClampNeg (vp_nar .char x)))), h.2) Q) : zV G y cc nL ret d pc lv (.int x :: .int i :: .ref a :: st) h Q := fun p e R s m args below meth c H locs cells slots n0 z0 ls C h1 h2 h3 h4 h5 h6 => by
  obtain ⟨hx, hb, hml, hown, hrt, hlk, hnm, htb, hts, hR, hG, hbs⟩ := C
  obtain ⟨ws, w1, w2, w3, q0, hq⟩ := h4.at ha
  exact va_cast (D := G.2.1) (cl := zCL) hx hb hG.2.1 w2 w3 h5 q0 3 hq rfl hin hd (fun H9 locs9 hP9 hD9 hS9 => kk p e R s m args below meth c H9 locs9 cells slots n0 z0 ls ⟨hx, hb, hml, hown, hrt, hlk, hnm, htb, hts, hR, hG, hbs⟩ h1 h2 h3 ⟨_, zR.put w1 hq, hP9, hD9⟩ hS9 h6)
theorem v_aastoreL {a n b : Nat} {vs : List Value} {f : Nat → Option Nat} {i : Int32} (hd : decode cc pc = .ok (.aastore, 1)) (ha : h.1 a = some (tg, .inl (4, n, .inr (.inr (.inr (.inr f)))))) (hbv : h.1 b = some (tg2, .inr (0, vs))) (hin : vp_in i n) (kk : zV G y cc nL ret d (pc + 1) lv st (zup h.1 a (tg, .inl (4, n, .inr (.inr (.inr (.inr (va_up f i.toNatClampNeg (some b))))))), h.2) Q) : zV G y cc nL ret d pc lv (.ref b :: .int i :: .ref a :: st) h Q := fun p e R s m args below meth c H locs cells slots n0 z0 ls C h1 h2 h3 h4 h5 h6 => by
  obtain ⟨hx, hb, hml, hown, hrt, hlk, hnm, htb, hts, hR, hG, hbs⟩ := C
  obtain ⟨ws, w1, w2, w3, q0, hq⟩ := h4.at ha
  obtain ⟨qk, hqk⟩ := w1 _ _ hbv
  exact va_astq (D := G.2.1) (cl := zCL) (r := (RX0, TX0, 2)) (ci := 0) (vs := vs) hx hb hG.2.1 w2 w3 h5 q0 4 qk hq rfl hqk rfl hin hd (fun H9 locs9 hP9 hD9 hS9 => kk p e R s m args below meth c H9 locs9 cells slots n0 z0 ls ⟨hx, hb, hml, hown, hrt, hlk, hnm, htb, hts, hR, hG, hbs⟩ h1 h2 h3 ⟨_, zR.put w1 hq, hP9, hD9⟩ hS9 h6)
theorem v_aastoreR {a n b : Nat} {vs : List Value} {f : Nat → Option Nat} {i : Int32} (hd : decode cc pc = .ok (.aastore, 1)) (ha : h.1 a = some (tg, .inl (5, n, .inr (.inr (.inr (.inr f)))))) (hbv : h.1 b = some (tg2, .inr (1, vs))) (hin : vp_in i n) (kk : zV G y cc nL ret d (pc + 1) lv st (zup h.1 a (tg, .inl (5, n, .inr (.inr (.inr (.inr (va_up f i.toNatClampNeg (some b))))))), h.2) Q) : zV G y cc nL ret d pc lv (.ref b :: .int i :: .ref a :: st) h Q := fun p e R s m args below meth c H locs cells slots n0 z0 ls C h1 h2 h3 h4 h5 h6 => by
  obtain ⟨hx, hb, hml, hown, hrt, hlk, hnm, htb, hts, hR, hG, hbs⟩ := C
  obtain ⟨ws, w1, w2, w3, q0, hq⟩ := h4.at ha
  obtain ⟨qk, hqk⟩ := w1 _ _ hbv
  exact va_astq (D := G.2.1) (cl := zCL) (r := (RX1, TX1, 19)) (ci := 1) (vs := vs) hx hb hG.2.1 w2 w3 h5 q0 5 qk hq rfl hqk rfl hin hd (fun H9 locs9 hP9 hD9 hS9 => kk p e R s m args below meth c H9 locs9 cells slots n0 z0 ls ⟨hx, hb, hml, hown, hrt, hlk, hnm, htb, hts, hR, hG, hbs⟩ h1 h2 h3 ⟨_, zR.put w1 hq, hP9, hD9⟩ hS9 h6)
theorem v_aastoreRN {a n : Nat} {f : Nat → Option Nat} {i : Int32} (hd : decode cc pc = .ok (.aastore, 1)) (ha : h.1 a = some (tg, .inl (5, n, .inr (.inr (.inr (.inr f)))))) (hin : vp_in i n) (kk : zV G y cc nL ret d (pc + 1) lv st (zup h.1 a (tg, .inl (5, n, .inr (.inr (.inr (.inr (va_up f i.toNatClampNeg none)))))), h.2) Q) : zV G y cc nL ret d pc lv (.null :: .int i :: .ref a :: st) h Q := fun p e R s m args below meth c H locs cells slots n0 z0 ls C h1 h2 h3 h4 h5 h6 => by
  obtain ⟨hx, hb, hml, hown, hrt, hlk, hnm, htb, hts, hR, hG, hbs⟩ := C
  obtain ⟨ws, w1, w2, w3, q0, hq⟩ := h4.at ha
  exact va_astqN (D := G.2.1) (cl := zCL) (C := "RingThreads$Ring") hx hb hG.2.1 w2 w3 h5 q0 5 hq rfl hin hd (fun H9 locs9 hP9 hD9 hS9 => kk p e R s m args below meth c H9 locs9 cells slots n0 z0 ls ⟨hx, hb, hml, hown, hrt, hlk, hnm, htb, hts, hR, hG, hbs⟩ h1 h2 h3 ⟨_, zR.put w1 hq, hP9, hD9⟩ hS9 h6)
theorem v_arraylength {a i : Nat} {x : vp_A} (hi : i < 6) (hd : decode cc pc = .ok (.arraylength, 1)) (ha : h.1 a = some (tg, .inl (i, x))) (kk : zV G y cc nL ret d (pc + 1) lv (.int (Int32.ofNat x.1) :: st) h Q) : zV G y cc nL ret d pc lv (.ref a :: st) h Q := fun p e R s m args below meth c H locs cells slots n0 z0 ls C h1 h2 h3 h4 h5 h6 => by
  obtain ⟨hx, hb, hml, hown, hrt, hlk, hnm, htb, hts, hR, hG, hbs⟩ := C
  obtain ⟨ws, w1, w2, w3, q0, hq⟩ := h4.at ha
  have ht : ∃ ty, (ztys G.2.2.1)[i]? = some (G.2.2.1 i, ty) := by
    match i, hi with
    | 0, _ => exact ⟨_, rfl⟩
    | 1, _ => exact ⟨_, rfl⟩
    | 2, _ => exact ⟨_, rfl⟩
    | 3, _ => exact ⟨_, rfl⟩
    | 4, _ => exact ⟨_, rfl⟩
    | 5, _ => exact ⟨_, rfl⟩
  obtain ⟨ty, ht⟩ := ht
  exact va_alen (D := G.2.1) (cl := zCL) hx hb hG.2.1 w2 q0 i hq ht rfl hd (kk p e R s m args below meth c H locs cells slots n0 z0 ls ⟨hx, hb, hml, hown, hrt, hlk, hnm, htb, hts, hR, hG, hbs⟩ h1 h2 h3 h4 h5 h6)
theorem v_getsM {idx : Nat} (hd : decode cc pc = .ok (.getstatic idx, 3)) (hw : Cond.fieldLink y.cls idx "RingThreads" "MOST_SETTING" "[I" ∈ GT) (kk : zV G y cc nL ret d (pc + 3) lv (.ref G.2.2.2.2.2.1 :: st) h Q) : zV G y cc nL ret d pc lv st h Q := fun p e R s m args below meth c H locs cells slots n0 z0 ls C h1 h2 h3 h4 h5 h6 => by
  obtain ⟨hx, hb, hml, hown, hrt, hlk, hnm, htb, hts, hR, hG, hbs⟩ := C
  exact va_gets (C := "RingThreads") hx hb hG.2.2.2.1.1 h5 hown (hts _ hw) (fun x hx => hx) hd (kk p e R s m args below meth c H locs cells slots n0 z0 ls ⟨hx, hb, hml, hown, hrt, hlk, hnm, htb, hts, hR, hG, hbs⟩ h1 h2 h3 h4 h5 h6)
theorem v_getsA (hy : y.cls = "RingThreads$Line") (hd : decode cc pc = .ok (.getstatic 19, 3)) (kk : zV G y cc nL ret d (pc + 3) lv (.ref G.2.2.2.2.1 :: st) h Q) : zV G y cc nL ret d pc lv st h Q := fun p e R s m args below meth c H locs cells slots n0 z0 ls C h1 h2 h3 h4 h5 h6 => by
  obtain ⟨hx, hb, hml, hown, hrt, hlk, hnm, htb, hts, hR, hG, hbs⟩ := C
  exact va_getsN (C := "RingThreads") (own := "RingThreads$Line") (host := "RingThreads") hx hb hG.2.2.1.1 h5 (by rw [← hy]; exact hown) (va_Nw.use rfl hG.2.2.2.2.2.2.2.1) (fun x hx => hx) hd (kk p e R s m args below meth c H locs cells slots n0 z0 ls ⟨hx, hb, hml, hown, hrt, hlk, hnm, htb, hts, hR, hG, hbs⟩ h1 h2 h3 h4 h5 h6)
theorem v_ialoadA {i : Int32} (hd : decode cc pc = .ok (.iaload, 1)) (hin : vp_in i 24) (kk : zV G y cc nL ret d (pc + 1) lv (.int (zAR.getD i.toNatClampNeg 0) :: st) h Q) : zV G y cc nL ret d pc lv (.int i :: .ref G.2.2.2.2.1 :: st) h Q := fun p e R s m args below meth c H locs cells slots n0 z0 ls C h1 h2 h3 h4 h5 h6 => by
  obtain ⟨hx, hb, hml, hown, hrt, hlk, hnm, htb, hts, hR, hG, hbs⟩ := C
  exact va_ti hx hb hG.2.2.1.2 h5 hin rfl hd (kk p e R s m args below meth c H locs cells slots n0 z0 ls ⟨hx, hb, hml, hown, hrt, hlk, hnm, htb, hts, hR, hG, hbs⟩ h1 h2 h3 h4 h5 h6)
theorem v_ialoadM {i : Int32} (hd : decode cc pc = .ok (.iaload, 1)) (hin : vp_in i 3) (kk : zV G y cc nL ret d (pc + 1) lv (.int (zMS.getD i.toNatClampNeg 0) :: st) h Q) : zV G y cc nL ret d pc lv (.int i :: .ref G.2.2.2.2.2.1 :: st) h Q := fun p e R s m args below meth c H locs cells slots n0 z0 ls C h1 h2 h3 h4 h5 h6 => by
  obtain ⟨hx, hb, hml, hown, hrt, hlk, hnm, htb, hts, hR, hG, hbs⟩ := C
  exact va_ti hx hb hG.2.2.2.1.2 h5 hin rfl hd (kk p e R s m args below meth c H locs cells slots n0 z0 ls ⟨hx, hb, hml, hown, hrt, hlk, hnm, htb, hts, hR, hG, hbs⟩ h1 h2 h3 h4 h5 h6)
theorem v_new {idx ci n : Nat} (fs : List Value) (f : zNL y.cls idx ci fs n) (hd : decode cc pc = .ok (.new idx, 3)) (hc1 : h.2.1 + 1 ≤ 50000) (hc2 : h.2.2 + n ≤ 400000) (kk : ∀ q : Nat, h.1 q = none → zV G y cc nL ret d (pc + 3) lv (.ref q :: st) (zup h.1 q (tg, .inr (ci, fs)), h.2.1 + 1, h.2.2 + n) Q) : zV G y cc nL ret d pc lv st h Q := fun p e R s m args below meth c H locs cells slots n0 z0 ls C h1 h2 h3 h4 h5 h6 => by
  obtain ⟨hx, hb, hml, hown, hrt, hlk, hnm, htb, hts, hR, hG, hbs⟩ := C
  obtain ⟨Cn, T, ty0, f1, f2, f3, f4, f5, f6, f7⟩ := f
  obtain ⟨ws, w1, w2, w3⟩ := h4
  refine va_new (D := G.2.1) (cl := zCL) (C := Cn) (T := T) (N := n) (ci := ci) (fs := fs) hx hb hts f2 ty0 f3 hown (hts _ f4) (hts _ f5) (hts _ f6) hG.2.1 w2 w3 h5 (fun q hq => Nat.le_trans hbs hq) f1 f7 ?_ ?_ hd (fun q H9 hP9 hD9 hS9 => kk q (zR.fresh w1 hD9) p e R s m args below meth c H9 locs (cells + 1) (slots + n) n0 z0 ls ⟨hx, hb, hml, hown, hrt, hlk, hnm, htb, hts, hR, hG, hbs⟩ (by show h.2.1 + 1 = n0 + (cells + 1); omega) (by show h.2.2 + n = z0 + (slots + n); omega) ⟨hc1, hc2⟩ ⟨_, zR.new w1, hP9, hD9⟩ hS9 h6)
  · rw [hR]; show cells + 1 ≤ 50000 * (d + 1); omega
  · rw [hR]; show slots + n ≤ 400000 * (d + 1); omega
theorem v_newI {N : Nat} {n : Int32} (hd : decode cc pc = .ok (.newarray .int, 2)) (hw : Cond.arrayClass .int ∈ GT) (hn : ¬ n < 0) (hN : n.toNatClampNeg = N) (hb8 : N ≤ 60000) (hc1 : h.2.1 + 1 ≤ 50000) (hc2 : h.2.2 + N ≤ 400000) (kk : ∀ q : Nat, h.1 q = none → zV G y cc nL ret d (pc + 2) lv (.ref q :: st) (zup h.1 q (tg, .inl (0, N, .inl (fun _ => 0))), h.2.1 + 1, h.2.2 + N) Q) : zV G y cc nL ret d pc lv (.int n :: st) h Q := fun p e R s m args below meth c H locs cells slots n0 z0 ls C h1 h2 h3 h4 h5 h6 => by
  obtain ⟨hx, hb, hml, hown, hrt, hlk, hnm, htb, hts, hR, hG, hbs⟩ := C
  obtain ⟨ws, w1, w2, w3⟩ := h4
  refine va_newa (D := G.2.1) (cl := zCL) (atype := .int) (ty := .int) (a0 := (N, .inl (fun _ => 0))) hx hb (hts _ hw) rfl hG.2.1 w2 w3 h5 (fun q hq => Nat.le_trans hbs hq) (fun cA => rfl) hn hN (zb8 hb8 (by decide)) ?_ ?_ hd (fun q cA H9 hK9 hP9 hD9 hS9 => ?_)
  · rw [hR]; show cells + 1 ≤ 50000 * (d + 1); omega
  · rw [hR]; show slots + N ≤ 400000 * (d + 1); omega
  have eK : cA = G.2.2.1 0 := by
    have e1 := (hK9.2 6 (cA, .int) rfl).2
    have e2 := (hG.2.1.2 0 (G.2.2.1 0, .int) rfl).2
    exact Option.some.inj (Eq.trans (Eq.symm e1) e2)
  subst eK
  exact kk q (zR.fresh w1 hD9) p e R s m args below meth c H9 locs (cells + 1) (slots + N) n0 z0 ls ⟨hx, hb, hml, hown, hrt, hlk, hnm, htb, hts, hR, hG, hbs⟩ (by show h.2.1 + 1 = n0 + (cells + 1); omega) (by show h.2.2 + N = z0 + (slots + N); omega) ⟨hc1, hc2⟩ ⟨_, zR.new w1, hP9, hD9⟩ hS9 h6
theorem v_newC {N : Nat} {n : Int32} (hd : decode cc pc = .ok (.newarray .char, 2)) (hw : Cond.arrayClass .char ∈ GT) (hn : ¬ n < 0) (hN : n.toNatClampNeg = N) (hb8 : N ≤ 60000) (hc1 : h.2.1 + 1 ≤ 50000) (hc2 : h.2.2 + N ≤ 400000) (kk : ∀ q : Nat, h.1 q = none → zV G y cc nL ret d (pc + 2) lv (.ref q :: st) (zup h.1 q (tg, .inl (3, N, .inl (fun _ => 0))), h.2.1 + 1, h.2.2 + N) Q) : zV G y cc nL ret d pc lv (.int n :: st) h Q := fun p e R s m args below meth c H locs cells slots n0 z0 ls C h1 h2 h3 h4 h5 h6 => by
  obtain ⟨hx, hb, hml, hown, hrt, hlk, hnm, htb, hts, hR, hG, hbs⟩ := C
  obtain ⟨ws, w1, w2, w3⟩ := h4
  refine va_newa (D := G.2.1) (cl := zCL) (atype := .char) (ty := .char) (a0 := (N, .inl (fun _ => 0))) hx hb (hts _ hw) rfl hG.2.1 w2 w3 h5 (fun q hq => Nat.le_trans hbs hq) (fun cA => rfl) hn hN (zb8 hb8 (by decide)) ?_ ?_ hd (fun q cA H9 hK9 hP9 hD9 hS9 => ?_)
  · rw [hR]; show cells + 1 ≤ 50000 * (d + 1); omega
  · rw [hR]; show slots + N ≤ 400000 * (d + 1); omega
  have eK : cA = G.2.2.1 3 := by
    have e1 := (hK9.2 6 (cA, .char) rfl).2
    have e2 := (hG.2.1.2 3 (G.2.2.1 3, .char) rfl).2
    exact Option.some.inj (Eq.trans (Eq.symm e1) e2)
  subst eK
  exact kk q (zR.fresh w1 hD9) p e R s m args below meth c H9 locs (cells + 1) (slots + N) n0 z0 ls ⟨hx, hb, hml, hown, hrt, hlk, hnm, htb, hts, hR, hG, hbs⟩ (by show h.2.1 + 1 = n0 + (cells + 1); omega) (by show h.2.2 + N = z0 + (slots + N); omega) ⟨hc1, hc2⟩ ⟨_, zR.new w1, hP9, hD9⟩ hS9 h6
theorem v_newL {idx N : Nat} {n : Int32} (hd : decode cc pc = .ok (.anewarray idx, 3)) (hw : Cond.classLink y.cls idx "RingThreads$Line" ∈ GT) (hn : ¬ n < 0) (hN : n.toNatClampNeg = N) (hb8 : N ≤ 60000) (hc1 : h.2.1 + 1 ≤ 50000) (hc2 : h.2.2 + N ≤ 400000) (kk : ∀ q : Nat, h.1 q = none → zV G y cc nL ret d (pc + 3) lv (.ref q :: st) (zup h.1 q (tg, .inl (4, N, .inr (.inr (.inr (.inr (fun _ => none)))))), h.2.1 + 1, h.2.2 + N) Q) : zV G y cc nL ret d pc lv (.int n :: st) h Q := fun p e R s m args below meth c H locs cells slots n0 z0 ls C h1 h2 h3 h4 h5 h6 => by
  obtain ⟨hx, hb, hml, hown, hrt, hlk, hnm, htb, hts, hR, hG, hbs⟩ := C
  obtain ⟨ws, w1, w2, w3⟩ := h4
  refine va_newq (D := G.2.1) (cl := zCL) (C := "RingThreads$Line") hx hb hown (hts _ hw) (hG.2.2.2.2.2.2.2.2.2.2.2.2 _ (by decide)) hG.2.1 w2 w3 h5 (fun q hq => Nat.le_trans hbs hq) hn hN (by omega) ?_ ?_ hd (fun q cA H9 hK9 hP9 hD9 hS9 => ?_)
  · rw [hR]; show cells + 1 ≤ 50000 * (d + 1); omega
  · rw [hR]; show slots + N ≤ 400000 * (d + 1); omega
  have eK : cA = G.2.2.1 4 := by
    obtain ⟨-, -, -, -, -, e1⟩ := (hK9.2 6 (cA, .object "RingThreads$Line") rfl).2
    obtain ⟨-, -, -, -, -, e2⟩ := (hG.2.1.2 4 (G.2.2.1 4, .object "RingThreads$Line") rfl).2
    exact Option.some.inj (Eq.trans (Eq.symm e1) e2)
  subst eK
  exact kk q (zR.fresh w1 hD9) p e R s m args below meth c H9 locs (cells + 1) (slots + N) n0 z0 ls ⟨hx, hb, hml, hown, hrt, hlk, hnm, htb, hts, hR, hG, hbs⟩ (by show h.2.1 + 1 = n0 + (cells + 1); omega) (by show h.2.2 + N = z0 + (slots + N); omega) ⟨hc1, hc2⟩ ⟨_, zR.new w1, hP9, hD9⟩ hS9 h6
theorem v_newR {idx N : Nat} {n : Int32} (hd : decode cc pc = .ok (.anewarray idx, 3)) (hw : Cond.classLink y.cls idx "RingThreads$Ring" ∈ GT) (hn : ¬ n < 0) (hN : n.toNatClampNeg = N) (hb8 : N ≤ 60000) (hc1 : h.2.1 + 1 ≤ 50000) (hc2 : h.2.2 + N ≤ 400000) (kk : ∀ q : Nat, h.1 q = none → zV G y cc nL ret d (pc + 3) lv (.ref q :: st) (zup h.1 q (tg, .inl (5, N, .inr (.inr (.inr (.inr (fun _ => none)))))), h.2.1 + 1, h.2.2 + N) Q) : zV G y cc nL ret d pc lv (.int n :: st) h Q := fun p e R s m args below meth c H locs cells slots n0 z0 ls C h1 h2 h3 h4 h5 h6 => by
  obtain ⟨hx, hb, hml, hown, hrt, hlk, hnm, htb, hts, hR, hG, hbs⟩ := C
  obtain ⟨ws, w1, w2, w3⟩ := h4
  refine va_newq (D := G.2.1) (cl := zCL) (C := "RingThreads$Ring") hx hb hown (hts _ hw) (hG.2.2.2.2.2.2.2.2.2.2.2.2 _ (by decide)) hG.2.1 w2 w3 h5 (fun q hq => Nat.le_trans hbs hq) hn hN (by omega) ?_ ?_ hd (fun q cA H9 hK9 hP9 hD9 hS9 => ?_)
  · rw [hR]; show cells + 1 ≤ 50000 * (d + 1); omega
  · rw [hR]; show slots + N ≤ 400000 * (d + 1); omega
  have eK : cA = G.2.2.1 5 := by
    obtain ⟨-, -, -, -, -, e1⟩ := (hK9.2 6 (cA, .object "RingThreads$Ring") rfl).2
    obtain ⟨-, -, -, -, -, e2⟩ := (hG.2.1.2 5 (G.2.2.1 5, .object "RingThreads$Ring") rfl).2
    exact Option.some.inj (Eq.trans (Eq.symm e1) e2)
  subst eK
  exact kk q (zR.fresh w1 hD9) p e R s m args below meth c H9 locs (cells + 1) (slots + N) n0 z0 ls ⟨hx, hb, hml, hown, hrt, hlk, hnm, htb, hts, hR, hG, hbs⟩ (by show h.2.1 + 1 = n0 + (cells + 1); omega) (by show h.2.2 + N = z0 + (slots + N); omega) ⟨hc1, hc2⟩ ⟨_, zR.new w1, hP9, hD9⟩ hS9 h6
end ZHEAP
