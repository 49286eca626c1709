/-! THE LAW'S OWN ROWS (the script, the comparison of a long with itself), and what holds of both at the head of its loop. -/
theorem lv_lcmpE {p : Program} {l : Launch} {e : Env} {R : Room} {s : State} {m : MethodId} {args : Array Value} {below : List Frame} {meth : Method} {c : Code} {H : Heap} {locs : List Loc} {cells slots : Nat} {Q : State → Prop} {cc : ByteArray} {pc : Nat} {ls : Array Slot} {rest : List Value} (hexec : p.tables.exec = Jvm.exec) (hb : c.code = cc) {x : Int64} (hdg : decode cc pc = .ok (.lcmp, 1))
    (k : W p l e R s m args below meth c H locs cells slots Q (F0 m (pc + 1) ls (.int 0 :: rest))) : W p l e R s m args below meth c H locs cells slots Q (F0 m pc ls (.long x :: .long x :: rest)) := by
  intro T hT X
  obtain ⟨t, a, b⟩ := k T hT X
  refine ⟨t, ?_, b⟩
  have c1 : ¬ x > x := fun h => absurd h (by simp)
  have c2 : (x == x) = true := beq_self_eq_true x
  jvm_step X.here [X.here.top, hexec, hb, hdg, c1, c2]
  exact a
section ZLAWR
variable {G : zW} {y : MethodName} {cc : ByteArray} {nL : Nat} {ret : Option FieldType} {d : Nat} {pc : Nat} {lv : List (Nat × Value)} {st : List Value} {h : zH} {Q : zOut → zH → Prop} {tg tg2 : Nat}
theorem v_lcmpE {x : Int64} (hd : decode cc pc = .ok (.lcmp, 1)) (k : zV G y cc nL ret d (pc + 1) lv (.int 0 :: st) h Q) : zV G y cc nL ret d pc lv (.long x :: .long x :: st) h Q := fun p e R s m args below meth c H locs cells slots n0 z0 ls C h1 h2 h3 h4 h5 h6 => lv_lcmpE C.1 C.2.1 hd (k p e R s m args below meth c H locs cells slots n0 z0 ls C h1 h2 h3 h4 h5 h6)
theorem v_slen (hd : decode cc pc = .ok (.arraylength, 1)) (k : zV G y cc nL ret d (pc + 1) lv (.int (Int32.ofNat (zSc G).2.1) :: st) h Q) : zV G y cc nL ret d pc lv (.ref (zSc G).1 :: st) h Q := fun p e R s m args below meth c H locs cells slots n0 z0 ls C h1 h2 h3 h4 h5 h6 => by
  obtain ⟨hx, hb, hml, hown, hrt, hlk, hnm, htb, hts, hR, hG, hbs⟩ := C
  exact va_slen (A := zA G) hx hb hG.1.2.2 (Nat.lt_of_lt_of_le hG.1.2.1 hbs) (Nat.not_le.mpr hG.1.2.1) h5 hd (k p e R s m args below meth c H locs cells slots n0 z0 ls ⟨hx, hb, hml, hown, hrt, hlk, hnm, htb, hts, hR, hG, hbs⟩ h1 h2 h3 h4 h5 h6)
theorem v_sload {i : Int32} (hd : decode cc pc = .ok (.iaload, 1)) (hin : vp_in i (zSc G).2.1) (k : zV G y cc nL ret d (pc + 1) lv (.int ((zSc G).2.2 i.toNatClampNeg) :: st) h Q) : zV G y cc nL ret d pc lv (.int i :: .ref (zSc G).1 :: st) h Q := fun p e R s m args below meth c H locs cells slots n0 z0 ls C h1 h2 h3 h4 h5 h6 => by
  obtain ⟨hx, hb, hml, hown, hrt, hlk, hnm, htb, hts, hR, hG, hbs⟩ := C
  exact va_sld (A := zA G) hx hb hG.1.2.2 (Nat.lt_of_lt_of_le hG.1.2.1 hbs) (Nat.not_le.mpr hG.1.2.1) h5 hin hd (k p e R s m args below meth c H locs cells slots n0 z0 ls ⟨hx, hb, hml, hown, hrt, hlk, hnm, htb, hts, hR, hG, hbs⟩ h1 h2 h3 h4 h5 h6)
end ZLAWR
/-- the program's object, whole -/
def CI (f : zHM) (m : Nat × Nat) (x k : Nat) (st : Nat → zST) (ss : Nat → Option zST) (S : zST) (L : Nat) (ch : Nat → Nat) (J : Nat × Nat) : Prop := ∃ r tr sc tx sl sv la A gv π gs co M,
  f x = some (600, .inr (3, zOb r tr sc tx sl sv k)) ∧ RPic f 0 r la A S.1 S.2.1 S.2.2.1 S.2.2.2 ∧ LNok f m la M ∧ RAny f 20 tr la ∧ (∃ g, f sc = some (601, .inl (0, 144, .inl g))) ∧ TPic f 602 tx co L ch ∧ SVP f sv la gv π k st ∧ SLP f sl la gs ss ∧ M.1 + 11 * zcn gv 6 + 11 * zcn gs 2 ≤ J.1 ∧ M.2 + 1339 * zcn gv 6 + 1339 * zcn gs 2 ≤ J.2
theorem CI.fr {T : Nat → Prop} {f f' : zHM} {m : Nat × Nat} {x k L : Nat} {st : Nat → zST} {ss : Nat → Option zST} {S : zST} {ch : Nat → Nat} {J : Nat × Nat} (h : CI f m x k st ss S L ch J) (hf : zFr T f f') (hT : ∀ τ, T τ → 700 ≤ τ ∧ τ ≤ 750) : CI f' m x k st ss S L ch J := by
  obtain ⟨r, tr, sc, tx, sl, sv, la, A, gv, π, gs, co, M, h1, h2, h3, h4, ⟨g, h5⟩, h6, h7, h8, h9, h10⟩ := h
  have hn : ∀ τ, τ < 700 ∨ 750 < τ → ¬ T τ := fun τ q z => by have := hT τ z; omega
  exact ⟨r, tr, sc, tx, sl, sv, la, A, gv, π, gs, co, M, hf _ _ _ h1 (hn _ (by omega)), h2.fr hf (fun k hk => hn _ (by omega)), h3.fr hf (fun t ht => hn _ (by omega)), h4.fr hf (fun k hk => hn _ (by omega)), ⟨g, hf _ _ _ h5 (hn _ (by omega))⟩, h6.fr hf (hn _ (by omega)) (hn _ (by omega)), h7.fr hf (fun τ hτ => hn _ (by omega)), h8.fr hf (fun τ hτ => hn _ (by omega)), h9, h10⟩
theorem CI.more {f : zHM} {m : Nat × Nat} {x k L : Nat} {st : Nat → zST} {ss : Nat → Option zST} {S : zST} {ch : Nat → Nat} {J : Nat × Nat} (h : CI f m x k st ss S L ch J) (a b : Nat) (h1 : J.1 + a ≤ 50000) (h2 : J.2 + b ≤ 399990) : CI f (m.1 + a, m.2 + b) x k st ss S L ch (J.1 + a, J.2 + b) := by
  obtain ⟨r, tr, sc, tx, sl, sv, la, A, gv, π, gs, co, M, q1, q2, q3, q4, q5, q6, q7, q8, q9, q10⟩ := h
  exact ⟨r, tr, sc, tx, sl, sv, la, A, gv, π, gs, co, (M.1 + a, M.2 + b), q1, q2, q3.more a b (by omega) (by omega), q4, q5, q6, q7, q8, by show M.1 + a + _ + _ ≤ J.1 + a; omega, by show M.2 + b + _ + _ ≤ J.2 + b; omega⟩
theorem CI.wide {f : zHM} {m : Nat × Nat} {x k L : Nat} {st : Nat → zST} {ss : Nat → Option zST} {S : zST} {ch : Nat → Nat} {J J' : Nat × Nat} (h : CI f m x k st ss S L ch J) (h1 : J.1 ≤ J'.1) (h2 : J.2 ≤ J'.2) : CI f m x k st ss S L ch J' := by
  obtain ⟨r, tr, sc, tx, sl, sv, la, A, gv, π, gs, co, M, q1, q2, q3, q4, q5, q6, q7, q8, q9, q10⟩ := h
  exact ⟨r, tr, sc, tx, sl, sv, la, A, gv, π, gs, co, M, q1, q2, q3, q4, q5, q6, q7, q8, Nat.le_trans q9 h1, Nat.le_trans q10 h2⟩
theorem zNZ.fr {T : Nat → Prop} {f f' : zHM} {o k L mr : Nat} {B : Nat → Nat} {hh : Int64} {σ : Nat → Int32} {th : Int32} {sv : Nat → Nat → Int32} {hsl : Nat → Int32} {sl : Nat → Nat → Int32} {ch : Nat → Nat} (h : zNZ f o B hh σ mr th k sv hsl sl L ch) (hf : zFr T f f') (hT : ∀ τ, T τ → τ < 700 ∨ 708 < τ) : zNZ f' o B hh σ mr th k sv hsl sl L ch := by
  obtain ⟨w, h1, h2, h3, h4, h5⟩ := h
  exact ⟨w, h1.fr7 hf (fun τ q z => by have := hT τ z; omega), h2, h3, h4, h5.fr hf (fun τ z q => by have := hT τ z; omega)⟩
