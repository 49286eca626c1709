def sIsD (c : Nat) : Bool := decide (48 ≤ c ∧ c ≤ 57)
def sIsL (c : Nat) : Bool := decide (97 ≤ c ∧ c ≤ 108)
def sEnd (st : Nat) : Bool := decide (st = 15 ∨ (0 < st ∧ st ≤ 12))
def sSb (st c : Nat) : Nat :=
  if st = 13 then (if sIsL c = true then 0 else 16) else if sIsD c = true then (if st = 14 then 15 else if 12 ≤ st then 16 else st + 1)
  else if c = 42 ∧ st = 0 then 14 else if c = 59 ∧ sEnd st = true then 13 else 16
def sRun (ch : Nat → Nat) : Nat → Nat
  | 0 => 13
  | i + 1 => sSb (sRun ch i) (ch i)
/-- the greys that a text tells: where the row starts, the column, whether a star stood, the greys -/
def sTl (ch : Nat → Nat) (g0 : Nat → Int32) : Nat → Nat × Nat × Bool × (Nat → Int32)
  | 0 => (0, 0, false, g0)
  | i + 1 => match sTl ch g0 i with
    | (s, k, b, g) => if sIsL (ch i) = true then ((ch i - 97) * 12, 0, false, g) else if ch i = 42 then (s, k, true, g)
      else if sIsD (ch i) = true ∧ b = true then (s, k, b, fun j => if s ≤ j ∧ j < s + 12 then nI (ch i - 48) else g j)
      else if sIsD (ch i) = true ∧ ¬ 12 ≤ k then (s, k + 1, b, fun j => if j = s + k then nI (ch i - 48) else g j) else (s, k, b, g)
def TPic (f : zHM) (t tx co L : Nat) (ch : Nat → Nat) : Prop :=
  f tx = some (t, .inr (2, [.ref co, .int (nI L)])) ∧ ∃ g, f co = some (t + 1, .inl (3, 60, .inl g)) ∧ ∀ i, i < L → g i = nI (ch i) ∧ ch i < 128
theorem TPic.fr {T : Nat → Prop} {f f' : zHM} {t tx co L : Nat} {ch : Nat → Nat} (h : zFr T f f') (hr : TPic f t tx co L ch) (h1 : ¬ T t) (h2 : ¬ T (t + 1)) : TPic f' t tx co L ch := by
  obtain ⟨e1, g, e2, e3⟩ := hr
  exact ⟨h _ _ _ e1 h1, g, h _ _ _ e2 h2, e3⟩
set_option maxRecDepth 10000 in
set_option maxHeartbeats 1000000 in
theorem c_Text_init {G : zW} {f : zHM} {m : Nat × Nat} {t tx : Nat} (r0 : f tx = some (t, .inr (2, [.null, .int 0]))) (hm1 : m.1 + 1 ≤ 50000) (hm2 : m.2 + 60 ≤ 400000) : zM G yX2_init cX2_init 1 none 1 [.ref tx] (f, m) (zD none (fun f' m' => (∃ co, TPic f' t tx co 0 (fun _ => 0)) ∧ zFr (fun τ => τ = t) f f' ∧ m' = (m.1 + 1, m.2 + 60))) := by
  refine zM.of (by decide) (Nat.le_of_ble_eq_true rfl) ?_
  refine v_aload_n dX2_init_0 rfl rfl ?_
  refine v_objInit goLX2 goI goC dX2_init_1 (by decide) (Nat.le_of_ble_eq_true rfl) ?_
  refine v_aload_n dX2_init_4 rfl rfl ?_
  refine v_bipush (nI 60) dX2_init_5 (by decide) ?_
  refine v_newCX (t + 1) 60 dX2_init_7 (by decide) (by decide) (by omega) hm1 hm2 (fun q f1 hp1 => ?_)
  have r0 := hp1.2.2 _ _ r0
  have a0 := hp1.1
  refine v_putfieldFX fX2_9 rfl rfl dX2_init_9 (by assumption) rfl rfl (Nat.le_of_ble_eq_true rfl) (fun f2 hp2 => ?_)
  have a0 := hp2.ne a0 (by omega)
  have r0 := hp2.1
  exact v_return dX2_init_12 rfl ⟨rfl, ⟨q, r0, _, a0, fun i hi => absurd hi (Nat.not_lt_zero i)⟩, (zFr.new zFr.refl hp1).put hp2 rfl, rfl⟩
