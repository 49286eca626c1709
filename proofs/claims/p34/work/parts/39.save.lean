/-- the states that are saved: k of them, in the row's first k cells -/
def SVP (f : zHM) (sv la : Nat) (gv : Nat → Option Nat) (π : Nat → Nat) (k : Nat) (st : Nat → zST) : Prop :=
  k ≤ 6 ∧ f sv = some (605, zrow gv 6) ∧ (∀ j, j < 6 → π j < 6) ∧ (∀ i j, i < 6 → j < 6 → π i = π j → i = j) ∧ (∀ j, j < k → ∃ q, gv j = some q ∧ RSt f (100 + 20 * π j) q la (st j)) ∧ (∀ j q, j < 6 → gv j = some q → RAny f (100 + 20 * π j) q la)
abbrev zTS : Nat → Prop := fun τ => τ = 600 ∨ τ = 605 ∨ (100 ≤ τ ∧ τ ≤ 210)
def sPK (k : Nat) : Nat := if k < 6 then k + 1 else 6
def sPS (k : Nat) (st : Nat → zST) (S : zST) : Nat → zST := fun j => if k < 6 then (if j = k then S else st j) else (if j = 5 then S else st (j + 1))
theorem zcn0 {g : Nat → Option Nat} : ∀ n, (∀ j, j < n → ¬ g j = none) → zcn g n = 0
  | 0, _ => rfl
  | n + 1, h => by
    unfold zcn
    rw [zcn0 n (fun j hj => h j (by omega)), if_neg (h n (by omega))]
theorem LNok.more {f : zHM} {m : Nat × Nat} {la : Nat} {M : Nat × Nat} (h : LNok f m la M) (a b : Nat) (h1 : M.1 + a ≤ 50000) (h2 : M.2 + b ≤ 399990) : LNok f (m.1 + a, m.2 + b) la (M.1 + a, M.2 + b) := by
  obtain ⟨_, _, g, e1, e2, e3, e4⟩ := h
  refine ⟨h1, h2, g, e1, e2, ?_, ?_⟩
  · show m.1 + a + 3 * zcn g 276 ≤ M.1 + a
    omega
  · show m.2 + b + 44 * zcn g 276 ≤ M.2 + b
    omega
theorem SVP.fr {T : Nat → Prop} {f f' : zHM} {sv la k : Nat} {gv : Nat → Option Nat} {π : Nat → Nat} {st : Nat → zST} (h : zFr T f f') (hs : SVP f sv la gv π k st) (ht : ∀ τ, τ = 605 ∨ (100 ≤ τ ∧ τ ≤ 210) → ¬ T τ) : SVP f' sv la gv π k st := by
  obtain ⟨h0, h1, h2, h3, h4, h5⟩ := hs
  refine ⟨h0, h _ _ _ h1 (ht _ (Or.inl rfl)), h2, h3, fun j hj => ?_, fun j q hj hq => ?_⟩
  · obtain ⟨q, e1, e2⟩ := h4 j hj
    have := h2 j (by omega)
    exact ⟨q, e1, e2.fr h (fun i hi => ht _ (Or.inr ⟨by omega, by omega⟩))⟩
  · have := h2 j hj
    exact (h5 j q hj hq).fr h (fun i hi => ht _ (Or.inr ⟨by omega, by omega⟩))
def zRg (gv : Nat → Option Nat) (i : Nat) : Nat → Option Nat := fun j => if j + 1 < i then gv (j + 1) else gv j
def zRl (gv : Nat → Option Nat) : Nat → Option Nat := fun j => if j = 5 then gv 0 else if j + 1 < 6 then gv (j + 1) else gv j
def zNx (j : Nat) : Nat := if j = 5 then 0 else j + 1
theorem zNx_lt {j : Nat} (h : j < 6) : zNx j < 6 := by unfold zNx; split <;> omega
theorem zNx_inj {i j : Nat} (h : i < 6) (h2 : j < 6) (e : zNx i = zNx j) : i = j := by
  unfold zNx at e
  split at e <;> split at e <;> omega
theorem zRl_at (gv : Nat → Option Nat) {j : Nat} (h : j < 6) : zRl gv j = gv (zNx j) := by
  unfold zRl zNx
  by_cases h5 : j = 5
  · rw [if_pos h5, if_pos h5]
  · rw [if_neg h5, if_neg h5, if_pos (by omega)]
theorem zRg_1 (gv : Nat → Option Nat) : zRg gv 1 = gv := by
  funext j
  unfold zRg
  rw [if_neg (by omega)]
theorem zRg_s (gv : Nat → Option Nat) {i : Nat} (h : 1 ≤ i) : va_up (zRg gv i) (i - 1) (gv i) = zRg gv (i + 1) := by
  funext j
  show (if j = i - 1 then gv i else zRg gv i j) = zRg gv (i + 1) j
  unfold zRg
  by_cases e : j = i - 1
  · subst e
    rw [if_pos rfl, if_pos (by omega)]
    congr 1
    omega
  · rw [if_neg e]
    by_cases e2 : j + 1 < i
    · rw [if_pos e2, if_pos (by omega)]
    · rw [if_neg e2, if_neg (by omega)]
theorem zRg_l (gv : Nat → Option Nat) : va_up (zRg gv 6) 5 (gv 0) = zRl gv := by
  funext j
  show (if j = 5 then gv 0 else zRg gv 6 j) = zRl gv j
  unfold zRg zRl
  rfl
theorem zcn_same {g : Nat → Option Nat} {p q x : Nat} (hg : g p = some x) : ∀ n, zcn (va_up g p (some q)) n = zcn g n
  | 0 => rfl
  | n + 1 => by
    unfold zcn
    rw [zcn_same hg n]
    by_cases e : n = p
    · have h1 : va_up g p (some q) n = some q := if_pos e
      rw [h1, e, hg]
      rfl
    · have h1 : va_up g p (some q) n = g n := if_neg e
      rw [h1]
set_option maxRecDepth 10000 in
set_option maxHeartbeats 1000000 in
theorem c_save_tail {G : zW} {f : zHM} {m : Nat × Nat} {o r tr sc tx sl sv k la n : Nat} {A : Nat → Nat} {ρ : zRS} {xs tm : Nat → Int32} (ho : f o = some (600, .inr (3, zOb r tr sc tx sl sv k))) (hr : RPic f 0 r la A ρ n xs tm) (hn201 : n ≤ 201) {M : Nat × Nat} (hL : LNok f m la M) {gv : Nat → Option Nat} {π : Nat → Nat} {st : Nat → zST} (hs : SVP f sv la gv π k st) (hB : M.1 + 11 * zcn gv 6 ≤ 50000 ∧ M.2 + 1339 * zcn gv 6 ≤ 399990) (hk : k < 6) {lv : List (Nat × Value)} (hlv : zlk lv 0 = some (.ref o)) : zV G yX3_save cX3_save 3 none 4 56 lv [] (f, m) (zD none (fun f' m' => ∃ gv' π' M', SVP f' sv la gv' π' (k + 1) (fun j => if j = k then (ρ, n, xs, tm) else st j) ∧ LNok f' m' la M' ∧ M'.1 + 11 * zcn gv' 6 = M.1 + 11 * zcn gv 6 ∧ M'.2 + 1339 * zcn gv' 6 = M.2 + 1339 * zcn gv 6 ∧ f' o = some (600, .inr (3, zOb r tr sc tx sl sv (k + 1))) ∧ zFr zTS f f')) := by
  obtain ⟨hs0, hs1, hs2, hs3, hs4, hs5⟩ := hs
  have hpk := hs2 k hk
  have hnw : gv k = none → m.1 + 11 ≤ 50000 ∧ m.2 + 1339 ≤ 400000 := fun h => by
    have h1 := zcn_pos h 6 hk
    have h2 := hL.2.2
    obtain ⟨_, _, _, h3, h4⟩ := h2
    omega
  refine v_aload_n dX3_save_56 rfl hlv ?_
  refine v_aload_n dX3_save_57 rfl hlv ?_
  refine v_getfield fX3_26 dX3_save_58 (by assumption) (by rfl) ?_
  refine v_aload_n dX3_save_61 rfl hlv ?_
  refine v_getfield fX3_187 dX3_save_62 (by assumption) (by rfl) ?_
  refine v_callV0 kX3_177 gi_X3_copyTo ge_X3_copyTo rfl dX3_save_65 (by assumption) (c_copyTo ho hr hn201 hs1 (show k < 6 from hk) (by omega) ⟨by omega, by omega⟩ (tq := 100 + 20 * π k) ⟨by omega, by omega⟩ (fun q hq => hs5 k q hk hq) hnw) rfl rfl (by decide) (Nat.le_of_ble_eq_true rfl) (fun f2 m2 hc => ?_)
  obtain ⟨q, c1, c2, c3, hm2⟩ := hc
  have hf2 : zFr zTS f f2 := c3.weaken (fun τ h => h.elim (fun h => Or.inr (Or.inl h)) (fun h => Or.inr (Or.inr ⟨by omega, by omega⟩)))
  have ho2 := c3 _ _ _ ho (fun h => by rcases h with h | h <;> omega)
  refine v_aload_n dX3_save_68 rfl hlv ?_
  refine v_dup dX3_save_69 rfl ?_
  refine v_getfield fX3_187 dX3_save_70 (by assumption) (by rfl) ?_
  refine v_iconst (1) dX3_save_73 (by decide) ?_
  refine v_iadd dX3_save_74 ?_
  rw [show nI k + 1 = nI (k + 1) from nI_1 k]
  refine v_putfieldX fX3_187 dX3_save_75 (by assumption) rfl rfl (Nat.le_of_ble_eq_true rfl) (fun f3 hp => ?_)
  have hf3 : zFr (fun τ => τ = 600) f2 f3 := zFr.refl.put hp rfl
  refine v_return dX3_save_78 rfl ⟨rfl, va_up gv k (some q), π, ?_⟩
  have hs' : SVP f3 sv la (va_up gv k (some q)) π (k + 1) (fun j => if j = k then (ρ, n, xs, tm) else st j) := by
    refine ⟨by omega, hf3 _ _ _ c1 (by omega), hs2, hs3, fun j hj => ?_, fun j q' hj hq' => ?_⟩
    · by_cases e : j = k
      · refine ⟨q, if_pos e, ?_⟩
        show RSt f3 (100 + 20 * π j) q la (if j = k then (ρ, n, xs, tm) else st j)
        rw [if_pos e, e]
        exact c2.fr hf3 (fun i hi => by omega)
      · obtain ⟨q', e1, e2⟩ := hs4 j (by omega)
        refine ⟨q', (if_neg e).trans e1, ?_⟩
        show RSt f3 (100 + 20 * π j) q' la (if j = k then (ρ, n, xs, tm) else st j)
        rw [if_neg e]
        have hj6 := hs2 j (by omega)
        exact (e2.fr c3 (fun i hi h => by rcases h with h | h; omega; exact e (hs3 j k (by omega) hk (by omega)))).fr hf3 (fun i hi => by omega)
    · by_cases e : j = k
      · have e1 : va_up gv k (some q) j = some q := if_pos e
        rw [e1] at hq'
        cases hq'
        rw [e]
        exact (c2.fr hf3 (fun i hi => by omega)).any
      · have e1 : va_up gv k (some q) j = gv j := if_neg e
        rw [e1] at hq'
        have hj6 := hs2 j hj
        exact ((hs5 j q' hj hq').fr c3 (fun i hi h => by rcases h with h | h; omega; exact e (hs3 j k hj hk (by omega)))).fr hf3 (fun i hi => by omega)
  have hLf : LNok f3 m la M := (hL.fr hf2 (fun t ht h => by rcases h with h | h | h <;> omega)).fr hf3 (fun t ht => by omega)
  have ho3 : f3 o = some (600, .inr (3, zOb r tr sc tx sl sv (k + 1))) := hp.1
  have hfr : zFr zTS f f3 := hf2.trans (hf3.weaken (fun _ h => Or.inl h))
  cases hg : gv k with
  | some q0 =>
    have e : zcn (va_up gv k (some q)) 6 = zcn gv 6 := zcn_same hg 6
    rw [hg] at hm2
    have hm2 : m2 = m := hm2
    subst hm2
    exact ⟨M, hs', hLf, by rw [e], by rw [e], ho3, hfr⟩
  | none =>
    have e := zcn_up (q := q) hg 6 hk
    rw [hg] at hm2
    have hm2 : m2 = (m.1 + 11, m.2 + 1339) := hm2
    subst hm2
    refine ⟨(M.1 + 11, M.2 + 1339), hs', hLf.more 11 1339 (by omega) (by omega), ?_, ?_, ho3, hfr⟩
    · show M.1 + 11 + 11 * zcn (va_up gv k (some q)) 6 = M.1 + 11 * zcn gv 6
      omega
    · show M.2 + 1339 + 1339 * zcn (va_up gv k (some q)) 6 = M.2 + 1339 * zcn gv 6
      omega
set_option maxRecDepth 10000 in
set_option maxHeartbeats 1000000 in
theorem c_save {G : zW} {f : zHM} {m : Nat × Nat} {o r tr sc tx sl sv k la n : Nat} {A : Nat → Nat} {ρ : zRS} {xs tm : Nat → Int32} (ho : f o = some (600, .inr (3, zOb r tr sc tx sl sv k))) (hr : RPic f 0 r la A ρ n xs tm) (hn201 : n ≤ 201) {M : Nat × Nat} (hL : LNok f m la M) {gv : Nat → Option Nat} {π : Nat → Nat} {st : Nat → zST} (hs : SVP f sv la gv π k st) (hB : M.1 + 11 * zcn gv 6 ≤ 50000 ∧ M.2 + 1339 * zcn gv 6 ≤ 399990) : zM G yX3_save cX3_save 3 none 4 [.ref o] (f, m) (zD none (fun f' m' => ∃ gv' π' M', SVP f' sv la gv' π' (sPK k) (sPS k st (ρ, n, xs, tm)) ∧ LNok f' m' la M' ∧ M'.1 + 11 * zcn gv' 6 = M.1 + 11 * zcn gv 6 ∧ M'.2 + 1339 * zcn gv' 6 = M.2 + 1339 * zcn gv 6 ∧ f' o = some (600, .inr (3, zOb r tr sc tx sl sv (sPK k))) ∧ zFr zTS f f')) := by
  refine zM.of (by decide) (Nat.le_of_ble_eq_true rfl) ?_
  obtain ⟨hs0, hs1, hs2, hs3, hs4, hs5⟩ := id hs
  by_cases hk : k < 6
  · have e1 : sPK k = k + 1 := if_pos hk
    have e2 : sPS k st (ρ, n, xs, tm) = (fun j => if j = k then (ρ, n, xs, tm) else st j) := by
      funext j
      unfold sPS
      rw [if_pos hk]
    rw [e1, e2]
    refine v_aload_n dX3_save_0 rfl rfl ?_
    refine v_getfield fX3_187 dX3_save_1 (by assumption) (by rfl) ?_
    refine v_bipush (nI 6) dX3_save_4 (by decide) ?_
    refine v_icmp_lt 56 dX3_save_6 (by decide) (fun b6 => ?_) (fun b6 => ?_)
    · exact c_save_tail ho hr hn201 hL hs hB hk rfl
    · rw [nI_ltI (by omega) (by omega)] at b6
      exact absurd hk b6
  have hk : k = 6 := by omega
  have hqs : ∃ qs : Nat → Nat, ∀ j, j < 6 → gv j = some (qs j) ∧ RSt f (100 + 20 * π j) (qs j) la (st j) := by
    refine ⟨fun j => (gv j).getD 0, fun j hj => ?_⟩
    obtain ⟨q, e1, e2⟩ := hs4 j (by omega)
    show gv j = some ((gv j).getD 0) ∧ RSt f (100 + 20 * π j) ((gv j).getD 0) la (st j)
    rw [e1]
    exact ⟨rfl, e2⟩
  obtain ⟨qs, hst⟩ := hqs
  have loop : ∀ (kk i : Nat), i + kk = 6 → 1 ≤ i → ∀ f1 : zHM, zFr (fun τ => τ = 605) f f1 → f1 o = some (600, .inr (3, zOb r tr sc tx sl sv k)) → f1 sv = some (605, zrow (zRg gv i) 6) → zV G yX3_save cX3_save 3 none 4 18 [(0, .ref o), (1, .ref (qs 0)), (2, .int (nI i))] [] (f1, m) (zD none (fun f' m' => ∃ gv' π' M', SVP f' sv la gv' π' (sPK k) (sPS k st (ρ, n, xs, tm)) ∧ LNok f' m' la M' ∧ M'.1 + 11 * zcn gv' 6 = M.1 + 11 * zcn gv 6 ∧ M'.2 + 1339 * zcn gv' 6 = M.2 + 1339 * zcn gv 6 ∧ f' o = some (600, .inr (3, zOb r tr sc tx sl sv (sPK k))) ∧ zFr zTS f f')) := by
    intro kk
    induction kk with
    | zero =>
      intro i hi h1i f1 hf1 ho1 hrow
      have hi : i = 6 := by omega
      subst hi
      refine v_iload_n dX3_save_18 rfl rfl ?_
      refine v_bipush (nI 6) dX3_save_19 (by decide) ?_
      refine v_icmp_ge 44 dX3_save_21 (by decide) (fun b21 => ?_) (fun b21 => ?_)
      · rw [nI_leI (by omega) (by omega)] at b21
        refine v_aload_n dX3_save_44 rfl rfl ?_
        refine v_getfield fX3_26 dX3_save_45 ho1 (by rfl) ?_
        refine v_iconst (nI 5) dX3_save_48 (by decide) ?_
        refine v_aload_n dX3_save_49 rfl rfl ?_
        obtain ⟨A9, hq9⟩ := (hst 0 (by omega)).2.fr hf1 (fun k hk h => by have := hs2 0 (by omega); omega)
        refine v_aastoreRX dX3_save_50 hrow hq9.1 (vp_in_nI (by omega) (by omega)) (fun f2 hp => ?_)
        rw [nI_clamp (by omega)] at hp
        have hf2 : zFr (fun τ => τ = 605) f f2 := hf1.put hp rfl
        have ho2 := hp.ne ho1 (by omega)
        refine v_aload_n dX3_save_51 rfl rfl ?_
        refine v_iconst (nI 5) dX3_save_52 (by decide) ?_
        refine v_putfieldX fX3_187 dX3_save_53 ho2 rfl rfl (Nat.le_of_ble_eq_true rfl) (fun f3 hp3 => ?_)
        have hf3 : zFr (fun τ => τ = 600) f2 f3 := zFr.refl.put hp3 rfl
        have hf23 : zFr (fun τ => τ = 600 ∨ τ = 605) f f3 := (hf2.weaken (fun _ h => Or.inr h)).trans (hf3.weaken (fun _ h => Or.inl h))
        have ho3 : f3 o = some (600, .inr (3, zOb r tr sc tx sl sv 5)) := hp3.1
        have hrw3 : f3 sv = some (605, zrow (zRl gv) 6) := by
          have h9 := hf3 _ _ _ hp.1 (by omega)
          rw [h9, ← zRg_l gv, (hst 0 (by omega)).1]
          rfl
        have hs' : SVP f3 sv la (zRl gv) (fun j => π (zNx j)) 5 (fun j => st (j + 1)) := by
          refine ⟨by omega, hrw3, fun j hj => hs2 _ (zNx_lt hj), fun i j hi hj e => zNx_inj hi hj (hs3 _ _ (zNx_lt hi) (zNx_lt hj) e), fun j hj => ?_, fun j q hj hq => ?_⟩
          · have e1 : zNx j = j + 1 := if_neg (by omega)
            obtain ⟨e2, e3⟩ := hst (j + 1) (by omega)
            refine ⟨_, (zRl_at gv (by omega)).trans (by rw [e1]; exact e2), ?_⟩
            show RSt f3 (100 + 20 * π (zNx j)) (qs (j + 1)) la (st (j + 1))
            rw [e1]
            exact e3.fr hf23 (fun i hi h => by have := hs2 (j + 1) (by omega); omega)
          · rw [zRl_at gv hj] at hq
            show RAny f3 (100 + 20 * π (zNx j)) q la
            exact (hs5 _ q (zNx_lt hj) hq).fr hf23 (fun i hi h => by have := hs2 _ (zNx_lt hj); omega)
        have hz1 : zcn gv 6 = 0 := zcn0 6 (fun j hj h => by rw [(hst j hj).1] at h; cases h)
        have hz2 : zcn (zRl gv) 6 = 0 := zcn0 6 (fun j hj h => by rw [zRl_at gv hj, (hst _ (zNx_lt hj)).1] at h; cases h)
        have hL3 : LNok f3 m la M := hL.fr hf23 (fun t ht h => by omega)
        refine v_mono ?_ (c_save_tail ho3 (hr.fr hf23 (fun k hk h => by omega)) hn201 hL3 hs' (by rw [hz2]; rw [hz1] at hB; exact hB) (by omega) rfl)
        rintro w ⟨f9, m9⟩ ⟨hw, gv', π', M', c1, c2, c3, c4, c5, c6⟩
        have hk6 : k = 6 := hk
        refine ⟨hw, gv', π', M', ?_, c2, by rw [c3, hz1, hz2], by rw [c4, hz1, hz2], ?_, (hf23.weaken (fun τ h => by omega)).trans c6⟩
        · rw [show sPK k = 5 + 1 from by rw [hk6]; rfl, show sPS k st (ρ, n, xs, tm) = (fun j => if j = 5 then (ρ, n, xs, tm) else st (j + 1)) from by rw [hk6]; rfl]
          exact c1
        · rw [show sPK k = 5 + 1 from by rw [hk6]; rfl]
          exact c5
      · rw [nI_leI (by omega) (by omega)] at b21
        omega
    | succ kk ih =>
      intro i hi h1i f1 hf1 ho1 hrow
      have h9 : i < 6 := by omega
      refine v_iload_n dX3_save_18 rfl rfl ?_
      refine v_bipush (nI 6) dX3_save_19 (by decide) ?_
      refine v_icmp_ge 44 dX3_save_21 (by decide) (fun b21 => ?_) (fun b21 => ?_)
      · rw [nI_leI (by omega) (by omega)] at b21
        omega
      · rw [nI_leI (by omega) (by omega)] at b21
        refine v_aload_n dX3_save_24 rfl rfl ?_
        refine v_getfield fX3_26 dX3_save_25 (by assumption) (by rfl) ?_
        refine v_iload_n dX3_save_28 rfl rfl ?_
        refine v_iconst (nI 1) dX3_save_29 (by decide) ?_
        refine v_isub dX3_save_30 ?_
        rw [pk_sub (by omega)]
        refine v_aload_n dX3_save_31 rfl rfl ?_
        refine v_getfield fX3_26 dX3_save_32 (by assumption) (by rfl) ?_
        refine v_iload_n dX3_save_35 rfl rfl ?_
        refine v_aaloadR dX3_save_36 hrow (vp_in_nI h9 (by omega)) ?_
        rw [nI_clamp (by omega), show zRg gv i i = some (qs i) from by unfold zRg; rw [if_neg (by omega)]; exact (hst i (by omega)).1]
        obtain ⟨A9, hq9⟩ := (hst i (by omega)).2.fr hf1 (fun k hk h => by have := hs2 i (by omega); omega)
        refine v_aastoreRX dX3_save_37 hrow hq9.1 (vp_in_nI (by omega) (by omega)) (fun f2 hp => ?_)
        rw [nI_clamp (by omega)] at hp
        have hf2 : zFr (fun τ => τ = 605) f f2 := hf1.put hp rfl
        have ho2 := hp.ne ho1 (by omega)
        refine v_iincN dX3_save_38 rfl (by decide) ?_
        refine v_goto 18 dX3_save_41 (by decide) ?_
        refine v_loc (lv' := [(0, .ref o), (1, .ref (qs 0)), (2, .int (nI (i + 1)))]) ⟨rfl, rfl, rfl, trivial⟩ (ih (i + 1) (by omega) (by omega) f2 hf2 ho2 ?_)
        rw [← zRg_s gv h1i, (hst i (by omega)).1]
        exact hp.1
  refine v_aload_n dX3_save_0 rfl rfl ?_
  refine v_getfield fX3_187 dX3_save_1 (by assumption) (by rfl) ?_
  refine v_bipush (nI 6) dX3_save_4 (by decide) ?_
  refine v_icmp_lt 56 dX3_save_6 (by decide) (fun b6 => ?_) (fun b6 => ?_)
  · rw [nI_ltI (by omega) (by omega)] at b6
    omega
  refine v_aload_n dX3_save_9 rfl rfl ?_
  refine v_getfield fX3_26 dX3_save_10 (by assumption) (by rfl) ?_
  refine v_iconst (nI 0) dX3_save_13 (by decide) ?_
  refine v_aaloadR dX3_save_14 hs1 (vp_in_nI (by omega) (by omega)) ?_
  rw [nI_clamp (by omega), (hst 0 (by omega)).1]
  refine v_astore_n dX3_save_15 rfl (by decide) ?_
  refine v_iconst (nI 1) dX3_save_16 (by decide) ?_
  refine v_istore_n dX3_save_17 rfl (by decide) ?_
  refine v_loc (lv' := [(0, .ref o), (1, .ref (qs 0)), (2, .int (nI 1))]) ⟨rfl, rfl, rfl, trivial⟩ (loop 5 1 (by omega) (by omega) f zFr.refl ho ?_)
  rw [zRg_1]
  exact hs1
