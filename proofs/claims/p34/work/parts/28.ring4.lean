def zset (ρ : zRS) (k : Nat) (φ : Nat → Int32) : zRS := fun k' i => if k' = k then φ i else ρ k' i
theorem zset_eq {ρ : zRS} {k : Nat} {φ : Nat → Int32} (i : Nat) : zset ρ k φ k i = φ i := if_pos rfl
theorem zset_ne {ρ : zRS} {k k' : Nat} {φ : Nat → Int32} (h : k' ≠ k) (i : Nat) : zset ρ k φ k' i = ρ k' i := if_neg h
theorem zset_zset {ρ : zRS} {k : Nat} {φ ψ : Nat → Int32} : zset (zset ρ k φ) k ψ = zset ρ k ψ := by
  funext k' i
  by_cases h : k' = k
  · subst h; rw [zset_eq, zset_eq]
  · rw [zset_ne h, zset_ne h, zset_ne h]
theorem zset_id {ρ : zRS} {k : Nat} {φ : Nat → Int32} (h : ∀ i, φ i = ρ k i) : zset ρ k φ = ρ := by
  funext k' i
  by_cases h9 : k' = k
  · subst h9; rw [zset_eq, h]
  · rw [zset_ne h9]
/-- as RPic, but that the chords of v places are known -/
def RPV (f : zHM) (t r la : Nat) (A : Nat → Nat) (ρ : zRS) (n v : Nat) (xs tm : Nat → Int32) : Prop :=
  f r = some (t, .inr (1, [.ref la, .int (ρ 0 0), .int (sStep ρ), .int (ρ 0 1), .int (ρ 0 2), .int (ρ 0 3), .int (ρ 0 4), .int (ρ 0 5), .int (nI n), .ref (A 0), .ref (A 1), .ref (A 2), .ref (A 3), .ref (A 4), .ref (A 5), .ref (A 6), .ref (A 7), .ref (A 8), .ref (A 9)])) ∧
  ZA f (A 0) (t + 1) 3 3 (ρ 1) ∧ ZA f (A 1) (t + 2) 3 3 (ρ 2) ∧ ZA f (A 2) (t + 3) 3 3 (ρ 3) ∧ ZA f (A 3) (t + 4) 201 v (ρ 4) ∧ ZA f (A 4) (t + 5) 201 v (ρ 5) ∧ ZA f (A 5) (t + 6) 201 v (ρ 6) ∧
  ZA f (A 6) (t + 7) 144 144 (ρ 7) ∧ ZA f (A 7) (t + 8) 144 144 (ρ 8) ∧ ZA f (A 8) (t + 9) 144 144 xs ∧ ZA f (A 9) (t + 10) 276 276 tm
theorem RPV.pic {f : zHM} {t r la n : Nat} {A : Nat → Nat} {ρ : zRS} {xs tm : Nat → Int32} (h : RPV f t r la A ρ n n xs tm) : RPic f t r la A ρ n xs tm := h
theorem RPic.pv {f : zHM} {t r la n : Nat} {A : Nat → Nat} {ρ : zRS} {xs tm : Nat → Int32} (h : RPic f t r la A ρ n xs tm) : RPV f t r la A ρ n n xs tm := h
theorem RPV.eq {f : zHM} {t r la n v : Nat} {A : Nat → Nat} {ρ ρ' : zRS} {xs tm xs' tm' : Nat → Int32} (h : RPV f t r la A ρ n v xs tm) (e : ρ = ρ') (e2 : xs = xs') (e3 : tm = tm') : RPV f t r la A ρ' n v xs' tm' := by subst e; subst e2; subst e3; exact h
theorem RPV.fr {T : Nat → Prop} {f f' : zHM} {t r la n v : Nat} {A : Nat → Nat} {ρ : zRS} {xs tm : Nat → Int32} (h : zFr T f f') (hr : RPV f t r la A ρ n v xs tm) (ht : ∀ k, k ≤ 10 → ¬ T (t + k)) : RPV f' t r la A ρ n v xs tm := by
  obtain ⟨r0, r1, r2, r3, r4, r5, r6, r7, r8, r9, r10⟩ := hr
  exact ⟨h _ _ _ r0 (ht 0 (by omega)), r1.fr h (ht 1 (by omega)), r2.fr h (ht 2 (by omega)), r3.fr h (ht 3 (by omega)), r4.fr h (ht 4 (by omega)), r5.fr h (ht 5 (by omega)), r6.fr h (ht 6 (by omega)), r7.fr h (ht 7 (by omega)), r8.fr h (ht 8 (by omega)), r9.fr h (ht 9 (by omega)), r10.fr h (ht 10 (by omega))⟩
theorem ZA.less {f : zHM} {a t len v v' : Nat} {φ : Nat → Int32} (h : ZA f a t len v φ) (hv : v' ≤ v) : ZA f a t len v' φ := by
  obtain ⟨g, h1, h2⟩ := h
  exact ⟨g, h1, fun i hi => h2 i (by omega)⟩
theorem RPV.less {f : zHM} {t r la n v v' : Nat} {A : Nat → Nat} {ρ : zRS} {xs tm : Nat → Int32} (hr : RPV f t r la A ρ n v xs tm) (hv : v' ≤ v) : RPV f t r la A ρ n v' xs tm := by
  obtain ⟨r0, r1, r2, r3, r4, r5, r6, r7, r8, r9, r10⟩ := hr
  exact ⟨r0, r1, r2, r3, r4.less hv, r5.less hv, r6.less hv, r7, r8, r9, r10⟩
theorem RPV.set2 {f f' : zHM} {t r la n v : Nat} {A : Nat → Nat} {ρ : zRS} {xs tm g' φ : Nat → Int32} (hr : RPV f t r la A ρ n v xs tm) (hp : zPut f (A 1) (t + 2, .inl (0, 3, .inl g')) f') (hg : ∀ i, i < 3 → g' i = φ i) : RPV f' t r la A (zset ρ 2 φ) n v xs tm := by
  obtain ⟨r0, r1, r2, r3, r4, r5, r6, r7, r8, r9, r10⟩ := hr
  exact ⟨hp.ne r0 (by omega), ZA.ne hp r1 (by omega), ⟨g', hp.1, hg⟩, ZA.ne hp r3 (by omega), ZA.ne hp r4 (by omega), ZA.ne hp r5 (by omega), ZA.ne hp r6 (by omega), ZA.ne hp r7 (by omega), ZA.ne hp r8 (by omega), ZA.ne hp r9 (by omega), ZA.ne hp r10 (by omega)⟩
theorem RPV.set8 {f f' : zHM} {t r la n v : Nat} {A : Nat → Nat} {ρ : zRS} {xs tm g' φ : Nat → Int32} (hr : RPV f t r la A ρ n v xs tm) (hp : zPut f (A 7) (t + 8, .inl (0, 144, .inl g')) f') (hg : ∀ i, i < 144 → g' i = φ i) : RPV f' t r la A (zset ρ 8 φ) n v xs tm := by
  obtain ⟨r0, r1, r2, r3, r4, r5, r6, r7, r8, r9, r10⟩ := hr
  exact ⟨hp.ne r0 (by omega), ZA.ne hp r1 (by omega), ZA.ne hp r2 (by omega), ZA.ne hp r3 (by omega), ZA.ne hp r4 (by omega), ZA.ne hp r5 (by omega), ZA.ne hp r6 (by omega), ZA.ne hp r7 (by omega), ⟨g', hp.1, hg⟩, ZA.ne hp r9 (by omega), ZA.ne hp r10 (by omega)⟩
theorem RPV.set_xs {f f' : zHM} {t r la n v : Nat} {A : Nat → Nat} {ρ : zRS} {xs tm g' φ : Nat → Int32} (hr : RPV f t r la A ρ n v xs tm) (hp : zPut f (A 8) (t + 9, .inl (0, 144, .inl g')) f') (hg : ∀ i, i < 144 → g' i = φ i) : RPV f' t r la A ρ n v φ tm := by
  obtain ⟨r0, r1, r2, r3, r4, r5, r6, r7, r8, r9, r10⟩ := hr
  exact ⟨hp.ne r0 (by omega), ZA.ne hp r1 (by omega), ZA.ne hp r2 (by omega), ZA.ne hp r3 (by omega), ZA.ne hp r4 (by omega), ZA.ne hp r5 (by omega), ZA.ne hp r6 (by omega), ZA.ne hp r7 (by omega), ZA.ne hp r8 (by omega), ⟨g', hp.1, hg⟩, ZA.ne hp r10 (by omega)⟩
theorem RPV.set_tm {f f' : zHM} {t r la n v : Nat} {A : Nat → Nat} {ρ : zRS} {xs tm g' φ : Nat → Int32} (hr : RPV f t r la A ρ n v xs tm) (hp : zPut f (A 9) (t + 10, .inl (0, 276, .inl g')) f') (hg : ∀ i, i < 276 → g' i = φ i) : RPV f' t r la A ρ n v xs φ := by
  obtain ⟨r0, r1, r2, r3, r4, r5, r6, r7, r8, r9, r10⟩ := hr
  exact ⟨hp.ne r0 (by omega), ZA.ne hp r1 (by omega), ZA.ne hp r2 (by omega), ZA.ne hp r3 (by omega), ZA.ne hp r4 (by omega), ZA.ne hp r5 (by omega), ZA.ne hp r6 (by omega), ZA.ne hp r7 (by omega), ZA.ne hp r8 (by omega), ZA.ne hp r9 (by omega), ⟨g', hp.1, hg⟩⟩
theorem RPV.obj {f f' : zHM} {t r la n n' v : Nat} {A : Nat → Nat} {ρ ρ' : zRS} {xs tm : Nat → Int32} (hr : RPV f t r la A ρ n v xs tm) (he : ∀ k, k ≠ 0 → ∀ i, ρ' k i = ρ k i)
    (hp : zPut f r (t, .inr (1, [.ref la, .int (ρ' 0 0), .int (sStep ρ'), .int (ρ' 0 1), .int (ρ' 0 2), .int (ρ' 0 3), .int (ρ' 0 4), .int (ρ' 0 5), .int (nI n'), .ref (A 0), .ref (A 1), .ref (A 2), .ref (A 3), .ref (A 4), .ref (A 5), .ref (A 6), .ref (A 7), .ref (A 8), .ref (A 9)])) f') : RPV f' t r la A ρ' n' v xs tm := by
  obtain ⟨r0, r1, r2, r3, r4, r5, r6, r7, r8, r9, r10⟩ := hr
  have c : ∀ k, k ≠ 0 → ρ' k = ρ k := fun k hk => funext (he k hk)
  refine ⟨hp.1, ?_, ?_, ?_, ?_, ?_, ?_, ?_, ?_, ZA.ne hp r9 (by omega), ZA.ne hp r10 (by omega)⟩
  · rw [c 1 (by omega)]; exact ZA.ne hp r1 (by omega)
  · rw [c 2 (by omega)]; exact ZA.ne hp r2 (by omega)
  · rw [c 3 (by omega)]; exact ZA.ne hp r3 (by omega)
  · rw [c 4 (by omega)]; exact ZA.ne hp r4 (by omega)
  · rw [c 5 (by omega)]; exact ZA.ne hp r5 (by omega)
  · rw [c 6 (by omega)]; exact ZA.ne hp r6 (by omega)
  · rw [c 7 (by omega)]; exact ZA.ne hp r7 (by omega)
  · rw [c 8 (by omega)]; exact ZA.ne hp r8 (by omega)
abbrev zTR (t : Nat) : Nat → Prop := fun τ => τ = 950 ∨ (t ≤ τ ∧ τ ≤ t + 10)
def sPutL (ρ : zRS) (u : Nat) (x : Int32) : Nat → Int32 := fun i => if i = u then ρ 2 i - x else ρ 2 i
def sInL (L : List Nat) (z : Int32) (φ : Nat → Int32) : Nat → Int32 := fun q => if q ∈ L then φ q + z else φ q
def sPutT (tm : Nat → Int32) (p : Nat) (z : Int32) : Nat → Int32 := fun q => if q = p then tm q + z else tm q
theorem sInL_nil (z : Int32) (φ : Nat → Int32) (q : Nat) : sInL [] z φ q = φ q := if_neg (by simp)
theorem sInL_snoc {L : List Nat} {i : Nat} (hn : L.Nodup) (hi : i < L.length) (z : Int32) (φ : Nat → Int32) (q : Nat) : upd (sInL (L.take i) z φ) (L.getD i 0) (φ (L.getD i 0) + z) q = sInL (L.take (i + 1)) z φ q := by
  have hd : L.getD i 0 = L[i] := by simp [List.getD, List.getElem?_eq_getElem hi]
  rw [take_succ_getD L i hi]
  unfold upd sInL
  by_cases h : q = L.getD i 0
  · subst h
    rw [if_pos rfl, if_pos (List.mem_append.mpr (Or.inr (List.mem_singleton.mpr rfl)))]
  · rw [if_neg h]
    by_cases hm : q ∈ L.take i
    · rw [if_pos hm, if_pos (List.mem_append.mpr (Or.inl hm))]
    · rw [if_neg hm, if_neg (fun z => (List.mem_append.mp z).elim hm (fun z => h (List.mem_singleton.mp z)))]
theorem sInL_at {L : List Nat} {i : Nat} (hn : L.Nodup) (hi : i < L.length) (z : Int32) (φ : Nat → Int32) : sInL (L.take i) z φ (L.getD i 0) = φ (L.getD i 0) := by
  have hd : L.getD i 0 = L[i] := by simp [List.getD, List.getElem?_eq_getElem hi]
  refine if_neg fun hm => ?_
  rw [hd] at hm
  obtain ⟨j, hj, e⟩ := List.mem_iff_getElem.mp hm
  have hj2 : j < i := by rw [List.length_take] at hj; omega
  rw [List.getElem_take] at e
  exact List.pairwise_iff_getElem.mp hn j i (by omega) hi hj2 e
/-- the ring when the thread of a chord has been laid (z = 1) or taken off (z = -1) -/
def sPutR (ρ : zRS) (s a b u : Nat) (z : Int32) : zRS := zset (zset ρ 2 (sPutL ρ u (z * sLn s a b))) 8 (sInL (sPa s a b) (z * ρ 1 u) (ρ 8))
abbrev zTRi (t : Nat) : Nat → Prop := fun τ => t ≤ τ ∧ τ ≤ t + 10
set_option maxRecDepth 10000 in
set_option maxHeartbeats 1000000 in
theorem c_putThread {G : zW} {f0 : zHM} {m : Nat × Nat} {t r la n v : Nat} {A : Nat → Nat} {ρ : zRS} {xs tm : Nat → Int32} (hr : RPV f0 t r la A ρ n v xs tm) (ht : t ≤ 900) (hnv : n ≤ v) {N s : Nat} (hv : RV ρ N s) {M : Nat × Nat} (hL : LNok f0 m la M) {c a b u : Nat} (hc : c < v) (hv201 : v ≤ 201) (ha : a < N) (hb : b < N) (hn : a ≠ b) (hu : u < 3) (q4 : ρ 4 c = nI a) (q5 : ρ 5 c = nI b) (q6 : ρ 6 c = nI u) (z : Int32) : zM G yX1_putThread cX1_putThread 10 none 4 [.ref r, .int (nI c), .int z] (f0, m) (zD none (fun f' m' => RPV f' t r la A (sPutR ρ s a b u z) n v (sInL (sPa s a b) z xs) (sPutT tm (sPr (a * s) (b * s)) z) ∧ LNok f' m' la M ∧ zFr (zTR t) f0 f')) := by
  refine zM.of (by decide) (Nat.le_of_ble_eq_true rfl) ?_
  have hv9 := hv.pos
  have hpa := hv.pl ha
  have hpb := hv.pl hb
  have hpn := hv.ne hn
  have hpp := sPr_lt hpa hpb hpn
  have hpa0 := sPa_ok hv ha hb hn
  obtain ⟨r0, ⟨g1, a1, e1⟩, ⟨g2, a2, e2⟩, ⟨g3, a3, e3⟩, ⟨g4, a4, e4⟩, ⟨g5, a5, e5⟩, ⟨g6, a6, e6⟩, ⟨g7, a7, e7⟩, ⟨g8, a8, e8⟩, ⟨g9, a9, e9⟩, ⟨g10, a10, e10⟩⟩ := id hr
  refine v_aload_n dX1_putThread_0 rfl rfl ?_
  refine v_getfield fX1_28 dX1_putThread_1 (by assumption) (by rfl) ?_
  refine v_iload_n dX1_putThread_4 rfl rfl ?_
  refine v_iaload dX1_putThread_5 (by assumption) (vp_in_nI (by omega) (by omega)) ?_
  rw [nI_clamp (by omega), e4 c hc, q4]
  refine v_aload_n dX1_putThread_6 rfl rfl ?_
  refine v_getfield fX1_15 dX1_putThread_7 (by assumption) (by rfl) ?_
  refine v_imul dX1_putThread_10 ?_
  refine v_aload_n dX1_putThread_11 rfl rfl ?_
  refine v_getfield fX1_31 dX1_putThread_12 (by assumption) (by rfl) ?_
  refine v_iload_n dX1_putThread_15 rfl rfl ?_
  refine v_iaload dX1_putThread_16 (by assumption) (vp_in_nI (by omega) (by omega)) ?_
  rw [nI_clamp (by omega), e5 c hc, q5]
  refine v_aload_n dX1_putThread_17 rfl rfl ?_
  refine v_getfield fX1_15 dX1_putThread_18 (by assumption) (by rfl) ?_
  refine v_imul dX1_putThread_21 ?_
  rw [hv.2.1, pk_mul, pk_mul]
  refine v_callSp kX1_77 gs_X0_pairOf dX1_putThread_22 (c_pairOf hpa hpb hpn) rfl rfl (by decide) (Nat.le_of_ble_eq_true rfl) ?_
  refine v_istore_n dX1_putThread_25 rfl (by decide) ?_
  refine v_iload_n dX1_putThread_26 rfl rfl ?_
  refine v_iconst (-1) dX1_putThread_27 (by decide) ?_
  refine v_icmp_ne 32 dX1_putThread_28 (by decide) (fun b28 => ?_) (fun b28 => ?_)
  · refine v_aload_n dX1_putThread_32 rfl rfl ?_
    refine v_aload_n dX1_putThread_33 rfl rfl ?_
    refine v_getfield fX1_28 dX1_putThread_34 (by assumption) (by rfl) ?_
    refine v_iload_n dX1_putThread_37 rfl rfl ?_
    refine v_iaload dX1_putThread_38 (by assumption) (vp_in_nI (by omega) (by omega)) ?_
    rw [nI_clamp (by omega), e4 c hc, q4]
    refine v_aload_n dX1_putThread_39 rfl rfl ?_
    refine v_getfield fX1_31 dX1_putThread_40 (by assumption) (by rfl) ?_
    refine v_iload_n dX1_putThread_43 rfl rfl ?_
    refine v_iaload dX1_putThread_44 (by assumption) (vp_in_nI (by omega) (by omega)) ?_
    rw [nI_clamp (by omega), e5 c hc, q5]
    refine v_callVr kX1_105 gi_X1_lineBetween ge_X1_lineBetween rfl dX1_putThread_45 (by assumption) (c_lineBetween (hr.less hnv).pic hv ha hb hn hL) rfl rfl (by decide) (Nat.le_of_ble_eq_true rfl) (fun q f m hc9 => ?_)
    obtain ⟨hl9, hL, hf9⟩ := hc9
    have hr := hr.fr hf9 (fun k hk => by show ¬ (t + k = 950); omega)
    obtain ⟨sq, gq, hq1, hq2, hq3⟩ := hl9
    obtain ⟨r0, ⟨g1, a1, e1⟩, ⟨g2, a2, e2⟩, ⟨g3, a3, e3⟩, ⟨g4, a4, e4⟩, ⟨g5, a5, e5⟩, ⟨g6, a6, e6⟩, ⟨g7, a7, e7⟩, ⟨g8, a8, e8⟩, ⟨g9, a9, e9⟩, ⟨g10, a10, e10⟩⟩ := id hr
    replace hq2 : f sq = some (1000 + 2 * (sPr (a * s) (b * s)) + 1, .inl (0, (sPa s a b).length, .inl gq)) := hq2
    replace hq3 : ∀ i, i < (sPa s a b).length → gq i = nI ((sPa s a b).getD i 0) := hq3
    replace hq1 : f q = some (1000 + 2 * (sPr (a * s) (b * s)), .inr (0, [.int (sLn s a b), .ref sq])) := hq1
    generalize hPL0 : sPa s a b = PL at hq2 hq3 hpa0
    replace hPL0 : sPa s a b = PL ∧ True := ⟨hPL0, trivial⟩
    have hf0 : zFr (zTR t) f0 f := hf9.weaken (fun _ h => Or.inl h)
    refine v_astore dX1_putThread_48 (by decide) ?_
    refine v_aload_n dX1_putThread_50 rfl rfl ?_
    refine v_getfield fX1_34 dX1_putThread_51 (by assumption) (by rfl) ?_
    refine v_iload_n dX1_putThread_54 rfl rfl ?_
    refine v_iaload dX1_putThread_55 (by assumption) (vp_in_nI (by omega) (by omega)) ?_
    rw [nI_clamp (by omega), e6 c hc, q6]
    refine v_istore dX1_putThread_56 (by decide) ?_
    refine v_aload_n dX1_putThread_58 rfl rfl ?_
    refine v_getfield fX1_46 dX1_putThread_59 (by assumption) (by rfl) ?_
    refine v_iload_n dX1_putThread_62 rfl rfl ?_
    refine v_dup2 dX1_putThread_63 rfl rfl ?_
    refine v_iaload dX1_putThread_64 (by assumption) (vp_in_nI hpp (by omega)) ?_
    rw [nI_clamp (by omega), e10 _ hpp]
    refine v_iload_n dX1_putThread_65 rfl rfl ?_
    refine v_iadd dX1_putThread_66 ?_
    refine v_iastoreX dX1_putThread_67 (by assumption) (vp_in_nI hpp (by omega)) (fun f hp => ?_)
    have hr := hr.set_tm (φ := sPutT tm (sPr (a * s) (b * s)) z) hp (fun i hi => by
      rw [nI_clamp (by omega)]; unfold sPutT upd
      by_cases h : i = (sPr (a * s) (b * s))
      · subst h; rw [if_pos rfl, if_pos rfl]
      · rw [if_neg h, if_neg h, e10 i hi])
    have hq1 := hp.ne hq1 (by omega)
    have hq2 := hp.ne hq2 (by omega)
    have hf0 := hf0.put hp (Or.inr ⟨by show t ≤ t + 10; omega, by show t + 10 ≤ t + 10; omega⟩)
    have hL := hL.fr (zFr.refl.put (T := zTRi t) hp ⟨by show t ≤ t + 10; omega, by show t + 10 ≤ t + 10; omega⟩) (fun τ h1 h2 => by have := h2.2; omega)
    obtain ⟨r0, ⟨g1, a1, e1⟩, ⟨g2, a2, e2⟩, ⟨g3, a3, e3⟩, ⟨g4, a4, e4⟩, ⟨g5, a5, e5⟩, ⟨g6, a6, e6⟩, ⟨g7, a7, e7⟩, ⟨g8, a8, e8⟩, ⟨g9, a9, e9⟩, ⟨g10, a10, e10⟩⟩ := id hr
    refine v_aload_n dX1_putThread_68 rfl rfl ?_
    refine v_getfield fX1_22 dX1_putThread_69 (by assumption) (by rfl) ?_
    refine v_iload dX1_putThread_72 rfl ?_
    refine v_dup2 dX1_putThread_74 rfl rfl ?_
    refine v_iaload dX1_putThread_75 (by assumption) (vp_in_nI hu (by omega)) ?_
    rw [nI_clamp (by omega), e2 u hu]
    refine v_iload_n dX1_putThread_76 rfl rfl ?_
    refine v_aload dX1_putThread_77 rfl ?_
    refine v_getfield fX1_108 dX1_putThread_79 (by assumption) (by rfl) ?_
    refine v_imul dX1_putThread_82 ?_
    refine v_isub dX1_putThread_83 ?_
    refine v_iastoreX dX1_putThread_84 (by assumption) (vp_in_nI hu (by omega)) (fun f hp => ?_)
    have hr := hr.set2 (φ := sPutL ρ u (z * sLn s a b)) hp (fun i hi => by
      rw [nI_clamp (by omega)]; unfold sPutL upd
      by_cases h : i = u
      · subst h; rw [if_pos rfl, if_pos rfl]
      · rw [if_neg h, if_neg h, e2 i hi])
    have hq1 := hp.ne hq1 (by omega)
    have hq2 := hp.ne hq2 (by omega)
    have hf0 := hf0.put hp (Or.inr ⟨by show t ≤ t + 2; omega, by show t + 2 ≤ t + 10; omega⟩)
    have hL := hL.fr (zFr.refl.put (T := zTRi t) hp ⟨by show t ≤ t + 2; omega, by show t + 2 ≤ t + 10; omega⟩) (fun τ h1 h2 => by have := h2.2; omega)
    obtain ⟨r0, ⟨g1, a1, e1⟩, ⟨g2, a2, e2⟩, ⟨g3, a3, e3⟩, ⟨g4, a4, e4⟩, ⟨g5, a5, e5⟩, ⟨g6, a6, e6⟩, ⟨g7, a7, e7⟩, ⟨g8, a8, e8⟩, ⟨g9, a9, e9⟩, ⟨g10, a10, e10⟩⟩ := id hr
    refine v_aload dX1_putThread_85 rfl ?_
    refine v_getfield fX1_114 dX1_putThread_87 (by assumption) (by rfl) ?_
    refine v_astore dX1_putThread_90 (by decide) ?_
    refine v_aload dX1_putThread_92 rfl ?_
    refine v_alen dX1_putThread_94 (by assumption) (by decide) ?_
    refine v_istore dX1_putThread_95 (by decide) ?_
    have loop : ∀ (k i : Nat), i + k = PL.length → ∀ (f : zHM), RPV f t r la A (zset (zset ρ 2 (sPutL ρ u (z * sLn s a b))) 8 (sInL (PL.take i) (z * ρ 1 u) (ρ 8))) n v (sInL (PL.take i) z xs) (sPutT tm (sPr (a * s) (b * s)) z) → LNok f m la M → zFr (zTR t) f0 f → f q = some (1000 + 2 * (sPr (a * s) (b * s)), .inr (0, [.int (sLn s a b), .ref sq])) → f sq = some (1000 + 2 * (sPr (a * s) (b * s)) + 1, .inl (0, PL.length, .inl gq)) → zV G yX1_putThread cX1_putThread 10 none 4 100 [(0, .ref r), (2, .int z), (5, .int (nI u)), (6, .ref sq), (7, .int (nI PL.length)), (8, .int (nI i))] [] (f, m) (zD none (fun f' m' => RPV f' t r la A (sPutR ρ s a b u z) n v (sInL PL z xs) (sPutT tm (sPr (a * s) (b * s)) z) ∧ LNok f' m' la M ∧ zFr (zTR t) f0 f')) := by
      intro k
      induction k with
      | zero =>
        intro i hi f hr hL hf0 hq1 hq2
        have hi : i = PL.length := by omega
        subst hi
        refine v_iload dX1_putThread_100 rfl ?_
        refine v_iload dX1_putThread_102 rfl ?_
        refine v_icmp_ge 150 dX1_putThread_104 (by decide) (fun b104 => ?_) (fun b104 => ?_)
        · exact v_return dX1_putThread_150 rfl ⟨rfl, by rw [List.take_length] at hr; unfold sPutR; rw [hPL0.1]; exact hr, hL, hf0⟩
        · exact absurd (nI_le (by omega) (by omega)) b104
      | succ k ih =>
        intro i hi f hr hL hf0 hq1 hq2
        have h9 : i < PL.length := by omega
        have hq9 : PL.getD i 0 < 144 := hpa0.2.2 _ (by rw [List.getD, List.getElem?_eq_getElem h9]; exact List.getElem_mem h9)
        obtain ⟨r0, ⟨g1, a1, e1⟩, ⟨g2, a2, e2⟩, ⟨g3, a3, e3⟩, ⟨g4, a4, e4⟩, ⟨g5, a5, e5⟩, ⟨g6, a6, e6⟩, ⟨g7, a7, e7⟩, ⟨g8, a8, e8⟩, ⟨g9, a9, e9⟩, ⟨g10, a10, e10⟩⟩ := id hr
        refine v_iload dX1_putThread_100 rfl ?_
        refine v_iload dX1_putThread_102 rfl ?_
        refine v_icmp_ge 150 dX1_putThread_104 (by decide) (fun b104 => ?_) (fun b104 => ?_)
        · exact absurd b104 (nI_ge h9 (by omega))
        · refine v_aload dX1_putThread_107 rfl ?_
          refine v_iload dX1_putThread_109 rfl ?_
          refine v_iaload dX1_putThread_111 (by assumption) (vp_in_nI h9 (by omega)) ?_
          rw [nI_clamp (by omega), hq3 i h9]
          refine v_istore dX1_putThread_112 (by decide) ?_
          refine v_aload_n dX1_putThread_114 rfl rfl ?_
          refine v_getfield fX1_40 dX1_putThread_115 (by assumption) (by rfl) ?_
          refine v_iload dX1_putThread_118 rfl ?_
          refine v_dup2 dX1_putThread_120 rfl rfl ?_
          refine v_iaload dX1_putThread_121 (by assumption) (vp_in_nI hq9 (by omega)) ?_
          rw [nI_clamp (by omega), e8 _ hq9]
          refine v_iload_n dX1_putThread_122 rfl rfl ?_
          refine v_aload_n dX1_putThread_123 rfl rfl ?_
          refine v_getfield fX1_18 dX1_putThread_124 (by assumption) (by rfl) ?_
          refine v_iload dX1_putThread_127 rfl ?_
          refine v_iaload dX1_putThread_129 (by assumption) (vp_in_nI hu (by omega)) ?_
          rw [nI_clamp (by omega), e1 u hu]
          refine v_imul dX1_putThread_130 ?_
          refine v_iadd dX1_putThread_131 ?_
          refine v_iastoreX dX1_putThread_132 (by assumption) (vp_in_nI hq9 (by omega)) (fun f hp => ?_)
          have hr := hr.set8 (φ := sInL (PL.take (i + 1)) (z * ρ 1 u) (ρ 8)) hp (fun j hj => by
            rw [nI_clamp (by omega), ← sInL_snoc hpa0.2.1 h9]; unfold upd
            by_cases h : j = PL.getD i 0
            · rw [if_pos h, if_pos h, zset_eq, sInL_at hpa0.2.1 h9]; rfl
            · rw [if_neg h, if_neg h, e8 j hj, zset_eq])
          rw [zset_zset] at hr
          have hq1 := hp.ne hq1 (by omega)
          have hq2 := hp.ne hq2 (by omega)
          have hf0 := hf0.put hp (Or.inr ⟨by show t ≤ t + 8; omega, by show t + 8 ≤ t + 10; omega⟩)
          have hL := hL.fr (zFr.refl.put (T := zTRi t) hp ⟨by show t ≤ t + 8; omega, by show t + 8 ≤ t + 10; omega⟩) (fun τ h1 h2 => by have := h2.2; omega)
          obtain ⟨r0, ⟨g1, a1, e1⟩, ⟨g2, a2, e2⟩, ⟨g3, a3, e3⟩, ⟨g4, a4, e4⟩, ⟨g5, a5, e5⟩, ⟨g6, a6, e6⟩, ⟨g7, a7, e7⟩, ⟨g8, a8, e8⟩, ⟨g9, a9, e9⟩, ⟨g10, a10, e10⟩⟩ := id hr
          refine v_aload_n dX1_putThread_133 rfl rfl ?_
          refine v_getfield fX1_43 dX1_putThread_134 (by assumption) (by rfl) ?_
          refine v_iload dX1_putThread_137 rfl ?_
          refine v_dup2 dX1_putThread_139 rfl rfl ?_
          refine v_iaload dX1_putThread_140 (by assumption) (vp_in_nI hq9 (by omega)) ?_
          rw [nI_clamp (by omega), e9 _ hq9]
          refine v_iload_n dX1_putThread_141 rfl rfl ?_
          refine v_iadd dX1_putThread_142 ?_
          refine v_iastoreX dX1_putThread_143 (by assumption) (vp_in_nI hq9 (by omega)) (fun f hp => ?_)
          have hr := hr.set_xs (φ := sInL (PL.take (i + 1)) z xs) hp (fun j hj => by
            rw [nI_clamp (by omega), ← sInL_snoc hpa0.2.1 h9]; unfold upd
            by_cases h : j = PL.getD i 0
            · rw [if_pos h, if_pos h, sInL_at hpa0.2.1 h9]
            · rw [if_neg h, if_neg h, e9 j hj])
          have hq1 := hp.ne hq1 (by omega)
          have hq2 := hp.ne hq2 (by omega)
          have hf0 := hf0.put hp (Or.inr ⟨by show t ≤ t + 9; omega, by show t + 9 ≤ t + 10; omega⟩)
          have hL := hL.fr (zFr.refl.put (T := zTRi t) hp ⟨by show t ≤ t + 9; omega, by show t + 9 ≤ t + 10; omega⟩) (fun τ h1 h2 => by have := h2.2; omega)
          refine v_iincN dX1_putThread_144 rfl (by decide) ?_
          refine v_goto 100 dX1_putThread_147 (by decide) ?_
          exact v_loc (lv' := [(0, .ref r), (2, .int z), (5, .int (nI u)), (6, .ref sq), (7, .int (nI PL.length)), (8, .int (nI (i + 1)))]) ⟨rfl, rfl, rfl, rfl, rfl, rfl, trivial⟩ (ih (i + 1) (by omega) f hr hL hf0 hq1 hq2)
    refine v_iconst (nI 0) dX1_putThread_97 (by decide) ?_
    refine v_istore dX1_putThread_98 (by decide) ?_
    exact v_loc (lv' := [(0, .ref r), (2, .int z), (5, .int (nI u)), (6, .ref sq), (7, .int (nI PL.length)), (8, .int (nI 0))]) ⟨rfl, rfl, rfl, rfl, rfl, rfl, trivial⟩ (loop PL.length 0 (by omega) f (hr.eq (zset_id (fun i => by rw [List.take_zero, sInL_nil]; rfl)).symm (funext fun i => by rw [List.take_zero, sInL_nil]) rfl) hL hf0 hq1 hq2)
  · exact absurd b28 (nI_m1 (by omega))
