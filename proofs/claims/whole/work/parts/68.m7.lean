/-- the reference's object with its state, its mark and its arrays of squares -/
def MX (f : zHM) (o : Nat) (B : Nat → Nat) (w : Nat → Int32) (hh : Int64) (σ : Nat → Int32) (mr : Nat) : Prop :=
  f o = some (700, .inr (4, zMo B w hh)) ∧ f (B 0) = some (701, .inl (0, 904, .inl σ)) ∧ (∃ gc, f (B 5) = some (706, .inl (0, 144, .inl gc))) ∧ (∃ gm, f (B 6) = some (707, .inl (0, 144, .inl gm)) ∧ ∀ q, q < 144 → ∃ j, j ≤ mr ∧ gm q = nI j) ∧ w 4 = nI mr
abbrev zTY : Nat → Prop := fun τ => τ = 700 ∨ τ = 701 ∨ τ = 706 ∨ τ = 707
/-- all numbers but crossedMany and mark are kept -/
def wK (w w' : Nat → Int32) : Prop := ∀ i, i ≠ 3 → i ≠ 4 → w' i = w i
theorem wK.trans {w w' w2 : Nat → Int32} (h : wK w w') (h2 : wK w' w2) : wK w w2 := fun i a b => (h2 i a b).trans (h i a b)
theorem zup2_K (w : Nat → Int32) (x y : Int32) : wK w (zUp (zUp w 4 x) 3 y) := fun i h3 h4 => by
  unfold zUp
  rw [if_neg h3, if_neg h4]
theorem MX.s {f f' : zHM} {o mr : Nat} {B : Nat → Nat} {w : Nat → Int32} {hh : Int64} {σ σ' : Nat → Int32} (h : MX f o B w hh σ mr) (hp : f' (B 0) = some (701, .inl (0, 904, .inl σ'))) (hf : zFr (fun τ => τ = 701) f f') : MX f' o B w hh σ' mr := by
  obtain ⟨h1, h2, ⟨gc, h3⟩, ⟨gm, h4, h5⟩, h6⟩ := h
  exact ⟨hf _ _ _ h1 (by omega), hp, ⟨gc, hf _ _ _ h3 (by omega)⟩, ⟨gm, hf _ _ _ h4 (by omega), h5⟩, h6⟩
set_option maxRecDepth 10000 in
set_option maxHeartbeats 1000000 in
theorem c_darkens {G : zW} {f : zHM} {m : Nat × Nat} {o mr : Nat} {B : Nat → Nat} {w : Nat → Int32} {hh : Int64} {σ : Nat → Int32} (h : MX f o B w hh σ mr) (hmr9 : mr < 2 ^ 30) {N s : Nat} (hv : RV (rOf σ) N s) {a b : Nat} (ha : a < N) (hb : b < N) (hab : a ≠ b) {z : Int32} : zM G yX4_darkens cX4_darkens 5 none 5 [.ref o, .int (nI a), .int (nI b), .int z] (f, m) (zD none (fun f' m' => ∃ w' σ', MX f' o B w' hh σ' (mr + 1) ∧ wK w w' ∧ (∀ i, i < 760 → σ' i = σ i) ∧ (∀ q, σ' (760 + q) = sInL (sPa s a b) z (fun q => σ (760 + q)) q) ∧ zFr zTY f f' ∧ m' = m)) := by
  refine zM.of (by decide) (Nat.le_of_ble_eq_true rfl) ?_
  obtain ⟨ho, hs, ⟨gc0, hcr⟩, ⟨gm0, hmk, hgm⟩, hw4⟩ := id h
  have hN24 := hv.pos.2.1
  obtain ⟨hln, hnd, hl144⟩ := sPa_ok hv ha hb hab
  refine v_aload_n dX4_darkens_0 rfl rfl ?_
  refine v_iload_n dX4_darkens_1 rfl rfl ?_
  refine v_iload_n dX4_darkens_2 rfl rfl ?_
  refine v_callV0 kX4_85 gi_X4_laysCrossed ge_X4_laysCrossed rfl dX4_darkens_3 ho (c_laysCrossed ho hs hv.1 hv.2.2.1 hv.2.2.2 ha hb hab hw4 hmr9 hcr hmk hgm) rfl rfl (by decide) (Nat.le_of_ble_eq_true rfl) (fun f1 m1 hc => ?_)
  obtain ⟨⟨hoC1, ⟨gc, hcC1, hgc⟩, gm, hgC1, hgC2⟩, hf1, rfl⟩ := hc
  generalize sPa s a b = PL at hln hnd hl144 hoC1 hgc hgC2 ⊢
  have hloop : ∀ (kk k : Nat), k + kk = PL.length → ∀ (f2 : zHM) (σ2 : Nat → Int32), f2 o = some (700, .inr (4, zMo B (zUp (zUp w 4 (nI (mr + 1))) 3 (nI PL.length)) hh)) → f2 (B 0) = some (701, .inl (0, 904, .inl σ2)) → f2 (B 5) = some (706, .inl (0, 144, .inl gc)) → f2 (B 6) = some (707, .inl (0, 144, .inl gm)) → (∀ i, i < 760 → σ2 i = σ i) → (∀ q, σ2 (760 + q) = sInL (PL.take k) z (fun q => σ (760 + q)) q) → zFr zTY f f2 → zV G yX4_darkens cX4_darkens 5 none 5 9 [(0, .ref o), (3, .int z), (4, .int (nI k))] [] (f2, m1) (zD none (fun f' m' => ∃ w' σ', MX f' o B w' hh σ' (mr + 1) ∧ wK w w' ∧ (∀ i, i < 760 → σ' i = σ i) ∧ (∀ q, σ' (760 + q) = sInL PL z (fun q => σ (760 + q)) q) ∧ zFr zTY f f' ∧ m' = m1)) := by
    intro kk
    induction kk with
    | zero =>
      intro k hk f2 σ2 hoC hs2 hcC hgC hlo hhi hff
      have hk : k = PL.length := by omega
      subst hk
      refine v_iload dX4_darkens_9 rfl ?_
      refine v_aload_n dX4_darkens_11 rfl rfl ?_
      refine v_getfield fX4_68 dX4_darkens_12 hoC (by rfl) ?_
      rw [show zUp (zUp w 4 (nI (mr + 1))) 3 (nI PL.length) 3 = nI PL.length from rfl]
      refine v_icmp_ge 44 dX4_darkens_15 (by decide) (fun b15 => ?_) (fun b15 => ?_)
      · rw [nI_leI (by omega) (by omega)] at b15
        exact v_return dX4_darkens_44 rfl ⟨rfl, _, σ2, ⟨hoC, hs2, ⟨gc, hcC⟩, ⟨gm, hgC, fun q hq => (hgC2 q hq).2⟩, rfl⟩, zup2_K _ _ _, hlo, fun q => by rw [hhi q, List.take_length], hff, rfl⟩
      · rw [nI_leI (by omega) (by omega)] at b15
        omega
    | succ kk ih =>
      intro k hk f2 σ2 hoC hs2 hcC hgC hlo hhi hff
      have hk9 : k < PL.length := by omega
      have hq9 : PL.getD k 0 < 144 := by
        rw [List.getD_eq_getElem?_getD, List.getElem?_eq_getElem hk9]
        exact hl144 _ (List.getElem_mem hk9)
      refine v_iload dX4_darkens_9 rfl ?_
      refine v_aload_n dX4_darkens_11 rfl rfl ?_
      refine v_getfield fX4_68 dX4_darkens_12 hoC (by rfl) ?_
      rw [show zUp (zUp w 4 (nI (mr + 1))) 3 (nI PL.length) 3 = nI PL.length from rfl]
      refine v_icmp_ge 44 dX4_darkens_15 (by decide) (fun b15 => ?_) (fun b15 => ?_)
      · rw [nI_leI (by omega) (by omega)] at b15
        omega
      · rw [nI_leI (by omega) (by omega)] at b15
        refine v_aload_n dX4_darkens_18 rfl rfl ?_
        refine v_getfield fX4_7 dX4_darkens_19 (by assumption) (by rfl) ?_
        refine v_sipush (nI 760) dX4_darkens_22 (by decide) ?_
        refine v_aload_n dX4_darkens_25 rfl rfl ?_
        refine v_getfield fX4_26 dX4_darkens_26 (by assumption) (by rfl) ?_
        refine v_iload dX4_darkens_29 rfl ?_
        refine v_iaload dX4_darkens_31 hcC (vp_in_nI (by omega) (by omega)) ?_
        rw [nI_clamp (by omega), hgc k hk9]
        refine v_iadd dX4_darkens_32 ?_
        rw [nI_add]
        refine v_dup2 dX4_darkens_33 rfl rfl ?_
        refine v_iaload dX4_darkens_34 hs2 (vp_in_nI (by omega) (by omega)) ?_
        rw [nI_clamp (by omega), hhi, sInL_at hnd hk9]
        refine v_iload_n dX4_darkens_35 rfl rfl ?_
        refine v_iadd dX4_darkens_36 ?_
        refine v_iastoreX dX4_darkens_37 hs2 (vp_in_nI (by omega) (by omega)) (fun f3 hp => ?_)
        rw [nI_clamp (by omega)] at hp
        have hz : zFr (fun τ => τ = 701) f2 f3 := zFr.put (T := fun τ => τ = 701) zFr.refl hp rfl
        refine v_iincN dX4_darkens_38 rfl (by decide) ?_
        refine v_goto 9 dX4_darkens_41 (by decide) ?_
        exact v_loc (lv' := [(0, .ref o), (3, .int z), (4, .int (nI (k + 1)))]) ⟨rfl, rfl, rfl, trivial⟩ (ih (k + 1) (by omega) f3 _ (hz _ _ _ hoC (by omega)) hp.1 (hz _ _ _ hcC (by omega)) (hz _ _ _ hgC (by omega)) (fun i hi => by
          show (if i = 760 + PL.getD k 0 then _ else σ2 i) = σ i
          rw [if_neg (by omega)]
          exact hlo i hi) (fun q => by
          rw [← sInL_snoc hnd hk9]
          show (if 760 + q = 760 + PL.getD k 0 then _ else σ2 (760 + q)) = upd _ _ _ q
          unfold upd
          by_cases e : q = PL.getD k 0
          · rw [if_pos (by omega), if_pos e]
          · rw [if_neg (by omega), if_neg e]
            exact hhi q) (hff.trans (hz.weaken (fun τ h => Or.inr (Or.inl h)))))
  refine v_iconst (nI 0) dX4_darkens_6 (by decide) ?_
  refine v_istore dX4_darkens_7 (by decide) ?_
  exact v_loc (lv' := [(0, .ref o), (3, .int z), (4, .int (nI 0))]) ⟨rfl, rfl, rfl, trivial⟩ (hloop PL.length 0 (Nat.zero_add _) f1 σ hoC1 (hf1 _ _ _ hs (fun h => by rcases h with h | h | h <;> omega)) hcC1 hgC1 (fun i hi => rfl) (fun q => (sInL_nil z (fun q => σ (760 + q)) q).symm) (hf1.weaken (fun τ h => by show _ ∨ _; rcases h with h | h | h <;> omega)))
