theorem sPO.trans {L e p b p2 b2 : Nat} {ch : Nat → Nat} {g0 : Nat → Int32} {σ σ' σ2 : Nat → Int32} (h : sPO L e ch g0 σ σ' p b) (h2 : sPO L e ch g0 σ' σ2 p2 b2) : sPO L e ch g0 σ σ2 p2 b2 :=
  ⟨h2.1, h2.2.1, fun j hj => (h2.2.2.1 j hj).trans (h.2.2.1 j hj), fun z => (h2.2.2.2.1 z).trans (h.2.2.2.1 z), h2.2.2.2.2⟩
theorem sE_ne {st : Nat} (h : sEnd st = true) : st ≠ 13 ∧ st ≠ 0 ∧ st ≠ 14 ∧ st ≠ 16 ∧ st ≤ 15 := by
  have z : st = 15 ∨ (0 < st ∧ st ≤ 12) := of_decide_eq_true h
  omega
theorem run_abs {ch : Nat → Nat} {i : Nat} (h : sRun ch i = 16) : ∀ k, sRun ch (i + k) = 16
  | 0 => h
  | k + 1 => by
    have ih := run_abs h k
    show sSb (sRun ch (i + k)) (ch (i + k)) = 16
    rw [ih]
    cases hd : sIsD (ch (i + k)) with
    | true => rw [sSb_D (by decide) hd]; rfl
    | false => exact sSb_16 (by decide) hd (fun z => absurd z.2 (by decide)) (fun z => absurd z.2 (by decide))
theorem sPO_end {L e p b : Nat} {ch : Nat → Nat} {g0 : Nat → Int32} {σ σ' : Nat → Int32} (h : sPO L e ch g0 σ σ' p b) (hb : b = 1 → p = L) : (b = 1 ∧ p = L ∧ sEnd (sRun ch L) = true) ∨ (b = 0 ∧ sEnd (sRun ch L) = false) := by
  rcases h.2.2.2.2 with ⟨h1, h2, h3⟩ | ⟨h1, h2, h3⟩
  · have e := hb h1
    exact Or.inl ⟨h1, e, by rw [← e]; exact h2⟩
  · refine Or.inr ⟨h1, ?_⟩
    rcases Nat.lt_or_ge p L with hl | hl
    · have e := run_abs (h3 hl) (L - (p + 1))
      rw [show p + 1 + (L - (p + 1)) = L by omega] at e
      rw [e]
      rfl
    · have e : p = L := by have := h.1; omega
      have h4 := h2 e
      rw [e] at h4
      exact h4
theorem sFwF_ok {ch : Nat → Nat} {p L : Nat} (h1 : ∀ i, i ≤ p → sRun ch i ≠ 16) (h2 : p < L → sRun ch (p + 1) = 16) (hp : p ≤ L) : ∀ k i, i + k = L → i ≤ p → sFwF ch k i = p
  | 0, i, h, hi => by show i = p; omega
  | k + 1, i, h, hi => by
    show (if sRun ch (i + 1) = 16 then i else sFwF ch k (i + 1)) = p
    by_cases e : i = p
    · subst e
      rw [if_pos (h2 (by omega))]
    · rw [if_neg (h1 (i + 1) (by omega))]
      exact sFwF_ok h1 h2 hp k (i + 1) (by omega) (by omega)
theorem sFw_ok {L e p b : Nat} {ch : Nat → Nat} {g0 : Nat → Int32} {σ σ' : Nat → Int32} (h : sPO L e ch g0 σ σ' p b) (hb : b = 1 → p = L) : sFw ch L = p :=
  sFwF_ok h.2.1 (fun hl => by
    rcases h.2.2.2.2 with ⟨h1, -⟩ | ⟨-, -, h3⟩
    · have := hb h1; omega
    · exact h3 hl) h.1 L 0 (Nat.zero_add L) (Nat.zero_le p)
theorem sw_16 {ch : Nat → Nat} {p L : Nat} (h : sEnd (sRun ch p) = true) (hN : 12 ≤ sRun ch p ∨ p = L ∨ sIsD (ch p) = false) (hl : p < L) (h59 : ¬ ch p = 59) : sSb (sRun ch p) (ch p) = 16 := by
  obtain ⟨e1, e2, e3, e4, e5⟩ := sE_ne h
  cases hd : sIsD (ch p) with
  | true =>
    rw [sSb_D e1 hd, if_neg e3, if_pos]
    rcases hN with z | z | z
    · exact z
    · omega
    · rw [z] at hd; cases hd
  | false => exact sSb_16 e1 hd (fun z => e2 z.2) (fun z => h59 z.1)
set_option maxRecDepth 10000 in
set_option maxHeartbeats 1000000 in
theorem c_readsAll {G : zW} {f : zHM} {m : Nat × Nat} {o mr : Nat} {B : Nat → Nat} {w : Nat → Int32} {hh : Int64} {σ : Nat → Int32} (h : MX f o B w hh σ mr) {L : Nat} {ch : Nat → Nat} {gb : Nat → Int32} (a2 : w 2 = nI L) (hbf : f (B 4) = some (705, .inl (0, 60, .inl gb))) (hgb : ∀ i, i < L → gb i = nI (ch i) ∧ ch i < 128) (hL : L ≤ 60) {e : Nat} (he : e < 2) : zM G yX4_readsAll cX4_readsAll 2 none 4 [.ref o, .int (nI e)] (f, m) (zD none (fun f' m' => (∃ w' σ' p b, MX f' o B w' hh σ' mr ∧ wP w w' ∧ w' 5 = nI p ∧ w' 6 = nI b ∧ zFr zTP f f' ∧ sPO L e ch (fun j => σ (616 + j)) σ σ' p b ∧ (b = 1 → p = L)) ∧ m' = m)) := by
  refine zM.of (by decide) (Nat.le_of_ble_eq_true rfl) ?_
  have ho := h.1
  have hs := h.2.1
  have loop : ∀ (k p : Nat), L ≤ p + k → ∀ (fx : zHM) (wx : Nat → Int32) (σx : Nat → Int32) (b : Nat), MX fx o B wx hh σx mr → wP w wx → wx 5 = nI p → wx 6 = nI b → zFr zTP f fx → sPO L e ch (fun j => σ (616 + j)) σ σx p b → zV G yX4_readsAll cX4_readsAll 2 none 4 15 [(0, .ref o), (1, .int (nI e))] [] (fx, m) (zD none (fun f' m' => (∃ w' σ' p b, MX f' o B w' hh σ' mr ∧ wP w w' ∧ w' 5 = nI p ∧ w' 6 = nI b ∧ zFr zTP f f' ∧ sPO L e ch (fun j => σ (616 + j)) σ σ' p b ∧ (b = 1 → p = L)) ∧ m' = m)) := by
    intro k
    induction k with
    | zero =>
      intro p hk fx wx σx b hx Wx a5x a6x Fx hPO
      have hox := hx.1
      have hsx := hx.2.1
      have a2x := (Wx 2 (by decide) (by decide)).trans a2
      have bfx := Fx _ _ _ hbf (by omega)
      have hpl := hPO.1
      rcases id hPO.2.2.2.2 with ⟨rfl, hE, hN, hG⟩ | ⟨rfl, hE2, hN2⟩
      · refine v_aload_n dX4_readsAll_15 rfl rfl ?_
        refine v_getfield fX4_166 dX4_readsAll_16 (by assumption) (by rfl) ?_
        rw [a6x]
        refine v_if_eq 57 dX4_readsAll_19 (by decide) (fun b19 => ?_) (fun b19 => ?_)
        · rw [show (0 : Int32) = nI 0 from rfl] at b19
          rw [nI_eq (by omega) (by omega)] at b19
          omega
        · rw [show (0 : Int32) = nI 0 from rfl] at b19
          rw [nI_eq (by omega) (by omega)] at b19
          refine v_aload_n dX4_readsAll_22 rfl rfl ?_
          refine v_getfield fX4_163 dX4_readsAll_23 (by assumption) (by rfl) ?_
          rw [a5x]
          refine v_aload_n dX4_readsAll_26 rfl rfl ?_
          refine v_getfield fX4_160 dX4_readsAll_27 (by assumption) (by rfl) ?_
          rw [a2x]
          refine v_icmp_ge 57 dX4_readsAll_30 (by decide) (fun b30 => ?_) (fun b30 => ?_)
          · rw [nI_leI (by omega) (by omega)] at b30
            exact v_return dX4_readsAll_57 rfl ⟨rfl, ⟨wx, σx, p, 1, hx, Wx, a5x, a6x, Fx, hPO, (fun _ => by have := hPO.1; omega)⟩, rfl⟩
          · rw [nI_leI (by omega) (by omega)] at b30
            omega
      · refine v_aload_n dX4_readsAll_15 rfl rfl ?_
        refine v_getfield fX4_166 dX4_readsAll_16 (by assumption) (by rfl) ?_
        rw [a6x]
        refine v_if_eq 57 dX4_readsAll_19 (by decide) (fun b19 => ?_) (fun b19 => ?_)
        · rw [show (0 : Int32) = nI 0 from rfl] at b19
          rw [nI_eq (by omega) (by omega)] at b19
          exact v_return dX4_readsAll_57 rfl ⟨rfl, ⟨wx, σx, p, 0, hx, Wx, a5x, a6x, Fx, hPO, (fun z => by omega)⟩, rfl⟩
        · rw [show (0 : Int32) = nI 0 from rfl] at b19
          rw [nI_eq (by omega) (by omega)] at b19
          omega
    | succ k ih =>
      intro p hk fx wx σx b hx Wx a5x a6x Fx hPO
      have hox := hx.1
      have hsx := hx.2.1
      have a2x := (Wx 2 (by decide) (by decide)).trans a2
      have bfx := Fx _ _ _ hbf (by omega)
      have hpl := hPO.1
      rcases id hPO.2.2.2.2 with ⟨rfl, hE, hN, hG⟩ | ⟨rfl, hE2, hN2⟩
      · refine v_aload_n dX4_readsAll_15 rfl rfl ?_
        refine v_getfield fX4_166 dX4_readsAll_16 (by assumption) (by rfl) ?_
        rw [a6x]
        refine v_if_eq 57 dX4_readsAll_19 (by decide) (fun b19 => ?_) (fun b19 => ?_)
        · rw [show (0 : Int32) = nI 0 from rfl] at b19
          rw [nI_eq (by omega) (by omega)] at b19
          omega
        · rw [show (0 : Int32) = nI 0 from rfl] at b19
          rw [nI_eq (by omega) (by omega)] at b19
          refine v_aload_n dX4_readsAll_22 rfl rfl ?_
          refine v_getfield fX4_163 dX4_readsAll_23 (by assumption) (by rfl) ?_
          rw [a5x]
          refine v_aload_n dX4_readsAll_26 rfl rfl ?_
          refine v_getfield fX4_160 dX4_readsAll_27 (by assumption) (by rfl) ?_
          rw [a2x]
          refine v_icmp_ge 57 dX4_readsAll_30 (by decide) (fun b30 => ?_) (fun b30 => ?_)
          · rw [nI_leI (by omega) (by omega)] at b30
            exact v_return dX4_readsAll_57 rfl ⟨rfl, ⟨wx, σx, p, 1, hx, Wx, a5x, a6x, Fx, hPO, (fun _ => by have := hPO.1; omega)⟩, rfl⟩
          · rw [nI_leI (by omega) (by omega)] at b30
            refine v_aload_n dX4_readsAll_33 rfl rfl ?_
            refine v_bipush (nI 59) dX4_readsAll_34 (by decide) ?_
            refine v_bipush (nI 59) dX4_readsAll_36 (by decide) ?_
            by_cases hcS : 59 ≤ sg L ch p ∧ sg L ch p ≤ 59
            · obtain ⟨plS, sgS⟩ := sg_in (by omega) hcS.1
              refine v_callV1 kX4_173 gi_X4_takes ge_X4_takes rfl dX4_readsAll_38 (by assumption) (c_takes_y hx a5x a2x bfx hgb hL hPO.1 a6x (by omega) (by omega) hcS.1 hcS.2) rfl rfl (by decide) (Nat.le_of_ble_eq_true rfl) (fun f21 m hc21 => ?_)
              obtain ⟨⟨w21, h21, W21, a521, a621, F21⟩, rfl⟩ := hc21
              have ho21 := h21.1
              have hs21 := h21.2.1
              have a221 := (W21 2 (by decide) (by decide)).trans a2x
              have bf21 := F21 _ _ _ bfx (by omega)
              replace W21 := wP.trans Wx W21
              replace F21 := zFr.trans Fx (F21.weaken (fun τ z => (Or.inl z : zTP τ)))
              rw [sgS] at hcS ⊢
              have dS : sIsD (ch p) = false := sD_no (by omega)
              have r2 : sRun ch (p + 1) = 13 := by rw [run_s rfl]; exact sSb_13 (sE_ne hE).1 dS (fun z => by omega) ⟨by omega, hE⟩
              have n2 := run_16 hPO.2.1 (by rw [r2]; decide)
              have tS : e = 1 → ∀ j, j < 144 → σx (616 + j) = (sTl ch (fun j => σ (616 + j)) (p + 1)).2.2.2 j := fun he1 j hj => by
                rw [sTl_N (s := _) (k := _) (b := _) (g := _) rfl (sL_no (by omega)) (by omega) (fun z => absurd z.1 (by rw [dS]; decide)) (fun z => absurd z.1 (by rw [dS]; decide))]
                exact hG he1 j hj
              refine v_pop dX4_readsAll_41 rfl ?_
              refine v_aload_n dX4_readsAll_42 rfl rfl ?_
              refine v_getfield fX4_166 dX4_readsAll_43 (by assumption) (by rfl) ?_
              rw [a621]
              refine v_if_eq 15 dX4_readsAll_46 (by decide) (fun b46 => ?_) (fun b46 => ?_)
              · rw [show (0 : Int32) = nI 0 from rfl] at b46
                rw [nI_eq (by omega) (by omega)] at b46
                omega
              · rw [show (0 : Int32) = nI 0 from rfl] at b46
                rw [nI_eq (by omega) (by omega)] at b46
                refine v_aload_n dX4_readsAll_49 rfl rfl ?_
                refine v_iload_n dX4_readsAll_50 rfl rfl ?_
                refine v_callV0 kX4_180 gi_X4_readsRow ge_X4_readsRow rfl dX4_readsAll_51 (by assumption) (c_readsRow (g0 := fun j => σ (616 + j)) h21 a521 a221 bf21 hgb hL (show (p + 1) ≤ L by omega) a621 he r2 n2 tS) rfl rfl (by decide) (Nat.le_of_ble_eq_true rfl) (fun f22 m hc22 => ?_)
                obtain ⟨⟨w22, σ22, p22, b22, h22, W22, a522, a622, F22, hpp22, hP22⟩, rfl⟩ := hc22
                have ho22 := h22.1
                have hs22 := h22.2.1
                have a222 := (W22 2 (by decide) (by decide)).trans a221
                have bf22 := F22 _ _ _ bf21 (by omega)
                replace W22 := wP.trans W21 W22
                replace F22 := zFr.trans F21 F22
                refine v_goto 15 dX4_readsAll_54 (by decide) ?_
                exact v_loc (lv' := [(0, .ref o), (1, .int (nI e))]) ⟨rfl, rfl, trivial⟩ (ih p22 (by omega) f22 w22 σ22 b22 h22 W22 a522 a622 F22 (hPO.trans hP22))
            · refine v_callV1 kX4_173 gi_X4_takes ge_X4_takes rfl dX4_readsAll_38 (by assumption) (c_takes_n hx a5x a2x bfx hgb hL hPO.1 a6x (by omega) (by omega) hcS) rfl rfl (by decide) (Nat.le_of_ble_eq_true rfl) (fun f21 m hc21 => ?_)
              obtain ⟨⟨w21, h21, W21, a521, a621, F21⟩, rfl⟩ := hc21
              have ho21 := h21.1
              have hs21 := h21.2.1
              have a221 := (W21 2 (by decide) (by decide)).trans a2x
              have bf21 := F21 _ _ _ bfx (by omega)
              replace W21 := wP.trans Wx W21
              replace F21 := zFr.trans Fx (F21.weaken (fun τ z => (Or.inl z : zTP τ)))
              refine v_pop dX4_readsAll_41 rfl ?_
              refine v_aload_n dX4_readsAll_42 rfl rfl ?_
              refine v_getfield fX4_166 dX4_readsAll_43 (by assumption) (by rfl) ?_
              rw [a621]
              refine v_if_eq 15 dX4_readsAll_46 (by decide) (fun b46 => ?_) (fun b46 => ?_)
              · rw [show (0 : Int32) = nI 0 from rfl] at b46
                rw [nI_eq (by omega) (by omega)] at b46
                refine v_aload_n dX4_readsAll_15 rfl rfl ?_
                refine v_getfield fX4_166 dX4_readsAll_16 (by assumption) (by rfl) ?_
                rw [a621]
                refine v_if_eq 57 dX4_readsAll_19 (by decide) (fun b19 => ?_) (fun b19 => ?_)
                · rw [show (0 : Int32) = nI 0 from rfl] at b19
                  rw [nI_eq (by omega) (by omega)] at b19
                  exact v_return dX4_readsAll_57 rfl ⟨rfl, ⟨w21, σx, p, 0, h21, W21, a521, a621, F21, ⟨hPO.1, hPO.2.1, hPO.2.2.1, hPO.2.2.2.1, Or.inr ⟨rfl, fun z => by omega, fun hl => by rw [run_s rfl]; rw [sg_ch hl] at hcS; exact sw_16 hE hN hl (fun z => hcS (by omega))⟩⟩, (fun z => by omega)⟩, rfl⟩
                · rw [show (0 : Int32) = nI 0 from rfl] at b19
                  rw [nI_eq (by omega) (by omega)] at b19
                  omega
              · rw [show (0 : Int32) = nI 0 from rfl] at b46
                rw [nI_eq (by omega) (by omega)] at b46
                omega
      · refine v_aload_n dX4_readsAll_15 rfl rfl ?_
        refine v_getfield fX4_166 dX4_readsAll_16 (by assumption) (by rfl) ?_
        rw [a6x]
        refine v_if_eq 57 dX4_readsAll_19 (by decide) (fun b19 => ?_) (fun b19 => ?_)
        · rw [show (0 : Int32) = nI 0 from rfl] at b19
          rw [nI_eq (by omega) (by omega)] at b19
          exact v_return dX4_readsAll_57 rfl ⟨rfl, ⟨wx, σx, p, 0, hx, Wx, a5x, a6x, Fx, hPO, (fun z => by omega)⟩, rfl⟩
        · rw [show (0 : Int32) = nI 0 from rfl] at b19
          rw [nI_eq (by omega) (by omega)] at b19
          omega
  refine v_aload_n dX4_readsAll_0 rfl rfl ?_
  refine v_iconst (nI 0) dX4_readsAll_1 (by decide) ?_
  refine v_putfieldX fX4_163 dX4_readsAll_2 (by assumption) rfl rfl (Nat.le_of_ble_eq_true rfl) (fun f1 hp1 => ?_)
  obtain ⟨h1, -⟩ := MX.put (w' := zUp w 5 (nI 0)) (f0 := f) h hp1 rfl zFr.refl
  obtain ⟨w1, ew1⟩ : ∃ w9, w9 = zUp w 5 (nI 0) := ⟨_, rfl⟩
  rw [← ew1] at h1
  have ho1 := h1.1
  have hs1 := h1.2.1
  have a51 : w1 5 = nI 0 := by rw [ew1]; rfl
  have a61 := (show w1 6 = w 6 from by rw [ew1]; rfl).trans rfl
  have a21 := (show w1 2 = w 2 from by rw [ew1]; rfl).trans a2
  have W1 : wP w w1 := fun i h5 h6 => (by rw [ew1]; exact if_neg h5 : w1 i = w i).trans ((wP.refl w) i h5 h6)
  have F1 := zFr.put (T := zTP) zFr.refl hp1 (Or.inl rfl)
  have bf1 := hp1.ne hbf (by omega)
  clear hp1
  refine v_aload_n dX4_readsAll_5 rfl rfl ?_
  refine v_iconst (nI 1) dX4_readsAll_6 (by decide) ?_
  refine v_putfieldX fX4_166 dX4_readsAll_7 (by assumption) rfl rfl (Nat.le_of_ble_eq_true rfl) (fun f2 hp2 => ?_)
  obtain ⟨h2, -⟩ := MX.put (w' := zUp w1 6 (nI 1)) (f0 := f1) h1 hp2 rfl zFr.refl
  obtain ⟨w2, ew2⟩ : ∃ w9, w9 = zUp w1 6 (nI 1) := ⟨_, rfl⟩
  rw [← ew2] at h2
  have ho2 := h2.1
  have hs2 := h2.2.1
  have a52 := (show w2 5 = w1 5 from by rw [ew2]; rfl).trans a51
  have a62 : w2 6 = nI 1 := by rw [ew2]; rfl
  have a22 := (show w2 2 = w1 2 from by rw [ew2]; rfl).trans a21
  have W2 : wP w w2 := fun i h5 h6 => (by rw [ew2]; exact if_neg h6 : w2 i = w1 i).trans (W1 i h5 h6)
  have F2 := zFr.put (T := zTP) F1 hp2 (Or.inl rfl)
  have bf2 := hp2.ne bf1 (by omega)
  clear hp2
  refine v_aload_n dX4_readsAll_10 rfl rfl ?_
  refine v_iload_n dX4_readsAll_11 rfl rfl ?_
  refine v_callV0 kX4_180 gi_X4_readsRow ge_X4_readsRow rfl dX4_readsAll_12 (by assumption) (c_readsRow (g0 := fun j => σ (616 + j)) h2 a52 a22 bf2 hgb hL (Nat.zero_le L) a62 he rfl (fun i hi => by rw [show i = 0 by omega]; show 13 ≠ 16; decide) (fun _ _ _ => rfl)) rfl rfl (by decide) (Nat.le_of_ble_eq_true rfl) (fun f3 m hc3 => ?_)
  obtain ⟨⟨w3, σ3, p3, b3, h3, W3, a53, a63, F3, hpp3, hP3⟩, rfl⟩ := hc3
  have ho3 := h3.1
  have hs3 := h3.2.1
  have a23 := (W3 2 (by decide) (by decide)).trans a22
  have bf3 := F3 _ _ _ bf2 (by omega)
  replace W3 := wP.trans W2 W3
  replace F3 := zFr.trans F2 F3
  exact v_loc (lv' := [(0, .ref o), (1, .int (nI e))]) ⟨rfl, rfl, trivial⟩ (loop L p3 (by omega) f3 w3 σ3 b3 h3 W3 a53 a63 F3 hP3)
set_option maxRecDepth 10000 in
set_option maxHeartbeats 1000000 in
theorem c_m9firstError {G : zW} {f : zHM} {m : Nat × Nat} {o mr : Nat} {B : Nat → Nat} {w : Nat → Int32} {hh : Int64} {σ : Nat → Int32} (h : MX f o B w hh σ mr) {th : Int32} {k L : Nat} {sv : Nat → Nat → Int32} {hsl : Nat → Int32} {sl : Nat → Nat → Int32} {ch : Nat → Nat} (t : w 0 = th) (k0 : w 1 = nI k) (l0 : w 2 = nI L) (O : zNO f B k sv hsl sl L ch) (hch : ∀ i, i < L → ch i < 128) : zM G yX4_firstError cX4_firstError 1 (some .int) 9 [.ref o] (f, m) (zD (some (.int (nI (sFw ch L)))) (fun f' m' => zNP f o B hh mr 0 0 k sv hsl sl L ch (fun σ' => σ' = σ) f' ∧ m' = m)) := by
  refine zM.of (by decide) (Nat.le_of_ble_eq_true rfl) ?_
  have ho := h.1
  have hs := h.2.1
  have hL60 := O.2.2.2.1.1
  refine v_aload_n dX4_firstError_0 rfl rfl ?_
  refine v_iconst (nI 0) dX4_firstError_1 (by decide) ?_
  refine v_putfieldX fX4_35 dX4_firstError_2 (by assumption) rfl rfl (Nat.le_of_ble_eq_true rfl) (fun f1 hp1 => ?_)
  obtain ⟨h1, hf1⟩ := MX.put (w' := zUp w 0 (nI 0)) (f0 := f) h hp1 rfl zFr.refl
  obtain ⟨w1, ew1⟩ : ∃ w9, w9 = zUp w 0 (nI 0) := ⟨_, rfl⟩
  rw [← ew1] at h1
  clear hp1
  have ho1 := h1.1
  have hs1 := h1.2.1
  have t1 : w1 0 = nI 0 := by rw [ew1]; rfl
  have k1 := (show w1 1 = w 1 from by rw [ew1]; rfl).trans k0
  have l1 := (show w1 2 = w 2 from by rw [ew1]; rfl).trans l0
  have O1 := zNO.fr O hf1 (by intro τ h; rcases h with h | h | h | h <;> omega)
  have F1 := zFr.trans zFr.refl (zFr.weaken hf1 zTYZ)
  refine v_aload_n dX4_firstError_5 rfl rfl ?_
  refine v_iconst (nI 0) dX4_firstError_6 (by decide) ?_
  obtain ⟨-, -, -, ⟨-, gb2, hbf2, hgb2⟩, -⟩ := id O1
  refine v_callV0 kX4_184 gi_X4_readsAll ge_X4_readsAll rfl dX4_firstError_7 (by assumption) (c_readsAll h1 l1 hbf2 (fun i hi => ⟨hgb2 i hi, hch i hi⟩) hL60 (e := 0) (by omega)) rfl rfl (by decide) (Nat.le_of_ble_eq_true rfl) (fun f2 m hc2 => ?_)
  obtain ⟨⟨w2, σ2, p2, b2, h2, W2, a52, a62, hf2, hP2, hb2⟩, rfl⟩ := hc2
  have ho2 := h2.1
  have t2 := (W2 0 (by decide) (by decide)).trans t1
  have k2 := (W2 1 (by decide) (by decide)).trans k1
  have l2 := (W2 2 (by decide) (by decide)).trans l1
  have O2 := zNO.fr O1 hf2 (by omega)
  have F2 := zFr.trans F1 (hf2.weaken (fun τ z => (⟨by omega, by omega⟩ : zTZ τ)))
  have e02 := hP2.2.2.2.1 rfl
  rw [e02] at h2
  have hs2 := h2.2.1
  refine v_aload_n dX4_firstError_10 rfl rfl ?_
  refine v_getfield fX4_163 dX4_firstError_11 (by assumption) (by rfl) ?_
  rw [a52]
  exact v_ireturn dX4_firstError_14 rfl ⟨by rw [sFw_ok hP2 hb2], ⟨σ, mr, by omega, ⟨w2, h2, t2, k2, l2, O2⟩, rfl, F2⟩, rfl⟩
set_option maxRecDepth 10000 in
set_option maxHeartbeats 1000000 in
theorem y_load_1 {G : zW} {f : zHM} {m : Nat × Nat} {o mr : Nat} {B : Nat → Nat} {w : Nat → Int32} {hh : Int64} {σ : Nat → Int32} (h : MX f o B w hh σ mr) {th : Int32} {k L : Nat} {sv : Nat → Nat → Int32} {hsl : Nat → Int32} {sl : Nat → Nat → Int32} {ch : Nat → Nat} (t : w 0 = th) (k0 : w 1 = nI k) (l0 : w 2 = nI L) (O : zNO f B k sv hsl sl L ch) (hch : ∀ i, i < L → ch i < 128) (hF : sEnd (sRun ch L) = false) : zM G yX4_load cX4_load 3 (some .int) 9 [.ref o] (f, m) (zD (some (.int 0)) (fun f' m' => zNP f o B hh mr 0 (nI 1) k sv hsl sl L ch (fun σ' => σ' = σ) f' ∧ m' = m)) := by
  refine zM.of (by decide) (Nat.le_of_ble_eq_true rfl) ?_
  have ho := h.1
  have hs := h.2.1
  have hL60 := O.2.2.2.1.1
  refine v_aload_n dX4_load_0 rfl rfl ?_
  refine v_iconst (nI 0) dX4_load_1 (by decide) ?_
  refine v_putfieldX fX4_35 dX4_load_2 (by assumption) rfl rfl (Nat.le_of_ble_eq_true rfl) (fun f1 hp1 => ?_)
  obtain ⟨h1, hf1⟩ := MX.put (w' := zUp w 0 (nI 0)) (f0 := f) h hp1 rfl zFr.refl
  obtain ⟨w1, ew1⟩ : ∃ w9, w9 = zUp w 0 (nI 0) := ⟨_, rfl⟩
  rw [← ew1] at h1
  clear hp1
  have ho1 := h1.1
  have hs1 := h1.2.1
  have t1 : w1 0 = nI 0 := by rw [ew1]; rfl
  have k1 := (show w1 1 = w 1 from by rw [ew1]; rfl).trans k0
  have l1 := (show w1 2 = w 2 from by rw [ew1]; rfl).trans l0
  have O1 := zNO.fr O hf1 (by intro τ h; rcases h with h | h | h | h <;> omega)
  have F1 := zFr.trans zFr.refl (zFr.weaken hf1 zTYZ)
  refine v_aload_n dX4_load_5 rfl rfl ?_
  refine v_iconst (nI 0) dX4_load_6 (by decide) ?_
  obtain ⟨-, -, -, ⟨-, gb2, hbf2, hgb2⟩, -⟩ := id O1
  refine v_callV0 kX4_184 gi_X4_readsAll ge_X4_readsAll rfl dX4_load_7 (by assumption) (c_readsAll h1 l1 hbf2 (fun i hi => ⟨hgb2 i hi, hch i hi⟩) hL60 (e := 0) (by omega)) rfl rfl (by decide) (Nat.le_of_ble_eq_true rfl) (fun f2 m hc2 => ?_)
  obtain ⟨⟨w2, σ2, p2, b2, h2, W2, a52, a62, hf2, hP2, hb2⟩, rfl⟩ := hc2
  have ho2 := h2.1
  have t2 := (W2 0 (by decide) (by decide)).trans t1
  have k2 := (W2 1 (by decide) (by decide)).trans k1
  have l2 := (W2 2 (by decide) (by decide)).trans l1
  have O2 := zNO.fr O1 hf2 (by omega)
  have F2 := zFr.trans F1 (hf2.weaken (fun τ z => (⟨by omega, by omega⟩ : zTZ τ)))
  have e02 := hP2.2.2.2.1 rfl
  rw [e02] at h2
  have hs2 := h2.2.1
  have hb0 : b2 = 0 := by
    rcases sPO_end hP2 hb2 with ⟨z1, z2, z3⟩ | ⟨z, -⟩
    · rw [hF] at z3; cases z3
    · exact z
  subst hb0
  refine v_aload_n dX4_load_10 rfl rfl ?_
  refine v_getfield fX4_166 dX4_load_11 (by assumption) (by rfl) ?_
  rw [a62]
  refine v_if_ne 23 dX4_load_14 (by decide) (fun b14 => ?_) (fun b14 => ?_)
  · rw [show (0 : Int32) = nI 0 from rfl] at b14
    rw [nI_eq (by omega) (by omega)] at b14
    omega
  · rw [show (0 : Int32) = nI 0 from rfl] at b14
    rw [nI_eq (by omega) (by omega)] at b14
    refine v_aload_n dX4_load_17 rfl rfl ?_
    refine v_iconst (nI 1) dX4_load_18 (by decide) ?_
    refine v_callV1 kX4_118 gi_X4_fails ge_X4_fails rfl dX4_load_19 (by assumption) (c_fails h2) rfl rfl (by decide) (Nat.le_of_ble_eq_true rfl) (fun f3 m hc3 => ?_)
    obtain ⟨⟨w3, h3, t3, hq3, hf3⟩, rfl⟩ := hc3
    have k3 := (hq3 1 (by decide)).trans k2
    have l3 := (hq3 2 (by decide)).trans l2
    have ho3 := h3.1
    have hs3 := h3.2.1
    have O3 := zNO.fr O2 hf3 (by intro τ h; rcases h with h | h | h | h <;> omega)
    have F3 := zFr.trans F2 (zFr.weaken hf3 zTYZ)
    exact v_ireturn dX4_load_22 rfl ⟨rfl, ⟨σ, mr, by omega, ⟨w3, h3, t3, k3, l3, O3⟩, rfl, F3⟩, rfl⟩
set_option maxRecDepth 10000 in
set_option maxHeartbeats 1000000 in
theorem c_m9load {G : zW} {f : zHM} {m : Nat × Nat} {o mr : Nat} {B : Nat → Nat} {w : Nat → Int32} {hh : Int64} {σ : Nat → Int32} (h : MX f o B w hh σ mr) {th : Int32} {k L : Nat} {sv : Nat → Nat → Int32} {hsl : Nat → Int32} {sl : Nat → Nat → Int32} {ch : Nat → Nat} (t : w 0 = th) (k0 : w 1 = nI k) (l0 : w 2 = nI L) (O : zNO f B k sv hsl sl L ch) (hch : ∀ i, i < L → ch i < 128) (hF : sEnd (sRun ch L) = true) : zM G yX4_load cX4_load 3 (some .int) 9 [.ref o] (f, m) (zD (some (.int (nI (sDf (sTl ch (rOf σ 7) L).2.2.2 (rOf σ 7) 144)))) (fun f' m' => zNP f o B hh mr 0 0 (sPK k) (sPM k sv σ) hsl sl 0 ch (fun σ' => (∀ n, n ≤ 200 → zEQ n (zset (rOf σ) 7 (sTl ch (rOf σ 7) L).2.2.2) (rOf σ')) ∧ σ' 15 = σ 15) f' ∧ m' = m)) := by
  refine zM.of (by decide) (Nat.le_of_ble_eq_true rfl) ?_
  have ho := h.1
  have hs := h.2.1
  have hL60 := O.2.2.2.1.1
  refine v_aload_n dX4_load_0 rfl rfl ?_
  refine v_iconst (nI 0) dX4_load_1 (by decide) ?_
  refine v_putfieldX fX4_35 dX4_load_2 (by assumption) rfl rfl (Nat.le_of_ble_eq_true rfl) (fun f1 hp1 => ?_)
  obtain ⟨h1, hf1⟩ := MX.put (w' := zUp w 0 (nI 0)) (f0 := f) h hp1 rfl zFr.refl
  obtain ⟨w1, ew1⟩ : ∃ w9, w9 = zUp w 0 (nI 0) := ⟨_, rfl⟩
  rw [← ew1] at h1
  clear hp1
  have ho1 := h1.1
  have hs1 := h1.2.1
  have t1 : w1 0 = nI 0 := by rw [ew1]; rfl
  have k1 := (show w1 1 = w 1 from by rw [ew1]; rfl).trans k0
  have l1 := (show w1 2 = w 2 from by rw [ew1]; rfl).trans l0
  have O1 := zNO.fr O hf1 (by intro τ h; rcases h with h | h | h | h <;> omega)
  have F1 := zFr.trans zFr.refl (zFr.weaken hf1 zTYZ)
  refine v_aload_n dX4_load_5 rfl rfl ?_
  refine v_iconst (nI 0) dX4_load_6 (by decide) ?_
  obtain ⟨-, -, -, ⟨-, gb2, hbf2, hgb2⟩, -⟩ := id O1
  refine v_callV0 kX4_184 gi_X4_readsAll ge_X4_readsAll rfl dX4_load_7 (by assumption) (c_readsAll h1 l1 hbf2 (fun i hi => ⟨hgb2 i hi, hch i hi⟩) hL60 (e := 0) (by omega)) rfl rfl (by decide) (Nat.le_of_ble_eq_true rfl) (fun f2 m hc2 => ?_)
  obtain ⟨⟨w2, σ2, p2, b2, h2, W2, a52, a62, hf2, hP2, hb2⟩, rfl⟩ := hc2
  have ho2 := h2.1
  have t2 := (W2 0 (by decide) (by decide)).trans t1
  have k2 := (W2 1 (by decide) (by decide)).trans k1
  have l2 := (W2 2 (by decide) (by decide)).trans l1
  have O2 := zNO.fr O1 hf2 (by omega)
  have F2 := zFr.trans F1 (hf2.weaken (fun τ z => (⟨by omega, by omega⟩ : zTZ τ)))
  have e02 := hP2.2.2.2.1 rfl
  rw [e02] at h2
  have hs2 := h2.2.1
  have hb1 : b2 = 1 := by
    rcases sPO_end hP2 hb2 with ⟨z, -⟩ | ⟨-, z⟩
    · exact z
    · rw [hF] at z; cases z
  subst hb1
  refine v_aload_n dX4_load_10 rfl rfl ?_
  refine v_getfield fX4_166 dX4_load_11 (by assumption) (by rfl) ?_
  rw [a62]
  refine v_if_ne 23 dX4_load_14 (by decide) (fun b14 => ?_) (fun b14 => ?_)
  · rw [show (0 : Int32) = nI 0 from rfl] at b14
    rw [nI_eq (by omega) (by omega)] at b14
    refine v_aload_n dX4_load_23 rfl rfl ?_
    refine v_callV0 kX4_121 gi_X4_saves ge_X4_saves rfl dX4_load_24 (by assumption) (c_saves h2 k2 O2) rfl rfl (by decide) (Nat.le_of_ble_eq_true rfl) (fun f3 m hc3 => ?_)
    obtain ⟨⟨w3, h3, hk0, k3, O3, hf3⟩, rfl⟩ := hc3
    have t3 := (hk0 0 (by decide)).trans t2
    have l3 := (hk0 2 (by decide)).trans l2
    have F3 := zFr.trans F2 hf3
    have ho3 := h3.1
    have hs3 := h3.2.1
    refine v_aload_n dX4_load_27 rfl rfl ?_
    obtain ⟨-, -, -, -, g0, hg0⟩ := id O3
    refine v_callV0 kX4_150 gi_X4_keepsGreys ge_X4_keepsGreys rfl dX4_load_28 (by assumption) (c_keepsGreys h3 hg0) rfl rfl (by decide) (Nat.le_of_ble_eq_true rfl) (fun f4 m hc4 => ?_)
    obtain ⟨⟨gg, hgg, hgv, hf4⟩, rfl⟩ := hc4
    have h4 := MX.fr7 h3 hf4 (by omega)
    have O4 : zNO f4 B (sPK k) (sPM k sv σ) hsl sl L ch := by
      obtain ⟨⟨a1, g1, a2, a3⟩, ⟨g2, a4, a5⟩, ⟨g3, a6, a7⟩, ⟨a8, g4, a9, a10⟩, -⟩ := id O3
      exact ⟨⟨a1, g1, hf4 _ _ _ a2 (by omega), a3⟩, ⟨g2, hf4 _ _ _ a4 (by omega), a5⟩, ⟨g3, hf4 _ _ _ a6 (by omega), a7⟩, ⟨a8, g4, hf4 _ _ _ a9 (by omega), a10⟩, gg, hgg⟩
    have F4 := zFr.trans F3 (hf4.weaken (fun τ e => (⟨by omega, by omega⟩ : zTZ τ)))
    have ho4 := h4.1
    have hs4 := h4.2.1
    refine v_aload_n dX4_load_31 rfl rfl ?_
    refine v_iconst (nI 1) dX4_load_32 (by decide) ?_
    obtain ⟨-, -, -, ⟨-, gb5, hbf5, hgb5⟩, -⟩ := id O4
    refine v_callV0 kX4_184 gi_X4_readsAll ge_X4_readsAll rfl dX4_load_33 (by assumption) (c_readsAll h4 l3 hbf5 (fun i hi => ⟨hgb5 i hi, hch i hi⟩) hL60 (e := 1) (by omega)) rfl rfl (by decide) (Nat.le_of_ble_eq_true rfl) (fun f5 m hc5 => ?_)
    obtain ⟨⟨w5, σ5, p5, b5, h5, W5, a55, a65, hf5, hP5, hb5⟩, rfl⟩ := hc5
    have ho5 := h5.1
    have t5 := (W5 0 (by decide) (by decide)).trans t3
    have k5 := (W5 1 (by decide) (by decide)).trans k3
    have l5 := (W5 2 (by decide) (by decide)).trans l3
    have O5 := zNO.fr O4 hf5 (by omega)
    have F5 := zFr.trans F4 (hf5.weaken (fun τ z => (⟨by omega, by omega⟩ : zTZ τ)))
    have hs5 := h5.2.1
    have hgg := hf5 _ _ _ hgg (by omega)
    have hnew : ∀ q, q < 144 → σ5 (616 + q) = (sTl ch (rOf σ 7) L).2.2.2 q := fun q hq => by
      rcases hP5.2.2.2.2 with ⟨z1, -, -, z4⟩ | ⟨z1, z2, z3⟩
      · have e := hb5 z1
        rw [e] at z4
        exact z4 rfl q hq
      · rcases sPO_end hP5 hb5 with ⟨y1, -⟩ | ⟨-, y⟩
        · omega
        · rw [hF] at y; cases y
    have hlo : ∀ j, j < 616 ∨ 760 ≤ j → σ5 j = σ j := hP5.2.2.1
    have hE : ∀ n, n ≤ 200 → zEQ n (zset (rOf σ) 7 (sTl ch (rOf σ 7) L).2.2.2) (rOf σ5) := fun n hn => ⟨fun i hi => (hlo i (by omega)).symm, fun i hi => ⟨(hlo (9 + 2 * i) (by omega)).symm, (hlo (9 + 2 * i + 1) (by omega)).symm, (hlo (6 + i) (by omega)).symm⟩, fun c hc => ⟨(hlo (16 + 3 * c) (by omega)).symm, (hlo (16 + 3 * c + 1) (by omega)).symm, (hlo (16 + 3 * c + 2) (by omega)).symm⟩, fun q hq => ⟨(hnew q hq).symm, (hlo (760 + q) (by omega)).symm⟩⟩
    refine v_aload_n dX4_load_36 rfl rfl ?_
    refine v_iconst (nI 0) dX4_load_37 (by decide) ?_
    refine v_putfieldX fX4_160 dX4_load_38 (by assumption) rfl rfl (Nat.le_of_ble_eq_true rfl) (fun f6 hp6 => ?_)
    obtain ⟨h6, hf6⟩ := MX.put (w' := zUp w5 2 (nI 0)) (f0 := f5) h5 hp6 rfl zFr.refl
    obtain ⟨w6, ew6⟩ : ∃ w9, w9 = zUp w5 2 (nI 0) := ⟨_, rfl⟩
    rw [← ew6] at h6
    clear hp6
    have ho6 := h6.1
    have hs6 := h6.2.1
    have t6 := (show w6 0 = w5 0 from by rw [ew6]; rfl).trans t5
    have k6 := (show w6 1 = w5 1 from by rw [ew6]; rfl).trans k5
    have l6 : w6 2 = nI 0 := by rw [ew6]; rfl
    have O6 := zNO.fr O5 hf6 (by intro τ h; rcases h with h | h | h | h <;> omega)
    have F6 := zFr.trans F5 (zFr.weaken hf6 zTYZ)
    replace O6 := O6.nobuf
    refine v_iconst (nI 0) dX4_load_41 (by decide) ?_
    refine v_istore_n dX4_load_42 rfl (by decide) ?_
    refine v_iconst (nI 0) dX4_load_43 (by decide) ?_
    refine v_istore_n dX4_load_44 rfl (by decide) ?_
    have hgg := hf6 _ _ _ hgg (by intro z; rcases z with z | z | z | z <;> omega)
    have ll : ∀ (kk i : Nat), i + kk = 144 → zV G yX4_load cX4_load 3 (some .int) 9 45 [(0, .ref o), (1, .int (nI (sDf (sTl ch (rOf σ 7) L).2.2.2 (rOf σ 7) i))), (2, .int (nI i))] [] (f6, m) (zD (some (.int (nI (sDf (sTl ch (rOf σ 7) L).2.2.2 (rOf σ 7) 144)))) (fun f' m' => zNP f o B hh mr 0 0 (sPK k) (sPM k sv σ) hsl sl 0 ch (fun σ' => (∀ n, n ≤ 200 → zEQ n (zset (rOf σ) 7 (sTl ch (rOf σ 7) L).2.2.2) (rOf σ')) ∧ σ' 15 = σ 15) f' ∧ m' = m)) := by
      intro kk
      induction kk with
      | zero =>
        intro i hi
        refine v_iload_n dX4_load_45 rfl rfl ?_
        refine v_sipush (nI 144) dX4_load_46 (by decide) ?_
        refine v_icmp_ge 85 dX4_load_49 (by decide) (fun b49 => ?_) (fun b49 => ?_)
        · rw [nI_leI (by omega) (by omega)] at b49
          refine v_iload_n dX4_load_85 rfl rfl ?_
          exact v_ireturn dX4_load_86 rfl ⟨by rw [show i = 144 from by omega], ⟨σ5, mr, by omega, ⟨w6, h6, t6, k6, l6, O6⟩, ⟨hE, hlo 15 (by omega)⟩, F6⟩, rfl⟩
        · rw [nI_leI (by omega) (by omega)] at b49
          omega
      | succ kk ih =>
        intro i hi
        have hi9 : i < 144 := by omega
        refine v_iload_n dX4_load_45 rfl rfl ?_
        refine v_sipush (nI 144) dX4_load_46 (by decide) ?_
        refine v_icmp_ge 85 dX4_load_49 (by decide) (fun b49 => ?_) (fun b49 => ?_)
        · rw [nI_leI (by omega) (by omega)] at b49
          omega
        · rw [nI_leI (by omega) (by omega)] at b49
          refine v_iload_n dX4_load_52 rfl rfl ?_
          refine v_aload_n dX4_load_53 rfl rfl ?_
          refine v_getfield fX4_32 dX4_load_54 (by assumption) (by rfl) ?_
          refine v_iload_n dX4_load_57 rfl rfl ?_
          refine v_iaload dX4_load_58 (by assumption) (vp_in_nI (by omega) (by omega)) ?_
          rw [nI_clamp (n := i) (by omega), hgv i hi9]
          refine v_aload_n dX4_load_59 rfl rfl ?_
          refine v_getfield fX4_7 dX4_load_60 (by assumption) (by rfl) ?_
          refine v_sipush (nI 616) dX4_load_63 (by decide) ?_
          refine v_iload_n dX4_load_66 rfl rfl ?_
          refine v_iadd dX4_load_67 ?_
          rw [nI_add 616 i]
          refine v_iaload dX4_load_68 (by assumption) (vp_in_nI (by omega) (by omega)) ?_
          rw [nI_clamp (n := 616 + i) (by omega), hnew i hi9]
          refine v_icmp_eq 76 dX4_load_69 (by decide) (fun b69 => ?_) (fun b69 => ?_)
          · refine v_iconst (nI 0) dX4_load_76 (by decide) ?_
            refine v_iadd dX4_load_77 ?_
            rw [nI_add (sDf (sTl ch (rOf σ 7) L).2.2.2 (rOf σ 7) i) 0]
            refine v_istore_n dX4_load_78 rfl (by decide) ?_
            refine v_iincN dX4_load_79 rfl (by decide) ?_
            refine v_goto 45 dX4_load_82 (by decide) ?_
            exact v_loc (lv' := [(0, .ref o), (1, .int (nI (sDf (sTl ch (rOf σ 7) L).2.2.2 (rOf σ 7) (i + 1)))), (2, .int (nI (i + 1)))]) ⟨rfl, zlkE rfl (by show _ = nI (sDf (sTl ch (rOf σ 7) L).2.2.2 (rOf σ 7) i + (if (sTl ch (rOf σ 7) L).2.2.2 i = σ (616 + i) then 0 else 1)); first | rw [if_pos b69.symm] | rw [if_neg (fun z => b69 z.symm)]), rfl, trivial⟩ (ih (i + 1) (by omega))
          · refine v_iconst (nI 1) dX4_load_72 (by decide) ?_
            refine v_goto 77 dX4_load_73 (by decide) ?_
            refine v_iadd dX4_load_77 ?_
            rw [nI_add (sDf (sTl ch (rOf σ 7) L).2.2.2 (rOf σ 7) i) 1]
            refine v_istore_n dX4_load_78 rfl (by decide) ?_
            refine v_iincN dX4_load_79 rfl (by decide) ?_
            refine v_goto 45 dX4_load_82 (by decide) ?_
            exact v_loc (lv' := [(0, .ref o), (1, .int (nI (sDf (sTl ch (rOf σ 7) L).2.2.2 (rOf σ 7) (i + 1)))), (2, .int (nI (i + 1)))]) ⟨rfl, zlkE rfl (by show _ = nI (sDf (sTl ch (rOf σ 7) L).2.2.2 (rOf σ 7) i + (if (sTl ch (rOf σ 7) L).2.2.2 i = σ (616 + i) then 0 else 1)); first | rw [if_pos b69.symm] | rw [if_neg (fun z => b69 z.symm)]), rfl, trivial⟩ (ih (i + 1) (by omega))
    exact v_loc (lv' := [(0, .ref o), (1, .int (nI (sDf (sTl ch (rOf σ 7) L).2.2.2 (rOf σ 7) 0))), (2, .int (nI 0))]) ⟨rfl, rfl, rfl, trivial⟩ (ll 144 0 (by omega))
  · rw [show (0 : Int32) = nI 0 from rfl] at b14
    rw [nI_eq (by omega) (by omega)] at b14
    omega
