theorem sg_in {L p a : Nat} {ch : Nat → Nat} (h0 : 0 < a) (h : a ≤ sg L ch p) : p < L ∧ sg L ch p = ch p := by
  unfold sg at h ⊢
  by_cases e : p < L
  · exact ⟨e, if_pos e⟩
  · rw [if_neg e] at h; omega
theorem sg_ch {L p : Nat} {ch : Nat → Nat} (h : p < L) : sg L ch p = ch p := if_pos h
abbrev zTP : Nat → Prop := fun τ => τ = 700 ∨ τ = 701
/-- behind a row: place p', b: well or not -/
def sPO (L e : Nat) (ch : Nat → Nat) (g0 : Nat → Int32) (σ σ' : Nat → Int32) (p b : Nat) : Prop :=
  p ≤ L ∧ (∀ i, i ≤ p → sRun ch i ≠ 16) ∧ (∀ j, j < 616 ∨ 760 ≤ j → σ' j = σ j) ∧ (e = 0 → σ' = σ) ∧
  ((b = 1 ∧ sEnd (sRun ch p) = true ∧ (12 ≤ sRun ch p ∨ p = L ∨ sIsD (ch p) = false) ∧ (e = 1 → ∀ j, j < 144 → σ' (616 + j) = (sTl ch g0 p).2.2.2 j)) ∨
   (b = 0 ∧ (p = L → sEnd (sRun ch p) = false) ∧ (p < L → sRun ch (p + 1) = 16)))
theorem sD_in {c : Nat} : sIsD c = true ↔ 48 ≤ c ∧ c ≤ 57 := ⟨sIsD_r, fun h => decide_eq_true h⟩
theorem sD_no {c : Nat} (h : ¬ (48 ≤ c ∧ c ≤ 57)) : sIsD c = false := decide_eq_false h
theorem sL_no {c : Nat} (h : ¬ (97 ≤ c ∧ c ≤ 108)) : sIsL c = false := decide_eq_false h
theorem run_s {ch : Nat → Nat} {i st : Nat} (h : sRun ch i = st) : sRun ch (i + 1) = sSb st (ch i) := by rw [← h]; rfl
theorem run_16 {ch : Nat → Nat} {p : Nat} (h : ∀ i, i ≤ p → sRun ch i ≠ 16) (h2 : sRun ch (p + 1) ≠ 16) : ∀ i, i ≤ p + 1 → sRun ch i ≠ 16 := fun i hi => by
  rcases Nat.lt_or_ge i (p + 1) with z | z
  · exact h i (by omega)
  · rw [show i = p + 1 by omega]; exact h2
/-- laysRow, laid or not -/
theorem c_laysRow_u {G : zW} {f : zHM} {m : Nat × Nat} {o mr : Nat} {B : Nat → Nat} {w : Nat → Int32} {hh : Int64} {σ : Nat → Int32} (h : MX f o B w hh σ mr) (a6 : w 6 = nI 1) {y a z e : Nat} {v : Int32} (hy : y < 12) (haz : a + z ≤ 12) (he : e < 2) : zM G yX4_laysRow cX4_laysRow 7 none 1 [.ref o, .int (nI y), .int (nI a), .int (nI z), .int v, .int (nI e)] (f, m) (zD none (fun f' m' => (∃ σ', MX f' o B w hh σ' mr ∧ (e = 0 → σ' = σ) ∧ (e = 1 → ∀ j, σ' j = if 616 + 12 * y + a ≤ j ∧ j < 616 + 12 * y + a + z then v else σ j) ∧ (∀ j, j < 616 ∨ 760 ≤ j → σ' j = σ j) ∧ zFr (fun τ => τ = 701) f f') ∧ m' = m)) := by
  rcases Nat.lt_or_ge e 1 with h0 | h1
  · have e0 : e = 0 := by omega
    refine zM.mono ?_ (c_laysRow_e h a6 (by omega) (by omega) e0)
    rintro q h9 ⟨q1, q2, q3⟩
    exact ⟨q1, ⟨σ, by rw [q2]; exact h, fun _ => rfl, fun z => by omega, fun _ _ => rfl, by rw [q2]; exact zFr.refl⟩, q3⟩
  · have e1 : e = 1 := by omega
    subst e1
    refine zM.mono ?_ (c_laysRow h a6 hy haz)
    rintro q h9 ⟨q1, ⟨σ', q2, q3, q4⟩, q5⟩
    exact ⟨q1, ⟨σ', q2, fun z => by omega, fun _ => q3, fun j hj => by rw [q3 j, if_neg (by omega)], q4⟩, q5⟩
set_option maxRecDepth 10000 in
set_option maxHeartbeats 1000000 in
theorem c_readsRow {G : zW} {f : zHM} {m : Nat × Nat} {o mr : Nat} {B : Nat → Nat} {w : Nat → Int32} {hh : Int64} {σ : Nat → Int32} (h : MX f o B w hh σ mr) {L p : Nat} {ch : Nat → Nat} {gb : Nat → Int32} (a5 : w 5 = nI p) (a2 : w 2 = nI L) (hbf : f (B 4) = some (705, .inl (0, 60, .inl gb))) (hgb : ∀ i, i < L → gb i = nI (ch i) ∧ ch i < 128) (hL : L ≤ 60) (hpL : p ≤ L) (a6 : w 6 = nI 1) {e : Nat} (he : e < 2) {g0 : Nat → Int32} (hrun : sRun ch p = 13) (hok : ∀ i, i ≤ p → sRun ch i ≠ 16) (hT : e = 1 → ∀ j, j < 144 → σ (616 + j) = (sTl ch g0 p).2.2.2 j) : zM G yX4_readsRow cX4_readsRow 6 none 3 [.ref o, .int (nI e)] (f, m) (zD none (fun f' m' => (∃ w' σ' p' b, MX f' o B w' hh σ' mr ∧ wP w w' ∧ w' 5 = nI p' ∧ w' 6 = nI b ∧ zFr zTP f f' ∧ p ≤ p' ∧ sPO L e ch g0 σ σ' p' b) ∧ m' = m)) := by
  refine zM.of (by decide) (Nat.le_of_ble_eq_true rfl) ?_
  have ho := h.1
  have hs := h.2.1
  obtain ⟨g9, s9, k9, b9, hT0, hTg⟩ : ∃ (g9 : Nat → Int32) (s9 k9 : Nat) (b9 : Bool), sTl ch g0 p = (s9, k9, b9, g9) ∧ (e = 1 → ∀ j, j < 144 → σ (616 + j) = g9 j) := ⟨(sTl ch g0 p).2.2.2, _, _, _, rfl, hT⟩
  have loop : 97 ≤ ch p ∧ ch p ≤ 108 → ∀ (kk x : Nat), x + kk = 12 → 1 ≤ x → ∀ (fx : zHM) (wx : Nat → Int32) (σx gx : Nat → Int32), MX fx o B wx hh σx mr → wP w wx → wx 5 = nI (p + 1 + x) → wx 6 = nI 1 → zFr zTP f fx → p + 1 + x ≤ L → sRun ch (p + 1 + x) = x → (∀ i, i ≤ p + 1 + x → sRun ch i ≠ 16) → (∀ j, j < 616 ∨ 760 ≤ j → σx j = σ j) → (e = 0 → σx = σ) → sTl ch g0 (p + 1 + x) = ((ch p - 97) * 12, x, false, gx) → (e = 1 → ∀ j, j < 144 → σx (616 + j) = gx j) → zV G yX4_readsRow cX4_readsRow 6 none 3 76 [(0, .ref o), (1, .int (nI e)), (2, .int (nI (ch p - 97))), (4, .int (nI x))] [] (fx, m) (zD none (fun f' m' => (∃ w' σ' p' b, MX f' o B w' hh σ' mr ∧ wP w w' ∧ w' 5 = nI p' ∧ w' 6 = nI b ∧ zFr zTP f f' ∧ p ≤ p' ∧ sPO L e ch g0 σ σ' p' b) ∧ m' = m)) := by
    intro hcA kk
    induction kk with
    | zero =>
      intro x hxx hx1 fx wx σx gx hx Wx a5x a6x Fx plx rx nx zlx z0x tx zgx
      have hox := hx.1
      have hsx := hx.2.1
      have a2x := (Wx 2 (by decide) (by decide)).trans a2
      have bfx := Fx _ _ _ hbf (by omega)
      refine v_iload dX4_readsRow_76 rfl ?_
      refine v_bipush (nI 12) dX4_readsRow_78 (by decide) ?_
      refine v_icmp_ge 131 dX4_readsRow_80 (by decide) (fun b80 => ?_) (fun b80 => ?_)
      · rw [nI_leI (by omega) (by omega)] at b80
        exact v_return dX4_readsRow_131 rfl ⟨rfl, ⟨wx, σx, (p + 1 + x), 1, hx, Wx, a5x, a6x, Fx, by omega, ⟨plx, nx, zlx, z0x, Or.inl ⟨rfl, by rw [rx]; exact decide_eq_true (Or.inr ⟨by omega, by omega⟩), Or.inl (by rw [rx]; omega), fun he1 j9 hj9 => by rw [tx]; exact zgx he1 j9 hj9⟩⟩⟩, rfl⟩
      · rw [nI_leI (by omega) (by omega)] at b80
        omega
    | succ kk ih =>
      intro x hxx hx1 fx wx σx gx hx Wx a5x a6x Fx plx rx nx zlx z0x tx zgx
      have hox := hx.1
      have hsx := hx.2.1
      have a2x := (Wx 2 (by decide) (by decide)).trans a2
      have bfx := Fx _ _ _ hbf (by omega)
      refine v_iload dX4_readsRow_76 rfl ?_
      refine v_bipush (nI 12) dX4_readsRow_78 (by decide) ?_
      refine v_icmp_ge 131 dX4_readsRow_80 (by decide) (fun b80 => ?_) (fun b80 => ?_)
      · rw [nI_leI (by omega) (by omega)] at b80
        omega
      · rw [nI_leI (by omega) (by omega)] at b80
        refine v_aload_n dX4_readsRow_83 rfl rfl ?_
        refine v_getfield fX4_166 dX4_readsRow_84 (by assumption) (by rfl) ?_
        rw [a6x]
        refine v_if_eq 131 dX4_readsRow_87 (by decide) (fun b87 => ?_) (fun b87 => ?_)
        · rw [show (0 : Int32) = nI 0 from rfl] at b87
          rw [nI_eq (by omega) (by omega)] at b87
          omega
        · rw [show (0 : Int32) = nI 0 from rfl] at b87
          rw [nI_eq (by omega) (by omega)] at b87
          refine v_aload_n dX4_readsRow_90 rfl rfl ?_
          refine v_callVp kX4_170 gi_X4_sign ge_X4_sign rfl dX4_readsRow_91 (by assumption) (c_sign hx a5x a2x bfx hgb hL plx) rfl rfl (by decide) (Nat.le_of_ble_eq_true rfl) ?_
          refine v_bipush (nI 48) dX4_readsRow_94 (by decide) ?_
          refine v_bipush (nI 57) dX4_readsRow_96 (by decide) ?_
          refine v_callSp kX4_42 gs_X4_in dX4_readsRow_98 c_in rfl rfl (by decide) (Nat.le_of_ble_eq_true rfl) ?_
          have hsg := sg_lt (p := p + 1 + x) hgb
          by_cases hdg : 48 ≤ sg L ch (p + 1 + x) ∧ sg L ch (p + 1 + x) ≤ 57
          · rw [inN_y hdg.1 hdg.2 (by omega)]
            refine v_if_eq 131 dX4_readsRow_101 (by decide) (fun z => absurd z (by decide)) (fun _ => ?_)
            refine v_aload_n dX4_readsRow_104 rfl rfl ?_
            refine v_bipush (nI 48) dX4_readsRow_105 (by decide) ?_
            refine v_bipush (nI 57) dX4_readsRow_107 (by decide) ?_
            obtain ⟨plD, sgD⟩ := sg_in (by omega) hdg.1
            refine v_callV1 kX4_173 gi_X4_takes ge_X4_takes rfl dX4_readsRow_109 (by assumption) (c_takes_y hx a5x a2x bfx hgb hL plx a6x (by omega) (by omega) hdg.1 hdg.2) rfl rfl (by decide) (Nat.le_of_ble_eq_true rfl) (fun f21 m hc21 => ?_)
            obtain ⟨⟨w21, h21, W21, a521, a621, F21⟩, rfl⟩ := hc21
            have ho21 := h21.1
            have hs21 := h21.2.1
            have a221 := (W21 2 (by decide) (by decide)).trans a2x
            have bf21 := F21 _ _ _ bfx (by omega)
            replace W21 := wP.trans Wx W21
            replace F21 := zFr.trans Fx (F21.weaken (fun τ z => (Or.inl z : zTP τ)))
            rw [sgD] at hdg ⊢
            have hdD : sIsD (ch (p + 1 + x)) = true := sD_in.mpr hdg
            have rs : sRun ch (p + 1 + x + 1) = x + 1 := by rw [run_s rx, sSb_D (by omega) hdD, if_neg (by omega), if_neg (by omega)]
            have ns := run_16 nx (by rw [rs]; omega)
            have ts := sTl_D tx (sL_no (by omega)) (by omega) (fun z => absurd z.2 (by decide)) ⟨hdD, by omega⟩
            refine v_istore dX4_readsRow_112 (by decide) ?_
            refine v_aload_n dX4_readsRow_114 rfl rfl ?_
            refine v_iload_n dX4_readsRow_115 rfl rfl ?_
            refine v_iload dX4_readsRow_116 rfl ?_
            refine v_iconst (nI 1) dX4_readsRow_118 (by decide) ?_
            refine v_iload dX4_readsRow_119 rfl ?_
            refine v_iload_n dX4_readsRow_121 rfl rfl ?_
            refine v_callV0 kX4_176 gi_X4_laysRow ge_X4_laysRow rfl dX4_readsRow_122 (by assumption) (c_laysRow_u h21 a621 (by omega) (by omega) he) rfl rfl (by decide) (Nat.le_of_ble_eq_true rfl) (fun f22 m hc22 => ?_)
            obtain ⟨⟨σ22, h22, z022, z122, zl22, F22⟩, rfl⟩ := hc22
            have ho22 := h22.1
            have hs22 := h22.2.1
            have bf22 := F22 _ _ _ bf21 (by omega)
            replace F22 := zFr.trans F21 (F22.weaken (fun τ z => (Or.inr z : zTP τ)))
            refine v_iincN dX4_readsRow_125 rfl (by decide) ?_
            refine v_goto 76 dX4_readsRow_128 (by decide) ?_
            exact v_loc (lv' := [(0, .ref o), (1, .int (nI e)), (2, .int (nI (ch p - 97))), (4, .int (nI (x + 1)))]) ⟨rfl, rfl, rfl, rfl, trivial⟩ (ih (x + 1) (by omega) (by omega) f22 w21 σ22 (fun j => if j = (ch p - 97) * 12 + x then nI (ch (p + 1 + x) - 48) else gx j) h22 W21 a521 a621 F22 (by omega) rs ns (fun j hj => (zl22 j hj).trans (zlx j hj)) (fun z => (z022 z).trans (z0x z)) ts (fun he1 j9 hj9 => by
              rw [z122 he1 (616 + j9)]
              show _ = (if j9 = (ch p - 97) * 12 + x then nI (ch (p + 1 + x) - 48) else gx j9)
              by_cases z : j9 = (ch p - 97) * 12 + x
              · rw [if_pos z, if_pos (by omega)]
              · rw [if_neg z, if_neg (by omega), zgx he1 j9 hj9]))
          · rw [inN_n hdg (by omega) (by omega) (by omega)]
            refine v_if_eq 131 dX4_readsRow_101 (by decide) (fun _ => ?_) (fun z => absurd rfl z)
            exact v_return dX4_readsRow_131 rfl ⟨rfl, ⟨wx, σx, (p + 1 + x), 1, hx, Wx, a5x, a6x, Fx, by omega, ⟨plx, nx, zlx, z0x, Or.inl ⟨rfl, by rw [rx]; exact decide_eq_true (Or.inr ⟨by omega, by omega⟩), Or.inr ((Nat.lt_or_ge (p + 1 + x) L).elim (fun hl => Or.inr (sD_no (by rw [sg_ch hl] at hdg; exact hdg))) (fun hl => Or.inl (by omega))), fun he1 j9 hj9 => by rw [tx]; exact zgx he1 j9 hj9⟩⟩⟩, rfl⟩
  refine v_aload_n dX4_readsRow_0 rfl rfl ?_
  refine v_bipush (nI 97) dX4_readsRow_1 (by decide) ?_
  refine v_bipush (nI 108) dX4_readsRow_3 (by decide) ?_
  by_cases hcA : 97 ≤ sg L ch p ∧ sg L ch p ≤ 108
  · obtain ⟨plA, sgA⟩ := sg_in (by omega) hcA.1
    refine v_callV1 kX4_173 gi_X4_takes ge_X4_takes rfl dX4_readsRow_5 (by assumption) (c_takes_y h a5 a2 hbf hgb hL hpL a6 (by omega) (by omega) hcA.1 hcA.2) rfl rfl (by decide) (Nat.le_of_ble_eq_true rfl) (fun f1 m hc1 => ?_)
    obtain ⟨⟨w1, h1, W1, a51, a61, F1⟩, rfl⟩ := hc1
    have ho1 := h1.1
    have hs1 := h1.2.1
    have a21 := (W1 2 (by decide) (by decide)).trans a2
    have bf1 := F1 _ _ _ hbf (by omega)
    replace W1 := wP.trans (wP.refl w) W1
    replace F1 := zFr.trans zFr.refl (F1.weaken (fun τ z => (Or.inl z : zTP τ)))
    rw [sgA] at hcA ⊢
    have hlA : sIsL (ch p) = true := decide_eq_true hcA
    have hsg1 := sg_lt (p := p + 1) hgb
    have r1 : sRun ch (p + 1) = 0 := by rw [run_s hrun, sSb_L rfl, if_pos hlA]
    have n1 := run_16 hok (by rw [r1]; decide)
    have t1 := sTl_L hT0 hlA
    refine v_istore_n dX4_readsRow_8 rfl (by decide) ?_
    refine v_aload_n dX4_readsRow_9 rfl rfl ?_
    refine v_getfield fX4_166 dX4_readsRow_10 (by assumption) (by rfl) ?_
    rw [a61]
    refine v_if_eq 55 dX4_readsRow_13 (by decide) (fun b13 => ?_) (fun b13 => ?_)
    · rw [show (0 : Int32) = nI 0 from rfl] at b13
      rw [nI_eq (by omega) (by omega)] at b13
      omega
    · rw [show (0 : Int32) = nI 0 from rfl] at b13
      rw [nI_eq (by omega) (by omega)] at b13
      refine v_aload_n dX4_readsRow_16 rfl rfl ?_
      refine v_callVp kX4_170 gi_X4_sign ge_X4_sign rfl dX4_readsRow_17 (by assumption) (c_sign h1 a51 a21 bf1 hgb hL (show (p + 1) ≤ L by omega)) rfl rfl (by decide) (Nat.le_of_ble_eq_true rfl) ?_
      refine v_bipush (nI 42) dX4_readsRow_20 (by decide) ?_
      refine v_icmp_ne 55 dX4_readsRow_22 (by decide) (fun b22 => ?_) (fun b22 => ?_)
      · rw [nI_eq (by omega) (by omega)] at b22
        refine v_aload_n dX4_readsRow_55 rfl rfl ?_
        refine v_bipush (nI 48) dX4_readsRow_56 (by decide) ?_
        refine v_bipush (nI 57) dX4_readsRow_58 (by decide) ?_
        by_cases hcC : 48 ≤ sg L ch (p + 1) ∧ sg L ch (p + 1) ≤ 57
        · obtain ⟨plC, sgC⟩ := sg_in (by omega) hcC.1
          refine v_callV1 kX4_173 gi_X4_takes ge_X4_takes rfl dX4_readsRow_60 (by assumption) (c_takes_y h1 a51 a21 bf1 hgb hL (show (p + 1) ≤ L by omega) a61 (by omega) (by omega) hcC.1 hcC.2) rfl rfl (by decide) (Nat.le_of_ble_eq_true rfl) (fun f2 m hc2 => ?_)
          obtain ⟨⟨w2, h2, W2, a52, a62, F2⟩, rfl⟩ := hc2
          have ho2 := h2.1
          have hs2 := h2.2.1
          have a22 := (W2 2 (by decide) (by decide)).trans a21
          have bf2 := F2 _ _ _ bf1 (by omega)
          replace W2 := wP.trans W1 W2
          replace F2 := zFr.trans F1 (F2.weaken (fun τ z => (Or.inl z : zTP τ)))
          rw [sgC] at hcC ⊢
          have hdC : sIsD (ch (p + 1)) = true := sD_in.mpr hcC
          have r2 : sRun ch (p + 1 + 1) = 1 := by rw [run_s r1, sSb_D (by decide) hdC]; rfl
          have n2 := run_16 n1 (by rw [r2]; decide)
          have t2 := sTl_D t1 (sL_no (by omega)) (by omega) (fun z => absurd z.2 (by decide)) ⟨hdC, by omega⟩
          refine v_istore_n dX4_readsRow_63 rfl (by decide) ?_
          refine v_aload_n dX4_readsRow_64 rfl rfl ?_
          refine v_iload_n dX4_readsRow_65 rfl rfl ?_
          refine v_iconst (nI 0) dX4_readsRow_66 (by decide) ?_
          refine v_iconst (nI 1) dX4_readsRow_67 (by decide) ?_
          refine v_iload_n dX4_readsRow_68 rfl rfl ?_
          refine v_iload_n dX4_readsRow_69 rfl rfl ?_
          refine v_callV0 kX4_176 gi_X4_laysRow ge_X4_laysRow rfl dX4_readsRow_70 (by assumption) (c_laysRow_u h2 a62 (by omega) (by omega) he) rfl rfl (by decide) (Nat.le_of_ble_eq_true rfl) (fun f3 m hc3 => ?_)
          obtain ⟨⟨σ3, h3, z03, z13, zl3, F3⟩, rfl⟩ := hc3
          have ho3 := h3.1
          have hs3 := h3.2.1
          have bf3 := F3 _ _ _ bf2 (by omega)
          replace F3 := zFr.trans F2 (F3.weaken (fun τ z => (Or.inr z : zTP τ)))
          refine v_iconst (nI 1) dX4_readsRow_73 (by decide) ?_
          refine v_istore dX4_readsRow_74 (by decide) ?_
          exact v_loc (lv' := [(0, .ref o), (1, .int (nI e)), (2, .int (nI (ch p - 97))), (4, .int (nI 1))]) ⟨rfl, rfl, rfl, rfl, trivial⟩ (loop hcA 11 1 (by omega) (by omega) f3 w2 σ3 _ h3 W2 a52 a62 F3 (by omega) r2 n2 zl3 z03 t2 (fun he1 j9 hj9 => by
            rw [z13 he1 (616 + j9)]
            show _ = (if j9 = (ch p - 97) * 12 + 0 then nI (ch (p + 1) - 48) else g9 j9)
            by_cases z : j9 = (ch p - 97) * 12 + 0
            · rw [if_pos z, if_pos (by omega)]
            · rw [if_neg z, if_neg (by omega), hTg he1 j9 hj9]))
        · refine v_callV1 kX4_173 gi_X4_takes ge_X4_takes rfl dX4_readsRow_60 (by assumption) (c_takes_n h1 a51 a21 bf1 hgb hL (show (p + 1) ≤ L by omega) a61 (by omega) (by omega) hcC) rfl rfl (by decide) (Nat.le_of_ble_eq_true rfl) (fun f2 m hc2 => ?_)
          obtain ⟨⟨w2, h2, W2, a52, a62, F2⟩, rfl⟩ := hc2
          have ho2 := h2.1
          have hs2 := h2.2.1
          have a22 := (W2 2 (by decide) (by decide)).trans a21
          have bf2 := F2 _ _ _ bf1 (by omega)
          replace W2 := wP.trans W1 W2
          replace F2 := zFr.trans F1 (F2.weaken (fun τ z => (Or.inl z : zTP τ)))
          refine v_istore_n dX4_readsRow_63 rfl (by decide) ?_
          refine v_aload_n dX4_readsRow_64 rfl rfl ?_
          refine v_iload_n dX4_readsRow_65 rfl rfl ?_
          refine v_iconst (nI 0) dX4_readsRow_66 (by decide) ?_
          refine v_iconst (nI 1) dX4_readsRow_67 (by decide) ?_
          refine v_iload_n dX4_readsRow_68 rfl rfl ?_
          refine v_iload_n dX4_readsRow_69 rfl rfl ?_
          refine v_callV0p kX4_176 gi_X4_laysRow ge_X4_laysRow rfl dX4_readsRow_70 (by assumption) (c_laysRow_b h2 a62 (by omega) (by omega) he) rfl rfl (by decide) (Nat.le_of_ble_eq_true rfl) ?_
          refine v_iconst (nI 1) dX4_readsRow_73 (by decide) ?_
          refine v_istore dX4_readsRow_74 (by decide) ?_
          refine v_iload dX4_readsRow_76 rfl ?_
          refine v_bipush (nI 12) dX4_readsRow_78 (by decide) ?_
          refine v_icmp_ge 131 dX4_readsRow_80 (by decide) (fun b80 => ?_) (fun b80 => ?_)
          · rw [nI_leI (by omega) (by omega)] at b80
            omega
          · rw [nI_leI (by omega) (by omega)] at b80
            refine v_aload_n dX4_readsRow_83 rfl rfl ?_
            refine v_getfield fX4_166 dX4_readsRow_84 (by assumption) (by rfl) ?_
            rw [a62]
            refine v_if_eq 131 dX4_readsRow_87 (by decide) (fun b87 => ?_) (fun b87 => ?_)
            · rw [show (0 : Int32) = nI 0 from rfl] at b87
              rw [nI_eq (by omega) (by omega)] at b87
              exact v_return dX4_readsRow_131 rfl ⟨rfl, ⟨w2, σ, (p + 1), 0, h2, W2, a52, a62, F2, by omega, ⟨by omega, n1, fun _ _ => rfl, fun _ => rfl, Or.inr ⟨rfl, fun _ => by rw [r1]; decide, fun hl => by rw [run_s r1]; rw [sg_ch hl] at hcC b22; exact sSb_16 (by decide) (sD_no hcC) (fun z => b22 z.1) (fun z => absurd z.2 (by decide))⟩⟩⟩, rfl⟩
            · rw [show (0 : Int32) = nI 0 from rfl] at b87
              rw [nI_eq (by omega) (by omega)] at b87
              omega
      · rw [nI_eq (by omega) (by omega)] at b22
        obtain ⟨pl2, sg2⟩ := sg_in (L := L) (ch := ch) (p := p + 1) (a := 42) (by omega) (by omega)
        have c42 : ch (p + 1) = 42 := by rw [← sg2]; exact b22
        have r2 : sRun ch (p + 1 + 1) = 14 := by rw [run_s r1, sSb_14 (by decide) (sD_no (by omega)) ⟨c42, rfl⟩]
        have n2 := run_16 n1 (by rw [r2]; decide)
        have t2 := sTl_S t1 (sL_no (by omega)) c42
        refine v_aload_n dX4_readsRow_25 rfl rfl ?_
        refine v_dup dX4_readsRow_26 rfl ?_
        refine v_getfield fX4_163 dX4_readsRow_27 (by assumption) (by rfl) ?_
        rw [a51]
        refine v_iconst (nI 1) dX4_readsRow_30 (by decide) ?_
        refine v_iadd dX4_readsRow_31 ?_
        rw [nI_add (p + 1) 1]
        refine v_putfieldX fX4_163 dX4_readsRow_32 (by assumption) rfl rfl (Nat.le_of_ble_eq_true rfl) (fun f2 hp2 => ?_)
        obtain ⟨h2, -⟩ := MX.put (w' := zUp w1 5 (nI ((p + 1) + 1))) (f0 := f1) h1 hp2 rfl zFr.refl
        obtain ⟨w2, ew2⟩ : ∃ w9, w9 = zUp w1 5 (nI ((p + 1) + 1)) := ⟨_, rfl⟩
        rw [← ew2] at h2
        have ho2 := h2.1
        have hs2 := h2.2.1
        have a52 : w2 5 = nI ((p + 1) + 1) := by rw [ew2]; rfl
        have a62 := (show w2 6 = w1 6 from by rw [ew2]; rfl).trans a61
        have a22 := (show w2 2 = w1 2 from by rw [ew2]; rfl).trans a21
        have W2 : wP w w2 := fun i h5 h6 => (by rw [ew2]; exact if_neg h5 : w2 i = w1 i).trans (W1 i h5 h6)
        have F2 := zFr.put (T := zTP) F1 hp2 (Or.inl rfl)
        have bf2 := hp2.ne bf1 (by omega)
        clear hp2
        refine v_aload_n dX4_readsRow_35 rfl rfl ?_
        refine v_bipush (nI 48) dX4_readsRow_36 (by decide) ?_
        refine v_bipush (nI 57) dX4_readsRow_38 (by decide) ?_
        by_cases hcB : 48 ≤ sg L ch ((p + 1) + 1) ∧ sg L ch ((p + 1) + 1) ≤ 57
        · obtain ⟨plB, sgB⟩ := sg_in (by omega) hcB.1
          refine v_callV1 kX4_173 gi_X4_takes ge_X4_takes rfl dX4_readsRow_40 (by assumption) (c_takes_y h2 a52 a22 bf2 hgb hL (show ((p + 1) + 1) ≤ L by omega) a62 (by omega) (by omega) hcB.1 hcB.2) rfl rfl (by decide) (Nat.le_of_ble_eq_true rfl) (fun f3 m hc3 => ?_)
          obtain ⟨⟨w3, h3, W3, a53, a63, F3⟩, rfl⟩ := hc3
          have ho3 := h3.1
          have hs3 := h3.2.1
          have a23 := (W3 2 (by decide) (by decide)).trans a22
          have bf3 := F3 _ _ _ bf2 (by omega)
          replace W3 := wP.trans W2 W3
          replace F3 := zFr.trans F2 (F3.weaken (fun τ z => (Or.inl z : zTP τ)))
          rw [sgB] at hcB ⊢
          have hdB : sIsD (ch (p + 1 + 1)) = true := sD_in.mpr hcB
          have r3 : sRun ch (p + 1 + 1 + 1) = 15 := by rw [run_s r2, sSb_D (by decide) hdB]; rfl
          have n3 := run_16 n2 (by rw [r3]; decide)
          have t3 := sTl_A t2 (sL_no (by omega)) (by omega) ⟨hdB, rfl⟩
          refine v_istore_n dX4_readsRow_43 rfl (by decide) ?_
          refine v_aload_n dX4_readsRow_44 rfl rfl ?_
          refine v_iload_n dX4_readsRow_45 rfl rfl ?_
          refine v_iconst (nI 0) dX4_readsRow_46 (by decide) ?_
          refine v_bipush (nI 12) dX4_readsRow_47 (by decide) ?_
          refine v_iload_n dX4_readsRow_49 rfl rfl ?_
          refine v_iload_n dX4_readsRow_50 rfl rfl ?_
          refine v_callV0 kX4_176 gi_X4_laysRow ge_X4_laysRow rfl dX4_readsRow_51 (by assumption) (c_laysRow_u h3 a63 (by omega) (by omega) he) rfl rfl (by decide) (Nat.le_of_ble_eq_true rfl) (fun f4 m hc4 => ?_)
          obtain ⟨⟨σ4, h4, z04, z14, zl4, F4⟩, rfl⟩ := hc4
          have ho4 := h4.1
          have hs4 := h4.2.1
          have bf4 := F4 _ _ _ bf3 (by omega)
          replace F4 := zFr.trans F3 (F4.weaken (fun τ z => (Or.inr z : zTP τ)))
          exact v_return dX4_readsRow_54 rfl ⟨rfl, ⟨w3, σ4, (p + 1 + 1 + 1), 1, h4, W3, a53, a63, F4, by omega, ⟨by omega, n3, zl4, z04, Or.inl ⟨rfl, by rw [r3]; decide, Or.inl (by rw [r3]; decide), fun he1 j9 hj9 => by rw [t3, z14 he1 (616 + j9)]; show _ = (if (ch p - 97) * 12 ≤ j9 ∧ j9 < (ch p - 97) * 12 + 12 then nI (ch (p + 1 + 1) - 48) else g9 j9); by_cases z : (ch p - 97) * 12 ≤ j9 ∧ j9 < (ch p - 97) * 12 + 12; (rw [if_pos z, if_pos (by omega)]); (rw [if_neg z, if_neg (by omega), hTg he1 j9 hj9])⟩⟩⟩, rfl⟩
        · refine v_callV1 kX4_173 gi_X4_takes ge_X4_takes rfl dX4_readsRow_40 (by assumption) (c_takes_n h2 a52 a22 bf2 hgb hL (show ((p + 1) + 1) ≤ L by omega) a62 (by omega) (by omega) hcB) rfl rfl (by decide) (Nat.le_of_ble_eq_true rfl) (fun f3 m hc3 => ?_)
          obtain ⟨⟨w3, h3, W3, a53, a63, F3⟩, rfl⟩ := hc3
          have ho3 := h3.1
          have hs3 := h3.2.1
          have a23 := (W3 2 (by decide) (by decide)).trans a22
          have bf3 := F3 _ _ _ bf2 (by omega)
          replace W3 := wP.trans W2 W3
          replace F3 := zFr.trans F2 (F3.weaken (fun τ z => (Or.inl z : zTP τ)))
          refine v_istore_n dX4_readsRow_43 rfl (by decide) ?_
          refine v_aload_n dX4_readsRow_44 rfl rfl ?_
          refine v_iload_n dX4_readsRow_45 rfl rfl ?_
          refine v_iconst (nI 0) dX4_readsRow_46 (by decide) ?_
          refine v_bipush (nI 12) dX4_readsRow_47 (by decide) ?_
          refine v_iload_n dX4_readsRow_49 rfl rfl ?_
          refine v_iload_n dX4_readsRow_50 rfl rfl ?_
          refine v_callV0p kX4_176 gi_X4_laysRow ge_X4_laysRow rfl dX4_readsRow_51 (by assumption) (c_laysRow_b h3 a63 (by omega) (by omega) he) rfl rfl (by decide) (Nat.le_of_ble_eq_true rfl) ?_
          exact v_return dX4_readsRow_54 rfl ⟨rfl, ⟨w3, σ, (p + 1 + 1), 0, h3, W3, a53, a63, F3, by omega, ⟨by omega, n2, fun _ _ => rfl, fun _ => rfl, Or.inr ⟨rfl, fun _ => by rw [r2]; decide, fun hl => by rw [run_s r2]; refine sSb_16 (by decide) (sD_no (by rw [sg_ch hl] at hcB; exact hcB)) (fun z => by omega) (fun z => absurd z.2 (by decide))⟩⟩⟩, rfl⟩
  · refine v_callV1 kX4_173 gi_X4_takes ge_X4_takes rfl dX4_readsRow_5 (by assumption) (c_takes_n h a5 a2 hbf hgb hL hpL a6 (by omega) (by omega) hcA) rfl rfl (by decide) (Nat.le_of_ble_eq_true rfl) (fun f1 m hc1 => ?_)
    obtain ⟨⟨w1, h1, W1, a51, a61, F1⟩, rfl⟩ := hc1
    have ho1 := h1.1
    have hs1 := h1.2.1
    have a21 := (W1 2 (by decide) (by decide)).trans a2
    have bf1 := F1 _ _ _ hbf (by omega)
    replace W1 := wP.trans (wP.refl w) W1
    replace F1 := zFr.trans zFr.refl (F1.weaken (fun τ z => (Or.inl z : zTP τ)))
    refine v_istore_n dX4_readsRow_8 rfl (by decide) ?_
    refine v_aload_n dX4_readsRow_9 rfl rfl ?_
    refine v_getfield fX4_166 dX4_readsRow_10 (by assumption) (by rfl) ?_
    rw [a61]
    refine v_if_eq 55 dX4_readsRow_13 (by decide) (fun b13 => ?_) (fun b13 => ?_)
    · rw [show (0 : Int32) = nI 0 from rfl] at b13
      rw [nI_eq (by omega) (by omega)] at b13
      refine v_aload_n dX4_readsRow_55 rfl rfl ?_
      refine v_bipush (nI 48) dX4_readsRow_56 (by decide) ?_
      refine v_bipush (nI 57) dX4_readsRow_58 (by decide) ?_
      refine v_callV1 kX4_173 gi_X4_takes ge_X4_takes rfl dX4_readsRow_60 (by assumption) (c_takes_0 h1 a51 a21 bf1 hgb hL hpL a61 (a := 48) (z := 57) (by omega) (by omega)) rfl rfl (by decide) (Nat.le_of_ble_eq_true rfl) (fun f2 m hc2 => ?_)
      obtain ⟨⟨w2, h2, W2, a52, a62, F2⟩, rfl⟩ := hc2
      have ho2 := h2.1
      have hs2 := h2.2.1
      have a22 := (W2 2 (by decide) (by decide)).trans a21
      have bf2 := F2 _ _ _ bf1 (by omega)
      replace W2 := wP.trans W1 W2
      replace F2 := zFr.trans F1 (F2.weaken (fun τ z => (Or.inl z : zTP τ)))
      refine v_istore_n dX4_readsRow_63 rfl (by decide) ?_
      refine v_aload_n dX4_readsRow_64 rfl rfl ?_
      refine v_iload_n dX4_readsRow_65 rfl rfl ?_
      refine v_iconst (nI 0) dX4_readsRow_66 (by decide) ?_
      refine v_iconst (nI 1) dX4_readsRow_67 (by decide) ?_
      refine v_iload_n dX4_readsRow_68 rfl rfl ?_
      refine v_iload_n dX4_readsRow_69 rfl rfl ?_
      refine v_callV0p kX4_176 gi_X4_laysRow ge_X4_laysRow rfl dX4_readsRow_70 (by assumption) (c_laysRow_b h2 a62 (by omega) (by omega) he) rfl rfl (by decide) (Nat.le_of_ble_eq_true rfl) ?_
      refine v_iconst (nI 1) dX4_readsRow_73 (by decide) ?_
      refine v_istore dX4_readsRow_74 (by decide) ?_
      refine v_iload dX4_readsRow_76 rfl ?_
      refine v_bipush (nI 12) dX4_readsRow_78 (by decide) ?_
      refine v_icmp_ge 131 dX4_readsRow_80 (by decide) (fun b80 => ?_) (fun b80 => ?_)
      · rw [nI_leI (by omega) (by omega)] at b80
        omega
      · rw [nI_leI (by omega) (by omega)] at b80
        refine v_aload_n dX4_readsRow_83 rfl rfl ?_
        refine v_getfield fX4_166 dX4_readsRow_84 (by assumption) (by rfl) ?_
        rw [a62]
        refine v_if_eq 131 dX4_readsRow_87 (by decide) (fun b87 => ?_) (fun b87 => ?_)
        · rw [show (0 : Int32) = nI 0 from rfl] at b87
          rw [nI_eq (by omega) (by omega)] at b87
          exact v_return dX4_readsRow_131 rfl ⟨rfl, ⟨w2, σ, p, 0, h2, W2, a52, a62, F2, by omega, ⟨hpL, hok, fun _ _ => rfl, fun _ => rfl, Or.inr ⟨rfl, fun _ => by rw [hrun]; decide, fun hl => by rw [run_s hrun, sSb_L rfl, if_neg (by rw [sL_no (by rw [sg_ch hl] at hcA; exact hcA)]; decide)]⟩⟩⟩, rfl⟩
        · rw [show (0 : Int32) = nI 0 from rfl] at b87
          rw [nI_eq (by omega) (by omega)] at b87
          omega
    · rw [show (0 : Int32) = nI 0 from rfl] at b13
      rw [nI_eq (by omega) (by omega)] at b13
      omega
