/-- the code at a place of the buffer, 0 behind its end -/
def sg (L : Nat) (ch : Nat → Nat) (p : Nat) : Nat := if p < L then ch p else 0
def wP (w w' : Nat → Int32) : Prop := ∀ i, i ≠ 5 → i ≠ 6 → w' i = w i
theorem wP.refl (w : Nat → Int32) : wP w w := fun _ _ _ => rfl
theorem wP.trans {w w' w2 : Nat → Int32} (h : wP w w') (h2 : wP w' w2) : wP w w2 := fun i a b => (h2 i a b).trans (h i a b)
/-- behind a code that is taken, or isn't -/
def zTq (f : zHM) (o : Nat) (B : Nat → Nat) (w : Nat → Int32) (hh : Int64) (σ : Nat → Int32) (mr p b : Nat) (f' : zHM) : Prop := ∃ w', MX f' o B w' hh σ mr ∧ wP w w' ∧ w' 5 = nI p ∧ w' 6 = nI b ∧ zFr (fun τ => τ = 700) f f'
theorem sg_lt {L p : Nat} {ch : Nat → Nat} {gb : Nat → Int32} (hgb : ∀ i, i < L → gb i = nI (ch i) ∧ ch i < 128) : sg L ch p < 128 := by
  unfold sg
  split
  · rename_i h; exact (hgb p h).2
  · omega
set_option maxRecDepth 10000 in
set_option maxHeartbeats 1000000 in
theorem c_sign {G : zW} {f : zHM} {m : Nat × Nat} {o mr : Nat} {B : Nat → Nat} {w : Nat → Int32} {hh : Int64} {σ : Nat → Int32} (h : MX f o B w hh σ mr) {L p : Nat} {ch : Nat → Nat} {gb : Nat → Int32} (a5 : w 5 = nI p) (a2 : w 2 = nI L) (hbf : f (B 4) = some (705, .inl (0, 60, .inl gb))) (hgb : ∀ i, i < L → gb i = nI (ch i) ∧ ch i < 128) (hL : L ≤ 60) (hpL : p ≤ L) : zM G yX4_sign cX4_sign 1 (some .int) 1 [.ref o] (f, m) (zS (.int (nI (sg L ch p))) f m) := by
  refine zM.of (by decide) (Nat.le_of_ble_eq_true rfl) ?_
  have ho := h.1
  have hs := h.2.1
  refine v_aload_n dX4_sign_0 rfl rfl ?_
  refine v_getfield fX4_163 dX4_sign_1 (by assumption) (by rfl) ?_
  rw [a5]
  refine v_aload_n dX4_sign_4 rfl rfl ?_
  refine v_getfield fX4_160 dX4_sign_5 (by assumption) (by rfl) ?_
  rw [a2]
  refine v_icmp_ge 23 dX4_sign_8 (by decide) (fun b8 => ?_) (fun b8 => ?_)
  · rw [nI_leI (by omega) (by omega)] at b8
    refine v_iconst (nI 0) dX4_sign_23 (by decide) ?_
    exact v_ireturn dX4_sign_24 rfl ⟨by rw [show sg L ch p = 0 from if_neg (show ¬ p < L by omega)], rfl, rfl⟩
  · rw [nI_leI (by omega) (by omega)] at b8
    refine v_aload_n dX4_sign_11 rfl rfl ?_
    refine v_getfield fX4_23 dX4_sign_12 (by assumption) (by rfl) ?_
    refine v_aload_n dX4_sign_15 rfl rfl ?_
    refine v_getfield fX4_163 dX4_sign_16 (by assumption) (by rfl) ?_
    rw [a5]
    refine v_iaload dX4_sign_19 (by assumption) (vp_in_nI (by omega) (by omega)) ?_
    rw [nI_clamp (n := p) (by omega), (hgb p (by omega)).1]
    refine v_goto 24 dX4_sign_20 (by decide) ?_
    exact v_ireturn dX4_sign_24 rfl ⟨by rw [show sg L ch p = (ch p) from if_pos (show p < L by omega)], rfl, rfl⟩
theorem inN_n {a e b : Nat} (h : ¬ (a ≤ e ∧ e ≤ b)) (ha : a < 2 ^ 31) (he : e < 2 ^ 31) (hb : b < 2 ^ 31) : (if nI a ≤ nI e ∧ nI e ≤ nI b then 1 else 0 : Int32) = nI 0 := if_neg (fun z => h ⟨(nI_leI ha he).mp z.1, (nI_leI he hb).mp z.2⟩)
set_option maxRecDepth 10000 in
set_option maxHeartbeats 1000000 in
theorem c_takes_y {G : zW} {f : zHM} {m : Nat × Nat} {o mr : Nat} {B : Nat → Nat} {w : Nat → Int32} {hh : Int64} {σ : Nat → Int32} (h : MX f o B w hh σ mr) {L p : Nat} {ch : Nat → Nat} {gb : Nat → Int32} (a5 : w 5 = nI p) (a2 : w 2 = nI L) (hbf : f (B 4) = some (705, .inl (0, 60, .inl gb))) (hgb : ∀ i, i < L → gb i = nI (ch i) ∧ ch i < 128) (hL : L ≤ 60) (hpL : p ≤ L) (a6 : w 6 = nI 1) {a z : Nat} (hz : z < 128) (ha : a < 128) (g1 : a ≤ sg L ch p) (g2 : sg L ch p ≤ z) : zM G yX4_takes cX4_takes 4 (some .int) 2 [.ref o, .int (nI a), .int (nI z)] (f, m) (zD (some (.int (nI (sg L ch p - a)))) (fun f' m' => zTq f o B w hh σ mr (p + 1) 1 f' ∧ m' = m)) := by
  refine zM.of (by decide) (Nat.le_of_ble_eq_true rfl) ?_
  have ho := h.1
  have hs := h.2.1
  have hsg := sg_lt (p := p) hgb
  refine v_aload_n dX4_takes_0 rfl rfl ?_
  refine v_aload_n dX4_takes_1 rfl rfl ?_
  refine v_getfield fX4_166 dX4_takes_2 (by assumption) (by rfl) ?_
  rw [a6]
  refine v_if_eq 24 dX4_takes_5 (by decide) (fun b5 => ?_) (fun b5 => ?_)
  · rw [show (0 : Int32) = nI 0 from rfl] at b5
    rw [nI_eq (by omega) (by omega)] at b5
    omega
  · rw [show (0 : Int32) = nI 0 from rfl] at b5
    rw [nI_eq (by omega) (by omega)] at b5
    refine v_aload_n dX4_takes_8 rfl rfl ?_
    refine v_callVp kX4_170 gi_X4_sign ge_X4_sign rfl dX4_takes_9 (by assumption) (c_sign h a5 a2 hbf hgb hL hpL) rfl rfl (by decide) (Nat.le_of_ble_eq_true rfl) ?_
    refine v_iload_n dX4_takes_12 rfl rfl ?_
    refine v_iload_n dX4_takes_13 rfl rfl ?_
    refine v_callSp kX4_42 gs_X4_in dX4_takes_14 c_in rfl rfl (by decide) (Nat.le_of_ble_eq_true rfl) ?_
    rw [inN_y g1 g2 (by omega)]
    refine v_if_eq 24 dX4_takes_17 (by decide) (fun b17 => ?_) (fun b17 => ?_)
    · rw [show (0 : Int32) = nI 0 from rfl] at b17
      rw [nI_eq (by omega) (by omega)] at b17
      omega
    · rw [show (0 : Int32) = nI 0 from rfl] at b17
      rw [nI_eq (by omega) (by omega)] at b17
      refine v_iconst (nI 1) dX4_takes_20 (by decide) ?_
      refine v_goto 25 dX4_takes_21 (by decide) ?_
      refine v_putfieldX fX4_166 dX4_takes_25 (by assumption) rfl rfl (Nat.le_of_ble_eq_true rfl) (fun f1 hp1 => ?_)
      obtain ⟨h1, -⟩ := MX.put (w' := zUp w 6 (nI 1)) (f0 := f) h hp1 rfl zFr.refl
      obtain ⟨w1, ew1⟩ : ∃ w9, w9 = zUp w 6 (nI 1) := ⟨_, rfl⟩
      rw [← ew1] at h1
      have ho1 := h1.1
      have hs1 := h1.2.1
      have a51 := (show w1 5 = w 5 from by rw [ew1]; rfl).trans a5
      have a61 : w1 6 = nI 1 := by rw [ew1]; rfl
      have a21 := (show w1 2 = w 2 from by rw [ew1]; rfl).trans a2
      have W1 : wP w w1 := fun i h5 h6 => (by rw [ew1]; exact if_neg h6 : w1 i = w i).trans ((wP.refl w) i h5 h6)
      have F1 := zFr.put (T := fun τ => τ = 700) zFr.refl hp1 rfl
      have bf1 := hp1.ne hbf (by omega)
      clear hp1
      refine v_aload_n dX4_takes_28 rfl rfl ?_
      refine v_callVp kX4_170 gi_X4_sign ge_X4_sign rfl dX4_takes_29 (by assumption) (c_sign h1 a51 a21 bf1 hgb hL hpL) rfl rfl (by decide) (Nat.le_of_ble_eq_true rfl) ?_
      refine v_iload_n dX4_takes_32 rfl rfl ?_
      refine v_isub dX4_takes_33 ?_
      rw [pk_sub (a := (sg L ch p)) (b := a) g1]
      refine v_istore_n dX4_takes_34 rfl (by decide) ?_
      refine v_aload_n dX4_takes_35 rfl rfl ?_
      refine v_dup dX4_takes_36 rfl ?_
      refine v_getfield fX4_163 dX4_takes_37 (by assumption) (by rfl) ?_
      rw [a51]
      refine v_aload_n dX4_takes_40 rfl rfl ?_
      refine v_getfield fX4_166 dX4_takes_41 (by assumption) (by rfl) ?_
      rw [a61]
      refine v_if_eq 51 dX4_takes_44 (by decide) (fun b44 => ?_) (fun b44 => ?_)
      · rw [show (0 : Int32) = nI 0 from rfl] at b44
        rw [nI_eq (by omega) (by omega)] at b44
        omega
      · rw [show (0 : Int32) = nI 0 from rfl] at b44
        rw [nI_eq (by omega) (by omega)] at b44
        refine v_iconst (nI 1) dX4_takes_47 (by decide) ?_
        refine v_goto 52 dX4_takes_48 (by decide) ?_
        refine v_iadd dX4_takes_52 ?_
        rw [nI_add p 1]
        refine v_putfieldX fX4_163 dX4_takes_53 (by assumption) rfl rfl (Nat.le_of_ble_eq_true rfl) (fun f2 hp2 => ?_)
        obtain ⟨h2, -⟩ := MX.put (w' := zUp w1 5 (nI (p + 1))) (f0 := f1) h1 hp2 rfl zFr.refl
        obtain ⟨w2, ew2⟩ : ∃ w9, w9 = zUp w1 5 (nI (p + 1)) := ⟨_, rfl⟩
        rw [← ew2] at h2
        have ho2 := h2.1
        have hs2 := h2.2.1
        have a52 : w2 5 = nI (p + 1) := by rw [ew2]; rfl
        have a62 := (show w2 6 = w1 6 from by rw [ew2]; rfl).trans a61
        have a22 := (show w2 2 = w1 2 from by rw [ew2]; rfl).trans a21
        have W2 : wP w w2 := fun i h5 h6 => (by rw [ew2]; exact if_neg h5 : w2 i = w1 i).trans (W1 i h5 h6)
        have F2 := zFr.put (T := fun τ => τ = 700) F1 hp2 rfl
        have bf2 := hp2.ne bf1 (by omega)
        clear hp2
        refine v_iload_n dX4_takes_56 rfl rfl ?_
        exact v_ireturn dX4_takes_57 rfl ⟨rfl, ⟨w2, h2, W2, a52, a62, F2⟩, rfl⟩
set_option maxRecDepth 10000 in
set_option maxHeartbeats 1000000 in
theorem c_takes_n {G : zW} {f : zHM} {m : Nat × Nat} {o mr : Nat} {B : Nat → Nat} {w : Nat → Int32} {hh : Int64} {σ : Nat → Int32} (h : MX f o B w hh σ mr) {L p : Nat} {ch : Nat → Nat} {gb : Nat → Int32} (a5 : w 5 = nI p) (a2 : w 2 = nI L) (hbf : f (B 4) = some (705, .inl (0, 60, .inl gb))) (hgb : ∀ i, i < L → gb i = nI (ch i) ∧ ch i < 128) (hL : L ≤ 60) (hpL : p ≤ L) (a6 : w 6 = nI 1) {a z : Nat} (hz : z < 128) (ha : a < 128) (hn : ¬ (a ≤ sg L ch p ∧ sg L ch p ≤ z)) : zM G yX4_takes cX4_takes 4 (some .int) 2 [.ref o, .int (nI a), .int (nI z)] (f, m) (zD (some (.int (nI (sg L ch p) - nI a))) (fun f' m' => zTq f o B w hh σ mr p 0 f' ∧ m' = m)) := by
  refine zM.of (by decide) (Nat.le_of_ble_eq_true rfl) ?_
  have ho := h.1
  have hs := h.2.1
  have hsg := sg_lt (p := p) hgb
  refine v_aload_n dX4_takes_0 rfl rfl ?_
  refine v_aload_n dX4_takes_1 rfl rfl ?_
  refine v_getfield fX4_166 dX4_takes_2 (by assumption) (by rfl) ?_
  rw [a6]
  refine v_if_eq 24 dX4_takes_5 (by decide) (fun b5 => ?_) (fun b5 => ?_)
  · rw [show (0 : Int32) = nI 0 from rfl] at b5
    rw [nI_eq (by omega) (by omega)] at b5
    omega
  · rw [show (0 : Int32) = nI 0 from rfl] at b5
    rw [nI_eq (by omega) (by omega)] at b5
    refine v_aload_n dX4_takes_8 rfl rfl ?_
    refine v_callVp kX4_170 gi_X4_sign ge_X4_sign rfl dX4_takes_9 (by assumption) (c_sign h a5 a2 hbf hgb hL hpL) rfl rfl (by decide) (Nat.le_of_ble_eq_true rfl) ?_
    refine v_iload_n dX4_takes_12 rfl rfl ?_
    refine v_iload_n dX4_takes_13 rfl rfl ?_
    refine v_callSp kX4_42 gs_X4_in dX4_takes_14 c_in rfl rfl (by decide) (Nat.le_of_ble_eq_true rfl) ?_
    rw [inN_n hn (by omega) (by omega) (by omega)]
    refine v_if_eq 24 dX4_takes_17 (by decide) (fun b17 => ?_) (fun b17 => ?_)
    · rw [show (0 : Int32) = nI 0 from rfl] at b17
      rw [nI_eq (by omega) (by omega)] at b17
      refine v_iconst (nI 0) dX4_takes_24 (by decide) ?_
      refine v_putfieldX fX4_166 dX4_takes_25 (by assumption) rfl rfl (Nat.le_of_ble_eq_true rfl) (fun f1 hp1 => ?_)
      obtain ⟨h1, -⟩ := MX.put (w' := zUp w 6 (nI 0)) (f0 := f) h hp1 rfl zFr.refl
      obtain ⟨w1, ew1⟩ : ∃ w9, w9 = zUp w 6 (nI 0) := ⟨_, rfl⟩
      rw [← ew1] at h1
      have ho1 := h1.1
      have hs1 := h1.2.1
      have a51 := (show w1 5 = w 5 from by rw [ew1]; rfl).trans a5
      have a61 : w1 6 = nI 0 := by rw [ew1]; rfl
      have a21 := (show w1 2 = w 2 from by rw [ew1]; rfl).trans a2
      have W1 : wP w w1 := fun i h5 h6 => (by rw [ew1]; exact if_neg h6 : w1 i = w i).trans ((wP.refl w) i h5 h6)
      have F1 := zFr.put (T := fun τ => τ = 700) zFr.refl hp1 rfl
      have bf1 := hp1.ne hbf (by omega)
      clear hp1
      refine v_aload_n dX4_takes_28 rfl rfl ?_
      refine v_callVp kX4_170 gi_X4_sign ge_X4_sign rfl dX4_takes_29 (by assumption) (c_sign h1 a51 a21 bf1 hgb hL hpL) rfl rfl (by decide) (Nat.le_of_ble_eq_true rfl) ?_
      refine v_iload_n dX4_takes_32 rfl rfl ?_
      refine v_isub dX4_takes_33 ?_
      refine v_istore_n dX4_takes_34 rfl (by decide) ?_
      refine v_aload_n dX4_takes_35 rfl rfl ?_
      refine v_dup dX4_takes_36 rfl ?_
      refine v_getfield fX4_163 dX4_takes_37 (by assumption) (by rfl) ?_
      rw [a51]
      refine v_aload_n dX4_takes_40 rfl rfl ?_
      refine v_getfield fX4_166 dX4_takes_41 (by assumption) (by rfl) ?_
      rw [a61]
      refine v_if_eq 51 dX4_takes_44 (by decide) (fun b44 => ?_) (fun b44 => ?_)
      · rw [show (0 : Int32) = nI 0 from rfl] at b44
        rw [nI_eq (by omega) (by omega)] at b44
        refine v_iconst (nI 0) dX4_takes_51 (by decide) ?_
        refine v_iadd dX4_takes_52 ?_
        rw [nI_add p 0]
        refine v_putfieldX fX4_163 dX4_takes_53 (by assumption) rfl rfl (Nat.le_of_ble_eq_true rfl) (fun f2 hp2 => ?_)
        obtain ⟨h2, -⟩ := MX.put (w' := zUp w1 5 (nI (p + 0))) (f0 := f1) h1 hp2 rfl zFr.refl
        obtain ⟨w2, ew2⟩ : ∃ w9, w9 = zUp w1 5 (nI (p + 0)) := ⟨_, rfl⟩
        rw [← ew2] at h2
        have ho2 := h2.1
        have hs2 := h2.2.1
        have a52 : w2 5 = nI (p + 0) := by rw [ew2]; rfl
        have a62 := (show w2 6 = w1 6 from by rw [ew2]; rfl).trans a61
        have a22 := (show w2 2 = w1 2 from by rw [ew2]; rfl).trans a21
        have W2 : wP w w2 := fun i h5 h6 => (by rw [ew2]; exact if_neg h5 : w2 i = w1 i).trans (W1 i h5 h6)
        have F2 := zFr.put (T := fun τ => τ = 700) F1 hp2 rfl
        have bf2 := hp2.ne bf1 (by omega)
        clear hp2
        refine v_iload_n dX4_takes_56 rfl rfl ?_
        exact v_ireturn dX4_takes_57 rfl ⟨rfl, ⟨w2, h2, W2, a52, a62, F2⟩, rfl⟩
      · rw [show (0 : Int32) = nI 0 from rfl] at b44
        rw [nI_eq (by omega) (by omega)] at b44
        omega
    · rw [show (0 : Int32) = nI 0 from rfl] at b17
      rw [nI_eq (by omega) (by omega)] at b17
      omega
set_option maxRecDepth 10000 in
set_option maxHeartbeats 1000000 in
theorem c_takes_0 {G : zW} {f : zHM} {m : Nat × Nat} {o mr : Nat} {B : Nat → Nat} {w : Nat → Int32} {hh : Int64} {σ : Nat → Int32} (h : MX f o B w hh σ mr) {L p : Nat} {ch : Nat → Nat} {gb : Nat → Int32} (a5 : w 5 = nI p) (a2 : w 2 = nI L) (hbf : f (B 4) = some (705, .inl (0, 60, .inl gb))) (hgb : ∀ i, i < L → gb i = nI (ch i) ∧ ch i < 128) (hL : L ≤ 60) (hpL : p ≤ L) (a6 : w 6 = nI 0) {a z : Nat} (hz : z < 128) (ha : a < 128) : zM G yX4_takes cX4_takes 4 (some .int) 2 [.ref o, .int (nI a), .int (nI z)] (f, m) (zD (some (.int (nI (sg L ch p) - nI a))) (fun f' m' => zTq f o B w hh σ mr p 0 f' ∧ m' = m)) := by
  refine zM.of (by decide) (Nat.le_of_ble_eq_true rfl) ?_
  have ho := h.1
  have hs := h.2.1
  have hsg := sg_lt (p := p) hgb
  refine v_aload_n dX4_takes_0 rfl rfl ?_
  refine v_aload_n dX4_takes_1 rfl rfl ?_
  refine v_getfield fX4_166 dX4_takes_2 (by assumption) (by rfl) ?_
  rw [a6]
  refine v_if_eq 24 dX4_takes_5 (by decide) (fun b5 => ?_) (fun b5 => ?_)
  · rw [show (0 : Int32) = nI 0 from rfl] at b5
    rw [nI_eq (by omega) (by omega)] at b5
    refine v_iconst (nI 0) dX4_takes_24 (by decide) ?_
    refine v_putfieldX fX4_166 dX4_takes_25 (by assumption) rfl rfl (Nat.le_of_ble_eq_true rfl) (fun f1 hp1 => ?_)
    obtain ⟨h1, -⟩ := MX.put (w' := zUp w 6 (nI 0)) (f0 := f) h hp1 rfl zFr.refl
    obtain ⟨w1, ew1⟩ : ∃ w9, w9 = zUp w 6 (nI 0) := ⟨_, rfl⟩
    rw [← ew1] at h1
    have ho1 := h1.1
    have hs1 := h1.2.1
    have a51 := (show w1 5 = w 5 from by rw [ew1]; rfl).trans a5
    have a61 : w1 6 = nI 0 := by rw [ew1]; rfl
    have a21 := (show w1 2 = w 2 from by rw [ew1]; rfl).trans a2
    have W1 : wP w w1 := fun i h5 h6 => (by rw [ew1]; exact if_neg h6 : w1 i = w i).trans ((wP.refl w) i h5 h6)
    have F1 := zFr.put (T := fun τ => τ = 700) zFr.refl hp1 rfl
    have bf1 := hp1.ne hbf (by omega)
    clear hp1
    refine v_aload_n dX4_takes_28 rfl rfl ?_
    refine v_callVp kX4_170 gi_X4_sign ge_X4_sign rfl dX4_takes_29 (by assumption) (c_sign h1 a51 a21 bf1 hgb hL hpL) rfl rfl (by decide) (Nat.le_of_ble_eq_true rfl) ?_
    refine v_iload_n dX4_takes_32 rfl rfl ?_
    refine v_isub dX4_takes_33 ?_
    refine v_istore_n dX4_takes_34 rfl (by decide) ?_
    refine v_aload_n dX4_takes_35 rfl rfl ?_
    refine v_dup dX4_takes_36 rfl ?_
    refine v_getfield fX4_163 dX4_takes_37 (by assumption) (by rfl) ?_
    rw [a51]
    refine v_aload_n dX4_takes_40 rfl rfl ?_
    refine v_getfield fX4_166 dX4_takes_41 (by assumption) (by rfl) ?_
    rw [a61]
    refine v_if_eq 51 dX4_takes_44 (by decide) (fun b44 => ?_) (fun b44 => ?_)
    · rw [show (0 : Int32) = nI 0 from rfl] at b44
      rw [nI_eq (by omega) (by omega)] at b44
      refine v_iconst (nI 0) dX4_takes_51 (by decide) ?_
      refine v_iadd dX4_takes_52 ?_
      rw [nI_add p 0]
      refine v_putfieldX fX4_163 dX4_takes_53 (by assumption) rfl rfl (Nat.le_of_ble_eq_true rfl) (fun f2 hp2 => ?_)
      obtain ⟨h2, -⟩ := MX.put (w' := zUp w1 5 (nI (p + 0))) (f0 := f1) h1 hp2 rfl zFr.refl
      obtain ⟨w2, ew2⟩ : ∃ w9, w9 = zUp w1 5 (nI (p + 0)) := ⟨_, rfl⟩
      rw [← ew2] at h2
      have ho2 := h2.1
      have hs2 := h2.2.1
      have a52 : w2 5 = nI (p + 0) := by rw [ew2]; rfl
      have a62 := (show w2 6 = w1 6 from by rw [ew2]; rfl).trans a61
      have a22 := (show w2 2 = w1 2 from by rw [ew2]; rfl).trans a21
      have W2 : wP w w2 := fun i h5 h6 => (by rw [ew2]; exact if_neg h5 : w2 i = w1 i).trans (W1 i h5 h6)
      have F2 := zFr.put (T := fun τ => τ = 700) F1 hp2 rfl
      have bf2 := hp2.ne bf1 (by omega)
      clear hp2
      refine v_iload_n dX4_takes_56 rfl rfl ?_
      exact v_ireturn dX4_takes_57 rfl ⟨rfl, ⟨w2, h2, W2, a52, a62, F2⟩, rfl⟩
    · rw [show (0 : Int32) = nI 0 from rfl] at b44
      rw [nI_eq (by omega) (by omega)] at b44
      omega
  · rw [show (0 : Int32) = nI 0 from rfl] at b5
    rw [nI_eq (by omega) (by omega)] at b5
    omega
set_option maxRecDepth 10000 in
set_option maxHeartbeats 1000000 in
theorem c_laysRow_e {G : zW} {f : zHM} {m : Nat × Nat} {o mr : Nat} {B : Nat → Nat} {w : Nat → Int32} {hh : Int64} {σ : Nat → Int32} (h : MX f o B w hh σ mr) (a6 : w 6 = nI 1) {y v : Int32} {a z e : Nat} (ha : a ≤ 12) (hz : z ≤ 12) (he : e = 0) : zM G yX4_laysRow cX4_laysRow 7 none 1 [.ref o, .int y, .int (nI a), .int (nI z), .int v, .int (nI e)] (f, m) (zD none (fun f' m' => f' = f ∧ m' = m)) := by
  refine zM.of (by decide) (Nat.le_of_ble_eq_true rfl) ?_
  have ho := h.1
  have hs := h.2.1
  refine v_iload_n dX4_laysRow_0 rfl rfl ?_
  refine v_istore dX4_laysRow_1 (by decide) ?_
  refine v_iload dX4_laysRow_3 rfl ?_
  refine v_iload_n dX4_laysRow_5 rfl rfl ?_
  refine v_iload_n dX4_laysRow_6 rfl rfl ?_
  refine v_iadd dX4_laysRow_7 ?_
  rw [nI_add a z]
  refine v_icmp_ge 47 dX4_laysRow_8 (by decide) (fun b8 => ?_) (fun b8 => ?_)
  · rw [nI_leI (by omega) (by omega)] at b8
    exact v_return dX4_laysRow_47 rfl ⟨rfl, rfl, rfl⟩
  · rw [nI_leI (by omega) (by omega)] at b8
    refine v_iload dX4_laysRow_11 rfl ?_
    refine v_if_eq 47 dX4_laysRow_13 (by decide) (fun b13 => ?_) (fun b13 => ?_)
    · rw [show (0 : Int32) = nI 0 from rfl] at b13
      rw [nI_eq (by omega) (by omega)] at b13
      exact v_return dX4_laysRow_47 rfl ⟨rfl, rfl, rfl⟩
    · rw [show (0 : Int32) = nI 0 from rfl] at b13
      rw [nI_eq (by omega) (by omega)] at b13
      omega
set_option maxRecDepth 10000 in
set_option maxHeartbeats 1000000 in
theorem c_laysRow_b {G : zW} {f : zHM} {m : Nat × Nat} {o mr : Nat} {B : Nat → Nat} {w : Nat → Int32} {hh : Int64} {σ : Nat → Int32} (h : MX f o B w hh σ mr) (a6 : w 6 = nI 0) {y v : Int32} {a z e : Nat} (ha : a ≤ 12) (hz : z ≤ 12) (he : e < 2) : zM G yX4_laysRow cX4_laysRow 7 none 1 [.ref o, .int y, .int (nI a), .int (nI z), .int v, .int (nI e)] (f, m) (zD none (fun f' m' => f' = f ∧ m' = m)) := by
  refine zM.of (by decide) (Nat.le_of_ble_eq_true rfl) ?_
  have ho := h.1
  have hs := h.2.1
  refine v_iload_n dX4_laysRow_0 rfl rfl ?_
  refine v_istore dX4_laysRow_1 (by decide) ?_
  refine v_iload dX4_laysRow_3 rfl ?_
  refine v_iload_n dX4_laysRow_5 rfl rfl ?_
  refine v_iload_n dX4_laysRow_6 rfl rfl ?_
  refine v_iadd dX4_laysRow_7 ?_
  rw [nI_add a z]
  refine v_icmp_ge 47 dX4_laysRow_8 (by decide) (fun b8 => ?_) (fun b8 => ?_)
  · rw [nI_leI (by omega) (by omega)] at b8
    exact v_return dX4_laysRow_47 rfl ⟨rfl, rfl, rfl⟩
  · rw [nI_leI (by omega) (by omega)] at b8
    refine v_iload dX4_laysRow_11 rfl ?_
    refine v_if_eq 47 dX4_laysRow_13 (by decide) (fun b13 => ?_) (fun b13 => ?_)
    · rw [show (0 : Int32) = nI 0 from rfl] at b13
      rw [nI_eq (by omega) (by omega)] at b13
      exact v_return dX4_laysRow_47 rfl ⟨rfl, rfl, rfl⟩
    · rw [show (0 : Int32) = nI 0 from rfl] at b13
      rw [nI_eq (by omega) (by omega)] at b13
      refine v_aload_n dX4_laysRow_16 rfl rfl ?_
      refine v_getfield fX4_166 dX4_laysRow_17 (by assumption) (by rfl) ?_
      rw [a6]
      refine v_if_eq 47 dX4_laysRow_20 (by decide) (fun b20 => ?_) (fun b20 => ?_)
      · rw [show (0 : Int32) = nI 0 from rfl] at b20
        rw [nI_eq (by omega) (by omega)] at b20
        exact v_return dX4_laysRow_47 rfl ⟨rfl, rfl, rfl⟩
      · rw [show (0 : Int32) = nI 0 from rfl] at b20
        rw [nI_eq (by omega) (by omega)] at b20
        omega
set_option maxRecDepth 10000 in
set_option maxHeartbeats 1000000 in
theorem c_laysRow {G : zW} {f : zHM} {m : Nat × Nat} {o mr : Nat} {B : Nat → Nat} {w : Nat → Int32} {hh : Int64} {σ : Nat → Int32} (h : MX f o B w hh σ mr) (a6 : w 6 = nI 1) {y a z : Nat} {v : Int32} (hy : y < 12) (haz : a + z ≤ 12) : zM G yX4_laysRow cX4_laysRow 7 none 1 [.ref o, .int (nI y), .int (nI a), .int (nI z), .int v, .int (nI 1)] (f, m) (zD none (fun f' m' => (∃ σ', MX f' o B w hh σ' mr ∧ (∀ j, σ' j = if 616 + 12 * y + a ≤ j ∧ j < 616 + 12 * y + a + z then v else σ j) ∧ zFr (fun τ => τ = 701) f f') ∧ m' = m)) := by
  refine zM.of (by decide) (Nat.le_of_ble_eq_true rfl) ?_
  have ho := h.1
  have hs := h.2.1
  have loop : ∀ (kk i : Nat), i + kk = a + z → a ≤ i → ∀ (fx : zHM) (σx : Nat → Int32), MX fx o B w hh σx mr → (∀ j, σx j = if 616 + 12 * y + a ≤ j ∧ j < 616 + 12 * y + i then v else σ j) → zFr (fun τ => τ = 701) f fx → zV G yX4_laysRow cX4_laysRow 7 none 1 3 [(0, .ref o), (1, .int (nI y)), (2, .int (nI a)), (3, .int (nI z)), (4, .int v), (5, .int (nI 1)), (6, .int (nI i))] [] (fx, m) (zD none (fun f' m' => (∃ σ', MX f' o B w hh σ' mr ∧ (∀ j, σ' j = if 616 + 12 * y + a ≤ j ∧ j < 616 + 12 * y + a + z then v else σ j) ∧ zFr (fun τ => τ = 701) f f') ∧ m' = m)) := by
    intro kk
    induction kk with
    | zero =>
      intro i hi hai fx σx hx hgv hffx
      have hox := hx.1
      have hsx := hx.2.1
      refine v_iload dX4_laysRow_3 rfl ?_
      refine v_iload_n dX4_laysRow_5 rfl rfl ?_
      refine v_iload_n dX4_laysRow_6 rfl rfl ?_
      refine v_iadd dX4_laysRow_7 ?_
      rw [nI_add a z]
      refine v_icmp_ge 47 dX4_laysRow_8 (by decide) (fun b8 => ?_) (fun b8 => ?_)
      · rw [nI_leI (by omega) (by omega)] at b8
        exact v_return dX4_laysRow_47 rfl ⟨rfl, ⟨σx, hx, fun j => by rw [hgv j, show 616 + 12 * y + i = 616 + 12 * y + a + z from by omega], hffx⟩, rfl⟩
      · rw [nI_leI (by omega) (by omega)] at b8
        omega
    | succ kk ih =>
      intro i hi hai fx σx hx hgv hffx
      have hox := hx.1
      have hsx := hx.2.1
      refine v_iload dX4_laysRow_3 rfl ?_
      refine v_iload_n dX4_laysRow_5 rfl rfl ?_
      refine v_iload_n dX4_laysRow_6 rfl rfl ?_
      refine v_iadd dX4_laysRow_7 ?_
      rw [nI_add a z]
      refine v_icmp_ge 47 dX4_laysRow_8 (by decide) (fun b8 => ?_) (fun b8 => ?_)
      · rw [nI_leI (by omega) (by omega)] at b8
        omega
      · rw [nI_leI (by omega) (by omega)] at b8
        refine v_iload dX4_laysRow_11 rfl ?_
        refine v_if_eq 47 dX4_laysRow_13 (by decide) (fun b13 => ?_) (fun b13 => ?_)
        · rw [show (0 : Int32) = nI 0 from rfl] at b13
          rw [nI_eq (by omega) (by omega)] at b13
          omega
        · rw [show (0 : Int32) = nI 0 from rfl] at b13
          rw [nI_eq (by omega) (by omega)] at b13
          refine v_aload_n dX4_laysRow_16 rfl rfl ?_
          refine v_getfield fX4_166 dX4_laysRow_17 (by assumption) (by rfl) ?_
          rw [a6]
          refine v_if_eq 47 dX4_laysRow_20 (by decide) (fun b20 => ?_) (fun b20 => ?_)
          · rw [show (0 : Int32) = nI 0 from rfl] at b20
            rw [nI_eq (by omega) (by omega)] at b20
            omega
          · rw [show (0 : Int32) = nI 0 from rfl] at b20
            rw [nI_eq (by omega) (by omega)] at b20
            refine v_aload_n dX4_laysRow_23 rfl rfl ?_
            refine v_getfield fX4_7 dX4_laysRow_24 (by assumption) (by rfl) ?_
            refine v_sipush (nI 616) dX4_laysRow_27 (by decide) ?_
            refine v_bipush (nI 12) dX4_laysRow_30 (by decide) ?_
            refine v_iload_n dX4_laysRow_32 rfl rfl ?_
            refine v_imul dX4_laysRow_33 ?_
            rw [pk_mul 12 y]
            refine v_iadd dX4_laysRow_34 ?_
            rw [nI_add 616 (12 * y)]
            refine v_iload dX4_laysRow_35 rfl ?_
            refine v_iadd dX4_laysRow_37 ?_
            rw [nI_add (616 + (12 * y)) i]
            refine v_iload dX4_laysRow_38 rfl ?_
            refine v_iastoreX dX4_laysRow_40 hsx (vp_in_nI (by omega) (by omega)) (fun fy hp => ?_)
            rw [nI_clamp (n := 616 + 12 * y + i) (by omega)] at hp
            have hz : zFr (fun t => t = 701) fx fy := zFr.put (T := fun t => t = 701) zFr.refl hp rfl
            refine v_iincN dX4_laysRow_41 rfl (by decide) ?_
            refine v_goto 3 dX4_laysRow_44 (by decide) ?_
            exact v_loc (lv' := [(0, .ref o), (1, .int (nI y)), (2, .int (nI a)), (3, .int (nI z)), (4, .int v), (5, .int (nI 1)), (6, .int (nI (i + 1)))]) ⟨rfl, rfl, rfl, rfl, rfl, rfl, rfl, trivial⟩ (ih (i + 1) (by omega) (by omega) fy _ (hx.s hp.1 hz) (fun j => by
              show (if j = 616 + 12 * y + i then v else σx j) = _
              rw [hgv j]
              by_cases z : j = 616 + 12 * y + i
              · rw [if_pos z, if_pos (by omega)]
              · rw [if_neg z]
                by_cases z2 : 616 + 12 * y + a ≤ j ∧ j < 616 + 12 * y + i
                · rw [if_pos z2, if_pos (by omega)]
                · rw [if_neg z2, if_neg (by omega)]) (hffx.trans hz))
  refine v_iload_n dX4_laysRow_0 rfl rfl ?_
  refine v_istore dX4_laysRow_1 (by decide) ?_
  exact v_loc (lv' := [(0, .ref o), (1, .int (nI y)), (2, .int (nI a)), (3, .int (nI z)), (4, .int v), (5, .int (nI 1)), (6, .int (nI a))]) ⟨rfl, rfl, rfl, rfl, rfl, rfl, rfl, trivial⟩ (loop z a (by omega) (Nat.le_refl a) f σ h (fun j => by rw [if_neg (by omega)]) zFr.refl)
