def b2i (b : Bool) : Int32 := if b = true then 1 else 0
theorem b2i_0 {b : Bool} (h : b2i b = 0) : b = false := by
  cases b
  · rfl
  · exact absurd h (by decide)
theorem b2i_1 {b : Bool} (h : ¬ b2i b = 0) : b = true := by
  cases b
  · exact absurd rfl h
  · rfl
def sIsD (c : Nat) : Bool := decide (48 ≤ c ∧ c ≤ 57)
def sIsL (c : Nat) : Bool := decide (97 ≤ c ∧ c ≤ 108)
def sEnd (st : Nat) : Bool := decide (st = 15 ∨ (0 < st ∧ st ≤ 12))
def sSb (st c : Nat) : Nat :=
  if st = 13 then (if sIsL c = true then 0 else 16) else if sIsD c = true then (if st = 14 then 15 else if 12 ≤ st then 16 else st + 1)
  else if c = 42 ∧ st = 0 then 14 else if c = 59 ∧ sEnd st = true then 13 else 16
theorem sSb_le (st c : Nat) : sSb st c ≤ 16 := by
  unfold sSb
  repeat' split
  all_goals omega
def sRun (ch : Nat → Nat) : Nat → Nat
  | 0 => 13
  | i + 1 => sSb (sRun ch i) (ch i)
theorem sRun_le (ch : Nat → Nat) : ∀ i, sRun ch i ≤ 16
  | 0 => by show 13 ≤ 16; decide
  | i + 1 => sSb_le _ _
theorem sSb_16 {st c : Nat} (h3 : ¬ st = 13) (hD : sIsD c = false) (h54 : ¬ (c = 42 ∧ st = 0)) (h67 : ¬ (c = 59 ∧ sEnd st = true)) : sSb st c = 16 := by
  unfold sSb; rw [if_neg h3, if_neg (by rw [hD]; decide), if_neg h54, if_neg h67]
theorem sSb_13 {st c : Nat} (h3 : ¬ st = 13) (hD : sIsD c = false) (h54 : ¬ (c = 42 ∧ st = 0)) (h67 : c = 59 ∧ sEnd st = true) : sSb st c = 13 := by
  unfold sSb; rw [if_neg h3, if_neg (by rw [hD]; decide), if_neg h54, if_pos h67]
theorem sSb_14 {st c : Nat} (h3 : ¬ st = 13) (hD : sIsD c = false) (h54 : c = 42 ∧ st = 0) : sSb st c = 14 := by
  unfold sSb; rw [if_neg h3, if_neg (by rw [hD]; decide), if_pos h54]
theorem sSb_D {st c : Nat} (h3 : ¬ st = 13) (hD : sIsD c = true) : sSb st c = if st = 14 then 15 else if 12 ≤ st then 16 else st + 1 := by
  unfold sSb; rw [if_neg h3, if_pos hD]
theorem sSb_L {st c : Nat} (h3 : st = 13) : sSb st c = if sIsL c = true then 0 else 16 := by
  unfold sSb; rw [if_pos h3]
def sFwF (ch : Nat → Nat) : Nat → Nat → Nat
  | 0, i => i
  | k + 1, i => if sRun ch (i + 1) = 16 then i else sFwF ch k (i + 1)
def sFw (ch : Nat → Nat) (L : Nat) : Nat := sFwF ch L 0
/-- the greys that a text tells: where the row starts, the column, whether a star stood, the greys -/
def sTl (ch : Nat → Nat) (g0 : Nat → Int32) : Nat → Nat × Nat × Bool × (Nat → Int32)
  | 0 => (0, 0, false, g0)
  | i + 1 => match sTl ch g0 i with
    | (s, k, b, g) => if sIsL (ch i) = true then ((ch i - 97) * 12, 0, false, g) else if ch i = 42 then (s, k, true, g)
      else if sIsD (ch i) = true ∧ b = true then (s, k, b, fun j => if s ≤ j ∧ j < s + 12 then nI (ch i - 48) else g j)
      else if sIsD (ch i) = true ∧ ¬ 12 ≤ k then (s, k + 1, b, fun j => if j = s + k then nI (ch i - 48) else g j) else (s, k, b, g)
def TPic (f : zHM) (t tx co L : Nat) (ch : Nat → Nat) : Prop :=
  f tx = some (t, .inr (2, [.ref co, .int (nI L)])) ∧ ∃ g, f co = some (t + 1, .inl (3, 60, .inl g)) ∧ ∀ i, i < L → g i = nI (ch i) ∧ ch i < 128
theorem TPic.fr {T : Nat → Prop} {f f' : zHM} {t tx co L : Nat} {ch : Nat → Nat} (h : zFr T f f') (hr : TPic f t tx co L ch) (h1 : ¬ T t) (h2 : ¬ T (t + 1)) : TPic f' t tx co L ch := by
  obtain ⟨e1, g, e2, e3⟩ := hr
  exact ⟨h _ _ _ e1 h1, g, h _ _ _ e2 h2, e3⟩
set_option maxRecDepth 10000 in
set_option maxHeartbeats 1000000 in
theorem c_isDigit {G : zW} {f : zHM} {m : Nat × Nat} {c : Nat} (hc : c < 65536) : zM G yX2_isDigit cX2_isDigit 1 (some .boolean) 1 [.int (nI c)] (f, m) (zS (.int (b2i (sIsD c))) f m) := by
  refine zM.of (by decide) (Nat.le_of_ble_eq_true rfl) ?_
  refine v_iload_n dX2_isDigit_0 rfl rfl ?_
  refine v_bipush (nI 48) dX2_isDigit_1 (by decide) ?_
  refine v_icmp_lt 16 dX2_isDigit_3 (by decide) (fun b3 => ?_) (fun b3 => ?_)
  · rw [nI_ltI (by omega) (by omega)] at b3
    refine v_iconst (0) dX2_isDigit_16 (by decide) ?_
    exact v_zreturn dX2_isDigit_17 rfl (by decide) ⟨by rw [show sIsD c = false from decide_eq_false (by omega)]; rfl, rfl, rfl⟩
  · rw [nI_ltI (by omega) (by omega)] at b3
    refine v_iload_n dX2_isDigit_6 rfl rfl ?_
    refine v_bipush (nI 57) dX2_isDigit_7 (by decide) ?_
    refine v_icmp_gt 16 dX2_isDigit_9 (by decide) (fun b9 => ?_) (fun b9 => ?_)
    · rw [nI_ltI (by omega) (by omega)] at b9
      refine v_iconst (0) dX2_isDigit_16 (by decide) ?_
      exact v_zreturn dX2_isDigit_17 rfl (by decide) ⟨by rw [show sIsD c = false from decide_eq_false (by omega)]; rfl, rfl, rfl⟩
    · rw [nI_ltI (by omega) (by omega)] at b9
      refine v_iconst (1) dX2_isDigit_12 (by decide) ?_
      refine v_goto 17 dX2_isDigit_13 (by decide) ?_
      exact v_zreturn dX2_isDigit_17 rfl (by decide) ⟨by rw [show sIsD c = true from decide_eq_true (by omega)]; rfl, rfl, rfl⟩
set_option maxRecDepth 10000 in
set_option maxHeartbeats 1000000 in
theorem c_isLetter {G : zW} {f : zHM} {m : Nat × Nat} {c : Nat} (hc : c < 65536) : zM G yX2_isLetter cX2_isLetter 1 (some .boolean) 1 [.int (nI c)] (f, m) (zS (.int (b2i (sIsL c))) f m) := by
  refine zM.of (by decide) (Nat.le_of_ble_eq_true rfl) ?_
  refine v_iload_n dX2_isLetter_0 rfl rfl ?_
  refine v_bipush (nI 97) dX2_isLetter_1 (by decide) ?_
  refine v_icmp_lt 16 dX2_isLetter_3 (by decide) (fun b3 => ?_) (fun b3 => ?_)
  · rw [nI_ltI (by omega) (by omega)] at b3
    refine v_iconst (0) dX2_isLetter_16 (by decide) ?_
    exact v_zreturn dX2_isLetter_17 rfl (by decide) ⟨by rw [show sIsL c = false from decide_eq_false (by omega)]; rfl, rfl, rfl⟩
  · rw [nI_ltI (by omega) (by omega)] at b3
    refine v_iload_n dX2_isLetter_6 rfl rfl ?_
    refine v_bipush (nI 108) dX2_isLetter_7 (by decide) ?_
    refine v_icmp_gt 16 dX2_isLetter_9 (by decide) (fun b9 => ?_) (fun b9 => ?_)
    · rw [nI_ltI (by omega) (by omega)] at b9
      refine v_iconst (0) dX2_isLetter_16 (by decide) ?_
      exact v_zreturn dX2_isLetter_17 rfl (by decide) ⟨by rw [show sIsL c = false from decide_eq_false (by omega)]; rfl, rfl, rfl⟩
    · rw [nI_ltI (by omega) (by omega)] at b9
      refine v_iconst (1) dX2_isLetter_12 (by decide) ?_
      refine v_goto 17 dX2_isLetter_13 (by decide) ?_
      exact v_zreturn dX2_isLetter_17 rfl (by decide) ⟨by rw [show sIsL c = true from decide_eq_true (by omega)]; rfl, rfl, rfl⟩
set_option maxRecDepth 10000 in
set_option maxHeartbeats 1000000 in
theorem c_endsRow {G : zW} {f : zHM} {m : Nat × Nat} {st : Nat} (hs : st ≤ 16) : zM G yX2_endsRow cX2_endsRow 1 (some .boolean) 1 [.int (nI st)] (f, m) (zS (.int (b2i (sEnd st))) f m) := by
  refine zM.of (by decide) (Nat.le_of_ble_eq_true rfl) ?_
  refine v_iload_n dX2_endsRow_0 rfl rfl ?_
  refine v_bipush (nI 15) dX2_endsRow_1 (by decide) ?_
  refine v_icmp_eq 16 dX2_endsRow_3 (by decide) (fun b3 => ?_) (fun b3 => ?_)
  · rw [nI_eq (by omega) (by omega)] at b3
    refine v_iconst (1) dX2_endsRow_16 (by decide) ?_
    refine v_goto 21 dX2_endsRow_17 (by decide) ?_
    exact v_zreturn dX2_endsRow_21 rfl (by decide) ⟨by rw [show sEnd st = true from decide_eq_true (by omega)]; rfl, rfl, rfl⟩
  · rw [nI_eq (by omega) (by omega)] at b3
    refine v_iload_n dX2_endsRow_6 rfl rfl ?_
    refine v_if_le 20 dX2_endsRow_7 (by decide) (fun b7 => ?_) (fun b7 => ?_)
    · rw [show (0 : Int32) = nI 0 from rfl, nI_leI (by omega) (by omega)] at b7
      refine v_iconst (0) dX2_endsRow_20 (by decide) ?_
      exact v_zreturn dX2_endsRow_21 rfl (by decide) ⟨by rw [show sEnd st = false from decide_eq_false (by omega)]; rfl, rfl, rfl⟩
    · rw [show (0 : Int32) = nI 0 from rfl, nI_leI (by omega) (by omega)] at b7
      refine v_iload_n dX2_endsRow_10 rfl rfl ?_
      refine v_bipush (nI 12) dX2_endsRow_11 (by decide) ?_
      refine v_icmp_gt 20 dX2_endsRow_13 (by decide) (fun b13 => ?_) (fun b13 => ?_)
      · rw [nI_ltI (by omega) (by omega)] at b13
        refine v_iconst (0) dX2_endsRow_20 (by decide) ?_
        exact v_zreturn dX2_endsRow_21 rfl (by decide) ⟨by rw [show sEnd st = false from decide_eq_false (by omega)]; rfl, rfl, rfl⟩
      · rw [nI_ltI (by omega) (by omega)] at b13
        refine v_iconst (1) dX2_endsRow_16 (by decide) ?_
        refine v_goto 21 dX2_endsRow_17 (by decide) ?_
        exact v_zreturn dX2_endsRow_21 rfl (by decide) ⟨by rw [show sEnd st = true from decide_eq_true (by omega)]; rfl, rfl, rfl⟩
set_option maxRecDepth 10000 in
set_option maxHeartbeats 1000000 in
theorem c_stateBehind {G : zW} {f : zHM} {m : Nat × Nat} {st c : Nat} (hs : st ≤ 16) (hc : c < 128) : zM G yX2_stateBehind cX2_stateBehind 2 (some .int) 2 [.int (nI st), .int (nI c)] (f, m) (zS (.int (nI (sSb st c))) f m) := by
  refine zM.of (by decide) (Nat.le_of_ble_eq_true rfl) ?_
  refine v_iload_n dX2_stateBehind_0 rfl rfl ?_
  refine v_bipush (nI 13) dX2_stateBehind_1 (by decide) ?_
  refine v_icmp_ne 20 dX2_stateBehind_3 (by decide) (fun b3 => ?_) (fun b3 => ?_)
  · rw [nI_eq (by omega) (by omega)] at b3
    refine v_iload_n dX2_stateBehind_20 rfl rfl ?_
    refine v_callSp kX2_23 gs_X2_isDigit dX2_stateBehind_21 (c_isDigit (by omega)) rfl rfl (by decide) (Nat.le_of_ble_eq_true rfl) ?_
    refine v_if_eq 51 dX2_stateBehind_24 (by decide) (fun b24 => ?_) (fun b24 => ?_)
    · have hD := b2i_0 b24
      refine v_iload_n dX2_stateBehind_51 rfl rfl ?_
      refine v_bipush (nI 42) dX2_stateBehind_52 (by decide) ?_
      refine v_icmp_ne 64 dX2_stateBehind_54 (by decide) (fun b54 => ?_) (fun b54 => ?_)
      · rw [nI_eq (by omega) (by omega)] at b54
        have h54 : ¬ (c = 42 ∧ st = 0) := fun z => b54 z.1
        refine v_iload_n dX2_stateBehind_64 rfl rfl ?_
        refine v_bipush (nI 59) dX2_stateBehind_65 (by decide) ?_
        refine v_icmp_ne 82 dX2_stateBehind_67 (by decide) (fun b67 => ?_) (fun b67 => ?_)
        · rw [nI_eq (by omega) (by omega)] at b67
          have h67 : ¬ (c = 59 ∧ sEnd st = true) := fun z => b67 z.1
          refine v_bipush (nI 16) dX2_stateBehind_82 (by decide) ?_
          exact v_ireturn dX2_stateBehind_84 rfl ⟨by rw [sSb_16 b3 hD h54 h67], rfl, rfl⟩
        · rw [nI_eq (by omega) (by omega)] at b67
          refine v_iload_n dX2_stateBehind_70 rfl rfl ?_
          refine v_callSp kX2_26 gs_X2_endsRow dX2_stateBehind_71 (c_endsRow hs) rfl rfl (by decide) (Nat.le_of_ble_eq_true rfl) ?_
          refine v_if_eq 82 dX2_stateBehind_74 (by decide) (fun b74 => ?_) (fun b74 => ?_)
          · have hE := b2i_0 b74
            have h67 : ¬ (c = 59 ∧ sEnd st = true) := fun z => by rw [hE] at z; exact absurd z.2 (by decide)
            refine v_bipush (nI 16) dX2_stateBehind_82 (by decide) ?_
            exact v_ireturn dX2_stateBehind_84 rfl ⟨by rw [sSb_16 b3 hD h54 h67], rfl, rfl⟩
          · have hE := b2i_1 b74
            refine v_bipush (nI 13) dX2_stateBehind_77 (by decide) ?_
            refine v_goto 84 dX2_stateBehind_79 (by decide) ?_
            exact v_ireturn dX2_stateBehind_84 rfl ⟨by rw [sSb_13 b3 hD h54 ⟨b67, hE⟩], rfl, rfl⟩
      · rw [nI_eq (by omega) (by omega)] at b54
        refine v_iload_n dX2_stateBehind_57 rfl rfl ?_
        refine v_if_ne 64 dX2_stateBehind_58 (by decide) (fun b58 => ?_) (fun b58 => ?_)
        · rw [show (0 : Int32) = nI 0 from rfl, nI_eq (by omega) (by omega)] at b58
          have h54 : ¬ (c = 42 ∧ st = 0) := fun z => b58 z.2
          refine v_iload_n dX2_stateBehind_64 rfl rfl ?_
          refine v_bipush (nI 59) dX2_stateBehind_65 (by decide) ?_
          refine v_icmp_ne 82 dX2_stateBehind_67 (by decide) (fun b67 => ?_) (fun b67 => ?_)
          · rw [nI_eq (by omega) (by omega)] at b67
            have h67 : ¬ (c = 59 ∧ sEnd st = true) := fun z => b67 z.1
            refine v_bipush (nI 16) dX2_stateBehind_82 (by decide) ?_
            exact v_ireturn dX2_stateBehind_84 rfl ⟨by rw [sSb_16 b3 hD h54 h67], rfl, rfl⟩
          · rw [nI_eq (by omega) (by omega)] at b67
            refine v_iload_n dX2_stateBehind_70 rfl rfl ?_
            refine v_callSp kX2_26 gs_X2_endsRow dX2_stateBehind_71 (c_endsRow hs) rfl rfl (by decide) (Nat.le_of_ble_eq_true rfl) ?_
            refine v_if_eq 82 dX2_stateBehind_74 (by decide) (fun b74 => ?_) (fun b74 => ?_)
            · have hE := b2i_0 b74
              have h67 : ¬ (c = 59 ∧ sEnd st = true) := fun z => by rw [hE] at z; exact absurd z.2 (by decide)
              refine v_bipush (nI 16) dX2_stateBehind_82 (by decide) ?_
              exact v_ireturn dX2_stateBehind_84 rfl ⟨by rw [sSb_16 b3 hD h54 h67], rfl, rfl⟩
            · have hE := b2i_1 b74
              refine v_bipush (nI 13) dX2_stateBehind_77 (by decide) ?_
              refine v_goto 84 dX2_stateBehind_79 (by decide) ?_
              exact v_ireturn dX2_stateBehind_84 rfl ⟨by rw [sSb_13 b3 hD h54 ⟨b67, hE⟩], rfl, rfl⟩
        · rw [show (0 : Int32) = nI 0 from rfl, nI_eq (by omega) (by omega)] at b58
          refine v_bipush (nI 14) dX2_stateBehind_61 (by decide) ?_
          exact v_ireturn dX2_stateBehind_63 rfl ⟨by rw [sSb_14 b3 hD ⟨b54, b58⟩], rfl, rfl⟩
    · have hD := b2i_1 b24
      refine v_iload_n dX2_stateBehind_27 rfl rfl ?_
      refine v_bipush (nI 14) dX2_stateBehind_28 (by decide) ?_
      refine v_icmp_ne 36 dX2_stateBehind_30 (by decide) (fun b30 => ?_) (fun b30 => ?_)
      · rw [nI_eq (by omega) (by omega)] at b30
        refine v_iload_n dX2_stateBehind_36 rfl rfl ?_
        refine v_bipush (nI 12) dX2_stateBehind_37 (by decide) ?_
        refine v_icmp_ge 48 dX2_stateBehind_39 (by decide) (fun b39 => ?_) (fun b39 => ?_)
        · rw [nI_leI (by omega) (by omega)] at b39
          refine v_bipush (nI 16) dX2_stateBehind_48 (by decide) ?_
          exact v_ireturn dX2_stateBehind_50 rfl ⟨by rw [sSb_D b3 hD, if_neg b30, if_pos b39], rfl, rfl⟩
        · rw [nI_leI (by omega) (by omega)] at b39
          refine v_iload_n dX2_stateBehind_42 rfl rfl ?_
          refine v_iconst (nI 1) dX2_stateBehind_43 (by decide) ?_
          refine v_iadd dX2_stateBehind_44 ?_
          rw [nI_add]
          refine v_goto 50 dX2_stateBehind_45 (by decide) ?_
          exact v_ireturn dX2_stateBehind_50 rfl ⟨by rw [sSb_D b3 hD, if_neg b30, if_neg b39], rfl, rfl⟩
      · rw [nI_eq (by omega) (by omega)] at b30
        refine v_bipush (nI 15) dX2_stateBehind_33 (by decide) ?_
        exact v_ireturn dX2_stateBehind_35 rfl ⟨by rw [sSb_D b3 hD, if_pos b30], rfl, rfl⟩
  · rw [nI_eq (by omega) (by omega)] at b3
    refine v_iload_n dX2_stateBehind_6 rfl rfl ?_
    refine v_callSp kX2_19 gs_X2_isLetter dX2_stateBehind_7 (c_isLetter (by omega)) rfl rfl (by decide) (Nat.le_of_ble_eq_true rfl) ?_
    refine v_if_eq 17 dX2_stateBehind_10 (by decide) (fun b10 => ?_) (fun b10 => ?_)
    · have hL := b2i_0 b10
      refine v_bipush (nI 16) dX2_stateBehind_17 (by decide) ?_
      exact v_ireturn dX2_stateBehind_19 rfl ⟨by rw [sSb_L b3, if_neg (by rw [hL]; decide)], rfl, rfl⟩
    · have hL := b2i_1 b10
      refine v_iconst (nI 0) dX2_stateBehind_13 (by decide) ?_
      refine v_goto 19 dX2_stateBehind_14 (by decide) ?_
      exact v_ireturn dX2_stateBehind_19 rfl ⟨by rw [sSb_L b3, if_pos hL], rfl, rfl⟩
set_option maxRecDepth 10000 in
set_option maxHeartbeats 1000000 in
theorem c_firstWrong {G : zW} {f : zHM} {m : Nat × Nat} {t tx co L : Nat} {ch : Nat → Nat} (hp : TPic f t tx co L ch) (hL : L ≤ 60) : zM G yX2_firstWrong cX2_firstWrong 3 (some .int) 3 [.ref tx] (f, m) (zS (.int (nI (sFw ch L))) f m) := by
  refine zM.of (by decide) (Nat.le_of_ble_eq_true rfl) ?_
  obtain ⟨r0, g, a0, e0⟩ := hp
  have loop : ∀ (k i : Nat), i + k = L → sFwF ch k i = sFw ch L → zV G yX2_firstWrong cX2_firstWrong 3 (some .int) 3 5 [(0, .ref tx), (1, .int (nI (sRun ch i))), (2, .int (nI i))] [] (f, m) (zS (.int (nI (sFw ch L))) f m) := by
    intro k
    induction k with
    | zero =>
      intro i hi he
      have hi : i = L := by omega
      subst hi
      refine v_iload_n dX2_firstWrong_5 rfl rfl ?_
      refine v_aload_n dX2_firstWrong_6 rfl rfl ?_
      refine v_getfield fX2_15 dX2_firstWrong_7 (by assumption) (by rfl) ?_
      refine v_icmp_ge 38 dX2_firstWrong_10 (by decide) (fun b10 => ?_) (fun b10 => ?_)
      · rw [nI_leI (by omega) (by omega)] at b10
        refine v_aload_n dX2_firstWrong_38 rfl rfl ?_
        refine v_getfield fX2_15 dX2_firstWrong_39 (by assumption) (by rfl) ?_
        exact v_ireturn dX2_firstWrong_42 rfl ⟨by rw [← he]; rfl, rfl, rfl⟩
      · rw [nI_leI (by omega) (by omega)] at b10
        omega
    | succ k ih =>
      intro i hi he
      have h9 : i < L := by omega
      have hr9 := sRun_le ch (i + 1)
      have hst : sRun ch (i + 1) = sSb (sRun ch i) (ch i) := rfl
      refine v_iload_n dX2_firstWrong_5 rfl rfl ?_
      refine v_aload_n dX2_firstWrong_6 rfl rfl ?_
      refine v_getfield fX2_15 dX2_firstWrong_7 (by assumption) (by rfl) ?_
      refine v_icmp_ge 38 dX2_firstWrong_10 (by decide) (fun b10 => ?_) (fun b10 => ?_)
      · rw [nI_leI (by omega) (by omega)] at b10
        omega
      · rw [nI_leI (by omega) (by omega)] at b10
        refine v_iload_n dX2_firstWrong_13 rfl rfl ?_
        refine v_aload_n dX2_firstWrong_14 rfl rfl ?_
        refine v_getfield fX2_9 dX2_firstWrong_15 (by assumption) (by rfl) ?_
        refine v_iload_n dX2_firstWrong_18 rfl rfl ?_
        refine v_caload dX2_firstWrong_19 (by assumption) (vp_in_nI (by omega) (by omega)) ?_
        rw [nI_clamp (by omega), (e0 i h9).1]
        refine v_callSp kX2_30 gs_X2_stateBehind dX2_firstWrong_20 (c_stateBehind (sRun_le ch i) (e0 i h9).2) rfl rfl (by decide) (Nat.le_of_ble_eq_true rfl) ?_
        refine v_istore_n dX2_firstWrong_23 rfl (by decide) ?_
        refine v_iload_n dX2_firstWrong_24 rfl rfl ?_
        refine v_bipush (nI 16) dX2_firstWrong_25 (by decide) ?_
        refine v_icmp_ne 32 dX2_firstWrong_27 (by decide) (fun b27 => ?_) (fun b27 => ?_)
        · rw [nI_eq (by omega) (by omega)] at b27
          refine v_iincN dX2_firstWrong_32 rfl (by decide) ?_
          refine v_goto 5 dX2_firstWrong_35 (by decide) ?_
          exact v_loc (lv' := [(0, .ref tx), (1, .int (nI (sRun ch (i + 1)))), (2, .int (nI (i + 1)))]) ⟨rfl, rfl, rfl, trivial⟩ (ih (i + 1) (by omega) (by rw [← he, sFwF, if_neg (fun z => b27 (hst.symm.trans z))]))
        · rw [nI_eq (by omega) (by omega)] at b27
          refine v_iload_n dX2_firstWrong_30 rfl rfl ?_
          exact v_ireturn dX2_firstWrong_31 rfl ⟨by rw [← he, sFwF, if_pos (hst.trans b27)], rfl, rfl⟩
  refine v_bipush (nI 13) dX2_firstWrong_0 (by decide) ?_
  refine v_istore_n dX2_firstWrong_2 rfl (by decide) ?_
  refine v_iconst (0) dX2_firstWrong_3 (by decide) ?_
  refine v_istore_n dX2_firstWrong_4 rfl (by decide) ?_
  exact v_loc (lv' := [(0, .ref tx), (1, .int (nI 13)), (2, .int (nI 0))]) ⟨rfl, rfl, rfl, trivial⟩ (loop L 0 (by omega) rfl)
set_option maxRecDepth 10000 in
set_option maxHeartbeats 1000000 in
theorem c_isFace {G : zW} {f : zHM} {m : Nat × Nat} {t tx co L : Nat} {ch : Nat → Nat} (hp : TPic f t tx co L ch) (hL : L ≤ 60) : zM G yX2_isFace cX2_isFace 3 (some .boolean) 3 [.ref tx] (f, m) (zS (.int (b2i (sEnd (sRun ch L)))) f m) := by
  refine zM.of (by decide) (Nat.le_of_ble_eq_true rfl) ?_
  obtain ⟨r0, g, a0, e0⟩ := hp
  have loop : ∀ (k i : Nat), i + k = L → zV G yX2_isFace cX2_isFace 3 (some .boolean) 3 5 [(0, .ref tx), (1, .int (nI (sRun ch i))), (2, .int (nI i))] [] (f, m) (zS (.int (b2i (sEnd (sRun ch L)))) f m) := by
    intro k
    induction k with
    | zero =>
      intro i hi 
      have hi : i = L := by omega
      subst hi
      refine v_iload_n dX2_isFace_5 rfl rfl ?_
      refine v_aload_n dX2_isFace_6 rfl rfl ?_
      refine v_getfield fX2_15 dX2_isFace_7 (by assumption) (by rfl) ?_
      refine v_icmp_ge 30 dX2_isFace_10 (by decide) (fun b10 => ?_) (fun b10 => ?_)
      · rw [nI_leI (by omega) (by omega)] at b10
        refine v_iload_n dX2_isFace_30 rfl rfl ?_
        refine v_callSp kX2_26 gs_X2_endsRow dX2_isFace_31 (c_endsRow (sRun_le ch i)) rfl rfl (by decide) (Nat.le_of_ble_eq_true rfl) ?_
        exact v_zreturn dX2_isFace_34 rfl (by cases sEnd (sRun ch i) <;> rfl) ⟨rfl, rfl, rfl⟩
      · rw [nI_leI (by omega) (by omega)] at b10
        omega
    | succ k ih =>
      intro i hi 
      have h9 : i < L := by omega
      refine v_iload_n dX2_isFace_5 rfl rfl ?_
      refine v_aload_n dX2_isFace_6 rfl rfl ?_
      refine v_getfield fX2_15 dX2_isFace_7 (by assumption) (by rfl) ?_
      refine v_icmp_ge 30 dX2_isFace_10 (by decide) (fun b10 => ?_) (fun b10 => ?_)
      · rw [nI_leI (by omega) (by omega)] at b10
        omega
      · rw [nI_leI (by omega) (by omega)] at b10
        refine v_iload_n dX2_isFace_13 rfl rfl ?_
        refine v_aload_n dX2_isFace_14 rfl rfl ?_
        refine v_getfield fX2_9 dX2_isFace_15 (by assumption) (by rfl) ?_
        refine v_iload_n dX2_isFace_18 rfl rfl ?_
        refine v_caload dX2_isFace_19 (by assumption) (vp_in_nI (by omega) (by omega)) ?_
        rw [nI_clamp (by omega), (e0 i h9).1]
        refine v_callSp kX2_30 gs_X2_stateBehind dX2_isFace_20 (c_stateBehind (sRun_le ch i) (e0 i h9).2) rfl rfl (by decide) (Nat.le_of_ble_eq_true rfl) ?_
        refine v_istore_n dX2_isFace_23 rfl (by decide) ?_
        refine v_iincN dX2_isFace_24 rfl (by decide) ?_
        refine v_goto 5 dX2_isFace_27 (by decide) ?_
        exact v_loc (lv' := [(0, .ref tx), (1, .int (nI (sRun ch (i + 1)))), (2, .int (nI (i + 1)))]) ⟨rfl, rfl, rfl, trivial⟩ (ih (i + 1) (by omega))
  refine v_bipush (nI 13) dX2_isFace_0 (by decide) ?_
  refine v_istore_n dX2_isFace_2 rfl (by decide) ?_
  refine v_iconst (0) dX2_isFace_3 (by decide) ?_
  refine v_istore_n dX2_isFace_4 rfl (by decide) ?_
  exact v_loc (lv' := [(0, .ref tx), (1, .int (nI 13)), (2, .int (nI 0))]) ⟨rfl, rfl, rfl, trivial⟩ (loop L 0 (by omega))
theorem fb_char9 {c : Nat} (h : c < 128) : (nI c).toUInt32.toUInt16.toUInt32.toInt32 = nI c := by
  have h9 : ∀ c, c < 128 → (nI c).toUInt32.toUInt16.toUInt32.toInt32 = nI c := by decide +kernel
  exact h9 c h
set_option maxRecDepth 10000 in
set_option maxHeartbeats 1000000 in
theorem c_add {G : zW} {f : zHM} {m : Nat × Nat} {t tx co L : Nat} {ch : Nat → Nat} (hp : TPic f t tx co L ch) (hL : L < 60) {c : Nat} (hc : c < 128) : zM G yX2_add cX2_add 2 none 1 [.ref tx, .int (nI c)] (f, m) (zD none (fun f' m' => TPic f' t tx co (L + 1) (fun i => if i = L then c else ch i) ∧ zFr (fun τ => τ = t ∨ τ = t + 1) f f' ∧ m' = m)) := by
  refine zM.of (by decide) (Nat.le_of_ble_eq_true rfl) ?_
  obtain ⟨r0, g, a0, e0⟩ := hp
  refine v_aload_n dX2_add_0 rfl rfl ?_
  refine v_getfield fX2_15 dX2_add_1 (by assumption) (by rfl) ?_
  refine v_bipush (nI 60) dX2_add_4 (by decide) ?_
  refine v_icmp_ge 29 dX2_add_6 (by decide) (fun b6 => ?_) (fun b6 => ?_)
  · rw [nI_leI (by omega) (by omega)] at b6
    omega
  · rw [nI_leI (by omega) (by omega)] at b6
    refine v_aload_n dX2_add_9 rfl rfl ?_
    refine v_getfield fX2_9 dX2_add_10 (by assumption) (by rfl) ?_
    refine v_aload_n dX2_add_13 rfl rfl ?_
    refine v_getfield fX2_15 dX2_add_14 (by assumption) (by rfl) ?_
    refine v_iload_n dX2_add_17 rfl rfl ?_
    refine v_castoreX dX2_add_18 (by assumption) (vp_in_nI (by omega) (by omega)) (fun f1 hp1 => ?_)
    have r0 := hp1.ne r0 (by omega)
    have a0 := hp1.1
    refine v_aload_n dX2_add_19 rfl rfl ?_
    refine v_dup dX2_add_20 rfl ?_
    refine v_getfield fX2_15 dX2_add_21 (by assumption) (by rfl) ?_
    refine v_iconst (nI 1) dX2_add_24 (by decide) ?_
    refine v_iadd dX2_add_25 ?_
    rw [nI_add]
    refine v_putfieldX fX2_15 dX2_add_26 (by assumption) rfl rfl (Nat.le_of_ble_eq_true rfl) (fun f2 hp2 => ?_)
    have a0 := hp2.ne a0 (by omega)
    have r0 := hp2.1
    refine v_return dX2_add_29 rfl ⟨rfl, ⟨r0, _, a0, fun i hi => ?_⟩, (zFr.refl.put hp1 (Or.inr rfl)).put hp2 (Or.inl rfl), rfl⟩
    show upd g (nI L).toNatClampNeg (vp_nar .char (nI c)) i = nI (if i = L then c else ch i) ∧ (if i = L then c else ch i) < 128
    rw [nI_clamp (by omega)]
    by_cases h : i = L
    · subst h; rw [pk_us, if_pos rfl]; exact ⟨by rw [vp_nar_char]; exact fb_char9 hc, hc⟩
    · rw [pk_un h, if_neg h]; exact e0 i (by omega)
set_option maxRecDepth 10000 in
set_option maxHeartbeats 1000000 in
theorem c_Text_init {G : zW} {f : zHM} {m : Nat × Nat} {t tx : Nat} (r0 : f tx = some (t, .inr (2, [.null, .int 0]))) (hm1 : m.1 + 1 ≤ 50000) (hm2 : m.2 + 60 ≤ 400000) : zM G yX2_init cX2_init 1 none 1 [.ref tx] (f, m) (zD none (fun f' m' => (∃ co, TPic f' t tx co 0 (fun _ => 0)) ∧ zFr (fun τ => τ = t) f f' ∧ m' = (m.1 + 1, m.2 + 60))) := by
  refine zM.of (by decide) (Nat.le_of_ble_eq_true rfl) ?_
  refine v_aload_n dX2_init_0 rfl rfl ?_
  refine v_objInit goLX2 goI goC dX2_init_1 (by decide) (Nat.le_of_ble_eq_true rfl) ?_
  refine v_aload_n dX2_init_4 rfl rfl ?_
  refine v_bipush (nI 60) dX2_init_5 (by decide) ?_
  refine v_newCX (t + 1) 60 dX2_init_7 (by decide) (by decide) (by omega) hm1 hm2 (fun q f1 hp1 => ?_)
  have r0 := hp1.2.2 _ _ r0
  have a0 := hp1.1
  refine v_putfieldFX fX2_9 rfl rfl dX2_init_9 (by assumption) rfl rfl (Nat.le_of_ble_eq_true rfl) (fun f2 hp2 => ?_)
  have a0 := hp2.ne a0 (by omega)
  have r0 := hp2.1
  exact v_return dX2_init_12 rfl ⟨rfl, ⟨q, r0, _, a0, fun i hi => absurd hi (Nat.not_lt_zero i)⟩, (zFr.new zFr.refl hp1).put hp2 rfl, rfl⟩
