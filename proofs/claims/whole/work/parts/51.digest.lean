abbrev zTD : Nat → Prop := fun τ => τ = 950 ∨ τ = 601 ∨ (20 ≤ τ ∧ τ ≤ 30)
def sSl (gs : Nat → Option Nat) (i : Nat) : Int32 := if gs i = none then 0 else 1
def sDg4 (ch : Nat → Nat) (L : Nat) (h : Int64) : Int64 := sHf (fun i => nI (ch i)) L (31 * h + (nI L).toInt64)
def sDg3 (gs : Nat → Option Nat) (ch : Nat → Nat) (L : Nat) (h : Int64) : Int64 := sDg4 ch L (sHf (sSl gs) 2 h)
def sDg2 (ρ : zRS) (n N s : Nat) (xs tm : Nat → Int32) (a u : Nat) (h : Int64) : Int64 :=
  31 * (31 * (31 * (31 * (31 * sHf (sChord s tm 0 2) 3 (sHf (sChord s tm 0 1) 3 (sHg (fun i h => sHg (fun j h => sHf (sSquare ρ xs (i * 12 + j)) 4 h) 12 h) 12 (sHg (fun i h => sHf (sWound ρ n i) 3 h) 10 (sHg (fun i h => sHf (sSpoolOf ρ s n i) 5 h) 3 (sHg (sHn ρ N s n tm a u) N h))))) + (sBest ρ N s tm a u).toInt64) + (sTwo ρ n N s tm a u N).1.toInt64) + (sPal ρ 144).1.toInt64) + (sBsp ρ N s tm a 3).1.toInt64) + (sShare ρ).toInt64
def sDg (ρ : zRS) (n N s : Nat) (xs tm : Nat → Int32) (a u k : Nat) (gs : Nat → Option Nat) (ch : Nat → Nat) (L : Nat) : Int64 := sDg3 gs ch L (sDg2 ρ n N s xs tm a u (sHf (ρ 3) 3 (sHf (sCount ρ s n k) 13 3301)))
set_option maxRecDepth 10000 in
set_option maxHeartbeats 1000000 in
theorem c_dig4 {G : zW} {f : zHM} {o r tr sc tx sl sv k la n : Nat} {A : Nat → Nat} {ρ : zRS} {xs tm : Nat → Int32} (ho : f o = some (600, .inr (3, zOb r tr sc tx sl sv k))) (hr : RPic f 0 r la A ρ n xs tm) (hn200 : n ≤ 200) {M : Nat × Nat} {N s : Nat} (hw : RW ρ N s n) {a u : Nat} (ha : a < N) (hu : u < 3) (hat : ρ 0 1 = nI a) (hnow : ρ 0 2 = nI u) {gs : Nat → Option Nat} {ss : Nat → Option zST} (hk0 : SLP f sl la gs ss) {co L : Nat} {ch : Nat → Nat} (hp : TPic f 602 tx co L ch) (hL60 : L ≤ 60) {f2 : zHM} {m2 : Nat × Nat} (hL2 : LNok f2 m2 la M) (hsc2 : ∃ g, f2 sc = some (601, .inl (0, 144, .inl g))) (hT2 : RAny f2 20 tr la) (hff : zFr zTD f f2) (h0 : Int64) : zV G yX3_digest cX3_digest 4 (some .long) 9 213 [(0, .ref o), (1, .long h0)] [] (f2, m2) (zD (some (.long (sHf (fun i => nI (ch i)) L h0))) (fun f' m' => LNok f' m' la M ∧ (∃ g, f' sc = some (601, .inl (0, 144, .inl g))) ∧ RAny f' 20 tr la ∧ zFr zTD f f')) := by
  obtain ⟨ht0, gt, ht1, ht2⟩ := hp.fr hff (fun h => by rcases h with h | h | h <;> omega) (fun h => by rcases h with h | h | h <;> omega)
  have ho2 := hff _ _ _ ho (fun h => by rcases h with h | h | h <;> omega)
  have hr2 := hr.fr hff (fun k hk h => by rcases h with h | h | h <;> omega)
  have loop : ∀ (kk i : Nat), i + kk = L → zV G yX3_digest cX3_digest 4 (some .long) 9 215 [(0, .ref o), (1, .long (sHf (fun i => nI (ch i)) i h0)), (3, .int (nI i))] [] (f2, m2) (zD (some (.long (sHf (fun i => nI (ch i)) L h0))) (fun f' m' => LNok f' m' la M ∧ (∃ g, f' sc = some (601, .inl (0, 144, .inl g))) ∧ RAny f' 20 tr la ∧ zFr zTD f f')) := by
    intro kk
    induction kk with
    | zero =>
      intro i hi
      have hi : i = L := by omega
      subst hi
      refine v_iload_n dX3_digest_215 rfl rfl ?_
      refine v_aload_n dX3_digest_216 rfl rfl ?_
      refine v_getfield fX3_16 dX3_digest_217 (by assumption) (by rfl) ?_
      refine v_getfield fX3_155 dX3_digest_220 (by assumption) (by rfl) ?_
      refine v_icmp_ge 249 dX3_digest_223 (by decide) (fun b223 => ?_) (fun b223 => ?_)
      · rw [nI_leI (by omega) (by omega)] at b223
        refine v_lload_n dX3_digest_249 rfl rfl ?_
        exact v_lreturn dX3_digest_250 rfl ⟨rfl, hL2, hsc2, hT2, hff⟩
      · rw [nI_leI (by omega) (by omega)] at b223
        omega
    | succ kk ih =>
      intro i hi
      have hi9 : i < L := by omega
      refine v_iload_n dX3_digest_215 rfl rfl ?_
      refine v_aload_n dX3_digest_216 rfl rfl ?_
      refine v_getfield fX3_16 dX3_digest_217 (by assumption) (by rfl) ?_
      refine v_getfield fX3_155 dX3_digest_220 (by assumption) (by rfl) ?_
      refine v_icmp_ge 249 dX3_digest_223 (by decide) (fun b223 => ?_) (fun b223 => ?_)
      · rw [nI_leI (by omega) (by omega)] at b223
        omega
      · rw [nI_leI (by omega) (by omega)] at b223
        refine v_ldc2 (31) dX3_digest_226 gD31 ?_
        refine v_lload_n dX3_digest_229 rfl rfl ?_
        refine v_lmul dX3_digest_230 ?_
        refine v_aload_n dX3_digest_231 rfl rfl ?_
        refine v_getfield fX3_16 dX3_digest_232 (by assumption) (by rfl) ?_
        refine v_getfield fX3_292 dX3_digest_235 (by assumption) (by rfl) ?_
        refine v_iload_n dX3_digest_238 rfl rfl ?_
        refine v_caload dX3_digest_239 ht1 (vp_in_nI (by omega) (by omega)) ?_
        rw [nI_clamp (by omega), (ht2 i hi9).1]
        refine v_i2l dX3_digest_240 ?_
        refine v_ladd dX3_digest_241 ?_
        rw [sHf_s (fun i => nI (ch i)) i h0]
        refine v_lstore_n dX3_digest_242 rfl (by decide) ?_
        refine v_iincN dX3_digest_243 rfl (by decide) ?_
        refine v_goto 215 dX3_digest_246 (by decide) ?_
        exact v_loc (lv' := [(0, .ref o), (1, .long (sHf (fun i => nI (ch i)) (i + 1) h0)), (3, .int (nI (i + 1)))]) ⟨rfl, rfl, rfl, trivial⟩ (ih (i + 1) (by omega))
  refine v_iconst (nI 0) dX3_digest_213 (by decide) ?_
  refine v_istore_n dX3_digest_214 rfl (by decide) ?_
  exact v_loc (lv' := [(0, .ref o), (1, .long (sHf (fun i => nI (ch i)) 0 h0)), (3, .int (nI 0))]) ⟨rfl, rfl, rfl, trivial⟩ (loop L 0 (by omega))
set_option maxRecDepth 10000 in
set_option maxHeartbeats 1000000 in
theorem c_dig3 {G : zW} {f : zHM} {o r tr sc tx sl sv k la n : Nat} {A : Nat → Nat} {ρ : zRS} {xs tm : Nat → Int32} (ho : f o = some (600, .inr (3, zOb r tr sc tx sl sv k))) (hr : RPic f 0 r la A ρ n xs tm) (hn200 : n ≤ 200) {M : Nat × Nat} {N s : Nat} (hw : RW ρ N s n) {a u : Nat} (ha : a < N) (hu : u < 3) (hat : ρ 0 1 = nI a) (hnow : ρ 0 2 = nI u) {gs : Nat → Option Nat} {ss : Nat → Option zST} (hk0 : SLP f sl la gs ss) {co L : Nat} {ch : Nat → Nat} (hp : TPic f 602 tx co L ch) (hL60 : L ≤ 60) {f2 : zHM} {m2 : Nat × Nat} (hL2 : LNok f2 m2 la M) (hsc2 : ∃ g, f2 sc = some (601, .inl (0, 144, .inl g))) (hT2 : RAny f2 20 tr la) (hff : zFr zTD f f2) (h0 : Int64) : zV G yX3_digest cX3_digest 4 (some .long) 9 163 [(0, .ref o), (1, .long h0)] [] (f2, m2) (zD (some (.long (sDg3 gs ch L h0))) (fun f' m' => LNok f' m' la M ∧ (∃ g, f' sc = some (601, .inl (0, 144, .inl g))) ∧ RAny f' 20 tr la ∧ zFr zTD f f')) := by
  have hp2 := hp.fr hff (fun h => by rcases h with h | h | h <;> omega) (fun h => by rcases h with h | h | h <;> omega)
  have ht0 := hp2.1
  have hk2 := hk0.1
  have hk2 := hff _ _ _ hk2 (fun h => by rcases h with h | h | h <;> omega)
  have ho2 := hff _ _ _ ho (fun h => by rcases h with h | h | h <;> omega)
  have hr2 := hr.fr hff (fun k hk h => by rcases h with h | h | h <;> omega)
  have loop : ∀ (kk i : Nat), i + kk = 2 → zV G yX3_digest cX3_digest 4 (some .long) 9 165 [(0, .ref o), (1, .long (sHf (sSl gs) i h0)), (3, .int (nI i))] [] (f2, m2) (zD (some (.long (sDg3 gs ch L h0))) (fun f' m' => LNok f' m' la M ∧ (∃ g, f' sc = some (601, .inl (0, 144, .inl g))) ∧ RAny f' 20 tr la ∧ zFr zTD f f')) := by
    intro kk
    induction kk with
    | zero =>
      intro i hi
      have hi : i = 2 := by omega
      subst hi
      refine v_iload_n dX3_digest_165 rfl rfl ?_
      refine v_iconst (nI 2) dX3_digest_166 (by decide) ?_
      refine v_icmp_ge 198 dX3_digest_167 (by decide) (fun b167 => ?_) (fun b167 => ?_)
      · rw [nI_leI (by omega) (by omega)] at b167
        refine v_ldc2 (31) dX3_digest_198 gD31 ?_
        refine v_lload_n dX3_digest_201 rfl rfl ?_
        refine v_lmul dX3_digest_202 ?_
        refine v_aload_n dX3_digest_203 rfl rfl ?_
        refine v_getfield fX3_16 dX3_digest_204 (by assumption) (by rfl) ?_
        refine v_getfield fX3_155 dX3_digest_207 (by assumption) (by rfl) ?_
        refine v_i2l dX3_digest_210 ?_
        refine v_ladd dX3_digest_211 ?_
        refine v_lstore_n dX3_digest_212 rfl (by decide) ?_
        exact v_loc (lv' := [(0, .ref o), (1, .long (31 * sHf (sSl gs) 2 h0 + (nI L).toInt64))]) ⟨rfl, rfl, trivial⟩ (c_dig4 ho hr hn200 hw ha hu hat hnow hk0 hp hL60 hL2 hsc2 hT2 hff _)
      · rw [nI_leI (by omega) (by omega)] at b167
        omega
    | succ kk ih =>
      intro i hi
      have hi9 : i < 2 := by omega
      refine v_iload_n dX3_digest_165 rfl rfl ?_
      refine v_iconst (nI 2) dX3_digest_166 (by decide) ?_
      refine v_icmp_ge 198 dX3_digest_167 (by decide) (fun b167 => ?_) (fun b167 => ?_)
      · rw [nI_leI (by omega) (by omega)] at b167
        omega
      · rw [nI_leI (by omega) (by omega)] at b167
        refine v_ldc2 (31) dX3_digest_170 gD31 ?_
        refine v_lload_n dX3_digest_173 rfl rfl ?_
        refine v_lmul dX3_digest_174 ?_
        refine v_aload_n dX3_digest_175 rfl rfl ?_
        refine v_getfield fX3_22 dX3_digest_176 (by assumption) (by rfl) ?_
        refine v_iload_n dX3_digest_179 rfl rfl ?_
        refine v_aaloadR dX3_digest_180 hk2 (vp_in_nI (by omega) (by omega)) ?_
        rw [nI_clamp (by omega)]
        cases hg : gs i with
        | none =>
          refine v_ifnonnullN dX3_digest_181 ?_
          refine v_iconst 0 dX3_digest_184 (by decide) ?_
          refine v_goto 189 dX3_digest_185 (by decide) ?_
          refine v_i2l dX3_digest_189 ?_
          refine v_ladd dX3_digest_190 ?_
          rw [show (31 * sHf (sSl gs) i h0 + (0 : Int32).toInt64) = sHf (sSl gs) (i + 1) h0 from by rw [← show sSl gs i = 0 from by unfold sSl; rw [hg]; rfl]; rfl]
          refine v_lstore_n dX3_digest_191 rfl (by decide) ?_
          refine v_iincN dX3_digest_192 rfl (by decide) ?_
          refine v_goto 165 dX3_digest_195 (by decide) ?_
          exact v_loc (lv' := [(0, .ref o), (1, .long (sHf (sSl gs) (i + 1) h0)), (3, .int (nI (i + 1)))]) ⟨rfl, rfl, rfl, trivial⟩ (ih (i + 1) (by omega))
        | some q =>
          refine v_ifnonnull 188 dX3_digest_181 (by decide) ?_
          refine v_iconst 1 dX3_digest_188 (by decide) ?_
          refine v_i2l dX3_digest_189 ?_
          refine v_ladd dX3_digest_190 ?_
          rw [show (31 * sHf (sSl gs) i h0 + (1 : Int32).toInt64) = sHf (sSl gs) (i + 1) h0 from by rw [← show sSl gs i = 1 from by unfold sSl; rw [hg]; rfl]; rfl]
          refine v_lstore_n dX3_digest_191 rfl (by decide) ?_
          refine v_iincN dX3_digest_192 rfl (by decide) ?_
          refine v_goto 165 dX3_digest_195 (by decide) ?_
          exact v_loc (lv' := [(0, .ref o), (1, .long (sHf (sSl gs) (i + 1) h0)), (3, .int (nI (i + 1)))]) ⟨rfl, rfl, rfl, trivial⟩ (ih (i + 1) (by omega))
  refine v_iconst (nI 0) dX3_digest_163 (by decide) ?_
  refine v_istore_n dX3_digest_164 rfl (by decide) ?_
  exact v_loc (lv' := [(0, .ref o), (1, .long (sHf (sSl gs) 0 h0)), (3, .int (nI 0))]) ⟨rfl, rfl, rfl, trivial⟩ (loop 2 0 (by omega))
set_option maxRecDepth 10000 in
set_option maxHeartbeats 1000000 in
theorem c_dig2 {G : zW} {f : zHM} {o r tr sc tx sl sv k la n : Nat} {A : Nat → Nat} {ρ : zRS} {xs tm : Nat → Int32} (ho : f o = some (600, .inr (3, zOb r tr sc tx sl sv k))) (hr : RPic f 0 r la A ρ n xs tm) (hn200 : n ≤ 200) {M : Nat × Nat} {N s : Nat} (hw : RW ρ N s n) {a u : Nat} (ha : a < N) (hu : u < 3) (hat : ρ 0 1 = nI a) (hnow : ρ 0 2 = nI u) {gs : Nat → Option Nat} {ss : Nat → Option zST} (hk0 : SLP f sl la gs ss) {co L : Nat} {ch : Nat → Nat} (hp : TPic f 602 tx co L ch) (hL60 : L ≤ 60) {f2 : zHM} {m2 : Nat × Nat} (hL2 : LNok f2 m2 la M) (hsc2 : ∃ g, f2 sc = some (601, .inl (0, 144, .inl g))) (hT2 : RAny f2 20 tr la) (hff : zFr zTD f f2) (h0 : Int64) : zV G yX3_digest cX3_digest 4 (some .long) 9 61 [(0, .ref o), (1, .long h0)] [] (f2, m2) (zD (some (.long (sDg3 gs ch L (sDg2 ρ n N s xs tm a u h0)))) (fun f' m' => LNok f' m' la M ∧ (∃ g, f' sc = some (601, .inl (0, 144, .inl g))) ∧ RAny f' 20 tr la ∧ zFr zTD f f')) := by
  have hv := hw.1
  have hv9 := hv.pos
  have hN4 := hv.2.2.2
  obtain ⟨k9, hk9, hk8⟩ := sThat_nI ρ 0
  have hsh : sShare ρ = sSh k9 := by unfold sShare sSh; rw [hk8]
  have ho2 := hff _ _ _ ho (fun h => by rcases h with h | h | h <;> omega)
  have hr2 := hr.fr hff (fun k hk h => by rcases h with h | h | h <;> omega)
  refine v_aload_n dX3_digest_61 rfl rfl ?_
  refine v_lload_n dX3_digest_62 rfl rfl ?_
  refine v_callV1 kX3_255 gi_X3_withNails ge_X3_withNails rfl dX3_digest_63 (by assumption) (c_withNails ho2 hr2 (by omega) hL2 hw ha hu hat hnow _) rfl rfl (by decide) (Nat.le_of_ble_eq_true rfl) (fun f m hc => ?_)
  have hff := hff.trans (hc.2.weaken (T' := zTD) (fun τ h => Or.inl h))
  have hsc2 := hsc2.imp (fun g hg => hc.2 _ _ _ hg (by omega))
  have hT2 := hT2.fr hc.2 (fun k hk h => by omega)
  have hL2 := hc.1
  have ho2 := hff _ _ _ ho (fun h => by rcases h with h | h | h <;> omega)
  have hr2 := hr.fr hff (fun k hk h => by rcases h with h | h | h <;> omega)
  refine v_lstore_n dX3_digest_66 rfl (by decide) ?_
  refine v_aload_n dX3_digest_67 rfl rfl ?_
  refine v_lload_n dX3_digest_68 rfl rfl ?_
  refine v_callV1 kX3_259 gi_X3_withSpools ge_X3_withSpools rfl dX3_digest_69 (by assumption) (c_withSpools ho2 hr2 (by omega) hL2 hw ha hu hat hnow _) rfl rfl (by decide) (Nat.le_of_ble_eq_true rfl) (fun f m hc => ?_)
  have hff := hff.trans (hc.2.weaken (T' := zTD) (fun τ h => Or.inl h))
  have hsc2 := hsc2.imp (fun g hg => hc.2 _ _ _ hg (by omega))
  have hT2 := hT2.fr hc.2 (fun k hk h => by omega)
  have hL2 := hc.1
  have ho2 := hff _ _ _ ho (fun h => by rcases h with h | h | h <;> omega)
  have hr2 := hr.fr hff (fun k hk h => by rcases h with h | h | h <;> omega)
  refine v_lstore_n dX3_digest_72 rfl (by decide) ?_
  refine v_aload_n dX3_digest_73 rfl rfl ?_
  refine v_lload_n dX3_digest_74 rfl rfl ?_
  refine v_callV1 kX3_262 gi_X3_withChordsLying ge_X3_withChordsLying rfl dX3_digest_75 (by assumption) (c_withChordsLying ho2 hr2 (by omega) hL2 hw ha hu hat hnow _) rfl rfl (by decide) (Nat.le_of_ble_eq_true rfl) (fun f m hc => ?_)
  have hff := hff.trans (hc.2.weaken (T' := zTD) (fun τ h => Or.inl h))
  have hsc2 := hsc2.imp (fun g hg => hc.2 _ _ _ hg (by omega))
  have hT2 := hT2.fr hc.2 (fun k hk h => by omega)
  have hL2 := hc.1
  have ho2 := hff _ _ _ ho (fun h => by rcases h with h | h | h <;> omega)
  have hr2 := hr.fr hff (fun k hk h => by rcases h with h | h | h <;> omega)
  refine v_lstore_n dX3_digest_78 rfl (by decide) ?_
  refine v_aload_n dX3_digest_79 rfl rfl ?_
  refine v_lload_n dX3_digest_80 rfl rfl ?_
  refine v_callV1 kX3_265 gi_X3_withSquares ge_X3_withSquares rfl dX3_digest_81 (by assumption) (c_withSquares ho2 hr2 (by omega) hL2 hw ha hu hat hnow _) rfl rfl (by decide) (Nat.le_of_ble_eq_true rfl) (fun f m hc => ?_)
  have hff := hff.trans (hc.2.weaken (T' := zTD) (fun τ h => Or.inl h))
  have hsc2 := hsc2.imp (fun g hg => hc.2 _ _ _ hg (by omega))
  have hT2 := hT2.fr hc.2 (fun k hk h => by omega)
  have hL2 := hc.1
  have ho2 := hff _ _ _ ho (fun h => by rcases h with h | h | h <;> omega)
  have hr2 := hr.fr hff (fun k hk h => by rcases h with h | h | h <;> omega)
  refine v_lstore_n dX3_digest_84 rfl (by decide) ?_
  refine v_aload_n dX3_digest_85 rfl rfl ?_
  refine v_lload_n dX3_digest_86 rfl rfl ?_
  refine v_iconst (nI 0) dX3_digest_87 (by decide) ?_
  refine v_iconst (nI 1) dX3_digest_88 (by decide) ?_
  refine v_callV1 kX3_268 gi_X3_withChord ge_X3_withChord rfl dX3_digest_89 (by assumption) (c_withChord ho2 hr2 (by omega) hL2 hw ha hu hat hnow _ (by omega) (by omega)) rfl rfl (by decide) (Nat.le_of_ble_eq_true rfl) (fun f m hc => ?_)
  have hff := hff.trans (hc.2.weaken (T' := zTD) (fun τ h => Or.inl h))
  have hsc2 := hsc2.imp (fun g hg => hc.2 _ _ _ hg (by omega))
  have hT2 := hT2.fr hc.2 (fun k hk h => by omega)
  have hL2 := hc.1
  have ho2 := hff _ _ _ ho (fun h => by rcases h with h | h | h <;> omega)
  have hr2 := hr.fr hff (fun k hk h => by rcases h with h | h | h <;> omega)
  refine v_lstore_n dX3_digest_92 rfl (by decide) ?_
  refine v_aload_n dX3_digest_93 rfl rfl ?_
  refine v_lload_n dX3_digest_94 rfl rfl ?_
  refine v_iconst (nI 0) dX3_digest_95 (by decide) ?_
  refine v_iconst (nI 2) dX3_digest_96 (by decide) ?_
  refine v_callV1 kX3_268 gi_X3_withChord ge_X3_withChord rfl dX3_digest_97 (by assumption) (c_withChord ho2 hr2 (by omega) hL2 hw ha hu hat hnow _ (by omega) (by omega)) rfl rfl (by decide) (Nat.le_of_ble_eq_true rfl) (fun f m hc => ?_)
  have hff := hff.trans (hc.2.weaken (T' := zTD) (fun τ h => Or.inl h))
  have hsc2 := hsc2.imp (fun g hg => hc.2 _ _ _ hg (by omega))
  have hT2 := hT2.fr hc.2 (fun k hk h => by omega)
  have hL2 := hc.1
  have ho2 := hff _ _ _ ho (fun h => by rcases h with h | h | h <;> omega)
  have hr2 := hr.fr hff (fun k hk h => by rcases h with h | h | h <;> omega)
  refine v_lstore_n dX3_digest_100 rfl (by decide) ?_
  refine v_ldc2 (31) dX3_digest_101 gD31 ?_
  refine v_lload_n dX3_digest_104 rfl rfl ?_
  refine v_lmul dX3_digest_105 ?_
  refine v_aload_n dX3_digest_106 rfl rfl ?_
  refine v_callV1 kX3_272 gi_X3_best ge_X3_best rfl dX3_digest_107 (by assumption) (c_best ho2 hr2 hv hL2 ha hu hat hnow) rfl rfl (by decide) (Nat.le_of_ble_eq_true rfl) (fun f m hc => ?_)
  have hff := hff.trans (hc.2.weaken (T' := zTD) (fun τ h => Or.inl h))
  have hsc2 := hsc2.imp (fun g hg => hc.2 _ _ _ hg (by omega))
  have hT2 := hT2.fr hc.2 (fun k hk h => by omega)
  have hL2 := hc.1
  have ho2 := hff _ _ _ ho (fun h => by rcases h with h | h | h <;> omega)
  have hr2 := hr.fr hff (fun k hk h => by rcases h with h | h | h <;> omega)
  refine v_i2l dX3_digest_110 ?_
  refine v_ladd dX3_digest_111 ?_
  refine v_lstore_n dX3_digest_112 rfl (by decide) ?_
  refine v_ldc2 (31) dX3_digest_113 gD31 ?_
  refine v_lload_n dX3_digest_116 rfl rfl ?_
  refine v_lmul dX3_digest_117 ?_
  refine v_aload_n dX3_digest_118 rfl rfl ?_
  refine v_callV1 kX3_275 gi_X3_bestTwo ge_X3_bestTwo rfl dX3_digest_119 (by assumption) (c_bestTwo ho2 hr2 hn200 hL2 hT2 hw ha hu hat hnow) rfl rfl (by decide) (Nat.le_of_ble_eq_true rfl) (fun f m hc => ?_)
  obtain ⟨hL2, hT2, hz⟩ := hc
  have hff := hff.trans (hz.weaken (T' := zTD) (fun τ h => h.elim Or.inl (fun h => Or.inr (Or.inr h))))
  have hsc2 := hsc2.imp (fun g hg => hz _ _ _ hg (fun h => by rcases h with h | h <;> omega))
  have ho2 := hff _ _ _ ho (fun h => by rcases h with h | h | h <;> omega)
  have hr2 := hr.fr hff (fun k hk h => by rcases h with h | h | h <;> omega)
  refine v_i2l dX3_digest_122 ?_
  refine v_ladd dX3_digest_123 ?_
  refine v_lstore_n dX3_digest_124 rfl (by decide) ?_
  refine v_ldc2 (31) dX3_digest_125 gD31 ?_
  refine v_lload_n dX3_digest_128 rfl rfl ?_
  refine v_lmul dX3_digest_129 ?_
  refine v_aload_n dX3_digest_130 rfl rfl ?_
  refine v_callVp kX3_278 gi_X3_palest ge_X3_palest rfl dX3_digest_131 (by assumption) (c_palest ho2 hr2) rfl rfl (by decide) (Nat.le_of_ble_eq_true rfl) ?_
  refine v_i2l dX3_digest_134 ?_
  refine v_ladd dX3_digest_135 ?_
  refine v_lstore_n dX3_digest_136 rfl (by decide) ?_
  refine v_ldc2 (31) dX3_digest_137 gD31 ?_
  refine v_lload_n dX3_digest_140 rfl rfl ?_
  refine v_lmul dX3_digest_141 ?_
  refine v_aload_n dX3_digest_142 rfl rfl ?_
  refine v_callV1 kX3_281 gi_X3_bestSpool ge_X3_bestSpool rfl dX3_digest_143 (by assumption) (c_bestSpool ho2 hr2 (by omega) hL2 hT2 hw ha hu hat hnow) rfl rfl (by decide) (Nat.le_of_ble_eq_true rfl) (fun f m hc => ?_)
  obtain ⟨hL2, hT2, hz⟩ := hc
  have hff := hff.trans (hz.weaken (T' := zTD) (fun τ h => h.elim Or.inl (fun h => Or.inr (Or.inr h))))
  have hsc2 := hsc2.imp (fun g hg => hz _ _ _ hg (fun h => by rcases h with h | h <;> omega))
  have ho2 := hff _ _ _ ho (fun h => by rcases h with h | h | h <;> omega)
  have hr2 := hr.fr hff (fun k hk h => by rcases h with h | h | h <;> omega)
  refine v_i2l dX3_digest_146 ?_
  refine v_ladd dX3_digest_147 ?_
  refine v_lstore_n dX3_digest_148 rfl (by decide) ?_
  refine v_ldc2 (31) dX3_digest_149 gD31 ?_
  refine v_lload_n dX3_digest_152 rfl rfl ?_
  refine v_lmul dX3_digest_153 ?_
  refine v_aload_n dX3_digest_154 rfl rfl ?_
  refine v_callVp kX3_284 gi_X3_shownShare ge_X3_shownShare rfl dX3_digest_155 (by assumption) (c_shownShare ho2 hr2) rfl rfl (by decide) (Nat.le_of_ble_eq_true rfl) ?_
  rw [hsh]
  refine v_callSp kX3_288 gs_X3_bitsOf dX3_digest_158 (c_bitsOf (by omega)) rfl rfl (by decide) (Nat.le_of_ble_eq_true rfl) ?_
  rw [← hsh]
  refine v_ladd dX3_digest_161 ?_
  refine v_lstore_n dX3_digest_162 rfl (by decide) ?_
  exact v_loc (lv' := [(0, .ref o), (1, .long (sDg2 ρ n N s xs tm a u h0))]) ⟨rfl, rfl, trivial⟩ (c_dig3 ho hr hn200 hw ha hu hat hnow hk0 hp hL60 hL2 hsc2 hT2 hff _)
set_option maxRecDepth 10000 in
set_option maxHeartbeats 1000000 in
theorem c_dig1 {G : zW} {f : zHM} {o r tr sc tx sl sv k la n : Nat} {A : Nat → Nat} {ρ : zRS} {xs tm : Nat → Int32} (ho : f o = some (600, .inr (3, zOb r tr sc tx sl sv k))) (hr : RPic f 0 r la A ρ n xs tm) (hn200 : n ≤ 200) {M : Nat × Nat} {N s : Nat} (hw : RW ρ N s n) {a u : Nat} (ha : a < N) (hu : u < 3) (hat : ρ 0 1 = nI a) (hnow : ρ 0 2 = nI u) {gs : Nat → Option Nat} {ss : Nat → Option zST} (hk0 : SLP f sl la gs ss) {co L : Nat} {ch : Nat → Nat} (hp : TPic f 602 tx co L ch) (hL60 : L ≤ 60) {f2 : zHM} {m2 : Nat × Nat} (hL2 : LNok f2 m2 la M) (hsc2 : ∃ g, f2 sc = some (601, .inl (0, 144, .inl g))) (hT2 : RAny f2 20 tr la) (hff : zFr zTD f f2) (h0 : Int64) : zV G yX3_digest cX3_digest 4 (some .long) 9 31 [(0, .ref o), (1, .long h0)] [] (f2, m2) (zD (some (.long (sDg3 gs ch L (sDg2 ρ n N s xs tm a u (sHf (ρ 3) 3 h0))))) (fun f' m' => LNok f' m' la M ∧ (∃ g, f' sc = some (601, .inl (0, 144, .inl g))) ∧ RAny f' 20 tr la ∧ zFr zTD f f')) := by
  have ho2 := hff _ _ _ ho (fun h => by rcases h with h | h | h <;> omega)
  have hr2 := hr.fr hff (fun k hk h => by rcases h with h | h | h <;> omega)
  obtain ⟨r0, -, -, ⟨g3, a3, e3⟩, -⟩ := id hr2
  have loop : ∀ (kk i : Nat), i + kk = 3 → zV G yX3_digest cX3_digest 4 (some .long) 9 33 [(0, .ref o), (1, .long (sHf (ρ 3) i h0)), (3, .int (nI i))] [] (f2, m2) (zD (some (.long (sDg3 gs ch L (sDg2 ρ n N s xs tm a u (sHf (ρ 3) 3 h0))))) (fun f' m' => LNok f' m' la M ∧ (∃ g, f' sc = some (601, .inl (0, 144, .inl g))) ∧ RAny f' 20 tr la ∧ zFr zTD f f')) := by
    intro kk
    induction kk with
    | zero =>
      intro i hi
      have hi : i = 3 := by omega
      subst hi
      refine v_iload_n dX3_digest_33 rfl rfl ?_
      refine v_iconst (nI 3) dX3_digest_34 (by decide) ?_
      refine v_icmp_ge 61 dX3_digest_35 (by decide) (fun b35 => ?_) (fun b35 => ?_)
      · rw [nI_leI (by omega) (by omega)] at b35
        exact v_loc (lv' := [(0, .ref o), (1, .long (sHf (ρ 3) 3 h0))]) ⟨rfl, rfl, trivial⟩ (c_dig2 ho hr hn200 hw ha hu hat hnow hk0 hp hL60 hL2 hsc2 hT2 hff _)
      · rw [nI_leI (by omega) (by omega)] at b35
        omega
    | succ kk ih =>
      intro i hi
      have hi9 : i < 3 := by omega
      refine v_iload_n dX3_digest_33 rfl rfl ?_
      refine v_iconst (nI 3) dX3_digest_34 (by decide) ?_
      refine v_icmp_ge 61 dX3_digest_35 (by decide) (fun b35 => ?_) (fun b35 => ?_)
      · rw [nI_leI (by omega) (by omega)] at b35
        omega
      · rw [nI_leI (by omega) (by omega)] at b35
        refine v_ldc2 (31) dX3_digest_38 gD31 ?_
        refine v_lload_n dX3_digest_41 rfl rfl ?_
        refine v_lmul dX3_digest_42 ?_
        refine v_aload_n dX3_digest_43 rfl rfl ?_
        refine v_getfield fX3_34 dX3_digest_44 (by assumption) (by rfl) ?_
        refine v_getfield fX3_104 dX3_digest_47 (by assumption) (by rfl) ?_
        refine v_iload_n dX3_digest_50 rfl rfl ?_
        refine v_iaload dX3_digest_51 a3 (vp_in_nI (by omega) (by omega)) ?_
        rw [nI_clamp (by omega), e3 i hi9]
        refine v_i2l dX3_digest_52 ?_
        refine v_ladd dX3_digest_53 ?_
        rw [sHf_s (ρ 3) i h0]
        refine v_lstore_n dX3_digest_54 rfl (by decide) ?_
        refine v_iincN dX3_digest_55 rfl (by decide) ?_
        refine v_goto 33 dX3_digest_58 (by decide) ?_
        exact v_loc (lv' := [(0, .ref o), (1, .long (sHf (ρ 3) (i + 1) h0)), (3, .int (nI (i + 1)))]) ⟨rfl, rfl, rfl, trivial⟩ (ih (i + 1) (by omega))
  refine v_iconst (nI 0) dX3_digest_31 (by decide) ?_
  refine v_istore_n dX3_digest_32 rfl (by decide) ?_
  exact v_loc (lv' := [(0, .ref o), (1, .long (sHf (ρ 3) 0 h0)), (3, .int (nI 0))]) ⟨rfl, rfl, rfl, trivial⟩ (loop 3 0 (by omega))
set_option maxRecDepth 10000 in
set_option maxHeartbeats 1000000 in
theorem c_digest {G : zW} {f : zHM} {m : Nat × Nat} {o r tr sc tx sl sv k la n : Nat} {A : Nat → Nat} {ρ : zRS} {xs tm : Nat → Int32} (ho : f o = some (600, .inr (3, zOb r tr sc tx sl sv k))) (hr : RPic f 0 r la A ρ n xs tm) (hn200 : n ≤ 200) {M : Nat × Nat} {N s : Nat} (hw : RW ρ N s n) {a u : Nat} (ha : a < N) (hu : u < 3) (hat : ρ 0 1 = nI a) (hnow : ρ 0 2 = nI u) {gs : Nat → Option Nat} {ss : Nat → Option zST} (hk0 : SLP f sl la gs ss) {co L : Nat} {ch : Nat → Nat} (hp : TPic f 602 tx co L ch) (hL60 : L ≤ 60) (hL : LNok f m la M) (hsc : ∃ g, f sc = some (601, .inl (0, 144, .inl g))) (hT : RAny f 20 tr la) : zM G yX3_digest cX3_digest 4 (some .long) 9 [.ref o] (f, m) (zD (some (.long (sDg ρ n N s xs tm a u k gs ch L))) (fun f' m' => LNok f' m' la M ∧ (∃ g, f' sc = some (601, .inl (0, 144, .inl g))) ∧ RAny f' 20 tr la ∧ zFr zTD f f')) := by
  refine zM.of (by decide) (Nat.le_of_ble_eq_true rfl) ?_
  have loop : ∀ (kk i : Nat), i + kk = 13 → ∀ (f2 : zHM) (m2 : Nat × Nat), LNok f2 m2 la M → (∃ g, f2 sc = some (601, .inl (0, 144, .inl g))) → RAny f2 20 tr la → zFr zTD f f2 → zV G yX3_digest cX3_digest 4 (some .long) 9 6 [(0, .ref o), (1, .long (sHf (sCount ρ s n k) i 3301)), (3, .int (nI i))] [] (f2, m2) (zD (some (.long (sDg ρ n N s xs tm a u k gs ch L))) (fun f' m' => LNok f' m' la M ∧ (∃ g, f' sc = some (601, .inl (0, 144, .inl g))) ∧ RAny f' 20 tr la ∧ zFr zTD f f')) := by
    intro kk
    induction kk with
    | zero =>
      intro i hi f2 m2 hL2 hsc2 hT2 hff
      have hi : i = 13 := by omega
      subst hi
      refine v_iload_n dX3_digest_6 rfl rfl ?_
      refine v_bipush (nI 13) dX3_digest_7 (by decide) ?_
      refine v_icmp_ge 31 dX3_digest_9 (by decide) (fun b9 => ?_) (fun b9 => ?_)
      · rw [nI_leI (by omega) (by omega)] at b9
        exact v_loc (lv' := [(0, .ref o), (1, .long (sHf (sCount ρ s n k) 13 3301))]) ⟨rfl, rfl, trivial⟩ (c_dig1 ho hr hn200 hw ha hu hat hnow hk0 hp hL60 hL2 hsc2 hT2 hff _)
      · rw [nI_leI (by omega) (by omega)] at b9
        omega
    | succ kk ih =>
      intro i hi f2 m2 hL2 hsc2 hT2 hff
      have hi9 : i < 13 := by omega
      obtain ⟨gg, hg2⟩ := hsc2
      have ho2 := hff _ _ _ ho (fun h => by rcases h with h | h | h <;> omega)
      have hr2 := hr.fr hff (fun k hk h => by rcases h with h | h | h <;> omega)
      refine v_iload_n dX3_digest_6 rfl rfl ?_
      refine v_bipush (nI 13) dX3_digest_7 (by decide) ?_
      refine v_icmp_ge 31 dX3_digest_9 (by decide) (fun b9 => ?_) (fun b9 => ?_)
      · rw [nI_leI (by omega) (by omega)] at b9
        omega
      · rw [nI_leI (by omega) (by omega)] at b9
        refine v_ldc2 (31) dX3_digest_12 gD31 ?_
        refine v_lload_n dX3_digest_15 rfl rfl ?_
        refine v_lmul dX3_digest_16 ?_
        refine v_aload_n dX3_digest_17 rfl rfl ?_
        refine v_iload_n dX3_digest_18 rfl rfl ?_
        refine v_callV1 kX3_252 gi_X3_count ge_X3_count rfl dX3_digest_19 (by assumption) (c_count ho2 hr2 hw hL2 hg2 (by omega)) rfl rfl (by decide) (Nat.le_of_ble_eq_true rfl) (fun f m hc => ?_)
        obtain ⟨hsc2, hL2, hz⟩ := hc
        have hff := hff.trans (hz.weaken (T' := zTD) (fun τ h => h.elim Or.inl (fun h => Or.inr (Or.inl h))))
        have hT2 := hT2.fr hz (fun k hk h => by rcases h with h | h <;> omega)
        have ho2 := hff _ _ _ ho (fun h => by rcases h with h | h | h <;> omega)
        have hr2 := hr.fr hff (fun k hk h => by rcases h with h | h | h <;> omega)
        refine v_i2l dX3_digest_22 ?_
        refine v_ladd dX3_digest_23 ?_
        rw [sHf_s (sCount ρ s n k) i 3301]
        refine v_lstore_n dX3_digest_24 rfl (by decide) ?_
        refine v_iincN dX3_digest_25 rfl (by decide) ?_
        refine v_goto 6 dX3_digest_28 (by decide) ?_
        exact v_loc (lv' := [(0, .ref o), (1, .long (sHf (sCount ρ s n k) (i + 1) 3301)), (3, .int (nI (i + 1)))]) ⟨rfl, rfl, rfl, trivial⟩ (ih (i + 1) (by omega) _ _ hL2 hsc2 hT2 hff)
  refine v_ldc2 (3301) dX3_digest_0 gD33 ?_
  refine v_lstore_n dX3_digest_3 rfl (by decide) ?_
  refine v_iconst (nI 0) dX3_digest_4 (by decide) ?_
  refine v_istore_n dX3_digest_5 rfl (by decide) ?_
  exact v_loc (lv' := [(0, .ref o), (1, .long (sHf (sCount ρ s n k) 0 3301)), (3, .int (nI 0))]) ⟨rfl, rfl, rfl, trivial⟩ (loop 13 0 (by omega) f m hL hsc hT zFr.refl)
