section ZCONV2
variable {G : zW} {y : MethodName} {cc : ByteArray} {nL : Nat} {ret : Option FieldType} {d : Nat} {pc : Nat} {lv : List (Nat × Value)} {st : List Value} {f : zHM} {m : Nat × Nat} {Q : zOut → zH → Prop} {tg : Nat}
theorem v_callV0p {b ci : Nat} {vs : List Value} {idx n d2 nL2 : Nat} {y2 : MethodName} {cc2 : ByteArray} {ret2 : Option FieldType} {as rest : List Value} (hc : zCS y.cls idx y2 cc2 nL2 ret2 n) (hin : Cond.instanceMethod y2 ∈ GT) (hse : Cond.selects y2.cls y2 y2 ∈ GT) (hci : zCL[ci]?.map (fun q => q.1) = some y2.cls) (hd : decode cc pc = .ok (.invokevirtual idx, 3)) (hbv : f b = some (tg, .inr (ci, vs))) (hM : zM G y2 cc2 nL2 ret2 d2 (.ref b :: as) (f, m) (zD none (fun f' m' => f' = f ∧ m' = m))) (hs : st = as.reverse ++ .ref b :: rest) (hn : as.length = n) (hdd : d2 + 1 ≤ d) (hW : (rest.map fun v => v.category).sum ≤ 8) (kr : zV G y cc nL ret d (pc + 3) lv rest (f, m) Q) : zV G y cc nL ret d pc lv st (f, m) Q :=
  v_callV0 hc hin hse hci hd hbv hM hs hn hdd hW (fun f' m' h => by obtain ⟨rfl, rfl⟩ := h; exact kr)
theorem v_callS0p {idx n d2 nL2 : Nat} {y2 : MethodName} {cc2 : ByteArray} {ret2 : Option FieldType} {as rest : List Value} (hc : zCS y.cls idx y2 cc2 nL2 ret2 n) (hst : Cond.static y2 ∈ GT) (hd : decode cc pc = .ok (.invokestatic idx, 3)) (hM : zM G y2 cc2 nL2 ret2 d2 as (f, m) (zD none (fun f' m' => f' = f ∧ m' = m))) (hs : st = as.reverse ++ rest) (hn : as.length = n) (hdd : d2 + 1 ≤ d) (hW : (rest.map fun v => v.category).sum ≤ 8) (kr : zV G y cc nL ret d (pc + 3) lv rest (f, m) Q) : zV G y cc nL ret d pc lv st (f, m) Q :=
  v_callS0 hc hst hd hM hs hn hdd hW (fun f' m' h => by obtain ⟨rfl, rfl⟩ := h; exact kr)
end ZCONV2
abbrev zOk (f : zHM) (m : Nat × Nat) : zHM → Nat × Nat → Prop := fun f' m' => f' = f ∧ m' = m
set_option maxRecDepth 10000 in
set_option maxHeartbeats 1000000 in
theorem c_needRange {G : zW} {f : zHM} {m : Nat × Nat} {v a b : Int32} (h1 : ¬ v < a) (h2 : v ≤ b) : zM G yX3_needRange cX3_needRange 3 none 6 [.int v, .int a, .int b] (f, m) (zD none (zOk f m)) := by
  refine zM.of (by decide) (Nat.le_of_ble_eq_true rfl) ?_
  refine v_iload_n dX3_needRange_0 rfl rfl ?_
  refine v_iload_n dX3_needRange_1 rfl rfl ?_
  refine v_icmp_lt 10 dX3_needRange_2 (by decide) (fun b2 => ?_) (fun b2 => ?_)
  · exact absurd b2 h1
  · refine v_iload_n dX3_needRange_5 rfl rfl ?_
    refine v_iload_n dX3_needRange_6 rfl rfl ?_
    refine v_icmp_le 20 dX3_needRange_7 (by decide) (fun b7 => ?_) (fun b7 => ?_)
    · exact v_return dX3_needRange_20 rfl ⟨rfl, rfl, rfl⟩
    · exact absurd h2 b7
set_option maxRecDepth 10000 in
set_option maxHeartbeats 1000000 in
theorem c_needSpool {G : zW} {f : zHM} {m : Nat × Nat} {v : Int32} (h1 : ¬ v < 0) (h2 : v < 3) : zM G yX3_needSpool cX3_needSpool 1 none 6 [.int v] (f, m) (zD none (zOk f m)) := by
  refine zM.of (by decide) (Nat.le_of_ble_eq_true rfl) ?_
  refine v_iload_n dX3_needSpool_0 rfl rfl ?_
  refine v_if_lt 9 dX3_needSpool_1 (by decide) (fun b1 => ?_) (fun b1 => ?_)
  · exact absurd b1 h1
  · refine v_iload_n dX3_needSpool_4 rfl rfl ?_
    refine v_iconst (3) dX3_needSpool_5 (by decide) ?_
    refine v_icmp_lt 20 dX3_needSpool_6 (by decide) (fun b6 => ?_) (fun b6 => ?_)
    · exact v_return dX3_needSpool_20 rfl ⟨rfl, rfl, rfl⟩
    · exact absurd h2 b6
set_option maxRecDepth 10000 in
set_option maxHeartbeats 1000000 in
theorem c_needSetting {G : zW} {f : zHM} {m : Nat × Nat} {v : Int32} (h1 : ¬ v < 0) (h2 : v < 3) : zM G yX3_needSetting cX3_needSetting 1 none 6 [.int v] (f, m) (zD none (zOk f m)) := by
  refine zM.of (by decide) (Nat.le_of_ble_eq_true rfl) ?_
  refine v_iload_n dX3_needSetting_0 rfl rfl ?_
  refine v_if_lt 9 dX3_needSetting_1 (by decide) (fun b1 => ?_) (fun b1 => ?_)
  · exact absurd b1 h1
  · refine v_iload_n dX3_needSetting_4 rfl rfl ?_
    refine v_iconst (3) dX3_needSetting_5 (by decide) ?_
    refine v_icmp_lt 20 dX3_needSetting_6 (by decide) (fun b6 => ?_) (fun b6 => ?_)
    · exact v_return dX3_needSetting_20 rfl ⟨rfl, rfl, rfl⟩
    · exact absurd h2 b6
set_option maxRecDepth 10000 in
set_option maxHeartbeats 1000000 in
theorem c_needSquare {G : zW} {f : zHM} {m : Nat × Nat} {x z : Int32} (h1 : ¬ x < 0) (h2 : ¬ 12 ≤ x) (h3 : ¬ z < 0) (h4 : z < 12) : zM G yX3_needSquare cX3_needSquare 2 none 6 [.int x, .int z] (f, m) (zD none (zOk f m)) := by
  refine zM.of (by decide) (Nat.le_of_ble_eq_true rfl) ?_
  refine v_iload_n dX3_needSquare_0 rfl rfl ?_
  refine v_if_lt 20 dX3_needSquare_1 (by decide) (fun b1 => ?_) (fun b1 => ?_)
  · exact absurd b1 h1
  · refine v_iload_n dX3_needSquare_4 rfl rfl ?_
    refine v_bipush (12) dX3_needSquare_5 (by decide) ?_
    refine v_icmp_ge 20 dX3_needSquare_7 (by decide) (fun b7 => ?_) (fun b7 => ?_)
    · exact absurd b7 h2
    · refine v_iload_n dX3_needSquare_10 rfl rfl ?_
      refine v_if_lt 20 dX3_needSquare_11 (by decide) (fun b11 => ?_) (fun b11 => ?_)
      · exact absurd b11 h3
      · refine v_iload_n dX3_needSquare_14 rfl rfl ?_
        refine v_bipush (12) dX3_needSquare_15 (by decide) ?_
        refine v_icmp_lt 31 dX3_needSquare_17 (by decide) (fun b17 => ?_) (fun b17 => ?_)
        · exact v_return dX3_needSquare_31 rfl ⟨rfl, rfl, rfl⟩
        · exact absurd h4 b17
set_option maxRecDepth 10000 in
set_option maxHeartbeats 1000000 in
theorem c_needNail {G : zW} {f : zHM} {m : Nat × Nat} {la : Nat} {o tg tr : Nat} {vs ws : List Value} {r : Nat} {N : Int32} (r0 : f o = some (tg, .inr (3, .ref r :: vs))) (r1 : f r = some (tr, .inr (1, .ref la :: .int N :: ws))) {v : Int32} (h1 : ¬ v < 0) (h2 : v < N) : zM G yX3_needNail cX3_needNail 2 none 6 [.ref o, .int v] (f, m) (zD none (zOk f m)) := by
  refine zM.of (by decide) (Nat.le_of_ble_eq_true rfl) ?_
  refine v_iload_n dX3_needNail_0 rfl rfl ?_
  refine v_if_lt 15 dX3_needNail_1 (by decide) (fun b1 => ?_) (fun b1 => ?_)
  · exact absurd b1 h1
  · refine v_iload_n dX3_needNail_4 rfl rfl ?_
    refine v_aload_n dX3_needNail_5 rfl rfl ?_
    refine v_getfield fX3_34 dX3_needNail_6 (by assumption) (by rfl) ?_
    refine v_getfield fX3_55 dX3_needNail_9 (by assumption) (by rfl) ?_
    refine v_icmp_lt 26 dX3_needNail_12 (by decide) (fun b12 => ?_) (fun b12 => ?_)
    · exact v_return dX3_needNail_26 rfl ⟨rfl, rfl, rfl⟩
    · exact absurd h2 b12
theorem zlook {z : Int} (h4 : ¬ z = (4 : Int32).toInt) (h6 : ¬ z = (6 : Int32).toInt) (h8 : ¬ z = (8 : Int32).toInt) (h12 : ¬ z = (12 : Int32).toInt) (h24 : ¬ z = (24 : Int32).toInt) : Op.lookupswitch.offset [(4, 51), (6, 54), (8, 56), (12, 58), (24, 60)] 62 z = 62 := by
  rw [show (4 : Int32).toInt = 4 from by decide] at h4
  rw [show (6 : Int32).toInt = 6 from by decide] at h6
  rw [show (8 : Int32).toInt = 8 from by decide] at h8
  rw [show (12 : Int32).toInt = 12 from by decide] at h12
  rw [show (24 : Int32).toInt = 24 from by decide] at h24
  show (if (4 : Int) = z then (51 : Int) else if (6 : Int) = z then 54 else if (8 : Int) = z then 56 else if (12 : Int) = z then 58 else if (24 : Int) = z then 60 else 62) = 62
  rw [if_neg (Ne.symm h4), if_neg (Ne.symm h6), if_neg (Ne.symm h8), if_neg (Ne.symm h12), if_neg (Ne.symm h24)]
def sStepOf (x : Int32) : Int32 := if x = 4 then 6 else if x = 6 then 4 else if x = 8 then 3 else if x = 12 then 2 else if x = 24 then 1 else -1
set_option maxRecDepth 10000 in
set_option maxHeartbeats 1000000 in
theorem c_stepOf {G : zW} {f : zHM} {m : Nat × Nat} {x : Int32} : zM G yX3_stepOf cX3_stepOf 1 (some .int) 1 [.int x] (f, m) (zS (.int (sStepOf x)) f m) := by
  refine zM.of (by decide) (Nat.le_of_ble_eq_true rfl) ?_
  refine v_iload_n dX3_stepOf_0 rfl rfl ?_
  by_cases h4 : x = 4
  · refine v_lookup 52 dX3_stepOf_1 (by decide) (off := 51) (by subst h4; decide) (by decide) ?_
    refine v_bipush (6) dX3_stepOf_52 (by decide) ?_
    exact v_ireturn dX3_stepOf_54 rfl ⟨by subst h4; rfl, rfl, rfl⟩
  by_cases h6 : x = 6
  · refine v_lookup 55 dX3_stepOf_1 (by decide) (off := 54) (by subst h6; decide) (by decide) ?_
    refine v_iconst (4) dX3_stepOf_55 (by decide) ?_
    exact v_ireturn dX3_stepOf_56 rfl ⟨by subst h6; rfl, rfl, rfl⟩
  by_cases h8 : x = 8
  · refine v_lookup 57 dX3_stepOf_1 (by decide) (off := 56) (by subst h8; decide) (by decide) ?_
    refine v_iconst (3) dX3_stepOf_57 (by decide) ?_
    exact v_ireturn dX3_stepOf_58 rfl ⟨by subst h8; rfl, rfl, rfl⟩
  by_cases h12 : x = 12
  · refine v_lookup 59 dX3_stepOf_1 (by decide) (off := 58) (by subst h12; decide) (by decide) ?_
    refine v_iconst (2) dX3_stepOf_59 (by decide) ?_
    exact v_ireturn dX3_stepOf_60 rfl ⟨by subst h12; rfl, rfl, rfl⟩
  by_cases h24 : x = 24
  · refine v_lookup 61 dX3_stepOf_1 (by decide) (off := 60) (by subst h24; decide) (by decide) ?_
    refine v_iconst (1) dX3_stepOf_61 (by decide) ?_
    exact v_ireturn dX3_stepOf_62 rfl ⟨by subst h24; rfl, rfl, rfl⟩
  refine v_lookup 63 dX3_stepOf_1 (by decide) (off := 62) ?_ (by decide) ?_
  · have e : ∀ k : Int32, ¬ x = k → ¬ x.toInt = k.toInt := fun k hk e => hk (Int32.toInt_inj.mp e)
    have e4 := e 4 h4
    have e6 := e 6 h6
    have e8 := e 8 h8
    have e12 := e 12 h12
    have e24 := e 24 h24
    exact zlook e4 e6 e8 e12 e24
  refine v_iconst (-1) dX3_stepOf_63 (by decide) ?_
  exact v_ireturn dX3_stepOf_64 rfl ⟨by unfold sStepOf; rw [if_neg h4, if_neg h6, if_neg h8, if_neg h12, if_neg h24], rfl, rfl⟩
