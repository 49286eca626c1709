/-- the reference's square of a point -/
def sMk (v : Int32) : Int32 := if v = 120 then 11 else v / 10
def sPush (l : List Nat) (q : Nat) : List Nat := if q ∈ l then l else l ++ [q]
/-- the squares in the order in which they are first met -/
def sDL (lo hi : Nat) : Nat → List Nat
  | 0 => []
  | k + 1 => sPush (sDL lo hi k) (sSq lo hi k)
theorem sTr_s (lo hi k : Nat) : sTr lo hi (k + 1) = if ((sTr lo hi k).length ≠ 0 ∧ (sTr lo hi k).getD ((sTr lo hi k).length - 1) 0 = sSq lo hi k) ∨ 23 ≤ (sTr lo hi k).length then sTr lo hi k else sTr lo hi k ++ [sSq lo hi k] := rfl
theorem sTr_pre (lo hi k : Nat) : ∀ j, sTr lo hi k <+: sTr lo hi (k + j)
  | 0 => List.prefix_refl _
  | j + 1 => by
    have h := sTr_pre lo hi k j
    show sTr lo hi k <+: sTr lo hi (k + j + 1)
    rw [sTr_s lo hi (k + j)]
    split
    · exact h
    · exact h.trans (List.prefix_append _ _)
theorem sDL_tr (lo hi K : Nat) (h1 : (sTr lo hi K).length ≤ 19) (h2 : (sTr lo hi K).Nodup) : ∀ k, k ≤ K → sDL lo hi k = sTr lo hi k
  | 0, _ => rfl
  | k + 1, hk => by
    have ih := sDL_tr lo hi K h1 h2 k (by omega)
    have hp : ∀ i, i ≤ K → (sTr lo hi i).length ≤ 19 ∧ (sTr lo hi i).Nodup := fun i hiK => by
      have h := sTr_pre lo hi i (K - i)
      rw [show i + (K - i) = K from by omega] at h
      exact ⟨Nat.le_trans h.length_le h1, List.Nodup.sublist h.sublist h2⟩
    have h3 := hp k (by omega)
    have h4 := hp (k + 1) hk
    show sPush (sDL lo hi k) (sSq lo hi k) = sTr lo hi (k + 1)
    rw [ih]
    rw [sTr_s lo hi k] at h4 ⊢
    by_cases h5 : ((sTr lo hi k).length ≠ 0 ∧ (sTr lo hi k).getD ((sTr lo hi k).length - 1) 0 = sSq lo hi k) ∨ 23 ≤ (sTr lo hi k).length
    · rw [if_pos h5]
      rcases h5 with ⟨h6, h7⟩ | h6
      · unfold sPush
        refine if_pos ?_
        rw [← h7]
        have h8 : (sTr lo hi k).length - 1 < (sTr lo hi k).length := by omega
        rw [List.getD_eq_getElem?_getD, List.getElem?_eq_getElem h8]
        exact List.getElem_mem h8
      · omega
    · rw [if_neg h5] at h4 ⊢
      unfold sPush
      refine if_neg ?_
      intro h6
      have h7 := h4.2
      rw [List.nodup_append] at h7
      exact h7.2.2 _ h6 _ (List.mem_singleton.mpr rfl) rfl
theorem sDL_ok {lo hi : Nat} (h1 : hi < 24) (h2 : lo < hi) : sDL lo hi (sN lo hi + 1) = sPT lo hi := by
  obtain ⟨h3, h4, -⟩ := sPT_ok hi h1 lo h2
  exact sDL_tr lo hi (sN lo hi + 1) h3 h4 _ (Nat.le_refl _)
