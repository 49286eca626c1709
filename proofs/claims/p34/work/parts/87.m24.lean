theorem sPO.trans {L e p b p2 b2 : Nat} {ch : Nat → Nat} {g0 : Nat → Int32} {σ σ' σ2 : Nat → Int32} (h : sPO L e ch g0 σ σ' p b) (h2 : sPO L e ch g0 σ' σ2 p2 b2) : sPO L e ch g0 σ σ2 p2 b2 :=
  ⟨h2.1, h2.2.1, fun j hj => (h2.2.2.1 j hj).trans (h.2.2.1 j hj), fun z => (h2.2.2.2.1 z).trans (h.2.2.2.1 z), h2.2.2.2.2⟩
