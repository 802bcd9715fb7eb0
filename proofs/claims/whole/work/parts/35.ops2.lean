theorem op_forget (sc : Nat → Int32) (ar : Nat → Nat → Int32) (lg : Nat → Int64) (hR : Rel sc ar lg) :
    ∃ (q : Int32 × Int32) (q' : Int32 × (Nat → Int32)), f_X5_forget (sc 28) = q ∧ f_X6_forget (ar 34) = q' ∧ q.1 = q'.1 ∧ Rel (uv sc 28 q.2) (uv ar 34 q'.2) lg := by
  obtain ⟨hM, hT, hTx, nD, nA, nS, nN, hD5, hDi, hAs, hSp, hNo, ⟨hMt, nL, nG, nU, hLe, hLo, hUn⟩, hIm⟩ := hR
  refine ⟨(sc 28, 0), (ar 34 1, upd (ar 34) 1 0), rfl, rfl, hLo.1.trans hLo.2.2.1.symm, hM, hT, hTx, nD, nA, nS, nN, hD5, hDi, hAs, hSp, hNo, ⟨RMt_c hMt hD5 fun j hj => pk_un (by omega), nL, 0, nU, RLe_c hLe (pk_un (by omega)) fun j hj => pk_un (by omega), ⟨rfl, by omega, pk_us, fun i hi => absurd hi (Nat.not_lt_zero _)⟩, RUn_c hUn (pk_un (by omega)) fun j hj => pk_un (by omega)⟩, hIm⟩
