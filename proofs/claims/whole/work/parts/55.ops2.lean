theorem op_forget (sc : Nat → Int32) (ar : Nat → Nat → Int32) (lg : Nat → Int64) (hR : Rel sc ar lg) :
    ∃ (q : Int32 × Int32) (q' : Int32 × (Nat → Int32)), f_X5_forget (sc 28) = q ∧ f_X6_forget (ar 34) = q' ∧ q.1 = q'.1 ∧ Rel (uv sc 28 q.2) (uv ar 34 q'.2) lg := by
  obtain ⟨hM, hT, hTx, nD, nA, nS, nN, hD5, hDi, hAs, hSp, hNo, ⟨hMt, nL, nG, nU, hLe, hLo, hUn⟩, hIm⟩ := hR
  have un : ∀ j, j ≠ 1 → upd (ar 34) 1 0 j = ar 34 j := fun j h => pk_un h
  have us : upd (ar 34) 1 0 (0 + 1) = nI 0 := pk_us
  have hNow : RNow (sc 30) (ar 14) (sc 26) (ar 12) 0 (ar 13) (sc 32) (ar 15) (upd (ar 34) 1 0) 0 nD nA :=
    ⟨RMt_c hMt hD5 fun j hj => un _ (by omega), nL, 0, nU, RLe_c hLe (un _ (by omega)) fun j hj => un _ (by omega), ⟨rfl, by omega, us, fun i hi => absurd hi (Nat.not_lt_zero _)⟩, RUn_c hUn (un _ (by omega)) fun j hj => un _ (by omega)⟩
  exact ⟨(sc 28, 0), (ar 34 1, upd (ar 34) 1 0), rfl, rfl, hLo.1.trans hLo.2.2.1.symm, hM, hT, hTx, nD, nA, nS, nN, hD5, hDi, hAs, hSp, hNo, hNow, hIm⟩
