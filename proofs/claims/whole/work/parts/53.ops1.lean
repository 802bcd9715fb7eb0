/-! the pairs: the plainest -/
theorem op_trace (sc : Nat → Int32) (ar : Nat → Nat → Int32) (lg : Nat → Int64) (hR : Rel sc ar lg) :
    ∃ (q : Int64) (q' : Int64), f_X5_trace (lg 0) = q ∧ f_X6_trace (lg 1) = q' ∧ q = q' ∧ Rel sc ar lg := ⟨lg 0, lg 1, rfl, rfl, hR.2.1, hR⟩
theorem op_clear (sc : Nat → Int32) (ar : Nat → Nat → Int32) (lg : Nat → Int64) (hR : Rel sc ar lg) :
    ∃ (q : Int32 × Int32) (q' : Int32 × Int32), f_X5_clear (sc 33) = q ∧ f_X6_clear (sc 50) = q' ∧ q.1 = q'.1 ∧ Rel (uv (uv sc 33 q.2) 50 q'.2) ar lg := by
  obtain ⟨hM, hT, ⟨nT, ht1, ht2, ht3, ht4⟩, h⟩ := hR
  exact ⟨(sc 33, 0), (sc 50, 0), rfl, rfl, ht2.trans ht3.symm, hM, hT, ⟨0, Nat.zero_le _, rfl, rfl, fun i hi => absurd hi (Nat.not_lt_zero _)⟩, h⟩
theorem op_count (sc : Nat → Int32) (ar : Nat → Nat → Int32) (lg : Nat → Int64) (hR : Rel sc ar lg) (y1 : Int32) :
    ∃ (q : Int32) (q' : Int32), f_X5_count (sc 26) (sc 28) (sc 30) (sc 32) (sc 33) (sc 39) (sc 43) (sc 45) y1 = q ∧ f_X6_count (sc 46) (sc 47) (sc 48) (sc 49) (sc 50) (ar 34) y1 = q' ∧ q = q' ∧ Rel sc ar lg := by
  refine ⟨_, _, rfl, rfl, ?_, hR⟩
  obtain ⟨hM, hT, ⟨nT, ht1, ht2, ht3, ht4⟩, nD, nA, nS, nN, hD5, hDi, hAs, hSp, hNo, ⟨hMt, nL, nG, nU, hLe, hLo, hUn⟩, hIm⟩ := hR
  have e0 : ar 34 (Int32.toNatClampNeg 0) = nI nL := hLe.2.2.1
  have e1 : ar 34 (Int32.toNatClampNeg 1) = nI nG := hLo.2.2.1
  have e2 : ar 34 (Int32.toNatClampNeg 2) = nI nU := hUn.2.2.1
  unfold f_X5_count f_X6_count
  rw [e0, e1, e2, hDi, hMt.1, hLe.1, hLo.1, hUn.1, ht2, ht3, hAs.2.1, hAs.2.2.1, hSp.2.1, hSp.2.2.1, hNo.2.1, hNo.2.2.1]
theorem op_looks (sc : Nat → Int32) (ar : Nat → Nat → Int32) (lg : Nat → Int64) (hR : Rel sc ar lg) (y1 : Int32) (y2 : Int32) :
    ∃ (q : Int32) (q' : Int32), f_X5_looks (sc 30) (ar 14) y1 y2 = q ∧ f_X6_looks (sc 46) (ar 34) y1 y2 = some q' ∧ q = q' ∧ Rel sc ar lg := by
  obtain ⟨hM, hT, hTx, nD, nA, nS, nN, hD5, hDi, hAs, hSp, hNo, ⟨hMt, hN2⟩, hIm⟩ := id hR
  refine ⟨f_X5_looks (sc 30) (ar 14) y1 y2, f_X5_looks (sc 30) (ar 14) y1 y2, rfl, ?_, rfl, hR⟩
  unfold f_X5_looks f_X6_looks
  rw [hDi, hMt.1, t5_dish, t6_dish (by omega), t5_hour, t6_hour]
  rcases tst_or (n := nD) (by omega) y1 with h | ⟨h, d, hd, rfl⟩
  · rw [if_pos h, if_pos h]
  · rw [if_neg (tst_ne hd (by omega)), if_neg (tst_ne hd (by omega))]
    rcases tst_or (n := 24) (by decide) y2 with h2 | ⟨h2, k, hk, rfl⟩
    · rw [if_pos h2, if_pos h2]
    · rw [if_neg (tst_ne hk (by decide)), if_neg (tst_ne hk (by decide))]
      obtain ⟨hc, v, hv, hs⟩ := hMt.2 d hd
      rw [e_place hd hD5 hv hk (hc.trans hs), e_looksOf (by omega) hv hk (by rw [← hs, Nat.zero_add])]
      rfl
theorem op_asker (sc : Nat → Int32) (ar : Nat → Nat → Int32) (lg : Nat → Int64) (hR : Rel sc ar lg) (y1 : Int32) (y2 : Int32) :
    ∃ (q : Int32) (q' : Int32), f_X5_asker (sc 39) (ar 20) y1 y2 = q ∧ f_X6_asker (sc 49) (ar 24) y1 y2 = some q' ∧ q = q' ∧ Rel sc ar lg := by
  obtain ⟨hM, hT, hTx, nD, nA, nS, nN, hD5, hDi, ⟨hA5, hA1, hA2, hA3⟩, hSp, hNo, hNw, hIm⟩ := id hR
  refine ⟨f_X5_asker (sc 39) (ar 20) y1 y2, f_X5_asker (sc 39) (ar 20) y1 y2, rfl, ?_, rfl, hR⟩
  unfold f_X5_asker f_X6_asker
  rw [hA1, hA2, t5_asker, t6_asker (by omega), t5_bit, t6_in1]
  rcases tst_or (n := nA) (by omega) y1 with h | ⟨h, a, ha, rfl⟩
  · rw [if_pos h, if_pos h]
  · rw [if_neg (tst_ne ha (by omega)), if_neg (tst_ne ha (by omega))]
    rcases tst_or (n := 2) (by decide) y2 with h2 | ⟨h2, w, hw, rfl⟩
    · rw [if_pos h2, if_pos h2]
    · rw [if_neg (tst_ne hw (by decide)), if_neg (tst_ne hw (by decide)), show (2 : Int32) * nI a + nI w = nI (2 * a + w) from by rw [show (2 : Int32) = nI 2 from rfl, pk_mul, nI_add], if_neg (in_row (by omega) (by decide)), nI_clamp (by omega), e_num ha (by omega) (by omega)]
      obtain ⟨⟨h0, -⟩, ⟨h1, -⟩⟩ := hA3 a ha
      rcases (show w = 0 ∨ w = 1 by omega) with rfl | rfl
      · rw [Nat.add_zero, Nat.add_zero, h0]
      · rw [h1]
theorem op_lent (sc : Nat → Int32) (ar : Nat → Nat → Int32) (lg : Nat → Int64) (hR : Rel sc ar lg) (y1 : Int32) (y2 : Int32) :
    ∃ (q : Int32) (q' : Int32), f_X5_lent (sc 26) (ar 12) y1 y2 = q ∧ f_X6_lent (ar 34) y1 y2 = some q' ∧ q = q' ∧ Rel sc ar lg := by
  obtain ⟨hM, hT, hTx, nD, nA, nS, nN, hD5, hDi, hAs, hSp, hNo, ⟨hMt, nL, nG, nU, ⟨hL1, hL2, hL3, hL4⟩, hLo, hUn⟩, hIm⟩ := id hR
  refine ⟨f_X5_lent (sc 26) (ar 12) y1 y2, f_X5_lent (sc 26) (ar 12) y1 y2, rfl, ?_, rfl, hR⟩
  have e0 : ar 34 (Int32.toNatClampNeg 0) = nI nL := hL3
  have et : f_X5_lent (nI nL) (ar 12) y1 y2 = if tst nL y1 = 0 then -1 else if tst 3 y2 = 0 then -1 else f_X2_number (nI nL) (ar 12) y1 y2 := by
    unfold f_X5_lent tst
    by_cases c1 : y1 < 0
    · rw [if_pos c1, if_pos c1, if_pos e00]
    rw [if_neg c1, if_neg c1]
    by_cases c2 : nI nL ≤ y1
    · rw [if_pos c2, if_pos c2, if_pos e00]
    rw [if_neg c2, if_neg c2, if_neg n10]
    by_cases c3 : y2 < 0
    · rw [if_pos c3, if_pos c3, if_pos e00]
    rw [if_neg c3, if_neg c3]
    by_cases c4 : nI 3 ≤ y2
    · rw [if_pos c4, if_pos e00, if_neg]
      intro q
      rw [Int32.le_iff_toInt_le] at q c4
      have a1 : (nI 3).toInt = 3 := by decide
      have a2 : (2 : Int32).toInt = 2 := by decide
      omega
    · rw [if_neg c4, if_neg n10, if_pos]
      rw [Int32.le_iff_toInt_le] at c4 ⊢
      have a1 : (nI 3).toInt = 3 := by decide
      have a2 : (2 : Int32).toInt = 2 := by decide
      omega
  rw [hL1, et]
  unfold f_X6_lent
  rw [e0, in_pred (by omega), t6_in2]
  rw [show (if y1 < 0 then (0 : Int32) else if nI nL ≤ y1 then 0 else 1) = tst nL y1 from rfl]
  rcases tst_or (n := nL) (by omega) y1 with h | ⟨h, i, hi, rfl⟩
  · rw [if_pos h, if_pos h]
  · rw [if_neg (tst_ne hi (by omega)), if_neg (tst_ne hi (by omega))]
    rcases tst_or (n := 3) (by decide) y2 with h2 | ⟨h2, w, hw, rfl⟩
    · rw [if_pos h2, if_pos h2]
    · rw [if_neg (tst_ne hw (by decide)), if_neg (tst_ne hw (by decide)), show (8 : Int32) + 3 * nI i + nI w = nI (8 + 3 * i + w) from by rw [show (8 : Int32) = nI 8 from rfl, show (3 : Int32) = nI 3 from rfl, pk_mul, nI_add, nI_add], if_neg (in_row (by omega) (by decide)), nI_clamp (by omega), e_num hi (by omega) (by omega)]
      obtain ⟨⟨h0, -⟩, ⟨h1, -⟩, ⟨h9, -⟩⟩ := hL4 i hi
      rw [Nat.zero_add] at h0 h1 h9
      rcases (show w = 0 ∨ w = 1 ∨ w = 2 by omega) with rfl | rfl | rfl
      · rw [Nat.add_zero, Nat.add_zero, h0]
      · rw [h1]
      · rw [h9]
