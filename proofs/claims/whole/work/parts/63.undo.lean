/-! undo -/
theorem e_takeBack1 {u : Nat} {lm mm : Int32} {mc uc : Nat → Int32} (hu : u < 10) (h : uc (4 * u) = -1) : f_X0_takeBack lm mm mc (nI (u + 1)) uc = (f_X2_dropLast lm, mc, nI u) := by
  unfold f_X0_takeBack
  rw [nI_pred, e_num0 (by omega) (by omega), if_pos h, f_X0_takeBack_J59, e_dropLast (by omega)]
theorem e_takeBack2 {u : Nat} {lm mm : Int32} {mc uc : Nat → Int32} (hu : u < 10) (h : ¬ uc (4 * u) = -1) : f_X0_takeBack lm mm mc (nI (u + 1)) uc = (lm, f_X2_set mm mc (uc (4 * u)) 0 (uc (4 * u + 1)), nI u) := by
  unfold f_X0_takeBack
  rw [nI_pred, e_num0 (by omega) (by omega), e_num1 (by omega) (by omega), if_neg h, f_X0_takeBack_J59, e_dropLast (by omega)]
theorem RLe_drop {c st st' : Nat → Int32} {nD nA g : Nat} (h : RLe (nI (g + 1)) c st 0 nD nA (g + 1)) (e1 : st' 0 = nI g) (ek : ∀ j, j < 36 → st' (0 + 8 + j) = st (0 + 8 + j)) : RLe (nI g) c st' 0 nD nA g := by
  have h2 := h.2.1
  refine ⟨rfl, by omega, e1, fun i hi => ?_⟩
  have a0 := ek (3 * i) (by omega)
  have a1 := ek (3 * i + 1) (by omega)
  have a2 := ek (3 * i + 2) (by omega)
  rw [show 0 + 8 + (3 * i + 1) = 0 + 8 + 3 * i + 1 by omega] at a1
  rw [show 0 + 8 + (3 * i + 2) = 0 + 8 + 3 * i + 2 by omega] at a2
  rw [a0, a1, a2]
  exact h.2.2.2 i (by omega)
theorem RUn_drop {uc st st' : Nat → Int32} {nD nL nL' u : Nat} (h : RUn (nI (u + 1)) uc st 0 nD nL (u + 1)) (e1 : st' 2 = nI u) (ek : ∀ j, j < 20 → st' (0 + 84 + j) = st (0 + 84 + j)) (hc : cntU st 0 u ≤ nL') : RUn (nI u) uc st' 0 nD nL' u := by
  have h2 := h.2.1
  refine ⟨rfl, by omega, e1, by rw [cntU_c ek u (by omega)]; exact hc, fun i hi => ?_⟩
  have a0 := ek (2 * i) (by omega)
  have a1 := ek (2 * i + 1) (by omega)
  rw [show 0 + 84 + (2 * i + 1) = 0 + 84 + 2 * i + 1 by omega] at a1
  rw [a0, a1]
  exact h.2.2.2.2 i (by omega)
/-- the reference's undo -/
theorem e_undo6 {u : Nat} {st : Nat → Int32} (hu : u < 10) (h2 : st 2 = nI (u + 1)) : f_X6_undo st = (if 0 ≤ st (84 + 2 * u) then (if (3 + st (84 + 2 * u)) < 0 ∨ 104 ≤ (3 + st (84 + 2 * u)).toNatClampNeg then none else f_X6_undo_J77 (upd (upd st 2 (nI u)) (3 + st (84 + 2 * u)).toNatClampNeg (st (84 + 2 * u + 1)))) else f_X6_undo_J77 (upd (upd st 2 (nI u)) 0 (st 0 - 1))) := by
  unfold f_X6_undo
  have c2 : Int32.toNatClampNeg 2 = 2 := by decide
  have c0 : Int32.toNatClampNeg 0 = 0 := by decide
  have hz : ¬ nI (u + 1) = 0 := nI_ne0 (by omega) (by omega)
  have i0 : (84 : Int32) + 2 * nI u = nI (84 + 2 * u) := by rw [show (84 : Int32) = nI 84 from rfl, show (2 : Int32) = nI 2 from rfl, pk_mul, nI_add]
  have i1 : nI (84 + 2 * u) + 1 = nI (84 + 2 * u + 1) := nI_1 _
  have u0 : upd st 2 (nI u) (84 + 2 * u) = st (84 + 2 * u) := pk_un (by omega)
  have u1 : upd st 2 (nI u) (84 + 2 * u + 1) = st (84 + 2 * u + 1) := pk_un (by omega)
  have u2 : upd st 2 (nI u) 0 = st 0 := pk_un (by omega)
  rw [c2, c0, h2, if_neg hz, nI_pred, pk_us, i0, i1, if_neg (in_row (a := 84 + 2 * u) (n := 104) (by omega) (by decide)), nI_clamp (n := 84 + 2 * u) (by omega), nI_clamp (n := 84 + 2 * u + 1) (by omega), u0, u1, u2, if_neg (in_row2 (a := 84 + 2 * u) (n := 104) (by omega) (by decide)), if_neg (in_row2 (a := 84 + 2 * u + 1) (n := 104) (by omega) (by decide))]
theorem op_undo (sc : Nat → Int32) (ar : Nat → Nat → Int32) (lg : Nat → Int64) (hR : Rel sc ar lg) :
    ∃ (q : Int32 × Int32 × (Nat → Int32) × Int32) (q' : Int32 × (Nat → Int32)), f_X5_undo (sc 26) (sc 30) (ar 14) (sc 32) (ar 15) = q ∧ f_X6_undo (ar 34) = some q' ∧ q.1 = q'.1 ∧ Rel (uv (uv sc 26 q.2.1) 32 q.2.2.2) (uv (uv ar 14 q.2.2.1) 34 q'.2) lg := by
  obtain ⟨hM, hT, hTx, nD, nA, nS, nN, hD5, hDi, hAs, hSp, hNo, ⟨hMt, nL, nG, nU, hLe, hLo, hUn⟩, hIm⟩ := id hR
  have u1 : sc 32 = nI nU := hUn.1
  have u2 : nU ≤ 10 := hUn.2.1
  have u3 : ar 34 2 = nI nU := hUn.2.2.1
  have l1 : sc 26 = nI nL := hLe.1
  have l2 : nL ≤ 12 := hLe.2.1
  have l3 : ar 34 0 = nI nL := hLe.2.2.1
  unfold f_X5_undo
  rw [u1]
  rcases Nat.eq_zero_or_pos nU with hz | hz
  · subst hz
    have hUn0 : RUn (nI 0) (ar 15) (ar 34) 0 nD nL 0 := ⟨rfl, hUn.2⟩
    rw [if_pos nI_0]
    refine ⟨_, (-2, ar 34), rfl, ?_, rfl, ?_⟩
    · unfold f_X6_undo
      rw [show Int32.toNatClampNeg 2 = 2 from by decide, u3, if_pos nI_0]
    · exact ⟨hM, hT, hTx, nD, nA, nS, nN, hD5, hDi, hAs, hSp, hNo, ⟨hMt, nL, nG, 0, hLe, hLo, hUn0⟩, hIm⟩
  · obtain ⟨u, rfl⟩ : ∃ z, nU = z + 1 := ⟨nU - 1, by omega⟩
    have hne : ¬ nI (u + 1) = 0 := nI_ne0 (by omega) (by omega)
    have hU0 : RUn (nI (u + 1)) (ar 15) (ar 34) 0 nD nL (u + 1) := ⟨rfl, hUn.2⟩
    have hcn : cntU (ar 34) 0 (u + 1) ≤ nL := hUn.2.2.2.1
    obtain ⟨c0, c1, hor⟩ := hUn.2.2.2.2 u (by omega)
    rw [cntU] at hcn
    rw [Nat.zero_add] at c0 c1 hor hcn
    rw [if_neg hne]
    rcases hor with hm1 | ⟨⟨d, hd, hdv⟩, k, hk, hkv⟩
    · rw [if_pos hm1] at hcn
      obtain ⟨l, rfl⟩ : ∃ z, nL = z + 1 := ⟨nL - 1, by omega⟩
      have hL0 : RLe (nI (l + 1)) (ar 12) (ar 34) 0 nD nA (l + 1) := ⟨rfl, hLe.2⟩
      have e6 := e_undo6 (u := u) (st := ar 34) (by omega) u3
      rw [hm1, if_neg (by decide), l3, nI_pred, f_X6_undo_J77] at e6
      have c2 : Int32.toNatClampNeg 2 = 2 := by decide
      rw [c2] at e6
      generalize hst : upd (upd (ar 34) 2 (nI u)) 0 (nI l) = st' at e6
      have s2 : st' 2 = nI u := by rw [← hst, pk_un (by decide), pk_us]
      have s0 : st' 0 = nI l := by rw [← hst, pk_us]
      have un : ∀ j, j ≠ 0 → j ≠ 2 → st' j = ar 34 j := fun j h0 h2 => by rw [← hst, pk_un h0, pk_un h2]
      rw [s2] at e6
      rw [e_takeBack1 (by omega) (c0.trans hm1), l1, e_dropLast (by omega), e6]
      refine ⟨_, _, rfl, rfl, rfl, ?_⟩
      have hNow : RNow (sc 30) (ar 14) (nI l) (ar 12) (sc 28) (ar 13) (nI u) (ar 15) st' 0 nD nA :=
        ⟨RMt_c hMt hD5 fun j hj => un _ (by omega) (by omega), l, nG, u, RLe_drop hL0 s0 fun j hj => un _ (by omega) (by omega), RLo_c hLo (un _ (by omega) (by omega)) fun j hj => un _ (by omega) (by omega), RUn_drop hU0 s2 (fun j hj => un _ (by omega) (by omega)) (by omega)⟩
      exact ⟨hM, hT, hTx, nD, nA, nS, nN, hD5, hDi, hAs, hSp, hNo, hNow, hIm⟩
    · have hnm : ¬ ar 34 (84 + 2 * u) = -1 := fun q => by
        have := nI_pos (n := d) (by omega)
        rw [← hdv, q] at this
        exact this (by decide)
      rw [if_neg hnm] at hcn
      have e6 := e_undo6 (u := u) (st := ar 34) (by omega) u3
      have i3 : (3 : Int32) + nI d = nI (3 + d) := nI_add 3 d
      rw [hdv, hkv, if_pos (nI_pos' (by omega)), i3, if_neg (in_row (by omega) (by decide)), nI_clamp (n := 3 + d) (by omega), f_X6_undo_J77] at e6
      have c2 : Int32.toNatClampNeg 2 = 2 := by decide
      rw [c2] at e6
      generalize hst : upd (upd (ar 34) 2 (nI u)) (3 + d) (nI k) = st' at e6
      have s2 : st' 2 = nI u := by rw [← hst, pk_un (by omega), pk_us]
      have sd : st' (0 + 3 + d) = nI k := by rw [← hst, Nat.zero_add, pk_us]
      have un : ∀ j, j ≠ 3 + d → j ≠ 2 → st' j = ar 34 j := fun j h0 h2 => by rw [← hst, pk_un h0, pk_un h2]
      have hMt0 : RMt (nI nD) (ar 14) (ar 34) 0 nD := ⟨rfl, hMt.2⟩
      rw [s2] at e6
      rw [e_takeBack2 (by omega) (fun q => hnm (c0.symm.trans q)), c0, c1, hdv, hkv, hMt.1, show f_X2_set (nI nD) (ar 14) (nI d) 0 (nI k) = upd (ar 14) (4 * d + 0) (nI k) from e_set (w := 0) hd (by omega) (by decide), e6]
      refine ⟨_, _, rfl, rfl, rfl, ?_⟩
      have hNow : RNow (sc 30) (upd (ar 14) (4 * d + 0) (nI k)) (sc 26) (ar 12) (sc 28) (ar 13) (nI u) (ar 15) st' 0 nD nA := by
        rw [hMt.1]
        exact ⟨RMt_set hMt0 hD5 hk (fun j hj hjd => un _ (by omega) (by omega)) sd, nL, nG, u, RLe_c hLe (un _ (by omega) (by omega)) fun j hj => un _ (by omega) (by omega), RLo_c hLo (un _ (by omega) (by omega)) fun j hj => un _ (by omega) (by omega), RUn_drop hU0 s2 (fun j hj => un _ (by omega) (by omega)) (by omega)⟩
      exact ⟨hM, hT, hTx, nD, nA, nS, nN, hD5, hDi, hAs, hSp, hNo, hNow, hIm⟩
