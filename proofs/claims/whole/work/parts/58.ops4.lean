/-! the pairs that write: heard, lend -/
theorem RLo_push {c st st' : Nat → Int32} {nD g : Nat} {a b d e : Int32} (h : RLo (nI g) c st 0 nD g) (hg : g < 10) (ha : inN a 24) (hb : inN b nD) (hd : inN d 10) (he : inN e 2)
    (e1 : st' (0 + 1) = nI (g + 1)) (ek : ∀ j, j < 4 * g → st' (0 + 44 + j) = st (0 + 44 + j)) (s0 : st' (0 + 44 + 4 * g) = a) (s1 : st' (0 + 44 + 4 * g + 1) = b) (s2 : st' (0 + 44 + 4 * g + 2) = d) (s3 : st' (0 + 44 + 4 * g + 3) = e) : RLo (nI (g + 1)) (rowU c g a b d e) st' 0 nD (g + 1) := by
  refine ⟨rfl, by omega, e1, fun i hi => ?_⟩
  by_cases him : i = g
  · subst him
    rw [s0, s1, s2, s3, rowU_0, rowU_1, rowU_2, rowU_3]
    exact ⟨⟨rfl, ha⟩, ⟨rfl, hb⟩, ⟨rfl, hd⟩, ⟨rfl, he⟩⟩
  · have a0 := ek (4 * i) (by omega)
    have a1 := ek (4 * i + 1) (by omega)
    have a2 := ek (4 * i + 2) (by omega)
    have a3 := ek (4 * i + 3) (by omega)
    rw [show 0 + 44 + (4 * i + 1) = 0 + 44 + 4 * i + 1 by omega] at a1
    rw [show 0 + 44 + (4 * i + 2) = 0 + 44 + 4 * i + 2 by omega] at a2
    rw [show 0 + 44 + (4 * i + 3) = 0 + 44 + 4 * i + 3 by omega] at a3
    rw [a0, a1, a2, a3, rowU_n (by omega), rowU_n (by omega), rowU_n (by omega), rowU_n (by omega)]
    exact h.2.2.2 i (by omega)
theorem op_heard (sc : Nat → Int32) (ar : Nat → Nat → Int32) (lg : Nat → Int64) (hR : Rel sc ar lg) (y1 : Int32) (y2 : Int32) (y3 : Int32) (y4 : Int32) :
    ∃ (q : Int32 × Int32 × (Nat → Int32)) (q' : Int32 × (Nat → Int32)), f_X5_heard (sc 27) (sc 28) (ar 13) (sc 30) y1 y2 y3 y4 = q ∧ f_X6_heard (sc 46) (ar 34) y1 y2 y3 y4 = some q' ∧ q.1 = q'.1 ∧ Rel (uv sc 28 q.2.1) (uv (uv ar 13 q.2.2) 34 q'.2) lg := by
  obtain ⟨hM, hT, hTx, nD, nA, nS, nN, hD5, hDi, hAs, hSp, hNo, ⟨hMt, nL, nG, nU, hLe, hLo, hUn⟩, hIm⟩ := id hR
  have hm : sc 27 = 10 := hM.2.2.2.2.2.2.2.2.2.2.2.2.2.1
  have nochange : ∀ v : Int32, ∃ (q : Int32 × Int32 × (Nat → Int32)) (q' : Int32 × (Nat → Int32)), (v, sc 28, ar 13) = q ∧ some (v, ar 34) = some q' ∧ q.1 = q'.1 ∧ Rel (uv sc 28 q.2.1) (uv (uv ar 13 q.2.2) 34 q'.2) lg := fun v =>
    ⟨_, _, rfl, rfl, rfl, hM, hT, hTx, nD, nA, nS, nN, hD5, hDi, hAs, hSp, hNo, ⟨hMt, nL, nG, nU, hLe, hLo, hUn⟩, hIm⟩
  unfold f_X5_heard f_X6_heard
  rw [hDi, hMt.1, t5_dish, t6_dish (by omega), t5_hour, t6_hour, t5_note, t6_note, t5_bit, t6_in1]
  rcases tst_or (n := 24) (by decide) y1 with h | ⟨h, a, ha, rfl⟩
  · rw [if_pos h, if_pos h]
    exact nochange _
  rw [if_neg (tst_ne ha (by decide)), if_neg (tst_ne ha (by decide))]
  rcases tst_or (n := nD) (by omega) y2 with h | ⟨h, b, hb, rfl⟩
  · rw [if_pos h, if_pos h]
    exact nochange _
  rw [if_neg (tst_ne hb (by omega)), if_neg (tst_ne hb (by omega))]
  rcases tst_or (n := 10) (by decide) y3 with h | ⟨h, d, hd, rfl⟩
  · rw [if_pos h, if_pos h]
    exact nochange _
  rw [if_neg (tst_ne hd (by decide)), if_neg (tst_ne hd (by decide))]
  rcases tst_or (n := 2) (by decide) y4 with h | ⟨h, w, hw, rfl⟩
  · rw [if_pos h, if_pos h]
    exact nochange _
  rw [if_neg (tst_ne hw (by decide)), if_neg (tst_ne hw (by decide))]
  have g1 : sc 28 = nI nG := hLo.1
  have g2 : nG ≤ 10 := hLo.2.1
  have g3 : ar 34 (Int32.toNatClampNeg 1) = nI nG := hLo.2.2.1
  have c1 : Int32.toNatClampNeg 1 = 1 := by decide
  by_cases hg : nG = 10
  · have f5 : f_X2_isFull (sc 27) (sc 28) = 1 := by rw [hm, g1, hg]; decide
    have f6 : ar 34 (Int32.toNatClampNeg 1) = 10 := by rw [g3, hg]; rfl
    rw [f5, if_neg (by decide), if_pos f6]
    exact nochange _
  · have f5 : f_X2_isFull (sc 27) (sc 28) = 0 := by rw [hm, g1]; exact e_full0 (mo := 10) (by omega) (by decide)
    have fa : f_X2_add (sc 27) (sc 28) (ar 13) (nI a) (nI b) (nI d) (nI w) = (nI (nG + 1), rowU (ar 13) nG (nI a) (nI b) (nI d) (nI w)) := by rw [hm, g1]; exact e_add (mo := 10) (by omega) (by decide)
    have f6 : ¬ nI nG = 10 := fun q => hg ((nI_eq (a := nG) (b := 10) (by omega) (by decide)).mp q)
    have i0 : (44 : Int32) + 4 * nI nG = nI (44 + 4 * nG) := by rw [show (44 : Int32) = nI 44 from rfl, show (4 : Int32) = nI 4 from rfl, pk_mul, nI_add]
    have i1 : nI (44 + 4 * nG) + 1 = nI (44 + 4 * nG + 1) := nI_1 _
    have i2 : nI (44 + 4 * nG) + 2 = nI (44 + 4 * nG + 2) := nI_add _ 2
    have i3 : nI (44 + 4 * nG) + 3 = nI (44 + 4 * nG + 3) := nI_add _ 3
    rw [f5, if_pos rfl, fa, g3, if_neg f6, i0, i1, i2, i3, if_neg (in_row (by omega) (by decide)), if_neg (in_row (by omega) (by decide)), if_neg (in_row (by omega) (by decide)), if_neg (in_row (by omega) (by decide)), nI_clamp (n := 44 + 4 * nG) (by omega), nI_clamp (n := 44 + 4 * nG + 1) (by omega), nI_clamp (n := 44 + 4 * nG + 2) (by omega), nI_clamp (n := 44 + 4 * nG + 3) (by omega), c1, pk_us, pk_un (by omega), pk_un (by omega), pk_un (by omega), pk_un (by omega), show ar 34 1 = nI nG from g3, nI_1]
    have hLo0 : RLo (nI nG) (ar 13) (ar 34) 0 nD nG := ⟨rfl, hLo.2⟩
    generalize hst : upd (upd (upd (upd (upd (ar 34) (44 + 4 * nG) (nI a)) (44 + 4 * nG + 1) (nI b)) (44 + 4 * nG + 2) (nI d)) (44 + 4 * nG + 3) (nI w)) 1 (nI (nG + 1)) = st'
    have un : ∀ j, j ≠ 1 → (j < 44 + 4 * nG ∨ 44 + 4 * nG + 3 < j) → st' j = ar 34 j := fun j h1 h2 => by
      rw [← hst, pk_un h1, pk_un (by omega), pk_un (by omega), pk_un (by omega), pk_un (by omega)]
    have hNow : RNow (sc 30) (ar 14) (sc 26) (ar 12) (nI (nG + 1)) (rowU (ar 13) nG (nI a) (nI b) (nI d) (nI w)) (sc 32) (ar 15) st' 0 nD nA := by
      refine ⟨RMt_c hMt hD5 fun j hj => un _ (by omega) (by omega), nL, nG + 1, nU, RLe_c hLe (un _ (by omega) (by omega)) fun j hj => un _ (by omega) (by omega), ?_, RUn_c hUn (un _ (by omega) (by omega)) fun j hj => un _ (by omega) (by omega)⟩
      refine RLo_push hLo0 (by omega) ⟨a, ha, rfl⟩ ⟨b, hb, rfl⟩ ⟨d, hd, rfl⟩ ⟨w, hw, rfl⟩ ?_ (fun j hj => un _ (by omega) (by omega)) ?_ ?_ ?_ ?_
      · rw [← hst]; exact pk_us
      · rw [← hst, pk_un (by omega), pk_un (by omega), pk_un (by omega), pk_un (by omega), show 0 + 44 + 4 * nG = 44 + 4 * nG by omega, pk_us]
      · rw [← hst, pk_un (by omega), pk_un (by omega), pk_un (by omega), show 0 + 44 + 4 * nG + 1 = 44 + 4 * nG + 1 by omega, pk_us]
      · rw [← hst, pk_un (by omega), pk_un (by omega), show 0 + 44 + 4 * nG + 2 = 44 + 4 * nG + 2 by omega, pk_us]
      · rw [← hst, pk_un (by omega), show 0 + 44 + 4 * nG + 3 = 44 + 4 * nG + 3 by omega, pk_us]
    exact ⟨_, _, rfl, rfl, rfl, hM, hT, hTx, nD, nA, nS, nN, hD5, hDi, hAs, hSp, hNo, hNow, hIm⟩
