/-! the pairs that write: lend, undo -/
theorem RLe_push {c st st' : Nat → Int32} {nD nA g : Nat} {a b d : Int32} (h : RLe (nI g) c st 0 nD nA g) (hg : g < 12) (ha : inN a nD) (hb : inN b 24) (hd : inN d nA)
    (e1 : st' 0 = nI (g + 1)) (ek : ∀ j, j < 3 * g → st' (0 + 8 + j) = st (0 + 8 + j)) (s0 : st' (0 + 8 + 3 * g) = a) (s1 : st' (0 + 8 + 3 * g + 1) = b) (s2 : st' (0 + 8 + 3 * g + 2) = d) : RLe (nI (g + 1)) (rowU c g a b d 0) st' 0 nD nA (g + 1) := by
  refine ⟨rfl, by omega, e1, fun i hi => ?_⟩
  by_cases him : i = g
  · subst him
    rw [s0, s1, s2, rowU_0, rowU_1, rowU_2]
    exact ⟨⟨rfl, ha⟩, ⟨rfl, hb⟩, ⟨rfl, hd⟩⟩
  · have a0 := ek (3 * i) (by omega)
    have a1 := ek (3 * i + 1) (by omega)
    have a2 := ek (3 * i + 2) (by omega)
    rw [show 0 + 8 + (3 * i + 1) = 0 + 8 + 3 * i + 1 by omega] at a1
    rw [show 0 + 8 + (3 * i + 2) = 0 + 8 + 3 * i + 2 by omega] at a2
    rw [a0, a1, a2, rowU_n (by omega), rowU_n (by omega), rowU_n (by omega)]
    exact h.2.2.2 i (by omega)
theorem op_lend (sc : Nat → Int32) (ar : Nat → Nat → Int32) (lg : Nat → Int64) (hR : Rel sc ar lg) (y1 : Int32) (y2 : Int32) (y3 : Int32) :
    ∃ (q : Int32 × Int32 × (Nat → Int32) × Int32 × (Nat → Int32)) (q' : Int32 × (Nat → Int32)), f_X5_lend (sc 25) (sc 26) (ar 12) (sc 30) (sc 31) (sc 32) (ar 15) (sc 39) y1 y2 y3 = some q ∧ f_X6_lend (sc 46) (sc 49) (ar 34) y1 y2 y3 = some q' ∧ q.1 = q'.1 ∧ Rel (uv (uv sc 26 q.2.1) 32 q.2.2.2.1) (uv (uv (uv ar 12 q.2.2.1) 15 q.2.2.2.2) 34 q'.2) lg := by
  obtain ⟨hM, hT, hTx, nD, nA, nS, nN, hD5, hDi, hAs, hSp, hNo, ⟨hMt, nL, nG, nU, hLe, hLo, hUn⟩, hIm⟩ := id hR
  have hm : sc 31 = 10 := hM.2.2.2.2.2.2.2.2.2.2.2.2.2.2.2.1
  have hml : sc 25 = 12 := hM.2.2.2.2.2.2.2.2.2.2.2.2.1
  have nochange : ∀ v : Int32, ∃ (q : Int32 × Int32 × (Nat → Int32) × Int32 × (Nat → Int32)) (q' : Int32 × (Nat → Int32)), some (v, sc 26, ar 12, sc 32, ar 15) = some q ∧ some (v, ar 34) = some q' ∧ q.1 = q'.1 ∧ Rel (uv (uv sc 26 q.2.1) 32 q.2.2.2.1) (uv (uv (uv ar 12 q.2.2.1) 15 q.2.2.2.2) 34 q'.2) lg := fun v =>
    ⟨_, _, rfl, rfl, rfl, hM, hT, hTx, nD, nA, nS, nN, hD5, hDi, hAs, hSp, hNo, ⟨hMt, nL, nG, nU, hLe, hLo, hUn⟩, hIm⟩
  have hA5 : nA ≤ 5 := hAs.1
  unfold f_X5_lend f_X6_lend
  rw [hDi, hMt.1, hAs.2.1, hAs.2.2.1, t5_dish, t6_dish (by omega), t5_hour, t6_hour, t5_asker, t6_asker (by omega)]
  rcases tst_or (n := nD) (by omega) y1 with h | ⟨h, a, ha, rfl⟩
  · rw [if_pos h, if_pos h]
    exact nochange _
  rw [if_neg (tst_ne ha (by omega)), if_neg (tst_ne ha (by omega))]
  rcases tst_or (n := 24) (by decide) y2 with h | ⟨h, b, hb, rfl⟩
  · rw [if_pos h, if_pos h]
    exact nochange _
  rw [if_neg (tst_ne hb (by decide)), if_neg (tst_ne hb (by decide))]
  rcases tst_or (n := nA) (by omega) y3 with h | ⟨h, d, hd, rfl⟩
  · rw [if_pos h, if_pos h]
    exact nochange _
  rw [if_neg (tst_ne hd (by omega)), if_neg (tst_ne hd (by omega))]
  have g1 : sc 26 = nI nL := hLe.1
  have g2 : nL ≤ 12 := hLe.2.1
  have c0 : Int32.toNatClampNeg 0 = 0 := by decide
  have g3 : ar 34 0 = nI nL := hLe.2.2.1
  by_cases hg : nL = 12
  · have f5 : f_X2_isFull (sc 25) (sc 26) = 1 := by rw [hml, g1, hg]; decide
    have f6 : ar 34 0 = 12 := by rw [g3, hg]; rfl
    rw [f5, if_neg (by decide), c0, if_pos f6]
    exact nochange _
  · have f5 : f_X2_isFull (sc 25) (sc 26) = 0 := by rw [hml, g1]; exact e_full0 (mo := 12) (by omega) (by decide)
    have fa : f_X2_add (sc 25) (sc 26) (ar 12) (nI a) (nI b) (nI d) 0 = (nI (nL + 1), rowU (ar 12) nL (nI a) (nI b) (nI d) 0) := by rw [hml, g1]; exact e_add (mo := 12) (by omega) (by decide)
    have f6 : ¬ ar 34 0 = 12 := fun q => hg ((nI_eq (a := nL) (b := 12) (by omega) (by decide)).mp (g3.symm.trans q))
    obtain ⟨um', uc', st', m', e5, e6, hU', hst⟩ := known_rel (w := -1) (v := 0) hUn (Or.inl rfl)
    rw [if_pos rfl] at hU'
    have g4 : st' 0 = nI nL := (hst 0 (by decide) (by decide)).trans g3
    have i0 : (8 : Int32) + 3 * nI nL = nI (8 + 3 * nL) := by rw [show (8 : Int32) = nI 8 from rfl, show (3 : Int32) = nI 3 from rfl, pk_mul, nI_add]
    have i1 : nI (8 + 3 * nL) + 1 = nI (8 + 3 * nL + 1) := nI_1 _
    have i2 : nI (8 + 3 * nL) + 2 = nI (8 + 3 * nL + 2) := nI_add _ 2
    rw [f5, if_pos rfl, hm, e5, Option.bind_some, fa, c0, if_neg f6, e6, Option.bind_some, g4, i0, i1, i2, if_neg (in_row (by omega) (by decide)), if_neg (in_row (by omega) (by decide)), if_neg (in_row (by omega) (by decide)), nI_clamp (n := 8 + 3 * nL) (by omega), nI_clamp (n := 8 + 3 * nL + 1) (by omega), nI_clamp (n := 8 + 3 * nL + 2) (by omega), pk_us, pk_un (by omega), pk_un (by omega), pk_un (by omega), g4, nI_1]
    have hLe0 : RLe (nI nL) (ar 12) (ar 34) 0 nD nA nL := ⟨rfl, hLe.2⟩
    generalize hsx : upd (upd (upd (upd st' (8 + 3 * nL) (nI a)) (8 + 3 * nL + 1) (nI b)) (8 + 3 * nL + 2) (nI d)) 0 (nI (nL + 1)) = sx
    have un : ∀ j, j ≠ 0 → j < 8 + 3 * nL ∨ 8 + 3 * nL + 2 < j → sx j = st' j := fun j h1 h2 => by
      rw [← hsx, pk_un h1, pk_un (by omega), pk_un (by omega), pk_un (by omega)]
    have hNow : RNow (sc 30) (ar 14) (nI (nL + 1)) (rowU (ar 12) nL (nI a) (nI b) (nI d) 0) (sc 28) (ar 13) um' uc' sx 0 nD nA := by
      refine ⟨RMt_c hMt hD5 fun j hj => (un _ (by omega) (by omega)).trans (hst _ (by omega) (by omega)), nL + 1, nG, m', ?_, RLo_c hLo ((un _ (by omega) (by omega)).trans (hst _ (by omega) (by omega))) fun j hj => (un _ (by omega) (by omega)).trans (hst _ (by omega) (by omega)), RUn_c hU' (un _ (by omega) (by omega)) fun j hj => un _ (by omega) (by omega)⟩
      refine RLe_push hLe0 (by omega) ⟨a, ha, rfl⟩ ⟨b, hb, rfl⟩ ⟨d, hd, rfl⟩ ?_ (fun j hj => (un _ (by omega) (by omega)).trans (hst _ (by omega) (by omega))) ?_ ?_ ?_
      · rw [← hsx]; exact pk_us
      · rw [← hsx, pk_un (by omega), pk_un (by omega), pk_un (by omega), show 0 + 8 + 3 * nL = 8 + 3 * nL by omega, pk_us]
      · rw [← hsx, pk_un (by omega), pk_un (by omega), show 0 + 8 + 3 * nL + 1 = 8 + 3 * nL + 1 by omega, pk_us]
      · rw [← hsx, pk_un (by omega), show 0 + 8 + 3 * nL + 2 = 8 + 3 * nL + 2 by omega, pk_us]
    exact ⟨_, _, rfl, rfl, rfl, hM, hT, hTx, nD, nA, nS, nN, hD5, hDi, hAs, hSp, hNo, hNow, hIm⟩
