/-! images: rows copied -/
def cpC (c0 c : Nat → Int32) (i : Nat) : Nat → Int32 := fun k => if k < i then c0 k else c k
theorem cpC_step {c0 c : Nat → Int32} {i : Nat} : upd (cpC c0 c i) i (c0 i) = cpC c0 c (i + 1) := by
  funext k
  by_cases hk : k = i
  · subst hk
    rw [pk_us]
    simp only [cpC]
    rw [if_pos (by omega)]
  · rw [pk_un hk]
    simp only [cpC]
    by_cases h1 : k < i
    · rw [if_pos h1, if_pos (by omega)]
    · rw [if_neg h1, if_neg (by omega)]
theorem cpC_0 (c0 c : Nat → Int32) : cpC c0 c 0 = c := by
  funext k
  simp only [cpC]
  rw [if_neg (by omega)]
theorem cpC_in {c0 c : Nat → Int32} {i k : Nat} (h : k < i) : cpC c0 c i k = c0 k := by
  simp only [cpC]
  rw [if_pos h]
theorem e_copy {m mo : Nat} {many : Int32} {c0 c : Nat → Int32} (hm : m ≤ mo) (hmo : mo ≤ 12) : f_X2_copyFrom (nI m) c0 (nI mo) many c = some (nI m, cpC c0 c 48) := by
  unfold f_X2_copyFrom
  have hend : ∀ n, f_X2_copyFrom_L7 (f_X2_copyFrom_X38 (nI m) (nI mo) many) (nI m) c0 (nI mo) many (n + 1) (nI 48) (cpC c0 c 48) = some (nI m, cpC c0 c 48) := fun n => by
    rw [f_X2_copyFrom_L7, if_pos (by decide), f_X2_copyFrom_X38, if_neg (nI_nlt hm (by omega))]
  have hst : ∀ n i, 0 ≤ i → i < 48 → f_X2_copyFrom_L7 (f_X2_copyFrom_X38 (nI m) (nI mo) many) (nI m) c0 (nI mo) many (n + 1) (nI i) (cpC c0 c i) = f_X2_copyFrom_L7 (f_X2_copyFrom_X38 (nI m) (nI mo) many) (nI m) c0 (nI mo) many n (nI (i + 1)) (cpC c0 c (i + 1)) := fun n i _ hi => by
    rw [f_X2_copyFrom_L7, if_neg (show ¬ (48 : Int32) ≤ nI i from nI_ge (b := 48) hi (by decide)), e_at hi (by decide), e_put hi (by decide), cpC_step, nI_1]
  have h := lp (fun n i => f_X2_copyFrom_L7 (f_X2_copyFrom_X38 (nI m) (nI mo) many) (nI m) c0 (nI mo) many n (nI i) (cpC c0 c i)) 48 hend 0 hst (by decide) (by decide)
  rw [cpC_0] at h
  exact h
theorem e_copyNow {nD nL nG nU : Nat} {lc gc mc uc lc' gc' mc' uc' : Nat → Int32} {lm' gm' mm' um' : Int32} (hD : nD ≤ 5) (hL : nL ≤ 12) (hG : nG ≤ 10) (hU : nU ≤ 10) :
    f_X0_copyFrom (nI nL) lc (nI nG) gc (nI nD) mc (nI nU) uc 12 lm' lc' 10 gm' gc' 5 mm' mc' 10 um' uc' = some (nI nL, cpC lc lc' 48, nI nG, cpC gc gc' 48, nI nD, cpC mc mc' 48, nI nU, cpC uc uc' 48) := by
  unfold f_X0_copyFrom
  have a1 : f_X2_copyFrom (nI nD) mc 5 mm' mc' = some (nI nD, cpC mc mc' 48) := e_copy (mo := 5) hD (by decide)
  have a2 : f_X2_copyFrom (nI nL) lc 12 lm' lc' = some (nI nL, cpC lc lc' 48) := e_copy (mo := 12) hL (by decide)
  have a3 : f_X2_copyFrom (nI nG) gc 10 gm' gc' = some (nI nG, cpC gc gc' 48) := e_copy (mo := 10) hG (by decide)
  have a4 : f_X2_copyFrom (nI nU) uc 10 um' uc' = some (nI nU, cpC uc uc' 48) := e_copy (mo := 10) hU (by decide)
  rw [a1, Option.bind_some, a2, Option.bind_some, a3, Option.bind_some, a4, Option.bind_some]
/-- rows of which only what lies behind is another -/
theorem RNow_k {mm lm gm um : Int32} {mc lc gc uc mc' lc' gc' uc' st : Nat → Int32} {o nD nA : Nat} (h : RNow mm mc lm lc gm gc um uc st o nD nA) (hD : nD ≤ 5) (e1 : ∀ k, k < 48 → mc' k = mc k) (e2 : ∀ k, k < 48 → lc' k = lc k) (e3 : ∀ k, k < 48 → gc' k = gc k) (e4 : ∀ k, k < 48 → uc' k = uc k) : RNow mm mc' lm lc' gm gc' um uc' st o nD nA := by
  obtain ⟨hMt, nL, nG, nU, hLe, hLo, hUn⟩ := h
  have hL := hLe.2.1
  have hG := hLo.2.1
  have hU := hUn.2.1
  refine ⟨⟨hMt.1, fun d hd => ?_⟩, nL, nG, nU, ⟨hLe.1, hL, hLe.2.2.1, fun i hi => ?_⟩, ⟨hLo.1, hG, hLo.2.2.1, fun i hi => ?_⟩, ⟨hUn.1, hU, hUn.2.2.1, hUn.2.2.2.1, fun i hi => ?_⟩⟩
  · rw [e1 _ (by omega)]; exact hMt.2 d hd
  · rw [e2 _ (by omega), e2 _ (by omega), e2 _ (by omega)]; exact hLe.2.2.2 i hi
  · rw [e3 _ (by omega), e3 _ (by omega), e3 _ (by omega), e3 _ (by omega)]; exact hLo.2.2.2 i hi
  · rw [e4 _ (by omega), e4 _ (by omega)]; exact hUn.2.2.2.2 i hi
/-- the reference's images, while one is written -/
def shI (im st : Nat → Int32) (b i : Nat) : Nat → Int32 := fun k => if b ≤ k ∧ k < b + i then st (k - b) else im k
theorem shI_step {im st : Nat → Int32} {b i : Nat} : upd (shI im st b i) (b + i) (st i) = shI im st b (i + 1) := by
  funext k
  by_cases hk : k = b + i
  · subst hk
    rw [pk_us]
    simp only [shI]
    rw [if_pos (by omega), show b + i - b = i by omega]
  · rw [pk_un hk]
    simp only [shI]
    by_cases h1 : b ≤ k ∧ k < b + i
    · rw [if_pos h1, if_pos (by omega)]
    · rw [if_neg h1, if_neg (by omega)]
theorem shI_0 (im st : Nat → Int32) (b : Nat) : shI im st b 0 = im := by
  funext k
  simp only [shI]
  rw [if_neg (by omega)]
theorem e_keep6 {im isK st : Nat → Int32} {j : Nat} (hj : j < 2) : f_X6_keep im isK st (nI j) = some (st 0, shI im st (104 * j) 104, upd isK j 1) := by
  unfold f_X6_keep
  rw [t6_in1, if_neg (tst_ne hj (by decide))]
  have c0 : Int32.toNatClampNeg 0 = 0 := by decide
  have ij : (104 : Int32) * nI j = nI (104 * j) := pk_mul 104 j
  have hend : ∀ n, f_X6_keep_L13 (f_X6_keep_X42 (nI j) isK st) (nI j) isK st (n + 1) (nI 104) (shI im st (104 * j) 104) = some (st 0, shI im st (104 * j) 104, upd isK j 1) := fun n => by
    rw [f_X6_keep_L13, if_pos (by decide), f_X6_keep_X42, if_neg (in_row hj (by decide)), nI_clamp (n := j) (by omega), c0]
    rfl
  have hst : ∀ n i, 0 ≤ i → i < 104 → f_X6_keep_L13 (f_X6_keep_X42 (nI j) isK st) (nI j) isK st (n + 1) (nI i) (shI im st (104 * j) i) = f_X6_keep_L13 (f_X6_keep_X42 (nI j) isK st) (nI j) isK st n (nI (i + 1)) (shI im st (104 * j) (i + 1)) := fun n i _ hi => by
    rw [f_X6_keep_L13, if_neg (show ¬ (104 : Int32) ≤ nI i from nI_ge (b := 104) hi (by decide)), if_neg (in_row hi (by decide)), ij, nI_add, if_neg (in_row (a := 104 * j + i) (by omega) (by decide)), nI_clamp (n := 104 * j + i) (by omega), nI_clamp (n := i) (by omega), shI_step, nI_1]
  have h := lp (fun n i => f_X6_keep_L13 (f_X6_keep_X42 (nI j) isK st) (nI j) isK st n (nI i) (shI im st (104 * j) i)) 104 hend 0 hst (by decide) (by decide)
  rw [shI_0] at h
  exact h
def shB (im st : Nat → Int32) (b i : Nat) : Nat → Int32 := fun k => if k < i then im (b + k) else st k
theorem shB_step {im st : Nat → Int32} {b i : Nat} : upd (shB im st b i) i (im (b + i)) = shB im st b (i + 1) := by
  funext k
  by_cases hk : k = i
  · subst hk
    rw [pk_us]
    simp only [shB]
    rw [if_pos (by omega)]
  · rw [pk_un hk]
    simp only [shB]
    by_cases h1 : k < i
    · rw [if_pos h1, if_pos (by omega)]
    · rw [if_neg h1, if_neg (by omega)]
theorem shB_0 (im st : Nat → Int32) (b : Nat) : shB im st b 0 = st := by
  funext k
  simp only [shB]
  rw [if_neg (by omega)]
theorem shB_in {im st : Nat → Int32} {b i k : Nat} (h : k < i) : shB im st b i k = im (b + k) := by
  simp only [shB]
  rw [if_pos h]
theorem e_back6 {im isK st : Nat → Int32} {j : Nat} (hj : j < 2) (hk : ¬ isK j = 0) : f_X6_back im isK st (nI j) = some (im (104 * j), shB im st (104 * j) 104) := by
  unfold f_X6_back
  rw [t6_in1, if_neg (tst_ne hj (by decide)), if_neg (in_row hj (by decide)), nI_clamp (n := j) (by omega), if_neg hk]
  have c0 : Int32.toNatClampNeg 0 = 0 := by decide
  have ij : (104 : Int32) * nI j = nI (104 * j) := pk_mul 104 j
  have hend : ∀ n, f_X6_back_L25 f_X6_back_X54 (nI j) im (n + 1) (nI 104) (shB im st (104 * j) 104) = some (im (104 * j), shB im st (104 * j) 104) := fun n => by
    rw [f_X6_back_L25, if_pos (by decide), f_X6_back_X54, c0, shB_in (k := 0) (by decide), Nat.add_zero]
  have hst : ∀ n i, 0 ≤ i → i < 104 → f_X6_back_L25 f_X6_back_X54 (nI j) im (n + 1) (nI i) (shB im st (104 * j) i) = f_X6_back_L25 f_X6_back_X54 (nI j) im n (nI (i + 1)) (shB im st (104 * j) (i + 1)) := fun n i _ hi => by
    rw [f_X6_back_L25, if_neg (show ¬ (104 : Int32) ≤ nI i from nI_ge (b := 104) hi (by decide)), ij, nI_add, if_neg (in_row (a := 104 * j + i) (by omega) (by decide)), if_neg (in_row hi (by decide)), nI_clamp (n := 104 * j + i) (by omega), nI_clamp (n := i) (by omega), shB_step, nI_1]
  have h := lp (fun n i => f_X6_back_L25 f_X6_back_X54 (nI j) im n (nI i) (shB im st (104 * j) i)) 104 hend 0 hst (by decide) (by decide)
  rw [shB_0] at h
  exact h
theorem t5_image (x : Int32) : f_X5_isImage x = tst 2 x := rfl
theorem op_keep (sc : Nat → Int32) (ar : Nat → Nat → Int32) (lg : Nat → Int64) (hR : Rel sc ar lg) (y1 : Int32) :
    ∃ (q : Int32 × Int32 × Int32 × (Nat → Int32) × Int32 × (Nat → Int32) × Int32 × (Nat → Int32) × Int32 × (Nat → Int32) × Int32 × (Nat → Int32) × Int32 × (Nat → Int32) × Int32 × (Nat → Int32) × Int32 × (Nat → Int32)) (q' : Int32 × (Nat → Int32) × (Nat → Int32)), f_X5_keep (sc 0) (sc 9) (sc 10) (ar 4) (sc 11) (sc 12) (ar 5) (sc 13) (sc 14) (ar 6) (sc 15) (sc 16) (ar 7) (sc 17) (sc 18) (ar 8) (sc 19) (sc 20) (ar 9) (sc 21) (sc 22) (ar 10) (sc 23) (sc 24) (ar 11) (sc 26) (ar 12) (sc 28) (ar 13) (sc 30) (ar 14) (sc 32) (ar 15) y1 = some q ∧ f_X6_keep (ar 25) (ar 26) (ar 34) y1 = some q' ∧ q.1 = q'.1 ∧ Rel (uv (uv (uv (uv (uv (uv (uv (uv (uv sc 0 q.2.1) 10 q.2.2.1) 12 q.2.2.2.2.1) 14 q.2.2.2.2.2.2.1) 16 q.2.2.2.2.2.2.2.2.1) 18 q.2.2.2.2.2.2.2.2.2.2.1) 20 q.2.2.2.2.2.2.2.2.2.2.2.2.1) 22 q.2.2.2.2.2.2.2.2.2.2.2.2.2.2.1) 24 q.2.2.2.2.2.2.2.2.2.2.2.2.2.2.2.2.1) (uv (uv (uv (uv (uv (uv (uv (uv (uv (uv ar 4 q.2.2.2.1) 5 q.2.2.2.2.2.1) 6 q.2.2.2.2.2.2.2.1) 7 q.2.2.2.2.2.2.2.2.2.1) 8 q.2.2.2.2.2.2.2.2.2.2.2.1) 9 q.2.2.2.2.2.2.2.2.2.2.2.2.2.1) 10 q.2.2.2.2.2.2.2.2.2.2.2.2.2.2.2.1) 11 q.2.2.2.2.2.2.2.2.2.2.2.2.2.2.2.2.2) 25 q'.2.1) 26 q'.2.2) lg := by
  obtain ⟨hM, hT, hTx, nD, nA, nS, nN, hD5, hDi, hAs, hSp, hNo, hNw, hK, hI0, hI1⟩ := id hR
  obtain ⟨hMt, nL, nG, nU, hLe, hLo, hUn⟩ := id hNw
  have l3 : ar 34 0 = nI nL := hLe.2.2.1
  have o9 : sc 9 = 12 := hM.2.2.2.2.1
  have o11 : sc 11 = 10 := hM.2.2.2.2.2.1
  have o13 : sc 13 = 5 := hM.2.2.2.2.2.2.1
  have o15 : sc 15 = 10 := hM.2.2.2.2.2.2.2.1
  have o17 : sc 17 = 12 := hM.2.2.2.2.2.2.2.2.1
  have o19 : sc 19 = 10 := hM.2.2.2.2.2.2.2.2.2.1
  have o21 : sc 21 = 5 := hM.2.2.2.2.2.2.2.2.2.2.1
  have o23 : sc 23 = 10 := hM.2.2.2.2.2.2.2.2.2.2.2.1
  have hNw0 : RNow (nI nD) (ar 14) (nI nL) (ar 12) (nI nG) (ar 13) (nI nU) (ar 15) (ar 34) 0 nD nA := ⟨⟨rfl, hMt.2⟩, nL, nG, nU, ⟨rfl, hLe.2⟩, ⟨rfl, hLo.2⟩, ⟨rfl, hUn.2⟩⟩
  unfold f_X5_keep
  rw [t5_image]
  rcases tst_or (n := 2) (by decide) y1 with h | ⟨h, j, hj, rfl⟩
  · have h6 : f_X6_keep (ar 25) (ar 26) (ar 34) y1 = some (-1, ar 25, ar 26) := by unfold f_X6_keep; rw [t6_in1, if_pos h]
    rw [if_pos h, h6]
    exact ⟨_, _, rfl, rfl, rfl, hM, hT, hTx, nD, nA, nS, nN, hD5, hDi, hAs, hSp, hNo, hNw, hK, hI0, hI1⟩
  rw [if_neg (tst_ne hj (by decide)), e_keep6 hj, hMt.1, hLe.1, hLo.1, hUn.1, o9, o11, o13, o15, o17, o19, o21, o23, e_copyNow hD5 hLe.2.1 hLo.2.1 hUn.2.1, e_copyNow hD5 hLe.2.1 hLo.2.1 hUn.2.1]
  rcases (show j = 0 ∨ j = 1 by omega) with rfl | rfl
  · rw [if_pos (by decide), Option.bind_some]
    refine ⟨_, _, rfl, rfl, l3.symm, hM, hT, hTx, nD, nA, nS, nN, hD5, hDi, hAs, hSp, hNo, hNw, ?_, fun _ => ?_, fun hk => ?_⟩
    · show ((upd (ar 26) 0 1 0 = 0 ∧ upd (ar 26) 0 1 1 = 0 ∧ sc 0 ||| ((1 : Int32) <<< (nI 0 &&& 31)) = 0) ∨ (upd (ar 26) 0 1 0 = 1 ∧ upd (ar 26) 0 1 1 = 0 ∧ sc 0 ||| ((1 : Int32) <<< (nI 0 &&& 31)) = 1) ∨ (upd (ar 26) 0 1 0 = 0 ∧ upd (ar 26) 0 1 1 = 1 ∧ sc 0 ||| ((1 : Int32) <<< (nI 0 &&& 31)) = 2) ∨ (upd (ar 26) 0 1 0 = 1 ∧ upd (ar 26) 0 1 1 = 1 ∧ sc 0 ||| ((1 : Int32) <<< (nI 0 &&& 31)) = 3))
      rw [pk_us, pk_un (by decide)]
      rcases hK with ⟨a, b, c⟩ | ⟨a, b, c⟩ | ⟨a, b, c⟩ | ⟨a, b, c⟩
      · rw [b, c]; exact Or.inr (Or.inl ⟨rfl, rfl, by decide⟩)
      · rw [b, c]; exact Or.inr (Or.inl ⟨rfl, rfl, by decide⟩)
      · rw [b, c]; exact Or.inr (Or.inr (Or.inr ⟨rfl, rfl, by decide⟩))
      · rw [b, c]; exact Or.inr (Or.inr (Or.inr ⟨rfl, rfl, by decide⟩))
    · exact RNow_c (RNow_k hNw0 hD5 (fun k h => cpC_in h) (fun k h => cpC_in h) (fun k h => cpC_in h) (fun k h => cpC_in h)) hD5 fun k hk => by
        show shI (ar 25) (ar 34) (104 * 0) 104 (0 + k) = ar 34 (0 + k)
        simp only [shI]
        rw [if_pos (by omega), show 0 + k - 104 * 0 = 0 + k by omega]
    · have hk1 : ar 26 1 = 1 := by
        have e : upd (ar 26) 0 1 1 = ar 26 1 := pk_un (by decide)
        exact e.symm.trans hk
      exact RNow_c (hI1 hk1) hD5 fun k hk => by
        show shI (ar 25) (ar 34) (104 * 0) 104 (104 + k) = ar 25 (104 + k)
        simp only [shI]
        rw [if_neg (by omega)]
  · rw [if_neg (by decide), Option.bind_some]
    refine ⟨_, _, rfl, rfl, l3.symm, hM, hT, hTx, nD, nA, nS, nN, hD5, hDi, hAs, hSp, hNo, hNw, ?_, fun hk => ?_, fun _ => ?_⟩
    · show ((upd (ar 26) 1 1 0 = 0 ∧ upd (ar 26) 1 1 1 = 0 ∧ sc 0 ||| ((1 : Int32) <<< (nI 1 &&& 31)) = 0) ∨ (upd (ar 26) 1 1 0 = 1 ∧ upd (ar 26) 1 1 1 = 0 ∧ sc 0 ||| ((1 : Int32) <<< (nI 1 &&& 31)) = 1) ∨ (upd (ar 26) 1 1 0 = 0 ∧ upd (ar 26) 1 1 1 = 1 ∧ sc 0 ||| ((1 : Int32) <<< (nI 1 &&& 31)) = 2) ∨ (upd (ar 26) 1 1 0 = 1 ∧ upd (ar 26) 1 1 1 = 1 ∧ sc 0 ||| ((1 : Int32) <<< (nI 1 &&& 31)) = 3))
      rw [pk_us, pk_un (by decide)]
      rcases hK with ⟨a, b, c⟩ | ⟨a, b, c⟩ | ⟨a, b, c⟩ | ⟨a, b, c⟩
      · rw [a, c]; exact Or.inr (Or.inr (Or.inl ⟨rfl, rfl, by decide⟩))
      · rw [a, c]; exact Or.inr (Or.inr (Or.inr ⟨rfl, rfl, by decide⟩))
      · rw [a, c]; exact Or.inr (Or.inr (Or.inl ⟨rfl, rfl, by decide⟩))
      · rw [a, c]; exact Or.inr (Or.inr (Or.inr ⟨rfl, rfl, by decide⟩))
    · have hk0 : ar 26 0 = 1 := by
        have e : upd (ar 26) 1 1 0 = ar 26 0 := pk_un (by decide)
        exact e.symm.trans hk
      exact RNow_c (hI0 hk0) hD5 fun k hk => by
        show shI (ar 25) (ar 34) (104 * 1) 104 (0 + k) = ar 25 (0 + k)
        simp only [shI]
        rw [if_neg (by omega)]
    · exact RNow_c (RNow_k hNw0 hD5 (fun k h => cpC_in h) (fun k h => cpC_in h) (fun k h => cpC_in h) (fun k h => cpC_in h)) hD5 fun k hk => by
        show shI (ar 25) (ar 34) (104 * 1) 104 (104 + k) = ar 34 (0 + k)
        simp only [shI]
        rw [if_pos (by omega), show 104 + k - 104 * 1 = 0 + k by omega]
theorem op_back (sc : Nat → Int32) (ar : Nat → Nat → Int32) (lg : Nat → Int64) (hR : Rel sc ar lg) (y1 : Int32) :
    ∃ (q : Int32 × Int32 × (Nat → Int32) × Int32 × (Nat → Int32) × Int32 × (Nat → Int32) × Int32 × (Nat → Int32)) (q' : Int32 × (Nat → Int32)), f_X5_back (sc 0) (sc 10) (ar 4) (sc 12) (ar 5) (sc 14) (ar 6) (sc 16) (ar 7) (sc 18) (ar 8) (sc 20) (ar 9) (sc 22) (ar 10) (sc 24) (ar 11) (sc 25) (sc 26) (ar 12) (sc 27) (sc 28) (ar 13) (sc 29) (sc 30) (ar 14) (sc 31) (sc 32) (ar 15) y1 = some q ∧ f_X6_back (ar 25) (ar 26) (ar 34) y1 = some q' ∧ q.1 = q'.1 ∧ Rel (uv (uv (uv (uv sc 26 q.2.1) 28 q.2.2.2.1) 30 q.2.2.2.2.2.1) 32 q.2.2.2.2.2.2.2.1) (uv (uv (uv (uv (uv ar 12 q.2.2.1) 13 q.2.2.2.2.1) 14 q.2.2.2.2.2.2.1) 15 q.2.2.2.2.2.2.2.2) 34 q'.2) lg := by
  obtain ⟨hM, hT, hTx, nD, nA, nS, nN, hD5, hDi, hAs, hSp, hNo, hNw, hK, hI0, hI1⟩ := id hR
  have o25 : sc 25 = 12 := hM.2.2.2.2.2.2.2.2.2.2.2.2.1
  have o27 : sc 27 = 10 := hM.2.2.2.2.2.2.2.2.2.2.2.2.2.1
  have o29 : sc 29 = 5 := hM.2.2.2.2.2.2.2.2.2.2.2.2.2.2.1
  have o31 : sc 31 = 10 := hM.2.2.2.2.2.2.2.2.2.2.2.2.2.2.2.1
  unfold f_X5_back
  rw [t5_image]
  have nochange : ∀ v : Int32, f_X6_back (ar 25) (ar 26) (ar 34) y1 = some (v, ar 34) → ∃ (q : Int32 × Int32 × (Nat → Int32) × Int32 × (Nat → Int32) × Int32 × (Nat → Int32) × Int32 × (Nat → Int32)) (q' : Int32 × (Nat → Int32)), some (v, sc 26, ar 12, sc 28, ar 13, sc 30, ar 14, sc 32, ar 15) = some q ∧ f_X6_back (ar 25) (ar 26) (ar 34) y1 = some q' ∧ q.1 = q'.1 ∧ Rel (uv (uv (uv (uv sc 26 q.2.1) 28 q.2.2.2.1) 30 q.2.2.2.2.2.1) 32 q.2.2.2.2.2.2.2.1) (uv (uv (uv (uv (uv ar 12 q.2.2.1) 13 q.2.2.2.2.1) 14 q.2.2.2.2.2.2.1) 15 q.2.2.2.2.2.2.2.2) 34 q'.2) lg := fun v h6 => by
    rw [h6]
    exact ⟨_, _, rfl, rfl, rfl, hM, hT, hTx, nD, nA, nS, nN, hD5, hDi, hAs, hSp, hNo, hNw, hK, hI0, hI1⟩
  rcases tst_or (n := 2) (by decide) y1 with h | ⟨h, j, hj, rfl⟩
  · rw [if_pos h]
    exact nochange _ (by unfold f_X6_back; rw [t6_in1, if_pos h])
  rw [if_neg (tst_ne hj (by decide))]
  have hb : f_X5_hasBit (sc 0) (nI j) = if ar 26 j = 0 then 0 else 1 := by
    rcases (show j = 0 ∨ j = 1 by omega) with rfl | rfl
    · rcases hK with ⟨a, b, c⟩ | ⟨a, b, c⟩ | ⟨a, b, c⟩ | ⟨a, b, c⟩ <;> (rw [a, c]; decide)
    · rcases hK with ⟨a, b, c⟩ | ⟨a, b, c⟩ | ⟨a, b, c⟩ | ⟨a, b, c⟩ <;> (rw [b, c]; decide)
  rw [hb]
  by_cases hk : ar 26 j = 0
  · rw [if_pos hk, if_pos e00]
    exact nochange _ (by unfold f_X6_back; rw [t6_in1, if_neg (tst_ne hj (by decide)), if_neg (in_row hj (by decide)), nI_clamp (n := j) (by omega), if_pos hk])
  rw [if_neg hk, if_neg n10, e_back6 hj hk, o25, o27, o29, o31]
  rcases (show j = 0 ∨ j = 1 by omega) with rfl | rfl
  · have h1 : ar 26 0 = 1 := by
      rcases hK with ⟨a, b, c⟩ | ⟨a, b, c⟩ | ⟨a, b, c⟩ | ⟨a, b, c⟩
      · exact absurd a hk
      · exact a
      · exact absurd a hk
      · exact a
    obtain ⟨hMt, nL, nG, nU, hLe, hLo, hUn⟩ := hI0 h1
    have hN0 : RNow (nI nD) (ar 10) (nI nL) (ar 8) (nI nG) (ar 9) (nI nU) (ar 11) (ar 25) 0 nD nA := ⟨⟨rfl, hMt.2⟩, nL, nG, nU, ⟨rfl, hLe.2⟩, ⟨rfl, hLo.2⟩, ⟨rfl, hUn.2⟩⟩
    rw [if_pos (by decide), hMt.1, hLe.1, hLo.1, hUn.1, e_copyNow hD5 hLe.2.1 hLo.2.1 hUn.2.1, Option.bind_some]
    have hNow : RNow (nI nD) (cpC (ar 10) (ar 14) 48) (nI nL) (cpC (ar 8) (ar 12) 48) (nI nG) (cpC (ar 9) (ar 13) 48) (nI nU) (cpC (ar 11) (ar 15) 48) (shB (ar 25) (ar 34) (104 * 0) 104) 0 nD nA :=
      RNow_c (RNow_k hN0 hD5 (fun k h => cpC_in h) (fun k h => cpC_in h) (fun k h => cpC_in h) (fun k h => cpC_in h)) hD5 fun k hk => by rw [shB_in (by omega), show 104 * 0 + (0 + k) = 0 + k by omega]
    exact ⟨_, _, rfl, rfl, hLe.2.2.1.symm, hM, hT, hTx, nD, nA, nS, nN, hD5, hDi, hAs, hSp, hNo, hNow, hK, hI0, hI1⟩
  · have h1 : ar 26 1 = 1 := by
      rcases hK with ⟨a, b, c⟩ | ⟨a, b, c⟩ | ⟨a, b, c⟩ | ⟨a, b, c⟩
      · exact absurd b hk
      · exact absurd b hk
      · exact b
      · exact b
    obtain ⟨hMt, nL, nG, nU, hLe, hLo, hUn⟩ := hI1 h1
    have hN0 : RNow (nI nD) (ar 6) (nI nL) (ar 4) (nI nG) (ar 5) (nI nU) (ar 7) (ar 25) 104 nD nA := ⟨⟨rfl, hMt.2⟩, nL, nG, nU, ⟨rfl, hLe.2⟩, ⟨rfl, hLo.2⟩, ⟨rfl, hUn.2⟩⟩
    rw [if_neg (by decide), hMt.1, hLe.1, hLo.1, hUn.1, e_copyNow hD5 hLe.2.1 hLo.2.1 hUn.2.1, Option.bind_some]
    have hNow : RNow (nI nD) (cpC (ar 6) (ar 14) 48) (nI nL) (cpC (ar 4) (ar 12) 48) (nI nG) (cpC (ar 5) (ar 13) 48) (nI nU) (cpC (ar 7) (ar 15) 48) (shB (ar 25) (ar 34) (104 * 1) 104) 0 nD nA :=
      RNow_c (RNow_k hN0 hD5 (fun k h => cpC_in h) (fun k h => cpC_in h) (fun k h => cpC_in h) (fun k h => cpC_in h)) hD5 fun k hk => by rw [shB_in (by omega), show 104 * 1 + (0 + k) = 104 + k by omega]
    exact ⟨_, _, rfl, rfl, hLe.2.2.1.symm, hM, hT, hTx, nD, nA, nS, nN, hD5, hDi, hAs, hSp, hNo, hNow, hK, hI0, hI1⟩
